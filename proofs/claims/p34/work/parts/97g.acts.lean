/-! WHAT AN ACT ANSWERS, and that the row behind it is as it should be -/
def ZOK (z : ZR) : Prop := match z.2 with
  | none => -1000005 ≤ z.1 ∧ z.1 < 0
  | some g => 0 ≤ z.1 ∧ z.1 ≤ 1000000 ∧ V (g 0) g
section ZOKS
variable {K : Int} {r : Int → Int}
theorem ZOK.n {v : Int} (h : -1000005 ≤ v ∧ v < 0) : ZOK (v, none) := h
theorem ZOK.s {v : Int} {g : Int → Int} (h : 0 ≤ v ∧ v ≤ 1000000) (w : V (g 0) g) : ZOK (v, some g) := ⟨h.1, h.2, w⟩
theorem mErr_lt {a n p : Int} (R : MR K r) (h : ¬ mErr r a n p < 0) : r 1 < 80 := by
  have := (mErr_0 (r := r) (a := a) (n := n) (p := p) (by omega)).2.2.2.2.2.2
  have := R.came; omega
theorem ok_book (R : MR K r) (h : V (r 0) r) {a n p : Int} : ZOK (zBook r a n p) := by
  have e := mErr_r (r := r) (a := a) (n := n) (p := p)
  have rc := R.came
  unfold zBook; split
  · rename_i c; exact ZOK.n ⟨by omega, c⟩
  · rename_i c; exact ZOK.s (by omega) (V_mAdd h rc.1 (mErr_lt R c))
theorem ok_all (R : MR K r) (h : V (r 0) r) {a n p : Int} : ZOK (zAll r a n p) := by
  have e := mErr_r (r := r) (a := a) (n := n) (p := p)
  have rc := R.came
  unfold zAll; split
  · rename_i c; exact ZOK.n ⟨by omega, c⟩
  · rename_i c; exact ZOK.s (by decide) (V_mAdd h rc.1 (mErr_lt R c))
theorem ok_cancel (R : MR K r) (h : V (r 0) r) {b : Int} : ZOK (zCancel r b) := by
  have e := mRefd_r R (b := b)
  have rc := R.came
  unfold zCancel; split
  · rename_i c; exact ZOK.n ⟨by omega, c⟩
  · rename_i c
    have q := mRefd_0 (r := r) (b := b) (by omega)
    exact ZOK.s (by omega) (V_mCan h rc.2 q.1 (by omega) q.2.2)
theorem ok_extend (R : MR K r) (h : V (r 0) r) {b n : Int} : ZOK (zExtend r b n) := by
  have rc := R.came
  unfold zExtend; split
  · exact ZOK.n (by decide)
  rename_i c1
  split
  · exact ZOK.n (by decide)
  rename_i c2
  split
  · exact ZOK.n (by decide)
  rename_i c3
  have c3 := Decidable.not_not.mp c3
  have ra := R.arr (b := b) (by omega) (by omega)
  have rn := R.nig (b := b) (by omega) (by omega)
  refine ZOK.s ?_ (V_mExt h rc.2 (by omega) (by omega) (by omega) c3.1)
  show 0 ≤ r (51 + 7 * b + 1) + r (51 + 7 * b + 2) + n ∧ r (51 + 7 * b + 1) + r (51 + 7 * b + 2) + n ≤ 1000000
  omega
theorem ok_weather (R : MR K r) (h : V (r 0) r) {x y w : Int} : ZOK (zWeather r x y w) := by
  have rc := R.came
  have rd := R.day
  unfold zWeather; split
  · exact ZOK.n (by decide)
  rename_i c1
  have s := sumI_le (f := fun q => mOth r w (x + q)) (lo := 0) (hi := 1) (i := y + 1 - x) (by omega) (fun k _ _ => by
    show 0 ≤ (if r (611 + (x + k)) = w then (0 : Int) else 1) ∧ (if r (611 + (x + k)) = w then (0 : Int) else 1) ≤ 1
    split <;> omega)
  split
  · exact ZOK.n (by decide)
  · exact ZOK.s (by omega) (V_mWs h rc.2 (by omega) (by omega))
theorem ok_order (R : MR K r) (h : V (r 0) r) {c w : Int} : ZOK (zOrder r c w) := by
  have rw0 := R.wait
  unfold zOrder; split
  · exact ZOK.n (by decide)
  split
  · exact ZOK.n (by decide)
  · exact ZOK.s (by omega) (V_mOrd h R.came.2 (by omega))
theorem ok_recall (R : MR K r) (h : V (r 0) r) : ZOK (zRecall r) := by
  have rw0 := R.wait
  unfold zRecall; split
  · exact ZOK.n (by decide)
  · have p := R.por (i := r 3 - 1) (by omega) (by omega)
    rw [show 39 + (r 3 - 1) = 39 + r 3 - 1 by omega] at p
    exact ZOK.s (by omega) (V_mDrp h R.came.2 (by omega) (by omega))
theorem ok_flight (R : MR K r) (h : V (r 0) r) (u : 0 ≤ r 5 ∧ r 5 ≤ 1000000) {x : Int} : ZOK (zFlight r x) := by
  unfold zFlight; split
  · exact ZOK.n (by decide)
  · exact ZOK.s u (V_up0 h R.came.2 (by unfold idl; omega) (by decide))
theorem ok_pass (R : MR K r) (h : V (r 0) r) {n : Int} : ZOK (zPass r n) := by
  have rd := R.day
  unfold zPass; split
  · exact ZOK.n (by decide)
  split
  · exact ZOK.n (by decide)
  · have e := (MR_pasI R (n := n) (by omega) (by omega)).2.1
    exact ZOK.s (by omega) (V_pasI R h (by omega) (by omega))
theorem ok_set (R : MR K r) (h : V (r 0) r) {c w : Int} : ZOK (zSet r c w) := by
  unfold zSet
  by_cases c1 : ¬ (0 ≤ c ∧ c ≤ 9) ∨ ¬ ((if c = 0 ∨ c = 5 then 1 else 0) ≤ w ∧ w ≤ mMost c)
  · rw [if_pos c1]; exact ZOK.n (by decide)
  rw [if_neg c1]
  by_cases c2 : r (17 + c) = w
  · rw [if_pos c2]; exact ZOK.n (by decide)
  rw [if_neg c2]
  by_cases c3 : c = 0 ∧ ¬ allI (fun q => decide (mTk r (r 0 + q) ≤ w)) (1000 - r 0) = true
  · rw [if_pos c3]; exact ZOK.n (by decide)
  · rw [if_neg c3]
    have p := R.set' (i := c) (by omega) (by omega)
    exact ZOK.s (by omega) (V_up0 h R.came.2 (by unfold idl; omega) (by omega))
end ZOKS
theorem HLS.u5 {hs : Nat → HV} {tp : HV} {r : Int → Int} {k : Int} (h : HLS hs tp r k) : 0 ≤ r 5 ∧ r 5 ≤ 1000000 := by
  obtain ⟨md, S, e1, e2⟩ := h
  subst e1; exact S.u5
/-! the law's own numbers -/
def lowF (v n : Int) : Int := (Int32.ofInt v &&& Int32.ofInt 2147483647).toInt % n
theorem mask_r (v : Int) : 0 ≤ (Int32.ofInt v &&& Int32.ofInt 2147483647).toInt ∧ (Int32.ofInt v &&& Int32.ofInt 2147483647).toInt ≤ 2147483647 := by
  have h1 : ((Int32.ofInt v).toBitVec &&& (Int32.ofInt 2147483647).toBitVec).toNat ≤ 2147483647 := by
    rw [BitVec.toNat_and]; exact Nat.and_le_right
  have e : (Int32.ofInt v &&& Int32.ofInt 2147483647).toInt = (((Int32.ofInt v).toBitVec &&& (Int32.ofInt 2147483647).toBitVec).toNat : Int) := by
    show ((Int32.ofInt v).toBitVec &&& (Int32.ofInt 2147483647).toBitVec).toInt = _
    exact BitVec.toInt_eq_toNat_of_lt (by omega)
  omega
theorem lowF_r {v n : Int} (h : 0 < n) : 0 ≤ lowF v n ∧ lowF v n < n := ⟨Int.emod_nonneg _ (by omega), Int.emod_lt_of_pos _ h⟩
