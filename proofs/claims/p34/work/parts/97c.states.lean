/-! STATES OF THE HUT AS THE LAW SEES THEM: a row of numbers, how many states the history has, what undoing gives back -/
theorem wl_md {E : HE} {hs : Nat → HV} {tp md md' : HV} : wl E hs tp md = wl E hs tp md' := by
  unfold wl
  refine List.map_congr_left fun k hk => ?_
  have hk := List.mem_range.mp hk
  have e : cellE E hs tp md k = cellE E hs tp md' k := by
    unfold cellE
    by_cases h : k < 119
    · rw [if_pos h, if_pos h]
    · rw [if_neg h, if_neg h, if_pos hk, if_pos hk]
  rw [e]
theorem Wd_md {E : HE} {hs : Nat → HV} {tp md md' : HV} : Wd E hs tp md = Wd E hs tp md' := by
  funext U; unfold Wd; rw [wl_md (md' := md')]
theorem Mt.md {y : MethodName} {cy : ByteArray} {ny k : Nat} {ret : Option FieldType} {E : HE} {args : List Value} {hs hs' : Nat → HV} {tp tp' md md' : HV} {v : Option Value} (h : Mt y cy ny ret k E args hs tp md v hs' tp' md') {a b : HV} : Mt y cy ny ret k E args hs tp a v hs' tp' b := by
  intro l
  have z := h l
  have e : QR E v hs' tp' md' = QR E v hs' tp' b := by
    unfold QR; rw [Wd_md (md' := b)]
  rw [Wd_md (md' := a), e] at z
  exact z
def HLS (hs : Nat → HV) (tp : HV) (r : Int → Int) (k : Int) : Prop := ∃ md, SIM hs tp md ∧ md 1 = r ∧ md 0 6 = k
def HLU (hs : Nat → HV) (tp : HV) (r : Int → Int) (k : Int) (r0 : Int → Int) : Prop := ∃ md, SIM hs tp md ∧ md 1 = r ∧ md 0 6 = k ∧ 1 ≤ k ∧ ∀ i, 0 ≤ i → i < 2739 → md 4 (2739 * (k - 1) + i) = r0 i
def HLX (hs : Nat → HV) (tp : HV) (r : Int → Int) (k : Int) (n : Int) (f : Int → Int) : Prop := ∃ md, SIM hs tp md ∧ md 1 = r ∧ md 0 6 = k ∧ md 0 7 = n ∧ ∀ i, 0 ≤ i → i < n → md 5 i = f i
abbrev kR (k : Int) : Int := if k = 4 then 4 else k + 1
section LSS
variable {hs : Nat → HV} {tp md : HV} {r r0 f : Int → Int} {k n : Int}
theorem HLU.ls (h : HLU hs tp r k r0) : HLS hs tp r k := by
  obtain ⟨md, S, e1, e2, -⟩ := h; exact ⟨md, S, e1, e2⟩
theorem HLX.ls (h : HLX hs tp r k n f) : HLS hs tp r k := by
  obtain ⟨md, S, e1, e2, -⟩ := h; exact ⟨md, S, e1, e2⟩
/-- the row may be any that is the same at its places -/
theorem SIM.row1 (S : SIM hs tp md) {q : Int → Int} (e : ∀ i, 0 ≤ i → i < 2739 → q i = md 1 i) : SIM hs tp (upr md 1 q) := by
  obtain ⟨s1, s2, s3, s7, s10⟩ := S
  exact ⟨s1, s2.cg e, s3, s7, s10⟩
theorem HLS.cg (h : HLS hs tp r k) {q : Int → Int} (e : ∀ i, 0 ≤ i → i < 2739 → q i = r i) : HLS hs tp q k := by
  obtain ⟨md, S, e1, e2⟩ := h
  subst e1
  exact ⟨upr md 1 q, S.row1 e, upr_same, e2⟩
theorem HLU.cg (h : HLU hs tp r k r0) {q q0 : Int → Int} (e : ∀ i, 0 ≤ i → i < 2739 → q i = r i) (e0 : ∀ i, 0 ≤ i → i < 2739 → q0 i = r0 i) : HLU hs tp q k q0 := by
  obtain ⟨md, S, e1, e2, e3, e4⟩ := h
  subst e1
  exact ⟨upr md 1 q, S.row1 e, upr_same, e2, e3, fun i a b => by rw [e0 i a b]; exact e4 i a b⟩
theorem HLS.sim (h : HLS hs tp r k) : ∃ md, SIM hs tp md ∧ md 1 = r ∧ md 0 6 = k := h
theorem HLS.ps (h : HLS hs tp r k) : ∃ t, t ≤ 999 ∧ PS t (hs 0) r := by
  obtain ⟨md, S, e1, e2⟩ := h
  subst e1
  exact S.2.1
theorem HLS.mr (h : HLS hs tp r k) : MR 200000 r := by
  obtain ⟨md, S, e1, e2⟩ := h
  subst e1; exact S.mr
theorem HLS.day (h : HLS hs tp r k) : 0 ≤ r 0 ∧ r 0 ≤ 999 := by
  obtain ⟨t, t1, P⟩ := h.ps
  have := P.day; have := P.1; omega
theorem HLS.k0 (h : HLS hs tp r k) : 0 ≤ k ∧ k ≤ 4 := by
  obtain ⟨md, S, e1, e2⟩ := h
  subst e2; exact S.k0
theorem HLS.beds (h : HLS hs tp r k) {d : Int} (d0 : r 0 ≤ d) (d1 : d ≤ 999) : mTk r d ≤ r 17 := by
  obtain ⟨t, t1, P⟩ := h.ps
  have e := P.day
  have b := P.2.2.2.2.2.2.2 d (by omega) d1
  have s : hs 0 1 0 = r 17 := P.2.2.2.2.1.1.1 0 (by decide) (by decide)
  rw [nBeds_eq (K' := 0) P.2.2.1 P.2.2.2.2.1.1 P.2.2.2.2.1.2.1 P.2.2.2.1.came.2, s] at b
  exact b
theorem mR0_6 : mR0 md 0 6 = if md 0 6 = 4 then 3 else md 0 6 := by
  unfold mR0; split
  · show up1 (md 0) 6 (md 0 6 - 1) 6 = 3
    rw [up1_same]; omega
  · rfl
theorem mRec_6 : mRec md r 0 6 = kR (md 0 6) := by
  show up1 (mR0 md 0) 6 (mR0 md 0 6 + 1) 6 = _
  rw [up1_same, mR0_6]; show (if md 0 6 = 4 then (3 : Int) else md 0 6) + 1 = if md 0 6 = 4 then 4 else md 0 6 + 1
  split <;> omega
theorem mRec_4 {i : Int} (i0 : 0 ≤ i) (i1 : i < 2739) : mRec md r 4 (2739 * (kR (md 0 6) - 1) + i) = r i := by
  have e : kR (md 0 6) - 1 = mR0 md 0 6 := by
    rw [mR0_6]; show (if md 0 6 = 4 then (4 : Int) else md 0 6 + 1) - 1 = _
    split <;> omega
  rw [e]
  show cpS r (mR0 md 4) (2739 * mR0 md 0 6) 2739 (2739 * mR0 md 0 6 + i) = r i
  unfold cpS
  rw [if_pos (by omega), show 2739 * mR0 md 0 6 + i - 2739 * mR0 md 0 6 = i by omega]
/-! what an act answers, and the row behind it (none: nothing is done) -/
abbrev ZR : Type := Int × Option (Int → Int)
def zRes (md : HV) (r : Int → Int) (z : ZR) : OPM := match z.2 with
  | none => mNo md r z.1
  | some g => mGo md r z.1 g
def AR (z : ZR) (r : Int → Int) (k : Int) (v : Int) (hs : Nat → HV) (tp : HV) : Prop := v = z.1 ∧ match z.2 with
  | none => HLS hs tp r k
  | some g => HLU hs tp g (kR k) r
theorem HLS.m1 {g : Int → Int} (h : SIM hs tp (upr md 1 g)) : HLS hs tp g (md 0 6) := ⟨_, h, upr_same, rfl⟩
theorem kR_1 {k : Int} (h : 0 ≤ k) : 1 ≤ kR k := by unfold kR; split <;> omega
theorem AR.of {x : OP} {z : ZR} (S : SIM hs tp md) (h : AG x (zRes md (md 1) z)) : AR z (md 1) (md 0 6) x.1 x.2.1 x.2.2 := by
  obtain ⟨v, g⟩ := z
  have k0 := S.k0
  cases g with
  | none =>
    have h2 : SIM x.2.1 x.2.2 (upr md 1 (md 1)) := h.2
    exact ⟨h.1, _, h2, upr_same, rfl⟩
  | some g =>
    have h2 : SIM x.2.1 x.2.2 (upr (mRec md (md 1)) 1 g) := h.2
    exact ⟨h.1, _, h2, upr_same, mRec_6 (r := md 1), kR_1 k0.1, fun i a b => mRec_4 a b⟩
end LSS
def zBook (r : Int → Int) (a n p : Int) : ZR := if mErr r a n p < 0 then (mErr r a n p, none) else (r 1, some (mAdd r a n p))
def zCancel (r : Int → Int) (b : Int) : ZR := if mRefd r b < 0 then (mRefd r b, none) else (mRefd r b, some (mCan r b (mRefd r b)))
def zExtend (r : Int → Int) (b n : Int) : ZR := if ¬ (0 ≤ b ∧ b ≤ r 1 - 1) then (-1000001, none) else if ¬ (1 ≤ n ∧ n ≤ 9) then (-1000002, none) else
  if ¬ (r (51 + 7 * b + 0) = 1 ∧ r 0 ≤ mEnd r b ∧ r (51 + 7 * b + 2) + n ≤ 9 ∧ mFits r (mEnd r b) (mEnd r b + n) (r (51 + 7 * b + 3))) then (-1000004, none) else (mEnd r b + n, some (up1 r (51 + 7 * b + 2) (r (51 + 7 * b + 2) + n)))
def zWeather (r : Int → Int) (x y w : Int) : ZR := if ¬ (r 0 ≤ x ∧ x ≤ 999) ∨ ¬ (x ≤ y ∧ y ≤ 999) ∨ ¬ (0 ≤ w ∧ w ≤ 7) then (-1000002, none) else
  if sumI (fun q => mOth r w (x + q)) (y + 1 - x) = 0 then (-1000005, none) else (sumI (fun q => mOth r w (x + q)) (y + 1 - x), some (mWs r x (y + 1) w))
def zOrder (r : Int → Int) (k w : Int) : ZR := if ¬ (0 ≤ k ∧ k ≤ 1) ∨ ¬ (1 ≤ w ∧ w ≤ 99) then (-1000002, none) else if r 3 = 12 then (-1000003, none) else (r 3 + 1, some (mOrd r k w))
def zRecall (r : Int → Int) : ZR := if r 3 = 0 then (-1000005, none) else (r (39 + r 3 - 1), some (mDrop r (r 3 - 1)))
def zFlight (r : Int → Int) (x : Int) : ZR := if r 4 = x then (-1000005, none) else (r 5, some (up1 r 4 x))
def zPass (r : Int → Int) (n : Int) : ZR := if ¬ (1 ≤ n ∧ n ≤ 30) then (-1000002, none) else if 999 < r 0 + n then (-1000003, none) else (mPasI r n 0, some (mPasI r n))
def zSet (r : Int → Int) (k w : Int) : ZR := if ¬ (0 ≤ k ∧ k ≤ 9) ∨ ¬ ((if k = 0 ∨ k = 5 then 1 else 0) ≤ w ∧ w ≤ mMost k) then (-1000002, none) else if r (17 + k) = w then (-1000005, none) else
  if k = 0 ∧ ¬ allI (fun q => decide (mTk r (r 0 + q) ≤ w)) (1000 - r 0) = true then (-1000004, none) else (r (17 + k), some (up1 r (17 + k) w))
def zAll (r : Int → Int) (a n p : Int) : ZR := if mErr r a n p < 0 then (mErr r a n p, none) else (1, some (mAdd r a n p))
section CALLS
variable {hs : Nat → HV} {tp : HV} {r r0 f : Int → Int} {k : Int} {E : HE}
theorem l_book (hE : HI E) (S : HLS hs tp r k) {a n p : Int} (a0 : IR a) (n0 : IR n) (p0 : IR p) : ∃ v hs' tp', Mt yX6_book cX6_book 5 (some .int) 6 E [.ref (tA E 0), vI a, vI n, vI p] hs tp zM (some (vI v)) hs' tp' zM ∧ AR (zBook r a n p) r k v hs' tp' := by
  obtain ⟨md, S, rfl, rfl⟩ := S
  have e : yBook md (md 1) a n p = zRes md (md 1) (zBook (md 1) a n p) := by
    unfold yBook zBook; repeat' split
    all_goals rfl
  have h := sim_book S (a := a) (n := n) (p := p)
  rw [e] at h
  exact ⟨_, _, _, (m_X6_book (md := zM) hE S.r0 S.sg a0 n0 p0), AR.of S h⟩
theorem l_cancel (hE : HI E) (S : HLS hs tp r k) {b : Int} (b0 : IR b) : ∃ v hs' tp', Mt yX6_cancel cX6_cancel 3 (some .int) 5 E [.ref (tA E 0), vI b] hs tp zM (some (vI v)) hs' tp' zM ∧ AR (zCancel r b) r k v hs' tp' := by
  obtain ⟨md, S, rfl, rfl⟩ := S
  have e : yCancel md (md 1) b = zRes md (md 1) (zCancel (md 1) b) := by
    unfold yCancel zCancel; repeat' split
    all_goals rfl
  have h := sim_cancel S (b := b)
  rw [e] at h
  exact ⟨_, _, _, (m_X6_cancel (md := zM) hE S.r0 S.sg b0), AR.of S h⟩
theorem l_extend (hE : HI E) (S : HLS hs tp r k) {b n : Int} (b0 : IR b) (n0 : IR n) : ∃ v hs' tp', Mt yX6_extend cX6_extend 3 (some .int) 6 E [.ref (tA E 0), vI b, vI n] hs tp zM (some (vI v)) hs' tp' zM ∧ AR (zExtend r b n) r k v hs' tp' := by
  obtain ⟨md, S, rfl, rfl⟩ := S
  have e : yExtend md (md 1) b n = zRes md (md 1) (zExtend (md 1) b n) := by
    unfold yExtend zExtend; repeat' split
    all_goals rfl
  have h := sim_extend S (b := b) (n := n)
  rw [e] at h
  exact ⟨_, _, _, (m_X6_extend (md := zM) hE S.r0 S.sg b0 n0), AR.of S h⟩
theorem l_weather (hE : HI E) (S : HLS hs tp r k) {x y w : Int} (x0 : IR x) (y0 : IR y) (w0 : IR w) : ∃ v hs' tp', Mt yX6_weather cX6_weather 5 (some .int) 5 E [.ref (tA E 0), vI x, vI y, vI w] hs tp zM (some (vI v)) hs' tp' zM ∧ AR (zWeather r x y w) r k v hs' tp' := by
  obtain ⟨md, S, rfl, rfl⟩ := S
  have e : yWeather md (md 1) x y w = zRes md (md 1) (zWeather (md 1) x y w) := by
    unfold yWeather zWeather; repeat' split
    all_goals rfl
  have h := sim_weather S (x := x) (y := y) (w := w)
  rw [e] at h
  exact ⟨_, _, _, (m_X6_weather (md := zM) hE S.r0 S.sg x0 y0 w0), AR.of S h⟩
theorem l_order (hE : HI E) (S : HLS hs tp r k) {c w : Int} (c0 : IR c) (w0 : IR w) : ∃ v hs' tp', Mt yX6_order cX6_order 3 (some .int) 5 E [.ref (tA E 0), vI c, vI w] hs tp zM (some (vI v)) hs' tp' zM ∧ AR (zOrder r c w) r k v hs' tp' := by
  obtain ⟨md, S, rfl, rfl⟩ := S
  have e : yOrder md (md 1) c w = zRes md (md 1) (zOrder (md 1) c w) := by
    unfold yOrder zOrder; repeat' split
    all_goals rfl
  have h := sim_order S (k := c) (w := w)
  rw [e] at h
  exact ⟨_, _, _, (m_X6_order (md := zM) hE S.r0 S.sg c0 w0), AR.of S h⟩
theorem l_recall (hE : HI E) (S : HLS hs tp r k) : ∃ v hs' tp', Mt yX6_recall cX6_recall 1 (some .int) 5 E [.ref (tA E 0)] hs tp zM (some (vI v)) hs' tp' zM ∧ AR (zRecall r ) r k v hs' tp' := by
  obtain ⟨md, S, rfl, rfl⟩ := S
  have e : yRecall md (md 1)  = zRes md (md 1) (zRecall (md 1) ) := by
    unfold yRecall zRecall; repeat' split
    all_goals rfl
  have h := sim_recall S
  rw [e] at h
  exact ⟨_, _, _, (m_X6_recall (md := zM) hE S.r0 S.sg), AR.of S h⟩
theorem l_flight (hE : HI E) (S : HLS hs tp r k) {x : Int} (x0 : x = 0 ∨ x = 1) : ∃ v hs' tp', Mt yX6_flight cX6_flight 2 (some .int) 5 E [.ref (tA E 0), vI x] hs tp zM (some (vI v)) hs' tp' zM ∧ AR (zFlight r x) r k v hs' tp' := by
  obtain ⟨md, S, rfl, rfl⟩ := S
  have e : yFlight md (md 1) x = zRes md (md 1) (zFlight (md 1) x) := by
    unfold yFlight zFlight; repeat' split
    all_goals rfl
  have h := sim_flight S x0
  rw [e] at h
  exact ⟨_, _, _, (m_X6_flight (md := zM) hE S.r0 S.sg x0), AR.of S h⟩
theorem l_pass (hE : HI E) (S : HLS hs tp r k) {n : Int} (n0 : IR n) : ∃ v hs' tp', Mt yX6_pass cX6_pass 3 (some .int) 7 E [.ref (tA E 0), vI n] hs tp zM (some (vI v)) hs' tp' zM ∧ AR (zPass r n) r k v hs' tp' := by
  obtain ⟨md, S, rfl, rfl⟩ := S
  have e : yPass md (md 1) n = zRes md (md 1) (zPass (md 1) n) := by
    unfold yPass zPass; repeat' split
    all_goals rfl
  have h := sim_pass S (n := n)
  rw [e] at h
  exact ⟨_, _, _, (m_X6_pass (md := zM) hE S.r0 S.sg n0 (by decide)), AR.of S h⟩
theorem l_set (hE : HI E) (S : HLS hs tp r k) {c w : Int} (c0 : IR c) (w0 : IR w) : ∃ v hs' tp', Mt yX6_set cX6_set 4 (some .int) 5 E [.ref (tA E 0), vI c, vI w] hs tp zM (some (vI v)) hs' tp' zM ∧ AR (zSet r c w) r k v hs' tp' := by
  obtain ⟨md, S, rfl, rfl⟩ := S
  have e : ySet md (md 1) c w = zRes md (md 1) (zSet (md 1) c w) := by
    unfold ySet zSet; repeat' split
    all_goals rfl
  have h := sim_set S (k := c) (w := w)
  rw [e] at h
  exact ⟨_, _, _, (m_X6_set (md := zM) hE S.r0 S.sg c0 w0), AR.of S h⟩
/-! what is told -/
theorem cnt_md {md : HV} {w : Int} (h3 : w ≠ 23) (h4 : w ≠ 24) : yCount md r w = yCount zM r w := by
  unfold yCount; rw [if_neg h3, if_neg h3, if_neg h4, if_neg h4]
theorem l_count (hE : HI E) (S : HLS hs tp r k) {w : Int} (w0 : IR w) (h3 : w ≠ 23) (h4 : w ≠ 24) : Mt yX6_count cX6_count 2 (some .int) 2 E [.ref (tA E 0), vI w] hs tp zM (some (vI (yCount zM r w))) hs tp zM := by
  obtain ⟨md, S, rfl, rfl⟩ := S
  rw [← cnt_md (md := md) h3 h4, ← t_count S]
  exact (m_X6_count (md := zM) hE S.r0 w0)
theorem l_count23 (hE : HI E) (S : HLS hs tp r k) : Mt yX6_count cX6_count 2 (some .int) 2 E [.ref (tA E 0), vI 23] hs tp zM (some (vI k)) hs tp zM := by
  obtain ⟨md, S, rfl, rfl⟩ := S
  have e : yCount md (md 1) 23 = md 0 6 := rfl
  rw [← e, ← t_count S]
  exact (m_X6_count (md := zM) hE S.r0 ⟨by decide, by decide⟩)
theorem l_booking (hE : HI E) (S : HLS hs tp r k) {b w : Int} (b0 : IR b) (w0 : IR w) : Mt yX6_booking cX6_booking 4 (some .int) 4 E [.ref (tA E 0), vI b, vI w] hs tp zM (some (vI (yBooking r b w))) hs tp zM := by
  obtain ⟨md, S, rfl, rfl⟩ := S
  rw [← t_booking S]
  exact (m_X6_booking (md := zM) hE S.r0 b0 w0)
theorem l_day (hE : HI E) (S : HLS hs tp r k) {d w : Int} (d0 : IR d) (w0 : IR w) : Mt yX6_day cX6_day 3 (some .int) 4 E [.ref (tA E 0), vI d, vI w] hs tp zM (some (vI (yDay r d w))) hs tp zM := by
  obtain ⟨md, S, rfl, rfl⟩ := S
  rw [← t_day S]
  exact (m_X6_day (md := zM) hE S.r0 d0 w0)
theorem l_coins (hE : HI E) (S : HLS hs tp r k) {w : Int} (w0 : IR w) : Mt yX6_coins cX6_coins 2 (some .int) 3 E [.ref (tA E 0), vI w] hs tp zM (some (vI (yCoins r w))) hs tp zM := by
  obtain ⟨md, S, rfl, rfl⟩ := S
  rw [← t_coins S]
  exact (m_X6_coins (md := zM) hE S.r0 w0)
theorem l_refund (hE : HI E) (S : HLS hs tp r k) {b : Int} (b0 : IR b) : Mt yX6_refund cX6_refund 3 (some .int) 4 E [.ref (tA E 0), vI b] hs tp zM (some (vI (mRefd r b))) hs tp zM := by
  obtain ⟨md, S, rfl, rfl⟩ := S
  rw [← ans_refund S]
  exact (m_X6_refund (md := zM) hE S.r0 b0)
/-! what would be -/
theorem l_full (hE : HI E) (S : HLS hs tp r k) : ∃ tp', Mt yX6_fullest cX6_fullest 4 (some .int) 3 E [.ref (tA E 0)] hs tp zM (some (vI (yFull r))) hs tp' zM ∧ HLS hs tp' r k := by
  obtain ⟨md, S, rfl, rfl⟩ := S
  refine ⟨_, ?_, md, S.row, rfl, rfl⟩
  rw [← t_full S]
  exact (m_X6_fullest (md := zM) hE S.r0)
theorem l_first (hE : HI E) (S : HLS hs tp r k) {n p : Int} (n0 : IR n) (p0 : IR p) : ∃ hs' tp', Mt yX6_firstFree cX6_firstFree 6 (some .int) 3 E [.ref (tA E 0), vI n, vI p] hs tp zM (some (vI (yFirst r n p))) hs' tp' zM ∧ HLS hs' tp' r k := by
  obtain ⟨md, S, rfl, rfl⟩ := S
  have h := t_first S (n := n) (p := p)
  refine ⟨_, _, ?_, md, h.2, rfl, rfl⟩
  rw [← h.1]
  exact (m_X6_firstFree (md := zM) hE S.r0 n0 p0)
theorem bk0_row {md : HV} {q : Int → Int} {i : Int} (i0 : 0 ≤ i) (i1 : i < 2739) : mBk0 md r q 1 i = r i := by
  show cpI (mLay md r 3) q 2739 i = r i
  have e : mLay md r 3 = cpI r (md 3) 2739 := upr_same
  rw [e, cpI_in i0 i1, cpI_in i0 i1]
theorem l_hungry (hE : HI E) (S : HLS hs tp r k) : ∃ hs' tp', Mt yX6_hungryIn cX6_hungryIn 2 (some .int) 7 E [.ref (tA E 0)] hs tp zM (some (vI (if r 10 < (mHu r).2 10 then (mHu r).1 else -1000005))) hs' tp' zM ∧ HLS hs' tp' r k := by
  obtain ⟨md, S, rfl, rfl⟩ := S
  have h := sim_hungry S
  refine ⟨_, _, ?_, HLS.cg (r := mBk0 md (md 1) (mHu (md 1)).2 1) ⟨_, h.2, rfl, rfl⟩ fun i a b => (bk0_row a b).symm⟩
  have e : (if md 1 10 < (mHu (md 1)).2 10 then (mHu (md 1)).1 else -1000005) = (yHungry md (md 1)).1 := rfl
  rw [e, ← h.1]
  exact (m_X6_hungryIn (md := zM) hE S.r0 S.r1 (by decide) S.hd S.hu)
abbrev gV (r : Int → Int) (c n : Int) : Int := if ¬ (1 ≤ n ∧ n ≤ 60) then -1000002 else mPasI r n c - r c
theorem grow_ls {md : HV} {c n : Int} {hs' : Nat → HV} {tp' : HV} (h : SIM hs' tp' (yGrows md (md 1) c n).2) : (yGrows md (md 1) c n).1 = gV (md 1) c n ∧ HLS hs' tp' (md 1) (md 0 6) := by
  unfold yGrows at h ⊢
  by_cases c : ¬ (1 ≤ n ∧ n ≤ 60)
  · rw [if_pos c] at h ⊢
    exact ⟨(if_pos c).symm, HLS.m1 (md := md) h⟩
  · rw [if_neg c] at h ⊢
    exact ⟨(if_neg c).symm, HLS.cg ⟨_, h, rfl, rfl⟩ fun i a b => (bk0_row a b).symm⟩
theorem l_wanting (hE : HI E) (S : HLS hs tp r k) {n : Int} (n0 : IR n) : ∃ hs' tp', Mt yX6_wanting cX6_wanting 2 (some .int) 8 E [.ref (tA E 0), vI n] hs tp zM (some (vI (gV r 10 n))) hs' tp' zM ∧ HLS hs' tp' r k := by
  obtain ⟨md, S, rfl, rfl⟩ := S
  have h := sim_grow S (c := 5) (n := n) (by decide)
  have g := grow_ls h.2
  refine ⟨_, _, ?_, g.2⟩
  rw [show gV (md 1) 10 n = (xGrowOp hs tp 5 n).1 from (h.1.trans g.1).symm]
  exact (m_X6_wanting (md := zM) hE S.r0 S.r1 (by decide) S.hd n0)
theorem l_turned (hE : HI E) (S : HLS hs tp r k) {n : Int} (n0 : IR n) : ∃ hs' tp', Mt yX6_turnedAway cX6_turnedAway 2 (some .int) 8 E [.ref (tA E 0), vI n] hs tp zM (some (vI (gV r 13 n))) hs' tp' zM ∧ HLS hs' tp' r k := by
  obtain ⟨md, S, rfl, rfl⟩ := S
  have h := sim_grow S (c := 8) (n := n) (by decide)
  have g := grow_ls h.2
  refine ⟨_, _, ?_, g.2⟩
  rw [show gV (md 1) 13 n = (xGrowOp hs tp 8 n).1 from (h.1.trans g.1).symm]
  exact (m_X6_turnedAway (md := zM) hE S.r0 S.r1 (by decide) S.hd n0)
abbrev nV (r : Int → Int) (b : Int) : Int := if ¬ (0 ≤ b ∧ b ≤ r 1 - 1) then -1000001 else if 1 < r (51 + 7 * b + 0) then -1000004 else if (mGn r b).2 (51 + 7 * b + 0) = 2 then (mGn r b).1 else -1000005
theorem gone_ls {md : HV} {b : Int} {hs' : Nat → HV} {tp' : HV} (h : SIM hs' tp' (yGone md (md 1) b).2) : (yGone md (md 1) b).1 = nV (md 1) b ∧ HLS hs' tp' (md 1) (md 0 6) := by
  unfold yGone at h ⊢
  unfold nV
  by_cases c : ¬ (0 ≤ b ∧ b ≤ md 1 1 - 1)
  · rw [if_pos c] at h ⊢; rw [if_pos c]
    exact ⟨rfl, HLS.m1 (md := md) h⟩
  rw [if_neg c] at h ⊢; rw [if_neg c]
  by_cases d : 1 < md 1 (51 + 7 * b + 0)
  · rw [if_pos d] at h ⊢; rw [if_pos d]
    exact ⟨rfl, HLS.m1 (md := md) h⟩
  · rw [if_neg d] at h ⊢; rw [if_neg d]
    exact ⟨rfl, HLS.cg ⟨_, h, rfl, rfl⟩ fun i a b => (bk0_row a b).symm⟩
theorem l_gone (hE : HI E) (S : HLS hs tp r k) {b : Int} (b0 : IR b) : ∃ hs' tp', Mt yX6_goneIn cX6_goneIn 3 (some .int) 7 E [.ref (tA E 0), vI b] hs tp zM (some (vI (nV r b))) hs' tp' zM ∧ HLS hs' tp' r k := by
  obtain ⟨md, S, rfl, rfl⟩ := S
  have h := sim_gone S (b := b)
  have g := gone_ls h.2
  refine ⟨_, _, ?_, g.2⟩
  rw [show nV (md 1) b = (xGoneOp hs tp b).1 from (h.1.trans g.1).symm]
  exact (m_X6_goneIn (md := zM) hE S.r0 S.r1 (by decide) S.hd b0)
theorem mBc_x : ∀ (n : Nat) (d : Int) (md : HV) (g : Int → Int) (b m : Int), (mBc n d md g b m).2.1 0 = md 0 ∧ (∀ i, 0 ≤ i → i < 2739 → (mBc n d md g b m).2.2 i = g i) ∧ ((mBc n d md g b m).1 = b ∨ (d ≤ (mBc n d md g b m).1 ∧ (mBc n d md g b m).1 < d + n))
  | 0, d, md, g, b, m => ⟨rfl, fun _ _ _ => rfl, Or.inl rfl⟩
  | n + 1, d, md, g, b, m => by
    unfold mBc
    split
    · have z := mBc_x n (d + 1) (mLay md g) (mTb md g d) d (mTake g d)
      exact ⟨z.1, fun i a b => (z.2.1 i a b).trans (mTb_i a b), Or.inr (by have := z.2.2; omega)⟩
    · have z := mBc_x n (d + 1) (mLay md g) (mTb md g d) b m
      refine ⟨z.1, fun i a b => (z.2.1 i a b).trans (mTb_i a b), ?_⟩
      rcases z.2.2 with e | e
      · exact Or.inl e
      · exact Or.inr (by omega)
theorem l_best (hE : HI E) (S : HLS hs tp r k) : ∃ v hs' tp', Mt yX6_bestCall cX6_bestCall 6 (some .int) 6 E [.ref (tA E 0)] hs tp zM (some (vI v)) hs' tp' zM ∧ HLS hs' tp' r k ∧ (v = -1000005 ∨ (0 ≤ v ∧ v ≤ 30 ∧ r 4 ≠ 1)) := by
  obtain ⟨md, S, rfl, rfl⟩ := S
  have h := sim_best S
  refine ⟨_, _, _, (m_X6_bestCall (md := zM) hE S.r0 S.r1 (by decide) S.hd), ?_⟩
  rw [h.1]
  have h2 := h.2
  unfold yBest at h2 ⊢
  by_cases c : md 1 4 = 1
  · rw [if_pos c] at h2 ⊢
    exact ⟨HLS.m1 (md := md) h2, Or.inl rfl⟩
  · rw [if_neg c] at h2 ⊢
    have z := mBc_x 31 0 md (md 1) (-1000005) 0
    have h3 := HLS.m1 (md := (mBc 31 0 md (md 1) (-1000005) 0).2.1) (g := (mBc 31 0 md (md 1) (-1000005) 0).2.2) h2
    rw [z.1] at h3
    refine ⟨h3.cg fun i a b => (z.2.1 i a b).symm, ?_⟩
    · rcases z.2.2 with e | e
      · exact Or.inl e
      · exact Or.inr ⟨e.1, by have := e.2; omega, c⟩
theorem l_undo (hE : HI E) (S : HLU hs tp r k r0) : ∃ hs' tp', Mt yX6_undo cX6_undo 1 (some .int) 5 E [.ref (tA E 0)] hs tp zM (some (vI (k - 1))) hs' tp' zM ∧ HLS hs' tp' r0 (k - 1) := by
  obtain ⟨md, S, rfl, rfl, k1, hr⟩ := S
  have h := sim_undo S
  have c : ¬ md 0 6 = 0 := by omega
  have e : yUndo md (md 1) = (md 0 6 - 1, upr (mUn md) 1 (cpI (fun i => mUn md 4 (2739 * mUn md 0 6 + i)) (md 1) 2739)) := if_neg c
  rw [e] at h
  have h3 := HLS.m1 (md := mUn md) (g := cpI (fun i => mUn md 4 (2739 * mUn md 0 6 + i)) (md 1) 2739) h.2
  rw [mUn_k] at h3
  refine ⟨_, _, ?_, h3.cg fun i a b => ?_⟩
  · rw [show md 0 6 - 1 = (xUndo hs tp).1 from h.1.symm]
    exact (m_X6_undo (md := zM) hE S.r0 S.sg S.1)
  · rw [cpI_in a b]
    exact (hr i a b).symm
/-! the text -/
theorem l_clear (hE : HI E) (S : HLS hs tp r k) : ∃ v tp', Mt yX6_clearText cX6_clearText 2 (some .int) 1 E [.ref (tA E 0)] hs tp zM (some (vI v)) hs tp' zM ∧ HLX hs tp' r k 0 f := by
  obtain ⟨md, S, rfl, rfl⟩ := S
  have h := sim_clear S
  exact ⟨_, _, (m_X6_clearText (md := zM) hE), _, h.2, upr_same, rfl, show up1 (md 0) 7 0 7 = 0 from up1_same, fun i a b => by omega⟩
theorem l_type (hE : HI E) {n c : Int} (S : HLX hs tp r k n f) (n1 : 0 ≤ n ∧ n < 60) (c0 : 0 ≤ c ∧ c ≤ 65535) (hc : f n = c) : ∃ v tp', Mt yX6_type cX6_type 2 (some .int) 2 E [.ref (tA E 0), vI c] hs tp zM (some (vI v)) hs tp' zM ∧ HLX hs tp' r k (n + 1) f := by
  obtain ⟨md, S, rfl, rfl, rfl, hf⟩ := S
  have h := sim_type S c0
  have d : ¬ md 0 7 = 60 := by omega
  have e : yType md (md 1) c = (md 0 7 + 1, upr (upr (upr md 5 (up1 (md 5) (md 0 7) c)) 0 (up1 (md 0) 7 (md 0 7 + 1))) 1 (md 1)) := if_neg d
  rw [e] at h
  refine ⟨_, _, (m_X6_type (md := zM) hE S.tg c0), upr (upr (upr md 5 (up1 (md 5) (md 0 7) c)) 0 (up1 (md 0) 7 (md 0 7 + 1))) 1 (md 1), h.2, upr_same, rfl, show up1 (md 0) 7 (md 0 7 + 1) 7 = md 0 7 + 1 from up1_same, fun i a b => ?_⟩
  show up1 (md 5) (md 0 7) c i = f i
  by_cases q : i = md 0 7
  · subst q; rw [up1_same, hc]
  · rw [up1_ne q]; exact hf i a (by omega)
end CALLS
