/-! THE CALLS, both sides -/
abbrev AG (x : OP) (y : OPM) : Prop := x.1 = y.1 ∧ SIM x.2.1 x.2.2 y.2
theorem SIM.no {hs : Nat → HV} {tp md : HV} (S : SIM hs tp md) {v w : Int} (e : v = w) : AG (v, hs, tp) (mNo md (md 1) w) := by
  rw [mNo_id]; exact ⟨e, S⟩
theorem SIM.go {hs : Nat → HV} {tp md : HV} (S : SIM hs tp md) {v w : Int} (e : v = w) {h' : HV} {r' : Int → Int} (P : PE h' r') : AG (v, putH (rH hs tp) 0 h', rT tp) (mGo md (md 1) w r') := ⟨e, S.rec P⟩
theorem sim_book {hs : Nat → HV} {tp md : HV} (S : SIM hs tp md) {a n p : Int} : AG (xBook hs tp a n p) (yBook md (md 1) a n p) := by
  obtain ⟨t, t1, P⟩ := S.2.1
  have e := ans_err P.2.2.1 P.2.2.2.1 P.2.2.2.2.1 (a := a) (n := n) (p := p)
  unfold xBook yBook
  by_cases c : bErr (hs 0) a n p = 0
  · rw [if_pos c, if_neg (by rw [← e, c]; decide)]
    exact S.go P.2.2.2.2.1.1.2.2.1 ⟨t, t1, P.add t1 c⟩
  · rw [if_neg c, if_pos (by rw [← e]; have := bErr_r (h := hs 0) (a := a) (n := n) (p := p); omega)]
    exact S.no e
theorem sim_cancel {hs : Nat → HV} {tp md : HV} (S : SIM hs tp md) {b : Int} : AG (xCancel hs tp b) (yCancel md (md 1) b) := by
  obtain ⟨t, t1, P⟩ := S.2.1
  have H := P.2.2.2.2.1
  have m := P.2.2.2.1.came
  have e1 : hs 0 3 7 = md 1 1 := H.1.2.2.1
  unfold xCancel yCancel xErr mRefd
  by_cases c : 0 ≤ b ∧ b < md 1 1
  · have z := H.2.1 b c.1 (by omega) c.2
    have er := ans_ref0 H P.2.2.2.1 c.1 c.2
    have rp := P.2.2.2.1.paid c.1 (show b < 80 by omega)
    have r0 : 0 ≤ mRef0 (md 1) b := by
      show 0 ≤ (if _ then _ else _ : Int); split <;> omega
    rw [if_neg (show ¬ ¬ (0 ≤ b ∧ b < hs 0 3 7) by omega), if_neg (show ¬ ¬ (0 ≤ b ∧ b ≤ md 1 1 - 1) by omega)]
    by_cases d : hs 0 4 b = 0
    · rw [if_pos d, if_pos rfl, if_pos (show md 1 (51 + 7 * b + 0) = 0 by rw [← z.1]; exact d), if_neg (show ¬ mRef0 (md 1) b < 0 by omega)]
      exact S.go er ⟨t, t1, P.cancel t1 c.1 c.2 d⟩
    · rw [if_neg d, if_neg (by decide), if_neg (show ¬ md 1 (51 + 7 * b + 0) = 0 by rw [← z.1]; exact d), if_pos (by decide)]
      exact S.no rfl
  · rw [if_pos (show ¬ (0 ≤ b ∧ b < hs 0 3 7) by omega), if_pos (show ¬ (0 ≤ b ∧ b ≤ md 1 1 - 1) by omega), if_neg (by decide), if_pos (by decide)]
    exact S.no rfl
theorem ans_refund {hs : Nat → HV} {tp md : HV} (S : SIM hs tp md) {b : Int} : xRefund (hs 0) b = mRefd (md 1) b := by
  obtain ⟨t, t1, P⟩ := S.2.1
  have H := P.2.2.2.2.1
  have m := P.2.2.2.1.came
  have e1 : hs 0 3 7 = md 1 1 := H.1.2.2.1
  unfold xRefund xErr mRefd
  by_cases c : 0 ≤ b ∧ b < md 1 1
  · have z := H.2.1 b c.1 (by omega) c.2
    rw [if_neg (show ¬ ¬ (0 ≤ b ∧ b < hs 0 3 7) by omega), if_neg (show ¬ ¬ (0 ≤ b ∧ b ≤ md 1 1 - 1) by omega)]
    by_cases d : hs 0 4 b = 0
    · rw [if_pos d, if_neg (by decide), if_pos (show md 1 (51 + 7 * b + 0) = 0 by rw [← z.1]; exact d)]
      exact ans_ref0 H P.2.2.2.1 c.1 c.2
    · rw [if_neg d, if_pos (by decide), if_neg (show ¬ md 1 (51 + 7 * b + 0) = 0 by rw [← z.1]; exact d)]
  · rw [if_pos (show ¬ (0 ≤ b ∧ b < hs 0 3 7) by omega), if_pos (show ¬ (0 ≤ b ∧ b ≤ md 1 1 - 1) by omega), if_pos (by decide)]
theorem sim_extend {hs : Nat → HV} {tp md : HV} (S : SIM hs tp md) {b n : Int} : AG (xExtend hs tp b n) (yExtend md (md 1) b n) := by
  obtain ⟨t, t1, P⟩ := S.2.1
  have H := P.2.2.2.2.1
  have m := P.2.2.2.1.came
  have e1 : hs 0 3 7 = md 1 1 := H.1.2.2.1
  have e0 : hs 0 0 6 = md 1 0 := H.1.2.2.2.1
  unfold xExtend yExtend
  by_cases c : 0 ≤ b ∧ b < md 1 1
  · rw [if_neg (show ¬ ¬ (0 ≤ b ∧ b < hs 0 3 7) by omega), if_neg (show ¬ ¬ (0 ≤ b ∧ b ≤ md 1 1 - 1) by omega)]
    by_cases d : n < 1 ∨ 9 < n
    · rw [if_pos d, if_pos (by omega)]; exact S.no rfl
    rw [if_neg d, if_neg (show ¬ ¬ (1 ≤ n ∧ n ≤ 9) by omega)]
    have z := H.2.1 b c.1 (by omega) c.2
    have y := H.1.2.2.2.2 b c.1 (by omega) c.2
    have f := mFits_eq P.2.2.1 P.2.2.2.1 H (a := hs 0 5 b + hs 0 6 b) (n := n) (p := hs 0 7 b)
    have q : cStay (hs 0) b n ↔ (md 1 (51 + 7 * b + 0) = 1 ∧ md 1 0 ≤ mEnd (md 1) b ∧ md 1 (51 + 7 * b + 2) + n ≤ 9 ∧ mFits (md 1) (mEnd (md 1) b) (mEnd (md 1) b + n) (md 1 (51 + 7 * b + 3))) := by
      have ee : mEnd (md 1) b = hs 0 5 b + hs 0 6 b := by
        show md 1 (51 + 7 * b + 1) + md 1 (51 + 7 * b + 2) = _
        rw [y.1, y.2.1]
      rw [ee, ← e0, ← z.1, ← y.2.1, ← y.2.2, ← f]
    by_cases w : cStay (hs 0) b n
    · rw [if_neg (not_not_intro w), if_neg (not_not_intro (q.mp w))]
      refine S.go ?_ ⟨t, t1, P.ext t1 c.1 c.2 (by omega) w⟩
      show hs 0 5 b + up1 (hs 0 6) b (hs 0 6 b + n) b = md 1 (51 + 7 * b + 1) + md 1 (51 + 7 * b + 2) + n
      rw [up1_same, y.1, y.2.1]; omega
    · rw [if_pos w, if_pos (fun u => w (q.mpr u))]; exact S.no rfl
  · rw [if_pos (show ¬ (0 ≤ b ∧ b < hs 0 3 7) by omega), if_pos (show ¬ (0 ≤ b ∧ b ≤ md 1 1 - 1) by omega)]
    exact S.no rfl
theorem sim_weather {hs : Nat → HV} {tp md : HV} (S : SIM hs tp md) {x y w : Int} : AG (xWeather hs tp x y w) (yWeather md (md 1) x y w) := by
  obtain ⟨t, t1, P⟩ := S.2.1
  have H := P.2.2.2.2.1
  have e0 : hs 0 0 6 = md 1 0 := H.1.2.2.2.1
  have d0 := P.day
  have p0 := P.1
  unfold xWeather yWeather
  by_cases c : x < hs 0 0 6 ∨ y < x ∨ 999 < y ∨ w < 0 ∨ 7 < w
  · rw [if_pos c, if_pos (by omega)]; exact S.no rfl
  rw [if_neg c, if_neg (show ¬ (¬ (md 1 0 ≤ x ∧ x ≤ 999) ∨ ¬ (x ≤ y ∧ y ≤ 999) ∨ ¬ (0 ≤ w ∧ w ≤ 7)) by omega)]
  have en : nOther (hs 0) x y w = sumI (fun q => mOth (md 1) w (x + q)) (y + 1 - x) := sumI_cg fun k k0 k1 => by
    have z := H.1.2.1 (x + k) (by omega) (by omega)
    show (if wOf (hs 0) (x + k) = w then (0 : Int) else 1) = if md 1 (611 + (x + k)) = w then 0 else 1
    rw [z]
  rw [en]
  by_cases d : sumI (fun q => mOth (md 1) w (x + q)) (y + 1 - x) = 0
  · rw [if_pos d, if_pos d]; exact S.no rfl
  · rw [if_neg d, if_neg d]
    exact S.go rfl ⟨t, t1, P.wea t1 (by omega) (by omega) (by omega)⟩
theorem sim_order {hs : Nat → HV} {tp md : HV} (S : SIM hs tp md) {k w : Int} : AG (xOrder hs tp k w) (yOrder md (md 1) k w) := by
  obtain ⟨t, t1, P⟩ := S.2.1
  have e3 : hs 0 13 2 = md 1 3 := P.2.2.2.2.1.2.2.1.1
  have rw0 := P.2.2.2.1.wait
  unfold xOrder yOrder
  by_cases c : k < 0 ∨ 1 < k ∨ w < 1 ∨ 99 < w
  · rw [if_pos c, if_pos (by omega)]; exact S.no rfl
  rw [if_neg c, if_neg (show ¬ (¬ (0 ≤ k ∧ k ≤ 1) ∨ ¬ (1 ≤ w ∧ w ≤ 99)) by omega)]
  by_cases d : md 1 3 = 12
  · rw [if_pos (by omega), if_pos d]; exact S.no rfl
  · rw [if_neg (by omega), if_neg d]
    refine S.go ?_ ⟨t, t1, P.order t1 (by omega) (by omega) (by omega)⟩
    show up1 (hs 0 13) 2 (hs 0 13 2 + 1) 2 = md 1 3 + 1
    rw [up1_same, e3]
theorem sim_recall {hs : Nat → HV} {tp md : HV} (S : SIM hs tp md) : AG (xRecall hs tp) (yRecall md (md 1)) := by
  obtain ⟨t, t1, P⟩ := S.2.1
  have e3 : hs 0 13 2 = md 1 3 := P.2.2.2.2.1.2.2.1.1
  have rw0 := P.2.2.2.1.wait
  unfold xRecall yRecall
  by_cases d : md 1 3 = 0
  · rw [if_pos (by omega), if_pos d]; exact S.no rfl
  · rw [if_neg (by omega), if_neg d]
    refine S.go ?_ ⟨t, t1, P.recall t1 (by omega)⟩
    have z := (P.2.2.2.2.1.2.2.1.2 (md 1 3 - 1) (by omega) (by omega) (by omega)).2
    rw [e3, z, show 39 + (md 1 3 - 1) = 39 + md 1 3 - 1 by omega]
theorem sim_flight {hs : Nat → HV} {tp md : HV} (S : SIM hs tp md) {x : Int} (x0 : x = 0 ∨ x = 1) : AG (xFlight hs tp x) (yFlight md (md 1) x) := by
  obtain ⟨t, t1, P⟩ := S.2.1
  have T := P.2.2.2.2.1.2.2.2.1
  have e4 : hs 0 0 7 = md 1 4 := T.2.1
  unfold xFlight yFlight
  by_cases d : md 1 4 = x
  · rw [if_pos (by omega), if_pos d]; exact S.no rfl
  · rw [if_neg (by omega), if_neg d]
    exact S.go (T.1 0 (by decide) (by decide)) ⟨t, t1, P.flight (by omega) x0⟩
theorem sim_pass {hs : Nat → HV} {tp md : HV} (S : SIM hs tp md) {n : Int} : AG (xPass hs tp n) (yPass md (md 1) n) := by
  obtain ⟨t, t1, P⟩ := S.2.1
  have e0 : hs 0 0 6 = md 1 0 := P.2.2.2.2.1.1.2.2.2.1
  have d0 := P.day
  unfold xPass yPass
  by_cases c : n < 1 ∨ 30 < n
  · rw [if_pos c, if_pos (by omega)]; exact S.no rfl
  rw [if_neg c, if_neg (show ¬ ¬ (1 ≤ n ∧ n ≤ 30) by omega)]
  by_cases d : 999 < md 1 0 + n
  · rw [if_pos (by omega), if_pos d]; exact S.no rfl
  · rw [if_neg (by omega), if_neg d]
    have Q := P.days (n := n) (by omega) (by omega)
    exact S.go Q.2.2.2.2.1.1.2.2.2.1 ⟨t + n, by omega, Q⟩
theorem SIM.row {hs : Nat → HV} {tp md : HV} (S : SIM hs tp md) : SIM hs (tRow (hs 0) tp) md := S
theorem sim_set {hs : Nat → HV} {tp md : HV} (S : SIM hs tp md) {k w : Int} : AG (xSet hs tp k w) (ySet md (md 1) k w) := by
  obtain ⟨t, t1, P⟩ := S.2.1
  have H := P.2.2.2.2.1
  have m := P.2.2.2.1.came
  have d0 := P.day
  have p0 := P.1
  unfold xSet ySet
  by_cases c : k < 0 ∨ 9 < k
  · rw [if_pos c, if_pos (by omega)]; exact S.no rfl
  rw [if_neg c]
  have ek : (if k = 0 ∨ k = 5 then (1 : Int) else 0) = stV 1 k.toNat ∧ mMost k = stV 2 k.toNat := by
    have q : k = 0 ∨ k = 1 ∨ k = 2 ∨ k = 3 ∨ k = 4 ∨ k = 5 ∨ k = 6 ∨ k = 7 ∨ k = 8 ∨ k = 9 := by omega
    rcases q with rfl | rfl | rfl | rfl | rfl | rfl | rfl | rfl | rfl | rfl <;> exact ⟨rfl, rfl⟩
  rw [ek.1, ek.2]
  by_cases d : w < stV 1 k.toNat ∨ stV 2 k.toNat < w
  · rw [if_pos d, if_pos (by omega)]; exact S.no rfl
  rw [if_neg d, if_neg (show ¬ (¬ (0 ≤ k ∧ k ≤ 9) ∨ ¬ (stV 1 k.toNat ≤ w ∧ w ≤ stV 2 k.toNat)) by omega)]
  have es : hs 0 1 k = md 1 (17 + k) := H.1.1 k (by omega) (by omega)
  by_cases z : k = 0
  · rw [if_pos z]
    have w0 : 0 ≤ w := by
      have : stV 1 k.toNat = 1 := by rw [z]; rfl
      omega
    have mo := most_eq P.2.2.1 H m.2 (by omega) (f := tp 1) w0
    by_cases e : md 1 (17 + k) = w
    · have nb : ¬ w < nMost (hs 0) (tp 1) := fun u => mo.mp u ((allI_iff (by omega)).mpr fun q q0 q1 => decide_eq_true (by
        rw [← nBeds_eq (K' := 0) P.2.2.1 H.1 H.2.1 m.2]
        have := P.2.2.2.2.2.2.2 (md 1 0 + q) (by omega) (by omega)
        have e1 : hs 0 1 0 = w := by rw [← e, ← es, z]
        omega))
      rw [if_neg nb, if_pos (es.trans e), if_pos e]; exact S.row.no rfl
    · rw [if_neg e]
      by_cases f : w < nMost (hs 0) (tp 1)
      · rw [if_pos f, if_pos ⟨z, mo.mp f⟩]; exact S.row.no rfl
      · rw [if_neg f, if_neg (show ¬ hs 0 1 k = w by rw [es]; exact e), if_neg (fun u => f (mo.mpr u.2))]
        refine S.row.go es ⟨t, t1, P.set t1 (by omega) (by omega) (by omega) fun _ d q0 q1 => ?_⟩
        have al : allI (fun q => decide (mTk (md 1) (md 1 0 + q) ≤ w)) (1000 - md 1 0) = true := Decidable.not_not.mp fun u => f (mo.mpr u)
        have := of_decide_eq_true ((allI_iff (by omega)).mp al (d - md 1 0) (by omega) (by omega))
        rw [show md 1 0 + (d - md 1 0) = d by omega, ← nBeds_eq (K' := 0) P.2.2.1 H.1 H.2.1 m.2] at this
        exact this
  · rw [if_neg z]
    by_cases e : md 1 (17 + k) = w
    · rw [if_pos (es.trans e), if_pos e]; exact S.no rfl
    · rw [if_neg (show ¬ hs 0 1 k = w by rw [es]; exact e), if_neg e, if_neg (fun u => z u.1)]
      exact S.go es ⟨t, t1, P.set t1 (by omega) (by omega) (by omega) fun u => absurd u z⟩
theorem sim_restore {hs : Nat → HV} {tp md : HV} (S : SIM hs tp md) : AG (xRestore hs tp) (yRestore md (md 1)) := by
  have s := S.2.2.2.1
  unfold xRestore yRestore
  by_cases c : md 0 8 = 0
  · rw [if_pos (s.2.1.trans c), if_pos c]; exact S.no rfl
  · have c1 : ¬ tp 0 3 = 0 := fun u => c (s.2.1.symm.trans u)
    rw [if_neg c1, if_neg c]
    have P := s.2.2 (by omega)
    have e2 : mRec md (md 1) 2 = md 2 := by
      show mR0 md 2 = md 2
      unfold mR0; split <;> rfl
    have Q := (P.cp (S.1 0 (by decide))).cg (q := cpI (mRec md (md 1) 2) (md 1) 2739) (fun i i0 i1 => by rw [e2]; exact cpI_in i0 i1)
    refine ⟨?_, S.rec Q⟩
    obtain ⟨t, t1, q⟩ := P
    have y : cpI (mRec md (md 1) 2) (md 1) 2739 0 = md 2 0 := by rw [e2]; exact cpI_in (by decide) (by decide)
    exact (q.2.2.2.2.1.1.2.2.2.1).trans y.symm
theorem sim_undo {hs : Nat → HV} {tp md : HV} (S : SIM hs tp md) : AG (xUndo hs tp) (yUndo md (md 1)) := by
  have k0 := S.k0
  obtain ⟨s1, s2, ⟨s3, s4, s5, s6⟩, s7, s10⟩ := id S
  unfold xUndo yUndo
  by_cases c : md 0 6 = 0
  · rw [if_pos (by omega), if_pos c]; exact S.no rfl
  · rw [if_neg (by omega), if_neg c]
    have P := s6 (tp 2 1 - 1) (by omega) (by omega)
    have rk := s3.2 (tp 2 1 - 1) (by omega) (by omega)
    have m6 : mUn md 0 6 = md 0 6 - 1 := mUn_k
    have Q := (P.cp (s1 0 (by decide))).cg (q := cpI (fun i => mUn md 4 (2739 * mUn md 0 6 + i)) (md 1) 2739) (fun i i0 i1 => by
      rw [cpI_in i0 i1, m6, ← s5]; rfl)
    have t2 : up1 (tp 2) 1 (tp 2 1 - 1) 1 = tp 2 1 - 1 := up1_same
    refine ⟨by rw [s5], ?_⟩
    show SIM (putH hs 0 (hCp (hs 0) (hs (tp 3 (tp 2 1 - 1)).toNat))) (upr tp 2 (up1 (tp 2) 1 (tp 2 1 - 1))) (upr (mUn md) 1 (cpI (fun i => mUn md 4 (2739 * mUn md 0 6 + i)) (md 1) 2739))
    refine ⟨fun k hk => ?_, ?_, ⟨⟨?_, s3.2⟩, s4, ?_, fun k q0 q1 => ?_⟩, ⟨s7.1, ?_, fun z => ?_⟩, ?_⟩
    · by_cases e : k = 0
      · subst e; rw [putH_same]; exact RG_cp (s1 _ (by omega)) (s1 0 (by decide))
      · rw [putH_ne e]; exact s1 k hk
    · rw [putH_same]; exact Q
    · show 0 ≤ up1 (tp 2) 1 (tp 2 1 - 1) 1 ∧ up1 (tp 2) 1 (tp 2 1 - 1) 1 ≤ 4
      rw [t2]; omega
    · show up1 (tp 2) 1 (tp 2 1 - 1) 1 = mUn md 0 6
      rw [t2, m6, s5]
    · have q1 : k < up1 (tp 2) 1 (tp 2 1 - 1) 1 := q1
      rw [t2] at q1
      have r2 := s3.2 k q0 (by omega)
      show PE (putH hs 0 _ (tp 3 k).toNat) (fun i => md 4 (2739 * k + i))
      rw [putH_ne (by omega)]; exact s6 k q0 (by omega)
    · exact s7.2.1
    · rw [putH_ne (by decide)]; exact s7.2.2 z
    · exact s10
theorem sim_keep {hs : Nat → HV} {tp md : HV} (S : SIM hs tp md) : SIM (putH hs 2 (hCp (hs 2) (hs 0))) (upr tp 0 (up1 (tp 0) 3 1)) (upr (mKeep md (md 1)) 1 (md 1)) := by
  obtain ⟨s1, s2, ⟨s3, s4, s5, s6⟩, s7, s10⟩ := id S
  refine ⟨fun k hk => ?_, ?_, ⟨s3, s4, s5, fun k q0 q1 => ?_⟩, ⟨Or.inr (show up1 (tp 0) 3 1 3 = 1 from up1_same), ?_, fun z => ?_⟩, s10⟩
  · by_cases e : k = 2
    · subst e; rw [putH_same]; exact RG_cp (s1 0 (by decide)) (s1 2 (by decide))
    · rw [putH_ne e]; exact s1 k hk
  · rw [putH_ne (by decide)]; exact s2
  · have q1 : k < tp 2 1 := q1
    have r2 := s3.2 k q0 (by have := s3.1; omega)
    show PE (putH hs 2 _ (tp 3 k).toNat) (fun i => md 4 (2739 * k + i))
    rw [putH_ne (by omega)]; exact s6 k q0 q1
  · show up1 (tp 0) 3 1 3 = up1 (md 0) 8 1 8
    rw [up1_same, up1_same]
  · rw [putH_same]
    exact (s2.cp (s1 2 (by decide))).cg (q := cpI (md 1) (md 2) 2739) fun i i0 i1 => cpI_in i0 i1
theorem sim_type {hs : Nat → HV} {tp md : HV} (S : SIM hs tp md) {c : Int} (c0 : 0 ≤ c ∧ c ≤ 65535) : (xType tp c).1 = (yType md (md 1) c).1 ∧ SIM hs (xType tp c).2 (yType md (md 1) c).2 := by
  obtain ⟨s1, s2, s3, s7, s10, s11, s12, s13⟩ := id S
  have T := s10.1
  unfold xType yType
  by_cases d : md 0 7 = 60
  · rw [if_pos (by omega), if_pos d]; exact S.no rfl
  · rw [if_neg (by omega), if_neg d]
    refine ⟨by show tp 4 1 + 1 = md 0 7 + 1; rw [s11], s1, s2, s3, s7, ?_, ?_, fun i i0 i1 => ?_, ?_⟩
    · have a := s10.up (k := 1) (v := tp 4 1 + 1) (fun _ => by omega) (by omega) (by omega) (by omega) (by omega)
      exact ⟨a.1, a.2.1, a.2.2.1, a.2.2.2.1, a.2.2.2.2.1, fun i i0 i1 => by
        show 0 ≤ up1 (tp 5) (tp 4 1) c i ∧ up1 (tp 5) (tp 4 1) c i ≤ 65535
        unfold up1; split
        · exact c0
        · exact s10.2.2.2.2.2.1 i i0 i1, a.2.2.2.2.2.2⟩
    · show up1 (tp 4) 1 (tp 4 1 + 1) 1 = up1 (md 0) 7 (md 0 7 + 1) 7
      rw [up1_same, up1_same, s11]
    · show up1 (tp 5) (tp 4 1) c i = up1 (md 5) (md 0 7) c i
      rw [s11]; unfold up1; split
      · rfl
      · exact s12 i i0 i1
    · show 0 ≤ up1 (md 0) 7 (md 0 7 + 1) 5 ∧ up1 (md 0) 7 (md 0 7 + 1) 5 ≤ 61
      rw [up1_ne (by decide)]; exact s13
theorem sim_clear {hs : Nat → HV} {tp md : HV} (S : SIM hs tp md) : tp 4 1 = md 0 7 ∧ SIM hs (upr tp 4 (up1 (tp 4) 1 0)) (upr (upr md 0 (up1 (md 0) 7 0)) 1 (md 1)) := by
  obtain ⟨s1, s2, s3, s7, s10, s11, s12, s13⟩ := id S
  refine ⟨s11, s1, s2, s3, s7, s10.up (k := 1) (v := 0) (fun _ => by decide) (by omega) (by omega) (by omega) (by omega), ?_, s12, ?_⟩
  · show up1 (tp 4) 1 0 1 = up1 (md 0) 7 0 7
    rw [up1_same, up1_same]
  · show 0 ≤ up1 (md 0) 7 0 5 ∧ up1 (md 0) 7 0 5 ≤ 61
    rw [up1_ne (by decide)]; exact s13
