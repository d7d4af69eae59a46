/-! what the calls ask of a state of both sides -/
section ASK
variable {hs : Nat → HV} {tp md : HV}
theorem SIM.r0 (S : SIM hs tp md) : RG 200000 (hs 0) := S.1 0 (by decide)
theorem SIM.r1 (S : SIM hs tp md) : RG 200000 (hs 1) := S.1 1 (by decide)
theorem SIM.r2 (S : SIM hs tp md) : RG 200000 (hs 2) := S.1 2 (by decide)
theorem SIM.sg (S : SIM hs tp md) : SG tp := S.2.2.1.1
theorem SIM.tg (S : SIM hs tp md) : TG tp := S.2.2.2.2.1
theorem SIM.mr (S : SIM hs tp md) : MR 200000 (md 1) := by
  obtain ⟨t, t1, P⟩ := S.2.1
  exact P.2.2.2.1.mono (by omega)
theorem SIM.hd (S : SIM hs tp md) : hs 0 0 6 ≤ 999 := by
  obtain ⟨t, t1, P⟩ := S.2.1
  rw [P.2.1]; exact t1
theorem SIM.hm (S : SIM hs tp md) : md 1 0 ≤ 999 := by
  obtain ⟨t, t1, P⟩ := S.2.1
  rw [P.day]; exact t1
theorem SIM.u10 (S : SIM hs tp md) : 0 ≤ md 1 10 ∧ md 1 10 ≤ 1000000 := by
  obtain ⟨t, t1, P⟩ := S.2.1
  have := P.2.2.2.2.2.2.1; omega
theorem SIM.u5 (S : SIM hs tp md) : 0 ≤ md 1 5 ∧ md 1 5 ≤ 1000000 := by
  obtain ⟨t, t1, P⟩ := S.2.1
  have := P.2.2.2.2.2.1; omega
theorem SIM.hu (S : SIM hs tp md) : 0 ≤ hs 0 16 5 ∧ hs 0 16 5 ≤ 1000000 := by
  have u := S.u10
  obtain ⟨t, t1, P⟩ := S.2.1
  have e : hs 0 16 5 = md 1 10 := P.2.2.2.2.1.2.2.2.1.1 5 (by decide) (by decide)
  rw [e]; exact u
theorem SIM.z3 (S : SIM hs tp md) : tp 0 3 = 0 ∨ tp 0 3 = 1 := S.2.2.2.1.1
theorem SIM.z8 (S : SIM hs tp md) : md 0 8 = 0 ∨ md 0 8 = 1 := by rw [← S.2.2.2.1.2.1]; exact S.2.2.2.1.1
theorem SIM.plc (S : SIM hs tp md) : 0 ≤ md 0 5 ∧ md 0 5 ≤ 61 := S.2.2.2.2.2.2.2
theorem t_booking (S : SIM hs tp md) {b w : Int} : xBooking (hs 0) b w = yBooking (md 1) b w := by
  obtain ⟨t, t1, P⟩ := S.2.1
  exact ans_booking P.2.2.1 P.2.2.2.2.1 P.2.2.2.1.came.2 (by rw [P.day]; omega)
theorem t_day (S : SIM hs tp md) {d w : Int} : xDay (hs 0) d w = yDay (md 1) d w := by
  obtain ⟨t, t1, P⟩ := S.2.1
  exact ans_day P.2.2.1 P.2.2.2.2.1 P.2.2.2.1.came.2
theorem t_fresh (S : SIM hs tp md) {k w : Int} : xFresh (hs 0) k w = yFresh (md 1) k w := by
  obtain ⟨t, t1, P⟩ := S.2.1
  exact ans_fresh P.2.2.1 P.2.2.2.1 P.2.1 t1 P.2.2.2.2.1
theorem t_waiting (S : SIM hs tp md) {k w : Int} : xWaiting (hs 0) k w = yWaiting (md 1) k w := by
  obtain ⟨t, t1, P⟩ := S.2.1
  exact ans_waiting P.2.2.2.2.1 P.2.2.2.1.wait.2
theorem t_count (S : SIM hs tp md) {w : Int} : xCount (hs 0) tp w = yCount md (md 1) w := by
  obtain ⟨t, t1, P⟩ := S.2.1
  exact ans_count P.2.2.1 P.2.2.2.1 P.2.1 t1 P.2.2.2.2.1 S.2.2.1.2.2.1 S.2.2.2.2.2.1
theorem t_coins (S : SIM hs tp md) {w : Int} : xCoins (hs 0) w = yCoins (md 1) w := by
  obtain ⟨t, t1, P⟩ := S.2.1
  exact ans_coins P.2.2.1 P.2.2.2.2.1 P.2.2.2.1.came.2
theorem t_use (S : SIM hs tp md) {x y : Int} : xUse (hs 0) x y = yUse (md 1) x y := by
  obtain ⟨t, t1, P⟩ := S.2.1
  exact ans_use P.2.2.1 P.2.2.2.2.1 P.2.2.2.1.came.2
theorem t_full (S : SIM hs tp md) : nFull (hs 0) (tp 1) = yFull (md 1) := by
  obtain ⟨t, t1, P⟩ := S.2.1
  exact ans_full P.2.2.1 P.2.2.2.2.1 P.2.2.2.1.came.2 S.hm
theorem t_first (S : SIM hs tp md) {n p : Int} : (xFirstOp hs tp n p).1 = yFirst (md 1) n p ∧ SIM (xFirstOp hs tp n p).2.1 (xFirstOp hs tp n p).2.2 md := by
  obtain ⟨t, t1, P⟩ := S.2.1
  unfold xFirstOp yFirst
  by_cases c : 1 ≤ n ∧ n ≤ 9 ∧ 1 ≤ p ∧ p ≤ 9
  · rw [if_neg (not_not_intro c), if_neg (by omega)]
    exact ⟨ans_first P.2.2.1 P.2.2.2.2.1 P.2.2.2.1.came.2 P.2.2.2.1.day.1 ⟨c.1, c.2.1⟩, S.row⟩
  · rw [if_pos c, if_pos (by omega)]
    exact ⟨rfl, S⟩
theorem t_keep (S : SIM hs tp md) : hs 0 0 6 = md 1 0 := by
  obtain ⟨t, t1, P⟩ := S.2.1
  exact P.2.2.2.2.1.1.2.2.2.1
end ASK
