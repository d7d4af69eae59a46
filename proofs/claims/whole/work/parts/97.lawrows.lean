/-! THE LAW's OWN ROWS: its script, its comparisons -/
def SX : FC → HE → Nat → Nat → (Nat → Int32) → Prop := fun (_, _, _, _, s, _, _, _, _, _, _, _, _) E b Ls xs => va_X b Ls xs s s.heap ∧ b < s.heap.size ∧ ¬ AA E b ∧ Ls ≤ 2048
abbrev yv (xs : Nat → Int32) (k : Int) : Int := (xs k.toNat).toInt
abbrev LL (E : HE) (b : Nat) (i : Int) : List (Option Value) := [some (.ref b), some (.ref (tA E 0)), some (.ref (mA E 0)), some (vI i), none, none, none, none]
def c2 (a : Int) : Int := ((Int32.ofInt a).toUInt32 % 65536).toInt32.toInt
theorem c2_r (a : Int) : 0 ≤ c2 a ∧ c2 a ≤ 65535 := by
  have h1 : ((Int32.ofInt a).toUInt32 % 65536).toNat < 65536 := by
    rw [UInt32.toNat_mod]; exact Nat.mod_lt _ (by decide)
  unfold c2
  generalize (Int32.ofInt a).toUInt32 % 65536 = u at h1 ⊢
  have e : (u.toInt32).toInt = (u.toNat : Int) := by
    show u.toBitVec.toInt = _
    rw [BitVec.toInt_eq_toNat_of_lt (by show 2 * u.toNat < 2 ^ 32; omega)]; rfl
  omega
def a31 (a : Int) : Int := (Int32.ofInt a &&& Int32.ofInt 31).toInt
theorem a31_r (a : Int) : 0 ≤ a31 a ∧ a31 a ≤ 31 := by
  have h1 : ((Int32.ofInt a).toBitVec &&& (Int32.ofInt 31).toBitVec).toNat ≤ 31 := by
    rw [BitVec.toNat_and]; exact Nat.and_le_right
  have e : a31 a = (((Int32.ofInt a).toBitVec &&& (Int32.ofInt 31).toBitVec).toNat : Int) := by
    show ((Int32.ofInt a).toBitVec &&& (Int32.ofInt 31).toBitVec).toInt = _
    exact BitVec.toInt_eq_toNat_of_lt (by omega)
  omega
section LAW
variable {F : FC} {own : String} {cc : ByteArray} {nL kf : Nat} {E : HE} {hs : Nat → HV} {tp md : HV} {pc : Nat} {L : List (Option Value)} {st : List Value} {a b : Int} {q Ls : Nat} {xs : Nat → Int32} {i : Int}
theorem x_sld (C : Cs F own cc nL kf E) (X : SX F E q Ls xs) (h0 : 0 ≤ a) (h1 : a < Ls) (d : decode cc pc = .ok (.iaload, 1)) (n : G F E hs tp md (pc + 1) L (vI (yv xs a) :: st)) : G F E hs tp md pc L (vI a :: .ref q :: st) := by
  obtain ⟨p, l, e, R, s, m, args, below, meth, c, cells, slots, Q⟩ := F
  obtain ⟨x1, x2, x3, x4⟩ := X
  intro H locs ls hP hS hL
  refine va_sld C.1 C.2.1 x1 x2 x3 hS (oI_in h0 h1 (by omega)) d ?_
  rw [oI_clamp ⟨by omega, by omega⟩]
  have k := n H locs ls hP hS hL
  have e9 : vI (yv xs a) = .int (xs a.toNat) := congrArg Value.int (oI_self _)
  rw [e9] at k
  exact k
theorem x_slen (C : Cs F own cc nL kf E) (X : SX F E q Ls xs) (d : decode cc pc = .ok (.arraylength, 1)) (n : G F E hs tp md (pc + 1) L (vI (Ls : Int) :: st)) : G F E hs tp md pc L (.ref q :: st) := by
  obtain ⟨p, l, e, R, s, m, args, below, meth, c, cells, slots, Q⟩ := F
  obtain ⟨x1, x2, x3, x4⟩ := X
  intro H locs ls hP hS hL
  refine va_slen C.1 C.2.1 x1 x2 x3 hS d ?_
  have k := n H locs ls hP hS hL
  have e9 : vI (Ls : Int) = .int (Int32.ofNat Ls) := congrArg Value.int Int32.ofInt_eq_ofNat
  rw [e9] at k
  exact k
theorem x_i2c (C : Cs F own cc nL kf E) (d : decode cc pc = .ok (.i2c, 1)) (n : G F E hs tp md (pc + 1) L (vI (c2 a) :: st)) : G F E hs tp md pc L (vI a :: st) := by
  obtain ⟨p, l, e, R, s, m, args, below, meth, c, cells, slots, Q⟩ := F
  intro H locs ls hP hS hL
  refine lv_i2c C.1 C.2.1 d rfl ?_
  have k := n H locs ls hP hS hL
  have e9 : vI (c2 a) = .int (((Int32.ofInt a).toUInt32 % 65536).toInt32) := congrArg Value.int (oI_self _)
  rw [e9] at k
  exact k
theorem x_same {off : Int} (tgt : Nat) (C : Cs F own cc nL kf E) (d : decode cc pc = .ok (.if_icmp .eq off, 3)) (ht : (pc : Int) + off = (tgt : Int)) (eq0 : a = b) (k : G F E hs tp md tgt L st) : G F E hs tp md pc L (vI b :: vI a :: st) := by
  obtain ⟨p, l, e, R, s, m, args, below, meth, c, cells, slots, Q⟩ := F
  subst eq0
  intro H locs ls hP hS hL
  exact lv_icmp_eq C.1 C.2.1 d ht (fun _ => k H locs ls hP hS hL) (fun h => absurd rfl h)
/-- an argument: script[i + k] -/
theorem x_arg {k : Int} (C : Cs F own cc nL kf E) (X : SX F E q Ls xs) (d0 : decode cc pc = .ok (.aload_n 0, 1)) (d1 : decode cc (pc + 1) = .ok (.iload_n 3, 1)) (d2 : decode cc (pc + 1 + 1) = .ok (.iconst k, 1)) (d3 : decode cc (pc + 1 + 1 + 1) = .ok (.iadd, 1)) (d4 : decode cc (pc + 1 + 1 + 1 + 1) = .ok (.iaload, 1)) (h0 : 0 ≤ i + k) (h1 : i + k < Ls) (n : G F E hs tp md (pc + 1 + 1 + 1 + 1 + 1) (LL E q i) (vI (yv xs (i + k)) :: st)) : G F E hs tp md pc (LL E q i) st := by
  refine x_aload_n C d0 rfl ?_
  refine x_iload_n C d1 rfl ?_
  refine x_const C d2 ?_
  refine x_iadd C d3 ?_
  exact x_sld C X h0 h1 d4 n
/-- an argument: script[i + 1] != 0 -/
theorem x_flag {o1 o2 : Int} (t1 t2 : Nat) (C : Cs F own cc nL kf E) (d0 : decode cc pc = .ok (.ifCond .eq o1, 3)) (d1 : decode cc (pc + 3) = .ok (.iconst 1, 1)) (d2 : decode cc (pc + 3 + 1) = .ok (.goto o2, 3)) (d3 : decode cc t1 = .ok (.iconst 0, 1)) (e1 : (pc : Int) + o1 = (t1 : Int)) (e2 : ((pc + 3 + 1 : Nat) : Int) + o2 = (t2 : Int)) (e3 : t1 + 1 = t2) (ha : IR a) (n : G F E hs tp md t2 L (vI (bI (a ≠ 0)) :: st)) : G F E hs tp md pc L (vI a :: st) := by
  refine x_if_eq t1 C d0 e1 ha (fun h => ?_) (fun h => ?_)
  · refine x_const C d3 ?_
    rw [e3, e0_bI (c := a ≠ 0) (fun w => w h)]; exact n
  · refine x_const C d1 ?_
    refine x_goto t2 C d2 e2 ?_
    rw [e1_bI (c := a ≠ 0) h]; exact n
end LAW
/-! what the calls ask of a state of both sides -/
section ASK
variable {hs : Nat → HV} {tp md : HV}
theorem SIM.r0 (S : SIM hs tp md) : RG 200000 (hs 0) := S.1 0 (by decide)
theorem SIM.r1 (S : SIM hs tp md) : RG 200000 (hs 1) := S.1 1 (by decide)
theorem SIM.r2 (S : SIM hs tp md) : RG 200000 (hs 2) := S.1 2 (by decide)
theorem SIM.sg (S : SIM hs tp md) : SG tp := S.2.2.1.1
theorem SIM.tg (S : SIM hs tp md) : TG tp := S.2.2.2.2.1
theorem SIM.mr (S : SIM hs tp md) : MR 200000 (md 1) := by
  obtain ⟨t, t1, P⟩ := S.2.1
  exact P.2.2.2.1.mono (by omega)
theorem SIM.hd (S : SIM hs tp md) : hs 0 0 6 ≤ 999 := by
  obtain ⟨t, t1, P⟩ := S.2.1
  rw [P.2.1]; exact t1
theorem SIM.hm (S : SIM hs tp md) : md 1 0 ≤ 999 := by
  obtain ⟨t, t1, P⟩ := S.2.1
  rw [P.day]; exact t1
theorem SIM.u10 (S : SIM hs tp md) : 0 ≤ md 1 10 ∧ md 1 10 ≤ 1000000 := by
  obtain ⟨t, t1, P⟩ := S.2.1
  have := P.2.2.2.2.2.2.1; omega
theorem SIM.u5 (S : SIM hs tp md) : 0 ≤ md 1 5 ∧ md 1 5 ≤ 1000000 := by
  obtain ⟨t, t1, P⟩ := S.2.1
  have := P.2.2.2.2.2.1; omega
theorem SIM.hu (S : SIM hs tp md) : 0 ≤ hs 0 16 5 ∧ hs 0 16 5 ≤ 1000000 := by
  have u := S.u10
  obtain ⟨t, t1, P⟩ := S.2.1
  have e : hs 0 16 5 = md 1 10 := P.2.2.2.2.1.2.2.2.1.1 5 (by decide) (by decide)
  rw [e]; exact u
theorem SIM.z3 (S : SIM hs tp md) : tp 0 3 = 0 ∨ tp 0 3 = 1 := S.2.2.2.1.1
theorem SIM.z8 (S : SIM hs tp md) : md 0 8 = 0 ∨ md 0 8 = 1 := by rw [← S.2.2.2.1.2.1]; exact S.2.2.2.1.1
theorem SIM.plc (S : SIM hs tp md) : 0 ≤ md 0 5 ∧ md 0 5 ≤ 61 := S.2.2.2.2.2.2.2
theorem t_booking (S : SIM hs tp md) {b w : Int} : xBooking (hs 0) b w = yBooking (md 1) b w := by
  obtain ⟨t, t1, P⟩ := S.2.1
  exact ans_booking P.2.2.1 P.2.2.2.2.1 P.2.2.2.1.came.2 (by rw [P.day]; omega)
theorem t_day (S : SIM hs tp md) {d w : Int} : xDay (hs 0) d w = yDay (md 1) d w := by
  obtain ⟨t, t1, P⟩ := S.2.1
  exact ans_day P.2.2.1 P.2.2.2.2.1 P.2.2.2.1.came.2
theorem t_fresh (S : SIM hs tp md) {k w : Int} : xFresh (hs 0) k w = yFresh (md 1) k w := by
  obtain ⟨t, t1, P⟩ := S.2.1
  exact ans_fresh P.2.2.1 P.2.2.2.1 P.2.1 t1 P.2.2.2.2.1
theorem t_waiting (S : SIM hs tp md) {k w : Int} : xWaiting (hs 0) k w = yWaiting (md 1) k w := by
  obtain ⟨t, t1, P⟩ := S.2.1
  exact ans_waiting P.2.2.2.2.1 P.2.2.2.1.wait.2
theorem t_count (S : SIM hs tp md) {w : Int} : xCount (hs 0) tp w = yCount md (md 1) w := by
  obtain ⟨t, t1, P⟩ := S.2.1
  exact ans_count P.2.2.1 P.2.2.2.1 P.2.1 t1 P.2.2.2.2.1 S.2.2.1.2.2.1 S.2.2.2.2.2.1
theorem t_coins (S : SIM hs tp md) {w : Int} : xCoins (hs 0) w = yCoins (md 1) w := by
  obtain ⟨t, t1, P⟩ := S.2.1
  exact ans_coins P.2.2.1 P.2.2.2.2.1 P.2.2.2.1.came.2
theorem t_use (S : SIM hs tp md) {x y : Int} : xUse (hs 0) x y = yUse (md 1) x y := by
  obtain ⟨t, t1, P⟩ := S.2.1
  exact ans_use P.2.2.1 P.2.2.2.2.1 P.2.2.2.1.came.2
theorem t_full (S : SIM hs tp md) : nFull (hs 0) (tp 1) = yFull (md 1) := by
  obtain ⟨t, t1, P⟩ := S.2.1
  exact ans_full P.2.2.1 P.2.2.2.2.1 P.2.2.2.1.came.2 S.hm
theorem t_first (S : SIM hs tp md) {n p : Int} : (xFirstOp hs tp n p).1 = yFirst (md 1) n p ∧ SIM (xFirstOp hs tp n p).2.1 (xFirstOp hs tp n p).2.2 md := by
  obtain ⟨t, t1, P⟩ := S.2.1
  unfold xFirstOp yFirst
  by_cases c : 1 ≤ n ∧ n ≤ 9 ∧ 1 ≤ p ∧ p ≤ 9
  · rw [if_neg (not_not_intro c), if_neg (by omega)]
    exact ⟨ans_first P.2.2.1 P.2.2.2.2.1 P.2.2.2.1.came.2 P.2.2.2.1.day.1 ⟨c.1, c.2.1⟩, S.row⟩
  · rw [if_pos c, if_pos (by omega)]
    exact ⟨rfl, S⟩
theorem t_keep (S : SIM hs tp md) : hs 0 0 6 = md 1 0 := by
  obtain ⟨t, t1, P⟩ := S.2.1
  exact P.2.2.2.2.1.1.2.2.2.1
end ASK
