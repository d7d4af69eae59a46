/-! THE LAW's SUMS (printed by sums.py) -/
section LBK
variable {hs : Nat → HV} {tp : HV} {r : Int → Int} {k : Int} {E : HE}
theorem l_cnt (hE : HI E) (S : HLS hs tp r k) {w x : Int} (w0 : IR w) (h3 : w ≠ 23) (h4 : w ≠ 24) (e : yCount zM r w = x) : Mt yX6_count cX6_count 2 (some .int) 2 E [.ref (tA E 0), vI w] hs tp zM (some (vI x)) hs tp zM := by subst e; exact l_count hE S w0 h3 h4
theorem l_bk (hE : HI E) (S : HLS hs tp r k) {b w x : Int} (b0 : IR b) (w0 : IR w) (e : yBooking r b w = x) : Mt yX6_booking cX6_booking 4 (some .int) 4 E [.ref (tA E 0), vI b, vI w] hs tp zM (some (vI x)) hs tp zM := by subst e; exact l_booking hE S b0 w0
theorem l_ref (hE : HI E) (S : HLS hs tp r k) {b x : Int} (b0 : IR b) (e : mRefd r b = x) : Mt yX6_refund cX6_refund 3 (some .int) 4 E [.ref (tA E 0), vI b] hs tp zM (some (vI x)) hs tp zM := by subst e; exact l_refund hE S b0
theorem l_dy (hE : HI E) (S : HLS hs tp r k) {d w x : Int} (d0 : IR d) (w0 : IR w) (e : yDay r d w = x) : Mt yX6_day cX6_day 3 (some .int) 4 E [.ref (tA E 0), vI d, vI w] hs tp zM (some (vI x)) hs tp zM := by subst e; exact l_day hE S d0 w0
theorem l_use (hE : HI E) (S : HLS hs tp r k) {x y : Int} (x0 : IR x) (y0 : IR y) : Mt yX6_use cX6_use 6 (some .double) 3 E [.ref (tA E 0), vI x, vI y] hs tp zM (some (.double (yUse r x y))) hs tp zM := by
  obtain ⟨md, S, rfl, rfl⟩ := S
  rw [← t_use S]
  exact (m_X6_use (md := zM) hE S.r0 x0 y0)
theorem refund_or {b : Int} (c : 0 ≤ b ∧ b ≤ r 1 - 1) (h : r (51 + 7 * b + 0) = 0) : mRefd r b = r (51 + 7 * b + 5) ∨ mRefd r b = 0 := by
  have e : mRefd r b = mRef0 r b := (if_neg (not_not_intro c)).trans (if_pos h)
  rw [e]
  show (if _ then r (51 + 7 * b + 5) else (0 : Int)) = _ ∨ (if _ then r (51 + 7 * b + 5) else (0 : Int)) = 0
  split
  · exact Or.inl rfl
  · exact Or.inr rfl
theorem mRefd_n {b : Int} (c : 0 ≤ b ∧ b ≤ r 1 - 1) (h : ¬ r (51 + 7 * b + 0) = 0) : mRefd r b = -1000004 := (if_neg (not_not_intro c)).trans (if_neg h)
theorem strand_or {b : Int} (c : 0 ≤ b ∧ b ≤ r 1 - 1) (h : r (51 + 7 * b + 0) = 1) : (yBooking r b 6 = 1 ∧ r (51 + 7 * b + 1) + r (51 + 7 * b + 2) ≤ r 0) ∨ yBooking r b 6 = 0 := by
  rw [yB6 c]; split
  · rename_i q; exact Or.inl ⟨rfl, q.2.1⟩
  · exact Or.inr rfl
end LBK
set_option maxRecDepth 100000 in
set_option maxHeartbeats 8000000 in
theorem sums_end {F : FC} {E : HE} {hs : Nat → HV} {tp : HV} {r : Int → Int} {k x6 x7 : Int} (C : Cs F RL cL_sums 11 5 E) (D : Cx F (some .boolean) E (fun v hs' tp' => v = some (vI 1) ∧ HLS hs' tp' r k)) (hE : HI E) (S : HLS hs tp r k) (hV : V (r 0) r) (h6 : (r 17 < nPer r ∧ x6 = nPer r - r 17) ∨ (¬ r 17 < nPer r ∧ x6 = 0)) (d0 : 0 ≤ r 0 ∧ r 0 ≤ 999) : G F E hs tp zM 495 [some (.ref (tA E 0)), some (vI (sumI (mThere r) (r 1))), some (vI (sumI (mHeld r) (r 1))), some (vI (r 17)), some (vI (r 0)), some (vI (sumI (mMany r 0) (r 1) + sumI (mMany r 1) (r 1) + sumI (mMany r 2) (r 1) + sumI (mMany r 3) (r 1) + sumI (mMany r 4) (r 1))), some (vI x6), some (vI x7), none, none, none] [.double (yUse r (r 0) (r 0))] := by
  have R := S.mr
  have rs := R.sets
  have ht := hV.2.1
  have hb := hV.1
  unfold TL at ht
  unfold BL at hb
  have e6 : yCount zM r 8 = x6 := by
    show (if r 17 < nPer r then nPer r - r 17 else 0) = x6
    rcases h6 with q | q
    · rw [if_pos q.1, q.2]
    · rw [if_neg q.1, q.2]
  have e5 := states_eq R
  have eu : yUse r (r 0) (r 0) = useQ (mTk r (r 0)) (r 17) := by
    have q : yUse r (r 0) (r 0) = useQ (sumI (fun q => mTk r (r 0 + q)) (r 0 + 1 - r 0)) ((r 0 - r 0 + 1) * r 17) := if_neg (by omega)
    rw [q, show r 0 + 1 - r 0 = 0 + 1 by omega, sumI_s (by decide), sumI_0, show (r 0 - r 0 + 1) * r 17 = r 17 by rw [show r 0 - r 0 + 1 = 1 by omega]; omega, show r 0 + 0 = r 0 by omega, show 0 + mTk r (r 0) = mTk r (r 0) by omega]
  have nn : vf_n64 (useQ (mTk r (r 0)) (r 17)) := nn_div ⟨by omega, by omega⟩
  rw [eu]
  generalize hQ : useQ (mTk r (r 0)) (r 17) = Z at nn ⊢
  obtain ⟨p, l, e, R0, s, m, args, below, meth, c, cells, slots, Q⟩ := F
  have hx := C.1
  have hcc := C.2.1
  have hml := C.2.2.1
  intro H locs ls hP hS hL
  have hl := hL.has
  rw [hml] at hl
  refine lv_dstore (lv' := [(8, .double Z), (0, .ref (tA E 0)), (1, vI (sumI (mThere r) (r 1))), (2, vI (sumI (mHeld r) (r 1))), (3, vI (r 17)), (4, vI (r 0)), (5, vI (sumI (mMany r 0) (r 1) + sumI (mMany r 1) (r 1) + sumI (mMany r 2) (r 1) + sumI (mMany r 3) (r 1) + sumI (mMany r 4) (r 1))), (6, vI x6), (7, vI x7)]) hx hcc dL_sums_495 hl (by decide) rfl (fun ls hl => ?_)
  refine lv_iload_n hx hcc dL_sums_497 rfl (lv_at hl 2 rfl) ?_
  refine lv_aload_n hx hcc dL_sums_498 rfl (lv_at hl 1 rfl) ?_
  refine lv_bipush (v := Int32.ofInt 7) hx hcc dL_sums_499 (by decide) ?_
  refine y_callV (nA := 1) (As := [vI 7]) (rest := [vI (sumI (mThere r) (r 1))]) C (l_cnt hE S ⟨by decide, by decide⟩ (by decide) (by decide) (show yCount zM r 7 = nPer r from rfl)) q_282 q_283 q_284 q_21 q_285 (by decide +kernel) (wl_t 0 (by decide)) rfl rfl (by decide) (by decide) (Nat.le_of_ble_eq_true rfl) dL_sums_501 rfl hP hS hl.1 fun H locs hP hS => ?_
  refine lv_icmp_ne (tgt := 609) hx hcc dL_sums_504 (by decide) (fun h => absurd rfl h) (fun _ => ?_)
  refine lv_iload hx hcc dL_sums_507 (lv_at hl 7 rfl) ?_
  refine lv_aload_n hx hcc dL_sums_509 rfl (lv_at hl 1 rfl) ?_
  refine lv_bipush (v := Int32.ofInt 8) hx hcc dL_sums_510 (by decide) ?_
  refine y_callV (nA := 1) (As := [vI 8]) (rest := [vI (x6)]) C (l_cnt hE S ⟨by decide, by decide⟩ (by decide) (by decide) (show yCount zM r 8 = x6 from e6)) q_282 q_283 q_284 q_21 q_285 (by decide +kernel) (wl_t 0 (by decide)) rfl rfl (by decide) (by decide) (Nat.le_of_ble_eq_true rfl) dL_sums_512 rfl hP hS hl.1 fun H locs hP hS => ?_
  refine lv_icmp_ne (tgt := 609) hx hcc dL_sums_515 (by decide) (fun h => absurd rfl h) (fun _ => ?_)
  refine lv_iload_n hx hcc dL_sums_518 rfl (lv_at hl 3 rfl) ?_
  refine lv_aload_n hx hcc dL_sums_519 rfl (lv_at hl 1 rfl) ?_
  refine lv_iconst hx hcc dL_sums_520 rfl ?_
  refine y_callV (nA := 1) (As := [vI 1]) (rest := [vI (sumI (mHeld r) (r 1))]) C (l_coins hE S ⟨by decide, by decide⟩) q_317 q_318 q_319 q_21 q_320 (by decide +kernel) (wl_t 0 (by decide)) rfl rfl (by decide) (by decide) (Nat.le_of_ble_eq_true rfl) dL_sums_521 rfl hP hS hl.1 fun H locs hP hS => ?_
  refine lv_icmp_ne (tgt := 609) hx hcc dL_sums_524 (by decide) (fun h => absurd rfl h) (fun _ => ?_)
  refine lv_iload hx hcc dL_sums_527 (lv_at hl 6 rfl) ?_
  refine lv_aload_n hx hcc dL_sums_529 rfl (lv_at hl 1 rfl) ?_
  refine lv_iconst hx hcc dL_sums_530 rfl ?_
  refine y_callV (nA := 1) (As := [vI 1]) (rest := [vI (sumI (mMany r 0) (r 1) + sumI (mMany r 1) (r 1) + sumI (mMany r 2) (r 1) + sumI (mMany r 3) (r 1) + sumI (mMany r 4) (r 1))]) C (l_cnt hE S ⟨by decide, by decide⟩ (by decide) (by decide) (show yCount zM r 1 = r 1 from rfl)) q_282 q_283 q_284 q_21 q_285 (by decide +kernel) (wl_t 0 (by decide)) rfl rfl (by decide) (by decide) (Nat.le_of_ble_eq_true rfl) dL_sums_531 rfl hP hS hl.1 fun H locs hP hS => ?_
  refine lv_icmp_ne (tgt := 609) hx hcc dL_sums_534 (by decide) (fun h => absurd (congrArg Int32.ofInt e5) h) (fun _ => ?_)
  refine lv_aload_n hx hcc dL_sums_537 rfl (lv_at hl 1 rfl) ?_
  refine lv_bipush (v := Int32.ofInt 16) hx hcc dL_sums_538 (by decide) ?_
  refine y_callV (nA := 1) (As := [vI 16]) (rest := []) C (l_cnt hE S ⟨by decide, by decide⟩ (by decide) (by decide) (show yCount zM r 16 = r 7 from rfl)) q_282 q_283 q_284 q_21 q_285 (by decide +kernel) (wl_t 0 (by decide)) rfl rfl (by decide) (by decide) (Nat.le_of_ble_eq_true rfl) dL_sums_540 rfl hP hS hl.1 fun H locs hP hS => ?_
  refine lv_aload_n hx hcc dL_sums_543 rfl (lv_at hl 1 rfl) ?_
  refine lv_bipush (v := Int32.ofInt 17) hx hcc dL_sums_544 (by decide) ?_
  refine y_callV (nA := 1) (As := [vI 17]) (rest := [vI (r 7)]) C (l_cnt hE S ⟨by decide, by decide⟩ (by decide) (by decide) (show yCount zM r 17 = r 8 from rfl)) q_282 q_283 q_284 q_21 q_285 (by decide +kernel) (wl_t 0 (by decide)) rfl rfl (by decide) (by decide) (Nat.le_of_ble_eq_true rfl) dL_sums_546 rfl hP hS hl.1 fun H locs hP hS => ?_
  refine lv_aload_n hx hcc dL_sums_549 rfl (lv_at hl 1 rfl) ?_
  refine lv_bipush (v := Int32.ofInt 18) hx hcc dL_sums_550 (by decide) ?_
  refine y_callV (nA := 1) (As := [vI 18]) (rest := [vI (r 8), vI (r 7)]) C (l_cnt hE S ⟨by decide, by decide⟩ (by decide) (by decide) (show yCount zM r 18 = r 9 from rfl)) q_282 q_283 q_284 q_21 q_285 (by decide +kernel) (wl_t 0 (by decide)) rfl rfl (by decide) (by decide) (Nat.le_of_ble_eq_true rfl) dL_sums_552 rfl hP hS hl.1 fun H locs hP hS => ?_
  refine lv_iadd hx hcc dL_sums_555 ?_
  rw [oI_add]
  refine lv_aload_n hx hcc dL_sums_556 rfl (lv_at hl 1 rfl) ?_
  refine lv_bipush (v := Int32.ofInt 9) hx hcc dL_sums_557 (by decide) ?_
  refine y_callV (nA := 1) (As := [vI 9]) (rest := [vI (r 8 + r 9), vI (r 7)]) C (l_cnt hE S ⟨by decide, by decide⟩ (by decide) (by decide) (show yCount zM r 9 = mFrP r from rfl)) q_282 q_283 q_284 q_21 q_285 (by decide +kernel) (wl_t 0 (by decide)) rfl rfl (by decide) (by decide) (Nat.le_of_ble_eq_true rfl) dL_sums_559 rfl hP hS hl.1 fun H locs hP hS => ?_
  refine lv_iadd hx hcc dL_sums_562 ?_
  rw [oI_add]
  refine lv_aload_n hx hcc dL_sums_563 rfl (lv_at hl 1 rfl) ?_
  refine lv_bipush (v := Int32.ofInt 10) hx hcc dL_sums_564 (by decide) ?_
  refine y_callV (nA := 1) (As := [vI 10]) (rest := [vI (r 8 + r 9 + mFrP r), vI (r 7)]) C (l_cnt hE S ⟨by decide, by decide⟩ (by decide) (by decide) (show yCount zM r 10 = r 2 from rfl)) q_282 q_283 q_284 q_21 q_285 (by decide +kernel) (wl_t 0 (by decide)) rfl rfl (by decide) (by decide) (Nat.le_of_ble_eq_true rfl) dL_sums_566 rfl hP hS hl.1 fun H locs hP hS => ?_
  refine lv_iadd hx hcc dL_sums_569 ?_
  rw [oI_add]
  refine lv_icmp_ne (tgt := 609) hx hcc dL_sums_570 (by decide) (fun h => absurd (congrArg Int32.ofInt hb) h) (fun _ => ?_)
  refine lv_aload_n hx hcc dL_sums_573 rfl (lv_at hl 1 rfl) ?_
  refine lv_bipush (v := Int32.ofInt 21) hx hcc dL_sums_574 (by decide) ?_
  refine y_callV (nA := 1) (As := [vI 21]) (rest := []) C (l_cnt hE S ⟨by decide, by decide⟩ (by decide) (by decide) (show yCount zM r 21 = r 12 from rfl)) q_282 q_283 q_284 q_21 q_285 (by decide +kernel) (wl_t 0 (by decide)) rfl rfl (by decide) (by decide) (Nat.le_of_ble_eq_true rfl) dL_sums_576 rfl hP hS hl.1 fun H locs hP hS => ?_
  refine lv_aload_n hx hcc dL_sums_579 rfl (lv_at hl 1 rfl) ?_
  refine lv_bipush (v := Int32.ofInt 20) hx hcc dL_sums_580 (by decide) ?_
  refine y_callV (nA := 1) (As := [vI 20]) (rest := [vI (r 12)]) C (l_cnt hE S ⟨by decide, by decide⟩ (by decide) (by decide) (show yCount zM r 20 = r 11 from rfl)) q_282 q_283 q_284 q_21 q_285 (by decide +kernel) (wl_t 0 (by decide)) rfl rfl (by decide) (by decide) (Nat.le_of_ble_eq_true rfl) dL_sums_582 rfl hP hS hl.1 fun H locs hP hS => ?_
  refine lv_icmp_lt (tgt := 609) hx hcc dL_sums_585 (by decide) (fun h => absurd ((oI_lt ⟨by omega, by omega⟩ ⟨by omega, by omega⟩).mp h) (by omega)) (fun _ => ?_)
  refine lv_dload hx hcc dL_sums_588 (lv_at hl 0 rfl) ?_
  refine lv_aload_n hx hcc dL_sums_590 rfl (lv_at hl 1 rfl) ?_
  refine lv_iload hx hcc dL_sums_591 (lv_at hl 5 rfl) ?_
  refine lv_iconst hx hcc dL_sums_593 rfl ?_
  refine y_callV (nA := 2) (As := [vI (r 0), vI 0]) (rest := [.double Z]) C (l_dy hE S (d := r 0) ⟨by omega, by omega⟩ ⟨by decide, by decide⟩ (show yDay r (r 0) 0 = mTk r (r 0) from (if_neg (by omega)).trans rfl)) q_383 q_384 q_385 q_21 q_386 (by decide +kernel) (wl_t 0 (by decide)) rfl rfl (by decide) (by decide) (Nat.le_of_ble_eq_true rfl) dL_sums_594 rfl hP hS hl.1 fun H locs hP hS => ?_
  refine lv_i2d hx hcc dL_sums_597 ?_
  refine lv_iload_n hx hcc dL_sums_598 rfl (lv_at hl 4 rfl) ?_
  refine lv_i2d hx hcc dL_sums_599 ?_
  refine lv_ddiv hx hcc dL_sums_600 (by show vf_n64 (useQ (mTk r (r 0)) (r 17)); rw [hQ]; exact nn) ?_
  refine lv_dcmp hx hcc dL_sums_601 ?_
  rw [show FP.ddiv (FP.i2d (Int32.ofInt (mTk r (r 0)))) (FP.i2d (Int32.ofInt (r 17))) = Z from hQ, dc_self nn]
  refine lv_if_ne (tgt := 609) hx hcc dL_sums_602 (by decide) (fun h => absurd rfl h) (fun _ => ?_)
  refine lv_iconst hx hcc dL_sums_605 rfl ?_
  refine lv_goto (tgt := 610) hx hcc dL_sums_606 (by decide) ?_
  obtain ⟨hx, hb9, hml, hown, hts, hK, hE9, hZ, -, -, -, -, hlk⟩ := C
  obtain ⟨z1, z2, hr, hQ9⟩ := D
  subst z1; subst z2; subst hQ9
  exact W.zret hx hb9 hr rfl (fun t ht hW => ⟨⟨some (vI 1), hs, tp, rfl, ⟨rfl, S⟩, Wd.of hP hK hZ hS ht hW⟩, hS.F ht⟩) (fun q hq => hS.2.2 q hq) dL_sums_610 hlk
set_option maxRecDepth 100000 in
set_option maxHeartbeats 8000000 in
theorem m_L_sums {hs : Nat → HV} {tp : HV} {r : Int → Int} {k : Int} {E : HE} (hE : HI E) (S0 : HLS hs tp r k) (hV : V (r 0) r) : Mx yL_sums cL_sums 11 (some .boolean) 5 E [.ref (tA E 0)] hs tp (fun v hs' tp' => v = some (vI 1) ∧ HLS hs' tp' r k) := by
  refine mk_Mx hE (plainFor_of_name (by decide)) (Nat.le_of_ble_eq_true rfl) (by intro w0 hw0; simp only [List.mem_cons, List.not_mem_nil, or_false] at hw0; subst hw0; rfl) (rfl : _ = [_, _, _, _, _, _, _, _, _, _, _]) ?_
  intro F C D
  have R := S0.mr
  have rc := R.came
  have d0 := S0.day
  have rs := R.sets
  refine x_const C dL_sums_0 ?_
  refine x_istore_n C dL_sums_1 (by decide) (rfl : _ = [_, _, _, _, _, _, _, _, _, _, _]) ?_
  refine x_const C dL_sums_2 ?_
  refine x_istore_n C dL_sums_3 (by decide) (rfl : _ = [_, _, _, _, _, _, _, _, _, _, _]) ?_
  refine x_aload_n C dL_sums_4 rfl ?_
  refine x_bipush C dL_sums_5 (by decide) ?_
  refine x_callV (nA := 1) (As := [vI 25]) (rest := []) C (l_cnt hE S0 ⟨by decide, by decide⟩ (by decide) (by decide) (show yCount zM r 25 = r 17 from rfl)) q_282 q_283 q_284 q_21 q_285 (by decide +kernel) (wl_t 0 (by decide)) rfl rfl (by decide) (by decide) (Nat.le_of_ble_eq_true rfl) dL_sums_7 rfl ?_
  refine x_istore_n C dL_sums_10 (by decide) (rfl : _ = [_, _, _, _, _, _, _, _, _, _, _]) ?_
  refine x_aload_n C dL_sums_11 rfl ?_
  refine x_const C dL_sums_12 ?_
  refine x_callV (nA := 1) (As := [vI 0]) (rest := []) C (l_cnt hE S0 ⟨by decide, by decide⟩ (by decide) (by decide) (show yCount zM r 0 = r 0 from rfl)) q_282 q_283 q_284 q_21 q_285 (by decide +kernel) (wl_t 0 (by decide)) rfl rfl (by decide) (by decide) (Nat.le_of_ble_eq_true rfl) dL_sums_13 rfl ?_
  refine x_istore C dL_sums_16 (by decide) (rfl : _ = [_, _, _, _, _, _, _, _, _, _, _]) ?_
  refine x_const C dL_sums_18 ?_
  refine x_istore C dL_sums_19 (by decide) (rfl : _ = [_, _, _, _, _, _, _, _, _, _, _]) ?_
  have K21 : ∀ (nn : Nat) (i : Int), 0 ≤ i → i ≤ r 1 → r 1 - i < nn →  G F E hs tp zM 21 [some (.ref (tA E 0)), some (vI (sumI (mThere r) i)), some (vI (sumI (mHeld r) i)), some (vI (r 17)), some (vI (r 0)), some (vI i), none, none, none, none, none] [] := by
    intro nn
    induction nn with
    | zero => intro i i0 i1 hz; exact absurd hz (by omega)
    | succ nn ih =>
      intro i i0 i1 hz
      refine x_iload C dL_sums_21 rfl ?_
      refine x_aload_n C dL_sums_23 rfl ?_
      refine x_const C dL_sums_24 ?_
      refine x_callV (nA := 1) (As := [vI 1]) (rest := [vI i]) C (l_cnt hE S0 ⟨by decide, by decide⟩ (by decide) (by decide) (show yCount zM r 1 = r 1 from rfl)) q_282 q_283 q_284 q_21 q_285 (by decide +kernel) (wl_t 0 (by decide)) rfl rfl (by decide) (by decide) (Nat.le_of_ble_eq_true rfl) dL_sums_25 rfl ?_
      refine x_icmp_ge 320 C dL_sums_28 (by decide) ⟨by omega, by omega⟩ ⟨by omega, by omega⟩ (fun c_1 => ?_) (fun c_1 => ?_)
      · have hi : i = r 1 := by omega
        subst hi
        have hN : sumI (mThere r) (r 1) = nPer r := rfl
        have hP := nPer_r R
        refine x_iload C dL_sums_320 rfl ?_
        refine x_istore C dL_sums_322 (by decide) (rfl : _ = [_, _, _, _, _, _, _, _, _, _, _]) ?_
        have K324 : ∀ (nn : Nat) (n : Int), r 0 ≤ n → n ≤ 1100 → 1200 - n < nn →  G F E hs tp zM 324 [some (.ref (tA E 0)), some (vI (sumI (mThere r) (r 1))), some (vI (sumI (mHeld r) (r 1))), some (vI (r 17)), some (vI (r 0)), some (vI n), none, none, none, none, none] [] := by
          intro nn2
          induction nn2 with
          | zero => intro n n0 n1 hz2; exact absurd hz2 (by omega)
          | succ nn2 ih2 =>
            intro n n0 n1 hz2
            refine x_iload C dL_sums_324 rfl ?_
            refine x_iload C dL_sums_326 rfl ?_
            refine x_bipush C dL_sums_328 (by decide) ?_
            refine x_iadd C dL_sums_330 ?_
            refine x_icmp_ge 384 C dL_sums_331 (by decide) ⟨by omega, by omega⟩ ⟨by omega, by omega⟩ (fun c_2 => ?_) (fun c_2 => ?_)
            · refine x_aload_n C dL_sums_384 rfl ?_
              refine x_const C dL_sums_385 ?_
              refine x_callV (nA := 1) (As := [vI 2]) (rest := []) C (l_cnt hE S0 ⟨by decide, by decide⟩ (by decide) (by decide) (show yCount zM r 2 = sumI (mMany r 0) (r 1) from rfl)) q_282 q_283 q_284 q_21 q_285 (by decide +kernel) (wl_t 0 (by decide)) rfl rfl (by decide) (by decide) (Nat.le_of_ble_eq_true rfl) dL_sums_386 rfl ?_
              refine x_aload_n C dL_sums_389 rfl ?_
              refine x_const C dL_sums_390 ?_
              refine x_callV (nA := 1) (As := [vI 3]) (rest := [vI (sumI (mMany r 0) (r 1))]) C (l_cnt hE S0 ⟨by decide, by decide⟩ (by decide) (by decide) (show yCount zM r 3 = sumI (mMany r 1) (r 1) from rfl)) q_282 q_283 q_284 q_21 q_285 (by decide +kernel) (wl_t 0 (by decide)) rfl rfl (by decide) (by decide) (Nat.le_of_ble_eq_true rfl) dL_sums_391 rfl ?_
              refine x_iadd C dL_sums_394 ?_
              refine x_aload_n C dL_sums_395 rfl ?_
              refine x_const C dL_sums_396 ?_
              refine x_callV (nA := 1) (As := [vI 4]) (rest := [vI ((sumI (mMany r 0) (r 1)) + (sumI (mMany r 1) (r 1)))]) C (l_cnt hE S0 ⟨by decide, by decide⟩ (by decide) (by decide) (show yCount zM r 4 = sumI (mMany r 2) (r 1) from rfl)) q_282 q_283 q_284 q_21 q_285 (by decide +kernel) (wl_t 0 (by decide)) rfl rfl (by decide) (by decide) (Nat.le_of_ble_eq_true rfl) dL_sums_397 rfl ?_
              refine x_iadd C dL_sums_400 ?_
              refine x_aload_n C dL_sums_401 rfl ?_
              refine x_const C dL_sums_402 ?_
              refine x_callV (nA := 1) (As := [vI 5]) (rest := [vI (((sumI (mMany r 0) (r 1)) + (sumI (mMany r 1) (r 1))) + (sumI (mMany r 2) (r 1)))]) C (l_cnt hE S0 ⟨by decide, by decide⟩ (by decide) (by decide) (show yCount zM r 5 = sumI (mMany r 3) (r 1) from rfl)) q_282 q_283 q_284 q_21 q_285 (by decide +kernel) (wl_t 0 (by decide)) rfl rfl (by decide) (by decide) (Nat.le_of_ble_eq_true rfl) dL_sums_403 rfl ?_
              refine x_iadd C dL_sums_406 ?_
              refine x_aload_n C dL_sums_407 rfl ?_
              refine x_bipush C dL_sums_408 (by decide) ?_
              refine x_callV (nA := 1) (As := [vI 6]) (rest := [vI ((((sumI (mMany r 0) (r 1)) + (sumI (mMany r 1) (r 1))) + (sumI (mMany r 2) (r 1))) + (sumI (mMany r 3) (r 1)))]) C (l_cnt hE S0 ⟨by decide, by decide⟩ (by decide) (by decide) (show yCount zM r 6 = sumI (mMany r 4) (r 1) from rfl)) q_282 q_283 q_284 q_21 q_285 (by decide +kernel) (wl_t 0 (by decide)) rfl rfl (by decide) (by decide) (Nat.le_of_ble_eq_true rfl) dL_sums_410 rfl ?_
              refine x_iadd C dL_sums_413 ?_
              refine x_istore C dL_sums_414 (by decide) (rfl : _ = [_, _, _, _, _, _, _, _, _, _, _]) ?_
              refine x_iload_n C dL_sums_416 rfl ?_
              refine x_iload_n C dL_sums_417 rfl ?_
              refine x_icmp_le 427 C dL_sums_418 (by decide) ⟨by omega, by omega⟩ ⟨by omega, by omega⟩ (fun c_3 => ?_) (fun c_3 => ?_)
              · refine x_const C dL_sums_427 ?_
                refine x_istore C dL_sums_428 (by decide) (rfl : _ = [_, _, _, _, _, _, _, _, _, _, _]) ?_
                refine x_aload_n C dL_sums_430 rfl ?_
                obtain ⟨tp1, M1, S1⟩ := l_full hE S0
                refine x_callV (nA := 0) (As := []) (rest := []) C M1 q_408 q_409 q_410 q_21 q_411 (by decide +kernel) (wl_t 0 (by decide)) rfl rfl (by decide) (by decide) (Nat.le_of_ble_eq_true rfl) dL_sums_431 rfl ?_
                refine x_istore C dL_sums_434 (by decide) (rfl : _ = [_, _, _, _, _, _, _, _, _, _, _]) ?_
                rcases full_x (r := r) ⟨by omega, by omega⟩ with hf | hf
                · rw [hf]
                  refine x_iload C dL_sums_436 rfl ?_
                  refine x_if_lt 487 C dL_sums_438 (by decide) ⟨by decide, by decide⟩ (fun _ => ?_) (fun z => absurd z (by decide))
                  refine x_aload_n C dL_sums_487 rfl ?_
                  refine x_iload C dL_sums_488 rfl ?_
                  refine x_iload C dL_sums_490 rfl ?_
                  refine x_callV (nA := 2) (As := [vI (r 0), vI (r 0)]) (rest := []) C (l_use hE S1 ⟨by omega, by omega⟩ ⟨by omega, by omega⟩) q_419 q_420 q_421 q_21 q_422 (by decide +kernel) (wl_t 0 (by decide)) rfl rfl (by decide) (by decide) (Nat.le_of_ble_eq_true rfl) dL_sums_492 rfl ?_
                  exact sums_end C D hE S1 hV (Or.inr ⟨by omega, rfl⟩) ⟨by omega, by omega⟩
                · obtain ⟨f0, f1, f2, f3⟩ := hf
                  refine x_iload C dL_sums_436 rfl ?_
                  refine x_if_lt 487 C dL_sums_438 (by decide) ⟨by omega, by omega⟩ (fun c_4 => absurd c_4 (by omega)) (fun c_4 => ?_)
                  refine x_iload C dL_sums_441 rfl ?_
                  refine x_iload C dL_sums_443 rfl ?_
                  refine x_icmp_lt 485 C dL_sums_445 (by decide) ⟨by omega, by omega⟩ ⟨by omega, by omega⟩ (fun c_5 => absurd c_5 (by omega)) (fun c_5 => ?_)
                  refine x_aload_n C dL_sums_448 rfl ?_
                  refine x_iload C dL_sums_449 rfl ?_
                  refine x_const C dL_sums_451 ?_
                  refine x_callV (nA := 2) (As := [vI (yFull r), vI 0]) (rest := []) C (l_dy hE S1 (d := yFull r) ⟨by omega, by omega⟩ ⟨by decide, by decide⟩ (show yDay r (yFull r) 0 = mTk r (yFull r) from (if_neg (by omega)).trans rfl)) q_383 q_384 q_385 q_21 q_386 (by decide +kernel) (wl_t 0 (by decide)) rfl rfl (by decide) (by decide) (Nat.le_of_ble_eq_true rfl) dL_sums_452 rfl ?_
                  have t_6 := mTk_r R (n := yFull r)
                  refine x_const C dL_sums_455 ?_
                  refine x_icmp_lt 485 C dL_sums_456 (by decide) ⟨by omega, by omega⟩ ⟨by decide, by decide⟩ (fun c_7 => absurd c_7 (by omega)) (fun c_7 => ?_)
                  refine x_iload C dL_sums_459 rfl ?_
                  refine x_iload C dL_sums_461 rfl ?_
                  refine x_icmp_le 487 C dL_sums_463 (by decide) ⟨by omega, by omega⟩ ⟨by omega, by omega⟩ (fun c_8 => ?_) (fun c_8 => ?_)
                  · refine x_aload_n C dL_sums_487 rfl ?_
                    refine x_iload C dL_sums_488 rfl ?_
                    refine x_iload C dL_sums_490 rfl ?_
                    refine x_callV (nA := 2) (As := [vI (r 0), vI (r 0)]) (rest := []) C (l_use hE S1 ⟨by omega, by omega⟩ ⟨by omega, by omega⟩) q_419 q_420 q_421 q_21 q_422 (by decide +kernel) (wl_t 0 (by decide)) rfl rfl (by decide) (by decide) (Nat.le_of_ble_eq_true rfl) dL_sums_492 rfl ?_
                    exact sums_end C D hE S1 hV (Or.inr ⟨by omega, rfl⟩) ⟨by omega, by omega⟩
                  · have f4 := f3 (by omega)
                    refine x_aload_n C dL_sums_466 rfl ?_
                    refine x_iload C dL_sums_467 rfl ?_
                    refine x_const C dL_sums_469 ?_
                    refine x_isub C dL_sums_470 ?_
                    refine x_const C dL_sums_471 ?_
                    refine x_callV (nA := 2) (As := [vI ((yFull r) - 1), vI 0]) (rest := []) C (l_dy hE S1 (d := (yFull r) - 1) ⟨by omega, by omega⟩ ⟨by decide, by decide⟩ (show yDay r ((yFull r) - 1) 0 = mTk r ((yFull r) - 1) from (if_neg (by omega)).trans rfl)) q_383 q_384 q_385 q_21 q_386 (by decide +kernel) (wl_t 0 (by decide)) rfl rfl (by decide) (by decide) (Nat.le_of_ble_eq_true rfl) dL_sums_472 rfl ?_
                    have t_9 := mTk_r R (n := (yFull r) - 1)
                    refine x_aload_n C dL_sums_475 rfl ?_
                    refine x_iload C dL_sums_476 rfl ?_
                    refine x_const C dL_sums_478 ?_
                    refine x_callV (nA := 2) (As := [vI (yFull r), vI 0]) (rest := [vI (mTk r ((yFull r) - 1))]) C (l_dy hE S1 (d := yFull r) ⟨by omega, by omega⟩ ⟨by decide, by decide⟩ (show yDay r (yFull r) 0 = mTk r (yFull r) from (if_neg (by omega)).trans rfl)) q_383 q_384 q_385 q_21 q_386 (by decide +kernel) (wl_t 0 (by decide)) rfl rfl (by decide) (by decide) (Nat.le_of_ble_eq_true rfl) dL_sums_479 rfl ?_
                    have t_10 := mTk_r R (n := yFull r)
                    refine x_icmp_lt 487 C dL_sums_482 (by decide) ⟨by omega, by omega⟩ ⟨by omega, by omega⟩ (fun c_11 => ?_) (fun c_11 => absurd c_11 (by omega))
                    refine x_aload_n C dL_sums_487 rfl ?_
                    refine x_iload C dL_sums_488 rfl ?_
                    refine x_iload C dL_sums_490 rfl ?_
                    refine x_callV (nA := 2) (As := [vI (r 0), vI (r 0)]) (rest := []) C (l_use hE S1 ⟨by omega, by omega⟩ ⟨by omega, by omega⟩) q_419 q_420 q_421 q_21 q_422 (by decide +kernel) (wl_t 0 (by decide)) rfl rfl (by decide) (by decide) (Nat.le_of_ble_eq_true rfl) dL_sums_492 rfl ?_
                    exact sums_end C D hE S1 hV (Or.inr ⟨by omega, rfl⟩) ⟨by omega, by omega⟩
              · refine x_iload_n C dL_sums_421 rfl ?_
                refine x_iload_n C dL_sums_422 rfl ?_
                refine x_isub C dL_sums_423 ?_
                refine x_goto 428 C dL_sums_424 (by decide) ?_
                refine x_istore C dL_sums_428 (by decide) (rfl : _ = [_, _, _, _, _, _, _, _, _, _, _]) ?_
                refine x_aload_n C dL_sums_430 rfl ?_
                obtain ⟨tp1, M1, S1⟩ := l_full hE S0
                refine x_callV (nA := 0) (As := []) (rest := []) C M1 q_408 q_409 q_410 q_21 q_411 (by decide +kernel) (wl_t 0 (by decide)) rfl rfl (by decide) (by decide) (Nat.le_of_ble_eq_true rfl) dL_sums_431 rfl ?_
                refine x_istore C dL_sums_434 (by decide) (rfl : _ = [_, _, _, _, _, _, _, _, _, _, _]) ?_
                rcases full_x (r := r) ⟨by omega, by omega⟩ with hf | hf
                · rw [hf]
                  refine x_iload C dL_sums_436 rfl ?_
                  refine x_if_lt 487 C dL_sums_438 (by decide) ⟨by decide, by decide⟩ (fun _ => ?_) (fun z => absurd z (by decide))
                  refine x_aload_n C dL_sums_487 rfl ?_
                  refine x_iload C dL_sums_488 rfl ?_
                  refine x_iload C dL_sums_490 rfl ?_
                  refine x_callV (nA := 2) (As := [vI (r 0), vI (r 0)]) (rest := []) C (l_use hE S1 ⟨by omega, by omega⟩ ⟨by omega, by omega⟩) q_419 q_420 q_421 q_21 q_422 (by decide +kernel) (wl_t 0 (by decide)) rfl rfl (by decide) (by decide) (Nat.le_of_ble_eq_true rfl) dL_sums_492 rfl ?_
                  exact sums_end C D hE S1 hV (Or.inl ⟨by omega, rfl⟩) ⟨by omega, by omega⟩
                · obtain ⟨f0, f1, f2, f3⟩ := hf
                  refine x_iload C dL_sums_436 rfl ?_
                  refine x_if_lt 487 C dL_sums_438 (by decide) ⟨by omega, by omega⟩ (fun c_12 => absurd c_12 (by omega)) (fun c_12 => ?_)
                  refine x_iload C dL_sums_441 rfl ?_
                  refine x_iload C dL_sums_443 rfl ?_
                  refine x_icmp_lt 485 C dL_sums_445 (by decide) ⟨by omega, by omega⟩ ⟨by omega, by omega⟩ (fun c_13 => absurd c_13 (by omega)) (fun c_13 => ?_)
                  refine x_aload_n C dL_sums_448 rfl ?_
                  refine x_iload C dL_sums_449 rfl ?_
                  refine x_const C dL_sums_451 ?_
                  refine x_callV (nA := 2) (As := [vI (yFull r), vI 0]) (rest := []) C (l_dy hE S1 (d := yFull r) ⟨by omega, by omega⟩ ⟨by decide, by decide⟩ (show yDay r (yFull r) 0 = mTk r (yFull r) from (if_neg (by omega)).trans rfl)) q_383 q_384 q_385 q_21 q_386 (by decide +kernel) (wl_t 0 (by decide)) rfl rfl (by decide) (by decide) (Nat.le_of_ble_eq_true rfl) dL_sums_452 rfl ?_
                  have t_14 := mTk_r R (n := yFull r)
                  refine x_const C dL_sums_455 ?_
                  refine x_icmp_lt 485 C dL_sums_456 (by decide) ⟨by omega, by omega⟩ ⟨by decide, by decide⟩ (fun c_15 => absurd c_15 (by omega)) (fun c_15 => ?_)
                  refine x_iload C dL_sums_459 rfl ?_
                  refine x_iload C dL_sums_461 rfl ?_
                  refine x_icmp_le 487 C dL_sums_463 (by decide) ⟨by omega, by omega⟩ ⟨by omega, by omega⟩ (fun c_16 => ?_) (fun c_16 => ?_)
                  · refine x_aload_n C dL_sums_487 rfl ?_
                    refine x_iload C dL_sums_488 rfl ?_
                    refine x_iload C dL_sums_490 rfl ?_
                    refine x_callV (nA := 2) (As := [vI (r 0), vI (r 0)]) (rest := []) C (l_use hE S1 ⟨by omega, by omega⟩ ⟨by omega, by omega⟩) q_419 q_420 q_421 q_21 q_422 (by decide +kernel) (wl_t 0 (by decide)) rfl rfl (by decide) (by decide) (Nat.le_of_ble_eq_true rfl) dL_sums_492 rfl ?_
                    exact sums_end C D hE S1 hV (Or.inl ⟨by omega, rfl⟩) ⟨by omega, by omega⟩
                  · have f4 := f3 (by omega)
                    refine x_aload_n C dL_sums_466 rfl ?_
                    refine x_iload C dL_sums_467 rfl ?_
                    refine x_const C dL_sums_469 ?_
                    refine x_isub C dL_sums_470 ?_
                    refine x_const C dL_sums_471 ?_
                    refine x_callV (nA := 2) (As := [vI ((yFull r) - 1), vI 0]) (rest := []) C (l_dy hE S1 (d := (yFull r) - 1) ⟨by omega, by omega⟩ ⟨by decide, by decide⟩ (show yDay r ((yFull r) - 1) 0 = mTk r ((yFull r) - 1) from (if_neg (by omega)).trans rfl)) q_383 q_384 q_385 q_21 q_386 (by decide +kernel) (wl_t 0 (by decide)) rfl rfl (by decide) (by decide) (Nat.le_of_ble_eq_true rfl) dL_sums_472 rfl ?_
                    have t_17 := mTk_r R (n := (yFull r) - 1)
                    refine x_aload_n C dL_sums_475 rfl ?_
                    refine x_iload C dL_sums_476 rfl ?_
                    refine x_const C dL_sums_478 ?_
                    refine x_callV (nA := 2) (As := [vI (yFull r), vI 0]) (rest := [vI (mTk r ((yFull r) - 1))]) C (l_dy hE S1 (d := yFull r) ⟨by omega, by omega⟩ ⟨by decide, by decide⟩ (show yDay r (yFull r) 0 = mTk r (yFull r) from (if_neg (by omega)).trans rfl)) q_383 q_384 q_385 q_21 q_386 (by decide +kernel) (wl_t 0 (by decide)) rfl rfl (by decide) (by decide) (Nat.le_of_ble_eq_true rfl) dL_sums_479 rfl ?_
                    have t_18 := mTk_r R (n := yFull r)
                    refine x_icmp_lt 487 C dL_sums_482 (by decide) ⟨by omega, by omega⟩ ⟨by omega, by omega⟩ (fun c_19 => ?_) (fun c_19 => absurd c_19 (by omega))
                    refine x_aload_n C dL_sums_487 rfl ?_
                    refine x_iload C dL_sums_488 rfl ?_
                    refine x_iload C dL_sums_490 rfl ?_
                    refine x_callV (nA := 2) (As := [vI (r 0), vI (r 0)]) (rest := []) C (l_use hE S1 ⟨by omega, by omega⟩ ⟨by omega, by omega⟩) q_419 q_420 q_421 q_21 q_422 (by decide +kernel) (wl_t 0 (by decide)) rfl rfl (by decide) (by decide) (Nat.le_of_ble_eq_true rfl) dL_sums_492 rfl ?_
                    exact sums_end C D hE S1 hV (Or.inl ⟨by omega, rfl⟩) ⟨by omega, by omega⟩
            · refine x_iload C dL_sums_334 rfl ?_
              refine x_sipush C dL_sums_336 (by decide) ?_
              refine x_icmp_ge 384 C dL_sums_339 (by decide) ⟨by omega, by omega⟩ ⟨by decide, by decide⟩ (fun c_20 => ?_) (fun c_20 => ?_)
              · refine x_aload_n C dL_sums_384 rfl ?_
                refine x_const C dL_sums_385 ?_
                refine x_callV (nA := 1) (As := [vI 2]) (rest := []) C (l_cnt hE S0 ⟨by decide, by decide⟩ (by decide) (by decide) (show yCount zM r 2 = sumI (mMany r 0) (r 1) from rfl)) q_282 q_283 q_284 q_21 q_285 (by decide +kernel) (wl_t 0 (by decide)) rfl rfl (by decide) (by decide) (Nat.le_of_ble_eq_true rfl) dL_sums_386 rfl ?_
                refine x_aload_n C dL_sums_389 rfl ?_
                refine x_const C dL_sums_390 ?_
                refine x_callV (nA := 1) (As := [vI 3]) (rest := [vI (sumI (mMany r 0) (r 1))]) C (l_cnt hE S0 ⟨by decide, by decide⟩ (by decide) (by decide) (show yCount zM r 3 = sumI (mMany r 1) (r 1) from rfl)) q_282 q_283 q_284 q_21 q_285 (by decide +kernel) (wl_t 0 (by decide)) rfl rfl (by decide) (by decide) (Nat.le_of_ble_eq_true rfl) dL_sums_391 rfl ?_
                refine x_iadd C dL_sums_394 ?_
                refine x_aload_n C dL_sums_395 rfl ?_
                refine x_const C dL_sums_396 ?_
                refine x_callV (nA := 1) (As := [vI 4]) (rest := [vI ((sumI (mMany r 0) (r 1)) + (sumI (mMany r 1) (r 1)))]) C (l_cnt hE S0 ⟨by decide, by decide⟩ (by decide) (by decide) (show yCount zM r 4 = sumI (mMany r 2) (r 1) from rfl)) q_282 q_283 q_284 q_21 q_285 (by decide +kernel) (wl_t 0 (by decide)) rfl rfl (by decide) (by decide) (Nat.le_of_ble_eq_true rfl) dL_sums_397 rfl ?_
                refine x_iadd C dL_sums_400 ?_
                refine x_aload_n C dL_sums_401 rfl ?_
                refine x_const C dL_sums_402 ?_
                refine x_callV (nA := 1) (As := [vI 5]) (rest := [vI (((sumI (mMany r 0) (r 1)) + (sumI (mMany r 1) (r 1))) + (sumI (mMany r 2) (r 1)))]) C (l_cnt hE S0 ⟨by decide, by decide⟩ (by decide) (by decide) (show yCount zM r 5 = sumI (mMany r 3) (r 1) from rfl)) q_282 q_283 q_284 q_21 q_285 (by decide +kernel) (wl_t 0 (by decide)) rfl rfl (by decide) (by decide) (Nat.le_of_ble_eq_true rfl) dL_sums_403 rfl ?_
                refine x_iadd C dL_sums_406 ?_
                refine x_aload_n C dL_sums_407 rfl ?_
                refine x_bipush C dL_sums_408 (by decide) ?_
                refine x_callV (nA := 1) (As := [vI 6]) (rest := [vI ((((sumI (mMany r 0) (r 1)) + (sumI (mMany r 1) (r 1))) + (sumI (mMany r 2) (r 1))) + (sumI (mMany r 3) (r 1)))]) C (l_cnt hE S0 ⟨by decide, by decide⟩ (by decide) (by decide) (show yCount zM r 6 = sumI (mMany r 4) (r 1) from rfl)) q_282 q_283 q_284 q_21 q_285 (by decide +kernel) (wl_t 0 (by decide)) rfl rfl (by decide) (by decide) (Nat.le_of_ble_eq_true rfl) dL_sums_410 rfl ?_
                refine x_iadd C dL_sums_413 ?_
                refine x_istore C dL_sums_414 (by decide) (rfl : _ = [_, _, _, _, _, _, _, _, _, _, _]) ?_
                refine x_iload_n C dL_sums_416 rfl ?_
                refine x_iload_n C dL_sums_417 rfl ?_
                refine x_icmp_le 427 C dL_sums_418 (by decide) ⟨by omega, by omega⟩ ⟨by omega, by omega⟩ (fun c_21 => ?_) (fun c_21 => ?_)
                · refine x_const C dL_sums_427 ?_
                  refine x_istore C dL_sums_428 (by decide) (rfl : _ = [_, _, _, _, _, _, _, _, _, _, _]) ?_
                  refine x_aload_n C dL_sums_430 rfl ?_
                  obtain ⟨tp1, M1, S1⟩ := l_full hE S0
                  refine x_callV (nA := 0) (As := []) (rest := []) C M1 q_408 q_409 q_410 q_21 q_411 (by decide +kernel) (wl_t 0 (by decide)) rfl rfl (by decide) (by decide) (Nat.le_of_ble_eq_true rfl) dL_sums_431 rfl ?_
                  refine x_istore C dL_sums_434 (by decide) (rfl : _ = [_, _, _, _, _, _, _, _, _, _, _]) ?_
                  rcases full_x (r := r) ⟨by omega, by omega⟩ with hf | hf
                  · rw [hf]
                    refine x_iload C dL_sums_436 rfl ?_
                    refine x_if_lt 487 C dL_sums_438 (by decide) ⟨by decide, by decide⟩ (fun _ => ?_) (fun z => absurd z (by decide))
                    refine x_aload_n C dL_sums_487 rfl ?_
                    refine x_iload C dL_sums_488 rfl ?_
                    refine x_iload C dL_sums_490 rfl ?_
                    refine x_callV (nA := 2) (As := [vI (r 0), vI (r 0)]) (rest := []) C (l_use hE S1 ⟨by omega, by omega⟩ ⟨by omega, by omega⟩) q_419 q_420 q_421 q_21 q_422 (by decide +kernel) (wl_t 0 (by decide)) rfl rfl (by decide) (by decide) (Nat.le_of_ble_eq_true rfl) dL_sums_492 rfl ?_
                    exact sums_end C D hE S1 hV (Or.inr ⟨by omega, rfl⟩) ⟨by omega, by omega⟩
                  · obtain ⟨f0, f1, f2, f3⟩ := hf
                    refine x_iload C dL_sums_436 rfl ?_
                    refine x_if_lt 487 C dL_sums_438 (by decide) ⟨by omega, by omega⟩ (fun c_22 => absurd c_22 (by omega)) (fun c_22 => ?_)
                    refine x_iload C dL_sums_441 rfl ?_
                    refine x_iload C dL_sums_443 rfl ?_
                    refine x_icmp_lt 485 C dL_sums_445 (by decide) ⟨by omega, by omega⟩ ⟨by omega, by omega⟩ (fun c_23 => absurd c_23 (by omega)) (fun c_23 => ?_)
                    refine x_aload_n C dL_sums_448 rfl ?_
                    refine x_iload C dL_sums_449 rfl ?_
                    refine x_const C dL_sums_451 ?_
                    refine x_callV (nA := 2) (As := [vI (yFull r), vI 0]) (rest := []) C (l_dy hE S1 (d := yFull r) ⟨by omega, by omega⟩ ⟨by decide, by decide⟩ (show yDay r (yFull r) 0 = mTk r (yFull r) from (if_neg (by omega)).trans rfl)) q_383 q_384 q_385 q_21 q_386 (by decide +kernel) (wl_t 0 (by decide)) rfl rfl (by decide) (by decide) (Nat.le_of_ble_eq_true rfl) dL_sums_452 rfl ?_
                    have t_24 := mTk_r R (n := yFull r)
                    refine x_const C dL_sums_455 ?_
                    refine x_icmp_lt 485 C dL_sums_456 (by decide) ⟨by omega, by omega⟩ ⟨by decide, by decide⟩ (fun c_25 => absurd c_25 (by omega)) (fun c_25 => ?_)
                    refine x_iload C dL_sums_459 rfl ?_
                    refine x_iload C dL_sums_461 rfl ?_
                    refine x_icmp_le 487 C dL_sums_463 (by decide) ⟨by omega, by omega⟩ ⟨by omega, by omega⟩ (fun c_26 => ?_) (fun c_26 => ?_)
                    · refine x_aload_n C dL_sums_487 rfl ?_
                      refine x_iload C dL_sums_488 rfl ?_
                      refine x_iload C dL_sums_490 rfl ?_
                      refine x_callV (nA := 2) (As := [vI (r 0), vI (r 0)]) (rest := []) C (l_use hE S1 ⟨by omega, by omega⟩ ⟨by omega, by omega⟩) q_419 q_420 q_421 q_21 q_422 (by decide +kernel) (wl_t 0 (by decide)) rfl rfl (by decide) (by decide) (Nat.le_of_ble_eq_true rfl) dL_sums_492 rfl ?_
                      exact sums_end C D hE S1 hV (Or.inr ⟨by omega, rfl⟩) ⟨by omega, by omega⟩
                    · have f4 := f3 (by omega)
                      refine x_aload_n C dL_sums_466 rfl ?_
                      refine x_iload C dL_sums_467 rfl ?_
                      refine x_const C dL_sums_469 ?_
                      refine x_isub C dL_sums_470 ?_
                      refine x_const C dL_sums_471 ?_
                      refine x_callV (nA := 2) (As := [vI ((yFull r) - 1), vI 0]) (rest := []) C (l_dy hE S1 (d := (yFull r) - 1) ⟨by omega, by omega⟩ ⟨by decide, by decide⟩ (show yDay r ((yFull r) - 1) 0 = mTk r ((yFull r) - 1) from (if_neg (by omega)).trans rfl)) q_383 q_384 q_385 q_21 q_386 (by decide +kernel) (wl_t 0 (by decide)) rfl rfl (by decide) (by decide) (Nat.le_of_ble_eq_true rfl) dL_sums_472 rfl ?_
                      have t_27 := mTk_r R (n := (yFull r) - 1)
                      refine x_aload_n C dL_sums_475 rfl ?_
                      refine x_iload C dL_sums_476 rfl ?_
                      refine x_const C dL_sums_478 ?_
                      refine x_callV (nA := 2) (As := [vI (yFull r), vI 0]) (rest := [vI (mTk r ((yFull r) - 1))]) C (l_dy hE S1 (d := yFull r) ⟨by omega, by omega⟩ ⟨by decide, by decide⟩ (show yDay r (yFull r) 0 = mTk r (yFull r) from (if_neg (by omega)).trans rfl)) q_383 q_384 q_385 q_21 q_386 (by decide +kernel) (wl_t 0 (by decide)) rfl rfl (by decide) (by decide) (Nat.le_of_ble_eq_true rfl) dL_sums_479 rfl ?_
                      have t_28 := mTk_r R (n := yFull r)
                      refine x_icmp_lt 487 C dL_sums_482 (by decide) ⟨by omega, by omega⟩ ⟨by omega, by omega⟩ (fun c_29 => ?_) (fun c_29 => absurd c_29 (by omega))
                      refine x_aload_n C dL_sums_487 rfl ?_
                      refine x_iload C dL_sums_488 rfl ?_
                      refine x_iload C dL_sums_490 rfl ?_
                      refine x_callV (nA := 2) (As := [vI (r 0), vI (r 0)]) (rest := []) C (l_use hE S1 ⟨by omega, by omega⟩ ⟨by omega, by omega⟩) q_419 q_420 q_421 q_21 q_422 (by decide +kernel) (wl_t 0 (by decide)) rfl rfl (by decide) (by decide) (Nat.le_of_ble_eq_true rfl) dL_sums_492 rfl ?_
                      exact sums_end C D hE S1 hV (Or.inr ⟨by omega, rfl⟩) ⟨by omega, by omega⟩
                · refine x_iload_n C dL_sums_421 rfl ?_
                  refine x_iload_n C dL_sums_422 rfl ?_
                  refine x_isub C dL_sums_423 ?_
                  refine x_goto 428 C dL_sums_424 (by decide) ?_
                  refine x_istore C dL_sums_428 (by decide) (rfl : _ = [_, _, _, _, _, _, _, _, _, _, _]) ?_
                  refine x_aload_n C dL_sums_430 rfl ?_
                  obtain ⟨tp1, M1, S1⟩ := l_full hE S0
                  refine x_callV (nA := 0) (As := []) (rest := []) C M1 q_408 q_409 q_410 q_21 q_411 (by decide +kernel) (wl_t 0 (by decide)) rfl rfl (by decide) (by decide) (Nat.le_of_ble_eq_true rfl) dL_sums_431 rfl ?_
                  refine x_istore C dL_sums_434 (by decide) (rfl : _ = [_, _, _, _, _, _, _, _, _, _, _]) ?_
                  rcases full_x (r := r) ⟨by omega, by omega⟩ with hf | hf
                  · rw [hf]
                    refine x_iload C dL_sums_436 rfl ?_
                    refine x_if_lt 487 C dL_sums_438 (by decide) ⟨by decide, by decide⟩ (fun _ => ?_) (fun z => absurd z (by decide))
                    refine x_aload_n C dL_sums_487 rfl ?_
                    refine x_iload C dL_sums_488 rfl ?_
                    refine x_iload C dL_sums_490 rfl ?_
                    refine x_callV (nA := 2) (As := [vI (r 0), vI (r 0)]) (rest := []) C (l_use hE S1 ⟨by omega, by omega⟩ ⟨by omega, by omega⟩) q_419 q_420 q_421 q_21 q_422 (by decide +kernel) (wl_t 0 (by decide)) rfl rfl (by decide) (by decide) (Nat.le_of_ble_eq_true rfl) dL_sums_492 rfl ?_
                    exact sums_end C D hE S1 hV (Or.inl ⟨by omega, rfl⟩) ⟨by omega, by omega⟩
                  · obtain ⟨f0, f1, f2, f3⟩ := hf
                    refine x_iload C dL_sums_436 rfl ?_
                    refine x_if_lt 487 C dL_sums_438 (by decide) ⟨by omega, by omega⟩ (fun c_30 => absurd c_30 (by omega)) (fun c_30 => ?_)
                    refine x_iload C dL_sums_441 rfl ?_
                    refine x_iload C dL_sums_443 rfl ?_
                    refine x_icmp_lt 485 C dL_sums_445 (by decide) ⟨by omega, by omega⟩ ⟨by omega, by omega⟩ (fun c_31 => absurd c_31 (by omega)) (fun c_31 => ?_)
                    refine x_aload_n C dL_sums_448 rfl ?_
                    refine x_iload C dL_sums_449 rfl ?_
                    refine x_const C dL_sums_451 ?_
                    refine x_callV (nA := 2) (As := [vI (yFull r), vI 0]) (rest := []) C (l_dy hE S1 (d := yFull r) ⟨by omega, by omega⟩ ⟨by decide, by decide⟩ (show yDay r (yFull r) 0 = mTk r (yFull r) from (if_neg (by omega)).trans rfl)) q_383 q_384 q_385 q_21 q_386 (by decide +kernel) (wl_t 0 (by decide)) rfl rfl (by decide) (by decide) (Nat.le_of_ble_eq_true rfl) dL_sums_452 rfl ?_
                    have t_32 := mTk_r R (n := yFull r)
                    refine x_const C dL_sums_455 ?_
                    refine x_icmp_lt 485 C dL_sums_456 (by decide) ⟨by omega, by omega⟩ ⟨by decide, by decide⟩ (fun c_33 => absurd c_33 (by omega)) (fun c_33 => ?_)
                    refine x_iload C dL_sums_459 rfl ?_
                    refine x_iload C dL_sums_461 rfl ?_
                    refine x_icmp_le 487 C dL_sums_463 (by decide) ⟨by omega, by omega⟩ ⟨by omega, by omega⟩ (fun c_34 => ?_) (fun c_34 => ?_)
                    · refine x_aload_n C dL_sums_487 rfl ?_
                      refine x_iload C dL_sums_488 rfl ?_
                      refine x_iload C dL_sums_490 rfl ?_
                      refine x_callV (nA := 2) (As := [vI (r 0), vI (r 0)]) (rest := []) C (l_use hE S1 ⟨by omega, by omega⟩ ⟨by omega, by omega⟩) q_419 q_420 q_421 q_21 q_422 (by decide +kernel) (wl_t 0 (by decide)) rfl rfl (by decide) (by decide) (Nat.le_of_ble_eq_true rfl) dL_sums_492 rfl ?_
                      exact sums_end C D hE S1 hV (Or.inl ⟨by omega, rfl⟩) ⟨by omega, by omega⟩
                    · have f4 := f3 (by omega)
                      refine x_aload_n C dL_sums_466 rfl ?_
                      refine x_iload C dL_sums_467 rfl ?_
                      refine x_const C dL_sums_469 ?_
                      refine x_isub C dL_sums_470 ?_
                      refine x_const C dL_sums_471 ?_
                      refine x_callV (nA := 2) (As := [vI ((yFull r) - 1), vI 0]) (rest := []) C (l_dy hE S1 (d := (yFull r) - 1) ⟨by omega, by omega⟩ ⟨by decide, by decide⟩ (show yDay r ((yFull r) - 1) 0 = mTk r ((yFull r) - 1) from (if_neg (by omega)).trans rfl)) q_383 q_384 q_385 q_21 q_386 (by decide +kernel) (wl_t 0 (by decide)) rfl rfl (by decide) (by decide) (Nat.le_of_ble_eq_true rfl) dL_sums_472 rfl ?_
                      have t_35 := mTk_r R (n := (yFull r) - 1)
                      refine x_aload_n C dL_sums_475 rfl ?_
                      refine x_iload C dL_sums_476 rfl ?_
                      refine x_const C dL_sums_478 ?_
                      refine x_callV (nA := 2) (As := [vI (yFull r), vI 0]) (rest := [vI (mTk r ((yFull r) - 1))]) C (l_dy hE S1 (d := yFull r) ⟨by omega, by omega⟩ ⟨by decide, by decide⟩ (show yDay r (yFull r) 0 = mTk r (yFull r) from (if_neg (by omega)).trans rfl)) q_383 q_384 q_385 q_21 q_386 (by decide +kernel) (wl_t 0 (by decide)) rfl rfl (by decide) (by decide) (Nat.le_of_ble_eq_true rfl) dL_sums_479 rfl ?_
                      have t_36 := mTk_r R (n := yFull r)
                      refine x_icmp_lt 487 C dL_sums_482 (by decide) ⟨by omega, by omega⟩ ⟨by omega, by omega⟩ (fun c_37 => ?_) (fun c_37 => absurd c_37 (by omega))
                      refine x_aload_n C dL_sums_487 rfl ?_
                      refine x_iload C dL_sums_488 rfl ?_
                      refine x_iload C dL_sums_490 rfl ?_
                      refine x_callV (nA := 2) (As := [vI (r 0), vI (r 0)]) (rest := []) C (l_use hE S1 ⟨by omega, by omega⟩ ⟨by omega, by omega⟩) q_419 q_420 q_421 q_21 q_422 (by decide +kernel) (wl_t 0 (by decide)) rfl rfl (by decide) (by decide) (Nat.le_of_ble_eq_true rfl) dL_sums_492 rfl ?_
                      exact sums_end C D hE S1 hV (Or.inl ⟨by omega, rfl⟩) ⟨by omega, by omega⟩
              · refine x_aload_n C dL_sums_342 rfl ?_
                refine x_iload C dL_sums_343 rfl ?_
                refine x_const C dL_sums_345 ?_
                refine x_callV (nA := 2) (As := [vI n, vI 0]) (rest := []) C (l_dy hE S0 (d := n) ⟨by omega, by omega⟩ ⟨by decide, by decide⟩ (show yDay r n 0 = mTk r n from (if_neg (by omega)).trans rfl)) q_383 q_384 q_385 q_21 q_386 (by decide +kernel) (wl_t 0 (by decide)) rfl rfl (by decide) (by decide) (Nat.le_of_ble_eq_true rfl) dL_sums_346 rfl ?_
                have t_38 := mTk_r R (n := n)
                have hb := S0.beds (d := n) n0 (by omega)
                refine x_istore C dL_sums_349 (by decide) (rfl : _ = [_, _, _, _, _, _, _, _, _, _, _]) ?_
                refine x_iload C dL_sums_351 rfl ?_
                refine x_if_lt 376 C dL_sums_353 (by decide) ⟨by omega, by omega⟩ (fun c_39 => absurd c_39 (by omega)) (fun c_39 => ?_)
                refine x_iload C dL_sums_356 rfl ?_
                refine x_iload_n C dL_sums_358 rfl ?_
                refine x_icmp_gt 376 C dL_sums_359 (by decide) ⟨by omega, by omega⟩ ⟨by omega, by omega⟩ (fun c_40 => absurd c_40 (by omega)) (fun c_40 => ?_)
                refine x_aload_n C dL_sums_362 rfl ?_
                refine x_iload C dL_sums_363 rfl ?_
                refine x_const C dL_sums_365 ?_
                refine x_callV (nA := 2) (As := [vI n, vI 1]) (rest := []) C (l_dy hE S0 (d := n) ⟨by omega, by omega⟩ ⟨by decide, by decide⟩ (show yDay r n 1 = r 17 - mTk r n from (if_neg (by omega)).trans rfl)) q_383 q_384 q_385 q_21 q_386 (by decide +kernel) (wl_t 0 (by decide)) rfl rfl (by decide) (by decide) (Nat.le_of_ble_eq_true rfl) dL_sums_366 rfl ?_
                have t_41 := mTk_r R (n := n)
                refine x_iload_n C dL_sums_369 rfl ?_
                refine x_iload C dL_sums_370 rfl ?_
                refine x_isub C dL_sums_372 ?_
                refine x_same 378 C dL_sums_373 (by decide) rfl ?_
                refine x_iinc C dL_sums_378 rfl (by decide) (rfl : _ = [_, _, _, _, _, _, _, _, _, _, _]) ?_
                refine x_goto 324 C dL_sums_381 (by decide) ?_
                refine G.wk (ih2 (n + 1) (by omega) (by omega) (by omega)) ?_
                simp only [leL, and_self, and_true, true_and]; try trivial
        refine G.wk (K324 1300 (r 0) (by omega) (by omega) (by omega)) ?_
        simp only [leL, and_self, and_true, true_and]; try trivial
      · have hc : 0 ≤ i ∧ i ≤ r 1 - 1 := ⟨by omega, by omega⟩
        have rst := R.st (b := i) (by omega) (by omega)
        have ra := R.arr (b := i) (by omega) (by omega)
        have rn := R.nig (b := i) (by omega) (by omega)
        have rp := R.per (b := i) (by omega) (by omega)
        have rd := R.paid (b := i) (by omega) (by omega)
        have rm := R.cam (b := i) (by omega) (by omega)
        obtain ⟨k1, k2, k3, k5⟩ := hV.2.2 i (by omega) (by omega)
        rcases (show r (51 + 7 * i + 0) = 0 ∨ r (51 + 7 * i + 0) = 1 ∨ r (51 + 7 * i + 0) = 2 ∨ r (51 + 7 * i + 0) = 3 ∨ r (51 + 7 * i + 0) = 4 by omega) with hst | hst | hst | hst | hst
        · have k4 := k3 (by omega)
          rcases refund_or hc hst with hq | hq
          · refine x_aload_n C dL_sums_31 rfl ?_
            refine x_iload C dL_sums_32 rfl ?_
            refine x_const C dL_sums_34 ?_
            refine x_callV (nA := 2) (As := [vI i, vI 0]) (rest := []) C (l_bk hE S0 (b := i) ⟨by omega, by omega⟩ ⟨by decide, by decide⟩ ((yB0 hc).trans hst)) q_329 q_330 q_331 q_21 q_332 (by decide +kernel) (wl_t 0 (by decide)) rfl rfl (by decide) (by decide) (Nat.le_of_ble_eq_true rfl) dL_sums_35 rfl ?_
            refine x_istore C dL_sums_38 (by decide) (rfl : _ = [_, _, _, _, _, _, _, _, _, _, _]) ?_
            refine x_aload_n C dL_sums_40 rfl ?_
            refine x_iload C dL_sums_41 rfl ?_
            refine x_const C dL_sums_43 ?_
            refine x_callV (nA := 2) (As := [vI i, vI 1]) (rest := []) C (l_bk hE S0 (b := i) ⟨by omega, by omega⟩ ⟨by decide, by decide⟩ (yB1 hc)) q_329 q_330 q_331 q_21 q_332 (by decide +kernel) (wl_t 0 (by decide)) rfl rfl (by decide) (by decide) (Nat.le_of_ble_eq_true rfl) dL_sums_44 rfl ?_
            refine x_aload_n C dL_sums_47 rfl ?_
            refine x_iload C dL_sums_48 rfl ?_
            refine x_const C dL_sums_50 ?_
            refine x_callV (nA := 2) (As := [vI i, vI 2]) (rest := [vI (r (51 + 7 * i + 1))]) C (l_bk hE S0 (b := i) ⟨by omega, by omega⟩ ⟨by decide, by decide⟩ (yB2 hc)) q_329 q_330 q_331 q_21 q_332 (by decide +kernel) (wl_t 0 (by decide)) rfl rfl (by decide) (by decide) (Nat.le_of_ble_eq_true rfl) dL_sums_51 rfl ?_
            refine x_iadd C dL_sums_54 ?_
            refine x_istore C dL_sums_55 (by decide) (rfl : _ = [_, _, _, _, _, _, _, _, _, _, _]) ?_
            refine x_iload_n C dL_sums_57 rfl ?_
            refine x_iload C dL_sums_58 rfl ?_
            refine x_const C dL_sums_60 ?_
            refine x_icmp_ne 74 C dL_sums_61 (by decide) ⟨by decide, by decide⟩ ⟨by decide, by decide⟩ (fun _ => ?_) (fun z => absurd z (by decide))
            refine x_const C dL_sums_74 ?_
            refine x_iadd C dL_sums_75 ?_
            refine x_istore_n C dL_sums_76 (by decide) (rfl : _ = [_, _, _, _, _, _, _, _, _, _, _]) ?_
            refine x_iload_n C dL_sums_77 rfl ?_
            refine x_iload C dL_sums_78 rfl ?_
            refine x_const C dL_sums_80 ?_
            refine x_icmp_ge 95 C dL_sums_81 (by decide) ⟨by decide, by decide⟩ ⟨by decide, by decide⟩ (fun z => absurd z (by decide)) (fun _ => ?_)
            refine x_aload_n C dL_sums_84 rfl ?_
            refine x_iload C dL_sums_85 rfl ?_
            refine x_bipush C dL_sums_87 (by decide) ?_
            refine x_callV (nA := 2) (As := [vI i, vI 7]) (rest := [vI (sumI (mHeld r) i)]) C (l_bk hE S0 (b := i) ⟨by omega, by omega⟩ ⟨by decide, by decide⟩ (yB7 hc)) q_329 q_330 q_331 q_21 q_332 (by decide +kernel) (wl_t 0 (by decide)) rfl rfl (by decide) (by decide) (Nat.le_of_ble_eq_true rfl) dL_sums_89 rfl ?_
            refine x_goto 96 C dL_sums_92 (by decide) ?_
            refine x_iadd C dL_sums_96 ?_
            refine x_istore_n C dL_sums_97 (by decide) (rfl : _ = [_, _, _, _, _, _, _, _, _, _, _]) ?_
            refine x_iload C dL_sums_98 rfl ?_
            refine x_if_lt 136 C dL_sums_100 (by decide) ⟨by decide, by decide⟩ (fun z => absurd z (by decide)) (fun _ => ?_)
            refine x_iload C dL_sums_103 rfl ?_
            refine x_const C dL_sums_105 ?_
            refine x_icmp_gt 136 C dL_sums_106 (by decide) ⟨by decide, by decide⟩ ⟨by decide, by decide⟩ (fun z => absurd z (by decide)) (fun _ => ?_)
            refine x_iload C dL_sums_109 rfl ?_
            refine x_aload_n C dL_sums_111 rfl ?_
            refine x_iload C dL_sums_112 rfl ?_
            refine x_const C dL_sums_114 ?_
            refine x_callV (nA := 2) (As := [vI i, vI 4]) (rest := [vI ((r (51 + 7 * i + 1)) + (r (51 + 7 * i + 2)))]) C (l_bk hE S0 (b := i) ⟨by omega, by omega⟩ ⟨by decide, by decide⟩ (yB4 hc)) q_329 q_330 q_331 q_21 q_332 (by decide +kernel) (wl_t 0 (by decide)) rfl rfl (by decide) (by decide) (Nat.le_of_ble_eq_true rfl) dL_sums_115 rfl ?_
            refine x_nsame 136 C dL_sums_118 (by decide) rfl ?_
            refine x_iload C dL_sums_121 rfl ?_
            refine x_const C dL_sums_123 ?_
            refine x_icmp_ne 138 C dL_sums_124 (by decide) ⟨by decide, by decide⟩ ⟨by decide, by decide⟩ (fun _ => ?_) (fun z => absurd z (by decide))
            refine x_aload_n C dL_sums_138 rfl ?_
            refine x_iload C dL_sums_139 rfl ?_
            refine x_bipush C dL_sums_141 (by decide) ?_
            refine x_callV (nA := 2) (As := [vI i, vI 8]) (rest := []) C (l_bk hE S0 (b := i) ⟨by omega, by omega⟩ ⟨by decide, by decide⟩ ((yB8 hc).trans k4.1)) q_329 q_330 q_331 q_21 q_332 (by decide +kernel) (wl_t 0 (by decide)) rfl rfl (by decide) (by decide) (Nat.le_of_ble_eq_true rfl) dL_sums_143 rfl ?_
            refine x_istore C dL_sums_146 (by decide) (rfl : _ = [_, _, _, _, _, _, _, _, _, _, _]) ?_
            refine x_iload C dL_sums_148 rfl ?_
            refine x_const C dL_sums_150 ?_
            refine x_icmp_eq 160 C dL_sums_151 (by decide) ⟨by decide, by decide⟩ ⟨by decide, by decide⟩ (fun z => absurd z (by decide)) (fun _ => ?_)
            refine x_iload C dL_sums_154 rfl ?_
            refine x_const C dL_sums_156 ?_
            refine x_icmp_ne 164 C dL_sums_157 (by decide) ⟨by decide, by decide⟩ ⟨by decide, by decide⟩ (fun _ => ?_) (fun z => absurd z (by decide))
            refine x_const C dL_sums_164 ?_
            refine x_istore C dL_sums_165 (by decide) (rfl : _ = [_, _, _, _, _, _, _, _, _, _, _]) ?_
            refine x_iload C dL_sums_167 rfl ?_
            refine x_iload C dL_sums_169 rfl ?_
            refine x_if_lt 178 C dL_sums_171 (by decide) ⟨by decide, by decide⟩ (fun _ => ?_) (fun z => absurd z (by decide))
            refine x_const C dL_sums_178 ?_
            refine x_icmp_ne 221 C dL_sums_179 (by decide) ⟨by decide, by decide⟩ ⟨by decide, by decide⟩ (fun z => absurd z (by decide)) (fun _ => ?_)
            refine x_iload C dL_sums_182 rfl ?_
            refine x_if_eq 206 C dL_sums_184 (by decide) ⟨by decide, by decide⟩ (fun _ => ?_) (fun z => absurd z (by decide))
            refine x_iload C dL_sums_206 rfl ?_
            refine x_if_ne 223 C dL_sums_208 (by decide) ⟨by decide, by decide⟩ (fun z => absurd z (by decide)) (fun _ => ?_)
            refine x_aload_n C dL_sums_211 rfl ?_
            refine x_iload C dL_sums_212 rfl ?_
            refine x_const C dL_sums_214 ?_
            refine x_callV (nA := 2) (As := [vI i, vI 5]) (rest := []) C (l_bk hE S0 (b := i) ⟨by omega, by omega⟩ ⟨by decide, by decide⟩ ((yB5 hc).trans k4.2)) q_329 q_330 q_331 q_21 q_332 (by decide +kernel) (wl_t 0 (by decide)) rfl rfl (by decide) (by decide) (Nat.le_of_ble_eq_true rfl) dL_sums_215 rfl ?_
            refine x_if_eq 223 C dL_sums_218 (by decide) ⟨by decide, by decide⟩ (fun _ => ?_) (fun z => absurd z (by decide))
            refine x_iload C dL_sums_223 rfl ?_
            refine x_const C dL_sums_225 ?_
            refine x_icmp_ne 244 C dL_sums_226 (by decide) ⟨by decide, by decide⟩ ⟨by decide, by decide⟩ (fun _ => ?_) (fun z => absurd z (by decide))
            refine x_aload_n C dL_sums_244 rfl ?_
            refine x_iload C dL_sums_245 rfl ?_
            refine x_bipush C dL_sums_247 (by decide) ?_
            refine x_callV (nA := 2) (As := [vI i, vI 6]) (rest := []) C (l_bk hE S0 (b := i) ⟨by omega, by omega⟩ ⟨by decide, by decide⟩ ((yB6 hc).trans (if_neg (fun z => by have := z.1; omega)))) q_329 q_330 q_331 q_21 q_332 (by decide +kernel) (wl_t 0 (by decide)) rfl rfl (by decide) (by decide) (Nat.le_of_ble_eq_true rfl) dL_sums_249 rfl ?_
            refine x_const C dL_sums_252 ?_
            refine x_icmp_ne 271 C dL_sums_253 (by decide) ⟨by decide, by decide⟩ ⟨by decide, by decide⟩ (fun _ => ?_) (fun z => absurd z (by decide))
            refine x_aload_n C dL_sums_271 rfl ?_
            refine x_iload C dL_sums_272 rfl ?_
            refine x_callV (nA := 1) (As := [vI i]) (rest := []) C (l_ref hE S0 (b := i) ⟨by omega, by omega⟩ hq) q_365 q_366 q_367 q_21 q_368 (by decide +kernel) (wl_t 0 (by decide)) rfl rfl (by decide) (by decide) (Nat.le_of_ble_eq_true rfl) dL_sums_274 rfl ?_
            refine x_istore C dL_sums_277 (by decide) (rfl : _ = [_, _, _, _, _, _, _, _, _, _, _]) ?_
            refine x_iload C dL_sums_279 rfl ?_
            refine x_if_ne 305 C dL_sums_281 (by decide) ⟨by decide, by decide⟩ (fun z => absurd z (by decide)) (fun _ => ?_)
            refine x_iload C dL_sums_284 rfl ?_
            refine x_if_eq 314 C dL_sums_286 (by decide) ⟨by omega, by omega⟩ (fun c_42 => ?_) (fun c_42 => ?_)
            · refine x_iinc C dL_sums_314 rfl (by decide) (rfl : _ = [_, _, _, _, _, _, _, _, _, _, _]) ?_
              refine x_goto 21 C dL_sums_317 (by decide) ?_
              have e1 : mThere r i = 0 := if_neg (by omega)
              have e2 : mHeld r i = r (51 + 7 * i + 5) := if_pos (by omega)
              refine G.wk (ih (i + 1) (by omega) (by omega) (by omega)) ?_
              simp only [leL, sumI_s i0, e1, e2, and_self, and_true, true_and]; try trivial
            · refine x_iload C dL_sums_289 rfl ?_
              refine x_aload_n C dL_sums_291 rfl ?_
              refine x_iload C dL_sums_292 rfl ?_
              refine x_bipush C dL_sums_294 (by decide) ?_
              refine x_callV (nA := 2) (As := [vI i, vI 7]) (rest := [vI (r (51 + 7 * i + 5))]) C (l_bk hE S0 (b := i) ⟨by omega, by omega⟩ ⟨by decide, by decide⟩ (yB7 hc)) q_329 q_330 q_331 q_21 q_332 (by decide +kernel) (wl_t 0 (by decide)) rfl rfl (by decide) (by decide) (Nat.le_of_ble_eq_true rfl) dL_sums_296 rfl ?_
              refine x_same 314 C dL_sums_299 (by decide) rfl ?_
              refine x_iinc C dL_sums_314 rfl (by decide) (rfl : _ = [_, _, _, _, _, _, _, _, _, _, _]) ?_
              refine x_goto 21 C dL_sums_317 (by decide) ?_
              have e1 : mThere r i = 0 := if_neg (by omega)
              have e2 : mHeld r i = r (51 + 7 * i + 5) := if_pos (by omega)
              refine G.wk (ih (i + 1) (by omega) (by omega) (by omega)) ?_
              simp only [leL, sumI_s i0, e1, e2, and_self, and_true, true_and]; try trivial
          · refine x_aload_n C dL_sums_31 rfl ?_
            refine x_iload C dL_sums_32 rfl ?_
            refine x_const C dL_sums_34 ?_
            refine x_callV (nA := 2) (As := [vI i, vI 0]) (rest := []) C (l_bk hE S0 (b := i) ⟨by omega, by omega⟩ ⟨by decide, by decide⟩ ((yB0 hc).trans hst)) q_329 q_330 q_331 q_21 q_332 (by decide +kernel) (wl_t 0 (by decide)) rfl rfl (by decide) (by decide) (Nat.le_of_ble_eq_true rfl) dL_sums_35 rfl ?_
            refine x_istore C dL_sums_38 (by decide) (rfl : _ = [_, _, _, _, _, _, _, _, _, _, _]) ?_
            refine x_aload_n C dL_sums_40 rfl ?_
            refine x_iload C dL_sums_41 rfl ?_
            refine x_const C dL_sums_43 ?_
            refine x_callV (nA := 2) (As := [vI i, vI 1]) (rest := []) C (l_bk hE S0 (b := i) ⟨by omega, by omega⟩ ⟨by decide, by decide⟩ (yB1 hc)) q_329 q_330 q_331 q_21 q_332 (by decide +kernel) (wl_t 0 (by decide)) rfl rfl (by decide) (by decide) (Nat.le_of_ble_eq_true rfl) dL_sums_44 rfl ?_
            refine x_aload_n C dL_sums_47 rfl ?_
            refine x_iload C dL_sums_48 rfl ?_
            refine x_const C dL_sums_50 ?_
            refine x_callV (nA := 2) (As := [vI i, vI 2]) (rest := [vI (r (51 + 7 * i + 1))]) C (l_bk hE S0 (b := i) ⟨by omega, by omega⟩ ⟨by decide, by decide⟩ (yB2 hc)) q_329 q_330 q_331 q_21 q_332 (by decide +kernel) (wl_t 0 (by decide)) rfl rfl (by decide) (by decide) (Nat.le_of_ble_eq_true rfl) dL_sums_51 rfl ?_
            refine x_iadd C dL_sums_54 ?_
            refine x_istore C dL_sums_55 (by decide) (rfl : _ = [_, _, _, _, _, _, _, _, _, _, _]) ?_
            refine x_iload_n C dL_sums_57 rfl ?_
            refine x_iload C dL_sums_58 rfl ?_
            refine x_const C dL_sums_60 ?_
            refine x_icmp_ne 74 C dL_sums_61 (by decide) ⟨by decide, by decide⟩ ⟨by decide, by decide⟩ (fun _ => ?_) (fun z => absurd z (by decide))
            refine x_const C dL_sums_74 ?_
            refine x_iadd C dL_sums_75 ?_
            refine x_istore_n C dL_sums_76 (by decide) (rfl : _ = [_, _, _, _, _, _, _, _, _, _, _]) ?_
            refine x_iload_n C dL_sums_77 rfl ?_
            refine x_iload C dL_sums_78 rfl ?_
            refine x_const C dL_sums_80 ?_
            refine x_icmp_ge 95 C dL_sums_81 (by decide) ⟨by decide, by decide⟩ ⟨by decide, by decide⟩ (fun z => absurd z (by decide)) (fun _ => ?_)
            refine x_aload_n C dL_sums_84 rfl ?_
            refine x_iload C dL_sums_85 rfl ?_
            refine x_bipush C dL_sums_87 (by decide) ?_
            refine x_callV (nA := 2) (As := [vI i, vI 7]) (rest := [vI (sumI (mHeld r) i)]) C (l_bk hE S0 (b := i) ⟨by omega, by omega⟩ ⟨by decide, by decide⟩ (yB7 hc)) q_329 q_330 q_331 q_21 q_332 (by decide +kernel) (wl_t 0 (by decide)) rfl rfl (by decide) (by decide) (Nat.le_of_ble_eq_true rfl) dL_sums_89 rfl ?_
            refine x_goto 96 C dL_sums_92 (by decide) ?_
            refine x_iadd C dL_sums_96 ?_
            refine x_istore_n C dL_sums_97 (by decide) (rfl : _ = [_, _, _, _, _, _, _, _, _, _, _]) ?_
            refine x_iload C dL_sums_98 rfl ?_
            refine x_if_lt 136 C dL_sums_100 (by decide) ⟨by decide, by decide⟩ (fun z => absurd z (by decide)) (fun _ => ?_)
            refine x_iload C dL_sums_103 rfl ?_
            refine x_const C dL_sums_105 ?_
            refine x_icmp_gt 136 C dL_sums_106 (by decide) ⟨by decide, by decide⟩ ⟨by decide, by decide⟩ (fun z => absurd z (by decide)) (fun _ => ?_)
            refine x_iload C dL_sums_109 rfl ?_
            refine x_aload_n C dL_sums_111 rfl ?_
            refine x_iload C dL_sums_112 rfl ?_
            refine x_const C dL_sums_114 ?_
            refine x_callV (nA := 2) (As := [vI i, vI 4]) (rest := [vI ((r (51 + 7 * i + 1)) + (r (51 + 7 * i + 2)))]) C (l_bk hE S0 (b := i) ⟨by omega, by omega⟩ ⟨by decide, by decide⟩ (yB4 hc)) q_329 q_330 q_331 q_21 q_332 (by decide +kernel) (wl_t 0 (by decide)) rfl rfl (by decide) (by decide) (Nat.le_of_ble_eq_true rfl) dL_sums_115 rfl ?_
            refine x_nsame 136 C dL_sums_118 (by decide) rfl ?_
            refine x_iload C dL_sums_121 rfl ?_
            refine x_const C dL_sums_123 ?_
            refine x_icmp_ne 138 C dL_sums_124 (by decide) ⟨by decide, by decide⟩ ⟨by decide, by decide⟩ (fun _ => ?_) (fun z => absurd z (by decide))
            refine x_aload_n C dL_sums_138 rfl ?_
            refine x_iload C dL_sums_139 rfl ?_
            refine x_bipush C dL_sums_141 (by decide) ?_
            refine x_callV (nA := 2) (As := [vI i, vI 8]) (rest := []) C (l_bk hE S0 (b := i) ⟨by omega, by omega⟩ ⟨by decide, by decide⟩ ((yB8 hc).trans k4.1)) q_329 q_330 q_331 q_21 q_332 (by decide +kernel) (wl_t 0 (by decide)) rfl rfl (by decide) (by decide) (Nat.le_of_ble_eq_true rfl) dL_sums_143 rfl ?_
            refine x_istore C dL_sums_146 (by decide) (rfl : _ = [_, _, _, _, _, _, _, _, _, _, _]) ?_
            refine x_iload C dL_sums_148 rfl ?_
            refine x_const C dL_sums_150 ?_
            refine x_icmp_eq 160 C dL_sums_151 (by decide) ⟨by decide, by decide⟩ ⟨by decide, by decide⟩ (fun z => absurd z (by decide)) (fun _ => ?_)
            refine x_iload C dL_sums_154 rfl ?_
            refine x_const C dL_sums_156 ?_
            refine x_icmp_ne 164 C dL_sums_157 (by decide) ⟨by decide, by decide⟩ ⟨by decide, by decide⟩ (fun _ => ?_) (fun z => absurd z (by decide))
            refine x_const C dL_sums_164 ?_
            refine x_istore C dL_sums_165 (by decide) (rfl : _ = [_, _, _, _, _, _, _, _, _, _, _]) ?_
            refine x_iload C dL_sums_167 rfl ?_
            refine x_iload C dL_sums_169 rfl ?_
            refine x_if_lt 178 C dL_sums_171 (by decide) ⟨by decide, by decide⟩ (fun _ => ?_) (fun z => absurd z (by decide))
            refine x_const C dL_sums_178 ?_
            refine x_icmp_ne 221 C dL_sums_179 (by decide) ⟨by decide, by decide⟩ ⟨by decide, by decide⟩ (fun z => absurd z (by decide)) (fun _ => ?_)
            refine x_iload C dL_sums_182 rfl ?_
            refine x_if_eq 206 C dL_sums_184 (by decide) ⟨by decide, by decide⟩ (fun _ => ?_) (fun z => absurd z (by decide))
            refine x_iload C dL_sums_206 rfl ?_
            refine x_if_ne 223 C dL_sums_208 (by decide) ⟨by decide, by decide⟩ (fun z => absurd z (by decide)) (fun _ => ?_)
            refine x_aload_n C dL_sums_211 rfl ?_
            refine x_iload C dL_sums_212 rfl ?_
            refine x_const C dL_sums_214 ?_
            refine x_callV (nA := 2) (As := [vI i, vI 5]) (rest := []) C (l_bk hE S0 (b := i) ⟨by omega, by omega⟩ ⟨by decide, by decide⟩ ((yB5 hc).trans k4.2)) q_329 q_330 q_331 q_21 q_332 (by decide +kernel) (wl_t 0 (by decide)) rfl rfl (by decide) (by decide) (Nat.le_of_ble_eq_true rfl) dL_sums_215 rfl ?_
            refine x_if_eq 223 C dL_sums_218 (by decide) ⟨by decide, by decide⟩ (fun _ => ?_) (fun z => absurd z (by decide))
            refine x_iload C dL_sums_223 rfl ?_
            refine x_const C dL_sums_225 ?_
            refine x_icmp_ne 244 C dL_sums_226 (by decide) ⟨by decide, by decide⟩ ⟨by decide, by decide⟩ (fun _ => ?_) (fun z => absurd z (by decide))
            refine x_aload_n C dL_sums_244 rfl ?_
            refine x_iload C dL_sums_245 rfl ?_
            refine x_bipush C dL_sums_247 (by decide) ?_
            refine x_callV (nA := 2) (As := [vI i, vI 6]) (rest := []) C (l_bk hE S0 (b := i) ⟨by omega, by omega⟩ ⟨by decide, by decide⟩ ((yB6 hc).trans (if_neg (fun z => by have := z.1; omega)))) q_329 q_330 q_331 q_21 q_332 (by decide +kernel) (wl_t 0 (by decide)) rfl rfl (by decide) (by decide) (Nat.le_of_ble_eq_true rfl) dL_sums_249 rfl ?_
            refine x_const C dL_sums_252 ?_
            refine x_icmp_ne 271 C dL_sums_253 (by decide) ⟨by decide, by decide⟩ ⟨by decide, by decide⟩ (fun _ => ?_) (fun z => absurd z (by decide))
            refine x_aload_n C dL_sums_271 rfl ?_
            refine x_iload C dL_sums_272 rfl ?_
            refine x_callV (nA := 1) (As := [vI i]) (rest := []) C (l_ref hE S0 (b := i) ⟨by omega, by omega⟩ hq) q_365 q_366 q_367 q_21 q_368 (by decide +kernel) (wl_t 0 (by decide)) rfl rfl (by decide) (by decide) (Nat.le_of_ble_eq_true rfl) dL_sums_274 rfl ?_
            refine x_istore C dL_sums_277 (by decide) (rfl : _ = [_, _, _, _, _, _, _, _, _, _, _]) ?_
            refine x_iload C dL_sums_279 rfl ?_
            refine x_if_ne 305 C dL_sums_281 (by decide) ⟨by decide, by decide⟩ (fun z => absurd z (by decide)) (fun _ => ?_)
            refine x_iload C dL_sums_284 rfl ?_
            refine x_if_eq 314 C dL_sums_286 (by decide) ⟨by decide, by decide⟩ (fun _ => ?_) (fun z => absurd z (by decide))
            refine x_iinc C dL_sums_314 rfl (by decide) (rfl : _ = [_, _, _, _, _, _, _, _, _, _, _]) ?_
            refine x_goto 21 C dL_sums_317 (by decide) ?_
            have e1 : mThere r i = 0 := if_neg (by omega)
            have e2 : mHeld r i = r (51 + 7 * i + 5) := if_pos (by omega)
            refine G.wk (ih (i + 1) (by omega) (by omega) (by omega)) ?_
            simp only [leL, sumI_s i0, e1, e2, and_self, and_true, true_and]; try trivial
        · have k2 := k2 (Or.inl hst)
          have k5 := k5 hst
          rcases strand_or hc hst with hq | hq
          · refine x_aload_n C dL_sums_31 rfl ?_
            refine x_iload C dL_sums_32 rfl ?_
            refine x_const C dL_sums_34 ?_
            refine x_callV (nA := 2) (As := [vI i, vI 0]) (rest := []) C (l_bk hE S0 (b := i) ⟨by omega, by omega⟩ ⟨by decide, by decide⟩ ((yB0 hc).trans hst)) q_329 q_330 q_331 q_21 q_332 (by decide +kernel) (wl_t 0 (by decide)) rfl rfl (by decide) (by decide) (Nat.le_of_ble_eq_true rfl) dL_sums_35 rfl ?_
            refine x_istore C dL_sums_38 (by decide) (rfl : _ = [_, _, _, _, _, _, _, _, _, _, _]) ?_
            refine x_aload_n C dL_sums_40 rfl ?_
            refine x_iload C dL_sums_41 rfl ?_
            refine x_const C dL_sums_43 ?_
            refine x_callV (nA := 2) (As := [vI i, vI 1]) (rest := []) C (l_bk hE S0 (b := i) ⟨by omega, by omega⟩ ⟨by decide, by decide⟩ (yB1 hc)) q_329 q_330 q_331 q_21 q_332 (by decide +kernel) (wl_t 0 (by decide)) rfl rfl (by decide) (by decide) (Nat.le_of_ble_eq_true rfl) dL_sums_44 rfl ?_
            refine x_aload_n C dL_sums_47 rfl ?_
            refine x_iload C dL_sums_48 rfl ?_
            refine x_const C dL_sums_50 ?_
            refine x_callV (nA := 2) (As := [vI i, vI 2]) (rest := [vI (r (51 + 7 * i + 1))]) C (l_bk hE S0 (b := i) ⟨by omega, by omega⟩ ⟨by decide, by decide⟩ (yB2 hc)) q_329 q_330 q_331 q_21 q_332 (by decide +kernel) (wl_t 0 (by decide)) rfl rfl (by decide) (by decide) (Nat.le_of_ble_eq_true rfl) dL_sums_51 rfl ?_
            refine x_iadd C dL_sums_54 ?_
            refine x_istore C dL_sums_55 (by decide) (rfl : _ = [_, _, _, _, _, _, _, _, _, _, _]) ?_
            refine x_iload_n C dL_sums_57 rfl ?_
            refine x_iload C dL_sums_58 rfl ?_
            refine x_const C dL_sums_60 ?_
            refine x_icmp_ne 74 C dL_sums_61 (by decide) ⟨by decide, by decide⟩ ⟨by decide, by decide⟩ (fun z => absurd z (by decide)) (fun _ => ?_)
            refine x_aload_n C dL_sums_64 rfl ?_
            refine x_iload C dL_sums_65 rfl ?_
            refine x_const C dL_sums_67 ?_
            refine x_callV (nA := 2) (As := [vI i, vI 3]) (rest := [vI (sumI (mThere r) i)]) C (l_bk hE S0 (b := i) ⟨by omega, by omega⟩ ⟨by decide, by decide⟩ (yB3 hc)) q_329 q_330 q_331 q_21 q_332 (by decide +kernel) (wl_t 0 (by decide)) rfl rfl (by decide) (by decide) (Nat.le_of_ble_eq_true rfl) dL_sums_68 rfl ?_
            refine x_goto 75 C dL_sums_71 (by decide) ?_
            refine x_iadd C dL_sums_75 ?_
            refine x_istore_n C dL_sums_76 (by decide) (rfl : _ = [_, _, _, _, _, _, _, _, _, _, _]) ?_
            refine x_iload_n C dL_sums_77 rfl ?_
            refine x_iload C dL_sums_78 rfl ?_
            refine x_const C dL_sums_80 ?_
            refine x_icmp_ge 95 C dL_sums_81 (by decide) ⟨by decide, by decide⟩ ⟨by decide, by decide⟩ (fun z => absurd z (by decide)) (fun _ => ?_)
            refine x_aload_n C dL_sums_84 rfl ?_
            refine x_iload C dL_sums_85 rfl ?_
            refine x_bipush C dL_sums_87 (by decide) ?_
            refine x_callV (nA := 2) (As := [vI i, vI 7]) (rest := [vI (sumI (mHeld r) i)]) C (l_bk hE S0 (b := i) ⟨by omega, by omega⟩ ⟨by decide, by decide⟩ (yB7 hc)) q_329 q_330 q_331 q_21 q_332 (by decide +kernel) (wl_t 0 (by decide)) rfl rfl (by decide) (by decide) (Nat.le_of_ble_eq_true rfl) dL_sums_89 rfl ?_
            refine x_goto 96 C dL_sums_92 (by decide) ?_
            refine x_iadd C dL_sums_96 ?_
            refine x_istore_n C dL_sums_97 (by decide) (rfl : _ = [_, _, _, _, _, _, _, _, _, _, _]) ?_
            refine x_iload C dL_sums_98 rfl ?_
            refine x_if_lt 136 C dL_sums_100 (by decide) ⟨by decide, by decide⟩ (fun z => absurd z (by decide)) (fun _ => ?_)
            refine x_iload C dL_sums_103 rfl ?_
            refine x_const C dL_sums_105 ?_
            refine x_icmp_gt 136 C dL_sums_106 (by decide) ⟨by decide, by decide⟩ ⟨by decide, by decide⟩ (fun z => absurd z (by decide)) (fun _ => ?_)
            refine x_iload C dL_sums_109 rfl ?_
            refine x_aload_n C dL_sums_111 rfl ?_
            refine x_iload C dL_sums_112 rfl ?_
            refine x_const C dL_sums_114 ?_
            refine x_callV (nA := 2) (As := [vI i, vI 4]) (rest := [vI ((r (51 + 7 * i + 1)) + (r (51 + 7 * i + 2)))]) C (l_bk hE S0 (b := i) ⟨by omega, by omega⟩ ⟨by decide, by decide⟩ (yB4 hc)) q_329 q_330 q_331 q_21 q_332 (by decide +kernel) (wl_t 0 (by decide)) rfl rfl (by decide) (by decide) (Nat.le_of_ble_eq_true rfl) dL_sums_115 rfl ?_
            refine x_nsame 136 C dL_sums_118 (by decide) rfl ?_
            refine x_iload C dL_sums_121 rfl ?_
            refine x_const C dL_sums_123 ?_
            refine x_icmp_ne 138 C dL_sums_124 (by decide) ⟨by decide, by decide⟩ ⟨by decide, by decide⟩ (fun _ => ?_) (fun z => absurd z (by decide))
            refine x_aload_n C dL_sums_138 rfl ?_
            refine x_iload C dL_sums_139 rfl ?_
            refine x_bipush C dL_sums_141 (by decide) ?_
            refine x_callV (nA := 2) (As := [vI i, vI 8]) (rest := []) C (l_bk hE S0 (b := i) ⟨by omega, by omega⟩ ⟨by decide, by decide⟩ (yB8 hc)) q_329 q_330 q_331 q_21 q_332 (by decide +kernel) (wl_t 0 (by decide)) rfl rfl (by decide) (by decide) (Nat.le_of_ble_eq_true rfl) dL_sums_143 rfl ?_
            refine x_istore C dL_sums_146 (by decide) (rfl : _ = [_, _, _, _, _, _, _, _, _, _, _]) ?_
            refine x_iload C dL_sums_148 rfl ?_
            refine x_const C dL_sums_150 ?_
            refine x_icmp_eq 160 C dL_sums_151 (by decide) ⟨by decide, by decide⟩ ⟨by decide, by decide⟩ (fun _ => ?_) (fun z => absurd z (by decide))
            refine x_const C dL_sums_160 ?_
            refine x_goto 165 C dL_sums_161 (by decide) ?_
            refine x_istore C dL_sums_165 (by decide) (rfl : _ = [_, _, _, _, _, _, _, _, _, _, _]) ?_
            refine x_iload C dL_sums_167 rfl ?_
            refine x_iload C dL_sums_169 rfl ?_
            refine x_if_lt 178 C dL_sums_171 (by decide) ⟨by omega, by omega⟩ (fun c_43 => absurd c_43 (by omega)) (fun c_43 => ?_)
            refine x_const C dL_sums_174 ?_
            refine x_goto 179 C dL_sums_175 (by decide) ?_
            refine x_icmp_ne 221 C dL_sums_179 (by decide) ⟨by decide, by decide⟩ ⟨by decide, by decide⟩ (fun z => absurd z (by decide)) (fun _ => ?_)
            refine x_iload C dL_sums_182 rfl ?_
            refine x_if_eq 206 C dL_sums_184 (by decide) ⟨by decide, by decide⟩ (fun z => absurd z (by decide)) (fun _ => ?_)
            refine x_iload C dL_sums_187 rfl ?_
            refine x_aload_n C dL_sums_189 rfl ?_
            refine x_iload C dL_sums_190 rfl ?_
            refine x_const C dL_sums_192 ?_
            refine x_callV (nA := 2) (As := [vI i, vI 1]) (rest := [vI (r (51 + 7 * i + 6))]) C (l_bk hE S0 (b := i) ⟨by omega, by omega⟩ ⟨by decide, by decide⟩ (yB1 hc)) q_329 q_330 q_331 q_21 q_332 (by decide +kernel) (wl_t 0 (by decide)) rfl rfl (by decide) (by decide) (Nat.le_of_ble_eq_true rfl) dL_sums_193 rfl ?_
            refine x_icmp_lt 221 C dL_sums_196 (by decide) ⟨by omega, by omega⟩ ⟨by omega, by omega⟩ (fun c_44 => absurd c_44 (by omega)) (fun c_44 => ?_)
            refine x_iload C dL_sums_199 rfl ?_
            refine x_iload C dL_sums_201 rfl ?_
            refine x_icmp_ge 221 C dL_sums_203 (by decide) ⟨by omega, by omega⟩ ⟨by omega, by omega⟩ (fun c_45 => absurd c_45 (by omega)) (fun c_45 => ?_)
            refine x_iload C dL_sums_206 rfl ?_
            refine x_if_ne 223 C dL_sums_208 (by decide) ⟨by decide, by decide⟩ (fun _ => ?_) (fun z => absurd z (by decide))
            refine x_iload C dL_sums_223 rfl ?_
            refine x_const C dL_sums_225 ?_
            refine x_icmp_ne 244 C dL_sums_226 (by decide) ⟨by decide, by decide⟩ ⟨by decide, by decide⟩ (fun z => absurd z (by decide)) (fun _ => ?_)
            refine x_aload_n C dL_sums_229 rfl ?_
            refine x_iload C dL_sums_230 rfl ?_
            refine x_const C dL_sums_232 ?_
            refine x_callV (nA := 2) (As := [vI i, vI 5]) (rest := []) C (l_bk hE S0 (b := i) ⟨by omega, by omega⟩ ⟨by decide, by decide⟩ (yB5 hc)) q_329 q_330 q_331 q_21 q_332 (by decide +kernel) (wl_t 0 (by decide)) rfl rfl (by decide) (by decide) (Nat.le_of_ble_eq_true rfl) dL_sums_233 rfl ?_
            refine x_iload C dL_sums_236 rfl ?_
            refine x_iload C dL_sums_238 rfl ?_
            refine x_isub C dL_sums_240 ?_
            refine x_nsame 269 C dL_sums_241 (by decide) k5 ?_
            refine x_aload_n C dL_sums_244 rfl ?_
            refine x_iload C dL_sums_245 rfl ?_
            refine x_bipush C dL_sums_247 (by decide) ?_
            refine x_callV (nA := 2) (As := [vI i, vI 6]) (rest := []) C (l_bk hE S0 (b := i) ⟨by omega, by omega⟩ ⟨by decide, by decide⟩ hq.1) q_329 q_330 q_331 q_21 q_332 (by decide +kernel) (wl_t 0 (by decide)) rfl rfl (by decide) (by decide) (Nat.le_of_ble_eq_true rfl) dL_sums_249 rfl ?_
            refine x_const C dL_sums_252 ?_
            refine x_icmp_ne 271 C dL_sums_253 (by decide) ⟨by decide, by decide⟩ ⟨by decide, by decide⟩ (fun z => absurd z (by decide)) (fun _ => ?_)
            refine x_iload C dL_sums_256 rfl ?_
            refine x_const C dL_sums_258 ?_
            refine x_icmp_ne 269 C dL_sums_259 (by decide) ⟨by decide, by decide⟩ ⟨by decide, by decide⟩ (fun z => absurd z (by decide)) (fun _ => ?_)
            refine x_iload C dL_sums_262 rfl ?_
            refine x_iload C dL_sums_264 rfl ?_
            refine x_icmp_le 271 C dL_sums_266 (by decide) ⟨by omega, by omega⟩ ⟨by omega, by omega⟩ (fun c_46 => ?_) (fun c_46 => absurd c_46 (by omega))
            refine x_aload_n C dL_sums_271 rfl ?_
            refine x_iload C dL_sums_272 rfl ?_
            refine x_callV (nA := 1) (As := [vI i]) (rest := []) C (l_ref hE S0 (b := i) ⟨by omega, by omega⟩ (mRefd_n hc (by omega))) q_365 q_366 q_367 q_21 q_368 (by decide +kernel) (wl_t 0 (by decide)) rfl rfl (by decide) (by decide) (Nat.le_of_ble_eq_true rfl) dL_sums_274 rfl ?_
            refine x_istore C dL_sums_277 (by decide) (rfl : _ = [_, _, _, _, _, _, _, _, _, _, _]) ?_
            refine x_iload C dL_sums_279 rfl ?_
            refine x_if_ne 305 C dL_sums_281 (by decide) ⟨by decide, by decide⟩ (fun _ => ?_) (fun z => absurd z (by decide))
            refine x_iload C dL_sums_305 rfl ?_
            refine x_ldc (n := (-1000004)) C q_382 dL_sums_307 rfl ?_
            refine x_icmp_eq 314 C dL_sums_309 (by decide) ⟨by decide, by decide⟩ ⟨by decide, by decide⟩ (fun _ => ?_) (fun z => absurd z (by decide))
            refine x_iinc C dL_sums_314 rfl (by decide) (rfl : _ = [_, _, _, _, _, _, _, _, _, _, _]) ?_
            refine x_goto 21 C dL_sums_317 (by decide) ?_
            have e1 : mThere r i = r (51 + 7 * i + 3) := if_pos hst
            have e2 : mHeld r i = r (51 + 7 * i + 5) := if_pos (by omega)
            refine G.wk (ih (i + 1) (by omega) (by omega) (by omega)) ?_
            simp only [leL, sumI_s i0, e1, e2, and_self, and_true, true_and]; try trivial
          · refine x_aload_n C dL_sums_31 rfl ?_
            refine x_iload C dL_sums_32 rfl ?_
            refine x_const C dL_sums_34 ?_
            refine x_callV (nA := 2) (As := [vI i, vI 0]) (rest := []) C (l_bk hE S0 (b := i) ⟨by omega, by omega⟩ ⟨by decide, by decide⟩ ((yB0 hc).trans hst)) q_329 q_330 q_331 q_21 q_332 (by decide +kernel) (wl_t 0 (by decide)) rfl rfl (by decide) (by decide) (Nat.le_of_ble_eq_true rfl) dL_sums_35 rfl ?_
            refine x_istore C dL_sums_38 (by decide) (rfl : _ = [_, _, _, _, _, _, _, _, _, _, _]) ?_
            refine x_aload_n C dL_sums_40 rfl ?_
            refine x_iload C dL_sums_41 rfl ?_
            refine x_const C dL_sums_43 ?_
            refine x_callV (nA := 2) (As := [vI i, vI 1]) (rest := []) C (l_bk hE S0 (b := i) ⟨by omega, by omega⟩ ⟨by decide, by decide⟩ (yB1 hc)) q_329 q_330 q_331 q_21 q_332 (by decide +kernel) (wl_t 0 (by decide)) rfl rfl (by decide) (by decide) (Nat.le_of_ble_eq_true rfl) dL_sums_44 rfl ?_
            refine x_aload_n C dL_sums_47 rfl ?_
            refine x_iload C dL_sums_48 rfl ?_
            refine x_const C dL_sums_50 ?_
            refine x_callV (nA := 2) (As := [vI i, vI 2]) (rest := [vI (r (51 + 7 * i + 1))]) C (l_bk hE S0 (b := i) ⟨by omega, by omega⟩ ⟨by decide, by decide⟩ (yB2 hc)) q_329 q_330 q_331 q_21 q_332 (by decide +kernel) (wl_t 0 (by decide)) rfl rfl (by decide) (by decide) (Nat.le_of_ble_eq_true rfl) dL_sums_51 rfl ?_
            refine x_iadd C dL_sums_54 ?_
            refine x_istore C dL_sums_55 (by decide) (rfl : _ = [_, _, _, _, _, _, _, _, _, _, _]) ?_
            refine x_iload_n C dL_sums_57 rfl ?_
            refine x_iload C dL_sums_58 rfl ?_
            refine x_const C dL_sums_60 ?_
            refine x_icmp_ne 74 C dL_sums_61 (by decide) ⟨by decide, by decide⟩ ⟨by decide, by decide⟩ (fun z => absurd z (by decide)) (fun _ => ?_)
            refine x_aload_n C dL_sums_64 rfl ?_
            refine x_iload C dL_sums_65 rfl ?_
            refine x_const C dL_sums_67 ?_
            refine x_callV (nA := 2) (As := [vI i, vI 3]) (rest := [vI (sumI (mThere r) i)]) C (l_bk hE S0 (b := i) ⟨by omega, by omega⟩ ⟨by decide, by decide⟩ (yB3 hc)) q_329 q_330 q_331 q_21 q_332 (by decide +kernel) (wl_t 0 (by decide)) rfl rfl (by decide) (by decide) (Nat.le_of_ble_eq_true rfl) dL_sums_68 rfl ?_
            refine x_goto 75 C dL_sums_71 (by decide) ?_
            refine x_iadd C dL_sums_75 ?_
            refine x_istore_n C dL_sums_76 (by decide) (rfl : _ = [_, _, _, _, _, _, _, _, _, _, _]) ?_
            refine x_iload_n C dL_sums_77 rfl ?_
            refine x_iload C dL_sums_78 rfl ?_
            refine x_const C dL_sums_80 ?_
            refine x_icmp_ge 95 C dL_sums_81 (by decide) ⟨by decide, by decide⟩ ⟨by decide, by decide⟩ (fun z => absurd z (by decide)) (fun _ => ?_)
            refine x_aload_n C dL_sums_84 rfl ?_
            refine x_iload C dL_sums_85 rfl ?_
            refine x_bipush C dL_sums_87 (by decide) ?_
            refine x_callV (nA := 2) (As := [vI i, vI 7]) (rest := [vI (sumI (mHeld r) i)]) C (l_bk hE S0 (b := i) ⟨by omega, by omega⟩ ⟨by decide, by decide⟩ (yB7 hc)) q_329 q_330 q_331 q_21 q_332 (by decide +kernel) (wl_t 0 (by decide)) rfl rfl (by decide) (by decide) (Nat.le_of_ble_eq_true rfl) dL_sums_89 rfl ?_
            refine x_goto 96 C dL_sums_92 (by decide) ?_
            refine x_iadd C dL_sums_96 ?_
            refine x_istore_n C dL_sums_97 (by decide) (rfl : _ = [_, _, _, _, _, _, _, _, _, _, _]) ?_
            refine x_iload C dL_sums_98 rfl ?_
            refine x_if_lt 136 C dL_sums_100 (by decide) ⟨by decide, by decide⟩ (fun z => absurd z (by decide)) (fun _ => ?_)
            refine x_iload C dL_sums_103 rfl ?_
            refine x_const C dL_sums_105 ?_
            refine x_icmp_gt 136 C dL_sums_106 (by decide) ⟨by decide, by decide⟩ ⟨by decide, by decide⟩ (fun z => absurd z (by decide)) (fun _ => ?_)
            refine x_iload C dL_sums_109 rfl ?_
            refine x_aload_n C dL_sums_111 rfl ?_
            refine x_iload C dL_sums_112 rfl ?_
            refine x_const C dL_sums_114 ?_
            refine x_callV (nA := 2) (As := [vI i, vI 4]) (rest := [vI ((r (51 + 7 * i + 1)) + (r (51 + 7 * i + 2)))]) C (l_bk hE S0 (b := i) ⟨by omega, by omega⟩ ⟨by decide, by decide⟩ (yB4 hc)) q_329 q_330 q_331 q_21 q_332 (by decide +kernel) (wl_t 0 (by decide)) rfl rfl (by decide) (by decide) (Nat.le_of_ble_eq_true rfl) dL_sums_115 rfl ?_
            refine x_nsame 136 C dL_sums_118 (by decide) rfl ?_
            refine x_iload C dL_sums_121 rfl ?_
            refine x_const C dL_sums_123 ?_
            refine x_icmp_ne 138 C dL_sums_124 (by decide) ⟨by decide, by decide⟩ ⟨by decide, by decide⟩ (fun _ => ?_) (fun z => absurd z (by decide))
            refine x_aload_n C dL_sums_138 rfl ?_
            refine x_iload C dL_sums_139 rfl ?_
            refine x_bipush C dL_sums_141 (by decide) ?_
            refine x_callV (nA := 2) (As := [vI i, vI 8]) (rest := []) C (l_bk hE S0 (b := i) ⟨by omega, by omega⟩ ⟨by decide, by decide⟩ (yB8 hc)) q_329 q_330 q_331 q_21 q_332 (by decide +kernel) (wl_t 0 (by decide)) rfl rfl (by decide) (by decide) (Nat.le_of_ble_eq_true rfl) dL_sums_143 rfl ?_
            refine x_istore C dL_sums_146 (by decide) (rfl : _ = [_, _, _, _, _, _, _, _, _, _, _]) ?_
            refine x_iload C dL_sums_148 rfl ?_
            refine x_const C dL_sums_150 ?_
            refine x_icmp_eq 160 C dL_sums_151 (by decide) ⟨by decide, by decide⟩ ⟨by decide, by decide⟩ (fun _ => ?_) (fun z => absurd z (by decide))
            refine x_const C dL_sums_160 ?_
            refine x_goto 165 C dL_sums_161 (by decide) ?_
            refine x_istore C dL_sums_165 (by decide) (rfl : _ = [_, _, _, _, _, _, _, _, _, _, _]) ?_
            refine x_iload C dL_sums_167 rfl ?_
            refine x_iload C dL_sums_169 rfl ?_
            refine x_if_lt 178 C dL_sums_171 (by decide) ⟨by omega, by omega⟩ (fun c_47 => absurd c_47 (by omega)) (fun c_47 => ?_)
            refine x_const C dL_sums_174 ?_
            refine x_goto 179 C dL_sums_175 (by decide) ?_
            refine x_icmp_ne 221 C dL_sums_179 (by decide) ⟨by decide, by decide⟩ ⟨by decide, by decide⟩ (fun z => absurd z (by decide)) (fun _ => ?_)
            refine x_iload C dL_sums_182 rfl ?_
            refine x_if_eq 206 C dL_sums_184 (by decide) ⟨by decide, by decide⟩ (fun z => absurd z (by decide)) (fun _ => ?_)
            refine x_iload C dL_sums_187 rfl ?_
            refine x_aload_n C dL_sums_189 rfl ?_
            refine x_iload C dL_sums_190 rfl ?_
            refine x_const C dL_sums_192 ?_
            refine x_callV (nA := 2) (As := [vI i, vI 1]) (rest := [vI (r (51 + 7 * i + 6))]) C (l_bk hE S0 (b := i) ⟨by omega, by omega⟩ ⟨by decide, by decide⟩ (yB1 hc)) q_329 q_330 q_331 q_21 q_332 (by decide +kernel) (wl_t 0 (by decide)) rfl rfl (by decide) (by decide) (Nat.le_of_ble_eq_true rfl) dL_sums_193 rfl ?_
            refine x_icmp_lt 221 C dL_sums_196 (by decide) ⟨by omega, by omega⟩ ⟨by omega, by omega⟩ (fun c_48 => absurd c_48 (by omega)) (fun c_48 => ?_)
            refine x_iload C dL_sums_199 rfl ?_
            refine x_iload C dL_sums_201 rfl ?_
            refine x_icmp_ge 221 C dL_sums_203 (by decide) ⟨by omega, by omega⟩ ⟨by omega, by omega⟩ (fun c_49 => absurd c_49 (by omega)) (fun c_49 => ?_)
            refine x_iload C dL_sums_206 rfl ?_
            refine x_if_ne 223 C dL_sums_208 (by decide) ⟨by decide, by decide⟩ (fun _ => ?_) (fun z => absurd z (by decide))
            refine x_iload C dL_sums_223 rfl ?_
            refine x_const C dL_sums_225 ?_
            refine x_icmp_ne 244 C dL_sums_226 (by decide) ⟨by decide, by decide⟩ ⟨by decide, by decide⟩ (fun z => absurd z (by decide)) (fun _ => ?_)
            refine x_aload_n C dL_sums_229 rfl ?_
            refine x_iload C dL_sums_230 rfl ?_
            refine x_const C dL_sums_232 ?_
            refine x_callV (nA := 2) (As := [vI i, vI 5]) (rest := []) C (l_bk hE S0 (b := i) ⟨by omega, by omega⟩ ⟨by decide, by decide⟩ (yB5 hc)) q_329 q_330 q_331 q_21 q_332 (by decide +kernel) (wl_t 0 (by decide)) rfl rfl (by decide) (by decide) (Nat.le_of_ble_eq_true rfl) dL_sums_233 rfl ?_
            refine x_iload C dL_sums_236 rfl ?_
            refine x_iload C dL_sums_238 rfl ?_
            refine x_isub C dL_sums_240 ?_
            refine x_nsame 269 C dL_sums_241 (by decide) k5 ?_
            refine x_aload_n C dL_sums_244 rfl ?_
            refine x_iload C dL_sums_245 rfl ?_
            refine x_bipush C dL_sums_247 (by decide) ?_
            refine x_callV (nA := 2) (As := [vI i, vI 6]) (rest := []) C (l_bk hE S0 (b := i) ⟨by omega, by omega⟩ ⟨by decide, by decide⟩ hq) q_329 q_330 q_331 q_21 q_332 (by decide +kernel) (wl_t 0 (by decide)) rfl rfl (by decide) (by decide) (Nat.le_of_ble_eq_true rfl) dL_sums_249 rfl ?_
            refine x_const C dL_sums_252 ?_
            refine x_icmp_ne 271 C dL_sums_253 (by decide) ⟨by decide, by decide⟩ ⟨by decide, by decide⟩ (fun _ => ?_) (fun z => absurd z (by decide))
            refine x_aload_n C dL_sums_271 rfl ?_
            refine x_iload C dL_sums_272 rfl ?_
            refine x_callV (nA := 1) (As := [vI i]) (rest := []) C (l_ref hE S0 (b := i) ⟨by omega, by omega⟩ (mRefd_n hc (by omega))) q_365 q_366 q_367 q_21 q_368 (by decide +kernel) (wl_t 0 (by decide)) rfl rfl (by decide) (by decide) (Nat.le_of_ble_eq_true rfl) dL_sums_274 rfl ?_
            refine x_istore C dL_sums_277 (by decide) (rfl : _ = [_, _, _, _, _, _, _, _, _, _, _]) ?_
            refine x_iload C dL_sums_279 rfl ?_
            refine x_if_ne 305 C dL_sums_281 (by decide) ⟨by decide, by decide⟩ (fun _ => ?_) (fun z => absurd z (by decide))
            refine x_iload C dL_sums_305 rfl ?_
            refine x_ldc (n := (-1000004)) C q_382 dL_sums_307 rfl ?_
            refine x_icmp_eq 314 C dL_sums_309 (by decide) ⟨by decide, by decide⟩ ⟨by decide, by decide⟩ (fun _ => ?_) (fun z => absurd z (by decide))
            refine x_iinc C dL_sums_314 rfl (by decide) (rfl : _ = [_, _, _, _, _, _, _, _, _, _, _]) ?_
            refine x_goto 21 C dL_sums_317 (by decide) ?_
            have e1 : mThere r i = r (51 + 7 * i + 3) := if_pos hst
            have e2 : mHeld r i = r (51 + 7 * i + 5) := if_pos (by omega)
            refine G.wk (ih (i + 1) (by omega) (by omega) (by omega)) ?_
            simp only [leL, sumI_s i0, e1, e2, and_self, and_true, true_and]; try trivial
        · have k2 := k2 (Or.inr hst)
          have k1 := k1 hst
          refine x_aload_n C dL_sums_31 rfl ?_
          refine x_iload C dL_sums_32 rfl ?_
          refine x_const C dL_sums_34 ?_
          refine x_callV (nA := 2) (As := [vI i, vI 0]) (rest := []) C (l_bk hE S0 (b := i) ⟨by omega, by omega⟩ ⟨by decide, by decide⟩ ((yB0 hc).trans hst)) q_329 q_330 q_331 q_21 q_332 (by decide +kernel) (wl_t 0 (by decide)) rfl rfl (by decide) (by decide) (Nat.le_of_ble_eq_true rfl) dL_sums_35 rfl ?_
          refine x_istore C dL_sums_38 (by decide) (rfl : _ = [_, _, _, _, _, _, _, _, _, _, _]) ?_
          refine x_aload_n C dL_sums_40 rfl ?_
          refine x_iload C dL_sums_41 rfl ?_
          refine x_const C dL_sums_43 ?_
          refine x_callV (nA := 2) (As := [vI i, vI 1]) (rest := []) C (l_bk hE S0 (b := i) ⟨by omega, by omega⟩ ⟨by decide, by decide⟩ (yB1 hc)) q_329 q_330 q_331 q_21 q_332 (by decide +kernel) (wl_t 0 (by decide)) rfl rfl (by decide) (by decide) (Nat.le_of_ble_eq_true rfl) dL_sums_44 rfl ?_
          refine x_aload_n C dL_sums_47 rfl ?_
          refine x_iload C dL_sums_48 rfl ?_
          refine x_const C dL_sums_50 ?_
          refine x_callV (nA := 2) (As := [vI i, vI 2]) (rest := [vI (r (51 + 7 * i + 1))]) C (l_bk hE S0 (b := i) ⟨by omega, by omega⟩ ⟨by decide, by decide⟩ (yB2 hc)) q_329 q_330 q_331 q_21 q_332 (by decide +kernel) (wl_t 0 (by decide)) rfl rfl (by decide) (by decide) (Nat.le_of_ble_eq_true rfl) dL_sums_51 rfl ?_
          refine x_iadd C dL_sums_54 ?_
          refine x_istore C dL_sums_55 (by decide) (rfl : _ = [_, _, _, _, _, _, _, _, _, _, _]) ?_
          refine x_iload_n C dL_sums_57 rfl ?_
          refine x_iload C dL_sums_58 rfl ?_
          refine x_const C dL_sums_60 ?_
          refine x_icmp_ne 74 C dL_sums_61 (by decide) ⟨by decide, by decide⟩ ⟨by decide, by decide⟩ (fun _ => ?_) (fun z => absurd z (by decide))
          refine x_const C dL_sums_74 ?_
          refine x_iadd C dL_sums_75 ?_
          refine x_istore_n C dL_sums_76 (by decide) (rfl : _ = [_, _, _, _, _, _, _, _, _, _, _]) ?_
          refine x_iload_n C dL_sums_77 rfl ?_
          refine x_iload C dL_sums_78 rfl ?_
          refine x_const C dL_sums_80 ?_
          refine x_icmp_ge 95 C dL_sums_81 (by decide) ⟨by decide, by decide⟩ ⟨by decide, by decide⟩ (fun _ => ?_) (fun z => absurd z (by decide))
          refine x_const C dL_sums_95 ?_
          refine x_iadd C dL_sums_96 ?_
          refine x_istore_n C dL_sums_97 (by decide) (rfl : _ = [_, _, _, _, _, _, _, _, _, _, _]) ?_
          refine x_iload C dL_sums_98 rfl ?_
          refine x_if_lt 136 C dL_sums_100 (by decide) ⟨by decide, by decide⟩ (fun z => absurd z (by decide)) (fun _ => ?_)
          refine x_iload C dL_sums_103 rfl ?_
          refine x_const C dL_sums_105 ?_
          refine x_icmp_gt 136 C dL_sums_106 (by decide) ⟨by decide, by decide⟩ ⟨by decide, by decide⟩ (fun z => absurd z (by decide)) (fun _ => ?_)
          refine x_iload C dL_sums_109 rfl ?_
          refine x_aload_n C dL_sums_111 rfl ?_
          refine x_iload C dL_sums_112 rfl ?_
          refine x_const C dL_sums_114 ?_
          refine x_callV (nA := 2) (As := [vI i, vI 4]) (rest := [vI ((r (51 + 7 * i + 1)) + (r (51 + 7 * i + 2)))]) C (l_bk hE S0 (b := i) ⟨by omega, by omega⟩ ⟨by decide, by decide⟩ (yB4 hc)) q_329 q_330 q_331 q_21 q_332 (by decide +kernel) (wl_t 0 (by decide)) rfl rfl (by decide) (by decide) (Nat.le_of_ble_eq_true rfl) dL_sums_115 rfl ?_
          refine x_nsame 136 C dL_sums_118 (by decide) rfl ?_
          refine x_iload C dL_sums_121 rfl ?_
          refine x_const C dL_sums_123 ?_
          refine x_icmp_ne 138 C dL_sums_124 (by decide) ⟨by decide, by decide⟩ ⟨by decide, by decide⟩ (fun z => absurd z (by decide)) (fun _ => ?_)
          refine x_iload C dL_sums_127 rfl ?_
          refine x_iload C dL_sums_129 rfl ?_
          refine x_const C dL_sums_131 ?_
          refine x_isub C dL_sums_132 ?_
          refine x_icmp_gt 138 C dL_sums_133 (by decide) ⟨by omega, by omega⟩ ⟨by omega, by omega⟩ (fun c_50 => ?_) (fun c_50 => absurd c_50 (by omega))
          refine x_aload_n C dL_sums_138 rfl ?_
          refine x_iload C dL_sums_139 rfl ?_
          refine x_bipush C dL_sums_141 (by decide) ?_
          refine x_callV (nA := 2) (As := [vI i, vI 8]) (rest := []) C (l_bk hE S0 (b := i) ⟨by omega, by omega⟩ ⟨by decide, by decide⟩ (yB8 hc)) q_329 q_330 q_331 q_21 q_332 (by decide +kernel) (wl_t 0 (by decide)) rfl rfl (by decide) (by decide) (Nat.le_of_ble_eq_true rfl) dL_sums_143 rfl ?_
          refine x_istore C dL_sums_146 (by decide) (rfl : _ = [_, _, _, _, _, _, _, _, _, _, _]) ?_
          refine x_iload C dL_sums_148 rfl ?_
          refine x_const C dL_sums_150 ?_
          refine x_icmp_eq 160 C dL_sums_151 (by decide) ⟨by decide, by decide⟩ ⟨by decide, by decide⟩ (fun z => absurd z (by decide)) (fun _ => ?_)
          refine x_iload C dL_sums_154 rfl ?_
          refine x_const C dL_sums_156 ?_
          refine x_icmp_ne 164 C dL_sums_157 (by decide) ⟨by decide, by decide⟩ ⟨by decide, by decide⟩ (fun z => absurd z (by decide)) (fun _ => ?_)
          refine x_const C dL_sums_160 ?_
          refine x_goto 165 C dL_sums_161 (by decide) ?_
          refine x_istore C dL_sums_165 (by decide) (rfl : _ = [_, _, _, _, _, _, _, _, _, _, _]) ?_
          refine x_iload C dL_sums_167 rfl ?_
          refine x_iload C dL_sums_169 rfl ?_
          refine x_if_lt 178 C dL_sums_171 (by decide) ⟨by omega, by omega⟩ (fun c_51 => absurd c_51 (by omega)) (fun c_51 => ?_)
          refine x_const C dL_sums_174 ?_
          refine x_goto 179 C dL_sums_175 (by decide) ?_
          refine x_icmp_ne 221 C dL_sums_179 (by decide) ⟨by decide, by decide⟩ ⟨by decide, by decide⟩ (fun z => absurd z (by decide)) (fun _ => ?_)
          refine x_iload C dL_sums_182 rfl ?_
          refine x_if_eq 206 C dL_sums_184 (by decide) ⟨by decide, by decide⟩ (fun z => absurd z (by decide)) (fun _ => ?_)
          refine x_iload C dL_sums_187 rfl ?_
          refine x_aload_n C dL_sums_189 rfl ?_
          refine x_iload C dL_sums_190 rfl ?_
          refine x_const C dL_sums_192 ?_
          refine x_callV (nA := 2) (As := [vI i, vI 1]) (rest := [vI (r (51 + 7 * i + 6))]) C (l_bk hE S0 (b := i) ⟨by omega, by omega⟩ ⟨by decide, by decide⟩ (yB1 hc)) q_329 q_330 q_331 q_21 q_332 (by decide +kernel) (wl_t 0 (by decide)) rfl rfl (by decide) (by decide) (Nat.le_of_ble_eq_true rfl) dL_sums_193 rfl ?_
          refine x_icmp_lt 221 C dL_sums_196 (by decide) ⟨by omega, by omega⟩ ⟨by omega, by omega⟩ (fun c_52 => absurd c_52 (by omega)) (fun c_52 => ?_)
          refine x_iload C dL_sums_199 rfl ?_
          refine x_iload C dL_sums_201 rfl ?_
          refine x_icmp_ge 221 C dL_sums_203 (by decide) ⟨by omega, by omega⟩ ⟨by omega, by omega⟩ (fun c_53 => absurd c_53 (by omega)) (fun c_53 => ?_)
          refine x_iload C dL_sums_206 rfl ?_
          refine x_if_ne 223 C dL_sums_208 (by decide) ⟨by decide, by decide⟩ (fun _ => ?_) (fun z => absurd z (by decide))
          refine x_iload C dL_sums_223 rfl ?_
          refine x_const C dL_sums_225 ?_
          refine x_icmp_ne 244 C dL_sums_226 (by decide) ⟨by decide, by decide⟩ ⟨by decide, by decide⟩ (fun _ => ?_) (fun z => absurd z (by decide))
          refine x_aload_n C dL_sums_244 rfl ?_
          refine x_iload C dL_sums_245 rfl ?_
          refine x_bipush C dL_sums_247 (by decide) ?_
          refine x_callV (nA := 2) (As := [vI i, vI 6]) (rest := []) C (l_bk hE S0 (b := i) ⟨by omega, by omega⟩ ⟨by decide, by decide⟩ ((yB6 hc).trans (if_neg (fun z => by have := z.1; omega)))) q_329 q_330 q_331 q_21 q_332 (by decide +kernel) (wl_t 0 (by decide)) rfl rfl (by decide) (by decide) (Nat.le_of_ble_eq_true rfl) dL_sums_249 rfl ?_
          refine x_const C dL_sums_252 ?_
          refine x_icmp_ne 271 C dL_sums_253 (by decide) ⟨by decide, by decide⟩ ⟨by decide, by decide⟩ (fun _ => ?_) (fun z => absurd z (by decide))
          refine x_aload_n C dL_sums_271 rfl ?_
          refine x_iload C dL_sums_272 rfl ?_
          refine x_callV (nA := 1) (As := [vI i]) (rest := []) C (l_ref hE S0 (b := i) ⟨by omega, by omega⟩ (mRefd_n hc (by omega))) q_365 q_366 q_367 q_21 q_368 (by decide +kernel) (wl_t 0 (by decide)) rfl rfl (by decide) (by decide) (Nat.le_of_ble_eq_true rfl) dL_sums_274 rfl ?_
          refine x_istore C dL_sums_277 (by decide) (rfl : _ = [_, _, _, _, _, _, _, _, _, _, _]) ?_
          refine x_iload C dL_sums_279 rfl ?_
          refine x_if_ne 305 C dL_sums_281 (by decide) ⟨by decide, by decide⟩ (fun _ => ?_) (fun z => absurd z (by decide))
          refine x_iload C dL_sums_305 rfl ?_
          refine x_ldc (n := (-1000004)) C q_382 dL_sums_307 rfl ?_
          refine x_icmp_eq 314 C dL_sums_309 (by decide) ⟨by decide, by decide⟩ ⟨by decide, by decide⟩ (fun _ => ?_) (fun z => absurd z (by decide))
          refine x_iinc C dL_sums_314 rfl (by decide) (rfl : _ = [_, _, _, _, _, _, _, _, _, _, _]) ?_
          refine x_goto 21 C dL_sums_317 (by decide) ?_
          have e1 : mThere r i = 0 := if_neg (by omega)
          have e2 : mHeld r i = 0 := if_neg (by omega)
          refine G.wk (ih (i + 1) (by omega) (by omega) (by omega)) ?_
          simp only [leL, sumI_s i0, e1, e2, and_self, and_true, true_and]; try trivial
        · have k4 := k3 (by omega)
          refine x_aload_n C dL_sums_31 rfl ?_
          refine x_iload C dL_sums_32 rfl ?_
          refine x_const C dL_sums_34 ?_
          refine x_callV (nA := 2) (As := [vI i, vI 0]) (rest := []) C (l_bk hE S0 (b := i) ⟨by omega, by omega⟩ ⟨by decide, by decide⟩ ((yB0 hc).trans hst)) q_329 q_330 q_331 q_21 q_332 (by decide +kernel) (wl_t 0 (by decide)) rfl rfl (by decide) (by decide) (Nat.le_of_ble_eq_true rfl) dL_sums_35 rfl ?_
          refine x_istore C dL_sums_38 (by decide) (rfl : _ = [_, _, _, _, _, _, _, _, _, _, _]) ?_
          refine x_aload_n C dL_sums_40 rfl ?_
          refine x_iload C dL_sums_41 rfl ?_
          refine x_const C dL_sums_43 ?_
          refine x_callV (nA := 2) (As := [vI i, vI 1]) (rest := []) C (l_bk hE S0 (b := i) ⟨by omega, by omega⟩ ⟨by decide, by decide⟩ (yB1 hc)) q_329 q_330 q_331 q_21 q_332 (by decide +kernel) (wl_t 0 (by decide)) rfl rfl (by decide) (by decide) (Nat.le_of_ble_eq_true rfl) dL_sums_44 rfl ?_
          refine x_aload_n C dL_sums_47 rfl ?_
          refine x_iload C dL_sums_48 rfl ?_
          refine x_const C dL_sums_50 ?_
          refine x_callV (nA := 2) (As := [vI i, vI 2]) (rest := [vI (r (51 + 7 * i + 1))]) C (l_bk hE S0 (b := i) ⟨by omega, by omega⟩ ⟨by decide, by decide⟩ (yB2 hc)) q_329 q_330 q_331 q_21 q_332 (by decide +kernel) (wl_t 0 (by decide)) rfl rfl (by decide) (by decide) (Nat.le_of_ble_eq_true rfl) dL_sums_51 rfl ?_
          refine x_iadd C dL_sums_54 ?_
          refine x_istore C dL_sums_55 (by decide) (rfl : _ = [_, _, _, _, _, _, _, _, _, _, _]) ?_
          refine x_iload_n C dL_sums_57 rfl ?_
          refine x_iload C dL_sums_58 rfl ?_
          refine x_const C dL_sums_60 ?_
          refine x_icmp_ne 74 C dL_sums_61 (by decide) ⟨by decide, by decide⟩ ⟨by decide, by decide⟩ (fun _ => ?_) (fun z => absurd z (by decide))
          refine x_const C dL_sums_74 ?_
          refine x_iadd C dL_sums_75 ?_
          refine x_istore_n C dL_sums_76 (by decide) (rfl : _ = [_, _, _, _, _, _, _, _, _, _, _]) ?_
          refine x_iload_n C dL_sums_77 rfl ?_
          refine x_iload C dL_sums_78 rfl ?_
          refine x_const C dL_sums_80 ?_
          refine x_icmp_ge 95 C dL_sums_81 (by decide) ⟨by decide, by decide⟩ ⟨by decide, by decide⟩ (fun _ => ?_) (fun z => absurd z (by decide))
          refine x_const C dL_sums_95 ?_
          refine x_iadd C dL_sums_96 ?_
          refine x_istore_n C dL_sums_97 (by decide) (rfl : _ = [_, _, _, _, _, _, _, _, _, _, _]) ?_
          refine x_iload C dL_sums_98 rfl ?_
          refine x_if_lt 136 C dL_sums_100 (by decide) ⟨by decide, by decide⟩ (fun z => absurd z (by decide)) (fun _ => ?_)
          refine x_iload C dL_sums_103 rfl ?_
          refine x_const C dL_sums_105 ?_
          refine x_icmp_gt 136 C dL_sums_106 (by decide) ⟨by decide, by decide⟩ ⟨by decide, by decide⟩ (fun z => absurd z (by decide)) (fun _ => ?_)
          refine x_iload C dL_sums_109 rfl ?_
          refine x_aload_n C dL_sums_111 rfl ?_
          refine x_iload C dL_sums_112 rfl ?_
          refine x_const C dL_sums_114 ?_
          refine x_callV (nA := 2) (As := [vI i, vI 4]) (rest := [vI ((r (51 + 7 * i + 1)) + (r (51 + 7 * i + 2)))]) C (l_bk hE S0 (b := i) ⟨by omega, by omega⟩ ⟨by decide, by decide⟩ (yB4 hc)) q_329 q_330 q_331 q_21 q_332 (by decide +kernel) (wl_t 0 (by decide)) rfl rfl (by decide) (by decide) (Nat.le_of_ble_eq_true rfl) dL_sums_115 rfl ?_
          refine x_nsame 136 C dL_sums_118 (by decide) rfl ?_
          refine x_iload C dL_sums_121 rfl ?_
          refine x_const C dL_sums_123 ?_
          refine x_icmp_ne 138 C dL_sums_124 (by decide) ⟨by decide, by decide⟩ ⟨by decide, by decide⟩ (fun _ => ?_) (fun z => absurd z (by decide))
          refine x_aload_n C dL_sums_138 rfl ?_
          refine x_iload C dL_sums_139 rfl ?_
          refine x_bipush C dL_sums_141 (by decide) ?_
          refine x_callV (nA := 2) (As := [vI i, vI 8]) (rest := []) C (l_bk hE S0 (b := i) ⟨by omega, by omega⟩ ⟨by decide, by decide⟩ ((yB8 hc).trans k4.1)) q_329 q_330 q_331 q_21 q_332 (by decide +kernel) (wl_t 0 (by decide)) rfl rfl (by decide) (by decide) (Nat.le_of_ble_eq_true rfl) dL_sums_143 rfl ?_
          refine x_istore C dL_sums_146 (by decide) (rfl : _ = [_, _, _, _, _, _, _, _, _, _, _]) ?_
          refine x_iload C dL_sums_148 rfl ?_
          refine x_const C dL_sums_150 ?_
          refine x_icmp_eq 160 C dL_sums_151 (by decide) ⟨by decide, by decide⟩ ⟨by decide, by decide⟩ (fun z => absurd z (by decide)) (fun _ => ?_)
          refine x_iload C dL_sums_154 rfl ?_
          refine x_const C dL_sums_156 ?_
          refine x_icmp_ne 164 C dL_sums_157 (by decide) ⟨by decide, by decide⟩ ⟨by decide, by decide⟩ (fun _ => ?_) (fun z => absurd z (by decide))
          refine x_const C dL_sums_164 ?_
          refine x_istore C dL_sums_165 (by decide) (rfl : _ = [_, _, _, _, _, _, _, _, _, _, _]) ?_
          refine x_iload C dL_sums_167 rfl ?_
          refine x_iload C dL_sums_169 rfl ?_
          refine x_if_lt 178 C dL_sums_171 (by decide) ⟨by decide, by decide⟩ (fun _ => ?_) (fun z => absurd z (by decide))
          refine x_const C dL_sums_178 ?_
          refine x_icmp_ne 221 C dL_sums_179 (by decide) ⟨by decide, by decide⟩ ⟨by decide, by decide⟩ (fun z => absurd z (by decide)) (fun _ => ?_)
          refine x_iload C dL_sums_182 rfl ?_
          refine x_if_eq 206 C dL_sums_184 (by decide) ⟨by decide, by decide⟩ (fun _ => ?_) (fun z => absurd z (by decide))
          refine x_iload C dL_sums_206 rfl ?_
          refine x_if_ne 223 C dL_sums_208 (by decide) ⟨by decide, by decide⟩ (fun z => absurd z (by decide)) (fun _ => ?_)
          refine x_aload_n C dL_sums_211 rfl ?_
          refine x_iload C dL_sums_212 rfl ?_
          refine x_const C dL_sums_214 ?_
          refine x_callV (nA := 2) (As := [vI i, vI 5]) (rest := []) C (l_bk hE S0 (b := i) ⟨by omega, by omega⟩ ⟨by decide, by decide⟩ ((yB5 hc).trans k4.2)) q_329 q_330 q_331 q_21 q_332 (by decide +kernel) (wl_t 0 (by decide)) rfl rfl (by decide) (by decide) (Nat.le_of_ble_eq_true rfl) dL_sums_215 rfl ?_
          refine x_if_eq 223 C dL_sums_218 (by decide) ⟨by decide, by decide⟩ (fun _ => ?_) (fun z => absurd z (by decide))
          refine x_iload C dL_sums_223 rfl ?_
          refine x_const C dL_sums_225 ?_
          refine x_icmp_ne 244 C dL_sums_226 (by decide) ⟨by decide, by decide⟩ ⟨by decide, by decide⟩ (fun _ => ?_) (fun z => absurd z (by decide))
          refine x_aload_n C dL_sums_244 rfl ?_
          refine x_iload C dL_sums_245 rfl ?_
          refine x_bipush C dL_sums_247 (by decide) ?_
          refine x_callV (nA := 2) (As := [vI i, vI 6]) (rest := []) C (l_bk hE S0 (b := i) ⟨by omega, by omega⟩ ⟨by decide, by decide⟩ ((yB6 hc).trans (if_neg (fun z => by have := z.1; omega)))) q_329 q_330 q_331 q_21 q_332 (by decide +kernel) (wl_t 0 (by decide)) rfl rfl (by decide) (by decide) (Nat.le_of_ble_eq_true rfl) dL_sums_249 rfl ?_
          refine x_const C dL_sums_252 ?_
          refine x_icmp_ne 271 C dL_sums_253 (by decide) ⟨by decide, by decide⟩ ⟨by decide, by decide⟩ (fun _ => ?_) (fun z => absurd z (by decide))
          refine x_aload_n C dL_sums_271 rfl ?_
          refine x_iload C dL_sums_272 rfl ?_
          refine x_callV (nA := 1) (As := [vI i]) (rest := []) C (l_ref hE S0 (b := i) ⟨by omega, by omega⟩ (mRefd_n hc (by omega))) q_365 q_366 q_367 q_21 q_368 (by decide +kernel) (wl_t 0 (by decide)) rfl rfl (by decide) (by decide) (Nat.le_of_ble_eq_true rfl) dL_sums_274 rfl ?_
          refine x_istore C dL_sums_277 (by decide) (rfl : _ = [_, _, _, _, _, _, _, _, _, _, _]) ?_
          refine x_iload C dL_sums_279 rfl ?_
          refine x_if_ne 305 C dL_sums_281 (by decide) ⟨by decide, by decide⟩ (fun _ => ?_) (fun z => absurd z (by decide))
          refine x_iload C dL_sums_305 rfl ?_
          refine x_ldc (n := (-1000004)) C q_382 dL_sums_307 rfl ?_
          refine x_icmp_eq 314 C dL_sums_309 (by decide) ⟨by decide, by decide⟩ ⟨by decide, by decide⟩ (fun _ => ?_) (fun z => absurd z (by decide))
          refine x_iinc C dL_sums_314 rfl (by decide) (rfl : _ = [_, _, _, _, _, _, _, _, _, _, _]) ?_
          refine x_goto 21 C dL_sums_317 (by decide) ?_
          have e1 : mThere r i = 0 := if_neg (by omega)
          have e2 : mHeld r i = 0 := if_neg (by omega)
          refine G.wk (ih (i + 1) (by omega) (by omega) (by omega)) ?_
          simp only [leL, sumI_s i0, e1, e2, and_self, and_true, true_and]; try trivial
        · have k4 := k3 (by omega)
          refine x_aload_n C dL_sums_31 rfl ?_
          refine x_iload C dL_sums_32 rfl ?_
          refine x_const C dL_sums_34 ?_
          refine x_callV (nA := 2) (As := [vI i, vI 0]) (rest := []) C (l_bk hE S0 (b := i) ⟨by omega, by omega⟩ ⟨by decide, by decide⟩ ((yB0 hc).trans hst)) q_329 q_330 q_331 q_21 q_332 (by decide +kernel) (wl_t 0 (by decide)) rfl rfl (by decide) (by decide) (Nat.le_of_ble_eq_true rfl) dL_sums_35 rfl ?_
          refine x_istore C dL_sums_38 (by decide) (rfl : _ = [_, _, _, _, _, _, _, _, _, _, _]) ?_
          refine x_aload_n C dL_sums_40 rfl ?_
          refine x_iload C dL_sums_41 rfl ?_
          refine x_const C dL_sums_43 ?_
          refine x_callV (nA := 2) (As := [vI i, vI 1]) (rest := []) C (l_bk hE S0 (b := i) ⟨by omega, by omega⟩ ⟨by decide, by decide⟩ (yB1 hc)) q_329 q_330 q_331 q_21 q_332 (by decide +kernel) (wl_t 0 (by decide)) rfl rfl (by decide) (by decide) (Nat.le_of_ble_eq_true rfl) dL_sums_44 rfl ?_
          refine x_aload_n C dL_sums_47 rfl ?_
          refine x_iload C dL_sums_48 rfl ?_
          refine x_const C dL_sums_50 ?_
          refine x_callV (nA := 2) (As := [vI i, vI 2]) (rest := [vI (r (51 + 7 * i + 1))]) C (l_bk hE S0 (b := i) ⟨by omega, by omega⟩ ⟨by decide, by decide⟩ (yB2 hc)) q_329 q_330 q_331 q_21 q_332 (by decide +kernel) (wl_t 0 (by decide)) rfl rfl (by decide) (by decide) (Nat.le_of_ble_eq_true rfl) dL_sums_51 rfl ?_
          refine x_iadd C dL_sums_54 ?_
          refine x_istore C dL_sums_55 (by decide) (rfl : _ = [_, _, _, _, _, _, _, _, _, _, _]) ?_
          refine x_iload_n C dL_sums_57 rfl ?_
          refine x_iload C dL_sums_58 rfl ?_
          refine x_const C dL_sums_60 ?_
          refine x_icmp_ne 74 C dL_sums_61 (by decide) ⟨by decide, by decide⟩ ⟨by decide, by decide⟩ (fun _ => ?_) (fun z => absurd z (by decide))
          refine x_const C dL_sums_74 ?_
          refine x_iadd C dL_sums_75 ?_
          refine x_istore_n C dL_sums_76 (by decide) (rfl : _ = [_, _, _, _, _, _, _, _, _, _, _]) ?_
          refine x_iload_n C dL_sums_77 rfl ?_
          refine x_iload C dL_sums_78 rfl ?_
          refine x_const C dL_sums_80 ?_
          refine x_icmp_ge 95 C dL_sums_81 (by decide) ⟨by decide, by decide⟩ ⟨by decide, by decide⟩ (fun _ => ?_) (fun z => absurd z (by decide))
          refine x_const C dL_sums_95 ?_
          refine x_iadd C dL_sums_96 ?_
          refine x_istore_n C dL_sums_97 (by decide) (rfl : _ = [_, _, _, _, _, _, _, _, _, _, _]) ?_
          refine x_iload C dL_sums_98 rfl ?_
          refine x_if_lt 136 C dL_sums_100 (by decide) ⟨by decide, by decide⟩ (fun z => absurd z (by decide)) (fun _ => ?_)
          refine x_iload C dL_sums_103 rfl ?_
          refine x_const C dL_sums_105 ?_
          refine x_icmp_gt 136 C dL_sums_106 (by decide) ⟨by decide, by decide⟩ ⟨by decide, by decide⟩ (fun z => absurd z (by decide)) (fun _ => ?_)
          refine x_iload C dL_sums_109 rfl ?_
          refine x_aload_n C dL_sums_111 rfl ?_
          refine x_iload C dL_sums_112 rfl ?_
          refine x_const C dL_sums_114 ?_
          refine x_callV (nA := 2) (As := [vI i, vI 4]) (rest := [vI ((r (51 + 7 * i + 1)) + (r (51 + 7 * i + 2)))]) C (l_bk hE S0 (b := i) ⟨by omega, by omega⟩ ⟨by decide, by decide⟩ (yB4 hc)) q_329 q_330 q_331 q_21 q_332 (by decide +kernel) (wl_t 0 (by decide)) rfl rfl (by decide) (by decide) (Nat.le_of_ble_eq_true rfl) dL_sums_115 rfl ?_
          refine x_nsame 136 C dL_sums_118 (by decide) rfl ?_
          refine x_iload C dL_sums_121 rfl ?_
          refine x_const C dL_sums_123 ?_
          refine x_icmp_ne 138 C dL_sums_124 (by decide) ⟨by decide, by decide⟩ ⟨by decide, by decide⟩ (fun _ => ?_) (fun z => absurd z (by decide))
          refine x_aload_n C dL_sums_138 rfl ?_
          refine x_iload C dL_sums_139 rfl ?_
          refine x_bipush C dL_sums_141 (by decide) ?_
          refine x_callV (nA := 2) (As := [vI i, vI 8]) (rest := []) C (l_bk hE S0 (b := i) ⟨by omega, by omega⟩ ⟨by decide, by decide⟩ ((yB8 hc).trans k4.1)) q_329 q_330 q_331 q_21 q_332 (by decide +kernel) (wl_t 0 (by decide)) rfl rfl (by decide) (by decide) (Nat.le_of_ble_eq_true rfl) dL_sums_143 rfl ?_
          refine x_istore C dL_sums_146 (by decide) (rfl : _ = [_, _, _, _, _, _, _, _, _, _, _]) ?_
          refine x_iload C dL_sums_148 rfl ?_
          refine x_const C dL_sums_150 ?_
          refine x_icmp_eq 160 C dL_sums_151 (by decide) ⟨by decide, by decide⟩ ⟨by decide, by decide⟩ (fun z => absurd z (by decide)) (fun _ => ?_)
          refine x_iload C dL_sums_154 rfl ?_
          refine x_const C dL_sums_156 ?_
          refine x_icmp_ne 164 C dL_sums_157 (by decide) ⟨by decide, by decide⟩ ⟨by decide, by decide⟩ (fun _ => ?_) (fun z => absurd z (by decide))
          refine x_const C dL_sums_164 ?_
          refine x_istore C dL_sums_165 (by decide) (rfl : _ = [_, _, _, _, _, _, _, _, _, _, _]) ?_
          refine x_iload C dL_sums_167 rfl ?_
          refine x_iload C dL_sums_169 rfl ?_
          refine x_if_lt 178 C dL_sums_171 (by decide) ⟨by decide, by decide⟩ (fun _ => ?_) (fun z => absurd z (by decide))
          refine x_const C dL_sums_178 ?_
          refine x_icmp_ne 221 C dL_sums_179 (by decide) ⟨by decide, by decide⟩ ⟨by decide, by decide⟩ (fun z => absurd z (by decide)) (fun _ => ?_)
          refine x_iload C dL_sums_182 rfl ?_
          refine x_if_eq 206 C dL_sums_184 (by decide) ⟨by decide, by decide⟩ (fun _ => ?_) (fun z => absurd z (by decide))
          refine x_iload C dL_sums_206 rfl ?_
          refine x_if_ne 223 C dL_sums_208 (by decide) ⟨by decide, by decide⟩ (fun z => absurd z (by decide)) (fun _ => ?_)
          refine x_aload_n C dL_sums_211 rfl ?_
          refine x_iload C dL_sums_212 rfl ?_
          refine x_const C dL_sums_214 ?_
          refine x_callV (nA := 2) (As := [vI i, vI 5]) (rest := []) C (l_bk hE S0 (b := i) ⟨by omega, by omega⟩ ⟨by decide, by decide⟩ ((yB5 hc).trans k4.2)) q_329 q_330 q_331 q_21 q_332 (by decide +kernel) (wl_t 0 (by decide)) rfl rfl (by decide) (by decide) (Nat.le_of_ble_eq_true rfl) dL_sums_215 rfl ?_
          refine x_if_eq 223 C dL_sums_218 (by decide) ⟨by decide, by decide⟩ (fun _ => ?_) (fun z => absurd z (by decide))
          refine x_iload C dL_sums_223 rfl ?_
          refine x_const C dL_sums_225 ?_
          refine x_icmp_ne 244 C dL_sums_226 (by decide) ⟨by decide, by decide⟩ ⟨by decide, by decide⟩ (fun _ => ?_) (fun z => absurd z (by decide))
          refine x_aload_n C dL_sums_244 rfl ?_
          refine x_iload C dL_sums_245 rfl ?_
          refine x_bipush C dL_sums_247 (by decide) ?_
          refine x_callV (nA := 2) (As := [vI i, vI 6]) (rest := []) C (l_bk hE S0 (b := i) ⟨by omega, by omega⟩ ⟨by decide, by decide⟩ ((yB6 hc).trans (if_neg (fun z => by have := z.1; omega)))) q_329 q_330 q_331 q_21 q_332 (by decide +kernel) (wl_t 0 (by decide)) rfl rfl (by decide) (by decide) (Nat.le_of_ble_eq_true rfl) dL_sums_249 rfl ?_
          refine x_const C dL_sums_252 ?_
          refine x_icmp_ne 271 C dL_sums_253 (by decide) ⟨by decide, by decide⟩ ⟨by decide, by decide⟩ (fun _ => ?_) (fun z => absurd z (by decide))
          refine x_aload_n C dL_sums_271 rfl ?_
          refine x_iload C dL_sums_272 rfl ?_
          refine x_callV (nA := 1) (As := [vI i]) (rest := []) C (l_ref hE S0 (b := i) ⟨by omega, by omega⟩ (mRefd_n hc (by omega))) q_365 q_366 q_367 q_21 q_368 (by decide +kernel) (wl_t 0 (by decide)) rfl rfl (by decide) (by decide) (Nat.le_of_ble_eq_true rfl) dL_sums_274 rfl ?_
          refine x_istore C dL_sums_277 (by decide) (rfl : _ = [_, _, _, _, _, _, _, _, _, _, _]) ?_
          refine x_iload C dL_sums_279 rfl ?_
          refine x_if_ne 305 C dL_sums_281 (by decide) ⟨by decide, by decide⟩ (fun _ => ?_) (fun z => absurd z (by decide))
          refine x_iload C dL_sums_305 rfl ?_
          refine x_ldc (n := (-1000004)) C q_382 dL_sums_307 rfl ?_
          refine x_icmp_eq 314 C dL_sums_309 (by decide) ⟨by decide, by decide⟩ ⟨by decide, by decide⟩ (fun _ => ?_) (fun z => absurd z (by decide))
          refine x_iinc C dL_sums_314 rfl (by decide) (rfl : _ = [_, _, _, _, _, _, _, _, _, _, _]) ?_
          refine x_goto 21 C dL_sums_317 (by decide) ?_
          have e1 : mThere r i = 0 := if_neg (by omega)
          have e2 : mHeld r i = 0 := if_neg (by omega)
          refine G.wk (ih (i + 1) (by omega) (by omega) (by omega)) ?_
          simp only [leL, sumI_s i0, e1, e2, and_self, and_true, true_and]; try trivial
  exact K21 (r 1 + 1).toNat 0 (by omega) (by omega) (by omega)
