set_option maxRecDepth 100000 in
set_option maxHeartbeats 4000000 in
theorem m_X6_errorUnlessBooked {hs : Nat → HV} {tp md : HV} {E : HE} (hE : HI E) {K : Int} (R : RG K (hs 0)) {b : Int} (b0 : IR b) : Mt yX6_errorUnlessBooked cX6_errorUnlessBooked 2 (some .int) 2 E [.ref (tA E 0), vI b] hs tp md (some (vI (xErr (hs 0) b))) hs tp md := by
  refine mk_Mt hE (plainFor_of_name (by decide)) (Nat.le_of_ble_eq_true rfl) (by intro w0 hw0; simp only [List.mem_cons, List.not_mem_nil, or_false] at hw0; rcases hw0 with rfl | rfl <;> rfl) (rfl : _ = [_, _]) ?_
  intro F C D
  have rm := RG.made R
  refine x_aload_n C dX6_errorUnlessBooked_0 rfl ?_
  refine gt_0_0 C q_232 dX6_errorUnlessBooked_1 ?_
  refine gh_0_2 C (by decide) (rfl : hs 0 = hs 0) q_135 dX6_errorUnlessBooked_4 ?_
  refine x_iload_n C dX6_errorUnlessBooked_7 rfl ?_
  refine x_callV (nA := 1) (As := [vI b]) (rest := []) C (m_X1_knows hE (by decide) (rfl : hs 0 = hs 0) R ⟨by omega, by omega⟩) q_333 q_334 q_335 q_24 q_336 (by decide +kernel) (wl_h (by decide) (rfl : hs 0 = hs 0) 3 (by decide)) rfl rfl (by decide) (by decide) (Nat.le_of_ble_eq_true rfl) dX6_errorUnlessBooked_8 rfl ?_
  refine x_bz_ne 17 C dX6_errorUnlessBooked_11 (by decide) (fun c_1 => ?_) (fun c_1 => ?_)
  · refine x_aload_n C dX6_errorUnlessBooked_17 rfl ?_
    refine gt_0_0 C q_232 dX6_errorUnlessBooked_18 ?_
    refine gh_0_2 C (by decide) (rfl : hs 0 = hs 0) q_135 dX6_errorUnlessBooked_21 ?_
    refine gh_3_0 C (by decide) (rfl : hs 0 = hs 0) q_58 dX6_errorUnlessBooked_24 ?_
    refine x_iload_n C dX6_errorUnlessBooked_27 rfl ?_
    refine lh_4 C (by decide) (rfl : hs 0 = hs 0) (by omega) (by omega) dX6_errorUnlessBooked_28 rfl ?_
    have r_2 := RG.how R (b := b) (by omega) (by omega)
    refine x_if_ne 36 C dX6_errorUnlessBooked_29 (by decide) ⟨by omega, by omega⟩ (fun c_3 => ?_) (fun c_3 => ?_)
    · refine x_ldc (n := (-1000004)) C q_373 dX6_errorUnlessBooked_36 rfl ?_
      exact x_iret C D rfl dX6_errorUnlessBooked_38 (by unfold xErr; (repeat (first | rw [if_pos (by first | omega | assumption | exact not_not_intro (by assumption))] | rw [if_neg (by first | omega | assumption | exact not_not_intro (by assumption))])); all_goals rfl) rfl rfl rfl
    · refine x_const C dX6_errorUnlessBooked_32 ?_
      refine x_goto 38 C dX6_errorUnlessBooked_33 (by decide) ?_
      exact x_iret C D rfl dX6_errorUnlessBooked_38 (by unfold xErr; (repeat (first | rw [if_pos (by first | omega | assumption | exact not_not_intro (by assumption))] | rw [if_neg (by first | omega | assumption | exact not_not_intro (by assumption))])); all_goals rfl) rfl rfl rfl
  · refine x_ldc (n := (-1000001)) C q_337 dX6_errorUnlessBooked_14 rfl ?_
    exact x_iret C D rfl dX6_errorUnlessBooked_16 (by unfold xErr; (repeat (first | rw [if_pos (by first | omega | assumption | exact not_not_intro (by assumption))] | rw [if_neg (by first | omega | assumption | exact not_not_intro (by assumption))])); all_goals rfl) rfl rfl rfl
set_option maxRecDepth 100000 in
set_option maxHeartbeats 4000000 in
theorem m_X6_book {hs : Nat → HV} {tp md : HV} {E : HE} (hE : HI E) {K : Int} (R : RG K (hs 0)) (S : SG tp) {a n p : Int} (a0 : IR a) (n0 : IR n) (p0 : IR p) : Mt yX6_book cX6_book 5 (some .int) 6 E [.ref (tA E 0), vI a, vI n, vI p] hs tp md (some (vI ((xBook hs tp a n p).1))) ((xBook hs tp a n p).2.1) ((xBook hs tp a n p).2.2) md := by
  refine mk_Mt hE (plainFor_of_name (by decide)) (Nat.le_of_ble_eq_true rfl) (by intro w0 hw0; simp only [List.mem_cons, List.not_mem_nil, or_false] at hw0; rcases hw0 with rfl | rfl | rfl | rfl <;> rfl) (rfl : _ = [_, _, _, _, _]) ?_
  intro F C D
  have rm := RG.made R
  have ber := bErr_r (h := hs 0) (a := a) (n := n) (p := p)
  refine x_aload_n C dX6_book_0 rfl ?_
  refine gt_0_0 C q_232 dX6_book_1 ?_
  refine x_iload_n C dX6_book_4 rfl ?_
  refine x_iload_n C dX6_book_5 rfl ?_
  refine x_iload_n C dX6_book_6 rfl ?_
  refine x_callV (nA := 3) (As := [vI a, vI n, vI p]) (rest := []) C (m_X3_bookingError hE (by decide) (rfl : hs 0 = hs 0) R ⟨by omega, by omega⟩ ⟨by omega, by omega⟩ ⟨by omega, by omega⟩) q_439 q_440 q_441 q_22 q_442 (by decide +kernel) (wl_h (by decide) (rfl : hs 0 = hs 0) 0 (by decide)) rfl rfl (by decide) (by decide) (Nat.le_of_ble_eq_true rfl) dX6_book_7 rfl ?_
  refine x_istore C dX6_book_10 (by decide) (rfl : _ = [_, _, _, _, _]) ?_
  refine x_iload C dX6_book_12 rfl ?_
  refine x_if_eq 20 C dX6_book_14 (by decide) ⟨by omega, by omega⟩ (fun c_1 => ?_) (fun c_1 => ?_)
  · have be0 := bErr_0 c_1
    refine x_aload_n C dX6_book_20 rfl ?_
    refine gt_0_4 C q_236 dX6_book_21 ?_
    refine x_aload_n C dX6_book_24 rfl ?_
    refine gt_0_0 C q_232 dX6_book_25 ?_
    refine x_callV (nA := 1) (As := [.ref (hA E 0 0)]) (rest := []) C (m_X2_remember hE S R rfl rfl) q_452 q_453 q_454 q_27 q_455 (by decide +kernel) (wl_t 2 (by decide)) rfl rfl (by decide) (by decide) (Nat.le_of_ble_eq_true rfl) dX6_book_28 rfl ?_
    refine x_aload_n C dX6_book_31 rfl ?_
    refine gt_0_0 C q_232 dX6_book_32 ?_
    refine x_iload_n C dX6_book_35 rfl ?_
    refine x_iload_n C dX6_book_36 rfl ?_
    refine x_iload_n C dX6_book_37 rfl ?_
    refine x_callV (nA := 3) (As := [vI a, vI n, vI p]) (rest := []) C (m_X3_addBooking hE (by decide) ((rH_ne S (show 0 < 3 by decide)).trans (rfl : hs 0 = hs 0)) (by omega) (by omega) rfl) q_460 q_461 q_462 q_22 q_463 (by decide +kernel) (wl_h (by decide) ((rH_ne S (show 0 < 3 by decide)).trans (rfl : hs 0 = hs 0)) 0 (by decide)) rfl rfl (by decide) (by decide) (Nat.le_of_ble_eq_true rfl) dX6_book_38 rfl ?_
    exact x_iret C D rfl dX6_book_41 (by unfold xBook; (repeat (first | rw [if_pos (by first | omega | assumption | exact not_not_intro (by assumption))] | rw [if_neg (by first | omega | assumption | exact not_not_intro (by assumption))])); all_goals rfl) (by unfold xBook; (repeat (first | rw [if_pos (by first | omega | assumption | exact not_not_intro (by assumption))] | rw [if_neg (by first | omega | assumption | exact not_not_intro (by assumption))])); all_goals rfl) (by unfold xBook; (repeat (first | rw [if_pos (by first | omega | assumption | exact not_not_intro (by assumption))] | rw [if_neg (by first | omega | assumption | exact not_not_intro (by assumption))])); all_goals rfl) rfl
  · refine x_iload C dX6_book_17 rfl ?_
    exact x_iret C D rfl dX6_book_19 (by unfold xBook; (repeat (first | rw [if_pos (by first | omega | assumption | exact not_not_intro (by assumption))] | rw [if_neg (by first | omega | assumption | exact not_not_intro (by assumption))])); all_goals rfl) (by unfold xBook; (repeat (first | rw [if_pos (by first | omega | assumption | exact not_not_intro (by assumption))] | rw [if_neg (by first | omega | assumption | exact not_not_intro (by assumption))])); all_goals rfl) (by unfold xBook; (repeat (first | rw [if_pos (by first | omega | assumption | exact not_not_intro (by assumption))] | rw [if_neg (by first | omega | assumption | exact not_not_intro (by assumption))])); all_goals rfl) rfl
set_option maxRecDepth 100000 in
set_option maxHeartbeats 4000000 in
theorem m_X6_cancel {hs : Nat → HV} {tp md : HV} {E : HE} (hE : HI E) {K : Int} (R : RG K (hs 0)) (S : SG tp) {b : Int} (b0 : IR b) : Mt yX6_cancel cX6_cancel 3 (some .int) 5 E [.ref (tA E 0), vI b] hs tp md (some (vI ((xCancel hs tp b).1))) ((xCancel hs tp b).2.1) ((xCancel hs tp b).2.2) md := by
  refine mk_Mt hE (plainFor_of_name (by decide)) (Nat.le_of_ble_eq_true rfl) (by intro w0 hw0; simp only [List.mem_cons, List.not_mem_nil, or_false] at hw0; rcases hw0 with rfl | rfl <;> rfl) (rfl : _ = [_, _, _]) ?_
  intro F C D
  refine x_aload_n C dX6_cancel_0 rfl ?_
  refine x_iload_n C dX6_cancel_1 rfl ?_
  refine x_callV (nA := 1) (As := [vI b]) (rest := []) C (m_X6_errorUnlessBooked hE R ⟨by omega, by omega⟩) q_369 q_371 q_0 q_21 q_372 (by decide +kernel) (wl_t 0 (by decide)) rfl rfl (by decide) (by decide) (Nat.le_of_ble_eq_true rfl) dX6_cancel_2 rfl ?_
  have xer := xErr_r (h := hs 0) (b := b)
  refine x_istore_n C dX6_cancel_5 (by decide) (rfl : _ = [_, _, _]) ?_
  refine x_iload_n C dX6_cancel_6 rfl ?_
  refine x_if_eq 12 C dX6_cancel_7 (by decide) ⟨by omega, by omega⟩ (fun c_1 => ?_) (fun c_1 => ?_)
  · have xe0 := xErr_0 c_1
    have rmm := RG.made R
    refine x_aload_n C dX6_cancel_12 rfl ?_
    refine gt_0_4 C q_236 dX6_cancel_13 ?_
    refine x_aload_n C dX6_cancel_16 rfl ?_
    refine gt_0_0 C q_232 dX6_cancel_17 ?_
    refine x_callV (nA := 1) (As := [.ref (hA E 0 0)]) (rest := []) C (m_X2_remember hE S R rfl rfl) q_452 q_453 q_454 q_27 q_455 (by decide +kernel) (wl_t 2 (by decide)) rfl rfl (by decide) (by decide) (Nat.le_of_ble_eq_true rfl) dX6_cancel_20 rfl ?_
    refine x_aload_n C dX6_cancel_23 rfl ?_
    refine gt_0_0 C q_232 dX6_cancel_24 ?_
    refine x_iload_n C dX6_cancel_27 rfl ?_
    refine x_callV (nA := 1) (As := [vI b]) (rest := []) C (m_X3_cancelBooking hE (by decide) ((rH_ne S (show 0 < 3 by decide)).trans (rfl : hs 0 = hs 0)) R (by omega) (by omega) rfl) q_599 q_600 q_601 q_22 q_602 (by decide +kernel) (wl_h (by decide) ((rH_ne S (show 0 < 3 by decide)).trans (rfl : hs 0 = hs 0)) 0 (by decide)) rfl rfl (by decide) (by decide) (Nat.le_of_ble_eq_true rfl) dX6_cancel_28 rfl ?_
    exact x_iret C D rfl dX6_cancel_31 (by unfold xCancel; (repeat (first | rw [if_pos (by first | omega | assumption | exact not_not_intro (by assumption))] | rw [if_neg (by first | omega | assumption | exact not_not_intro (by assumption))])); all_goals rfl) (by unfold xCancel; (repeat (first | rw [if_pos (by first | omega | assumption | exact not_not_intro (by assumption))] | rw [if_neg (by first | omega | assumption | exact not_not_intro (by assumption))])); all_goals rfl) (by unfold xCancel; (repeat (first | rw [if_pos (by first | omega | assumption | exact not_not_intro (by assumption))] | rw [if_neg (by first | omega | assumption | exact not_not_intro (by assumption))])); all_goals rfl) rfl
  · refine x_iload_n C dX6_cancel_10 rfl ?_
    exact x_iret C D rfl dX6_cancel_11 (by unfold xCancel; (repeat (first | rw [if_pos (by first | omega | assumption | exact not_not_intro (by assumption))] | rw [if_neg (by first | omega | assumption | exact not_not_intro (by assumption))])); all_goals rfl) (by unfold xCancel; (repeat (first | rw [if_pos (by first | omega | assumption | exact not_not_intro (by assumption))] | rw [if_neg (by first | omega | assumption | exact not_not_intro (by assumption))])); all_goals rfl) (by unfold xCancel; (repeat (first | rw [if_pos (by first | omega | assumption | exact not_not_intro (by assumption))] | rw [if_neg (by first | omega | assumption | exact not_not_intro (by assumption))])); all_goals rfl) rfl
set_option maxRecDepth 100000 in
set_option maxHeartbeats 4000000 in
theorem m_X6_extend {hs : Nat → HV} {tp md : HV} {E : HE} (hE : HI E) {K : Int} (R : RG K (hs 0)) (S : SG tp) {b n : Int} (b0 : IR b) (n0 : IR n) : Mt yX6_extend cX6_extend 3 (some .int) 6 E [.ref (tA E 0), vI b, vI n] hs tp md (some (vI ((xExtend hs tp b n).1))) ((xExtend hs tp b n).2.1) ((xExtend hs tp b n).2.2) md := by
  refine mk_Mt hE (plainFor_of_name (by decide)) (Nat.le_of_ble_eq_true rfl) (by intro w0 hw0; simp only [List.mem_cons, List.not_mem_nil, or_false] at hw0; rcases hw0 with rfl | rfl | rfl <;> rfl) (rfl : _ = [_, _, _]) ?_
  intro F C D
  have rm := RG.made R
  refine x_aload_n C dX6_extend_0 rfl ?_
  refine gt_0_0 C q_232 dX6_extend_1 ?_
  refine gh_0_2 C (by decide) (rfl : hs 0 = hs 0) q_135 dX6_extend_4 ?_
  refine x_iload_n C dX6_extend_7 rfl ?_
  refine x_callV (nA := 1) (As := [vI b]) (rest := []) C (m_X1_knows hE (by decide) (rfl : hs 0 = hs 0) R ⟨by omega, by omega⟩) q_333 q_334 q_335 q_24 q_336 (by decide +kernel) (wl_h (by decide) (rfl : hs 0 = hs 0) 3 (by decide)) rfl rfl (by decide) (by decide) (Nat.le_of_ble_eq_true rfl) dX6_extend_8 rfl ?_
  refine x_bz_ne 17 C dX6_extend_11 (by decide) (fun c_1 => ?_) (fun c_1 => ?_)
  · refine x_iload_n C dX6_extend_17 rfl ?_
    refine x_const C dX6_extend_18 ?_
    refine x_icmp_lt 28 C dX6_extend_19 (by decide) ⟨by omega, by omega⟩ ⟨by omega, by omega⟩ (fun c_2 => ?_) (fun c_2 => ?_)
    · refine x_ldc (n := (-1000002)) C q_305 dX6_extend_28 rfl ?_
      exact x_iret C D rfl dX6_extend_30 (by unfold xExtend; (repeat (first | rw [if_pos (by first | omega | assumption | exact not_not_intro (by assumption))] | rw [if_neg (by first | omega | assumption | exact not_not_intro (by assumption))])); all_goals rfl) (by unfold xExtend; (repeat (first | rw [if_pos (by first | omega | assumption | exact not_not_intro (by assumption))] | rw [if_neg (by first | omega | assumption | exact not_not_intro (by assumption))])); all_goals rfl) (by unfold xExtend; (repeat (first | rw [if_pos (by first | omega | assumption | exact not_not_intro (by assumption))] | rw [if_neg (by first | omega | assumption | exact not_not_intro (by assumption))])); all_goals rfl) rfl
    · refine x_iload_n C dX6_extend_22 rfl ?_
      refine x_bipush C dX6_extend_23 (by decide) ?_
      refine x_icmp_le 31 C dX6_extend_25 (by decide) ⟨by omega, by omega⟩ ⟨by omega, by omega⟩ (fun c_3 => ?_) (fun c_3 => ?_)
      · refine x_aload_n C dX6_extend_31 rfl ?_
        refine gt_0_0 C q_232 dX6_extend_32 ?_
        refine x_iload_n C dX6_extend_35 rfl ?_
        refine x_iload_n C dX6_extend_36 rfl ?_
        refine x_callV (nA := 2) (As := [vI b, vI n]) (rest := []) C (m_X3_canStayLonger hE (by decide) (rfl : hs 0 = hs 0) R (by omega) (by omega) ⟨by omega, by omega⟩) q_608 q_609 q_610 q_22 q_611 (by decide +kernel) (wl_h (by decide) (rfl : hs 0 = hs 0) 0 (by decide)) rfl rfl (by decide) (by decide) (Nat.le_of_ble_eq_true rfl) dX6_extend_37 rfl ?_
        refine x_bz_ne 46 C dX6_extend_40 (by decide) (fun c_4 => ?_) (fun c_4 => ?_)
        · have ca := RG.arr R (b := b) (by omega) (by omega)
          refine x_aload_n C dX6_extend_46 rfl ?_
          refine gt_0_4 C q_236 dX6_extend_47 ?_
          refine x_aload_n C dX6_extend_50 rfl ?_
          refine gt_0_0 C q_232 dX6_extend_51 ?_
          refine x_callV (nA := 1) (As := [.ref (hA E 0 0)]) (rest := []) C (m_X2_remember hE S R rfl rfl) q_452 q_453 q_454 q_27 q_455 (by decide +kernel) (wl_t 2 (by decide)) rfl rfl (by decide) (by decide) (Nat.le_of_ble_eq_true rfl) dX6_extend_54 rfl ?_
          refine x_aload_n C dX6_extend_57 rfl ?_
          refine gt_0_0 C q_232 dX6_extend_58 ?_
          refine gh_0_2 C (by decide) ((rH_ne S (show 0 < 3 by decide)).trans (rfl : hs 0 = hs 0)) q_135 dX6_extend_61 ?_
          refine gh_3_2 C (by decide) ((rH_ne S (show 0 < 3 by decide)).trans (rfl : hs 0 = hs 0)) q_63 dX6_extend_64 ?_
          refine x_iload_n C dX6_extend_67 rfl ?_
          refine x_dup2 C dX6_extend_68 rfl rfl ?_
          refine lh_6 C (by decide) ((rH_ne S (show 0 < 3 by decide)).trans (rfl : hs 0 = hs 0)) (by omega) (by omega) dX6_extend_69 rfl ?_
          have r_5 := RG.nig R (b := b) (by omega) (by omega)
          refine x_iload_n C dX6_extend_70 rfl ?_
          refine x_iadd C dX6_extend_71 ?_
          refine sh_6 C (by decide) ((rH_ne S (show 0 < 3 by decide)).trans (rfl : hs 0 = hs 0)) (by omega) (by omega) dX6_extend_72 rfl ?_
          refine x_aload_n C dX6_extend_73 rfl ?_
          refine gt_0_0 C q_232 dX6_extend_74 ?_
          refine gh_0_2 C (by decide) putH_same q_135 dX6_extend_77 ?_
          refine x_iload_n C dX6_extend_80 rfl ?_
          refine x_callV (nA := 1) (As := [vI b]) (rest := []) C (m_X1_end (h := (upr (hs 0) 6 (up1 ((hs 0) 6) b (((hs 0) 6 b) + n)))) hE (by decide) putH_same (by omega) (by omega)) q_338 q_339 q_340 q_24 q_341 (by decide +kernel) (wl_h (by decide) putH_same 3 (by decide)) rfl rfl (by decide) (by decide) (Nat.le_of_ble_eq_true rfl) dX6_extend_81 rfl ?_
          exact x_iret C D rfl dX6_extend_84 (by unfold xExtend; (repeat (first | rw [if_pos (by first | omega | assumption | exact not_not_intro (by assumption))] | rw [if_neg (by first | omega | assumption | exact not_not_intro (by assumption))])); all_goals rfl) (by unfold xExtend; (repeat (first | rw [if_pos (by first | omega | assumption | exact not_not_intro (by assumption))] | rw [if_neg (by first | omega | assumption | exact not_not_intro (by assumption))])); all_goals rfl) (by unfold xExtend; (repeat (first | rw [if_pos (by first | omega | assumption | exact not_not_intro (by assumption))] | rw [if_neg (by first | omega | assumption | exact not_not_intro (by assumption))])); all_goals rfl) rfl
        · refine x_ldc (n := (-1000004)) C q_373 dX6_extend_43 rfl ?_
          exact x_iret C D rfl dX6_extend_45 (by unfold xExtend; (repeat (first | rw [if_pos (by first | omega | assumption | exact not_not_intro (by assumption))] | rw [if_neg (by first | omega | assumption | exact not_not_intro (by assumption))])); all_goals rfl) (by unfold xExtend; (repeat (first | rw [if_pos (by first | omega | assumption | exact not_not_intro (by assumption))] | rw [if_neg (by first | omega | assumption | exact not_not_intro (by assumption))])); all_goals rfl) (by unfold xExtend; (repeat (first | rw [if_pos (by first | omega | assumption | exact not_not_intro (by assumption))] | rw [if_neg (by first | omega | assumption | exact not_not_intro (by assumption))])); all_goals rfl) rfl
      · refine x_ldc (n := (-1000002)) C q_305 dX6_extend_28 rfl ?_
        exact x_iret C D rfl dX6_extend_30 (by unfold xExtend; (repeat (first | rw [if_pos (by first | omega | assumption | exact not_not_intro (by assumption))] | rw [if_neg (by first | omega | assumption | exact not_not_intro (by assumption))])); all_goals rfl) (by unfold xExtend; (repeat (first | rw [if_pos (by first | omega | assumption | exact not_not_intro (by assumption))] | rw [if_neg (by first | omega | assumption | exact not_not_intro (by assumption))])); all_goals rfl) (by unfold xExtend; (repeat (first | rw [if_pos (by first | omega | assumption | exact not_not_intro (by assumption))] | rw [if_neg (by first | omega | assumption | exact not_not_intro (by assumption))])); all_goals rfl) rfl
  · refine x_ldc (n := (-1000001)) C q_337 dX6_extend_14 rfl ?_
    exact x_iret C D rfl dX6_extend_16 (by unfold xExtend; (repeat (first | rw [if_pos (by first | omega | assumption | exact not_not_intro (by assumption))] | rw [if_neg (by first | omega | assumption | exact not_not_intro (by assumption))])); all_goals rfl) (by unfold xExtend; (repeat (first | rw [if_pos (by first | omega | assumption | exact not_not_intro (by assumption))] | rw [if_neg (by first | omega | assumption | exact not_not_intro (by assumption))])); all_goals rfl) (by unfold xExtend; (repeat (first | rw [if_pos (by first | omega | assumption | exact not_not_intro (by assumption))] | rw [if_neg (by first | omega | assumption | exact not_not_intro (by assumption))])); all_goals rfl) rfl
set_option maxRecDepth 100000 in
set_option maxHeartbeats 4000000 in
theorem m_X6_weather {hs : Nat → HV} {tp md : HV} {E : HE} (hE : HI E) {K : Int} (R : RG K (hs 0)) (S : SG tp) {x y w : Int} (x0 : IR x) (y0 : IR y) (w0 : IR w) : Mt yX6_weather cX6_weather 5 (some .int) 5 E [.ref (tA E 0), vI x, vI y, vI w] hs tp md (some (vI ((xWeather hs tp x y w).1))) ((xWeather hs tp x y w).2.1) ((xWeather hs tp x y w).2.2) md := by
  refine mk_Mt hE (plainFor_of_name (by decide)) (Nat.le_of_ble_eq_true rfl) (by intro w0 hw0; simp only [List.mem_cons, List.not_mem_nil, or_false] at hw0; rcases hw0 with rfl | rfl | rfl | rfl <;> rfl) (rfl : _ = [_, _, _, _, _]) ?_
  intro F C D
  refine x_iload_n C dX6_weather_0 rfl ?_
  refine x_aload_n C dX6_weather_1 rfl ?_
  refine gt_0_0 C q_232 dX6_weather_2 ?_
  refine gh_0_6 C (by decide) (rfl : hs 0 = hs 0) q_143 dX6_weather_5 rfl ?_
  have r_1 := RG.day R
  refine x_icmp_lt 33 C dX6_weather_8 (by decide) ⟨by omega, by omega⟩ ⟨by omega, by omega⟩ (fun c_2 => ?_) (fun c_2 => ?_)
  · refine x_ldc (n := (-1000002)) C q_305 dX6_weather_33 rfl ?_
    exact x_iret C D rfl dX6_weather_35 (by unfold xWeather; (repeat (first | rw [if_pos (by first | omega | assumption | exact not_not_intro (by assumption))] | rw [if_neg (by first | omega | assumption | exact not_not_intro (by assumption))])); all_goals rfl) (by unfold xWeather; (repeat (first | rw [if_pos (by first | omega | assumption | exact not_not_intro (by assumption))] | rw [if_neg (by first | omega | assumption | exact not_not_intro (by assumption))])); all_goals rfl) (by unfold xWeather; (repeat (first | rw [if_pos (by first | omega | assumption | exact not_not_intro (by assumption))] | rw [if_neg (by first | omega | assumption | exact not_not_intro (by assumption))])); all_goals rfl) rfl
  · refine x_iload_n C dX6_weather_11 rfl ?_
    refine x_iload_n C dX6_weather_12 rfl ?_
    refine x_icmp_lt 33 C dX6_weather_13 (by decide) ⟨by omega, by omega⟩ ⟨by omega, by omega⟩ (fun c_3 => ?_) (fun c_3 => ?_)
    · refine x_ldc (n := (-1000002)) C q_305 dX6_weather_33 rfl ?_
      exact x_iret C D rfl dX6_weather_35 (by unfold xWeather; (repeat (first | rw [if_pos (by first | omega | assumption | exact not_not_intro (by assumption))] | rw [if_neg (by first | omega | assumption | exact not_not_intro (by assumption))])); all_goals rfl) (by unfold xWeather; (repeat (first | rw [if_pos (by first | omega | assumption | exact not_not_intro (by assumption))] | rw [if_neg (by first | omega | assumption | exact not_not_intro (by assumption))])); all_goals rfl) (by unfold xWeather; (repeat (first | rw [if_pos (by first | omega | assumption | exact not_not_intro (by assumption))] | rw [if_neg (by first | omega | assumption | exact not_not_intro (by assumption))])); all_goals rfl) rfl
    · refine x_iload_n C dX6_weather_16 rfl ?_
      refine x_sipush C dX6_weather_17 (by decide) ?_
      refine x_icmp_gt 33 C dX6_weather_20 (by decide) ⟨by omega, by omega⟩ ⟨by omega, by omega⟩ (fun c_4 => ?_) (fun c_4 => ?_)
      · refine x_ldc (n := (-1000002)) C q_305 dX6_weather_33 rfl ?_
        exact x_iret C D rfl dX6_weather_35 (by unfold xWeather; (repeat (first | rw [if_pos (by first | omega | assumption | exact not_not_intro (by assumption))] | rw [if_neg (by first | omega | assumption | exact not_not_intro (by assumption))])); all_goals rfl) (by unfold xWeather; (repeat (first | rw [if_pos (by first | omega | assumption | exact not_not_intro (by assumption))] | rw [if_neg (by first | omega | assumption | exact not_not_intro (by assumption))])); all_goals rfl) (by unfold xWeather; (repeat (first | rw [if_pos (by first | omega | assumption | exact not_not_intro (by assumption))] | rw [if_neg (by first | omega | assumption | exact not_not_intro (by assumption))])); all_goals rfl) rfl
      · refine x_iload_n C dX6_weather_23 rfl ?_
        refine x_if_lt 33 C dX6_weather_24 (by decide) ⟨by omega, by omega⟩ (fun c_5 => ?_) (fun c_5 => ?_)
        · refine x_ldc (n := (-1000002)) C q_305 dX6_weather_33 rfl ?_
          exact x_iret C D rfl dX6_weather_35 (by unfold xWeather; (repeat (first | rw [if_pos (by first | omega | assumption | exact not_not_intro (by assumption))] | rw [if_neg (by first | omega | assumption | exact not_not_intro (by assumption))])); all_goals rfl) (by unfold xWeather; (repeat (first | rw [if_pos (by first | omega | assumption | exact not_not_intro (by assumption))] | rw [if_neg (by first | omega | assumption | exact not_not_intro (by assumption))])); all_goals rfl) (by unfold xWeather; (repeat (first | rw [if_pos (by first | omega | assumption | exact not_not_intro (by assumption))] | rw [if_neg (by first | omega | assumption | exact not_not_intro (by assumption))])); all_goals rfl) rfl
        · refine x_iload_n C dX6_weather_27 rfl ?_
          refine x_bipush C dX6_weather_28 (by decide) ?_
          refine x_icmp_le 36 C dX6_weather_30 (by decide) ⟨by omega, by omega⟩ ⟨by omega, by omega⟩ (fun c_6 => ?_) (fun c_6 => ?_)
          · have rdd := RG.day R
            refine x_aload_n C dX6_weather_36 rfl ?_
            refine gt_0_0 C q_232 dX6_weather_37 ?_
            refine x_iload_n C dX6_weather_40 rfl ?_
            refine x_iload_n C dX6_weather_41 rfl ?_
            refine x_iload_n C dX6_weather_42 rfl ?_
            refine x_callV (nA := 3) (As := [vI x, vI y, vI w]) (rest := []) C (m_X3_daysWithOtherWeather hE (by decide) (rfl : hs 0 = hs 0) R (by omega) (by omega) (by omega) ⟨by omega, by omega⟩) q_616 q_617 q_618 q_22 q_619 (by decide +kernel) (wl_h (by decide) (rfl : hs 0 = hs 0) 0 (by decide)) rfl rfl (by decide) (by decide) (Nat.le_of_ble_eq_true rfl) dX6_weather_43 rfl ?_
            have no9 : 0 ≤ sumI (fun q => wOther (hs 0) w (x + q)) (y + 1 - x) ∧ sumI (fun q => wOther (hs 0) w (x + q)) (y + 1 - x) ≤ 1000 := nOther_r (by omega) (by omega) (by omega)
            refine x_istore C dX6_weather_46 (by decide) (rfl : _ = [_, _, _, _, _]) ?_
            refine x_iload C dX6_weather_48 rfl ?_
            refine x_if_ne 56 C dX6_weather_50 (by decide) ⟨by omega, by omega⟩ (fun c_7 => ?_) (fun c_7 => ?_)
            · refine x_aload_n C dX6_weather_56 rfl ?_
              refine gt_0_4 C q_236 dX6_weather_57 ?_
              refine x_aload_n C dX6_weather_60 rfl ?_
              refine gt_0_0 C q_232 dX6_weather_61 ?_
              refine x_callV (nA := 1) (As := [.ref (hA E 0 0)]) (rest := []) C (m_X2_remember hE S R rfl rfl) q_452 q_453 q_454 q_27 q_455 (by decide +kernel) (wl_t 2 (by decide)) rfl rfl (by decide) (by decide) (Nat.le_of_ble_eq_true rfl) dX6_weather_64 rfl ?_
              refine x_aload_n C dX6_weather_67 rfl ?_
              refine gt_0_0 C q_232 dX6_weather_68 ?_
              refine x_iload_n C dX6_weather_71 rfl ?_
              refine x_iload_n C dX6_weather_72 rfl ?_
              refine x_iload_n C dX6_weather_73 rfl ?_
              refine x_callV (nA := 3) (As := [vI x, vI y, vI w]) (rest := []) C (m_X3_changeWeather hE (by decide) ((rH_ne S (show 0 < 3 by decide)).trans (rfl : hs 0 = hs 0)) (by omega) (by omega) (by omega) rfl) q_620 q_621 q_622 q_22 q_623 (by decide +kernel) (wl_h (by decide) ((rH_ne S (show 0 < 3 by decide)).trans (rfl : hs 0 = hs 0)) 0 (by decide)) rfl rfl (by decide) (by decide) (Nat.le_of_ble_eq_true rfl) dX6_weather_74 rfl ?_
              refine x_iload C dX6_weather_77 rfl ?_
              exact x_iret C D rfl dX6_weather_79 (by unfold xWeather; (repeat (first | rw [if_pos (by first | omega | assumption | exact not_not_intro (by assumption))] | rw [if_neg (by first | omega | assumption | exact not_not_intro (by assumption))])); all_goals rfl) (by unfold xWeather; (repeat (first | rw [if_pos (by first | omega | assumption | exact not_not_intro (by assumption))] | rw [if_neg (by first | omega | assumption | exact not_not_intro (by assumption))])); all_goals rfl) (by unfold xWeather; (repeat (first | rw [if_pos (by first | omega | assumption | exact not_not_intro (by assumption))] | rw [if_neg (by first | omega | assumption | exact not_not_intro (by assumption))])); all_goals rfl) rfl
            · refine x_ldc (n := (-1000005)) C q_258 dX6_weather_53 rfl ?_
              exact x_iret C D rfl dX6_weather_55 (by unfold xWeather; (repeat (first | rw [if_pos (by first | omega | assumption | exact not_not_intro (by assumption))] | rw [if_neg (by first | omega | assumption | exact not_not_intro (by assumption))])); all_goals rfl) (by unfold xWeather; (repeat (first | rw [if_pos (by first | omega | assumption | exact not_not_intro (by assumption))] | rw [if_neg (by first | omega | assumption | exact not_not_intro (by assumption))])); all_goals rfl) (by unfold xWeather; (repeat (first | rw [if_pos (by first | omega | assumption | exact not_not_intro (by assumption))] | rw [if_neg (by first | omega | assumption | exact not_not_intro (by assumption))])); all_goals rfl) rfl
          · refine x_ldc (n := (-1000002)) C q_305 dX6_weather_33 rfl ?_
            exact x_iret C D rfl dX6_weather_35 (by unfold xWeather; (repeat (first | rw [if_pos (by first | omega | assumption | exact not_not_intro (by assumption))] | rw [if_neg (by first | omega | assumption | exact not_not_intro (by assumption))])); all_goals rfl) (by unfold xWeather; (repeat (first | rw [if_pos (by first | omega | assumption | exact not_not_intro (by assumption))] | rw [if_neg (by first | omega | assumption | exact not_not_intro (by assumption))])); all_goals rfl) (by unfold xWeather; (repeat (first | rw [if_pos (by first | omega | assumption | exact not_not_intro (by assumption))] | rw [if_neg (by first | omega | assumption | exact not_not_intro (by assumption))])); all_goals rfl) rfl
set_option maxRecDepth 100000 in
set_option maxHeartbeats 4000000 in
theorem m_X6_order {hs : Nat → HV} {tp md : HV} {E : HE} (hE : HI E) {K : Int} (R : RG K (hs 0)) (S : SG tp) {k w : Int} (k0 : IR k) (w0 : IR w) : Mt yX6_order cX6_order 3 (some .int) 5 E [.ref (tA E 0), vI k, vI w] hs tp md (some (vI ((xOrder hs tp k w).1))) ((xOrder hs tp k w).2.1) ((xOrder hs tp k w).2.2) md := by
  refine mk_Mt hE (plainFor_of_name (by decide)) (Nat.le_of_ble_eq_true rfl) (by intro w0 hw0; simp only [List.mem_cons, List.not_mem_nil, or_false] at hw0; rcases hw0 with rfl | rfl | rfl <;> rfl) (rfl : _ = [_, _, _]) ?_
  intro F C D
  refine x_iload_n C dX6_order_0 rfl ?_
  refine x_if_lt 20 C dX6_order_1 (by decide) ⟨by omega, by omega⟩ (fun c_1 => ?_) (fun c_1 => ?_)
  · refine x_ldc (n := (-1000002)) C q_305 dX6_order_20 rfl ?_
    exact x_iret C D rfl dX6_order_22 (by unfold xOrder; (repeat (first | rw [if_pos (by first | omega | assumption | exact not_not_intro (by assumption))] | rw [if_neg (by first | omega | assumption | exact not_not_intro (by assumption))])); all_goals rfl) (by unfold xOrder; (repeat (first | rw [if_pos (by first | omega | assumption | exact not_not_intro (by assumption))] | rw [if_neg (by first | omega | assumption | exact not_not_intro (by assumption))])); all_goals rfl) (by unfold xOrder; (repeat (first | rw [if_pos (by first | omega | assumption | exact not_not_intro (by assumption))] | rw [if_neg (by first | omega | assumption | exact not_not_intro (by assumption))])); all_goals rfl) rfl
  · refine x_iload_n C dX6_order_4 rfl ?_
    refine x_const C dX6_order_5 ?_
    refine x_icmp_gt 20 C dX6_order_6 (by decide) ⟨by omega, by omega⟩ ⟨by omega, by omega⟩ (fun c_2 => ?_) (fun c_2 => ?_)
    · refine x_ldc (n := (-1000002)) C q_305 dX6_order_20 rfl ?_
      exact x_iret C D rfl dX6_order_22 (by unfold xOrder; (repeat (first | rw [if_pos (by first | omega | assumption | exact not_not_intro (by assumption))] | rw [if_neg (by first | omega | assumption | exact not_not_intro (by assumption))])); all_goals rfl) (by unfold xOrder; (repeat (first | rw [if_pos (by first | omega | assumption | exact not_not_intro (by assumption))] | rw [if_neg (by first | omega | assumption | exact not_not_intro (by assumption))])); all_goals rfl) (by unfold xOrder; (repeat (first | rw [if_pos (by first | omega | assumption | exact not_not_intro (by assumption))] | rw [if_neg (by first | omega | assumption | exact not_not_intro (by assumption))])); all_goals rfl) rfl
    · refine x_iload_n C dX6_order_9 rfl ?_
      refine x_const C dX6_order_10 ?_
      refine x_icmp_lt 20 C dX6_order_11 (by decide) ⟨by omega, by omega⟩ ⟨by omega, by omega⟩ (fun c_3 => ?_) (fun c_3 => ?_)
      · refine x_ldc (n := (-1000002)) C q_305 dX6_order_20 rfl ?_
        exact x_iret C D rfl dX6_order_22 (by unfold xOrder; (repeat (first | rw [if_pos (by first | omega | assumption | exact not_not_intro (by assumption))] | rw [if_neg (by first | omega | assumption | exact not_not_intro (by assumption))])); all_goals rfl) (by unfold xOrder; (repeat (first | rw [if_pos (by first | omega | assumption | exact not_not_intro (by assumption))] | rw [if_neg (by first | omega | assumption | exact not_not_intro (by assumption))])); all_goals rfl) (by unfold xOrder; (repeat (first | rw [if_pos (by first | omega | assumption | exact not_not_intro (by assumption))] | rw [if_neg (by first | omega | assumption | exact not_not_intro (by assumption))])); all_goals rfl) rfl
      · refine x_iload_n C dX6_order_14 rfl ?_
        refine x_bipush C dX6_order_15 (by decide) ?_
        refine x_icmp_le 23 C dX6_order_17 (by decide) ⟨by omega, by omega⟩ ⟨by omega, by omega⟩ (fun c_4 => ?_) (fun c_4 => ?_)
        · refine x_aload_n C dX6_order_23 rfl ?_
          refine gt_0_0 C q_232 dX6_order_24 ?_
          refine gh_0_4 C (by decide) (rfl : hs 0 = hs 0) q_139 dX6_order_27 ?_
          refine gh_13_2 C (by decide) (rfl : hs 0 = hs 0) q_122 dX6_order_30 rfl ?_
          have r_5 := RG.siz R
          refine x_bipush C dX6_order_33 (by decide) ?_
          refine x_icmp_lt 41 C dX6_order_35 (by decide) ⟨by omega, by omega⟩ ⟨by omega, by omega⟩ (fun c_6 => ?_) (fun c_6 => ?_)
          · refine x_aload_n C dX6_order_41 rfl ?_
            refine gt_0_4 C q_236 dX6_order_42 ?_
            refine x_aload_n C dX6_order_45 rfl ?_
            refine gt_0_0 C q_232 dX6_order_46 ?_
            refine x_callV (nA := 1) (As := [.ref (hA E 0 0)]) (rest := []) C (m_X2_remember hE S R rfl rfl) q_452 q_453 q_454 q_27 q_455 (by decide +kernel) (wl_t 2 (by decide)) rfl rfl (by decide) (by decide) (Nat.le_of_ble_eq_true rfl) dX6_order_49 rfl ?_
            refine x_aload_n C dX6_order_52 rfl ?_
            refine gt_0_0 C q_232 dX6_order_53 ?_
            refine gh_0_4 C (by decide) ((rH_ne S (show 0 < 3 by decide)).trans (rfl : hs 0 = hs 0)) q_139 dX6_order_56 ?_
            refine x_iload_n C dX6_order_59 rfl ?_
            refine x_iload_n C dX6_order_60 rfl ?_
            refine x_callV (nA := 2) (As := [vI k, vI w]) (rest := []) C (m_X5_append hE (by decide) ((rH_ne S (show 0 < 3 by decide)).trans (rfl : hs 0 = hs 0)) (by omega) (by omega) rfl) q_629 q_630 q_631 q_26 q_632 (by decide +kernel) (wl_h (by decide) ((rH_ne S (show 0 < 3 by decide)).trans (rfl : hs 0 = hs 0)) 13 (by decide)) rfl rfl (by decide) (by decide) (Nat.le_of_ble_eq_true rfl) dX6_order_61 rfl ?_
            refine x_aload_n C dX6_order_64 rfl ?_
            refine gt_0_0 C q_232 dX6_order_65 ?_
            refine gh_0_4 C (by decide) putH_same q_139 dX6_order_68 ?_
            refine gh_13_2 C (by decide) putH_same q_122 dX6_order_71 rfl ?_
            exact x_iret C D rfl dX6_order_74 (by unfold xOrder; (repeat (first | rw [if_pos (by first | omega | assumption | exact not_not_intro (by assumption))] | rw [if_neg (by first | omega | assumption | exact not_not_intro (by assumption))])); all_goals rfl) (by unfold xOrder; (repeat (first | rw [if_pos (by first | omega | assumption | exact not_not_intro (by assumption))] | rw [if_neg (by first | omega | assumption | exact not_not_intro (by assumption))])); all_goals rfl) (by unfold xOrder; (repeat (first | rw [if_pos (by first | omega | assumption | exact not_not_intro (by assumption))] | rw [if_neg (by first | omega | assumption | exact not_not_intro (by assumption))])); all_goals rfl) rfl
          · refine x_ldc (n := (-1000003)) C q_589 dX6_order_38 rfl ?_
            exact x_iret C D rfl dX6_order_40 (by unfold xOrder; (repeat (first | rw [if_pos (by first | omega | assumption | exact not_not_intro (by assumption))] | rw [if_neg (by first | omega | assumption | exact not_not_intro (by assumption))])); all_goals rfl) (by unfold xOrder; (repeat (first | rw [if_pos (by first | omega | assumption | exact not_not_intro (by assumption))] | rw [if_neg (by first | omega | assumption | exact not_not_intro (by assumption))])); all_goals rfl) (by unfold xOrder; (repeat (first | rw [if_pos (by first | omega | assumption | exact not_not_intro (by assumption))] | rw [if_neg (by first | omega | assumption | exact not_not_intro (by assumption))])); all_goals rfl) rfl
        · refine x_ldc (n := (-1000002)) C q_305 dX6_order_20 rfl ?_
          exact x_iret C D rfl dX6_order_22 (by unfold xOrder; (repeat (first | rw [if_pos (by first | omega | assumption | exact not_not_intro (by assumption))] | rw [if_neg (by first | omega | assumption | exact not_not_intro (by assumption))])); all_goals rfl) (by unfold xOrder; (repeat (first | rw [if_pos (by first | omega | assumption | exact not_not_intro (by assumption))] | rw [if_neg (by first | omega | assumption | exact not_not_intro (by assumption))])); all_goals rfl) (by unfold xOrder; (repeat (first | rw [if_pos (by first | omega | assumption | exact not_not_intro (by assumption))] | rw [if_neg (by first | omega | assumption | exact not_not_intro (by assumption))])); all_goals rfl) rfl
set_option maxRecDepth 100000 in
set_option maxHeartbeats 4000000 in
theorem m_X6_recall {hs : Nat → HV} {tp md : HV} {E : HE} (hE : HI E) {K : Int} (R : RG K (hs 0)) (S : SG tp) : Mt yX6_recall cX6_recall 1 (some .int) 5 E [.ref (tA E 0)] hs tp md (some (vI ((xRecall hs tp).1))) ((xRecall hs tp).2.1) ((xRecall hs tp).2.2) md := by
  refine mk_Mt hE (plainFor_of_name (by decide)) (Nat.le_of_ble_eq_true rfl) (by intro w0 hw0; simp only [List.mem_cons, List.not_mem_nil, or_false] at hw0; rcases hw0 with rfl <;> rfl) (rfl : _ = [_]) ?_
  intro F C D
  refine x_aload_n C dX6_recall_0 rfl ?_
  refine gt_0_0 C q_232 dX6_recall_1 ?_
  refine gh_0_4 C (by decide) (rfl : hs 0 = hs 0) q_139 dX6_recall_4 ?_
  refine gh_13_2 C (by decide) (rfl : hs 0 = hs 0) q_122 dX6_recall_7 rfl ?_
  have r_1 := RG.siz R
  refine x_const C dX6_recall_10 ?_
  refine x_icmp_ge 17 C dX6_recall_11 (by decide) ⟨by omega, by omega⟩ ⟨by omega, by omega⟩ (fun c_2 => ?_) (fun c_2 => ?_)
  · refine x_aload_n C dX6_recall_17 rfl ?_
    refine gt_0_4 C q_236 dX6_recall_18 ?_
    refine x_aload_n C dX6_recall_21 rfl ?_
    refine gt_0_0 C q_232 dX6_recall_22 ?_
    refine x_callV (nA := 1) (As := [.ref (hA E 0 0)]) (rest := []) C (m_X2_remember hE S R rfl rfl) q_452 q_453 q_454 q_27 q_455 (by decide +kernel) (wl_t 2 (by decide)) rfl rfl (by decide) (by decide) (Nat.le_of_ble_eq_true rfl) dX6_recall_25 rfl ?_
    refine x_aload_n C dX6_recall_28 rfl ?_
    refine gt_0_0 C q_232 dX6_recall_29 ?_
    refine gh_0_4 C (by decide) ((rH_ne S (show 0 < 3 by decide)).trans (rfl : hs 0 = hs 0)) q_139 dX6_recall_32 ?_
    refine x_callV (nA := 0) (As := []) (rest := []) C (m_X5_removeLast hE (by decide) ((rH_ne S (show 0 < 3 by decide)).trans (rfl : hs 0 = hs 0)) (by omega) (by omega) rfl) q_637 q_638 q_639 q_26 q_640 (by decide +kernel) (wl_h (by decide) ((rH_ne S (show 0 < 3 by decide)).trans (rfl : hs 0 = hs 0)) 13 (by decide)) rfl rfl (by decide) (by decide) (Nat.le_of_ble_eq_true rfl) dX6_recall_35 rfl ?_
    exact x_iret C D rfl dX6_recall_38 (by unfold xRecall; (repeat (first | rw [if_pos (by first | omega | assumption | exact not_not_intro (by assumption))] | rw [if_neg (by first | omega | assumption | exact not_not_intro (by assumption))])); all_goals rfl) (by unfold xRecall; (repeat (first | rw [if_pos (by first | omega | assumption | exact not_not_intro (by assumption))] | rw [if_neg (by first | omega | assumption | exact not_not_intro (by assumption))])); all_goals rfl) (by unfold xRecall; (repeat (first | rw [if_pos (by first | omega | assumption | exact not_not_intro (by assumption))] | rw [if_neg (by first | omega | assumption | exact not_not_intro (by assumption))])); all_goals rfl) rfl
  · refine x_ldc (n := (-1000005)) C q_258 dX6_recall_14 rfl ?_
    exact x_iret C D rfl dX6_recall_16 (by unfold xRecall; (repeat (first | rw [if_pos (by first | omega | assumption | exact not_not_intro (by assumption))] | rw [if_neg (by first | omega | assumption | exact not_not_intro (by assumption))])); all_goals rfl) (by unfold xRecall; (repeat (first | rw [if_pos (by first | omega | assumption | exact not_not_intro (by assumption))] | rw [if_neg (by first | omega | assumption | exact not_not_intro (by assumption))])); all_goals rfl) (by unfold xRecall; (repeat (first | rw [if_pos (by first | omega | assumption | exact not_not_intro (by assumption))] | rw [if_neg (by first | omega | assumption | exact not_not_intro (by assumption))])); all_goals rfl) rfl
set_option maxRecDepth 100000 in
set_option maxHeartbeats 4000000 in
theorem m_X6_flight {hs : Nat → HV} {tp md : HV} {E : HE} (hE : HI E) {K : Int} (R : RG K (hs 0)) (S : SG tp) {x : Int} (x0 : x = 0 ∨ x = 1) : Mt yX6_flight cX6_flight 2 (some .int) 5 E [.ref (tA E 0), vI x] hs tp md (some (vI ((xFlight hs tp x).1))) ((xFlight hs tp x).2.1) ((xFlight hs tp x).2.2) md := by
  refine mk_Mt hE (plainFor_of_name (by decide)) (Nat.le_of_ble_eq_true rfl) (by intro w0 hw0; simp only [List.mem_cons, List.not_mem_nil, or_false] at hw0; rcases hw0 with rfl | rfl <;> rfl) (rfl : _ = [_, _]) ?_
  intro F C D
  have rcl := RG.cal R
  refine x_aload_n C dX6_flight_0 rfl ?_
  refine gt_0_0 C q_232 dX6_flight_1 ?_
  refine gh_0_7 C (by decide) (rfl : hs 0 = hs 0) q_145 dX6_flight_4 rfl ?_
  have r_1 := RG.cal R
  refine x_iload_n C dX6_flight_7 rfl ?_
  refine x_icmp_ne 14 C dX6_flight_8 (by decide) ⟨by omega, by omega⟩ ⟨by omega, by omega⟩ (fun c_2 => ?_) (fun c_2 => ?_)
  · refine x_aload_n C dX6_flight_14 rfl ?_
    refine gt_0_4 C q_236 dX6_flight_15 ?_
    refine x_aload_n C dX6_flight_18 rfl ?_
    refine gt_0_0 C q_232 dX6_flight_19 ?_
    refine x_callV (nA := 1) (As := [.ref (hA E 0 0)]) (rest := []) C (m_X2_remember hE S R rfl rfl) q_452 q_453 q_454 q_27 q_455 (by decide +kernel) (wl_t 2 (by decide)) rfl rfl (by decide) (by decide) (Nat.le_of_ble_eq_true rfl) dX6_flight_22 rfl ?_
    refine x_aload_n C dX6_flight_25 rfl ?_
    refine gt_0_0 C q_232 dX6_flight_26 ?_
    refine x_iload_n C dX6_flight_29 rfl ?_
    refine ph_0_7 C (by decide) ((rH_ne S (show 0 < 3 by decide)).trans (rfl : hs 0 = hs 0)) x0 q_145 dX6_flight_30 rfl ?_
    refine x_aload_n C dX6_flight_33 rfl ?_
    refine gt_0_0 C q_232 dX6_flight_34 ?_
    refine gh_0_5 C (by decide) putH_same q_141 dX6_flight_37 ?_
    refine x_const C dX6_flight_40 ?_
    refine lh_16 C (by decide) putH_same (by omega) (by omega) dX6_flight_41 (show _ = (hs 0) 16 0 from rfl) ?_
    exact x_iret C D rfl dX6_flight_42 (by unfold xFlight; (repeat (first | rw [if_pos (by first | omega | assumption | exact not_not_intro (by assumption))] | rw [if_neg (by first | omega | assumption | exact not_not_intro (by assumption))])); all_goals rfl) (by unfold xFlight; (repeat (first | rw [if_pos (by first | omega | assumption | exact not_not_intro (by assumption))] | rw [if_neg (by first | omega | assumption | exact not_not_intro (by assumption))])); all_goals rfl) (by unfold xFlight; (repeat (first | rw [if_pos (by first | omega | assumption | exact not_not_intro (by assumption))] | rw [if_neg (by first | omega | assumption | exact not_not_intro (by assumption))])); all_goals rfl) rfl
  · refine x_ldc (n := (-1000005)) C q_258 dX6_flight_11 rfl ?_
    exact x_iret C D rfl dX6_flight_13 (by unfold xFlight; (repeat (first | rw [if_pos (by first | omega | assumption | exact not_not_intro (by assumption))] | rw [if_neg (by first | omega | assumption | exact not_not_intro (by assumption))])); all_goals rfl) (by unfold xFlight; (repeat (first | rw [if_pos (by first | omega | assumption | exact not_not_intro (by assumption))] | rw [if_neg (by first | omega | assumption | exact not_not_intro (by assumption))])); all_goals rfl) (by unfold xFlight; (repeat (first | rw [if_pos (by first | omega | assumption | exact not_not_intro (by assumption))] | rw [if_neg (by first | omega | assumption | exact not_not_intro (by assumption))])); all_goals rfl) rfl
set_option maxRecDepth 100000 in
set_option maxHeartbeats 4000000 in
theorem m_X6_pass {hs : Nat → HV} {tp md : HV} {E : HE} (hE : HI E) {K : Int} (R : RG K (hs 0)) (S : SG tp) {n : Int} (n0 : IR n) (hK : K ≤ 700000) : Mt yX6_pass cX6_pass 3 (some .int) 7 E [.ref (tA E 0), vI n] hs tp md (some (vI ((xPass hs tp n).1))) ((xPass hs tp n).2.1) ((xPass hs tp n).2.2) md := by
  refine mk_Mt hE (plainFor_of_name (by decide)) (Nat.le_of_ble_eq_true rfl) (by intro w0 hw0; simp only [List.mem_cons, List.not_mem_nil, or_false] at hw0; rcases hw0 with rfl | rfl <;> rfl) (rfl : _ = [_, _, _]) ?_
  intro F C D
  have rdd := RG.day R
  refine x_iload_n C dX6_pass_0 rfl ?_
  refine x_const C dX6_pass_1 ?_
  refine x_icmp_lt 11 C dX6_pass_2 (by decide) ⟨by omega, by omega⟩ ⟨by omega, by omega⟩ (fun c_1 => ?_) (fun c_1 => ?_)
  · refine x_ldc (n := (-1000002)) C q_305 dX6_pass_11 rfl ?_
    exact x_iret C D rfl dX6_pass_13 (by unfold xPass; (repeat (first | rw [if_pos (by first | omega | assumption | exact not_not_intro (by assumption))] | rw [if_neg (by first | omega | assumption | exact not_not_intro (by assumption))])); all_goals rfl) (by unfold xPass; (repeat (first | rw [if_pos (by first | omega | assumption | exact not_not_intro (by assumption))] | rw [if_neg (by first | omega | assumption | exact not_not_intro (by assumption))])); all_goals rfl) (by unfold xPass; (repeat (first | rw [if_pos (by first | omega | assumption | exact not_not_intro (by assumption))] | rw [if_neg (by first | omega | assumption | exact not_not_intro (by assumption))])); all_goals rfl) rfl
  · refine x_iload_n C dX6_pass_5 rfl ?_
    refine x_bipush C dX6_pass_6 (by decide) ?_
    refine x_icmp_le 14 C dX6_pass_8 (by decide) ⟨by omega, by omega⟩ ⟨by omega, by omega⟩ (fun c_2 => ?_) (fun c_2 => ?_)
    · refine x_aload_n C dX6_pass_14 rfl ?_
      refine gt_0_0 C q_232 dX6_pass_15 ?_
      refine gh_0_6 C (by decide) (rfl : hs 0 = hs 0) q_143 dX6_pass_18 rfl ?_
      have r_3 := RG.day R
      refine x_iload_n C dX6_pass_21 rfl ?_
      refine x_iadd C dX6_pass_22 ?_
      refine x_sipush C dX6_pass_23 (by decide) ?_
      refine x_icmp_le 32 C dX6_pass_26 (by decide) ⟨by omega, by omega⟩ ⟨by omega, by omega⟩ (fun c_4 => ?_) (fun c_4 => ?_)
      · refine x_aload_n C dX6_pass_32 rfl ?_
        refine gt_0_4 C q_236 dX6_pass_33 ?_
        refine x_aload_n C dX6_pass_36 rfl ?_
        refine gt_0_0 C q_232 dX6_pass_37 ?_
        refine x_callV (nA := 1) (As := [.ref (hA E 0 0)]) (rest := []) C (m_X2_remember hE S R rfl rfl) q_452 q_453 q_454 q_27 q_455 (by decide +kernel) (wl_t 2 (by decide)) rfl rfl (by decide) (by decide) (Nat.le_of_ble_eq_true rfl) dX6_pass_40 rfl ?_
        refine x_const C dX6_pass_43 ?_
        refine x_istore_n C dX6_pass_44 (by decide) (rfl : _ = [_, _, _]) ?_
        have K45 : ∀ (nn : Nat) (i : Int), 0 ≤ i → i ≤ n → 40 - i < nn →  G F E (putH (rH hs tp) 0 (passI (hs 0) i)) (rT tp) md 45 [some (.ref (tA E 0)), some (vI n), some (vI i)] [] := by
          intro nn
          induction nn with
          | zero => intro i i0 i1 hz; exact absurd hz (by omega)
          | succ nn ih =>
            intro i i0 i1 hz
            have rp := RG_passI R (n := i) i0 (by omega)
            refine x_iload_n C dX6_pass_45 rfl ?_
            refine x_iload_n C dX6_pass_46 rfl ?_
            refine x_icmp_ge 63 C dX6_pass_47 (by decide) ⟨by omega, by omega⟩ ⟨by omega, by omega⟩ (fun c_5 => ?_) (fun c_5 => ?_)
            · refine x_aload_n C dX6_pass_63 rfl ?_
              refine gt_0_0 C q_232 dX6_pass_64 ?_
              refine gh_0_6 C (by decide) putH_same q_143 dX6_pass_67 rfl ?_
              have r_6 := RG.day rp.1
              exact x_iret C D rfl dX6_pass_70 (by rw [show i = n by omega]; unfold xPass; (repeat (first | rw [if_pos (by first | omega | assumption | exact not_not_intro (by assumption))] | rw [if_neg (by first | omega | assumption | exact not_not_intro (by assumption))])); all_goals rfl) (by rw [show i = n by omega]; unfold xPass; (repeat (first | rw [if_pos (by first | omega | assumption | exact not_not_intro (by assumption))] | rw [if_neg (by first | omega | assumption | exact not_not_intro (by assumption))])); all_goals rfl) (by unfold xPass; (repeat (first | rw [if_pos (by first | omega | assumption | exact not_not_intro (by assumption))] | rw [if_neg (by first | omega | assumption | exact not_not_intro (by assumption))])); all_goals rfl) rfl
            · refine x_aload_n C dX6_pass_50 rfl ?_
              refine gt_0_0 C q_232 dX6_pass_51 ?_
              refine x_callV (nA := 0) (As := []) (rest := []) C (m_X3_passDay hE (by decide) putH_same rp.1 (by omega) putH_put) q_474 q_475 q_476 q_22 q_477 (by decide +kernel) (wl_h (by decide) putH_same 0 (by decide)) rfl rfl (by decide) (by decide) (Nat.le_of_ble_eq_true rfl) dX6_pass_54 rfl ?_
              refine x_iinc C dX6_pass_57 rfl (by decide) (rfl : _ = [_, _, _]) ?_
              refine x_goto 45 C dX6_pass_60 (by decide) ?_
              refine G.of (G.wk (ih (i + 1) (by omega) (by omega) (by omega)) ?_) ?_ rfl rfl rfl
              · simp only [leL, and_self]
              · rw [passI_s i0]
        refine G.of (K45 41 0 (by omega) (by omega) (by omega)) ?_ rfl rfl rfl
        rw [passI_0]; exact (putH_of (rH_ne S (by decide))).symm
      · refine x_ldc (n := (-1000003)) C q_589 dX6_pass_29 rfl ?_
        exact x_iret C D rfl dX6_pass_31 (by unfold xPass; (repeat (first | rw [if_pos (by first | omega | assumption | exact not_not_intro (by assumption))] | rw [if_neg (by first | omega | assumption | exact not_not_intro (by assumption))])); all_goals rfl) (by unfold xPass; (repeat (first | rw [if_pos (by first | omega | assumption | exact not_not_intro (by assumption))] | rw [if_neg (by first | omega | assumption | exact not_not_intro (by assumption))])); all_goals rfl) (by unfold xPass; (repeat (first | rw [if_pos (by first | omega | assumption | exact not_not_intro (by assumption))] | rw [if_neg (by first | omega | assumption | exact not_not_intro (by assumption))])); all_goals rfl) rfl
    · refine x_ldc (n := (-1000002)) C q_305 dX6_pass_11 rfl ?_
      exact x_iret C D rfl dX6_pass_13 (by unfold xPass; (repeat (first | rw [if_pos (by first | omega | assumption | exact not_not_intro (by assumption))] | rw [if_neg (by first | omega | assumption | exact not_not_intro (by assumption))])); all_goals rfl) (by unfold xPass; (repeat (first | rw [if_pos (by first | omega | assumption | exact not_not_intro (by assumption))] | rw [if_neg (by first | omega | assumption | exact not_not_intro (by assumption))])); all_goals rfl) (by unfold xPass; (repeat (first | rw [if_pos (by first | omega | assumption | exact not_not_intro (by assumption))] | rw [if_neg (by first | omega | assumption | exact not_not_intro (by assumption))])); all_goals rfl) rfl
set_option maxRecDepth 100000 in
set_option maxHeartbeats 4000000 in
theorem m_X6_fullest {hs : Nat → HV} {tp md : HV} {E : HE} (hE : HI E) {K : Int} (R : RG K (hs 0)) : Mt yX6_fullest cX6_fullest 4 (some .int) 3 E [.ref (tA E 0)] hs tp md (some (vI (nFull (hs 0) (tp 1)))) hs (tRow (hs 0) tp) md := by
  refine mk_Mt hE (plainFor_of_name (by decide)) (Nat.le_of_ble_eq_true rfl) (by intro w0 hw0; simp only [List.mem_cons, List.not_mem_nil, or_false] at hw0; rcases hw0 with rfl <;> rfl) (rfl : _ = [_, _, _, _]) ?_
  intro F C D
  have rdd := RG.day R
  have rm := RG.made R
  refine x_aload_n C dX6_fullest_0 rfl ?_
  refine gt_0_0 C q_232 dX6_fullest_1 ?_
  refine gh_0_2 C (by decide) (rfl : hs 0 = hs 0) q_135 dX6_fullest_4 ?_
  refine x_aload_n C dX6_fullest_7 rfl ?_
  refine gt_0_6 C q_238 dX6_fullest_8 ?_
  refine x_callV (nA := 1) (As := [.ref (tA E 1)]) (rest := []) C (m_X1_fillBedsTaken hE (by decide) (rfl : hs 0 = hs 0) R rfl) q_412 q_413 q_414 q_24 q_415 (by decide +kernel) (wl_h (by decide) (rfl : hs 0 = hs 0) 3 (by decide)) rfl rfl (by decide) (by decide) (Nat.le_of_ble_eq_true rfl) dX6_fullest_11 rfl ?_
  refine x_ldc (n := (-1000005)) C q_258 dX6_fullest_14 rfl ?_
  refine x_istore_n C dX6_fullest_16 (by decide) (rfl : _ = [_, _, _, _]) ?_
  refine x_const C dX6_fullest_17 ?_
  refine x_istore_n C dX6_fullest_18 (by decide) (rfl : _ = [_, _, _, _]) ?_
  refine x_aload_n C dX6_fullest_19 rfl ?_
  refine gt_0_0 C q_232 dX6_fullest_20 ?_
  refine gh_0_6 C (by decide) (rfl : hs 0 = hs 0) q_143 dX6_fullest_23 rfl ?_
  have r_1 := RG.day R
  refine x_istore_n C dX6_fullest_26 (by decide) (rfl : _ = [_, _, _, _]) ?_
  have K27 : ∀ (nn : Nat) (n : Nat) (d b9 m9 : Int), 0 ≤ d → d + n = 1000 ∨ (n = 0 ∧ 1000 ≤ d) → d ≤ 1060 → 0 ≤ m9 → m9 ≤ 720 → nFull (hs 0) (tp 1) = fuN (fbR (hs 0) (tp 1) (hs 0 3 7)) n d b9 m9 → (n : Int) < nn →  G F E hs (tRow (hs 0) tp) md 27 [some (.ref (tA E 0)), some (vI b9), some (vI m9), some (vI d)] [] := by
    intro nn
    induction nn with
    | zero => intro n d b9 m9 d0 dn d1 m0 m1 hq hz; exact absurd hz (by omega)
    | succ nn ih =>
      intro n d b9 m9 d0 dn d1 m0 m1 hq hz
      refine x_iload_n C dX6_fullest_27 rfl ?_
      refine x_aload_n C dX6_fullest_28 rfl ?_
      refine gt_0_6 C q_238 dX6_fullest_29 ?_
      refine nt_1 C dX6_fullest_32 ?_
      refine x_icmp_ge 61 C dX6_fullest_33 (by decide) ⟨by omega, by omega⟩ ⟨by omega, by omega⟩ (fun c_2 => ?_) (fun c_2 => ?_)
      · refine x_iload_n C dX6_fullest_61 rfl ?_
        exact x_iret C D rfl dX6_fullest_62 (by rw [hq, show n = 0 by omega]; rfl) rfl rfl rfl
      · have rfb := fbR_r R (f := tp 1) (b := hs 0 3 7) (d := d) (by omega) (by omega) (by omega) (by omega)
        refine x_aload_n C dX6_fullest_36 rfl ?_
        refine gt_0_6 C q_238 dX6_fullest_37 ?_
        refine x_iload_n C dX6_fullest_40 rfl ?_
        refine lt_1 C (by omega) (by omega) dX6_fullest_41 (show _ = (fbR (hs 0) (tp 1) (hs 0 3 7)) d from rfl) ?_
        refine x_iload_n C dX6_fullest_42 rfl ?_
        refine x_icmp_le 55 C dX6_fullest_43 (by decide) ⟨by omega, by omega⟩ ⟨by omega, by omega⟩ (fun c_3 => ?_) (fun c_3 => ?_)
        · refine x_iinc C dX6_fullest_55 rfl (by decide) (rfl : _ = [_, _, _, _]) ?_
          refine x_goto 27 C dX6_fullest_58 (by decide) ?_
          obtain ⟨n9, rfl⟩ : ∃ n9, n = n9 + 1 := ⟨n - 1, by omega⟩
          refine G.wk (ih n9 (d + 1) b9 m9 (by omega) (by omega) (by omega) (by omega) (by omega) (by rw [hq]; exact if_neg (Int.not_lt.mpr c_3)) (by omega)) ?_
          simp only [leL, and_self]
        · refine x_aload_n C dX6_fullest_46 rfl ?_
          refine gt_0_6 C q_238 dX6_fullest_47 ?_
          refine x_iload_n C dX6_fullest_50 rfl ?_
          refine lt_1 C (by omega) (by omega) dX6_fullest_51 (show _ = (fbR (hs 0) (tp 1) (hs 0 3 7)) d from rfl) ?_
          refine x_istore_n C dX6_fullest_52 (by decide) (rfl : _ = [_, _, _, _]) ?_
          refine x_iload_n C dX6_fullest_53 rfl ?_
          refine x_istore_n C dX6_fullest_54 (by decide) (rfl : _ = [_, _, _, _]) ?_
          refine x_iinc C dX6_fullest_55 rfl (by decide) (rfl : _ = [_, _, _, _]) ?_
          refine x_goto 27 C dX6_fullest_58 (by decide) ?_
          obtain ⟨n9, rfl⟩ : ∃ n9, n = n9 + 1 := ⟨n - 1, by omega⟩
          refine G.wk (ih n9 (d + 1) d (fbR (hs 0) (tp 1) (hs 0 3 7) d) (by omega) (by omega) (by omega) (by omega) (by omega) (by rw [hq]; exact if_pos c_3) (by omega)) ?_
          simp only [leL, and_self]
  exact K27 ((1000 - hs 0 0 6).toNat + 1) (1000 - hs 0 0 6).toNat (hs 0 0 6) (-1000005) 0 (by omega) (by omega) (by omega) (by decide) (by decide) rfl (by omega)
set_option maxRecDepth 100000 in
set_option maxHeartbeats 4000000 in
theorem m_X6_mostBedsTaken {hs : Nat → HV} {tp md : HV} {E : HE} (hE : HI E) {K : Int} (R : RG K (hs 0)) : Mt yX6_mostBedsTaken cX6_mostBedsTaken 2 (some .int) 4 E [.ref (tA E 0)] hs tp md (some (vI (nMost (hs 0) (tp 1)))) hs (tRow (hs 0) tp) md := by
  refine mk_Mt hE (plainFor_of_name (by decide)) (Nat.le_of_ble_eq_true rfl) (by intro w0 hw0; simp only [List.mem_cons, List.not_mem_nil, or_false] at hw0; rcases hw0 with rfl <;> rfl) (rfl : _ = [_, _]) ?_
  intro F C D
  refine x_aload_n C dX6_mostBedsTaken_0 rfl ?_
  refine x_callV (nA := 0) (As := []) (rest := []) C (m_X6_fullest hE R) q_657 q_409 q_410 q_21 q_411 (by decide +kernel) (wl_t 0 (by decide)) rfl rfl (by decide) (by decide) (Nat.le_of_ble_eq_true rfl) dX6_mostBedsTaken_1 rfl ?_
  have nfr := nFull_r R (f := tp 1)
  refine x_istore_n C dX6_mostBedsTaken_4 (by decide) (rfl : _ = [_, _]) ?_
  refine x_iload_n C dX6_mostBedsTaken_5 rfl ?_
  refine x_ldc (n := (-1000005)) C q_258 dX6_mostBedsTaken_6 rfl ?_
  refine x_icmp_ne 15 C dX6_mostBedsTaken_8 (by decide) ⟨by omega, by omega⟩ ⟨by omega, by omega⟩ (fun c_1 => ?_) (fun c_1 => ?_)
  · refine x_aload_n C dX6_mostBedsTaken_15 rfl ?_
    refine gt_0_0 C q_232 dX6_mostBedsTaken_16 ?_
    refine gh_0_2 C (by decide) (rfl : hs 0 = hs 0) q_135 dX6_mostBedsTaken_19 ?_
    refine x_iload_n C dX6_mostBedsTaken_22 rfl ?_
    refine x_callV (nA := 1) (As := [vI (nFull (hs 0) (tp 1))]) (rest := []) C (m_X1_bedsTakenIn hE (by decide) (rfl : hs 0 = hs 0) R ⟨by omega, by omega⟩) q_387 q_388 q_389 q_24 q_390 (by decide +kernel) (wl_h (by decide) (rfl : hs 0 = hs 0) 3 (by decide)) rfl rfl (by decide) (by decide) (Nat.le_of_ble_eq_true rfl) dX6_mostBedsTaken_23 rfl ?_
    exact x_iret C D rfl dX6_mostBedsTaken_26 (by unfold nMost; (repeat (first | rw [if_pos (by first | omega | assumption | exact not_not_intro (by assumption))] | rw [if_neg (by first | omega | assumption | exact not_not_intro (by assumption))])); all_goals rfl) rfl rfl rfl
  · refine x_const C dX6_mostBedsTaken_11 ?_
    refine x_goto 26 C dX6_mostBedsTaken_12 (by decide) ?_
    exact x_iret C D rfl dX6_mostBedsTaken_26 (by unfold nMost; (repeat (first | rw [if_pos (by first | omega | assumption | exact not_not_intro (by assumption))] | rw [if_neg (by first | omega | assumption | exact not_not_intro (by assumption))])); all_goals rfl) rfl rfl rfl
set_option maxRecDepth 100000 in
set_option maxHeartbeats 4000000 in
theorem m_X6_set {hs : Nat → HV} {tp md : HV} {E : HE} (hE : HI E) {K : Int} (R : RG K (hs 0)) (S : SG tp) {k w : Int} (k0 : IR k) (w0 : IR w) : Mt yX6_set cX6_set 4 (some .int) 5 E [.ref (tA E 0), vI k, vI w] hs tp md (some (vI ((xSet hs tp k w).1))) ((xSet hs tp k w).2.1) ((xSet hs tp k w).2.2) md := by
  refine mk_Mt hE (plainFor_of_name (by decide)) (Nat.le_of_ble_eq_true rfl) (by intro w0 hw0; simp only [List.mem_cons, List.not_mem_nil, or_false] at hw0; rcases hw0 with rfl | rfl | rfl <;> rfl) (rfl : _ = [_, _, _, _]) ?_
  intro F C D
  have sv : 0 ≤ k → k < 10 → (0 ≤ stV 1 k.toNat ∧ stV 1 k.toNat ≤ 999) ∧ (0 ≤ stV 2 k.toNat ∧ stV 2 k.toNat ≤ 999) := stV_r
  refine x_iload_n C dX6_set_0 rfl ?_
  refine x_if_lt 10 C dX6_set_1 (by decide) ⟨by omega, by omega⟩ (fun c_1 => ?_) (fun c_1 => ?_)
  · refine x_ldc (n := (-1000002)) C q_305 dX6_set_10 rfl ?_
    exact x_iret C D rfl dX6_set_12 (by unfold xSet; (repeat (first | rw [if_pos (by first | omega | assumption | exact not_not_intro (by assumption))] | rw [if_neg (by first | omega | assumption | exact not_not_intro (by assumption))])); all_goals rfl) (by unfold xSet; (repeat (first | rw [if_pos (by first | omega | assumption | exact not_not_intro (by assumption))] | rw [if_neg (by first | omega | assumption | exact not_not_intro (by assumption))])); all_goals rfl) (by unfold xSet; (repeat (first | rw [if_pos (by first | omega | assumption | exact not_not_intro (by assumption))] | rw [if_neg (by first | omega | assumption | exact not_not_intro (by assumption))])); all_goals rfl) rfl
  · refine x_iload_n C dX6_set_4 rfl ?_
    refine x_bipush C dX6_set_5 (by decide) ?_
    refine x_icmp_lt 13 C dX6_set_7 (by decide) ⟨by omega, by omega⟩ ⟨by omega, by omega⟩ (fun c_2 => ?_) (fun c_2 => ?_)
    · have sv2 := sv (by omega) (by omega)
      refine x_iload_n C dX6_set_13 rfl ?_
      refine x_gets (i := 1) (by decide) C q_649 dX6_set_14 ?_
      refine x_iload_n C dX6_set_17 rfl ?_
      refine x_srow (i := 1) (by decide) C (by omega) (by omega) dX6_set_18 ?_
      refine x_icmp_lt 31 C dX6_set_19 (by decide) ⟨by omega, by omega⟩ ⟨by omega, by omega⟩ (fun c_3 => ?_) (fun c_3 => ?_)
      · refine x_ldc (n := (-1000002)) C q_305 dX6_set_31 rfl ?_
        exact x_iret C D rfl dX6_set_33 (by unfold xSet; (repeat (first | rw [if_pos (by first | omega | assumption | exact not_not_intro (by assumption))] | rw [if_neg (by first | omega | assumption | exact not_not_intro (by assumption))])); all_goals rfl) (by unfold xSet; (repeat (first | rw [if_pos (by first | omega | assumption | exact not_not_intro (by assumption))] | rw [if_neg (by first | omega | assumption | exact not_not_intro (by assumption))])); all_goals rfl) (by unfold xSet; (repeat (first | rw [if_pos (by first | omega | assumption | exact not_not_intro (by assumption))] | rw [if_neg (by first | omega | assumption | exact not_not_intro (by assumption))])); all_goals rfl) rfl
      · refine x_iload_n C dX6_set_22 rfl ?_
        refine x_gets (i := 2) (by decide) C q_651 dX6_set_23 ?_
        refine x_iload_n C dX6_set_26 rfl ?_
        refine x_srow (i := 2) (by decide) C (by omega) (by omega) dX6_set_27 ?_
        refine x_icmp_le 34 C dX6_set_28 (by decide) ⟨by omega, by omega⟩ ⟨by omega, by omega⟩ (fun c_4 => ?_) (fun c_4 => ?_)
        · refine x_iload_n C dX6_set_34 rfl ?_
          refine x_if_ne 49 C dX6_set_35 (by decide) ⟨by omega, by omega⟩ (fun c_5 => ?_) (fun c_5 => ?_)
          · refine x_aload_n C dX6_set_49 rfl ?_
            refine gt_0_0 C q_232 dX6_set_50 ?_
            refine gh_0_0 C (by decide) (rfl : hs 0 = hs 0) q_132 dX6_set_53 ?_
            refine x_iload_n C dX6_set_56 rfl ?_
            refine lh_1 C (by decide) (rfl : hs 0 = hs 0) (by omega) (by omega) dX6_set_57 rfl ?_
            have r_6 := RG.set' R (i := k) (by omega) (by omega)
            refine x_istore_n C dX6_set_58 (by decide) (rfl : _ = [_, _, _, _]) ?_
            refine x_iload_n C dX6_set_59 rfl ?_
            refine x_iload_n C dX6_set_60 rfl ?_
            refine x_icmp_ne 67 C dX6_set_61 (by decide) ⟨by omega, by omega⟩ ⟨by omega, by omega⟩ (fun c_7 => ?_) (fun c_7 => ?_)
            · refine x_aload_n C dX6_set_67 rfl ?_
              refine gt_0_4 C q_236 dX6_set_68 ?_
              refine x_aload_n C dX6_set_71 rfl ?_
              refine gt_0_0 C q_232 dX6_set_72 ?_
              refine x_callV (nA := 1) (As := [.ref (hA E 0 0)]) (rest := []) C (m_X2_remember hE S R rfl rfl) q_452 q_453 q_454 q_27 q_455 (by decide +kernel) (wl_t 2 (by decide)) rfl rfl (by decide) (by decide) (Nat.le_of_ble_eq_true rfl) dX6_set_75 rfl ?_
              refine x_aload_n C dX6_set_78 rfl ?_
              refine gt_0_0 C q_232 dX6_set_79 ?_
              refine gh_0_0 C (by decide) ((rH_ne S (show 0 < 3 by decide)).trans (rfl : hs 0 = hs 0)) q_132 dX6_set_82 ?_
              refine x_iload_n C dX6_set_85 rfl ?_
              refine x_iload_n C dX6_set_86 rfl ?_
              refine sh_1 C (by decide) ((rH_ne S (show 0 < 3 by decide)).trans (rfl : hs 0 = hs 0)) (by omega) (by omega) dX6_set_87 rfl ?_
              refine x_iload_n C dX6_set_88 rfl ?_
              exact x_iret C D rfl dX6_set_89 (by unfold xSet; (repeat (first | rw [if_pos (by first | omega | assumption | exact not_not_intro (by assumption))] | rw [if_neg (by first | omega | assumption | exact not_not_intro (by assumption))])); all_goals rfl) (by unfold xSet; (repeat (first | rw [if_pos (by first | omega | assumption | exact not_not_intro (by assumption))] | rw [if_neg (by first | omega | assumption | exact not_not_intro (by assumption))])); all_goals rfl) (by unfold xSet; (repeat (first | rw [if_pos (by first | omega | assumption | exact not_not_intro (by assumption))] | rw [if_neg (by first | omega | assumption | exact not_not_intro (by assumption))])); all_goals rfl) rfl
            · refine x_ldc (n := (-1000005)) C q_258 dX6_set_64 rfl ?_
              exact x_iret C D rfl dX6_set_66 (by unfold xSet; (repeat (first | rw [if_pos (by first | omega | assumption | exact not_not_intro (by assumption))] | rw [if_neg (by first | omega | assumption | exact not_not_intro (by assumption))])); all_goals rfl) (by unfold xSet; (repeat (first | rw [if_pos (by first | omega | assumption | exact not_not_intro (by assumption))] | rw [if_neg (by first | omega | assumption | exact not_not_intro (by assumption))])); all_goals rfl) (by unfold xSet; (repeat (first | rw [if_pos (by first | omega | assumption | exact not_not_intro (by assumption))] | rw [if_neg (by first | omega | assumption | exact not_not_intro (by assumption))])); all_goals rfl) rfl
          · refine x_aload_n C dX6_set_38 rfl ?_
            refine x_callV (nA := 0) (As := []) (rest := []) C (m_X6_mostBedsTaken hE R) q_653 q_655 q_13 q_21 q_656 (by decide +kernel) (wl_t 0 (by decide)) rfl rfl (by decide) (by decide) (Nat.le_of_ble_eq_true rfl) dX6_set_39 rfl ?_
            have nmr := nMost_r R (f := tp 1)
            refine x_iload_n C dX6_set_42 rfl ?_
            refine x_icmp_le 49 C dX6_set_43 (by decide) ⟨by omega, by omega⟩ ⟨by omega, by omega⟩ (fun c_8 => ?_) (fun c_8 => ?_)
            · refine x_aload_n C dX6_set_49 rfl ?_
              refine gt_0_0 C q_232 dX6_set_50 ?_
              refine gh_0_0 C (by decide) (rfl : hs 0 = hs 0) q_132 dX6_set_53 ?_
              refine x_iload_n C dX6_set_56 rfl ?_
              refine lh_1 C (by decide) (rfl : hs 0 = hs 0) (by omega) (by omega) dX6_set_57 rfl ?_
              have r_9 := RG.set' R (i := k) (by omega) (by omega)
              refine x_istore_n C dX6_set_58 (by decide) (rfl : _ = [_, _, _, _]) ?_
              refine x_iload_n C dX6_set_59 rfl ?_
              refine x_iload_n C dX6_set_60 rfl ?_
              refine x_icmp_ne 67 C dX6_set_61 (by decide) ⟨by omega, by omega⟩ ⟨by omega, by omega⟩ (fun c_10 => ?_) (fun c_10 => ?_)
              · refine x_aload_n C dX6_set_67 rfl ?_
                refine gt_0_4 C q_236 dX6_set_68 ?_
                refine x_aload_n C dX6_set_71 rfl ?_
                refine gt_0_0 C q_232 dX6_set_72 ?_
                refine x_callV (nA := 1) (As := [.ref (hA E 0 0)]) (rest := []) C (m_X2_remember hE (SG_row S) R rfl rfl) q_452 q_453 q_454 q_27 q_455 (by decide +kernel) (wl_t 2 (by decide)) rfl rfl (by decide) (by decide) (Nat.le_of_ble_eq_true rfl) dX6_set_75 rfl ?_
                refine x_aload_n C dX6_set_78 rfl ?_
                refine gt_0_0 C q_232 dX6_set_79 ?_
                refine gh_0_0 C (by decide) ((rH_ne (SG_row S) (show 0 < 3 by decide)).trans (rfl : hs 0 = hs 0)) q_132 dX6_set_82 ?_
                refine x_iload_n C dX6_set_85 rfl ?_
                refine x_iload_n C dX6_set_86 rfl ?_
                refine sh_1 C (by decide) ((rH_ne (SG_row S) (show 0 < 3 by decide)).trans (rfl : hs 0 = hs 0)) (by omega) (by omega) dX6_set_87 rfl ?_
                refine x_iload_n C dX6_set_88 rfl ?_
                exact x_iret C D rfl dX6_set_89 (by unfold xSet; (repeat (first | rw [if_pos (by first | omega | assumption | exact not_not_intro (by assumption))] | rw [if_neg (by first | omega | assumption | exact not_not_intro (by assumption))])); all_goals rfl) (by unfold xSet; (repeat (first | rw [if_pos (by first | omega | assumption | exact not_not_intro (by assumption))] | rw [if_neg (by first | omega | assumption | exact not_not_intro (by assumption))])); all_goals rfl) (by unfold xSet; (repeat (first | rw [if_pos (by first | omega | assumption | exact not_not_intro (by assumption))] | rw [if_neg (by first | omega | assumption | exact not_not_intro (by assumption))])); all_goals rfl) rfl
              · refine x_ldc (n := (-1000005)) C q_258 dX6_set_64 rfl ?_
                exact x_iret C D rfl dX6_set_66 (by unfold xSet; (repeat (first | rw [if_pos (by first | omega | assumption | exact not_not_intro (by assumption))] | rw [if_neg (by first | omega | assumption | exact not_not_intro (by assumption))])); all_goals rfl) (by unfold xSet; (repeat (first | rw [if_pos (by first | omega | assumption | exact not_not_intro (by assumption))] | rw [if_neg (by first | omega | assumption | exact not_not_intro (by assumption))])); all_goals rfl) (by unfold xSet; (repeat (first | rw [if_pos (by first | omega | assumption | exact not_not_intro (by assumption))] | rw [if_neg (by first | omega | assumption | exact not_not_intro (by assumption))])); all_goals rfl) rfl
            · refine x_ldc (n := (-1000004)) C q_373 dX6_set_46 rfl ?_
              exact x_iret C D rfl dX6_set_48 (by unfold xSet; (repeat (first | rw [if_pos (by first | omega | assumption | exact not_not_intro (by assumption))] | rw [if_neg (by first | omega | assumption | exact not_not_intro (by assumption))])); all_goals rfl) (by unfold xSet; (repeat (first | rw [if_pos (by first | omega | assumption | exact not_not_intro (by assumption))] | rw [if_neg (by first | omega | assumption | exact not_not_intro (by assumption))])); all_goals rfl) (by unfold xSet; (repeat (first | rw [if_pos (by first | omega | assumption | exact not_not_intro (by assumption))] | rw [if_neg (by first | omega | assumption | exact not_not_intro (by assumption))])); all_goals rfl) rfl
        · refine x_ldc (n := (-1000002)) C q_305 dX6_set_31 rfl ?_
          exact x_iret C D rfl dX6_set_33 (by unfold xSet; (repeat (first | rw [if_pos (by first | omega | assumption | exact not_not_intro (by assumption))] | rw [if_neg (by first | omega | assumption | exact not_not_intro (by assumption))])); all_goals rfl) (by unfold xSet; (repeat (first | rw [if_pos (by first | omega | assumption | exact not_not_intro (by assumption))] | rw [if_neg (by first | omega | assumption | exact not_not_intro (by assumption))])); all_goals rfl) (by unfold xSet; (repeat (first | rw [if_pos (by first | omega | assumption | exact not_not_intro (by assumption))] | rw [if_neg (by first | omega | assumption | exact not_not_intro (by assumption))])); all_goals rfl) rfl
    · refine x_ldc (n := (-1000002)) C q_305 dX6_set_10 rfl ?_
      exact x_iret C D rfl dX6_set_12 (by unfold xSet; (repeat (first | rw [if_pos (by first | omega | assumption | exact not_not_intro (by assumption))] | rw [if_neg (by first | omega | assumption | exact not_not_intro (by assumption))])); all_goals rfl) (by unfold xSet; (repeat (first | rw [if_pos (by first | omega | assumption | exact not_not_intro (by assumption))] | rw [if_neg (by first | omega | assumption | exact not_not_intro (by assumption))])); all_goals rfl) (by unfold xSet; (repeat (first | rw [if_pos (by first | omega | assumption | exact not_not_intro (by assumption))] | rw [if_neg (by first | omega | assumption | exact not_not_intro (by assumption))])); all_goals rfl) rfl
set_option maxRecDepth 100000 in
set_option maxHeartbeats 4000000 in
theorem m_X6_type {hs : Nat → HV} {tp md : HV} {E : HE} (hE : HI E) (T : TG tp) {c : Int} (c0 : 0 ≤ c ∧ c ≤ 65535) : Mt yX6_type cX6_type 2 (some .int) 2 E [.ref (tA E 0), vI c] hs tp md (some (vI ((xType tp c).1))) hs ((xType tp c).2) md := by
  refine mk_Mt hE (plainFor_of_name (by decide)) (Nat.le_of_ble_eq_true rfl) (by intro w0 hw0; simp only [List.mem_cons, List.not_mem_nil, or_false] at hw0; rcases hw0 with rfl | rfl <;> rfl) (rfl : _ = [_, _]) ?_
  intro F C D
  have tl := T.1
  refine x_aload_n C dX6_type_0 rfl ?_
  refine gt_0_5 C q_237 dX6_type_1 ?_
  refine gt_4_1 C q_200 dX6_type_4 rfl ?_
  refine x_bipush C dX6_type_7 (by decide) ?_
  refine x_icmp_lt 15 C dX6_type_9 (by decide) ⟨by omega, by omega⟩ ⟨by omega, by omega⟩ (fun c_1 => ?_) (fun c_1 => ?_)
  · refine x_aload_n C dX6_type_15 rfl ?_
    refine gt_0_5 C q_237 dX6_type_16 ?_
    refine x_iload_n C dX6_type_19 rfl ?_
    refine x_callV (nA := 1) (As := [vI c]) (rest := []) C (m_X0_append (tp := tp) hE (by omega) (by omega) ⟨by omega, by omega⟩ rfl) q_666 q_667 q_668 q_28 q_669 (by decide +kernel) (wl_t 4 (by decide)) rfl rfl (by decide) (by decide) (Nat.le_of_ble_eq_true rfl) dX6_type_20 rfl ?_
    refine x_aload_n C dX6_type_23 rfl ?_
    refine gt_0_5 C q_237 dX6_type_24 ?_
    refine gt_4_1 C q_200 dX6_type_27 rfl ?_
    exact x_iret C D rfl dX6_type_30 (by unfold xType; (repeat (first | rw [if_pos (by first | omega | assumption | exact not_not_intro (by assumption))] | rw [if_neg (by first | omega | assumption | exact not_not_intro (by assumption))])); all_goals rfl) rfl (by unfold xType; (repeat (first | rw [if_pos (by first | omega | assumption | exact not_not_intro (by assumption))] | rw [if_neg (by first | omega | assumption | exact not_not_intro (by assumption))])); all_goals rfl) rfl
  · refine x_ldc (n := (-1000003)) C q_589 dX6_type_12 rfl ?_
    exact x_iret C D rfl dX6_type_14 (by unfold xType; (repeat (first | rw [if_pos (by first | omega | assumption | exact not_not_intro (by assumption))] | rw [if_neg (by first | omega | assumption | exact not_not_intro (by assumption))])); all_goals rfl) rfl (by unfold xType; (repeat (first | rw [if_pos (by first | omega | assumption | exact not_not_intro (by assumption))] | rw [if_neg (by first | omega | assumption | exact not_not_intro (by assumption))])); all_goals rfl) rfl
set_option maxRecDepth 100000 in
set_option maxHeartbeats 4000000 in
theorem m_X6_clearText {hs : Nat → HV} {tp md : HV} {E : HE} (hE : HI E) : Mt yX6_clearText cX6_clearText 2 (some .int) 1 E [.ref (tA E 0)] hs tp md (some (vI (tp 4 1))) hs (upr tp 4 (up1 (tp 4) 1 0)) md := by
  refine mk_Mt hE (plainFor_of_name (by decide)) (Nat.le_of_ble_eq_true rfl) (by intro w0 hw0; simp only [List.mem_cons, List.not_mem_nil, or_false] at hw0; rcases hw0 with rfl <;> rfl) (rfl : _ = [_, _]) ?_
  intro F C D
  refine x_aload_n C dX6_clearText_0 rfl ?_
  refine gt_0_5 C q_237 dX6_clearText_1 ?_
  refine gt_4_1 C q_200 dX6_clearText_4 rfl ?_
  refine x_istore_n C dX6_clearText_7 (by decide) (rfl : _ = [_, _]) ?_
  refine x_aload_n C dX6_clearText_8 rfl ?_
  refine gt_0_5 C q_237 dX6_clearText_9 ?_
  refine x_const C dX6_clearText_12 ?_
  refine pt_4_1 C q_200 dX6_clearText_13 rfl ?_
  refine x_iload_n C dX6_clearText_16 rfl ?_
  exact x_iret C D rfl dX6_clearText_17 rfl rfl rfl rfl
set_option maxRecDepth 100000 in
set_option maxHeartbeats 4000000 in
theorem m_X6_undo {hs : Nat → HV} {tp md : HV} {E : HE} (hE : HI E) {K : Int} (R : RG K (hs 0)) (S : SG tp) {K2 : Int} (RA : ∀ k, k < 7 → RG K2 (hs k)) : Mt yX6_undo cX6_undo 1 (some .int) 5 E [.ref (tA E 0)] hs tp md (some (vI ((xUndo hs tp).1))) ((xUndo hs tp).2.1) ((xUndo hs tp).2.2) md := by
  refine mk_Mt hE (plainFor_of_name (by decide)) (Nat.le_of_ble_eq_true rfl) (by intro w0 hw0; simp only [List.mem_cons, List.not_mem_nil, or_false] at hw0; rcases hw0 with rfl <;> rfl) (rfl : _ = [_]) ?_
  intro F C D
  have s0 := S.1
  have sz : 1 ≤ tp 2 1 → 3 ≤ tp 3 (tp 2 1 - 1) ∧ tp 3 (tp 2 1 - 1) ≤ 6 := fun q => S.2 (tp 2 1 - 1) (by omega) (by omega)
  refine x_aload_n C dX6_undo_0 rfl ?_
  refine gt_0_4 C q_236 dX6_undo_1 ?_
  refine gt_2_1 C q_186 dX6_undo_4 rfl ?_
  refine x_const C dX6_undo_7 ?_
  refine x_icmp_ge 14 C dX6_undo_8 (by decide) ⟨by omega, by omega⟩ ⟨by omega, by omega⟩ (fun c_1 => ?_) (fun c_1 => ?_)
  · refine x_aload_n C dX6_undo_14 rfl ?_
    refine gt_0_4 C q_236 dX6_undo_15 ?_
    refine x_aload_n C dX6_undo_18 rfl ?_
    refine gt_0_0 C q_232 dX6_undo_19 ?_
    refine x_callV (nA := 1) (As := [.ref (hA E 0 0)]) (rest := []) C (m_X2_giveBack hE S (by omega) (RA _ (by omega)) rfl rfl) q_259 q_260 q_261 q_27 q_262 (by decide +kernel) (wl_t 2 (by decide)) rfl rfl (by decide) (by decide) (Nat.le_of_ble_eq_true rfl) dX6_undo_22 rfl ?_
    refine x_aload_n C dX6_undo_25 rfl ?_
    refine gt_0_4 C q_236 dX6_undo_26 ?_
    refine gt_2_1 C q_186 dX6_undo_29 rfl ?_
    exact x_iret C D rfl dX6_undo_32 (by unfold xUndo; (repeat (first | rw [if_pos (by first | omega | assumption | exact not_not_intro (by assumption))] | rw [if_neg (by first | omega | assumption | exact not_not_intro (by assumption))])); all_goals rfl) (by unfold xUndo; (repeat (first | rw [if_pos (by first | omega | assumption | exact not_not_intro (by assumption))] | rw [if_neg (by first | omega | assumption | exact not_not_intro (by assumption))])); all_goals rfl) (by unfold xUndo; (repeat (first | rw [if_pos (by first | omega | assumption | exact not_not_intro (by assumption))] | rw [if_neg (by first | omega | assumption | exact not_not_intro (by assumption))])); all_goals rfl) rfl
  · refine x_ldc (n := (-1000005)) C q_258 dX6_undo_11 rfl ?_
    exact x_iret C D rfl dX6_undo_13 (by unfold xUndo; (repeat (first | rw [if_pos (by first | omega | assumption | exact not_not_intro (by assumption))] | rw [if_neg (by first | omega | assumption | exact not_not_intro (by assumption))])); all_goals rfl) (by unfold xUndo; (repeat (first | rw [if_pos (by first | omega | assumption | exact not_not_intro (by assumption))] | rw [if_neg (by first | omega | assumption | exact not_not_intro (by assumption))])); all_goals rfl) (by unfold xUndo; (repeat (first | rw [if_pos (by first | omega | assumption | exact not_not_intro (by assumption))] | rw [if_neg (by first | omega | assumption | exact not_not_intro (by assumption))])); all_goals rfl) rfl
