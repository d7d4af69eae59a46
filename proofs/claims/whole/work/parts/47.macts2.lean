set_option maxRecDepth 100000 in
set_option maxHeartbeats 4000000 in
theorem m_X7_cancel {hs : Nat → HV} {tp md : HV} {E : HE} (hE : HI E) {r : Int → Int} {K : Int} (R : MR K r) (k0 : 0 ≤ md 0 6 ∧ md 0 6 ≤ 4) {b : Int} (b0 : IR b) : Mt yX7_cancel cX7_cancel 3 (some .int) 5 E [.ref (mA E 0), vI b] hs tp (upr md 1 r) (some (vI ((yCancel md r b).1))) hs tp ((yCancel md r b).2) := by
  refine mk_Mt hE (plainFor_of_name (by decide)) (Nat.le_of_ble_eq_true rfl) (by intro w0 hw0; simp only [List.mem_cons, List.not_mem_nil, or_false] at hw0; rcases hw0 with rfl | rfl <;> rfl) (rfl : _ = [_, _, _]) ?_
  intro F C D
  refine x_aload_n C dX7_cancel_0 rfl ?_
  refine x_iload_n C dX7_cancel_1 rfl ?_
  refine x_callV (nA := 1) (As := [vI b]) (rest := []) C (m_X7_refund hE (r := r) R (b := b) ⟨by omega, by omega⟩) q_875 q_847 q_848 q_64 q_849 (by decide +kernel) (wl_m 0 (by decide)) rfl rfl (by decide) (by decide) (Nat.le_of_ble_eq_true rfl) dX7_cancel_2 rfl ?_
  have r_1 := mRefd_r R (b := b)
  refine x_istore_n C dX7_cancel_5 (by decide) (rfl : _ = [_, _, _]) ?_
  refine x_iload_n C dX7_cancel_6 rfl ?_
  refine x_if_ge 12 C dX7_cancel_7 (by decide) ⟨by omega, by omega⟩ (fun c_2 => ?_) (fun c_2 => ?_)
  · have mf0 := mRefd_0 c_2
    have rc0 := MR.came R
    refine x_aload_n C dX7_cancel_12 rfl ?_
    refine x_callV (nA := 0) (As := []) (rest := []) C (m_X7_record hE (r := r) (md := md) k0) q_809 q_811 q_25 q_64 q_812 (by decide +kernel) (wl_m 0 (by decide)) rfl rfl (by decide) (by decide) (Nat.le_of_ble_eq_true rfl) dX7_cancel_13 rfl ?_
    refine x_aload_n C dX7_cancel_16 rfl ?_
    refine x_iload_n C dX7_cancel_17 rfl ?_
    refine x_const C dX7_cancel_18 ?_
    refine x_const C dX7_cancel_19 ?_
    refine x_callV (nA := 3) (As := [vI b, vI 0, vI 3]) (rest := []) C (m_X7_put hE (r := r) (b := b) (w := 0) (v := 3) (by omega) (by omega) (by omega) (by omega)) q_817 q_819 q_27 q_64 q_820 (by decide +kernel) (wl_m 0 (by decide)) rfl rfl (by decide) (by decide) (Nat.le_of_ble_eq_true rfl) dX7_cancel_20 rfl ?_
    refine x_aload_n C dX7_cancel_23 rfl ?_
    refine gm_0_0 C q_751 dX7_cancel_24 ?_
    refine x_bipush C dX7_cancel_27 (by decide) ?_
    refine x_dup2 C dX7_cancel_29 rfl rfl ?_
    refine lm_1 C (by omega) (by omega) dX7_cancel_30 (show (up1 r (51 + 7 * b + 0) 3) 14 = r 14 from by rw [up1_ne (by omega)]) ?_
    refine x_iload_n C dX7_cancel_31 rfl ?_
    refine x_isub C dX7_cancel_32 ?_
    refine sm_1 C (by omega) (by omega) dX7_cancel_33 upr_w ?_
    refine x_aload_n C dX7_cancel_34 rfl ?_
    refine gm_0_0 C q_751 dX7_cancel_35 ?_
    refine x_bipush C dX7_cancel_38 (by decide) ?_
    refine x_dup2 C dX7_cancel_40 rfl rfl ?_
    refine lm_1 C (by omega) (by omega) dX7_cancel_41 (show (up1 (up1 r (51 + 7 * b + 0) 3) 14 ((r 14) - (mRefd r b))) 15 = r 15 from by rw [up1_ne (by omega), up1_ne (by omega)]) ?_
    refine x_aload_n C dX7_cancel_42 rfl ?_
    refine x_iload_n C dX7_cancel_43 rfl ?_
    refine x_const C dX7_cancel_44 ?_
    refine x_callV (nA := 2) (As := [vI b, vI 5]) (rest := [vI (r 15), vI 15, .ref (mA E 1)]) C (m_X7_of hE (r := (up1 (up1 r (51 + 7 * b + 0) 3) 14 ((r 14) - (mRefd r b)))) (b := b) (w := 5) (by omega) (by omega) (by omega) (by omega) (show (up1 (up1 r (51 + 7 * b + 0) 3) 14 ((r 14) - (mRefd r b))) (51 + 7 * b + 5) = r (51 + 7 * b + 5) from by rw [up1_ne (by omega), up1_ne (by omega)])) q_799 q_801 q_23 q_64 q_802 (by decide +kernel) (wl_m 0 (by decide)) rfl rfl (by decide) (by decide) (Nat.le_of_ble_eq_true rfl) dX7_cancel_45 rfl ?_
    refine x_iload_n C dX7_cancel_48 rfl ?_
    refine x_isub C dX7_cancel_49 ?_
    refine x_iadd C dX7_cancel_50 ?_
    refine sm_1 C (by omega) (by omega) dX7_cancel_51 upr_w ?_
    refine x_iload_n C dX7_cancel_52 rfl ?_
    exact x_iret C D rfl dX7_cancel_53 (by unfold yCancel; (repeat (first | rw [if_pos (by first | omega | assumption | exact not_not_intro (by assumption))] | rw [if_neg (by first | omega | assumption | exact not_not_intro (by assumption))])); all_goals rfl) rfl rfl (by unfold yCancel; (repeat (first | rw [if_pos (by first | omega | assumption | exact not_not_intro (by assumption))] | rw [if_neg (by first | omega | assumption | exact not_not_intro (by assumption))])); all_goals rfl)
  · refine x_iload_n C dX7_cancel_10 rfl ?_
    exact x_iret C D rfl dX7_cancel_11 (by unfold yCancel; (repeat (first | rw [if_pos (by first | omega | assumption | exact not_not_intro (by assumption))] | rw [if_neg (by first | omega | assumption | exact not_not_intro (by assumption))])); all_goals rfl) rfl rfl (by unfold yCancel; (repeat (first | rw [if_pos (by first | omega | assumption | exact not_not_intro (by assumption))] | rw [if_neg (by first | omega | assumption | exact not_not_intro (by assumption))])); all_goals rfl)
set_option maxRecDepth 100000 in
set_option maxHeartbeats 4000000 in
theorem m_X7_extend {hs : Nat → HV} {tp md : HV} {E : HE} (hE : HI E) {r : Int → Int} {K : Int} (R : MR K r) (k0 : 0 ≤ md 0 6 ∧ md 0 6 ≤ 4) {b : Int} (b0 : IR b) {n : Int} (n0 : IR n) : Mt yX7_extend cX7_extend 4 (some .int) 5 E [.ref (mA E 0), vI b, vI n] hs tp (upr md 1 r) (some (vI ((yExtend md r b n).1))) hs tp ((yExtend md r b n).2) := by
  refine mk_Mt hE (plainFor_of_name (by decide)) (Nat.le_of_ble_eq_true rfl) (by intro w0 hw0; simp only [List.mem_cons, List.not_mem_nil, or_false] at hw0; rcases hw0 with rfl | rfl | rfl <;> rfl) (rfl : _ = [_, _, _, _]) ?_
  intro F C D
  have rc0 := MR.came R
  have rd0 := MR.day R
  refine x_aload_n C dX7_extend_0 rfl ?_
  refine x_iload_n C dX7_extend_1 rfl ?_
  refine x_callV (nA := 1) (As := [vI b]) (rest := []) C (m_X7_isBooking hE (r := r) R (b := b) ⟨by omega, by omega⟩) q_850 q_852 q_33 q_64 q_853 (by decide +kernel) (wl_m 0 (by decide)) rfl rfl (by decide) (by decide) (Nat.le_of_ble_eq_true rfl) dX7_extend_2 rfl ?_
  refine x_bz_ne 11 C dX7_extend_5 (by decide) (fun c_1 => ?_) (fun c_1 => ?_)
  · refine x_iload_n C dX7_extend_11 rfl ?_
    refine x_const C dX7_extend_12 ?_
    refine x_bipush C dX7_extend_13 (by decide) ?_
    refine x_callS (nA := 3) (As := [vI n, vI 1, vI 9]) (rest := []) C (m_X7_in hE (v := n) (l := 1) (m := 9) ⟨by omega, by omega⟩ ⟨by omega, by omega⟩ ⟨by omega, by omega⟩) q_787 q_788 q_64 q_789 (by decide +kernel) rfl (by decide) (by decide) (Nat.le_of_ble_eq_true rfl) dX7_extend_15 rfl ?_
    refine x_bz_ne 24 C dX7_extend_18 (by decide) (fun c_2 => ?_) (fun c_2 => ?_)
    · refine x_aload_n C dX7_extend_24 rfl ?_
      refine x_iload_n C dX7_extend_25 rfl ?_
      refine x_callV (nA := 1) (As := [vI b]) (rest := []) C (m_X7_end hE (r := r) (b := b) (by omega) (by omega) rfl) q_803 q_805 q_24 q_64 q_806 (by decide +kernel) (wl_m 0 (by decide)) rfl rfl (by decide) (by decide) (Nat.le_of_ble_eq_true rfl) dX7_extend_26 rfl ?_
      have r_3 := MR.arr R (b := b) (by omega) (by omega)
      have r_4 := MR.nig R (b := b) (by omega) (by omega)
      refine x_istore_n C dX7_extend_29 (by decide) (rfl : _ = [_, _, _, _]) ?_
      refine x_aload_n C dX7_extend_30 rfl ?_
      refine x_iload_n C dX7_extend_31 rfl ?_
      refine x_const C dX7_extend_32 ?_
      refine x_callV (nA := 2) (As := [vI b, vI 1]) (rest := []) C (m_X7_is hE (r := r) R (b := b) (w := 1) (by omega) (by omega) ⟨by omega, by omega⟩) q_855 q_857 q_34 q_64 q_858 (by decide +kernel) (wl_m 0 (by decide)) rfl rfl (by decide) (by decide) (Nat.le_of_ble_eq_true rfl) dX7_extend_33 rfl ?_
      refine x_bz_eq 79 C dX7_extend_36 (by decide) (fun c_5 => ?_) (fun c_5 => ?_)
      · refine x_ldc (n := (-1000004)) C q_807 dX7_extend_79 rfl ?_
        exact x_iret C D rfl dX7_extend_81 (by unfold yExtend; rw [if_neg (not_not_intro c_1), if_neg (not_not_intro c_2), if_pos (fun q => by have q1 := q.1; have q2 : r 0 ≤ r (51 + 7 * b + 1) + r (51 + 7 * b + 2) := q.2.1; have q3 := q.2.2.1; first | omega | exact absurd q.2.2.2 c_5)]) rfl rfl (by unfold yExtend; rw [if_neg (not_not_intro c_1), if_neg (not_not_intro c_2), if_pos (fun q => by have q1 := q.1; have q2 : r 0 ≤ r (51 + 7 * b + 1) + r (51 + 7 * b + 2) := q.2.1; have q3 := q.2.2.1; first | omega | exact absurd q.2.2.2 c_5)])
      · refine x_iload_n C dX7_extend_39 rfl ?_
        refine x_aload_n C dX7_extend_40 rfl ?_
        refine gm_0_0 C q_751 dX7_extend_41 ?_
        refine x_const C dX7_extend_44 ?_
        refine lm_1 C (by omega) (by omega) dX7_extend_45 (show _ = r 0 from rfl) ?_
        have r_6 := MR.day R
        refine x_icmp_lt 79 C dX7_extend_46 (by decide) ⟨by omega, by omega⟩ ⟨by omega, by omega⟩ (fun c_7 => ?_) (fun c_7 => ?_)
        · refine x_ldc (n := (-1000004)) C q_807 dX7_extend_79 rfl ?_
          exact x_iret C D rfl dX7_extend_81 (by unfold yExtend; rw [if_neg (not_not_intro c_1), if_neg (not_not_intro c_2), if_pos (fun q => by have q1 := q.1; have q2 : r 0 ≤ r (51 + 7 * b + 1) + r (51 + 7 * b + 2) := q.2.1; have q3 := q.2.2.1; first | omega | exact absurd q.2.2.2 c_7)]) rfl rfl (by unfold yExtend; rw [if_neg (not_not_intro c_1), if_neg (not_not_intro c_2), if_pos (fun q => by have q1 := q.1; have q2 : r 0 ≤ r (51 + 7 * b + 1) + r (51 + 7 * b + 2) := q.2.1; have q3 := q.2.2.1; first | omega | exact absurd q.2.2.2 c_7)])
        · refine x_aload_n C dX7_extend_49 rfl ?_
          refine x_iload_n C dX7_extend_50 rfl ?_
          refine x_const C dX7_extend_51 ?_
          refine x_callV (nA := 2) (As := [vI b, vI 2]) (rest := []) C (m_X7_of hE (r := r) (b := b) (w := 2) (by omega) (by omega) (by omega) (by omega) (show _ = r (51 + 7 * b + 2) from rfl)) q_799 q_801 q_23 q_64 q_802 (by decide +kernel) (wl_m 0 (by decide)) rfl rfl (by decide) (by decide) (Nat.le_of_ble_eq_true rfl) dX7_extend_52 rfl ?_
          have r_8 := MR.nig R (b := b) (by omega) (by omega)
          refine x_iload_n C dX7_extend_55 rfl ?_
          refine x_iadd C dX7_extend_56 ?_
          refine x_bipush C dX7_extend_57 (by decide) ?_
          refine x_icmp_gt 79 C dX7_extend_59 (by decide) ⟨by omega, by omega⟩ ⟨by omega, by omega⟩ (fun c_9 => ?_) (fun c_9 => ?_)
          · refine x_ldc (n := (-1000004)) C q_807 dX7_extend_79 rfl ?_
            exact x_iret C D rfl dX7_extend_81 (by unfold yExtend; rw [if_neg (not_not_intro c_1), if_neg (not_not_intro c_2), if_pos (fun q => by have q1 := q.1; have q2 : r 0 ≤ r (51 + 7 * b + 1) + r (51 + 7 * b + 2) := q.2.1; have q3 := q.2.2.1; first | omega | exact absurd q.2.2.2 c_9)]) rfl rfl (by unfold yExtend; rw [if_neg (not_not_intro c_1), if_neg (not_not_intro c_2), if_pos (fun q => by have q1 := q.1; have q2 : r 0 ≤ r (51 + 7 * b + 1) + r (51 + 7 * b + 2) := q.2.1; have q3 := q.2.2.1; first | omega | exact absurd q.2.2.2 c_9)])
          · refine x_aload_n C dX7_extend_62 rfl ?_
            refine x_iload_n C dX7_extend_63 rfl ?_
            refine x_iload_n C dX7_extend_64 rfl ?_
            refine x_iload_n C dX7_extend_65 rfl ?_
            refine x_iadd C dX7_extend_66 ?_
            refine x_aload_n C dX7_extend_67 rfl ?_
            refine x_iload_n C dX7_extend_68 rfl ?_
            refine x_const C dX7_extend_69 ?_
            refine x_callV (nA := 2) (As := [vI b, vI 3]) (rest := [vI ((r (51 + 7 * b + 1) + r (51 + 7 * b + 2)) + n), vI (r (51 + 7 * b + 1) + r (51 + 7 * b + 2)), .ref (mA E 0)]) C (m_X7_of hE (r := r) (b := b) (w := 3) (by omega) (by omega) (by omega) (by omega) (show _ = r (51 + 7 * b + 3) from rfl)) q_799 q_801 q_23 q_64 q_802 (by decide +kernel) (wl_m 0 (by decide)) rfl rfl (by decide) (by decide) (Nat.le_of_ble_eq_true rfl) dX7_extend_70 rfl ?_
            have r_10 := MR.per R (b := b) (by omega) (by omega)
            refine x_callV (nA := 3) (As := [vI (r (51 + 7 * b + 1) + r (51 + 7 * b + 2)), vI ((r (51 + 7 * b + 1) + r (51 + 7 * b + 2)) + n), vI (r (51 + 7 * b + 3))]) (rest := []) C (m_X7_fits hE (r := r) R (x := (r (51 + 7 * b + 1) + r (51 + 7 * b + 2))) (y := ((r (51 + 7 * b + 1) + r (51 + 7 * b + 2)) + n)) (p := (r (51 + 7 * b + 3))) ⟨by omega, by omega⟩ ⟨by omega, by omega⟩ ⟨by omega, by omega⟩) q_791 q_793 q_21 q_64 q_794 (by decide +kernel) (wl_m 0 (by decide)) rfl rfl (by decide) (by decide) (Nat.le_of_ble_eq_true rfl) dX7_extend_73 rfl ?_
            refine x_bz_ne 82 C dX7_extend_76 (by decide) (fun c_11 => ?_) (fun c_11 => ?_)
            · refine x_aload_n C dX7_extend_82 rfl ?_
              refine x_callV (nA := 0) (As := []) (rest := []) C (m_X7_record hE (r := r) (md := md) k0) q_809 q_811 q_25 q_64 q_812 (by decide +kernel) (wl_m 0 (by decide)) rfl rfl (by decide) (by decide) (Nat.le_of_ble_eq_true rfl) dX7_extend_83 rfl ?_
              refine x_aload_n C dX7_extend_86 rfl ?_
              refine x_iload_n C dX7_extend_87 rfl ?_
              refine x_const C dX7_extend_88 ?_
              refine x_aload_n C dX7_extend_89 rfl ?_
              refine x_iload_n C dX7_extend_90 rfl ?_
              refine x_const C dX7_extend_91 ?_
              refine x_callV (nA := 2) (As := [vI b, vI 2]) (rest := [vI 2, vI b, .ref (mA E 0)]) C (m_X7_of hE (r := r) (b := b) (w := 2) (by omega) (by omega) (by omega) (by omega) (show _ = r (51 + 7 * b + 2) from rfl)) q_799 q_801 q_23 q_64 q_802 (by decide +kernel) (wl_m 0 (by decide)) rfl rfl (by decide) (by decide) (Nat.le_of_ble_eq_true rfl) dX7_extend_92 rfl ?_
              have r_12 := MR.nig R (b := b) (by omega) (by omega)
              refine x_iload_n C dX7_extend_95 rfl ?_
              refine x_iadd C dX7_extend_96 ?_
              refine x_callV (nA := 3) (As := [vI b, vI 2, vI ((r (51 + 7 * b + 2)) + n)]) (rest := []) C (m_X7_put hE (r := r) (b := b) (w := 2) (v := ((r (51 + 7 * b + 2)) + n)) (by omega) (by omega) (by omega) (by omega)) q_817 q_819 q_27 q_64 q_820 (by decide +kernel) (wl_m 0 (by decide)) rfl rfl (by decide) (by decide) (Nat.le_of_ble_eq_true rfl) dX7_extend_97 rfl ?_
              refine x_iload_n C dX7_extend_100 rfl ?_
              refine x_iload_n C dX7_extend_101 rfl ?_
              refine x_iadd C dX7_extend_102 ?_
              exact x_iret C D rfl dX7_extend_103 (by unfold yExtend; rw [if_neg (not_not_intro c_1), if_neg (not_not_intro c_2), if_neg (not_not_intro ⟨c_5, by show r 0 ≤ r (51 + 7 * b + 1) + r (51 + 7 * b + 2); omega, by omega, c_11⟩)]) rfl rfl (by unfold yExtend; rw [if_neg (not_not_intro c_1), if_neg (not_not_intro c_2), if_neg (not_not_intro ⟨c_5, by show r 0 ≤ r (51 + 7 * b + 1) + r (51 + 7 * b + 2); omega, by omega, c_11⟩)])
            · refine x_ldc (n := (-1000004)) C q_807 dX7_extend_79 rfl ?_
              exact x_iret C D rfl dX7_extend_81 (by unfold yExtend; rw [if_neg (not_not_intro c_1), if_neg (not_not_intro c_2), if_pos (fun q => by have q1 := q.1; have q2 : r 0 ≤ r (51 + 7 * b + 1) + r (51 + 7 * b + 2) := q.2.1; have q3 := q.2.2.1; first | omega | exact absurd q.2.2.2 c_11)]) rfl rfl (by unfold yExtend; rw [if_neg (not_not_intro c_1), if_neg (not_not_intro c_2), if_pos (fun q => by have q1 := q.1; have q2 : r 0 ≤ r (51 + 7 * b + 1) + r (51 + 7 * b + 2) := q.2.1; have q3 := q.2.2.1; first | omega | exact absurd q.2.2.2 c_11)])
    · refine x_ldc (n := (-1000002)) C q_790 dX7_extend_21 rfl ?_
      exact x_iret C D rfl dX7_extend_23 (by unfold yExtend; (repeat (first | rw [if_pos (by first | omega | assumption | exact not_not_intro (by assumption))] | rw [if_neg (by first | omega | assumption | exact not_not_intro (by assumption))])); all_goals rfl) rfl rfl (by unfold yExtend; (repeat (first | rw [if_pos (by first | omega | assumption | exact not_not_intro (by assumption))] | rw [if_neg (by first | omega | assumption | exact not_not_intro (by assumption))])); all_goals rfl)
  · refine x_ldc (n := (-1000001)) C q_854 dX7_extend_8 rfl ?_
    exact x_iret C D rfl dX7_extend_10 (by unfold yExtend; (repeat (first | rw [if_pos (by first | omega | assumption | exact not_not_intro (by assumption))] | rw [if_neg (by first | omega | assumption | exact not_not_intro (by assumption))])); all_goals rfl) rfl rfl (by unfold yExtend; (repeat (first | rw [if_pos (by first | omega | assumption | exact not_not_intro (by assumption))] | rw [if_neg (by first | omega | assumption | exact not_not_intro (by assumption))])); all_goals rfl)
set_option maxRecDepth 100000 in
set_option maxHeartbeats 4000000 in
theorem m_X7_weather {hs : Nat → HV} {tp md : HV} {E : HE} (hE : HI E) {r : Int → Int} {K : Int} (R : MR K r) (k0 : 0 ≤ md 0 6 ∧ md 0 6 ≤ 4) {x y w : Int} (x0 : IR x) (y0 : IR y) (w0 : IR w) : Mt yX7_weather cX7_weather 6 (some .int) 2 E [.ref (mA E 0), vI x, vI y, vI w] hs tp (upr md 1 r) (some (vI ((yWeather md r x y w).1))) hs tp ((yWeather md r x y w).2) := by
  refine mk_Mt hE (plainFor_of_name (by decide)) (Nat.le_of_ble_eq_true rfl) (by intro w0 hw0; simp only [List.mem_cons, List.not_mem_nil, or_false] at hw0; rcases hw0 with rfl | rfl | rfl | rfl <;> rfl) (rfl : _ = [_, _, _, _, _, _]) ?_
  intro F C D
  have rd0 := MR.day R
  refine x_iload_n C dX7_weather_0 rfl ?_
  refine x_aload_n C dX7_weather_1 rfl ?_
  refine gm_0_0 C q_751 dX7_weather_2 ?_
  refine x_const C dX7_weather_5 ?_
  refine lm_1 C (by omega) (by omega) dX7_weather_6 (show _ = r 0 from rfl) ?_
  have r_1 := MR.day R
  refine x_sipush C dX7_weather_7 (by decide) ?_
  refine x_callS (nA := 3) (As := [vI x, vI (r 0), vI 999]) (rest := []) C (m_X7_in hE (v := x) (l := r 0) (m := 999) ⟨by omega, by omega⟩ ⟨by omega, by omega⟩ ⟨by omega, by omega⟩) q_787 q_788 q_64 q_789 (by decide +kernel) rfl (by decide) (by decide) (Nat.le_of_ble_eq_true rfl) dX7_weather_10 rfl ?_
  refine x_bz_eq 37 C dX7_weather_13 (by decide) (fun c_2 => ?_) (fun c_2 => ?_)
  · refine x_ldc (n := (-1000002)) C q_790 dX7_weather_37 rfl ?_
    exact x_iret C D rfl dX7_weather_39 (by unfold yWeather; rw [if_pos (by omega)]) rfl rfl (by unfold yWeather; rw [if_pos (by omega)])
  · refine x_iload_n C dX7_weather_16 rfl ?_
    refine x_iload_n C dX7_weather_17 rfl ?_
    refine x_sipush C dX7_weather_18 (by decide) ?_
    refine x_callS (nA := 3) (As := [vI y, vI x, vI 999]) (rest := []) C (m_X7_in hE (v := y) (l := x) (m := 999) ⟨by omega, by omega⟩ ⟨by omega, by omega⟩ ⟨by omega, by omega⟩) q_787 q_788 q_64 q_789 (by decide +kernel) rfl (by decide) (by decide) (Nat.le_of_ble_eq_true rfl) dX7_weather_21 rfl ?_
    refine x_bz_eq 37 C dX7_weather_24 (by decide) (fun c_3 => ?_) (fun c_3 => ?_)
    · refine x_ldc (n := (-1000002)) C q_790 dX7_weather_37 rfl ?_
      exact x_iret C D rfl dX7_weather_39 (by unfold yWeather; rw [if_pos (by omega)]) rfl rfl (by unfold yWeather; rw [if_pos (by omega)])
    · refine x_iload_n C dX7_weather_27 rfl ?_
      refine x_const C dX7_weather_28 ?_
      refine x_bipush C dX7_weather_29 (by decide) ?_
      refine x_callS (nA := 3) (As := [vI w, vI 0, vI 7]) (rest := []) C (m_X7_in hE (v := w) (l := 0) (m := 7) ⟨by omega, by omega⟩ ⟨by omega, by omega⟩ ⟨by omega, by omega⟩) q_787 q_788 q_64 q_789 (by decide +kernel) rfl (by decide) (by decide) (Nat.le_of_ble_eq_true rfl) dX7_weather_31 rfl ?_
      refine x_bz_ne 40 C dX7_weather_34 (by decide) (fun c_4 => ?_) (fun c_4 => ?_)
      · refine x_const C dX7_weather_40 ?_
        refine x_istore C dX7_weather_41 (by decide) (rfl : _ = [_, _, _, _, _, _]) ?_
        refine x_iload_n C dX7_weather_43 rfl ?_
        refine x_istore C dX7_weather_44 (by decide) (rfl : _ = [_, _, _, _, _, _]) ?_
        have K46 : ∀ (nn : Nat) (n : Int), 0 ≤ n → n ≤ y + 1 - x → 1100 - n < nn →  G F E hs tp (upr md 1 r) 46 [some (.ref (mA E 0)), some (vI x), some (vI y), some (vI w), some (vI (sumI (fun q => mOth r w (x + q)) n)), some (vI (x + n))] [] := by
          intro nn
          induction nn with
          | zero => intro n n0 n1 hz; exact absurd hz (by omega)
          | succ nn ih =>
            intro n n0 n1 hz
            refine x_iload C dX7_weather_46 rfl ?_
            refine x_iload_n C dX7_weather_48 rfl ?_
            refine x_icmp_gt 78 C dX7_weather_49 (by decide) ⟨by omega, by omega⟩ ⟨by omega, by omega⟩ (fun c_5 => ?_) (fun c_5 => ?_)
            · have en : sumI (fun q => mOth r w (x + q))  n = sumI (fun q => mOth r w (x + q))  (y + 1 - x) := by rw [show n = y + 1 - x by omega]
              have so := sumI_le (f := fun q => mOth r w (x + q)) (lo := 0) (hi := 1) n0 (fun k a b => by show 0 ≤ (if _ then _ else _ : Int) ∧ (if _ then _ else _ : Int) ≤ 1; split <;> decide)
              refine x_iload C dX7_weather_78 rfl ?_
              refine x_if_ne 86 C dX7_weather_80 (by decide) ⟨by omega, by omega⟩ (fun c_6 => ?_) (fun c_6 => ?_)
              · refine x_aload_n C dX7_weather_86 rfl ?_
                refine x_callV (nA := 0) (As := []) (rest := []) C (m_X7_record hE (r := r) (md := md) k0) q_809 q_811 q_25 q_64 q_812 (by decide +kernel) (wl_m 0 (by decide)) rfl rfl (by decide) (by decide) (Nat.le_of_ble_eq_true rfl) dX7_weather_87 rfl ?_
                refine x_iload_n C dX7_weather_90 rfl ?_
                refine x_istore C dX7_weather_91 (by decide) (rfl : _ = [_, _, _, _, _, _]) ?_
                have K93 : ∀ (nn : Nat) (n2 : Int), 0 ≤ n2 → n2 ≤ y + 1 - x → 1100 - n2 < nn →  G F E hs tp (upr (mRec md r) 1 (mWs r x (x + n2) w)) 93 [some (.ref (mA E 0)), some (vI x), some (vI y), some (vI w), some (vI (sumI (fun q => mOth r w (x + q)) n)), some (vI (x + n2))] [] := by
                  intro nn2
                  induction nn2 with
                  | zero => intro n2 n20 n21 hz2; exact absurd hz2 (by omega)
                  | succ nn2 ih2 =>
                    intro n2 n20 n21 hz2
                    refine x_iload C dX7_weather_93 rfl ?_
                    refine x_iload_n C dX7_weather_95 rfl ?_
                    refine x_icmp_gt 117 C dX7_weather_96 (by decide) ⟨by omega, by omega⟩ ⟨by omega, by omega⟩ (fun c_7 => ?_) (fun c_7 => ?_)
                    · refine x_iload C dX7_weather_117 rfl ?_
                      exact x_iret C D rfl dX7_weather_119 (by unfold yWeather; rw [if_neg (by omega), if_neg (by rw [← en]; assumption)]; first | exact en | (rw [show x + n2 = y + 1 by omega])) rfl rfl (by unfold yWeather; rw [if_neg (by omega), if_neg (by rw [← en]; assumption)]; first | exact en | (rw [show x + n2 = y + 1 by omega]))
                    · refine x_aload_n C dX7_weather_99 rfl ?_
                      refine gm_0_0 C q_751 dX7_weather_100 ?_
                      refine x_sipush C dX7_weather_103 (by decide) ?_
                      refine x_iload C dX7_weather_106 rfl ?_
                      refine x_iadd C dX7_weather_108 ?_
                      refine x_iload_n C dX7_weather_109 rfl ?_
                      refine sm_1 C (by omega) (by omega) dX7_weather_110 upr_w ?_
                      refine x_iinc C dX7_weather_111 rfl (by decide) (rfl : _ = [_, _, _, _, _, _]) ?_
                      refine x_goto 93 C dX7_weather_114 (by decide) ?_
                      refine G.of (G.wk (ih2 (n2 + 1) (by omega) (by omega) (by omega)) ?_) rfl rfl ?_ rfl
                      · simp only [leL, Int.add_assoc, and_self]
                      · rw [show x + (n2 + 1) = x + n2 + 1 by omega, ← mWs_s (show x ≤ x + n2 by omega)]
                refine G.of (G.wk (K93 1101 0 (by omega) (by omega) (by omega)) ?_) rfl rfl ?_ rfl
                · simp only [leL, Int.add_zero, and_self]
                · rw [Int.add_zero, mWs_0]
              · refine x_ldc (n := (-1000005)) C q_821 dX7_weather_83 rfl ?_
                exact x_iret C D rfl dX7_weather_85 (by unfold yWeather; rw [if_neg (by omega), if_pos (by rw [← en]; assumption)]) rfl rfl (by unfold yWeather; rw [if_neg (by omega), if_pos (by rw [← en]; assumption)])
            · refine x_iload C dX7_weather_52 rfl ?_
              refine x_aload_n C dX7_weather_54 rfl ?_
              refine x_iload C dX7_weather_55 rfl ?_
              refine x_callV (nA := 1) (As := [vI (x + n)]) (rest := [vI (sumI (fun q => mOth r w (x + q)) n)]) C (m_X7_weatherOf hE (r := r) (d := (x + n)) (by omega) (by omega)) q_867 q_869 q_37 q_64 q_870 (by decide +kernel) (wl_m 0 (by decide)) rfl rfl (by decide) (by decide) (Nat.le_of_ble_eq_true rfl) dX7_weather_57 rfl ?_
              have r_8 := MR.wea R (d := (x + n)) (by omega) (by omega)
              refine x_iload_n C dX7_weather_60 rfl ?_
              refine x_icmp_ne 68 C dX7_weather_61 (by decide) ⟨by omega, by omega⟩ ⟨by omega, by omega⟩ (fun c_9 => ?_) (fun c_9 => ?_)
              · refine x_const C dX7_weather_68 ?_
                refine x_iadd C dX7_weather_69 ?_
                refine x_istore C dX7_weather_70 (by decide) (rfl : _ = [_, _, _, _, _, _]) ?_
                refine x_iinc C dX7_weather_72 rfl (by decide) (rfl : _ = [_, _, _, _, _, _]) ?_
                refine x_goto 46 C dX7_weather_75 (by decide) ?_
                have e9 : mOth r w (x + n) = 1 := if_neg (by first | assumption | omega)
                refine G.wk (ih (n + 1) (by omega) (by omega) (by omega)) ?_
                simp only [leL, sumI_s n0, e9, Int.add_assoc, and_self]
              · refine x_const C dX7_weather_64 ?_
                refine x_goto 69 C dX7_weather_65 (by decide) ?_
                refine x_iadd C dX7_weather_69 ?_
                refine x_istore C dX7_weather_70 (by decide) (rfl : _ = [_, _, _, _, _, _]) ?_
                refine x_iinc C dX7_weather_72 rfl (by decide) (rfl : _ = [_, _, _, _, _, _]) ?_
                refine x_goto 46 C dX7_weather_75 (by decide) ?_
                have e9 : mOth r w (x + n) = 0 := if_pos (by first | assumption | omega)
                refine G.wk (ih (n + 1) (by omega) (by omega) (by omega)) ?_
                simp only [leL, sumI_s n0, e9, Int.add_assoc, and_self]
        refine G.wk (K46 1101 0 (by omega) (by omega) (by omega)) ?_
        simp only [leL, Int.add_zero, sumI_0, and_self]
      · refine x_ldc (n := (-1000002)) C q_790 dX7_weather_37 rfl ?_
        exact x_iret C D rfl dX7_weather_39 (by unfold yWeather; rw [if_pos (by omega)]) rfl rfl (by unfold yWeather; rw [if_pos (by omega)])
set_option maxRecDepth 100000 in
set_option maxHeartbeats 4000000 in
theorem m_X7_order {hs : Nat → HV} {tp md : HV} {E : HE} (hE : HI E) {r : Int → Int} {K : Int} (R : MR K r) (k0 : 0 ≤ md 0 6 ∧ md 0 6 ≤ 4) {k w : Int} (kk0 : IR k) (w0 : IR w) : Mt yX7_order cX7_order 3 (some .int) 2 E [.ref (mA E 0), vI k, vI w] hs tp (upr md 1 r) (some (vI ((yOrder md r k w).1))) hs tp ((yOrder md r k w).2) := by
  refine mk_Mt hE (plainFor_of_name (by decide)) (Nat.le_of_ble_eq_true rfl) (by intro w0 hw0; simp only [List.mem_cons, List.not_mem_nil, or_false] at hw0; rcases hw0 with rfl | rfl | rfl <;> rfl) (rfl : _ = [_, _, _]) ?_
  intro F C D
  have rw0 := MR.wait R
  refine x_iload_n C dX7_order_0 rfl ?_
  refine x_const C dX7_order_1 ?_
  refine x_const C dX7_order_2 ?_
  refine x_callS (nA := 3) (As := [vI k, vI 0, vI 1]) (rest := []) C (m_X7_in hE (v := k) (l := 0) (m := 1) ⟨by omega, by omega⟩ ⟨by omega, by omega⟩ ⟨by omega, by omega⟩) q_787 q_788 q_64 q_789 (by decide +kernel) rfl (by decide) (by decide) (Nat.le_of_ble_eq_true rfl) dX7_order_3 rfl ?_
  refine x_bz_eq 19 C dX7_order_6 (by decide) (fun c_1 => ?_) (fun c_1 => ?_)
  · refine x_ldc (n := (-1000002)) C q_790 dX7_order_19 rfl ?_
    exact x_iret C D rfl dX7_order_21 (by unfold yOrder; (repeat (first | rw [if_pos (by first | omega | assumption | exact not_not_intro (by assumption))] | rw [if_neg (by first | omega | assumption | exact not_not_intro (by assumption))])); all_goals rfl) rfl rfl (by unfold yOrder; (repeat (first | rw [if_pos (by first | omega | assumption | exact not_not_intro (by assumption))] | rw [if_neg (by first | omega | assumption | exact not_not_intro (by assumption))])); all_goals rfl)
  · refine x_iload_n C dX7_order_9 rfl ?_
    refine x_const C dX7_order_10 ?_
    refine x_bipush C dX7_order_11 (by decide) ?_
    refine x_callS (nA := 3) (As := [vI w, vI 1, vI 99]) (rest := []) C (m_X7_in hE (v := w) (l := 1) (m := 99) ⟨by omega, by omega⟩ ⟨by omega, by omega⟩ ⟨by omega, by omega⟩) q_787 q_788 q_64 q_789 (by decide +kernel) rfl (by decide) (by decide) (Nat.le_of_ble_eq_true rfl) dX7_order_13 rfl ?_
    refine x_bz_ne 22 C dX7_order_16 (by decide) (fun c_2 => ?_) (fun c_2 => ?_)
    · refine x_aload_n C dX7_order_22 rfl ?_
      refine gm_0_0 C q_751 dX7_order_23 ?_
      refine x_const C dX7_order_26 ?_
      refine lm_1 C (by omega) (by omega) dX7_order_27 (show _ = r 3 from rfl) ?_
      have r_3 := MR.wait R
      refine x_bipush C dX7_order_28 (by decide) ?_
      refine x_icmp_ne 36 C dX7_order_30 (by decide) ⟨by omega, by omega⟩ ⟨by omega, by omega⟩ (fun c_4 => ?_) (fun c_4 => ?_)
      · refine x_aload_n C dX7_order_36 rfl ?_
        refine x_callV (nA := 0) (As := []) (rest := []) C (m_X7_record hE (r := r) (md := md) k0) q_809 q_811 q_25 q_64 q_812 (by decide +kernel) (wl_m 0 (by decide)) rfl rfl (by decide) (by decide) (Nat.le_of_ble_eq_true rfl) dX7_order_37 rfl ?_
        refine x_aload_n C dX7_order_40 rfl ?_
        refine gm_0_0 C q_751 dX7_order_41 ?_
        refine x_bipush C dX7_order_44 (by decide) ?_
        refine x_aload_n C dX7_order_46 rfl ?_
        refine gm_0_0 C q_751 dX7_order_47 ?_
        refine x_const C dX7_order_50 ?_
        refine lm_1 C (by omega) (by omega) dX7_order_51 (show _ = r 3 from rfl) ?_
        have r_5 := MR.wait R
        refine x_iadd C dX7_order_52 ?_
        refine x_iload_n C dX7_order_53 rfl ?_
        refine sm_1 C (by omega) (by omega) dX7_order_54 upr_w ?_
        refine x_aload_n C dX7_order_55 rfl ?_
        refine gm_0_0 C q_751 dX7_order_56 ?_
        refine x_bipush C dX7_order_59 (by decide) ?_
        refine x_aload_n C dX7_order_61 rfl ?_
        refine gm_0_0 C q_751 dX7_order_62 ?_
        refine x_const C dX7_order_65 ?_
        refine lm_1 C (by omega) (by omega) dX7_order_66 (show (up1 r (27 + (r 3)) k) 3 = r 3 from by rw [up1_ne (by omega)]) ?_
        have r_6 := MR.wait R
        refine x_iadd C dX7_order_67 ?_
        refine x_iload_n C dX7_order_68 rfl ?_
        refine sm_1 C (by omega) (by omega) dX7_order_69 upr_w ?_
        refine x_aload_n C dX7_order_70 rfl ?_
        refine gm_0_0 C q_751 dX7_order_71 ?_
        refine x_const C dX7_order_74 ?_
        refine x_dup2 C dX7_order_75 rfl rfl ?_
        refine lm_1 C (by omega) (by omega) dX7_order_76 (show (up1 (up1 r (27 + (r 3)) k) (39 + (r 3)) w) 3 = r 3 from by rw [up1_ne (by omega), up1_ne (by omega)]) ?_
        have r_7 := MR.wait R
        refine x_const C dX7_order_77 ?_
        refine x_iadd C dX7_order_78 ?_
        refine sm_1 C (by omega) (by omega) dX7_order_79 upr_w ?_
        refine x_aload_n C dX7_order_80 rfl ?_
        refine gm_0_0 C q_751 dX7_order_81 ?_
        refine x_const C dX7_order_84 ?_
        refine lm_1 C (by omega) (by omega) dX7_order_85 (show (up1 (up1 (up1 r (27 + (r 3)) k) (39 + (r 3)) w) 3 ((r 3) + 1)) 3 = (r 3) + 1 from up1_same) ?_
        exact x_iret C D rfl dX7_order_86 (by unfold yOrder; (repeat (first | rw [if_pos (by first | omega | assumption | exact not_not_intro (by assumption))] | rw [if_neg (by first | omega | assumption | exact not_not_intro (by assumption))])); all_goals rfl) rfl rfl (by unfold yOrder; (repeat (first | rw [if_pos (by first | omega | assumption | exact not_not_intro (by assumption))] | rw [if_neg (by first | omega | assumption | exact not_not_intro (by assumption))])); all_goals rfl)
      · refine x_ldc (n := (-1000003)) C q_808 dX7_order_33 rfl ?_
        exact x_iret C D rfl dX7_order_35 (by unfold yOrder; (repeat (first | rw [if_pos (by first | omega | assumption | exact not_not_intro (by assumption))] | rw [if_neg (by first | omega | assumption | exact not_not_intro (by assumption))])); all_goals rfl) rfl rfl (by unfold yOrder; (repeat (first | rw [if_pos (by first | omega | assumption | exact not_not_intro (by assumption))] | rw [if_neg (by first | omega | assumption | exact not_not_intro (by assumption))])); all_goals rfl)
    · refine x_ldc (n := (-1000002)) C q_790 dX7_order_19 rfl ?_
      exact x_iret C D rfl dX7_order_21 (by unfold yOrder; (repeat (first | rw [if_pos (by first | omega | assumption | exact not_not_intro (by assumption))] | rw [if_neg (by first | omega | assumption | exact not_not_intro (by assumption))])); all_goals rfl) rfl rfl (by unfold yOrder; (repeat (first | rw [if_pos (by first | omega | assumption | exact not_not_intro (by assumption))] | rw [if_neg (by first | omega | assumption | exact not_not_intro (by assumption))])); all_goals rfl)
set_option maxRecDepth 100000 in
set_option maxHeartbeats 4000000 in
theorem m_X7_recall {hs : Nat → HV} {tp md : HV} {E : HE} (hE : HI E) {r : Int → Int} {K : Int} (R : MR K r) (k0 : 0 ≤ md 0 6 ∧ md 0 6 ≤ 4) : Mt yX7_recall cX7_recall 2 (some .int) 2 E [.ref (mA E 0)] hs tp (upr md 1 r) (some (vI ((yRecall md r).1))) hs tp ((yRecall md r).2) := by
  refine mk_Mt hE (plainFor_of_name (by decide)) (Nat.le_of_ble_eq_true rfl) (by intro w0 hw0; simp only [List.mem_cons, List.not_mem_nil, or_false] at hw0; rcases hw0 with rfl <;> rfl) (rfl : _ = [_, _]) ?_
  intro F C D
  have rw0 := MR.wait R
  refine x_aload_n C dX7_recall_0 rfl ?_
  refine gm_0_0 C q_751 dX7_recall_1 ?_
  refine x_const C dX7_recall_4 ?_
  refine lm_1 C (by omega) (by omega) dX7_recall_5 (show _ = r 3 from rfl) ?_
  have r_1 := MR.wait R
  refine x_if_ne 12 C dX7_recall_6 (by decide) ⟨by omega, by omega⟩ (fun c_2 => ?_) (fun c_2 => ?_)
  · refine x_aload_n C dX7_recall_12 rfl ?_
    refine gm_0_0 C q_751 dX7_recall_13 ?_
    refine x_bipush C dX7_recall_16 (by decide) ?_
    refine x_aload_n C dX7_recall_18 rfl ?_
    refine gm_0_0 C q_751 dX7_recall_19 ?_
    refine x_const C dX7_recall_22 ?_
    refine lm_1 C (by omega) (by omega) dX7_recall_23 (show _ = r 3 from rfl) ?_
    have r_3 := MR.wait R
    refine x_iadd C dX7_recall_24 ?_
    refine x_const C dX7_recall_25 ?_
    refine x_isub C dX7_recall_26 ?_
    refine lm_1 C (by omega) (by omega) dX7_recall_27 (show _ = r ((39 + (r 3)) - 1) from rfl) ?_
    refine x_istore_n C dX7_recall_28 (by decide) (rfl : _ = [_, _]) ?_
    refine x_aload_n C dX7_recall_29 rfl ?_
    refine x_callV (nA := 0) (As := []) (rest := []) C (m_X7_record hE (r := r) (md := md) k0) q_809 q_811 q_25 q_64 q_812 (by decide +kernel) (wl_m 0 (by decide)) rfl rfl (by decide) (by decide) (Nat.le_of_ble_eq_true rfl) dX7_recall_30 rfl ?_
    refine x_aload_n C dX7_recall_33 rfl ?_
    refine x_aload_n C dX7_recall_34 rfl ?_
    refine gm_0_0 C q_751 dX7_recall_35 ?_
    refine x_const C dX7_recall_38 ?_
    refine lm_1 C (by omega) (by omega) dX7_recall_39 (show _ = r 3 from rfl) ?_
    have r_4 := MR.wait R
    refine x_const C dX7_recall_40 ?_
    refine x_isub C dX7_recall_41 ?_
    refine x_callV (nA := 1) (As := [vI ((r 3) - 1)]) (rest := []) C (m_X7_dropOrder hE (r := r) R (x := ((r 3) - 1)) (by omega) (by omega)) q_892 q_894 q_38 q_64 q_895 (by decide +kernel) (wl_m 0 (by decide)) rfl rfl (by decide) (by decide) (Nat.le_of_ble_eq_true rfl) dX7_recall_42 rfl ?_
    refine x_iload_n C dX7_recall_45 rfl ?_
    exact x_iret C D rfl dX7_recall_46 (by unfold yRecall; (repeat (first | rw [if_pos (by first | omega | assumption | exact not_not_intro (by assumption))] | rw [if_neg (by first | omega | assumption | exact not_not_intro (by assumption))])); all_goals rfl) rfl rfl (by unfold yRecall; (repeat (first | rw [if_pos (by first | omega | assumption | exact not_not_intro (by assumption))] | rw [if_neg (by first | omega | assumption | exact not_not_intro (by assumption))])); all_goals rfl)
  · refine x_ldc (n := (-1000005)) C q_821 dX7_recall_9 rfl ?_
    exact x_iret C D rfl dX7_recall_11 (by unfold yRecall; (repeat (first | rw [if_pos (by first | omega | assumption | exact not_not_intro (by assumption))] | rw [if_neg (by first | omega | assumption | exact not_not_intro (by assumption))])); all_goals rfl) rfl rfl (by unfold yRecall; (repeat (first | rw [if_pos (by first | omega | assumption | exact not_not_intro (by assumption))] | rw [if_neg (by first | omega | assumption | exact not_not_intro (by assumption))])); all_goals rfl)
set_option maxRecDepth 100000 in
set_option maxHeartbeats 4000000 in
theorem m_X7_flight {hs : Nat → HV} {tp md : HV} {E : HE} (hE : HI E) {r : Int → Int} {K : Int} (R : MR K r) (k0 : 0 ≤ md 0 6 ∧ md 0 6 ≤ 4) {x : Int} (x0 : x = 0 ∨ x = 1) : Mt yX7_flight cX7_flight 2 (some .int) 2 E [.ref (mA E 0), vI x] hs tp (upr md 1 r) (some (vI ((yFlight md r x).1))) hs tp ((yFlight md r x).2) := by
  refine mk_Mt hE (plainFor_of_name (by decide)) (Nat.le_of_ble_eq_true rfl) (by intro w0 hw0; simp only [List.mem_cons, List.not_mem_nil, or_false] at hw0; rcases hw0 with rfl | rfl <;> rfl) (rfl : _ = [_, _]) ?_
  intro F C D
  have rl0 := MR.cal R
  refine x_aload_n C dX7_flight_0 rfl ?_
  refine gm_0_0 C q_751 dX7_flight_1 ?_
  refine x_const C dX7_flight_4 ?_
  refine lm_1 C (by omega) (by omega) dX7_flight_5 (show _ = r 4 from rfl) ?_
  have r_1 := MR.cal R
  refine x_const C dX7_flight_6 ?_
  refine x_icmp_ne 14 C dX7_flight_7 (by decide) ⟨by omega, by omega⟩ ⟨by omega, by omega⟩ (fun c_2 => ?_) (fun c_2 => ?_)
  · refine x_const C dX7_flight_14 ?_
    refine x_iload_n C dX7_flight_15 rfl ?_
    refine x_icmp_ne 22 C dX7_flight_16 (by decide) ⟨by omega, by omega⟩ ⟨by omega, by omega⟩ (fun c_3 => ?_) (fun c_3 => ?_)
    · refine x_aload_n C dX7_flight_22 rfl ?_
      refine x_callV (nA := 0) (As := []) (rest := []) C (m_X7_record hE (r := r) (md := md) k0) q_809 q_811 q_25 q_64 q_812 (by decide +kernel) (wl_m 0 (by decide)) rfl rfl (by decide) (by decide) (Nat.le_of_ble_eq_true rfl) dX7_flight_23 rfl ?_
      refine x_aload_n C dX7_flight_26 rfl ?_
      refine gm_0_0 C q_751 dX7_flight_27 ?_
      refine x_const C dX7_flight_30 ?_
      refine x_iload_n C dX7_flight_31 rfl ?_
      refine x_if_eq 39 C dX7_flight_32 (by decide) ⟨by omega, by omega⟩ (fun c_4 => ?_) (fun c_4 => ?_)
      · refine x_const C dX7_flight_39 ?_
        refine sm_1 C (by omega) (by omega) dX7_flight_40 upr_w ?_
        refine x_aload_n C dX7_flight_41 rfl ?_
        refine gm_0_0 C q_751 dX7_flight_42 ?_
        refine x_const C dX7_flight_45 ?_
        refine lm_1 C (by omega) (by omega) dX7_flight_46 (show (up1 r 4 0) 5 = r 5 from by rw [up1_ne (by omega)]) ?_
        exact x_iret C D rfl dX7_flight_47 (by rcases x0 with rfl | rfl <;> first | (exfalso; omega) | (unfold yFlight; rw [if_pos (by omega)]) | (unfold yFlight; rw [if_neg (by omega)])) rfl rfl (by rcases x0 with rfl | rfl <;> first | (exfalso; omega) | (unfold yFlight; rw [if_pos (by omega)]) | (unfold yFlight; rw [if_neg (by omega)]))
      · refine x_const C dX7_flight_35 ?_
        refine x_goto 40 C dX7_flight_36 (by decide) ?_
        refine sm_1 C (by omega) (by omega) dX7_flight_40 upr_w ?_
        refine x_aload_n C dX7_flight_41 rfl ?_
        refine gm_0_0 C q_751 dX7_flight_42 ?_
        refine x_const C dX7_flight_45 ?_
        refine lm_1 C (by omega) (by omega) dX7_flight_46 (show (up1 r 4 1) 5 = r 5 from by rw [up1_ne (by omega)]) ?_
        exact x_iret C D rfl dX7_flight_47 (by rcases x0 with rfl | rfl <;> first | (exfalso; omega) | (unfold yFlight; rw [if_pos (by omega)]) | (unfold yFlight; rw [if_neg (by omega)])) rfl rfl (by rcases x0 with rfl | rfl <;> first | (exfalso; omega) | (unfold yFlight; rw [if_pos (by omega)]) | (unfold yFlight; rw [if_neg (by omega)]))
    · refine x_ldc (n := (-1000005)) C q_821 dX7_flight_19 rfl ?_
      exact x_iret C D rfl dX7_flight_21 (by rcases x0 with rfl | rfl <;> first | (exfalso; omega) | (unfold yFlight; rw [if_pos (by omega)]) | (unfold yFlight; rw [if_neg (by omega)])) rfl rfl (by rcases x0 with rfl | rfl <;> first | (exfalso; omega) | (unfold yFlight; rw [if_pos (by omega)]) | (unfold yFlight; rw [if_neg (by omega)]))
  · refine x_const C dX7_flight_10 ?_
    refine x_goto 15 C dX7_flight_11 (by decide) ?_
    refine x_iload_n C dX7_flight_15 rfl ?_
    refine x_icmp_ne 22 C dX7_flight_16 (by decide) ⟨by omega, by omega⟩ ⟨by omega, by omega⟩ (fun c_5 => ?_) (fun c_5 => ?_)
    · refine x_aload_n C dX7_flight_22 rfl ?_
      refine x_callV (nA := 0) (As := []) (rest := []) C (m_X7_record hE (r := r) (md := md) k0) q_809 q_811 q_25 q_64 q_812 (by decide +kernel) (wl_m 0 (by decide)) rfl rfl (by decide) (by decide) (Nat.le_of_ble_eq_true rfl) dX7_flight_23 rfl ?_
      refine x_aload_n C dX7_flight_26 rfl ?_
      refine gm_0_0 C q_751 dX7_flight_27 ?_
      refine x_const C dX7_flight_30 ?_
      refine x_iload_n C dX7_flight_31 rfl ?_
      refine x_if_eq 39 C dX7_flight_32 (by decide) ⟨by omega, by omega⟩ (fun c_6 => ?_) (fun c_6 => ?_)
      · refine x_const C dX7_flight_39 ?_
        refine sm_1 C (by omega) (by omega) dX7_flight_40 upr_w ?_
        refine x_aload_n C dX7_flight_41 rfl ?_
        refine gm_0_0 C q_751 dX7_flight_42 ?_
        refine x_const C dX7_flight_45 ?_
        refine lm_1 C (by omega) (by omega) dX7_flight_46 (show (up1 r 4 0) 5 = r 5 from by rw [up1_ne (by omega)]) ?_
        exact x_iret C D rfl dX7_flight_47 (by rcases x0 with rfl | rfl <;> first | (exfalso; omega) | (unfold yFlight; rw [if_pos (by omega)]) | (unfold yFlight; rw [if_neg (by omega)])) rfl rfl (by rcases x0 with rfl | rfl <;> first | (exfalso; omega) | (unfold yFlight; rw [if_pos (by omega)]) | (unfold yFlight; rw [if_neg (by omega)]))
      · refine x_const C dX7_flight_35 ?_
        refine x_goto 40 C dX7_flight_36 (by decide) ?_
        refine sm_1 C (by omega) (by omega) dX7_flight_40 upr_w ?_
        refine x_aload_n C dX7_flight_41 rfl ?_
        refine gm_0_0 C q_751 dX7_flight_42 ?_
        refine x_const C dX7_flight_45 ?_
        refine lm_1 C (by omega) (by omega) dX7_flight_46 (show (up1 r 4 1) 5 = r 5 from by rw [up1_ne (by omega)]) ?_
        exact x_iret C D rfl dX7_flight_47 (by rcases x0 with rfl | rfl <;> first | (exfalso; omega) | (unfold yFlight; rw [if_pos (by omega)]) | (unfold yFlight; rw [if_neg (by omega)])) rfl rfl (by rcases x0 with rfl | rfl <;> first | (exfalso; omega) | (unfold yFlight; rw [if_pos (by omega)]) | (unfold yFlight; rw [if_neg (by omega)]))
    · refine x_ldc (n := (-1000005)) C q_821 dX7_flight_19 rfl ?_
      exact x_iret C D rfl dX7_flight_21 (by rcases x0 with rfl | rfl <;> first | (exfalso; omega) | (unfold yFlight; rw [if_pos (by omega)]) | (unfold yFlight; rw [if_neg (by omega)])) rfl rfl (by rcases x0 with rfl | rfl <;> first | (exfalso; omega) | (unfold yFlight; rw [if_pos (by omega)]) | (unfold yFlight; rw [if_neg (by omega)]))
set_option maxRecDepth 100000 in
set_option maxHeartbeats 4000000 in
theorem m_X7_pass {hs : Nat → HV} {tp md : HV} {E : HE} (hE : HI E) {r : Int → Int} {K : Int} (R : MR K r) (k0 : 0 ≤ md 0 6 ∧ md 0 6 ≤ 4) {n : Int} (n0 : IR n) (hK : K ≤ 700000) : Mt yX7_pass cX7_pass 3 (some .int) 6 E [.ref (mA E 0), vI n] hs tp (upr md 1 r) (some (vI ((yPass md r n).1))) hs tp ((yPass md r n).2) := by
  refine mk_Mt hE (plainFor_of_name (by decide)) (Nat.le_of_ble_eq_true rfl) (by intro w0 hw0; simp only [List.mem_cons, List.not_mem_nil, or_false] at hw0; rcases hw0 with rfl | rfl <;> rfl) (rfl : _ = [_, _, _]) ?_
  intro F C D
  have rd0 := MR.day R
  refine x_iload_n C dX7_pass_0 rfl ?_
  refine x_const C dX7_pass_1 ?_
  refine x_bipush C dX7_pass_2 (by decide) ?_
  refine x_callS (nA := 3) (As := [vI n, vI 1, vI 30]) (rest := []) C (m_X7_in hE (v := n) (l := 1) (m := 30) ⟨by omega, by omega⟩ ⟨by omega, by omega⟩ ⟨by omega, by omega⟩) q_787 q_788 q_64 q_789 (by decide +kernel) rfl (by decide) (by decide) (Nat.le_of_ble_eq_true rfl) dX7_pass_4 rfl ?_
  refine x_bz_ne 13 C dX7_pass_7 (by decide) (fun c_1 => ?_) (fun c_1 => ?_)
  · refine x_aload_n C dX7_pass_13 rfl ?_
    refine gm_0_0 C q_751 dX7_pass_14 ?_
    refine x_const C dX7_pass_17 ?_
    refine lm_1 C (by omega) (by omega) dX7_pass_18 (show _ = r 0 from rfl) ?_
    have r_2 := MR.day R
    refine x_iload_n C dX7_pass_19 rfl ?_
    refine x_iadd C dX7_pass_20 ?_
    refine x_sipush C dX7_pass_21 (by decide) ?_
    refine x_icmp_le 30 C dX7_pass_24 (by decide) ⟨by omega, by omega⟩ ⟨by omega, by omega⟩ (fun c_3 => ?_) (fun c_3 => ?_)
    · refine x_aload_n C dX7_pass_30 rfl ?_
      refine x_callV (nA := 0) (As := []) (rest := []) C (m_X7_record hE (r := r) (md := md) k0) q_809 q_811 q_25 q_64 q_812 (by decide +kernel) (wl_m 0 (by decide)) rfl rfl (by decide) (by decide) (Nat.le_of_ble_eq_true rfl) dX7_pass_31 rfl ?_
      refine x_const C dX7_pass_34 ?_
      refine x_istore_n C dX7_pass_35 (by decide) (rfl : _ = [_, _, _]) ?_
      have K36 : ∀ (nn : Nat) (i : Int), 0 ≤ i → i ≤ n → 40 - i < nn →  G F E hs tp (upr (mRec md r) 1 (mPasI r i)) 36 [some (.ref (mA E 0)), some (vI n), some (vI i)] [] := by
        intro nn
        induction nn with
        | zero => intro i i0 i1 hz; exact absurd hz (by omega)
        | succ nn ih =>
          intro i i0 i1 hz
          have rp := MR_pasI R (n := i) i0 (by omega)
          have rp0 := rp.2.1
          refine x_iload_n C dX7_pass_36 rfl ?_
          refine x_iload_n C dX7_pass_37 rfl ?_
          refine x_icmp_ge 51 C dX7_pass_38 (by decide) ⟨by omega, by omega⟩ ⟨by omega, by omega⟩ (fun c_4 => ?_) (fun c_4 => ?_)
          · refine x_aload_n C dX7_pass_51 rfl ?_
            refine gm_0_0 C q_751 dX7_pass_52 ?_
            refine x_const C dX7_pass_55 ?_
            refine lm_1 C (by omega) (by omega) dX7_pass_56 (show _ = (mPasI r i) 0 from rfl) ?_
            have r_5 := MR.day rp.1
            exact x_iret C D rfl dX7_pass_57 (by unfold yPass; rw [if_neg (by omega), if_neg (by omega)]; rw [show i = n by omega]) rfl rfl (by unfold yPass; rw [if_neg (by omega), if_neg (by omega)]; rw [show i = n by omega])
          · refine x_aload_n C dX7_pass_41 rfl ?_
            refine x_callV (nA := 0) (As := []) (rest := []) C (m_X7_passDay hE (r := (mPasI r i)) rp.1 (by omega) (by omega)) q_904 q_906 q_39 q_64 q_907 (by decide +kernel) (wl_m 0 (by decide)) rfl rfl (by decide) (by decide) (Nat.le_of_ble_eq_true rfl) dX7_pass_42 rfl ?_
            refine x_iinc C dX7_pass_45 rfl (by decide) (rfl : _ = [_, _, _]) ?_
            refine x_goto 36 C dX7_pass_48 (by decide) ?_
            refine G.of (G.wk (ih (i + 1) (by omega) (by omega) (by omega)) ?_) rfl rfl ?_ rfl
            · simp only [leL, and_self]
            · rw [mPasI_s i0]
      exact K36 41 0 (by omega) (by omega) (by omega)
    · refine x_ldc (n := (-1000003)) C q_808 dX7_pass_27 rfl ?_
      exact x_iret C D rfl dX7_pass_29 (by unfold yPass; (repeat (first | rw [if_pos (by first | omega | assumption | exact not_not_intro (by assumption))] | rw [if_neg (by first | omega | assumption | exact not_not_intro (by assumption))])); all_goals rfl) rfl rfl (by unfold yPass; (repeat (first | rw [if_pos (by first | omega | assumption | exact not_not_intro (by assumption))] | rw [if_neg (by first | omega | assumption | exact not_not_intro (by assumption))])); all_goals rfl)
  · refine x_ldc (n := (-1000002)) C q_790 dX7_pass_10 rfl ?_
    exact x_iret C D rfl dX7_pass_12 (by unfold yPass; (repeat (first | rw [if_pos (by first | omega | assumption | exact not_not_intro (by assumption))] | rw [if_neg (by first | omega | assumption | exact not_not_intro (by assumption))])); all_goals rfl) rfl rfl (by unfold yPass; (repeat (first | rw [if_pos (by first | omega | assumption | exact not_not_intro (by assumption))] | rw [if_neg (by first | omega | assumption | exact not_not_intro (by assumption))])); all_goals rfl)
