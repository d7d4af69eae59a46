set_option maxRecDepth 100000 in
set_option maxHeartbeats 4000000 in
theorem m_X6_booking {hs : Nat → HV} {tp md : HV} {E : HE} (hE : HI E) {K : Int} (R : RG K (hs 0)) {b w : Int} (b0 : IR b) (w0 : IR w) : Mt yX6_booking cX6_booking 4 (some .int) 4 E [.ref (tA E 0), vI b, vI w] hs tp md (some (vI (xBooking (hs 0) b w))) hs tp md := by
  refine mk_Mt hE (plainFor_of_name (by decide)) (Nat.le_of_ble_eq_true rfl) (by intro w0 hw0; simp only [List.mem_cons, List.not_mem_nil, or_false] at hw0; rcases hw0 with rfl | rfl | rfl <;> rfl) (rfl : _ = [_, _, _, _]) ?_
  intro F C D
  have rm := RG.made R
  refine x_aload_n C dX6_booking_0 rfl ?_
  refine gt_0_0 C q_232 dX6_booking_1 ?_
  refine gh_0_2 C (by decide) (rfl : hs 0 = hs 0) q_135 dX6_booking_4 ?_
  refine x_astore_n C dX6_booking_7 (by decide) (rfl : _ = [_, _, _, _]) ?_
  refine x_aload_n C dX6_booking_8 rfl ?_
  refine x_iload_n C dX6_booking_9 rfl ?_
  refine x_callV (nA := 1) (As := [vI b]) (rest := []) C (m_X1_knows hE (by decide) (rfl : hs 0 = hs 0) R ⟨by omega, by omega⟩) q_333 q_334 q_335 q_24 q_336 (by decide +kernel) (wl_h (by decide) (rfl : hs 0 = hs 0) 3 (by decide)) rfl rfl (by decide) (by decide) (Nat.le_of_ble_eq_true rfl) dX6_booking_10 rfl ?_
  refine x_bz_ne 19 C dX6_booking_13 (by decide) (fun c_1 => ?_) (fun c_1 => ?_)
  · refine x_iload_n C dX6_booking_19 rfl ?_
    by_cases v_2 : w = 0
    · subst v_2
      refine x_tabIn 72 C dX6_booking_20 ⟨by omega, by omega⟩ (by omega) (by omega) (show _ = some (52 : Int) from rfl) (by decide) ?_
      refine x_aload_n C dX6_booking_72 rfl ?_
      refine gh_3_0 C (by decide) (rfl : hs 0 = hs 0) q_58 dX6_booking_73 ?_
      refine x_iload_n C dX6_booking_76 rfl ?_
      refine lh_4 C (by decide) (rfl : hs 0 = hs 0) (by omega) (by omega) dX6_booking_77 rfl ?_
      have r_3 := RG.how R (b := b) (by omega) (by omega)
      exact x_iret C D rfl dX6_booking_78 (by unfold xBooking; (repeat (first | rw [if_pos (by first | omega | assumption | exact not_not_intro (by assumption))] | rw [if_neg (by first | omega | assumption | exact not_not_intro (by assumption))])); all_goals rfl) rfl rfl rfl
    by_cases v_4 : w = 1
    · subst v_4
      refine x_tabIn 79 C dX6_booking_20 ⟨by omega, by omega⟩ (by omega) (by omega) (show _ = some (59 : Int) from rfl) (by decide) ?_
      refine x_aload_n C dX6_booking_79 rfl ?_
      refine gh_3_1 C (by decide) (rfl : hs 0 = hs 0) q_61 dX6_booking_80 ?_
      refine x_iload_n C dX6_booking_83 rfl ?_
      refine lh_5 C (by decide) (rfl : hs 0 = hs 0) (by omega) (by omega) dX6_booking_84 rfl ?_
      have r_5 := RG.arr R (b := b) (by omega) (by omega)
      exact x_iret C D rfl dX6_booking_85 (by unfold xBooking; (repeat (first | rw [if_pos (by first | omega | assumption | exact not_not_intro (by assumption))] | rw [if_neg (by first | omega | assumption | exact not_not_intro (by assumption))])); all_goals rfl) rfl rfl rfl
    by_cases v_6 : w = 2
    · subst v_6
      refine x_tabIn 86 C dX6_booking_20 ⟨by omega, by omega⟩ (by omega) (by omega) (show _ = some (66 : Int) from rfl) (by decide) ?_
      refine x_aload_n C dX6_booking_86 rfl ?_
      refine gh_3_2 C (by decide) (rfl : hs 0 = hs 0) q_63 dX6_booking_87 ?_
      refine x_iload_n C dX6_booking_90 rfl ?_
      refine lh_6 C (by decide) (rfl : hs 0 = hs 0) (by omega) (by omega) dX6_booking_91 rfl ?_
      have r_7 := RG.nig R (b := b) (by omega) (by omega)
      exact x_iret C D rfl dX6_booking_92 (by unfold xBooking; (repeat (first | rw [if_pos (by first | omega | assumption | exact not_not_intro (by assumption))] | rw [if_neg (by first | omega | assumption | exact not_not_intro (by assumption))])); all_goals rfl) rfl rfl rfl
    by_cases v_8 : w = 3
    · subst v_8
      refine x_tabIn 93 C dX6_booking_20 ⟨by omega, by omega⟩ (by omega) (by omega) (show _ = some (73 : Int) from rfl) (by decide) ?_
      refine x_aload_n C dX6_booking_93 rfl ?_
      refine gh_3_3 C (by decide) (rfl : hs 0 = hs 0) q_67 dX6_booking_94 ?_
      refine x_iload_n C dX6_booking_97 rfl ?_
      refine lh_7 C (by decide) (rfl : hs 0 = hs 0) (by omega) (by omega) dX6_booking_98 rfl ?_
      have r_9 := RG.per R (b := b) (by omega) (by omega)
      exact x_iret C D rfl dX6_booking_99 (by unfold xBooking; (repeat (first | rw [if_pos (by first | omega | assumption | exact not_not_intro (by assumption))] | rw [if_neg (by first | omega | assumption | exact not_not_intro (by assumption))])); all_goals rfl) rfl rfl rfl
    by_cases v_10 : w = 4
    · subst v_10
      refine x_tabIn 100 C dX6_booking_20 ⟨by omega, by omega⟩ (by omega) (by omega) (show _ = some (80 : Int) from rfl) (by decide) ?_
      refine x_aload_n C dX6_booking_100 rfl ?_
      refine x_iload_n C dX6_booking_101 rfl ?_
      refine x_callV (nA := 1) (As := [vI b]) (rest := []) C (m_X1_end hE (by decide) (rfl : hs 0 = hs 0) (by omega) (by omega)) q_338 q_339 q_340 q_24 q_341 (by decide +kernel) (wl_h (by decide) (rfl : hs 0 = hs 0) 3 (by decide)) rfl rfl (by decide) (by decide) (Nat.le_of_ble_eq_true rfl) dX6_booking_102 rfl ?_
      exact x_iret C D rfl dX6_booking_105 (by unfold xBooking; (repeat (first | rw [if_pos (by first | omega | assumption | exact not_not_intro (by assumption))] | rw [if_neg (by first | omega | assumption | exact not_not_intro (by assumption))])); all_goals rfl) rfl rfl rfl
    by_cases v_11 : w = 5
    · subst v_11
      refine x_tabIn 106 C dX6_booking_20 ⟨by omega, by omega⟩ (by omega) (by omega) (show _ = some (86 : Int) from rfl) (by decide) ?_
      refine x_aload_n C dX6_booking_106 rfl ?_
      refine gh_3_4 C (by decide) (rfl : hs 0 = hs 0) q_69 dX6_booking_107 ?_
      refine x_iload_n C dX6_booking_110 rfl ?_
      refine lh_8 C (by decide) (rfl : hs 0 = hs 0) (by omega) (by omega) dX6_booking_111 rfl ?_
      exact x_iret C D rfl dX6_booking_112 (by unfold xBooking; (repeat (first | rw [if_pos (by first | omega | assumption | exact not_not_intro (by assumption))] | rw [if_neg (by first | omega | assumption | exact not_not_intro (by assumption))])); all_goals rfl) rfl rfl rfl
    by_cases v_12 : w = 6
    · subst v_12
      refine x_tabIn 113 C dX6_booking_20 ⟨by omega, by omega⟩ (by omega) (by omega) (show _ = some (93 : Int) from rfl) (by decide) ?_
      refine x_aload_n C dX6_booking_113 rfl ?_
      refine gt_0_0 C q_232 dX6_booking_114 ?_
      refine x_iload_n C dX6_booking_117 rfl ?_
      refine x_callV (nA := 1) (As := [vI b]) (rest := []) C (m_X3_isStrandedNow hE (by decide) (rfl : hs 0 = hs 0) R (by omega) (by omega)) q_342 q_343 q_344 q_22 q_345 (by decide +kernel) (wl_h (by decide) (rfl : hs 0 = hs 0) 0 (by decide)) rfl rfl (by decide) (by decide) (Nat.le_of_ble_eq_true rfl) dX6_booking_118 rfl ?_
      refine x_bz_eq 128 C dX6_booking_121 (by decide) (fun c_13 => ?_) (fun c_13 => ?_)
      · refine x_const C dX6_booking_128 ?_
        exact x_iret C D rfl dX6_booking_129 (by unfold xBooking; (repeat (first | rw [if_pos (by first | omega | assumption | exact not_not_intro (by assumption))] | rw [if_neg (by first | omega | assumption | exact not_not_intro (by assumption))])); all_goals rfl) rfl rfl rfl
      · refine x_const C dX6_booking_124 ?_
        refine x_goto 129 C dX6_booking_125 (by decide) ?_
        exact x_iret C D rfl dX6_booking_129 (by unfold xBooking; (repeat (first | rw [if_pos (by first | omega | assumption | exact not_not_intro (by assumption))] | rw [if_neg (by first | omega | assumption | exact not_not_intro (by assumption))])); all_goals rfl) rfl rfl rfl
    by_cases v_14 : w = 7
    · subst v_14
      refine x_tabIn 130 C dX6_booking_20 ⟨by omega, by omega⟩ (by omega) (by omega) (show _ = some (110 : Int) from rfl) (by decide) ?_
      refine x_aload_n C dX6_booking_130 rfl ?_
      refine gh_3_5 C (by decide) (rfl : hs 0 = hs 0) q_73 dX6_booking_131 ?_
      refine x_iload_n C dX6_booking_134 rfl ?_
      refine lh_9 C (by decide) (rfl : hs 0 = hs 0) (by omega) (by omega) dX6_booking_135 rfl ?_
      exact x_iret C D rfl dX6_booking_136 (by unfold xBooking; (repeat (first | rw [if_pos (by first | omega | assumption | exact not_not_intro (by assumption))] | rw [if_neg (by first | omega | assumption | exact not_not_intro (by assumption))])); all_goals rfl) rfl rfl rfl
    by_cases v_15 : w = 8
    · subst v_15
      refine x_tabIn 137 C dX6_booking_20 ⟨by omega, by omega⟩ (by omega) (by omega) (show _ = some (117 : Int) from rfl) (by decide) ?_
      refine x_aload_n C dX6_booking_137 rfl ?_
      refine gh_3_6 C (by decide) (rfl : hs 0 = hs 0) q_75 dX6_booking_138 ?_
      refine x_iload_n C dX6_booking_141 rfl ?_
      refine lh_10 C (by decide) (rfl : hs 0 = hs 0) (by omega) (by omega) dX6_booking_142 rfl ?_
      have r_16 := RG.cam R (b := b) (by omega) (by omega)
      refine x_const C dX6_booking_143 ?_
      refine x_icmp_ne 152 C dX6_booking_144 (by decide) ⟨by omega, by omega⟩ ⟨by omega, by omega⟩ (fun c_17 => ?_) (fun c_17 => ?_)
      · refine x_aload_n C dX6_booking_152 rfl ?_
        refine gh_3_6 C (by decide) (rfl : hs 0 = hs 0) q_75 dX6_booking_153 ?_
        refine x_iload_n C dX6_booking_156 rfl ?_
        refine lh_10 C (by decide) (rfl : hs 0 = hs 0) (by omega) (by omega) dX6_booking_157 rfl ?_
        have r_18 := RG.cam R (b := b) (by omega) (by omega)
        exact x_iret C D rfl dX6_booking_158 (by unfold xBooking; (repeat (first | rw [if_pos (by first | omega | assumption | exact not_not_intro (by assumption))] | rw [if_neg (by first | omega | assumption | exact not_not_intro (by assumption))])); all_goals rfl) rfl rfl rfl
      · refine x_ldc (n := (-1000005)) C q_258 dX6_booking_147 rfl ?_
        refine x_goto 158 C dX6_booking_149 (by decide) ?_
        exact x_iret C D rfl dX6_booking_158 (by unfold xBooking; (repeat (first | rw [if_pos (by first | omega | assumption | exact not_not_intro (by assumption))] | rw [if_neg (by first | omega | assumption | exact not_not_intro (by assumption))])); all_goals rfl) rfl rfl rfl
    refine x_tabOut 159 C dX6_booking_20 ⟨by omega, by omega⟩ (by omega) (by decide) ?_
    refine x_ldc (n := (-1000002)) C q_305 dX6_booking_159 rfl ?_
    exact x_iret C D rfl dX6_booking_161 (by unfold xBooking; (repeat (first | rw [if_pos (by first | omega | assumption | exact not_not_intro (by assumption))] | rw [if_neg (by first | omega | assumption | exact not_not_intro (by assumption))])); all_goals rfl) rfl rfl rfl
  · refine x_ldc (n := (-1000001)) C q_337 dX6_booking_16 rfl ?_
    exact x_iret C D rfl dX6_booking_18 (by unfold xBooking; (repeat (first | rw [if_pos (by first | omega | assumption | exact not_not_intro (by assumption))] | rw [if_neg (by first | omega | assumption | exact not_not_intro (by assumption))])); all_goals rfl) rfl rfl rfl
set_option maxRecDepth 100000 in
set_option maxHeartbeats 4000000 in
theorem m_X6_day {hs : Nat → HV} {tp md : HV} {E : HE} (hE : HI E) {K : Int} (R : RG K (hs 0)) {d w : Int} (d0 : IR d) (w0 : IR w) : Mt yX6_day cX6_day 3 (some .int) 4 E [.ref (tA E 0), vI d, vI w] hs tp md (some (vI (xDay (hs 0) d w))) hs tp md := by
  refine mk_Mt hE (plainFor_of_name (by decide)) (Nat.le_of_ble_eq_true rfl) (by intro w0 hw0; simp only [List.mem_cons, List.not_mem_nil, or_false] at hw0; rcases hw0 with rfl | rfl | rfl <;> rfl) (rfl : _ = [_, _, _]) ?_
  intro F C D
  refine x_iload_n C dX6_day_0 rfl ?_
  refine x_if_lt 11 C dX6_day_1 (by decide) ⟨by omega, by omega⟩ (fun c_1 => ?_) (fun c_1 => ?_)
  · refine x_ldc (n := (-1000002)) C q_305 dX6_day_11 rfl ?_
    exact x_iret C D rfl dX6_day_13 (by unfold xDay; (repeat (first | rw [if_pos (by first | omega | assumption | exact not_not_intro (by assumption))] | rw [if_neg (by first | omega | assumption | exact not_not_intro (by assumption))])); all_goals rfl) rfl rfl rfl
  · refine x_iload_n C dX6_day_4 rfl ?_
    refine x_sipush C dX6_day_5 (by decide) ?_
    refine x_icmp_le 14 C dX6_day_8 (by decide) ⟨by omega, by omega⟩ ⟨by omega, by omega⟩ (fun c_2 => ?_) (fun c_2 => ?_)
    · refine x_iload_n C dX6_day_14 rfl ?_
      by_cases v_3 : w = 0
      · subst v_3
        refine x_tabIn 48 C dX6_day_15 ⟨by omega, by omega⟩ (by omega) (by omega) (show _ = some (33 : Int) from rfl) (by decide) ?_
        refine x_aload_n C dX6_day_48 rfl ?_
        refine gt_0_0 C q_232 dX6_day_49 ?_
        refine gh_0_2 C (by decide) (rfl : hs 0 = hs 0) q_135 dX6_day_52 ?_
        refine x_iload_n C dX6_day_55 rfl ?_
        refine x_callV (nA := 1) (As := [vI d]) (rest := []) C (m_X1_bedsTakenIn hE (by decide) (rfl : hs 0 = hs 0) R ⟨by omega, by omega⟩) q_387 q_388 q_389 q_24 q_390 (by decide +kernel) (wl_h (by decide) (rfl : hs 0 = hs 0) 3 (by decide)) rfl rfl (by decide) (by decide) (Nat.le_of_ble_eq_true rfl) dX6_day_56 rfl ?_
        exact x_iret C D rfl dX6_day_59 (by unfold xDay; (repeat (first | rw [if_pos (by first | omega | assumption | exact not_not_intro (by assumption))] | rw [if_neg (by first | omega | assumption | exact not_not_intro (by assumption))])); all_goals rfl) rfl rfl rfl
      by_cases v_4 : w = 1
      · subst v_4
        refine x_tabIn 60 C dX6_day_15 ⟨by omega, by omega⟩ (by omega) (by omega) (show _ = some (45 : Int) from rfl) (by decide) ?_
        refine x_aload_n C dX6_day_60 rfl ?_
        refine gt_0_0 C q_232 dX6_day_61 ?_
        refine gh_0_0 C (by decide) (rfl : hs 0 = hs 0) q_132 dX6_day_64 ?_
        refine x_const C dX6_day_67 ?_
        refine lh_1 C (by decide) (rfl : hs 0 = hs 0) (by omega) (by omega) dX6_day_68 rfl ?_
        have r_5 := RG.set' R (i := 0) (by omega) (by omega)
        refine x_aload_n C dX6_day_69 rfl ?_
        refine gt_0_0 C q_232 dX6_day_70 ?_
        refine gh_0_2 C (by decide) (rfl : hs 0 = hs 0) q_135 dX6_day_73 ?_
        refine x_iload_n C dX6_day_76 rfl ?_
        refine x_callV (nA := 1) (As := [vI d]) (rest := [vI ((hs 0) 1 0)]) C (m_X1_bedsTakenIn hE (by decide) (rfl : hs 0 = hs 0) R ⟨by omega, by omega⟩) q_387 q_388 q_389 q_24 q_390 (by decide +kernel) (wl_h (by decide) (rfl : hs 0 = hs 0) 3 (by decide)) rfl rfl (by decide) (by decide) (Nat.le_of_ble_eq_true rfl) dX6_day_77 rfl ?_
        refine x_isub C dX6_day_80 ?_
        exact x_iret C D rfl dX6_day_81 (by unfold xDay; (repeat (first | rw [if_pos (by first | omega | assumption | exact not_not_intro (by assumption))] | rw [if_neg (by first | omega | assumption | exact not_not_intro (by assumption))])); all_goals rfl) rfl rfl rfl
      by_cases v_6 : w = 2
      · subst v_6
        refine x_tabIn 82 C dX6_day_15 ⟨by omega, by omega⟩ (by omega) (by omega) (show _ = some (67 : Int) from rfl) (by decide) ?_
        refine x_aload_n C dX6_day_82 rfl ?_
        refine gt_0_0 C q_232 dX6_day_83 ?_
        refine x_iload_n C dX6_day_86 rfl ?_
        refine x_callV (nA := 1) (As := [vI d]) (rest := []) C (m_X3_weatherOf hE (by decide) (rfl : hs 0 = hs 0) R ⟨by omega, by omega⟩) q_399 q_356 q_357 q_22 q_358 (by decide +kernel) (wl_h (by decide) (rfl : hs 0 = hs 0) 0 (by decide)) rfl rfl (by decide) (by decide) (Nat.le_of_ble_eq_true rfl) dX6_day_87 rfl ?_
        have hw := wOf_r R d
        exact x_iret C D rfl dX6_day_90 (by unfold xDay; (repeat (first | rw [if_pos (by first | omega | assumption | exact not_not_intro (by assumption))] | rw [if_neg (by first | omega | assumption | exact not_not_intro (by assumption))])); all_goals rfl) rfl rfl rfl
      by_cases v_7 : w = 3
      · subst v_7
        refine x_tabIn 91 C dX6_day_15 ⟨by omega, by omega⟩ (by omega) (by omega) (show _ = some (76 : Int) from rfl) (by decide) ?_
        refine x_aload_n C dX6_day_91 rfl ?_
        refine gt_0_0 C q_232 dX6_day_92 ?_
        refine gh_0_2 C (by decide) (rfl : hs 0 = hs 0) q_135 dX6_day_95 ?_
        refine x_iload_n C dX6_day_98 rfl ?_
        refine x_callV (nA := 1) (As := [vI d]) (rest := []) C (m_X1_arrivingOn hE (by decide) (rfl : hs 0 = hs 0) R ⟨by omega, by omega⟩) q_400 q_401 q_402 q_24 q_403 (by decide +kernel) (wl_h (by decide) (rfl : hs 0 = hs 0) 3 (by decide)) rfl rfl (by decide) (by decide) (Nat.le_of_ble_eq_true rfl) dX6_day_99 rfl ?_
        exact x_iret C D rfl dX6_day_102 (by unfold xDay; (repeat (first | rw [if_pos (by first | omega | assumption | exact not_not_intro (by assumption))] | rw [if_neg (by first | omega | assumption | exact not_not_intro (by assumption))])); all_goals rfl) rfl rfl rfl
      by_cases v_8 : w = 4
      · subst v_8
        refine x_tabIn 103 C dX6_day_15 ⟨by omega, by omega⟩ (by omega) (by omega) (show _ = some (88 : Int) from rfl) (by decide) ?_
        refine x_aload_n C dX6_day_103 rfl ?_
        refine gt_0_0 C q_232 dX6_day_104 ?_
        refine gh_0_2 C (by decide) (rfl : hs 0 = hs 0) q_135 dX6_day_107 ?_
        refine x_iload_n C dX6_day_110 rfl ?_
        refine x_callV (nA := 1) (As := [vI d]) (rest := []) C (m_X1_endingOn hE (by decide) (rfl : hs 0 = hs 0) R ⟨by omega, by omega⟩) q_404 q_405 q_406 q_24 q_407 (by decide +kernel) (wl_h (by decide) (rfl : hs 0 = hs 0) 3 (by decide)) rfl rfl (by decide) (by decide) (Nat.le_of_ble_eq_true rfl) dX6_day_111 rfl ?_
        exact x_iret C D rfl dX6_day_114 (by unfold xDay; (repeat (first | rw [if_pos (by first | omega | assumption | exact not_not_intro (by assumption))] | rw [if_neg (by first | omega | assumption | exact not_not_intro (by assumption))])); all_goals rfl) rfl rfl rfl
      refine x_tabOut 115 C dX6_day_15 ⟨by omega, by omega⟩ (by omega) (by decide) ?_
      refine x_ldc (n := (-1000002)) C q_305 dX6_day_115 rfl ?_
      exact x_iret C D rfl dX6_day_117 (by unfold xDay; (repeat (first | rw [if_pos (by first | omega | assumption | exact not_not_intro (by assumption))] | rw [if_neg (by first | omega | assumption | exact not_not_intro (by assumption))])); all_goals rfl) rfl rfl rfl
    · refine x_ldc (n := (-1000002)) C q_305 dX6_day_11 rfl ?_
      exact x_iret C D rfl dX6_day_13 (by unfold xDay; (repeat (first | rw [if_pos (by first | omega | assumption | exact not_not_intro (by assumption))] | rw [if_neg (by first | omega | assumption | exact not_not_intro (by assumption))])); all_goals rfl) rfl rfl rfl
set_option maxRecDepth 100000 in
set_option maxHeartbeats 4000000 in
theorem m_X6_count {hs : Nat → HV} {tp md : HV} {E : HE} (hE : HI E) {K : Int} (R : RG K (hs 0)) {w : Int} (w0 : IR w) : Mt yX6_count cX6_count 2 (some .int) 2 E [.ref (tA E 0), vI w] hs tp md (some (vI (xCount (hs 0) tp w))) hs tp md := by
  refine mk_Mt hE (plainFor_of_name (by decide)) (Nat.le_of_ble_eq_true rfl) (by intro w0 hw0; simp only [List.mem_cons, List.not_mem_nil, or_false] at hw0; rcases hw0 with rfl | rfl <;> rfl) (rfl : _ = [_, _]) ?_
  intro F C D
  have rth := nThere_r R
  have rz := set_50 R
  have rcl := RG.cal R
  refine x_iload_n C dX6_count_0 rfl ?_
  refine x_bipush C dX6_count_1 (by decide) ?_
  refine x_icmp_lt 25 C dX6_count_3 (by decide) ⟨by omega, by omega⟩ ⟨by omega, by omega⟩ (fun c_1 => ?_) (fun c_1 => ?_)
  · refine x_iload_n C dX6_count_25 rfl ?_
    refine x_bipush C dX6_count_26 (by decide) ?_
    refine x_icmp_lt 50 C dX6_count_28 (by decide) ⟨by omega, by omega⟩ ⟨by omega, by omega⟩ (fun c_2 => ?_) (fun c_2 => ?_)
    · refine x_iload_n C dX6_count_50 rfl ?_
      by_cases v_3 : w = 0
      · subst v_3
        refine x_tabIn 164 C dX6_count_51 ⟨by omega, by omega⟩ (by omega) (by omega) (show _ = some (113 : Int) from rfl) (by decide) ?_
        refine x_aload_n C dX6_count_164 rfl ?_
        refine gt_0_0 C q_232 dX6_count_165 ?_
        refine gh_0_6 C (by decide) (rfl : hs 0 = hs 0) q_143 dX6_count_168 rfl ?_
        have r_4 := RG.day R
        exact x_iret C D rfl dX6_count_171 (by first | omega | (unfold xCount; (repeat (first | rw [if_pos (by first | omega | assumption | exact not_not_intro (by assumption))] | rw [if_neg (by first | omega | assumption | exact not_not_intro (by assumption))])); all_goals rfl)) rfl rfl rfl
      by_cases v_5 : w = 1
      · subst v_5
        refine x_tabIn 172 C dX6_count_51 ⟨by omega, by omega⟩ (by omega) (by omega) (show _ = some (121 : Int) from rfl) (by decide) ?_
        refine x_aload_n C dX6_count_172 rfl ?_
        refine gt_0_0 C q_232 dX6_count_173 ?_
        refine gh_0_2 C (by decide) (rfl : hs 0 = hs 0) q_135 dX6_count_176 ?_
        refine gh_3_7 C (by decide) (rfl : hs 0 = hs 0) q_79 dX6_count_179 rfl ?_
        have r_6 := RG.made R
        exact x_iret C D rfl dX6_count_182 (by first | omega | (unfold xCount; (repeat (first | rw [if_pos (by first | omega | assumption | exact not_not_intro (by assumption))] | rw [if_neg (by first | omega | assumption | exact not_not_intro (by assumption))])); all_goals rfl)) rfl rfl rfl
      by_cases v_7 : w = 2
      · subst v_7
        refine x_tabIn 183 C dX6_count_51 ⟨by omega, by omega⟩ (by omega) (by omega) (show _ = some (132 : Int) from rfl) (by decide) ?_
        refine x_aload_n C dX6_count_183 rfl ?_
        refine gt_0_0 C q_232 dX6_count_184 ?_
        refine gh_0_2 C (by decide) (rfl : hs 0 = hs 0) q_135 dX6_count_187 ?_
        refine x_const C dX6_count_190 ?_
        refine x_callV (nA := 1) (As := [vI 0]) (rest := []) C (m_X1_howMany hE (by decide) (rfl : hs 0 = hs 0) R ⟨by omega, by omega⟩) q_286 q_287 q_288 q_24 q_289 (by decide +kernel) (wl_h (by decide) (rfl : hs 0 = hs 0) 3 (by decide)) rfl rfl (by decide) (by decide) (Nat.le_of_ble_eq_true rfl) dX6_count_191 rfl ?_
        exact x_iret C D rfl dX6_count_194 (by first | omega | (unfold xCount; (repeat (first | rw [if_pos (by first | omega | assumption | exact not_not_intro (by assumption))] | rw [if_neg (by first | omega | assumption | exact not_not_intro (by assumption))])); all_goals rfl)) rfl rfl rfl
      by_cases v_8 : w = 3
      · subst v_8
        refine x_tabIn 195 C dX6_count_51 ⟨by omega, by omega⟩ (by omega) (by omega) (show _ = some (144 : Int) from rfl) (by decide) ?_
        refine x_aload_n C dX6_count_195 rfl ?_
        refine gt_0_0 C q_232 dX6_count_196 ?_
        refine gh_0_2 C (by decide) (rfl : hs 0 = hs 0) q_135 dX6_count_199 ?_
        refine x_const C dX6_count_202 ?_
        refine x_callV (nA := 1) (As := [vI 1]) (rest := []) C (m_X1_howMany hE (by decide) (rfl : hs 0 = hs 0) R ⟨by omega, by omega⟩) q_286 q_287 q_288 q_24 q_289 (by decide +kernel) (wl_h (by decide) (rfl : hs 0 = hs 0) 3 (by decide)) rfl rfl (by decide) (by decide) (Nat.le_of_ble_eq_true rfl) dX6_count_203 rfl ?_
        exact x_iret C D rfl dX6_count_206 (by first | omega | (unfold xCount; (repeat (first | rw [if_pos (by first | omega | assumption | exact not_not_intro (by assumption))] | rw [if_neg (by first | omega | assumption | exact not_not_intro (by assumption))])); all_goals rfl)) rfl rfl rfl
      by_cases v_9 : w = 4
      · subst v_9
        refine x_tabIn 207 C dX6_count_51 ⟨by omega, by omega⟩ (by omega) (by omega) (show _ = some (156 : Int) from rfl) (by decide) ?_
        refine x_aload_n C dX6_count_207 rfl ?_
        refine gt_0_0 C q_232 dX6_count_208 ?_
        refine gh_0_2 C (by decide) (rfl : hs 0 = hs 0) q_135 dX6_count_211 ?_
        refine x_const C dX6_count_214 ?_
        refine x_callV (nA := 1) (As := [vI 2]) (rest := []) C (m_X1_howMany hE (by decide) (rfl : hs 0 = hs 0) R ⟨by omega, by omega⟩) q_286 q_287 q_288 q_24 q_289 (by decide +kernel) (wl_h (by decide) (rfl : hs 0 = hs 0) 3 (by decide)) rfl rfl (by decide) (by decide) (Nat.le_of_ble_eq_true rfl) dX6_count_215 rfl ?_
        exact x_iret C D rfl dX6_count_218 (by first | omega | (unfold xCount; (repeat (first | rw [if_pos (by first | omega | assumption | exact not_not_intro (by assumption))] | rw [if_neg (by first | omega | assumption | exact not_not_intro (by assumption))])); all_goals rfl)) rfl rfl rfl
      by_cases v_10 : w = 5
      · subst v_10
        refine x_tabIn 219 C dX6_count_51 ⟨by omega, by omega⟩ (by omega) (by omega) (show _ = some (168 : Int) from rfl) (by decide) ?_
        refine x_aload_n C dX6_count_219 rfl ?_
        refine gt_0_0 C q_232 dX6_count_220 ?_
        refine gh_0_2 C (by decide) (rfl : hs 0 = hs 0) q_135 dX6_count_223 ?_
        refine x_const C dX6_count_226 ?_
        refine x_callV (nA := 1) (As := [vI 3]) (rest := []) C (m_X1_howMany hE (by decide) (rfl : hs 0 = hs 0) R ⟨by omega, by omega⟩) q_286 q_287 q_288 q_24 q_289 (by decide +kernel) (wl_h (by decide) (rfl : hs 0 = hs 0) 3 (by decide)) rfl rfl (by decide) (by decide) (Nat.le_of_ble_eq_true rfl) dX6_count_227 rfl ?_
        exact x_iret C D rfl dX6_count_230 (by first | omega | (unfold xCount; (repeat (first | rw [if_pos (by first | omega | assumption | exact not_not_intro (by assumption))] | rw [if_neg (by first | omega | assumption | exact not_not_intro (by assumption))])); all_goals rfl)) rfl rfl rfl
      by_cases v_11 : w = 6
      · subst v_11
        refine x_tabIn 231 C dX6_count_51 ⟨by omega, by omega⟩ (by omega) (by omega) (show _ = some (180 : Int) from rfl) (by decide) ?_
        refine x_aload_n C dX6_count_231 rfl ?_
        refine gt_0_0 C q_232 dX6_count_232 ?_
        refine gh_0_2 C (by decide) (rfl : hs 0 = hs 0) q_135 dX6_count_235 ?_
        refine x_const C dX6_count_238 ?_
        refine x_callV (nA := 1) (As := [vI 4]) (rest := []) C (m_X1_howMany hE (by decide) (rfl : hs 0 = hs 0) R ⟨by omega, by omega⟩) q_286 q_287 q_288 q_24 q_289 (by decide +kernel) (wl_h (by decide) (rfl : hs 0 = hs 0) 3 (by decide)) rfl rfl (by decide) (by decide) (Nat.le_of_ble_eq_true rfl) dX6_count_239 rfl ?_
        exact x_iret C D rfl dX6_count_242 (by first | omega | (unfold xCount; (repeat (first | rw [if_pos (by first | omega | assumption | exact not_not_intro (by assumption))] | rw [if_neg (by first | omega | assumption | exact not_not_intro (by assumption))])); all_goals rfl)) rfl rfl rfl
      by_cases v_12 : w = 7
      · subst v_12
        refine x_tabIn 243 C dX6_count_51 ⟨by omega, by omega⟩ (by omega) (by omega) (show _ = some (192 : Int) from rfl) (by decide) ?_
        refine x_aload_n C dX6_count_243 rfl ?_
        refine gt_0_0 C q_232 dX6_count_244 ?_
        refine gh_0_2 C (by decide) (rfl : hs 0 = hs 0) q_135 dX6_count_247 ?_
        refine x_callV (nA := 0) (As := []) (rest := []) C (m_X1_personsThere hE (by decide) (rfl : hs 0 = hs 0) R) q_290 q_291 q_292 q_24 q_293 (by decide +kernel) (wl_h (by decide) (rfl : hs 0 = hs 0) 3 (by decide)) rfl rfl (by decide) (by decide) (Nat.le_of_ble_eq_true rfl) dX6_count_250 rfl ?_
        exact x_iret C D rfl dX6_count_253 (by first | omega | (unfold xCount; (repeat (first | rw [if_pos (by first | omega | assumption | exact not_not_intro (by assumption))] | rw [if_neg (by first | omega | assumption | exact not_not_intro (by assumption))])); all_goals rfl)) rfl rfl rfl
      by_cases v_13 : w = 8
      · subst v_13
        refine x_tabIn 254 C dX6_count_51 ⟨by omega, by omega⟩ (by omega) (by omega) (show _ = some (203 : Int) from rfl) (by decide) ?_
        refine x_const C dX6_count_254 ?_
        refine x_aload_n C dX6_count_255 rfl ?_
        refine gt_0_0 C q_232 dX6_count_256 ?_
        refine gh_0_2 C (by decide) (rfl : hs 0 = hs 0) q_135 dX6_count_259 ?_
        refine x_callV (nA := 0) (As := []) (rest := [vI 0]) C (m_X1_personsThere hE (by decide) (rfl : hs 0 = hs 0) R) q_290 q_291 q_292 q_24 q_293 (by decide +kernel) (wl_h (by decide) (rfl : hs 0 = hs 0) 3 (by decide)) rfl rfl (by decide) (by decide) (Nat.le_of_ble_eq_true rfl) dX6_count_262 rfl ?_
        refine x_aload_n C dX6_count_265 rfl ?_
        refine gt_0_0 C q_232 dX6_count_266 ?_
        refine gh_0_0 C (by decide) (rfl : hs 0 = hs 0) q_132 dX6_count_269 ?_
        refine x_const C dX6_count_272 ?_
        refine lh_1 C (by decide) (rfl : hs 0 = hs 0) (by omega) (by omega) dX6_count_273 rfl ?_
        have r_14 := RG.set' R (i := 0) (by omega) (by omega)
        refine x_isub C dX6_count_274 ?_
        refine x_max C q_294 q_295 q_29 q_296 (by decide) (Nat.le_of_ble_eq_true rfl) ⟨by omega, by omega⟩ ⟨by omega, by omega⟩ dX6_count_275 ?_
        exact x_iret C D rfl dX6_count_278 (by first | omega | (unfold xCount; (repeat (first | rw [if_pos (by first | omega | assumption | exact not_not_intro (by assumption))] | rw [if_neg (by first | omega | assumption | exact not_not_intro (by assumption))])); all_goals rfl)) rfl rfl rfl
      by_cases v_15 : w = 9
      · subst v_15
        refine x_tabIn 279 C dX6_count_51 ⟨by omega, by omega⟩ (by omega) (by omega) (show _ = some (228 : Int) from rfl) (by decide) ?_
        refine x_aload_n C dX6_count_279 rfl ?_
        refine gt_0_0 C q_232 dX6_count_280 ?_
        refine gh_0_3 C (by decide) (rfl : hs 0 = hs 0) q_137 dX6_count_283 ?_
        refine x_callV (nA := 0) (As := []) (rest := []) C (m_X4_allFresh hE (by decide) (rfl : hs 0 = hs 0) R) q_297 q_298 q_299 q_25 q_300 (by decide +kernel) (wl_h (by decide) (rfl : hs 0 = hs 0) 11 (by decide)) rfl rfl (by decide) (by decide) (Nat.le_of_ble_eq_true rfl) dX6_count_286 rfl ?_
        exact x_iret C D rfl dX6_count_289 (by first | omega | (unfold xCount; (repeat (first | rw [if_pos (by first | omega | assumption | exact not_not_intro (by assumption))] | rw [if_neg (by first | omega | assumption | exact not_not_intro (by assumption))])); all_goals rfl)) rfl rfl rfl
      by_cases v_16 : w = 10
      · subst v_16
        refine x_tabIn 290 C dX6_count_51 ⟨by omega, by omega⟩ (by omega) (by omega) (show _ = some (239 : Int) from rfl) (by decide) ?_
        refine x_aload_n C dX6_count_290 rfl ?_
        refine gt_0_0 C q_232 dX6_count_291 ?_
        refine gh_0_3 C (by decide) (rfl : hs 0 = hs 0) q_137 dX6_count_294 ?_
        refine gh_11_1 C (by decide) (rfl : hs 0 = hs 0) q_106 dX6_count_297 rfl ?_
        have r_17 := RG.dry R
        exact x_iret C D rfl dX6_count_300 (by first | omega | (unfold xCount; (repeat (first | rw [if_pos (by first | omega | assumption | exact not_not_intro (by assumption))] | rw [if_neg (by first | omega | assumption | exact not_not_intro (by assumption))])); all_goals rfl)) rfl rfl rfl
      by_cases v_18 : w = 11
      · subst v_18
        refine x_tabIn 301 C dX6_count_51 ⟨by omega, by omega⟩ (by omega) (by omega) (show _ = some (250 : Int) from rfl) (by decide) ?_
        refine x_aload_n C dX6_count_301 rfl ?_
        refine gt_0_0 C q_232 dX6_count_302 ?_
        refine gh_0_4 C (by decide) (rfl : hs 0 = hs 0) q_139 dX6_count_305 ?_
        refine gh_13_2 C (by decide) (rfl : hs 0 = hs 0) q_122 dX6_count_308 rfl ?_
        have r_19 := RG.siz R
        exact x_iret C D rfl dX6_count_311 (by first | omega | (unfold xCount; (repeat (first | rw [if_pos (by first | omega | assumption | exact not_not_intro (by assumption))] | rw [if_neg (by first | omega | assumption | exact not_not_intro (by assumption))])); all_goals rfl)) rfl rfl rfl
      by_cases v_20 : w = 12
      · subst v_20
        refine x_tabIn 312 C dX6_count_51 ⟨by omega, by omega⟩ (by omega) (by omega) (show _ = some (261 : Int) from rfl) (by decide) ?_
        refine x_aload_n C dX6_count_312 rfl ?_
        refine gt_0_0 C q_232 dX6_count_313 ?_
        refine gh_0_4 C (by decide) (rfl : hs 0 = hs 0) q_139 dX6_count_316 ?_
        refine x_callV (nA := 0) (As := []) (rest := []) C (m_X5_allPortions hE (by decide) (rfl : hs 0 = hs 0) R) q_301 q_302 q_303 q_26 q_304 (by decide +kernel) (wl_h (by decide) (rfl : hs 0 = hs 0) 13 (by decide)) rfl rfl (by decide) (by decide) (Nat.le_of_ble_eq_true rfl) dX6_count_319 rfl ?_
        exact x_iret C D rfl dX6_count_322 (by first | omega | (unfold xCount; (repeat (first | rw [if_pos (by first | omega | assumption | exact not_not_intro (by assumption))] | rw [if_neg (by first | omega | assumption | exact not_not_intro (by assumption))])); all_goals rfl)) rfl rfl rfl
      by_cases v_21 : w = 13
      · subst v_21
        refine x_tabIn 323 C dX6_count_51 ⟨by omega, by omega⟩ (by omega) (by omega) (show _ = some (272 : Int) from rfl) (by decide) ?_
        refine x_aload_n C dX6_count_323 rfl ?_
        refine gt_0_0 C q_232 dX6_count_324 ?_
        refine gh_0_7 C (by decide) (rfl : hs 0 = hs 0) q_145 dX6_count_327 rfl ?_
        have r_22 := RG.cal R
        refine x_if_eq 337 C dX6_count_330 (by decide) ⟨by omega, by omega⟩ (fun c_23 => ?_) (fun c_23 => ?_)
        · refine x_const C dX6_count_337 ?_
          exact x_iret C D rfl dX6_count_338 (by first | omega | (unfold xCount; (repeat (first | rw [if_pos (by first | omega | assumption | exact not_not_intro (by assumption))] | rw [if_neg (by first | omega | assumption | exact not_not_intro (by assumption))])); all_goals rfl)) rfl rfl rfl
        · refine x_const C dX6_count_333 ?_
          refine x_goto 338 C dX6_count_334 (by decide) ?_
          exact x_iret C D rfl dX6_count_338 (by first | omega | (unfold xCount; (repeat (first | rw [if_pos (by first | omega | assumption | exact not_not_intro (by assumption))] | rw [if_neg (by first | omega | assumption | exact not_not_intro (by assumption))])); all_goals rfl)) rfl rfl rfl
      by_cases v_24 : w = 14
      · subst v_24
        refine x_tabIn 355 C dX6_count_51 ⟨by omega, by omega⟩ (by omega) (by omega) (show _ = some (304 : Int) from rfl) (by decide) ?_
        refine x_ldc (n := (-1000002)) C q_305 dX6_count_355 rfl ?_
        exact x_iret C D rfl dX6_count_357 (by first | omega | (unfold xCount; (repeat (first | rw [if_pos (by first | omega | assumption | exact not_not_intro (by assumption))] | rw [if_neg (by first | omega | assumption | exact not_not_intro (by assumption))])); all_goals rfl)) rfl rfl rfl
      by_cases v_25 : w = 15
      · subst v_25
        refine x_tabIn 355 C dX6_count_51 ⟨by omega, by omega⟩ (by omega) (by omega) (show _ = some (304 : Int) from rfl) (by decide) ?_
        refine x_ldc (n := (-1000002)) C q_305 dX6_count_355 rfl ?_
        exact x_iret C D rfl dX6_count_357 (by first | omega | (unfold xCount; (repeat (first | rw [if_pos (by first | omega | assumption | exact not_not_intro (by assumption))] | rw [if_neg (by first | omega | assumption | exact not_not_intro (by assumption))])); all_goals rfl)) rfl rfl rfl
      by_cases v_26 : w = 16
      · subst v_26
        refine x_tabIn 355 C dX6_count_51 ⟨by omega, by omega⟩ (by omega) (by omega) (show _ = some (304 : Int) from rfl) (by decide) ?_
        refine x_ldc (n := (-1000002)) C q_305 dX6_count_355 rfl ?_
        exact x_iret C D rfl dX6_count_357 (by first | omega | (unfold xCount; (repeat (first | rw [if_pos (by first | omega | assumption | exact not_not_intro (by assumption))] | rw [if_neg (by first | omega | assumption | exact not_not_intro (by assumption))])); all_goals rfl)) rfl rfl rfl
      by_cases v_27 : w = 17
      · subst v_27
        refine x_tabIn 355 C dX6_count_51 ⟨by omega, by omega⟩ (by omega) (by omega) (show _ = some (304 : Int) from rfl) (by decide) ?_
        refine x_ldc (n := (-1000002)) C q_305 dX6_count_355 rfl ?_
        exact x_iret C D rfl dX6_count_357 (by first | omega | (unfold xCount; (repeat (first | rw [if_pos (by first | omega | assumption | exact not_not_intro (by assumption))] | rw [if_neg (by first | omega | assumption | exact not_not_intro (by assumption))])); all_goals rfl)) rfl rfl rfl
      by_cases v_28 : w = 18
      · subst v_28
        refine x_tabIn 355 C dX6_count_51 ⟨by omega, by omega⟩ (by omega) (by omega) (show _ = some (304 : Int) from rfl) (by decide) ?_
        refine x_ldc (n := (-1000002)) C q_305 dX6_count_355 rfl ?_
        exact x_iret C D rfl dX6_count_357 (by first | omega | (unfold xCount; (repeat (first | rw [if_pos (by first | omega | assumption | exact not_not_intro (by assumption))] | rw [if_neg (by first | omega | assumption | exact not_not_intro (by assumption))])); all_goals rfl)) rfl rfl rfl
      by_cases v_29 : w = 19
      · subst v_29
        refine x_tabIn 355 C dX6_count_51 ⟨by omega, by omega⟩ (by omega) (by omega) (show _ = some (304 : Int) from rfl) (by decide) ?_
        refine x_ldc (n := (-1000002)) C q_305 dX6_count_355 rfl ?_
        exact x_iret C D rfl dX6_count_357 (by first | omega | (unfold xCount; (repeat (first | rw [if_pos (by first | omega | assumption | exact not_not_intro (by assumption))] | rw [if_neg (by first | omega | assumption | exact not_not_intro (by assumption))])); all_goals rfl)) rfl rfl rfl
      by_cases v_30 : w = 20
      · subst v_30
        refine x_tabIn 355 C dX6_count_51 ⟨by omega, by omega⟩ (by omega) (by omega) (show _ = some (304 : Int) from rfl) (by decide) ?_
        refine x_ldc (n := (-1000002)) C q_305 dX6_count_355 rfl ?_
        exact x_iret C D rfl dX6_count_357 (by first | omega | (unfold xCount; (repeat (first | rw [if_pos (by first | omega | assumption | exact not_not_intro (by assumption))] | rw [if_neg (by first | omega | assumption | exact not_not_intro (by assumption))])); all_goals rfl)) rfl rfl rfl
      by_cases v_31 : w = 21
      · subst v_31
        refine x_tabIn 355 C dX6_count_51 ⟨by omega, by omega⟩ (by omega) (by omega) (show _ = some (304 : Int) from rfl) (by decide) ?_
        refine x_ldc (n := (-1000002)) C q_305 dX6_count_355 rfl ?_
        exact x_iret C D rfl dX6_count_357 (by first | omega | (unfold xCount; (repeat (first | rw [if_pos (by first | omega | assumption | exact not_not_intro (by assumption))] | rw [if_neg (by first | omega | assumption | exact not_not_intro (by assumption))])); all_goals rfl)) rfl rfl rfl
      by_cases v_32 : w = 22
      · subst v_32
        refine x_tabIn 355 C dX6_count_51 ⟨by omega, by omega⟩ (by omega) (by omega) (show _ = some (304 : Int) from rfl) (by decide) ?_
        refine x_ldc (n := (-1000002)) C q_305 dX6_count_355 rfl ?_
        exact x_iret C D rfl dX6_count_357 (by first | omega | (unfold xCount; (repeat (first | rw [if_pos (by first | omega | assumption | exact not_not_intro (by assumption))] | rw [if_neg (by first | omega | assumption | exact not_not_intro (by assumption))])); all_goals rfl)) rfl rfl rfl
      by_cases v_33 : w = 23
      · subst v_33
        refine x_tabIn 339 C dX6_count_51 ⟨by omega, by omega⟩ (by omega) (by omega) (show _ = some (288 : Int) from rfl) (by decide) ?_
        refine x_aload_n C dX6_count_339 rfl ?_
        refine gt_0_4 C q_236 dX6_count_340 ?_
        refine gt_2_1 C q_186 dX6_count_343 rfl ?_
        exact x_iret C D rfl dX6_count_346 (by first | omega | (unfold xCount; (repeat (first | rw [if_pos (by first | omega | assumption | exact not_not_intro (by assumption))] | rw [if_neg (by first | omega | assumption | exact not_not_intro (by assumption))])); all_goals rfl)) rfl rfl rfl
      by_cases v_34 : w = 24
      · subst v_34
        refine x_tabIn 347 C dX6_count_51 ⟨by omega, by omega⟩ (by omega) (by omega) (show _ = some (296 : Int) from rfl) (by decide) ?_
        refine x_aload_n C dX6_count_347 rfl ?_
        refine gt_0_5 C q_237 dX6_count_348 ?_
        refine gt_4_1 C q_200 dX6_count_351 rfl ?_
        exact x_iret C D rfl dX6_count_354 (by first | omega | (unfold xCount; (repeat (first | rw [if_pos (by first | omega | assumption | exact not_not_intro (by assumption))] | rw [if_neg (by first | omega | assumption | exact not_not_intro (by assumption))])); all_goals rfl)) rfl rfl rfl
      refine x_tabOut 355 C dX6_count_51 ⟨by omega, by omega⟩ (by omega) (by decide) ?_
      refine x_ldc (n := (-1000002)) C q_305 dX6_count_355 rfl ?_
      exact x_iret C D rfl dX6_count_357 (by first | omega | (unfold xCount; (repeat (first | rw [if_pos (by first | omega | assumption | exact not_not_intro (by assumption))] | rw [if_neg (by first | omega | assumption | exact not_not_intro (by assumption))])); all_goals rfl)) rfl rfl rfl
    · refine x_iload_n C dX6_count_31 rfl ?_
      refine x_bipush C dX6_count_32 (by decide) ?_
      refine x_icmp_ge 50 C dX6_count_34 (by decide) ⟨by omega, by omega⟩ ⟨by omega, by omega⟩ (fun c_35 => ?_) (fun c_35 => ?_)
      · refine x_iload_n C dX6_count_50 rfl ?_
        by_cases v_36 : w = 0
        · subst v_36
          refine x_tabIn 164 C dX6_count_51 ⟨by omega, by omega⟩ (by omega) (by omega) (show _ = some (113 : Int) from rfl) (by decide) ?_
          refine x_aload_n C dX6_count_164 rfl ?_
          refine gt_0_0 C q_232 dX6_count_165 ?_
          refine gh_0_6 C (by decide) (rfl : hs 0 = hs 0) q_143 dX6_count_168 rfl ?_
          have r_37 := RG.day R
          exact x_iret C D rfl dX6_count_171 (by first | omega | (unfold xCount; (repeat (first | rw [if_pos (by first | omega | assumption | exact not_not_intro (by assumption))] | rw [if_neg (by first | omega | assumption | exact not_not_intro (by assumption))])); all_goals rfl)) rfl rfl rfl
        by_cases v_38 : w = 1
        · subst v_38
          refine x_tabIn 172 C dX6_count_51 ⟨by omega, by omega⟩ (by omega) (by omega) (show _ = some (121 : Int) from rfl) (by decide) ?_
          refine x_aload_n C dX6_count_172 rfl ?_
          refine gt_0_0 C q_232 dX6_count_173 ?_
          refine gh_0_2 C (by decide) (rfl : hs 0 = hs 0) q_135 dX6_count_176 ?_
          refine gh_3_7 C (by decide) (rfl : hs 0 = hs 0) q_79 dX6_count_179 rfl ?_
          have r_39 := RG.made R
          exact x_iret C D rfl dX6_count_182 (by first | omega | (unfold xCount; (repeat (first | rw [if_pos (by first | omega | assumption | exact not_not_intro (by assumption))] | rw [if_neg (by first | omega | assumption | exact not_not_intro (by assumption))])); all_goals rfl)) rfl rfl rfl
        by_cases v_40 : w = 2
        · subst v_40
          refine x_tabIn 183 C dX6_count_51 ⟨by omega, by omega⟩ (by omega) (by omega) (show _ = some (132 : Int) from rfl) (by decide) ?_
          refine x_aload_n C dX6_count_183 rfl ?_
          refine gt_0_0 C q_232 dX6_count_184 ?_
          refine gh_0_2 C (by decide) (rfl : hs 0 = hs 0) q_135 dX6_count_187 ?_
          refine x_const C dX6_count_190 ?_
          refine x_callV (nA := 1) (As := [vI 0]) (rest := []) C (m_X1_howMany hE (by decide) (rfl : hs 0 = hs 0) R ⟨by omega, by omega⟩) q_286 q_287 q_288 q_24 q_289 (by decide +kernel) (wl_h (by decide) (rfl : hs 0 = hs 0) 3 (by decide)) rfl rfl (by decide) (by decide) (Nat.le_of_ble_eq_true rfl) dX6_count_191 rfl ?_
          exact x_iret C D rfl dX6_count_194 (by first | omega | (unfold xCount; (repeat (first | rw [if_pos (by first | omega | assumption | exact not_not_intro (by assumption))] | rw [if_neg (by first | omega | assumption | exact not_not_intro (by assumption))])); all_goals rfl)) rfl rfl rfl
        by_cases v_41 : w = 3
        · subst v_41
          refine x_tabIn 195 C dX6_count_51 ⟨by omega, by omega⟩ (by omega) (by omega) (show _ = some (144 : Int) from rfl) (by decide) ?_
          refine x_aload_n C dX6_count_195 rfl ?_
          refine gt_0_0 C q_232 dX6_count_196 ?_
          refine gh_0_2 C (by decide) (rfl : hs 0 = hs 0) q_135 dX6_count_199 ?_
          refine x_const C dX6_count_202 ?_
          refine x_callV (nA := 1) (As := [vI 1]) (rest := []) C (m_X1_howMany hE (by decide) (rfl : hs 0 = hs 0) R ⟨by omega, by omega⟩) q_286 q_287 q_288 q_24 q_289 (by decide +kernel) (wl_h (by decide) (rfl : hs 0 = hs 0) 3 (by decide)) rfl rfl (by decide) (by decide) (Nat.le_of_ble_eq_true rfl) dX6_count_203 rfl ?_
          exact x_iret C D rfl dX6_count_206 (by first | omega | (unfold xCount; (repeat (first | rw [if_pos (by first | omega | assumption | exact not_not_intro (by assumption))] | rw [if_neg (by first | omega | assumption | exact not_not_intro (by assumption))])); all_goals rfl)) rfl rfl rfl
        by_cases v_42 : w = 4
        · subst v_42
          refine x_tabIn 207 C dX6_count_51 ⟨by omega, by omega⟩ (by omega) (by omega) (show _ = some (156 : Int) from rfl) (by decide) ?_
          refine x_aload_n C dX6_count_207 rfl ?_
          refine gt_0_0 C q_232 dX6_count_208 ?_
          refine gh_0_2 C (by decide) (rfl : hs 0 = hs 0) q_135 dX6_count_211 ?_
          refine x_const C dX6_count_214 ?_
          refine x_callV (nA := 1) (As := [vI 2]) (rest := []) C (m_X1_howMany hE (by decide) (rfl : hs 0 = hs 0) R ⟨by omega, by omega⟩) q_286 q_287 q_288 q_24 q_289 (by decide +kernel) (wl_h (by decide) (rfl : hs 0 = hs 0) 3 (by decide)) rfl rfl (by decide) (by decide) (Nat.le_of_ble_eq_true rfl) dX6_count_215 rfl ?_
          exact x_iret C D rfl dX6_count_218 (by first | omega | (unfold xCount; (repeat (first | rw [if_pos (by first | omega | assumption | exact not_not_intro (by assumption))] | rw [if_neg (by first | omega | assumption | exact not_not_intro (by assumption))])); all_goals rfl)) rfl rfl rfl
        by_cases v_43 : w = 5
        · subst v_43
          refine x_tabIn 219 C dX6_count_51 ⟨by omega, by omega⟩ (by omega) (by omega) (show _ = some (168 : Int) from rfl) (by decide) ?_
          refine x_aload_n C dX6_count_219 rfl ?_
          refine gt_0_0 C q_232 dX6_count_220 ?_
          refine gh_0_2 C (by decide) (rfl : hs 0 = hs 0) q_135 dX6_count_223 ?_
          refine x_const C dX6_count_226 ?_
          refine x_callV (nA := 1) (As := [vI 3]) (rest := []) C (m_X1_howMany hE (by decide) (rfl : hs 0 = hs 0) R ⟨by omega, by omega⟩) q_286 q_287 q_288 q_24 q_289 (by decide +kernel) (wl_h (by decide) (rfl : hs 0 = hs 0) 3 (by decide)) rfl rfl (by decide) (by decide) (Nat.le_of_ble_eq_true rfl) dX6_count_227 rfl ?_
          exact x_iret C D rfl dX6_count_230 (by first | omega | (unfold xCount; (repeat (first | rw [if_pos (by first | omega | assumption | exact not_not_intro (by assumption))] | rw [if_neg (by first | omega | assumption | exact not_not_intro (by assumption))])); all_goals rfl)) rfl rfl rfl
        by_cases v_44 : w = 6
        · subst v_44
          refine x_tabIn 231 C dX6_count_51 ⟨by omega, by omega⟩ (by omega) (by omega) (show _ = some (180 : Int) from rfl) (by decide) ?_
          refine x_aload_n C dX6_count_231 rfl ?_
          refine gt_0_0 C q_232 dX6_count_232 ?_
          refine gh_0_2 C (by decide) (rfl : hs 0 = hs 0) q_135 dX6_count_235 ?_
          refine x_const C dX6_count_238 ?_
          refine x_callV (nA := 1) (As := [vI 4]) (rest := []) C (m_X1_howMany hE (by decide) (rfl : hs 0 = hs 0) R ⟨by omega, by omega⟩) q_286 q_287 q_288 q_24 q_289 (by decide +kernel) (wl_h (by decide) (rfl : hs 0 = hs 0) 3 (by decide)) rfl rfl (by decide) (by decide) (Nat.le_of_ble_eq_true rfl) dX6_count_239 rfl ?_
          exact x_iret C D rfl dX6_count_242 (by first | omega | (unfold xCount; (repeat (first | rw [if_pos (by first | omega | assumption | exact not_not_intro (by assumption))] | rw [if_neg (by first | omega | assumption | exact not_not_intro (by assumption))])); all_goals rfl)) rfl rfl rfl
        by_cases v_45 : w = 7
        · subst v_45
          refine x_tabIn 243 C dX6_count_51 ⟨by omega, by omega⟩ (by omega) (by omega) (show _ = some (192 : Int) from rfl) (by decide) ?_
          refine x_aload_n C dX6_count_243 rfl ?_
          refine gt_0_0 C q_232 dX6_count_244 ?_
          refine gh_0_2 C (by decide) (rfl : hs 0 = hs 0) q_135 dX6_count_247 ?_
          refine x_callV (nA := 0) (As := []) (rest := []) C (m_X1_personsThere hE (by decide) (rfl : hs 0 = hs 0) R) q_290 q_291 q_292 q_24 q_293 (by decide +kernel) (wl_h (by decide) (rfl : hs 0 = hs 0) 3 (by decide)) rfl rfl (by decide) (by decide) (Nat.le_of_ble_eq_true rfl) dX6_count_250 rfl ?_
          exact x_iret C D rfl dX6_count_253 (by first | omega | (unfold xCount; (repeat (first | rw [if_pos (by first | omega | assumption | exact not_not_intro (by assumption))] | rw [if_neg (by first | omega | assumption | exact not_not_intro (by assumption))])); all_goals rfl)) rfl rfl rfl
        by_cases v_46 : w = 8
        · subst v_46
          refine x_tabIn 254 C dX6_count_51 ⟨by omega, by omega⟩ (by omega) (by omega) (show _ = some (203 : Int) from rfl) (by decide) ?_
          refine x_const C dX6_count_254 ?_
          refine x_aload_n C dX6_count_255 rfl ?_
          refine gt_0_0 C q_232 dX6_count_256 ?_
          refine gh_0_2 C (by decide) (rfl : hs 0 = hs 0) q_135 dX6_count_259 ?_
          refine x_callV (nA := 0) (As := []) (rest := [vI 0]) C (m_X1_personsThere hE (by decide) (rfl : hs 0 = hs 0) R) q_290 q_291 q_292 q_24 q_293 (by decide +kernel) (wl_h (by decide) (rfl : hs 0 = hs 0) 3 (by decide)) rfl rfl (by decide) (by decide) (Nat.le_of_ble_eq_true rfl) dX6_count_262 rfl ?_
          refine x_aload_n C dX6_count_265 rfl ?_
          refine gt_0_0 C q_232 dX6_count_266 ?_
          refine gh_0_0 C (by decide) (rfl : hs 0 = hs 0) q_132 dX6_count_269 ?_
          refine x_const C dX6_count_272 ?_
          refine lh_1 C (by decide) (rfl : hs 0 = hs 0) (by omega) (by omega) dX6_count_273 rfl ?_
          have r_47 := RG.set' R (i := 0) (by omega) (by omega)
          refine x_isub C dX6_count_274 ?_
          refine x_max C q_294 q_295 q_29 q_296 (by decide) (Nat.le_of_ble_eq_true rfl) ⟨by omega, by omega⟩ ⟨by omega, by omega⟩ dX6_count_275 ?_
          exact x_iret C D rfl dX6_count_278 (by first | omega | (unfold xCount; (repeat (first | rw [if_pos (by first | omega | assumption | exact not_not_intro (by assumption))] | rw [if_neg (by first | omega | assumption | exact not_not_intro (by assumption))])); all_goals rfl)) rfl rfl rfl
        by_cases v_48 : w = 9
        · subst v_48
          refine x_tabIn 279 C dX6_count_51 ⟨by omega, by omega⟩ (by omega) (by omega) (show _ = some (228 : Int) from rfl) (by decide) ?_
          refine x_aload_n C dX6_count_279 rfl ?_
          refine gt_0_0 C q_232 dX6_count_280 ?_
          refine gh_0_3 C (by decide) (rfl : hs 0 = hs 0) q_137 dX6_count_283 ?_
          refine x_callV (nA := 0) (As := []) (rest := []) C (m_X4_allFresh hE (by decide) (rfl : hs 0 = hs 0) R) q_297 q_298 q_299 q_25 q_300 (by decide +kernel) (wl_h (by decide) (rfl : hs 0 = hs 0) 11 (by decide)) rfl rfl (by decide) (by decide) (Nat.le_of_ble_eq_true rfl) dX6_count_286 rfl ?_
          exact x_iret C D rfl dX6_count_289 (by first | omega | (unfold xCount; (repeat (first | rw [if_pos (by first | omega | assumption | exact not_not_intro (by assumption))] | rw [if_neg (by first | omega | assumption | exact not_not_intro (by assumption))])); all_goals rfl)) rfl rfl rfl
        by_cases v_49 : w = 10
        · subst v_49
          refine x_tabIn 290 C dX6_count_51 ⟨by omega, by omega⟩ (by omega) (by omega) (show _ = some (239 : Int) from rfl) (by decide) ?_
          refine x_aload_n C dX6_count_290 rfl ?_
          refine gt_0_0 C q_232 dX6_count_291 ?_
          refine gh_0_3 C (by decide) (rfl : hs 0 = hs 0) q_137 dX6_count_294 ?_
          refine gh_11_1 C (by decide) (rfl : hs 0 = hs 0) q_106 dX6_count_297 rfl ?_
          have r_50 := RG.dry R
          exact x_iret C D rfl dX6_count_300 (by first | omega | (unfold xCount; (repeat (first | rw [if_pos (by first | omega | assumption | exact not_not_intro (by assumption))] | rw [if_neg (by first | omega | assumption | exact not_not_intro (by assumption))])); all_goals rfl)) rfl rfl rfl
        by_cases v_51 : w = 11
        · subst v_51
          refine x_tabIn 301 C dX6_count_51 ⟨by omega, by omega⟩ (by omega) (by omega) (show _ = some (250 : Int) from rfl) (by decide) ?_
          refine x_aload_n C dX6_count_301 rfl ?_
          refine gt_0_0 C q_232 dX6_count_302 ?_
          refine gh_0_4 C (by decide) (rfl : hs 0 = hs 0) q_139 dX6_count_305 ?_
          refine gh_13_2 C (by decide) (rfl : hs 0 = hs 0) q_122 dX6_count_308 rfl ?_
          have r_52 := RG.siz R
          exact x_iret C D rfl dX6_count_311 (by first | omega | (unfold xCount; (repeat (first | rw [if_pos (by first | omega | assumption | exact not_not_intro (by assumption))] | rw [if_neg (by first | omega | assumption | exact not_not_intro (by assumption))])); all_goals rfl)) rfl rfl rfl
        by_cases v_53 : w = 12
        · subst v_53
          refine x_tabIn 312 C dX6_count_51 ⟨by omega, by omega⟩ (by omega) (by omega) (show _ = some (261 : Int) from rfl) (by decide) ?_
          refine x_aload_n C dX6_count_312 rfl ?_
          refine gt_0_0 C q_232 dX6_count_313 ?_
          refine gh_0_4 C (by decide) (rfl : hs 0 = hs 0) q_139 dX6_count_316 ?_
          refine x_callV (nA := 0) (As := []) (rest := []) C (m_X5_allPortions hE (by decide) (rfl : hs 0 = hs 0) R) q_301 q_302 q_303 q_26 q_304 (by decide +kernel) (wl_h (by decide) (rfl : hs 0 = hs 0) 13 (by decide)) rfl rfl (by decide) (by decide) (Nat.le_of_ble_eq_true rfl) dX6_count_319 rfl ?_
          exact x_iret C D rfl dX6_count_322 (by first | omega | (unfold xCount; (repeat (first | rw [if_pos (by first | omega | assumption | exact not_not_intro (by assumption))] | rw [if_neg (by first | omega | assumption | exact not_not_intro (by assumption))])); all_goals rfl)) rfl rfl rfl
        by_cases v_54 : w = 13
        · subst v_54
          refine x_tabIn 323 C dX6_count_51 ⟨by omega, by omega⟩ (by omega) (by omega) (show _ = some (272 : Int) from rfl) (by decide) ?_
          refine x_aload_n C dX6_count_323 rfl ?_
          refine gt_0_0 C q_232 dX6_count_324 ?_
          refine gh_0_7 C (by decide) (rfl : hs 0 = hs 0) q_145 dX6_count_327 rfl ?_
          have r_55 := RG.cal R
          refine x_if_eq 337 C dX6_count_330 (by decide) ⟨by omega, by omega⟩ (fun c_56 => ?_) (fun c_56 => ?_)
          · refine x_const C dX6_count_337 ?_
            exact x_iret C D rfl dX6_count_338 (by first | omega | (unfold xCount; (repeat (first | rw [if_pos (by first | omega | assumption | exact not_not_intro (by assumption))] | rw [if_neg (by first | omega | assumption | exact not_not_intro (by assumption))])); all_goals rfl)) rfl rfl rfl
          · refine x_const C dX6_count_333 ?_
            refine x_goto 338 C dX6_count_334 (by decide) ?_
            exact x_iret C D rfl dX6_count_338 (by first | omega | (unfold xCount; (repeat (first | rw [if_pos (by first | omega | assumption | exact not_not_intro (by assumption))] | rw [if_neg (by first | omega | assumption | exact not_not_intro (by assumption))])); all_goals rfl)) rfl rfl rfl
        by_cases v_57 : w = 14
        · subst v_57
          refine x_tabIn 355 C dX6_count_51 ⟨by omega, by omega⟩ (by omega) (by omega) (show _ = some (304 : Int) from rfl) (by decide) ?_
          refine x_ldc (n := (-1000002)) C q_305 dX6_count_355 rfl ?_
          exact x_iret C D rfl dX6_count_357 (by first | omega | (unfold xCount; (repeat (first | rw [if_pos (by first | omega | assumption | exact not_not_intro (by assumption))] | rw [if_neg (by first | omega | assumption | exact not_not_intro (by assumption))])); all_goals rfl)) rfl rfl rfl
        by_cases v_58 : w = 15
        · subst v_58
          refine x_tabIn 355 C dX6_count_51 ⟨by omega, by omega⟩ (by omega) (by omega) (show _ = some (304 : Int) from rfl) (by decide) ?_
          refine x_ldc (n := (-1000002)) C q_305 dX6_count_355 rfl ?_
          exact x_iret C D rfl dX6_count_357 (by first | omega | (unfold xCount; (repeat (first | rw [if_pos (by first | omega | assumption | exact not_not_intro (by assumption))] | rw [if_neg (by first | omega | assumption | exact not_not_intro (by assumption))])); all_goals rfl)) rfl rfl rfl
        by_cases v_59 : w = 16
        · subst v_59
          refine x_tabIn 355 C dX6_count_51 ⟨by omega, by omega⟩ (by omega) (by omega) (show _ = some (304 : Int) from rfl) (by decide) ?_
          refine x_ldc (n := (-1000002)) C q_305 dX6_count_355 rfl ?_
          exact x_iret C D rfl dX6_count_357 (by first | omega | (unfold xCount; (repeat (first | rw [if_pos (by first | omega | assumption | exact not_not_intro (by assumption))] | rw [if_neg (by first | omega | assumption | exact not_not_intro (by assumption))])); all_goals rfl)) rfl rfl rfl
        by_cases v_60 : w = 17
        · subst v_60
          refine x_tabIn 355 C dX6_count_51 ⟨by omega, by omega⟩ (by omega) (by omega) (show _ = some (304 : Int) from rfl) (by decide) ?_
          refine x_ldc (n := (-1000002)) C q_305 dX6_count_355 rfl ?_
          exact x_iret C D rfl dX6_count_357 (by first | omega | (unfold xCount; (repeat (first | rw [if_pos (by first | omega | assumption | exact not_not_intro (by assumption))] | rw [if_neg (by first | omega | assumption | exact not_not_intro (by assumption))])); all_goals rfl)) rfl rfl rfl
        by_cases v_61 : w = 18
        · subst v_61
          refine x_tabIn 355 C dX6_count_51 ⟨by omega, by omega⟩ (by omega) (by omega) (show _ = some (304 : Int) from rfl) (by decide) ?_
          refine x_ldc (n := (-1000002)) C q_305 dX6_count_355 rfl ?_
          exact x_iret C D rfl dX6_count_357 (by first | omega | (unfold xCount; (repeat (first | rw [if_pos (by first | omega | assumption | exact not_not_intro (by assumption))] | rw [if_neg (by first | omega | assumption | exact not_not_intro (by assumption))])); all_goals rfl)) rfl rfl rfl
        by_cases v_62 : w = 19
        · subst v_62
          refine x_tabIn 355 C dX6_count_51 ⟨by omega, by omega⟩ (by omega) (by omega) (show _ = some (304 : Int) from rfl) (by decide) ?_
          refine x_ldc (n := (-1000002)) C q_305 dX6_count_355 rfl ?_
          exact x_iret C D rfl dX6_count_357 (by first | omega | (unfold xCount; (repeat (first | rw [if_pos (by first | omega | assumption | exact not_not_intro (by assumption))] | rw [if_neg (by first | omega | assumption | exact not_not_intro (by assumption))])); all_goals rfl)) rfl rfl rfl
        by_cases v_63 : w = 20
        · subst v_63
          refine x_tabIn 355 C dX6_count_51 ⟨by omega, by omega⟩ (by omega) (by omega) (show _ = some (304 : Int) from rfl) (by decide) ?_
          refine x_ldc (n := (-1000002)) C q_305 dX6_count_355 rfl ?_
          exact x_iret C D rfl dX6_count_357 (by first | omega | (unfold xCount; (repeat (first | rw [if_pos (by first | omega | assumption | exact not_not_intro (by assumption))] | rw [if_neg (by first | omega | assumption | exact not_not_intro (by assumption))])); all_goals rfl)) rfl rfl rfl
        by_cases v_64 : w = 21
        · subst v_64
          refine x_tabIn 355 C dX6_count_51 ⟨by omega, by omega⟩ (by omega) (by omega) (show _ = some (304 : Int) from rfl) (by decide) ?_
          refine x_ldc (n := (-1000002)) C q_305 dX6_count_355 rfl ?_
          exact x_iret C D rfl dX6_count_357 (by first | omega | (unfold xCount; (repeat (first | rw [if_pos (by first | omega | assumption | exact not_not_intro (by assumption))] | rw [if_neg (by first | omega | assumption | exact not_not_intro (by assumption))])); all_goals rfl)) rfl rfl rfl
        by_cases v_65 : w = 22
        · subst v_65
          refine x_tabIn 355 C dX6_count_51 ⟨by omega, by omega⟩ (by omega) (by omega) (show _ = some (304 : Int) from rfl) (by decide) ?_
          refine x_ldc (n := (-1000002)) C q_305 dX6_count_355 rfl ?_
          exact x_iret C D rfl dX6_count_357 (by first | omega | (unfold xCount; (repeat (first | rw [if_pos (by first | omega | assumption | exact not_not_intro (by assumption))] | rw [if_neg (by first | omega | assumption | exact not_not_intro (by assumption))])); all_goals rfl)) rfl rfl rfl
        by_cases v_66 : w = 23
        · subst v_66
          refine x_tabIn 339 C dX6_count_51 ⟨by omega, by omega⟩ (by omega) (by omega) (show _ = some (288 : Int) from rfl) (by decide) ?_
          refine x_aload_n C dX6_count_339 rfl ?_
          refine gt_0_4 C q_236 dX6_count_340 ?_
          refine gt_2_1 C q_186 dX6_count_343 rfl ?_
          exact x_iret C D rfl dX6_count_346 (by first | omega | (unfold xCount; (repeat (first | rw [if_pos (by first | omega | assumption | exact not_not_intro (by assumption))] | rw [if_neg (by first | omega | assumption | exact not_not_intro (by assumption))])); all_goals rfl)) rfl rfl rfl
        by_cases v_67 : w = 24
        · subst v_67
          refine x_tabIn 347 C dX6_count_51 ⟨by omega, by omega⟩ (by omega) (by omega) (show _ = some (296 : Int) from rfl) (by decide) ?_
          refine x_aload_n C dX6_count_347 rfl ?_
          refine gt_0_5 C q_237 dX6_count_348 ?_
          refine gt_4_1 C q_200 dX6_count_351 rfl ?_
          exact x_iret C D rfl dX6_count_354 (by first | omega | (unfold xCount; (repeat (first | rw [if_pos (by first | omega | assumption | exact not_not_intro (by assumption))] | rw [if_neg (by first | omega | assumption | exact not_not_intro (by assumption))])); all_goals rfl)) rfl rfl rfl
        refine x_tabOut 355 C dX6_count_51 ⟨by omega, by omega⟩ (by omega) (by decide) ?_
        refine x_ldc (n := (-1000002)) C q_305 dX6_count_355 rfl ?_
        exact x_iret C D rfl dX6_count_357 (by first | omega | (unfold xCount; (repeat (first | rw [if_pos (by first | omega | assumption | exact not_not_intro (by assumption))] | rw [if_neg (by first | omega | assumption | exact not_not_intro (by assumption))])); all_goals rfl)) rfl rfl rfl
      · refine x_aload_n C dX6_count_37 rfl ?_
        refine gt_0_0 C q_232 dX6_count_38 ?_
        refine gh_0_0 C (by decide) (rfl : hs 0 = hs 0) q_132 dX6_count_41 ?_
        refine x_iload_n C dX6_count_44 rfl ?_
        refine x_bipush C dX6_count_45 (by decide) ?_
        refine x_isub C dX6_count_47 ?_
        refine lh_1 C (by decide) (rfl : hs 0 = hs 0) (by omega) (by omega) dX6_count_48 rfl ?_
        have r_68 := RG.set' R (i := w - 25) (by omega) (by omega)
        exact x_iret C D rfl dX6_count_49 (by first | omega | (unfold xCount; (repeat (first | rw [if_pos (by first | omega | assumption | exact not_not_intro (by assumption))] | rw [if_neg (by first | omega | assumption | exact not_not_intro (by assumption))])); all_goals rfl)) rfl rfl rfl
  · refine x_iload_n C dX6_count_6 rfl ?_
    refine x_bipush C dX6_count_7 (by decide) ?_
    refine x_icmp_ge 25 C dX6_count_9 (by decide) ⟨by omega, by omega⟩ ⟨by omega, by omega⟩ (fun c_69 => ?_) (fun c_69 => ?_)
    · refine x_iload_n C dX6_count_25 rfl ?_
      refine x_bipush C dX6_count_26 (by decide) ?_
      refine x_icmp_lt 50 C dX6_count_28 (by decide) ⟨by omega, by omega⟩ ⟨by omega, by omega⟩ (fun c_70 => ?_) (fun c_70 => ?_)
      · refine x_iload_n C dX6_count_50 rfl ?_
        by_cases v_71 : w = 0
        · subst v_71
          refine x_tabIn 164 C dX6_count_51 ⟨by omega, by omega⟩ (by omega) (by omega) (show _ = some (113 : Int) from rfl) (by decide) ?_
          refine x_aload_n C dX6_count_164 rfl ?_
          refine gt_0_0 C q_232 dX6_count_165 ?_
          refine gh_0_6 C (by decide) (rfl : hs 0 = hs 0) q_143 dX6_count_168 rfl ?_
          have r_72 := RG.day R
          exact x_iret C D rfl dX6_count_171 (by first | omega | (unfold xCount; (repeat (first | rw [if_pos (by first | omega | assumption | exact not_not_intro (by assumption))] | rw [if_neg (by first | omega | assumption | exact not_not_intro (by assumption))])); all_goals rfl)) rfl rfl rfl
        by_cases v_73 : w = 1
        · subst v_73
          refine x_tabIn 172 C dX6_count_51 ⟨by omega, by omega⟩ (by omega) (by omega) (show _ = some (121 : Int) from rfl) (by decide) ?_
          refine x_aload_n C dX6_count_172 rfl ?_
          refine gt_0_0 C q_232 dX6_count_173 ?_
          refine gh_0_2 C (by decide) (rfl : hs 0 = hs 0) q_135 dX6_count_176 ?_
          refine gh_3_7 C (by decide) (rfl : hs 0 = hs 0) q_79 dX6_count_179 rfl ?_
          have r_74 := RG.made R
          exact x_iret C D rfl dX6_count_182 (by first | omega | (unfold xCount; (repeat (first | rw [if_pos (by first | omega | assumption | exact not_not_intro (by assumption))] | rw [if_neg (by first | omega | assumption | exact not_not_intro (by assumption))])); all_goals rfl)) rfl rfl rfl
        by_cases v_75 : w = 2
        · subst v_75
          refine x_tabIn 183 C dX6_count_51 ⟨by omega, by omega⟩ (by omega) (by omega) (show _ = some (132 : Int) from rfl) (by decide) ?_
          refine x_aload_n C dX6_count_183 rfl ?_
          refine gt_0_0 C q_232 dX6_count_184 ?_
          refine gh_0_2 C (by decide) (rfl : hs 0 = hs 0) q_135 dX6_count_187 ?_
          refine x_const C dX6_count_190 ?_
          refine x_callV (nA := 1) (As := [vI 0]) (rest := []) C (m_X1_howMany hE (by decide) (rfl : hs 0 = hs 0) R ⟨by omega, by omega⟩) q_286 q_287 q_288 q_24 q_289 (by decide +kernel) (wl_h (by decide) (rfl : hs 0 = hs 0) 3 (by decide)) rfl rfl (by decide) (by decide) (Nat.le_of_ble_eq_true rfl) dX6_count_191 rfl ?_
          exact x_iret C D rfl dX6_count_194 (by first | omega | (unfold xCount; (repeat (first | rw [if_pos (by first | omega | assumption | exact not_not_intro (by assumption))] | rw [if_neg (by first | omega | assumption | exact not_not_intro (by assumption))])); all_goals rfl)) rfl rfl rfl
        by_cases v_76 : w = 3
        · subst v_76
          refine x_tabIn 195 C dX6_count_51 ⟨by omega, by omega⟩ (by omega) (by omega) (show _ = some (144 : Int) from rfl) (by decide) ?_
          refine x_aload_n C dX6_count_195 rfl ?_
          refine gt_0_0 C q_232 dX6_count_196 ?_
          refine gh_0_2 C (by decide) (rfl : hs 0 = hs 0) q_135 dX6_count_199 ?_
          refine x_const C dX6_count_202 ?_
          refine x_callV (nA := 1) (As := [vI 1]) (rest := []) C (m_X1_howMany hE (by decide) (rfl : hs 0 = hs 0) R ⟨by omega, by omega⟩) q_286 q_287 q_288 q_24 q_289 (by decide +kernel) (wl_h (by decide) (rfl : hs 0 = hs 0) 3 (by decide)) rfl rfl (by decide) (by decide) (Nat.le_of_ble_eq_true rfl) dX6_count_203 rfl ?_
          exact x_iret C D rfl dX6_count_206 (by first | omega | (unfold xCount; (repeat (first | rw [if_pos (by first | omega | assumption | exact not_not_intro (by assumption))] | rw [if_neg (by first | omega | assumption | exact not_not_intro (by assumption))])); all_goals rfl)) rfl rfl rfl
        by_cases v_77 : w = 4
        · subst v_77
          refine x_tabIn 207 C dX6_count_51 ⟨by omega, by omega⟩ (by omega) (by omega) (show _ = some (156 : Int) from rfl) (by decide) ?_
          refine x_aload_n C dX6_count_207 rfl ?_
          refine gt_0_0 C q_232 dX6_count_208 ?_
          refine gh_0_2 C (by decide) (rfl : hs 0 = hs 0) q_135 dX6_count_211 ?_
          refine x_const C dX6_count_214 ?_
          refine x_callV (nA := 1) (As := [vI 2]) (rest := []) C (m_X1_howMany hE (by decide) (rfl : hs 0 = hs 0) R ⟨by omega, by omega⟩) q_286 q_287 q_288 q_24 q_289 (by decide +kernel) (wl_h (by decide) (rfl : hs 0 = hs 0) 3 (by decide)) rfl rfl (by decide) (by decide) (Nat.le_of_ble_eq_true rfl) dX6_count_215 rfl ?_
          exact x_iret C D rfl dX6_count_218 (by first | omega | (unfold xCount; (repeat (first | rw [if_pos (by first | omega | assumption | exact not_not_intro (by assumption))] | rw [if_neg (by first | omega | assumption | exact not_not_intro (by assumption))])); all_goals rfl)) rfl rfl rfl
        by_cases v_78 : w = 5
        · subst v_78
          refine x_tabIn 219 C dX6_count_51 ⟨by omega, by omega⟩ (by omega) (by omega) (show _ = some (168 : Int) from rfl) (by decide) ?_
          refine x_aload_n C dX6_count_219 rfl ?_
          refine gt_0_0 C q_232 dX6_count_220 ?_
          refine gh_0_2 C (by decide) (rfl : hs 0 = hs 0) q_135 dX6_count_223 ?_
          refine x_const C dX6_count_226 ?_
          refine x_callV (nA := 1) (As := [vI 3]) (rest := []) C (m_X1_howMany hE (by decide) (rfl : hs 0 = hs 0) R ⟨by omega, by omega⟩) q_286 q_287 q_288 q_24 q_289 (by decide +kernel) (wl_h (by decide) (rfl : hs 0 = hs 0) 3 (by decide)) rfl rfl (by decide) (by decide) (Nat.le_of_ble_eq_true rfl) dX6_count_227 rfl ?_
          exact x_iret C D rfl dX6_count_230 (by first | omega | (unfold xCount; (repeat (first | rw [if_pos (by first | omega | assumption | exact not_not_intro (by assumption))] | rw [if_neg (by first | omega | assumption | exact not_not_intro (by assumption))])); all_goals rfl)) rfl rfl rfl
        by_cases v_79 : w = 6
        · subst v_79
          refine x_tabIn 231 C dX6_count_51 ⟨by omega, by omega⟩ (by omega) (by omega) (show _ = some (180 : Int) from rfl) (by decide) ?_
          refine x_aload_n C dX6_count_231 rfl ?_
          refine gt_0_0 C q_232 dX6_count_232 ?_
          refine gh_0_2 C (by decide) (rfl : hs 0 = hs 0) q_135 dX6_count_235 ?_
          refine x_const C dX6_count_238 ?_
          refine x_callV (nA := 1) (As := [vI 4]) (rest := []) C (m_X1_howMany hE (by decide) (rfl : hs 0 = hs 0) R ⟨by omega, by omega⟩) q_286 q_287 q_288 q_24 q_289 (by decide +kernel) (wl_h (by decide) (rfl : hs 0 = hs 0) 3 (by decide)) rfl rfl (by decide) (by decide) (Nat.le_of_ble_eq_true rfl) dX6_count_239 rfl ?_
          exact x_iret C D rfl dX6_count_242 (by first | omega | (unfold xCount; (repeat (first | rw [if_pos (by first | omega | assumption | exact not_not_intro (by assumption))] | rw [if_neg (by first | omega | assumption | exact not_not_intro (by assumption))])); all_goals rfl)) rfl rfl rfl
        by_cases v_80 : w = 7
        · subst v_80
          refine x_tabIn 243 C dX6_count_51 ⟨by omega, by omega⟩ (by omega) (by omega) (show _ = some (192 : Int) from rfl) (by decide) ?_
          refine x_aload_n C dX6_count_243 rfl ?_
          refine gt_0_0 C q_232 dX6_count_244 ?_
          refine gh_0_2 C (by decide) (rfl : hs 0 = hs 0) q_135 dX6_count_247 ?_
          refine x_callV (nA := 0) (As := []) (rest := []) C (m_X1_personsThere hE (by decide) (rfl : hs 0 = hs 0) R) q_290 q_291 q_292 q_24 q_293 (by decide +kernel) (wl_h (by decide) (rfl : hs 0 = hs 0) 3 (by decide)) rfl rfl (by decide) (by decide) (Nat.le_of_ble_eq_true rfl) dX6_count_250 rfl ?_
          exact x_iret C D rfl dX6_count_253 (by first | omega | (unfold xCount; (repeat (first | rw [if_pos (by first | omega | assumption | exact not_not_intro (by assumption))] | rw [if_neg (by first | omega | assumption | exact not_not_intro (by assumption))])); all_goals rfl)) rfl rfl rfl
        by_cases v_81 : w = 8
        · subst v_81
          refine x_tabIn 254 C dX6_count_51 ⟨by omega, by omega⟩ (by omega) (by omega) (show _ = some (203 : Int) from rfl) (by decide) ?_
          refine x_const C dX6_count_254 ?_
          refine x_aload_n C dX6_count_255 rfl ?_
          refine gt_0_0 C q_232 dX6_count_256 ?_
          refine gh_0_2 C (by decide) (rfl : hs 0 = hs 0) q_135 dX6_count_259 ?_
          refine x_callV (nA := 0) (As := []) (rest := [vI 0]) C (m_X1_personsThere hE (by decide) (rfl : hs 0 = hs 0) R) q_290 q_291 q_292 q_24 q_293 (by decide +kernel) (wl_h (by decide) (rfl : hs 0 = hs 0) 3 (by decide)) rfl rfl (by decide) (by decide) (Nat.le_of_ble_eq_true rfl) dX6_count_262 rfl ?_
          refine x_aload_n C dX6_count_265 rfl ?_
          refine gt_0_0 C q_232 dX6_count_266 ?_
          refine gh_0_0 C (by decide) (rfl : hs 0 = hs 0) q_132 dX6_count_269 ?_
          refine x_const C dX6_count_272 ?_
          refine lh_1 C (by decide) (rfl : hs 0 = hs 0) (by omega) (by omega) dX6_count_273 rfl ?_
          have r_82 := RG.set' R (i := 0) (by omega) (by omega)
          refine x_isub C dX6_count_274 ?_
          refine x_max C q_294 q_295 q_29 q_296 (by decide) (Nat.le_of_ble_eq_true rfl) ⟨by omega, by omega⟩ ⟨by omega, by omega⟩ dX6_count_275 ?_
          exact x_iret C D rfl dX6_count_278 (by first | omega | (unfold xCount; (repeat (first | rw [if_pos (by first | omega | assumption | exact not_not_intro (by assumption))] | rw [if_neg (by first | omega | assumption | exact not_not_intro (by assumption))])); all_goals rfl)) rfl rfl rfl
        by_cases v_83 : w = 9
        · subst v_83
          refine x_tabIn 279 C dX6_count_51 ⟨by omega, by omega⟩ (by omega) (by omega) (show _ = some (228 : Int) from rfl) (by decide) ?_
          refine x_aload_n C dX6_count_279 rfl ?_
          refine gt_0_0 C q_232 dX6_count_280 ?_
          refine gh_0_3 C (by decide) (rfl : hs 0 = hs 0) q_137 dX6_count_283 ?_
          refine x_callV (nA := 0) (As := []) (rest := []) C (m_X4_allFresh hE (by decide) (rfl : hs 0 = hs 0) R) q_297 q_298 q_299 q_25 q_300 (by decide +kernel) (wl_h (by decide) (rfl : hs 0 = hs 0) 11 (by decide)) rfl rfl (by decide) (by decide) (Nat.le_of_ble_eq_true rfl) dX6_count_286 rfl ?_
          exact x_iret C D rfl dX6_count_289 (by first | omega | (unfold xCount; (repeat (first | rw [if_pos (by first | omega | assumption | exact not_not_intro (by assumption))] | rw [if_neg (by first | omega | assumption | exact not_not_intro (by assumption))])); all_goals rfl)) rfl rfl rfl
        by_cases v_84 : w = 10
        · subst v_84
          refine x_tabIn 290 C dX6_count_51 ⟨by omega, by omega⟩ (by omega) (by omega) (show _ = some (239 : Int) from rfl) (by decide) ?_
          refine x_aload_n C dX6_count_290 rfl ?_
          refine gt_0_0 C q_232 dX6_count_291 ?_
          refine gh_0_3 C (by decide) (rfl : hs 0 = hs 0) q_137 dX6_count_294 ?_
          refine gh_11_1 C (by decide) (rfl : hs 0 = hs 0) q_106 dX6_count_297 rfl ?_
          have r_85 := RG.dry R
          exact x_iret C D rfl dX6_count_300 (by first | omega | (unfold xCount; (repeat (first | rw [if_pos (by first | omega | assumption | exact not_not_intro (by assumption))] | rw [if_neg (by first | omega | assumption | exact not_not_intro (by assumption))])); all_goals rfl)) rfl rfl rfl
        by_cases v_86 : w = 11
        · subst v_86
          refine x_tabIn 301 C dX6_count_51 ⟨by omega, by omega⟩ (by omega) (by omega) (show _ = some (250 : Int) from rfl) (by decide) ?_
          refine x_aload_n C dX6_count_301 rfl ?_
          refine gt_0_0 C q_232 dX6_count_302 ?_
          refine gh_0_4 C (by decide) (rfl : hs 0 = hs 0) q_139 dX6_count_305 ?_
          refine gh_13_2 C (by decide) (rfl : hs 0 = hs 0) q_122 dX6_count_308 rfl ?_
          have r_87 := RG.siz R
          exact x_iret C D rfl dX6_count_311 (by first | omega | (unfold xCount; (repeat (first | rw [if_pos (by first | omega | assumption | exact not_not_intro (by assumption))] | rw [if_neg (by first | omega | assumption | exact not_not_intro (by assumption))])); all_goals rfl)) rfl rfl rfl
        by_cases v_88 : w = 12
        · subst v_88
          refine x_tabIn 312 C dX6_count_51 ⟨by omega, by omega⟩ (by omega) (by omega) (show _ = some (261 : Int) from rfl) (by decide) ?_
          refine x_aload_n C dX6_count_312 rfl ?_
          refine gt_0_0 C q_232 dX6_count_313 ?_
          refine gh_0_4 C (by decide) (rfl : hs 0 = hs 0) q_139 dX6_count_316 ?_
          refine x_callV (nA := 0) (As := []) (rest := []) C (m_X5_allPortions hE (by decide) (rfl : hs 0 = hs 0) R) q_301 q_302 q_303 q_26 q_304 (by decide +kernel) (wl_h (by decide) (rfl : hs 0 = hs 0) 13 (by decide)) rfl rfl (by decide) (by decide) (Nat.le_of_ble_eq_true rfl) dX6_count_319 rfl ?_
          exact x_iret C D rfl dX6_count_322 (by first | omega | (unfold xCount; (repeat (first | rw [if_pos (by first | omega | assumption | exact not_not_intro (by assumption))] | rw [if_neg (by first | omega | assumption | exact not_not_intro (by assumption))])); all_goals rfl)) rfl rfl rfl
        by_cases v_89 : w = 13
        · subst v_89
          refine x_tabIn 323 C dX6_count_51 ⟨by omega, by omega⟩ (by omega) (by omega) (show _ = some (272 : Int) from rfl) (by decide) ?_
          refine x_aload_n C dX6_count_323 rfl ?_
          refine gt_0_0 C q_232 dX6_count_324 ?_
          refine gh_0_7 C (by decide) (rfl : hs 0 = hs 0) q_145 dX6_count_327 rfl ?_
          have r_90 := RG.cal R
          refine x_if_eq 337 C dX6_count_330 (by decide) ⟨by omega, by omega⟩ (fun c_91 => ?_) (fun c_91 => ?_)
          · refine x_const C dX6_count_337 ?_
            exact x_iret C D rfl dX6_count_338 (by first | omega | (unfold xCount; (repeat (first | rw [if_pos (by first | omega | assumption | exact not_not_intro (by assumption))] | rw [if_neg (by first | omega | assumption | exact not_not_intro (by assumption))])); all_goals rfl)) rfl rfl rfl
          · refine x_const C dX6_count_333 ?_
            refine x_goto 338 C dX6_count_334 (by decide) ?_
            exact x_iret C D rfl dX6_count_338 (by first | omega | (unfold xCount; (repeat (first | rw [if_pos (by first | omega | assumption | exact not_not_intro (by assumption))] | rw [if_neg (by first | omega | assumption | exact not_not_intro (by assumption))])); all_goals rfl)) rfl rfl rfl
        by_cases v_92 : w = 14
        · subst v_92
          refine x_tabIn 355 C dX6_count_51 ⟨by omega, by omega⟩ (by omega) (by omega) (show _ = some (304 : Int) from rfl) (by decide) ?_
          refine x_ldc (n := (-1000002)) C q_305 dX6_count_355 rfl ?_
          exact x_iret C D rfl dX6_count_357 (by first | omega | (unfold xCount; (repeat (first | rw [if_pos (by first | omega | assumption | exact not_not_intro (by assumption))] | rw [if_neg (by first | omega | assumption | exact not_not_intro (by assumption))])); all_goals rfl)) rfl rfl rfl
        by_cases v_93 : w = 15
        · subst v_93
          refine x_tabIn 355 C dX6_count_51 ⟨by omega, by omega⟩ (by omega) (by omega) (show _ = some (304 : Int) from rfl) (by decide) ?_
          refine x_ldc (n := (-1000002)) C q_305 dX6_count_355 rfl ?_
          exact x_iret C D rfl dX6_count_357 (by first | omega | (unfold xCount; (repeat (first | rw [if_pos (by first | omega | assumption | exact not_not_intro (by assumption))] | rw [if_neg (by first | omega | assumption | exact not_not_intro (by assumption))])); all_goals rfl)) rfl rfl rfl
        by_cases v_94 : w = 16
        · subst v_94
          refine x_tabIn 355 C dX6_count_51 ⟨by omega, by omega⟩ (by omega) (by omega) (show _ = some (304 : Int) from rfl) (by decide) ?_
          refine x_ldc (n := (-1000002)) C q_305 dX6_count_355 rfl ?_
          exact x_iret C D rfl dX6_count_357 (by first | omega | (unfold xCount; (repeat (first | rw [if_pos (by first | omega | assumption | exact not_not_intro (by assumption))] | rw [if_neg (by first | omega | assumption | exact not_not_intro (by assumption))])); all_goals rfl)) rfl rfl rfl
        by_cases v_95 : w = 17
        · subst v_95
          refine x_tabIn 355 C dX6_count_51 ⟨by omega, by omega⟩ (by omega) (by omega) (show _ = some (304 : Int) from rfl) (by decide) ?_
          refine x_ldc (n := (-1000002)) C q_305 dX6_count_355 rfl ?_
          exact x_iret C D rfl dX6_count_357 (by first | omega | (unfold xCount; (repeat (first | rw [if_pos (by first | omega | assumption | exact not_not_intro (by assumption))] | rw [if_neg (by first | omega | assumption | exact not_not_intro (by assumption))])); all_goals rfl)) rfl rfl rfl
        by_cases v_96 : w = 18
        · subst v_96
          refine x_tabIn 355 C dX6_count_51 ⟨by omega, by omega⟩ (by omega) (by omega) (show _ = some (304 : Int) from rfl) (by decide) ?_
          refine x_ldc (n := (-1000002)) C q_305 dX6_count_355 rfl ?_
          exact x_iret C D rfl dX6_count_357 (by first | omega | (unfold xCount; (repeat (first | rw [if_pos (by first | omega | assumption | exact not_not_intro (by assumption))] | rw [if_neg (by first | omega | assumption | exact not_not_intro (by assumption))])); all_goals rfl)) rfl rfl rfl
        by_cases v_97 : w = 19
        · subst v_97
          refine x_tabIn 355 C dX6_count_51 ⟨by omega, by omega⟩ (by omega) (by omega) (show _ = some (304 : Int) from rfl) (by decide) ?_
          refine x_ldc (n := (-1000002)) C q_305 dX6_count_355 rfl ?_
          exact x_iret C D rfl dX6_count_357 (by first | omega | (unfold xCount; (repeat (first | rw [if_pos (by first | omega | assumption | exact not_not_intro (by assumption))] | rw [if_neg (by first | omega | assumption | exact not_not_intro (by assumption))])); all_goals rfl)) rfl rfl rfl
        by_cases v_98 : w = 20
        · subst v_98
          refine x_tabIn 355 C dX6_count_51 ⟨by omega, by omega⟩ (by omega) (by omega) (show _ = some (304 : Int) from rfl) (by decide) ?_
          refine x_ldc (n := (-1000002)) C q_305 dX6_count_355 rfl ?_
          exact x_iret C D rfl dX6_count_357 (by first | omega | (unfold xCount; (repeat (first | rw [if_pos (by first | omega | assumption | exact not_not_intro (by assumption))] | rw [if_neg (by first | omega | assumption | exact not_not_intro (by assumption))])); all_goals rfl)) rfl rfl rfl
        by_cases v_99 : w = 21
        · subst v_99
          refine x_tabIn 355 C dX6_count_51 ⟨by omega, by omega⟩ (by omega) (by omega) (show _ = some (304 : Int) from rfl) (by decide) ?_
          refine x_ldc (n := (-1000002)) C q_305 dX6_count_355 rfl ?_
          exact x_iret C D rfl dX6_count_357 (by first | omega | (unfold xCount; (repeat (first | rw [if_pos (by first | omega | assumption | exact not_not_intro (by assumption))] | rw [if_neg (by first | omega | assumption | exact not_not_intro (by assumption))])); all_goals rfl)) rfl rfl rfl
        by_cases v_100 : w = 22
        · subst v_100
          refine x_tabIn 355 C dX6_count_51 ⟨by omega, by omega⟩ (by omega) (by omega) (show _ = some (304 : Int) from rfl) (by decide) ?_
          refine x_ldc (n := (-1000002)) C q_305 dX6_count_355 rfl ?_
          exact x_iret C D rfl dX6_count_357 (by first | omega | (unfold xCount; (repeat (first | rw [if_pos (by first | omega | assumption | exact not_not_intro (by assumption))] | rw [if_neg (by first | omega | assumption | exact not_not_intro (by assumption))])); all_goals rfl)) rfl rfl rfl
        by_cases v_101 : w = 23
        · subst v_101
          refine x_tabIn 339 C dX6_count_51 ⟨by omega, by omega⟩ (by omega) (by omega) (show _ = some (288 : Int) from rfl) (by decide) ?_
          refine x_aload_n C dX6_count_339 rfl ?_
          refine gt_0_4 C q_236 dX6_count_340 ?_
          refine gt_2_1 C q_186 dX6_count_343 rfl ?_
          exact x_iret C D rfl dX6_count_346 (by first | omega | (unfold xCount; (repeat (first | rw [if_pos (by first | omega | assumption | exact not_not_intro (by assumption))] | rw [if_neg (by first | omega | assumption | exact not_not_intro (by assumption))])); all_goals rfl)) rfl rfl rfl
        by_cases v_102 : w = 24
        · subst v_102
          refine x_tabIn 347 C dX6_count_51 ⟨by omega, by omega⟩ (by omega) (by omega) (show _ = some (296 : Int) from rfl) (by decide) ?_
          refine x_aload_n C dX6_count_347 rfl ?_
          refine gt_0_5 C q_237 dX6_count_348 ?_
          refine gt_4_1 C q_200 dX6_count_351 rfl ?_
          exact x_iret C D rfl dX6_count_354 (by first | omega | (unfold xCount; (repeat (first | rw [if_pos (by first | omega | assumption | exact not_not_intro (by assumption))] | rw [if_neg (by first | omega | assumption | exact not_not_intro (by assumption))])); all_goals rfl)) rfl rfl rfl
        refine x_tabOut 355 C dX6_count_51 ⟨by omega, by omega⟩ (by omega) (by decide) ?_
        refine x_ldc (n := (-1000002)) C q_305 dX6_count_355 rfl ?_
        exact x_iret C D rfl dX6_count_357 (by first | omega | (unfold xCount; (repeat (first | rw [if_pos (by first | omega | assumption | exact not_not_intro (by assumption))] | rw [if_neg (by first | omega | assumption | exact not_not_intro (by assumption))])); all_goals rfl)) rfl rfl rfl
      · refine x_iload_n C dX6_count_31 rfl ?_
        refine x_bipush C dX6_count_32 (by decide) ?_
        refine x_icmp_ge 50 C dX6_count_34 (by decide) ⟨by omega, by omega⟩ ⟨by omega, by omega⟩ (fun c_103 => ?_) (fun c_103 => ?_)
        · refine x_iload_n C dX6_count_50 rfl ?_
          by_cases v_104 : w = 0
          · subst v_104
            refine x_tabIn 164 C dX6_count_51 ⟨by omega, by omega⟩ (by omega) (by omega) (show _ = some (113 : Int) from rfl) (by decide) ?_
            refine x_aload_n C dX6_count_164 rfl ?_
            refine gt_0_0 C q_232 dX6_count_165 ?_
            refine gh_0_6 C (by decide) (rfl : hs 0 = hs 0) q_143 dX6_count_168 rfl ?_
            have r_105 := RG.day R
            exact x_iret C D rfl dX6_count_171 (by first | omega | (unfold xCount; (repeat (first | rw [if_pos (by first | omega | assumption | exact not_not_intro (by assumption))] | rw [if_neg (by first | omega | assumption | exact not_not_intro (by assumption))])); all_goals rfl)) rfl rfl rfl
          by_cases v_106 : w = 1
          · subst v_106
            refine x_tabIn 172 C dX6_count_51 ⟨by omega, by omega⟩ (by omega) (by omega) (show _ = some (121 : Int) from rfl) (by decide) ?_
            refine x_aload_n C dX6_count_172 rfl ?_
            refine gt_0_0 C q_232 dX6_count_173 ?_
            refine gh_0_2 C (by decide) (rfl : hs 0 = hs 0) q_135 dX6_count_176 ?_
            refine gh_3_7 C (by decide) (rfl : hs 0 = hs 0) q_79 dX6_count_179 rfl ?_
            have r_107 := RG.made R
            exact x_iret C D rfl dX6_count_182 (by first | omega | (unfold xCount; (repeat (first | rw [if_pos (by first | omega | assumption | exact not_not_intro (by assumption))] | rw [if_neg (by first | omega | assumption | exact not_not_intro (by assumption))])); all_goals rfl)) rfl rfl rfl
          by_cases v_108 : w = 2
          · subst v_108
            refine x_tabIn 183 C dX6_count_51 ⟨by omega, by omega⟩ (by omega) (by omega) (show _ = some (132 : Int) from rfl) (by decide) ?_
            refine x_aload_n C dX6_count_183 rfl ?_
            refine gt_0_0 C q_232 dX6_count_184 ?_
            refine gh_0_2 C (by decide) (rfl : hs 0 = hs 0) q_135 dX6_count_187 ?_
            refine x_const C dX6_count_190 ?_
            refine x_callV (nA := 1) (As := [vI 0]) (rest := []) C (m_X1_howMany hE (by decide) (rfl : hs 0 = hs 0) R ⟨by omega, by omega⟩) q_286 q_287 q_288 q_24 q_289 (by decide +kernel) (wl_h (by decide) (rfl : hs 0 = hs 0) 3 (by decide)) rfl rfl (by decide) (by decide) (Nat.le_of_ble_eq_true rfl) dX6_count_191 rfl ?_
            exact x_iret C D rfl dX6_count_194 (by first | omega | (unfold xCount; (repeat (first | rw [if_pos (by first | omega | assumption | exact not_not_intro (by assumption))] | rw [if_neg (by first | omega | assumption | exact not_not_intro (by assumption))])); all_goals rfl)) rfl rfl rfl
          by_cases v_109 : w = 3
          · subst v_109
            refine x_tabIn 195 C dX6_count_51 ⟨by omega, by omega⟩ (by omega) (by omega) (show _ = some (144 : Int) from rfl) (by decide) ?_
            refine x_aload_n C dX6_count_195 rfl ?_
            refine gt_0_0 C q_232 dX6_count_196 ?_
            refine gh_0_2 C (by decide) (rfl : hs 0 = hs 0) q_135 dX6_count_199 ?_
            refine x_const C dX6_count_202 ?_
            refine x_callV (nA := 1) (As := [vI 1]) (rest := []) C (m_X1_howMany hE (by decide) (rfl : hs 0 = hs 0) R ⟨by omega, by omega⟩) q_286 q_287 q_288 q_24 q_289 (by decide +kernel) (wl_h (by decide) (rfl : hs 0 = hs 0) 3 (by decide)) rfl rfl (by decide) (by decide) (Nat.le_of_ble_eq_true rfl) dX6_count_203 rfl ?_
            exact x_iret C D rfl dX6_count_206 (by first | omega | (unfold xCount; (repeat (first | rw [if_pos (by first | omega | assumption | exact not_not_intro (by assumption))] | rw [if_neg (by first | omega | assumption | exact not_not_intro (by assumption))])); all_goals rfl)) rfl rfl rfl
          by_cases v_110 : w = 4
          · subst v_110
            refine x_tabIn 207 C dX6_count_51 ⟨by omega, by omega⟩ (by omega) (by omega) (show _ = some (156 : Int) from rfl) (by decide) ?_
            refine x_aload_n C dX6_count_207 rfl ?_
            refine gt_0_0 C q_232 dX6_count_208 ?_
            refine gh_0_2 C (by decide) (rfl : hs 0 = hs 0) q_135 dX6_count_211 ?_
            refine x_const C dX6_count_214 ?_
            refine x_callV (nA := 1) (As := [vI 2]) (rest := []) C (m_X1_howMany hE (by decide) (rfl : hs 0 = hs 0) R ⟨by omega, by omega⟩) q_286 q_287 q_288 q_24 q_289 (by decide +kernel) (wl_h (by decide) (rfl : hs 0 = hs 0) 3 (by decide)) rfl rfl (by decide) (by decide) (Nat.le_of_ble_eq_true rfl) dX6_count_215 rfl ?_
            exact x_iret C D rfl dX6_count_218 (by first | omega | (unfold xCount; (repeat (first | rw [if_pos (by first | omega | assumption | exact not_not_intro (by assumption))] | rw [if_neg (by first | omega | assumption | exact not_not_intro (by assumption))])); all_goals rfl)) rfl rfl rfl
          by_cases v_111 : w = 5
          · subst v_111
            refine x_tabIn 219 C dX6_count_51 ⟨by omega, by omega⟩ (by omega) (by omega) (show _ = some (168 : Int) from rfl) (by decide) ?_
            refine x_aload_n C dX6_count_219 rfl ?_
            refine gt_0_0 C q_232 dX6_count_220 ?_
            refine gh_0_2 C (by decide) (rfl : hs 0 = hs 0) q_135 dX6_count_223 ?_
            refine x_const C dX6_count_226 ?_
            refine x_callV (nA := 1) (As := [vI 3]) (rest := []) C (m_X1_howMany hE (by decide) (rfl : hs 0 = hs 0) R ⟨by omega, by omega⟩) q_286 q_287 q_288 q_24 q_289 (by decide +kernel) (wl_h (by decide) (rfl : hs 0 = hs 0) 3 (by decide)) rfl rfl (by decide) (by decide) (Nat.le_of_ble_eq_true rfl) dX6_count_227 rfl ?_
            exact x_iret C D rfl dX6_count_230 (by first | omega | (unfold xCount; (repeat (first | rw [if_pos (by first | omega | assumption | exact not_not_intro (by assumption))] | rw [if_neg (by first | omega | assumption | exact not_not_intro (by assumption))])); all_goals rfl)) rfl rfl rfl
          by_cases v_112 : w = 6
          · subst v_112
            refine x_tabIn 231 C dX6_count_51 ⟨by omega, by omega⟩ (by omega) (by omega) (show _ = some (180 : Int) from rfl) (by decide) ?_
            refine x_aload_n C dX6_count_231 rfl ?_
            refine gt_0_0 C q_232 dX6_count_232 ?_
            refine gh_0_2 C (by decide) (rfl : hs 0 = hs 0) q_135 dX6_count_235 ?_
            refine x_const C dX6_count_238 ?_
            refine x_callV (nA := 1) (As := [vI 4]) (rest := []) C (m_X1_howMany hE (by decide) (rfl : hs 0 = hs 0) R ⟨by omega, by omega⟩) q_286 q_287 q_288 q_24 q_289 (by decide +kernel) (wl_h (by decide) (rfl : hs 0 = hs 0) 3 (by decide)) rfl rfl (by decide) (by decide) (Nat.le_of_ble_eq_true rfl) dX6_count_239 rfl ?_
            exact x_iret C D rfl dX6_count_242 (by first | omega | (unfold xCount; (repeat (first | rw [if_pos (by first | omega | assumption | exact not_not_intro (by assumption))] | rw [if_neg (by first | omega | assumption | exact not_not_intro (by assumption))])); all_goals rfl)) rfl rfl rfl
          by_cases v_113 : w = 7
          · subst v_113
            refine x_tabIn 243 C dX6_count_51 ⟨by omega, by omega⟩ (by omega) (by omega) (show _ = some (192 : Int) from rfl) (by decide) ?_
            refine x_aload_n C dX6_count_243 rfl ?_
            refine gt_0_0 C q_232 dX6_count_244 ?_
            refine gh_0_2 C (by decide) (rfl : hs 0 = hs 0) q_135 dX6_count_247 ?_
            refine x_callV (nA := 0) (As := []) (rest := []) C (m_X1_personsThere hE (by decide) (rfl : hs 0 = hs 0) R) q_290 q_291 q_292 q_24 q_293 (by decide +kernel) (wl_h (by decide) (rfl : hs 0 = hs 0) 3 (by decide)) rfl rfl (by decide) (by decide) (Nat.le_of_ble_eq_true rfl) dX6_count_250 rfl ?_
            exact x_iret C D rfl dX6_count_253 (by first | omega | (unfold xCount; (repeat (first | rw [if_pos (by first | omega | assumption | exact not_not_intro (by assumption))] | rw [if_neg (by first | omega | assumption | exact not_not_intro (by assumption))])); all_goals rfl)) rfl rfl rfl
          by_cases v_114 : w = 8
          · subst v_114
            refine x_tabIn 254 C dX6_count_51 ⟨by omega, by omega⟩ (by omega) (by omega) (show _ = some (203 : Int) from rfl) (by decide) ?_
            refine x_const C dX6_count_254 ?_
            refine x_aload_n C dX6_count_255 rfl ?_
            refine gt_0_0 C q_232 dX6_count_256 ?_
            refine gh_0_2 C (by decide) (rfl : hs 0 = hs 0) q_135 dX6_count_259 ?_
            refine x_callV (nA := 0) (As := []) (rest := [vI 0]) C (m_X1_personsThere hE (by decide) (rfl : hs 0 = hs 0) R) q_290 q_291 q_292 q_24 q_293 (by decide +kernel) (wl_h (by decide) (rfl : hs 0 = hs 0) 3 (by decide)) rfl rfl (by decide) (by decide) (Nat.le_of_ble_eq_true rfl) dX6_count_262 rfl ?_
            refine x_aload_n C dX6_count_265 rfl ?_
            refine gt_0_0 C q_232 dX6_count_266 ?_
            refine gh_0_0 C (by decide) (rfl : hs 0 = hs 0) q_132 dX6_count_269 ?_
            refine x_const C dX6_count_272 ?_
            refine lh_1 C (by decide) (rfl : hs 0 = hs 0) (by omega) (by omega) dX6_count_273 rfl ?_
            have r_115 := RG.set' R (i := 0) (by omega) (by omega)
            refine x_isub C dX6_count_274 ?_
            refine x_max C q_294 q_295 q_29 q_296 (by decide) (Nat.le_of_ble_eq_true rfl) ⟨by omega, by omega⟩ ⟨by omega, by omega⟩ dX6_count_275 ?_
            exact x_iret C D rfl dX6_count_278 (by first | omega | (unfold xCount; (repeat (first | rw [if_pos (by first | omega | assumption | exact not_not_intro (by assumption))] | rw [if_neg (by first | omega | assumption | exact not_not_intro (by assumption))])); all_goals rfl)) rfl rfl rfl
          by_cases v_116 : w = 9
          · subst v_116
            refine x_tabIn 279 C dX6_count_51 ⟨by omega, by omega⟩ (by omega) (by omega) (show _ = some (228 : Int) from rfl) (by decide) ?_
            refine x_aload_n C dX6_count_279 rfl ?_
            refine gt_0_0 C q_232 dX6_count_280 ?_
            refine gh_0_3 C (by decide) (rfl : hs 0 = hs 0) q_137 dX6_count_283 ?_
            refine x_callV (nA := 0) (As := []) (rest := []) C (m_X4_allFresh hE (by decide) (rfl : hs 0 = hs 0) R) q_297 q_298 q_299 q_25 q_300 (by decide +kernel) (wl_h (by decide) (rfl : hs 0 = hs 0) 11 (by decide)) rfl rfl (by decide) (by decide) (Nat.le_of_ble_eq_true rfl) dX6_count_286 rfl ?_
            exact x_iret C D rfl dX6_count_289 (by first | omega | (unfold xCount; (repeat (first | rw [if_pos (by first | omega | assumption | exact not_not_intro (by assumption))] | rw [if_neg (by first | omega | assumption | exact not_not_intro (by assumption))])); all_goals rfl)) rfl rfl rfl
          by_cases v_117 : w = 10
          · subst v_117
            refine x_tabIn 290 C dX6_count_51 ⟨by omega, by omega⟩ (by omega) (by omega) (show _ = some (239 : Int) from rfl) (by decide) ?_
            refine x_aload_n C dX6_count_290 rfl ?_
            refine gt_0_0 C q_232 dX6_count_291 ?_
            refine gh_0_3 C (by decide) (rfl : hs 0 = hs 0) q_137 dX6_count_294 ?_
            refine gh_11_1 C (by decide) (rfl : hs 0 = hs 0) q_106 dX6_count_297 rfl ?_
            have r_118 := RG.dry R
            exact x_iret C D rfl dX6_count_300 (by first | omega | (unfold xCount; (repeat (first | rw [if_pos (by first | omega | assumption | exact not_not_intro (by assumption))] | rw [if_neg (by first | omega | assumption | exact not_not_intro (by assumption))])); all_goals rfl)) rfl rfl rfl
          by_cases v_119 : w = 11
          · subst v_119
            refine x_tabIn 301 C dX6_count_51 ⟨by omega, by omega⟩ (by omega) (by omega) (show _ = some (250 : Int) from rfl) (by decide) ?_
            refine x_aload_n C dX6_count_301 rfl ?_
            refine gt_0_0 C q_232 dX6_count_302 ?_
            refine gh_0_4 C (by decide) (rfl : hs 0 = hs 0) q_139 dX6_count_305 ?_
            refine gh_13_2 C (by decide) (rfl : hs 0 = hs 0) q_122 dX6_count_308 rfl ?_
            have r_120 := RG.siz R
            exact x_iret C D rfl dX6_count_311 (by first | omega | (unfold xCount; (repeat (first | rw [if_pos (by first | omega | assumption | exact not_not_intro (by assumption))] | rw [if_neg (by first | omega | assumption | exact not_not_intro (by assumption))])); all_goals rfl)) rfl rfl rfl
          by_cases v_121 : w = 12
          · subst v_121
            refine x_tabIn 312 C dX6_count_51 ⟨by omega, by omega⟩ (by omega) (by omega) (show _ = some (261 : Int) from rfl) (by decide) ?_
            refine x_aload_n C dX6_count_312 rfl ?_
            refine gt_0_0 C q_232 dX6_count_313 ?_
            refine gh_0_4 C (by decide) (rfl : hs 0 = hs 0) q_139 dX6_count_316 ?_
            refine x_callV (nA := 0) (As := []) (rest := []) C (m_X5_allPortions hE (by decide) (rfl : hs 0 = hs 0) R) q_301 q_302 q_303 q_26 q_304 (by decide +kernel) (wl_h (by decide) (rfl : hs 0 = hs 0) 13 (by decide)) rfl rfl (by decide) (by decide) (Nat.le_of_ble_eq_true rfl) dX6_count_319 rfl ?_
            exact x_iret C D rfl dX6_count_322 (by first | omega | (unfold xCount; (repeat (first | rw [if_pos (by first | omega | assumption | exact not_not_intro (by assumption))] | rw [if_neg (by first | omega | assumption | exact not_not_intro (by assumption))])); all_goals rfl)) rfl rfl rfl
          by_cases v_122 : w = 13
          · subst v_122
            refine x_tabIn 323 C dX6_count_51 ⟨by omega, by omega⟩ (by omega) (by omega) (show _ = some (272 : Int) from rfl) (by decide) ?_
            refine x_aload_n C dX6_count_323 rfl ?_
            refine gt_0_0 C q_232 dX6_count_324 ?_
            refine gh_0_7 C (by decide) (rfl : hs 0 = hs 0) q_145 dX6_count_327 rfl ?_
            have r_123 := RG.cal R
            refine x_if_eq 337 C dX6_count_330 (by decide) ⟨by omega, by omega⟩ (fun c_124 => ?_) (fun c_124 => ?_)
            · refine x_const C dX6_count_337 ?_
              exact x_iret C D rfl dX6_count_338 (by first | omega | (unfold xCount; (repeat (first | rw [if_pos (by first | omega | assumption | exact not_not_intro (by assumption))] | rw [if_neg (by first | omega | assumption | exact not_not_intro (by assumption))])); all_goals rfl)) rfl rfl rfl
            · refine x_const C dX6_count_333 ?_
              refine x_goto 338 C dX6_count_334 (by decide) ?_
              exact x_iret C D rfl dX6_count_338 (by first | omega | (unfold xCount; (repeat (first | rw [if_pos (by first | omega | assumption | exact not_not_intro (by assumption))] | rw [if_neg (by first | omega | assumption | exact not_not_intro (by assumption))])); all_goals rfl)) rfl rfl rfl
          by_cases v_125 : w = 14
          · subst v_125
            refine x_tabIn 355 C dX6_count_51 ⟨by omega, by omega⟩ (by omega) (by omega) (show _ = some (304 : Int) from rfl) (by decide) ?_
            refine x_ldc (n := (-1000002)) C q_305 dX6_count_355 rfl ?_
            exact x_iret C D rfl dX6_count_357 (by first | omega | (unfold xCount; (repeat (first | rw [if_pos (by first | omega | assumption | exact not_not_intro (by assumption))] | rw [if_neg (by first | omega | assumption | exact not_not_intro (by assumption))])); all_goals rfl)) rfl rfl rfl
          by_cases v_126 : w = 15
          · subst v_126
            refine x_tabIn 355 C dX6_count_51 ⟨by omega, by omega⟩ (by omega) (by omega) (show _ = some (304 : Int) from rfl) (by decide) ?_
            refine x_ldc (n := (-1000002)) C q_305 dX6_count_355 rfl ?_
            exact x_iret C D rfl dX6_count_357 (by first | omega | (unfold xCount; (repeat (first | rw [if_pos (by first | omega | assumption | exact not_not_intro (by assumption))] | rw [if_neg (by first | omega | assumption | exact not_not_intro (by assumption))])); all_goals rfl)) rfl rfl rfl
          by_cases v_127 : w = 16
          · subst v_127
            refine x_tabIn 355 C dX6_count_51 ⟨by omega, by omega⟩ (by omega) (by omega) (show _ = some (304 : Int) from rfl) (by decide) ?_
            refine x_ldc (n := (-1000002)) C q_305 dX6_count_355 rfl ?_
            exact x_iret C D rfl dX6_count_357 (by first | omega | (unfold xCount; (repeat (first | rw [if_pos (by first | omega | assumption | exact not_not_intro (by assumption))] | rw [if_neg (by first | omega | assumption | exact not_not_intro (by assumption))])); all_goals rfl)) rfl rfl rfl
          by_cases v_128 : w = 17
          · subst v_128
            refine x_tabIn 355 C dX6_count_51 ⟨by omega, by omega⟩ (by omega) (by omega) (show _ = some (304 : Int) from rfl) (by decide) ?_
            refine x_ldc (n := (-1000002)) C q_305 dX6_count_355 rfl ?_
            exact x_iret C D rfl dX6_count_357 (by first | omega | (unfold xCount; (repeat (first | rw [if_pos (by first | omega | assumption | exact not_not_intro (by assumption))] | rw [if_neg (by first | omega | assumption | exact not_not_intro (by assumption))])); all_goals rfl)) rfl rfl rfl
          by_cases v_129 : w = 18
          · subst v_129
            refine x_tabIn 355 C dX6_count_51 ⟨by omega, by omega⟩ (by omega) (by omega) (show _ = some (304 : Int) from rfl) (by decide) ?_
            refine x_ldc (n := (-1000002)) C q_305 dX6_count_355 rfl ?_
            exact x_iret C D rfl dX6_count_357 (by first | omega | (unfold xCount; (repeat (first | rw [if_pos (by first | omega | assumption | exact not_not_intro (by assumption))] | rw [if_neg (by first | omega | assumption | exact not_not_intro (by assumption))])); all_goals rfl)) rfl rfl rfl
          by_cases v_130 : w = 19
          · subst v_130
            refine x_tabIn 355 C dX6_count_51 ⟨by omega, by omega⟩ (by omega) (by omega) (show _ = some (304 : Int) from rfl) (by decide) ?_
            refine x_ldc (n := (-1000002)) C q_305 dX6_count_355 rfl ?_
            exact x_iret C D rfl dX6_count_357 (by first | omega | (unfold xCount; (repeat (first | rw [if_pos (by first | omega | assumption | exact not_not_intro (by assumption))] | rw [if_neg (by first | omega | assumption | exact not_not_intro (by assumption))])); all_goals rfl)) rfl rfl rfl
          by_cases v_131 : w = 20
          · subst v_131
            refine x_tabIn 355 C dX6_count_51 ⟨by omega, by omega⟩ (by omega) (by omega) (show _ = some (304 : Int) from rfl) (by decide) ?_
            refine x_ldc (n := (-1000002)) C q_305 dX6_count_355 rfl ?_
            exact x_iret C D rfl dX6_count_357 (by first | omega | (unfold xCount; (repeat (first | rw [if_pos (by first | omega | assumption | exact not_not_intro (by assumption))] | rw [if_neg (by first | omega | assumption | exact not_not_intro (by assumption))])); all_goals rfl)) rfl rfl rfl
          by_cases v_132 : w = 21
          · subst v_132
            refine x_tabIn 355 C dX6_count_51 ⟨by omega, by omega⟩ (by omega) (by omega) (show _ = some (304 : Int) from rfl) (by decide) ?_
            refine x_ldc (n := (-1000002)) C q_305 dX6_count_355 rfl ?_
            exact x_iret C D rfl dX6_count_357 (by first | omega | (unfold xCount; (repeat (first | rw [if_pos (by first | omega | assumption | exact not_not_intro (by assumption))] | rw [if_neg (by first | omega | assumption | exact not_not_intro (by assumption))])); all_goals rfl)) rfl rfl rfl
          by_cases v_133 : w = 22
          · subst v_133
            refine x_tabIn 355 C dX6_count_51 ⟨by omega, by omega⟩ (by omega) (by omega) (show _ = some (304 : Int) from rfl) (by decide) ?_
            refine x_ldc (n := (-1000002)) C q_305 dX6_count_355 rfl ?_
            exact x_iret C D rfl dX6_count_357 (by first | omega | (unfold xCount; (repeat (first | rw [if_pos (by first | omega | assumption | exact not_not_intro (by assumption))] | rw [if_neg (by first | omega | assumption | exact not_not_intro (by assumption))])); all_goals rfl)) rfl rfl rfl
          by_cases v_134 : w = 23
          · subst v_134
            refine x_tabIn 339 C dX6_count_51 ⟨by omega, by omega⟩ (by omega) (by omega) (show _ = some (288 : Int) from rfl) (by decide) ?_
            refine x_aload_n C dX6_count_339 rfl ?_
            refine gt_0_4 C q_236 dX6_count_340 ?_
            refine gt_2_1 C q_186 dX6_count_343 rfl ?_
            exact x_iret C D rfl dX6_count_346 (by first | omega | (unfold xCount; (repeat (first | rw [if_pos (by first | omega | assumption | exact not_not_intro (by assumption))] | rw [if_neg (by first | omega | assumption | exact not_not_intro (by assumption))])); all_goals rfl)) rfl rfl rfl
          by_cases v_135 : w = 24
          · subst v_135
            refine x_tabIn 347 C dX6_count_51 ⟨by omega, by omega⟩ (by omega) (by omega) (show _ = some (296 : Int) from rfl) (by decide) ?_
            refine x_aload_n C dX6_count_347 rfl ?_
            refine gt_0_5 C q_237 dX6_count_348 ?_
            refine gt_4_1 C q_200 dX6_count_351 rfl ?_
            exact x_iret C D rfl dX6_count_354 (by first | omega | (unfold xCount; (repeat (first | rw [if_pos (by first | omega | assumption | exact not_not_intro (by assumption))] | rw [if_neg (by first | omega | assumption | exact not_not_intro (by assumption))])); all_goals rfl)) rfl rfl rfl
          refine x_tabOut 355 C dX6_count_51 ⟨by omega, by omega⟩ (by omega) (by decide) ?_
          refine x_ldc (n := (-1000002)) C q_305 dX6_count_355 rfl ?_
          exact x_iret C D rfl dX6_count_357 (by first | omega | (unfold xCount; (repeat (first | rw [if_pos (by first | omega | assumption | exact not_not_intro (by assumption))] | rw [if_neg (by first | omega | assumption | exact not_not_intro (by assumption))])); all_goals rfl)) rfl rfl rfl
        · refine x_aload_n C dX6_count_37 rfl ?_
          refine gt_0_0 C q_232 dX6_count_38 ?_
          refine gh_0_0 C (by decide) (rfl : hs 0 = hs 0) q_132 dX6_count_41 ?_
          refine x_iload_n C dX6_count_44 rfl ?_
          refine x_bipush C dX6_count_45 (by decide) ?_
          refine x_isub C dX6_count_47 ?_
          refine lh_1 C (by decide) (rfl : hs 0 = hs 0) (by omega) (by omega) dX6_count_48 rfl ?_
          have r_136 := RG.set' R (i := w - 25) (by omega) (by omega)
          exact x_iret C D rfl dX6_count_49 (by first | omega | (unfold xCount; (repeat (first | rw [if_pos (by first | omega | assumption | exact not_not_intro (by assumption))] | rw [if_neg (by first | omega | assumption | exact not_not_intro (by assumption))])); all_goals rfl)) rfl rfl rfl
    · refine x_aload_n C dX6_count_12 rfl ?_
      refine gt_0_0 C q_232 dX6_count_13 ?_
      refine gh_0_5 C (by decide) (rfl : hs 0 = hs 0) q_141 dX6_count_16 ?_
      refine x_iload_n C dX6_count_19 rfl ?_
      refine x_bipush C dX6_count_20 (by decide) ?_
      refine x_isub C dX6_count_22 ?_
      refine lh_16 C (by decide) (rfl : hs 0 = hs 0) (by omega) (by omega) dX6_count_23 rfl ?_
      exact x_iret C D rfl dX6_count_24 (by first | omega | (unfold xCount; (repeat (first | rw [if_pos (by first | omega | assumption | exact not_not_intro (by assumption))] | rw [if_neg (by first | omega | assumption | exact not_not_intro (by assumption))])); all_goals rfl)) rfl rfl rfl
set_option maxRecDepth 100000 in
set_option maxHeartbeats 4000000 in
theorem m_X6_coins {hs : Nat → HV} {tp md : HV} {E : HE} (hE : HI E) {K : Int} (R : RG K (hs 0)) {w : Int} (w0 : IR w) : Mt yX6_coins cX6_coins 2 (some .int) 3 E [.ref (tA E 0), vI w] hs tp md (some (vI (xCoins (hs 0) w))) hs tp md := by
  refine mk_Mt hE (plainFor_of_name (by decide)) (Nat.le_of_ble_eq_true rfl) (by intro w0 hw0; simp only [List.mem_cons, List.not_mem_nil, or_false] at hw0; rcases hw0 with rfl | rfl <;> rfl) (rfl : _ = [_, _]) ?_
  intro F C D
  refine x_iload_n C dX6_coins_0 rfl ?_
  by_cases v_1 : w = 0
  · subst v_1
    refine x_tabIn 32 C dX6_coins_1 ⟨by omega, by omega⟩ (by omega) (by omega) (show _ = some (31 : Int) from rfl) (by decide) ?_
    refine x_aload_n C dX6_coins_32 rfl ?_
    refine gt_0_0 C q_232 dX6_coins_33 ?_
    refine gh_0_8 C (by decide) (rfl : hs 0 = hs 0) q_147 dX6_coins_36 rfl ?_
    exact x_iret C D rfl dX6_coins_39 (by unfold xCoins; (repeat (first | rw [if_pos (by first | omega | assumption | exact not_not_intro (by assumption))] | rw [if_neg (by first | omega | assumption | exact not_not_intro (by assumption))])); all_goals rfl) rfl rfl rfl
  by_cases v_2 : w = 1
  · subst v_2
    refine x_tabIn 40 C dX6_coins_1 ⟨by omega, by omega⟩ (by omega) (by omega) (show _ = some (39 : Int) from rfl) (by decide) ?_
    refine x_aload_n C dX6_coins_40 rfl ?_
    refine gt_0_0 C q_232 dX6_coins_41 ?_
    refine gh_0_2 C (by decide) (rfl : hs 0 = hs 0) q_135 dX6_coins_44 ?_
    refine x_callV (nA := 0) (As := []) (rest := []) C (m_X1_depositsHeld hE (by decide) (rfl : hs 0 = hs 0) R) q_321 q_322 q_323 q_24 q_324 (by decide +kernel) (wl_h (by decide) (rfl : hs 0 = hs 0) 3 (by decide)) rfl rfl (by decide) (by decide) (Nat.le_of_ble_eq_true rfl) dX6_coins_47 rfl ?_
    exact x_iret C D rfl dX6_coins_50 (by unfold xCoins; (repeat (first | rw [if_pos (by first | omega | assumption | exact not_not_intro (by assumption))] | rw [if_neg (by first | omega | assumption | exact not_not_intro (by assumption))])); all_goals rfl) rfl rfl rfl
  by_cases v_3 : w = 2
  · subst v_3
    refine x_tabIn 51 C dX6_coins_1 ⟨by omega, by omega⟩ (by omega) (by omega) (show _ = some (50 : Int) from rfl) (by decide) ?_
    refine x_aload_n C dX6_coins_51 rfl ?_
    refine gt_0_0 C q_232 dX6_coins_52 ?_
    refine gh_0_9 C (by decide) (rfl : hs 0 = hs 0) q_149 dX6_coins_55 rfl ?_
    exact x_iret C D rfl dX6_coins_58 (by unfold xCoins; (repeat (first | rw [if_pos (by first | omega | assumption | exact not_not_intro (by assumption))] | rw [if_neg (by first | omega | assumption | exact not_not_intro (by assumption))])); all_goals rfl) rfl rfl rfl
  by_cases v_4 : w = 3
  · subst v_4
    refine x_tabIn 59 C dX6_coins_1 ⟨by omega, by omega⟩ (by omega) (by omega) (show _ = some (58 : Int) from rfl) (by decide) ?_
    refine x_aload_n C dX6_coins_59 rfl ?_
    refine gt_0_0 C q_232 dX6_coins_60 ?_
    refine gh_0_10 C (by decide) (rfl : hs 0 = hs 0) q_151 dX6_coins_63 rfl ?_
    exact x_iret C D rfl dX6_coins_66 (by unfold xCoins; (repeat (first | rw [if_pos (by first | omega | assumption | exact not_not_intro (by assumption))] | rw [if_neg (by first | omega | assumption | exact not_not_intro (by assumption))])); all_goals rfl) rfl rfl rfl
  refine x_tabOut 67 C dX6_coins_1 ⟨by omega, by omega⟩ (by omega) (by decide) ?_
  refine x_ldc (n := (-1000002)) C q_305 dX6_coins_67 rfl ?_
  exact x_iret C D rfl dX6_coins_69 (by unfold xCoins; (repeat (first | rw [if_pos (by first | omega | assumption | exact not_not_intro (by assumption))] | rw [if_neg (by first | omega | assumption | exact not_not_intro (by assumption))])); all_goals rfl) rfl rfl rfl
set_option maxRecDepth 100000 in
set_option maxHeartbeats 4000000 in
theorem m_X6_refund {hs : Nat → HV} {tp md : HV} {E : HE} (hE : HI E) {K : Int} (R : RG K (hs 0)) {b : Int} (b0 : IR b) : Mt yX6_refund cX6_refund 3 (some .int) 4 E [.ref (tA E 0), vI b] hs tp md (some (vI (xRefund (hs 0) b))) hs tp md := by
  refine mk_Mt hE (plainFor_of_name (by decide)) (Nat.le_of_ble_eq_true rfl) (by intro w0 hw0; simp only [List.mem_cons, List.not_mem_nil, or_false] at hw0; rcases hw0 with rfl | rfl <;> rfl) (rfl : _ = [_, _, _]) ?_
  intro F C D
  refine x_aload_n C dX6_refund_0 rfl ?_
  refine x_iload_n C dX6_refund_1 rfl ?_
  refine x_callV (nA := 1) (As := [vI b]) (rest := []) C (m_X6_errorUnlessBooked hE R ⟨by omega, by omega⟩) q_369 q_371 q_0 q_21 q_372 (by decide +kernel) (wl_t 0 (by decide)) rfl rfl (by decide) (by decide) (Nat.le_of_ble_eq_true rfl) dX6_refund_2 rfl ?_
  have xer := xErr_r (h := hs 0) (b := b)
  refine x_istore_n C dX6_refund_5 (by decide) (rfl : _ = [_, _, _]) ?_
  refine x_iload_n C dX6_refund_6 rfl ?_
  refine x_if_eq 14 C dX6_refund_7 (by decide) ⟨by omega, by omega⟩ (fun c_1 => ?_) (fun c_1 => ?_)
  · have xe0 := xErr_0 c_1
    have rmm := RG.made R
    refine x_aload_n C dX6_refund_14 rfl ?_
    refine gt_0_0 C q_232 dX6_refund_15 ?_
    refine x_iload_n C dX6_refund_18 rfl ?_
    refine x_callV (nA := 1) (As := [vI b]) (rest := []) C (m_X3_refundOf hE (by decide) (rfl : hs 0 = hs 0) R (by omega) (by omega)) q_374 q_375 q_376 q_22 q_377 (by decide +kernel) (wl_h (by decide) (rfl : hs 0 = hs 0) 0 (by decide)) rfl rfl (by decide) (by decide) (Nat.le_of_ble_eq_true rfl) dX6_refund_19 rfl ?_
    exact x_iret C D rfl dX6_refund_22 (by unfold xRefund; (repeat (first | rw [if_pos (by first | omega | assumption | exact not_not_intro (by assumption))] | rw [if_neg (by first | omega | assumption | exact not_not_intro (by assumption))])); all_goals rfl) rfl rfl rfl
  · refine x_iload_n C dX6_refund_10 rfl ?_
    refine x_goto 22 C dX6_refund_11 (by decide) ?_
    exact x_iret C D rfl dX6_refund_22 (by unfold xRefund; (repeat (first | rw [if_pos (by first | omega | assumption | exact not_not_intro (by assumption))] | rw [if_neg (by first | omega | assumption | exact not_not_intro (by assumption))])); all_goals rfl) rfl rfl rfl
