set_option maxRecDepth 100000 in
set_option maxHeartbeats 4000000 in
theorem m_X7_booking {hs : Nat → HV} {tp md : HV} {E : HE} (hE : HI E) {r : Int → Int} {K : Int} (R : MR K r) {b w : Int} (b0 : IR b) (w0 : IR w) : Mt yX7_booking cX7_booking 3 (some .int) 3 E [.ref (mA E 0), vI b, vI w] hs tp (upr md 1 r) (some (vI (yBooking r b w))) hs tp (upr md 1 r) := by
  refine mk_Mt hE (plainFor_of_name (by decide)) (Nat.le_of_ble_eq_true rfl) (by intro w0 hw0; simp only [List.mem_cons, List.not_mem_nil, or_false] at hw0; rcases hw0 with rfl | rfl | rfl <;> rfl) (rfl : _ = [_, _, _]) ?_
  intro F C D
  have rc0 := MR.came R
  have rd0 := MR.day R
  refine x_aload_n C dX7_booking_0 rfl ?_
  refine x_iload_n C dX7_booking_1 rfl ?_
  refine x_callV (nA := 1) (As := [vI b]) (rest := []) C (m_X7_isBooking hE (r := r) R (b := b) ⟨by omega, by omega⟩) q_850 q_852 q_33 q_64 q_853 (by decide +kernel) (wl_m 0 (by decide)) rfl rfl (by decide) (by decide) (Nat.le_of_ble_eq_true rfl) dX7_booking_2 rfl ?_
  refine x_bz_ne 11 C dX7_booking_5 (by decide) (fun c_1 => ?_) (fun c_1 => ?_)
  · refine x_iload_n C dX7_booking_11 rfl ?_
    by_cases v_2 : w = 0
    · subst v_2
      refine x_tabIn 64 C dX7_booking_12 ⟨by omega, by omega⟩ (by omega) (by omega) (show _ = some (52 : Int) from rfl) (by decide) ?_
      refine x_aload_n C dX7_booking_64 rfl ?_
      refine x_iload_n C dX7_booking_65 rfl ?_
      refine x_const C dX7_booking_66 ?_
      refine x_callV (nA := 2) (As := [vI b, vI 0]) (rest := []) C (m_X7_of hE (r := r) (b := b) (w := 0) (by omega) (by omega) (by omega) (by omega) (show _ = r (51 + 7 * b + 0) from rfl)) q_799 q_801 q_23 q_64 q_802 (by decide +kernel) (wl_m 0 (by decide)) rfl rfl (by decide) (by decide) (Nat.le_of_ble_eq_true rfl) dX7_booking_67 rfl ?_
      have r_3 := MR.st R (b := b) (by omega) (by omega)
      exact x_iret C D rfl dX7_booking_70 (by unfold yBooking; (repeat (first | rw [if_pos (by first | omega | assumption | exact not_not_intro (by assumption))] | rw [if_neg (by first | omega | assumption | exact not_not_intro (by assumption))])); all_goals rfl) rfl rfl rfl
    by_cases v_4 : w = 1
    · subst v_4
      refine x_tabIn 71 C dX7_booking_12 ⟨by omega, by omega⟩ (by omega) (by omega) (show _ = some (59 : Int) from rfl) (by decide) ?_
      refine x_aload_n C dX7_booking_71 rfl ?_
      refine x_iload_n C dX7_booking_72 rfl ?_
      refine x_const C dX7_booking_73 ?_
      refine x_callV (nA := 2) (As := [vI b, vI 1]) (rest := []) C (m_X7_of hE (r := r) (b := b) (w := 1) (by omega) (by omega) (by omega) (by omega) (show _ = r (51 + 7 * b + 1) from rfl)) q_799 q_801 q_23 q_64 q_802 (by decide +kernel) (wl_m 0 (by decide)) rfl rfl (by decide) (by decide) (Nat.le_of_ble_eq_true rfl) dX7_booking_74 rfl ?_
      have r_5 := MR.arr R (b := b) (by omega) (by omega)
      exact x_iret C D rfl dX7_booking_77 (by unfold yBooking; (repeat (first | rw [if_pos (by first | omega | assumption | exact not_not_intro (by assumption))] | rw [if_neg (by first | omega | assumption | exact not_not_intro (by assumption))])); all_goals rfl) rfl rfl rfl
    by_cases v_6 : w = 2
    · subst v_6
      refine x_tabIn 78 C dX7_booking_12 ⟨by omega, by omega⟩ (by omega) (by omega) (show _ = some (66 : Int) from rfl) (by decide) ?_
      refine x_aload_n C dX7_booking_78 rfl ?_
      refine x_iload_n C dX7_booking_79 rfl ?_
      refine x_const C dX7_booking_80 ?_
      refine x_callV (nA := 2) (As := [vI b, vI 2]) (rest := []) C (m_X7_of hE (r := r) (b := b) (w := 2) (by omega) (by omega) (by omega) (by omega) (show _ = r (51 + 7 * b + 2) from rfl)) q_799 q_801 q_23 q_64 q_802 (by decide +kernel) (wl_m 0 (by decide)) rfl rfl (by decide) (by decide) (Nat.le_of_ble_eq_true rfl) dX7_booking_81 rfl ?_
      have r_7 := MR.nig R (b := b) (by omega) (by omega)
      exact x_iret C D rfl dX7_booking_84 (by unfold yBooking; (repeat (first | rw [if_pos (by first | omega | assumption | exact not_not_intro (by assumption))] | rw [if_neg (by first | omega | assumption | exact not_not_intro (by assumption))])); all_goals rfl) rfl rfl rfl
    by_cases v_8 : w = 3
    · subst v_8
      refine x_tabIn 85 C dX7_booking_12 ⟨by omega, by omega⟩ (by omega) (by omega) (show _ = some (73 : Int) from rfl) (by decide) ?_
      refine x_aload_n C dX7_booking_85 rfl ?_
      refine x_iload_n C dX7_booking_86 rfl ?_
      refine x_const C dX7_booking_87 ?_
      refine x_callV (nA := 2) (As := [vI b, vI 3]) (rest := []) C (m_X7_of hE (r := r) (b := b) (w := 3) (by omega) (by omega) (by omega) (by omega) (show _ = r (51 + 7 * b + 3) from rfl)) q_799 q_801 q_23 q_64 q_802 (by decide +kernel) (wl_m 0 (by decide)) rfl rfl (by decide) (by decide) (Nat.le_of_ble_eq_true rfl) dX7_booking_88 rfl ?_
      have r_9 := MR.per R (b := b) (by omega) (by omega)
      exact x_iret C D rfl dX7_booking_91 (by unfold yBooking; (repeat (first | rw [if_pos (by first | omega | assumption | exact not_not_intro (by assumption))] | rw [if_neg (by first | omega | assumption | exact not_not_intro (by assumption))])); all_goals rfl) rfl rfl rfl
    by_cases v_10 : w = 4
    · subst v_10
      refine x_tabIn 92 C dX7_booking_12 ⟨by omega, by omega⟩ (by omega) (by omega) (show _ = some (80 : Int) from rfl) (by decide) ?_
      refine x_aload_n C dX7_booking_92 rfl ?_
      refine x_iload_n C dX7_booking_93 rfl ?_
      refine x_callV (nA := 1) (As := [vI b]) (rest := []) C (m_X7_end hE (r := r) (b := b) (by omega) (by omega) rfl) q_803 q_805 q_24 q_64 q_806 (by decide +kernel) (wl_m 0 (by decide)) rfl rfl (by decide) (by decide) (Nat.le_of_ble_eq_true rfl) dX7_booking_94 rfl ?_
      have r_11 := MR.arr R (b := b) (by omega) (by omega)
      have r_12 := MR.nig R (b := b) (by omega) (by omega)
      exact x_iret C D rfl dX7_booking_97 (by unfold yBooking; (repeat (first | rw [if_pos (by first | omega | assumption | exact not_not_intro (by assumption))] | rw [if_neg (by first | omega | assumption | exact not_not_intro (by assumption))])); all_goals rfl) rfl rfl rfl
    by_cases v_13 : w = 5
    · subst v_13
      refine x_tabIn 98 C dX7_booking_12 ⟨by omega, by omega⟩ (by omega) (by omega) (show _ = some (86 : Int) from rfl) (by decide) ?_
      refine x_aload_n C dX7_booking_98 rfl ?_
      refine x_iload_n C dX7_booking_99 rfl ?_
      refine x_const C dX7_booking_100 ?_
      refine x_callV (nA := 2) (As := [vI b, vI 4]) (rest := []) C (m_X7_of hE (r := r) (b := b) (w := 4) (by omega) (by omega) (by omega) (by omega) (show _ = r (51 + 7 * b + 4) from rfl)) q_799 q_801 q_23 q_64 q_802 (by decide +kernel) (wl_m 0 (by decide)) rfl rfl (by decide) (by decide) (Nat.le_of_ble_eq_true rfl) dX7_booking_101 rfl ?_
      exact x_iret C D rfl dX7_booking_104 (by unfold yBooking; (repeat (first | rw [if_pos (by first | omega | assumption | exact not_not_intro (by assumption))] | rw [if_neg (by first | omega | assumption | exact not_not_intro (by assumption))])); all_goals rfl) rfl rfl rfl
    by_cases v_14 : w = 6
    · subst v_14
      refine x_tabIn 105 C dX7_booking_12 ⟨by omega, by omega⟩ (by omega) (by omega) (show _ = some (93 : Int) from rfl) (by decide) ?_
      refine x_aload_n C dX7_booking_105 rfl ?_
      refine x_iload_n C dX7_booking_106 rfl ?_
      refine x_const C dX7_booking_107 ?_
      refine x_callV (nA := 2) (As := [vI b, vI 1]) (rest := []) C (m_X7_is hE (r := r) R (b := b) (w := 1) (by omega) (by omega) ⟨by omega, by omega⟩) q_855 q_857 q_34 q_64 q_858 (by decide +kernel) (wl_m 0 (by decide)) rfl rfl (by decide) (by decide) (Nat.le_of_ble_eq_true rfl) dX7_booking_108 rfl ?_
      refine x_bz_eq 145 C dX7_booking_111 (by decide) (fun c_15 => ?_) (fun c_15 => ?_)
      · refine x_const C dX7_booking_145 ?_
        exact x_iret C D rfl dX7_booking_146 (by unfold yBooking; (repeat (first | rw [if_pos (by first | omega | assumption | exact not_not_intro (by assumption))] | rw [if_neg (by first | omega | assumption | exact not_not_intro (by assumption))])); all_goals rfl) rfl rfl rfl
      · refine x_aload_n C dX7_booking_114 rfl ?_
        refine x_iload_n C dX7_booking_115 rfl ?_
        refine x_callV (nA := 1) (As := [vI b]) (rest := []) C (m_X7_end hE (r := r) (b := b) (by omega) (by omega) rfl) q_803 q_805 q_24 q_64 q_806 (by decide +kernel) (wl_m 0 (by decide)) rfl rfl (by decide) (by decide) (Nat.le_of_ble_eq_true rfl) dX7_booking_116 rfl ?_
        have r_16 := MR.arr R (b := b) (by omega) (by omega)
        have r_17 := MR.nig R (b := b) (by omega) (by omega)
        refine x_aload_n C dX7_booking_119 rfl ?_
        refine gm_0_0 C q_751 dX7_booking_120 ?_
        refine x_const C dX7_booking_123 ?_
        refine lm_1 C (by omega) (by omega) dX7_booking_124 (show _ = r 0 from rfl) ?_
        have r_18 := MR.day R
        refine x_icmp_gt 145 C dX7_booking_125 (by decide) ⟨by omega, by omega⟩ ⟨by omega, by omega⟩ (fun c_19 => ?_) (fun c_19 => ?_)
        · refine x_const C dX7_booking_145 ?_
          exact x_iret C D rfl dX7_booking_146 (by unfold yBooking; (repeat (first | rw [if_pos (by first | omega | assumption | exact not_not_intro (by assumption))] | rw [if_neg (by first | omega | assumption | exact not_not_intro (by assumption))])); all_goals rfl) rfl rfl rfl
        · refine x_aload_n C dX7_booking_128 rfl ?_
          refine x_aload_n C dX7_booking_129 rfl ?_
          refine gm_0_0 C q_751 dX7_booking_130 ?_
          refine x_const C dX7_booking_133 ?_
          refine lm_1 C (by omega) (by omega) dX7_booking_134 (show _ = r 0 from rfl) ?_
          have r_20 := MR.day R
          refine x_callV (nA := 1) (As := [vI (r 0)]) (rest := []) C (m_X7_isDownOpen hE (r := r) R (d := (r 0)) (by omega) (by omega)) q_908 q_910 q_40 q_64 q_911 (by decide +kernel) (wl_m 0 (by decide)) rfl rfl (by decide) (by decide) (Nat.le_of_ble_eq_true rfl) dX7_booking_135 rfl ?_
          refine x_bz_ne 145 C dX7_booking_138 (by decide) (fun c_21 => ?_) (fun c_21 => ?_)
          · refine x_const C dX7_booking_145 ?_
            exact x_iret C D rfl dX7_booking_146 (by unfold yBooking; (repeat (first | rw [if_pos (by first | omega | assumption | exact not_not_intro (by assumption))] | rw [if_neg (by first | omega | assumption | exact not_not_intro (by assumption))])); all_goals rfl) rfl rfl rfl
          · refine x_const C dX7_booking_141 ?_
            refine x_goto 146 C dX7_booking_142 (by decide) ?_
            exact x_iret C D rfl dX7_booking_146 (by unfold yBooking; (repeat (first | rw [if_pos (by first | omega | assumption | exact not_not_intro (by assumption))] | rw [if_neg (by first | omega | assumption | exact not_not_intro (by assumption))])); all_goals rfl) rfl rfl rfl
    by_cases v_22 : w = 7
    · subst v_22
      refine x_tabIn 147 C dX7_booking_12 ⟨by omega, by omega⟩ (by omega) (by omega) (show _ = some (135 : Int) from rfl) (by decide) ?_
      refine x_aload_n C dX7_booking_147 rfl ?_
      refine x_iload_n C dX7_booking_148 rfl ?_
      refine x_const C dX7_booking_149 ?_
      refine x_callV (nA := 2) (As := [vI b, vI 5]) (rest := []) C (m_X7_of hE (r := r) (b := b) (w := 5) (by omega) (by omega) (by omega) (by omega) (show _ = r (51 + 7 * b + 5) from rfl)) q_799 q_801 q_23 q_64 q_802 (by decide +kernel) (wl_m 0 (by decide)) rfl rfl (by decide) (by decide) (Nat.le_of_ble_eq_true rfl) dX7_booking_150 rfl ?_
      exact x_iret C D rfl dX7_booking_153 (by unfold yBooking; (repeat (first | rw [if_pos (by first | omega | assumption | exact not_not_intro (by assumption))] | rw [if_neg (by first | omega | assumption | exact not_not_intro (by assumption))])); all_goals rfl) rfl rfl rfl
    by_cases v_23 : w = 8
    · subst v_23
      refine x_tabIn 154 C dX7_booking_12 ⟨by omega, by omega⟩ (by omega) (by omega) (show _ = some (142 : Int) from rfl) (by decide) ?_
      refine x_aload_n C dX7_booking_154 rfl ?_
      refine x_iload_n C dX7_booking_155 rfl ?_
      refine x_bipush C dX7_booking_156 (by decide) ?_
      refine x_callV (nA := 2) (As := [vI b, vI 6]) (rest := []) C (m_X7_of hE (r := r) (b := b) (w := 6) (by omega) (by omega) (by omega) (by omega) (show _ = r (51 + 7 * b + 6) from rfl)) q_799 q_801 q_23 q_64 q_802 (by decide +kernel) (wl_m 0 (by decide)) rfl rfl (by decide) (by decide) (Nat.le_of_ble_eq_true rfl) dX7_booking_158 rfl ?_
      have r_24 := MR.cam R (b := b) (by omega) (by omega)
      exact x_iret C D rfl dX7_booking_161 (by unfold yBooking; (repeat (first | rw [if_pos (by first | omega | assumption | exact not_not_intro (by assumption))] | rw [if_neg (by first | omega | assumption | exact not_not_intro (by assumption))])); all_goals rfl) rfl rfl rfl
    refine x_tabOut 162 C dX7_booking_12 ⟨by omega, by omega⟩ (by omega) (by decide) ?_
    refine x_ldc (n := (-1000002)) C q_790 dX7_booking_162 rfl ?_
    exact x_iret C D rfl dX7_booking_164 (by unfold yBooking; (repeat (first | rw [if_pos (by first | omega | assumption | exact not_not_intro (by assumption))] | rw [if_neg (by first | omega | assumption | exact not_not_intro (by assumption))])); all_goals rfl) rfl rfl rfl
  · refine x_ldc (n := (-1000001)) C q_854 dX7_booking_8 rfl ?_
    exact x_iret C D rfl dX7_booking_10 (by unfold yBooking; (repeat (first | rw [if_pos (by first | omega | assumption | exact not_not_intro (by assumption))] | rw [if_neg (by first | omega | assumption | exact not_not_intro (by assumption))])); all_goals rfl) rfl rfl rfl
set_option maxRecDepth 100000 in
set_option maxHeartbeats 4000000 in
theorem m_X7_day {hs : Nat → HV} {tp md : HV} {E : HE} (hE : HI E) {r : Int → Int} {K : Int} (R : MR K r) {d w : Int} (d0 : IR d) (w0 : IR w) : Mt yX7_day cX7_day 6 (some .int) 4 E [.ref (mA E 0), vI d, vI w] hs tp (upr md 1 r) (some (vI (yDay r d w))) hs tp (upr md 1 r) := by
  refine mk_Mt hE (plainFor_of_name (by decide)) (Nat.le_of_ble_eq_true rfl) (by intro w0 hw0; simp only [List.mem_cons, List.not_mem_nil, or_false] at hw0; rcases hw0 with rfl | rfl | rfl <;> rfl) (rfl : _ = [_, _, _, _, _, _]) ?_
  intro F C D
  have rm := MR.came R
  refine x_iload_n C dX7_day_0 rfl ?_
  refine x_const C dX7_day_1 ?_
  refine x_sipush C dX7_day_2 (by decide) ?_
  refine x_callS (nA := 3) (As := [vI d, vI 0, vI 999]) (rest := []) C (m_X7_in hE (v := d) (l := 0) (m := 999) ⟨by omega, by omega⟩ ⟨by omega, by omega⟩ ⟨by omega, by omega⟩) q_787 q_788 q_64 q_789 (by decide +kernel) rfl (by decide) (by decide) (Nat.le_of_ble_eq_true rfl) dX7_day_5 rfl ?_
  refine x_bz_eq 20 C dX7_day_8 (by decide) (fun c_1 => ?_) (fun c_1 => ?_)
  · refine x_ldc (n := (-1000002)) C q_790 dX7_day_20 rfl ?_
    exact x_iret C D rfl dX7_day_22 (by unfold yDay; (repeat (first | rw [if_pos (by first | omega | assumption | exact not_not_intro (by assumption))] | rw [if_neg (by first | omega | assumption | exact not_not_intro (by assumption))])); all_goals rfl) rfl rfl rfl
  · refine x_iload_n C dX7_day_11 rfl ?_
    refine x_const C dX7_day_12 ?_
    refine x_const C dX7_day_13 ?_
    refine x_callS (nA := 3) (As := [vI w, vI 0, vI 4]) (rest := []) C (m_X7_in hE (v := w) (l := 0) (m := 4) ⟨by omega, by omega⟩ ⟨by omega, by omega⟩ ⟨by omega, by omega⟩) q_787 q_788 q_64 q_789 (by decide +kernel) rfl (by decide) (by decide) (Nat.le_of_ble_eq_true rfl) dX7_day_14 rfl ?_
    refine x_bz_ne 23 C dX7_day_17 (by decide) (fun c_2 => ?_) (fun c_2 => ?_)
    · refine x_iload_n C dX7_day_23 rfl ?_
      refine x_const C dX7_day_24 ?_
      refine x_icmp_ge 54 C dX7_day_25 (by decide) ⟨by omega, by omega⟩ ⟨by omega, by omega⟩ (fun c_3 => ?_) (fun c_3 => ?_)
      · refine x_iload_n C dX7_day_54 rfl ?_
        refine x_const C dX7_day_55 ?_
        refine x_icmp_ne 65 C dX7_day_56 (by decide) ⟨by omega, by omega⟩ ⟨by omega, by omega⟩ (fun c_4 => ?_) (fun c_4 => ?_)
        · refine x_const C dX7_day_65 ?_
          refine x_istore_n C dX7_day_66 (by decide) (rfl : _ = [_, _, _, _, _, _]) ?_
          refine x_const C dX7_day_67 ?_
          by_cases w3 : w = 3
          · refine x_istore C dX7_day_68 (by decide) (rfl : _ = [_, _, _, _, _, _]) ?_
            have K70a : ∀ (nn : Nat) (i : Int), 0 ≤ i → i ≤ r 1 → r 1 - i < nn →  G F E hs tp (upr md 1 r) 70 [some (.ref (mA E 0)), some (vI d), some (vI w), some (vI (sumI (mArr r d) i)), some (vI i), none] [] := by
              intro nn
              induction nn with
              | zero => intro i i0 i1 hz; exact absurd hz (by omega)
              | succ nn ih =>
                intro i i0 i1 hz
                refine x_iload C dX7_day_70 rfl ?_
                refine x_aload_n C dX7_day_72 rfl ?_
                refine gm_0_0 C q_751 dX7_day_73 ?_
                refine x_const C dX7_day_76 ?_
                refine lm_1 C (by omega) (by omega) dX7_day_77 (show _ = r 1 from rfl) ?_
                have r_5 := MR.came R
                refine x_icmp_ge 162 C dX7_day_78 (by decide) ⟨by omega, by omega⟩ ⟨by omega, by omega⟩ (fun c_6 => ?_) (fun c_6 => ?_)
                · refine x_iload_n C dX7_day_162 rfl ?_
                  exact x_iret C D rfl dX7_day_163 (by rw [show i = r 1 by omega]; unfold yDay; (repeat (first | rw [if_pos (by first | omega | assumption | exact not_not_intro (by assumption))] | rw [if_neg (by first | omega | assumption | exact not_not_intro (by assumption))])); all_goals rfl) rfl rfl rfl
                · refine x_iload_n C dX7_day_81 rfl ?_
                  refine x_const C dX7_day_82 ?_
                  refine x_icmp_ne 115 C dX7_day_83 (by decide) ⟨by omega, by omega⟩ ⟨by omega, by omega⟩ (fun c_7 => ?_) (fun c_7 => ?_)
                  · exact absurd w3 c_7
                  · refine x_aload_n C dX7_day_86 rfl ?_
                    refine x_iload C dX7_day_87 rfl ?_
                    refine x_const C dX7_day_89 ?_
                    refine x_callV (nA := 2) (As := [vI i, vI 0]) (rest := []) C (m_X7_is hE (r := r) R (b := i) (w := 0) (by omega) (by omega) ⟨by omega, by omega⟩) q_855 q_857 q_34 q_64 q_858 (by decide +kernel) (wl_m 0 (by decide)) rfl rfl (by decide) (by decide) (Nat.le_of_ble_eq_true rfl) dX7_day_90 rfl ?_
                    refine x_bz_eq 111 C dX7_day_93 (by decide) (fun c_8 => ?_) (fun c_8 => ?_)
                    · refine x_const C dX7_day_111 ?_
                      refine x_goto 141 C dX7_day_112 (by decide) ?_
                      refine x_istore C dX7_day_141 (by decide) (rfl : _ = [_, _, _, _, _, _]) ?_
                      refine x_iload_n C dX7_day_143 rfl ?_
                      refine x_iload C dX7_day_144 rfl ?_
                      refine x_if_eq 153 C dX7_day_146 (by decide) ⟨by decide, by decide⟩ (fun _ => ?_) (fun c_9 => absurd c_9 (by decide))
                      refine x_const C dX7_day_153 ?_
                      refine x_iadd C dX7_day_154 ?_
                      refine x_istore_n C dX7_day_155 (by decide) (rfl : _ = [_, _, _, _, _, _]) ?_
                      refine x_iinc C dX7_day_156 rfl (by decide) (rfl : _ = [_, _, _, _, _, _]) ?_
                      refine x_goto 70 C dX7_day_159 (by decide) ?_
                      have e9 : mArr r d i = 0 := if_neg (by first | omega | (intro q; have q1 := q.1; have q2 := q.2; omega))
                      refine G.wk (ih (i + 1) (by omega) (by omega) (by omega)) ?_
                      simp only [leL, sumI_s i0, e9, and_self, and_true, true_and]; try trivial
                    · refine x_aload_n C dX7_day_96 rfl ?_
                      refine x_iload C dX7_day_97 rfl ?_
                      refine x_const C dX7_day_99 ?_
                      refine x_callV (nA := 2) (As := [vI i, vI 1]) (rest := []) C (m_X7_of hE (r := r) (b := i) (w := 1) (by omega) (by omega) (by omega) (by omega) (show _ = r (51 + 7 * i + 1) from rfl)) q_799 q_801 q_23 q_64 q_802 (by decide +kernel) (wl_m 0 (by decide)) rfl rfl (by decide) (by decide) (Nat.le_of_ble_eq_true rfl) dX7_day_100 rfl ?_
                      have r_10 := MR.arr R (b := i) (by omega) (by omega)
                      refine x_iload_n C dX7_day_103 rfl ?_
                      refine x_icmp_ne 111 C dX7_day_104 (by decide) ⟨by omega, by omega⟩ ⟨by omega, by omega⟩ (fun c_11 => ?_) (fun c_11 => ?_)
                      · refine x_const C dX7_day_111 ?_
                        refine x_goto 141 C dX7_day_112 (by decide) ?_
                        refine x_istore C dX7_day_141 (by decide) (rfl : _ = [_, _, _, _, _, _]) ?_
                        refine x_iload_n C dX7_day_143 rfl ?_
                        refine x_iload C dX7_day_144 rfl ?_
                        refine x_if_eq 153 C dX7_day_146 (by decide) ⟨by decide, by decide⟩ (fun _ => ?_) (fun c_12 => absurd c_12 (by decide))
                        refine x_const C dX7_day_153 ?_
                        refine x_iadd C dX7_day_154 ?_
                        refine x_istore_n C dX7_day_155 (by decide) (rfl : _ = [_, _, _, _, _, _]) ?_
                        refine x_iinc C dX7_day_156 rfl (by decide) (rfl : _ = [_, _, _, _, _, _]) ?_
                        refine x_goto 70 C dX7_day_159 (by decide) ?_
                        have e9 : mArr r d i = 0 := if_neg (by first | omega | (intro q; have q1 := q.1; have q2 := q.2; omega))
                        refine G.wk (ih (i + 1) (by omega) (by omega) (by omega)) ?_
                        simp only [leL, sumI_s i0, e9, and_self, and_true, true_and]; try trivial
                      · refine x_const C dX7_day_107 ?_
                        refine x_goto 141 C dX7_day_108 (by decide) ?_
                        refine x_istore C dX7_day_141 (by decide) (rfl : _ = [_, _, _, _, _, _]) ?_
                        refine x_iload_n C dX7_day_143 rfl ?_
                        refine x_iload C dX7_day_144 rfl ?_
                        refine x_if_eq 153 C dX7_day_146 (by decide) ⟨by decide, by decide⟩ (fun c_13 => absurd c_13 (by decide)) (fun _ => ?_)
                        refine x_const C dX7_day_149 ?_
                        refine x_goto 154 C dX7_day_150 (by decide) ?_
                        refine x_iadd C dX7_day_154 ?_
                        refine x_istore_n C dX7_day_155 (by decide) (rfl : _ = [_, _, _, _, _, _]) ?_
                        refine x_iinc C dX7_day_156 rfl (by decide) (rfl : _ = [_, _, _, _, _, _]) ?_
                        refine x_goto 70 C dX7_day_159 (by decide) ?_
                        have e9 : mArr r d i = 1 := if_pos (by exact ⟨by omega, by omega⟩)
                        refine G.wk (ih (i + 1) (by omega) (by omega) (by omega)) ?_
                        simp only [leL, sumI_s i0, e9, and_self, and_true, true_and]; try trivial
            exact K70a ((r 1 : Int) + 1).toNat 0 (by omega) (by omega) (by omega)
          · refine x_istore C dX7_day_68 (by decide) (rfl : _ = [_, _, _, _, _, _]) ?_
            have K70b : ∀ (nn : Nat) (i : Int), 0 ≤ i → i ≤ r 1 → r 1 - i < nn →  G F E hs tp (upr md 1 r) 70 [some (.ref (mA E 0)), some (vI d), some (vI w), some (vI (sumI (mEnds r d) i)), some (vI i), none] [] := by
              intro nn
              induction nn with
              | zero => intro i i0 i1 hz; exact absurd hz (by omega)
              | succ nn ih =>
                intro i i0 i1 hz
                refine x_iload C dX7_day_70 rfl ?_
                refine x_aload_n C dX7_day_72 rfl ?_
                refine gm_0_0 C q_751 dX7_day_73 ?_
                refine x_const C dX7_day_76 ?_
                refine lm_1 C (by omega) (by omega) dX7_day_77 (show _ = r 1 from rfl) ?_
                have r_14 := MR.came R
                refine x_icmp_ge 162 C dX7_day_78 (by decide) ⟨by omega, by omega⟩ ⟨by omega, by omega⟩ (fun c_15 => ?_) (fun c_15 => ?_)
                · refine x_iload_n C dX7_day_162 rfl ?_
                  exact x_iret C D rfl dX7_day_163 (by rw [show i = r 1 by omega]; unfold yDay; (repeat (first | rw [if_pos (by first | omega | assumption | exact not_not_intro (by assumption))] | rw [if_neg (by first | omega | assumption | exact not_not_intro (by assumption))])); all_goals rfl) rfl rfl rfl
                · refine x_iload_n C dX7_day_81 rfl ?_
                  refine x_const C dX7_day_82 ?_
                  refine x_icmp_ne 115 C dX7_day_83 (by decide) ⟨by omega, by omega⟩ ⟨by omega, by omega⟩ (fun c_16 => ?_) (fun c_16 => ?_)
                  · refine x_aload_n C dX7_day_115 rfl ?_
                    refine x_iload C dX7_day_116 rfl ?_
                    refine x_const C dX7_day_118 ?_
                    refine x_callV (nA := 2) (As := [vI i, vI 0]) (rest := []) C (m_X7_of hE (r := r) (b := i) (w := 0) (by omega) (by omega) (by omega) (by omega) (show _ = r (51 + 7 * i + 0) from rfl)) q_799 q_801 q_23 q_64 q_802 (by decide +kernel) (wl_m 0 (by decide)) rfl rfl (by decide) (by decide) (Nat.le_of_ble_eq_true rfl) dX7_day_119 rfl ?_
                    have r_17 := MR.st R (b := i) (by omega) (by omega)
                    refine x_const C dX7_day_122 ?_
                    refine x_icmp_gt 140 C dX7_day_123 (by decide) ⟨by omega, by omega⟩ ⟨by omega, by omega⟩ (fun c_18 => ?_) (fun c_18 => ?_)
                    · refine x_const C dX7_day_140 ?_
                      refine x_istore C dX7_day_141 (by decide) (rfl : _ = [_, _, _, _, _, _]) ?_
                      refine x_iload_n C dX7_day_143 rfl ?_
                      refine x_iload C dX7_day_144 rfl ?_
                      refine x_if_eq 153 C dX7_day_146 (by decide) ⟨by decide, by decide⟩ (fun _ => ?_) (fun c_19 => absurd c_19 (by decide))
                      refine x_const C dX7_day_153 ?_
                      refine x_iadd C dX7_day_154 ?_
                      refine x_istore_n C dX7_day_155 (by decide) (rfl : _ = [_, _, _, _, _, _]) ?_
                      refine x_iinc C dX7_day_156 rfl (by decide) (rfl : _ = [_, _, _, _, _, _]) ?_
                      refine x_goto 70 C dX7_day_159 (by decide) ?_
                      have e9 : mEnds r d i = 0 := if_neg (by first | omega | (intro q; have q1 := q.1; have q2 := q.2; omega))
                      refine G.wk (ih (i + 1) (by omega) (by omega) (by omega)) ?_
                      simp only [leL, sumI_s i0, e9, and_self, and_true, true_and]; try trivial
                    · refine x_aload_n C dX7_day_126 rfl ?_
                      refine x_iload C dX7_day_127 rfl ?_
                      refine x_callV (nA := 1) (As := [vI i]) (rest := []) C (m_X7_end hE (r := r) (b := i) (by omega) (by omega) rfl) q_803 q_805 q_24 q_64 q_806 (by decide +kernel) (wl_m 0 (by decide)) rfl rfl (by decide) (by decide) (Nat.le_of_ble_eq_true rfl) dX7_day_129 rfl ?_
                      have r_20 := MR.arr R (b := i) (by omega) (by omega)
                      have r_21 := MR.nig R (b := i) (by omega) (by omega)
                      refine x_iload_n C dX7_day_132 rfl ?_
                      refine x_icmp_ne 140 C dX7_day_133 (by decide) ⟨by omega, by omega⟩ ⟨by omega, by omega⟩ (fun c_22 => ?_) (fun c_22 => ?_)
                      · refine x_const C dX7_day_140 ?_
                        refine x_istore C dX7_day_141 (by decide) (rfl : _ = [_, _, _, _, _, _]) ?_
                        refine x_iload_n C dX7_day_143 rfl ?_
                        refine x_iload C dX7_day_144 rfl ?_
                        refine x_if_eq 153 C dX7_day_146 (by decide) ⟨by decide, by decide⟩ (fun _ => ?_) (fun c_23 => absurd c_23 (by decide))
                        refine x_const C dX7_day_153 ?_
                        refine x_iadd C dX7_day_154 ?_
                        refine x_istore_n C dX7_day_155 (by decide) (rfl : _ = [_, _, _, _, _, _]) ?_
                        refine x_iinc C dX7_day_156 rfl (by decide) (rfl : _ = [_, _, _, _, _, _]) ?_
                        refine x_goto 70 C dX7_day_159 (by decide) ?_
                        have e9 : mEnds r d i = 0 := if_neg (by first | omega | (intro q; have q1 := q.1; have q2 := q.2; omega))
                        refine G.wk (ih (i + 1) (by omega) (by omega) (by omega)) ?_
                        simp only [leL, sumI_s i0, e9, and_self, and_true, true_and]; try trivial
                      · refine x_const C dX7_day_136 ?_
                        refine x_goto 141 C dX7_day_137 (by decide) ?_
                        refine x_istore C dX7_day_141 (by decide) (rfl : _ = [_, _, _, _, _, _]) ?_
                        refine x_iload_n C dX7_day_143 rfl ?_
                        refine x_iload C dX7_day_144 rfl ?_
                        refine x_if_eq 153 C dX7_day_146 (by decide) ⟨by decide, by decide⟩ (fun c_24 => absurd c_24 (by decide)) (fun _ => ?_)
                        refine x_const C dX7_day_149 ?_
                        refine x_goto 154 C dX7_day_150 (by decide) ?_
                        refine x_iadd C dX7_day_154 ?_
                        refine x_istore_n C dX7_day_155 (by decide) (rfl : _ = [_, _, _, _, _, _]) ?_
                        refine x_iinc C dX7_day_156 rfl (by decide) (rfl : _ = [_, _, _, _, _, _]) ?_
                        refine x_goto 70 C dX7_day_159 (by decide) ?_
                        have e9 : mEnds r d i = 1 := if_pos (by exact ⟨by omega, by omega⟩)
                        refine G.wk (ih (i + 1) (by omega) (by omega) (by omega)) ?_
                        simp only [leL, sumI_s i0, e9, and_self, and_true, true_and]; try trivial
                  · exact absurd c_16 w3
            exact K70b ((r 1 : Int) + 1).toNat 0 (by omega) (by omega) (by omega)
        · refine x_aload_n C dX7_day_59 rfl ?_
          refine x_iload_n C dX7_day_60 rfl ?_
          refine x_callV (nA := 1) (As := [vI d]) (rest := []) C (m_X7_weatherOf hE (r := r) (d := d) (by omega) (by omega)) q_867 q_869 q_37 q_64 q_870 (by decide +kernel) (wl_m 0 (by decide)) rfl rfl (by decide) (by decide) (Nat.le_of_ble_eq_true rfl) dX7_day_61 rfl ?_
          have r_25 := MR.wea R (d := d) (by omega) (by omega)
          exact x_iret C D rfl dX7_day_64 (by unfold yDay; (repeat (first | rw [if_pos (by first | omega | assumption | exact not_not_intro (by assumption))] | rw [if_neg (by first | omega | assumption | exact not_not_intro (by assumption))])); all_goals rfl) rfl rfl rfl
      · refine x_iload_n C dX7_day_28 rfl ?_
        refine x_if_ne 40 C dX7_day_29 (by decide) ⟨by omega, by omega⟩ (fun c_26 => ?_) (fun c_26 => ?_)
        · refine x_aload_n C dX7_day_40 rfl ?_
          refine gm_0_0 C q_751 dX7_day_41 ?_
          refine x_bipush C dX7_day_44 (by decide) ?_
          refine lm_1 C (by omega) (by omega) dX7_day_46 (show _ = r 17 from rfl) ?_
          have r_27 := (MR.sets R)
          refine x_aload_n C dX7_day_47 rfl ?_
          refine x_iload_n C dX7_day_48 rfl ?_
          refine x_callV (nA := 1) (As := [vI d]) (rest := [vI (r 17)]) C (m_X7_taken hE (r := r) R (n := d) ⟨by omega, by omega⟩) q_795 q_797 q_22 q_64 q_798 (by decide +kernel) (wl_m 0 (by decide)) rfl rfl (by decide) (by decide) (Nat.le_of_ble_eq_true rfl) dX7_day_49 rfl ?_
          have r_28 := mTk_r R (n := d)
          refine x_isub C dX7_day_52 ?_
          exact x_iret C D rfl dX7_day_53 (by unfold yDay; (repeat (first | rw [if_pos (by first | omega | assumption | exact not_not_intro (by assumption))] | rw [if_neg (by first | omega | assumption | exact not_not_intro (by assumption))])); all_goals rfl) rfl rfl rfl
        · refine x_aload_n C dX7_day_32 rfl ?_
          refine x_iload_n C dX7_day_33 rfl ?_
          refine x_callV (nA := 1) (As := [vI d]) (rest := []) C (m_X7_taken hE (r := r) R (n := d) ⟨by omega, by omega⟩) q_795 q_797 q_22 q_64 q_798 (by decide +kernel) (wl_m 0 (by decide)) rfl rfl (by decide) (by decide) (Nat.le_of_ble_eq_true rfl) dX7_day_34 rfl ?_
          have r_29 := mTk_r R (n := d)
          refine x_goto 53 C dX7_day_37 (by decide) ?_
          exact x_iret C D rfl dX7_day_53 (by unfold yDay; (repeat (first | rw [if_pos (by first | omega | assumption | exact not_not_intro (by assumption))] | rw [if_neg (by first | omega | assumption | exact not_not_intro (by assumption))])); all_goals rfl) rfl rfl rfl
    · refine x_ldc (n := (-1000002)) C q_790 dX7_day_20 rfl ?_
      exact x_iret C D rfl dX7_day_22 (by unfold yDay; (repeat (first | rw [if_pos (by first | omega | assumption | exact not_not_intro (by assumption))] | rw [if_neg (by first | omega | assumption | exact not_not_intro (by assumption))])); all_goals rfl) rfl rfl rfl
set_option maxRecDepth 100000 in
set_option maxHeartbeats 4000000 in
theorem m_X7_fresh {hs : Nat → HV} {tp md : HV} {E : HE} (hE : HI E) {r : Int → Int} {K : Int} (R : MR K r) {k w : Int} (kk0 : IR k) (w0 : IR w) (hK : K ≤ 1000000) : Mt yX7_fresh cX7_fresh 5 (some .int) 2 E [.ref (mA E 0), vI k, vI w] hs tp (upr md 1 r) (some (vI (yFresh r k w))) hs tp (upr md 1 r) := by
  refine mk_Mt hE (plainFor_of_name (by decide)) (Nat.le_of_ble_eq_true rfl) (by intro w0 hw0; simp only [List.mem_cons, List.not_mem_nil, or_false] at hw0; rcases hw0 with rfl | rfl | rfl <;> rfl) (rfl : _ = [_, _, _, _, _]) ?_
  intro F C D
  refine x_iload_n C dX7_fresh_0 rfl ?_
  refine x_if_lt 13 C dX7_fresh_1 (by decide) ⟨by omega, by omega⟩ (fun c_1 => ?_) (fun c_1 => ?_)
  · refine x_ldc (n := (-1000002)) C q_790 dX7_fresh_13 rfl ?_
    exact x_iret C D rfl dX7_fresh_15 (by unfold yFresh; rw [if_pos (by omega)]) rfl rfl rfl
  · refine x_iload_n C dX7_fresh_4 rfl ?_
    refine x_const C dX7_fresh_5 ?_
    refine x_const C dX7_fresh_6 ?_
    refine x_callS (nA := 3) (As := [vI w, vI 0, vI 1]) (rest := []) C (m_X7_in hE (v := w) (l := 0) (m := 1) ⟨by omega, by omega⟩ ⟨by omega, by omega⟩ ⟨by omega, by omega⟩) q_787 q_788 q_64 q_789 (by decide +kernel) rfl (by decide) (by decide) (Nat.le_of_ble_eq_true rfl) dX7_fresh_7 rfl ?_
    refine x_bz_ne 16 C dX7_fresh_10 (by decide) (fun c_2 => ?_) (fun c_2 => ?_)
    · refine x_iload_n C dX7_fresh_16 rfl ?_
      refine x_istore_n C dX7_fresh_17 (by decide) (rfl : _ = [_, _, _, _, _]) ?_
      refine x_const C dX7_fresh_18 ?_
      refine x_istore C dX7_fresh_19 (by decide) (rfl : _ = [_, _, _, _, _]) ?_
      have K21 : ∀ (nn : Nat) (n : Nat) (l : Int), n ≤ 1064 → 0 ≤ l → l ≤ 2147483647 → mFr r w 1064 0 k = mFr r w n (1064 - n) l → (n : Int) < nn →  G F E hs tp (upr md 1 r) 21 [some (.ref (mA E 0)), some (vI k), some (vI w), some (vI l), some (vI (1064 - (n : Int)))] [] := by
        intro nn
        induction nn with
        | zero => intro n l n0 l0 l1 hq hz; exact absurd hz (by omega)
        | succ nn ih =>
          intro n l n0 l0 l1 hq hz
          refine x_iload C dX7_fresh_21 rfl ?_
          refine x_sipush C dX7_fresh_23 (by decide) ?_
          refine x_icmp_ge 77 C dX7_fresh_26 (by decide) ⟨by omega, by omega⟩ ⟨by omega, by omega⟩ (fun c_3 => ?_) (fun c_3 => ?_)
          · refine x_ldc (n := (-1000005)) C q_821 dX7_fresh_77 rfl ?_
            exact x_iret C D rfl dX7_fresh_79 (by unfold yFresh; rw [if_neg (by omega), hq, show n = 0 by omega]; rfl) rfl rfl rfl
          · refine x_aload_n C dX7_fresh_29 rfl ?_
            refine gm_0_0 C q_751 dX7_fresh_30 ?_
            refine x_sipush C dX7_fresh_33 (by decide) ?_
            refine x_iload C dX7_fresh_36 rfl ?_
            refine x_iadd C dX7_fresh_38 ?_
            refine lm_1 C (by omega) (by omega) dX7_fresh_39 (show _ = r (1675 + (1064 - (n : Int))) from rfl) ?_
            have r_4 := MR.fre R (d := (1064 - (n : Int))) (by omega) (by omega)
            refine x_if_le 71 C dX7_fresh_40 (by decide) ⟨by omega, by omega⟩ (fun c_5 => ?_) (fun c_5 => ?_)
            · refine x_iinc C dX7_fresh_71 rfl (by decide) (rfl : _ = [_, _, _, _, _]) ?_
              refine x_goto 21 C dX7_fresh_74 (by decide) ?_
              obtain ⟨n9, rfl⟩ : ∃ n9, n = n9 + 1 := ⟨n - 1, by omega⟩
              refine G.wk (ih n9 (l) (by omega) (by omega) (by omega) (by rw [hq]; refine (show mFr r w (n9 + 1) _ l = _ from if_neg (by omega)).trans ?_; congr 1; omega) (by omega)) ?_
              simp only [leL, and_self, and_true, true_and]; first | (refine ⟨?_, ?_⟩ <;> exact congrArg (fun z => some (vI z)) (by omega)) | exact congrArg (fun z => some (vI z)) (by omega)
            · refine x_iload_n C dX7_fresh_43 rfl ?_
              refine x_if_ne 68 C dX7_fresh_44 (by decide) ⟨by omega, by omega⟩ (fun c_6 => ?_) (fun c_6 => ?_)
              · refine x_iinc C dX7_fresh_68 rfl (by decide) (rfl : _ = [_, _, _, _, _]) ?_
                refine x_iinc C dX7_fresh_71 rfl (by decide) (rfl : _ = [_, _, _, _, _]) ?_
                refine x_goto 21 C dX7_fresh_74 (by decide) ?_
                obtain ⟨n9, rfl⟩ : ∃ n9, n = n9 + 1 := ⟨n - 1, by omega⟩
                refine G.wk (ih n9 (l - 1) (by omega) (by omega) (by omega) (by rw [hq]; refine (show mFr r w (n9 + 1) _ l = _ from (if_pos (by omega)).trans (if_neg (by assumption))).trans ?_; congr 1; omega) (by omega)) ?_
                simp only [leL, and_self, and_true, true_and]; first | (refine ⟨?_, ?_⟩ <;> exact congrArg (fun z => some (vI z)) (by omega)) | exact congrArg (fun z => some (vI z)) (by omega)
              · refine x_iload_n C dX7_fresh_47 rfl ?_
                refine x_if_ne 56 C dX7_fresh_48 (by decide) ⟨by omega, by omega⟩ (fun c_7 => ?_) (fun c_7 => ?_)
                · refine x_aload_n C dX7_fresh_56 rfl ?_
                  refine gm_0_0 C q_751 dX7_fresh_57 ?_
                  refine x_sipush C dX7_fresh_60 (by decide) ?_
                  refine x_iload C dX7_fresh_63 rfl ?_
                  refine x_iadd C dX7_fresh_65 ?_
                  refine lm_1 C (by omega) (by omega) dX7_fresh_66 (show _ = r (1675 + (1064 - (n : Int))) from rfl) ?_
                  have r_8 := MR.fre R (d := (1064 - (n : Int))) (by omega) (by omega)
                  exact x_iret C D rfl dX7_fresh_67 (by unfold yFresh; rw [if_neg (by omega), hq]; obtain ⟨n9, rfl⟩ : ∃ n9, n = n9 + 1 := ⟨n - 1, by omega⟩; exact ((if_pos (by omega)).trans ((if_pos (by assumption)).trans (if_neg (by assumption)))).symm) rfl rfl rfl
                · refine x_iload C dX7_fresh_51 rfl ?_
                  refine x_goto 67 C dX7_fresh_53 (by decide) ?_
                  exact x_iret C D rfl dX7_fresh_67 (by unfold yFresh; rw [if_neg (by omega), hq]; obtain ⟨n9, rfl⟩ : ∃ n9, n = n9 + 1 := ⟨n - 1, by omega⟩; exact ((if_pos (by omega)).trans ((if_pos (by assumption)).trans (if_pos (by assumption)))).symm) rfl rfl rfl
      exact K21 1065 1064 k (by omega) (by omega) (by omega) rfl (by omega)
    · refine x_ldc (n := (-1000002)) C q_790 dX7_fresh_13 rfl ?_
      exact x_iret C D rfl dX7_fresh_15 (by unfold yFresh; rw [if_pos (by omega)]) rfl rfl rfl
set_option maxRecDepth 100000 in
set_option maxHeartbeats 4000000 in
theorem m_X7_waiting {hs : Nat → HV} {tp md : HV} {E : HE} (hE : HI E) {r : Int → Int} {K : Int} (R : MR K r) {k w : Int} (kk0 : IR k) (w0 : IR w) : Mt yX7_waiting cX7_waiting 3 (some .int) 2 E [.ref (mA E 0), vI k, vI w] hs tp (upr md 1 r) (some (vI (yWaiting r k w))) hs tp (upr md 1 r) := by
  refine mk_Mt hE (plainFor_of_name (by decide)) (Nat.le_of_ble_eq_true rfl) (by intro w0 hw0; simp only [List.mem_cons, List.not_mem_nil, or_false] at hw0; rcases hw0 with rfl | rfl | rfl <;> rfl) (rfl : _ = [_, _, _]) ?_
  intro F C D
  have rw0 := MR.wait R
  refine x_iload_n C dX7_waiting_0 rfl ?_
  refine x_if_lt 13 C dX7_waiting_1 (by decide) ⟨by omega, by omega⟩ (fun c_1 => ?_) (fun c_1 => ?_)
  · refine x_ldc (n := (-1000002)) C q_790 dX7_waiting_13 rfl ?_
    exact x_iret C D rfl dX7_waiting_15 (by unfold yWaiting; (repeat (first | rw [if_pos (by first | omega | assumption | exact not_not_intro (by assumption))] | rw [if_neg (by first | omega | assumption | exact not_not_intro (by assumption))])); all_goals rfl) rfl rfl rfl
  · refine x_iload_n C dX7_waiting_4 rfl ?_
    refine x_const C dX7_waiting_5 ?_
    refine x_const C dX7_waiting_6 ?_
    refine x_callS (nA := 3) (As := [vI w, vI 0, vI 1]) (rest := []) C (m_X7_in hE (v := w) (l := 0) (m := 1) ⟨by omega, by omega⟩ ⟨by omega, by omega⟩ ⟨by omega, by omega⟩) q_787 q_788 q_64 q_789 (by decide +kernel) rfl (by decide) (by decide) (Nat.le_of_ble_eq_true rfl) dX7_waiting_7 rfl ?_
    refine x_bz_ne 16 C dX7_waiting_10 (by decide) (fun c_2 => ?_) (fun c_2 => ?_)
    · refine x_iload_n C dX7_waiting_16 rfl ?_
      refine x_aload_n C dX7_waiting_17 rfl ?_
      refine gm_0_0 C q_751 dX7_waiting_18 ?_
      refine x_const C dX7_waiting_21 ?_
      refine lm_1 C (by omega) (by omega) dX7_waiting_22 (show _ = r 3 from rfl) ?_
      have r_3 := MR.wait R
      refine x_icmp_ge 47 C dX7_waiting_23 (by decide) ⟨by omega, by omega⟩ ⟨by omega, by omega⟩ (fun c_4 => ?_) (fun c_4 => ?_)
      · refine x_ldc (n := (-1000005)) C q_821 dX7_waiting_47 rfl ?_
        exact x_iret C D rfl dX7_waiting_49 (by unfold yWaiting; (repeat (first | rw [if_pos (by first | omega | assumption | exact not_not_intro (by assumption))] | rw [if_neg (by first | omega | assumption | exact not_not_intro (by assumption))])); all_goals rfl) rfl rfl rfl
      · refine x_aload_n C dX7_waiting_26 rfl ?_
        refine gm_0_0 C q_751 dX7_waiting_27 ?_
        refine x_iload_n C dX7_waiting_30 rfl ?_
        refine x_if_ne 39 C dX7_waiting_31 (by decide) ⟨by omega, by omega⟩ (fun c_5 => ?_) (fun c_5 => ?_)
        · refine x_bipush C dX7_waiting_39 (by decide) ?_
          refine x_iload_n C dX7_waiting_41 rfl ?_
          refine x_iadd C dX7_waiting_42 ?_
          refine lm_1 C (by omega) (by omega) dX7_waiting_43 (show _ = r (39 + k) from rfl) ?_
          have r_6 := MR.por R (i := k) (by omega) (by omega)
          refine x_goto 49 C dX7_waiting_44 (by decide) ?_
          exact x_iret C D rfl dX7_waiting_49 (by unfold yWaiting; (repeat (first | rw [if_pos (by first | omega | assumption | exact not_not_intro (by assumption))] | rw [if_neg (by first | omega | assumption | exact not_not_intro (by assumption))])); all_goals rfl) rfl rfl rfl
        · refine x_bipush C dX7_waiting_34 (by decide) ?_
          refine x_goto 41 C dX7_waiting_36 (by decide) ?_
          refine x_iload_n C dX7_waiting_41 rfl ?_
          refine x_iadd C dX7_waiting_42 ?_
          refine lm_1 C (by omega) (by omega) dX7_waiting_43 (show _ = r (27 + k) from rfl) ?_
          have r_7 := MR.kin R (i := k) (by omega) (by omega)
          refine x_goto 49 C dX7_waiting_44 (by decide) ?_
          exact x_iret C D rfl dX7_waiting_49 (by unfold yWaiting; (repeat (first | rw [if_pos (by first | omega | assumption | exact not_not_intro (by assumption))] | rw [if_neg (by first | omega | assumption | exact not_not_intro (by assumption))])); all_goals rfl) rfl rfl rfl
    · refine x_ldc (n := (-1000002)) C q_790 dX7_waiting_13 rfl ?_
      exact x_iret C D rfl dX7_waiting_15 (by unfold yWaiting; (repeat (first | rw [if_pos (by first | omega | assumption | exact not_not_intro (by assumption))] | rw [if_neg (by first | omega | assumption | exact not_not_intro (by assumption))])); all_goals rfl) rfl rfl rfl
set_option maxRecDepth 100000 in
set_option maxHeartbeats 4000000 in
theorem m_X7_freshPortions {hs : Nat → HV} {tp md : HV} {E : HE} (hE : HI E) {r : Int → Int} {K : Int} (R : MR K r) : Mt yX7_freshPortions cX7_freshPortions 3 (some .int) 1 E [.ref (mA E 0)] hs tp (upr md 1 r) (some (vI (mFrP r))) hs tp (upr md 1 r) := by
  refine mk_Mt hE (plainFor_of_name (by decide)) (Nat.le_of_ble_eq_true rfl) (by intro w0 hw0; simp only [List.mem_cons, List.not_mem_nil, or_false] at hw0; rcases hw0 with rfl <;> rfl) (rfl : _ = [_, _, _]) ?_
  intro F C D
  refine x_const C dX7_freshPortions_0 ?_
  refine x_istore_n C dX7_freshPortions_1 (by decide) (rfl : _ = [_, _, _]) ?_
  refine x_const C dX7_freshPortions_2 ?_
  refine x_istore_n C dX7_freshPortions_3 (by decide) (rfl : _ = [_, _, _]) ?_
  have K4 : ∀ (nn : Nat) (i : Int), 0 ≤ i → i ≤ 1064 → 1064 - i < nn →  G F E hs tp (upr md 1 r) 4 [some (.ref (mA E 0)), some (vI (sumI ((fun q => r (1675 + q))) i)), some (vI i)] [] := by
    intro nn
    induction nn with
    | zero => intro i i0 i1 hz; exact absurd hz (by omega)
    | succ nn ih =>
      intro i i0 i1 hz
      refine x_iload_n C dX7_freshPortions_4 rfl ?_
      refine x_sipush C dX7_freshPortions_5 (by decide) ?_
      refine x_icmp_ge 30 C dX7_freshPortions_8 (by decide) ⟨by omega, by omega⟩ ⟨by omega, by omega⟩ (fun c_1 => ?_) (fun c_1 => ?_)
      · refine x_iload_n C dX7_freshPortions_30 rfl ?_
        exact x_iret C D rfl dX7_freshPortions_31 (by rw [show i = 1064 by omega]; unfold mFrP; rfl) rfl rfl rfl
      · refine x_iload_n C dX7_freshPortions_11 rfl ?_
        refine x_aload_n C dX7_freshPortions_12 rfl ?_
        refine gm_0_0 C q_751 dX7_freshPortions_13 ?_
        refine x_sipush C dX7_freshPortions_16 (by decide) ?_
        refine x_iload_n C dX7_freshPortions_19 rfl ?_
        refine x_iadd C dX7_freshPortions_20 ?_
        refine lm_1 C (by omega) (by omega) dX7_freshPortions_21 (show _ = r (1675 + i) from rfl) ?_
        have r_2 := MR.fre R (d := i) (by omega) (by omega)
        refine x_iadd C dX7_freshPortions_22 ?_
        refine x_istore_n C dX7_freshPortions_23 (by decide) (rfl : _ = [_, _, _]) ?_
        refine x_iinc C dX7_freshPortions_24 rfl (by decide) (rfl : _ = [_, _, _]) ?_
        refine x_goto 4 C dX7_freshPortions_27 (by decide) ?_
        refine G.wk (ih (i + 1) (by omega) (by omega) (by omega)) ?_
        simp only [leL, sumI_s i0, and_self, and_true, true_and]; try trivial
  exact K4 ((1064 : Int) + 1).toNat 0 (by omega) (by omega) (by omega)
set_option maxRecDepth 100000 in
set_option maxHeartbeats 4000000 in
theorem m_X7_waitingPortions {hs : Nat → HV} {tp md : HV} {E : HE} (hE : HI E) {r : Int → Int} {K : Int} (R : MR K r) : Mt yX7_waitingPortions cX7_waitingPortions 3 (some .int) 1 E [.ref (mA E 0)] hs tp (upr md 1 r) (some (vI (mWaP r))) hs tp (upr md 1 r) := by
  refine mk_Mt hE (plainFor_of_name (by decide)) (Nat.le_of_ble_eq_true rfl) (by intro w0 hw0; simp only [List.mem_cons, List.not_mem_nil, or_false] at hw0; rcases hw0 with rfl <;> rfl) (rfl : _ = [_, _, _]) ?_
  intro F C D
  have rw0 := MR.wait R
  refine x_const C dX7_waitingPortions_0 ?_
  refine x_istore_n C dX7_waitingPortions_1 (by decide) (rfl : _ = [_, _, _]) ?_
  refine x_const C dX7_waitingPortions_2 ?_
  refine x_istore_n C dX7_waitingPortions_3 (by decide) (rfl : _ = [_, _, _]) ?_
  have K4 : ∀ (nn : Nat) (i : Int), 0 ≤ i → i ≤ r 3 → r 3 - i < nn →  G F E hs tp (upr md 1 r) 4 [some (.ref (mA E 0)), some (vI (sumI ((fun q => r (39 + q))) i)), some (vI i)] [] := by
    intro nn
    induction nn with
    | zero => intro i i0 i1 hz; exact absurd hz (by omega)
    | succ nn ih =>
      intro i i0 i1 hz
      refine x_iload_n C dX7_waitingPortions_4 rfl ?_
      refine x_aload_n C dX7_waitingPortions_5 rfl ?_
      refine gm_0_0 C q_751 dX7_waitingPortions_6 ?_
      refine x_const C dX7_waitingPortions_9 ?_
      refine lm_1 C (by omega) (by omega) dX7_waitingPortions_10 (show _ = r 3 from rfl) ?_
      have r_1 := MR.wait R
      refine x_icmp_ge 32 C dX7_waitingPortions_11 (by decide) ⟨by omega, by omega⟩ ⟨by omega, by omega⟩ (fun c_2 => ?_) (fun c_2 => ?_)
      · refine x_iload_n C dX7_waitingPortions_32 rfl ?_
        exact x_iret C D rfl dX7_waitingPortions_33 (by rw [show i = r 3 by omega]; unfold mWaP; rfl) rfl rfl rfl
      · refine x_iload_n C dX7_waitingPortions_14 rfl ?_
        refine x_aload_n C dX7_waitingPortions_15 rfl ?_
        refine gm_0_0 C q_751 dX7_waitingPortions_16 ?_
        refine x_bipush C dX7_waitingPortions_19 (by decide) ?_
        refine x_iload_n C dX7_waitingPortions_21 rfl ?_
        refine x_iadd C dX7_waitingPortions_22 ?_
        refine lm_1 C (by omega) (by omega) dX7_waitingPortions_23 (show _ = r (39 + i) from rfl) ?_
        have r_3 := MR.por R (i := i) (by omega) (by omega)
        refine x_iadd C dX7_waitingPortions_24 ?_
        refine x_istore_n C dX7_waitingPortions_25 (by decide) (rfl : _ = [_, _, _]) ?_
        refine x_iinc C dX7_waitingPortions_26 rfl (by decide) (rfl : _ = [_, _, _]) ?_
        refine x_goto 4 C dX7_waitingPortions_29 (by decide) ?_
        refine G.wk (ih (i + 1) (by omega) (by omega) (by omega)) ?_
        simp only [leL, sumI_s i0, and_self, and_true, true_and]; try trivial
  exact K4 ((r 3 : Int) + 1).toNat 0 (by omega) (by omega) (by omega)
set_option maxRecDepth 100000 in
set_option maxHeartbeats 4000000 in
theorem m_X7_count {hs : Nat → HV} {tp md : HV} {E : HE} (hE : HI E) {r : Int → Int} {K : Int} (R : MR K r) {w : Int} (w0 : IR w) : Mt yX7_count cX7_count 3 (some .int) 4 E [.ref (mA E 0), vI w] hs tp (upr md 1 r) (some (vI (yCount md r w))) hs tp (upr md 1 r) := by
  refine mk_Mt hE (plainFor_of_name (by decide)) (Nat.le_of_ble_eq_true rfl) (by intro w0 hw0; simp only [List.mem_cons, List.not_mem_nil, or_false] at hw0; rcases hw0 with rfl | rfl <;> rfl) (rfl : _ = [_, _, _]) ?_
  intro F C D
  have rz0 := MR.sets R
  refine x_iload_n C dX7_count_0 rfl ?_
  refine x_const C dX7_count_1 ?_
  refine x_bipush C dX7_count_2 (by decide) ?_
  refine x_callS (nA := 3) (As := [vI w, vI 2, vI 6]) (rest := []) C (m_X7_in hE (v := w) (l := 2) (m := 6) ⟨by omega, by omega⟩ ⟨by omega, by omega⟩ ⟨by omega, by omega⟩) q_787 q_788 q_64 q_789 (by decide +kernel) rfl (by decide) (by decide) (Nat.le_of_ble_eq_true rfl) dX7_count_4 rfl ?_
  refine x_bz_eq 18 C dX7_count_7 (by decide) (fun c_1 => ?_) (fun c_1 => ?_)
  · refine x_iload_n C dX7_count_18 rfl ?_
    refine x_bipush C dX7_count_19 (by decide) ?_
    refine x_bipush C dX7_count_21 (by decide) ?_
    refine x_callS (nA := 3) (As := [vI w, vI 25, vI 34]) (rest := []) C (m_X7_in hE (v := w) (l := 25) (m := 34) ⟨by omega, by omega⟩ ⟨by omega, by omega⟩ ⟨by omega, by omega⟩) q_787 q_788 q_64 q_789 (by decide +kernel) rfl (by decide) (by decide) (Nat.le_of_ble_eq_true rfl) dX7_count_23 rfl ?_
    refine x_bz_eq 42 C dX7_count_26 (by decide) (fun c_2 => ?_) (fun c_2 => ?_)
    · refine x_aload_n C dX7_count_42 rfl ?_
      refine x_callV (nA := 0) (As := []) (rest := []) C (m_X7_personsThere hE (r := r) R) q_924 q_926 q_44 q_64 q_927 (by decide +kernel) (wl_m 0 (by decide)) rfl rfl (by decide) (by decide) (Nat.le_of_ble_eq_true rfl) dX7_count_43 rfl ?_
      have r_3 := nPer_r R
      refine x_istore_n C dX7_count_46 (by decide) (rfl : _ = [_, _, _]) ?_
      refine x_iload_n C dX7_count_47 rfl ?_
      by_cases v_4 : w = 0
      · subst v_4
        refine x_tabIn 164 C dX7_count_48 ⟨by omega, by omega⟩ (by omega) (by omega) (show _ = some (116 : Int) from rfl) (by decide) ?_
        refine x_aload_n C dX7_count_164 rfl ?_
        refine gm_0_0 C q_751 dX7_count_165 ?_
        refine x_const C dX7_count_168 ?_
        refine lm_1 C (by omega) (by omega) dX7_count_169 (show _ = r 0 from rfl) ?_
        have r_5 := MR.day R
        exact x_iret C D rfl dX7_count_170 (by first | (exfalso; omega) | (unfold yCount; (repeat (first | rw [if_pos (by first | omega | assumption | exact not_not_intro (by assumption))] | rw [if_neg (by first | omega | assumption | exact not_not_intro (by assumption))])); all_goals rfl)) rfl rfl rfl
      by_cases v_6 : w = 1
      · subst v_6
        refine x_tabIn 171 C dX7_count_48 ⟨by omega, by omega⟩ (by omega) (by omega) (show _ = some (123 : Int) from rfl) (by decide) ?_
        refine x_aload_n C dX7_count_171 rfl ?_
        refine gm_0_0 C q_751 dX7_count_172 ?_
        refine x_const C dX7_count_175 ?_
        refine lm_1 C (by omega) (by omega) dX7_count_176 (show _ = r 1 from rfl) ?_
        have r_7 := MR.came R
        exact x_iret C D rfl dX7_count_177 (by first | (exfalso; omega) | (unfold yCount; (repeat (first | rw [if_pos (by first | omega | assumption | exact not_not_intro (by assumption))] | rw [if_neg (by first | omega | assumption | exact not_not_intro (by assumption))])); all_goals rfl)) rfl rfl rfl
      by_cases v_8 : w = 2
      · subst v_8
        refine x_tabIn 317 C dX7_count_48 ⟨by omega, by omega⟩ (by omega) (by omega) (show _ = some (269 : Int) from rfl) (by decide) ?_
        refine x_ldc (n := (-1000002)) C q_790 dX7_count_317 rfl ?_
        exact x_iret C D rfl dX7_count_319 (by first | (exfalso; omega) | (unfold yCount; (repeat (first | rw [if_pos (by first | omega | assumption | exact not_not_intro (by assumption))] | rw [if_neg (by first | omega | assumption | exact not_not_intro (by assumption))])); all_goals rfl)) rfl rfl rfl
      by_cases v_9 : w = 3
      · subst v_9
        refine x_tabIn 317 C dX7_count_48 ⟨by omega, by omega⟩ (by omega) (by omega) (show _ = some (269 : Int) from rfl) (by decide) ?_
        refine x_ldc (n := (-1000002)) C q_790 dX7_count_317 rfl ?_
        exact x_iret C D rfl dX7_count_319 (by first | (exfalso; omega) | (unfold yCount; (repeat (first | rw [if_pos (by first | omega | assumption | exact not_not_intro (by assumption))] | rw [if_neg (by first | omega | assumption | exact not_not_intro (by assumption))])); all_goals rfl)) rfl rfl rfl
      by_cases v_10 : w = 4
      · subst v_10
        refine x_tabIn 317 C dX7_count_48 ⟨by omega, by omega⟩ (by omega) (by omega) (show _ = some (269 : Int) from rfl) (by decide) ?_
        refine x_ldc (n := (-1000002)) C q_790 dX7_count_317 rfl ?_
        exact x_iret C D rfl dX7_count_319 (by first | (exfalso; omega) | (unfold yCount; (repeat (first | rw [if_pos (by first | omega | assumption | exact not_not_intro (by assumption))] | rw [if_neg (by first | omega | assumption | exact not_not_intro (by assumption))])); all_goals rfl)) rfl rfl rfl
      by_cases v_11 : w = 5
      · subst v_11
        refine x_tabIn 317 C dX7_count_48 ⟨by omega, by omega⟩ (by omega) (by omega) (show _ = some (269 : Int) from rfl) (by decide) ?_
        refine x_ldc (n := (-1000002)) C q_790 dX7_count_317 rfl ?_
        exact x_iret C D rfl dX7_count_319 (by first | (exfalso; omega) | (unfold yCount; (repeat (first | rw [if_pos (by first | omega | assumption | exact not_not_intro (by assumption))] | rw [if_neg (by first | omega | assumption | exact not_not_intro (by assumption))])); all_goals rfl)) rfl rfl rfl
      by_cases v_12 : w = 6
      · subst v_12
        refine x_tabIn 317 C dX7_count_48 ⟨by omega, by omega⟩ (by omega) (by omega) (show _ = some (269 : Int) from rfl) (by decide) ?_
        refine x_ldc (n := (-1000002)) C q_790 dX7_count_317 rfl ?_
        exact x_iret C D rfl dX7_count_319 (by first | (exfalso; omega) | (unfold yCount; (repeat (first | rw [if_pos (by first | omega | assumption | exact not_not_intro (by assumption))] | rw [if_neg (by first | omega | assumption | exact not_not_intro (by assumption))])); all_goals rfl)) rfl rfl rfl
      by_cases v_13 : w = 7
      · subst v_13
        refine x_tabIn 178 C dX7_count_48 ⟨by omega, by omega⟩ (by omega) (by omega) (show _ = some (130 : Int) from rfl) (by decide) ?_
        refine x_iload_n C dX7_count_178 rfl ?_
        exact x_iret C D rfl dX7_count_179 (by first | (exfalso; omega) | (unfold yCount; (repeat (first | rw [if_pos (by first | omega | assumption | exact not_not_intro (by assumption))] | rw [if_neg (by first | omega | assumption | exact not_not_intro (by assumption))])); all_goals rfl)) rfl rfl rfl
      by_cases v_14 : w = 8
      · subst v_14
        refine x_tabIn 180 C dX7_count_48 ⟨by omega, by omega⟩ (by omega) (by omega) (show _ = some (132 : Int) from rfl) (by decide) ?_
        refine x_iload_n C dX7_count_180 rfl ?_
        refine x_aload_n C dX7_count_181 rfl ?_
        refine gm_0_0 C q_751 dX7_count_182 ?_
        refine x_bipush C dX7_count_185 (by decide) ?_
        refine lm_1 C (by omega) (by omega) dX7_count_187 (show _ = r 17 from rfl) ?_
        have r_15 := (MR.sets R)
        refine x_icmp_le 203 C dX7_count_188 (by decide) ⟨by omega, by omega⟩ ⟨by omega, by omega⟩ (fun c_16 => ?_) (fun c_16 => ?_)
        · refine x_const C dX7_count_203 ?_
          exact x_iret C D rfl dX7_count_204 (by first | (exfalso; omega) | (unfold yCount; (repeat (first | rw [if_pos (by first | omega | assumption | exact not_not_intro (by assumption))] | rw [if_neg (by first | omega | assumption | exact not_not_intro (by assumption))])); all_goals rfl)) rfl rfl rfl
        · refine x_iload_n C dX7_count_191 rfl ?_
          refine x_aload_n C dX7_count_192 rfl ?_
          refine gm_0_0 C q_751 dX7_count_193 ?_
          refine x_bipush C dX7_count_196 (by decide) ?_
          refine lm_1 C (by omega) (by omega) dX7_count_198 (show _ = r 17 from rfl) ?_
          have r_17 := (MR.sets R)
          refine x_isub C dX7_count_199 ?_
          refine x_goto 204 C dX7_count_200 (by decide) ?_
          exact x_iret C D rfl dX7_count_204 (by first | (exfalso; omega) | (unfold yCount; (repeat (first | rw [if_pos (by first | omega | assumption | exact not_not_intro (by assumption))] | rw [if_neg (by first | omega | assumption | exact not_not_intro (by assumption))])); all_goals rfl)) rfl rfl rfl
      by_cases v_18 : w = 9
      · subst v_18
        refine x_tabIn 205 C dX7_count_48 ⟨by omega, by omega⟩ (by omega) (by omega) (show _ = some (157 : Int) from rfl) (by decide) ?_
        refine x_aload_n C dX7_count_205 rfl ?_
        refine x_callV (nA := 0) (As := []) (rest := []) C (m_X7_freshPortions hE (r := r) R) q_1003 q_1005 q_51 q_64 q_1006 (by decide +kernel) (wl_m 0 (by decide)) rfl rfl (by decide) (by decide) (Nat.le_of_ble_eq_true rfl) dX7_count_206 rfl ?_
        exact x_iret C D rfl dX7_count_209 (by first | (exfalso; omega) | (unfold yCount; (repeat (first | rw [if_pos (by first | omega | assumption | exact not_not_intro (by assumption))] | rw [if_neg (by first | omega | assumption | exact not_not_intro (by assumption))])); all_goals rfl)) rfl rfl rfl
      by_cases v_19 : w = 10
      · subst v_19
        refine x_tabIn 210 C dX7_count_48 ⟨by omega, by omega⟩ (by omega) (by omega) (show _ = some (162 : Int) from rfl) (by decide) ?_
        refine x_aload_n C dX7_count_210 rfl ?_
        refine gm_0_0 C q_751 dX7_count_211 ?_
        refine x_const C dX7_count_214 ?_
        refine lm_1 C (by omega) (by omega) dX7_count_215 (show _ = r 2 from rfl) ?_
        have r_20 := MR.dry R
        exact x_iret C D rfl dX7_count_216 (by first | (exfalso; omega) | (unfold yCount; (repeat (first | rw [if_pos (by first | omega | assumption | exact not_not_intro (by assumption))] | rw [if_neg (by first | omega | assumption | exact not_not_intro (by assumption))])); all_goals rfl)) rfl rfl rfl
      by_cases v_21 : w = 11
      · subst v_21
        refine x_tabIn 217 C dX7_count_48 ⟨by omega, by omega⟩ (by omega) (by omega) (show _ = some (169 : Int) from rfl) (by decide) ?_
        refine x_aload_n C dX7_count_217 rfl ?_
        refine gm_0_0 C q_751 dX7_count_218 ?_
        refine x_const C dX7_count_221 ?_
        refine lm_1 C (by omega) (by omega) dX7_count_222 (show _ = r 3 from rfl) ?_
        have r_22 := MR.wait R
        exact x_iret C D rfl dX7_count_223 (by first | (exfalso; omega) | (unfold yCount; (repeat (first | rw [if_pos (by first | omega | assumption | exact not_not_intro (by assumption))] | rw [if_neg (by first | omega | assumption | exact not_not_intro (by assumption))])); all_goals rfl)) rfl rfl rfl
      by_cases v_23 : w = 12
      · subst v_23
        refine x_tabIn 224 C dX7_count_48 ⟨by omega, by omega⟩ (by omega) (by omega) (show _ = some (176 : Int) from rfl) (by decide) ?_
        refine x_aload_n C dX7_count_224 rfl ?_
        refine x_callV (nA := 0) (As := []) (rest := []) C (m_X7_waitingPortions hE (r := r) R) q_1007 q_1009 q_52 q_64 q_1010 (by decide +kernel) (wl_m 0 (by decide)) rfl rfl (by decide) (by decide) (Nat.le_of_ble_eq_true rfl) dX7_count_225 rfl ?_
        exact x_iret C D rfl dX7_count_228 (by first | (exfalso; omega) | (unfold yCount; (repeat (first | rw [if_pos (by first | omega | assumption | exact not_not_intro (by assumption))] | rw [if_neg (by first | omega | assumption | exact not_not_intro (by assumption))])); all_goals rfl)) rfl rfl rfl
      by_cases v_24 : w = 13
      · subst v_24
        refine x_tabIn 229 C dX7_count_48 ⟨by omega, by omega⟩ (by omega) (by omega) (show _ = some (181 : Int) from rfl) (by decide) ?_
        refine x_aload_n C dX7_count_229 rfl ?_
        refine gm_0_0 C q_751 dX7_count_230 ?_
        refine x_const C dX7_count_233 ?_
        refine lm_1 C (by omega) (by omega) dX7_count_234 (show _ = r 4 from rfl) ?_
        have r_25 := MR.cal R
        exact x_iret C D rfl dX7_count_235 (by first | (exfalso; omega) | (unfold yCount; (repeat (first | rw [if_pos (by first | omega | assumption | exact not_not_intro (by assumption))] | rw [if_neg (by first | omega | assumption | exact not_not_intro (by assumption))])); all_goals rfl)) rfl rfl rfl
      by_cases v_26 : w = 14
      · subst v_26
        refine x_tabIn 236 C dX7_count_48 ⟨by omega, by omega⟩ (by omega) (by omega) (show _ = some (188 : Int) from rfl) (by decide) ?_
        refine x_aload_n C dX7_count_236 rfl ?_
        refine gm_0_0 C q_751 dX7_count_237 ?_
        refine x_const C dX7_count_240 ?_
        refine lm_1 C (by omega) (by omega) dX7_count_241 (show _ = r 5 from rfl) ?_
        exact x_iret C D rfl dX7_count_242 (by first | (exfalso; omega) | (unfold yCount; (repeat (first | rw [if_pos (by first | omega | assumption | exact not_not_intro (by assumption))] | rw [if_neg (by first | omega | assumption | exact not_not_intro (by assumption))])); all_goals rfl)) rfl rfl rfl
      by_cases v_27 : w = 15
      · subst v_27
        refine x_tabIn 243 C dX7_count_48 ⟨by omega, by omega⟩ (by omega) (by omega) (show _ = some (195 : Int) from rfl) (by decide) ?_
        refine x_aload_n C dX7_count_243 rfl ?_
        refine gm_0_0 C q_751 dX7_count_244 ?_
        refine x_bipush C dX7_count_247 (by decide) ?_
        refine lm_1 C (by omega) (by omega) dX7_count_249 (show _ = r 6 from rfl) ?_
        exact x_iret C D rfl dX7_count_250 (by first | (exfalso; omega) | (unfold yCount; (repeat (first | rw [if_pos (by first | omega | assumption | exact not_not_intro (by assumption))] | rw [if_neg (by first | omega | assumption | exact not_not_intro (by assumption))])); all_goals rfl)) rfl rfl rfl
      by_cases v_28 : w = 16
      · subst v_28
        refine x_tabIn 251 C dX7_count_48 ⟨by omega, by omega⟩ (by omega) (by omega) (show _ = some (203 : Int) from rfl) (by decide) ?_
        refine x_aload_n C dX7_count_251 rfl ?_
        refine gm_0_0 C q_751 dX7_count_252 ?_
        refine x_bipush C dX7_count_255 (by decide) ?_
        refine lm_1 C (by omega) (by omega) dX7_count_257 (show _ = r 7 from rfl) ?_
        exact x_iret C D rfl dX7_count_258 (by first | (exfalso; omega) | (unfold yCount; (repeat (first | rw [if_pos (by first | omega | assumption | exact not_not_intro (by assumption))] | rw [if_neg (by first | omega | assumption | exact not_not_intro (by assumption))])); all_goals rfl)) rfl rfl rfl
      by_cases v_29 : w = 17
      · subst v_29
        refine x_tabIn 259 C dX7_count_48 ⟨by omega, by omega⟩ (by omega) (by omega) (show _ = some (211 : Int) from rfl) (by decide) ?_
        refine x_aload_n C dX7_count_259 rfl ?_
        refine gm_0_0 C q_751 dX7_count_260 ?_
        refine x_bipush C dX7_count_263 (by decide) ?_
        refine lm_1 C (by omega) (by omega) dX7_count_265 (show _ = r 8 from rfl) ?_
        exact x_iret C D rfl dX7_count_266 (by first | (exfalso; omega) | (unfold yCount; (repeat (first | rw [if_pos (by first | omega | assumption | exact not_not_intro (by assumption))] | rw [if_neg (by first | omega | assumption | exact not_not_intro (by assumption))])); all_goals rfl)) rfl rfl rfl
      by_cases v_30 : w = 18
      · subst v_30
        refine x_tabIn 267 C dX7_count_48 ⟨by omega, by omega⟩ (by omega) (by omega) (show _ = some (219 : Int) from rfl) (by decide) ?_
        refine x_aload_n C dX7_count_267 rfl ?_
        refine gm_0_0 C q_751 dX7_count_268 ?_
        refine x_bipush C dX7_count_271 (by decide) ?_
        refine lm_1 C (by omega) (by omega) dX7_count_273 (show _ = r 9 from rfl) ?_
        exact x_iret C D rfl dX7_count_274 (by first | (exfalso; omega) | (unfold yCount; (repeat (first | rw [if_pos (by first | omega | assumption | exact not_not_intro (by assumption))] | rw [if_neg (by first | omega | assumption | exact not_not_intro (by assumption))])); all_goals rfl)) rfl rfl rfl
      by_cases v_31 : w = 19
      · subst v_31
        refine x_tabIn 275 C dX7_count_48 ⟨by omega, by omega⟩ (by omega) (by omega) (show _ = some (227 : Int) from rfl) (by decide) ?_
        refine x_aload_n C dX7_count_275 rfl ?_
        refine gm_0_0 C q_751 dX7_count_276 ?_
        refine x_bipush C dX7_count_279 (by decide) ?_
        refine lm_1 C (by omega) (by omega) dX7_count_281 (show _ = r 10 from rfl) ?_
        exact x_iret C D rfl dX7_count_282 (by first | (exfalso; omega) | (unfold yCount; (repeat (first | rw [if_pos (by first | omega | assumption | exact not_not_intro (by assumption))] | rw [if_neg (by first | omega | assumption | exact not_not_intro (by assumption))])); all_goals rfl)) rfl rfl rfl
      by_cases v_32 : w = 20
      · subst v_32
        refine x_tabIn 283 C dX7_count_48 ⟨by omega, by omega⟩ (by omega) (by omega) (show _ = some (235 : Int) from rfl) (by decide) ?_
        refine x_aload_n C dX7_count_283 rfl ?_
        refine gm_0_0 C q_751 dX7_count_284 ?_
        refine x_bipush C dX7_count_287 (by decide) ?_
        refine lm_1 C (by omega) (by omega) dX7_count_289 (show _ = r 11 from rfl) ?_
        exact x_iret C D rfl dX7_count_290 (by first | (exfalso; omega) | (unfold yCount; (repeat (first | rw [if_pos (by first | omega | assumption | exact not_not_intro (by assumption))] | rw [if_neg (by first | omega | assumption | exact not_not_intro (by assumption))])); all_goals rfl)) rfl rfl rfl
      by_cases v_33 : w = 21
      · subst v_33
        refine x_tabIn 291 C dX7_count_48 ⟨by omega, by omega⟩ (by omega) (by omega) (show _ = some (243 : Int) from rfl) (by decide) ?_
        refine x_aload_n C dX7_count_291 rfl ?_
        refine gm_0_0 C q_751 dX7_count_292 ?_
        refine x_bipush C dX7_count_295 (by decide) ?_
        refine lm_1 C (by omega) (by omega) dX7_count_297 (show _ = r 12 from rfl) ?_
        exact x_iret C D rfl dX7_count_298 (by first | (exfalso; omega) | (unfold yCount; (repeat (first | rw [if_pos (by first | omega | assumption | exact not_not_intro (by assumption))] | rw [if_neg (by first | omega | assumption | exact not_not_intro (by assumption))])); all_goals rfl)) rfl rfl rfl
      by_cases v_34 : w = 22
      · subst v_34
        refine x_tabIn 299 C dX7_count_48 ⟨by omega, by omega⟩ (by omega) (by omega) (show _ = some (251 : Int) from rfl) (by decide) ?_
        refine x_aload_n C dX7_count_299 rfl ?_
        refine gm_0_0 C q_751 dX7_count_300 ?_
        refine x_bipush C dX7_count_303 (by decide) ?_
        refine lm_1 C (by omega) (by omega) dX7_count_305 (show _ = r 13 from rfl) ?_
        exact x_iret C D rfl dX7_count_306 (by first | (exfalso; omega) | (unfold yCount; (repeat (first | rw [if_pos (by first | omega | assumption | exact not_not_intro (by assumption))] | rw [if_neg (by first | omega | assumption | exact not_not_intro (by assumption))])); all_goals rfl)) rfl rfl rfl
      by_cases v_35 : w = 23
      · subst v_35
        refine x_tabIn 307 C dX7_count_48 ⟨by omega, by omega⟩ (by omega) (by omega) (show _ = some (259 : Int) from rfl) (by decide) ?_
        refine x_aload_n C dX7_count_307 rfl ?_
        refine gm_0_6 C q_757 dX7_count_308 (show _ = md 0 6 from rfl) ?_
        exact x_iret C D rfl dX7_count_311 (by first | (exfalso; omega) | (unfold yCount; (repeat (first | rw [if_pos (by first | omega | assumption | exact not_not_intro (by assumption))] | rw [if_neg (by first | omega | assumption | exact not_not_intro (by assumption))])); all_goals rfl)) rfl rfl rfl
      by_cases v_36 : w = 24
      · subst v_36
        refine x_tabIn 312 C dX7_count_48 ⟨by omega, by omega⟩ (by omega) (by omega) (show _ = some (264 : Int) from rfl) (by decide) ?_
        refine x_aload_n C dX7_count_312 rfl ?_
        refine gm_0_7 C q_758 dX7_count_313 (show _ = md 0 7 from rfl) ?_
        exact x_iret C D rfl dX7_count_316 (by first | (exfalso; omega) | (unfold yCount; (repeat (first | rw [if_pos (by first | omega | assumption | exact not_not_intro (by assumption))] | rw [if_neg (by first | omega | assumption | exact not_not_intro (by assumption))])); all_goals rfl)) rfl rfl rfl
      refine x_tabOut 317 C dX7_count_48 ⟨by omega, by omega⟩ (by omega) (by decide) ?_
      refine x_ldc (n := (-1000002)) C q_790 dX7_count_317 rfl ?_
      exact x_iret C D rfl dX7_count_319 (by first | (exfalso; omega) | (unfold yCount; (repeat (first | rw [if_pos (by first | omega | assumption | exact not_not_intro (by assumption))] | rw [if_neg (by first | omega | assumption | exact not_not_intro (by assumption))])); all_goals rfl)) rfl rfl rfl
    · refine x_aload_n C dX7_count_29 rfl ?_
      refine gm_0_0 C q_751 dX7_count_30 ?_
      refine x_bipush C dX7_count_33 (by decide) ?_
      refine x_iload_n C dX7_count_35 rfl ?_
      refine x_iadd C dX7_count_36 ?_
      refine x_bipush C dX7_count_37 (by decide) ?_
      refine x_isub C dX7_count_39 ?_
      refine lm_1 C (by omega) (by omega) dX7_count_40 (show _ = r ((17 + w) - 25) from rfl) ?_
      exact x_iret C D rfl dX7_count_41 (by first | (exfalso; omega) | (unfold yCount; (repeat (first | rw [if_pos (by first | omega | assumption | exact not_not_intro (by assumption))] | rw [if_neg (by first | omega | assumption | exact not_not_intro (by assumption))])); all_goals rfl)) rfl rfl rfl
  · refine x_aload_n C dX7_count_10 rfl ?_
    refine x_iload_n C dX7_count_11 rfl ?_
    refine x_const C dX7_count_12 ?_
    refine x_isub C dX7_count_13 ?_
    refine x_callV (nA := 1) (As := [vI (w - 2)]) (rest := []) C (m_X7_inState hE (r := r) R (w := (w - 2)) ⟨by omega, by omega⟩) q_999 q_1001 q_50 q_64 q_1002 (by decide +kernel) (wl_m 0 (by decide)) rfl rfl (by decide) (by decide) (Nat.le_of_ble_eq_true rfl) dX7_count_14 rfl ?_
    exact x_iret C D rfl dX7_count_17 (by first | (exfalso; omega) | (unfold yCount; (repeat (first | rw [if_pos (by first | omega | assumption | exact not_not_intro (by assumption))] | rw [if_neg (by first | omega | assumption | exact not_not_intro (by assumption))])); all_goals rfl)) rfl rfl rfl
set_option maxRecDepth 100000 in
set_option maxHeartbeats 4000000 in
theorem m_X7_coins {hs : Nat → HV} {tp md : HV} {E : HE} (hE : HI E) {r : Int → Int} {K : Int} (R : MR K r) {w : Int} (w0 : IR w) : Mt yX7_coins cX7_coins 4 (some .int) 2 E [.ref (mA E 0), vI w] hs tp (upr md 1 r) (some (vI (yCoins r w))) hs tp (upr md 1 r) := by
  refine mk_Mt hE (plainFor_of_name (by decide)) (Nat.le_of_ble_eq_true rfl) (by intro w0 hw0; simp only [List.mem_cons, List.not_mem_nil, or_false] at hw0; rcases hw0 with rfl | rfl <;> rfl) (rfl : _ = [_, _, _, _]) ?_
  intro F C D
  have rm := MR.came R
  refine x_iload_n C dX7_coins_0 rfl ?_
  refine x_const C dX7_coins_1 ?_
  refine x_const C dX7_coins_2 ?_
  refine x_callS (nA := 3) (As := [vI w, vI 0, vI 3]) (rest := []) C (m_X7_in hE (v := w) (l := 0) (m := 3) ⟨by omega, by omega⟩ ⟨by omega, by omega⟩ ⟨by omega, by omega⟩) q_787 q_788 q_64 q_789 (by decide +kernel) rfl (by decide) (by decide) (Nat.le_of_ble_eq_true rfl) dX7_coins_3 rfl ?_
  refine x_bz_ne 12 C dX7_coins_6 (by decide) (fun c_1 => ?_) (fun c_1 => ?_)
  · refine x_iload_n C dX7_coins_12 rfl ?_
    refine x_if_ne 24 C dX7_coins_13 (by decide) ⟨by omega, by omega⟩ (fun c_2 => ?_) (fun c_2 => ?_)
    · refine x_iload_n C dX7_coins_24 rfl ?_
      refine x_const C dX7_coins_25 ?_
      refine x_icmp_ne 37 C dX7_coins_26 (by decide) ⟨by omega, by omega⟩ ⟨by omega, by omega⟩ (fun c_3 => ?_) (fun c_3 => ?_)
      · refine x_iload_n C dX7_coins_37 rfl ?_
        refine x_const C dX7_coins_38 ?_
        refine x_icmp_ne 50 C dX7_coins_39 (by decide) ⟨by omega, by omega⟩ ⟨by omega, by omega⟩ (fun c_4 => ?_) (fun c_4 => ?_)
        · refine x_const C dX7_coins_50 ?_
          refine x_istore_n C dX7_coins_51 (by decide) (rfl : _ = [_, _, _, _]) ?_
          refine x_const C dX7_coins_52 ?_
          refine x_istore_n C dX7_coins_53 (by decide) (rfl : _ = [_, _, _, _]) ?_
          have K54 : ∀ (nn : Nat) (i : Int), 0 ≤ i → i ≤ r 1 → r 1 - i < nn →  G F E hs tp (upr md 1 r) 54 [some (.ref (mA E 0)), some (vI w), some (vI (sumI (mHeld r) i)), some (vI i)] [] := by
            intro nn
            induction nn with
            | zero => intro i i0 i1 hz; exact absurd hz (by omega)
            | succ nn ih =>
              intro i i0 i1 hz
              refine x_iload_n C dX7_coins_54 rfl ?_
              refine x_aload_n C dX7_coins_55 rfl ?_
              refine gm_0_0 C q_751 dX7_coins_56 ?_
              refine x_const C dX7_coins_59 ?_
              refine lm_1 C (by omega) (by omega) dX7_coins_60 (show _ = r 1 from rfl) ?_
              have r_5 := MR.came R
              refine x_icmp_ge 93 C dX7_coins_61 (by decide) ⟨by omega, by omega⟩ ⟨by omega, by omega⟩ (fun c_6 => ?_) (fun c_6 => ?_)
              · refine x_iload_n C dX7_coins_93 rfl ?_
                exact x_iret C D rfl dX7_coins_94 (by rw [show i = r 1 by omega]; unfold yCoins; (repeat (first | rw [if_pos (by first | omega | assumption | exact not_not_intro (by assumption))] | rw [if_neg (by first | omega | assumption | exact not_not_intro (by assumption))])); all_goals rfl) rfl rfl rfl
              · refine x_iload_n C dX7_coins_64 rfl ?_
                refine x_aload_n C dX7_coins_65 rfl ?_
                refine x_iload_n C dX7_coins_66 rfl ?_
                refine x_const C dX7_coins_67 ?_
                refine x_callV (nA := 2) (As := [vI i, vI 0]) (rest := [vI (sumI (mHeld r) i)]) C (m_X7_of hE (r := r) (b := i) (w := 0) (by omega) (by omega) (by omega) (by omega) (show _ = r (51 + 7 * i + 0) from rfl)) q_799 q_801 q_23 q_64 q_802 (by decide +kernel) (wl_m 0 (by decide)) rfl rfl (by decide) (by decide) (Nat.le_of_ble_eq_true rfl) dX7_coins_68 rfl ?_
                have r_7 := MR.st R (b := i) (by omega) (by omega)
                refine x_const C dX7_coins_71 ?_
                refine x_icmp_gt 84 C dX7_coins_72 (by decide) ⟨by omega, by omega⟩ ⟨by omega, by omega⟩ (fun c_8 => ?_) (fun c_8 => ?_)
                · refine x_const C dX7_coins_84 ?_
                  refine x_iadd C dX7_coins_85 ?_
                  refine x_istore_n C dX7_coins_86 (by decide) (rfl : _ = [_, _, _, _]) ?_
                  refine x_iinc C dX7_coins_87 rfl (by decide) (rfl : _ = [_, _, _, _]) ?_
                  refine x_goto 54 C dX7_coins_90 (by decide) ?_
                  have e9 : mHeld r i = 0 := if_neg (by omega)
                  refine G.wk (ih (i + 1) (by omega) (by omega) (by omega)) ?_
                  simp only [leL, sumI_s i0, e9, and_self, and_true, true_and]; try trivial
                · refine x_aload_n C dX7_coins_75 rfl ?_
                  refine x_iload_n C dX7_coins_76 rfl ?_
                  refine x_const C dX7_coins_77 ?_
                  refine x_callV (nA := 2) (As := [vI i, vI 5]) (rest := [vI (sumI (mHeld r) i)]) C (m_X7_of hE (r := r) (b := i) (w := 5) (by omega) (by omega) (by omega) (by omega) (show _ = r (51 + 7 * i + 5) from rfl)) q_799 q_801 q_23 q_64 q_802 (by decide +kernel) (wl_m 0 (by decide)) rfl rfl (by decide) (by decide) (Nat.le_of_ble_eq_true rfl) dX7_coins_78 rfl ?_
                  refine x_goto 85 C dX7_coins_81 (by decide) ?_
                  refine x_iadd C dX7_coins_85 ?_
                  refine x_istore_n C dX7_coins_86 (by decide) (rfl : _ = [_, _, _, _]) ?_
                  refine x_iinc C dX7_coins_87 rfl (by decide) (rfl : _ = [_, _, _, _]) ?_
                  refine x_goto 54 C dX7_coins_90 (by decide) ?_
                  have e9 : mHeld r i = (r (51 + 7 * i + 5)) := if_pos (by omega)
                  refine G.wk (ih (i + 1) (by omega) (by omega) (by omega)) ?_
                  simp only [leL, sumI_s i0, e9, and_self, and_true, true_and]; try trivial
          exact K54 ((r 1 : Int) + 1).toNat 0 (by omega) (by omega) (by omega)
        · refine x_aload_n C dX7_coins_42 rfl ?_
          refine gm_0_0 C q_751 dX7_coins_43 ?_
          refine x_bipush C dX7_coins_46 (by decide) ?_
          refine lm_1 C (by omega) (by omega) dX7_coins_48 (show _ = r 16 from rfl) ?_
          exact x_iret C D rfl dX7_coins_49 (by unfold yCoins; (repeat (first | rw [if_pos (by first | omega | assumption | exact not_not_intro (by assumption))] | rw [if_neg (by first | omega | assumption | exact not_not_intro (by assumption))])); all_goals rfl) rfl rfl rfl
      · refine x_aload_n C dX7_coins_29 rfl ?_
        refine gm_0_0 C q_751 dX7_coins_30 ?_
        refine x_bipush C dX7_coins_33 (by decide) ?_
        refine lm_1 C (by omega) (by omega) dX7_coins_35 (show _ = r 15 from rfl) ?_
        exact x_iret C D rfl dX7_coins_36 (by unfold yCoins; (repeat (first | rw [if_pos (by first | omega | assumption | exact not_not_intro (by assumption))] | rw [if_neg (by first | omega | assumption | exact not_not_intro (by assumption))])); all_goals rfl) rfl rfl rfl
    · refine x_aload_n C dX7_coins_16 rfl ?_
      refine gm_0_0 C q_751 dX7_coins_17 ?_
      refine x_bipush C dX7_coins_20 (by decide) ?_
      refine lm_1 C (by omega) (by omega) dX7_coins_22 (show _ = r 14 from rfl) ?_
      exact x_iret C D rfl dX7_coins_23 (by unfold yCoins; (repeat (first | rw [if_pos (by first | omega | assumption | exact not_not_intro (by assumption))] | rw [if_neg (by first | omega | assumption | exact not_not_intro (by assumption))])); all_goals rfl) rfl rfl rfl
  · refine x_ldc (n := (-1000002)) C q_790 dX7_coins_9 rfl ?_
    exact x_iret C D rfl dX7_coins_11 (by unfold yCoins; (repeat (first | rw [if_pos (by first | omega | assumption | exact not_not_intro (by assumption))] | rw [if_neg (by first | omega | assumption | exact not_not_intro (by assumption))])); all_goals rfl) rfl rfl rfl
set_option maxRecDepth 100000 in
set_option maxHeartbeats 4000000 in
theorem m_X7_firstFree {hs : Nat → HV} {tp md : HV} {E : HE} (hE : HI E) {r : Int → Int} {K : Int} (R : MR K r) {n p : Int} (n0 : IR n) (p0 : IR p) : Mt yX7_firstFree cX7_firstFree 4 (some .int) 5 E [.ref (mA E 0), vI n, vI p] hs tp (upr md 1 r) (some (vI (yFirst r n p))) hs tp (upr md 1 r) := by
  refine mk_Mt hE (plainFor_of_name (by decide)) (Nat.le_of_ble_eq_true rfl) (by intro w0 hw0; simp only [List.mem_cons, List.not_mem_nil, or_false] at hw0; rcases hw0 with rfl | rfl | rfl <;> rfl) (rfl : _ = [_, _, _, _]) ?_
  intro F C D
  have rd0 := MR.day R
  refine x_iload_n C dX7_firstFree_0 rfl ?_
  refine x_const C dX7_firstFree_1 ?_
  refine x_bipush C dX7_firstFree_2 (by decide) ?_
  refine x_callS (nA := 3) (As := [vI n, vI 1, vI 9]) (rest := []) C (m_X7_in hE (v := n) (l := 1) (m := 9) ⟨by omega, by omega⟩ ⟨by omega, by omega⟩ ⟨by omega, by omega⟩) q_787 q_788 q_64 q_789 (by decide +kernel) rfl (by decide) (by decide) (Nat.le_of_ble_eq_true rfl) dX7_firstFree_4 rfl ?_
  refine x_bz_eq 20 C dX7_firstFree_7 (by decide) (fun c_1 => ?_) (fun c_1 => ?_)
  · refine x_ldc (n := (-1000002)) C q_790 dX7_firstFree_20 rfl ?_
    exact x_iret C D rfl dX7_firstFree_22 (by unfold yFirst; rw [if_pos (by omega)]) rfl rfl rfl
  · refine x_iload_n C dX7_firstFree_10 rfl ?_
    refine x_const C dX7_firstFree_11 ?_
    refine x_bipush C dX7_firstFree_12 (by decide) ?_
    refine x_callS (nA := 3) (As := [vI p, vI 1, vI 9]) (rest := []) C (m_X7_in hE (v := p) (l := 1) (m := 9) ⟨by omega, by omega⟩ ⟨by omega, by omega⟩ ⟨by omega, by omega⟩) q_787 q_788 q_64 q_789 (by decide +kernel) rfl (by decide) (by decide) (Nat.le_of_ble_eq_true rfl) dX7_firstFree_14 rfl ?_
    refine x_bz_ne 23 C dX7_firstFree_17 (by decide) (fun c_2 => ?_) (fun c_2 => ?_)
    · refine x_aload_n C dX7_firstFree_23 rfl ?_
      refine gm_0_0 C q_751 dX7_firstFree_24 ?_
      refine x_const C dX7_firstFree_27 ?_
      refine lm_1 C (by omega) (by omega) dX7_firstFree_28 (show _ = r 0 from rfl) ?_
      have r_3 := MR.day R
      refine x_istore_n C dX7_firstFree_29 (by decide) (rfl : _ = [_, _, _, _]) ?_
      have K30 : ∀ (nn : Nat) (k : Nat) (d : Int), 0 ≤ d → d + k = 900 ∨ (k = 0 ∧ 900 ≤ d) → d ≤ 1060 → mFf r n p (900 - r 0).toNat (r 0) = mFf r n p k d → (k : Int) < nn →  G F E hs tp (upr md 1 r) 30 [some (.ref (mA E 0)), some (vI n), some (vI p), some (vI d)] [] := by
        intro nn
        induction nn with
        | zero => intro k d d0 dk d1 hq hz; exact absurd hz (by omega)
        | succ nn ih =>
          intro k d d0 dk d1 hq hz
          refine x_iload_n C dX7_firstFree_30 rfl ?_
          refine x_sipush C dX7_firstFree_31 (by decide) ?_
          refine x_icmp_gt 57 C dX7_firstFree_34 (by decide) ⟨by omega, by omega⟩ ⟨by omega, by omega⟩ (fun c_4 => ?_) (fun c_4 => ?_)
          · refine x_ldc (n := (-1000005)) C q_821 dX7_firstFree_57 rfl ?_
            exact x_iret C D rfl dX7_firstFree_59 (by unfold yFirst; rw [if_neg (by omega), hq, show k = 0 by omega]; rfl) rfl rfl rfl
          · refine x_aload_n C dX7_firstFree_37 rfl ?_
            refine x_iload_n C dX7_firstFree_38 rfl ?_
            refine x_iload_n C dX7_firstFree_39 rfl ?_
            refine x_iload_n C dX7_firstFree_40 rfl ?_
            refine x_iadd C dX7_firstFree_41 ?_
            refine x_iload_n C dX7_firstFree_42 rfl ?_
            refine x_callV (nA := 3) (As := [vI d, vI (d + n), vI p]) (rest := []) C (m_X7_fits hE (r := r) R (x := d) (y := (d + n)) (p := p) ⟨by omega, by omega⟩ ⟨by omega, by omega⟩ ⟨by omega, by omega⟩) q_791 q_793 q_21 q_64 q_794 (by decide +kernel) (wl_m 0 (by decide)) rfl rfl (by decide) (by decide) (Nat.le_of_ble_eq_true rfl) dX7_firstFree_43 rfl ?_
            refine x_bz_eq 51 C dX7_firstFree_46 (by decide) (fun c_5 => ?_) (fun c_5 => ?_)
            · refine x_iinc C dX7_firstFree_51 rfl (by decide) (rfl : _ = [_, _, _, _]) ?_
              refine x_goto 30 C dX7_firstFree_54 (by decide) ?_
              obtain ⟨k9, rfl⟩ : ∃ k9, k = k9 + 1 := ⟨k - 1, by omega⟩
              refine G.wk (ih k9 (d + 1) (by omega) (by omega) (by omega) (by rw [hq]; exact if_neg (by assumption)) (by omega)) ?_
              simp only [leL, and_self]
            · refine x_iload_n C dX7_firstFree_49 rfl ?_
              exact x_iret C D rfl dX7_firstFree_50 (by unfold yFirst; rw [if_neg (by omega), hq]; obtain ⟨k9, rfl⟩ : ∃ k9, k = k9 + 1 := ⟨k - 1, by omega⟩; exact (if_pos (by assumption)).symm) rfl rfl rfl
      exact K30 ((900 - r 0).toNat + 1) (900 - r 0).toNat (r 0) (by omega) (by omega) (by omega) rfl (by omega)
    · refine x_ldc (n := (-1000002)) C q_790 dX7_firstFree_20 rfl ?_
      exact x_iret C D rfl dX7_firstFree_22 (by unfold yFirst; rw [if_pos (by omega)]) rfl rfl rfl
set_option maxRecDepth 100000 in
set_option maxHeartbeats 4000000 in
theorem m_X7_fullest {hs : Nat → HV} {tp md : HV} {E : HE} (hE : HI E) {r : Int → Int} {K : Int} (R : MR K r) : Mt yX7_fullest cX7_fullest 5 (some .int) 4 E [.ref (mA E 0)] hs tp (upr md 1 r) (some (vI (yFull r))) hs tp (upr md 1 r) := by
  refine mk_Mt hE (plainFor_of_name (by decide)) (Nat.le_of_ble_eq_true rfl) (by intro w0 hw0; simp only [List.mem_cons, List.not_mem_nil, or_false] at hw0; rcases hw0 with rfl <;> rfl) (rfl : _ = [_, _, _, _, _]) ?_
  intro F C D
  have rd0 := MR.day R
  refine x_ldc (n := (-1000005)) C q_821 dX7_fullest_0 rfl ?_
  refine x_istore_n C dX7_fullest_2 (by decide) (rfl : _ = [_, _, _, _, _]) ?_
  refine x_const C dX7_fullest_3 ?_
  refine x_istore_n C dX7_fullest_4 (by decide) (rfl : _ = [_, _, _, _, _]) ?_
  refine x_aload_n C dX7_fullest_5 rfl ?_
  refine gm_0_0 C q_751 dX7_fullest_6 ?_
  refine x_const C dX7_fullest_9 ?_
  refine lm_1 C (by omega) (by omega) dX7_fullest_10 (show _ = r 0 from rfl) ?_
  have r_1 := MR.day R
  refine x_istore_n C dX7_fullest_11 (by decide) (rfl : _ = [_, _, _, _, _]) ?_
  have K12 : ∀ (nn : Nat) (n : Nat) (d b9 m9 : Int), 0 ≤ d → d + n = 1000 ∨ (n = 0 ∧ 1000 ≤ d) → d ≤ 1060 → 0 ≤ m9 → m9 ≤ 720 → mFu r (1000 - r 0).toNat (r 0) (-1000005) 0 = mFu r n d b9 m9 → (n : Int) < nn →  G F E hs tp (upr md 1 r) 12 [some (.ref (mA E 0)), some (vI b9), some (vI m9), some (vI d), none] [] := by
    intro nn
    induction nn with
    | zero => intro n d b9 m9 d0 dn d1 m0 m1 hq hz; exact absurd hz (by omega)
    | succ nn ih =>
      intro n d b9 m9 d0 dn d1 m0 m1 hq hz
      refine x_iload_n C dX7_fullest_12 rfl ?_
      refine x_sipush C dX7_fullest_13 (by decide) ?_
      refine x_icmp_gt 43 C dX7_fullest_16 (by decide) ⟨by omega, by omega⟩ ⟨by omega, by omega⟩ (fun c_2 => ?_) (fun c_2 => ?_)
      · refine x_iload_n C dX7_fullest_43 rfl ?_
        exact x_iret C D rfl dX7_fullest_44 (by unfold yFull; rw [hq, show n = 0 by omega]; rfl) rfl rfl rfl
      · refine x_aload_n C dX7_fullest_19 rfl ?_
        refine x_iload_n C dX7_fullest_20 rfl ?_
        refine x_callV (nA := 1) (As := [vI d]) (rest := []) C (m_X7_taken hE (r := r) R (n := d) ⟨by omega, by omega⟩) q_795 q_797 q_22 q_64 q_798 (by decide +kernel) (wl_m 0 (by decide)) rfl rfl (by decide) (by decide) (Nat.le_of_ble_eq_true rfl) dX7_fullest_21 rfl ?_
        have r_3 := mTk_r R (n := d)
        refine x_istore C dX7_fullest_24 (by decide) (rfl : _ = [_, _, _, _, _]) ?_
        refine x_iload C dX7_fullest_26 rfl ?_
        refine x_iload_n C dX7_fullest_28 rfl ?_
        refine x_icmp_le 37 C dX7_fullest_29 (by decide) ⟨by omega, by omega⟩ ⟨by omega, by omega⟩ (fun c_4 => ?_) (fun c_4 => ?_)
        · refine x_iinc C dX7_fullest_37 rfl (by decide) (rfl : _ = [_, _, _, _, _]) ?_
          refine x_goto 12 C dX7_fullest_40 (by decide) ?_
          obtain ⟨n9, rfl⟩ : ∃ n9, n = n9 + 1 := ⟨n - 1, by omega⟩
          refine G.wk (ih n9 (d + 1) b9 m9 (by omega) (by omega) (by omega) (by omega) (by omega) (by rw [hq]; exact if_neg (by omega)) (by omega)) ?_
          simp only [leL, and_self]
        · refine x_iload_n C dX7_fullest_32 rfl ?_
          refine x_istore_n C dX7_fullest_33 (by decide) (rfl : _ = [_, _, _, _, _]) ?_
          refine x_iload C dX7_fullest_34 rfl ?_
          refine x_istore_n C dX7_fullest_36 (by decide) (rfl : _ = [_, _, _, _, _]) ?_
          refine x_iinc C dX7_fullest_37 rfl (by decide) (rfl : _ = [_, _, _, _, _]) ?_
          refine x_goto 12 C dX7_fullest_40 (by decide) ?_
          obtain ⟨n9, rfl⟩ : ∃ n9, n = n9 + 1 := ⟨n - 1, by omega⟩
          refine G.wk (ih n9 (d + 1) d (mTk r d) (by omega) (by omega) (by omega) (by omega) (by omega) (by rw [hq]; exact if_pos (by omega)) (by omega)) ?_
          simp only [leL, and_self]
  refine G.wk (K12 ((1000 - r 0).toNat + 1) (1000 - r 0).toNat (r 0) (-1000005) 0 (by omega) (by omega) (by omega) (by decide) (by decide) rfl (by omega)) ?_
  simp only [leL, and_self]
