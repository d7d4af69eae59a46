set_option maxRecDepth 100000 in
set_option maxHeartbeats 4000000 in
theorem m_X7_leave {hs : Nat → HV} {tp md : HV} {E : HE} (hE : HI E) {r : Int → Int} {b : Int} (b0 : 0 ≤ b) (b1 : b < 80) : Mt yX7_leave cX7_leave 3 none 3 E [.ref (mA E 0), vI b] hs tp (upr md 1 r) none hs tp (upr md 1 (mLv r b)) := by
  refine mk_Mt hE (plainFor_of_name (by decide)) (Nat.le_of_ble_eq_true rfl) (by intro w0 hw0; simp only [List.mem_cons, List.not_mem_nil, or_false] at hw0; rcases hw0 with rfl | rfl <;> rfl) (rfl : _ = [_, _, _]) ?_
  intro F C D
  refine x_aload_n C dX7_leave_0 rfl ?_
  refine x_iload_n C dX7_leave_1 rfl ?_
  refine x_callV (nA := 1) (As := [vI b]) (rest := []) C (m_X7_end hE (r := r) (b := b) (by omega) (by omega) rfl) q_803 q_805 q_24 q_64 q_806 (by decide +kernel) (wl_m 0 (by decide)) rfl rfl (by decide) (by decide) (Nat.le_of_ble_eq_true rfl) dX7_leave_2 rfl ?_
  refine x_aload_n C dX7_leave_5 rfl ?_
  refine x_iload_n C dX7_leave_6 rfl ?_
  refine x_bipush C dX7_leave_7 (by decide) ?_
  refine x_callV (nA := 2) (As := [vI b, vI 6]) (rest := [vI (r (51 + 7 * b + 1) + r (51 + 7 * b + 2))]) C (m_X7_of hE (r := r) (b := b) (w := 6) (by omega) (by omega) (by omega) (by omega) (show _ = r (51 + 7 * b + 6) from rfl)) q_799 q_801 q_23 q_64 q_802 (by decide +kernel) (wl_m 0 (by decide)) rfl rfl (by decide) (by decide) (Nat.le_of_ble_eq_true rfl) dX7_leave_9 rfl ?_
  refine x_isub C dX7_leave_12 ?_
  refine x_istore_n C dX7_leave_13 (by decide) (rfl : _ = [_, _, _]) ?_
  refine x_aload_n C dX7_leave_14 rfl ?_
  refine gm_0_0 C q_751 dX7_leave_15 ?_
  refine x_bipush C dX7_leave_18 (by decide) ?_
  refine x_dup2 C dX7_leave_20 rfl rfl ?_
  refine lm_1 C (by omega) (by omega) dX7_leave_21 (show _ = r 14 from rfl) ?_
  refine x_aload_n C dX7_leave_22 rfl ?_
  refine gm_0_0 C q_751 dX7_leave_23 ?_
  refine x_bipush C dX7_leave_26 (by decide) ?_
  refine lm_1 C (by omega) (by omega) dX7_leave_28 (show _ = r 19 from rfl) ?_
  refine x_aload_n C dX7_leave_29 rfl ?_
  refine x_iload_n C dX7_leave_30 rfl ?_
  refine x_const C dX7_leave_31 ?_
  refine x_callV (nA := 2) (As := [vI b, vI 3]) (rest := [vI (r 19), vI (r 14), vI 14, .ref (mA E 1)]) C (m_X7_of hE (r := r) (b := b) (w := 3) (by omega) (by omega) (by omega) (by omega) (show _ = r (51 + 7 * b + 3) from rfl)) q_799 q_801 q_23 q_64 q_802 (by decide +kernel) (wl_m 0 (by decide)) rfl rfl (by decide) (by decide) (Nat.le_of_ble_eq_true rfl) dX7_leave_32 rfl ?_
  refine x_imul C dX7_leave_35 ?_
  refine x_iload_n C dX7_leave_36 rfl ?_
  refine x_imul C dX7_leave_37 ?_
  refine x_aload_n C dX7_leave_38 rfl ?_
  refine x_iload_n C dX7_leave_39 rfl ?_
  refine x_const C dX7_leave_40 ?_
  refine x_callV (nA := 2) (As := [vI b, vI 5]) (rest := [vI (((r 19) * (r (51 + 7 * b + 3))) * ((r (51 + 7 * b + 1) + r (51 + 7 * b + 2)) - (r (51 + 7 * b + 6)))), vI (r 14), vI 14, .ref (mA E 1)]) C (m_X7_of hE (r := r) (b := b) (w := 5) (by omega) (by omega) (by omega) (by omega) (show _ = r (51 + 7 * b + 5) from rfl)) q_799 q_801 q_23 q_64 q_802 (by decide +kernel) (wl_m 0 (by decide)) rfl rfl (by decide) (by decide) (Nat.le_of_ble_eq_true rfl) dX7_leave_41 rfl ?_
  refine x_isub C dX7_leave_44 ?_
  refine x_iadd C dX7_leave_45 ?_
  refine sm_1 C (by omega) (by omega) dX7_leave_46 upr_w ?_
  refine x_aload_n C dX7_leave_47 rfl ?_
  refine x_iload_n C dX7_leave_48 rfl ?_
  refine x_const C dX7_leave_49 ?_
  refine x_const C dX7_leave_50 ?_
  refine x_callV (nA := 3) (As := [vI b, vI 0, vI 2]) (rest := []) C (m_X7_put hE (r := (up1 r 14 ((r 14) + ((((r 19) * (r (51 + 7 * b + 3))) * ((r (51 + 7 * b + 1) + r (51 + 7 * b + 2)) - (r (51 + 7 * b + 6)))) - (r (51 + 7 * b + 5)))))) (b := b) (w := 0) (v := 2) (by omega) (by omega) (by omega) (by omega)) q_817 q_819 q_27 q_64 q_820 (by decide +kernel) (wl_m 0 (by decide)) rfl rfl (by decide) (by decide) (Nat.le_of_ble_eq_true rfl) dX7_leave_51 rfl ?_
  exact x_vret C D dX7_leave_54 rfl rfl rfl
set_option maxRecDepth 100000 in
set_option maxHeartbeats 4000000 in
theorem m_X7_turnAway {hs : Nat → HV} {tp md : HV} {E : HE} (hE : HI E) {r : Int → Int} {b : Int} (b0 : 0 ≤ b) (b1 : b < 80) : Mt yX7_turnAway cX7_turnAway 2 none 2 E [.ref (mA E 0), vI b] hs tp (upr md 1 r) none hs tp (upr md 1 (mAw r b)) := by
  refine mk_Mt hE (plainFor_of_name (by decide)) (Nat.le_of_ble_eq_true rfl) (by intro w0 hw0; simp only [List.mem_cons, List.not_mem_nil, or_false] at hw0; rcases hw0 with rfl | rfl <;> rfl) (rfl : _ = [_, _]) ?_
  intro F C D
  refine x_aload_n C dX7_turnAway_0 rfl ?_
  refine x_iload_n C dX7_turnAway_1 rfl ?_
  refine x_const C dX7_turnAway_2 ?_
  refine x_const C dX7_turnAway_3 ?_
  refine x_callV (nA := 3) (As := [vI b, vI 0, vI 4]) (rest := []) C (m_X7_put hE (r := r) (b := b) (w := 0) (v := 4) (by omega) (by omega) (by omega) (by omega)) q_817 q_819 q_27 q_64 q_820 (by decide +kernel) (wl_m 0 (by decide)) rfl rfl (by decide) (by decide) (Nat.le_of_ble_eq_true rfl) dX7_turnAway_4 rfl ?_
  refine x_aload_n C dX7_turnAway_7 rfl ?_
  refine gm_0_0 C q_751 dX7_turnAway_8 ?_
  refine x_bipush C dX7_turnAway_11 (by decide) ?_
  refine x_dup2 C dX7_turnAway_13 rfl rfl ?_
  refine lm_1 C (by omega) (by omega) dX7_turnAway_14 (show (up1 r (51 + 7 * b + 0) 4) 14 = r 14 from by rw [up1_ne (by omega)]) ?_
  refine x_aload_n C dX7_turnAway_15 rfl ?_
  refine x_iload_n C dX7_turnAway_16 rfl ?_
  refine x_const C dX7_turnAway_17 ?_
  refine x_callV (nA := 2) (As := [vI b, vI 5]) (rest := [vI (r 14), vI 14, .ref (mA E 1)]) C (m_X7_of hE (r := (up1 r (51 + 7 * b + 0) 4)) (b := b) (w := 5) (by omega) (by omega) (by omega) (by omega) (show (up1 r (51 + 7 * b + 0) 4) (51 + 7 * b + 5) = r (51 + 7 * b + 5) from by rw [up1_ne (by omega)])) q_799 q_801 q_23 q_64 q_802 (by decide +kernel) (wl_m 0 (by decide)) rfl rfl (by decide) (by decide) (Nat.le_of_ble_eq_true rfl) dX7_turnAway_18 rfl ?_
  refine x_isub C dX7_turnAway_21 ?_
  refine sm_1 C (by omega) (by omega) dX7_turnAway_22 upr_w ?_
  refine x_aload_n C dX7_turnAway_23 rfl ?_
  refine gm_0_0 C q_751 dX7_turnAway_24 ?_
  refine x_bipush C dX7_turnAway_27 (by decide) ?_
  refine x_dup2 C dX7_turnAway_29 rfl rfl ?_
  refine lm_1 C (by omega) (by omega) dX7_turnAway_30 (show (up1 (up1 r (51 + 7 * b + 0) 4) 14 ((r 14) - (r (51 + 7 * b + 5)))) 13 = r 13 from by rw [up1_ne (by omega), up1_ne (by omega)]) ?_
  refine x_aload_n C dX7_turnAway_31 rfl ?_
  refine x_iload_n C dX7_turnAway_32 rfl ?_
  refine x_const C dX7_turnAway_33 ?_
  refine x_callV (nA := 2) (As := [vI b, vI 3]) (rest := [vI (r 13), vI 13, .ref (mA E 1)]) C (m_X7_of hE (r := (up1 (up1 r (51 + 7 * b + 0) 4) 14 ((r 14) - (r (51 + 7 * b + 5))))) (b := b) (w := 3) (by omega) (by omega) (by omega) (by omega) (show (up1 (up1 r (51 + 7 * b + 0) 4) 14 ((r 14) - (r (51 + 7 * b + 5)))) (51 + 7 * b + 3) = r (51 + 7 * b + 3) from by rw [up1_ne (by omega), up1_ne (by omega)])) q_799 q_801 q_23 q_64 q_802 (by decide +kernel) (wl_m 0 (by decide)) rfl rfl (by decide) (by decide) (Nat.le_of_ble_eq_true rfl) dX7_turnAway_34 rfl ?_
  refine x_iadd C dX7_turnAway_37 ?_
  refine sm_1 C (by omega) (by omega) dX7_turnAway_38 upr_w ?_
  exact x_vret C D dX7_turnAway_39 rfl rfl rfl
set_option maxRecDepth 100000 in
set_option maxHeartbeats 4000000 in
theorem m_X7_come {hs : Nat → HV} {tp md : HV} {E : HE} (hE : HI E) {r : Int → Int} {K : Int} (R : MR K r) {b : Int} (b0 : 0 ≤ b) (b1 : b < 80) {d : Int} : Mt yX7_come cX7_come 3 none 4 E [.ref (mA E 0), vI b, vI d] hs tp (upr md 1 r) none hs tp (upr md 1 (mCm r b d)) := by
  refine mk_Mt hE (plainFor_of_name (by decide)) (Nat.le_of_ble_eq_true rfl) (by intro w0 hw0; simp only [List.mem_cons, List.not_mem_nil, or_false] at hw0; rcases hw0 with rfl | rfl | rfl <;> rfl) (rfl : _ = [_, _, _]) ?_
  intro F C D
  refine x_aload_n C dX7_come_0 rfl ?_
  refine x_callV (nA := 0) (As := []) (rest := []) C (m_X7_personsThere hE (r := r) R) q_924 q_926 q_44 q_64 q_927 (by decide +kernel) (wl_m 0 (by decide)) rfl rfl (by decide) (by decide) (Nat.le_of_ble_eq_true rfl) dX7_come_1 rfl ?_
  have r_1 := nPer_r R
  refine x_aload_n C dX7_come_4 rfl ?_
  refine x_iload_n C dX7_come_5 rfl ?_
  refine x_const C dX7_come_6 ?_
  refine x_callV (nA := 2) (As := [vI b, vI 3]) (rest := [vI (nPer r)]) C (m_X7_of hE (r := r) (b := b) (w := 3) (by omega) (by omega) (by omega) (by omega) (show _ = r (51 + 7 * b + 3) from rfl)) q_799 q_801 q_23 q_64 q_802 (by decide +kernel) (wl_m 0 (by decide)) rfl rfl (by decide) (by decide) (Nat.le_of_ble_eq_true rfl) dX7_come_7 rfl ?_
  have r_2 := MR.per R (b := b) (by omega) (by omega)
  refine x_iadd C dX7_come_10 ?_
  refine x_aload_n C dX7_come_11 rfl ?_
  refine gm_0_0 C q_751 dX7_come_12 ?_
  refine x_bipush C dX7_come_15 (by decide) ?_
  refine lm_1 C (by omega) (by omega) dX7_come_17 (show _ = r 17 from rfl) ?_
  have r_3 := (MR.sets R)
  refine x_aload_n C dX7_come_18 rfl ?_
  refine gm_0_0 C q_751 dX7_come_19 ?_
  refine x_bipush C dX7_come_22 (by decide) ?_
  refine lm_1 C (by omega) (by omega) dX7_come_24 (show _ = r 18 from rfl) ?_
  have r_4 := (MR.sets R)
  refine x_iadd C dX7_come_25 ?_
  refine x_icmp_le 35 C dX7_come_26 (by decide) ⟨by omega, by omega⟩ ⟨by omega, by omega⟩ (fun c_5 => ?_) (fun c_5 => ?_)
  · refine x_aload_n C dX7_come_35 rfl ?_
    refine x_iload_n C dX7_come_36 rfl ?_
    refine x_const C dX7_come_37 ?_
    refine x_const C dX7_come_38 ?_
    refine x_callV (nA := 3) (As := [vI b, vI 0, vI 1]) (rest := []) C (m_X7_put hE (r := r) (b := b) (w := 0) (v := 1) (by omega) (by omega) (by omega) (by omega)) q_817 q_819 q_27 q_64 q_820 (by decide +kernel) (wl_m 0 (by decide)) rfl rfl (by decide) (by decide) (Nat.le_of_ble_eq_true rfl) dX7_come_39 rfl ?_
    refine x_aload_n C dX7_come_42 rfl ?_
    refine x_iload_n C dX7_come_43 rfl ?_
    refine x_bipush C dX7_come_44 (by decide) ?_
    refine x_iload_n C dX7_come_46 rfl ?_
    refine x_callV (nA := 3) (As := [vI b, vI 6, vI d]) (rest := []) C (m_X7_put hE (r := (up1 r (51 + 7 * b + 0) 1)) (b := b) (w := 6) (v := d) (by omega) (by omega) (by omega) (by omega)) q_817 q_819 q_27 q_64 q_820 (by decide +kernel) (wl_m 0 (by decide)) rfl rfl (by decide) (by decide) (Nat.le_of_ble_eq_true rfl) dX7_come_47 rfl ?_
    exact x_vret C D dX7_come_50 rfl rfl (by unfold mCm; rw [if_neg (by omega)])
  · refine x_aload_n C dX7_come_29 rfl ?_
    refine x_iload_n C dX7_come_30 rfl ?_
    refine x_callV (nA := 1) (As := [vI b]) (rest := []) C (m_X7_turnAway hE (r := r) (b := b) (by omega) (by omega)) q_916 q_918 q_42 q_64 q_919 (by decide +kernel) (wl_m 0 (by decide)) rfl rfl (by decide) (by decide) (Nat.le_of_ble_eq_true rfl) dX7_come_31 rfl ?_
    exact x_vret C D dX7_come_34 rfl rfl (by unfold mCm; rw [if_pos (by omega)])
set_option maxRecDepth 100000 in
set_option maxHeartbeats 4000000 in
theorem m_X7_dropOrder {hs : Nat → HV} {tp md : HV} {E : HE} (hE : HI E) {r : Int → Int} {K : Int} (R : MR K r) {x : Int} (x0 : 0 ≤ x) (x1 : x ≤ r 3 - 1) : Mt yX7_dropOrder cX7_dropOrder 3 none 1 E [.ref (mA E 0), vI x] hs tp (upr md 1 r) none hs tp (upr md 1 (mDrop r x)) := by
  refine mk_Mt hE (plainFor_of_name (by decide)) (Nat.le_of_ble_eq_true rfl) (by intro w0 hw0; simp only [List.mem_cons, List.not_mem_nil, or_false] at hw0; rcases hw0 with rfl | rfl <;> rfl) (rfl : _ = [_, _, _]) ?_
  intro F C D
  have rw0 := MR.wait R
  refine x_aload_n C dX7_dropOrder_0 rfl ?_
  refine gm_0_0 C q_751 dX7_dropOrder_1 ?_
  refine x_const C dX7_dropOrder_4 ?_
  refine x_dup2 C dX7_dropOrder_5 rfl rfl ?_
  refine lm_1 C (by omega) (by omega) dX7_dropOrder_6 (show _ = r 3 from rfl) ?_
  have r_1 := MR.wait R
  refine x_const C dX7_dropOrder_7 ?_
  refine x_isub C dX7_dropOrder_8 ?_
  refine sm_1 C (by omega) (by omega) dX7_dropOrder_9 upr_w ?_
  refine x_iload_n C dX7_dropOrder_10 rfl ?_
  refine x_istore_n C dX7_dropOrder_11 (by decide) (rfl : _ = [_, _, _]) ?_
  have K12 : ∀ (nn : Nat) (k : Int), x ≤ k → k ≤ r 3 - 1 → 20 - k < nn →  G F E hs tp (upr md 1 (mSh (up1 r 3 (r 3 - 1)) x k)) 12 [some (.ref (mA E 0)), some (vI x), some (vI k)] [] := by
    intro nn
    induction nn with
    | zero => intro k k0 k1 hz; exact absurd hz (by omega)
    | succ nn ih =>
      intro k k0 k1 hz
      have e3 : (mSh (up1 r 3 (r 3 - 1)) x k) 3 = r 3 - 1 := (if_neg (by omega)).trans up1_same
      refine x_iload_n C dX7_dropOrder_12 rfl ?_
      refine x_aload_n C dX7_dropOrder_13 rfl ?_
      refine gm_0_0 C q_751 dX7_dropOrder_14 ?_
      refine x_const C dX7_dropOrder_17 ?_
      refine lm_1 C (by omega) (by omega) dX7_dropOrder_18 (show _ = (mSh (up1 r 3 (r 3 - 1)) x k) 3 from rfl) ?_
      refine x_icmp_ge 68 C dX7_dropOrder_19 (by decide) ⟨by omega, by omega⟩ ⟨by omega, by omega⟩ (fun c_2 => ?_) (fun c_2 => ?_)
      · refine x_aload_n C dX7_dropOrder_68 rfl ?_
        refine gm_0_0 C q_751 dX7_dropOrder_69 ?_
        refine x_bipush C dX7_dropOrder_72 (by decide) ?_
        refine x_aload_n C dX7_dropOrder_74 rfl ?_
        refine gm_0_0 C q_751 dX7_dropOrder_75 ?_
        refine x_const C dX7_dropOrder_78 ?_
        refine lm_1 C (by omega) (by omega) dX7_dropOrder_79 (show _ = (mSh (up1 r 3 (r 3 - 1)) x k) 3 from rfl) ?_
        refine x_iadd C dX7_dropOrder_80 ?_
        refine x_const C dX7_dropOrder_81 ?_
        refine sm_1 C (by omega) (by omega) dX7_dropOrder_82 upr_w ?_
        refine x_aload_n C dX7_dropOrder_83 rfl ?_
        refine gm_0_0 C q_751 dX7_dropOrder_84 ?_
        refine x_bipush C dX7_dropOrder_87 (by decide) ?_
        refine x_aload_n C dX7_dropOrder_89 rfl ?_
        refine gm_0_0 C q_751 dX7_dropOrder_90 ?_
        refine x_const C dX7_dropOrder_93 ?_
        refine lm_1 C (by omega) (by omega) dX7_dropOrder_94 (show (up1 (mSh (up1 r 3 (r 3 - 1)) x k) (27 + ((mSh (up1 r 3 (r 3 - 1)) x k) 3)) 0) 3 = (mSh (up1 r 3 (r 3 - 1)) x k) 3 from by rw [up1_ne (by omega)]) ?_
        refine x_iadd C dX7_dropOrder_95 ?_
        refine x_const C dX7_dropOrder_96 ?_
        refine sm_1 C (by omega) (by omega) dX7_dropOrder_97 upr_w ?_
        exact x_vret C D dX7_dropOrder_98 rfl rfl (by rw [e3, show k = r 3 - 1 by omega])
      · refine x_aload_n C dX7_dropOrder_22 rfl ?_
        refine gm_0_0 C q_751 dX7_dropOrder_23 ?_
        refine x_bipush C dX7_dropOrder_26 (by decide) ?_
        refine x_iload_n C dX7_dropOrder_28 rfl ?_
        refine x_iadd C dX7_dropOrder_29 ?_
        refine x_aload_n C dX7_dropOrder_30 rfl ?_
        refine gm_0_0 C q_751 dX7_dropOrder_31 ?_
        refine x_bipush C dX7_dropOrder_34 (by decide) ?_
        refine x_iload_n C dX7_dropOrder_36 rfl ?_
        refine x_iadd C dX7_dropOrder_37 ?_
        refine x_const C dX7_dropOrder_38 ?_
        refine x_iadd C dX7_dropOrder_39 ?_
        refine lm_1 C (by omega) (by omega) dX7_dropOrder_40 (show _ = (mSh (up1 r 3 (r 3 - 1)) x k) ((27 + k) + 1) from rfl) ?_
        refine sm_1 C (by omega) (by omega) dX7_dropOrder_41 upr_w ?_
        refine x_aload_n C dX7_dropOrder_42 rfl ?_
        refine gm_0_0 C q_751 dX7_dropOrder_43 ?_
        refine x_bipush C dX7_dropOrder_46 (by decide) ?_
        refine x_iload_n C dX7_dropOrder_48 rfl ?_
        refine x_iadd C dX7_dropOrder_49 ?_
        refine x_aload_n C dX7_dropOrder_50 rfl ?_
        refine gm_0_0 C q_751 dX7_dropOrder_51 ?_
        refine x_bipush C dX7_dropOrder_54 (by decide) ?_
        refine x_iload_n C dX7_dropOrder_56 rfl ?_
        refine x_iadd C dX7_dropOrder_57 ?_
        refine x_const C dX7_dropOrder_58 ?_
        refine x_iadd C dX7_dropOrder_59 ?_
        refine lm_1 C (by omega) (by omega) dX7_dropOrder_60 (show (up1 (mSh (up1 r 3 (r 3 - 1)) x k) (27 + k) ((mSh (up1 r 3 (r 3 - 1)) x k) ((27 + k) + 1))) ((39 + k) + 1) = (mSh (up1 r 3 (r 3 - 1)) x k) ((39 + k) + 1) from by rw [up1_ne (by omega)]) ?_
        refine sm_1 C (by omega) (by omega) dX7_dropOrder_61 upr_w ?_
        refine x_iinc C dX7_dropOrder_62 rfl (by decide) (rfl : _ = [_, _, _]) ?_
        refine x_goto 12 C dX7_dropOrder_65 (by decide) ?_
        refine G.of (G.wk (ih (k + 1) (by omega) (by omega) (by omega)) ?_) rfl rfl ?_ rfl
        · simp only [leL, and_self]
        · rw [← mSh_s x0 k0 (by omega), Int.add_assoc, Int.add_assoc]
  refine G.of (K12 21 x (by omega) (by omega) (by omega)) rfl rfl ?_ rfl
  rw [mSh_0]
set_option maxRecDepth 100000 in
set_option maxHeartbeats 4000000 in
theorem m_X7_bring {hs : Nat → HV} {tp md : HV} {E : HE} (hE : HI E) {r : Int → Int} {K : Int} (R : MR K r) (hK : K ≤ 990000) {m d : Int} (m0 : 0 ≤ m) (m1 : m ≤ 99) (d0 : 0 ≤ d) (d1 : d < 1064) : Mt yX7_bring cX7_bring 5 none 2 E [.ref (mA E 0), vI m, vI d] hs tp (upr md 1 r) none hs tp (upr md 1 (mBr 12 r m d)) := by
  refine mk_Mt hE (plainFor_of_name (by decide)) (Nat.le_of_ble_eq_true rfl) (by intro w0 hw0; simp only [List.mem_cons, List.not_mem_nil, or_false] at hw0; rcases hw0 with rfl | rfl | rfl <;> rfl) (rfl : _ = [_, _, _, _, _]) ?_
  intro F C D
  have rw0 := MR.wait R
  refine x_iload_n C dX7_bring_0 rfl ?_
  refine x_istore_n C dX7_bring_1 (by decide) (rfl : _ = [_, _, _, _, _]) ?_
  have K2 : ∀ (nn : Nat) (n : Nat) (g : Int → Int) (l : Int), g 3 ≤ n ∨ l ≤ 0 → MR (K + (m - l)) g → 0 ≤ l → l ≤ m → mBr 12 r m d = mBr n g l d → (n : Int) < nn →  G F E hs tp (upr md 1 g) 2 [some (.ref (mA E 0)), some (vI m), some (vI d), some (vI l), none] [] := by
    intro nn
    induction nn with
    | zero => intro n g l n0 rg l0 l1 hq hz; exact absurd hz (by omega)
    | succ nn ih =>
      intro n g l n0 rg l0 l1 hq hz
      have rw1 := MR.wait rg
      refine x_iload_n C dX7_bring_2 rfl ?_
      refine x_if_le 125 C dX7_bring_3 (by decide) ⟨by omega, by omega⟩ (fun c_1 => ?_) (fun c_1 => ?_)
      · exact x_vret C D dX7_bring_125 rfl rfl (by rw [hq, mBr_stop (by omega)])
      · refine x_aload_n C dX7_bring_6 rfl ?_
        refine gm_0_0 C q_751 dX7_bring_7 ?_
        refine x_const C dX7_bring_10 ?_
        refine lm_1 C (by omega) (by omega) dX7_bring_11 (show _ = g 3 from rfl) ?_
        have r_2 := MR.wait rg
        refine x_if_le 125 C dX7_bring_12 (by decide) ⟨by omega, by omega⟩ (fun c_3 => ?_) (fun c_3 => ?_)
        · exact x_vret C D dX7_bring_125 rfl rfl (by rw [hq, mBr_stop (by omega)])
        · refine x_aload_n C dX7_bring_15 rfl ?_
          refine gm_0_0 C q_751 dX7_bring_16 ?_
          refine x_bipush C dX7_bring_19 (by decide) ?_
          refine lm_1 C (by omega) (by omega) dX7_bring_21 (show _ = g 39 from rfl) ?_
          have r_4 := MR.por0 rg
          refine x_iload_n C dX7_bring_22 rfl ?_
          refine x_icmp_ge 36 C dX7_bring_23 (by decide) ⟨by omega, by omega⟩ ⟨by omega, by omega⟩ (fun c_5 => ?_) (fun c_5 => ?_)
          · refine x_iload_n C dX7_bring_36 rfl ?_
            have ht := mTak_r rg (l := l) (by omega)
            refine G.eqS ?_ (show _ = vI (mTak g l) :: _ from congrArg (fun z => vI z :: _) ((if_neg (by omega)).symm))
            refine x_istore C dX7_bring_37 (by decide) (rfl : _ = [_, _, _, _, _]) ?_
            refine x_aload_n C dX7_bring_39 rfl ?_
            refine gm_0_0 C q_751 dX7_bring_40 ?_
            refine x_bipush C dX7_bring_43 (by decide) ?_
            refine lm_1 C (by omega) (by omega) dX7_bring_45 (show _ = g 27 from rfl) ?_
            have r_6 := MR.kin0 rg
            refine x_if_ne 67 C dX7_bring_46 (by decide) ⟨by omega, by omega⟩ (fun c_7 => ?_) (fun c_7 => ?_)
            · refine x_aload_n C dX7_bring_67 rfl ?_
              refine gm_0_0 C q_751 dX7_bring_68 ?_
              refine x_const C dX7_bring_71 ?_
              refine x_dup2 C dX7_bring_72 rfl rfl ?_
              refine lm_1 C (by omega) (by omega) dX7_bring_73 (show _ = g 2 from rfl) ?_
              have r_8 := MR.dry rg
              refine x_iload C dX7_bring_74 rfl ?_
              refine x_iadd C dX7_bring_76 ?_
              refine sm_1 C (by omega) (by omega) dX7_bring_77 upr_w ?_
              refine G.of ?_ rfl rfl (show _ = upr md 1 (mPut g l d) from congrArg (upr md 1) ((if_neg c_7).symm)) rfl
              have e9 : mPut g l d 39 = g 39 := mPut_39 d0
              have r9 := MR.por rg (i := 0) (by decide) (by decide)
              have r9 : 0 ≤ g 39 ∧ g 39 ≤ 99 := r9
              refine x_aload_n C dX7_bring_78 rfl ?_
              refine gm_0_0 C q_751 dX7_bring_79 ?_
              refine x_bipush C dX7_bring_82 (by decide) ?_
              refine x_dup2 C dX7_bring_84 rfl rfl ?_
              refine lm_1 C (by omega) (by omega) dX7_bring_85 (show _ = (mPut g l d) 39 from rfl) ?_
              refine x_iload C dX7_bring_86 rfl ?_
              refine x_isub C dX7_bring_88 ?_
              refine sm_1 C (by omega) (by omega) dX7_bring_89 upr_w ?_
              refine x_aload_n C dX7_bring_90 rfl ?_
              refine gm_0_0 C q_751 dX7_bring_91 ?_
              refine x_bipush C dX7_bring_94 (by decide) ?_
              refine x_dup2 C dX7_bring_96 rfl rfl ?_
              refine lm_1 C (by omega) (by omega) dX7_bring_97 (show (up1 (mPut g l d) 39 (((mPut g l d) 39) - (mTak g l))) 7 = (mPut g l d) 7 from by rw [up1_ne (by omega)]) ?_
              refine x_iload C dX7_bring_98 rfl ?_
              refine x_iadd C dX7_bring_100 ?_
              refine sm_1 C (by omega) (by omega) dX7_bring_101 upr_w ?_
              refine x_iload_n C dX7_bring_102 rfl ?_
              refine x_iload C dX7_bring_103 rfl ?_
              refine x_isub C dX7_bring_105 ?_
              refine x_istore_n C dX7_bring_106 (by decide) (rfl : _ = [_, _, _, _, _]) ?_
              refine x_aload_n C dX7_bring_107 rfl ?_
              refine gm_0_0 C q_751 dX7_bring_108 ?_
              refine x_bipush C dX7_bring_111 (by decide) ?_
              refine lm_1 C (by omega) (by omega) dX7_bring_113 (show (up1 (up1 (mPut g l d) 39 (((mPut g l d) 39) - (mTak g l))) 7 (((mPut g l d) 7) + (mTak g l))) 39 = ((mPut g l d) 39) - (mTak g l) from by rw [up1_ne (by omega), up1_same]) ?_
              refine x_if_ne 122 C dX7_bring_114 (by decide) ⟨by omega, by omega⟩ (fun c_9 => ?_) (fun c_9 => ?_)
              · refine G.of ?_ rfl rfl (show _ = upr md 1 (mB1 g l d) from congrArg (upr md 1) ((show mB1 g l d = _ from if_neg c_9).symm)) rfl
                refine x_goto 2 C dX7_bring_122 (by decide) ?_
                obtain ⟨n9, rfl⟩ : ∃ n9, n = n9 + 1 := ⟨n - 1, by omega⟩
                have rb1 := MS_mB1 rg (l := l) (d := d) (by omega) (by omega) d0 d1
                have rn := rb1.2
                refine G.wk (ih n9 (mB1 g l d) (l - mTak g l) (by omega) (by rw [show K + (m - (l - mTak g l)) = K + (m - l) + mTak g l by omega]; exact rb1.1.1) (by omega) (by omega) (by rw [hq, mBr_go ⟨by omega, by omega⟩]) (by omega)) ?_
                simp only [leL, and_self]
              · have rb := MS_mB2 rg (l := l) (d := d) (by omega) d0 d1
                have ew := rb.2
                have rw1 := MR.wait rb.1.1
                refine G.of ?_ rfl rfl (show _ = upr md 1 (mB2 g l d) from congrArg (upr md 1) (rfl)) rfl
                refine x_aload_n C dX7_bring_117 rfl ?_
                refine x_const C dX7_bring_118 ?_
                refine x_callV (nA := 1) (As := [vI 0]) (rest := []) C (m_X7_dropOrder hE (r := (mB2 g l d)) rb.1.1 (x := 0) (by omega) (by omega)) q_892 q_894 q_38 q_64 q_895 (by decide +kernel) (wl_m 0 (by decide)) rfl rfl (by decide) (by decide) (Nat.le_of_ble_eq_true rfl) dX7_bring_119 rfl ?_
                refine G.of ?_ rfl rfl (show _ = upr md 1 (mB1 g l d) from congrArg (upr md 1) ((show mB1 g l d = _ from if_pos c_9).symm)) rfl
                refine x_goto 2 C dX7_bring_122 (by decide) ?_
                obtain ⟨n9, rfl⟩ : ∃ n9, n = n9 + 1 := ⟨n - 1, by omega⟩
                have rb1 := MS_mB1 rg (l := l) (d := d) (by omega) (by omega) d0 d1
                have rn := rb1.2
                refine G.wk (ih n9 (mB1 g l d) (l - mTak g l) (by omega) (by rw [show K + (m - (l - mTak g l)) = K + (m - l) + mTak g l by omega]; exact rb1.1.1) (by omega) (by omega) (by rw [hq, mBr_go ⟨by omega, by omega⟩]) (by omega)) ?_
                simp only [leL, and_self]
            · refine x_aload_n C dX7_bring_49 rfl ?_
              refine gm_0_0 C q_751 dX7_bring_50 ?_
              refine x_sipush C dX7_bring_53 (by decide) ?_
              refine x_iload_n C dX7_bring_56 rfl ?_
              refine x_iadd C dX7_bring_57 ?_
              refine x_dup2 C dX7_bring_58 rfl rfl ?_
              refine lm_1 C (by omega) (by omega) dX7_bring_59 (show _ = g (1675 + d) from rfl) ?_
              have r_10 := MR.fre rg (d := d) (by omega) (by omega)
              refine x_iload C dX7_bring_60 rfl ?_
              refine x_iadd C dX7_bring_62 ?_
              refine sm_1 C (by omega) (by omega) dX7_bring_63 upr_w ?_
              refine x_goto 78 C dX7_bring_64 (by decide) ?_
              refine G.of ?_ rfl rfl (show _ = upr md 1 (mPut g l d) from congrArg (upr md 1) ((if_pos c_7).symm)) rfl
              have e9 : mPut g l d 39 = g 39 := mPut_39 d0
              have r9 := MR.por rg (i := 0) (by decide) (by decide)
              have r9 : 0 ≤ g 39 ∧ g 39 ≤ 99 := r9
              refine x_aload_n C dX7_bring_78 rfl ?_
              refine gm_0_0 C q_751 dX7_bring_79 ?_
              refine x_bipush C dX7_bring_82 (by decide) ?_
              refine x_dup2 C dX7_bring_84 rfl rfl ?_
              refine lm_1 C (by omega) (by omega) dX7_bring_85 (show _ = (mPut g l d) 39 from rfl) ?_
              refine x_iload C dX7_bring_86 rfl ?_
              refine x_isub C dX7_bring_88 ?_
              refine sm_1 C (by omega) (by omega) dX7_bring_89 upr_w ?_
              refine x_aload_n C dX7_bring_90 rfl ?_
              refine gm_0_0 C q_751 dX7_bring_91 ?_
              refine x_bipush C dX7_bring_94 (by decide) ?_
              refine x_dup2 C dX7_bring_96 rfl rfl ?_
              refine lm_1 C (by omega) (by omega) dX7_bring_97 (show (up1 (mPut g l d) 39 (((mPut g l d) 39) - (mTak g l))) 7 = (mPut g l d) 7 from by rw [up1_ne (by omega)]) ?_
              refine x_iload C dX7_bring_98 rfl ?_
              refine x_iadd C dX7_bring_100 ?_
              refine sm_1 C (by omega) (by omega) dX7_bring_101 upr_w ?_
              refine x_iload_n C dX7_bring_102 rfl ?_
              refine x_iload C dX7_bring_103 rfl ?_
              refine x_isub C dX7_bring_105 ?_
              refine x_istore_n C dX7_bring_106 (by decide) (rfl : _ = [_, _, _, _, _]) ?_
              refine x_aload_n C dX7_bring_107 rfl ?_
              refine gm_0_0 C q_751 dX7_bring_108 ?_
              refine x_bipush C dX7_bring_111 (by decide) ?_
              refine lm_1 C (by omega) (by omega) dX7_bring_113 (show (up1 (up1 (mPut g l d) 39 (((mPut g l d) 39) - (mTak g l))) 7 (((mPut g l d) 7) + (mTak g l))) 39 = ((mPut g l d) 39) - (mTak g l) from by rw [up1_ne (by omega), up1_same]) ?_
              refine x_if_ne 122 C dX7_bring_114 (by decide) ⟨by omega, by omega⟩ (fun c_11 => ?_) (fun c_11 => ?_)
              · refine G.of ?_ rfl rfl (show _ = upr md 1 (mB1 g l d) from congrArg (upr md 1) ((show mB1 g l d = _ from if_neg c_11).symm)) rfl
                refine x_goto 2 C dX7_bring_122 (by decide) ?_
                obtain ⟨n9, rfl⟩ : ∃ n9, n = n9 + 1 := ⟨n - 1, by omega⟩
                have rb1 := MS_mB1 rg (l := l) (d := d) (by omega) (by omega) d0 d1
                have rn := rb1.2
                refine G.wk (ih n9 (mB1 g l d) (l - mTak g l) (by omega) (by rw [show K + (m - (l - mTak g l)) = K + (m - l) + mTak g l by omega]; exact rb1.1.1) (by omega) (by omega) (by rw [hq, mBr_go ⟨by omega, by omega⟩]) (by omega)) ?_
                simp only [leL, and_self]
              · have rb := MS_mB2 rg (l := l) (d := d) (by omega) d0 d1
                have ew := rb.2
                have rw1 := MR.wait rb.1.1
                refine G.of ?_ rfl rfl (show _ = upr md 1 (mB2 g l d) from congrArg (upr md 1) (rfl)) rfl
                refine x_aload_n C dX7_bring_117 rfl ?_
                refine x_const C dX7_bring_118 ?_
                refine x_callV (nA := 1) (As := [vI 0]) (rest := []) C (m_X7_dropOrder hE (r := (mB2 g l d)) rb.1.1 (x := 0) (by omega) (by omega)) q_892 q_894 q_38 q_64 q_895 (by decide +kernel) (wl_m 0 (by decide)) rfl rfl (by decide) (by decide) (Nat.le_of_ble_eq_true rfl) dX7_bring_119 rfl ?_
                refine G.of ?_ rfl rfl (show _ = upr md 1 (mB1 g l d) from congrArg (upr md 1) ((show mB1 g l d = _ from if_pos c_11).symm)) rfl
                refine x_goto 2 C dX7_bring_122 (by decide) ?_
                obtain ⟨n9, rfl⟩ : ∃ n9, n = n9 + 1 := ⟨n - 1, by omega⟩
                have rb1 := MS_mB1 rg (l := l) (d := d) (by omega) (by omega) d0 d1
                have rn := rb1.2
                refine G.wk (ih n9 (mB1 g l d) (l - mTak g l) (by omega) (by rw [show K + (m - (l - mTak g l)) = K + (m - l) + mTak g l by omega]; exact rb1.1.1) (by omega) (by omega) (by rw [hq, mBr_go ⟨by omega, by omega⟩]) (by omega)) ?_
                simp only [leL, and_self]
          · refine x_aload_n C dX7_bring_26 rfl ?_
            refine gm_0_0 C q_751 dX7_bring_27 ?_
            refine x_bipush C dX7_bring_30 (by decide) ?_
            refine lm_1 C (by omega) (by omega) dX7_bring_32 (show _ = g 39 from rfl) ?_
            have r_12 := MR.por0 rg
            refine x_goto 37 C dX7_bring_33 (by decide) ?_
            have ht := mTak_r rg (l := l) (by omega)
            refine G.eqS ?_ (show _ = vI (mTak g l) :: _ from congrArg (fun z => vI z :: _) ((if_pos (by omega)).symm))
            refine x_istore C dX7_bring_37 (by decide) (rfl : _ = [_, _, _, _, _]) ?_
            refine x_aload_n C dX7_bring_39 rfl ?_
            refine gm_0_0 C q_751 dX7_bring_40 ?_
            refine x_bipush C dX7_bring_43 (by decide) ?_
            refine lm_1 C (by omega) (by omega) dX7_bring_45 (show _ = g 27 from rfl) ?_
            have r_13 := MR.kin0 rg
            refine x_if_ne 67 C dX7_bring_46 (by decide) ⟨by omega, by omega⟩ (fun c_14 => ?_) (fun c_14 => ?_)
            · refine x_aload_n C dX7_bring_67 rfl ?_
              refine gm_0_0 C q_751 dX7_bring_68 ?_
              refine x_const C dX7_bring_71 ?_
              refine x_dup2 C dX7_bring_72 rfl rfl ?_
              refine lm_1 C (by omega) (by omega) dX7_bring_73 (show _ = g 2 from rfl) ?_
              have r_15 := MR.dry rg
              refine x_iload C dX7_bring_74 rfl ?_
              refine x_iadd C dX7_bring_76 ?_
              refine sm_1 C (by omega) (by omega) dX7_bring_77 upr_w ?_
              refine G.of ?_ rfl rfl (show _ = upr md 1 (mPut g l d) from congrArg (upr md 1) ((if_neg c_14).symm)) rfl
              have e9 : mPut g l d 39 = g 39 := mPut_39 d0
              have r9 := MR.por rg (i := 0) (by decide) (by decide)
              have r9 : 0 ≤ g 39 ∧ g 39 ≤ 99 := r9
              refine x_aload_n C dX7_bring_78 rfl ?_
              refine gm_0_0 C q_751 dX7_bring_79 ?_
              refine x_bipush C dX7_bring_82 (by decide) ?_
              refine x_dup2 C dX7_bring_84 rfl rfl ?_
              refine lm_1 C (by omega) (by omega) dX7_bring_85 (show _ = (mPut g l d) 39 from rfl) ?_
              refine x_iload C dX7_bring_86 rfl ?_
              refine x_isub C dX7_bring_88 ?_
              refine sm_1 C (by omega) (by omega) dX7_bring_89 upr_w ?_
              refine x_aload_n C dX7_bring_90 rfl ?_
              refine gm_0_0 C q_751 dX7_bring_91 ?_
              refine x_bipush C dX7_bring_94 (by decide) ?_
              refine x_dup2 C dX7_bring_96 rfl rfl ?_
              refine lm_1 C (by omega) (by omega) dX7_bring_97 (show (up1 (mPut g l d) 39 (((mPut g l d) 39) - (mTak g l))) 7 = (mPut g l d) 7 from by rw [up1_ne (by omega)]) ?_
              refine x_iload C dX7_bring_98 rfl ?_
              refine x_iadd C dX7_bring_100 ?_
              refine sm_1 C (by omega) (by omega) dX7_bring_101 upr_w ?_
              refine x_iload_n C dX7_bring_102 rfl ?_
              refine x_iload C dX7_bring_103 rfl ?_
              refine x_isub C dX7_bring_105 ?_
              refine x_istore_n C dX7_bring_106 (by decide) (rfl : _ = [_, _, _, _, _]) ?_
              refine x_aload_n C dX7_bring_107 rfl ?_
              refine gm_0_0 C q_751 dX7_bring_108 ?_
              refine x_bipush C dX7_bring_111 (by decide) ?_
              refine lm_1 C (by omega) (by omega) dX7_bring_113 (show (up1 (up1 (mPut g l d) 39 (((mPut g l d) 39) - (mTak g l))) 7 (((mPut g l d) 7) + (mTak g l))) 39 = ((mPut g l d) 39) - (mTak g l) from by rw [up1_ne (by omega), up1_same]) ?_
              refine x_if_ne 122 C dX7_bring_114 (by decide) ⟨by omega, by omega⟩ (fun c_16 => ?_) (fun c_16 => ?_)
              · refine G.of ?_ rfl rfl (show _ = upr md 1 (mB1 g l d) from congrArg (upr md 1) ((show mB1 g l d = _ from if_neg c_16).symm)) rfl
                refine x_goto 2 C dX7_bring_122 (by decide) ?_
                obtain ⟨n9, rfl⟩ : ∃ n9, n = n9 + 1 := ⟨n - 1, by omega⟩
                have rb1 := MS_mB1 rg (l := l) (d := d) (by omega) (by omega) d0 d1
                have rn := rb1.2
                refine G.wk (ih n9 (mB1 g l d) (l - mTak g l) (by omega) (by rw [show K + (m - (l - mTak g l)) = K + (m - l) + mTak g l by omega]; exact rb1.1.1) (by omega) (by omega) (by rw [hq, mBr_go ⟨by omega, by omega⟩]) (by omega)) ?_
                simp only [leL, and_self]
              · have rb := MS_mB2 rg (l := l) (d := d) (by omega) d0 d1
                have ew := rb.2
                have rw1 := MR.wait rb.1.1
                refine G.of ?_ rfl rfl (show _ = upr md 1 (mB2 g l d) from congrArg (upr md 1) (rfl)) rfl
                refine x_aload_n C dX7_bring_117 rfl ?_
                refine x_const C dX7_bring_118 ?_
                refine x_callV (nA := 1) (As := [vI 0]) (rest := []) C (m_X7_dropOrder hE (r := (mB2 g l d)) rb.1.1 (x := 0) (by omega) (by omega)) q_892 q_894 q_38 q_64 q_895 (by decide +kernel) (wl_m 0 (by decide)) rfl rfl (by decide) (by decide) (Nat.le_of_ble_eq_true rfl) dX7_bring_119 rfl ?_
                refine G.of ?_ rfl rfl (show _ = upr md 1 (mB1 g l d) from congrArg (upr md 1) ((show mB1 g l d = _ from if_pos c_16).symm)) rfl
                refine x_goto 2 C dX7_bring_122 (by decide) ?_
                obtain ⟨n9, rfl⟩ : ∃ n9, n = n9 + 1 := ⟨n - 1, by omega⟩
                have rb1 := MS_mB1 rg (l := l) (d := d) (by omega) (by omega) d0 d1
                have rn := rb1.2
                refine G.wk (ih n9 (mB1 g l d) (l - mTak g l) (by omega) (by rw [show K + (m - (l - mTak g l)) = K + (m - l) + mTak g l by omega]; exact rb1.1.1) (by omega) (by omega) (by rw [hq, mBr_go ⟨by omega, by omega⟩]) (by omega)) ?_
                simp only [leL, and_self]
            · refine x_aload_n C dX7_bring_49 rfl ?_
              refine gm_0_0 C q_751 dX7_bring_50 ?_
              refine x_sipush C dX7_bring_53 (by decide) ?_
              refine x_iload_n C dX7_bring_56 rfl ?_
              refine x_iadd C dX7_bring_57 ?_
              refine x_dup2 C dX7_bring_58 rfl rfl ?_
              refine lm_1 C (by omega) (by omega) dX7_bring_59 (show _ = g (1675 + d) from rfl) ?_
              have r_17 := MR.fre rg (d := d) (by omega) (by omega)
              refine x_iload C dX7_bring_60 rfl ?_
              refine x_iadd C dX7_bring_62 ?_
              refine sm_1 C (by omega) (by omega) dX7_bring_63 upr_w ?_
              refine x_goto 78 C dX7_bring_64 (by decide) ?_
              refine G.of ?_ rfl rfl (show _ = upr md 1 (mPut g l d) from congrArg (upr md 1) ((if_pos c_14).symm)) rfl
              have e9 : mPut g l d 39 = g 39 := mPut_39 d0
              have r9 := MR.por rg (i := 0) (by decide) (by decide)
              have r9 : 0 ≤ g 39 ∧ g 39 ≤ 99 := r9
              refine x_aload_n C dX7_bring_78 rfl ?_
              refine gm_0_0 C q_751 dX7_bring_79 ?_
              refine x_bipush C dX7_bring_82 (by decide) ?_
              refine x_dup2 C dX7_bring_84 rfl rfl ?_
              refine lm_1 C (by omega) (by omega) dX7_bring_85 (show _ = (mPut g l d) 39 from rfl) ?_
              refine x_iload C dX7_bring_86 rfl ?_
              refine x_isub C dX7_bring_88 ?_
              refine sm_1 C (by omega) (by omega) dX7_bring_89 upr_w ?_
              refine x_aload_n C dX7_bring_90 rfl ?_
              refine gm_0_0 C q_751 dX7_bring_91 ?_
              refine x_bipush C dX7_bring_94 (by decide) ?_
              refine x_dup2 C dX7_bring_96 rfl rfl ?_
              refine lm_1 C (by omega) (by omega) dX7_bring_97 (show (up1 (mPut g l d) 39 (((mPut g l d) 39) - (mTak g l))) 7 = (mPut g l d) 7 from by rw [up1_ne (by omega)]) ?_
              refine x_iload C dX7_bring_98 rfl ?_
              refine x_iadd C dX7_bring_100 ?_
              refine sm_1 C (by omega) (by omega) dX7_bring_101 upr_w ?_
              refine x_iload_n C dX7_bring_102 rfl ?_
              refine x_iload C dX7_bring_103 rfl ?_
              refine x_isub C dX7_bring_105 ?_
              refine x_istore_n C dX7_bring_106 (by decide) (rfl : _ = [_, _, _, _, _]) ?_
              refine x_aload_n C dX7_bring_107 rfl ?_
              refine gm_0_0 C q_751 dX7_bring_108 ?_
              refine x_bipush C dX7_bring_111 (by decide) ?_
              refine lm_1 C (by omega) (by omega) dX7_bring_113 (show (up1 (up1 (mPut g l d) 39 (((mPut g l d) 39) - (mTak g l))) 7 (((mPut g l d) 7) + (mTak g l))) 39 = ((mPut g l d) 39) - (mTak g l) from by rw [up1_ne (by omega), up1_same]) ?_
              refine x_if_ne 122 C dX7_bring_114 (by decide) ⟨by omega, by omega⟩ (fun c_18 => ?_) (fun c_18 => ?_)
              · refine G.of ?_ rfl rfl (show _ = upr md 1 (mB1 g l d) from congrArg (upr md 1) ((show mB1 g l d = _ from if_neg c_18).symm)) rfl
                refine x_goto 2 C dX7_bring_122 (by decide) ?_
                obtain ⟨n9, rfl⟩ : ∃ n9, n = n9 + 1 := ⟨n - 1, by omega⟩
                have rb1 := MS_mB1 rg (l := l) (d := d) (by omega) (by omega) d0 d1
                have rn := rb1.2
                refine G.wk (ih n9 (mB1 g l d) (l - mTak g l) (by omega) (by rw [show K + (m - (l - mTak g l)) = K + (m - l) + mTak g l by omega]; exact rb1.1.1) (by omega) (by omega) (by rw [hq, mBr_go ⟨by omega, by omega⟩]) (by omega)) ?_
                simp only [leL, and_self]
              · have rb := MS_mB2 rg (l := l) (d := d) (by omega) d0 d1
                have ew := rb.2
                have rw1 := MR.wait rb.1.1
                refine G.of ?_ rfl rfl (show _ = upr md 1 (mB2 g l d) from congrArg (upr md 1) (rfl)) rfl
                refine x_aload_n C dX7_bring_117 rfl ?_
                refine x_const C dX7_bring_118 ?_
                refine x_callV (nA := 1) (As := [vI 0]) (rest := []) C (m_X7_dropOrder hE (r := (mB2 g l d)) rb.1.1 (x := 0) (by omega) (by omega)) q_892 q_894 q_38 q_64 q_895 (by decide +kernel) (wl_m 0 (by decide)) rfl rfl (by decide) (by decide) (Nat.le_of_ble_eq_true rfl) dX7_bring_119 rfl ?_
                refine G.of ?_ rfl rfl (show _ = upr md 1 (mB1 g l d) from congrArg (upr md 1) ((show mB1 g l d = _ from if_pos c_18).symm)) rfl
                refine x_goto 2 C dX7_bring_122 (by decide) ?_
                obtain ⟨n9, rfl⟩ : ∃ n9, n = n9 + 1 := ⟨n - 1, by omega⟩
                have rb1 := MS_mB1 rg (l := l) (d := d) (by omega) (by omega) d0 d1
                have rn := rb1.2
                refine G.wk (ih n9 (mB1 g l d) (l - mTak g l) (by omega) (by rw [show K + (m - (l - mTak g l)) = K + (m - l) + mTak g l by omega]; exact rb1.1.1) (by omega) (by omega) (by rw [hq, mBr_go ⟨by omega, by omega⟩]) (by omega)) ?_
                simp only [leL, and_self]
  refine G.wk (K2 13 12 r m (by omega) (by rw [show K + (m - m) = K by omega]; exact R) m0 (by omega) rfl (by omega)) ?_
  simp only [leL, and_self]
set_option maxRecDepth 100000 in
set_option maxHeartbeats 4000000 in
theorem m_X7_fly {hs : Nat → HV} {tp md : HV} {E : HE} (hE : HI E) {r : Int → Int} {K : Int} (R : MR K r) (hK : K ≤ 890000) {d : Int} (d0 : 0 ≤ d) (d1 : d < 1064) : Mt yX7_fly cX7_fly 4 none 4 E [.ref (mA E 0), vI d] hs tp (upr md 1 r) none hs tp (upr md 1 (mFly r d)) := by
  refine mk_Mt hE (plainFor_of_name (by decide)) (Nat.le_of_ble_eq_true rfl) (by intro w0 hw0; simp only [List.mem_cons, List.not_mem_nil, or_false] at hw0; rcases hw0 with rfl | rfl <;> rfl) (rfl : _ = [_, _, _, _]) ?_
  intro F C D
  have rz := MR.sets R
  have rbr := MS_mBr d0 d1 12 K r (r 24) R (by omega)
  have rc0 := MR.came R
  have eb : mBr 12 r (r 24) d 1 = r 1 := rbr.2 1 (Or.inr (Or.inl rfl))
  have rz2 := MR.sets rbr.1
  refine x_aload_n C dX7_fly_0 rfl ?_
  refine x_aload_n C dX7_fly_1 rfl ?_
  refine gm_0_0 C q_751 dX7_fly_2 ?_
  refine x_bipush C dX7_fly_5 (by decide) ?_
  refine lm_1 C (by omega) (by omega) dX7_fly_7 (show _ = r 24 from rfl) ?_
  have r_1 := (MR.sets R)
  refine x_iload_n C dX7_fly_8 rfl ?_
  refine x_callV (nA := 2) (As := [vI (r 24), vI d]) (rest := []) C (m_X7_bring hE (r := r) R (by omega) (m := (r 24)) (d := d) (by omega) (by omega) (by omega) (by omega)) q_928 q_930 q_45 q_64 q_931 (by decide +kernel) (wl_m 0 (by decide)) rfl rfl (by decide) (by decide) (Nat.le_of_ble_eq_true rfl) dX7_fly_9 rfl ?_
  refine x_aload_n C dX7_fly_12 rfl ?_
  refine gm_0_0 C q_751 dX7_fly_13 ?_
  refine x_bipush C dX7_fly_16 (by decide) ?_
  refine lm_1 C (by omega) (by omega) dX7_fly_18 (show _ = (mBr 12 r (r 24) d) 25 from rfl) ?_
  have r_2 := (MR.sets rbr.1)
  refine x_istore_n C dX7_fly_19 (by decide) (rfl : _ = [_, _, _, _]) ?_
  refine x_const C dX7_fly_20 ?_
  refine x_istore_n C dX7_fly_21 (by decide) (rfl : _ = [_, _, _, _]) ?_
  have K22 : ∀ (nn : Nat) (i : Int), 0 ≤ i → i ≤ r 1 → r 1 - i < nn →  G F E hs tp (upr md 1 ((foldI (sFm d) (mBr 12 r (r 24) d, mBr 12 r (r 24) d 25) i).1)) 22 [some (.ref (mA E 0)), some (vI d), some (vI ((foldI (sFm d) (mBr 12 r (r 24) d, mBr 12 r (r 24) d 25) i).2)), some (vI i)] [] := by
    intro nn
    induction nn with
    | zero => intro i i0 i1 hz; exact absurd hz (by omega)
    | succ nn ih =>
      intro i i0 i1 hz
      have rs := MS_flyI rbr.1 (d := d) (s := (mBr 12 r (r 24) d) 25) (i := i) i0 (by omega)
      have rg := rs.1
      have ec : ((foldI (sFm d) (mBr 12 r (r 24) d, mBr 12 r (r 24) d 25) i).1) 1 = (mBr 12 r (r 24) d) 1 := rs.2 1 (Or.inr (Or.inl rfl))
      have sr := seats_r (d := d) (s := (mBr 12 r (r 24) d) 25) i0 (by omega) (by omega) rbr.1 (i := i) (by omega)
      refine x_iload_n C dX7_fly_22 rfl ?_
      refine x_aload_n C dX7_fly_23 rfl ?_
      refine gm_0_0 C q_751 dX7_fly_24 ?_
      refine x_const C dX7_fly_27 ?_
      refine lm_1 C (by omega) (by omega) dX7_fly_28 (show _ = ((foldI (sFm d) (mBr 12 r (r 24) d, mBr 12 r (r 24) d 25) i).1) 1 from rfl) ?_
      have r_3 := MR.came rg
      refine x_icmp_ge 96 C dX7_fly_29 (by decide) ⟨by omega, by omega⟩ ⟨by omega, by omega⟩ (fun c_4 => ?_) (fun c_4 => ?_)
      · refine G.of ?_ rfl rfl (show _ = upr md 1 (mFl1 r d) from congrArg (upr md 1) ((by rw [show i = r 1 by omega]; rfl))) rfl
        refine x_aload_n C dX7_fly_96 rfl ?_
        refine gm_0_0 C q_751 dX7_fly_97 ?_
        refine x_bipush C dX7_fly_100 (by decide) ?_
        refine x_dup2 C dX7_fly_102 rfl rfl ?_
        refine lm_1 C (by omega) (by omega) dX7_fly_103 (show _ = (mFl1 r d) 14 from rfl) ?_
        refine x_aload_n C dX7_fly_104 rfl ?_
        refine gm_0_0 C q_751 dX7_fly_105 ?_
        refine x_bipush C dX7_fly_108 (by decide) ?_
        refine lm_1 C (by omega) (by omega) dX7_fly_110 (show _ = (mFl1 r d) 26 from rfl) ?_
        refine x_isub C dX7_fly_111 ?_
        refine sm_1 C (by omega) (by omega) dX7_fly_112 upr_w ?_
        refine x_aload_n C dX7_fly_113 rfl ?_
        refine gm_0_0 C q_751 dX7_fly_114 ?_
        refine x_bipush C dX7_fly_117 (by decide) ?_
        refine x_dup2 C dX7_fly_119 rfl rfl ?_
        refine lm_1 C (by omega) (by omega) dX7_fly_120 (show (up1 (mFl1 r d) 14 (((mFl1 r d) 14) - ((mFl1 r d) 26))) 16 = (mFl1 r d) 16 from by rw [up1_ne (by omega)]) ?_
        refine x_aload_n C dX7_fly_121 rfl ?_
        refine gm_0_0 C q_751 dX7_fly_122 ?_
        refine x_bipush C dX7_fly_125 (by decide) ?_
        refine lm_1 C (by omega) (by omega) dX7_fly_127 (show (up1 (mFl1 r d) 14 (((mFl1 r d) 14) - ((mFl1 r d) 26))) 26 = (mFl1 r d) 26 from by rw [up1_ne (by omega)]) ?_
        refine x_iadd C dX7_fly_128 ?_
        refine sm_1 C (by omega) (by omega) dX7_fly_129 upr_w ?_
        refine x_aload_n C dX7_fly_130 rfl ?_
        refine gm_0_0 C q_751 dX7_fly_131 ?_
        refine x_const C dX7_fly_134 ?_
        refine x_const C dX7_fly_135 ?_
        refine sm_1 C (by omega) (by omega) dX7_fly_136 upr_w ?_
        refine x_aload_n C dX7_fly_137 rfl ?_
        refine gm_0_0 C q_751 dX7_fly_138 ?_
        refine x_const C dX7_fly_141 ?_
        refine x_dup2 C dX7_fly_142 rfl rfl ?_
        refine lm_1 C (by omega) (by omega) dX7_fly_143 (show (up1 (up1 (up1 (mFl1 r d) 14 (((mFl1 r d) 14) - ((mFl1 r d) 26))) 16 (((mFl1 r d) 16) + ((mFl1 r d) 26))) 4 0) 5 = (mFl1 r d) 5 from by rw [up1_ne (by omega), up1_ne (by omega), up1_ne (by omega)]) ?_
        refine x_const C dX7_fly_144 ?_
        refine x_iadd C dX7_fly_145 ?_
        refine sm_1 C (by omega) (by omega) dX7_fly_146 upr_w ?_
        exact x_vret C D dX7_fly_147 rfl rfl rfl
      · refine x_aload_n C dX7_fly_32 rfl ?_
        refine x_iload_n C dX7_fly_33 rfl ?_
        refine x_const C dX7_fly_34 ?_
        refine x_callV (nA := 2) (As := [vI i, vI 1]) (rest := []) C (m_X7_is hE (r := ((foldI (sFm d) (mBr 12 r (r 24) d, mBr 12 r (r 24) d 25) i).1)) rg (b := i) (w := 1) (by omega) (by omega) ⟨by omega, by omega⟩) q_855 q_857 q_34 q_64 q_858 (by decide +kernel) (wl_m 0 (by decide)) rfl rfl (by decide) (by decide) (Nat.le_of_ble_eq_true rfl) dX7_fly_35 rfl ?_
        refine x_bz_eq 90 C dX7_fly_38 (by decide) (fun c_5 => ?_) (fun c_5 => ?_)
        · refine x_iinc C dX7_fly_90 rfl (by decide) (rfl : _ = [_, _, _, _]) ?_
          refine x_goto 22 C dX7_fly_93 (by decide) ?_
          have e9 : foldI (sFm d) (mBr 12 r (r 24) d, mBr 12 r (r 24) d 25) (i + 1) = (foldI (sFm d) (mBr 12 r (r 24) d, mBr 12 r (r 24) d 25) i) := (foldI_s i0).trans (show sFm d i (foldI (sFm d) (mBr 12 r (r 24) d, mBr 12 r (r 24) d 25) i) = _ from if_neg (fun q => by have q1 := q.1; have q2 := q.2.1; have q3 := q.2.2; omega))
          refine G.of (G.wk (ih (i + 1) (by omega) (by omega) (by omega)) ?_) rfl rfl ?_ rfl
          · simp only [leL, e9, and_self]
          · rw [e9]
        · refine x_aload_n C dX7_fly_41 rfl ?_
          refine x_iload_n C dX7_fly_42 rfl ?_
          refine x_callV (nA := 1) (As := [vI i]) (rest := []) C (m_X7_end hE (r := ((foldI (sFm d) (mBr 12 r (r 24) d, mBr 12 r (r 24) d 25) i).1)) (b := i) (by omega) (by omega) rfl) q_803 q_805 q_24 q_64 q_806 (by decide +kernel) (wl_m 0 (by decide)) rfl rfl (by decide) (by decide) (Nat.le_of_ble_eq_true rfl) dX7_fly_43 rfl ?_
          have r_6 := MR.arr rg (b := i) (by omega) (by omega)
          have r_7 := MR.nig rg (b := i) (by omega) (by omega)
          refine x_iload_n C dX7_fly_46 rfl ?_
          refine x_icmp_gt 90 C dX7_fly_47 (by decide) ⟨by omega, by omega⟩ ⟨by omega, by omega⟩ (fun c_8 => ?_) (fun c_8 => ?_)
          · refine x_iinc C dX7_fly_90 rfl (by decide) (rfl : _ = [_, _, _, _]) ?_
            refine x_goto 22 C dX7_fly_93 (by decide) ?_
            have e9 : foldI (sFm d) (mBr 12 r (r 24) d, mBr 12 r (r 24) d 25) (i + 1) = (foldI (sFm d) (mBr 12 r (r 24) d, mBr 12 r (r 24) d 25) i) := (foldI_s i0).trans (show sFm d i (foldI (sFm d) (mBr 12 r (r 24) d, mBr 12 r (r 24) d 25) i) = _ from if_neg (fun q => by have q1 := q.1; have q2 := q.2.1; have q3 := q.2.2; omega))
            refine G.of (G.wk (ih (i + 1) (by omega) (by omega) (by omega)) ?_) rfl rfl ?_ rfl
            · simp only [leL, e9, and_self]
            · rw [e9]
          · refine x_aload_n C dX7_fly_50 rfl ?_
            refine x_iload_n C dX7_fly_51 rfl ?_
            refine x_const C dX7_fly_52 ?_
            refine x_callV (nA := 2) (As := [vI i, vI 3]) (rest := []) C (m_X7_of hE (r := ((foldI (sFm d) (mBr 12 r (r 24) d, mBr 12 r (r 24) d 25) i).1)) (b := i) (w := 3) (by omega) (by omega) (by omega) (by omega) (show _ = ((foldI (sFm d) (mBr 12 r (r 24) d, mBr 12 r (r 24) d 25) i).1) (51 + 7 * i + 3) from rfl)) q_799 q_801 q_23 q_64 q_802 (by decide +kernel) (wl_m 0 (by decide)) rfl rfl (by decide) (by decide) (Nat.le_of_ble_eq_true rfl) dX7_fly_53 rfl ?_
            have r_9 := MR.per rg (b := i) (by omega) (by omega)
            refine x_iload_n C dX7_fly_56 rfl ?_
            refine x_icmp_gt 90 C dX7_fly_57 (by decide) ⟨by omega, by omega⟩ ⟨by omega, by omega⟩ (fun c_10 => ?_) (fun c_10 => ?_)
            · refine x_iinc C dX7_fly_90 rfl (by decide) (rfl : _ = [_, _, _, _]) ?_
              refine x_goto 22 C dX7_fly_93 (by decide) ?_
              have e9 : foldI (sFm d) (mBr 12 r (r 24) d, mBr 12 r (r 24) d 25) (i + 1) = (foldI (sFm d) (mBr 12 r (r 24) d, mBr 12 r (r 24) d 25) i) := (foldI_s i0).trans (show sFm d i (foldI (sFm d) (mBr 12 r (r 24) d, mBr 12 r (r 24) d 25) i) = _ from if_neg (fun q => by have q1 := q.1; have q2 := q.2.1; have q3 := q.2.2; omega))
              refine G.of (G.wk (ih (i + 1) (by omega) (by omega) (by omega)) ?_) rfl rfl ?_ rfl
              · simp only [leL, e9, and_self]
              · rw [e9]
            · refine x_iload_n C dX7_fly_60 rfl ?_
              refine x_aload_n C dX7_fly_61 rfl ?_
              refine x_iload_n C dX7_fly_62 rfl ?_
              refine x_const C dX7_fly_63 ?_
              refine x_callV (nA := 2) (As := [vI i, vI 3]) (rest := [vI ((foldI (sFm d) (mBr 12 r (r 24) d, mBr 12 r (r 24) d 25) i).2)]) C (m_X7_of hE (r := ((foldI (sFm d) (mBr 12 r (r 24) d, mBr 12 r (r 24) d 25) i).1)) (b := i) (w := 3) (by omega) (by omega) (by omega) (by omega) (show _ = ((foldI (sFm d) (mBr 12 r (r 24) d, mBr 12 r (r 24) d 25) i).1) (51 + 7 * i + 3) from rfl)) q_799 q_801 q_23 q_64 q_802 (by decide +kernel) (wl_m 0 (by decide)) rfl rfl (by decide) (by decide) (Nat.le_of_ble_eq_true rfl) dX7_fly_64 rfl ?_
              have r_11 := MR.per rg (b := i) (by omega) (by omega)
              refine x_isub C dX7_fly_67 ?_
              refine x_istore_n C dX7_fly_68 (by decide) (rfl : _ = [_, _, _, _]) ?_
              refine x_aload_n C dX7_fly_69 rfl ?_
              refine gm_0_0 C q_751 dX7_fly_70 ?_
              refine x_bipush C dX7_fly_73 (by decide) ?_
              refine x_dup2 C dX7_fly_75 rfl rfl ?_
              refine lm_1 C (by omega) (by omega) dX7_fly_76 (show _ = ((foldI (sFm d) (mBr 12 r (r 24) d, mBr 12 r (r 24) d 25) i).1) 6 from rfl) ?_
              refine x_aload_n C dX7_fly_77 rfl ?_
              refine x_iload_n C dX7_fly_78 rfl ?_
              refine x_const C dX7_fly_79 ?_
              refine x_callV (nA := 2) (As := [vI i, vI 3]) (rest := [vI (((foldI (sFm d) (mBr 12 r (r 24) d, mBr 12 r (r 24) d 25) i).1) 6), vI 6, .ref (mA E 1)]) C (m_X7_of hE (r := ((foldI (sFm d) (mBr 12 r (r 24) d, mBr 12 r (r 24) d 25) i).1)) (b := i) (w := 3) (by omega) (by omega) (by omega) (by omega) (show _ = ((foldI (sFm d) (mBr 12 r (r 24) d, mBr 12 r (r 24) d 25) i).1) (51 + 7 * i + 3) from rfl)) q_799 q_801 q_23 q_64 q_802 (by decide +kernel) (wl_m 0 (by decide)) rfl rfl (by decide) (by decide) (Nat.le_of_ble_eq_true rfl) dX7_fly_80 rfl ?_
              have r_12 := MR.per rg (b := i) (by omega) (by omega)
              refine x_iadd C dX7_fly_83 ?_
              refine sm_1 C (by omega) (by omega) dX7_fly_84 upr_w ?_
              refine x_aload_n C dX7_fly_85 rfl ?_
              refine x_iload_n C dX7_fly_86 rfl ?_
              refine x_callV (nA := 1) (As := [vI i]) (rest := []) C (m_X7_leave hE (r := (up1 ((foldI (sFm d) (mBr 12 r (r 24) d, mBr 12 r (r 24) d 25) i).1) 6 ((((foldI (sFm d) (mBr 12 r (r 24) d, mBr 12 r (r 24) d 25) i).1) 6) + (((foldI (sFm d) (mBr 12 r (r 24) d, mBr 12 r (r 24) d 25) i).1) (51 + 7 * i + 3))))) (b := i) (by omega) (by omega)) q_912 q_914 q_41 q_64 q_915 (by decide +kernel) (wl_m 0 (by decide)) rfl rfl (by decide) (by decide) (Nat.le_of_ble_eq_true rfl) dX7_fly_87 rfl ?_
              refine x_iinc C dX7_fly_90 rfl (by decide) (rfl : _ = [_, _, _, _]) ?_
              refine x_goto 22 C dX7_fly_93 (by decide) ?_
              have e9 : foldI (sFm d) (mBr 12 r (r 24) d, mBr 12 r (r 24) d 25) (i + 1) = (mLv (up1 ((foldI (sFm d) (mBr 12 r (r 24) d, mBr 12 r (r 24) d 25) i).1) 6 ((((foldI (sFm d) (mBr 12 r (r 24) d, mBr 12 r (r 24) d 25) i).1) 6) + (((foldI (sFm d) (mBr 12 r (r 24) d, mBr 12 r (r 24) d 25) i).1) (51 + 7 * i + 3)))) i, ((foldI (sFm d) (mBr 12 r (r 24) d, mBr 12 r (r 24) d 25) i).2) - (((foldI (sFm d) (mBr 12 r (r 24) d, mBr 12 r (r 24) d 25) i).1) (51 + 7 * i + 3))) := (foldI_s i0).trans (show sFm d i (foldI (sFm d) (mBr 12 r (r 24) d, mBr 12 r (r 24) d 25) i) = _ from if_pos ⟨by omega, by omega, by omega⟩)
              refine G.of (G.wk (ih (i + 1) (by omega) (by omega) (by omega)) ?_) rfl rfl ?_ rfl
              · simp only [leL, e9, and_self]
              · rw [e9]
  exact K22 (r 1 + 1).toNat 0 (by omega) (by omega) (by omega)
set_option maxRecDepth 100000 in
set_option maxHeartbeats 4000000 in
theorem m_X7_eat {hs : Nat → HV} {tp md : HV} {E : HE} (hE : HI E) {r : Int → Int} {K : Int} (R : MR K r) (hK : K ≤ 1000000) : Mt yX7_eat cX7_eat 4 none 4 E [.ref (mA E 0)] hs tp (upr md 1 r) none hs tp (upr md 1 (mEat r)) := by
  refine mk_Mt hE (plainFor_of_name (by decide)) (Nat.le_of_ble_eq_true rfl) (by intro w0 hw0; simp only [List.mem_cons, List.not_mem_nil, or_false] at hw0; rcases hw0 with rfl <;> rfl) (rfl : _ = [_, _, _, _]) ?_
  intro F C D
  refine x_aload_n C dX7_eat_0 rfl ?_
  refine x_callV (nA := 0) (As := []) (rest := []) C (m_X7_personsThere hE (r := r) R) q_924 q_926 q_44 q_64 q_927 (by decide +kernel) (wl_m 0 (by decide)) rfl rfl (by decide) (by decide) (Nat.le_of_ble_eq_true rfl) dX7_eat_1 rfl ?_
  have r_1 := nPer_r R
  refine x_istore_n C dX7_eat_4 (by decide) (rfl : _ = [_, _, _, _]) ?_
  refine x_const C dX7_eat_5 ?_
  refine x_istore_n C dX7_eat_6 (by decide) (rfl : _ = [_, _, _, _]) ?_
  have K7 : ∀ (nn : Nat) (n : Nat) (g : Int → Int) (l : Int), n ≤ 1064 → MR K g → 0 ≤ l → l ≤ 720 → mEt 1064 0 r (nPer r) = mEt n (1064 - n) g l → (n : Int) < nn →  G F E hs tp (upr md 1 g) 7 [some (.ref (mA E 0)), some (vI l), some (vI (1064 - (n : Int))), none] [] := by
    intro nn
    induction nn with
    | zero => intro n g l n0 rg l0 l1 hq hz; exact absurd hz (by omega)
    | succ nn ih =>
      intro n g l n0 rg l0 l1 hq hz
      refine x_iload_n C dX7_eat_7 rfl ?_
      refine x_sipush C dX7_eat_8 (by decide) ?_
      refine x_icmp_ge 82 C dX7_eat_11 (by decide) ⟨by omega, by omega⟩ ⟨by omega, by omega⟩ (fun c_2 => ?_) (fun c_2 => ?_)
      · refine x_aload_n C dX7_eat_82 rfl ?_
        refine gm_0_0 C q_751 dX7_eat_83 ?_
        refine x_const C dX7_eat_86 ?_
        refine lm_1 C (by omega) (by omega) dX7_eat_87 (show _ = g 2 from rfl) ?_
        have r_3 := MR.dry rg
        refine x_iload_n C dX7_eat_88 rfl ?_
        refine x_icmp_ge 101 C dX7_eat_89 (by decide) ⟨by omega, by omega⟩ ⟨by omega, by omega⟩ (fun c_4 => ?_) (fun c_4 => ?_)
        · refine x_iload_n C dX7_eat_101 rfl ?_
          refine G.eqS ?_ (show _ = vI (mEd g l) :: _ from congrArg (fun z => vI z :: _) ((if_neg (by omega)).symm))
          refine x_istore_n C dX7_eat_102 (by decide) (rfl : _ = [_, _, _, _]) ?_
          refine x_aload_n C dX7_eat_103 rfl ?_
          refine gm_0_0 C q_751 dX7_eat_104 ?_
          refine x_const C dX7_eat_107 ?_
          refine x_dup2 C dX7_eat_108 rfl rfl ?_
          refine lm_1 C (by omega) (by omega) dX7_eat_109 (show _ = g 2 from rfl) ?_
          have r_5 := MR.dry rg
          refine x_iload_n C dX7_eat_110 rfl ?_
          refine x_isub C dX7_eat_111 ?_
          refine sm_1 C (by omega) (by omega) dX7_eat_112 upr_w ?_
          refine x_aload_n C dX7_eat_113 rfl ?_
          refine gm_0_0 C q_751 dX7_eat_114 ?_
          refine x_bipush C dX7_eat_117 (by decide) ?_
          refine x_dup2 C dX7_eat_119 rfl rfl ?_
          refine lm_1 C (by omega) (by omega) dX7_eat_120 (show (up1 g 2 ((g 2) - (mEd g l))) 8 = g 8 from by rw [up1_ne (by omega)]) ?_
          refine x_iload_n C dX7_eat_121 rfl ?_
          refine x_iadd C dX7_eat_122 ?_
          refine sm_1 C (by omega) (by omega) dX7_eat_123 upr_w ?_
          refine x_aload_n C dX7_eat_124 rfl ?_
          refine gm_0_0 C q_751 dX7_eat_125 ?_
          refine x_bipush C dX7_eat_128 (by decide) ?_
          refine x_dup2 C dX7_eat_130 rfl rfl ?_
          refine lm_1 C (by omega) (by omega) dX7_eat_131 (show (up1 (up1 g 2 ((g 2) - (mEd g l))) 8 ((g 8) + (mEd g l))) 10 = g 10 from by rw [up1_ne (by omega), up1_ne (by omega)]) ?_
          refine x_iload_n C dX7_eat_132 rfl ?_
          refine x_iload_n C dX7_eat_133 rfl ?_
          refine x_isub C dX7_eat_134 ?_
          refine x_iadd C dX7_eat_135 ?_
          refine sm_1 C (by omega) (by omega) dX7_eat_136 upr_w ?_
          exact x_vret C D dX7_eat_137 rfl rfl (by unfold mEat; rw [hq, mEt_stop (by omega)])
        · refine x_aload_n C dX7_eat_92 rfl ?_
          refine gm_0_0 C q_751 dX7_eat_93 ?_
          refine x_const C dX7_eat_96 ?_
          refine lm_1 C (by omega) (by omega) dX7_eat_97 (show _ = g 2 from rfl) ?_
          have r_6 := MR.dry rg
          refine x_goto 102 C dX7_eat_98 (by decide) ?_
          refine G.eqS ?_ (show _ = vI (mEd g l) :: _ from congrArg (fun z => vI z :: _) ((if_pos (by omega)).symm))
          refine x_istore_n C dX7_eat_102 (by decide) (rfl : _ = [_, _, _, _]) ?_
          refine x_aload_n C dX7_eat_103 rfl ?_
          refine gm_0_0 C q_751 dX7_eat_104 ?_
          refine x_const C dX7_eat_107 ?_
          refine x_dup2 C dX7_eat_108 rfl rfl ?_
          refine lm_1 C (by omega) (by omega) dX7_eat_109 (show _ = g 2 from rfl) ?_
          have r_7 := MR.dry rg
          refine x_iload_n C dX7_eat_110 rfl ?_
          refine x_isub C dX7_eat_111 ?_
          refine sm_1 C (by omega) (by omega) dX7_eat_112 upr_w ?_
          refine x_aload_n C dX7_eat_113 rfl ?_
          refine gm_0_0 C q_751 dX7_eat_114 ?_
          refine x_bipush C dX7_eat_117 (by decide) ?_
          refine x_dup2 C dX7_eat_119 rfl rfl ?_
          refine lm_1 C (by omega) (by omega) dX7_eat_120 (show (up1 g 2 ((g 2) - (mEd g l))) 8 = g 8 from by rw [up1_ne (by omega)]) ?_
          refine x_iload_n C dX7_eat_121 rfl ?_
          refine x_iadd C dX7_eat_122 ?_
          refine sm_1 C (by omega) (by omega) dX7_eat_123 upr_w ?_
          refine x_aload_n C dX7_eat_124 rfl ?_
          refine gm_0_0 C q_751 dX7_eat_125 ?_
          refine x_bipush C dX7_eat_128 (by decide) ?_
          refine x_dup2 C dX7_eat_130 rfl rfl ?_
          refine lm_1 C (by omega) (by omega) dX7_eat_131 (show (up1 (up1 g 2 ((g 2) - (mEd g l))) 8 ((g 8) + (mEd g l))) 10 = g 10 from by rw [up1_ne (by omega), up1_ne (by omega)]) ?_
          refine x_iload_n C dX7_eat_132 rfl ?_
          refine x_iload_n C dX7_eat_133 rfl ?_
          refine x_isub C dX7_eat_134 ?_
          refine x_iadd C dX7_eat_135 ?_
          refine sm_1 C (by omega) (by omega) dX7_eat_136 upr_w ?_
          exact x_vret C D dX7_eat_137 rfl rfl (by unfold mEat; rw [hq, mEt_stop (by omega)])
      · refine x_iload_n C dX7_eat_14 rfl ?_
        refine x_if_le 82 C dX7_eat_15 (by decide) ⟨by omega, by omega⟩ (fun c_8 => ?_) (fun c_8 => ?_)
        · refine x_aload_n C dX7_eat_82 rfl ?_
          refine gm_0_0 C q_751 dX7_eat_83 ?_
          refine x_const C dX7_eat_86 ?_
          refine lm_1 C (by omega) (by omega) dX7_eat_87 (show _ = g 2 from rfl) ?_
          have r_9 := MR.dry rg
          refine x_iload_n C dX7_eat_88 rfl ?_
          refine x_icmp_ge 101 C dX7_eat_89 (by decide) ⟨by omega, by omega⟩ ⟨by omega, by omega⟩ (fun c_10 => ?_) (fun c_10 => ?_)
          · refine x_iload_n C dX7_eat_101 rfl ?_
            refine G.eqS ?_ (show _ = vI (mEd g l) :: _ from congrArg (fun z => vI z :: _) ((if_neg (by omega)).symm))
            refine x_istore_n C dX7_eat_102 (by decide) (rfl : _ = [_, _, _, _]) ?_
            refine x_aload_n C dX7_eat_103 rfl ?_
            refine gm_0_0 C q_751 dX7_eat_104 ?_
            refine x_const C dX7_eat_107 ?_
            refine x_dup2 C dX7_eat_108 rfl rfl ?_
            refine lm_1 C (by omega) (by omega) dX7_eat_109 (show _ = g 2 from rfl) ?_
            have r_11 := MR.dry rg
            refine x_iload_n C dX7_eat_110 rfl ?_
            refine x_isub C dX7_eat_111 ?_
            refine sm_1 C (by omega) (by omega) dX7_eat_112 upr_w ?_
            refine x_aload_n C dX7_eat_113 rfl ?_
            refine gm_0_0 C q_751 dX7_eat_114 ?_
            refine x_bipush C dX7_eat_117 (by decide) ?_
            refine x_dup2 C dX7_eat_119 rfl rfl ?_
            refine lm_1 C (by omega) (by omega) dX7_eat_120 (show (up1 g 2 ((g 2) - (mEd g l))) 8 = g 8 from by rw [up1_ne (by omega)]) ?_
            refine x_iload_n C dX7_eat_121 rfl ?_
            refine x_iadd C dX7_eat_122 ?_
            refine sm_1 C (by omega) (by omega) dX7_eat_123 upr_w ?_
            refine x_aload_n C dX7_eat_124 rfl ?_
            refine gm_0_0 C q_751 dX7_eat_125 ?_
            refine x_bipush C dX7_eat_128 (by decide) ?_
            refine x_dup2 C dX7_eat_130 rfl rfl ?_
            refine lm_1 C (by omega) (by omega) dX7_eat_131 (show (up1 (up1 g 2 ((g 2) - (mEd g l))) 8 ((g 8) + (mEd g l))) 10 = g 10 from by rw [up1_ne (by omega), up1_ne (by omega)]) ?_
            refine x_iload_n C dX7_eat_132 rfl ?_
            refine x_iload_n C dX7_eat_133 rfl ?_
            refine x_isub C dX7_eat_134 ?_
            refine x_iadd C dX7_eat_135 ?_
            refine sm_1 C (by omega) (by omega) dX7_eat_136 upr_w ?_
            exact x_vret C D dX7_eat_137 rfl rfl (by unfold mEat; rw [hq, mEt_stop (by omega)])
          · refine x_aload_n C dX7_eat_92 rfl ?_
            refine gm_0_0 C q_751 dX7_eat_93 ?_
            refine x_const C dX7_eat_96 ?_
            refine lm_1 C (by omega) (by omega) dX7_eat_97 (show _ = g 2 from rfl) ?_
            have r_12 := MR.dry rg
            refine x_goto 102 C dX7_eat_98 (by decide) ?_
            refine G.eqS ?_ (show _ = vI (mEd g l) :: _ from congrArg (fun z => vI z :: _) ((if_pos (by omega)).symm))
            refine x_istore_n C dX7_eat_102 (by decide) (rfl : _ = [_, _, _, _]) ?_
            refine x_aload_n C dX7_eat_103 rfl ?_
            refine gm_0_0 C q_751 dX7_eat_104 ?_
            refine x_const C dX7_eat_107 ?_
            refine x_dup2 C dX7_eat_108 rfl rfl ?_
            refine lm_1 C (by omega) (by omega) dX7_eat_109 (show _ = g 2 from rfl) ?_
            have r_13 := MR.dry rg
            refine x_iload_n C dX7_eat_110 rfl ?_
            refine x_isub C dX7_eat_111 ?_
            refine sm_1 C (by omega) (by omega) dX7_eat_112 upr_w ?_
            refine x_aload_n C dX7_eat_113 rfl ?_
            refine gm_0_0 C q_751 dX7_eat_114 ?_
            refine x_bipush C dX7_eat_117 (by decide) ?_
            refine x_dup2 C dX7_eat_119 rfl rfl ?_
            refine lm_1 C (by omega) (by omega) dX7_eat_120 (show (up1 g 2 ((g 2) - (mEd g l))) 8 = g 8 from by rw [up1_ne (by omega)]) ?_
            refine x_iload_n C dX7_eat_121 rfl ?_
            refine x_iadd C dX7_eat_122 ?_
            refine sm_1 C (by omega) (by omega) dX7_eat_123 upr_w ?_
            refine x_aload_n C dX7_eat_124 rfl ?_
            refine gm_0_0 C q_751 dX7_eat_125 ?_
            refine x_bipush C dX7_eat_128 (by decide) ?_
            refine x_dup2 C dX7_eat_130 rfl rfl ?_
            refine lm_1 C (by omega) (by omega) dX7_eat_131 (show (up1 (up1 g 2 ((g 2) - (mEd g l))) 8 ((g 8) + (mEd g l))) 10 = g 10 from by rw [up1_ne (by omega), up1_ne (by omega)]) ?_
            refine x_iload_n C dX7_eat_132 rfl ?_
            refine x_iload_n C dX7_eat_133 rfl ?_
            refine x_isub C dX7_eat_134 ?_
            refine x_iadd C dX7_eat_135 ?_
            refine sm_1 C (by omega) (by omega) dX7_eat_136 upr_w ?_
            exact x_vret C D dX7_eat_137 rfl rfl (by unfold mEat; rw [hq, mEt_stop (by omega)])
        · refine x_aload_n C dX7_eat_18 rfl ?_
          refine gm_0_0 C q_751 dX7_eat_19 ?_
          refine x_sipush C dX7_eat_22 (by decide) ?_
          refine x_iload_n C dX7_eat_25 rfl ?_
          refine x_iadd C dX7_eat_26 ?_
          refine lm_1 C (by omega) (by omega) dX7_eat_27 (show _ = g (1675 + (1064 - (n : Int))) from rfl) ?_
          have r_14 := MR.fre rg (d := (1064 - (n : Int))) (by omega) (by omega)
          refine x_iload_n C dX7_eat_28 rfl ?_
          refine x_icmp_ge 45 C dX7_eat_29 (by decide) ⟨by omega, by omega⟩ ⟨by omega, by omega⟩ (fun c_15 => ?_) (fun c_15 => ?_)
          · refine x_iload_n C dX7_eat_45 rfl ?_
            have hp := mEp_r (r := g) (d := 1064 - (n : Int)) (l := l) (by omega) (by omega)
            refine G.eqS ?_ (show _ = vI (mEp g (1064 - (n : Int)) l) :: _ from congrArg (fun z => vI z :: _) ((if_neg (by omega)).symm))
            refine x_istore_n C dX7_eat_46 (by decide) (rfl : _ = [_, _, _, _]) ?_
            refine x_aload_n C dX7_eat_47 rfl ?_
            refine gm_0_0 C q_751 dX7_eat_48 ?_
            refine x_sipush C dX7_eat_51 (by decide) ?_
            refine x_iload_n C dX7_eat_54 rfl ?_
            refine x_iadd C dX7_eat_55 ?_
            refine x_dup2 C dX7_eat_56 rfl rfl ?_
            refine lm_1 C (by omega) (by omega) dX7_eat_57 (show _ = g (1675 + (1064 - (n : Int))) from rfl) ?_
            have r_16 := MR.fre rg (d := (1064 - (n : Int))) (by omega) (by omega)
            refine x_iload_n C dX7_eat_58 rfl ?_
            refine x_isub C dX7_eat_59 ?_
            refine sm_1 C (by omega) (by omega) dX7_eat_60 upr_w ?_
            refine x_aload_n C dX7_eat_61 rfl ?_
            refine gm_0_0 C q_751 dX7_eat_62 ?_
            refine x_bipush C dX7_eat_65 (by decide) ?_
            refine x_dup2 C dX7_eat_67 rfl rfl ?_
            refine lm_1 C (by omega) (by omega) dX7_eat_68 (show (up1 g (1675 + (1064 - (n : Int))) ((g (1675 + (1064 - (n : Int)))) - (mEp g (1064 - (n : Int)) l))) 8 = g 8 from by rw [up1_ne (by omega)]) ?_
            refine x_iload_n C dX7_eat_69 rfl ?_
            refine x_iadd C dX7_eat_70 ?_
            refine sm_1 C (by omega) (by omega) dX7_eat_71 upr_w ?_
            refine x_iload_n C dX7_eat_72 rfl ?_
            refine x_iload_n C dX7_eat_73 rfl ?_
            refine x_isub C dX7_eat_74 ?_
            refine x_istore_n C dX7_eat_75 (by decide) (rfl : _ = [_, _, _, _]) ?_
            refine x_iinc C dX7_eat_76 rfl (by decide) (rfl : _ = [_, _, _, _]) ?_
            refine x_goto 7 C dX7_eat_79 (by decide) ?_
            obtain ⟨n9, rfl⟩ : ∃ n9, n = n9 + 1 := ⟨n - 1, by omega⟩
            refine G.wk (ih n9 (mE1 g (1064 - ((n9 + 1 : Nat) : Int)) l) (l - mEp g (1064 - ((n9 + 1 : Nat) : Int)) l) (by omega) (MS_mE1 rg (by omega) (by omega) (by omega)).1 (by omega) (by omega) (by rw [hq, mEt_go (by omega)]; congr 1; omega) (by omega)) ?_
            simp only [leL, and_self, and_true, true_and]; exact congrArg (fun z => some (vI z)) (by omega)
          · refine x_aload_n C dX7_eat_32 rfl ?_
            refine gm_0_0 C q_751 dX7_eat_33 ?_
            refine x_sipush C dX7_eat_36 (by decide) ?_
            refine x_iload_n C dX7_eat_39 rfl ?_
            refine x_iadd C dX7_eat_40 ?_
            refine lm_1 C (by omega) (by omega) dX7_eat_41 (show _ = g (1675 + (1064 - (n : Int))) from rfl) ?_
            have r_17 := MR.fre rg (d := (1064 - (n : Int))) (by omega) (by omega)
            refine x_goto 46 C dX7_eat_42 (by decide) ?_
            have hp := mEp_r (r := g) (d := 1064 - (n : Int)) (l := l) (by omega) (by omega)
            refine G.eqS ?_ (show _ = vI (mEp g (1064 - (n : Int)) l) :: _ from congrArg (fun z => vI z :: _) ((if_pos (by omega)).symm))
            refine x_istore_n C dX7_eat_46 (by decide) (rfl : _ = [_, _, _, _]) ?_
            refine x_aload_n C dX7_eat_47 rfl ?_
            refine gm_0_0 C q_751 dX7_eat_48 ?_
            refine x_sipush C dX7_eat_51 (by decide) ?_
            refine x_iload_n C dX7_eat_54 rfl ?_
            refine x_iadd C dX7_eat_55 ?_
            refine x_dup2 C dX7_eat_56 rfl rfl ?_
            refine lm_1 C (by omega) (by omega) dX7_eat_57 (show _ = g (1675 + (1064 - (n : Int))) from rfl) ?_
            have r_18 := MR.fre rg (d := (1064 - (n : Int))) (by omega) (by omega)
            refine x_iload_n C dX7_eat_58 rfl ?_
            refine x_isub C dX7_eat_59 ?_
            refine sm_1 C (by omega) (by omega) dX7_eat_60 upr_w ?_
            refine x_aload_n C dX7_eat_61 rfl ?_
            refine gm_0_0 C q_751 dX7_eat_62 ?_
            refine x_bipush C dX7_eat_65 (by decide) ?_
            refine x_dup2 C dX7_eat_67 rfl rfl ?_
            refine lm_1 C (by omega) (by omega) dX7_eat_68 (show (up1 g (1675 + (1064 - (n : Int))) ((g (1675 + (1064 - (n : Int)))) - (mEp g (1064 - (n : Int)) l))) 8 = g 8 from by rw [up1_ne (by omega)]) ?_
            refine x_iload_n C dX7_eat_69 rfl ?_
            refine x_iadd C dX7_eat_70 ?_
            refine sm_1 C (by omega) (by omega) dX7_eat_71 upr_w ?_
            refine x_iload_n C dX7_eat_72 rfl ?_
            refine x_iload_n C dX7_eat_73 rfl ?_
            refine x_isub C dX7_eat_74 ?_
            refine x_istore_n C dX7_eat_75 (by decide) (rfl : _ = [_, _, _, _]) ?_
            refine x_iinc C dX7_eat_76 rfl (by decide) (rfl : _ = [_, _, _, _]) ?_
            refine x_goto 7 C dX7_eat_79 (by decide) ?_
            obtain ⟨n9, rfl⟩ : ∃ n9, n = n9 + 1 := ⟨n - 1, by omega⟩
            refine G.wk (ih n9 (mE1 g (1064 - ((n9 + 1 : Nat) : Int)) l) (l - mEp g (1064 - ((n9 + 1 : Nat) : Int)) l) (by omega) (MS_mE1 rg (by omega) (by omega) (by omega)).1 (by omega) (by omega) (by rw [hq, mEt_go (by omega)]; congr 1; omega) (by omega)) ?_
            simp only [leL, and_self, and_true, true_and]; exact congrArg (fun z => some (vI z)) (by omega)
  refine G.wk (K7 1065 1064 r (nPer r) (by omega) R (by omega) (by omega) rfl (by omega)) ?_
  simp only [leL, and_self]; try trivial
set_option maxRecDepth 100000 in
set_option maxHeartbeats 4000000 in
theorem m_X7_sleep {hs : Nat → HV} {tp md : HV} {E : HE} (hE : HI E) {r : Int → Int} {K : Int} (R : MR K r) {d : Int} (dd : IR d) : Mt yX7_sleep cX7_sleep 3 none 3 E [.ref (mA E 0), vI d] hs tp (upr md 1 r) none hs tp (upr md 1 (mSle r d)) := by
  refine mk_Mt hE (plainFor_of_name (by decide)) (Nat.le_of_ble_eq_true rfl) (by intro w0 hw0; simp only [List.mem_cons, List.not_mem_nil, or_false] at hw0; rcases hw0 with rfl | rfl <;> rfl) (rfl : _ = [_, _, _]) ?_
  intro F C D
  have rc0 := MR.came R
  refine x_const C dX7_sleep_0 ?_
  refine x_istore_n C dX7_sleep_1 (by decide) (rfl : _ = [_, _, _]) ?_
  have K2 : ∀ (nn : Nat) (i : Int), 0 ≤ i → i ≤ r 1 → r 1 - i < nn →  G F E hs tp (upr md 1 (foldI (sSm d) r i)) 2 [some (.ref (mA E 0)), some (vI d), some (vI i)] [] := by
    intro nn
    induction nn with
    | zero => intro i i0 i1 hz; exact absurd hz (by omega)
    | succ nn ih =>
      intro i i0 i1 hz
      have rs := MS_sleI R (d := d) (i := i) i0 (by omega)
      have rg := rs.1
      have ec : (foldI (sSm d) r i) 1 = r 1 := rs.2 1 (Or.inr (Or.inl rfl))
      refine x_iload_n C dX7_sleep_2 rfl ?_
      refine x_aload_n C dX7_sleep_3 rfl ?_
      refine gm_0_0 C q_751 dX7_sleep_4 ?_
      refine x_const C dX7_sleep_7 ?_
      refine lm_1 C (by omega) (by omega) dX7_sleep_8 (show _ = (foldI (sSm d) r i) 1 from rfl) ?_
      have r_1 := MR.came rg
      refine x_icmp_ge 86 C dX7_sleep_9 (by decide) ⟨by omega, by omega⟩ ⟨by omega, by omega⟩ (fun c_2 => ?_) (fun c_2 => ?_)
      · exact x_vret C D dX7_sleep_86 rfl rfl (by rw [show i = r 1 by omega]; rfl)
      · refine x_aload_n C dX7_sleep_12 rfl ?_
        refine x_iload_n C dX7_sleep_13 rfl ?_
        refine x_const C dX7_sleep_14 ?_
        refine x_callV (nA := 2) (As := [vI i, vI 1]) (rest := []) C (m_X7_is hE (r := (foldI (sSm d) r i)) rg (b := i) (w := 1) (by omega) (by omega) ⟨by omega, by omega⟩) q_855 q_857 q_34 q_64 q_858 (by decide +kernel) (wl_m 0 (by decide)) rfl rfl (by decide) (by decide) (Nat.le_of_ble_eq_true rfl) dX7_sleep_15 rfl ?_
        refine x_bz_eq 80 C dX7_sleep_18 (by decide) (fun c_3 => ?_) (fun c_3 => ?_)
        · refine x_iinc C dX7_sleep_80 rfl (by decide) (rfl : _ = [_, _, _]) ?_
          refine x_goto 2 C dX7_sleep_83 (by decide) ?_
          have e9 : sSm d i (foldI (sSm d) r i) = (foldI (sSm d) r i) := if_neg (by assumption)
          refine G.of (G.wk (ih (i + 1) (by omega) (by omega) (by omega)) ?_) rfl rfl ?_ rfl
          · simp only [leL, and_self]
          · rw [foldI_s i0, e9]
        · refine x_aload_n C dX7_sleep_21 rfl ?_
          refine x_iload_n C dX7_sleep_22 rfl ?_
          refine x_const C dX7_sleep_23 ?_
          refine x_aload_n C dX7_sleep_24 rfl ?_
          refine x_iload_n C dX7_sleep_25 rfl ?_
          refine x_const C dX7_sleep_26 ?_
          refine x_callV (nA := 2) (As := [vI i, vI 4]) (rest := [vI 4, vI i, .ref (mA E 0)]) C (m_X7_of hE (r := (foldI (sSm d) r i)) (b := i) (w := 4) (by omega) (by omega) (by omega) (by omega) (show _ = (foldI (sSm d) r i) (51 + 7 * i + 4) from rfl)) q_799 q_801 q_23 q_64 q_802 (by decide +kernel) (wl_m 0 (by decide)) rfl rfl (by decide) (by decide) (Nat.le_of_ble_eq_true rfl) dX7_sleep_27 rfl ?_
          refine x_const C dX7_sleep_30 ?_
          refine x_iadd C dX7_sleep_31 ?_
          refine x_callV (nA := 3) (As := [vI i, vI 4, vI (((foldI (sSm d) r i) (51 + 7 * i + 4)) + 1)]) (rest := []) C (m_X7_put hE (r := (foldI (sSm d) r i)) (b := i) (w := 4) (v := (((foldI (sSm d) r i) (51 + 7 * i + 4)) + 1)) (by omega) (by omega) (by omega) (by omega)) q_817 q_819 q_27 q_64 q_820 (by decide +kernel) (wl_m 0 (by decide)) rfl rfl (by decide) (by decide) (Nat.le_of_ble_eq_true rfl) dX7_sleep_32 rfl ?_
          refine x_aload_n C dX7_sleep_35 rfl ?_
          refine gm_0_0 C q_751 dX7_sleep_36 ?_
          refine x_bipush C dX7_sleep_39 (by decide) ?_
          refine x_dup2 C dX7_sleep_41 rfl rfl ?_
          refine lm_1 C (by omega) (by omega) dX7_sleep_42 (show (up1 (foldI (sSm d) r i) (51 + 7 * i + 4) (((foldI (sSm d) r i) (51 + 7 * i + 4)) + 1)) 12 = (foldI (sSm d) r i) 12 from by rw [up1_ne (by omega)]) ?_
          refine x_aload_n C dX7_sleep_43 rfl ?_
          refine x_iload_n C dX7_sleep_44 rfl ?_
          refine x_const C dX7_sleep_45 ?_
          refine x_callV (nA := 2) (As := [vI i, vI 3]) (rest := [vI ((foldI (sSm d) r i) 12), vI 12, .ref (mA E 1)]) C (m_X7_of hE (r := (up1 (foldI (sSm d) r i) (51 + 7 * i + 4) (((foldI (sSm d) r i) (51 + 7 * i + 4)) + 1))) (b := i) (w := 3) (by omega) (by omega) (by omega) (by omega) (show (up1 (foldI (sSm d) r i) (51 + 7 * i + 4) (((foldI (sSm d) r i) (51 + 7 * i + 4)) + 1)) (51 + 7 * i + 3) = (foldI (sSm d) r i) (51 + 7 * i + 3) from by rw [up1_ne (by omega)])) q_799 q_801 q_23 q_64 q_802 (by decide +kernel) (wl_m 0 (by decide)) rfl rfl (by decide) (by decide) (Nat.le_of_ble_eq_true rfl) dX7_sleep_46 rfl ?_
          have r_4 := MR.per rg (b := i) (by omega) (by omega)
          refine x_iadd C dX7_sleep_49 ?_
          refine sm_1 C (by omega) (by omega) dX7_sleep_50 upr_w ?_
          refine x_aload_n C dX7_sleep_51 rfl ?_
          refine gm_0_0 C q_751 dX7_sleep_52 ?_
          refine x_bipush C dX7_sleep_55 (by decide) ?_
          refine x_dup2 C dX7_sleep_57 rfl rfl ?_
          refine lm_1 C (by omega) (by omega) dX7_sleep_58 (show (up1 (up1 (foldI (sSm d) r i) (51 + 7 * i + 4) (((foldI (sSm d) r i) (51 + 7 * i + 4)) + 1)) 12 (((foldI (sSm d) r i) 12) + ((foldI (sSm d) r i) (51 + 7 * i + 3)))) 11 = (foldI (sSm d) r i) 11 from by rw [up1_ne (by omega), up1_ne (by omega)]) ?_
          refine x_aload_n C dX7_sleep_59 rfl ?_
          refine x_iload_n C dX7_sleep_60 rfl ?_
          refine x_callV (nA := 1) (As := [vI i]) (rest := [vI ((foldI (sSm d) r i) 11), vI 11, .ref (mA E 1)]) C (m_X7_end hE (r := (up1 (up1 (foldI (sSm d) r i) (51 + 7 * i + 4) (((foldI (sSm d) r i) (51 + 7 * i + 4)) + 1)) 12 (((foldI (sSm d) r i) 12) + ((foldI (sSm d) r i) (51 + 7 * i + 3))))) (b := i) (by omega) (by omega) (congr (congrArg HAdd.hAdd (show (up1 (up1 (foldI (sSm d) r i) (51 + 7 * i + 4) (((foldI (sSm d) r i) (51 + 7 * i + 4)) + 1)) 12 (((foldI (sSm d) r i) 12) + ((foldI (sSm d) r i) (51 + 7 * i + 3)))) (51 + 7 * i + 1) = (foldI (sSm d) r i) (51 + 7 * i + 1) from by rw [up1_ne (by omega), up1_ne (by omega)])) (show (up1 (up1 (foldI (sSm d) r i) (51 + 7 * i + 4) (((foldI (sSm d) r i) (51 + 7 * i + 4)) + 1)) 12 (((foldI (sSm d) r i) 12) + ((foldI (sSm d) r i) (51 + 7 * i + 3)))) (51 + 7 * i + 2) = (foldI (sSm d) r i) (51 + 7 * i + 2) from by rw [up1_ne (by omega), up1_ne (by omega)]))) q_803 q_805 q_24 q_64 q_806 (by decide +kernel) (wl_m 0 (by decide)) rfl rfl (by decide) (by decide) (Nat.le_of_ble_eq_true rfl) dX7_sleep_61 rfl ?_
          have r_5 := MR.arr rg (b := i) (by omega) (by omega)
          have r_6 := MR.nig rg (b := i) (by omega) (by omega)
          refine x_iload_n C dX7_sleep_64 rfl ?_
          refine x_icmp_gt 77 C dX7_sleep_65 (by decide) ⟨by omega, by omega⟩ ⟨by omega, by omega⟩ (fun c_7 => ?_) (fun c_7 => ?_)
          · refine x_const C dX7_sleep_77 ?_
            refine G.eqS ?_ (show _ = vI ((if (foldI (sSm d) r i) (51 + 7 * i + 1) + (foldI (sSm d) r i) (51 + 7 * i + 2) ≤ d then (foldI (sSm d) r i) (51 + 7 * i + 3) else 0)) :: _ from congrArg (fun z => vI z :: _) ((if_neg (by omega)).symm))
            refine x_iadd C dX7_sleep_78 ?_
            refine sm_1 C (by omega) (by omega) dX7_sleep_79 upr_w ?_
            refine x_iinc C dX7_sleep_80 rfl (by decide) (rfl : _ = [_, _, _]) ?_
            refine x_goto 2 C dX7_sleep_83 (by decide) ?_
            have e9 : sSm d i (foldI (sSm d) r i) = up1 (up1 (up1 (foldI (sSm d) r i) (51 + 7 * i + 4) (((foldI (sSm d) r i) (51 + 7 * i + 4)) + 1)) 12 (((foldI (sSm d) r i) 12) + ((foldI (sSm d) r i) (51 + 7 * i + 3)))) 11 (((foldI (sSm d) r i) 11) + (if (foldI (sSm d) r i) (51 + 7 * i + 1) + (foldI (sSm d) r i) (51 + 7 * i + 2) ≤ d then (foldI (sSm d) r i) (51 + 7 * i + 3) else 0)) := if_pos (by first | omega | exact ⟨by assumption, by omega, by assumption⟩ | exact ⟨by assumption, by omega⟩)
            refine G.of (G.wk (ih (i + 1) (by omega) (by omega) (by omega)) ?_) rfl rfl ?_ rfl
            · simp only [leL, and_self]
            · rw [foldI_s i0, e9]
          · refine x_aload_n C dX7_sleep_68 rfl ?_
            refine x_iload_n C dX7_sleep_69 rfl ?_
            refine x_const C dX7_sleep_70 ?_
            refine x_callV (nA := 2) (As := [vI i, vI 3]) (rest := [vI ((foldI (sSm d) r i) 11), vI 11, .ref (mA E 1)]) C (m_X7_of hE (r := (up1 (up1 (foldI (sSm d) r i) (51 + 7 * i + 4) (((foldI (sSm d) r i) (51 + 7 * i + 4)) + 1)) 12 (((foldI (sSm d) r i) 12) + ((foldI (sSm d) r i) (51 + 7 * i + 3))))) (b := i) (w := 3) (by omega) (by omega) (by omega) (by omega) (show (up1 (up1 (foldI (sSm d) r i) (51 + 7 * i + 4) (((foldI (sSm d) r i) (51 + 7 * i + 4)) + 1)) 12 (((foldI (sSm d) r i) 12) + ((foldI (sSm d) r i) (51 + 7 * i + 3)))) (51 + 7 * i + 3) = (foldI (sSm d) r i) (51 + 7 * i + 3) from by rw [up1_ne (by omega), up1_ne (by omega)])) q_799 q_801 q_23 q_64 q_802 (by decide +kernel) (wl_m 0 (by decide)) rfl rfl (by decide) (by decide) (Nat.le_of_ble_eq_true rfl) dX7_sleep_71 rfl ?_
            have r_8 := MR.per rg (b := i) (by omega) (by omega)
            refine x_goto 78 C dX7_sleep_74 (by decide) ?_
            refine G.eqS ?_ (show _ = vI ((if (foldI (sSm d) r i) (51 + 7 * i + 1) + (foldI (sSm d) r i) (51 + 7 * i + 2) ≤ d then (foldI (sSm d) r i) (51 + 7 * i + 3) else 0)) :: _ from congrArg (fun z => vI z :: _) ((if_pos (by omega)).symm))
            refine x_iadd C dX7_sleep_78 ?_
            refine sm_1 C (by omega) (by omega) dX7_sleep_79 upr_w ?_
            refine x_iinc C dX7_sleep_80 rfl (by decide) (rfl : _ = [_, _, _]) ?_
            refine x_goto 2 C dX7_sleep_83 (by decide) ?_
            have e9 : sSm d i (foldI (sSm d) r i) = up1 (up1 (up1 (foldI (sSm d) r i) (51 + 7 * i + 4) (((foldI (sSm d) r i) (51 + 7 * i + 4)) + 1)) 12 (((foldI (sSm d) r i) 12) + ((foldI (sSm d) r i) (51 + 7 * i + 3)))) 11 (((foldI (sSm d) r i) 11) + (if (foldI (sSm d) r i) (51 + 7 * i + 1) + (foldI (sSm d) r i) (51 + 7 * i + 2) ≤ d then (foldI (sSm d) r i) (51 + 7 * i + 3) else 0)) := if_pos (by first | omega | exact ⟨by assumption, by omega, by assumption⟩ | exact ⟨by assumption, by omega⟩)
            refine G.of (G.wk (ih (i + 1) (by omega) (by omega) (by omega)) ?_) rfl rfl ?_ rfl
            · simp only [leL, and_self]
            · rw [foldI_s i0, e9]
  exact K2 (r 1 + 1).toNat 0 (by omega) (by omega) (by omega)
