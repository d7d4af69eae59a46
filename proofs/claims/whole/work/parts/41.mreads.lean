set_option maxRecDepth 100000 in
set_option maxHeartbeats 4000000 in
theorem m_X7_in {hs : Nat → HV} {tp md : HV} {E : HE} (hE : HI E) {v l m : Int} (v0 : IR v) (l0 : IR l) (m0 : IR m) : Mt yX7_in cX7_in 3 (some .boolean) 1 E [vI v, vI l, vI m] hs tp md (some (vI (bI (l ≤ v ∧ v ≤ m)))) hs tp md := by
  refine mk_Mt hE (plainFor_of_name (by decide)) (Nat.le_of_ble_eq_true rfl) (by intro w0 hw0; simp only [List.mem_cons, List.not_mem_nil, or_false] at hw0; rcases hw0 with rfl | rfl | rfl <;> rfl) (rfl : _ = [_, _, _]) ?_
  intro F C D
  refine x_iload_n C dX7_in_0 rfl ?_
  refine x_iload_n C dX7_in_1 rfl ?_
  refine x_icmp_lt 14 C dX7_in_2 (by decide) ⟨by omega, by omega⟩ ⟨by omega, by omega⟩ (fun c_1 => ?_) (fun c_1 => ?_)
  · refine x_const C dX7_in_14 ?_
    exact x_iret C D nar_b dX7_in_15 (e0_bI (by omega)) rfl rfl rfl
  · refine x_iload_n C dX7_in_5 rfl ?_
    refine x_iload_n C dX7_in_6 rfl ?_
    refine x_icmp_gt 14 C dX7_in_7 (by decide) ⟨by omega, by omega⟩ ⟨by omega, by omega⟩ (fun c_2 => ?_) (fun c_2 => ?_)
    · refine x_const C dX7_in_14 ?_
      exact x_iret C D nar_b dX7_in_15 (e0_bI (by omega)) rfl rfl rfl
    · refine x_const C dX7_in_10 ?_
      refine x_goto 15 C dX7_in_11 (by decide) ?_
      exact x_iret C D nar_b dX7_in_15 (e1_bI (by omega)) rfl rfl rfl
set_option maxRecDepth 100000 in
set_option maxHeartbeats 4000000 in
theorem m_X7_of {hs : Nat → HV} {tp md : HV} {E : HE} (hE : HI E) {r : Int → Int} {b w v : Int} (b0 : 0 ≤ b) (b1 : b < 80) (w0 : 0 ≤ w) (w1 : w < 7) (hv : r (51 + 7 * b + w) = v) : Mt yX7_of cX7_of 3 (some .int) 1 E [.ref (mA E 0), vI b, vI w] hs tp (upr md 1 r) (some (vI v)) hs tp (upr md 1 r) := by
  refine mk_Mt hE (plainFor_of_name (by decide)) (Nat.le_of_ble_eq_true rfl) (by intro w0 hw0; simp only [List.mem_cons, List.not_mem_nil, or_false] at hw0; rcases hw0 with rfl | rfl | rfl <;> rfl) (rfl : _ = [_, _, _]) ?_
  intro F C D
  refine x_aload_n C dX7_of_0 rfl ?_
  refine gm_0_0 C q_751 dX7_of_1 ?_
  refine x_bipush C dX7_of_4 (by decide) ?_
  refine x_bipush C dX7_of_6 (by decide) ?_
  refine x_iload_n C dX7_of_8 rfl ?_
  refine x_imul C dX7_of_9 ?_
  refine x_iadd C dX7_of_10 ?_
  refine x_iload_n C dX7_of_11 rfl ?_
  refine x_iadd C dX7_of_12 ?_
  refine lm_1 C (by omega) (by omega) dX7_of_13 (show _ = r ((51 + (7 * b)) + w) from rfl) ?_
  exact x_iret C D rfl dX7_of_14 hv rfl rfl rfl
set_option maxRecDepth 100000 in
set_option maxHeartbeats 4000000 in
theorem m_X7_put {hs : Nat → HV} {tp md : HV} {E : HE} (hE : HI E) {r : Int → Int} {b w v : Int} (b0 : 0 ≤ b) (b1 : b < 80) (w0 : 0 ≤ w) (w1 : w < 7) : Mt yX7_put cX7_put 4 none 1 E [.ref (mA E 0), vI b, vI w, vI v] hs tp (upr md 1 r) none hs tp (upr md 1 (up1 r (51 + 7 * b + w) v)) := by
  refine mk_Mt hE (plainFor_of_name (by decide)) (Nat.le_of_ble_eq_true rfl) (by intro w0 hw0; simp only [List.mem_cons, List.not_mem_nil, or_false] at hw0; rcases hw0 with rfl | rfl | rfl | rfl <;> rfl) (rfl : _ = [_, _, _, _]) ?_
  intro F C D
  refine x_aload_n C dX7_put_0 rfl ?_
  refine gm_0_0 C q_751 dX7_put_1 ?_
  refine x_bipush C dX7_put_4 (by decide) ?_
  refine x_bipush C dX7_put_6 (by decide) ?_
  refine x_iload_n C dX7_put_8 rfl ?_
  refine x_imul C dX7_put_9 ?_
  refine x_iadd C dX7_put_10 ?_
  refine x_iload_n C dX7_put_11 rfl ?_
  refine x_iadd C dX7_put_12 ?_
  refine x_iload_n C dX7_put_13 rfl ?_
  refine sm_1 C (by omega) (by omega) dX7_put_14 upr_w ?_
  exact x_vret C D dX7_put_15 rfl rfl rfl
set_option maxRecDepth 100000 in
set_option maxHeartbeats 4000000 in
theorem m_X7_is {hs : Nat → HV} {tp md : HV} {E : HE} (hE : HI E) {r : Int → Int} {K : Int} (R : MR K r) {b : Int} (b0 : 0 ≤ b) (b1 : b < 80) {w : Int} (w0 : IR w) : Mt yX7_is cX7_is 3 (some .boolean) 2 E [.ref (mA E 0), vI b, vI w] hs tp (upr md 1 r) (some (vI (bI (r (51 + 7 * b + 0) = w)))) hs tp (upr md 1 r) := by
  refine mk_Mt hE (plainFor_of_name (by decide)) (Nat.le_of_ble_eq_true rfl) (by intro w0 hw0; simp only [List.mem_cons, List.not_mem_nil, or_false] at hw0; rcases hw0 with rfl | rfl | rfl <;> rfl) (rfl : _ = [_, _, _]) ?_
  intro F C D
  refine x_aload_n C dX7_is_0 rfl ?_
  refine x_iload_n C dX7_is_1 rfl ?_
  refine x_const C dX7_is_2 ?_
  refine x_callV (nA := 2) (As := [vI b, vI 0]) (rest := []) C (m_X7_of hE (r := r) (b := b) (w := 0) (by omega) (by omega) (by omega) (by omega) (show _ = r (51 + 7 * b + 0) from rfl)) q_799 q_801 q_23 q_64 q_802 (by decide +kernel) (wl_m 0 (by decide)) rfl rfl (by decide) (by decide) (Nat.le_of_ble_eq_true rfl) dX7_is_3 rfl ?_
  have r_1 := MR.st R (b := b) (by omega) (by omega)
  refine x_iload_n C dX7_is_6 rfl ?_
  refine x_icmp_ne 14 C dX7_is_7 (by decide) ⟨by omega, by omega⟩ ⟨by omega, by omega⟩ (fun c_2 => ?_) (fun c_2 => ?_)
  · refine x_const C dX7_is_14 ?_
    exact x_iret C D nar_b dX7_is_15 (e0_bI (by omega)) rfl rfl rfl
  · refine x_const C dX7_is_10 ?_
    refine x_goto 15 C dX7_is_11 (by decide) ?_
    exact x_iret C D nar_b dX7_is_15 (e1_bI (by omega)) rfl rfl rfl
set_option maxRecDepth 100000 in
set_option maxHeartbeats 4000000 in
theorem m_X7_end {hs : Nat → HV} {tp md : HV} {E : HE} (hE : HI E) {r : Int → Int} {b : Int} (b0 : 0 ≤ b) (b1 : b < 80) {v : Int} (hv : r (51 + 7 * b + 1) + r (51 + 7 * b + 2) = v) : Mt yX7_end cX7_end 2 (some .int) 2 E [.ref (mA E 0), vI b] hs tp (upr md 1 r) (some (vI v)) hs tp (upr md 1 r) := by
  refine mk_Mt hE (plainFor_of_name (by decide)) (Nat.le_of_ble_eq_true rfl) (by intro w0 hw0; simp only [List.mem_cons, List.not_mem_nil, or_false] at hw0; rcases hw0 with rfl | rfl <;> rfl) (rfl : _ = [_, _]) ?_
  intro F C D
  refine x_aload_n C dX7_end_0 rfl ?_
  refine x_iload_n C dX7_end_1 rfl ?_
  refine x_const C dX7_end_2 ?_
  refine x_callV (nA := 2) (As := [vI b, vI 1]) (rest := []) C (m_X7_of hE (r := r) (b := b) (w := 1) (by omega) (by omega) (by omega) (by omega) (show _ = r (51 + 7 * b + 1) from rfl)) q_799 q_801 q_23 q_64 q_802 (by decide +kernel) (wl_m 0 (by decide)) rfl rfl (by decide) (by decide) (Nat.le_of_ble_eq_true rfl) dX7_end_3 rfl ?_
  refine x_aload_n C dX7_end_6 rfl ?_
  refine x_iload_n C dX7_end_7 rfl ?_
  refine x_const C dX7_end_8 ?_
  refine x_callV (nA := 2) (As := [vI b, vI 2]) (rest := [vI (r (51 + 7 * b + 1))]) C (m_X7_of hE (r := r) (b := b) (w := 2) (by omega) (by omega) (by omega) (by omega) (show _ = r (51 + 7 * b + 2) from rfl)) q_799 q_801 q_23 q_64 q_802 (by decide +kernel) (wl_m 0 (by decide)) rfl rfl (by decide) (by decide) (Nat.le_of_ble_eq_true rfl) dX7_end_9 rfl ?_
  refine x_iadd C dX7_end_12 ?_
  exact x_iret C D rfl dX7_end_13 hv rfl rfl rfl
set_option maxRecDepth 100000 in
set_option maxHeartbeats 4000000 in
theorem m_X7_isBooking {hs : Nat → HV} {tp md : HV} {E : HE} (hE : HI E) {r : Int → Int} {K : Int} (R : MR K r) {b : Int} (b0 : IR b) : Mt yX7_isBooking cX7_isBooking 2 (some .boolean) 2 E [.ref (mA E 0), vI b] hs tp (upr md 1 r) (some (vI (bI (0 ≤ b ∧ b ≤ r 1 - 1)))) hs tp (upr md 1 r) := by
  refine mk_Mt hE (plainFor_of_name (by decide)) (Nat.le_of_ble_eq_true rfl) (by intro w0 hw0; simp only [List.mem_cons, List.not_mem_nil, or_false] at hw0; rcases hw0 with rfl | rfl <;> rfl) (rfl : _ = [_, _]) ?_
  intro F C D
  refine x_iload_n C dX7_isBooking_0 rfl ?_
  refine x_const C dX7_isBooking_1 ?_
  refine x_aload_n C dX7_isBooking_2 rfl ?_
  refine gm_0_0 C q_751 dX7_isBooking_3 ?_
  refine x_const C dX7_isBooking_6 ?_
  refine lm_1 C (by omega) (by omega) dX7_isBooking_7 (show _ = r 1 from rfl) ?_
  have r_1 := MR.came R
  refine x_const C dX7_isBooking_8 ?_
  refine x_isub C dX7_isBooking_9 ?_
  refine x_callS (nA := 3) (As := [vI b, vI 0, vI ((r 1) - 1)]) (rest := []) C (m_X7_in hE (v := b) (l := 0) (m := (r 1) - 1) ⟨by omega, by omega⟩ ⟨by omega, by omega⟩ ⟨by omega, by omega⟩) q_787 q_788 q_64 q_789 (by decide +kernel) rfl (by decide) (by decide) (Nat.le_of_ble_eq_true rfl) dX7_isBooking_10 rfl ?_
  exact x_iret C D nar_b dX7_isBooking_13 rfl rfl rfl rfl
set_option maxRecDepth 100000 in
set_option maxHeartbeats 4000000 in
theorem m_X7_weatherOf {hs : Nat → HV} {tp md : HV} {E : HE} (hE : HI E) {r : Int → Int} {d : Int} (d0 : 0 ≤ d) (d1 : d < 1064) : Mt yX7_weatherOf cX7_weatherOf 2 (some .int) 1 E [.ref (mA E 0), vI d] hs tp (upr md 1 r) (some (vI (r (611 + d)))) hs tp (upr md 1 r) := by
  refine mk_Mt hE (plainFor_of_name (by decide)) (Nat.le_of_ble_eq_true rfl) (by intro w0 hw0; simp only [List.mem_cons, List.not_mem_nil, or_false] at hw0; rcases hw0 with rfl | rfl <;> rfl) (rfl : _ = [_, _]) ?_
  intro F C D
  refine x_aload_n C dX7_weatherOf_0 rfl ?_
  refine gm_0_0 C q_751 dX7_weatherOf_1 ?_
  refine x_sipush C dX7_weatherOf_4 (by decide) ?_
  refine x_iload_n C dX7_weatherOf_7 rfl ?_
  refine x_iadd C dX7_weatherOf_8 ?_
  refine lm_1 C (by omega) (by omega) dX7_weatherOf_9 (show _ = r (611 + d) from rfl) ?_
  exact x_iret C D rfl dX7_weatherOf_10 rfl rfl rfl rfl
set_option maxRecDepth 100000 in
set_option maxHeartbeats 4000000 in
theorem m_X7_isUpOpen {hs : Nat → HV} {tp md : HV} {E : HE} (hE : HI E) {r : Int → Int} {K : Int} (R : MR K r) {d : Int} (d0 : 0 ≤ d) (d1 : d < 1064) : Mt yX7_isUpOpen cX7_isUpOpen 2 (some .boolean) 2 E [.ref (mA E 0), vI d] hs tp (upr md 1 r) (some (vI (bI (r (611 + d) % 2 = 0)))) hs tp (upr md 1 r) := by
  refine mk_Mt hE (plainFor_of_name (by decide)) (Nat.le_of_ble_eq_true rfl) (by intro w0 hw0; simp only [List.mem_cons, List.not_mem_nil, or_false] at hw0; rcases hw0 with rfl | rfl <;> rfl) (rfl : _ = [_, _]) ?_
  intro F C D
  refine x_aload_n C dX7_isUpOpen_0 rfl ?_
  refine x_iload_n C dX7_isUpOpen_1 rfl ?_
  refine x_callV (nA := 1) (As := [vI d]) (rest := []) C (m_X7_weatherOf hE (r := r) (d := d) (by omega) (by omega)) q_867 q_869 q_37 q_64 q_870 (by decide +kernel) (wl_m 0 (by decide)) rfl rfl (by decide) (by decide) (Nat.le_of_ble_eq_true rfl) dX7_isUpOpen_2 rfl ?_
  have r_1 := MR.wea R (d := d) (by omega) (by omega)
  refine x_const C dX7_isUpOpen_5 ?_
  refine x_irem C dX7_isUpOpen_6 ⟨(by omega), (by omega)⟩ ⟨by omega, by omega⟩ (by omega) (by omega) ?_
  refine x_if_ne 14 C dX7_isUpOpen_7 (by decide) ⟨by omega, by omega⟩ (fun c_2 => ?_) (fun c_2 => ?_)
  · refine x_const C dX7_isUpOpen_14 ?_
    exact x_iret C D nar_b dX7_isUpOpen_15 (e0_bI (by omega)) rfl rfl rfl
  · refine x_const C dX7_isUpOpen_10 ?_
    refine x_goto 15 C dX7_isUpOpen_11 (by decide) ?_
    exact x_iret C D nar_b dX7_isUpOpen_15 (e1_bI (by omega)) rfl rfl rfl
set_option maxRecDepth 100000 in
set_option maxHeartbeats 4000000 in
theorem m_X7_isDownOpen {hs : Nat → HV} {tp md : HV} {E : HE} (hE : HI E) {r : Int → Int} {K : Int} (R : MR K r) {d : Int} (d0 : 0 ≤ d) (d1 : d < 1064) : Mt yX7_isDownOpen cX7_isDownOpen 2 (some .boolean) 2 E [.ref (mA E 0), vI d] hs tp (upr md 1 r) (some (vI (bI (r (611 + d) / 2 % 2 = 0)))) hs tp (upr md 1 r) := by
  refine mk_Mt hE (plainFor_of_name (by decide)) (Nat.le_of_ble_eq_true rfl) (by intro w0 hw0; simp only [List.mem_cons, List.not_mem_nil, or_false] at hw0; rcases hw0 with rfl | rfl <;> rfl) (rfl : _ = [_, _]) ?_
  intro F C D
  refine x_aload_n C dX7_isDownOpen_0 rfl ?_
  refine x_iload_n C dX7_isDownOpen_1 rfl ?_
  refine x_callV (nA := 1) (As := [vI d]) (rest := []) C (m_X7_weatherOf hE (r := r) (d := d) (by omega) (by omega)) q_867 q_869 q_37 q_64 q_870 (by decide +kernel) (wl_m 0 (by decide)) rfl rfl (by decide) (by decide) (Nat.le_of_ble_eq_true rfl) dX7_isDownOpen_2 rfl ?_
  have r_1 := MR.wea R (d := d) (by omega) (by omega)
  refine x_const C dX7_isDownOpen_5 ?_
  refine x_idiv C dX7_isDownOpen_6 ⟨(by omega), (by omega)⟩ ⟨by omega, by omega⟩ (by omega) (by omega) ?_
  refine x_const C dX7_isDownOpen_7 ?_
  refine x_irem C dX7_isDownOpen_8 ⟨(by omega), (by omega)⟩ ⟨by omega, by omega⟩ (by omega) (by omega) ?_
  refine x_if_ne 16 C dX7_isDownOpen_9 (by decide) ⟨by omega, by omega⟩ (fun c_2 => ?_) (fun c_2 => ?_)
  · refine x_const C dX7_isDownOpen_16 ?_
    exact x_iret C D nar_b dX7_isDownOpen_17 (e0_bI (by omega)) rfl rfl rfl
  · refine x_const C dX7_isDownOpen_12 ?_
    refine x_goto 17 C dX7_isDownOpen_13 (by decide) ?_
    exact x_iret C D nar_b dX7_isDownOpen_17 (e1_bI (by omega)) rfl rfl rfl
set_option maxRecDepth 100000 in
set_option maxHeartbeats 4000000 in
theorem m_X7_isWindy {hs : Nat → HV} {tp md : HV} {E : HE} (hE : HI E) {r : Int → Int} {K : Int} (R : MR K r) {d : Int} (d0 : 0 ≤ d) (d1 : d < 1064) : Mt yX7_isWindy cX7_isWindy 2 (some .boolean) 2 E [.ref (mA E 0), vI d] hs tp (upr md 1 r) (some (vI (bI (4 ≤ r (611 + d))))) hs tp (upr md 1 r) := by
  refine mk_Mt hE (plainFor_of_name (by decide)) (Nat.le_of_ble_eq_true rfl) (by intro w0 hw0; simp only [List.mem_cons, List.not_mem_nil, or_false] at hw0; rcases hw0 with rfl | rfl <;> rfl) (rfl : _ = [_, _]) ?_
  intro F C D
  refine x_aload_n C dX7_isWindy_0 rfl ?_
  refine x_iload_n C dX7_isWindy_1 rfl ?_
  refine x_callV (nA := 1) (As := [vI d]) (rest := []) C (m_X7_weatherOf hE (r := r) (d := d) (by omega) (by omega)) q_867 q_869 q_37 q_64 q_870 (by decide +kernel) (wl_m 0 (by decide)) rfl rfl (by decide) (by decide) (Nat.le_of_ble_eq_true rfl) dX7_isWindy_2 rfl ?_
  have r_1 := MR.wea R (d := d) (by omega) (by omega)
  refine x_const C dX7_isWindy_5 ?_
  refine x_icmp_lt 13 C dX7_isWindy_6 (by decide) ⟨by omega, by omega⟩ ⟨by omega, by omega⟩ (fun c_2 => ?_) (fun c_2 => ?_)
  · refine x_const C dX7_isWindy_13 ?_
    exact x_iret C D nar_b dX7_isWindy_14 (e0_bI (by omega)) rfl rfl rfl
  · refine x_const C dX7_isWindy_9 ?_
    refine x_goto 14 C dX7_isWindy_10 (by decide) ?_
    exact x_iret C D nar_b dX7_isWindy_14 (e1_bI (by omega)) rfl rfl rfl
set_option maxRecDepth 100000 in
set_option maxHeartbeats 4000000 in
theorem m_X7_inState {hs : Nat → HV} {tp md : HV} {E : HE} (hE : HI E) {r : Int → Int} {K : Int} (R : MR K r) {w : Int} (w0 : IR w) : Mt yX7_inState cX7_inState 4 (some .int) 3 E [.ref (mA E 0), vI w] hs tp (upr md 1 r) (some (vI (sumI (mMany r w) (r 1)))) hs tp (upr md 1 r) := by
  refine mk_Mt hE (plainFor_of_name (by decide)) (Nat.le_of_ble_eq_true rfl) (by intro w0 hw0; simp only [List.mem_cons, List.not_mem_nil, or_false] at hw0; rcases hw0 with rfl | rfl <;> rfl) (rfl : _ = [_, _, _, _]) ?_
  intro F C D
  have rm := MR.came R
  refine x_const C dX7_inState_0 ?_
  refine x_istore_n C dX7_inState_1 (by decide) (rfl : _ = [_, _, _, _]) ?_
  refine x_const C dX7_inState_2 ?_
  refine x_istore_n C dX7_inState_3 (by decide) (rfl : _ = [_, _, _, _]) ?_
  have K4 : ∀ (nn : Nat) (i : Int), 0 ≤ i → i ≤ r 1 → r 1 - i < nn →  G F E hs tp (upr md 1 r) 4 [some (.ref (mA E 0)), some (vI w), some (vI (sumI (mMany r w) i)), some (vI i)] [] := by
    intro nn
    induction nn with
    | zero => intro i i0 i1 hz; exact absurd hz (by omega)
    | succ nn ih =>
      intro i i0 i1 hz
      refine x_iload_n C dX7_inState_4 rfl ?_
      refine x_aload_n C dX7_inState_5 rfl ?_
      refine gm_0_0 C q_751 dX7_inState_6 ?_
      refine x_const C dX7_inState_9 ?_
      refine lm_1 C (by omega) (by omega) dX7_inState_10 (show _ = r 1 from rfl) ?_
      have r_1 := MR.came R
      refine x_icmp_ge 37 C dX7_inState_11 (by decide) ⟨by omega, by omega⟩ ⟨by omega, by omega⟩ (fun c_2 => ?_) (fun c_2 => ?_)
      · refine x_iload_n C dX7_inState_37 rfl ?_
        exact x_iret C D rfl dX7_inState_38 (by rw [show i = r 1 by omega]) rfl rfl rfl
      · refine x_iload_n C dX7_inState_14 rfl ?_
        refine x_aload_n C dX7_inState_15 rfl ?_
        refine x_iload_n C dX7_inState_16 rfl ?_
        refine x_iload_n C dX7_inState_17 rfl ?_
        refine x_callV (nA := 2) (As := [vI i, vI w]) (rest := [vI (sumI (mMany r w) i)]) C (m_X7_is hE (r := r) R (b := i) (w := w) (by omega) (by omega) ⟨by omega, by omega⟩) q_855 q_857 q_34 q_64 q_858 (by decide +kernel) (wl_m 0 (by decide)) rfl rfl (by decide) (by decide) (Nat.le_of_ble_eq_true rfl) dX7_inState_18 rfl ?_
        refine x_bz_eq 28 C dX7_inState_21 (by decide) (fun c_3 => ?_) (fun c_3 => ?_)
        · refine x_const C dX7_inState_28 ?_
          refine x_iadd C dX7_inState_29 ?_
          refine x_istore_n C dX7_inState_30 (by decide) (rfl : _ = [_, _, _, _]) ?_
          refine x_iinc C dX7_inState_31 rfl (by decide) (rfl : _ = [_, _, _, _]) ?_
          refine x_goto 4 C dX7_inState_34 (by decide) ?_
          have e9 : mMany r w i = 0 := if_neg (by first | assumption | omega)
          refine G.wk (ih (i + 1) (by omega) (by omega) (by omega)) ?_
          simp only [leL, sumI_s i0, e9, and_self, and_true, true_and]; try trivial
        · refine x_const C dX7_inState_24 ?_
          refine x_goto 29 C dX7_inState_25 (by decide) ?_
          refine x_iadd C dX7_inState_29 ?_
          refine x_istore_n C dX7_inState_30 (by decide) (rfl : _ = [_, _, _, _]) ?_
          refine x_iinc C dX7_inState_31 rfl (by decide) (rfl : _ = [_, _, _, _]) ?_
          refine x_goto 4 C dX7_inState_34 (by decide) ?_
          have e9 : mMany r w i = 1 := if_pos (by first | assumption | omega)
          refine G.wk (ih (i + 1) (by omega) (by omega) (by omega)) ?_
          simp only [leL, sumI_s i0, e9, and_self, and_true, true_and]; try trivial
  exact K4 ((r 1 : Int) + 1).toNat 0 (by omega) (by omega) (by omega)
set_option maxRecDepth 100000 in
set_option maxHeartbeats 4000000 in
theorem m_X7_personsThere {hs : Nat → HV} {tp md : HV} {E : HE} (hE : HI E) {r : Int → Int} {K : Int} (R : MR K r) : Mt yX7_personsThere cX7_personsThere 3 (some .int) 3 E [.ref (mA E 0)] hs tp (upr md 1 r) (some (vI (nPer r))) hs tp (upr md 1 r) := by
  refine mk_Mt hE (plainFor_of_name (by decide)) (Nat.le_of_ble_eq_true rfl) (by intro w0 hw0; simp only [List.mem_cons, List.not_mem_nil, or_false] at hw0; rcases hw0 with rfl <;> rfl) (rfl : _ = [_, _, _]) ?_
  intro F C D
  have rm := MR.came R
  refine x_const C dX7_personsThere_0 ?_
  refine x_istore_n C dX7_personsThere_1 (by decide) (rfl : _ = [_, _, _]) ?_
  refine x_const C dX7_personsThere_2 ?_
  refine x_istore_n C dX7_personsThere_3 (by decide) (rfl : _ = [_, _, _]) ?_
  have K4 : ∀ (nn : Nat) (i : Int), 0 ≤ i → i ≤ r 1 → r 1 - i < nn →  G F E hs tp (upr md 1 r) 4 [some (.ref (mA E 0)), some (vI (sumI (mThere r) i)), some (vI i)] [] := by
    intro nn
    induction nn with
    | zero => intro i i0 i1 hz; exact absurd hz (by omega)
    | succ nn ih =>
      intro i i0 i1 hz
      refine x_iload_n C dX7_personsThere_4 rfl ?_
      refine x_aload_n C dX7_personsThere_5 rfl ?_
      refine gm_0_0 C q_751 dX7_personsThere_6 ?_
      refine x_const C dX7_personsThere_9 ?_
      refine lm_1 C (by omega) (by omega) dX7_personsThere_10 (show _ = r 1 from rfl) ?_
      have r_1 := MR.came R
      refine x_icmp_ge 42 C dX7_personsThere_11 (by decide) ⟨by omega, by omega⟩ ⟨by omega, by omega⟩ (fun c_2 => ?_) (fun c_2 => ?_)
      · refine x_iload_n C dX7_personsThere_42 rfl ?_
        exact x_iret C D rfl dX7_personsThere_43 (by rw [show i = r 1 by omega]; unfold nPer; rfl) rfl rfl rfl
      · refine x_iload_n C dX7_personsThere_14 rfl ?_
        refine x_aload_n C dX7_personsThere_15 rfl ?_
        refine x_iload_n C dX7_personsThere_16 rfl ?_
        refine x_const C dX7_personsThere_17 ?_
        refine x_callV (nA := 2) (As := [vI i, vI 1]) (rest := [vI (sumI (mThere r) i)]) C (m_X7_is hE (r := r) R (b := i) (w := 1) (by omega) (by omega) ⟨by omega, by omega⟩) q_855 q_857 q_34 q_64 q_858 (by decide +kernel) (wl_m 0 (by decide)) rfl rfl (by decide) (by decide) (Nat.le_of_ble_eq_true rfl) dX7_personsThere_18 rfl ?_
        refine x_bz_eq 33 C dX7_personsThere_21 (by decide) (fun c_3 => ?_) (fun c_3 => ?_)
        · refine x_const C dX7_personsThere_33 ?_
          refine x_iadd C dX7_personsThere_34 ?_
          refine x_istore_n C dX7_personsThere_35 (by decide) (rfl : _ = [_, _, _]) ?_
          refine x_iinc C dX7_personsThere_36 rfl (by decide) (rfl : _ = [_, _, _]) ?_
          refine x_goto 4 C dX7_personsThere_39 (by decide) ?_
          have e9 : mThere r i = 0 := if_neg (by first | assumption | omega)
          refine G.wk (ih (i + 1) (by omega) (by omega) (by omega)) ?_
          simp only [leL, sumI_s i0, e9, and_self, and_true, true_and]; try trivial
        · refine x_aload_n C dX7_personsThere_24 rfl ?_
          refine x_iload_n C dX7_personsThere_25 rfl ?_
          refine x_const C dX7_personsThere_26 ?_
          refine x_callV (nA := 2) (As := [vI i, vI 3]) (rest := [vI (sumI (mThere r) i)]) C (m_X7_of hE (r := r) (b := i) (w := 3) (by omega) (by omega) (by omega) (by omega) (show _ = r (51 + 7 * i + 3) from rfl)) q_799 q_801 q_23 q_64 q_802 (by decide +kernel) (wl_m 0 (by decide)) rfl rfl (by decide) (by decide) (Nat.le_of_ble_eq_true rfl) dX7_personsThere_27 rfl ?_
          have r_4 := MR.per R (b := i) (by omega) (by omega)
          refine x_goto 34 C dX7_personsThere_30 (by decide) ?_
          refine x_iadd C dX7_personsThere_34 ?_
          refine x_istore_n C dX7_personsThere_35 (by decide) (rfl : _ = [_, _, _]) ?_
          refine x_iinc C dX7_personsThere_36 rfl (by decide) (rfl : _ = [_, _, _]) ?_
          refine x_goto 4 C dX7_personsThere_39 (by decide) ?_
          have e9 : mThere r i = (r (51 + 7 * i + 3)) := if_pos (by first | assumption | omega)
          refine G.wk (ih (i + 1) (by omega) (by omega) (by omega)) ?_
          simp only [leL, sumI_s i0, e9, and_self, and_true, true_and]; try trivial
  exact K4 ((r 1 : Int) + 1).toNat 0 (by omega) (by omega) (by omega)
set_option maxRecDepth 100000 in
set_option maxHeartbeats 4000000 in
theorem m_X7_taken {hs : Nat → HV} {tp md : HV} {E : HE} (hE : HI E) {r : Int → Int} {K : Int} (R : MR K r) {n : Int} (n0 : IR n) : Mt yX7_taken cX7_taken 5 (some .int) 3 E [.ref (mA E 0), vI n] hs tp (upr md 1 r) (some (vI (mTk r n))) hs tp (upr md 1 r) := by
  refine mk_Mt hE (plainFor_of_name (by decide)) (Nat.le_of_ble_eq_true rfl) (by intro w0 hw0; simp only [List.mem_cons, List.not_mem_nil, or_false] at hw0; rcases hw0 with rfl | rfl <;> rfl) (rfl : _ = [_, _, _, _, _]) ?_
  intro F C D
  have rm := MR.came R
  refine x_const C dX7_taken_0 ?_
  refine x_istore_n C dX7_taken_1 (by decide) (rfl : _ = [_, _, _, _, _]) ?_
  refine x_const C dX7_taken_2 ?_
  refine x_istore_n C dX7_taken_3 (by decide) (rfl : _ = [_, _, _, _, _]) ?_
  have K4 : ∀ (nn : Nat) (i : Int), 0 ≤ i → i ≤ r 1 → r 1 - i < nn →  G F E hs tp (upr md 1 r) 4 [some (.ref (mA E 0)), some (vI n), some (vI (sumI (mBed r n) i)), some (vI i), none] [] := by
    intro nn
    induction nn with
    | zero => intro i i0 i1 hz; exact absurd hz (by omega)
    | succ nn ih =>
      intro i i0 i1 hz
      refine x_iload_n C dX7_taken_4 rfl ?_
      refine x_aload_n C dX7_taken_5 rfl ?_
      refine gm_0_0 C q_751 dX7_taken_6 ?_
      refine x_const C dX7_taken_9 ?_
      refine lm_1 C (by omega) (by omega) dX7_taken_10 (show _ = r 1 from rfl) ?_
      have r_1 := MR.came R
      refine x_icmp_ge 75 C dX7_taken_11 (by decide) ⟨by omega, by omega⟩ ⟨by omega, by omega⟩ (fun c_2 => ?_) (fun c_2 => ?_)
      · refine x_iload_n C dX7_taken_75 rfl ?_
        exact x_iret C D rfl dX7_taken_76 (by rw [show i = r 1 by omega]; unfold mTk; rfl) rfl rfl rfl
      · refine x_aload_n C dX7_taken_14 rfl ?_
        refine x_iload_n C dX7_taken_15 rfl ?_
        refine x_const C dX7_taken_16 ?_
        refine x_callV (nA := 2) (As := [vI i, vI 0]) (rest := []) C (m_X7_of hE (r := r) (b := i) (w := 0) (by omega) (by omega) (by omega) (by omega) (show _ = r (51 + 7 * i + 0) from rfl)) q_799 q_801 q_23 q_64 q_802 (by decide +kernel) (wl_m 0 (by decide)) rfl rfl (by decide) (by decide) (Nat.le_of_ble_eq_true rfl) dX7_taken_17 rfl ?_
        have r_3 := MR.st R (b := i) (by omega) (by omega)
        refine x_const C dX7_taken_20 ?_
        refine x_icmp_gt 48 C dX7_taken_21 (by decide) ⟨by omega, by omega⟩ ⟨by omega, by omega⟩ (fun c_4 => ?_) (fun c_4 => ?_)
        · refine x_const C dX7_taken_48 ?_
          refine x_istore C dX7_taken_49 (by decide) (rfl : _ = [_, _, _, _, _]) ?_
          refine x_iload_n C dX7_taken_51 rfl ?_
          refine x_iload C dX7_taken_52 rfl ?_
          refine x_if_eq 66 C dX7_taken_54 (by decide) ⟨by decide, by decide⟩ (fun _ => ?_) (fun c_5 => absurd c_5 (by decide))
          refine x_const C dX7_taken_66 ?_
          refine x_iadd C dX7_taken_67 ?_
          refine x_istore_n C dX7_taken_68 (by decide) (rfl : _ = [_, _, _, _, _]) ?_
          refine x_iinc C dX7_taken_69 rfl (by decide) (rfl : _ = [_, _, _, _, _]) ?_
          refine x_goto 4 C dX7_taken_72 (by decide) ?_
          have e9 : mBed r n i = 0 := if_neg (by omega)
          refine G.wk (ih (i + 1) (by omega) (by omega) (by omega)) ?_
          simp only [leL, sumI_s i0, e9, and_self, and_true, true_and]; try trivial
        · refine x_iload_n C dX7_taken_24 rfl ?_
          refine x_aload_n C dX7_taken_25 rfl ?_
          refine x_iload_n C dX7_taken_26 rfl ?_
          refine x_const C dX7_taken_27 ?_
          refine x_callV (nA := 2) (As := [vI i, vI 1]) (rest := [vI n]) C (m_X7_of hE (r := r) (b := i) (w := 1) (by omega) (by omega) (by omega) (by omega) (show _ = r (51 + 7 * i + 1) from rfl)) q_799 q_801 q_23 q_64 q_802 (by decide +kernel) (wl_m 0 (by decide)) rfl rfl (by decide) (by decide) (Nat.le_of_ble_eq_true rfl) dX7_taken_28 rfl ?_
          have r_6 := MR.arr R (b := i) (by omega) (by omega)
          refine x_aload_n C dX7_taken_31 rfl ?_
          refine x_iload_n C dX7_taken_32 rfl ?_
          refine x_callV (nA := 1) (As := [vI i]) (rest := [vI (r (51 + 7 * i + 1)), vI n]) C (m_X7_end hE (r := r) (b := i) (by omega) (by omega) rfl) q_803 q_805 q_24 q_64 q_806 (by decide +kernel) (wl_m 0 (by decide)) rfl rfl (by decide) (by decide) (Nat.le_of_ble_eq_true rfl) dX7_taken_33 rfl ?_
          have r_7 := MR.arr R (b := i) (by omega) (by omega)
          have r_8 := MR.nig R (b := i) (by omega) (by omega)
          have ra := MR.arr R i0 (by omega)
          have rn := MR.nig R i0 (by omega)
          refine x_const C dX7_taken_36 ?_
          refine x_isub C dX7_taken_37 ?_
          refine x_callS (nA := 3) (As := [vI n, vI (r (51 + 7 * i + 1)), vI ((r (51 + 7 * i + 1) + r (51 + 7 * i + 2)) - 1)]) (rest := []) C (m_X7_in hE (v := n) (l := r (51 + 7 * i + 1)) (m := (r (51 + 7 * i + 1) + r (51 + 7 * i + 2)) - 1) ⟨by omega, by omega⟩ ⟨by omega, by omega⟩ ⟨by omega, by omega⟩) q_787 q_788 q_64 q_789 (by decide +kernel) rfl (by decide) (by decide) (Nat.le_of_ble_eq_true rfl) dX7_taken_38 rfl ?_
          refine x_bz_eq 48 C dX7_taken_41 (by decide) (fun c_9 => ?_) (fun c_9 => ?_)
          · refine x_const C dX7_taken_48 ?_
            refine x_istore C dX7_taken_49 (by decide) (rfl : _ = [_, _, _, _, _]) ?_
            refine x_iload_n C dX7_taken_51 rfl ?_
            refine x_iload C dX7_taken_52 rfl ?_
            refine x_if_eq 66 C dX7_taken_54 (by decide) ⟨by decide, by decide⟩ (fun _ => ?_) (fun c_10 => absurd c_10 (by decide))
            refine x_const C dX7_taken_66 ?_
            refine x_iadd C dX7_taken_67 ?_
            refine x_istore_n C dX7_taken_68 (by decide) (rfl : _ = [_, _, _, _, _]) ?_
            refine x_iinc C dX7_taken_69 rfl (by decide) (rfl : _ = [_, _, _, _, _]) ?_
            refine x_goto 4 C dX7_taken_72 (by decide) ?_
            have e9 : mBed r n i = 0 := if_neg (by omega)
            refine G.wk (ih (i + 1) (by omega) (by omega) (by omega)) ?_
            simp only [leL, sumI_s i0, e9, and_self, and_true, true_and]; try trivial
          · refine x_const C dX7_taken_44 ?_
            refine x_goto 49 C dX7_taken_45 (by decide) ?_
            refine x_istore C dX7_taken_49 (by decide) (rfl : _ = [_, _, _, _, _]) ?_
            refine x_iload_n C dX7_taken_51 rfl ?_
            refine x_iload C dX7_taken_52 rfl ?_
            refine x_if_eq 66 C dX7_taken_54 (by decide) ⟨by decide, by decide⟩ (fun c_11 => absurd c_11 (by decide)) (fun _ => ?_)
            refine x_aload_n C dX7_taken_57 rfl ?_
            refine x_iload_n C dX7_taken_58 rfl ?_
            refine x_const C dX7_taken_59 ?_
            refine x_callV (nA := 2) (As := [vI i, vI 3]) (rest := [vI (sumI (mBed r n) i)]) C (m_X7_of hE (r := r) (b := i) (w := 3) (by omega) (by omega) (by omega) (by omega) (show _ = r (51 + 7 * i + 3) from rfl)) q_799 q_801 q_23 q_64 q_802 (by decide +kernel) (wl_m 0 (by decide)) rfl rfl (by decide) (by decide) (Nat.le_of_ble_eq_true rfl) dX7_taken_60 rfl ?_
            have r_12 := MR.per R (b := i) (by omega) (by omega)
            refine x_goto 67 C dX7_taken_63 (by decide) ?_
            refine x_iadd C dX7_taken_67 ?_
            refine x_istore_n C dX7_taken_68 (by decide) (rfl : _ = [_, _, _, _, _]) ?_
            refine x_iinc C dX7_taken_69 rfl (by decide) (rfl : _ = [_, _, _, _, _]) ?_
            refine x_goto 4 C dX7_taken_72 (by decide) ?_
            have e9 : mBed r n i = r (51 + 7 * i + 3) := if_pos ⟨by omega, by omega, by omega⟩
            refine G.wk (ih (i + 1) (by omega) (by omega) (by omega)) ?_
            simp only [leL, sumI_s i0, e9, and_self, and_true, true_and]; try trivial
  exact K4 ((r 1 : Int) + 1).toNat 0 (by omega) (by omega) (by omega)
set_option maxRecDepth 100000 in
set_option maxHeartbeats 4000000 in
theorem m_X7_fits {hs : Nat → HV} {tp md : HV} {E : HE} (hE : HI E) {r : Int → Int} {K : Int} (R : MR K r) {x y p : Int} (x0 : 0 ≤ x ∧ x ≤ 2000) (y0 : x ≤ y ∧ y ≤ x + 9) (p0 : 0 ≤ p ∧ p ≤ 9) : Mt yX7_fits cX7_fits 5 (some .boolean) 4 E [.ref (mA E 0), vI x, vI y, vI p] hs tp (upr md 1 r) (some (vI (bI (mFits r x y p)))) hs tp (upr md 1 r) := by
  refine mk_Mt hE (plainFor_of_name (by decide)) (Nat.le_of_ble_eq_true rfl) (by intro w0 hw0; simp only [List.mem_cons, List.not_mem_nil, or_false] at hw0; rcases hw0 with rfl | rfl | rfl | rfl <;> rfl) (rfl : _ = [_, _, _, _, _]) ?_
  intro F C D
  have rz := MR.sets R
  refine x_iload_n C dX7_fits_0 rfl ?_
  refine x_istore C dX7_fits_1 (by decide) (rfl : _ = [_, _, _, _, _]) ?_
  have K3 : ∀ (nn : Nat) (i : Int), 0 ≤ i → x + i ≤ y → allI (fun i => decide (mTk r (x + i) + p ≤ r 17)) i = true → 20 - i < nn →  G F E hs tp (upr md 1 r) 3 [some (.ref (mA E 0)), some (vI x), some (vI y), some (vI p), some (vI (x + i))] [] := by
    intro nn
    induction nn with
    | zero => intro i i0 i1 hi hz; exact absurd hz (by omega)
    | succ nn ih =>
      intro i i0 i1 hi hz
      refine x_iload C dX7_fits_3 rfl ?_
      refine x_iload_n C dX7_fits_5 rfl ?_
      refine x_icmp_ge 35 C dX7_fits_6 (by decide) ⟨by omega, by omega⟩ ⟨by omega, by omega⟩ (fun c_1 => ?_) (fun c_1 => ?_)
      · refine x_const C dX7_fits_35 ?_
        exact x_iret C D nar_b dX7_fits_36 (e1_bI (by show allI _ (y - x) = true; rw [show y - x = i by omega]; exact hi)) rfl rfl rfl
      · refine x_aload_n C dX7_fits_9 rfl ?_
        refine x_iload C dX7_fits_10 rfl ?_
        refine x_callV (nA := 1) (As := [vI (x + i)]) (rest := []) C (m_X7_taken hE (r := r) R (n := (x + i)) ⟨by omega, by omega⟩) q_795 q_797 q_22 q_64 q_798 (by decide +kernel) (wl_m 0 (by decide)) rfl rfl (by decide) (by decide) (Nat.le_of_ble_eq_true rfl) dX7_fits_12 rfl ?_
        have r_2 := mTk_r R (n := (x + i))
        refine x_iload_n C dX7_fits_15 rfl ?_
        refine x_iadd C dX7_fits_16 ?_
        refine x_aload_n C dX7_fits_17 rfl ?_
        refine gm_0_0 C q_751 dX7_fits_18 ?_
        refine x_bipush C dX7_fits_21 (by decide) ?_
        refine lm_1 C (by omega) (by omega) dX7_fits_23 (show _ = r 17 from rfl) ?_
        have r_3 := (MR.sets R)
        refine x_icmp_le 29 C dX7_fits_24 (by decide) ⟨by omega, by omega⟩ ⟨by omega, by omega⟩ (fun c_4 => ?_) (fun c_4 => ?_)
        · refine x_iinc C dX7_fits_29 rfl (by decide) (rfl : _ = [_, _, _, _, _]) ?_
          refine x_goto 3 C dX7_fits_32 (by decide) ?_
          refine G.wk (ih (i + 1) (by omega) (by omega) (by rw [allI_s i0, hi]; simpa using c_4) (by omega)) ?_
          simp only [leL, and_self, and_true, true_and]; exact congrArg (fun z => some (vI z)) (by omega)
        · refine x_const C dX7_fits_27 ?_
          exact x_iret C D nar_b dX7_fits_28 (e0_bI (fun q => by have q2 := (allI_iff (show 0 ≤ y - x by omega)).mp q i i0 (by omega); simp at q2; omega)) rfl rfl rfl
  refine G.wk (K3 21 0 (by omega) (by omega) allI_0 (by omega)) ?_
  simp only [leL, Int.add_zero, and_self]
