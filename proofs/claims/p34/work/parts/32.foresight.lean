set_option maxRecDepth 100000 in
set_option maxHeartbeats 4000000 in
theorem m_X6_passInTrial {hs : Nat → HV} {tp md : HV} {E : HE} (hE : HI E) {K : Int} (R : RG K (hs 0)) {K1 : Int} (R1 : RG K1 (hs 1)) (hK : K ≤ 700000) (hd : hs 0 0 6 ≤ 999) {n : Int} (n0 : 1 ≤ n ∧ n ≤ 60) : Mt yX6_passInTrial cX6_passInTrial 3 none 7 E [.ref (tA E 0), vI n] hs tp md none (putH hs 1 (passI (trial hs) n)) tp md := by
  refine mk_Mt hE (plainFor_of_name (by decide)) (Nat.le_of_ble_eq_true rfl) (by intro w0 hw0; simp only [List.mem_cons, List.not_mem_nil, or_false] at hw0; rcases hw0 with rfl | rfl <;> rfl) (rfl : _ = [_, _, _]) ?_
  intro F C D
  have rcp : RG K (trial hs) := RG_cp R R1
  refine x_aload_n C dX6_passInTrial_0 rfl ?_
  refine gt_0_1 C q_233 dX6_passInTrial_1 ?_
  refine x_aload_n C dX6_passInTrial_4 rfl ?_
  refine gt_0_0 C q_232 dX6_passInTrial_5 ?_
  refine x_callV (nA := 1) (As := [.ref (hA E 0 0)]) (rest := []) C (m_X3_copyFrom hE (by decide) (by decide) (show 0 ≠ 1 by decide) (rfl : hs 1 = hs 1) (rfl : hs 0 = hs 0) R rfl) q_473 q_264 q_265 q_22 q_266 (by decide +kernel) (wl_h (by decide) (rfl : hs 1 = hs 1) 0 (by decide)) rfl rfl (by decide) (by decide) (Nat.le_of_ble_eq_true rfl) dX6_passInTrial_8 rfl ?_
  refine x_const C dX6_passInTrial_11 ?_
  refine x_istore_n C dX6_passInTrial_12 (by decide) (rfl : _ = [_, _, _]) ?_
  have K13 : ∀ (nn : Nat) (i : Int), 0 ≤ i → i ≤ n → 70 - i < nn →  G F E (putH hs 1 (passI (trial hs) i)) tp md 13 [some (.ref (tA E 0)), some (vI n), some (vI i)] [] := by
    intro nn
    induction nn with
    | zero => intro i i0 i1 hz; exact absurd hz (by omega)
    | succ nn ih =>
      intro i i0 i1 hz
      have rp := RG_passI rcp (n := i) i0 (by show hs 0 0 6 + i ≤ 1060; omega)
      refine x_iload_n C dX6_passInTrial_13 rfl ?_
      refine x_iload_n C dX6_passInTrial_14 rfl ?_
      refine x_icmp_ge 31 C dX6_passInTrial_15 (by decide) ⟨by omega, by omega⟩ ⟨by omega, by omega⟩ (fun c_1 => ?_) (fun c_1 => ?_)
      · exact x_vret C D dX6_passInTrial_31 (by rw [show i = n by omega]) rfl rfl
      · refine x_aload_n C dX6_passInTrial_18 rfl ?_
        refine gt_0_1 C q_233 dX6_passInTrial_19 ?_
        refine x_callV (nA := 0) (As := []) (rest := []) C (m_X3_passDay (h := (passI (trial hs) i)) hE (by decide) putH_same rp.1 (by omega) putH_put) q_474 q_475 q_476 q_22 q_477 (by decide +kernel) (wl_h (by decide) putH_same 0 (by decide)) rfl rfl (by decide) (by decide) (Nat.le_of_ble_eq_true rfl) dX6_passInTrial_22 rfl ?_
        refine x_iinc C dX6_passInTrial_25 rfl (by decide) (rfl : _ = [_, _, _]) ?_
        refine x_goto 13 C dX6_passInTrial_28 (by decide) ?_
        refine G.of (G.wk (ih (i + 1) (by omega) (by omega) (by omega)) ?_) ?_ rfl rfl rfl
        · simp only [leL, and_self]
        · rw [passI_s i0]
  exact K13 71 0 (by omega) (by omega) (by omega)
set_option maxRecDepth 100000 in
set_option maxHeartbeats 4000000 in
theorem m_X6_wanting {hs : Nat → HV} {tp md : HV} {E : HE} (hE : HI E) {K : Int} (R : RG K (hs 0)) {K1 : Int} (R1 : RG K1 (hs 1)) (hK : K ≤ 700000) (hd : hs 0 0 6 ≤ 999) {n : Int} (n0 : IR n) : Mt yX6_wanting cX6_wanting 2 (some .int) 8 E [.ref (tA E 0), vI n] hs tp md (some (vI ((xGrowOp hs tp 5 n).1))) ((xGrowOp hs tp 5 n).2.1) ((xGrowOp hs tp 5 n).2.2) md := by
  refine mk_Mt hE (plainFor_of_name (by decide)) (Nat.le_of_ble_eq_true rfl) (by intro w0 hw0; simp only [List.mem_cons, List.not_mem_nil, or_false] at hw0; rcases hw0 with rfl | rfl <;> rfl) (rfl : _ = [_, _]) ?_
  intro F C D
  refine x_iload_n C dX6_wanting_0 rfl ?_
  refine x_const C dX6_wanting_1 ?_
  refine x_icmp_lt 11 C dX6_wanting_2 (by decide) ⟨by omega, by omega⟩ ⟨by omega, by omega⟩ (fun c_1 => ?_) (fun c_1 => ?_)
  · refine x_ldc (n := (-1000002)) C q_305 dX6_wanting_11 rfl ?_
    exact x_iret C D rfl dX6_wanting_13 (by unfold xGrowOp; (repeat (first | rw [if_pos (by first | omega | assumption | exact not_not_intro (by assumption))] | rw [if_neg (by first | omega | assumption | exact not_not_intro (by assumption))])); all_goals rfl) (by unfold xGrowOp; (repeat (first | rw [if_pos (by first | omega | assumption | exact not_not_intro (by assumption))] | rw [if_neg (by first | omega | assumption | exact not_not_intro (by assumption))])); all_goals rfl) (by unfold xGrowOp; (repeat (first | rw [if_pos (by first | omega | assumption | exact not_not_intro (by assumption))] | rw [if_neg (by first | omega | assumption | exact not_not_intro (by assumption))])); all_goals rfl) rfl
  · refine x_iload_n C dX6_wanting_5 rfl ?_
    refine x_bipush C dX6_wanting_6 (by decide) ?_
    refine x_icmp_le 14 C dX6_wanting_8 (by decide) ⟨by omega, by omega⟩ ⟨by omega, by omega⟩ (fun c_2 => ?_) (fun c_2 => ?_)
    · refine x_aload_n C dX6_wanting_14 rfl ?_
      refine x_iload_n C dX6_wanting_15 rfl ?_
      refine x_callV (nA := 1) (As := [vI n]) (rest := []) C (m_X6_passInTrial hE R R1 hK hd (n := n) ⟨by omega, by omega⟩) q_564 q_566 q_12 q_21 q_567 (by decide +kernel) (wl_t 0 (by decide)) rfl rfl (by decide) (by decide) (Nat.le_of_ble_eq_true rfl) dX6_wanting_16 rfl ?_
      refine x_aload_n C dX6_wanting_19 rfl ?_
      refine gt_0_1 C q_233 dX6_wanting_20 ?_
      refine gh_0_5 C (by decide) putH_same q_141 dX6_wanting_23 ?_
      refine x_const C dX6_wanting_26 ?_
      refine lh_16 C (by decide) putH_same (by omega) (by omega) dX6_wanting_27 rfl ?_
      refine x_aload_n C dX6_wanting_28 rfl ?_
      refine gt_0_0 C q_232 dX6_wanting_29 ?_
      refine gh_0_5 C (by decide) ((putH_ne (by decide)).trans (rfl : hs 0 = hs 0)) q_141 dX6_wanting_32 ?_
      refine x_const C dX6_wanting_35 ?_
      refine lh_16 C (by decide) ((putH_ne (by decide)).trans (rfl : hs 0 = hs 0)) (by omega) (by omega) dX6_wanting_36 rfl ?_
      refine x_isub C dX6_wanting_37 ?_
      exact x_iret C D rfl dX6_wanting_38 (by unfold xGrowOp; (repeat (first | rw [if_pos (by first | omega | assumption | exact not_not_intro (by assumption))] | rw [if_neg (by first | omega | assumption | exact not_not_intro (by assumption))])); all_goals rfl) (by unfold xGrowOp; (repeat (first | rw [if_pos (by first | omega | assumption | exact not_not_intro (by assumption))] | rw [if_neg (by first | omega | assumption | exact not_not_intro (by assumption))])); all_goals rfl) (by unfold xGrowOp; (repeat (first | rw [if_pos (by first | omega | assumption | exact not_not_intro (by assumption))] | rw [if_neg (by first | omega | assumption | exact not_not_intro (by assumption))])); all_goals rfl) rfl
    · refine x_ldc (n := (-1000002)) C q_305 dX6_wanting_11 rfl ?_
      exact x_iret C D rfl dX6_wanting_13 (by unfold xGrowOp; (repeat (first | rw [if_pos (by first | omega | assumption | exact not_not_intro (by assumption))] | rw [if_neg (by first | omega | assumption | exact not_not_intro (by assumption))])); all_goals rfl) (by unfold xGrowOp; (repeat (first | rw [if_pos (by first | omega | assumption | exact not_not_intro (by assumption))] | rw [if_neg (by first | omega | assumption | exact not_not_intro (by assumption))])); all_goals rfl) (by unfold xGrowOp; (repeat (first | rw [if_pos (by first | omega | assumption | exact not_not_intro (by assumption))] | rw [if_neg (by first | omega | assumption | exact not_not_intro (by assumption))])); all_goals rfl) rfl
set_option maxRecDepth 100000 in
set_option maxHeartbeats 4000000 in
theorem m_X6_turnedAway {hs : Nat → HV} {tp md : HV} {E : HE} (hE : HI E) {K : Int} (R : RG K (hs 0)) {K1 : Int} (R1 : RG K1 (hs 1)) (hK : K ≤ 700000) (hd : hs 0 0 6 ≤ 999) {n : Int} (n0 : IR n) : Mt yX6_turnedAway cX6_turnedAway 2 (some .int) 8 E [.ref (tA E 0), vI n] hs tp md (some (vI ((xGrowOp hs tp 8 n).1))) ((xGrowOp hs tp 8 n).2.1) ((xGrowOp hs tp 8 n).2.2) md := by
  refine mk_Mt hE (plainFor_of_name (by decide)) (Nat.le_of_ble_eq_true rfl) (by intro w0 hw0; simp only [List.mem_cons, List.not_mem_nil, or_false] at hw0; rcases hw0 with rfl | rfl <;> rfl) (rfl : _ = [_, _]) ?_
  intro F C D
  refine x_iload_n C dX6_turnedAway_0 rfl ?_
  refine x_const C dX6_turnedAway_1 ?_
  refine x_icmp_lt 11 C dX6_turnedAway_2 (by decide) ⟨by omega, by omega⟩ ⟨by omega, by omega⟩ (fun c_1 => ?_) (fun c_1 => ?_)
  · refine x_ldc (n := (-1000002)) C q_305 dX6_turnedAway_11 rfl ?_
    exact x_iret C D rfl dX6_turnedAway_13 (by unfold xGrowOp; (repeat (first | rw [if_pos (by first | omega | assumption | exact not_not_intro (by assumption))] | rw [if_neg (by first | omega | assumption | exact not_not_intro (by assumption))])); all_goals rfl) (by unfold xGrowOp; (repeat (first | rw [if_pos (by first | omega | assumption | exact not_not_intro (by assumption))] | rw [if_neg (by first | omega | assumption | exact not_not_intro (by assumption))])); all_goals rfl) (by unfold xGrowOp; (repeat (first | rw [if_pos (by first | omega | assumption | exact not_not_intro (by assumption))] | rw [if_neg (by first | omega | assumption | exact not_not_intro (by assumption))])); all_goals rfl) rfl
  · refine x_iload_n C dX6_turnedAway_5 rfl ?_
    refine x_bipush C dX6_turnedAway_6 (by decide) ?_
    refine x_icmp_le 14 C dX6_turnedAway_8 (by decide) ⟨by omega, by omega⟩ ⟨by omega, by omega⟩ (fun c_2 => ?_) (fun c_2 => ?_)
    · refine x_aload_n C dX6_turnedAway_14 rfl ?_
      refine x_iload_n C dX6_turnedAway_15 rfl ?_
      refine x_callV (nA := 1) (As := [vI n]) (rest := []) C (m_X6_passInTrial hE R R1 hK hd (n := n) ⟨by omega, by omega⟩) q_564 q_566 q_12 q_21 q_567 (by decide +kernel) (wl_t 0 (by decide)) rfl rfl (by decide) (by decide) (Nat.le_of_ble_eq_true rfl) dX6_turnedAway_16 rfl ?_
      refine x_aload_n C dX6_turnedAway_19 rfl ?_
      refine gt_0_1 C q_233 dX6_turnedAway_20 ?_
      refine gh_0_5 C (by decide) putH_same q_141 dX6_turnedAway_23 ?_
      refine x_bipush C dX6_turnedAway_26 (by decide) ?_
      refine lh_16 C (by decide) putH_same (by omega) (by omega) dX6_turnedAway_28 rfl ?_
      refine x_aload_n C dX6_turnedAway_29 rfl ?_
      refine gt_0_0 C q_232 dX6_turnedAway_30 ?_
      refine gh_0_5 C (by decide) ((putH_ne (by decide)).trans (rfl : hs 0 = hs 0)) q_141 dX6_turnedAway_33 ?_
      refine x_bipush C dX6_turnedAway_36 (by decide) ?_
      refine lh_16 C (by decide) ((putH_ne (by decide)).trans (rfl : hs 0 = hs 0)) (by omega) (by omega) dX6_turnedAway_38 rfl ?_
      refine x_isub C dX6_turnedAway_39 ?_
      exact x_iret C D rfl dX6_turnedAway_40 (by unfold xGrowOp; (repeat (first | rw [if_pos (by first | omega | assumption | exact not_not_intro (by assumption))] | rw [if_neg (by first | omega | assumption | exact not_not_intro (by assumption))])); all_goals rfl) (by unfold xGrowOp; (repeat (first | rw [if_pos (by first | omega | assumption | exact not_not_intro (by assumption))] | rw [if_neg (by first | omega | assumption | exact not_not_intro (by assumption))])); all_goals rfl) (by unfold xGrowOp; (repeat (first | rw [if_pos (by first | omega | assumption | exact not_not_intro (by assumption))] | rw [if_neg (by first | omega | assumption | exact not_not_intro (by assumption))])); all_goals rfl) rfl
    · refine x_ldc (n := (-1000002)) C q_305 dX6_turnedAway_11 rfl ?_
      exact x_iret C D rfl dX6_turnedAway_13 (by unfold xGrowOp; (repeat (first | rw [if_pos (by first | omega | assumption | exact not_not_intro (by assumption))] | rw [if_neg (by first | omega | assumption | exact not_not_intro (by assumption))])); all_goals rfl) (by unfold xGrowOp; (repeat (first | rw [if_pos (by first | omega | assumption | exact not_not_intro (by assumption))] | rw [if_neg (by first | omega | assumption | exact not_not_intro (by assumption))])); all_goals rfl) (by unfold xGrowOp; (repeat (first | rw [if_pos (by first | omega | assumption | exact not_not_intro (by assumption))] | rw [if_neg (by first | omega | assumption | exact not_not_intro (by assumption))])); all_goals rfl) rfl
set_option maxRecDepth 100000 in
set_option maxHeartbeats 4000000 in
theorem m_X6_hungryIn {hs : Nat → HV} {tp md : HV} {E : HE} (hE : HI E) {K : Int} (R : RG K (hs 0)) {K1 : Int} (R1 : RG K1 (hs 1)) (hK : K ≤ 700000) (hd : hs 0 0 6 ≤ 999) (hu : 0 ≤ hs 0 16 5 ∧ hs 0 16 5 ≤ 1000000) : Mt yX6_hungryIn cX6_hungryIn 2 (some .int) 7 E [.ref (tA E 0)] hs tp md (some (vI ((xHungOp hs tp).1))) ((xHungOp hs tp).2.1) ((xHungOp hs tp).2.2) md := by
  refine mk_Mt hE (plainFor_of_name (by decide)) (Nat.le_of_ble_eq_true rfl) (by intro w0 hw0; simp only [List.mem_cons, List.not_mem_nil, or_false] at hw0; rcases hw0 with rfl <;> rfl) (rfl : _ = [_, _]) ?_
  intro F C D
  have rcp : RG K (trial hs) := RG_cp R R1
  refine x_aload_n C dX6_hungryIn_0 rfl ?_
  refine gt_0_1 C q_233 dX6_hungryIn_1 ?_
  refine x_aload_n C dX6_hungryIn_4 rfl ?_
  refine gt_0_0 C q_232 dX6_hungryIn_5 ?_
  refine x_callV (nA := 1) (As := [.ref (hA E 0 0)]) (rest := []) C (m_X3_copyFrom hE (by decide) (by decide) (show 0 ≠ 1 by decide) (rfl : hs 1 = hs 1) (rfl : hs 0 = hs 0) R rfl) q_473 q_264 q_265 q_22 q_266 (by decide +kernel) (wl_h (by decide) (rfl : hs 1 = hs 1) 0 (by decide)) rfl rfl (by decide) (by decide) (Nat.le_of_ble_eq_true rfl) dX6_hungryIn_8 rfl ?_
  refine x_const C dX6_hungryIn_11 ?_
  refine x_istore_n C dX6_hungryIn_12 (by decide) (rfl : _ = [_, _]) ?_
  have K13 : ∀ (nn : Nat) (n : Nat) (g : HV), n ≤ 60 → RG (K + 149 * (60 - n)) g → g 0 6 = hs 0 0 6 + (60 - n) → hs 0 16 5 ≤ g 16 5 → g 16 5 ≤ hs 0 16 5 + 720 * (60 - n) → xHungry (hs 0) (hs 1) = srN (fun q => decide (hs 0 16 5 < q 16 5)) n (61 - n) g → (n : Int) < nn →  G F E (putH hs 1 g) tp md 13 [some (.ref (tA E 0)), some (vI (61 - (n : Int)))] [] := by
    intro nn
    induction nn with
    | zero => intro n g n0 rg gd u0 u1 hq hz; exact absurd hz (by omega)
    | succ nn ih =>
      intro n g n0 rg gd u0 u1 hq hz
      refine x_iload_n C dX6_hungryIn_13 rfl ?_
      refine x_bipush C dX6_hungryIn_14 (by decide) ?_
      refine x_icmp_gt 55 C dX6_hungryIn_16 (by decide) ⟨by omega, by omega⟩ ⟨by omega, by omega⟩ (fun c_1 => ?_) (fun c_1 => ?_)
      · refine x_ldc (n := (-1000005)) C q_258 dX6_hungryIn_55 rfl ?_
        exact x_iret C D rfl dX6_hungryIn_57 (by unfold xHungOp; rw [hq, show n = 0 by omega]; rfl) (by unfold xHungOp; rw [hq, show n = 0 by omega]; rfl) rfl rfl
      · refine x_aload_n C dX6_hungryIn_19 rfl ?_
        refine gt_0_1 C q_233 dX6_hungryIn_20 ?_
        refine x_callV (nA := 0) (As := []) (rest := []) C (m_X3_passDay (h := g) hE (by decide) putH_same rg (by omega) putH_put) q_474 q_475 q_476 q_22 q_477 (by decide +kernel) (wl_h (by decide) putH_same 0 (by decide)) rfl rfl (by decide) (by decide) (Nat.le_of_ble_eq_true rfl) dX6_hungryIn_23 rfl ?_
        have rgp := RG_pass rg (by omega)
        have hp := hung_pass rg
        refine x_aload_n C dX6_hungryIn_26 rfl ?_
        refine gt_0_1 C q_233 dX6_hungryIn_27 ?_
        refine gh_0_5 C (by decide) putH_same q_141 dX6_hungryIn_30 ?_
        refine x_const C dX6_hungryIn_33 ?_
        refine lh_16 C (by decide) putH_same (by omega) (by omega) dX6_hungryIn_34 rfl ?_
        refine x_aload_n C dX6_hungryIn_35 rfl ?_
        refine gt_0_0 C q_232 dX6_hungryIn_36 ?_
        refine gh_0_5 C (by decide) ((putH_ne (by decide)).trans (rfl : hs 0 = hs 0)) q_141 dX6_hungryIn_39 ?_
        refine x_const C dX6_hungryIn_42 ?_
        refine lh_16 C (by decide) ((putH_ne (by decide)).trans (rfl : hs 0 = hs 0)) (by omega) (by omega) dX6_hungryIn_43 rfl ?_
        refine x_icmp_le 49 C dX6_hungryIn_44 (by decide) ⟨by omega, by omega⟩ ⟨by omega, by omega⟩ (fun c_2 => ?_) (fun c_2 => ?_)
        · refine x_iinc C dX6_hungryIn_49 rfl (by decide) (rfl : _ = [_, _]) ?_
          refine x_goto 13 C dX6_hungryIn_52 (by decide) ?_
          obtain ⟨n9, rfl⟩ : ∃ n9, n = n9 + 1 := ⟨n - 1, by omega⟩
          refine G.wk (ih n9 (dPass g) (by omega) (by rw [show K + 149 * (60 - (n9 : Int)) = K + 149 * (60 - ((n9 + 1 : Nat) : Int)) + 149 by omega]; exact (RG_pass rg (by omega)).1) (by rw [(RG_pass rg (by omega)).2.2.2.2.2.2.2]; omega) (by have hp := hung_pass rg; omega) (by have hp := hung_pass rg; omega) (by rw [hq, srN_f (by simpa using (Int.not_lt.mpr c_2))]; congr 1; omega) (by omega)) ?_
          simp only [leL, and_self, and_true, true_and]; exact congrArg (fun z => some (vI z)) (by omega)
        · refine x_iload_n C dX6_hungryIn_47 rfl ?_
          exact x_iret C D rfl dX6_hungryIn_48 (by unfold xHungOp; rw [hq]; obtain ⟨n9, rfl⟩ : ∃ n9, n = n9 + 1 := ⟨n - 1, by omega⟩; rw [srN_t (by simpa using c_2)]) (by unfold xHungOp; rw [hq]; obtain ⟨n9, rfl⟩ : ∃ n9, n = n9 + 1 := ⟨n - 1, by omega⟩; rw [srN_t (by simpa using c_2)]) rfl rfl
  refine G.wk (K13 61 60 (trial hs) (by omega) (by rw [show K + 149 * (60 - ((60 : Nat) : Int)) = K by omega]; exact rcp) (by show hs 0 0 6 = _; omega) (by rw [trial_16 (by decide) (by decide)]; omega) (by rw [trial_16 (by decide) (by decide)]; omega) rfl (by omega)) ?_
  simp only [leL, and_self]; trivial
set_option maxRecDepth 100000 in
set_option maxHeartbeats 4000000 in
theorem m_X6_goneIn {hs : Nat → HV} {tp md : HV} {E : HE} (hE : HI E) {K : Int} (R : RG K (hs 0)) {K1 : Int} (R1 : RG K1 (hs 1)) (hK : K ≤ 700000) (hd : hs 0 0 6 ≤ 999) {b : Int} (b0 : IR b) : Mt yX6_goneIn cX6_goneIn 3 (some .int) 7 E [.ref (tA E 0), vI b] hs tp md (some (vI ((xGoneOp hs tp b).1))) ((xGoneOp hs tp b).2.1) ((xGoneOp hs tp b).2.2) md := by
  refine mk_Mt hE (plainFor_of_name (by decide)) (Nat.le_of_ble_eq_true rfl) (by intro w0 hw0; simp only [List.mem_cons, List.not_mem_nil, or_false] at hw0; rcases hw0 with rfl | rfl <;> rfl) (rfl : _ = [_, _, _]) ?_
  intro F C D
  have rcp : RG K (trial hs) := RG_cp R R1
  have rm := RG.made R
  refine x_aload_n C dX6_goneIn_0 rfl ?_
  refine gt_0_0 C q_232 dX6_goneIn_1 ?_
  refine gh_0_2 C (by decide) (rfl : hs 0 = hs 0) q_135 dX6_goneIn_4 ?_
  refine x_iload_n C dX6_goneIn_7 rfl ?_
  refine x_callV (nA := 1) (As := [vI b]) (rest := []) C (m_X1_knows hE (by decide) (rfl : hs 0 = hs 0) R ⟨by omega, by omega⟩) q_333 q_334 q_335 q_24 q_336 (by decide +kernel) (wl_h (by decide) (rfl : hs 0 = hs 0) 3 (by decide)) rfl rfl (by decide) (by decide) (Nat.le_of_ble_eq_true rfl) dX6_goneIn_8 rfl ?_
  refine x_bz_ne 17 C dX6_goneIn_11 (by decide) (fun c_1 => ?_) (fun c_1 => ?_)
  · refine x_aload_n C dX6_goneIn_17 rfl ?_
    refine gt_0_0 C q_232 dX6_goneIn_18 ?_
    refine gh_0_2 C (by decide) (rfl : hs 0 = hs 0) q_135 dX6_goneIn_21 ?_
    refine x_iload_n C dX6_goneIn_24 rfl ?_
    refine x_callV (nA := 1) (As := [vI b]) (rest := []) C (m_X1_holdsBeds hE (by decide) (rfl : hs 0 = hs 0) R (by omega) (by omega)) q_576 q_326 q_327 q_24 q_328 (by decide +kernel) (wl_h (by decide) (rfl : hs 0 = hs 0) 3 (by decide)) rfl rfl (by decide) (by decide) (Nat.le_of_ble_eq_true rfl) dX6_goneIn_25 rfl ?_
    refine x_bz_ne 34 C dX6_goneIn_28 (by decide) (fun c_2 => ?_) (fun c_2 => ?_)
    · refine x_aload_n C dX6_goneIn_34 rfl ?_
      refine gt_0_1 C q_233 dX6_goneIn_35 ?_
      refine x_aload_n C dX6_goneIn_38 rfl ?_
      refine gt_0_0 C q_232 dX6_goneIn_39 ?_
      refine x_callV (nA := 1) (As := [.ref (hA E 0 0)]) (rest := []) C (m_X3_copyFrom hE (by decide) (by decide) (show 0 ≠ 1 by decide) (rfl : hs 1 = hs 1) (rfl : hs 0 = hs 0) R rfl) q_473 q_264 q_265 q_22 q_266 (by decide +kernel) (wl_h (by decide) (rfl : hs 1 = hs 1) 0 (by decide)) rfl rfl (by decide) (by decide) (Nat.le_of_ble_eq_true rfl) dX6_goneIn_42 rfl ?_
      refine x_const C dX6_goneIn_45 ?_
      refine x_istore_n C dX6_goneIn_46 (by decide) (rfl : _ = [_, _, _]) ?_
      have K47 : ∀ (nn : Nat) (n : Nat) (g : HV), n ≤ 60 → RG (K + 149 * (60 - n)) g → g 0 6 = hs 0 0 6 + (60 - n) → xGone (hs 0) (hs 1) b = srN (fun q => decide (q 4 b = 2)) n (61 - n) g → (n : Int) < nn →  G F E (putH hs 1 g) tp md 47 [some (.ref (tA E 0)), some (vI b), some (vI (61 - (n : Int)))] [] := by
        intro nn
        induction nn with
        | zero => intro n g n0 rg gd hq hz; exact absurd hz (by omega)
        | succ nn ih =>
          intro n g n0 rg gd hq hz
          refine x_iload_n C dX6_goneIn_47 rfl ?_
          refine x_bipush C dX6_goneIn_48 (by decide) ?_
          refine x_icmp_gt 84 C dX6_goneIn_50 (by decide) ⟨by omega, by omega⟩ ⟨by omega, by omega⟩ (fun c_3 => ?_) (fun c_3 => ?_)
          · refine x_ldc (n := (-1000005)) C q_258 dX6_goneIn_84 rfl ?_
            exact x_iret C D rfl dX6_goneIn_86 (by unfold xGoneOp; rw [if_neg (not_not_intro c_1), if_neg (not_not_intro c_2), hq]; rw [show n = 0 by omega]; rfl) (by unfold xGoneOp; rw [if_neg (not_not_intro c_1), if_neg (not_not_intro c_2), hq]; rw [show n = 0 by omega]; rfl) (by unfold xGoneOp; rw [if_neg (not_not_intro c_1), if_neg (not_not_intro c_2)]) rfl
          · refine x_aload_n C dX6_goneIn_53 rfl ?_
            refine gt_0_1 C q_233 dX6_goneIn_54 ?_
            refine x_callV (nA := 0) (As := []) (rest := []) C (m_X3_passDay (h := g) hE (by decide) putH_same rg (by omega) putH_put) q_474 q_475 q_476 q_22 q_477 (by decide +kernel) (wl_h (by decide) putH_same 0 (by decide)) rfl rfl (by decide) (by decide) (Nat.le_of_ble_eq_true rfl) dX6_goneIn_57 rfl ?_
            have rgp := RG_pass rg (by omega)
            refine x_aload_n C dX6_goneIn_60 rfl ?_
            refine gt_0_1 C q_233 dX6_goneIn_61 ?_
            refine gh_0_2 C (by decide) putH_same q_135 dX6_goneIn_64 ?_
            refine gh_3_0 C (by decide) putH_same q_58 dX6_goneIn_67 ?_
            refine x_iload_n C dX6_goneIn_70 rfl ?_
            refine lh_4 C (by decide) putH_same (by omega) (by omega) dX6_goneIn_71 rfl ?_
            have r_4 := RG.how rgp.1 (b := b) (by omega) (by omega)
            refine x_const C dX6_goneIn_72 ?_
            refine x_icmp_ne 78 C dX6_goneIn_73 (by decide) ⟨by omega, by omega⟩ ⟨by omega, by omega⟩ (fun c_5 => ?_) (fun c_5 => ?_)
            · refine x_iinc C dX6_goneIn_78 rfl (by decide) (rfl : _ = [_, _, _]) ?_
              refine x_goto 47 C dX6_goneIn_81 (by decide) ?_
              obtain ⟨n9, rfl⟩ : ∃ n9, n = n9 + 1 := ⟨n - 1, by omega⟩
              refine G.wk (ih n9 (dPass g) (by omega) (by rw [show K + 149 * (60 - (n9 : Int)) = K + 149 * (60 - ((n9 + 1 : Nat) : Int)) + 149 by omega]; exact (RG_pass rg (by omega)).1) (by rw [(RG_pass rg (by omega)).2.2.2.2.2.2.2]; omega) (by rw [hq, srN_f (by simpa using c_5)]; congr 1; omega) (by omega)) ?_
              simp only [leL, and_self, and_true, true_and]; exact congrArg (fun z => some (vI z)) (by omega)
            · refine x_iload_n C dX6_goneIn_76 rfl ?_
              exact x_iret C D rfl dX6_goneIn_77 (by unfold xGoneOp; rw [if_neg (not_not_intro c_1), if_neg (not_not_intro c_2), hq]; obtain ⟨n9, rfl⟩ : ∃ n9, n = n9 + 1 := ⟨n - 1, by omega⟩; rw [srN_t (by simpa using c_5)]) (by unfold xGoneOp; rw [if_neg (not_not_intro c_1), if_neg (not_not_intro c_2), hq]; obtain ⟨n9, rfl⟩ : ∃ n9, n = n9 + 1 := ⟨n - 1, by omega⟩; rw [srN_t (by simpa using c_5)]) (by unfold xGoneOp; rw [if_neg (not_not_intro c_1), if_neg (not_not_intro c_2)]) rfl
      refine G.wk (K47 61 60 (trial hs) (by omega) (by rw [show K + 149 * (60 - ((60 : Nat) : Int)) = K by omega]; exact rcp) (by show hs 0 0 6 = _; omega) rfl (by omega)) ?_
      simp only [leL, and_self]; trivial
    · refine x_ldc (n := (-1000004)) C q_373 dX6_goneIn_31 rfl ?_
      exact x_iret C D rfl dX6_goneIn_33 (by unfold xGoneOp; (repeat (first | rw [if_pos (by first | omega | assumption | exact not_not_intro (by assumption))] | rw [if_neg (by first | omega | assumption | exact not_not_intro (by assumption))])); all_goals rfl) (by unfold xGoneOp; (repeat (first | rw [if_pos (by first | omega | assumption | exact not_not_intro (by assumption))] | rw [if_neg (by first | omega | assumption | exact not_not_intro (by assumption))])); all_goals rfl) (by unfold xGoneOp; (repeat (first | rw [if_pos (by first | omega | assumption | exact not_not_intro (by assumption))] | rw [if_neg (by first | omega | assumption | exact not_not_intro (by assumption))])); all_goals rfl) rfl
  · refine x_ldc (n := (-1000001)) C q_337 dX6_goneIn_14 rfl ?_
    exact x_iret C D rfl dX6_goneIn_16 (by unfold xGoneOp; (repeat (first | rw [if_pos (by first | omega | assumption | exact not_not_intro (by assumption))] | rw [if_neg (by first | omega | assumption | exact not_not_intro (by assumption))])); all_goals rfl) (by unfold xGoneOp; (repeat (first | rw [if_pos (by first | omega | assumption | exact not_not_intro (by assumption))] | rw [if_neg (by first | omega | assumption | exact not_not_intro (by assumption))])); all_goals rfl) (by unfold xGoneOp; (repeat (first | rw [if_pos (by first | omega | assumption | exact not_not_intro (by assumption))] | rw [if_neg (by first | omega | assumption | exact not_not_intro (by assumption))])); all_goals rfl) rfl
set_option maxRecDepth 100000 in
set_option maxHeartbeats 4000000 in
theorem m_X6_bestCall {hs : Nat → HV} {tp md : HV} {E : HE} (hE : HI E) {K : Int} (R : RG K (hs 0)) {K1 : Int} (R1 : RG K1 (hs 1)) (hK : K ≤ 700000) (hd : hs 0 0 6 ≤ 999) : Mt yX6_bestCall cX6_bestCall 6 (some .int) 6 E [.ref (tA E 0)] hs tp md (some (vI ((xBestOp hs tp).1))) ((xBestOp hs tp).2.1) ((xBestOp hs tp).2.2) md := by
  refine mk_Mt hE (plainFor_of_name (by decide)) (Nat.le_of_ble_eq_true rfl) (by intro w0 hw0; simp only [List.mem_cons, List.not_mem_nil, or_false] at hw0; rcases hw0 with rfl <;> rfl) (rfl : _ = [_, _, _, _, _, _]) ?_
  intro F C D
  have rcp : RG K (trial hs) := RG_cp R R1
  have rcl := RG.cal R
  refine x_aload_n C dX6_bestCall_0 rfl ?_
  refine gt_0_0 C q_232 dX6_bestCall_1 ?_
  refine gh_0_7 C (by decide) (rfl : hs 0 = hs 0) q_145 dX6_bestCall_4 rfl ?_
  have r_1 := RG.cal R
  refine x_if_eq 13 C dX6_bestCall_7 (by decide) ⟨by omega, by omega⟩ (fun c_2 => ?_) (fun c_2 => ?_)
  · refine x_aload_n C dX6_bestCall_13 rfl ?_
    refine gt_0_1 C q_233 dX6_bestCall_14 ?_
    refine x_aload_n C dX6_bestCall_17 rfl ?_
    refine gt_0_0 C q_232 dX6_bestCall_18 ?_
    refine x_callV (nA := 1) (As := [.ref (hA E 0 0)]) (rest := []) C (m_X3_copyFrom hE (by decide) (by decide) (show 0 ≠ 1 by decide) (rfl : hs 1 = hs 1) (rfl : hs 0 = hs 0) R rfl) q_473 q_264 q_265 q_22 q_266 (by decide +kernel) (wl_h (by decide) (rfl : hs 1 = hs 1) 0 (by decide)) rfl rfl (by decide) (by decide) (Nat.le_of_ble_eq_true rfl) dX6_bestCall_21 rfl ?_
    refine x_ldc (n := (-1000005)) C q_258 dX6_bestCall_24 rfl ?_
    refine x_istore_n C dX6_bestCall_26 (by decide) (rfl : _ = [_, _, _, _, _, _]) ?_
    refine x_const C dX6_bestCall_27 ?_
    refine x_istore_n C dX6_bestCall_28 (by decide) (rfl : _ = [_, _, _, _, _, _]) ?_
    refine x_const C dX6_bestCall_29 ?_
    refine x_istore_n C dX6_bestCall_30 (by decide) (rfl : _ = [_, _, _, _, _, _]) ?_
    refine x_const C dX6_bestCall_31 ?_
    refine x_istore C dX6_bestCall_32 (by decide) (rfl : _ = [_, _, _, _, _, _]) ?_
    have K34 : ∀ (nn : Nat) (n : Nat) (g : HV) (b9 m9 s9 : Int), n ≤ 60 → RG (K + 149 * (60 - n)) g → g 0 6 = hs 0 0 6 + (60 - n) → (0 ≤ m9 ∧ m9 ≤ 999) → (0 ≤ s9 ∧ s9 ≤ 100) → xBest (hs 0) (hs 1) = bcN n (60 - n) g b9 m9 s9 → (n : Int) < nn →  G F E (putH hs 1 g) tp md 34 [some (.ref (tA E 0)), some (vI b9), some (vI m9), some (vI s9), some (vI (60 - (n : Int))), none] [] := by
      intro nn
      induction nn with
      | zero => intro n g b9 m9 s9 n0 rg gd m0 s0 hq hz; exact absurd hz (by omega)
      | succ nn ih =>
        intro n g b9 m9 s9 n0 rg gd m0 s0 hq hz
        refine x_iload C dX6_bestCall_34 rfl ?_
        refine x_bipush C dX6_bestCall_36 (by decide) ?_
        refine x_icmp_ge 103 C dX6_bestCall_38 (by decide) ⟨by omega, by omega⟩ ⟨by omega, by omega⟩ (fun c_3 => ?_) (fun c_3 => ?_)
        · refine x_iload_n C dX6_bestCall_103 rfl ?_
          exact x_iret C D rfl dX6_bestCall_104 (by unfold xBestOp; rw [if_neg (not_not_intro c_2), hq]; rw [show n = 0 by omega]; rfl) (by unfold xBestOp; rw [if_neg (not_not_intro c_2), hq]; rw [show n = 0 by omega]; rfl) (by unfold xBestOp; rw [if_neg (not_not_intro c_2)]) rfl
        · refine x_iload_n C dX6_bestCall_41 rfl ?_
          refine x_bipush C dX6_bestCall_42 (by decide) ?_
          refine x_icmp_gt 103 C dX6_bestCall_44 (by decide) ⟨by omega, by omega⟩ ⟨by omega, by omega⟩ (fun c_4 => ?_) (fun c_4 => ?_)
          · refine x_iload_n C dX6_bestCall_103 rfl ?_
            exact x_iret C D rfl dX6_bestCall_104 (by unfold xBestOp; rw [if_neg (not_not_intro c_2), hq]; rw [bcN_x (by omega)]) (by unfold xBestOp; rw [if_neg (not_not_intro c_2), hq]; rw [bcN_x (by omega)]) (by unfold xBestOp; rw [if_neg (not_not_intro c_2)]) rfl
          · refine x_aload_n C dX6_bestCall_47 rfl ?_
            refine gt_0_1 C q_233 dX6_bestCall_48 ?_
            refine x_callV (nA := 0) (As := []) (rest := []) C (m_X3_beginDay (h := g) hE (by decide) putH_same rg (by omega) putH_put) q_581 q_479 q_480 q_22 q_481 (by decide +kernel) (wl_h (by decide) putH_same 0 (by decide)) rfl rfl (by decide) (by decide) (Nat.le_of_ble_eq_true rfl) dX6_bestCall_51 rfl ?_
            have rgb := RS_begin rg
            have rgf := RS_fill rgb.1 (x := 0)
            refine x_aload_n C dX6_bestCall_54 rfl ?_
            refine gt_0_1 C q_233 dX6_bestCall_55 ?_
            refine x_callV (nA := 0) (As := []) (rest := []) C (m_X3_isWindy (h := (dBegin g)) hE (by decide) putH_same rgb.1) q_582 q_532 q_533 q_22 q_534 (by decide +kernel) (wl_h (by decide) putH_same 0 (by decide)) rfl rfl (by decide) (by decide) (Nat.le_of_ble_eq_true rfl) dX6_bestCall_58 rfl ?_
            refine x_bz_ne 90 C dX6_bestCall_61 (by decide) (fun c_5 => ?_) (fun c_5 => ?_)
            · refine x_aload_n C dX6_bestCall_90 rfl ?_
              refine gt_0_1 C q_233 dX6_bestCall_91 ?_
              refine x_callV (nA := 0) (As := []) (rest := []) C (m_X3_endDay (h := (dBegin g)) hE (by decide) putH_same rgb.1 (by omega) putH_put) q_584 q_544 q_545 q_22 q_546 (by decide +kernel) (wl_h (by decide) putH_same 0 (by decide)) rfl rfl (by decide) (by decide) (Nat.le_of_ble_eq_true rfl) dX6_bestCall_94 rfl ?_
              refine x_iinc C dX6_bestCall_97 rfl (by decide) (rfl : _ = [_, _, _, _, _, _]) ?_
              refine x_goto 34 C dX6_bestCall_100 (by decide) ?_
              obtain ⟨n9, rfl⟩ : ∃ n9, n = n9 + 1 := ⟨n - 1, by omega⟩
              have rbe := RG_beg_end rg (by omega)
              refine G.wk (ih n9 (dEnd (dBegin g)) b9 m9 s9 (by omega) (by rw [show K + 149 * (60 - (n9 : Int)) = K + 149 * (60 - ((n9 + 1 : Nat) : Int)) + 149 by omega]; exact rbe.1) (by rw [rbe.2]; omega) ⟨by omega, by omega⟩ ⟨by omega, by omega⟩ (by rw [hq, bcN_w (by omega) c_5]; congr 1; omega) (by omega)) ?_
              simp only [leL, and_self, and_true, true_and]; exact congrArg (fun z => some (vI z)) (by omega)
            · refine x_aload_n C dX6_bestCall_64 rfl ?_
              refine gt_0_1 C q_233 dX6_bestCall_65 ?_
              refine x_const C dX6_bestCall_68 ?_
              refine x_callV (nA := 1) (As := [vI 0]) (rest := []) C (m_X3_fillSeats (h := (dBegin g)) hE (by decide) putH_same rgb.1 (Or.inl rfl) putH_put) q_583 q_540 q_541 q_22 q_542 (by decide +kernel) (wl_h (by decide) putH_same 0 (by decide)) rfl rfl (by decide) (by decide) (Nat.le_of_ble_eq_true rfl) dX6_bestCall_69 rfl ?_
              refine G.of (hs' := putH hs 1 (dBegin g)) ?_ (by rw [dFill0' rgb.1]) rfl rfl rfl
              have rfl9 : 0 ≤ (dFill (dBegin g) 0).2 ∧ (dFill (dBegin g) 0).2 ≤ 999 := fill_r rgb.1 (x := 0) (i := dBegin g 3 7) (RG.made rgb.1).1 (RG.made rgb.1).2
              refine x_istore C dX6_bestCall_72 (by decide) (rfl : _ = [_, _, _, _, _, _]) ?_
              refine x_iload C dX6_bestCall_74 rfl ?_
              refine x_iload_n C dX6_bestCall_76 rfl ?_
              refine x_icmp_le 85 C dX6_bestCall_77 (by decide) ⟨by omega, by omega⟩ ⟨by omega, by omega⟩ (fun c_6 => ?_) (fun c_6 => ?_)
              · refine x_iload C dX6_bestCall_85 rfl ?_
                refine x_const C dX6_bestCall_87 ?_
                refine x_iadd C dX6_bestCall_88 ?_
                refine x_istore_n C dX6_bestCall_89 (by decide) (rfl : _ = [_, _, _, _, _, _]) ?_
                refine x_aload_n C dX6_bestCall_90 rfl ?_
                refine gt_0_1 C q_233 dX6_bestCall_91 ?_
                refine x_callV (nA := 0) (As := []) (rest := []) C (m_X3_endDay (h := (dBegin g)) hE (by decide) putH_same rgb.1 (by omega) putH_put) q_584 q_544 q_545 q_22 q_546 (by decide +kernel) (wl_h (by decide) putH_same 0 (by decide)) rfl rfl (by decide) (by decide) (Nat.le_of_ble_eq_true rfl) dX6_bestCall_94 rfl ?_
                refine x_iinc C dX6_bestCall_97 rfl (by decide) (rfl : _ = [_, _, _, _, _, _]) ?_
                refine x_goto 34 C dX6_bestCall_100 (by decide) ?_
                obtain ⟨n9, rfl⟩ : ∃ n9, n = n9 + 1 := ⟨n - 1, by omega⟩
                have rbe := RG_beg_end rg (by omega)
                refine G.wk (ih n9 (dEnd (dBegin g)) b9 m9 (60 - ((n9 + 1 : Nat) : Int) + 1) (by omega) (by rw [show K + 149 * (60 - (n9 : Int)) = K + 149 * (60 - ((n9 + 1 : Nat) : Int)) + 149 by omega]; exact rbe.1) (by rw [rbe.2]; omega) ⟨by omega, by omega⟩ ⟨by omega, by omega⟩ (by rw [hq, bcN_n (by omega) c_5 (Int.not_lt.mpr c_6)]; congr 1; omega) (by omega)) ?_
                simp only [leL, and_self, and_true, true_and]; exact congrArg (fun z => some (vI z)) (by omega)
              · refine x_iload C dX6_bestCall_80 rfl ?_
                refine x_istore_n C dX6_bestCall_82 (by decide) (rfl : _ = [_, _, _, _, _, _]) ?_
                refine x_iload_n C dX6_bestCall_83 rfl ?_
                refine x_istore_n C dX6_bestCall_84 (by decide) (rfl : _ = [_, _, _, _, _, _]) ?_
                refine x_iload C dX6_bestCall_85 rfl ?_
                refine x_const C dX6_bestCall_87 ?_
                refine x_iadd C dX6_bestCall_88 ?_
                refine x_istore_n C dX6_bestCall_89 (by decide) (rfl : _ = [_, _, _, _, _, _]) ?_
                refine x_aload_n C dX6_bestCall_90 rfl ?_
                refine gt_0_1 C q_233 dX6_bestCall_91 ?_
                refine x_callV (nA := 0) (As := []) (rest := []) C (m_X3_endDay (h := (dBegin g)) hE (by decide) putH_same rgb.1 (by omega) putH_put) q_584 q_544 q_545 q_22 q_546 (by decide +kernel) (wl_h (by decide) putH_same 0 (by decide)) rfl rfl (by decide) (by decide) (Nat.le_of_ble_eq_true rfl) dX6_bestCall_94 rfl ?_
                refine x_iinc C dX6_bestCall_97 rfl (by decide) (rfl : _ = [_, _, _, _, _, _]) ?_
                refine x_goto 34 C dX6_bestCall_100 (by decide) ?_
                obtain ⟨n9, rfl⟩ : ∃ n9, n = n9 + 1 := ⟨n - 1, by omega⟩
                have rbe := RG_beg_end rg (by omega)
                refine G.wk (ih n9 (dEnd (dBegin g)) s9 (dFill (dBegin g) 0).2 (60 - ((n9 + 1 : Nat) : Int) + 1) (by omega) (by rw [show K + 149 * (60 - (n9 : Int)) = K + 149 * (60 - ((n9 + 1 : Nat) : Int)) + 149 by omega]; exact rbe.1) (by rw [rbe.2]; omega) ⟨by omega, by omega⟩ ⟨by omega, by omega⟩ (by rw [hq, bcN_m (by omega) c_5 c_6]; congr 1; omega) (by omega)) ?_
                simp only [leL, and_self, and_true, true_and]; exact congrArg (fun z => some (vI z)) (by omega)
    refine G.wk (K34 61 60 (trial hs) (-1000005) 0 0 (by omega) (by rw [show K + 149 * (60 - ((60 : Nat) : Int)) = K by omega]; exact rcp) (by show hs 0 0 6 = _; omega) (by decide) (by decide) rfl (by omega)) ?_
    simp only [leL, and_self]; trivial
  · refine x_ldc (n := (-1000005)) C q_258 dX6_bestCall_10 rfl ?_
    exact x_iret C D rfl dX6_bestCall_12 (by unfold xBestOp; (repeat (first | rw [if_pos (by first | omega | assumption | exact not_not_intro (by assumption))] | rw [if_neg (by first | omega | assumption | exact not_not_intro (by assumption))])); all_goals rfl) (by unfold xBestOp; (repeat (first | rw [if_pos (by first | omega | assumption | exact not_not_intro (by assumption))] | rw [if_neg (by first | omega | assumption | exact not_not_intro (by assumption))])); all_goals rfl) (by unfold xBestOp; (repeat (first | rw [if_pos (by first | omega | assumption | exact not_not_intro (by assumption))] | rw [if_neg (by first | omega | assumption | exact not_not_intro (by assumption))])); all_goals rfl) rfl
set_option maxRecDepth 100000 in
set_option maxHeartbeats 4000000 in
theorem m_X6_firstFree {hs : Nat → HV} {tp md : HV} {E : HE} (hE : HI E) {K : Int} (R : RG K (hs 0)) {n p : Int} (n0 : IR n) (p0 : IR p) : Mt yX6_firstFree cX6_firstFree 6 (some .int) 3 E [.ref (tA E 0), vI n, vI p] hs tp md (some (vI ((xFirstOp hs tp n p).1))) ((xFirstOp hs tp n p).2.1) ((xFirstOp hs tp n p).2.2) md := by
  refine mk_Mt hE (plainFor_of_name (by decide)) (Nat.le_of_ble_eq_true rfl) (by intro w0 hw0; simp only [List.mem_cons, List.not_mem_nil, or_false] at hw0; rcases hw0 with rfl | rfl | rfl <;> rfl) (rfl : _ = [_, _, _, _, _, _]) ?_
  intro F C D
  have rdd := RG.day R
  have rm := RG.made R
  have rz := set_50 R
  refine x_iload_n C dX6_firstFree_0 rfl ?_
  refine x_iload_n C dX6_firstFree_1 rfl ?_
  refine x_callS (nA := 2) (As := [vI n, vI p]) (rest := []) C (m_X6_areNightsAndPersons hE (n := n) (p := p) ⟨by omega, by omega⟩ ⟨by omega, by omega⟩) q_432 q_433 q_21 q_434 (by decide +kernel) rfl (by decide) (by decide) (Nat.le_of_ble_eq_true rfl) dX6_firstFree_2 rfl ?_
  refine x_bz_ne 11 C dX6_firstFree_5 (by decide) (fun c_1 => ?_) (fun c_1 => ?_)
  · refine x_aload_n C dX6_firstFree_11 rfl ?_
    refine gt_0_0 C q_232 dX6_firstFree_12 ?_
    refine gh_0_2 C (by decide) (rfl : hs 0 = hs 0) q_135 dX6_firstFree_15 ?_
    refine x_aload_n C dX6_firstFree_18 rfl ?_
    refine gt_0_6 C q_238 dX6_firstFree_19 ?_
    refine x_callV (nA := 1) (As := [.ref (tA E 1)]) (rest := []) C (m_X1_fillBedsTaken hE (by decide) (rfl : hs 0 = hs 0) R rfl) q_412 q_413 q_414 q_24 q_415 (by decide +kernel) (wl_h (by decide) (rfl : hs 0 = hs 0) 3 (by decide)) rfl rfl (by decide) (by decide) (Nat.le_of_ble_eq_true rfl) dX6_firstFree_22 rfl ?_
    refine x_const C dX6_firstFree_25 ?_
    refine x_istore_n C dX6_firstFree_26 (by decide) (rfl : _ = [_, _, _, _, _, _]) ?_
    refine x_aload_n C dX6_firstFree_27 rfl ?_
    refine gt_0_0 C q_232 dX6_firstFree_28 ?_
    refine gh_0_6 C (by decide) (rfl : hs 0 = hs 0) q_143 dX6_firstFree_31 rfl ?_
    have r_2 := RG.day R
    refine x_istore C dX6_firstFree_34 (by decide) (rfl : _ = [_, _, _, _, _, _]) ?_
    have K36 : ∀ (nn : Nat) (k : Nat) (d r : Int), 0 ≤ d → d + k = 899 + n ∨ (k = 0 ∧ 899 + n ≤ d) → d ≤ 1060 → (0 ≤ r ∧ r ≤ d) → xFirst (hs 0) (tp 1) n p = frN (fbR (hs 0) (tp 1) (hs 0 3 7)) (hs 0 1 0) n p k d r → (k : Int) < nn →  G F E hs (tRow (hs 0) tp) md 36 [some (.ref (tA E 0)), some (vI n), some (vI p), some (vI r), some (vI d), none] [] := by
      intro nn
      induction nn with
      | zero => intro k d r d0 dk d1 r0 hq hz; exact absurd hz (by omega)
      | succ nn ih =>
        intro k d r d0 dk d1 r0 hq hz
        refine x_iload C dX6_firstFree_36 rfl ?_
        refine x_sipush C dX6_firstFree_38 (by decide) ?_
        refine x_iload_n C dX6_firstFree_41 rfl ?_
        refine x_iadd C dX6_firstFree_42 ?_
        refine x_icmp_ge 115 C dX6_firstFree_43 (by decide) ⟨by omega, by omega⟩ ⟨by omega, by omega⟩ (fun c_3 => ?_) (fun c_3 => ?_)
        · refine x_ldc (n := (-1000005)) C q_258 dX6_firstFree_115 rfl ?_
          exact x_iret C D rfl dX6_firstFree_117 (by unfold xFirstOp; rw [if_neg (not_not_intro c_1)]; show _ = xFirst _ _ _ _; rw [hq, show k = 0 by omega]; rfl) (by unfold xFirstOp; rw [if_neg (not_not_intro c_1)]) (by unfold xFirstOp; rw [if_neg (not_not_intro c_1)]) rfl
        · refine x_iload C dX6_firstFree_46 rfl ?_
          refine x_aload_n C dX6_firstFree_48 rfl ?_
          refine gt_0_6 C q_238 dX6_firstFree_49 ?_
          refine nt_1 C dX6_firstFree_52 ?_
          refine x_icmp_ge 115 C dX6_firstFree_53 (by decide) ⟨by omega, by omega⟩ ⟨by omega, by omega⟩ (fun c_4 => ?_) (fun c_4 => ?_)
          · refine x_ldc (n := (-1000005)) C q_258 dX6_firstFree_115 rfl ?_
            exact x_iret C D rfl dX6_firstFree_117 (by unfold xFirstOp; rw [if_neg (not_not_intro c_1)]; show _ = xFirst _ _ _ _; rw [hq, show k = 0 by omega]; rfl) (by unfold xFirstOp; rw [if_neg (not_not_intro c_1)]) (by unfold xFirstOp; rw [if_neg (not_not_intro c_1)]) rfl
          · have rfb := fbR_r R (f := tp 1) (b := hs 0 3 7) (d := d) (by omega) (by omega) (by omega) (by omega)
            refine x_aload_n C dX6_firstFree_56 rfl ?_
            refine gt_0_6 C q_238 dX6_firstFree_57 ?_
            refine x_iload C dX6_firstFree_60 rfl ?_
            refine lt_1 C (by omega) (by omega) dX6_firstFree_62 (show _ = (fbR (hs 0) (tp 1) (hs 0 3 7)) d from rfl) ?_
            refine x_iload_n C dX6_firstFree_63 rfl ?_
            refine x_iadd C dX6_firstFree_64 ?_
            refine x_aload_n C dX6_firstFree_65 rfl ?_
            refine gt_0_0 C q_232 dX6_firstFree_66 ?_
            refine gh_0_0 C (by decide) (rfl : hs 0 = hs 0) q_132 dX6_firstFree_69 ?_
            refine x_const C dX6_firstFree_72 ?_
            refine lh_1 C (by decide) (rfl : hs 0 = hs 0) (by omega) (by omega) dX6_firstFree_73 rfl ?_
            have r_5 := RG.set' R (i := 0) (by omega) (by omega)
            refine x_icmp_gt 81 C dX6_firstFree_74 (by decide) ⟨by omega, by omega⟩ ⟨by omega, by omega⟩ (fun c_6 => ?_) (fun c_6 => ?_)
            · refine x_const C dX6_firstFree_81 ?_
              refine x_istore C dX6_firstFree_82 (by decide) (rfl : _ = [_, _, _, _, _, _]) ?_
              refine x_iload C dX6_firstFree_84 rfl ?_
              refine x_if_eq 95 C dX6_firstFree_86 (by decide) ⟨by decide, by decide⟩ (fun _ => ?_) (fun c_7 => absurd c_7 (by decide))
              refine x_const C dX6_firstFree_95 ?_
              refine x_istore_n C dX6_firstFree_96 (by decide) (rfl : _ = [_, _, _, _, _, _]) ?_
              refine x_iload_n C dX6_firstFree_97 rfl ?_
              refine x_iload_n C dX6_firstFree_98 rfl ?_
              refine x_icmp_ne 109 C dX6_firstFree_99 (by decide) ⟨by omega, by omega⟩ ⟨by omega, by omega⟩ (fun c_8 => ?_) (fun c_8 => ?_)
              · refine x_iinc C dX6_firstFree_109 rfl (by decide) (rfl : _ = [_, _, _, _, _, _]) ?_
                refine x_goto 36 C dX6_firstFree_112 (by decide) ?_
                obtain ⟨k9, rfl⟩ : ∃ k9, k = k9 + 1 := ⟨k - 1, by omega⟩
                have e9 : (if fbR (hs 0) (tp 1) (hs 0 3 7) d + p ≤ hs 0 1 0 then r + 1 else 0) = 0 := if_neg (by omega)
                refine G.wk (ih k9 (d + 1) (0) (by omega) (by omega) (by omega) (by omega) (by rw [hq, frN_f (by rw [e9]; omega), e9]) (by omega)) ?_
                simp only [leL, and_self]
              · refine x_iload C dX6_firstFree_102 rfl ?_
                refine x_iload_n C dX6_firstFree_104 rfl ?_
                refine x_isub C dX6_firstFree_105 ?_
                refine x_const C dX6_firstFree_106 ?_
                refine x_iadd C dX6_firstFree_107 ?_
                exact x_iret C D rfl dX6_firstFree_108 (by unfold xFirstOp; rw [if_neg (not_not_intro c_1)]; show _ = xFirst _ _ _ _; obtain ⟨k9, rfl⟩ : ∃ k9, k = k9 + 1 := ⟨k - 1, by omega⟩; rw [hq, frN_t (by rw [if_neg (by omega)]; omega)]) (by unfold xFirstOp; rw [if_neg (not_not_intro c_1)]) (by unfold xFirstOp; rw [if_neg (not_not_intro c_1)]) rfl
            · refine x_const C dX6_firstFree_77 ?_
              refine x_goto 82 C dX6_firstFree_78 (by decide) ?_
              refine x_istore C dX6_firstFree_82 (by decide) (rfl : _ = [_, _, _, _, _, _]) ?_
              refine x_iload C dX6_firstFree_84 rfl ?_
              refine x_if_eq 95 C dX6_firstFree_86 (by decide) ⟨by decide, by decide⟩ (fun c_9 => absurd c_9 (by decide)) (fun _ => ?_)
              refine x_iload_n C dX6_firstFree_89 rfl ?_
              refine x_const C dX6_firstFree_90 ?_
              refine x_iadd C dX6_firstFree_91 ?_
              refine x_goto 96 C dX6_firstFree_92 (by decide) ?_
              refine x_istore_n C dX6_firstFree_96 (by decide) (rfl : _ = [_, _, _, _, _, _]) ?_
              refine x_iload_n C dX6_firstFree_97 rfl ?_
              refine x_iload_n C dX6_firstFree_98 rfl ?_
              refine x_icmp_ne 109 C dX6_firstFree_99 (by decide) ⟨by omega, by omega⟩ ⟨by omega, by omega⟩ (fun c_10 => ?_) (fun c_10 => ?_)
              · refine x_iinc C dX6_firstFree_109 rfl (by decide) (rfl : _ = [_, _, _, _, _, _]) ?_
                refine x_goto 36 C dX6_firstFree_112 (by decide) ?_
                obtain ⟨k9, rfl⟩ : ∃ k9, k = k9 + 1 := ⟨k - 1, by omega⟩
                have e9 : (if fbR (hs 0) (tp 1) (hs 0 3 7) d + p ≤ hs 0 1 0 then r + 1 else 0) = r + 1 := if_pos (by omega)
                refine G.wk (ih k9 (d + 1) (r + 1) (by omega) (by omega) (by omega) (by omega) (by rw [hq, frN_f (by rw [e9]; omega), e9]) (by omega)) ?_
                simp only [leL, and_self]
              · refine x_iload C dX6_firstFree_102 rfl ?_
                refine x_iload_n C dX6_firstFree_104 rfl ?_
                refine x_isub C dX6_firstFree_105 ?_
                refine x_const C dX6_firstFree_106 ?_
                refine x_iadd C dX6_firstFree_107 ?_
                exact x_iret C D rfl dX6_firstFree_108 (by unfold xFirstOp; rw [if_neg (not_not_intro c_1)]; show _ = xFirst _ _ _ _; obtain ⟨k9, rfl⟩ : ∃ k9, k = k9 + 1 := ⟨k - 1, by omega⟩; rw [hq, frN_t (by rw [if_pos (by omega)]; omega)]) (by unfold xFirstOp; rw [if_neg (not_not_intro c_1)]) (by unfold xFirstOp; rw [if_neg (not_not_intro c_1)]) rfl
    refine G.wk (K36 ((899 + n - hs 0 0 6).toNat + 1) (899 + n - hs 0 0 6).toNat (hs 0 0 6) 0 (by omega) (by omega) (by omega) (by omega) rfl (by omega)) ?_
    (simp only [leL, and_self]; try trivial)
  · refine x_ldc (n := (-1000002)) C q_305 dX6_firstFree_8 rfl ?_
    exact x_iret C D rfl dX6_firstFree_10 (by unfold xFirstOp; (repeat (first | rw [if_pos (by first | omega | assumption | exact not_not_intro (by assumption))] | rw [if_neg (by first | omega | assumption | exact not_not_intro (by assumption))])); all_goals rfl) (by unfold xFirstOp; (repeat (first | rw [if_pos (by first | omega | assumption | exact not_not_intro (by assumption))] | rw [if_neg (by first | omega | assumption | exact not_not_intro (by assumption))])); all_goals rfl) (by unfold xFirstOp; (repeat (first | rw [if_pos (by first | omega | assumption | exact not_not_intro (by assumption))] | rw [if_neg (by first | omega | assumption | exact not_not_intro (by assumption))])); all_goals rfl) rfl
set_option maxRecDepth 100000 in
set_option maxHeartbeats 4000000 in
theorem m_X6_bookAll {hs : Nat → HV} {tp md : HV} {E : HE} (hE : HI E) {K : Int} (R : RG K (hs 0)) (S : SG tp) (T : TG tp) {K1 : Int} (R1 : RG K1 (hs 1)) : Mt yX6_bookAll cX6_bookAll 4 (some .int) 6 E [.ref (tA E 0)] hs tp md (some (vI ((xBookAll hs tp).1))) ((xBookAll hs tp).2.1) ((xBookAll hs tp).2.2) md := by
  refine mk_Mt hE (plainFor_of_name (by decide)) (Nat.le_of_ble_eq_true rfl) (by intro w0 hw0; simp only [List.mem_cons, List.not_mem_nil, or_false] at hw0; rcases hw0 with rfl <;> rfl) (rfl : _ = [_, _, _, _]) ?_
  intro F C D
  have T2 := TG_ff T
  have S2 : SG (ff tp).2 := SG_ff S
  have t5 := T2.2.1
  have ffr := ff_r T
  have rcp : RG K (trial hs) := RG_cp R R1
  refine x_aload_n C dX6_bookAll_0 rfl ?_
  refine gt_0_5 C q_237 dX6_bookAll_1 ?_
  refine x_callV (nA := 0) (As := []) (rest := []) C (m_X0_findFault (tp := tp) hE T rfl) q_674 q_675 q_676 q_28 q_677 (by decide +kernel) (wl_t 4 (by decide)) rfl rfl (by decide) (by decide) (Nat.le_of_ble_eq_true rfl) dX6_bookAll_4 rfl ?_
  refine x_istore_n C dX6_bookAll_7 (by decide) (rfl : _ = [_, _, _, _]) ?_
  refine x_iload_n C dX6_bookAll_8 rfl ?_
  refine x_ldc (n := (-1000005)) C q_258 dX6_bookAll_9 rfl ?_
  refine x_icmp_eq 19 C dX6_bookAll_11 (by decide) ⟨by omega, by omega⟩ ⟨by omega, by omega⟩ (fun c_1 => ?_) (fun c_1 => ?_)
  · refine x_aload_n C dX6_bookAll_19 rfl ?_
    refine gt_0_1 C q_233 dX6_bookAll_20 ?_
    refine x_aload_n C dX6_bookAll_23 rfl ?_
    refine gt_0_0 C q_232 dX6_bookAll_24 ?_
    refine x_callV (nA := 1) (As := [.ref (hA E 0 0)]) (rest := []) C (m_X3_copyFrom hE (by decide) (by decide) (show 0 ≠ 1 by decide) (rfl : hs 1 = hs 1) (rfl : hs 0 = hs 0) R rfl) q_473 q_264 q_265 q_22 q_266 (by decide +kernel) (wl_h (by decide) (rfl : hs 1 = hs 1) 0 (by decide)) rfl rfl (by decide) (by decide) (Nat.le_of_ble_eq_true rfl) dX6_bookAll_27 rfl ?_
    refine x_const C dX6_bookAll_30 ?_
    refine x_istore_n C dX6_bookAll_31 (by decide) (rfl : _ = [_, _, _, _]) ?_
    have K32 : ∀ (nn : Nat) (n : Nat) (i : Int) (g : HV), 0 ≤ i → i + n = (ff tp).2 4 5 → RG K g → bAll hs (ff tp).2 = baN (ff tp).2 n i g → (n : Int) < nn →  G F E (putH hs 1 g) (ff tp).2 md 32 [some (.ref (tA E 0)), none, some (vI i), none] [] := by
      intro nn
      induction nn with
      | zero => intro n i g i0 i1 rg hq hz; exact absurd hz (by omega)
      | succ nn ih =>
        intro n i g i0 i1 rg hq hz
        refine x_iload_n C dX6_bookAll_32 rfl ?_
        refine x_aload_n C dX6_bookAll_33 rfl ?_
        refine gt_0_5 C q_237 dX6_bookAll_34 ?_
        refine gt_4_5 C q_208 dX6_bookAll_37 rfl ?_
        refine x_icmp_ge 125 C dX6_bookAll_40 (by decide) ⟨by omega, by omega⟩ ⟨by omega, by omega⟩ (fun c_2 => ?_) (fun c_2 => ?_)
        · refine x_aload_n C dX6_bookAll_125 rfl ?_
          refine gt_0_4 C q_236 dX6_bookAll_126 ?_
          refine x_aload_n C dX6_bookAll_129 rfl ?_
          refine gt_0_0 C q_232 dX6_bookAll_130 ?_
          refine x_callV (nA := 1) (As := [.ref (hA E 0 0)]) (rest := []) C (m_X2_remember (hs := putH hs 1 g) hE S2 (K2 := K) (show RG K (putH hs 1 g 0) from R) rfl rfl) q_452 q_453 q_454 q_27 q_455 (by decide +kernel) (wl_t 2 (by decide)) rfl rfl (by decide) (by decide) (Nat.le_of_ble_eq_true rfl) dX6_bookAll_133 rfl ?_
          refine x_aload_n C dX6_bookAll_136 rfl ?_
          refine gt_0_0 C q_232 dX6_bookAll_137 ?_
          refine x_aload_n C dX6_bookAll_140 rfl ?_
          refine gt_0_1 C q_233 dX6_bookAll_141 ?_
          refine x_callV (nA := 1) (As := [.ref (hA E 1 0)]) (rest := []) C (m_X3_copyFrom hE (by decide) (by decide) (show 1 ≠ 0 by decide) ((rH_ne S2 (show 0 < 3 by decide)).trans ((putH_ne (by decide)).trans (rfl : hs 0 = hs 0))) ((rH_ne S2 (show 1 < 3 by decide)).trans putH_same) rg rfl) q_473 q_264 q_265 q_22 q_266 (by decide +kernel) (wl_h (by decide) ((rH_ne S2 (show 0 < 3 by decide)).trans ((putH_ne (by decide)).trans (rfl : hs 0 = hs 0))) 0 (by decide)) rfl rfl (by decide) (by decide) (Nat.le_of_ble_eq_true rfl) dX6_bookAll_144 rfl ?_
          refine x_aload_n C dX6_bookAll_147 rfl ?_
          refine gt_0_5 C q_237 dX6_bookAll_148 ?_
          refine gt_4_5 C q_208 dX6_bookAll_151 rfl ?_
          exact x_iret C D rfl dX6_bookAll_154 (by unfold xBookAll; rw [if_neg (not_not_intro c_1)]; rw [show n = 0 by omega] at hq; rw [if_neg (by rw [hq]; exact not_not_intro rfl)]; exact rT_4 (by decide)) (by unfold xBookAll; rw [if_neg (not_not_intro c_1)]; rw [show n = 0 by omega] at hq; rw [if_neg (by rw [hq]; exact not_not_intro rfl), hq]; rfl) (by unfold xBookAll; rw [if_neg (not_not_intro c_1)]; rw [show n = 0 by omega] at hq; rw [if_neg (by rw [hq]; exact not_not_intro rfl)]) rfl
        · have ba := T2.2.2.2.2.2.2 i i0 (by omega)
          have ber := bErr_r (h := g) (a := (ff tp).2 6 i) (n := (ff tp).2 7 i) (p := (ff tp).2 8 i)
          refine x_aload_n C dX6_bookAll_43 rfl ?_
          refine gt_0_1 C q_233 dX6_bookAll_44 ?_
          refine x_aload_n C dX6_bookAll_47 rfl ?_
          refine gt_0_5 C q_237 dX6_bookAll_48 ?_
          refine gt_4_2 C q_202 dX6_bookAll_51 ?_
          refine x_iload_n C dX6_bookAll_54 rfl ?_
          refine lt_6 C (by omega) (by omega) dX6_bookAll_55 rfl ?_
          refine x_aload_n C dX6_bookAll_56 rfl ?_
          refine gt_0_5 C q_237 dX6_bookAll_57 ?_
          refine gt_4_3 C q_204 dX6_bookAll_60 ?_
          refine x_iload_n C dX6_bookAll_63 rfl ?_
          refine lt_7 C (by omega) (by omega) dX6_bookAll_64 rfl ?_
          refine x_aload_n C dX6_bookAll_65 rfl ?_
          refine gt_0_5 C q_237 dX6_bookAll_66 ?_
          refine gt_4_4 C q_206 dX6_bookAll_69 ?_
          refine x_iload_n C dX6_bookAll_72 rfl ?_
          refine lt_8 C (by omega) (by omega) dX6_bookAll_73 rfl ?_
          refine x_callV (nA := 3) (As := [vI (((ff tp).2) 6 i), vI (((ff tp).2) 7 i), vI (((ff tp).2) 8 i)]) (rest := []) C (m_X3_bookingError (h := g) hE (by decide) putH_same rg ⟨by omega, by omega⟩ ⟨by omega, by omega⟩ ⟨by omega, by omega⟩) q_439 q_440 q_441 q_22 q_442 (by decide +kernel) (wl_h (by decide) putH_same 0 (by decide)) rfl rfl (by decide) (by decide) (Nat.le_of_ble_eq_true rfl) dX6_bookAll_74 rfl ?_
          refine x_istore_n C dX6_bookAll_77 (by decide) (rfl : _ = [_, _, _, _]) ?_
          refine x_iload_n C dX6_bookAll_78 rfl ?_
          refine x_if_eq 84 C dX6_bookAll_79 (by decide) ⟨by omega, by omega⟩ (fun c_3 => ?_) (fun c_3 => ?_)
          · refine x_aload_n C dX6_bookAll_84 rfl ?_
            refine gt_0_1 C q_233 dX6_bookAll_85 ?_
            refine x_aload_n C dX6_bookAll_88 rfl ?_
            refine gt_0_5 C q_237 dX6_bookAll_89 ?_
            refine gt_4_2 C q_202 dX6_bookAll_92 ?_
            refine x_iload_n C dX6_bookAll_95 rfl ?_
            refine lt_6 C (by omega) (by omega) dX6_bookAll_96 rfl ?_
            refine x_aload_n C dX6_bookAll_97 rfl ?_
            refine gt_0_5 C q_237 dX6_bookAll_98 ?_
            refine gt_4_3 C q_204 dX6_bookAll_101 ?_
            refine x_iload_n C dX6_bookAll_104 rfl ?_
            refine lt_7 C (by omega) (by omega) dX6_bookAll_105 rfl ?_
            refine x_aload_n C dX6_bookAll_106 rfl ?_
            refine gt_0_5 C q_237 dX6_bookAll_107 ?_
            refine gt_4_4 C q_206 dX6_bookAll_110 ?_
            refine x_iload_n C dX6_bookAll_113 rfl ?_
            refine lt_8 C (by omega) (by omega) dX6_bookAll_114 rfl ?_
            refine x_callV (nA := 3) (As := [vI (((ff tp).2) 6 i), vI (((ff tp).2) 7 i), vI (((ff tp).2) 8 i)]) (rest := []) C (m_X3_addBooking (h := g) hE (by decide) putH_same (by have z9 := RG.made rg; omega) (bErr_0 (by assumption)).2.2.2.2 putH_put) q_460 q_461 q_462 q_22 q_463 (by decide +kernel) (wl_h (by decide) putH_same 0 (by decide)) rfl rfl (by decide) (by decide) (Nat.le_of_ble_eq_true rfl) dX6_bookAll_115 rfl ?_
            refine x_pop C dX6_bookAll_118 rfl ?_
            refine x_iinc C dX6_bookAll_119 rfl (by decide) (rfl : _ = [_, _, _, _]) ?_
            refine x_goto 32 C dX6_bookAll_122 (by decide) ?_
            obtain ⟨n9, rfl⟩ : ∃ n9, n = n9 + 1 := ⟨n - 1, by omega⟩
            refine G.wk (ih n9 (i + 1) (hAdd g ((ff tp).2 6 i) ((ff tp).2 7 i) ((ff tp).2 8 i)) (by omega) (by omega) (RG_add rg ba.1 ba.2.1 ba.2.2 (bErr_0 c_3).2.2.2.2) (by rw [hq, baN_t c_3]) (by omega)) ?_
            simp only [leL, and_self, and_true, true_and]
          · refine x_iload_n C dX6_bookAll_82 rfl ?_
            exact x_iret C D rfl dX6_bookAll_83 (by unfold xBookAll; rw [if_neg (not_not_intro c_1)]; obtain ⟨n9, rfl⟩ : ∃ n9, n = n9 + 1 := ⟨n - 1, by omega⟩; rw [baN_f c_3] at hq; rw [if_pos (by rw [hq]; exact c_3), hq]) (by unfold xBookAll; rw [if_neg (not_not_intro c_1)]; obtain ⟨n9, rfl⟩ : ∃ n9, n = n9 + 1 := ⟨n - 1, by omega⟩; rw [baN_f c_3] at hq; rw [if_pos (by rw [hq]; exact c_3), hq]) (by unfold xBookAll; rw [if_neg (not_not_intro c_1)]; obtain ⟨n9, rfl⟩ : ∃ n9, n = n9 + 1 := ⟨n - 1, by omega⟩; rw [baN_f c_3] at hq; rw [if_pos (by rw [hq]; exact c_3)]) rfl
    refine G.wk (K32 (((ff tp).2 4 5).toNat + 1) ((ff tp).2 4 5).toNat 0 (trial hs) (by omega) (by omega) rcp rfl (by omega)) ?_
    (simp only [leL, and_self]; try trivial)
  · refine x_bipush C dX6_bookAll_14 (by decide) ?_
    refine x_iload_n C dX6_bookAll_16 rfl ?_
    refine x_isub C dX6_bookAll_17 ?_
    exact x_iret C D rfl dX6_bookAll_18 (by unfold xBookAll; (repeat (first | rw [if_pos (by first | omega | assumption | exact not_not_intro (by assumption))] | rw [if_neg (by first | omega | assumption | exact not_not_intro (by assumption))])); all_goals rfl) (by unfold xBookAll; (repeat (first | rw [if_pos (by first | omega | assumption | exact not_not_intro (by assumption))] | rw [if_neg (by first | omega | assumption | exact not_not_intro (by assumption))])); all_goals rfl) (by unfold xBookAll; (repeat (first | rw [if_pos (by first | omega | assumption | exact not_not_intro (by assumption))] | rw [if_neg (by first | omega | assumption | exact not_not_intro (by assumption))])); all_goals rfl) rfl
