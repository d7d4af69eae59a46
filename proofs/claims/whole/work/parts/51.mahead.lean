set_option maxRecDepth 100000 in
set_option maxHeartbeats 4000000 in
theorem m_X7_hungryIn {hs : Nat → HV} {tp md : HV} {E : HE} (hE : HI E) {r : Int → Int} {K : Int} (R : MR K r) (hK : K ≤ 700000) (hd : r 0 ≤ 999) (u0 : 0 ≤ r 10 ∧ r 10 ≤ 1000000) : Mt yX7_hungryIn cX7_hungryIn 4 (some .int) 6 E [.ref (mA E 0)] hs tp (upr md 1 r) (some (vI ((yHungry md r).1))) hs tp ((yHungry md r).2) := by
  refine mk_Mt hE (plainFor_of_name (by decide)) (Nat.le_of_ble_eq_true rfl) (by intro w0 hw0; simp only [List.mem_cons, List.not_mem_nil, or_false] at hw0; rcases hw0 with rfl <;> rfl) (rfl : _ = [_, _, _, _]) ?_
  intro F C D
  refine x_aload_n C dX7_hungryIn_0 rfl ?_
  refine x_callV (nA := 0) (As := []) (rest := []) C (m_X7_lay hE (r := r) (md := md)) q_838 q_840 q_31 q_64 q_841 (by decide +kernel) (wl_m 0 (by decide)) rfl rfl (by decide) (by decide) (Nat.le_of_ble_eq_true rfl) dX7_hungryIn_1 rfl ?_
  refine x_aload_n C dX7_hungryIn_4 rfl ?_
  refine gm_0_0 C q_751 dX7_hungryIn_5 ?_
  refine x_bipush C dX7_hungryIn_8 (by decide) ?_
  refine lm_1 C (by omega) (by omega) dX7_hungryIn_10 (show _ = r 10 from rfl) ?_
  refine x_istore_n C dX7_hungryIn_11 (by decide) (rfl : _ = [_, _, _, _]) ?_
  refine x_const C dX7_hungryIn_12 ?_
  refine x_istore_n C dX7_hungryIn_13 (by decide) (rfl : _ = [_, _, _, _]) ?_
  have K14 : ∀ (nn : Nat) (n : Nat) (g : Int → Int), n ≤ 60 → MR (K + 149 * (60 - n)) g → g 0 = r 0 + (60 - n) → r 10 ≤ g 10 ∧ g 10 ≤ r 10 + 720 * (60 - n) → mHu r = mSr (fun g => decide (g 10 = r 10)) n (60 - n) g → (n : Int) < nn →  G F E hs tp (upr (mLay md r) 1 g) 14 [some (.ref (mA E 0)), some (vI (r 10)), some (vI (60 - (n : Int))), none] [] := by
    intro nn
    induction nn with
    | zero => intro n g n0 rg gd gu hq hz; exact absurd hz (by omega)
    | succ nn ih =>
      intro n g n0 rg gd gu hq hz
      refine x_iload_n C dX7_hungryIn_14 rfl ?_
      refine x_bipush C dX7_hungryIn_15 (by decide) ?_
      refine x_icmp_ge 41 C dX7_hungryIn_17 (by decide) ⟨by omega, by omega⟩ ⟨by omega, by omega⟩ (fun c_1 => ?_) (fun c_1 => ?_)
      · have e9 : mSr (fun g => decide (g 10 = r 10)) n (60 - (n : Int)) g = (60 - (n : Int), g) := mSr_stop (by first | exact Or.inl (by omega) | exact Or.inr (fun q => absurd (of_decide_eq_true q) (by first | omega | assumption)))
        rw [e9] at hq
        refine x_aload_n C dX7_hungryIn_41 rfl ?_
        refine gm_0_0 C q_751 dX7_hungryIn_42 ?_
        refine x_bipush C dX7_hungryIn_45 (by decide) ?_
        refine lm_1 C (by omega) (by omega) dX7_hungryIn_47 (show _ = g 10 from rfl) ?_
        refine x_iload_n C dX7_hungryIn_48 rfl ?_
        refine x_icmp_le 56 C dX7_hungryIn_49 (by decide) ⟨by omega, by omega⟩ ⟨by omega, by omega⟩ (fun c_2 => ?_) (fun c_2 => ?_)
        · refine x_const C dX7_hungryIn_56 ?_
          refine x_istore_n C dX7_hungryIn_57 (by decide) (rfl : _ = [_, _, _, _]) ?_
          refine x_aload_n C dX7_hungryIn_58 rfl ?_
          refine x_callV (nA := 0) (As := []) (rest := []) C (m_X7_takeBack hE (r := g) (md := (mLay md r))) q_842 q_844 q_32 q_64 q_845 (by decide +kernel) (wl_m 0 (by decide)) rfl rfl (by decide) (by decide) (Nat.le_of_ble_eq_true rfl) dX7_hungryIn_59 rfl ?_
          refine x_iload_n C dX7_hungryIn_62 rfl ?_
          refine x_if_eq 70 C dX7_hungryIn_63 (by decide) ⟨by decide, by decide⟩ (fun _ => ?_) (fun c_3 => absurd c_3 (by decide))
          refine x_ldc (n := (-1000005)) C q_821 dX7_hungryIn_70 rfl ?_
          exact x_iret C D rfl dX7_hungryIn_72 (by unfold yHungry; show _ = (if r 10 < (mHu r).2 10 then _ else _ : Int); rw [hq]; exact (if_neg (by first | assumption | exact Int.not_lt.mpr (by assumption))).symm) rfl rfl (by show upr (mLay md r) 1 _ = mBk0 md r (mHu r).2; rw [hq])
        · refine x_const C dX7_hungryIn_52 ?_
          refine x_goto 57 C dX7_hungryIn_53 (by decide) ?_
          refine x_istore_n C dX7_hungryIn_57 (by decide) (rfl : _ = [_, _, _, _]) ?_
          refine x_aload_n C dX7_hungryIn_58 rfl ?_
          refine x_callV (nA := 0) (As := []) (rest := []) C (m_X7_takeBack hE (r := g) (md := (mLay md r))) q_842 q_844 q_32 q_64 q_845 (by decide +kernel) (wl_m 0 (by decide)) rfl rfl (by decide) (by decide) (Nat.le_of_ble_eq_true rfl) dX7_hungryIn_59 rfl ?_
          refine x_iload_n C dX7_hungryIn_62 rfl ?_
          refine x_if_eq 70 C dX7_hungryIn_63 (by decide) ⟨by decide, by decide⟩ (fun c_4 => absurd c_4 (by decide)) (fun _ => ?_)
          refine x_iload_n C dX7_hungryIn_66 rfl ?_
          refine x_goto 72 C dX7_hungryIn_67 (by decide) ?_
          exact x_iret C D rfl dX7_hungryIn_72 (by unfold yHungry; show _ = (if r 10 < (mHu r).2 10 then _ else _ : Int); rw [hq]; exact (if_pos (by first | assumption | exact Int.not_lt.mpr (by assumption))).symm) rfl rfl (by show upr (mLay md r) 1 _ = mBk0 md r (mHu r).2; rw [hq])
      · refine x_aload_n C dX7_hungryIn_20 rfl ?_
        refine gm_0_0 C q_751 dX7_hungryIn_21 ?_
        refine x_bipush C dX7_hungryIn_24 (by decide) ?_
        refine lm_1 C (by omega) (by omega) dX7_hungryIn_26 (show _ = g 10 from rfl) ?_
        refine x_iload_n C dX7_hungryIn_27 rfl ?_
        refine x_icmp_ne 41 C dX7_hungryIn_28 (by decide) ⟨by omega, by omega⟩ ⟨by omega, by omega⟩ (fun c_5 => ?_) (fun c_5 => ?_)
        · have e9 : mSr (fun g => decide (g 10 = r 10)) n (60 - (n : Int)) g = (60 - (n : Int), g) := mSr_stop (by first | exact Or.inl (by omega) | exact Or.inr (fun q => absurd (of_decide_eq_true q) (by first | omega | assumption)))
          rw [e9] at hq
          refine x_aload_n C dX7_hungryIn_41 rfl ?_
          refine gm_0_0 C q_751 dX7_hungryIn_42 ?_
          refine x_bipush C dX7_hungryIn_45 (by decide) ?_
          refine lm_1 C (by omega) (by omega) dX7_hungryIn_47 (show _ = g 10 from rfl) ?_
          refine x_iload_n C dX7_hungryIn_48 rfl ?_
          refine x_icmp_le 56 C dX7_hungryIn_49 (by decide) ⟨by omega, by omega⟩ ⟨by omega, by omega⟩ (fun c_6 => ?_) (fun c_6 => ?_)
          · refine x_const C dX7_hungryIn_56 ?_
            refine x_istore_n C dX7_hungryIn_57 (by decide) (rfl : _ = [_, _, _, _]) ?_
            refine x_aload_n C dX7_hungryIn_58 rfl ?_
            refine x_callV (nA := 0) (As := []) (rest := []) C (m_X7_takeBack hE (r := g) (md := (mLay md r))) q_842 q_844 q_32 q_64 q_845 (by decide +kernel) (wl_m 0 (by decide)) rfl rfl (by decide) (by decide) (Nat.le_of_ble_eq_true rfl) dX7_hungryIn_59 rfl ?_
            refine x_iload_n C dX7_hungryIn_62 rfl ?_
            refine x_if_eq 70 C dX7_hungryIn_63 (by decide) ⟨by decide, by decide⟩ (fun _ => ?_) (fun c_7 => absurd c_7 (by decide))
            refine x_ldc (n := (-1000005)) C q_821 dX7_hungryIn_70 rfl ?_
            exact x_iret C D rfl dX7_hungryIn_72 (by unfold yHungry; show _ = (if r 10 < (mHu r).2 10 then _ else _ : Int); rw [hq]; exact (if_neg (by first | assumption | exact Int.not_lt.mpr (by assumption))).symm) rfl rfl (by show upr (mLay md r) 1 _ = mBk0 md r (mHu r).2; rw [hq])
          · refine x_const C dX7_hungryIn_52 ?_
            refine x_goto 57 C dX7_hungryIn_53 (by decide) ?_
            refine x_istore_n C dX7_hungryIn_57 (by decide) (rfl : _ = [_, _, _, _]) ?_
            refine x_aload_n C dX7_hungryIn_58 rfl ?_
            refine x_callV (nA := 0) (As := []) (rest := []) C (m_X7_takeBack hE (r := g) (md := (mLay md r))) q_842 q_844 q_32 q_64 q_845 (by decide +kernel) (wl_m 0 (by decide)) rfl rfl (by decide) (by decide) (Nat.le_of_ble_eq_true rfl) dX7_hungryIn_59 rfl ?_
            refine x_iload_n C dX7_hungryIn_62 rfl ?_
            refine x_if_eq 70 C dX7_hungryIn_63 (by decide) ⟨by decide, by decide⟩ (fun c_8 => absurd c_8 (by decide)) (fun _ => ?_)
            refine x_iload_n C dX7_hungryIn_66 rfl ?_
            refine x_goto 72 C dX7_hungryIn_67 (by decide) ?_
            exact x_iret C D rfl dX7_hungryIn_72 (by unfold yHungry; show _ = (if r 10 < (mHu r).2 10 then _ else _ : Int); rw [hq]; exact (if_pos (by first | assumption | exact Int.not_lt.mpr (by assumption))).symm) rfl rfl (by show upr (mLay md r) 1 _ = mBk0 md r (mHu r).2; rw [hq])
        · refine x_aload_n C dX7_hungryIn_31 rfl ?_
          refine x_callV (nA := 0) (As := []) (rest := []) C (m_X7_passDay hE (r := g) rg (by omega) (by omega)) q_904 q_906 q_39 q_64 q_907 (by decide +kernel) (wl_m 0 (by decide)) rfl rfl (by decide) (by decide) (Nat.le_of_ble_eq_true rfl) dX7_hungryIn_32 rfl ?_
          refine x_iinc C dX7_hungryIn_35 rfl (by decide) (rfl : _ = [_, _, _, _]) ?_
          refine x_goto 14 C dX7_hungryIn_38 (by decide) ?_
          obtain ⟨n9, rfl⟩ : ∃ n9, n = n9 + 1 := ⟨n - 1, by omega⟩
          have rp := MR_mPas rg (by omega)
          have tp9 := T2_mPas rg (by omega)
          refine G.wk (ih n9 (mPas g) (by omega) (by rw [show K + 149 * (60 - (n9 : Int)) = K + 149 * (60 - ((n9 + 1 : Nat) : Int)) + 149 by omega]; exact rp.1) (by rw [rp.2.1]; omega) (by have q := tp9.2.2; omega) (by rw [hq, mSr_go (by exact decide_eq_true (by assumption))]; congr 1; omega) (by omega)) ?_
          simp only [leL, and_self, and_true, true_and]; exact congrArg (fun z => some (vI z)) (by omega)
  refine G.wk (K14 61 60 r (by omega) (by rw [show K + 149 * (60 - ((60 : Nat) : Int)) = K by omega]; exact R) (by omega) (by omega) rfl (by omega)) ?_
  simp only [leL, and_self]; try trivial
set_option maxRecDepth 100000 in
set_option maxHeartbeats 4000000 in
theorem m_X7_goneIn {hs : Nat → HV} {tp md : HV} {E : HE} (hE : HI E) {r : Int → Int} {K : Int} (R : MR K r) (hK : K ≤ 700000) (hd : r 0 ≤ 999) {b : Int} (b0 : IR b) : Mt yX7_goneIn cX7_goneIn 4 (some .int) 6 E [.ref (mA E 0), vI b] hs tp (upr md 1 r) (some (vI ((yGone md r b).1))) hs tp ((yGone md r b).2) := by
  refine mk_Mt hE (plainFor_of_name (by decide)) (Nat.le_of_ble_eq_true rfl) (by intro w0 hw0; simp only [List.mem_cons, List.not_mem_nil, or_false] at hw0; rcases hw0 with rfl | rfl <;> rfl) (rfl : _ = [_, _, _, _]) ?_
  intro F C D
  have rc0 := MR.came R
  refine x_aload_n C dX7_goneIn_0 rfl ?_
  refine x_iload_n C dX7_goneIn_1 rfl ?_
  refine x_callV (nA := 1) (As := [vI b]) (rest := []) C (m_X7_isBooking hE (r := r) R (b := b) ⟨by omega, by omega⟩) q_850 q_852 q_33 q_64 q_853 (by decide +kernel) (wl_m 0 (by decide)) rfl rfl (by decide) (by decide) (Nat.le_of_ble_eq_true rfl) dX7_goneIn_2 rfl ?_
  refine x_bz_ne 11 C dX7_goneIn_5 (by decide) (fun c_1 => ?_) (fun c_1 => ?_)
  · refine x_aload_n C dX7_goneIn_11 rfl ?_
    refine x_iload_n C dX7_goneIn_12 rfl ?_
    refine x_const C dX7_goneIn_13 ?_
    refine x_callV (nA := 2) (As := [vI b, vI 0]) (rest := []) C (m_X7_of hE (r := r) (b := b) (w := 0) (by omega) (by omega) (by omega) (by omega) (show _ = r (51 + 7 * b + 0) from rfl)) q_799 q_801 q_23 q_64 q_802 (by decide +kernel) (wl_m 0 (by decide)) rfl rfl (by decide) (by decide) (Nat.le_of_ble_eq_true rfl) dX7_goneIn_14 rfl ?_
    have r_2 := MR.st R (b := b) (by omega) (by omega)
    refine x_const C dX7_goneIn_17 ?_
    refine x_icmp_le 24 C dX7_goneIn_18 (by decide) ⟨by omega, by omega⟩ ⟨by omega, by omega⟩ (fun c_3 => ?_) (fun c_3 => ?_)
    · refine x_aload_n C dX7_goneIn_24 rfl ?_
      refine x_callV (nA := 0) (As := []) (rest := []) C (m_X7_lay hE (r := r) (md := md)) q_838 q_840 q_31 q_64 q_841 (by decide +kernel) (wl_m 0 (by decide)) rfl rfl (by decide) (by decide) (Nat.le_of_ble_eq_true rfl) dX7_goneIn_25 rfl ?_
      refine x_const C dX7_goneIn_28 ?_
      refine x_istore_n C dX7_goneIn_29 (by decide) (rfl : _ = [_, _, _, _]) ?_
      have K30 : ∀ (nn : Nat) (n : Nat) (g : Int → Int), n ≤ 60 → MR (K + 149 * (60 - n)) g → g 0 = r 0 + (60 - n) → mGn r b = mSr (fun g => decide (g (51 + 7 * b + 0) ≤ 1)) n (60 - n) g → (n : Int) < nn →  G F E hs tp (upr (mLay md r) 1 g) 30 [some (.ref (mA E 0)), some (vI b), some (vI (60 - (n : Int))), none] [] := by
        intro nn
        induction nn with
        | zero => intro n g n0 rg gd hq hz; exact absurd hz (by omega)
        | succ nn ih =>
          intro n g n0 rg gd hq hz
          refine x_iload_n C dX7_goneIn_30 rfl ?_
          refine x_bipush C dX7_goneIn_31 (by decide) ?_
          refine x_icmp_ge 56 C dX7_goneIn_33 (by decide) ⟨by omega, by omega⟩ ⟨by omega, by omega⟩ (fun c_4 => ?_) (fun c_4 => ?_)
          · have e9 : mSr (fun g => decide (g (51 + 7 * b + 0) ≤ 1)) n (60 - (n : Int)) g = (60 - (n : Int), g) := mSr_stop (by first | exact Or.inl (by omega) | exact Or.inr (fun q => absurd (of_decide_eq_true q) (by first | omega | assumption)))
            rw [e9] at hq
            refine x_aload_n C dX7_goneIn_56 rfl ?_
            refine x_iload_n C dX7_goneIn_57 rfl ?_
            refine x_const C dX7_goneIn_58 ?_
            refine x_callV (nA := 2) (As := [vI b, vI 2]) (rest := []) C (m_X7_is hE (r := g) rg (b := b) (w := 2) (by omega) (by omega) ⟨by omega, by omega⟩) q_855 q_857 q_34 q_64 q_858 (by decide +kernel) (wl_m 0 (by decide)) rfl rfl (by decide) (by decide) (Nat.le_of_ble_eq_true rfl) dX7_goneIn_59 rfl ?_
            refine x_istore_n C dX7_goneIn_62 (by decide) (rfl : _ = [_, _, _, _]) ?_
            refine x_aload_n C dX7_goneIn_63 rfl ?_
            refine x_callV (nA := 0) (As := []) (rest := []) C (m_X7_takeBack hE (r := g) (md := (mLay md r))) q_842 q_844 q_32 q_64 q_845 (by decide +kernel) (wl_m 0 (by decide)) rfl rfl (by decide) (by decide) (Nat.le_of_ble_eq_true rfl) dX7_goneIn_64 rfl ?_
            refine x_iload_n C dX7_goneIn_67 rfl ?_
            refine x_bz_eq 75 C dX7_goneIn_68 (by decide) (fun c_5 => ?_) (fun c_5 => ?_)
            · refine x_ldc (n := (-1000005)) C q_821 dX7_goneIn_75 rfl ?_
              exact x_iret C D rfl dX7_goneIn_77 (by unfold yGone; rw [if_neg (not_not_intro c_1), if_neg (by omega)]; show _ = (if (mGn r b).2 (51 + 7 * b + 0) = 2 then _ else _ : Int); rw [hq]; exact (if_neg (by assumption)).symm) rfl rfl (by unfold yGone; rw [if_neg (not_not_intro c_1), if_neg (by omega)]; show upr (mLay md r) 1 _ = mBk0 md r (mGn r b).2; rw [hq])
            · refine x_iload_n C dX7_goneIn_71 rfl ?_
              refine x_goto 77 C dX7_goneIn_72 (by decide) ?_
              exact x_iret C D rfl dX7_goneIn_77 (by unfold yGone; rw [if_neg (not_not_intro c_1), if_neg (by omega)]; show _ = (if (mGn r b).2 (51 + 7 * b + 0) = 2 then _ else _ : Int); rw [hq]; exact (if_pos (by assumption)).symm) rfl rfl (by unfold yGone; rw [if_neg (not_not_intro c_1), if_neg (by omega)]; show upr (mLay md r) 1 _ = mBk0 md r (mGn r b).2; rw [hq])
          · refine x_aload_n C dX7_goneIn_36 rfl ?_
            refine x_iload_n C dX7_goneIn_37 rfl ?_
            refine x_const C dX7_goneIn_38 ?_
            refine x_callV (nA := 2) (As := [vI b, vI 0]) (rest := []) C (m_X7_of hE (r := g) (b := b) (w := 0) (by omega) (by omega) (by omega) (by omega) (show _ = g (51 + 7 * b + 0) from rfl)) q_799 q_801 q_23 q_64 q_802 (by decide +kernel) (wl_m 0 (by decide)) rfl rfl (by decide) (by decide) (Nat.le_of_ble_eq_true rfl) dX7_goneIn_39 rfl ?_
            have r_6 := MR.st rg (b := b) (by omega) (by omega)
            refine x_const C dX7_goneIn_42 ?_
            refine x_icmp_gt 56 C dX7_goneIn_43 (by decide) ⟨by omega, by omega⟩ ⟨by omega, by omega⟩ (fun c_7 => ?_) (fun c_7 => ?_)
            · have e9 : mSr (fun g => decide (g (51 + 7 * b + 0) ≤ 1)) n (60 - (n : Int)) g = (60 - (n : Int), g) := mSr_stop (by first | exact Or.inl (by omega) | exact Or.inr (fun q => absurd (of_decide_eq_true q) (by first | omega | assumption)))
              rw [e9] at hq
              refine x_aload_n C dX7_goneIn_56 rfl ?_
              refine x_iload_n C dX7_goneIn_57 rfl ?_
              refine x_const C dX7_goneIn_58 ?_
              refine x_callV (nA := 2) (As := [vI b, vI 2]) (rest := []) C (m_X7_is hE (r := g) rg (b := b) (w := 2) (by omega) (by omega) ⟨by omega, by omega⟩) q_855 q_857 q_34 q_64 q_858 (by decide +kernel) (wl_m 0 (by decide)) rfl rfl (by decide) (by decide) (Nat.le_of_ble_eq_true rfl) dX7_goneIn_59 rfl ?_
              refine x_istore_n C dX7_goneIn_62 (by decide) (rfl : _ = [_, _, _, _]) ?_
              refine x_aload_n C dX7_goneIn_63 rfl ?_
              refine x_callV (nA := 0) (As := []) (rest := []) C (m_X7_takeBack hE (r := g) (md := (mLay md r))) q_842 q_844 q_32 q_64 q_845 (by decide +kernel) (wl_m 0 (by decide)) rfl rfl (by decide) (by decide) (Nat.le_of_ble_eq_true rfl) dX7_goneIn_64 rfl ?_
              refine x_iload_n C dX7_goneIn_67 rfl ?_
              refine x_bz_eq 75 C dX7_goneIn_68 (by decide) (fun c_8 => ?_) (fun c_8 => ?_)
              · refine x_ldc (n := (-1000005)) C q_821 dX7_goneIn_75 rfl ?_
                exact x_iret C D rfl dX7_goneIn_77 (by unfold yGone; rw [if_neg (not_not_intro c_1), if_neg (by omega)]; show _ = (if (mGn r b).2 (51 + 7 * b + 0) = 2 then _ else _ : Int); rw [hq]; exact (if_neg (by assumption)).symm) rfl rfl (by unfold yGone; rw [if_neg (not_not_intro c_1), if_neg (by omega)]; show upr (mLay md r) 1 _ = mBk0 md r (mGn r b).2; rw [hq])
              · refine x_iload_n C dX7_goneIn_71 rfl ?_
                refine x_goto 77 C dX7_goneIn_72 (by decide) ?_
                exact x_iret C D rfl dX7_goneIn_77 (by unfold yGone; rw [if_neg (not_not_intro c_1), if_neg (by omega)]; show _ = (if (mGn r b).2 (51 + 7 * b + 0) = 2 then _ else _ : Int); rw [hq]; exact (if_pos (by assumption)).symm) rfl rfl (by unfold yGone; rw [if_neg (not_not_intro c_1), if_neg (by omega)]; show upr (mLay md r) 1 _ = mBk0 md r (mGn r b).2; rw [hq])
            · refine x_aload_n C dX7_goneIn_46 rfl ?_
              refine x_callV (nA := 0) (As := []) (rest := []) C (m_X7_passDay hE (r := g) rg (by omega) (by omega)) q_904 q_906 q_39 q_64 q_907 (by decide +kernel) (wl_m 0 (by decide)) rfl rfl (by decide) (by decide) (Nat.le_of_ble_eq_true rfl) dX7_goneIn_47 rfl ?_
              refine x_iinc C dX7_goneIn_50 rfl (by decide) (rfl : _ = [_, _, _, _]) ?_
              refine x_goto 30 C dX7_goneIn_53 (by decide) ?_
              obtain ⟨n9, rfl⟩ : ∃ n9, n = n9 + 1 := ⟨n - 1, by omega⟩
              have rp := MR_mPas rg (by omega)
              have tp9 := T2_mPas rg (by omega)
              refine G.wk (ih n9 (mPas g) (by omega) (by rw [show K + 149 * (60 - (n9 : Int)) = K + 149 * (60 - ((n9 + 1 : Nat) : Int)) + 149 by omega]; exact rp.1) (by rw [rp.2.1]; omega) (by rw [hq, mSr_go (by exact decide_eq_true (by assumption))]; congr 1; omega) (by omega)) ?_
              simp only [leL, and_self, and_true, true_and]; exact congrArg (fun z => some (vI z)) (by omega)
      refine G.wk (K30 61 60 r (by omega) (by rw [show K + 149 * (60 - ((60 : Nat) : Int)) = K by omega]; exact R) (by omega) rfl (by omega)) ?_
      simp only [leL, and_self]; try trivial
    · refine x_ldc (n := (-1000004)) C q_807 dX7_goneIn_21 rfl ?_
      exact x_iret C D rfl dX7_goneIn_23 (by unfold yGone; (repeat (first | rw [if_pos (by first | omega | assumption | exact not_not_intro (by assumption))] | rw [if_neg (by first | omega | assumption | exact not_not_intro (by assumption))])); all_goals rfl) rfl rfl (by unfold yGone; (repeat (first | rw [if_pos (by first | omega | assumption | exact not_not_intro (by assumption))] | rw [if_neg (by first | omega | assumption | exact not_not_intro (by assumption))])); all_goals rfl)
  · refine x_ldc (n := (-1000001)) C q_854 dX7_goneIn_8 rfl ?_
    exact x_iret C D rfl dX7_goneIn_10 (by unfold yGone; (repeat (first | rw [if_pos (by first | omega | assumption | exact not_not_intro (by assumption))] | rw [if_neg (by first | omega | assumption | exact not_not_intro (by assumption))])); all_goals rfl) rfl rfl (by unfold yGone; (repeat (first | rw [if_pos (by first | omega | assumption | exact not_not_intro (by assumption))] | rw [if_neg (by first | omega | assumption | exact not_not_intro (by assumption))])); all_goals rfl)
set_option maxRecDepth 100000 in
set_option maxHeartbeats 4000000 in
theorem m_X7_grows {hs : Nat → HV} {tp md : HV} {E : HE} (hE : HI E) {r : Int → Int} {K : Int} (R : MR K r) (hK : K ≤ 700000) (hd : r 0 ≤ 999) {c n : Int} (c0 : c = 10 ∨ c = 13) (n0 : 1 ≤ n ∧ n ≤ 60) : Mt yX7_grows cX7_grows 5 (some .int) 6 E [.ref (mA E 0), vI c, vI n] hs tp (upr md 1 r) (some (vI ((((mPasI r n c - r c, mBk0 md r (mPasI r n)) : OPM)).1))) hs tp ((((mPasI r n c - r c, mBk0 md r (mPasI r n)) : OPM)).2) := by
  refine mk_Mt hE (plainFor_of_name (by decide)) (Nat.le_of_ble_eq_true rfl) (by intro w0 hw0; simp only [List.mem_cons, List.not_mem_nil, or_false] at hw0; rcases hw0 with rfl | rfl | rfl <;> rfl) (rfl : _ = [_, _, _, _, _]) ?_
  intro F C D
  refine x_aload_n C dX7_grows_0 rfl ?_
  refine x_callV (nA := 0) (As := []) (rest := []) C (m_X7_lay hE (r := r) (md := md)) q_838 q_840 q_31 q_64 q_841 (by decide +kernel) (wl_m 0 (by decide)) rfl rfl (by decide) (by decide) (Nat.le_of_ble_eq_true rfl) dX7_grows_1 rfl ?_
  refine x_aload_n C dX7_grows_4 rfl ?_
  refine gm_0_0 C q_751 dX7_grows_5 ?_
  refine x_iload_n C dX7_grows_8 rfl ?_
  refine lm_1 C (by omega) (by omega) dX7_grows_9 (show _ = r c from rfl) ?_
  refine x_istore_n C dX7_grows_10 (by decide) (rfl : _ = [_, _, _, _, _]) ?_
  refine x_const C dX7_grows_11 ?_
  refine x_istore C dX7_grows_12 (by decide) (rfl : _ = [_, _, _, _, _]) ?_
  have K14 : ∀ (nn : Nat) (i : Int), 0 ≤ i → i ≤ n → 70 - i < nn →  G F E hs tp (upr (mLay md r) 1 (mPasI r i)) 14 [some (.ref (mA E 0)), some (vI c), some (vI n), some (vI (r c)), some (vI i)] [] := by
    intro nn
    induction nn with
    | zero => intro i i0 i1 hz; exact absurd hz (by omega)
    | succ nn ih =>
      intro i i0 i1 hz
      have rp := MR_pasI R (n := i) i0 (by omega)
      have rp0 := rp.2.1
      refine x_iload C dX7_grows_14 rfl ?_
      refine x_iload_n C dX7_grows_16 rfl ?_
      refine x_icmp_ge 30 C dX7_grows_17 (by decide) ⟨by omega, by omega⟩ ⟨by omega, by omega⟩ (fun c_1 => ?_) (fun c_1 => ?_)
      · refine x_aload_n C dX7_grows_30 rfl ?_
        refine gm_0_0 C q_751 dX7_grows_31 ?_
        refine x_iload_n C dX7_grows_34 rfl ?_
        refine lm_1 C (by omega) (by omega) dX7_grows_35 (show _ = (mPasI r i) c from rfl) ?_
        refine x_iload_n C dX7_grows_36 rfl ?_
        refine x_isub C dX7_grows_37 ?_
        refine x_istore C dX7_grows_38 (by decide) (rfl : _ = [_, _, _, _, _]) ?_
        refine x_aload_n C dX7_grows_40 rfl ?_
        refine x_callV (nA := 0) (As := []) (rest := []) C (m_X7_takeBack hE (r := (mPasI r i)) (md := (mLay md r))) q_842 q_844 q_32 q_64 q_845 (by decide +kernel) (wl_m 0 (by decide)) rfl rfl (by decide) (by decide) (Nat.le_of_ble_eq_true rfl) dX7_grows_41 rfl ?_
        refine x_iload C dX7_grows_44 rfl ?_
        exact x_iret C D rfl dX7_grows_46 (by rw [show i = n by omega]) rfl rfl (by rw [show i = n by omega])
      · refine x_aload_n C dX7_grows_20 rfl ?_
        refine x_callV (nA := 0) (As := []) (rest := []) C (m_X7_passDay hE (r := (mPasI r i)) rp.1 (by omega) (by omega)) q_904 q_906 q_39 q_64 q_907 (by decide +kernel) (wl_m 0 (by decide)) rfl rfl (by decide) (by decide) (Nat.le_of_ble_eq_true rfl) dX7_grows_21 rfl ?_
        refine x_iinc C dX7_grows_24 rfl (by decide) (rfl : _ = [_, _, _, _, _]) ?_
        refine x_goto 14 C dX7_grows_27 (by decide) ?_
        refine G.of (G.wk (ih (i + 1) (by omega) (by omega) (by omega)) ?_) rfl rfl ?_ rfl
        · simp only [leL, and_self]
        · rw [mPasI_s i0]
  exact K14 71 0 (by omega) (by omega) (by omega)
set_option maxRecDepth 100000 in
set_option maxHeartbeats 4000000 in
theorem m_X7_wanting {hs : Nat → HV} {tp md : HV} {E : HE} (hE : HI E) {r : Int → Int} {K : Int} (R : MR K r) (hK : K ≤ 700000) (hd : r 0 ≤ 999) {n : Int} (n0 : IR n) : Mt yX7_wanting cX7_wanting 2 (some .int) 7 E [.ref (mA E 0), vI n] hs tp (upr md 1 r) (some (vI ((yGrows md r 10 n).1))) hs tp ((yGrows md r 10 n).2) := by
  refine mk_Mt hE (plainFor_of_name (by decide)) (Nat.le_of_ble_eq_true rfl) (by intro w0 hw0; simp only [List.mem_cons, List.not_mem_nil, or_false] at hw0; rcases hw0 with rfl | rfl <;> rfl) (rfl : _ = [_, _]) ?_
  intro F C D
  refine x_iload_n C dX7_wanting_0 rfl ?_
  refine x_const C dX7_wanting_1 ?_
  refine x_bipush C dX7_wanting_2 (by decide) ?_
  refine x_callS (nA := 3) (As := [vI n, vI 1, vI 60]) (rest := []) C (m_X7_in hE (v := n) (l := 1) (m := 60) ⟨by omega, by omega⟩ ⟨by omega, by omega⟩ ⟨by omega, by omega⟩) q_787 q_788 q_64 q_789 (by decide +kernel) rfl (by decide) (by decide) (Nat.le_of_ble_eq_true rfl) dX7_wanting_4 rfl ?_
  refine x_bz_eq 20 C dX7_wanting_7 (by decide) (fun c_1 => ?_) (fun c_1 => ?_)
  · refine x_ldc (n := (-1000002)) C q_790 dX7_wanting_20 rfl ?_
    exact x_iret C D rfl dX7_wanting_22 (by unfold yGrows; (repeat (first | rw [if_pos (by first | omega | assumption | exact not_not_intro (by assumption))] | rw [if_neg (by first | omega | assumption | exact not_not_intro (by assumption))])); all_goals rfl) rfl rfl (by unfold yGrows; (repeat (first | rw [if_pos (by first | omega | assumption | exact not_not_intro (by assumption))] | rw [if_neg (by first | omega | assumption | exact not_not_intro (by assumption))])); all_goals rfl)
  · refine x_aload_n C dX7_wanting_10 rfl ?_
    refine x_bipush C dX7_wanting_11 (by decide) ?_
    refine x_iload_n C dX7_wanting_13 rfl ?_
    refine x_callV (nA := 2) (As := [vI 10, vI n]) (rest := []) C (m_X7_grows hE (r := r) (md := md) R hK hd (c := 10) (n := n) (by decide) ⟨by omega, by omega⟩) q_1032 q_1034 q_53 q_64 q_1035 (by decide +kernel) (wl_m 0 (by decide)) rfl rfl (by decide) (by decide) (Nat.le_of_ble_eq_true rfl) dX7_wanting_14 rfl ?_
    refine x_goto 22 C dX7_wanting_17 (by decide) ?_
    exact x_iret C D rfl dX7_wanting_22 (by unfold yGrows; (repeat (first | rw [if_pos (by first | omega | assumption | exact not_not_intro (by assumption))] | rw [if_neg (by first | omega | assumption | exact not_not_intro (by assumption))])); all_goals rfl) rfl rfl (by unfold yGrows; (repeat (first | rw [if_pos (by first | omega | assumption | exact not_not_intro (by assumption))] | rw [if_neg (by first | omega | assumption | exact not_not_intro (by assumption))])); all_goals rfl)
set_option maxRecDepth 100000 in
set_option maxHeartbeats 4000000 in
theorem m_X7_turnedAway {hs : Nat → HV} {tp md : HV} {E : HE} (hE : HI E) {r : Int → Int} {K : Int} (R : MR K r) (hK : K ≤ 700000) (hd : r 0 ≤ 999) {n : Int} (n0 : IR n) : Mt yX7_turnedAway cX7_turnedAway 2 (some .int) 7 E [.ref (mA E 0), vI n] hs tp (upr md 1 r) (some (vI ((yGrows md r 13 n).1))) hs tp ((yGrows md r 13 n).2) := by
  refine mk_Mt hE (plainFor_of_name (by decide)) (Nat.le_of_ble_eq_true rfl) (by intro w0 hw0; simp only [List.mem_cons, List.not_mem_nil, or_false] at hw0; rcases hw0 with rfl | rfl <;> rfl) (rfl : _ = [_, _]) ?_
  intro F C D
  refine x_iload_n C dX7_turnedAway_0 rfl ?_
  refine x_const C dX7_turnedAway_1 ?_
  refine x_bipush C dX7_turnedAway_2 (by decide) ?_
  refine x_callS (nA := 3) (As := [vI n, vI 1, vI 60]) (rest := []) C (m_X7_in hE (v := n) (l := 1) (m := 60) ⟨by omega, by omega⟩ ⟨by omega, by omega⟩ ⟨by omega, by omega⟩) q_787 q_788 q_64 q_789 (by decide +kernel) rfl (by decide) (by decide) (Nat.le_of_ble_eq_true rfl) dX7_turnedAway_4 rfl ?_
  refine x_bz_eq 20 C dX7_turnedAway_7 (by decide) (fun c_1 => ?_) (fun c_1 => ?_)
  · refine x_ldc (n := (-1000002)) C q_790 dX7_turnedAway_20 rfl ?_
    exact x_iret C D rfl dX7_turnedAway_22 (by unfold yGrows; (repeat (first | rw [if_pos (by first | omega | assumption | exact not_not_intro (by assumption))] | rw [if_neg (by first | omega | assumption | exact not_not_intro (by assumption))])); all_goals rfl) rfl rfl (by unfold yGrows; (repeat (first | rw [if_pos (by first | omega | assumption | exact not_not_intro (by assumption))] | rw [if_neg (by first | omega | assumption | exact not_not_intro (by assumption))])); all_goals rfl)
  · refine x_aload_n C dX7_turnedAway_10 rfl ?_
    refine x_bipush C dX7_turnedAway_11 (by decide) ?_
    refine x_iload_n C dX7_turnedAway_13 rfl ?_
    refine x_callV (nA := 2) (As := [vI 13, vI n]) (rest := []) C (m_X7_grows hE (r := r) (md := md) R hK hd (c := 13) (n := n) (by decide) ⟨by omega, by omega⟩) q_1032 q_1034 q_53 q_64 q_1035 (by decide +kernel) (wl_m 0 (by decide)) rfl rfl (by decide) (by decide) (Nat.le_of_ble_eq_true rfl) dX7_turnedAway_14 rfl ?_
    refine x_goto 22 C dX7_turnedAway_17 (by decide) ?_
    exact x_iret C D rfl dX7_turnedAway_22 (by unfold yGrows; (repeat (first | rw [if_pos (by first | omega | assumption | exact not_not_intro (by assumption))] | rw [if_neg (by first | omega | assumption | exact not_not_intro (by assumption))])); all_goals rfl) rfl rfl (by unfold yGrows; (repeat (first | rw [if_pos (by first | omega | assumption | exact not_not_intro (by assumption))] | rw [if_neg (by first | omega | assumption | exact not_not_intro (by assumption))])); all_goals rfl)
set_option maxRecDepth 100000 in
set_option maxHeartbeats 4000000 in
theorem m_X7_takesDown {hs : Nat → HV} {tp md : HV} {E : HE} (hE : HI E) {r : Int → Int} {K : Int} (R : MR K r) (hK : K ≤ 700000) (hd : r 0 ≤ 999) (u5 : 0 ≤ r 5 ∧ r 5 ≤ 1000000) {n : Int} (n0 : 0 ≤ n ∧ n ≤ 30) : Mt yX7_takesDown cX7_takesDown 5 (some .int) 6 E [.ref (mA E 0), vI n] hs tp (upr md 1 r) (some (vI (mTake r n))) hs tp (upr (mLay md r) 1 (mTb md r n)) := by
  refine mk_Mt hE (plainFor_of_name (by decide)) (Nat.le_of_ble_eq_true rfl) (by intro w0 hw0; simp only [List.mem_cons, List.not_mem_nil, or_false] at hw0; rcases hw0 with rfl | rfl <;> rfl) (rfl : _ = [_, _, _, _, _]) ?_
  intro F C D
  refine x_aload_n C dX7_takesDown_0 rfl ?_
  refine x_callV (nA := 0) (As := []) (rest := []) C (m_X7_lay hE (r := r) (md := md)) q_838 q_840 q_31 q_64 q_841 (by decide +kernel) (wl_m 0 (by decide)) rfl rfl (by decide) (by decide) (Nat.le_of_ble_eq_true rfl) dX7_takesDown_1 rfl ?_
  refine x_aload_n C dX7_takesDown_4 rfl ?_
  refine gm_0_0 C q_751 dX7_takesDown_5 ?_
  refine x_bipush C dX7_takesDown_8 (by decide) ?_
  refine lm_1 C (by omega) (by omega) dX7_takesDown_10 (show _ = r 6 from rfl) ?_
  refine x_istore_n C dX7_takesDown_11 (by decide) (rfl : _ = [_, _, _, _, _]) ?_
  refine x_aload_n C dX7_takesDown_12 rfl ?_
  refine gm_0_0 C q_751 dX7_takesDown_13 ?_
  refine x_const C dX7_takesDown_16 ?_
  refine lm_1 C (by omega) (by omega) dX7_takesDown_17 (show _ = r 5 from rfl) ?_
  refine x_istore_n C dX7_takesDown_18 (by decide) (rfl : _ = [_, _, _, _, _]) ?_
  refine x_const C dX7_takesDown_19 ?_
  refine x_istore C dX7_takesDown_20 (by decide) (rfl : _ = [_, _, _, _, _]) ?_
  have K22 : ∀ (nn : Nat) (k : Nat) (g : Int → Int), k ≤ 60 → MR (K + 149 * (60 - k)) g → g 0 = r 0 + (60 - k) → r 5 ≤ g 5 ∧ g 5 ≤ r 5 + (60 - k) → mTd (r 5) n 60 0 r = mTd (r 5) n k (60 - k) g → (k : Int) < nn →  G F E hs tp (upr (mLay md r) 1 g) 22 [some (.ref (mA E 0)), some (vI n), some (vI (r 6)), some (vI (r 5)), some (vI (60 - (k : Int)))] [] := by
    intro nn
    induction nn with
    | zero => intro k g kk0 rg gd g5 hq hz; exact absurd hz (by omega)
    | succ nn ih =>
      intro k g kk0 rg gd g5 hq hz
      refine x_iload C dX7_takesDown_22 rfl ?_
      refine x_bipush C dX7_takesDown_24 (by decide) ?_
      refine x_icmp_ge 66 C dX7_takesDown_26 (by decide) ⟨by omega, by omega⟩ ⟨by omega, by omega⟩ (fun c_1 => ?_) (fun c_1 => ?_)
      · have e9 : mTd (r 5) n k (60 - (k : Int)) g = g := mTd_stop (by first | exact Or.inl (by omega) | exact Or.inr (by assumption))
        rw [e9] at hq
        refine x_aload_n C dX7_takesDown_66 rfl ?_
        refine gm_0_0 C q_751 dX7_takesDown_67 ?_
        refine x_bipush C dX7_takesDown_70 (by decide) ?_
        refine lm_1 C (by omega) (by omega) dX7_takesDown_72 (show _ = g 6 from rfl) ?_
        refine x_iload_n C dX7_takesDown_73 rfl ?_
        refine x_isub C dX7_takesDown_74 ?_
        refine x_istore C dX7_takesDown_75 (by decide) (rfl : _ = [_, _, _, _, _]) ?_
        refine x_aload_n C dX7_takesDown_77 rfl ?_
        refine x_callV (nA := 0) (As := []) (rest := []) C (m_X7_takeBack hE (r := g) (md := (mLay md r))) q_842 q_844 q_32 q_64 q_845 (by decide +kernel) (wl_m 0 (by decide)) rfl rfl (by decide) (by decide) (Nat.le_of_ble_eq_true rfl) dX7_takesDown_78 rfl ?_
        refine x_iload C dX7_takesDown_81 rfl ?_
        exact x_iret C D rfl dX7_takesDown_83 (by show g 6 - r 6 = mTd (r 5) n 60 0 r 6 - r 6; rw [hq]) rfl rfl (by show _ = upr (mLay md r) 1 (cpI (mLay md r 3) (mTd (r 5) n 60 0 r) 2739); rw [hq])
      · refine x_aload_n C dX7_takesDown_29 rfl ?_
        refine gm_0_0 C q_751 dX7_takesDown_30 ?_
        refine x_const C dX7_takesDown_33 ?_
        refine lm_1 C (by omega) (by omega) dX7_takesDown_34 (show _ = g 5 from rfl) ?_
        refine x_iload_n C dX7_takesDown_35 rfl ?_
        refine x_icmp_ne 66 C dX7_takesDown_36 (by decide) ⟨by omega, by omega⟩ ⟨by omega, by omega⟩ (fun c_2 => ?_) (fun c_2 => ?_)
        · have e9 : mTd (r 5) n k (60 - (k : Int)) g = g := mTd_stop (by first | exact Or.inl (by omega) | exact Or.inr (by assumption))
          rw [e9] at hq
          refine x_aload_n C dX7_takesDown_66 rfl ?_
          refine gm_0_0 C q_751 dX7_takesDown_67 ?_
          refine x_bipush C dX7_takesDown_70 (by decide) ?_
          refine lm_1 C (by omega) (by omega) dX7_takesDown_72 (show _ = g 6 from rfl) ?_
          refine x_iload_n C dX7_takesDown_73 rfl ?_
          refine x_isub C dX7_takesDown_74 ?_
          refine x_istore C dX7_takesDown_75 (by decide) (rfl : _ = [_, _, _, _, _]) ?_
          refine x_aload_n C dX7_takesDown_77 rfl ?_
          refine x_callV (nA := 0) (As := []) (rest := []) C (m_X7_takeBack hE (r := g) (md := (mLay md r))) q_842 q_844 q_32 q_64 q_845 (by decide +kernel) (wl_m 0 (by decide)) rfl rfl (by decide) (by decide) (Nat.le_of_ble_eq_true rfl) dX7_takesDown_78 rfl ?_
          refine x_iload C dX7_takesDown_81 rfl ?_
          exact x_iret C D rfl dX7_takesDown_83 (by show g 6 - r 6 = mTd (r 5) n 60 0 r 6 - r 6; rw [hq]) rfl rfl (by show _ = upr (mLay md r) 1 (cpI (mLay md r 3) (mTd (r 5) n 60 0 r) 2739); rw [hq])
        · refine x_aload_n C dX7_takesDown_39 rfl ?_
          refine gm_0_0 C q_751 dX7_takesDown_40 ?_
          refine x_const C dX7_takesDown_43 ?_
          refine x_iload C dX7_takesDown_44 rfl ?_
          refine x_iload_n C dX7_takesDown_46 rfl ?_
          refine x_icmp_lt 54 C dX7_takesDown_47 (by decide) ⟨by omega, by omega⟩ ⟨by omega, by omega⟩ (fun c_3 => ?_) (fun c_3 => ?_)
          · refine x_const C dX7_takesDown_54 ?_
            refine G.eqS ?_ (show _ = vI ((if n ≤ 60 - (k : Int) then 1 else 0)) :: _ from congrArg (fun z => vI z :: _) ((if_neg (by omega)).symm))
            have ta := T2_mTd rg (n := n) (d := 60 - (k : Int)) (by omega)
            have ra9 : MR (K + 149 * (60 - k)) (up1 g 4 (if n ≤ 60 - (k : Int) then 1 else 0)) := rg.uCal (by split <;> omega)
            have e09 : up1 g 4 (if n ≤ 60 - (k : Int) then 1 else 0) 0 = g 0 := up1_ne (by decide)
            refine sm_1 C (by omega) (by omega) dX7_takesDown_55 upr_w ?_
            refine x_aload_n C dX7_takesDown_56 rfl ?_
            refine x_callV (nA := 0) (As := []) (rest := []) C (m_X7_passDay hE (r := (up1 g 4 (if n ≤ 60 - (k : Int) then 1 else 0))) ra9 (by omega) (by omega)) q_904 q_906 q_39 q_64 q_907 (by decide +kernel) (wl_m 0 (by decide)) rfl rfl (by decide) (by decide) (Nat.le_of_ble_eq_true rfl) dX7_takesDown_57 rfl ?_
            refine x_iinc C dX7_takesDown_60 rfl (by decide) (rfl : _ = [_, _, _, _, _]) ?_
            refine x_goto 22 C dX7_takesDown_63 (by decide) ?_
            obtain ⟨k9, rfl⟩ : ∃ k9, k = k9 + 1 := ⟨k - 1, by omega⟩
            have tc := ta.2.2.1
            refine G.wk (ih k9 _ (by omega) (by rw [show K + 149 * (60 - (k9 : Int)) = K + 149 * (60 - ((k9 + 1 : Nat) : Int)) + 149 by omega]; exact ta.1) (by rw [ta.2.1]; omega) (by omega) (by rw [hq, mTd_go (by assumption)]; congr 1; omega) (by omega)) ?_
            simp only [leL, and_self, and_true, true_and]; exact congrArg (fun z => some (vI z)) (by omega)
          · refine x_const C dX7_takesDown_50 ?_
            refine x_goto 55 C dX7_takesDown_51 (by decide) ?_
            refine G.eqS ?_ (show _ = vI ((if n ≤ 60 - (k : Int) then 1 else 0)) :: _ from congrArg (fun z => vI z :: _) ((if_pos (by omega)).symm))
            have ta := T2_mTd rg (n := n) (d := 60 - (k : Int)) (by omega)
            have ra9 : MR (K + 149 * (60 - k)) (up1 g 4 (if n ≤ 60 - (k : Int) then 1 else 0)) := rg.uCal (by split <;> omega)
            have e09 : up1 g 4 (if n ≤ 60 - (k : Int) then 1 else 0) 0 = g 0 := up1_ne (by decide)
            refine sm_1 C (by omega) (by omega) dX7_takesDown_55 upr_w ?_
            refine x_aload_n C dX7_takesDown_56 rfl ?_
            refine x_callV (nA := 0) (As := []) (rest := []) C (m_X7_passDay hE (r := (up1 g 4 (if n ≤ 60 - (k : Int) then 1 else 0))) ra9 (by omega) (by omega)) q_904 q_906 q_39 q_64 q_907 (by decide +kernel) (wl_m 0 (by decide)) rfl rfl (by decide) (by decide) (Nat.le_of_ble_eq_true rfl) dX7_takesDown_57 rfl ?_
            refine x_iinc C dX7_takesDown_60 rfl (by decide) (rfl : _ = [_, _, _, _, _]) ?_
            refine x_goto 22 C dX7_takesDown_63 (by decide) ?_
            obtain ⟨k9, rfl⟩ : ∃ k9, k = k9 + 1 := ⟨k - 1, by omega⟩
            have tc := ta.2.2.1
            refine G.wk (ih k9 _ (by omega) (by rw [show K + 149 * (60 - (k9 : Int)) = K + 149 * (60 - ((k9 + 1 : Nat) : Int)) + 149 by omega]; exact ta.1) (by rw [ta.2.1]; omega) (by omega) (by rw [hq, mTd_go (by assumption)]; congr 1; omega) (by omega)) ?_
            simp only [leL, and_self, and_true, true_and]; exact congrArg (fun z => some (vI z)) (by omega)
  refine G.wk (K22 61 60 r (by omega) (by rw [show K + 149 * (60 - ((60 : Nat) : Int)) = K by omega]; exact R) (by omega) (by omega) rfl (by omega)) ?_
  simp only [leL, and_self]; try trivial
set_option maxRecDepth 100000 in
set_option maxHeartbeats 4000000 in
theorem m_X7_bestCall {hs : Nat → HV} {tp md : HV} {E : HE} (hE : HI E) {r : Int → Int} {K : Int} (R : MR K r) (hK : K ≤ 700000) (hd : r 0 ≤ 999) (u5 : 0 ≤ r 5 ∧ r 5 ≤ 1000000) : Mt yX7_bestCall cX7_bestCall 5 (some .int) 7 E [.ref (mA E 0)] hs tp (upr md 1 r) (some (vI ((yBest md r).1))) hs tp ((yBest md r).2) := by
  refine mk_Mt hE (plainFor_of_name (by decide)) (Nat.le_of_ble_eq_true rfl) (by intro w0 hw0; simp only [List.mem_cons, List.not_mem_nil, or_false] at hw0; rcases hw0 with rfl <;> rfl) (rfl : _ = [_, _, _, _, _]) ?_
  intro F C D
  refine x_aload_n C dX7_bestCall_0 rfl ?_
  refine gm_0_0 C q_751 dX7_bestCall_1 ?_
  refine x_const C dX7_bestCall_4 ?_
  refine lm_1 C (by omega) (by omega) dX7_bestCall_5 (show _ = r 4 from rfl) ?_
  have r_1 := MR.cal R
  refine x_const C dX7_bestCall_6 ?_
  refine x_icmp_ne 13 C dX7_bestCall_7 (by decide) ⟨by omega, by omega⟩ ⟨by omega, by omega⟩ (fun c_2 => ?_) (fun c_2 => ?_)
  · refine x_ldc (n := (-1000005)) C q_821 dX7_bestCall_13 rfl ?_
    refine x_istore_n C dX7_bestCall_15 (by decide) (rfl : _ = [_, _, _, _, _]) ?_
    refine x_const C dX7_bestCall_16 ?_
    refine x_istore_n C dX7_bestCall_17 (by decide) (rfl : _ = [_, _, _, _, _]) ?_
    refine x_const C dX7_bestCall_18 ?_
    refine x_istore_n C dX7_bestCall_19 (by decide) (rfl : _ = [_, _, _, _, _]) ?_
    have K20 : ∀ (nn : Nat) (n : Nat) (q : HV) (g : Int → Int) (b9 m9 : Int), n ≤ 31 → MR K g → g 0 ≤ 999 → (0 ≤ g 5 ∧ g 5 ≤ 1000000) → (0 ≤ m9 ∧ m9 ≤ 1200) → mBc 31 0 md r (-1000005) 0 = mBc n (31 - n) q g b9 m9 → (n : Int) < nn →  G F E hs tp (upr q 1 g) 20 [some (.ref (mA E 0)), some (vI b9), some (vI m9), some (vI (31 - (n : Int))), none] [] := by
      intro nn
      induction nn with
      | zero => intro n q g b9 m9 n0 rg gd g5 m0 hq hz; exact absurd hz (by omega)
      | succ nn ih =>
        intro n q g b9 m9 n0 rg gd g5 m0 hq hz
        refine x_iload_n C dX7_bestCall_20 rfl ?_
        refine x_bipush C dX7_bestCall_21 (by decide) ?_
        refine x_icmp_gt 50 C dX7_bestCall_23 (by decide) ⟨by omega, by omega⟩ ⟨by omega, by omega⟩ (fun c_3 => ?_) (fun c_3 => ?_)
        · refine x_iload_n C dX7_bestCall_50 rfl ?_
          exact x_iret C D rfl dX7_bestCall_51 (by unfold yBest; rw [if_neg (by assumption), hq, show n = 0 by omega]; rfl) rfl rfl (by unfold yBest; rw [if_neg (by assumption), hq, show n = 0 by omega]; rfl)
        · refine x_aload_n C dX7_bestCall_26 rfl ?_
          refine x_iload_n C dX7_bestCall_27 rfl ?_
          refine x_callV (nA := 1) (As := [vI (31 - (n : Int))]) (rest := []) C (m_X7_takesDown hE (r := g) (md := q) rg hK (by omega) (by omega) (n := (31 - (n : Int))) ⟨by omega, by omega⟩) q_1048 q_1050 q_54 q_64 q_1051 (by decide +kernel) (wl_m 0 (by decide)) rfl rfl (by decide) (by decide) (Nat.le_of_ble_eq_true rfl) dX7_bestCall_28 rfl ?_
          have tk9 := mTake_r rg (by omega) (n := 31 - (n : Int))
          refine x_istore C dX7_bestCall_31 (by decide) (rfl : _ = [_, _, _, _, _]) ?_
          refine x_iload C dX7_bestCall_33 rfl ?_
          refine x_iload_n C dX7_bestCall_35 rfl ?_
          refine x_icmp_le 44 C dX7_bestCall_36 (by decide) ⟨by omega, by omega⟩ ⟨by omega, by omega⟩ (fun c_4 => ?_) (fun c_4 => ?_)
          · refine x_iinc C dX7_bestCall_44 rfl (by decide) (rfl : _ = [_, _, _, _, _]) ?_
            refine x_goto 20 C dX7_bestCall_47 (by decide) ?_
            obtain ⟨n9, rfl⟩ : ∃ n9, n = n9 + 1 := ⟨n - 1, by omega⟩
            have e0 : mTb q g (31 - ((n9 + 1 : Nat) : Int)) 0 = g 0 := mTb_i (by decide) (by decide)
            have e5 : mTb q g (31 - ((n9 + 1 : Nat) : Int)) 5 = g 5 := mTb_i (by decide) (by decide)
            refine G.wk (ih n9 (mLay q g) (mTb q g (31 - ((n9 + 1 : Nat) : Int))) b9 m9 (by omega) (MR_mTb rg) (by omega) (by omega) (by omega) (by rw [hq]; refine (show mBc (n9 + 1) _ q g b9 m9 = _ from if_neg (by omega)).trans ?_; congr 1; omega) (by omega)) ?_
            simp only [leL, and_self, and_true, true_and]; exact congrArg (fun z => some (vI z)) (by omega)
          · refine x_iload_n C dX7_bestCall_39 rfl ?_
            refine x_istore_n C dX7_bestCall_40 (by decide) (rfl : _ = [_, _, _, _, _]) ?_
            refine x_iload C dX7_bestCall_41 rfl ?_
            refine x_istore_n C dX7_bestCall_43 (by decide) (rfl : _ = [_, _, _, _, _]) ?_
            refine x_iinc C dX7_bestCall_44 rfl (by decide) (rfl : _ = [_, _, _, _, _]) ?_
            refine x_goto 20 C dX7_bestCall_47 (by decide) ?_
            obtain ⟨n9, rfl⟩ : ∃ n9, n = n9 + 1 := ⟨n - 1, by omega⟩
            have e0 : mTb q g (31 - ((n9 + 1 : Nat) : Int)) 0 = g 0 := mTb_i (by decide) (by decide)
            have e5 : mTb q g (31 - ((n9 + 1 : Nat) : Int)) 5 = g 5 := mTb_i (by decide) (by decide)
            refine G.wk (ih n9 (mLay q g) (mTb q g (31 - ((n9 + 1 : Nat) : Int))) (31 - ((n9 + 1 : Nat) : Int)) (mTake g (31 - ((n9 + 1 : Nat) : Int))) (by omega) (MR_mTb rg) (by omega) (by omega) (by omega) (by rw [hq]; refine (show mBc (n9 + 1) _ q g b9 m9 = _ from if_pos (by omega)).trans ?_; congr 1; omega) (by omega)) ?_
            simp only [leL, and_self, and_true, true_and]; exact congrArg (fun z => some (vI z)) (by omega)
    refine G.wk (K20 32 31 md r (-1000005) 0 (by omega) R (by omega) u5 (by decide) rfl (by omega)) ?_
    simp only [leL, and_self]; try trivial
  · refine x_ldc (n := (-1000005)) C q_821 dX7_bestCall_10 rfl ?_
    exact x_iret C D rfl dX7_bestCall_12 (by unfold yBest; rw [if_pos (by assumption)]) rfl rfl (by unfold yBest; rw [if_pos (by assumption)])
