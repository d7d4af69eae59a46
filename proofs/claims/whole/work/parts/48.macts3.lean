set_option maxRecDepth 100000 in
set_option maxHeartbeats 4000000 in
theorem m_X7_most {hs : Nat → HV} {tp md : HV} {E : HE} (hE : HI E) {k : Int} (kk0 : IR k) : Mt yX7_most cX7_most 1 (some .int) 1 E [vI k] hs tp md (some (vI (mMost k))) hs tp md := by
  refine mk_Mt hE (plainFor_of_name (by decide)) (Nat.le_of_ble_eq_true rfl) (by intro w0 hw0; simp only [List.mem_cons, List.not_mem_nil, or_false] at hw0; rcases hw0 with rfl <;> rfl) (rfl : _ = [_]) ?_
  intro F C D
  refine x_iload_n C dX7_most_0 rfl ?_
  by_cases v_1 : k = 0
  · subst v_1
    refine x_tabIn 56 C dX7_most_1 ⟨by omega, by omega⟩ (by omega) (by omega) (show _ = some (55 : Int) from rfl) (by decide) ?_
    refine x_bipush C dX7_most_56 (by decide) ?_
    exact x_iret C D rfl dX7_most_58 (by unfold mMost; (repeat (first | rw [if_pos (by first | omega | assumption | exact not_not_intro (by assumption))] | rw [if_neg (by first | omega | assumption | exact not_not_intro (by assumption))])); all_goals rfl) rfl rfl rfl
  by_cases v_2 : k = 1
  · subst v_2
    refine x_tabIn 59 C dX7_most_1 ⟨by omega, by omega⟩ (by omega) (by omega) (show _ = some (58 : Int) from rfl) (by decide) ?_
    refine x_bipush C dX7_most_59 (by decide) ?_
    exact x_iret C D rfl dX7_most_61 (by unfold mMost; (repeat (first | rw [if_pos (by first | omega | assumption | exact not_not_intro (by assumption))] | rw [if_neg (by first | omega | assumption | exact not_not_intro (by assumption))])); all_goals rfl) rfl rfl rfl
  by_cases v_3 : k = 2
  · subst v_3
    refine x_tabIn 72 C dX7_most_1 ⟨by omega, by omega⟩ (by omega) (by omega) (show _ = some (71 : Int) from rfl) (by decide) ?_
    refine x_bipush C dX7_most_72 (by decide) ?_
    exact x_iret C D rfl dX7_most_74 (by unfold mMost; (repeat (first | rw [if_pos (by first | omega | assumption | exact not_not_intro (by assumption))] | rw [if_neg (by first | omega | assumption | exact not_not_intro (by assumption))])); all_goals rfl) rfl rfl rfl
  by_cases v_4 : k = 3
  · subst v_4
    refine x_tabIn 72 C dX7_most_1 ⟨by omega, by omega⟩ (by omega) (by omega) (show _ = some (71 : Int) from rfl) (by decide) ?_
    refine x_bipush C dX7_most_72 (by decide) ?_
    exact x_iret C D rfl dX7_most_74 (by unfold mMost; (repeat (first | rw [if_pos (by first | omega | assumption | exact not_not_intro (by assumption))] | rw [if_neg (by first | omega | assumption | exact not_not_intro (by assumption))])); all_goals rfl) rfl rfl rfl
  by_cases v_5 : k = 4
  · subst v_5
    refine x_tabIn 62 C dX7_most_1 ⟨by omega, by omega⟩ (by omega) (by omega) (show _ = some (61 : Int) from rfl) (by decide) ?_
    refine x_bipush C dX7_most_62 (by decide) ?_
    exact x_iret C D rfl dX7_most_64 (by unfold mMost; (repeat (first | rw [if_pos (by first | omega | assumption | exact not_not_intro (by assumption))] | rw [if_neg (by first | omega | assumption | exact not_not_intro (by assumption))])); all_goals rfl) rfl rfl rfl
  by_cases v_6 : k = 5
  · subst v_6
    refine x_tabIn 62 C dX7_most_1 ⟨by omega, by omega⟩ (by omega) (by omega) (show _ = some (61 : Int) from rfl) (by decide) ?_
    refine x_bipush C dX7_most_62 (by decide) ?_
    exact x_iret C D rfl dX7_most_64 (by unfold mMost; (repeat (first | rw [if_pos (by first | omega | assumption | exact not_not_intro (by assumption))] | rw [if_neg (by first | omega | assumption | exact not_not_intro (by assumption))])); all_goals rfl) rfl rfl rfl
  by_cases v_7 : k = 6
  · subst v_7
    refine x_tabIn 65 C dX7_most_1 ⟨by omega, by omega⟩ (by omega) (by omega) (show _ = some (64 : Int) from rfl) (by decide) ?_
    refine x_bipush C dX7_most_65 (by decide) ?_
    exact x_iret C D rfl dX7_most_67 (by unfold mMost; (repeat (first | rw [if_pos (by first | omega | assumption | exact not_not_intro (by assumption))] | rw [if_neg (by first | omega | assumption | exact not_not_intro (by assumption))])); all_goals rfl) rfl rfl rfl
  by_cases v_8 : k = 7
  · subst v_8
    refine x_tabIn 72 C dX7_most_1 ⟨by omega, by omega⟩ (by omega) (by omega) (show _ = some (71 : Int) from rfl) (by decide) ?_
    refine x_bipush C dX7_most_72 (by decide) ?_
    exact x_iret C D rfl dX7_most_74 (by unfold mMost; (repeat (first | rw [if_pos (by first | omega | assumption | exact not_not_intro (by assumption))] | rw [if_neg (by first | omega | assumption | exact not_not_intro (by assumption))])); all_goals rfl) rfl rfl rfl
  by_cases v_9 : k = 8
  · subst v_9
    refine x_tabIn 59 C dX7_most_1 ⟨by omega, by omega⟩ (by omega) (by omega) (show _ = some (58 : Int) from rfl) (by decide) ?_
    refine x_bipush C dX7_most_59 (by decide) ?_
    exact x_iret C D rfl dX7_most_61 (by unfold mMost; (repeat (first | rw [if_pos (by first | omega | assumption | exact not_not_intro (by assumption))] | rw [if_neg (by first | omega | assumption | exact not_not_intro (by assumption))])); all_goals rfl) rfl rfl rfl
  by_cases v_10 : k = 9
  · subst v_10
    refine x_tabIn 68 C dX7_most_1 ⟨by omega, by omega⟩ (by omega) (by omega) (show _ = some (67 : Int) from rfl) (by decide) ?_
    refine x_sipush C dX7_most_68 (by decide) ?_
    exact x_iret C D rfl dX7_most_71 (by unfold mMost; (repeat (first | rw [if_pos (by first | omega | assumption | exact not_not_intro (by assumption))] | rw [if_neg (by first | omega | assumption | exact not_not_intro (by assumption))])); all_goals rfl) rfl rfl rfl
  refine x_tabOut 72 C dX7_most_1 ⟨by omega, by omega⟩ (by omega) (by decide) ?_
  refine x_bipush C dX7_most_72 (by decide) ?_
  exact x_iret C D rfl dX7_most_74 (by unfold mMost; (repeat (first | rw [if_pos (by first | omega | assumption | exact not_not_intro (by assumption))] | rw [if_neg (by first | omega | assumption | exact not_not_intro (by assumption))])); all_goals rfl) rfl rfl rfl
set_option maxRecDepth 100000 in
set_option maxHeartbeats 4000000 in
theorem m_X7_set {hs : Nat → HV} {tp md : HV} {E : HE} (hE : HI E) {r : Int → Int} {K : Int} (R : MR K r) (k0 : 0 ≤ md 0 6 ∧ md 0 6 ≤ 4) (hd : r 0 ≤ 999) {k w : Int} (kk0 : IR k) (w0 : IR w) : Mt yX7_set cX7_set 5 (some .int) 4 E [.ref (mA E 0), vI k, vI w] hs tp (upr md 1 r) (some (vI ((ySet md r k w).1))) hs tp ((ySet md r k w).2) := by
  refine mk_Mt hE (plainFor_of_name (by decide)) (Nat.le_of_ble_eq_true rfl) (by intro w0 hw0; simp only [List.mem_cons, List.not_mem_nil, or_false] at hw0; rcases hw0 with rfl | rfl | rfl <;> rfl) (rfl : _ = [_, _, _, _, _]) ?_
  intro F C D
  have rd0 := MR.day R
  refine x_iload_n C dX7_set_0 rfl ?_
  refine x_const C dX7_set_1 ?_
  refine x_bipush C dX7_set_2 (by decide) ?_
  refine x_callS (nA := 3) (As := [vI k, vI 0, vI 9]) (rest := []) C (m_X7_in hE (v := k) (l := 0) (m := 9) ⟨by omega, by omega⟩ ⟨by omega, by omega⟩ ⟨by omega, by omega⟩) q_787 q_788 q_64 q_789 (by decide +kernel) rfl (by decide) (by decide) (Nat.le_of_ble_eq_true rfl) dX7_set_4 rfl ?_
  refine x_bz_eq 35 C dX7_set_7 (by decide) (fun c_1 => ?_) (fun c_1 => ?_)
  · refine x_ldc (n := (-1000002)) C q_790 dX7_set_35 rfl ?_
    exact x_iret C D rfl dX7_set_37 (by unfold ySet; (repeat (first | rw [if_pos (by first | omega | assumption | exact not_not_intro (by assumption))] | rw [if_neg (by first | omega | assumption | exact not_not_intro (by assumption))])); all_goals rfl) rfl rfl (by unfold ySet; (repeat (first | rw [if_pos (by first | omega | assumption | exact not_not_intro (by assumption))] | rw [if_neg (by first | omega | assumption | exact not_not_intro (by assumption))])); all_goals rfl)
  · refine x_iload_n C dX7_set_10 rfl ?_
    refine x_iload_n C dX7_set_11 rfl ?_
    refine x_if_eq 20 C dX7_set_12 (by decide) ⟨by omega, by omega⟩ (fun c_2 => ?_) (fun c_2 => ?_)
    · refine x_const C dX7_set_20 ?_
      refine x_goto 25 C dX7_set_21 (by decide) ?_
      refine G.eqS ?_ (show _ = vI ((if k = 0 ∨ k = 5 then 1 else 0)) :: _ from congrArg (fun z => vI z :: _) ((if_pos (by omega)).symm))
      have lo9 : 0 ≤ (if k = 0 ∨ k = 5 then 1 else 0 : Int) ∧ (if k = 0 ∨ k = 5 then 1 else 0 : Int) ≤ 1 := by split <;> decide
      refine x_iload_n C dX7_set_25 rfl ?_
      refine x_callS (nA := 1) (As := [vI k]) (rest := [vI (if k = 0 ∨ k = 5 then 1 else 0), vI w]) C (m_X7_most hE (k := k) ⟨by omega, by omega⟩) q_952 q_953 q_64 q_954 (by decide +kernel) rfl (by decide) (by decide) (Nat.le_of_ble_eq_true rfl) dX7_set_26 rfl ?_
      have r_3 := mMost_r k
      refine x_callS (nA := 3) (As := [vI w, vI (if k = 0 ∨ k = 5 then 1 else 0), vI (mMost k)]) (rest := []) C (m_X7_in hE (v := w) (l := (if k = 0 ∨ k = 5 then 1 else 0)) (m := mMost k) ⟨by omega, by omega⟩ ⟨by omega, by omega⟩ ⟨by omega, by omega⟩) q_787 q_788 q_64 q_789 (by decide +kernel) rfl (by decide) (by decide) (Nat.le_of_ble_eq_true rfl) dX7_set_29 rfl ?_
      refine x_bz_ne 38 C dX7_set_32 (by decide) (fun c_4 => ?_) (fun c_4 => ?_)
      · refine x_aload_n C dX7_set_38 rfl ?_
        refine gm_0_0 C q_751 dX7_set_39 ?_
        refine x_bipush C dX7_set_42 (by decide) ?_
        refine x_iload_n C dX7_set_44 rfl ?_
        refine x_iadd C dX7_set_45 ?_
        refine lm_1 C (by omega) (by omega) dX7_set_46 (show _ = r (17 + k) from rfl) ?_
        have r_5 := MR.set' R (i := k) (by omega) (by omega)
        refine x_istore_n C dX7_set_47 (by decide) (rfl : _ = [_, _, _, _, _]) ?_
        refine x_iload_n C dX7_set_48 rfl ?_
        refine x_iload_n C dX7_set_49 rfl ?_
        refine x_icmp_ne 56 C dX7_set_50 (by decide) ⟨by omega, by omega⟩ ⟨by omega, by omega⟩ (fun c_6 => ?_) (fun c_6 => ?_)
        · refine x_aload_n C dX7_set_56 rfl ?_
          refine gm_0_0 C q_751 dX7_set_57 ?_
          refine x_const C dX7_set_60 ?_
          refine lm_1 C (by omega) (by omega) dX7_set_61 (show _ = r 0 from rfl) ?_
          have r_7 := MR.day R
          refine x_istore C dX7_set_62 (by decide) (rfl : _ = [_, _, _, _, _]) ?_
          have K64 : ∀ (nn : Nat) (i : Int), 0 ≤ i → i ≤ 1000 - r 0 → allI (fun q => decide (mTk r (r 0 + q) ≤ w)) i = true → 1100 - i < nn →  G F E hs tp (upr md 1 r) 64 [some (.ref (mA E 0)), some (vI k), some (vI w), some (vI (r (17 + k))), some (vI (r 0 + i))] [] := by
            intro nn
            induction nn with
            | zero => intro i i0 i1 hi hz; exact absurd hz (by omega)
            | succ nn ih =>
              intro i i0 i1 hi hz
              refine x_iload C dX7_set_64 rfl ?_
              refine x_sipush C dX7_set_66 (by decide) ?_
              refine x_icmp_gt 95 C dX7_set_69 (by decide) ⟨by omega, by omega⟩ ⟨by omega, by omega⟩ (fun c_8 => ?_) (fun c_8 => ?_)
              · refine x_aload_n C dX7_set_95 rfl ?_
                refine x_callV (nA := 0) (As := []) (rest := []) C (m_X7_record hE (r := r) (md := md) k0) q_809 q_811 q_25 q_64 q_812 (by decide +kernel) (wl_m 0 (by decide)) rfl rfl (by decide) (by decide) (Nat.le_of_ble_eq_true rfl) dX7_set_96 rfl ?_
                refine x_aload_n C dX7_set_99 rfl ?_
                refine gm_0_0 C q_751 dX7_set_100 ?_
                refine x_bipush C dX7_set_103 (by decide) ?_
                refine x_iload_n C dX7_set_105 rfl ?_
                refine x_iadd C dX7_set_106 ?_
                refine x_iload_n C dX7_set_107 rfl ?_
                refine sm_1 C (by omega) (by omega) dX7_set_108 upr_w ?_
                refine x_iload_n C dX7_set_109 rfl ?_
                exact x_iret C D rfl dX7_set_110 (by unfold ySet; rw [if_neg (by omega), if_neg (by assumption), if_neg (fun q => by first | exact absurd q.1 (by assumption) | exact q.2 (by rw [show 1000 - r 0 = i by omega]; exact hi))]) rfl rfl (by unfold ySet; rw [if_neg (by omega), if_neg (by assumption), if_neg (fun q => by first | exact absurd q.1 (by assumption) | exact q.2 (by rw [show 1000 - r 0 = i by omega]; exact hi))])
              · refine x_iload_n C dX7_set_72 rfl ?_
                refine x_if_ne 95 C dX7_set_73 (by decide) ⟨by omega, by omega⟩ (fun c_9 => ?_) (fun c_9 => ?_)
                · refine x_aload_n C dX7_set_95 rfl ?_
                  refine x_callV (nA := 0) (As := []) (rest := []) C (m_X7_record hE (r := r) (md := md) k0) q_809 q_811 q_25 q_64 q_812 (by decide +kernel) (wl_m 0 (by decide)) rfl rfl (by decide) (by decide) (Nat.le_of_ble_eq_true rfl) dX7_set_96 rfl ?_
                  refine x_aload_n C dX7_set_99 rfl ?_
                  refine gm_0_0 C q_751 dX7_set_100 ?_
                  refine x_bipush C dX7_set_103 (by decide) ?_
                  refine x_iload_n C dX7_set_105 rfl ?_
                  refine x_iadd C dX7_set_106 ?_
                  refine x_iload_n C dX7_set_107 rfl ?_
                  refine sm_1 C (by omega) (by omega) dX7_set_108 upr_w ?_
                  refine x_iload_n C dX7_set_109 rfl ?_
                  exact x_iret C D rfl dX7_set_110 (by unfold ySet; rw [if_neg (by omega), if_neg (by assumption), if_neg (fun q => by first | exact absurd q.1 (by assumption) | exact q.2 (by rw [show 1000 - r 0 = i by omega]; exact hi))]) rfl rfl (by unfold ySet; rw [if_neg (by omega), if_neg (by assumption), if_neg (fun q => by first | exact absurd q.1 (by assumption) | exact q.2 (by rw [show 1000 - r 0 = i by omega]; exact hi))])
                · refine x_aload_n C dX7_set_76 rfl ?_
                  refine x_iload C dX7_set_77 rfl ?_
                  refine x_callV (nA := 1) (As := [vI (r 0 + i)]) (rest := []) C (m_X7_taken hE (r := r) R (n := (r 0 + i)) ⟨by omega, by omega⟩) q_795 q_797 q_22 q_64 q_798 (by decide +kernel) (wl_m 0 (by decide)) rfl rfl (by decide) (by decide) (Nat.le_of_ble_eq_true rfl) dX7_set_79 rfl ?_
                  have r_10 := mTk_r R (n := (r 0 + i))
                  refine x_iload_n C dX7_set_82 rfl ?_
                  refine x_icmp_le 89 C dX7_set_83 (by decide) ⟨by omega, by omega⟩ ⟨by omega, by omega⟩ (fun c_11 => ?_) (fun c_11 => ?_)
                  · refine x_iinc C dX7_set_89 rfl (by decide) (rfl : _ = [_, _, _, _, _]) ?_
                    refine x_goto 64 C dX7_set_92 (by decide) ?_
                    refine G.wk (ih (i + 1) (by omega) (by omega) (by rw [allI_s i0, hi]; simpa using c_11) (by omega)) ?_
                    simp only [leL, Int.add_assoc, and_self]
                  · refine x_ldc (n := (-1000004)) C q_807 dX7_set_86 rfl ?_
                    exact x_iret C D rfl dX7_set_88 (by unfold ySet; rw [if_neg (by omega), if_neg (by assumption), if_pos ⟨by assumption, fun q => by have q2 := (allI_iff (show 0 ≤ 1000 - r 0 by omega)).mp q i i0 (by omega); simp at q2; omega⟩]) rfl rfl (by unfold ySet; rw [if_neg (by omega), if_neg (by assumption), if_pos ⟨by assumption, fun q => by have q2 := (allI_iff (show 0 ≤ 1000 - r 0 by omega)).mp q i i0 (by omega); simp at q2; omega⟩])
          refine G.wk (K64 1101 0 (by omega) (by omega) allI_0 (by omega)) ?_
          simp only [leL, Int.add_zero, and_self]
        · refine x_ldc (n := (-1000005)) C q_821 dX7_set_53 rfl ?_
          exact x_iret C D rfl dX7_set_55 (by unfold ySet; (repeat (first | rw [if_pos (by first | omega | assumption | exact not_not_intro (by assumption))] | rw [if_neg (by first | omega | assumption | exact not_not_intro (by assumption))])); all_goals rfl) rfl rfl (by unfold ySet; (repeat (first | rw [if_pos (by first | omega | assumption | exact not_not_intro (by assumption))] | rw [if_neg (by first | omega | assumption | exact not_not_intro (by assumption))])); all_goals rfl)
      · refine x_ldc (n := (-1000002)) C q_790 dX7_set_35 rfl ?_
        exact x_iret C D rfl dX7_set_37 (by unfold ySet; (repeat (first | rw [if_pos (by first | omega | assumption | exact not_not_intro (by assumption))] | rw [if_neg (by first | omega | assumption | exact not_not_intro (by assumption))])); all_goals rfl) rfl rfl (by unfold ySet; (repeat (first | rw [if_pos (by first | omega | assumption | exact not_not_intro (by assumption))] | rw [if_neg (by first | omega | assumption | exact not_not_intro (by assumption))])); all_goals rfl)
    · refine x_iload_n C dX7_set_15 rfl ?_
      refine x_const C dX7_set_16 ?_
      refine x_icmp_ne 24 C dX7_set_17 (by decide) ⟨by omega, by omega⟩ ⟨by omega, by omega⟩ (fun c_12 => ?_) (fun c_12 => ?_)
      · refine x_const C dX7_set_24 ?_
        refine G.eqS ?_ (show _ = vI ((if k = 0 ∨ k = 5 then 1 else 0)) :: _ from congrArg (fun z => vI z :: _) ((if_neg (by omega)).symm))
        have lo9 : 0 ≤ (if k = 0 ∨ k = 5 then 1 else 0 : Int) ∧ (if k = 0 ∨ k = 5 then 1 else 0 : Int) ≤ 1 := by split <;> decide
        refine x_iload_n C dX7_set_25 rfl ?_
        refine x_callS (nA := 1) (As := [vI k]) (rest := [vI (if k = 0 ∨ k = 5 then 1 else 0), vI w]) C (m_X7_most hE (k := k) ⟨by omega, by omega⟩) q_952 q_953 q_64 q_954 (by decide +kernel) rfl (by decide) (by decide) (Nat.le_of_ble_eq_true rfl) dX7_set_26 rfl ?_
        have r_13 := mMost_r k
        refine x_callS (nA := 3) (As := [vI w, vI (if k = 0 ∨ k = 5 then 1 else 0), vI (mMost k)]) (rest := []) C (m_X7_in hE (v := w) (l := (if k = 0 ∨ k = 5 then 1 else 0)) (m := mMost k) ⟨by omega, by omega⟩ ⟨by omega, by omega⟩ ⟨by omega, by omega⟩) q_787 q_788 q_64 q_789 (by decide +kernel) rfl (by decide) (by decide) (Nat.le_of_ble_eq_true rfl) dX7_set_29 rfl ?_
        refine x_bz_ne 38 C dX7_set_32 (by decide) (fun c_14 => ?_) (fun c_14 => ?_)
        · refine x_aload_n C dX7_set_38 rfl ?_
          refine gm_0_0 C q_751 dX7_set_39 ?_
          refine x_bipush C dX7_set_42 (by decide) ?_
          refine x_iload_n C dX7_set_44 rfl ?_
          refine x_iadd C dX7_set_45 ?_
          refine lm_1 C (by omega) (by omega) dX7_set_46 (show _ = r (17 + k) from rfl) ?_
          have r_15 := MR.set' R (i := k) (by omega) (by omega)
          refine x_istore_n C dX7_set_47 (by decide) (rfl : _ = [_, _, _, _, _]) ?_
          refine x_iload_n C dX7_set_48 rfl ?_
          refine x_iload_n C dX7_set_49 rfl ?_
          refine x_icmp_ne 56 C dX7_set_50 (by decide) ⟨by omega, by omega⟩ ⟨by omega, by omega⟩ (fun c_16 => ?_) (fun c_16 => ?_)
          · refine x_aload_n C dX7_set_56 rfl ?_
            refine gm_0_0 C q_751 dX7_set_57 ?_
            refine x_const C dX7_set_60 ?_
            refine lm_1 C (by omega) (by omega) dX7_set_61 (show _ = r 0 from rfl) ?_
            have r_17 := MR.day R
            refine x_istore C dX7_set_62 (by decide) (rfl : _ = [_, _, _, _, _]) ?_
            have K64 : ∀ (nn : Nat) (i : Int), 0 ≤ i → i ≤ 1000 - r 0 → allI (fun q => decide (mTk r (r 0 + q) ≤ w)) i = true → 1100 - i < nn →  G F E hs tp (upr md 1 r) 64 [some (.ref (mA E 0)), some (vI k), some (vI w), some (vI (r (17 + k))), some (vI (r 0 + i))] [] := by
              intro nn
              induction nn with
              | zero => intro i i0 i1 hi hz; exact absurd hz (by omega)
              | succ nn ih =>
                intro i i0 i1 hi hz
                refine x_iload C dX7_set_64 rfl ?_
                refine x_sipush C dX7_set_66 (by decide) ?_
                refine x_icmp_gt 95 C dX7_set_69 (by decide) ⟨by omega, by omega⟩ ⟨by omega, by omega⟩ (fun c_18 => ?_) (fun c_18 => ?_)
                · refine x_aload_n C dX7_set_95 rfl ?_
                  refine x_callV (nA := 0) (As := []) (rest := []) C (m_X7_record hE (r := r) (md := md) k0) q_809 q_811 q_25 q_64 q_812 (by decide +kernel) (wl_m 0 (by decide)) rfl rfl (by decide) (by decide) (Nat.le_of_ble_eq_true rfl) dX7_set_96 rfl ?_
                  refine x_aload_n C dX7_set_99 rfl ?_
                  refine gm_0_0 C q_751 dX7_set_100 ?_
                  refine x_bipush C dX7_set_103 (by decide) ?_
                  refine x_iload_n C dX7_set_105 rfl ?_
                  refine x_iadd C dX7_set_106 ?_
                  refine x_iload_n C dX7_set_107 rfl ?_
                  refine sm_1 C (by omega) (by omega) dX7_set_108 upr_w ?_
                  refine x_iload_n C dX7_set_109 rfl ?_
                  exact x_iret C D rfl dX7_set_110 (by unfold ySet; rw [if_neg (by omega), if_neg (by assumption), if_neg (fun q => by first | exact absurd q.1 (by assumption) | exact q.2 (by rw [show 1000 - r 0 = i by omega]; exact hi))]) rfl rfl (by unfold ySet; rw [if_neg (by omega), if_neg (by assumption), if_neg (fun q => by first | exact absurd q.1 (by assumption) | exact q.2 (by rw [show 1000 - r 0 = i by omega]; exact hi))])
                · refine x_iload_n C dX7_set_72 rfl ?_
                  refine x_if_ne 95 C dX7_set_73 (by decide) ⟨by omega, by omega⟩ (fun c_19 => ?_) (fun c_19 => ?_)
                  · refine x_aload_n C dX7_set_95 rfl ?_
                    refine x_callV (nA := 0) (As := []) (rest := []) C (m_X7_record hE (r := r) (md := md) k0) q_809 q_811 q_25 q_64 q_812 (by decide +kernel) (wl_m 0 (by decide)) rfl rfl (by decide) (by decide) (Nat.le_of_ble_eq_true rfl) dX7_set_96 rfl ?_
                    refine x_aload_n C dX7_set_99 rfl ?_
                    refine gm_0_0 C q_751 dX7_set_100 ?_
                    refine x_bipush C dX7_set_103 (by decide) ?_
                    refine x_iload_n C dX7_set_105 rfl ?_
                    refine x_iadd C dX7_set_106 ?_
                    refine x_iload_n C dX7_set_107 rfl ?_
                    refine sm_1 C (by omega) (by omega) dX7_set_108 upr_w ?_
                    refine x_iload_n C dX7_set_109 rfl ?_
                    exact x_iret C D rfl dX7_set_110 (by unfold ySet; rw [if_neg (by omega), if_neg (by assumption), if_neg (fun q => by first | exact absurd q.1 (by assumption) | exact q.2 (by rw [show 1000 - r 0 = i by omega]; exact hi))]) rfl rfl (by unfold ySet; rw [if_neg (by omega), if_neg (by assumption), if_neg (fun q => by first | exact absurd q.1 (by assumption) | exact q.2 (by rw [show 1000 - r 0 = i by omega]; exact hi))])
                  · refine x_aload_n C dX7_set_76 rfl ?_
                    refine x_iload C dX7_set_77 rfl ?_
                    refine x_callV (nA := 1) (As := [vI (r 0 + i)]) (rest := []) C (m_X7_taken hE (r := r) R (n := (r 0 + i)) ⟨by omega, by omega⟩) q_795 q_797 q_22 q_64 q_798 (by decide +kernel) (wl_m 0 (by decide)) rfl rfl (by decide) (by decide) (Nat.le_of_ble_eq_true rfl) dX7_set_79 rfl ?_
                    have r_20 := mTk_r R (n := (r 0 + i))
                    refine x_iload_n C dX7_set_82 rfl ?_
                    refine x_icmp_le 89 C dX7_set_83 (by decide) ⟨by omega, by omega⟩ ⟨by omega, by omega⟩ (fun c_21 => ?_) (fun c_21 => ?_)
                    · refine x_iinc C dX7_set_89 rfl (by decide) (rfl : _ = [_, _, _, _, _]) ?_
                      refine x_goto 64 C dX7_set_92 (by decide) ?_
                      refine G.wk (ih (i + 1) (by omega) (by omega) (by rw [allI_s i0, hi]; simpa using c_21) (by omega)) ?_
                      simp only [leL, Int.add_assoc, and_self]
                    · refine x_ldc (n := (-1000004)) C q_807 dX7_set_86 rfl ?_
                      exact x_iret C D rfl dX7_set_88 (by unfold ySet; rw [if_neg (by omega), if_neg (by assumption), if_pos ⟨by assumption, fun q => by have q2 := (allI_iff (show 0 ≤ 1000 - r 0 by omega)).mp q i i0 (by omega); simp at q2; omega⟩]) rfl rfl (by unfold ySet; rw [if_neg (by omega), if_neg (by assumption), if_pos ⟨by assumption, fun q => by have q2 := (allI_iff (show 0 ≤ 1000 - r 0 by omega)).mp q i i0 (by omega); simp at q2; omega⟩])
            refine G.wk (K64 1101 0 (by omega) (by omega) allI_0 (by omega)) ?_
            simp only [leL, Int.add_zero, and_self]
          · refine x_ldc (n := (-1000005)) C q_821 dX7_set_53 rfl ?_
            exact x_iret C D rfl dX7_set_55 (by unfold ySet; (repeat (first | rw [if_pos (by first | omega | assumption | exact not_not_intro (by assumption))] | rw [if_neg (by first | omega | assumption | exact not_not_intro (by assumption))])); all_goals rfl) rfl rfl (by unfold ySet; (repeat (first | rw [if_pos (by first | omega | assumption | exact not_not_intro (by assumption))] | rw [if_neg (by first | omega | assumption | exact not_not_intro (by assumption))])); all_goals rfl)
        · refine x_ldc (n := (-1000002)) C q_790 dX7_set_35 rfl ?_
          exact x_iret C D rfl dX7_set_37 (by unfold ySet; (repeat (first | rw [if_pos (by first | omega | assumption | exact not_not_intro (by assumption))] | rw [if_neg (by first | omega | assumption | exact not_not_intro (by assumption))])); all_goals rfl) rfl rfl (by unfold ySet; (repeat (first | rw [if_pos (by first | omega | assumption | exact not_not_intro (by assumption))] | rw [if_neg (by first | omega | assumption | exact not_not_intro (by assumption))])); all_goals rfl)
      · refine x_const C dX7_set_20 ?_
        refine x_goto 25 C dX7_set_21 (by decide) ?_
        refine G.eqS ?_ (show _ = vI ((if k = 0 ∨ k = 5 then 1 else 0)) :: _ from congrArg (fun z => vI z :: _) ((if_pos (by omega)).symm))
        have lo9 : 0 ≤ (if k = 0 ∨ k = 5 then 1 else 0 : Int) ∧ (if k = 0 ∨ k = 5 then 1 else 0 : Int) ≤ 1 := by split <;> decide
        refine x_iload_n C dX7_set_25 rfl ?_
        refine x_callS (nA := 1) (As := [vI k]) (rest := [vI (if k = 0 ∨ k = 5 then 1 else 0), vI w]) C (m_X7_most hE (k := k) ⟨by omega, by omega⟩) q_952 q_953 q_64 q_954 (by decide +kernel) rfl (by decide) (by decide) (Nat.le_of_ble_eq_true rfl) dX7_set_26 rfl ?_
        have r_22 := mMost_r k
        refine x_callS (nA := 3) (As := [vI w, vI (if k = 0 ∨ k = 5 then 1 else 0), vI (mMost k)]) (rest := []) C (m_X7_in hE (v := w) (l := (if k = 0 ∨ k = 5 then 1 else 0)) (m := mMost k) ⟨by omega, by omega⟩ ⟨by omega, by omega⟩ ⟨by omega, by omega⟩) q_787 q_788 q_64 q_789 (by decide +kernel) rfl (by decide) (by decide) (Nat.le_of_ble_eq_true rfl) dX7_set_29 rfl ?_
        refine x_bz_ne 38 C dX7_set_32 (by decide) (fun c_23 => ?_) (fun c_23 => ?_)
        · refine x_aload_n C dX7_set_38 rfl ?_
          refine gm_0_0 C q_751 dX7_set_39 ?_
          refine x_bipush C dX7_set_42 (by decide) ?_
          refine x_iload_n C dX7_set_44 rfl ?_
          refine x_iadd C dX7_set_45 ?_
          refine lm_1 C (by omega) (by omega) dX7_set_46 (show _ = r (17 + k) from rfl) ?_
          have r_24 := MR.set' R (i := k) (by omega) (by omega)
          refine x_istore_n C dX7_set_47 (by decide) (rfl : _ = [_, _, _, _, _]) ?_
          refine x_iload_n C dX7_set_48 rfl ?_
          refine x_iload_n C dX7_set_49 rfl ?_
          refine x_icmp_ne 56 C dX7_set_50 (by decide) ⟨by omega, by omega⟩ ⟨by omega, by omega⟩ (fun c_25 => ?_) (fun c_25 => ?_)
          · refine x_aload_n C dX7_set_56 rfl ?_
            refine gm_0_0 C q_751 dX7_set_57 ?_
            refine x_const C dX7_set_60 ?_
            refine lm_1 C (by omega) (by omega) dX7_set_61 (show _ = r 0 from rfl) ?_
            have r_26 := MR.day R
            refine x_istore C dX7_set_62 (by decide) (rfl : _ = [_, _, _, _, _]) ?_
            have K64 : ∀ (nn : Nat) (i : Int), 0 ≤ i → i ≤ 1000 - r 0 → allI (fun q => decide (mTk r (r 0 + q) ≤ w)) i = true → 1100 - i < nn →  G F E hs tp (upr md 1 r) 64 [some (.ref (mA E 0)), some (vI k), some (vI w), some (vI (r (17 + k))), some (vI (r 0 + i))] [] := by
              intro nn
              induction nn with
              | zero => intro i i0 i1 hi hz; exact absurd hz (by omega)
              | succ nn ih =>
                intro i i0 i1 hi hz
                refine x_iload C dX7_set_64 rfl ?_
                refine x_sipush C dX7_set_66 (by decide) ?_
                refine x_icmp_gt 95 C dX7_set_69 (by decide) ⟨by omega, by omega⟩ ⟨by omega, by omega⟩ (fun c_27 => ?_) (fun c_27 => ?_)
                · refine x_aload_n C dX7_set_95 rfl ?_
                  refine x_callV (nA := 0) (As := []) (rest := []) C (m_X7_record hE (r := r) (md := md) k0) q_809 q_811 q_25 q_64 q_812 (by decide +kernel) (wl_m 0 (by decide)) rfl rfl (by decide) (by decide) (Nat.le_of_ble_eq_true rfl) dX7_set_96 rfl ?_
                  refine x_aload_n C dX7_set_99 rfl ?_
                  refine gm_0_0 C q_751 dX7_set_100 ?_
                  refine x_bipush C dX7_set_103 (by decide) ?_
                  refine x_iload_n C dX7_set_105 rfl ?_
                  refine x_iadd C dX7_set_106 ?_
                  refine x_iload_n C dX7_set_107 rfl ?_
                  refine sm_1 C (by omega) (by omega) dX7_set_108 upr_w ?_
                  refine x_iload_n C dX7_set_109 rfl ?_
                  exact x_iret C D rfl dX7_set_110 (by unfold ySet; rw [if_neg (by omega), if_neg (by assumption), if_neg (fun q => by first | exact absurd q.1 (by assumption) | exact q.2 (by rw [show 1000 - r 0 = i by omega]; exact hi))]) rfl rfl (by unfold ySet; rw [if_neg (by omega), if_neg (by assumption), if_neg (fun q => by first | exact absurd q.1 (by assumption) | exact q.2 (by rw [show 1000 - r 0 = i by omega]; exact hi))])
                · refine x_iload_n C dX7_set_72 rfl ?_
                  refine x_if_ne 95 C dX7_set_73 (by decide) ⟨by omega, by omega⟩ (fun c_28 => ?_) (fun c_28 => ?_)
                  · refine x_aload_n C dX7_set_95 rfl ?_
                    refine x_callV (nA := 0) (As := []) (rest := []) C (m_X7_record hE (r := r) (md := md) k0) q_809 q_811 q_25 q_64 q_812 (by decide +kernel) (wl_m 0 (by decide)) rfl rfl (by decide) (by decide) (Nat.le_of_ble_eq_true rfl) dX7_set_96 rfl ?_
                    refine x_aload_n C dX7_set_99 rfl ?_
                    refine gm_0_0 C q_751 dX7_set_100 ?_
                    refine x_bipush C dX7_set_103 (by decide) ?_
                    refine x_iload_n C dX7_set_105 rfl ?_
                    refine x_iadd C dX7_set_106 ?_
                    refine x_iload_n C dX7_set_107 rfl ?_
                    refine sm_1 C (by omega) (by omega) dX7_set_108 upr_w ?_
                    refine x_iload_n C dX7_set_109 rfl ?_
                    exact x_iret C D rfl dX7_set_110 (by unfold ySet; rw [if_neg (by omega), if_neg (by assumption), if_neg (fun q => by first | exact absurd q.1 (by assumption) | exact q.2 (by rw [show 1000 - r 0 = i by omega]; exact hi))]) rfl rfl (by unfold ySet; rw [if_neg (by omega), if_neg (by assumption), if_neg (fun q => by first | exact absurd q.1 (by assumption) | exact q.2 (by rw [show 1000 - r 0 = i by omega]; exact hi))])
                  · refine x_aload_n C dX7_set_76 rfl ?_
                    refine x_iload C dX7_set_77 rfl ?_
                    refine x_callV (nA := 1) (As := [vI (r 0 + i)]) (rest := []) C (m_X7_taken hE (r := r) R (n := (r 0 + i)) ⟨by omega, by omega⟩) q_795 q_797 q_22 q_64 q_798 (by decide +kernel) (wl_m 0 (by decide)) rfl rfl (by decide) (by decide) (Nat.le_of_ble_eq_true rfl) dX7_set_79 rfl ?_
                    have r_29 := mTk_r R (n := (r 0 + i))
                    refine x_iload_n C dX7_set_82 rfl ?_
                    refine x_icmp_le 89 C dX7_set_83 (by decide) ⟨by omega, by omega⟩ ⟨by omega, by omega⟩ (fun c_30 => ?_) (fun c_30 => ?_)
                    · refine x_iinc C dX7_set_89 rfl (by decide) (rfl : _ = [_, _, _, _, _]) ?_
                      refine x_goto 64 C dX7_set_92 (by decide) ?_
                      refine G.wk (ih (i + 1) (by omega) (by omega) (by rw [allI_s i0, hi]; simpa using c_30) (by omega)) ?_
                      simp only [leL, Int.add_assoc, and_self]
                    · refine x_ldc (n := (-1000004)) C q_807 dX7_set_86 rfl ?_
                      exact x_iret C D rfl dX7_set_88 (by unfold ySet; rw [if_neg (by omega), if_neg (by assumption), if_pos ⟨by assumption, fun q => by have q2 := (allI_iff (show 0 ≤ 1000 - r 0 by omega)).mp q i i0 (by omega); simp at q2; omega⟩]) rfl rfl (by unfold ySet; rw [if_neg (by omega), if_neg (by assumption), if_pos ⟨by assumption, fun q => by have q2 := (allI_iff (show 0 ≤ 1000 - r 0 by omega)).mp q i i0 (by omega); simp at q2; omega⟩])
            refine G.wk (K64 1101 0 (by omega) (by omega) allI_0 (by omega)) ?_
            simp only [leL, Int.add_zero, and_self]
          · refine x_ldc (n := (-1000005)) C q_821 dX7_set_53 rfl ?_
            exact x_iret C D rfl dX7_set_55 (by unfold ySet; (repeat (first | rw [if_pos (by first | omega | assumption | exact not_not_intro (by assumption))] | rw [if_neg (by first | omega | assumption | exact not_not_intro (by assumption))])); all_goals rfl) rfl rfl (by unfold ySet; (repeat (first | rw [if_pos (by first | omega | assumption | exact not_not_intro (by assumption))] | rw [if_neg (by first | omega | assumption | exact not_not_intro (by assumption))])); all_goals rfl)
        · refine x_ldc (n := (-1000002)) C q_790 dX7_set_35 rfl ?_
          exact x_iret C D rfl dX7_set_37 (by unfold ySet; (repeat (first | rw [if_pos (by first | omega | assumption | exact not_not_intro (by assumption))] | rw [if_neg (by first | omega | assumption | exact not_not_intro (by assumption))])); all_goals rfl) rfl rfl (by unfold ySet; (repeat (first | rw [if_pos (by first | omega | assumption | exact not_not_intro (by assumption))] | rw [if_neg (by first | omega | assumption | exact not_not_intro (by assumption))])); all_goals rfl)
set_option maxRecDepth 100000 in
set_option maxHeartbeats 4000000 in
theorem m_X7_undo {hs : Nat → HV} {tp md : HV} {E : HE} (hE : HI E) {r : Int → Int} {K : Int} (R : MR K r) (k0 : 0 ≤ md 0 6 ∧ md 0 6 ≤ 4) : Mt yX7_undo cX7_undo 2 (some .int) 1 E [.ref (mA E 0)] hs tp (upr md 1 r) (some (vI ((yUndo md r).1))) hs tp ((yUndo md r).2) := by
  refine mk_Mt hE (plainFor_of_name (by decide)) (Nat.le_of_ble_eq_true rfl) (by intro w0 hw0; simp only [List.mem_cons, List.not_mem_nil, or_false] at hw0; rcases hw0 with rfl <;> rfl) (rfl : _ = [_, _]) ?_
  intro F C D
  refine x_aload_n C dX7_undo_0 rfl ?_
  refine gm_0_6 C q_757 dX7_undo_1 (show _ = md 0 6 from rfl) ?_
  refine x_if_ne 10 C dX7_undo_4 (by decide) ⟨by omega, by omega⟩ (fun c_1 => ?_) (fun c_1 => ?_)
  · refine x_aload_n C dX7_undo_10 rfl ?_
    refine x_dup C dX7_undo_11 rfl ?_
    refine gm_0_6 C q_757 dX7_undo_12 (show _ = md 0 6 from rfl) ?_
    refine x_const C dX7_undo_15 ?_
    refine x_isub C dX7_undo_16 ?_
    refine pm_0_6 C q_757 dX7_undo_17 rfl ?_
    refine G.of ?_ rfl rfl (show _ = upr (mUn md) 1 (r) from upr_cm (by decide)) rfl
    have mu := mUn_k (md := md)
    refine x_const C dX7_undo_20 ?_
    refine x_istore_n C dX7_undo_21 (by decide) (rfl : _ = [_, _]) ?_
    have K22 : ∀ (nn : Nat) (k : Int), 0 ≤ k → k ≤ 2739 → 2800 - k < nn →  G F E hs tp (upr (mUn md) 1 (cpI (fun i => mUn md 4 (2739 * mUn md 0 6 + i)) r k)) 22 [some (.ref (mA E 0)), some (vI k)] [] := by
      intro nn
      induction nn with
      | zero => intro k i0 i1 hz; exact absurd hz (by omega)
      | succ nn ih =>
        intro k i0 i1 hz
        refine x_iload_n C dX7_undo_22 rfl ?_
        refine x_sipush C dX7_undo_23 (by decide) ?_
        refine x_icmp_ge 56 C dX7_undo_26 (by decide) ⟨by omega, by omega⟩ ⟨by omega, by omega⟩ (fun c_2 => ?_) (fun c_2 => ?_)
        · refine x_aload_n C dX7_undo_56 rfl ?_
          refine gm_0_6 C q_757 dX7_undo_57 (show _ = (mUn md) 0 6 from rfl) ?_
          exact x_iret C D rfl dX7_undo_60 (by unfold yUndo; rw [if_neg (by assumption)]; exact mu) rfl rfl (by unfold yUndo; rw [if_neg (by assumption), show k = 2739 by omega])
        · refine x_aload_n C dX7_undo_29 rfl ?_
          refine gm_0_0 C q_751 dX7_undo_30 ?_
          refine x_iload_n C dX7_undo_33 rfl ?_
          refine x_aload_n C dX7_undo_34 rfl ?_
          refine gm_0_3 C q_754 dX7_undo_35 ?_
          refine x_sipush C dX7_undo_38 (by decide) ?_
          refine x_aload_n C dX7_undo_41 rfl ?_
          refine gm_0_6 C q_757 dX7_undo_42 (show _ = (mUn md) 0 6 from rfl) ?_
          refine x_imul C dX7_undo_45 ?_
          refine x_iload_n C dX7_undo_46 rfl ?_
          refine x_iadd C dX7_undo_47 ?_
          refine lm_4 C (by omega) (by omega) dX7_undo_48 (show _ = (mUn md) 4 ((2739 * ((mUn md) 0 6)) + k) from rfl) ?_
          refine sm_1 C (by omega) (by omega) dX7_undo_49 upr_w ?_
          refine x_iinc C dX7_undo_50 rfl (by decide) (rfl : _ = [_, _]) ?_
          refine x_goto 22 C dX7_undo_53 (by decide) ?_
          refine G.of (G.wk (ih (k + 1) (by omega) (by omega) (by omega)) ?_) rfl rfl ?_ rfl
          · simp only [leL, and_self]
          · rw [← cpI_s i0]
    refine G.of (K22 2801 0 (by omega) (by omega) (by omega)) rfl rfl ?_ rfl
    rw [cpI_0]
  · refine x_ldc (n := (-1000005)) C q_821 dX7_undo_7 rfl ?_
    exact x_iret C D rfl dX7_undo_9 (by unfold yUndo; (repeat (first | rw [if_pos (by first | omega | assumption | exact not_not_intro (by assumption))] | rw [if_neg (by first | omega | assumption | exact not_not_intro (by assumption))])); all_goals rfl) rfl rfl (by unfold yUndo; (repeat (first | rw [if_pos (by first | omega | assumption | exact not_not_intro (by assumption))] | rw [if_neg (by first | omega | assumption | exact not_not_intro (by assumption))])); all_goals rfl)
set_option maxRecDepth 100000 in
set_option maxHeartbeats 4000000 in
theorem m_X7_keep {hs : Nat → HV} {tp md : HV} {E : HE} (hE : HI E) {r : Int → Int} : Mt yX7_keep cX7_keep 2 (some .int) 1 E [.ref (mA E 0)] hs tp (upr md 1 r) (some (vI (r 0))) hs tp (upr (mKeep md r) 1 r) := by
  refine mk_Mt hE (plainFor_of_name (by decide)) (Nat.le_of_ble_eq_true rfl) (by intro w0 hw0; simp only [List.mem_cons, List.not_mem_nil, or_false] at hw0; rcases hw0 with rfl <;> rfl) (rfl : _ = [_, _]) ?_
  intro F C D
  refine x_const C dX7_keep_0 ?_
  refine x_istore_n C dX7_keep_1 (by decide) (rfl : _ = [_, _]) ?_
  have K2 : ∀ (nn : Nat) (k : Int), 0 ≤ k → k ≤ 2739 → 2800 - k < nn →  G F E hs tp (upr (upr md 1 r) 2 (cpI r (md 2) k)) 2 [some (.ref (mA E 0)), some (vI k)] [] := by
    intro nn
    induction nn with
    | zero => intro k i0 i1 hz; exact absurd hz (by omega)
    | succ nn ih =>
      intro k i0 i1 hz
      refine x_iload_n C dX7_keep_2 rfl ?_
      refine x_sipush C dX7_keep_3 (by decide) ?_
      refine x_icmp_ge 27 C dX7_keep_6 (by decide) ⟨by omega, by omega⟩ ⟨by omega, by omega⟩ (fun c_1 => ?_) (fun c_1 => ?_)
      · refine x_aload_n C dX7_keep_27 rfl ?_
        refine x_const C dX7_keep_28 ?_
        refine pm_0_8 C (Or.inr rfl) q_759 dX7_keep_29 rfl ?_
        refine x_aload_n C dX7_keep_32 rfl ?_
        refine gm_0_0 C q_751 dX7_keep_33 ?_
        refine x_const C dX7_keep_36 ?_
        refine lm_1 C (by omega) (by omega) dX7_keep_37 (show _ = r 0 from rfl) ?_
        exact x_iret C D rfl dX7_keep_38 rfl rfl rfl (by rw [show k = 2739 by omega]; exact upr_mv (by decide) (by decide))
      · refine x_aload_n C dX7_keep_9 rfl ?_
        refine gm_0_1 C q_752 dX7_keep_10 ?_
        refine x_iload_n C dX7_keep_13 rfl ?_
        refine x_aload_n C dX7_keep_14 rfl ?_
        refine gm_0_0 C q_751 dX7_keep_15 ?_
        refine x_iload_n C dX7_keep_18 rfl ?_
        refine lm_1 C (by omega) (by omega) dX7_keep_19 (show _ = r k from rfl) ?_
        refine sm_2 C (by omega) (by omega) dX7_keep_20 upr_w ?_
        refine x_iinc C dX7_keep_21 rfl (by decide) (rfl : _ = [_, _]) ?_
        refine x_goto 2 C dX7_keep_24 (by decide) ?_
        refine G.of (G.wk (ih (k + 1) (by omega) (by omega) (by omega)) ?_) rfl rfl ?_ rfl
        · simp only [leL, and_self]
        · rw [← cpI_s i0]
  refine G.of (K2 2801 0 (by omega) (by omega) (by omega)) rfl rfl ?_ rfl
  rw [cpI_0]; exact (upr_id (h := upr md 1 r) (c := 2)).symm
set_option maxRecDepth 100000 in
set_option maxHeartbeats 4000000 in
theorem m_X7_restore {hs : Nat → HV} {tp md : HV} {E : HE} (hE : HI E) {r : Int → Int} {K : Int} (R : MR K r) (k0 : 0 ≤ md 0 6 ∧ md 0 6 ≤ 4) (z0 : md 0 8 = 0 ∨ md 0 8 = 1) : Mt yX7_restore cX7_restore 2 (some .int) 2 E [.ref (mA E 0)] hs tp (upr md 1 r) (some (vI ((yRestore md r).1))) hs tp ((yRestore md r).2) := by
  refine mk_Mt hE (plainFor_of_name (by decide)) (Nat.le_of_ble_eq_true rfl) (by intro w0 hw0; simp only [List.mem_cons, List.not_mem_nil, or_false] at hw0; rcases hw0 with rfl <;> rfl) (rfl : _ = [_, _]) ?_
  intro F C D
  refine x_aload_n C dX7_restore_0 rfl ?_
  refine gm_0_8 C q_759 dX7_restore_1 (show _ = md 0 8 from rfl) ?_
  refine x_if_ne 10 C dX7_restore_4 (by decide) ⟨by omega, by omega⟩ (fun c_1 => ?_) (fun c_1 => ?_)
  · refine x_aload_n C dX7_restore_10 rfl ?_
    refine x_callV (nA := 0) (As := []) (rest := []) C (m_X7_record hE (r := r) (md := md) k0) q_809 q_811 q_25 q_64 q_812 (by decide +kernel) (wl_m 0 (by decide)) rfl rfl (by decide) (by decide) (Nat.le_of_ble_eq_true rfl) dX7_restore_11 rfl ?_
    refine x_const C dX7_restore_14 ?_
    refine x_istore_n C dX7_restore_15 (by decide) (rfl : _ = [_, _]) ?_
    have K16 : ∀ (nn : Nat) (k : Int), 0 ≤ k → k ≤ 2739 → 2800 - k < nn →  G F E hs tp (upr (mRec md r) 1 (cpI (mRec md r 2) r k)) 16 [some (.ref (mA E 0)), some (vI k)] [] := by
      intro nn
      induction nn with
      | zero => intro k i0 i1 hz; exact absurd hz (by omega)
      | succ nn ih =>
        intro k i0 i1 hz
        refine x_iload_n C dX7_restore_16 rfl ?_
        refine x_sipush C dX7_restore_17 (by decide) ?_
        refine x_icmp_ge 41 C dX7_restore_20 (by decide) ⟨by omega, by omega⟩ ⟨by omega, by omega⟩ (fun c_2 => ?_) (fun c_2 => ?_)
        · refine x_aload_n C dX7_restore_41 rfl ?_
          refine gm_0_0 C q_751 dX7_restore_42 ?_
          refine x_const C dX7_restore_45 ?_
          refine lm_1 C (by omega) (by omega) dX7_restore_46 (show _ = (cpI (mRec md r 2) r k) 0 from rfl) ?_
          exact x_iret C D rfl dX7_restore_47 (by unfold yRestore; rw [if_neg (by assumption), show k = 2739 by omega]) rfl rfl (by unfold yRestore; rw [if_neg (by assumption), show k = 2739 by omega])
        · refine x_aload_n C dX7_restore_23 rfl ?_
          refine gm_0_0 C q_751 dX7_restore_24 ?_
          refine x_iload_n C dX7_restore_27 rfl ?_
          refine x_aload_n C dX7_restore_28 rfl ?_
          refine gm_0_1 C q_752 dX7_restore_29 ?_
          refine x_iload_n C dX7_restore_32 rfl ?_
          refine lm_2 C (by omega) (by omega) dX7_restore_33 (show _ = (mRec md r) 2 k from rfl) ?_
          refine sm_1 C (by omega) (by omega) dX7_restore_34 upr_w ?_
          refine x_iinc C dX7_restore_35 rfl (by decide) (rfl : _ = [_, _]) ?_
          refine x_goto 16 C dX7_restore_38 (by decide) ?_
          refine G.of (G.wk (ih (k + 1) (by omega) (by omega) (by omega)) ?_) rfl rfl ?_ rfl
          · simp only [leL, and_self]
          · rw [← cpI_s i0]
    refine G.of (K16 2801 0 (by omega) (by omega) (by omega)) rfl rfl ?_ rfl
    rw [cpI_0]
  · refine x_ldc (n := (-1000005)) C q_821 dX7_restore_7 rfl ?_
    exact x_iret C D rfl dX7_restore_9 (by unfold yRestore; (repeat (first | rw [if_pos (by first | omega | assumption | exact not_not_intro (by assumption))] | rw [if_neg (by first | omega | assumption | exact not_not_intro (by assumption))])); all_goals rfl) rfl rfl (by unfold yRestore; (repeat (first | rw [if_pos (by first | omega | assumption | exact not_not_intro (by assumption))] | rw [if_neg (by first | omega | assumption | exact not_not_intro (by assumption))])); all_goals rfl)
set_option maxRecDepth 100000 in
set_option maxHeartbeats 4000000 in
theorem m_X7_type {hs : Nat → HV} {tp md : HV} {E : HE} (hE : HI E) {r : Int → Int} (t0 : 0 ≤ md 0 7 ∧ md 0 7 ≤ 60) {c : Int} : Mt yX7_type cX7_type 2 (some .int) 1 E [.ref (mA E 0), vI c] hs tp (upr md 1 r) (some (vI ((yType md r c).1))) hs tp ((yType md r c).2) := by
  refine mk_Mt hE (plainFor_of_name (by decide)) (Nat.le_of_ble_eq_true rfl) (by intro w0 hw0; simp only [List.mem_cons, List.not_mem_nil, or_false] at hw0; rcases hw0 with rfl | rfl <;> rfl) (rfl : _ = [_, _]) ?_
  intro F C D
  refine x_aload_n C dX7_type_0 rfl ?_
  refine gm_0_7 C q_758 dX7_type_1 (show _ = md 0 7 from rfl) ?_
  refine x_bipush C dX7_type_4 (by decide) ?_
  refine x_icmp_ne 12 C dX7_type_6 (by decide) ⟨by omega, by omega⟩ ⟨by omega, by omega⟩ (fun c_1 => ?_) (fun c_1 => ?_)
  · refine x_aload_n C dX7_type_12 rfl ?_
    refine gm_0_4 C q_755 dX7_type_13 ?_
    refine x_aload_n C dX7_type_16 rfl ?_
    refine gm_0_7 C q_758 dX7_type_17 (show _ = md 0 7 from rfl) ?_
    refine x_iload_n C dX7_type_20 rfl ?_
    refine sm_5 C (by omega) (by omega) dX7_type_21 rfl ?_
    refine x_aload_n C dX7_type_22 rfl ?_
    refine x_dup C dX7_type_23 rfl ?_
    refine gm_0_7 C q_758 dX7_type_24 (show _ = md 0 7 from rfl) ?_
    refine x_const C dX7_type_27 ?_
    refine x_iadd C dX7_type_28 ?_
    refine pm_0_7 C q_758 dX7_type_29 rfl ?_
    refine x_aload_n C dX7_type_32 rfl ?_
    refine gm_0_7 C q_758 dX7_type_33 (show (up1 (md 0) 7 ((md 0 7) + 1)) 7 = (md 0 7) + 1 from up1_same) ?_
    exact x_iret C D rfl dX7_type_36 (by unfold yType; (repeat (first | rw [if_pos (by first | omega | assumption | exact not_not_intro (by assumption))] | rw [if_neg (by first | omega | assumption | exact not_not_intro (by assumption))])); all_goals rfl) rfl rfl (by unfold yType; first | rw [if_pos (by assumption)] | (rw [if_neg (by assumption)]; exact upr_mv (by decide) (by decide)))
  · refine x_ldc (n := (-1000003)) C q_808 dX7_type_9 rfl ?_
    exact x_iret C D rfl dX7_type_11 (by unfold yType; (repeat (first | rw [if_pos (by first | omega | assumption | exact not_not_intro (by assumption))] | rw [if_neg (by first | omega | assumption | exact not_not_intro (by assumption))])); all_goals rfl) rfl rfl (by unfold yType; first | rw [if_pos (by assumption)] | (rw [if_neg (by assumption)]; exact upr_mv (by decide) (by decide)))
set_option maxRecDepth 100000 in
set_option maxHeartbeats 4000000 in
theorem m_X7_clearText {hs : Nat → HV} {tp md : HV} {E : HE} (hE : HI E) {r : Int → Int} : Mt yX7_clearText cX7_clearText 2 (some .int) 1 E [.ref (mA E 0)] hs tp (upr md 1 r) (some (vI (md 0 7))) hs tp (upr (upr md 0 (up1 (md 0) 7 0)) 1 r) := by
  refine mk_Mt hE (plainFor_of_name (by decide)) (Nat.le_of_ble_eq_true rfl) (by intro w0 hw0; simp only [List.mem_cons, List.not_mem_nil, or_false] at hw0; rcases hw0 with rfl <;> rfl) (rfl : _ = [_, _]) ?_
  intro F C D
  refine x_aload_n C dX7_clearText_0 rfl ?_
  refine gm_0_7 C q_758 dX7_clearText_1 (show _ = md 0 7 from rfl) ?_
  refine x_istore_n C dX7_clearText_4 (by decide) (rfl : _ = [_, _]) ?_
  refine x_aload_n C dX7_clearText_5 rfl ?_
  refine x_const C dX7_clearText_6 ?_
  refine pm_0_7 C q_758 dX7_clearText_7 rfl ?_
  refine x_iload_n C dX7_clearText_10 rfl ?_
  exact x_iret C D rfl dX7_clearText_11 rfl rfl rfl (upr_cm (by decide))
