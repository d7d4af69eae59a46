set_option maxRecDepth 100000 in
set_option maxHeartbeats 4000000 in
theorem m_X7_readAll {hs : Nat → HV} {tp md : HV} {E : HE} (hE : HI E) {p : Int} (T : TX (md 5) (md 0 7)) (p0 : 0 ≤ p ∧ p ≤ 61) : Mt yX7_readAll cX7_readAll 4 (some .int) 4 E [.ref (mA E 0)] hs tp (mPl md p) (some (vI ((rdAll (md 5) (md 0 7)).1))) hs tp (mPl md (rdAll (md 5) (md 0 7)).2) := by
  refine mk_Mt hE (plainFor_of_name (by decide)) (Nat.le_of_ble_eq_true rfl) (by intro w0 hw0; simp only [List.mem_cons, List.not_mem_nil, or_false] at hw0; rcases hw0 with rfl <;> rfl) (rfl : _ = [_, _, _, _]) ?_
  intro F C D
  have tl := T.1
  refine x_aload_n C dX7_readAll_0 rfl ?_
  refine x_const C dX7_readAll_1 ?_
  refine pm_0_5 C q_756 dX7_readAll_2 upr_ww ?_
  refine x_const C dX7_readAll_5 ?_
  refine x_istore_n C dX7_readAll_6 (by decide) (rfl : _ = [_, _, _, _]) ?_
  refine x_const C dX7_readAll_7 ?_
  refine x_istore_n C dX7_readAll_8 (by decide) (rfl : _ = [_, _, _, _]) ?_
  have K9 : ∀ (nn : Nat) (n : Nat) (x p c : Int), x = 0 ∨ x = 1 → (0 ≤ p ∧ p ≤ 61) → (0 ≤ c ∧ c + n ≤ 61) → (x = 1 → md 0 7 + 1 ≤ p + 5 * n ∧ p ≤ md 0 7) → rdA (md 5) (md 0 7) 61 0 0 = (if x = 1 then rdA (md 5) (md 0 7) n p c else (if p < md 0 7 then -100 - p else c, p)) → (n : Int) < nn →  G F E hs tp (mPl md p) 9 [some (.ref (mA E 0)), some (vI c), some (vI x), none] [] := by
    intro nn
    induction nn with
    | zero => intro n x p c x0 p1 c0 nn0 hq hz; exact absurd hz (by omega)
    | succ nn ih =>
      intro n x p c x0 p1 c0 nn0 hq hz
      refine x_iload_n C dX7_readAll_9 rfl ?_
      refine x_if_eq 57 C dX7_readAll_10 (by decide) ⟨by omega, by omega⟩ (fun c_1 => ?_) (fun c_1 => ?_)
      · refine x_aload_n C dX7_readAll_57 rfl ?_
        refine gm_0_5 C q_756 dX7_readAll_58 (show (up1 (md 0) 5 p) 5 = p from up1_same) ?_
        refine x_aload_n C dX7_readAll_61 rfl ?_
        refine gm_0_7 C q_758 dX7_readAll_62 (show (up1 (md 0) 5 p) 7 = (md 0) 7 from by rw [up1_ne (by omega)]) ?_
        refine x_icmp_ge 78 C dX7_readAll_65 (by decide) ⟨by omega, by omega⟩ ⟨by omega, by omega⟩ (fun c_2 => ?_) (fun c_2 => ?_)
        · refine x_iload_n C dX7_readAll_78 rfl ?_
          exact x_iret C D rfl dX7_readAll_79 (by show _ = (rdA (md 5) (md 0 7) 61 0 0).1; rw [hq, if_neg (by omega)]; first | exact (if_pos (by omega)).symm | exact (if_neg (by omega)).symm) rfl rfl (show mPl md p = _ from congrArg (mPl md) (by show _ = (rdA (md 5) (md 0 7) 61 0 0).2; rw [hq, if_neg (by omega)]))
        · refine x_bipush C dX7_readAll_68 (by decide) ?_
          refine x_aload_n C dX7_readAll_70 rfl ?_
          refine gm_0_5 C q_756 dX7_readAll_71 (show (up1 (md 0) 5 p) 5 = p from up1_same) ?_
          refine x_isub C dX7_readAll_74 ?_
          refine x_goto 79 C dX7_readAll_75 (by decide) ?_
          exact x_iret C D rfl dX7_readAll_79 (by show _ = (rdA (md 5) (md 0 7) 61 0 0).1; rw [hq, if_neg (by omega)]; first | exact (if_pos (by omega)).symm | exact (if_neg (by omega)).symm) rfl rfl (show mPl md p = _ from congrArg (mPl md) (by show _ = (rdA (md 5) (md 0 7) 61 0 0).2; rw [hq, if_neg (by omega)]))
      · refine x_aload_n C dX7_readAll_13 rfl ?_
        refine x_callV (nA := 0) (As := []) (rest := []) C (m_X7_readBooking hE (p := p) T ⟨by omega, by omega⟩) q_830 q_832 q_29 q_64 q_833 (by decide +kernel) (wl_m 0 (by decide)) rfl rfl (by decide) (by decide) (Nat.le_of_ble_eq_true rfl) dX7_readAll_14 rfl ?_
        have rb9 := rdB_r (f := md 5) (p := p) tl.2 ⟨by omega, by omega⟩
        refine x_istore_n C dX7_readAll_17 (by decide) (rfl : _ = [_, _, _, _]) ?_
        refine x_iload_n C dX7_readAll_18 rfl ?_
        refine x_if_ge 24 C dX7_readAll_19 (by decide) ⟨by omega, by omega⟩ (fun c_3 => ?_) (fun c_3 => ?_)
        · refine x_iinc C dX7_readAll_24 rfl (by decide) (rfl : _ = [_, _, _, _]) ?_
          refine x_aload_n C dX7_readAll_27 rfl ?_
          refine x_bipush C dX7_readAll_28 (by decide) ?_
          refine x_bipush C dX7_readAll_30 (by decide) ?_
          refine x_callV (nA := 2) (As := [vI 59, vI 59]) (rest := []) C (m_X7_isNext hE (md := (upr md 0 (up1 (md 0) 5 ((rdB (md 5) (md 0 7) p).2)))) (p := ((rdB (md 5) (md 0 7) p).2)) (L := ((md 0) 7)) (f := md 5) (l := 59) (m := 59) (show (up1 (md 0) 5 ((rdB (md 5) (md 0 7) p).2)) 5 = (rdB (md 5) (md 0 7) p).2 from up1_same) (show (up1 (md 0) 5 ((rdB (md 5) (md 0 7) p).2)) 7 = (md 0) 7 from by rw [up1_ne (by omega)]) rfl ⟨by omega, by omega⟩ T (by decide) (by decide)) q_834 q_836 q_30 q_64 q_837 (by decide +kernel) (wl_m 0 (by decide)) rfl rfl (by decide) (by decide) (Nat.le_of_ble_eq_true rfl) dX7_readAll_32 rfl ?_
          refine x_istore_n C dX7_readAll_35 (by decide) (rfl : _ = [_, _, _, _]) ?_
          refine x_aload_n C dX7_readAll_36 rfl ?_
          refine x_dup C dX7_readAll_37 rfl ?_
          refine gm_0_5 C q_756 dX7_readAll_38 (show (up1 (md 0) 5 ((rdB (md 5) (md 0 7) p).2)) 5 = (rdB (md 5) (md 0 7) p).2 from up1_same) ?_
          refine x_iload_n C dX7_readAll_41 rfl ?_
          refine x_bz_eq 49 C dX7_readAll_42 (by decide) (fun c_4 => ?_) (fun c_4 => ?_)
          · refine x_const C dX7_readAll_49 ?_
            refine x_iadd C dX7_readAll_50 ?_
            refine pm_0_5 C q_756 dX7_readAll_51 upr_ww ?_
            refine x_goto 9 C dX7_readAll_54 (by decide) ?_
            obtain ⟨n9, rfl⟩ : ∃ n9, n = n9 + 1 := ⟨n - 1, by omega⟩
            have e9 : rdA (md 5) (md 0 7) (n9 + 1) p c = (if (rdB (md 5) (md 0 7) p).2 < md 0 7 then -100 - (rdB (md 5) (md 0 7) p).2 else c + 1, (rdB (md 5) (md 0 7) p).2) := (if_neg (by omega)).trans (if_neg c_4)
            refine G.of (G.wk (ih n9 0 ((rdB (md 5) (md 0 7) p).2 + 0) (c + 1) (by decide) (by omega) (by omega) (by omega) (by rw [hq, if_pos (by omega), e9]; refine Eq.trans ?_ (if_neg (by decide)).symm; rw [Int.add_zero]) (by omega)) ?_) rfl rfl ?_ rfl
            · simp only [leL, and_self, and_true, true_and]; exact congrArg (fun z => some (vI z)) (if_neg c_4)
            · rfl
          · refine x_const C dX7_readAll_45 ?_
            refine x_goto 50 C dX7_readAll_46 (by decide) ?_
            refine x_iadd C dX7_readAll_50 ?_
            refine pm_0_5 C q_756 dX7_readAll_51 upr_ww ?_
            refine x_goto 9 C dX7_readAll_54 (by decide) ?_
            obtain ⟨n9, rfl⟩ : ∃ n9, n = n9 + 1 := ⟨n - 1, by omega⟩
            have e9 : rdA (md 5) (md 0 7) (n9 + 1) p c = rdA (md 5) (md 0 7) n9 ((rdB (md 5) (md 0 7) p).2 + 1) (c + 1) := (if_neg (by omega)).trans (if_pos c_4)
            refine G.of (G.wk (ih n9 1 ((rdB (md 5) (md 0 7) p).2 + 1) (c + 1) (by decide) (by omega) (by omega) (by omega) (by rw [hq, if_pos (by omega), e9]; exact (if_pos rfl).symm) (by omega)) ?_) rfl rfl ?_ rfl
            · simp only [leL, and_self, and_true, true_and]; exact congrArg (fun z => some (vI z)) (if_pos c_4)
            · rfl
        · refine x_iload_n C dX7_readAll_22 rfl ?_
          exact x_iret C D rfl dX7_readAll_23 (by show _ = (rdA (md 5) (md 0 7) 61 0 0).1; rw [hq, if_pos (by omega)]; obtain ⟨n9, rfl⟩ : ∃ n9, n = n9 + 1 := ⟨n - 1, by omega⟩; exact (congrArg Prod.fst (show rdA (md 5) (md 0 7) (n9 + 1) p c = _ from if_pos (by omega))).symm) rfl rfl (show mPl md ((rdB (md 5) (md 0 7) p).2) = _ from congrArg (mPl md) (by show _ = (rdA (md 5) (md 0 7) 61 0 0).2; rw [hq, if_pos (by omega)]; obtain ⟨n9, rfl⟩ : ∃ n9, n = n9 + 1 := ⟨n - 1, by omega⟩; exact (congrArg Prod.snd (show rdA (md 5) (md 0 7) (n9 + 1) p c = _ from if_pos (by omega))).symm))
  refine G.wk (K9 62 61 1 0 0 (by decide) (by decide) (by decide) (by omega) (if_pos rfl).symm (by omega)) ?_
  simp only [leL, and_self]
