set_option maxRecDepth 100000 in
set_option maxHeartbeats 4000000 in
theorem m_X3_letLeave {hs : Nat → HV} {tp md : HV} {E : HE} {j : Nat} {h : HV} (hE : HI E) (hj : j < 7) (hh : hs j = h) {b : Int} (b0 : 0 ≤ b) (b1 : b < 80) {hs9 : Nat → HV} (he : putH hs j (dLv h b) = hs9) : Mt yX3_letLeave cX3_letLeave 3 none 2 E [.ref (hA E j 0), vI b] hs tp md none hs9 tp md := by
  subst he
  refine mk_Mt hE (plainFor_of_name (by decide)) (Nat.le_of_ble_eq_true rfl) (by intro w0 hw0; simp only [List.mem_cons, List.not_mem_nil, or_false] at hw0; rcases hw0 with rfl | rfl <;> rfl) (rfl : _ = [_, _, _]) ?_
  intro F C D
  refine x_aload_n C dX3_letLeave_0 rfl ?_
  refine gh_0_2 C hj hh q_134 dX3_letLeave_1 ?_
  refine x_iload_n C dX3_letLeave_4 rfl ?_
  refine x_callV (nA := 1) (As := [vI b]) (rest := []) C (m_X1_end hE hj hh (by omega) (by omega)) q_500 q_339 q_340 q_24 q_341 (by decide +kernel) (wl_h hj hh 3 (by decide)) rfl rfl (by decide) (by decide) (Nat.le_of_ble_eq_true rfl) dX3_letLeave_5 rfl ?_
  refine x_aload_n C dX3_letLeave_8 rfl ?_
  refine gh_0_2 C hj hh q_134 dX3_letLeave_9 ?_
  refine gh_3_6 C hj hh q_76 dX3_letLeave_12 ?_
  refine x_iload_n C dX3_letLeave_15 rfl ?_
  refine lh_10 C hj hh (by omega) (by omega) dX3_letLeave_16 rfl ?_
  refine x_isub C dX3_letLeave_17 ?_
  refine x_istore_n C dX3_letLeave_18 (by decide) (rfl : _ = [_, _, _]) ?_
  refine x_aload_n C dX3_letLeave_19 rfl ?_
  refine x_dup C dX3_letLeave_20 rfl ?_
  refine gh_0_8 C hj hh q_146 dX3_letLeave_21 rfl ?_
  refine x_aload_n C dX3_letLeave_24 rfl ?_
  refine gh_0_0 C hj hh q_131 dX3_letLeave_25 ?_
  refine x_const C dX3_letLeave_28 ?_
  refine lh_1 C hj hh (by omega) (by omega) dX3_letLeave_29 rfl ?_
  refine x_aload_n C dX3_letLeave_30 rfl ?_
  refine gh_0_2 C hj hh q_134 dX3_letLeave_31 ?_
  refine gh_3_3 C hj hh q_66 dX3_letLeave_34 ?_
  refine x_iload_n C dX3_letLeave_37 rfl ?_
  refine lh_7 C hj hh (by omega) (by omega) dX3_letLeave_38 rfl ?_
  refine x_imul C dX3_letLeave_39 ?_
  refine x_iload_n C dX3_letLeave_40 rfl ?_
  refine x_imul C dX3_letLeave_41 ?_
  refine x_aload_n C dX3_letLeave_42 rfl ?_
  refine gh_0_2 C hj hh q_134 dX3_letLeave_43 ?_
  refine gh_3_5 C hj hh q_72 dX3_letLeave_46 ?_
  refine x_iload_n C dX3_letLeave_49 rfl ?_
  refine lh_9 C hj hh (by omega) (by omega) dX3_letLeave_50 rfl ?_
  refine x_isub C dX3_letLeave_51 ?_
  refine x_iadd C dX3_letLeave_52 ?_
  refine ph_0_8 C hj hh q_146 dX3_letLeave_53 rfl ?_
  refine x_aload_n C dX3_letLeave_56 rfl ?_
  refine gh_0_2 C hj putH_same q_134 dX3_letLeave_57 ?_
  refine gh_3_0 C hj putH_same q_57 dX3_letLeave_60 ?_
  refine x_iload_n C dX3_letLeave_63 rfl ?_
  refine x_const C dX3_letLeave_64 ?_
  refine sh_4 C hj putH_same (by omega) (by omega) dX3_letLeave_65 putH_put ?_
  exact x_vret C D dX3_letLeave_66 rfl rfl rfl
set_option maxRecDepth 100000 in
set_option maxHeartbeats 4000000 in
theorem m_X3_turnAway {hs : Nat → HV} {tp md : HV} {E : HE} {j : Nat} {h : HV} (hE : HI E) (hj : j < 7) (hh : hs j = h) {b : Int} (b0 : 0 ≤ b) (b1 : b < 80) {hs9 : Nat → HV} (he : putH hs j (dAw h b) = hs9) : Mt yX3_turnAway cX3_turnAway 2 none 1 E [.ref (hA E j 0), vI b] hs tp md none hs9 tp md := by
  subst he
  refine mk_Mt hE (plainFor_of_name (by decide)) (Nat.le_of_ble_eq_true rfl) (by intro w0 hw0; simp only [List.mem_cons, List.not_mem_nil, or_false] at hw0; rcases hw0 with rfl | rfl <;> rfl) (rfl : _ = [_, _]) ?_
  intro F C D
  refine x_aload_n C dX3_turnAway_0 rfl ?_
  refine gh_0_2 C hj hh q_134 dX3_turnAway_1 ?_
  refine gh_3_0 C hj hh q_57 dX3_turnAway_4 ?_
  refine x_iload_n C dX3_turnAway_7 rfl ?_
  refine x_const C dX3_turnAway_8 ?_
  refine sh_4 C hj hh (by omega) (by omega) dX3_turnAway_9 rfl ?_
  refine x_aload_n C dX3_turnAway_10 rfl ?_
  refine x_dup C dX3_turnAway_11 rfl ?_
  refine gh_0_8 C hj putH_same q_146 dX3_turnAway_12 (show _ = h 0 8 from rfl) ?_
  refine x_aload_n C dX3_turnAway_15 rfl ?_
  refine gh_0_2 C hj putH_same q_134 dX3_turnAway_16 ?_
  refine gh_3_5 C hj putH_same q_72 dX3_turnAway_19 ?_
  refine x_iload_n C dX3_turnAway_22 rfl ?_
  refine lh_9 C hj putH_same (by omega) (by omega) dX3_turnAway_23 (show _ = h 9 b from rfl) ?_
  refine x_isub C dX3_turnAway_24 ?_
  refine ph_0_8 C hj putH_same q_146 dX3_turnAway_25 putH_put ?_
  refine x_aload_n C dX3_turnAway_28 rfl ?_
  refine gh_0_5 C hj putH_same q_140 dX3_turnAway_29 ?_
  refine x_bipush C dX3_turnAway_32 (by decide) ?_
  refine x_dup2 C dX3_turnAway_34 rfl rfl ?_
  refine lh_16 C hj putH_same (by omega) (by omega) dX3_turnAway_35 (show _ = h 16 8 from rfl) ?_
  refine x_aload_n C dX3_turnAway_36 rfl ?_
  refine gh_0_2 C hj putH_same q_134 dX3_turnAway_37 ?_
  refine gh_3_3 C hj putH_same q_66 dX3_turnAway_40 ?_
  refine x_iload_n C dX3_turnAway_43 rfl ?_
  refine lh_7 C hj putH_same (by omega) (by omega) dX3_turnAway_44 (show _ = h 7 b from rfl) ?_
  refine x_iadd C dX3_turnAway_45 ?_
  refine sh_16 C hj putH_same (by omega) (by omega) dX3_turnAway_46 putH_put ?_
  exact x_vret C D dX3_turnAway_47 rfl rfl rfl
set_option maxRecDepth 100000 in
set_option maxHeartbeats 4000000 in
theorem m_X3_letGroupsLeave {hs : Nat → HV} {tp md : HV} {E : HE} {j : Nat} {h : HV} (hE : HI E) (hj : j < 7) (hh : hs j = h) {K : Int} (R : RG K h) {hs9 : Nat → HV} (he : putH hs j (dLeave h) = hs9) : Mt yX3_letGroupsLeave cX3_letGroupsLeave 2 none 3 E [.ref (hA E j 0)] hs tp md none hs9 tp md := by
  subst he
  refine mk_Mt hE (plainFor_of_name (by decide)) (Nat.le_of_ble_eq_true rfl) (by intro w0 hw0; simp only [List.mem_cons, List.not_mem_nil, or_false] at hw0; rcases hw0 with rfl <;> rfl) (rfl : _ = [_, _]) ?_
  intro F C D
  have rm := RG.made R
  refine x_const C dX3_letGroupsLeave_0 ?_
  refine x_istore_n C dX3_letGroupsLeave_1 (by decide) (rfl : _ = [_, _]) ?_
  have K2 : ∀ (nn : Nat) (i : Int), 0 ≤ i → i ≤ h 3 7 → h 3 7 - i < nn →  G F E (putH hs j (foldI sLv h i)) tp md 2 [some (.ref (hA E j 0)), some (vI i)] [] := by
    intro nn
    induction nn with
    | zero => intro i i0 i1 hz; exact absurd hz (by omega)
    | succ nn ih =>
      intro i i0 i1 hz
      have rs := RS_leaveI R i0 (i := i)
      have rg := rs.1
      have em : (foldI sLv h i) 3 7 = h 3 7 := congrFun rs.2.2.2.1 7
      have ed : (foldI sLv h i) 0 6 = h 0 6 := rs.2.2.2.2.2.2.2
      refine x_iload_n C dX3_letGroupsLeave_2 rfl ?_
      refine x_aload_n C dX3_letGroupsLeave_3 rfl ?_
      refine gh_0_2 C hj putH_same q_134 dX3_letGroupsLeave_4 ?_
      refine gh_3_7 C hj putH_same q_78 dX3_letGroupsLeave_7 rfl ?_
      have r_1 := RG.made rg
      refine x_icmp_ge 39 C dX3_letGroupsLeave_10 (by decide) ⟨by omega, by omega⟩ ⟨by omega, by omega⟩ (fun c_2 => ?_) (fun c_2 => ?_)
      · exact x_vret C D dX3_letGroupsLeave_39 (by rw [show i = h 3 7 by omega]; rfl) rfl rfl
      · refine x_aload_n C dX3_letGroupsLeave_13 rfl ?_
        refine gh_0_2 C hj putH_same q_134 dX3_letGroupsLeave_14 ?_
        refine x_iload_n C dX3_letGroupsLeave_17 rfl ?_
        refine x_aload_n C dX3_letGroupsLeave_18 rfl ?_
        refine gh_0_6 C hj putH_same q_142 dX3_letGroupsLeave_19 rfl ?_
        have r_3 := RG.day rg
        refine x_callV (nA := 2) (As := [vI i, vI ((foldI sLv h i) 0 6)]) (rest := []) C (m_X1_isOver (h := (foldI sLv h i)) hE hj putH_same rg (by omega) (by omega) ⟨by omega, by omega⟩) q_346 q_347 q_348 q_24 q_349 (by decide +kernel) (wl_h hj putH_same 3 (by decide)) rfl rfl (by decide) (by decide) (Nat.le_of_ble_eq_true rfl) dX3_letGroupsLeave_22 rfl ?_
        refine x_bz_eq 33 C dX3_letGroupsLeave_25 (by decide) (fun c_4 => ?_) (fun c_4 => ?_)
        · refine x_iinc C dX3_letGroupsLeave_33 rfl (by decide) (rfl : _ = [_, _]) ?_
          refine x_goto 2 C dX3_letGroupsLeave_36 (by decide) ?_
          refine G.of (G.wk (ih (i + 1) (by omega) (by omega) (by omega)) ?_) ?_ rfl rfl rfl
          · simp only [leL, and_self]
          · rw [foldI_s i0, sLv_f c_4]
        · refine x_aload_n C dX3_letGroupsLeave_28 rfl ?_
          refine x_iload_n C dX3_letGroupsLeave_29 rfl ?_
          refine x_callV (nA := 1) (As := [vI i]) (rest := []) C (m_X3_letLeave (h := (foldI sLv h i)) hE hj putH_same (by omega) (by omega) putH_put) q_496 q_498 q_3 q_22 q_499 (by decide +kernel) (wl_h hj putH_same 0 (by decide)) rfl rfl (by decide) (by decide) (Nat.le_of_ble_eq_true rfl) dX3_letGroupsLeave_30 rfl ?_
          refine x_iinc C dX3_letGroupsLeave_33 rfl (by decide) (rfl : _ = [_, _]) ?_
          refine x_goto 2 C dX3_letGroupsLeave_36 (by decide) ?_
          refine G.of (G.wk (ih (i + 1) (by omega) (by omega) (by omega)) ?_) ?_ rfl rfl rfl
          · simp only [leL, and_self]
          · rw [foldI_s i0, sLv_t c_4]
  refine G.of (K2 ((h 3 7 : Int) + 1).toNat 0 (by omega) (by omega) (by omega)) ?_ rfl rfl rfl
  exact (putH_of hh).symm
set_option maxRecDepth 100000 in
set_option maxHeartbeats 4000000 in
theorem m_X3_turnLateOnesAway {hs : Nat → HV} {tp md : HV} {E : HE} {j : Nat} {h : HV} (hE : HI E) (hj : j < 7) (hh : hs j = h) {K : Int} (R : RG K h) {hs9 : Nat → HV} (he : putH hs j (dLate h) = hs9) : Mt yX3_turnLateOnesAway cX3_turnLateOnesAway 2 none 2 E [.ref (hA E j 0)] hs tp md none hs9 tp md := by
  subst he
  refine mk_Mt hE (plainFor_of_name (by decide)) (Nat.le_of_ble_eq_true rfl) (by intro w0 hw0; simp only [List.mem_cons, List.not_mem_nil, or_false] at hw0; rcases hw0 with rfl <;> rfl) (rfl : _ = [_, _]) ?_
  intro F C D
  have rm := RG.made R
  refine x_const C dX3_turnLateOnesAway_0 ?_
  refine x_istore_n C dX3_turnLateOnesAway_1 (by decide) (rfl : _ = [_, _]) ?_
  have K2 : ∀ (nn : Nat) (i : Int), 0 ≤ i → i ≤ h 3 7 → h 3 7 - i < nn →  G F E (putH hs j (foldI sLt h i)) tp md 2 [some (.ref (hA E j 0)), some (vI i)] [] := by
    intro nn
    induction nn with
    | zero => intro i i0 i1 hz; exact absurd hz (by omega)
    | succ nn ih =>
      intro i i0 i1 hz
      have rs := RS_lateI R i0 (i := i)
      have rg := rs.1
      have em : (foldI sLt h i) 3 7 = h 3 7 := congrFun rs.2.2.2.1 7
      have ed : (foldI sLt h i) 0 6 = h 0 6 := rs.2.2.2.2.2.2.2
      refine x_iload_n C dX3_turnLateOnesAway_2 rfl ?_
      refine x_aload_n C dX3_turnLateOnesAway_3 rfl ?_
      refine gh_0_2 C hj putH_same q_134 dX3_turnLateOnesAway_4 ?_
      refine gh_3_7 C hj putH_same q_78 dX3_turnLateOnesAway_7 rfl ?_
      have r_1 := RG.made rg
      refine x_icmp_ge 51 C dX3_turnLateOnesAway_10 (by decide) ⟨by omega, by omega⟩ ⟨by omega, by omega⟩ (fun c_2 => ?_) (fun c_2 => ?_)
      · exact x_vret C D dX3_turnLateOnesAway_51 (by rw [show i = h 3 7 by omega]; rfl) rfl rfl
      · refine x_aload_n C dX3_turnLateOnesAway_13 rfl ?_
        refine gh_0_2 C hj putH_same q_134 dX3_turnLateOnesAway_14 ?_
        refine gh_3_0 C hj putH_same q_57 dX3_turnLateOnesAway_17 ?_
        refine x_iload_n C dX3_turnLateOnesAway_20 rfl ?_
        refine lh_4 C hj putH_same (by omega) (by omega) dX3_turnLateOnesAway_21 rfl ?_
        have r_3 := RG.how rg (b := i) (by omega) (by omega)
        refine x_if_ne 45 C dX3_turnLateOnesAway_22 (by decide) ⟨by omega, by omega⟩ (fun c_4 => ?_) (fun c_4 => ?_)
        · refine x_iinc C dX3_turnLateOnesAway_45 rfl (by decide) (rfl : _ = [_, _]) ?_
          refine x_goto 2 C dX3_turnLateOnesAway_48 (by decide) ?_
          refine G.of (G.wk (ih (i + 1) (by omega) (by omega) (by omega)) ?_) ?_ rfl rfl rfl
          · simp only [leL, and_self]
          · rw [foldI_s i0, sLt_f (by omega)]
        · refine x_aload_n C dX3_turnLateOnesAway_25 rfl ?_
          refine gh_0_2 C hj putH_same q_134 dX3_turnLateOnesAway_26 ?_
          refine x_iload_n C dX3_turnLateOnesAway_29 rfl ?_
          have ra := RG.arr rg i0 (by omega)
          have rn := RG.nig rg i0 (by omega)
          refine x_callV (nA := 1) (As := [vI i]) (rest := []) C (m_X1_end (h := (foldI sLt h i)) hE hj putH_same (by omega) (by omega)) q_500 q_339 q_340 q_24 q_341 (by decide +kernel) (wl_h hj putH_same 3 (by decide)) rfl rfl (by decide) (by decide) (Nat.le_of_ble_eq_true rfl) dX3_turnLateOnesAway_30 rfl ?_
          refine x_aload_n C dX3_turnLateOnesAway_33 rfl ?_
          refine gh_0_6 C hj putH_same q_142 dX3_turnLateOnesAway_34 rfl ?_
          have r_5 := RG.day rg
          refine x_icmp_gt 45 C dX3_turnLateOnesAway_37 (by decide) ⟨by omega, by omega⟩ ⟨by omega, by omega⟩ (fun c_6 => ?_) (fun c_6 => ?_)
          · refine x_iinc C dX3_turnLateOnesAway_45 rfl (by decide) (rfl : _ = [_, _]) ?_
            refine x_goto 2 C dX3_turnLateOnesAway_48 (by decide) ?_
            refine G.of (G.wk (ih (i + 1) (by omega) (by omega) (by omega)) ?_) ?_ rfl rfl rfl
            · simp only [leL, and_self]
            · rw [foldI_s i0, sLt_f (by omega)]
          · refine x_aload_n C dX3_turnLateOnesAway_40 rfl ?_
            refine x_iload_n C dX3_turnLateOnesAway_41 rfl ?_
            refine x_callV (nA := 1) (As := [vI i]) (rest := []) C (m_X3_turnAway (h := (foldI sLt h i)) hE hj putH_same (by omega) (by omega) putH_put) q_505 q_507 q_5 q_22 q_508 (by decide +kernel) (wl_h hj putH_same 0 (by decide)) rfl rfl (by decide) (by decide) (Nat.le_of_ble_eq_true rfl) dX3_turnLateOnesAway_42 rfl ?_
            refine x_iinc C dX3_turnLateOnesAway_45 rfl (by decide) (rfl : _ = [_, _]) ?_
            refine x_goto 2 C dX3_turnLateOnesAway_48 (by decide) ?_
            refine G.of (G.wk (ih (i + 1) (by omega) (by omega) (by omega)) ?_) ?_ rfl rfl rfl
            · simp only [leL, and_self]
            · rw [foldI_s i0, sLt_t ⟨by omega, by omega⟩]
  refine G.of (K2 ((h 3 7 : Int) + 1).toNat 0 (by omega) (by omega) (by omega)) ?_ rfl rfl rfl
  exact (putH_of hh).symm
set_option maxRecDepth 100000 in
set_option maxHeartbeats 4000000 in
theorem m_X3_letGroupsCome {hs : Nat → HV} {tp md : HV} {E : HE} {j : Nat} {h : HV} (hE : HI E) (hj : j < 7) (hh : hs j = h) {K : Int} (R : RG K h) {hs9 : Nat → HV} (he : putH hs j (dCome h) = hs9) : Mt yX3_letGroupsCome cX3_letGroupsCome 4 none 2 E [.ref (hA E j 0)] hs tp md none hs9 tp md := by
  subst he
  refine mk_Mt hE (plainFor_of_name (by decide)) (Nat.le_of_ble_eq_true rfl) (by intro w0 hw0; simp only [List.mem_cons, List.not_mem_nil, or_false] at hw0; rcases hw0 with rfl <;> rfl) (rfl : _ = [_, _, _, _]) ?_
  intro F C D
  have rm := RG.made R
  have rt := nThere_r R
  have rz := set_50 R
  refine x_aload_n C dX3_letGroupsCome_0 rfl ?_
  refine gh_0_0 C hj hh q_131 dX3_letGroupsCome_1 ?_
  refine x_const C dX3_letGroupsCome_4 ?_
  refine lh_1 C hj hh (by omega) (by omega) dX3_letGroupsCome_5 rfl ?_
  have r_1 := RG.set' R (i := 0) (by omega) (by omega)
  refine x_aload_n C dX3_letGroupsCome_6 rfl ?_
  refine gh_0_0 C hj hh q_131 dX3_letGroupsCome_7 ?_
  refine x_const C dX3_letGroupsCome_10 ?_
  refine lh_1 C hj hh (by omega) (by omega) dX3_letGroupsCome_11 rfl ?_
  have r_2 := RG.set' R (i := 1) (by omega) (by omega)
  refine x_iadd C dX3_letGroupsCome_12 ?_
  refine x_istore_n C dX3_letGroupsCome_13 (by decide) (rfl : _ = [_, _, _, _]) ?_
  refine x_aload_n C dX3_letGroupsCome_14 rfl ?_
  refine gh_0_2 C hj hh q_134 dX3_letGroupsCome_15 ?_
  refine x_callV (nA := 0) (As := []) (rest := []) C (m_X1_personsThere hE hj hh R) q_513 q_291 q_292 q_24 q_293 (by decide +kernel) (wl_h hj hh 3 (by decide)) rfl rfl (by decide) (by decide) (Nat.le_of_ble_eq_true rfl) dX3_letGroupsCome_18 rfl ?_
  refine x_istore_n C dX3_letGroupsCome_21 (by decide) (rfl : _ = [_, _, _, _]) ?_
  refine x_const C dX3_letGroupsCome_22 ?_
  refine x_istore_n C dX3_letGroupsCome_23 (by decide) (rfl : _ = [_, _, _, _]) ?_
  have K24 : ∀ (nn : Nat) (i : Int), 0 ≤ i → i ≤ h 3 7 → h 3 7 - i < nn →  G F E (putH hs j (foldI sCm (h, nThere h) i).1) tp md 24 [some (.ref (hA E j 0)), some (vI (h 1 0 + h 1 1)), some (vI ((foldI sCm (h, nThere h) i).2)), some (vI i)] [] := by
    intro nn
    induction nn with
    | zero => intro i i0 i1 hz; exact absurd hz (by omega)
    | succ nn ih =>
      intro i i0 i1 hz
      have rs := RS_comeI R i0 (i := i) (n := nThere h)
      have rg := rs.1
      have em : (foldI sCm (h, nThere h) i).1 3 7 = h 3 7 := congrFun rs.2.2.2.1 7
      have rc := come_r R i0 (i := i) (by omega)
      refine x_iload_n C dX3_letGroupsCome_24 rfl ?_
      refine x_aload_n C dX3_letGroupsCome_25 rfl ?_
      refine gh_0_2 C hj putH_same q_134 dX3_letGroupsCome_26 ?_
      refine gh_3_7 C hj putH_same q_78 dX3_letGroupsCome_29 rfl ?_
      have r_3 := RG.made rg
      refine x_icmp_ge 130 C dX3_letGroupsCome_32 (by decide) ⟨by omega, by omega⟩ ⟨by omega, by omega⟩ (fun c_4 => ?_) (fun c_4 => ?_)
      · exact x_vret C D dX3_letGroupsCome_130 (by rw [show i = h 3 7 by omega]; rfl) rfl rfl
      · refine x_aload_n C dX3_letGroupsCome_35 rfl ?_
        refine gh_0_2 C hj putH_same q_134 dX3_letGroupsCome_36 ?_
        refine gh_3_0 C hj putH_same q_57 dX3_letGroupsCome_39 ?_
        refine x_iload_n C dX3_letGroupsCome_42 rfl ?_
        refine lh_4 C hj putH_same (by omega) (by omega) dX3_letGroupsCome_43 rfl ?_
        have r_5 := RG.how rg (b := i) (by omega) (by omega)
        refine x_if_ne 124 C dX3_letGroupsCome_44 (by decide) ⟨by omega, by omega⟩ (fun c_6 => ?_) (fun c_6 => ?_)
        · refine x_iinc C dX3_letGroupsCome_124 rfl (by decide) (rfl : _ = [_, _, _, _]) ?_
          refine x_goto 24 C dX3_letGroupsCome_127 (by decide) ?_
          have e9 : foldI sCm (h, nThere h) (i + 1) = _ := (foldI_s i0).trans (sCm_n (by omega))
          refine G.of (G.wk (ih (i + 1) (by omega) (by omega) (by omega)) ?_) ?_ rfl rfl rfl
          · simp only [leL, e9, and_self]
          · rw [e9]
        · refine x_aload_n C dX3_letGroupsCome_47 rfl ?_
          refine gh_0_2 C hj putH_same q_134 dX3_letGroupsCome_48 ?_
          refine gh_3_1 C hj putH_same q_60 dX3_letGroupsCome_51 ?_
          refine x_iload_n C dX3_letGroupsCome_54 rfl ?_
          refine lh_5 C hj putH_same (by omega) (by omega) dX3_letGroupsCome_55 rfl ?_
          have r_7 := RG.arr rg (b := i) (by omega) (by omega)
          refine x_aload_n C dX3_letGroupsCome_56 rfl ?_
          refine gh_0_6 C hj putH_same q_142 dX3_letGroupsCome_57 rfl ?_
          have r_8 := RG.day rg
          refine x_icmp_le 66 C dX3_letGroupsCome_60 (by decide) ⟨by omega, by omega⟩ ⟨by omega, by omega⟩ (fun c_9 => ?_) (fun c_9 => ?_)
          · refine x_iload_n C dX3_letGroupsCome_66 rfl ?_
            refine x_aload_n C dX3_letGroupsCome_67 rfl ?_
            refine gh_0_2 C hj putH_same q_134 dX3_letGroupsCome_68 ?_
            refine gh_3_3 C hj putH_same q_66 dX3_letGroupsCome_71 ?_
            refine x_iload_n C dX3_letGroupsCome_74 rfl ?_
            refine lh_7 C hj putH_same (by omega) (by omega) dX3_letGroupsCome_75 rfl ?_
            have r_10 := RG.per rg (b := i) (by omega) (by omega)
            refine x_iadd C dX3_letGroupsCome_76 ?_
            refine x_iload_n C dX3_letGroupsCome_77 rfl ?_
            refine x_icmp_gt 119 C dX3_letGroupsCome_78 (by decide) ⟨by omega, by omega⟩ ⟨by omega, by omega⟩ (fun c_11 => ?_) (fun c_11 => ?_)
            · refine x_aload_n C dX3_letGroupsCome_119 rfl ?_
              refine x_iload_n C dX3_letGroupsCome_120 rfl ?_
              refine x_callV (nA := 1) (As := [vI i]) (rest := []) C (m_X3_turnAway (h := ((foldI sCm (h, nThere h) i).1)) hE hj putH_same (by omega) (by omega) putH_put) q_505 q_507 q_5 q_22 q_508 (by decide +kernel) (wl_h hj putH_same 0 (by decide)) rfl rfl (by decide) (by decide) (Nat.le_of_ble_eq_true rfl) dX3_letGroupsCome_121 rfl ?_
              refine x_iinc C dX3_letGroupsCome_124 rfl (by decide) (rfl : _ = [_, _, _, _]) ?_
              refine x_goto 24 C dX3_letGroupsCome_127 (by decide) ?_
              have e9 : foldI sCm (h, nThere h) (i + 1) = _ := (foldI_s i0).trans (sCm_a ⟨by omega, by omega⟩ (by rw [rs.2.1]; omega))
              refine G.of (G.wk (ih (i + 1) (by omega) (by omega) (by omega)) ?_) ?_ rfl rfl rfl
              · simp only [leL, e9, and_self]
              · rw [e9]
            · refine x_aload_n C dX3_letGroupsCome_81 rfl ?_
              refine gh_0_2 C hj putH_same q_134 dX3_letGroupsCome_82 ?_
              refine gh_3_0 C hj putH_same q_57 dX3_letGroupsCome_85 ?_
              refine x_iload_n C dX3_letGroupsCome_88 rfl ?_
              refine x_const C dX3_letGroupsCome_89 ?_
              refine sh_4 C hj putH_same (by omega) (by omega) dX3_letGroupsCome_90 putH_put ?_
              refine x_aload_n C dX3_letGroupsCome_91 rfl ?_
              refine gh_0_2 C hj putH_same q_134 dX3_letGroupsCome_92 ?_
              refine gh_3_6 C hj putH_same q_76 dX3_letGroupsCome_95 ?_
              refine x_iload_n C dX3_letGroupsCome_98 rfl ?_
              refine x_aload_n C dX3_letGroupsCome_99 rfl ?_
              refine gh_0_6 C hj putH_same q_142 dX3_letGroupsCome_100 (show _ = ((foldI sCm (h, nThere h) i).1) 0 6 from rfl) ?_
              have r_12 := RG.day rg
              refine sh_10 C hj putH_same (by omega) (by omega) dX3_letGroupsCome_103 putH_put ?_
              refine x_iload_n C dX3_letGroupsCome_104 rfl ?_
              refine x_aload_n C dX3_letGroupsCome_105 rfl ?_
              refine gh_0_2 C hj putH_same q_134 dX3_letGroupsCome_106 ?_
              refine gh_3_3 C hj putH_same q_66 dX3_letGroupsCome_109 ?_
              refine x_iload_n C dX3_letGroupsCome_112 rfl ?_
              refine lh_7 C hj putH_same (by omega) (by omega) dX3_letGroupsCome_113 (show _ = ((foldI sCm (h, nThere h) i).1) 7 i from rfl) ?_
              have r_13 := RG.per rg (b := i) (by omega) (by omega)
              refine x_iadd C dX3_letGroupsCome_114 ?_
              refine x_istore_n C dX3_letGroupsCome_115 (by decide) (rfl : _ = [_, _, _, _]) ?_
              refine x_goto 124 C dX3_letGroupsCome_116 (by decide) ?_
              refine x_iinc C dX3_letGroupsCome_124 rfl (by decide) (rfl : _ = [_, _, _, _]) ?_
              refine x_goto 24 C dX3_letGroupsCome_127 (by decide) ?_
              have e9 : foldI sCm (h, nThere h) (i + 1) = _ := (foldI_s i0).trans (sCm_i ⟨by omega, by omega⟩ (by rw [rs.2.1]; omega))
              refine G.of (G.wk (ih (i + 1) (by omega) (by omega) (by omega)) ?_) ?_ rfl rfl rfl
              · simp only [leL, e9, and_self]
              · rw [e9]; rfl
          · refine x_goto 124 C dX3_letGroupsCome_63 (by decide) ?_
            refine x_iinc C dX3_letGroupsCome_124 rfl (by decide) (rfl : _ = [_, _, _, _]) ?_
            refine x_goto 24 C dX3_letGroupsCome_127 (by decide) ?_
            have e9 : foldI sCm (h, nThere h) (i + 1) = _ := (foldI_s i0).trans (sCm_n (by omega))
            refine G.of (G.wk (ih (i + 1) (by omega) (by omega) (by omega)) ?_) ?_ rfl rfl rfl
            · simp only [leL, e9, and_self]
            · rw [e9]
  refine G.of (K24 ((h 3 7 : Int) + 1).toNat 0 (by omega) (by omega) (by omega)) ?_ rfl rfl rfl
  exact (putH_of hh).symm
set_option maxRecDepth 100000 in
set_option maxHeartbeats 4000000 in
theorem m_X3_bring {hs : Nat → HV} {tp md : HV} {E : HE} {j : Nat} {h : HV} (hE : HI E) (hj : j < 7) (hh : hs j = h) {K : Int} (R : RG K h) (hK : K ≤ 990000) {m : Int} (m0 : 0 ≤ m) (m1 : m ≤ 99) {hs9 : Nat → HV} (he : putH hs j (dBring h m) = hs9) : Mt yX3_bring cX3_bring 6 none 4 E [.ref (hA E j 0), vI m] hs tp md none hs9 tp md := by
  subst he
  refine mk_Mt hE (plainFor_of_name (by decide)) (Nat.le_of_ble_eq_true rfl) (by intro w0 hw0; simp only [List.mem_cons, List.not_mem_nil, or_false] at hw0; rcases hw0 with rfl | rfl <;> rfl) (rfl : _ = [_, _, _, _, _, _]) ?_
  intro F C D
  refine x_iload_n C dX3_bring_0 rfl ?_
  refine x_istore_n C dX3_bring_1 (by decide) (rfl : _ = [_, _, _, _, _, _]) ?_
  refine x_const C dX3_bring_2 ?_
  refine x_istore_n C dX3_bring_3 (by decide) (rfl : _ = [_, _, _, _, _, _]) ?_
  have K4 : ∀ (nn : Nat) (n : Nat) (g : HV) (l : Int), n ≤ 12 → 0 ≤ l → RG (K + (m - l)) g → l ≤ m → dBring h m = dBr n g l → (n : Int) < nn →  G F E (putH hs j g) tp md 4 [some (.ref (hA E j 0)), some (vI m), some (vI l), some (vI (12 - (n : Int))), none, none] [] := by
    intro nn
    induction nn with
    | zero => intro n g l n1 l0 rg l1 hq hz; exact absurd hz (by omega)
    | succ nn ih =>
      intro n g l n1 l0 rg l1 hq hz
      refine x_iload_n C dX3_bring_4 rfl ?_
      refine x_bipush C dX3_bring_5 (by decide) ?_
      refine x_icmp_ge 82 C dX3_bring_7 (by decide) ⟨by omega, by omega⟩ ⟨by omega, by omega⟩ (fun c_1 => ?_) (fun c_1 => ?_)
      · exact x_vret C D dX3_bring_82 (by rw [hq]; first | rw [dBr_stop (by omega)] | (rw [show n = 0 by omega]; rfl)) rfl rfl
      · refine x_iload_n C dX3_bring_10 rfl ?_
        refine x_if_le 82 C dX3_bring_11 (by decide) ⟨by omega, by omega⟩ (fun c_2 => ?_) (fun c_2 => ?_)
        · exact x_vret C D dX3_bring_82 (by rw [hq]; first | rw [dBr_stop (by omega)] | (rw [show n = 0 by omega]; rfl)) rfl rfl
        · refine x_aload_n C dX3_bring_14 rfl ?_
          refine gh_0_4 C hj putH_same q_138 dX3_bring_15 ?_
          refine gh_13_2 C hj putH_same q_123 dX3_bring_18 rfl ?_
          have r_3 := RG.siz rg
          refine x_if_le 82 C dX3_bring_21 (by decide) ⟨by omega, by omega⟩ (fun c_4 => ?_) (fun c_4 => ?_)
          · exact x_vret C D dX3_bring_82 (by rw [hq]; first | rw [dBr_stop (by omega)] | (rw [show n = 0 by omega]; rfl)) rfl rfl
          · refine x_aload_n C dX3_bring_24 rfl ?_
            refine gh_0_4 C hj putH_same q_138 dX3_bring_25 ?_
            refine gh_13_0 C hj putH_same q_119 dX3_bring_28 ?_
            refine x_const C dX3_bring_31 ?_
            refine lh_14 C hj putH_same (by omega) (by omega) dX3_bring_32 rfl ?_
            have r_5 := RG.kin rg (i := 0) (by omega) (by omega)
            refine x_istore C dX3_bring_33 (by decide) (rfl : _ = [_, _, _, _, _, _]) ?_
            refine x_aload_n C dX3_bring_35 rfl ?_
            refine gh_0_4 C hj putH_same q_138 dX3_bring_36 ?_
            refine x_iload_n C dX3_bring_39 rfl ?_
            have rt := RS_oTF rg (show 1 ≤ g 13 2 by omega) l0
            have rk := oTak_r rg l0
            refine x_callV (nA := 1) (As := [vI l]) (rest := []) C (m_X5_takeFromFirst (h := g) hE hj putH_same rg (by omega) (by omega) ⟨by omega, by omega⟩ putH_put) q_518 q_519 q_520 q_26 q_521 (by decide +kernel) (wl_h hj putH_same 13 (by decide)) rfl rfl (by decide) (by decide) (Nat.le_of_ble_eq_true rfl) dX3_bring_40 rfl ?_
            refine x_istore C dX3_bring_43 (by decide) (rfl : _ = [_, _, _, _, _, _]) ?_
            refine x_aload_n C dX3_bring_45 rfl ?_
            refine gh_0_3 C hj putH_same q_136 dX3_bring_46 ?_
            refine x_iload C dX3_bring_49 rfl ?_
            refine x_iload C dX3_bring_51 rfl ?_
            refine x_aload_n C dX3_bring_53 rfl ?_
            refine gh_0_6 C hj putH_same q_142 dX3_bring_54 rfl ?_
            have r_6 := RG.day rt.1
            refine x_callV (nA := 3) (As := [vI (g 14 0), vI (oTak g l), vI ((oTF g l) 0 6)]) (rest := []) C (m_X4_store (h := (oTF g l)) hE hj putH_same ⟨by omega, by omega⟩ ⟨by omega, by omega⟩ putH_put) q_527 q_528 q_529 q_25 q_530 (by decide +kernel) (wl_h hj putH_same 11 (by decide)) rfl rfl (by decide) (by decide) (Nat.le_of_ble_eq_true rfl) dX3_bring_57 rfl ?_
            refine x_aload_n C dX3_bring_60 rfl ?_
            refine gh_0_5 C hj putH_same q_140 dX3_bring_61 ?_
            refine x_const C dX3_bring_64 ?_
            refine x_dup2 C dX3_bring_65 rfl rfl ?_
            refine lh_16 C hj putH_same (by omega) (by omega) dX3_bring_66 rfl ?_
            refine x_iload C dX3_bring_67 rfl ?_
            refine x_iadd C dX3_bring_69 ?_
            refine sh_16 C hj putH_same (by omega) (by omega) dX3_bring_70 putH_put ?_
            refine x_iload_n C dX3_bring_71 rfl ?_
            refine x_iload C dX3_bring_72 rfl ?_
            refine x_isub C dX3_bring_74 ?_
            refine x_istore_n C dX3_bring_75 (by decide) (rfl : _ = [_, _, _, _, _, _]) ?_
            refine x_iinc C dX3_bring_76 rfl (by decide) (rfl : _ = [_, _, _, _, _, _]) ?_
            refine x_goto 4 C dX3_bring_79 (by decide) ?_
            obtain ⟨n9, rfl⟩ : ∃ n9, n = n9 + 1 := ⟨n - 1, by omega⟩
            have rb := RS_sBr rg (show 1 ≤ g 13 2 by omega) l0
            refine G.of (G.wk (ih n9 (sBr g l) (l - oTak g l) (by omega) (by omega) (by rw [show K + (m - (l - oTak g l)) = K + (m - l) + oTak g l by omega]; exact rb.1) (by omega) (by rw [hq, dBr_go (by omega)]) (by omega)) ?_) ?_ rfl rfl rfl
            · simp only [leL, and_self, and_true, true_and]; exact congrArg (fun z => some (vI z)) (by omega)
            · rfl
  refine G.of (G.wk (K4 13 12 h m (by omega) m0 (by rw [show K + (m - m) = K by omega]; exact R) (by omega) rfl (by omega)) ?_) ?_ rfl rfl rfl
  · simp only [leL, and_self]; trivial
  · exact (putH_of hh).symm
set_option maxRecDepth 100000 in
set_option maxHeartbeats 4000000 in
theorem m_X3_fillSeats {hs : Nat → HV} {tp md : HV} {E : HE} {j : Nat} {h : HV} (hE : HI E) (hj : j < 7) (hh : hs j = h) {K : Int} (R : RG K h) {x : Int} (x0 : x = 0 ∨ x = 1) {hs9 : Nat → HV} (he : putH hs j ((dFill h x).1) = hs9) : Mt yX3_fillSeats cX3_fillSeats 4 (some .int) 3 E [.ref (hA E j 0), vI x] hs tp md (some (vI ((dFill h x).2))) hs9 tp md := by
  subst he
  refine mk_Mt hE (plainFor_of_name (by decide)) (Nat.le_of_ble_eq_true rfl) (by intro w0 hw0; simp only [List.mem_cons, List.not_mem_nil, or_false] at hw0; rcases hw0 with rfl | rfl <;> rfl) (rfl : _ = [_, _, _, _]) ?_
  intro F C D
  have rm := RG.made R
  refine x_const C dX3_fillSeats_0 ?_
  refine x_istore_n C dX3_fillSeats_1 (by decide) (rfl : _ = [_, _, _, _]) ?_
  refine x_const C dX3_fillSeats_2 ?_
  refine x_istore_n C dX3_fillSeats_3 (by decide) (rfl : _ = [_, _, _, _]) ?_
  have K4 : ∀ (nn : Nat) (i : Int), 0 ≤ i → i ≤ h 3 7 → h 3 7 - i < nn →  G F E (putH hs j (foldI (sFl x) (h, 0) i).1) tp md 4 [some (.ref (hA E j 0)), some (vI x), some (vI ((foldI (sFl x) (h, 0) i).2)), some (vI i)] [] := by
    intro nn
    induction nn with
    | zero => intro i i0 i1 hz; exact absurd hz (by omega)
    | succ nn ih =>
      intro i i0 i1 hz
      have rs := RS_fillI R i0 (i := i) (x := x) (n := 0)
      have rg := rs.1
      have em : (foldI (sFl x) (h, 0) i).1 3 7 = h 3 7 := congrFun rs.2.2.2.1 7
      have rc := fill_r R (x := x) i0 (i := i) (by omega)
      refine x_iload_n C dX3_fillSeats_4 rfl ?_
      refine x_aload_n C dX3_fillSeats_5 rfl ?_
      refine gh_0_2 C hj putH_same q_134 dX3_fillSeats_6 ?_
      refine gh_3_7 C hj putH_same q_78 dX3_fillSeats_9 rfl ?_
      have r_1 := RG.made rg
      refine x_icmp_ge 78 C dX3_fillSeats_12 (by decide) ⟨by omega, by omega⟩ ⟨by omega, by omega⟩ (fun c_2 => ?_) (fun c_2 => ?_)
      · refine x_iload_n C dX3_fillSeats_78 rfl ?_
        exact x_iret C D rfl dX3_fillSeats_79 (by rw [show i = h 3 7 by omega]; rfl) (by rw [show i = h 3 7 by omega]; rfl) rfl rfl
      · refine x_aload_n C dX3_fillSeats_15 rfl ?_
        refine gh_0_2 C hj putH_same q_134 dX3_fillSeats_16 ?_
        refine x_iload_n C dX3_fillSeats_19 rfl ?_
        refine x_aload_n C dX3_fillSeats_20 rfl ?_
        refine gh_0_6 C hj putH_same q_142 dX3_fillSeats_21 rfl ?_
        have r_3 := RG.day rg
        refine x_callV (nA := 2) (As := [vI i, vI (((foldI (sFl x) (h, 0) i).1) 0 6)]) (rest := []) C (m_X1_isOver (h := ((foldI (sFl x) (h, 0) i).1)) hE hj putH_same rg (by omega) (by omega) ⟨by omega, by omega⟩) q_346 q_347 q_348 q_24 q_349 (by decide +kernel) (wl_h hj putH_same 3 (by decide)) rfl rfl (by decide) (by decide) (Nat.le_of_ble_eq_true rfl) dX3_fillSeats_24 rfl ?_
        refine x_bz_eq 72 C dX3_fillSeats_27 (by decide) (fun c_4 => ?_) (fun c_4 => ?_)
        · refine x_iinc C dX3_fillSeats_72 rfl (by decide) (rfl : _ = [_, _, _, _]) ?_
          refine x_goto 4 C dX3_fillSeats_75 (by decide) ?_
          have e9 : foldI (sFl x) (h, 0) (i + 1) = _ := (foldI_s i0).trans (sFl_n (fun q => absurd q.1 c_4))
          refine G.of (G.wk (ih (i + 1) (by omega) (by omega) (by omega)) ?_) ?_ rfl rfl rfl
          · simp only [leL, e9, and_self]
          · rw [e9]
        · refine x_iload_n C dX3_fillSeats_30 rfl ?_
          refine x_aload_n C dX3_fillSeats_31 rfl ?_
          refine gh_0_2 C hj putH_same q_134 dX3_fillSeats_32 ?_
          refine gh_3_3 C hj putH_same q_66 dX3_fillSeats_35 ?_
          refine x_iload_n C dX3_fillSeats_38 rfl ?_
          refine lh_7 C hj putH_same (by omega) (by omega) dX3_fillSeats_39 rfl ?_
          have r_5 := RG.per rg (b := i) (by omega) (by omega)
          refine x_iadd C dX3_fillSeats_40 ?_
          refine x_aload_n C dX3_fillSeats_41 rfl ?_
          refine gh_0_0 C hj putH_same q_131 dX3_fillSeats_42 ?_
          refine x_bipush C dX3_fillSeats_45 (by decide) ?_
          refine lh_1 C hj putH_same (by omega) (by omega) dX3_fillSeats_47 rfl ?_
          have r_6 := RG.set' rg (i := 8) (by omega) (by omega)
          refine x_icmp_gt 72 C dX3_fillSeats_48 (by decide) ⟨by omega, by omega⟩ ⟨by omega, by omega⟩ (fun c_7 => ?_) (fun c_7 => ?_)
          · refine x_iinc C dX3_fillSeats_72 rfl (by decide) (rfl : _ = [_, _, _, _]) ?_
            refine x_goto 4 C dX3_fillSeats_75 (by decide) ?_
            have e9 : foldI (sFl x) (h, 0) (i + 1) = _ := (foldI_s i0).trans (sFl_n (fun q => by have q2 := q.2; omega))
            refine G.of (G.wk (ih (i + 1) (by omega) (by omega) (by omega)) ?_) ?_ rfl rfl rfl
            · simp only [leL, e9, and_self]
            · rw [e9]
          · refine x_iload_n C dX3_fillSeats_51 rfl ?_
            refine x_aload_n C dX3_fillSeats_52 rfl ?_
            refine gh_0_2 C hj putH_same q_134 dX3_fillSeats_53 ?_
            refine gh_3_3 C hj putH_same q_66 dX3_fillSeats_56 ?_
            refine x_iload_n C dX3_fillSeats_59 rfl ?_
            refine lh_7 C hj putH_same (by omega) (by omega) dX3_fillSeats_60 rfl ?_
            have r_8 := RG.per rg (b := i) (by omega) (by omega)
            refine x_iadd C dX3_fillSeats_61 ?_
            refine x_istore_n C dX3_fillSeats_62 (by decide) (rfl : _ = [_, _, _, _]) ?_
            refine x_iload_n C dX3_fillSeats_63 rfl ?_
            refine x_if_eq 72 C dX3_fillSeats_64 (by decide) ⟨by omega, by omega⟩ (fun c_9 => ?_) (fun c_9 => ?_)
            · refine x_iinc C dX3_fillSeats_72 rfl (by decide) (rfl : _ = [_, _, _, _]) ?_
              refine x_goto 4 C dX3_fillSeats_75 (by decide) ?_
              have e9 : foldI (sFl x) (h, 0) (i + 1) = _ := (foldI_s i0).trans (sFl_0 ⟨c_4, by omega⟩ c_9)
              refine G.of (G.wk (ih (i + 1) (by omega) (by omega) (by omega)) ?_) ?_ rfl rfl rfl
              · simp only [leL, e9, and_self]
              · rw [e9]
            · refine x_aload_n C dX3_fillSeats_67 rfl ?_
              refine x_iload_n C dX3_fillSeats_68 rfl ?_
              refine x_callV (nA := 1) (As := [vI i]) (rest := []) C (m_X3_letLeave (h := ((foldI (sFl x) (h, 0) i).1)) hE hj putH_same (by omega) (by omega) putH_put) q_496 q_498 q_3 q_22 q_499 (by decide +kernel) (wl_h hj putH_same 0 (by decide)) rfl rfl (by decide) (by decide) (Nat.le_of_ble_eq_true rfl) dX3_fillSeats_69 rfl ?_
              refine x_iinc C dX3_fillSeats_72 rfl (by decide) (rfl : _ = [_, _, _, _]) ?_
              refine x_goto 4 C dX3_fillSeats_75 (by decide) ?_
              have e9 : foldI (sFl x) (h, 0) (i + 1) = _ := (foldI_s i0).trans (sFl_1 ⟨c_4, by omega⟩ c_9)
              refine G.of (G.wk (ih (i + 1) (by omega) (by omega) (by omega)) ?_) ?_ rfl rfl rfl
              · simp only [leL, e9, and_self]
              · rw [e9]
  refine G.of (K4 ((h 3 7 : Int) + 1).toNat 0 (by omega) (by omega) (by omega)) ?_ rfl rfl rfl
  exact (putH_of hh).symm
set_option maxRecDepth 100000 in
set_option maxHeartbeats 4000000 in
theorem m_X3_fly {hs : Nat → HV} {tp md : HV} {E : HE} {j : Nat} {h : HV} (hE : HI E) (hj : j < 7) (hh : hs j = h) {K : Int} (R : RG K h) (hK : K ≤ 890000) {hs9 : Nat → HV} (he : putH hs j (dFly h) = hs9) : Mt yX3_fly cX3_fly 1 none 5 E [.ref (hA E j 0)] hs tp md none hs9 tp md := by
  subst he
  refine mk_Mt hE (plainFor_of_name (by decide)) (Nat.le_of_ble_eq_true rfl) (by intro w0 hw0; simp only [List.mem_cons, List.not_mem_nil, or_false] at hw0; rcases hw0 with rfl <;> rfl) (rfl : _ = [_]) ?_
  intro F C D
  have rz := set_50 R
  have rb := RS_bring R rz.2.1.1
  have rf := RS_fill rb.1 (x := 1)
  refine x_aload_n C dX3_fly_0 rfl ?_
  refine x_aload_n C dX3_fly_1 rfl ?_
  refine gh_0_0 C hj hh q_131 dX3_fly_2 ?_
  refine x_bipush C dX3_fly_5 (by decide) ?_
  refine lh_1 C hj hh (by omega) (by omega) dX3_fly_7 rfl ?_
  have r_1 := RG.set' R (i := 7) (by omega) (by omega)
  refine x_callV (nA := 1) (As := [vI (h 1 7)]) (rest := []) C (m_X3_bring hE hj hh R (by omega) (by omega) (by omega) rfl) q_514 q_516 q_7 q_22 q_517 (by decide +kernel) (wl_h hj hh 0 (by decide)) rfl rfl (by decide) (by decide) (Nat.le_of_ble_eq_true rfl) dX3_fly_8 rfl ?_
  refine x_aload_n C dX3_fly_11 rfl ?_
  refine gh_0_5 C hj putH_same q_140 dX3_fly_12 ?_
  refine x_const C dX3_fly_15 ?_
  refine x_dup2 C dX3_fly_16 rfl rfl ?_
  refine lh_16 C hj putH_same (by omega) (by omega) dX3_fly_17 rfl ?_
  refine x_aload_n C dX3_fly_18 rfl ?_
  refine x_const C dX3_fly_19 ?_
  refine x_callV (nA := 1) (As := [vI 1]) (rest := [vI ((dBring h (h 1 7)) 16 1), vI 1, .ref (hA E j 16)]) C (m_X3_fillSeats (h := (dBring h (h 1 7))) hE hj putH_same rb.1 (Or.inr rfl) putH_put) q_539 q_540 q_541 q_22 q_542 (by decide +kernel) (wl_h hj putH_same 0 (by decide)) rfl rfl (by decide) (by decide) (Nat.le_of_ble_eq_true rfl) dX3_fly_20 rfl ?_
  refine x_iadd C dX3_fly_23 ?_
  refine sh_16 C hj putH_same (by omega) (by omega) dX3_fly_24 putH_put ?_
  refine x_aload_n C dX3_fly_25 rfl ?_
  refine gh_0_5 C hj putH_same q_140 dX3_fly_26 ?_
  refine x_const C dX3_fly_29 ?_
  refine x_dup2 C dX3_fly_30 rfl rfl ?_
  refine lh_16 C hj putH_same (by omega) (by omega) dX3_fly_31 (show _ = ((dFill (dBring h (h 1 7)) 1).1) 16 0 from rfl) ?_
  refine x_const C dX3_fly_32 ?_
  refine x_iadd C dX3_fly_33 ?_
  refine sh_16 C hj putH_same (by omega) (by omega) dX3_fly_34 putH_w ?_
  refine x_aload_n C dX3_fly_35 rfl ?_
  refine x_dup C dX3_fly_36 rfl ?_
  refine gh_0_8 C hj putH_same q_146 dX3_fly_37 (show _ = ((dFill (dBring h (h 1 7)) 1).1) 0 8 from rfl) ?_
  refine x_aload_n C dX3_fly_40 rfl ?_
  refine gh_0_0 C hj putH_same q_131 dX3_fly_41 ?_
  refine x_bipush C dX3_fly_44 (by decide) ?_
  refine lh_1 C hj putH_same (by omega) (by omega) dX3_fly_46 (show _ = ((dFill (dBring h (h 1 7)) 1).1) 1 9 from rfl) ?_
  have r_2 := RG.set' rf.1 (i := 9) (by omega) (by omega)
  refine x_isub C dX3_fly_47 ?_
  refine ph_0_8 C hj putH_same q_146 dX3_fly_48 putH_put ?_
  refine x_aload_n C dX3_fly_51 rfl ?_
  refine x_dup C dX3_fly_52 rfl ?_
  refine gh_0_10 C hj putH_same q_150 dX3_fly_53 (show _ = ((dFill (dBring h (h 1 7)) 1).1) 0 10 from rfl) ?_
  refine x_aload_n C dX3_fly_56 rfl ?_
  refine gh_0_0 C hj putH_same q_131 dX3_fly_57 ?_
  refine x_bipush C dX3_fly_60 (by decide) ?_
  refine lh_1 C hj putH_same (by omega) (by omega) dX3_fly_62 (show _ = ((dFill (dBring h (h 1 7)) 1).1) 1 9 from rfl) ?_
  have r_3 := RG.set' rf.1 (i := 9) (by omega) (by omega)
  refine x_iadd C dX3_fly_63 ?_
  refine ph_0_10 C hj putH_same q_150 dX3_fly_64 putH_w ?_
  refine x_aload_n C dX3_fly_67 rfl ?_
  refine x_const C dX3_fly_68 ?_
  refine ph_0_7 C hj putH_same (by first | (left; rfl) | (right; rfl) | omega) q_144 dX3_fly_69 putH_w ?_
  exact x_vret C D dX3_fly_72 rfl rfl rfl
set_option maxRecDepth 100000 in
set_option maxHeartbeats 4000000 in
theorem m_X3_letAllEat {hs : Nat → HV} {tp md : HV} {E : HE} {j : Nat} {h : HV} (hE : HI E) (hj : j < 7) (hh : hs j = h) {K : Int} (R : RG K h) (hK : K ≤ 1000000) {hs9 : Nat → HV} (he : putH hs j (dEat h) = hs9) : Mt yX3_letAllEat cX3_letAllEat 3 none 4 E [.ref (hA E j 0)] hs tp md none hs9 tp md := by
  subst he
  refine mk_Mt hE (plainFor_of_name (by decide)) (Nat.le_of_ble_eq_true rfl) (by intro w0 hw0; simp only [List.mem_cons, List.not_mem_nil, or_false] at hw0; rcases hw0 with rfl <;> rfl) (rfl : _ = [_, _, _]) ?_
  intro F C D
  have rt := nThere_r R
  refine x_aload_n C dX3_letAllEat_0 rfl ?_
  refine gh_0_2 C hj hh q_134 dX3_letAllEat_1 ?_
  refine x_callV (nA := 0) (As := []) (rest := []) C (m_X1_personsThere hE hj hh R) q_513 q_291 q_292 q_24 q_293 (by decide +kernel) (wl_h hj hh 3 (by decide)) rfl rfl (by decide) (by decide) (Nat.le_of_ble_eq_true rfl) dX3_letAllEat_4 rfl ?_
  refine x_istore_n C dX3_letAllEat_7 (by decide) (rfl : _ = [_, _, _]) ?_
  refine x_aload_n C dX3_letAllEat_8 rfl ?_
  refine gh_0_3 C hj hh q_136 dX3_letAllEat_9 ?_
  refine x_iload_n C dX3_letAllEat_12 rfl ?_
  refine x_aload_n C dX3_letAllEat_13 rfl ?_
  refine gh_0_6 C hj hh q_142 dX3_letAllEat_14 rfl ?_
  have r_1 := RG.day R
  refine x_callV (nA := 2) (As := [vI (nThere h), vI (h 0 6)]) (rest := []) C (m_X4_eat hE hj hh R hK ⟨by omega, by omega⟩ ⟨by omega, by omega⟩ rfl) q_551 q_552 q_553 q_25 q_554 (by decide +kernel) (wl_h hj hh 11 (by decide)) rfl rfl (by decide) (by decide) (Nat.le_of_ble_eq_true rfl) dX3_letAllEat_17 rfl ?_
  refine x_istore_n C dX3_letAllEat_20 (by decide) (rfl : _ = [_, _, _]) ?_
  refine x_aload_n C dX3_letAllEat_21 rfl ?_
  refine gh_0_5 C hj putH_same q_140 dX3_letAllEat_22 ?_
  refine x_const C dX3_letAllEat_25 ?_
  refine x_dup2 C dX3_letAllEat_26 rfl rfl ?_
  refine lh_16 C hj putH_same (by omega) (by omega) dX3_letAllEat_27 rfl ?_
  refine x_iload_n C dX3_letAllEat_28 rfl ?_
  refine x_iadd C dX3_letAllEat_29 ?_
  refine sh_16 C hj putH_same (by omega) (by omega) dX3_letAllEat_30 putH_put ?_
  refine x_aload_n C dX3_letAllEat_31 rfl ?_
  refine gh_0_5 C hj putH_same q_140 dX3_letAllEat_32 ?_
  refine x_const C dX3_letAllEat_35 ?_
  refine x_dup2 C dX3_letAllEat_36 rfl rfl ?_
  refine lh_16 C hj putH_same (by omega) (by omega) dX3_letAllEat_37 (show _ = (lEat h (nThere h) (h 0 6)) 16 5 from rfl) ?_
  refine x_iload_n C dX3_letAllEat_38 rfl ?_
  refine x_iload_n C dX3_letAllEat_39 rfl ?_
  refine x_isub C dX3_letAllEat_40 ?_
  refine x_iadd C dX3_letAllEat_41 ?_
  refine sh_16 C hj putH_same (by omega) (by omega) dX3_letAllEat_42 putH_w ?_
  exact x_vret C D dX3_letAllEat_43 rfl rfl rfl
set_option maxRecDepth 100000 in
set_option maxHeartbeats 4000000 in
theorem m_X3_letAllSleep {hs : Nat → HV} {tp md : HV} {E : HE} {j : Nat} {h : HV} (hE : HI E) (hj : j < 7) (hh : hs j = h) {K : Int} (R : RG K h) {hs9 : Nat → HV} (he : putH hs j (dSleep h) = hs9) : Mt yX3_letAllSleep cX3_letAllSleep 2 none 3 E [.ref (hA E j 0)] hs tp md none hs9 tp md := by
  subst he
  refine mk_Mt hE (plainFor_of_name (by decide)) (Nat.le_of_ble_eq_true rfl) (by intro w0 hw0; simp only [List.mem_cons, List.not_mem_nil, or_false] at hw0; rcases hw0 with rfl <;> rfl) (rfl : _ = [_, _]) ?_
  intro F C D
  have rm := RG.made R
  refine x_const C dX3_letAllSleep_0 ?_
  refine x_istore_n C dX3_letAllSleep_1 (by decide) (rfl : _ = [_, _]) ?_
  have K2 : ∀ (nn : Nat) (i : Int), 0 ≤ i → i ≤ h 3 7 → h 3 7 - i < nn →  G F E (putH hs j (foldI sSl h i)) tp md 2 [some (.ref (hA E j 0)), some (vI i)] [] := by
    intro nn
    induction nn with
    | zero => intro i i0 i1 hz; exact absurd hz (by omega)
    | succ nn ih =>
      intro i i0 i1 hz
      have rs := RS_sleepI R i0 (i := i)
      have rg := rs.1
      have em : (foldI sSl h i) 3 7 = h 3 7 := congrFun rs.2.2.2.1 7
      have ed : (foldI sSl h i) 0 6 = h 0 6 := rs.2.2.2.2.2.2.2
      refine x_iload_n C dX3_letAllSleep_2 rfl ?_
      refine x_aload_n C dX3_letAllSleep_3 rfl ?_
      refine gh_0_2 C hj putH_same q_134 dX3_letAllSleep_4 ?_
      refine gh_3_7 C hj putH_same q_78 dX3_letAllSleep_7 rfl ?_
      have r_1 := RG.made rg
      refine x_icmp_ge 98 C dX3_letAllSleep_10 (by decide) ⟨by omega, by omega⟩ ⟨by omega, by omega⟩ (fun c_2 => ?_) (fun c_2 => ?_)
      · exact x_vret C D dX3_letAllSleep_98 (by rw [show i = h 3 7 by omega]; rfl) rfl rfl
      · refine x_aload_n C dX3_letAllSleep_13 rfl ?_
        refine gh_0_2 C hj putH_same q_134 dX3_letAllSleep_14 ?_
        refine gh_3_0 C hj putH_same q_57 dX3_letAllSleep_17 ?_
        refine x_iload_n C dX3_letAllSleep_20 rfl ?_
        refine lh_4 C hj putH_same (by omega) (by omega) dX3_letAllSleep_21 rfl ?_
        have r_3 := RG.how rg (b := i) (by omega) (by omega)
        refine x_const C dX3_letAllSleep_22 ?_
        refine x_icmp_ne 58 C dX3_letAllSleep_23 (by decide) ⟨by omega, by omega⟩ ⟨by omega, by omega⟩ (fun c_4 => ?_) (fun c_4 => ?_)
        · refine x_aload_n C dX3_letAllSleep_58 rfl ?_
          refine gh_0_2 C hj putH_same q_134 dX3_letAllSleep_59 ?_
          refine x_iload_n C dX3_letAllSleep_62 rfl ?_
          refine x_aload_n C dX3_letAllSleep_63 rfl ?_
          refine gh_0_6 C hj putH_same q_142 dX3_letAllSleep_64 rfl ?_
          have r_5 := RG.day rg
          refine x_callV (nA := 2) (As := [vI i, vI ((foldI sSl h i) 0 6)]) (rest := []) C (m_X1_isOver (h := (foldI sSl h i)) hE hj putH_same rg (by omega) (by omega) ⟨by omega, by omega⟩) q_346 q_347 q_348 q_24 q_349 (by decide +kernel) (wl_h hj putH_same 3 (by decide)) rfl rfl (by decide) (by decide) (Nat.le_of_ble_eq_true rfl) dX3_letAllSleep_67 rfl ?_
          refine x_bz_eq 92 C dX3_letAllSleep_70 (by decide) (fun c_6 => ?_) (fun c_6 => ?_)
          · refine x_iinc C dX3_letAllSleep_92 rfl (by decide) (rfl : _ = [_, _]) ?_
            refine x_goto 2 C dX3_letAllSleep_95 (by decide) ?_
            refine G.of (G.wk (ih (i + 1) (by omega) (by omega) (by omega)) ?_) ?_ rfl rfl rfl
            · simp only [leL, and_self]
            · rw [foldI_s i0, sSl_f (sSl1_f c_4) c_6]
          · refine x_aload_n C dX3_letAllSleep_73 rfl ?_
            refine gh_0_5 C hj putH_same q_140 dX3_letAllSleep_74 ?_
            refine x_bipush C dX3_letAllSleep_77 (by decide) ?_
            refine x_dup2 C dX3_letAllSleep_79 rfl rfl ?_
            refine lh_16 C hj putH_same (by omega) (by omega) dX3_letAllSleep_80 rfl ?_
            refine x_aload_n C dX3_letAllSleep_81 rfl ?_
            refine gh_0_2 C hj putH_same q_134 dX3_letAllSleep_82 ?_
            refine gh_3_3 C hj putH_same q_66 dX3_letAllSleep_85 ?_
            refine x_iload_n C dX3_letAllSleep_88 rfl ?_
            refine lh_7 C hj putH_same (by omega) (by omega) dX3_letAllSleep_89 rfl ?_
            have r_7 := RG.per rg (b := i) (by omega) (by omega)
            refine x_iadd C dX3_letAllSleep_90 ?_
            refine sh_16 C hj putH_same (by omega) (by omega) dX3_letAllSleep_91 putH_put ?_
            refine x_iinc C dX3_letAllSleep_92 rfl (by decide) (rfl : _ = [_, _]) ?_
            refine x_goto 2 C dX3_letAllSleep_95 (by decide) ?_
            refine G.of (G.wk (ih (i + 1) (by omega) (by omega) (by omega)) ?_) ?_ rfl rfl rfl
            · simp only [leL, and_self]
            · rw [foldI_s i0, sSl_t (sSl1_f c_4) c_6]
        · refine x_aload_n C dX3_letAllSleep_26 rfl ?_
          refine gh_0_2 C hj putH_same q_134 dX3_letAllSleep_27 ?_
          refine gh_3_4 C hj putH_same q_70 dX3_letAllSleep_30 ?_
          refine x_iload_n C dX3_letAllSleep_33 rfl ?_
          refine x_dup2 C dX3_letAllSleep_34 rfl rfl ?_
          refine lh_8 C hj putH_same (by omega) (by omega) dX3_letAllSleep_35 rfl ?_
          refine x_const C dX3_letAllSleep_36 ?_
          refine x_iadd C dX3_letAllSleep_37 ?_
          refine sh_8 C hj putH_same (by omega) (by omega) dX3_letAllSleep_38 putH_put ?_
          refine x_aload_n C dX3_letAllSleep_39 rfl ?_
          refine gh_0_5 C hj putH_same q_140 dX3_letAllSleep_40 ?_
          refine x_bipush C dX3_letAllSleep_43 (by decide) ?_
          refine x_dup2 C dX3_letAllSleep_45 rfl rfl ?_
          refine lh_16 C hj putH_same (by omega) (by omega) dX3_letAllSleep_46 (show _ = (foldI sSl h i) 16 7 from rfl) ?_
          refine x_aload_n C dX3_letAllSleep_47 rfl ?_
          refine gh_0_2 C hj putH_same q_134 dX3_letAllSleep_48 ?_
          refine gh_3_3 C hj putH_same q_66 dX3_letAllSleep_51 ?_
          refine x_iload_n C dX3_letAllSleep_54 rfl ?_
          refine lh_7 C hj putH_same (by omega) (by omega) dX3_letAllSleep_55 (show _ = (foldI sSl h i) 7 i from rfl) ?_
          have r_8 := RG.per rg (b := i) (by omega) (by omega)
          refine x_iadd C dX3_letAllSleep_56 ?_
          refine sh_16 C hj putH_same (by omega) (by omega) dX3_letAllSleep_57 putH_put ?_
          refine x_aload_n C dX3_letAllSleep_58 rfl ?_
          refine gh_0_2 C hj putH_same q_134 dX3_letAllSleep_59 ?_
          refine x_iload_n C dX3_letAllSleep_62 rfl ?_
          refine x_aload_n C dX3_letAllSleep_63 rfl ?_
          refine gh_0_6 C hj putH_same q_142 dX3_letAllSleep_64 (show _ = (foldI sSl h i) 0 6 from rfl) ?_
          have r_9 := RG.day rg
          refine x_callV (nA := 2) (As := [vI i, vI ((foldI sSl h i) 0 6)]) (rest := []) C (m_X1_isOver (h := (upr (upr (foldI sSl h i) 8 (up1 ((foldI sSl h i) 8) i (((foldI sSl h i) 8 i) + 1))) 16 (up1 ((foldI sSl h i) 16) 7 (((foldI sSl h i) 16 7) + ((foldI sSl h i) 7 i))))) hE hj putH_same rg (by omega) (by omega) ⟨by omega, by omega⟩) q_346 q_347 q_348 q_24 q_349 (by decide +kernel) (wl_h hj putH_same 3 (by decide)) rfl rfl (by decide) (by decide) (Nat.le_of_ble_eq_true rfl) dX3_letAllSleep_67 rfl ?_
          refine x_bz_eq 92 C dX3_letAllSleep_70 (by decide) (fun c_10 => ?_) (fun c_10 => ?_)
          · refine x_iinc C dX3_letAllSleep_92 rfl (by decide) (rfl : _ = [_, _]) ?_
            refine x_goto 2 C dX3_letAllSleep_95 (by decide) ?_
            refine G.of (G.wk (ih (i + 1) (by omega) (by omega) (by omega)) ?_) ?_ rfl rfl rfl
            · simp only [leL, and_self]
            · rw [foldI_s i0, sSl_f (sSl1_t c_4) c_10]
          · refine x_aload_n C dX3_letAllSleep_73 rfl ?_
            refine gh_0_5 C hj putH_same q_140 dX3_letAllSleep_74 ?_
            refine x_bipush C dX3_letAllSleep_77 (by decide) ?_
            refine x_dup2 C dX3_letAllSleep_79 rfl rfl ?_
            refine lh_16 C hj putH_same (by omega) (by omega) dX3_letAllSleep_80 (show _ = (foldI sSl h i) 16 6 from rfl) ?_
            refine x_aload_n C dX3_letAllSleep_81 rfl ?_
            refine gh_0_2 C hj putH_same q_134 dX3_letAllSleep_82 ?_
            refine gh_3_3 C hj putH_same q_66 dX3_letAllSleep_85 ?_
            refine x_iload_n C dX3_letAllSleep_88 rfl ?_
            refine lh_7 C hj putH_same (by omega) (by omega) dX3_letAllSleep_89 (show _ = (foldI sSl h i) 7 i from rfl) ?_
            have r_11 := RG.per rg (b := i) (by omega) (by omega)
            refine x_iadd C dX3_letAllSleep_90 ?_
            refine sh_16 C hj putH_same (by omega) (by omega) dX3_letAllSleep_91 putH_w ?_
            refine x_iinc C dX3_letAllSleep_92 rfl (by decide) (rfl : _ = [_, _]) ?_
            refine x_goto 2 C dX3_letAllSleep_95 (by decide) ?_
            refine G.of (G.wk (ih (i + 1) (by omega) (by omega) (by omega)) ?_) ?_ rfl rfl rfl
            · simp only [leL, and_self]
            · rw [foldI_s i0, sSl_t (sSl1_t c_4) c_10]; first | rfl | (rw [upr_upr]; rfl)
  refine G.of (K2 ((h 3 7 : Int) + 1).toNat 0 (by omega) (by omega) (by omega)) ?_ rfl rfl rfl
  exact (putH_of hh).symm
set_option maxRecDepth 100000 in
set_option maxHeartbeats 4000000 in
theorem m_X3_endDay {hs : Nat → HV} {tp md : HV} {E : HE} {j : Nat} {h : HV} (hE : HI E) (hj : j < 7) (hh : hs j = h) {K : Int} (R : RG K h) (hK : K ≤ 1000000) {hs9 : Nat → HV} (he : putH hs j (dEnd h) = hs9) : Mt yX3_endDay cX3_endDay 1 none 5 E [.ref (hA E j 0)] hs tp md none hs9 tp md := by
  subst he
  refine mk_Mt hE (plainFor_of_name (by decide)) (Nat.le_of_ble_eq_true rfl) (by intro w0 hw0; simp only [List.mem_cons, List.not_mem_nil, or_false] at hw0; rcases hw0 with rfl <;> rfl) (rfl : _ = [_]) ?_
  intro F C D
  have ra := RS_eat R
  refine x_aload_n C dX3_endDay_0 rfl ?_
  refine x_callV (nA := 0) (As := []) (rest := []) C (m_X3_letAllEat hE hj hh R (by omega) rfl) q_547 q_549 q_10 q_22 q_550 (by decide +kernel) (wl_h hj hh 0 (by decide)) rfl rfl (by decide) (by decide) (Nat.le_of_ble_eq_true rfl) dX3_endDay_1 rfl ?_
  refine x_aload_n C dX3_endDay_4 rfl ?_
  refine x_callV (nA := 0) (As := []) (rest := []) C (m_X3_letAllSleep (h := (dEat h)) hE hj putH_same ra.1 putH_put) q_556 q_558 q_11 q_22 q_559 (by decide +kernel) (wl_h hj putH_same 0 (by decide)) rfl rfl (by decide) (by decide) (Nat.le_of_ble_eq_true rfl) dX3_endDay_5 rfl ?_
  refine x_aload_n C dX3_endDay_8 rfl ?_
  refine x_dup C dX3_endDay_9 rfl ?_
  refine gh_0_6 C hj putH_same q_142 dX3_endDay_10 rfl ?_
  refine x_const C dX3_endDay_13 ?_
  refine x_iadd C dX3_endDay_14 ?_
  refine ph_0_6 C hj putH_same q_142 dX3_endDay_15 putH_put ?_
  exact x_vret C D dX3_endDay_18 rfl rfl rfl
set_option maxRecDepth 100000 in
set_option maxHeartbeats 4000000 in
theorem m_X3_beginDay {hs : Nat → HV} {tp md : HV} {E : HE} {j : Nat} {h : HV} (hE : HI E) (hj : j < 7) (hh : hs j = h) {K : Int} (R : RG K h) (hK : K ≤ 890000) {hs9 : Nat → HV} (he : putH hs j (dBegin h) = hs9) : Mt yX3_beginDay cX3_beginDay 1 none 5 E [.ref (hA E j 0)] hs tp md none hs9 tp md := by
  subst he
  refine mk_Mt hE (plainFor_of_name (by decide)) (Nat.le_of_ble_eq_true rfl) (by intro w0 hw0; simp only [List.mem_cons, List.not_mem_nil, or_false] at hw0; rcases hw0 with rfl <;> rfl) (rfl : _ = [_]) ?_
  intro F C D
  have rz := set_50 R
  have ra := RS_spoil R
  refine x_aload_n C dX3_beginDay_0 rfl ?_
  refine gh_0_5 C hj hh q_140 dX3_beginDay_1 ?_
  refine x_const C dX3_beginDay_4 ?_
  refine x_dup2 C dX3_beginDay_5 rfl rfl ?_
  refine lh_16 C hj hh (by omega) (by omega) dX3_beginDay_6 rfl ?_
  refine x_aload_n C dX3_beginDay_7 rfl ?_
  refine gh_0_3 C hj hh q_136 dX3_beginDay_8 ?_
  refine x_aload_n C dX3_beginDay_11 rfl ?_
  refine gh_0_6 C hj hh q_142 dX3_beginDay_12 rfl ?_
  have r_1 := RG.day R
  refine x_aload_n C dX3_beginDay_15 rfl ?_
  refine gh_0_0 C hj hh q_131 dX3_beginDay_16 ?_
  refine x_const C dX3_beginDay_19 ?_
  refine lh_1 C hj hh (by omega) (by omega) dX3_beginDay_20 rfl ?_
  have r_2 := RG.set' R (i := 5) (by omega) (by omega)
  refine x_callV (nA := 2) (As := [vI (h 0 6), vI (h 1 5)]) (rest := [vI (h 16 4), vI 4, .ref (hA E j 16)]) C (m_X4_throwSpoiltAway hE hj hh ⟨by omega, by omega⟩ ⟨by omega, by omega⟩ rfl) q_482 q_483 q_484 q_25 q_485 (by decide +kernel) (wl_h hj hh 11 (by decide)) rfl rfl (by decide) (by decide) (Nat.le_of_ble_eq_true rfl) dX3_beginDay_21 rfl ?_
  refine x_iadd C dX3_beginDay_24 ?_
  refine sh_16 C hj putH_same (by omega) (by omega) dX3_beginDay_25 putH_put ?_
  refine G.of (hs' := putH hs j (dSpoil h)) ?_ rfl rfl rfl rfl
  refine x_aload_n C dX3_beginDay_26 rfl ?_
  refine x_callV (nA := 0) (As := []) (rest := []) C (m_X3_isDownOpen (h := (dSpoil h)) hE hj putH_same ra.1) q_351 q_352 q_353 q_22 q_354 (by decide +kernel) (wl_h hj putH_same 0 (by decide)) rfl rfl (by decide) (by decide) (Nat.le_of_ble_eq_true rfl) dX3_beginDay_27 rfl ?_
  refine x_bz_eq 37 C dX3_beginDay_30 (by decide) (fun c_3 => ?_) (fun c_3 => ?_)
  · have rb : RS K h (dLate (dSpoil h)) := ra.tr (RS_late ra.1)
    have ed := rb.2.2.2.2.2.2.2
    have rc := RS_come rb.1
    have rz2 := set_50 rc.1
    have rdd := RG.day R
    refine x_aload_n C dX3_beginDay_37 rfl ?_
    refine x_callV (nA := 0) (As := []) (rest := []) C (m_X3_turnLateOnesAway (h := (dSpoil h)) hE hj putH_same ra.1 putH_put) q_501 q_503 q_4 q_22 q_504 (by decide +kernel) (wl_h hj putH_same 0 (by decide)) rfl rfl (by decide) (by decide) (Nat.le_of_ble_eq_true rfl) dX3_beginDay_38 rfl ?_
    refine x_aload_n C dX3_beginDay_41 rfl ?_
    refine x_aload_n C dX3_beginDay_42 rfl ?_
    refine gh_0_6 C hj putH_same q_142 dX3_beginDay_43 rfl ?_
    refine x_callV (nA := 1) (As := [vI ((dLate (dSpoil h)) 0 6)]) (rest := []) C (m_X3_isUpOpen (h := (dLate (dSpoil h))) hE hj putH_same rb.1 ⟨by omega, by omega⟩) q_378 q_379 q_380 q_22 q_381 (by decide +kernel) (wl_h hj putH_same 0 (by decide)) rfl rfl (by decide) (by decide) (Nat.le_of_ble_eq_true rfl) dX3_beginDay_46 rfl ?_
    refine x_bz_eq 67 C dX3_beginDay_49 (by decide) (fun c_4 => ?_) (fun c_4 => ?_)
    · exact x_vret C D dX3_beginDay_67 (by unfold dBegin dBeg1; rw [if_neg c_3, if_neg c_4]) rfl rfl
    · refine x_aload_n C dX3_beginDay_52 rfl ?_
      refine x_callV (nA := 0) (As := []) (rest := []) C (m_X3_letGroupsCome (h := (dLate (dSpoil h))) hE hj putH_same rb.1 putH_put) q_509 q_511 q_6 q_22 q_512 (by decide +kernel) (wl_h hj putH_same 0 (by decide)) rfl rfl (by decide) (by decide) (Nat.le_of_ble_eq_true rfl) dX3_beginDay_53 rfl ?_
      refine x_aload_n C dX3_beginDay_56 rfl ?_
      refine x_aload_n C dX3_beginDay_57 rfl ?_
      refine gh_0_0 C hj putH_same q_131 dX3_beginDay_58 ?_
      refine x_bipush C dX3_beginDay_61 (by decide) ?_
      refine lh_1 C hj putH_same (by omega) (by omega) dX3_beginDay_63 rfl ?_
      refine x_callV (nA := 1) (As := [vI ((dCome (dLate (dSpoil h))) 1 6)]) (rest := []) C (m_X3_bring (h := (dCome (dLate (dSpoil h)))) hE hj putH_same (RS_come rb.1).1 (by omega) (by omega) (by omega) putH_put) q_514 q_516 q_7 q_22 q_517 (by decide +kernel) (wl_h hj putH_same 0 (by decide)) rfl rfl (by decide) (by decide) (Nat.le_of_ble_eq_true rfl) dX3_beginDay_64 rfl ?_
      exact x_vret C D dX3_beginDay_67 (by unfold dBegin dBeg1; rw [if_neg c_3, if_pos c_4]) rfl rfl
  · have rb : RS K h (dLate (dLeave (dSpoil h))) := ra.tr ((RS_leave ra.1).tr (RS_late (RS_leave ra.1).1))
    have ed := rb.2.2.2.2.2.2.2
    have rc := RS_come rb.1
    have rz2 := set_50 rc.1
    have rdd := RG.day R
    refine x_aload_n C dX3_beginDay_33 rfl ?_
    refine x_callV (nA := 0) (As := []) (rest := []) C (m_X3_letGroupsLeave (h := (dSpoil h)) hE hj putH_same ra.1 putH_put) q_492 q_494 q_2 q_22 q_495 (by decide +kernel) (wl_h hj putH_same 0 (by decide)) rfl rfl (by decide) (by decide) (Nat.le_of_ble_eq_true rfl) dX3_beginDay_34 rfl ?_
    refine x_aload_n C dX3_beginDay_37 rfl ?_
    refine x_callV (nA := 0) (As := []) (rest := []) C (m_X3_turnLateOnesAway (h := (dLeave (dSpoil h))) hE hj putH_same (RS_leave ra.1).1 putH_put) q_501 q_503 q_4 q_22 q_504 (by decide +kernel) (wl_h hj putH_same 0 (by decide)) rfl rfl (by decide) (by decide) (Nat.le_of_ble_eq_true rfl) dX3_beginDay_38 rfl ?_
    refine x_aload_n C dX3_beginDay_41 rfl ?_
    refine x_aload_n C dX3_beginDay_42 rfl ?_
    refine gh_0_6 C hj putH_same q_142 dX3_beginDay_43 rfl ?_
    refine x_callV (nA := 1) (As := [vI ((dLate (dLeave (dSpoil h))) 0 6)]) (rest := []) C (m_X3_isUpOpen (h := (dLate (dLeave (dSpoil h)))) hE hj putH_same rb.1 ⟨by omega, by omega⟩) q_378 q_379 q_380 q_22 q_381 (by decide +kernel) (wl_h hj putH_same 0 (by decide)) rfl rfl (by decide) (by decide) (Nat.le_of_ble_eq_true rfl) dX3_beginDay_46 rfl ?_
    refine x_bz_eq 67 C dX3_beginDay_49 (by decide) (fun c_5 => ?_) (fun c_5 => ?_)
    · exact x_vret C D dX3_beginDay_67 (by unfold dBegin dBeg1; rw [if_pos c_3, if_neg c_5]) rfl rfl
    · refine x_aload_n C dX3_beginDay_52 rfl ?_
      refine x_callV (nA := 0) (As := []) (rest := []) C (m_X3_letGroupsCome (h := (dLate (dLeave (dSpoil h)))) hE hj putH_same rb.1 putH_put) q_509 q_511 q_6 q_22 q_512 (by decide +kernel) (wl_h hj putH_same 0 (by decide)) rfl rfl (by decide) (by decide) (Nat.le_of_ble_eq_true rfl) dX3_beginDay_53 rfl ?_
      refine x_aload_n C dX3_beginDay_56 rfl ?_
      refine x_aload_n C dX3_beginDay_57 rfl ?_
      refine gh_0_0 C hj putH_same q_131 dX3_beginDay_58 ?_
      refine x_bipush C dX3_beginDay_61 (by decide) ?_
      refine lh_1 C hj putH_same (by omega) (by omega) dX3_beginDay_63 rfl ?_
      refine x_callV (nA := 1) (As := [vI ((dCome (dLate (dLeave (dSpoil h)))) 1 6)]) (rest := []) C (m_X3_bring (h := (dCome (dLate (dLeave (dSpoil h))))) hE hj putH_same (RS_come rb.1).1 (by omega) (by omega) (by omega) putH_put) q_514 q_516 q_7 q_22 q_517 (by decide +kernel) (wl_h hj putH_same 0 (by decide)) rfl rfl (by decide) (by decide) (Nat.le_of_ble_eq_true rfl) dX3_beginDay_64 rfl ?_
      exact x_vret C D dX3_beginDay_67 (by unfold dBegin dBeg1; rw [if_pos c_3, if_pos c_5]) rfl rfl
set_option maxRecDepth 100000 in
set_option maxHeartbeats 4000000 in
theorem m_X3_passDay {hs : Nat → HV} {tp md : HV} {E : HE} {j : Nat} {h : HV} (hE : HI E) (hj : j < 7) (hh : hs j = h) {K : Int} (R : RG K h) (hK : K ≤ 800000) {hs9 : Nat → HV} (he : putH hs j (dPass h) = hs9) : Mt yX3_passDay cX3_passDay 1 none 6 E [.ref (hA E j 0)] hs tp md none hs9 tp md := by
  subst he
  refine mk_Mt hE (plainFor_of_name (by decide)) (Nat.le_of_ble_eq_true rfl) (by intro w0 hw0; simp only [List.mem_cons, List.not_mem_nil, or_false] at hw0; rcases hw0 with rfl <;> rfl) (rfl : _ = [_]) ?_
  intro F C D
  have ra := RS_begin R
  have rf := RS_fly ra.1
  have rcl := RG.cal ra.1
  refine x_aload_n C dX3_passDay_0 rfl ?_
  refine x_callV (nA := 0) (As := []) (rest := []) C (m_X3_beginDay hE hj hh R (by omega) rfl) q_478 q_479 q_480 q_22 q_481 (by decide +kernel) (wl_h hj hh 0 (by decide)) rfl rfl (by decide) (by decide) (Nat.le_of_ble_eq_true rfl) dX3_passDay_1 rfl ?_
  refine x_aload_n C dX3_passDay_4 rfl ?_
  refine gh_0_7 C hj putH_same q_144 dX3_passDay_5 rfl ?_
  refine x_if_eq 22 C dX3_passDay_8 (by decide) ⟨by omega, by omega⟩ (fun c_1 => ?_) (fun c_1 => ?_)
  · refine x_aload_n C dX3_passDay_22 rfl ?_
    refine x_callV (nA := 0) (As := []) (rest := []) C (m_X3_endDay (h := (dBegin h)) hE hj putH_same ra.1 (by omega) putH_put) q_543 q_544 q_545 q_22 q_546 (by decide +kernel) (wl_h hj putH_same 0 (by decide)) rfl rfl (by decide) (by decide) (Nat.le_of_ble_eq_true rfl) dX3_passDay_23 rfl ?_
    exact x_vret C D dX3_passDay_26 (by unfold dPass; rw [if_neg (fun q => absurd c_1 q.1)]) rfl rfl
  · refine x_aload_n C dX3_passDay_11 rfl ?_
    refine x_callV (nA := 0) (As := []) (rest := []) C (m_X3_isWindy (h := (dBegin h)) hE hj putH_same ra.1) q_531 q_532 q_533 q_22 q_534 (by decide +kernel) (wl_h hj putH_same 0 (by decide)) rfl rfl (by decide) (by decide) (Nat.le_of_ble_eq_true rfl) dX3_passDay_12 rfl ?_
    refine x_bz_ne 22 C dX3_passDay_15 (by decide) (fun c_2 => ?_) (fun c_2 => ?_)
    · refine x_aload_n C dX3_passDay_22 rfl ?_
      refine x_callV (nA := 0) (As := []) (rest := []) C (m_X3_endDay (h := (dBegin h)) hE hj putH_same ra.1 (by omega) putH_put) q_543 q_544 q_545 q_22 q_546 (by decide +kernel) (wl_h hj putH_same 0 (by decide)) rfl rfl (by decide) (by decide) (Nat.le_of_ble_eq_true rfl) dX3_passDay_23 rfl ?_
      exact x_vret C D dX3_passDay_26 (by unfold dPass; rw [if_neg (fun q => absurd c_2 q.2)]) rfl rfl
    · refine x_aload_n C dX3_passDay_18 rfl ?_
      refine x_callV (nA := 0) (As := []) (rest := []) C (m_X3_fly (h := (dBegin h)) hE hj putH_same ra.1 (by omega) putH_put) q_535 q_537 q_9 q_22 q_538 (by decide +kernel) (wl_h hj putH_same 0 (by decide)) rfl rfl (by decide) (by decide) (Nat.le_of_ble_eq_true rfl) dX3_passDay_19 rfl ?_
      refine x_aload_n C dX3_passDay_22 rfl ?_
      refine x_callV (nA := 0) (As := []) (rest := []) C (m_X3_endDay (h := (dFly (dBegin h))) hE hj putH_same rf.1 (by omega) putH_put) q_543 q_544 q_545 q_22 q_546 (by decide +kernel) (wl_h hj putH_same 0 (by decide)) rfl rfl (by decide) (by decide) (Nat.le_of_ble_eq_true rfl) dX3_passDay_23 rfl ?_
      exact x_vret C D dX3_passDay_26 (by unfold dPass; rw [if_pos ⟨c_1, c_2⟩]) rfl rfl
