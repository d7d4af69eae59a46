set_option maxRecDepth 100000 in
set_option maxHeartbeats 4000000 in
theorem m_X7_record {hs : Nat → HV} {tp md : HV} {E : HE} (hE : HI E) {r : Int → Int} (k0 : 0 ≤ md 0 6 ∧ md 0 6 ≤ 4) : Mt yX7_record cX7_record 2 none 1 E [.ref (mA E 0)] hs tp (upr md 1 r) none hs tp (upr (mRec md r) 1 r) := by
  refine mk_Mt hE (plainFor_of_name (by decide)) (Nat.le_of_ble_eq_true rfl) (by intro w0 hw0; simp only [List.mem_cons, List.not_mem_nil, or_false] at hw0; rcases hw0 with rfl <;> rfl) (rfl : _ = [_, _]) ?_
  intro F C D
  refine x_aload_n C dX7_record_0 rfl ?_
  refine gm_0_6 C q_757 dX7_record_1 (show _ = md 0 6 from rfl) ?_
  refine x_const C dX7_record_4 ?_
  refine x_icmp_ne 49 C dX7_record_5 (by decide) ⟨by omega, by omega⟩ ⟨by omega, by omega⟩ (fun c_1 => ?_) (fun c_1 => ?_)
  · refine G.of ?_ rfl rfl (show _ = upr (mR0 md) 1 (r) from (by have e9 : mR0 md = _ := if_neg c_1; rw [e9])) rfl
    have mk := mR0_k k0
    refine x_const C dX7_record_49 ?_
    refine x_istore_n C dX7_record_50 (by decide) (rfl : _ = [_, _]) ?_
    have K51 : ∀ (nn : Nat) (k : Int), 0 ≤ k → k ≤ 2739 → 2800 - k < nn →  G F E hs tp (upr (upr (mR0 md) 1 r) 4 (cpS r (mR0 md 4) (2739 * mR0 md 0 6) k)) 51 [some (.ref (mA E 0)), some (vI k)] [] := by
      intro nn
      induction nn with
      | zero => intro k i0 i1 hz; exact absurd hz (by omega)
      | succ nn ih =>
        intro k i0 i1 hz
        refine x_iload_n C dX7_record_51 rfl ?_
        refine x_sipush C dX7_record_52 (by decide) ?_
        refine x_icmp_ge 85 C dX7_record_55 (by decide) ⟨by omega, by omega⟩ ⟨by omega, by omega⟩ (fun c_2 => ?_) (fun c_2 => ?_)
        · refine x_aload_n C dX7_record_85 rfl ?_
          refine x_dup C dX7_record_86 rfl ?_
          refine gm_0_6 C q_757 dX7_record_87 (show _ = (mR0 md) 0 6 from rfl) ?_
          refine x_const C dX7_record_90 ?_
          refine x_iadd C dX7_record_91 ?_
          refine pm_0_6 C q_757 dX7_record_92 rfl ?_
          exact x_vret C D dX7_record_95 rfl rfl (by rw [show k = 2739 by omega]; exact upr_mv (by decide) (by decide))
        · refine x_aload_n C dX7_record_58 rfl ?_
          refine gm_0_3 C q_754 dX7_record_59 ?_
          refine x_sipush C dX7_record_62 (by decide) ?_
          refine x_aload_n C dX7_record_65 rfl ?_
          refine gm_0_6 C q_757 dX7_record_66 (show _ = (mR0 md) 0 6 from rfl) ?_
          refine x_imul C dX7_record_69 ?_
          refine x_iload_n C dX7_record_70 rfl ?_
          refine x_iadd C dX7_record_71 ?_
          refine x_aload_n C dX7_record_72 rfl ?_
          refine gm_0_0 C q_751 dX7_record_73 ?_
          refine x_iload_n C dX7_record_76 rfl ?_
          refine lm_1 C (by omega) (by omega) dX7_record_77 (show _ = r k from rfl) ?_
          refine sm_4 C (by omega) (by omega) dX7_record_78 upr_w ?_
          refine x_iinc C dX7_record_79 rfl (by decide) (rfl : _ = [_, _]) ?_
          refine x_goto 51 C dX7_record_82 (by decide) ?_
          refine G.of (G.wk (ih (k + 1) (by omega) (by omega) (by omega)) ?_) rfl rfl ?_ rfl
          · simp only [leL, and_self]
          · rw [← cpS_s i0]
    refine G.of (K51 2801 0 (by omega) (by omega) (by omega)) rfl rfl ?_ rfl
    rw [cpS_0]; exact (upr_id (h := upr (mR0 md) 1 r) (c := 4)).symm
  · refine x_const C dX7_record_8 ?_
    refine x_istore_n C dX7_record_9 (by decide) (rfl : _ = [_, _]) ?_
    have K10 : ∀ (nn : Nat) (k : Int), 0 ≤ k → k ≤ 8217 → 8300 - k < nn →  G F E hs tp (upr (upr md 1 r) 4 (shS (md 4) k)) 10 [some (.ref (mA E 0)), some (vI k)] [] := by
      intro nn
      induction nn with
      | zero => intro k i0 i1 hz; exact absurd hz (by omega)
      | succ nn ih =>
        intro k i0 i1 hz
        refine x_iload_n C dX7_record_10 rfl ?_
        refine x_sipush C dX7_record_11 (by decide) ?_
        refine x_icmp_ge 39 C dX7_record_14 (by decide) ⟨by omega, by omega⟩ ⟨by omega, by omega⟩ (fun c_3 => ?_) (fun c_3 => ?_)
        · refine x_aload_n C dX7_record_39 rfl ?_
          refine x_dup C dX7_record_40 rfl ?_
          refine gm_0_6 C q_757 dX7_record_41 (show _ = md 0 6 from rfl) ?_
          refine x_const C dX7_record_44 ?_
          refine x_isub C dX7_record_45 ?_
          refine pm_0_6 C q_757 dX7_record_46 rfl ?_
          refine G.of ?_ rfl rfl (show _ = upr (mR0 md) 1 (r) from (by have e9 : mR0 md = _ := if_pos c_1; rw [e9, show k = 8217 by omega]; exact upr_mv (by decide) (by decide))) rfl
          have mk := mR0_k k0
          refine x_const C dX7_record_49 ?_
          refine x_istore_n C dX7_record_50 (by decide) (rfl : _ = [_, _]) ?_
          have K51 : ∀ (nn : Nat) (k : Int), 0 ≤ k → k ≤ 2739 → 2800 - k < nn →  G F E hs tp (upr (upr (mR0 md) 1 r) 4 (cpS r (mR0 md 4) (2739 * mR0 md 0 6) k)) 51 [some (.ref (mA E 0)), some (vI k)] [] := by
            intro nn2
            induction nn2 with
            | zero => intro k i0 i1 hz2; exact absurd hz2 (by omega)
            | succ nn2 ih2 =>
              intro k i0 i1 hz2
              refine x_iload_n C dX7_record_51 rfl ?_
              refine x_sipush C dX7_record_52 (by decide) ?_
              refine x_icmp_ge 85 C dX7_record_55 (by decide) ⟨by omega, by omega⟩ ⟨by omega, by omega⟩ (fun c_4 => ?_) (fun c_4 => ?_)
              · refine x_aload_n C dX7_record_85 rfl ?_
                refine x_dup C dX7_record_86 rfl ?_
                refine gm_0_6 C q_757 dX7_record_87 (show _ = (mR0 md) 0 6 from rfl) ?_
                refine x_const C dX7_record_90 ?_
                refine x_iadd C dX7_record_91 ?_
                refine pm_0_6 C q_757 dX7_record_92 rfl ?_
                exact x_vret C D dX7_record_95 rfl rfl (by rw [show k = 2739 by omega]; exact upr_mv (by decide) (by decide))
              · refine x_aload_n C dX7_record_58 rfl ?_
                refine gm_0_3 C q_754 dX7_record_59 ?_
                refine x_sipush C dX7_record_62 (by decide) ?_
                refine x_aload_n C dX7_record_65 rfl ?_
                refine gm_0_6 C q_757 dX7_record_66 (show _ = (mR0 md) 0 6 from rfl) ?_
                refine x_imul C dX7_record_69 ?_
                refine x_iload_n C dX7_record_70 rfl ?_
                refine x_iadd C dX7_record_71 ?_
                refine x_aload_n C dX7_record_72 rfl ?_
                refine gm_0_0 C q_751 dX7_record_73 ?_
                refine x_iload_n C dX7_record_76 rfl ?_
                refine lm_1 C (by omega) (by omega) dX7_record_77 (show _ = r k from rfl) ?_
                refine sm_4 C (by omega) (by omega) dX7_record_78 upr_w ?_
                refine x_iinc C dX7_record_79 rfl (by decide) (rfl : _ = [_, _]) ?_
                refine x_goto 51 C dX7_record_82 (by decide) ?_
                refine G.of (G.wk (ih2 (k + 1) (by omega) (by omega) (by omega)) ?_) rfl rfl ?_ rfl
                · simp only [leL, and_self]
                · rw [← cpS_s i0]
          refine G.of (K51 2801 0 (by omega) (by omega) (by omega)) rfl rfl ?_ rfl
          rw [cpS_0]; exact (upr_id (h := upr (mR0 md) 1 r) (c := 4)).symm
        · refine x_aload_n C dX7_record_17 rfl ?_
          refine gm_0_3 C q_754 dX7_record_18 ?_
          refine x_iload_n C dX7_record_21 rfl ?_
          refine x_aload_n C dX7_record_22 rfl ?_
          refine gm_0_3 C q_754 dX7_record_23 ?_
          refine x_iload_n C dX7_record_26 rfl ?_
          refine x_sipush C dX7_record_27 (by decide) ?_
          refine x_iadd C dX7_record_30 ?_
          refine lm_4 C (by omega) (by omega) dX7_record_31 (show _ = (shS (md 4) k) (k + 2739) from rfl) ?_
          refine sm_4 C (by omega) (by omega) dX7_record_32 upr_w ?_
          refine x_iinc C dX7_record_33 rfl (by decide) (rfl : _ = [_, _]) ?_
          refine x_goto 10 C dX7_record_36 (by decide) ?_
          refine G.of (G.wk (ih (k + 1) (by omega) (by omega) (by omega)) ?_) rfl rfl ?_ rfl
          · simp only [leL, and_self]
          · rw [← shS_s i0]
    refine G.of (K10 8301 0 (by omega) (by omega) (by omega)) rfl rfl ?_ rfl
    rw [shS_0]; exact (upr_id (h := upr md 1 r) (c := 4)).symm
set_option maxRecDepth 100000 in
set_option maxHeartbeats 4000000 in
theorem m_X7_lay {hs : Nat → HV} {tp md : HV} {E : HE} (hE : HI E) {r : Int → Int} : Mt yX7_lay cX7_lay 2 none 1 E [.ref (mA E 0)] hs tp (upr md 1 r) none hs tp (upr (mLay md r) 1 r) := by
  refine mk_Mt hE (plainFor_of_name (by decide)) (Nat.le_of_ble_eq_true rfl) (by intro w0 hw0; simp only [List.mem_cons, List.not_mem_nil, or_false] at hw0; rcases hw0 with rfl <;> rfl) (rfl : _ = [_, _]) ?_
  intro F C D
  refine x_const C dX7_lay_0 ?_
  refine x_istore_n C dX7_lay_1 (by decide) (rfl : _ = [_, _]) ?_
  have K2 : ∀ (nn : Nat) (k : Int), 0 ≤ k → k ≤ 2739 → 2800 - k < nn →  G F E hs tp (upr (upr md 1 r) 3 (cpI r (md 3) k)) 2 [some (.ref (mA E 0)), some (vI k)] [] := by
    intro nn
    induction nn with
    | zero => intro k i0 i1 hz; exact absurd hz (by omega)
    | succ nn ih =>
      intro k i0 i1 hz
      refine x_iload_n C dX7_lay_2 rfl ?_
      refine x_sipush C dX7_lay_3 (by decide) ?_
      refine x_icmp_ge 27 C dX7_lay_6 (by decide) ⟨by omega, by omega⟩ ⟨by omega, by omega⟩ (fun c_1 => ?_) (fun c_1 => ?_)
      · exact x_vret C D dX7_lay_27 rfl rfl (by rw [show k = 2739 by omega]; exact upr_cm (by decide))
      · refine x_aload_n C dX7_lay_9 rfl ?_
        refine gm_0_2 C q_753 dX7_lay_10 ?_
        refine x_iload_n C dX7_lay_13 rfl ?_
        refine x_aload_n C dX7_lay_14 rfl ?_
        refine gm_0_0 C q_751 dX7_lay_15 ?_
        refine x_iload_n C dX7_lay_18 rfl ?_
        refine lm_1 C (by omega) (by omega) dX7_lay_19 (show _ = r k from rfl) ?_
        refine sm_3 C (by omega) (by omega) dX7_lay_20 upr_w ?_
        refine x_iinc C dX7_lay_21 rfl (by decide) (rfl : _ = [_, _]) ?_
        refine x_goto 2 C dX7_lay_24 (by decide) ?_
        refine G.of (G.wk (ih (k + 1) (by omega) (by omega) (by omega)) ?_) rfl rfl ?_ rfl
        · simp only [leL, and_self]
        · rw [← cpI_s i0]
  refine G.of (K2 2801 0 (by omega) (by omega) (by omega)) rfl rfl ?_ rfl
  rw [cpI_0]; exact (upr_id (h := upr md 1 r) (c := 3)).symm
set_option maxRecDepth 100000 in
set_option maxHeartbeats 4000000 in
theorem m_X7_takeBack {hs : Nat → HV} {tp md : HV} {E : HE} (hE : HI E) {r : Int → Int} : Mt yX7_takeBack cX7_takeBack 2 none 1 E [.ref (mA E 0)] hs tp (upr md 1 r) none hs tp (upr md 1 (cpI (md 3) r 2739)) := by
  refine mk_Mt hE (plainFor_of_name (by decide)) (Nat.le_of_ble_eq_true rfl) (by intro w0 hw0; simp only [List.mem_cons, List.not_mem_nil, or_false] at hw0; rcases hw0 with rfl <;> rfl) (rfl : _ = [_, _]) ?_
  intro F C D
  refine x_const C dX7_takeBack_0 ?_
  refine x_istore_n C dX7_takeBack_1 (by decide) (rfl : _ = [_, _]) ?_
  have K2 : ∀ (nn : Nat) (k : Int), 0 ≤ k → k ≤ 2739 → 2800 - k < nn →  G F E hs tp (upr md 1 (cpI (md 3) r k)) 2 [some (.ref (mA E 0)), some (vI k)] [] := by
    intro nn
    induction nn with
    | zero => intro k i0 i1 hz; exact absurd hz (by omega)
    | succ nn ih =>
      intro k i0 i1 hz
      refine x_iload_n C dX7_takeBack_2 rfl ?_
      refine x_sipush C dX7_takeBack_3 (by decide) ?_
      refine x_icmp_ge 27 C dX7_takeBack_6 (by decide) ⟨by omega, by omega⟩ ⟨by omega, by omega⟩ (fun c_1 => ?_) (fun c_1 => ?_)
      · exact x_vret C D dX7_takeBack_27 rfl rfl (by rw [show k = 2739 by omega])
      · refine x_aload_n C dX7_takeBack_9 rfl ?_
        refine gm_0_0 C q_751 dX7_takeBack_10 ?_
        refine x_iload_n C dX7_takeBack_13 rfl ?_
        refine x_aload_n C dX7_takeBack_14 rfl ?_
        refine gm_0_2 C q_753 dX7_takeBack_15 ?_
        refine x_iload_n C dX7_takeBack_18 rfl ?_
        refine lm_3 C (by omega) (by omega) dX7_takeBack_19 (show _ = md 3 k from rfl) ?_
        refine sm_1 C (by omega) (by omega) dX7_takeBack_20 upr_w ?_
        refine x_iinc C dX7_takeBack_21 rfl (by decide) (rfl : _ = [_, _]) ?_
        refine x_goto 2 C dX7_takeBack_24 (by decide) ?_
        refine G.of (G.wk (ih (k + 1) (by omega) (by omega) (by omega)) ?_) rfl rfl ?_ rfl
        · simp only [leL, and_self]
        · rw [← cpI_s i0]
  refine G.of (K2 2801 0 (by omega) (by omega) (by omega)) rfl rfl ?_ rfl
  rw [cpI_0]
set_option maxRecDepth 100000 in
set_option maxHeartbeats 4000000 in
theorem m_X7_addBooking {hs : Nat → HV} {tp md : HV} {E : HE} (hE : HI E) {r : Int → Int} {a n p : Int} (m0 : 0 ≤ r 1) (m1 : r 1 < 80) : Mt yX7_addBooking cX7_addBooking 5 (some .int) 2 E [.ref (mA E 0), vI a, vI n, vI p] hs tp (upr md 1 r) (some (vI (r 1))) hs tp (upr md 1 (mAdd r a n p)) := by
  refine mk_Mt hE (plainFor_of_name (by decide)) (Nat.le_of_ble_eq_true rfl) (by intro w0 hw0; simp only [List.mem_cons, List.not_mem_nil, or_false] at hw0; rcases hw0 with rfl | rfl | rfl | rfl <;> rfl) (rfl : _ = [_, _, _, _, _]) ?_
  intro F C D
  refine x_aload_n C dX7_addBooking_0 rfl ?_
  refine gm_0_0 C q_751 dX7_addBooking_1 ?_
  refine x_const C dX7_addBooking_4 ?_
  refine lm_1 C (by omega) (by omega) dX7_addBooking_5 (show _ = r 1 from rfl) ?_
  refine x_istore C dX7_addBooking_6 (by decide) (rfl : _ = [_, _, _, _, _]) ?_
  refine x_aload_n C dX7_addBooking_8 rfl ?_
  refine gm_0_0 C q_751 dX7_addBooking_9 ?_
  refine x_const C dX7_addBooking_12 ?_
  refine x_dup2 C dX7_addBooking_13 rfl rfl ?_
  refine lm_1 C (by omega) (by omega) dX7_addBooking_14 (show _ = r 1 from rfl) ?_
  refine x_const C dX7_addBooking_15 ?_
  refine x_iadd C dX7_addBooking_16 ?_
  refine sm_1 C (by omega) (by omega) dX7_addBooking_17 upr_w ?_
  refine x_aload_n C dX7_addBooking_18 rfl ?_
  refine x_iload C dX7_addBooking_19 rfl ?_
  refine x_const C dX7_addBooking_21 ?_
  refine x_const C dX7_addBooking_22 ?_
  refine x_callV (nA := 3) (As := [vI (r 1), vI 0, vI 0]) (rest := []) C (m_X7_put hE (r := (up1 r 1 ((r 1) + 1))) (b := (r 1)) (w := 0) (v := 0) (by omega) (by omega) (by omega) (by omega)) q_817 q_819 q_27 q_64 q_820 (by decide +kernel) (wl_m 0 (by decide)) rfl rfl (by decide) (by decide) (Nat.le_of_ble_eq_true rfl) dX7_addBooking_23 rfl ?_
  refine x_aload_n C dX7_addBooking_26 rfl ?_
  refine x_iload C dX7_addBooking_27 rfl ?_
  refine x_const C dX7_addBooking_29 ?_
  refine x_iload_n C dX7_addBooking_30 rfl ?_
  refine x_callV (nA := 3) (As := [vI (r 1), vI 1, vI a]) (rest := []) C (m_X7_put hE (r := (up1 (up1 r 1 ((r 1) + 1)) (51 + 7 * (r 1) + 0) 0)) (b := (r 1)) (w := 1) (v := a) (by omega) (by omega) (by omega) (by omega)) q_817 q_819 q_27 q_64 q_820 (by decide +kernel) (wl_m 0 (by decide)) rfl rfl (by decide) (by decide) (Nat.le_of_ble_eq_true rfl) dX7_addBooking_31 rfl ?_
  refine x_aload_n C dX7_addBooking_34 rfl ?_
  refine x_iload C dX7_addBooking_35 rfl ?_
  refine x_const C dX7_addBooking_37 ?_
  refine x_iload_n C dX7_addBooking_38 rfl ?_
  refine x_callV (nA := 3) (As := [vI (r 1), vI 2, vI n]) (rest := []) C (m_X7_put hE (r := (up1 (up1 (up1 r 1 ((r 1) + 1)) (51 + 7 * (r 1) + 0) 0) (51 + 7 * (r 1) + 1) a)) (b := (r 1)) (w := 2) (v := n) (by omega) (by omega) (by omega) (by omega)) q_817 q_819 q_27 q_64 q_820 (by decide +kernel) (wl_m 0 (by decide)) rfl rfl (by decide) (by decide) (Nat.le_of_ble_eq_true rfl) dX7_addBooking_39 rfl ?_
  refine x_aload_n C dX7_addBooking_42 rfl ?_
  refine x_iload C dX7_addBooking_43 rfl ?_
  refine x_const C dX7_addBooking_45 ?_
  refine x_iload_n C dX7_addBooking_46 rfl ?_
  refine x_callV (nA := 3) (As := [vI (r 1), vI 3, vI p]) (rest := []) C (m_X7_put hE (r := (up1 (up1 (up1 (up1 r 1 ((r 1) + 1)) (51 + 7 * (r 1) + 0) 0) (51 + 7 * (r 1) + 1) a) (51 + 7 * (r 1) + 2) n)) (b := (r 1)) (w := 3) (v := p) (by omega) (by omega) (by omega) (by omega)) q_817 q_819 q_27 q_64 q_820 (by decide +kernel) (wl_m 0 (by decide)) rfl rfl (by decide) (by decide) (Nat.le_of_ble_eq_true rfl) dX7_addBooking_47 rfl ?_
  refine x_aload_n C dX7_addBooking_50 rfl ?_
  refine x_iload C dX7_addBooking_51 rfl ?_
  refine x_const C dX7_addBooking_53 ?_
  refine x_const C dX7_addBooking_54 ?_
  refine x_callV (nA := 3) (As := [vI (r 1), vI 4, vI 0]) (rest := []) C (m_X7_put hE (r := (up1 (up1 (up1 (up1 (up1 r 1 ((r 1) + 1)) (51 + 7 * (r 1) + 0) 0) (51 + 7 * (r 1) + 1) a) (51 + 7 * (r 1) + 2) n) (51 + 7 * (r 1) + 3) p)) (b := (r 1)) (w := 4) (v := 0) (by omega) (by omega) (by omega) (by omega)) q_817 q_819 q_27 q_64 q_820 (by decide +kernel) (wl_m 0 (by decide)) rfl rfl (by decide) (by decide) (Nat.le_of_ble_eq_true rfl) dX7_addBooking_55 rfl ?_
  refine x_aload_n C dX7_addBooking_58 rfl ?_
  refine x_iload C dX7_addBooking_59 rfl ?_
  refine x_const C dX7_addBooking_61 ?_
  refine x_iload_n C dX7_addBooking_62 rfl ?_
  refine x_iload_n C dX7_addBooking_63 rfl ?_
  refine x_imul C dX7_addBooking_64 ?_
  refine x_aload_n C dX7_addBooking_65 rfl ?_
  refine gm_0_0 C q_751 dX7_addBooking_66 ?_
  refine x_bipush C dX7_addBooking_69 (by decide) ?_
  refine lm_1 C (by omega) (by omega) dX7_addBooking_71 (show (up1 (up1 (up1 (up1 (up1 (up1 r 1 ((r 1) + 1)) (51 + 7 * (r 1) + 0) 0) (51 + 7 * (r 1) + 1) a) (51 + 7 * (r 1) + 2) n) (51 + 7 * (r 1) + 3) p) (51 + 7 * (r 1) + 4) 0) 20 = r 20 from by rw [up1_ne (by omega), up1_ne (by omega), up1_ne (by omega), up1_ne (by omega), up1_ne (by omega), up1_ne (by omega)]) ?_
  refine x_imul C dX7_addBooking_72 ?_
  refine x_callV (nA := 3) (As := [vI (r 1), vI 5, vI ((p * n) * (r 20))]) (rest := []) C (m_X7_put hE (r := (up1 (up1 (up1 (up1 (up1 (up1 r 1 ((r 1) + 1)) (51 + 7 * (r 1) + 0) 0) (51 + 7 * (r 1) + 1) a) (51 + 7 * (r 1) + 2) n) (51 + 7 * (r 1) + 3) p) (51 + 7 * (r 1) + 4) 0)) (b := (r 1)) (w := 5) (v := ((p * n) * (r 20))) (by omega) (by omega) (by omega) (by omega)) q_817 q_819 q_27 q_64 q_820 (by decide +kernel) (wl_m 0 (by decide)) rfl rfl (by decide) (by decide) (Nat.le_of_ble_eq_true rfl) dX7_addBooking_73 rfl ?_
  refine x_aload_n C dX7_addBooking_76 rfl ?_
  refine x_iload C dX7_addBooking_77 rfl ?_
  refine x_bipush C dX7_addBooking_79 (by decide) ?_
  refine x_ldc (n := (-1000005)) C q_821 dX7_addBooking_81 rfl ?_
  refine x_callV (nA := 3) (As := [vI (r 1), vI 6, vI (-1000005)]) (rest := []) C (m_X7_put hE (r := (up1 (up1 (up1 (up1 (up1 (up1 (up1 r 1 ((r 1) + 1)) (51 + 7 * (r 1) + 0) 0) (51 + 7 * (r 1) + 1) a) (51 + 7 * (r 1) + 2) n) (51 + 7 * (r 1) + 3) p) (51 + 7 * (r 1) + 4) 0) (51 + 7 * (r 1) + 5) ((p * n) * (r 20)))) (b := (r 1)) (w := 6) (v := (-1000005)) (by omega) (by omega) (by omega) (by omega)) q_817 q_819 q_27 q_64 q_820 (by decide +kernel) (wl_m 0 (by decide)) rfl rfl (by decide) (by decide) (Nat.le_of_ble_eq_true rfl) dX7_addBooking_83 rfl ?_
  refine x_aload_n C dX7_addBooking_86 rfl ?_
  refine gm_0_0 C q_751 dX7_addBooking_87 ?_
  refine x_bipush C dX7_addBooking_90 (by decide) ?_
  refine x_dup2 C dX7_addBooking_92 rfl rfl ?_
  refine lm_1 C (by omega) (by omega) dX7_addBooking_93 (show (up1 (up1 (up1 (up1 (up1 (up1 (up1 (up1 r 1 ((r 1) + 1)) (51 + 7 * (r 1) + 0) 0) (51 + 7 * (r 1) + 1) a) (51 + 7 * (r 1) + 2) n) (51 + 7 * (r 1) + 3) p) (51 + 7 * (r 1) + 4) 0) (51 + 7 * (r 1) + 5) ((p * n) * (r 20))) (51 + 7 * (r 1) + 6) (-1000005)) 14 = r 14 from by rw [up1_ne (by omega), up1_ne (by omega), up1_ne (by omega), up1_ne (by omega), up1_ne (by omega), up1_ne (by omega), up1_ne (by omega), up1_ne (by omega)]) ?_
  refine x_aload_n C dX7_addBooking_94 rfl ?_
  refine x_iload C dX7_addBooking_95 rfl ?_
  refine x_const C dX7_addBooking_97 ?_
  refine x_callV (nA := 2) (As := [vI (r 1), vI 5]) (rest := [vI (r 14), vI 14, .ref (mA E 1)]) C (m_X7_of hE (r := (up1 (up1 (up1 (up1 (up1 (up1 (up1 (up1 r 1 ((r 1) + 1)) (51 + 7 * (r 1) + 0) 0) (51 + 7 * (r 1) + 1) a) (51 + 7 * (r 1) + 2) n) (51 + 7 * (r 1) + 3) p) (51 + 7 * (r 1) + 4) 0) (51 + 7 * (r 1) + 5) ((p * n) * (r 20))) (51 + 7 * (r 1) + 6) (-1000005))) (b := (r 1)) (w := 5) (by omega) (by omega) (by omega) (by omega) (show (up1 (up1 (up1 (up1 (up1 (up1 (up1 (up1 r 1 ((r 1) + 1)) (51 + 7 * (r 1) + 0) 0) (51 + 7 * (r 1) + 1) a) (51 + 7 * (r 1) + 2) n) (51 + 7 * (r 1) + 3) p) (51 + 7 * (r 1) + 4) 0) (51 + 7 * (r 1) + 5) ((p * n) * (r 20))) (51 + 7 * (r 1) + 6) (-1000005)) (51 + 7 * (r 1) + 5) = ((p * n) * (r 20)) from by rw [up1_ne (by omega), up1_same])) q_799 q_801 q_23 q_64 q_802 (by decide +kernel) (wl_m 0 (by decide)) rfl rfl (by decide) (by decide) (Nat.le_of_ble_eq_true rfl) dX7_addBooking_98 rfl ?_
  refine x_iadd C dX7_addBooking_101 ?_
  refine sm_1 C (by omega) (by omega) dX7_addBooking_102 upr_w ?_
  refine x_iload C dX7_addBooking_103 rfl ?_
  exact x_iret C D rfl dX7_addBooking_105 rfl rfl rfl rfl
set_option maxRecDepth 100000 in
set_option maxHeartbeats 4000000 in
theorem m_X7_tryToBook {hs : Nat → HV} {tp md : HV} {E : HE} (hE : HI E) {r : Int → Int} {K : Int} (R : MR K r) {a n p : Int} (a0 : IR a) (n0 : IR n) (p0 : IR p) : Mt yX7_tryToBook cX7_tryToBook 4 (some .int) 5 E [.ref (mA E 0), vI a, vI n, vI p] hs tp (upr md 1 r) (some (vI (mErr r a n p))) hs tp (upr md 1 r) := by
  refine mk_Mt hE (plainFor_of_name (by decide)) (Nat.le_of_ble_eq_true rfl) (by intro w0 hw0; simp only [List.mem_cons, List.not_mem_nil, or_false] at hw0; rcases hw0 with rfl | rfl | rfl | rfl <;> rfl) (rfl : _ = [_, _, _, _]) ?_
  intro F C D
  have rd0 := MR.day R
  refine x_iload_n C dX7_tryToBook_0 rfl ?_
  refine x_aload_n C dX7_tryToBook_1 rfl ?_
  refine gm_0_0 C q_751 dX7_tryToBook_2 ?_
  refine x_const C dX7_tryToBook_5 ?_
  refine lm_1 C (by omega) (by omega) dX7_tryToBook_6 (show _ = r 0 from rfl) ?_
  have r_1 := MR.day R
  refine x_sipush C dX7_tryToBook_7 (by decide) ?_
  refine x_callS (nA := 3) (As := [vI a, vI (r 0), vI 899]) (rest := []) C (m_X7_in hE (v := a) (l := r 0) (m := 899) ⟨by omega, by omega⟩ ⟨by omega, by omega⟩ ⟨by omega, by omega⟩) q_787 q_788 q_64 q_789 (by decide +kernel) rfl (by decide) (by decide) (Nat.le_of_ble_eq_true rfl) dX7_tryToBook_10 rfl ?_
  refine x_bz_eq 36 C dX7_tryToBook_13 (by decide) (fun c_2 => ?_) (fun c_2 => ?_)
  · refine x_ldc (n := (-1000002)) C q_790 dX7_tryToBook_36 rfl ?_
    exact x_iret C D rfl dX7_tryToBook_38 (by unfold mErr; rw [if_pos (by omega)]) rfl rfl rfl
  · refine x_iload_n C dX7_tryToBook_16 rfl ?_
    refine x_const C dX7_tryToBook_17 ?_
    refine x_bipush C dX7_tryToBook_18 (by decide) ?_
    refine x_callS (nA := 3) (As := [vI n, vI 1, vI 9]) (rest := []) C (m_X7_in hE (v := n) (l := 1) (m := 9) ⟨by omega, by omega⟩ ⟨by omega, by omega⟩ ⟨by omega, by omega⟩) q_787 q_788 q_64 q_789 (by decide +kernel) rfl (by decide) (by decide) (Nat.le_of_ble_eq_true rfl) dX7_tryToBook_20 rfl ?_
    refine x_bz_eq 36 C dX7_tryToBook_23 (by decide) (fun c_3 => ?_) (fun c_3 => ?_)
    · refine x_ldc (n := (-1000002)) C q_790 dX7_tryToBook_36 rfl ?_
      exact x_iret C D rfl dX7_tryToBook_38 (by unfold mErr; rw [if_pos (by omega)]) rfl rfl rfl
    · refine x_iload_n C dX7_tryToBook_26 rfl ?_
      refine x_const C dX7_tryToBook_27 ?_
      refine x_bipush C dX7_tryToBook_28 (by decide) ?_
      refine x_callS (nA := 3) (As := [vI p, vI 1, vI 9]) (rest := []) C (m_X7_in hE (v := p) (l := 1) (m := 9) ⟨by omega, by omega⟩ ⟨by omega, by omega⟩ ⟨by omega, by omega⟩) q_787 q_788 q_64 q_789 (by decide +kernel) rfl (by decide) (by decide) (Nat.le_of_ble_eq_true rfl) dX7_tryToBook_30 rfl ?_
      refine x_bz_ne 39 C dX7_tryToBook_33 (by decide) (fun c_4 => ?_) (fun c_4 => ?_)
      · refine x_aload_n C dX7_tryToBook_39 rfl ?_
        refine x_iload_n C dX7_tryToBook_40 rfl ?_
        refine x_iload_n C dX7_tryToBook_41 rfl ?_
        refine x_iload_n C dX7_tryToBook_42 rfl ?_
        refine x_iadd C dX7_tryToBook_43 ?_
        refine x_iload_n C dX7_tryToBook_44 rfl ?_
        refine x_callV (nA := 3) (As := [vI a, vI (a + n), vI p]) (rest := []) C (m_X7_fits hE (r := r) R (x := a) (y := (a + n)) (p := p) ⟨by omega, by omega⟩ ⟨by omega, by omega⟩ ⟨by omega, by omega⟩) q_791 q_793 q_21 q_64 q_794 (by decide +kernel) (wl_m 0 (by decide)) rfl rfl (by decide) (by decide) (Nat.le_of_ble_eq_true rfl) dX7_tryToBook_45 rfl ?_
        refine x_bz_ne 54 C dX7_tryToBook_48 (by decide) (fun c_5 => ?_) (fun c_5 => ?_)
        · refine x_aload_n C dX7_tryToBook_54 rfl ?_
          refine gm_0_0 C q_751 dX7_tryToBook_55 ?_
          refine x_const C dX7_tryToBook_58 ?_
          refine lm_1 C (by omega) (by omega) dX7_tryToBook_59 (show _ = r 1 from rfl) ?_
          have r_6 := MR.came R
          refine x_bipush C dX7_tryToBook_60 (by decide) ?_
          refine x_icmp_ne 70 C dX7_tryToBook_62 (by decide) ⟨by omega, by omega⟩ ⟨by omega, by omega⟩ (fun c_7 => ?_) (fun c_7 => ?_)
          · refine x_const C dX7_tryToBook_70 ?_
            exact x_iret C D rfl dX7_tryToBook_71 (by unfold mErr; rw [if_neg (by omega), if_neg (not_not_intro c_5), if_neg (by omega)]) rfl rfl rfl
          · refine x_ldc (n := (-1000003)) C q_808 dX7_tryToBook_65 rfl ?_
            refine x_goto 71 C dX7_tryToBook_67 (by decide) ?_
            exact x_iret C D rfl dX7_tryToBook_71 (by unfold mErr; rw [if_neg (by omega), if_neg (not_not_intro c_5), if_pos (by omega)]) rfl rfl rfl
        · refine x_ldc (n := (-1000004)) C q_807 dX7_tryToBook_51 rfl ?_
          exact x_iret C D rfl dX7_tryToBook_53 (by unfold mErr; rw [if_neg (by omega), if_pos c_5]) rfl rfl rfl
      · refine x_ldc (n := (-1000002)) C q_790 dX7_tryToBook_36 rfl ?_
        exact x_iret C D rfl dX7_tryToBook_38 (by unfold mErr; rw [if_pos (by omega)]) rfl rfl rfl
set_option maxRecDepth 100000 in
set_option maxHeartbeats 4000000 in
theorem m_X7_book {hs : Nat → HV} {tp md : HV} {E : HE} (hE : HI E) {r : Int → Int} {K : Int} (R : MR K r) (k0 : 0 ≤ md 0 6 ∧ md 0 6 ≤ 4) {a n p : Int} (a0 : IR a) (n0 : IR n) (p0 : IR p) : Mt yX7_book cX7_book 5 (some .int) 6 E [.ref (mA E 0), vI a, vI n, vI p] hs tp (upr md 1 r) (some (vI ((yBook md r a n p).1))) hs tp ((yBook md r a n p).2) := by
  refine mk_Mt hE (plainFor_of_name (by decide)) (Nat.le_of_ble_eq_true rfl) (by intro w0 hw0; simp only [List.mem_cons, List.not_mem_nil, or_false] at hw0; rcases hw0 with rfl | rfl | rfl | rfl <;> rfl) (rfl : _ = [_, _, _, _, _]) ?_
  intro F C D
  refine x_aload_n C dX7_book_0 rfl ?_
  refine x_iload_n C dX7_book_1 rfl ?_
  refine x_iload_n C dX7_book_2 rfl ?_
  refine x_iload_n C dX7_book_3 rfl ?_
  refine x_callV (nA := 3) (As := [vI a, vI n, vI p]) (rest := []) C (m_X7_tryToBook hE (r := r) R (a := a) (n := n) (p := p) ⟨by omega, by omega⟩ ⟨by omega, by omega⟩ ⟨by omega, by omega⟩) q_783 q_785 q_20 q_64 q_786 (by decide +kernel) (wl_m 0 (by decide)) rfl rfl (by decide) (by decide) (Nat.le_of_ble_eq_true rfl) dX7_book_4 rfl ?_
  have r_1 := mErr_r (r := r) (a := a) (n := n) (p := p)
  refine x_istore C dX7_book_7 (by decide) (rfl : _ = [_, _, _, _, _]) ?_
  refine x_iload C dX7_book_9 rfl ?_
  refine x_if_ge 17 C dX7_book_11 (by decide) ⟨by omega, by omega⟩ (fun c_2 => ?_) (fun c_2 => ?_)
  · have me0 := mErr_0 c_2
    have rc0 := MR.came R
    refine x_aload_n C dX7_book_17 rfl ?_
    refine x_callV (nA := 0) (As := []) (rest := []) C (m_X7_record hE (r := r) (md := md) k0) q_809 q_811 q_25 q_64 q_812 (by decide +kernel) (wl_m 0 (by decide)) rfl rfl (by decide) (by decide) (Nat.le_of_ble_eq_true rfl) dX7_book_18 rfl ?_
    refine x_aload_n C dX7_book_21 rfl ?_
    refine x_iload_n C dX7_book_22 rfl ?_
    refine x_iload_n C dX7_book_23 rfl ?_
    refine x_iload_n C dX7_book_24 rfl ?_
    refine x_callV (nA := 3) (As := [vI a, vI n, vI p]) (rest := []) C (m_X7_addBooking hE (r := r) (a := a) (n := n) (p := p) (by omega) (by omega)) q_813 q_815 q_26 q_64 q_816 (by decide +kernel) (wl_m 0 (by decide)) rfl rfl (by decide) (by decide) (Nat.le_of_ble_eq_true rfl) dX7_book_25 rfl ?_
    exact x_iret C D rfl dX7_book_28 (by unfold yBook; (repeat (first | rw [if_pos (by first | omega | assumption | exact not_not_intro (by assumption))] | rw [if_neg (by first | omega | assumption | exact not_not_intro (by assumption))])); all_goals rfl) rfl rfl (by unfold yBook; (repeat (first | rw [if_pos (by first | omega | assumption | exact not_not_intro (by assumption))] | rw [if_neg (by first | omega | assumption | exact not_not_intro (by assumption))])); all_goals rfl)
  · refine x_iload C dX7_book_14 rfl ?_
    exact x_iret C D rfl dX7_book_16 (by unfold yBook; (repeat (first | rw [if_pos (by first | omega | assumption | exact not_not_intro (by assumption))] | rw [if_neg (by first | omega | assumption | exact not_not_intro (by assumption))])); all_goals rfl) rfl rfl (by unfold yBook; (repeat (first | rw [if_pos (by first | omega | assumption | exact not_not_intro (by assumption))] | rw [if_neg (by first | omega | assumption | exact not_not_intro (by assumption))])); all_goals rfl)
set_option maxRecDepth 100000 in
set_option maxHeartbeats 4000000 in
theorem m_X7_refundOf {hs : Nat → HV} {tp md : HV} {E : HE} (hE : HI E) {r : Int → Int} {K : Int} (R : MR K r) {b : Int} (b0 : 0 ≤ b) (b1 : b < 80) : Mt yX7_refundOf cX7_refundOf 4 (some .int) 3 E [.ref (mA E 0), vI b] hs tp (upr md 1 r) (some (vI (mRef0 r b))) hs tp (upr md 1 r) := by
  refine mk_Mt hE (plainFor_of_name (by decide)) (Nat.le_of_ble_eq_true rfl) (by intro w0 hw0; simp only [List.mem_cons, List.not_mem_nil, or_false] at hw0; rcases hw0 with rfl | rfl <;> rfl) (rfl : _ = [_, _, _, _]) ?_
  intro F C D
  have ra0 := MR.arr R b0 b1
  have rd0 := MR.day R
  have rz0 := MR.sets R
  refine x_aload_n C dX7_refundOf_0 rfl ?_
  refine x_iload_n C dX7_refundOf_1 rfl ?_
  refine x_const C dX7_refundOf_2 ?_
  refine x_callV (nA := 2) (As := [vI b, vI 1]) (rest := []) C (m_X7_of hE (r := r) (b := b) (w := 1) (by omega) (by omega) (by omega) (by omega) (show _ = r (51 + 7 * b + 1) from rfl)) q_799 q_801 q_23 q_64 q_802 (by decide +kernel) (wl_m 0 (by decide)) rfl rfl (by decide) (by decide) (Nat.le_of_ble_eq_true rfl) dX7_refundOf_3 rfl ?_
  have r_1 := MR.arr R (b := b) (by omega) (by omega)
  refine x_istore_n C dX7_refundOf_6 (by decide) (rfl : _ = [_, _, _, _]) ?_
  refine x_iload_n C dX7_refundOf_7 rfl ?_
  refine x_aload_n C dX7_refundOf_8 rfl ?_
  refine gm_0_0 C q_751 dX7_refundOf_9 ?_
  refine x_const C dX7_refundOf_12 ?_
  refine lm_1 C (by omega) (by omega) dX7_refundOf_13 (show _ = r 0 from rfl) ?_
  have r_2 := MR.day R
  refine x_isub C dX7_refundOf_14 ?_
  refine x_aload_n C dX7_refundOf_15 rfl ?_
  refine gm_0_0 C q_751 dX7_refundOf_16 ?_
  refine x_bipush C dX7_refundOf_19 (by decide) ?_
  refine lm_1 C (by omega) (by omega) dX7_refundOf_21 (show _ = r 21 from rfl) ?_
  have r_3 := (MR.sets R)
  refine x_icmp_ge 33 C dX7_refundOf_22 (by decide) ⟨by omega, by omega⟩ ⟨by omega, by omega⟩ (fun c_4 => ?_) (fun c_4 => ?_)
  · refine x_const C dX7_refundOf_33 ?_
    refine x_goto 38 C dX7_refundOf_34 (by decide) ?_
    refine x_istore_n C dX7_refundOf_38 (by decide) (rfl : _ = [_, _, _, _]) ?_
    refine x_iload_n C dX7_refundOf_39 rfl ?_
    refine x_if_eq 52 C dX7_refundOf_40 (by decide) ⟨by decide, by decide⟩ (fun c_5 => absurd c_5 (by decide)) (fun _ => ?_)
    refine x_aload_n C dX7_refundOf_43 rfl ?_
    refine x_iload_n C dX7_refundOf_44 rfl ?_
    refine x_const C dX7_refundOf_45 ?_
    refine x_callV (nA := 2) (As := [vI b, vI 5]) (rest := []) C (m_X7_of hE (r := r) (b := b) (w := 5) (by omega) (by omega) (by omega) (by omega) (show _ = r (51 + 7 * b + 5) from rfl)) q_799 q_801 q_23 q_64 q_802 (by decide +kernel) (wl_m 0 (by decide)) rfl rfl (by decide) (by decide) (Nat.le_of_ble_eq_true rfl) dX7_refundOf_46 rfl ?_
    refine x_goto 53 C dX7_refundOf_49 (by decide) ?_
    exact x_iret C D rfl dX7_refundOf_53 (if_pos (by first | omega | (left; omega) | (right; assumption))).symm rfl rfl rfl
  · refine x_aload_n C dX7_refundOf_25 rfl ?_
    refine x_iload_n C dX7_refundOf_26 rfl ?_
    refine x_callV (nA := 1) (As := [vI (r (51 + 7 * b + 1))]) (rest := []) C (m_X7_isUpOpen hE (r := r) R (d := (r (51 + 7 * b + 1))) (by omega) (by omega)) q_863 q_865 q_36 q_64 q_866 (by decide +kernel) (wl_m 0 (by decide)) rfl rfl (by decide) (by decide) (Nat.le_of_ble_eq_true rfl) dX7_refundOf_27 rfl ?_
    refine x_bz_ne 37 C dX7_refundOf_30 (by decide) (fun c_6 => ?_) (fun c_6 => ?_)
    · refine x_const C dX7_refundOf_37 ?_
      refine x_istore_n C dX7_refundOf_38 (by decide) (rfl : _ = [_, _, _, _]) ?_
      refine x_iload_n C dX7_refundOf_39 rfl ?_
      refine x_if_eq 52 C dX7_refundOf_40 (by decide) ⟨by decide, by decide⟩ (fun _ => ?_) (fun c_7 => absurd c_7 (by decide))
      refine x_const C dX7_refundOf_52 ?_
      exact x_iret C D rfl dX7_refundOf_53 (if_neg (by intro q; rcases q with q | q <;> first | omega | contradiction)).symm rfl rfl rfl
    · refine x_const C dX7_refundOf_33 ?_
      refine x_goto 38 C dX7_refundOf_34 (by decide) ?_
      refine x_istore_n C dX7_refundOf_38 (by decide) (rfl : _ = [_, _, _, _]) ?_
      refine x_iload_n C dX7_refundOf_39 rfl ?_
      refine x_if_eq 52 C dX7_refundOf_40 (by decide) ⟨by decide, by decide⟩ (fun c_8 => absurd c_8 (by decide)) (fun _ => ?_)
      refine x_aload_n C dX7_refundOf_43 rfl ?_
      refine x_iload_n C dX7_refundOf_44 rfl ?_
      refine x_const C dX7_refundOf_45 ?_
      refine x_callV (nA := 2) (As := [vI b, vI 5]) (rest := []) C (m_X7_of hE (r := r) (b := b) (w := 5) (by omega) (by omega) (by omega) (by omega) (show _ = r (51 + 7 * b + 5) from rfl)) q_799 q_801 q_23 q_64 q_802 (by decide +kernel) (wl_m 0 (by decide)) rfl rfl (by decide) (by decide) (Nat.le_of_ble_eq_true rfl) dX7_refundOf_46 rfl ?_
      refine x_goto 53 C dX7_refundOf_49 (by decide) ?_
      exact x_iret C D rfl dX7_refundOf_53 (if_pos (by first | omega | (left; omega) | (right; assumption))).symm rfl rfl rfl
set_option maxRecDepth 100000 in
set_option maxHeartbeats 4000000 in
theorem m_X7_refund {hs : Nat → HV} {tp md : HV} {E : HE} (hE : HI E) {r : Int → Int} {K : Int} (R : MR K r) {b : Int} (b0 : IR b) : Mt yX7_refund cX7_refund 2 (some .int) 4 E [.ref (mA E 0), vI b] hs tp (upr md 1 r) (some (vI (mRefd r b))) hs tp (upr md 1 r) := by
  refine mk_Mt hE (plainFor_of_name (by decide)) (Nat.le_of_ble_eq_true rfl) (by intro w0 hw0; simp only [List.mem_cons, List.not_mem_nil, or_false] at hw0; rcases hw0 with rfl | rfl <;> rfl) (rfl : _ = [_, _]) ?_
  intro F C D
  have rc0 := MR.came R
  refine x_aload_n C dX7_refund_0 rfl ?_
  refine x_iload_n C dX7_refund_1 rfl ?_
  refine x_callV (nA := 1) (As := [vI b]) (rest := []) C (m_X7_isBooking hE (r := r) R (b := b) ⟨by omega, by omega⟩) q_850 q_852 q_33 q_64 q_853 (by decide +kernel) (wl_m 0 (by decide)) rfl rfl (by decide) (by decide) (Nat.le_of_ble_eq_true rfl) dX7_refund_2 rfl ?_
  refine x_bz_ne 11 C dX7_refund_5 (by decide) (fun c_1 => ?_) (fun c_1 => ?_)
  · refine x_aload_n C dX7_refund_11 rfl ?_
    refine x_iload_n C dX7_refund_12 rfl ?_
    refine x_const C dX7_refund_13 ?_
    refine x_callV (nA := 2) (As := [vI b, vI 0]) (rest := []) C (m_X7_is hE (r := r) R (b := b) (w := 0) (by omega) (by omega) ⟨by omega, by omega⟩) q_855 q_857 q_34 q_64 q_858 (by decide +kernel) (wl_m 0 (by decide)) rfl rfl (by decide) (by decide) (Nat.le_of_ble_eq_true rfl) dX7_refund_14 rfl ?_
    refine x_bz_eq 28 C dX7_refund_17 (by decide) (fun c_2 => ?_) (fun c_2 => ?_)
    · refine x_ldc (n := (-1000004)) C q_807 dX7_refund_28 rfl ?_
      exact x_iret C D rfl dX7_refund_30 (by unfold mRefd; (repeat (first | rw [if_pos (by first | omega | assumption | exact not_not_intro (by assumption))] | rw [if_neg (by first | omega | assumption | exact not_not_intro (by assumption))])); all_goals rfl) rfl rfl rfl
    · refine x_aload_n C dX7_refund_20 rfl ?_
      refine x_iload_n C dX7_refund_21 rfl ?_
      refine x_callV (nA := 1) (As := [vI b]) (rest := []) C (m_X7_refundOf hE (r := r) R (b := b) (by omega) (by omega)) q_859 q_861 q_35 q_64 q_862 (by decide +kernel) (wl_m 0 (by decide)) rfl rfl (by decide) (by decide) (Nat.le_of_ble_eq_true rfl) dX7_refund_22 rfl ?_
      refine x_goto 30 C dX7_refund_25 (by decide) ?_
      exact x_iret C D rfl dX7_refund_30 (by unfold mRefd; (repeat (first | rw [if_pos (by first | omega | assumption | exact not_not_intro (by assumption))] | rw [if_neg (by first | omega | assumption | exact not_not_intro (by assumption))])); all_goals rfl) rfl rfl rfl
  · refine x_ldc (n := (-1000001)) C q_854 dX7_refund_8 rfl ?_
    exact x_iret C D rfl dX7_refund_10 (by unfold mRefd; (repeat (first | rw [if_pos (by first | omega | assumption | exact not_not_intro (by assumption))] | rw [if_neg (by first | omega | assumption | exact not_not_intro (by assumption))])); all_goals rfl) rfl rfl rfl
