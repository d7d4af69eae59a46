set_option maxRecDepth 100000 in
set_option maxHeartbeats 4000000 in
theorem m_X0_append {hs : Nat → HV} {tp md : HV} {E : HE} (hE : HI E) (l0 : 0 ≤ tp 4 1) (l1 : tp 4 1 < 60) {c : Int} (c0 : 0 ≤ c ∧ c ≤ 65535) {tp9 : HV} (he : xApp tp c = tp9) : Mt yX0_append cX0_append 2 none 1 E [.ref (tA E 4), vI c] hs tp md none hs tp9 md := by
  subst he
  refine mk_Mt hE (plainFor_of_name (by decide)) (Nat.le_of_ble_eq_true rfl) (by intro w0 hw0; simp only [List.mem_cons, List.not_mem_nil, or_false] at hw0; rcases hw0 with rfl | rfl <;> rfl) (rfl : _ = [_, _]) ?_
  intro F C D
  refine x_aload_n C dX0_append_0 rfl ?_
  refine gt_4_1 C q_199 dX0_append_1 rfl ?_
  refine x_bipush C dX0_append_4 (by decide) ?_
  refine x_icmp_ge 29 C dX0_append_6 (by decide) ⟨by omega, by omega⟩ ⟨by omega, by omega⟩ (fun c_1 => ?_) (fun c_1 => ?_)
  · exact absurd c_1 (by omega)
  · refine x_aload_n C dX0_append_9 rfl ?_
    refine gt_4_0 C q_198 dX0_append_10 ?_
    refine x_aload_n C dX0_append_13 rfl ?_
    refine gt_4_1 C q_199 dX0_append_14 rfl ?_
    refine x_iload_n C dX0_append_17 rfl ?_
    refine st_5 C (by omega) (by omega) (chr_ok c0) dX0_append_18 rfl ?_
    refine x_aload_n C dX0_append_19 rfl ?_
    refine x_dup C dX0_append_20 rfl ?_
    refine gt_4_1 C q_199 dX0_append_21 (show _ = tp 4 1 from rfl) ?_
    refine x_const C dX0_append_24 ?_
    refine x_iadd C dX0_append_25 ?_
    refine pt_4_1 C q_199 dX0_append_26 rfl ?_
    exact x_vret C D dX0_append_29 rfl rfl rfl
set_option maxRecDepth 100000 in
set_option maxHeartbeats 4000000 in
theorem m_X0_moveTo {hs : Nat → HV} {tp md : HV} {E : HE} (hE : HI E) {n : Int} {tp9 : HV} (he : xMv tp n = tp9) : Mt yX0_moveTo cX0_moveTo 2 (some .boolean) 1 E [.ref (tA E 4), vI n] hs tp md (some (vI (bI (True)))) hs tp9 md := by
  subst he
  refine mk_Mt hE (plainFor_of_name (by decide)) (Nat.le_of_ble_eq_true rfl) (by intro w0 hw0; simp only [List.mem_cons, List.not_mem_nil, or_false] at hw0; rcases hw0 with rfl | rfl <;> rfl) (rfl : _ = [_, _]) ?_
  intro F C D
  refine x_aload_n C dX0_moveTo_0 rfl ?_
  refine x_iload_n C dX0_moveTo_1 rfl ?_
  refine pt_4_6 C q_209 dX0_moveTo_2 rfl ?_
  refine x_const C dX0_moveTo_5 ?_
  exact x_iret C D nar_b dX0_moveTo_6 (e1_bI trivial) rfl rfl rfl
set_option maxRecDepth 100000 in
set_option maxHeartbeats 4000000 in
theorem m_X0_acceptsDayBegin {hs : Nat → HV} {tp md : HV} {E : HE} (hE : HI E) {c : Int} (c0 : 0 ≤ c ∧ c ≤ 65535) {tp9 : HV} (he : xDB tp c = tp9) : Mt yX0_acceptsDayBegin cX0_acceptsDayBegin 2 (some .boolean) 2 E [.ref (tA E 4), vI c] hs tp md (some (vI (bI (kDB c)))) hs tp9 md := by
  subst he
  refine mk_Mt hE (plainFor_of_name (by decide)) (Nat.le_of_ble_eq_true rfl) (by intro w0 hw0; simp only [List.mem_cons, List.not_mem_nil, or_false] at hw0; rcases hw0 with rfl | rfl <;> rfl) (rfl : _ = [_, _]) ?_
  intro F C D
  refine x_iload_n C dX0_acceptsDayBegin_0 rfl ?_
  refine x_bipush C dX0_acceptsDayBegin_1 (by decide) ?_
  refine x_icmp_lt 12 C dX0_acceptsDayBegin_3 (by decide) ⟨by omega, by omega⟩ ⟨by omega, by omega⟩ (fun c_1 => ?_) (fun c_1 => ?_)
  · refine x_const C dX0_acceptsDayBegin_12 ?_
    exact x_iret C D nar_b dX0_acceptsDayBegin_13 (e0_bI (by omega)) rfl (by unfold xDB; rw [if_neg (by omega)]) rfl
  · refine x_iload_n C dX0_acceptsDayBegin_6 rfl ?_
    refine x_bipush C dX0_acceptsDayBegin_7 (by decide) ?_
    refine x_icmp_le 14 C dX0_acceptsDayBegin_9 (by decide) ⟨by omega, by omega⟩ ⟨by omega, by omega⟩ (fun c_2 => ?_) (fun c_2 => ?_)
    · refine x_aload_n C dX0_acceptsDayBegin_14 rfl ?_
      refine x_iload_n C dX0_acceptsDayBegin_15 rfl ?_
      refine x_bipush C dX0_acceptsDayBegin_16 (by decide) ?_
      refine x_isub C dX0_acceptsDayBegin_18 ?_
      refine pt_4_7 C q_210 dX0_acceptsDayBegin_19 rfl ?_
      refine x_aload_n C dX0_acceptsDayBegin_22 rfl ?_
      refine x_const C dX0_acceptsDayBegin_23 ?_
      refine x_callV (nA := 1) (As := [vI 1]) (rest := []) C (m_X0_moveTo (tp := (upr tp 4 (up1 (tp 4) 7 (c - 48)))) hE  rfl) q_686 q_688 q_16 q_28 q_689 (by decide +kernel) (wl_t 4 (by decide)) rfl rfl (by decide) (by decide) (Nat.le_of_ble_eq_true rfl) dX0_acceptsDayBegin_24 rfl ?_
      exact x_iret C D nar_b dX0_acceptsDayBegin_27 (bI_iff ⟨fun _ => ⟨by omega, by omega⟩, fun _ => trivial⟩) rfl (by unfold xDB; rw [if_pos (by omega)]) rfl
    · refine x_const C dX0_acceptsDayBegin_12 ?_
      exact x_iret C D nar_b dX0_acceptsDayBegin_13 (e0_bI (by omega)) rfl (by unfold xDB; rw [if_neg (by omega)]) rfl
set_option maxRecDepth 100000 in
set_option maxHeartbeats 4000000 in
theorem m_X0_acceptsDayDigit {hs : Nat → HV} {tp md : HV} {E : HE} (hE : HI E) (T : TG tp) {c : Int} (c0 : 0 ≤ c ∧ c ≤ 65535) {tp9 : HV} (he : xDD tp c = tp9) : Mt yX0_acceptsDayDigit cX0_acceptsDayDigit 3 (some .boolean) 1 E [.ref (tA E 4), vI c] hs tp md (some (vI (bI (kDD tp c)))) hs tp9 md := by
  subst he
  refine mk_Mt hE (plainFor_of_name (by decide)) (Nat.le_of_ble_eq_true rfl) (by intro w0 hw0; simp only [List.mem_cons, List.not_mem_nil, or_false] at hw0; rcases hw0 with rfl | rfl <;> rfl) (rfl : _ = [_, _, _]) ?_
  intro F C D
  have td := T.2.2.2.1
  refine x_iload_n C dX0_acceptsDayDigit_0 rfl ?_
  refine x_bipush C dX0_acceptsDayDigit_1 (by decide) ?_
  refine x_icmp_lt 19 C dX0_acceptsDayDigit_3 (by decide) ⟨by omega, by omega⟩ ⟨by omega, by omega⟩ (fun c_1 => ?_) (fun c_1 => ?_)
  · refine x_const C dX0_acceptsDayDigit_19 ?_
    exact x_iret C D nar_b dX0_acceptsDayDigit_20 (e0_bI (by omega)) rfl (by unfold xDD; rw [if_neg (by omega)]) rfl
  · refine x_iload_n C dX0_acceptsDayDigit_6 rfl ?_
    refine x_bipush C dX0_acceptsDayDigit_7 (by decide) ?_
    refine x_icmp_gt 19 C dX0_acceptsDayDigit_9 (by decide) ⟨by omega, by omega⟩ ⟨by omega, by omega⟩ (fun c_2 => ?_) (fun c_2 => ?_)
    · refine x_const C dX0_acceptsDayDigit_19 ?_
      exact x_iret C D nar_b dX0_acceptsDayDigit_20 (e0_bI (by omega)) rfl (by unfold xDD; rw [if_neg (by omega)]) rfl
    · refine x_aload_n C dX0_acceptsDayDigit_12 rfl ?_
      refine gt_4_7 C q_210 dX0_acceptsDayDigit_13 rfl ?_
      refine x_if_ne 21 C dX0_acceptsDayDigit_16 (by decide) ⟨by omega, by omega⟩ (fun c_3 => ?_) (fun c_3 => ?_)
      · refine x_aload_n C dX0_acceptsDayDigit_21 rfl ?_
        refine gt_4_7 C q_210 dX0_acceptsDayDigit_22 rfl ?_
        refine x_bipush C dX0_acceptsDayDigit_25 (by decide) ?_
        refine x_imul C dX0_acceptsDayDigit_27 ?_
        refine x_iload_n C dX0_acceptsDayDigit_28 rfl ?_
        refine x_bipush C dX0_acceptsDayDigit_29 (by decide) ?_
        refine x_isub C dX0_acceptsDayDigit_31 ?_
        refine x_iadd C dX0_acceptsDayDigit_32 ?_
        refine x_istore_n C dX0_acceptsDayDigit_33 (by decide) (rfl : _ = [_, _, _]) ?_
        refine x_iload_n C dX0_acceptsDayDigit_34 rfl ?_
        refine x_sipush C dX0_acceptsDayDigit_35 (by decide) ?_
        refine x_icmp_le 43 C dX0_acceptsDayDigit_38 (by decide) ⟨by omega, by omega⟩ ⟨by omega, by omega⟩ (fun c_4 => ?_) (fun c_4 => ?_)
        · refine x_aload_n C dX0_acceptsDayDigit_43 rfl ?_
          refine x_iload_n C dX0_acceptsDayDigit_44 rfl ?_
          refine pt_4_7 C q_210 dX0_acceptsDayDigit_45 rfl ?_
          refine x_const C dX0_acceptsDayDigit_48 ?_
          exact x_iret C D nar_b dX0_acceptsDayDigit_49 (e1_bI (by omega)) rfl (by unfold xDD; rw [if_pos (by omega)]) rfl
        · refine x_const C dX0_acceptsDayDigit_41 ?_
          exact x_iret C D nar_b dX0_acceptsDayDigit_42 (e0_bI (by omega)) rfl (by unfold xDD; rw [if_neg (by omega)]) rfl
      · refine x_const C dX0_acceptsDayDigit_19 ?_
        exact x_iret C D nar_b dX0_acceptsDayDigit_20 (e0_bI (by omega)) rfl (by unfold xDD; rw [if_neg (by omega)]) rfl
set_option maxRecDepth 100000 in
set_option maxHeartbeats 4000000 in
theorem m_X0_acceptsNights {hs : Nat → HV} {tp md : HV} {E : HE} (hE : HI E) {c : Int} (c0 : 0 ≤ c ∧ c ≤ 65535) {tp9 : HV} (he : xNi tp c = tp9) : Mt yX0_acceptsNights cX0_acceptsNights 2 (some .boolean) 2 E [.ref (tA E 4), vI c] hs tp md (some (vI (bI (kNi c)))) hs tp9 md := by
  subst he
  refine mk_Mt hE (plainFor_of_name (by decide)) (Nat.le_of_ble_eq_true rfl) (by intro w0 hw0; simp only [List.mem_cons, List.not_mem_nil, or_false] at hw0; rcases hw0 with rfl | rfl <;> rfl) (rfl : _ = [_, _]) ?_
  intro F C D
  refine x_iload_n C dX0_acceptsNights_0 rfl ?_
  refine x_bipush C dX0_acceptsNights_1 (by decide) ?_
  refine x_icmp_lt 12 C dX0_acceptsNights_3 (by decide) ⟨by omega, by omega⟩ ⟨by omega, by omega⟩ (fun c_1 => ?_) (fun c_1 => ?_)
  · refine x_const C dX0_acceptsNights_12 ?_
    exact x_iret C D nar_b dX0_acceptsNights_13 (e0_bI (by omega)) rfl (by unfold xNi; rw [if_neg (by omega)]) rfl
  · refine x_iload_n C dX0_acceptsNights_6 rfl ?_
    refine x_bipush C dX0_acceptsNights_7 (by decide) ?_
    refine x_icmp_le 14 C dX0_acceptsNights_9 (by decide) ⟨by omega, by omega⟩ ⟨by omega, by omega⟩ (fun c_2 => ?_) (fun c_2 => ?_)
    · refine x_aload_n C dX0_acceptsNights_14 rfl ?_
      refine x_iload_n C dX0_acceptsNights_15 rfl ?_
      refine x_bipush C dX0_acceptsNights_16 (by decide) ?_
      refine x_isub C dX0_acceptsNights_18 ?_
      refine pt_4_8 C q_211 dX0_acceptsNights_19 rfl ?_
      refine x_aload_n C dX0_acceptsNights_22 rfl ?_
      refine x_const C dX0_acceptsNights_23 ?_
      refine x_callV (nA := 1) (As := [vI 3]) (rest := []) C (m_X0_moveTo (tp := (upr tp 4 (up1 (tp 4) 8 (c - 48)))) hE  rfl) q_686 q_688 q_16 q_28 q_689 (by decide +kernel) (wl_t 4 (by decide)) rfl rfl (by decide) (by decide) (Nat.le_of_ble_eq_true rfl) dX0_acceptsNights_24 rfl ?_
      exact x_iret C D nar_b dX0_acceptsNights_27 (bI_iff ⟨fun _ => ⟨by omega, by omega⟩, fun _ => trivial⟩) rfl (by unfold xNi; rw [if_pos (by omega)]) rfl
    · refine x_const C dX0_acceptsNights_12 ?_
      exact x_iret C D nar_b dX0_acceptsNights_13 (e0_bI (by omega)) rfl (by unfold xNi; rw [if_neg (by omega)]) rfl
set_option maxRecDepth 100000 in
set_option maxHeartbeats 4000000 in
theorem m_X0_acceptsPersons {hs : Nat → HV} {tp md : HV} {E : HE} (hE : HI E) (T : TG tp) {c : Int} (c0 : 0 ≤ c ∧ c ≤ 65535) {tp9 : HV} (he : xPe tp c = tp9) : Mt yX0_acceptsPersons cX0_acceptsPersons 2 (some .boolean) 2 E [.ref (tA E 4), vI c] hs tp md (some (vI (bI (kPe tp c)))) hs tp9 md := by
  subst he
  refine mk_Mt hE (plainFor_of_name (by decide)) (Nat.le_of_ble_eq_true rfl) (by intro w0 hw0; simp only [List.mem_cons, List.not_mem_nil, or_false] at hw0; rcases hw0 with rfl | rfl <;> rfl) (rfl : _ = [_, _]) ?_
  intro F C D
  have td := T.2.1
  refine x_iload_n C dX0_acceptsPersons_0 rfl ?_
  refine x_bipush C dX0_acceptsPersons_1 (by decide) ?_
  refine x_icmp_lt 21 C dX0_acceptsPersons_3 (by decide) ⟨by omega, by omega⟩ ⟨by omega, by omega⟩ (fun c_1 => ?_) (fun c_1 => ?_)
  · refine x_const C dX0_acceptsPersons_21 ?_
    exact x_iret C D nar_b dX0_acceptsPersons_22 (e0_bI (by omega)) rfl (by unfold xPe; rw [if_neg (by omega)]) rfl
  · refine x_iload_n C dX0_acceptsPersons_6 rfl ?_
    refine x_bipush C dX0_acceptsPersons_7 (by decide) ?_
    refine x_icmp_gt 21 C dX0_acceptsPersons_9 (by decide) ⟨by omega, by omega⟩ ⟨by omega, by omega⟩ (fun c_2 => ?_) (fun c_2 => ?_)
    · refine x_const C dX0_acceptsPersons_21 ?_
      exact x_iret C D nar_b dX0_acceptsPersons_22 (e0_bI (by omega)) rfl (by unfold xPe; rw [if_neg (by omega)]) rfl
    · refine x_aload_n C dX0_acceptsPersons_12 rfl ?_
      refine gt_4_5 C q_207 dX0_acceptsPersons_13 rfl ?_
      refine x_bipush C dX0_acceptsPersons_16 (by decide) ?_
      refine x_icmp_lt 23 C dX0_acceptsPersons_18 (by decide) ⟨by omega, by omega⟩ ⟨by omega, by omega⟩ (fun c_3 => ?_) (fun c_3 => ?_)
      · refine x_aload_n C dX0_acceptsPersons_23 rfl ?_
        refine gt_4_2 C q_201 dX0_acceptsPersons_24 ?_
        refine x_aload_n C dX0_acceptsPersons_27 rfl ?_
        refine gt_4_5 C q_207 dX0_acceptsPersons_28 rfl ?_
        refine x_aload_n C dX0_acceptsPersons_31 rfl ?_
        refine gt_4_7 C q_210 dX0_acceptsPersons_32 rfl ?_
        refine st_6 C (by omega) (by omega) dX0_acceptsPersons_35 rfl ?_
        refine x_aload_n C dX0_acceptsPersons_36 rfl ?_
        refine gt_4_3 C q_203 dX0_acceptsPersons_37 ?_
        refine x_aload_n C dX0_acceptsPersons_40 rfl ?_
        refine gt_4_5 C q_207 dX0_acceptsPersons_41 (show _ = tp 4 5 from rfl) ?_
        refine x_aload_n C dX0_acceptsPersons_44 rfl ?_
        refine gt_4_8 C q_211 dX0_acceptsPersons_45 (show _ = tp 4 8 from rfl) ?_
        refine st_7 C (by omega) (by omega) dX0_acceptsPersons_48 rfl ?_
        refine x_aload_n C dX0_acceptsPersons_49 rfl ?_
        refine gt_4_4 C q_205 dX0_acceptsPersons_50 ?_
        refine x_aload_n C dX0_acceptsPersons_53 rfl ?_
        refine gt_4_5 C q_207 dX0_acceptsPersons_54 (show _ = tp 4 5 from rfl) ?_
        refine x_iload_n C dX0_acceptsPersons_57 rfl ?_
        refine x_bipush C dX0_acceptsPersons_58 (by decide) ?_
        refine x_isub C dX0_acceptsPersons_60 ?_
        refine st_8 C (by omega) (by omega) dX0_acceptsPersons_61 rfl ?_
        refine x_aload_n C dX0_acceptsPersons_62 rfl ?_
        refine x_dup C dX0_acceptsPersons_63 rfl ?_
        refine gt_4_5 C q_207 dX0_acceptsPersons_64 (show _ = tp 4 5 from rfl) ?_
        refine x_const C dX0_acceptsPersons_67 ?_
        refine x_iadd C dX0_acceptsPersons_68 ?_
        refine pt_4_5 C q_207 dX0_acceptsPersons_69 rfl ?_
        refine x_aload_n C dX0_acceptsPersons_72 rfl ?_
        refine x_const C dX0_acceptsPersons_73 ?_
        refine x_callV (nA := 1) (As := [vI 5]) (rest := []) C (m_X0_moveTo (tp := (upr (upr (upr (upr tp 6 (up1 (tp 6) (tp 4 5) (tp 4 7))) 7 (up1 (tp 7) (tp 4 5) (tp 4 8))) 8 (up1 (tp 8) (tp 4 5) (c - 48))) 4 (up1 (tp 4) 5 ((tp 4 5) + 1)))) hE  rfl) q_686 q_688 q_16 q_28 q_689 (by decide +kernel) (wl_t 4 (by decide)) rfl rfl (by decide) (by decide) (Nat.le_of_ble_eq_true rfl) dX0_acceptsPersons_74 rfl ?_
        exact x_iret C D nar_b dX0_acceptsPersons_77 (bI_iff ⟨fun _ => ⟨⟨by omega, by omega⟩, by omega⟩, fun _ => trivial⟩) rfl (by unfold xPe; rw [if_pos (by omega)]) rfl
      · refine x_const C dX0_acceptsPersons_21 ?_
        exact x_iret C D nar_b dX0_acceptsPersons_22 (e0_bI (by omega)) rfl (by unfold xPe; rw [if_neg (by omega)]) rfl
set_option maxRecDepth 100000 in
set_option maxHeartbeats 4000000 in
theorem m_X0_accepts {hs : Nat → HV} {tp md : HV} {E : HE} (hE : HI E) (T : TG tp) {c : Int} (c0 : 0 ≤ c ∧ c ≤ 65535) {tp9 : HV} (he : xA tp c = tp9) : Mt yX0_accepts cX0_accepts 2 (some .boolean) 3 E [.ref (tA E 4), vI c] hs tp md (some (vI (bI (kA tp c)))) hs tp9 md := by
  subst he
  refine mk_Mt hE (plainFor_of_name (by decide)) (Nat.le_of_ble_eq_true rfl) (by intro w0 hw0; simp only [List.mem_cons, List.not_mem_nil, or_false] at hw0; rcases hw0 with rfl | rfl <;> rfl) (rfl : _ = [_, _]) ?_
  intro F C D
  have tl := T.2.2.1
  refine x_aload_n C dX0_accepts_0 rfl ?_
  refine gt_4_6 C q_209 dX0_accepts_1 rfl ?_
  by_cases v_1 : tp 4 6 = 0
  · refine x_tabIn 40 C dX0_accepts_4 ⟨by omega, by omega⟩ (by omega) (by omega) (show _ = some (36 : Int) by rw [v_1]; rfl) (by decide) ?_
    refine x_aload_n C dX0_accepts_40 rfl ?_
    refine x_iload_n C dX0_accepts_41 rfl ?_
    refine x_callV (nA := 1) (As := [vI c]) (rest := []) C (m_X0_acceptsDayBegin (tp := tp) hE ⟨by omega, by omega⟩ rfl) q_682 q_684 q_15 q_28 q_685 (by decide +kernel) (wl_t 4 (by decide)) rfl rfl (by decide) (by decide) (Nat.le_of_ble_eq_true rfl) dX0_accepts_42 rfl ?_
    exact x_iret C D nar_b dX0_accepts_45 (bI_iff ⟨fun q => by omega, fun q => by omega⟩) rfl (by rw [xA_0 (by omega)]) rfl
  by_cases v_2 : tp 4 6 = 1
  · refine x_tabIn 46 C dX0_accepts_4 ⟨by omega, by omega⟩ (by omega) (by omega) (show _ = some (42 : Int) by rw [v_2]; rfl) (by decide) ?_
    refine x_iload_n C dX0_accepts_46 rfl ?_
    refine x_bipush C dX0_accepts_47 (by decide) ?_
    refine x_icmp_ne 60 C dX0_accepts_49 (by decide) ⟨by omega, by omega⟩ ⟨by omega, by omega⟩ (fun c_3 => ?_) (fun c_3 => ?_)
    · refine x_aload_n C dX0_accepts_60 rfl ?_
      refine x_iload_n C dX0_accepts_61 rfl ?_
      refine x_callV (nA := 1) (As := [vI c]) (rest := []) C (m_X0_acceptsDayDigit (tp := tp) hE T ⟨by omega, by omega⟩ rfl) q_690 q_692 q_17 q_28 q_693 (by decide +kernel) (wl_t 4 (by decide)) rfl rfl (by decide) (by decide) (Nat.le_of_ble_eq_true rfl) dX0_accepts_62 rfl ?_
      exact x_iret C D nar_b dX0_accepts_65 (bI_iff ⟨fun q => by omega, fun q => by omega⟩) rfl (by rw [xA_1 (by omega), if_neg (by omega)]) rfl
    · refine x_aload_n C dX0_accepts_52 rfl ?_
      refine x_const C dX0_accepts_53 ?_
      refine x_callV (nA := 1) (As := [vI 2]) (rest := []) C (m_X0_moveTo (tp := tp) hE  rfl) q_686 q_688 q_16 q_28 q_689 (by decide +kernel) (wl_t 4 (by decide)) rfl rfl (by decide) (by decide) (Nat.le_of_ble_eq_true rfl) dX0_accepts_54 rfl ?_
      refine x_goto 65 C dX0_accepts_57 (by decide) ?_
      exact x_iret C D nar_b dX0_accepts_65 (bI_iff ⟨fun _ => by omega, fun _ => trivial⟩) rfl (by rw [xA_1 (by omega), if_pos (by omega)]) rfl
  by_cases v_4 : tp 4 6 = 2
  · refine x_tabIn 66 C dX0_accepts_4 ⟨by omega, by omega⟩ (by omega) (by omega) (show _ = some (62 : Int) by rw [v_4]; rfl) (by decide) ?_
    refine x_aload_n C dX0_accepts_66 rfl ?_
    refine x_iload_n C dX0_accepts_67 rfl ?_
    refine x_callV (nA := 1) (As := [vI c]) (rest := []) C (m_X0_acceptsNights (tp := tp) hE ⟨by omega, by omega⟩ rfl) q_694 q_696 q_18 q_28 q_697 (by decide +kernel) (wl_t 4 (by decide)) rfl rfl (by decide) (by decide) (Nat.le_of_ble_eq_true rfl) dX0_accepts_68 rfl ?_
    exact x_iret C D nar_b dX0_accepts_71 (bI_iff ⟨fun q => by omega, fun q => by omega⟩) rfl (by rw [xA_2 (by omega)]) rfl
  by_cases v_5 : tp 4 6 = 3
  · refine x_tabIn 72 C dX0_accepts_4 ⟨by omega, by omega⟩ (by omega) (by omega) (show _ = some (68 : Int) by rw [v_5]; rfl) (by decide) ?_
    refine x_iload_n C dX0_accepts_72 rfl ?_
    refine x_bipush C dX0_accepts_73 (by decide) ?_
    refine x_icmp_ne 90 C dX0_accepts_75 (by decide) ⟨by omega, by omega⟩ ⟨by omega, by omega⟩ (fun c_6 => ?_) (fun c_6 => ?_)
    · refine x_const C dX0_accepts_90 ?_
      exact x_iret C D nar_b dX0_accepts_91 (e0_bI (by omega)) rfl (by rw [xA_3 (by omega), if_neg (by omega)]) rfl
    · refine x_aload_n C dX0_accepts_78 rfl ?_
      refine x_const C dX0_accepts_79 ?_
      refine x_callV (nA := 1) (As := [vI 4]) (rest := []) C (m_X0_moveTo (tp := tp) hE  rfl) q_686 q_688 q_16 q_28 q_689 (by decide +kernel) (wl_t 4 (by decide)) rfl rfl (by decide) (by decide) (Nat.le_of_ble_eq_true rfl) dX0_accepts_80 rfl ?_
      refine x_bz_eq 90 C dX0_accepts_83 (by decide) (fun c9 => absurd trivial c9) (fun _ => ?_)
      refine x_const C dX0_accepts_86 ?_
      refine x_goto 91 C dX0_accepts_87 (by decide) ?_
      exact x_iret C D nar_b dX0_accepts_91 (e1_bI (by omega)) rfl (by rw [xA_3 (by omega), if_pos (by omega)]) rfl
  by_cases v_8 : tp 4 6 = 4
  · refine x_tabIn 92 C dX0_accepts_4 ⟨by omega, by omega⟩ (by omega) (by omega) (show _ = some (88 : Int) by rw [v_8]; rfl) (by decide) ?_
    refine x_aload_n C dX0_accepts_92 rfl ?_
    refine x_iload_n C dX0_accepts_93 rfl ?_
    refine x_callV (nA := 1) (As := [vI c]) (rest := []) C (m_X0_acceptsPersons (tp := tp) hE T ⟨by omega, by omega⟩ rfl) q_698 q_700 q_19 q_28 q_701 (by decide +kernel) (wl_t 4 (by decide)) rfl rfl (by decide) (by decide) (Nat.le_of_ble_eq_true rfl) dX0_accepts_94 rfl ?_
    exact x_iret C D nar_b dX0_accepts_97 (bI_iff ⟨fun q => by omega, fun q => by omega⟩) rfl (by rw [xA_4 (by omega)]) rfl
  refine x_tabOut 98 C dX0_accepts_4 ⟨by omega, by omega⟩ (by omega) (by decide) ?_
  refine x_iload_n C dX0_accepts_98 rfl ?_
  refine x_bipush C dX0_accepts_99 (by decide) ?_
  refine x_icmp_ne 116 C dX0_accepts_101 (by decide) ⟨by omega, by omega⟩ ⟨by omega, by omega⟩ (fun c_9 => ?_) (fun c_9 => ?_)
  · refine x_const C dX0_accepts_116 ?_
    exact x_iret C D nar_b dX0_accepts_117 (e0_bI (by omega)) rfl (by rw [xA_5 (by omega), if_neg (by omega)]) rfl
  · refine x_aload_n C dX0_accepts_104 rfl ?_
    refine x_const C dX0_accepts_105 ?_
    refine x_callV (nA := 1) (As := [vI 0]) (rest := []) C (m_X0_moveTo (tp := tp) hE  rfl) q_686 q_688 q_16 q_28 q_689 (by decide +kernel) (wl_t 4 (by decide)) rfl rfl (by decide) (by decide) (Nat.le_of_ble_eq_true rfl) dX0_accepts_106 rfl ?_
    refine x_bz_eq 116 C dX0_accepts_109 (by decide) (fun c9 => absurd trivial c9) (fun _ => ?_)
    refine x_const C dX0_accepts_112 ?_
    refine x_goto 117 C dX0_accepts_113 (by decide) ?_
    exact x_iret C D nar_b dX0_accepts_117 (e1_bI (by omega)) rfl (by rw [xA_5 (by omega), if_pos (by omega)]) rfl
set_option maxRecDepth 100000 in
set_option maxHeartbeats 4000000 in
theorem m_X0_findFault {hs : Nat → HV} {tp md : HV} {E : HE} (hE : HI E) (T : TG tp)  {tp9 : HV} (he : (ff tp).2 = tp9) : Mt yX0_findFault cX0_findFault 2 (some .int) 4 E [.ref (tA E 4)] hs tp md (some (vI ((ff tp).1))) hs tp9 md := by
  subst he
  refine mk_Mt hE (plainFor_of_name (by decide)) (Nat.le_of_ble_eq_true rfl) (by intro w0 hw0; simp only [List.mem_cons, List.not_mem_nil, or_false] at hw0; rcases hw0 with rfl <;> rfl) (rfl : _ = [_, _]) ?_
  intro F C D
  have tl := T.1
  refine x_aload_n C dX0_findFault_0 rfl ?_
  refine x_const C dX0_findFault_1 ?_
  refine pt_4_5 C q_207 dX0_findFault_2 rfl ?_
  refine x_aload_n C dX0_findFault_5 rfl ?_
  refine x_const C dX0_findFault_6 ?_
  refine pt_4_6 C q_209 dX0_findFault_7 upr_w ?_
  refine x_const C dX0_findFault_10 ?_
  refine x_istore_n C dX0_findFault_11 (by decide) (rfl : _ = [_, _]) ?_
  have K12 : ∀ (nn : Nat) (n : Nat) (i : Int) (t : HV), 0 ≤ i → TG t → t 4 1 = i + n → ff tp = ffN n i t → (n : Int) < nn →  G F E hs t md 12 [some (.ref (tA E 4)), some (vI i)] [] := by
    intro nn
    induction nn with
    | zero => intro n i t i0 tt tn hq hz; exact absurd hz (by omega)
    | succ nn ih =>
      intro n i t i0 tt tn hq hz
      refine x_iload_n C dX0_findFault_12 rfl ?_
      refine x_aload_n C dX0_findFault_13 rfl ?_
      have tl1 := tt.1
      have tl6 := tt.2.2.1
      refine gt_4_1 C q_199 dX0_findFault_14 rfl ?_
      refine x_icmp_ge 41 C dX0_findFault_17 (by decide) ⟨by omega, by omega⟩ ⟨by omega, by omega⟩ (fun c_1 => ?_) (fun c_1 => ?_)
      · refine x_aload_n C dX0_findFault_41 rfl ?_
        refine gt_4_6 C q_209 dX0_findFault_42 rfl ?_
        refine x_const C dX0_findFault_45 ?_
        refine x_icmp_ne 54 C dX0_findFault_46 (by decide) ⟨by omega, by omega⟩ ⟨by omega, by omega⟩ (fun c_2 => ?_) (fun c_2 => ?_)
        · refine x_aload_n C dX0_findFault_54 rfl ?_
          refine gt_4_1 C q_199 dX0_findFault_55 rfl ?_
          exact x_iret C D rfl dX0_findFault_58 (by rw [hq, ffN_0 (by omega)]; show _ = if _ then _ else _; rw [if_neg c_2]) rfl (by rw [hq, ffN_0 (by omega)]) rfl
        · refine x_ldc (n := (-1000005)) C q_702 dX0_findFault_49 rfl ?_
          refine x_goto 58 C dX0_findFault_51 (by decide) ?_
          exact x_iret C D rfl dX0_findFault_58 (by rw [hq, ffN_0 (by omega)]; show _ = if _ then _ else _; rw [if_pos c_2]) rfl (by rw [hq, ffN_0 (by omega)]) rfl
      · refine x_aload_n C dX0_findFault_20 rfl ?_
        refine x_aload_n C dX0_findFault_21 rfl ?_
        refine gt_4_0 C q_198 dX0_findFault_22 ?_
        refine x_iload_n C dX0_findFault_25 rfl ?_
        refine lt_5 C (by omega) (by omega) dX0_findFault_26 rfl ?_
        have tch := tt.2.2.2.2.2.1 i i0 (by omega)
        refine x_callV (nA := 1) (As := [vI (t 5 i)]) (rest := []) C (m_X0_accepts (tp := t) hE tt ⟨by omega, by omega⟩ rfl) q_678 q_680 q_14 q_28 q_681 (by decide +kernel) (wl_t 4 (by decide)) rfl rfl (by decide) (by decide) (Nat.le_of_ble_eq_true rfl) dX0_findFault_27 rfl ?_
        refine x_bz_ne 35 C dX0_findFault_30 (by decide) (fun c_3 => ?_) (fun c_3 => ?_)
        · refine x_iinc C dX0_findFault_35 rfl (by decide) (rfl : _ = [_, _]) ?_
          refine x_goto 12 C dX0_findFault_38 (by decide) ?_
          obtain ⟨n9, rfl⟩ : ∃ n9, n = n9 + 1 := ⟨n - 1, by omega⟩
          have xl := xA_len (t := t) (c := t 5 i)
          refine G.wk (ih n9 (i + 1) (xA t (t 5 i)) (by omega) (TG_A tt) (by rw [xl.1]; omega) (by rw [hq, ffN_t c_3]) (by omega)) ?_
          simp only [leL, and_self]
        · refine x_iload_n C dX0_findFault_33 rfl ?_
          exact x_iret C D rfl dX0_findFault_34 (by rw [hq]; obtain ⟨n9, rfl⟩ : ∃ n9, n = n9 + 1 := ⟨n - 1, by omega⟩; rw [ffN_f c_3]) rfl (by rw [hq]; obtain ⟨n9, rfl⟩ : ∃ n9, n = n9 + 1 := ⟨n - 1, by omega⟩; rw [ffN_f c_3]) rfl
  exact K12 ((tp 4 1).toNat + 1) (tp 4 1).toNat 0 (ff0 tp) (by decide) (TG_ff0 T) (by show tp 4 1 = _; omega) rfl (by omega)
