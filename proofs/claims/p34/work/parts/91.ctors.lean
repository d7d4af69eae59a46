/-! THE CONSTRUCTORS (printed by ctor.py) -/
def oX4 (T : Nat → ClassId) (h0 : Nat) (qs : Nat → Nat) : va_W := [(h0, .inr (4, [.ref (qs 1), vI 0])), (qs 1, .inl (T 0, 30, .inl (AI z0)))]
set_option maxRecDepth 100000 in
set_option maxHeartbeats 4000000 in
theorem m_X4_init (D : va_G) (T : Nat → ClassId) : Mk yX4_init cX4_init 1 1 D T 1 30 (.inr (4, [.null, vI 0])) (oX4 T) := by
  refine mk_Mk (plainFor_of_name (by decide)) rfl (by decide) ?_
  intro F h0 A bb C hI hr X _
  refine k_aload_n C dX4_init_0 rfl ?_
  refine k_obj C q_103 (by decide) (by decide) dX4_init_1 ?_
  refine k_aload_n C dX4_init_4 rfl ?_
  refine k_bipush C dX4_init_5 (by decide) ?_
  refine k_newi (N := 30) C dX4_init_7 rfl (Nat.le_of_ble_eq_true rfl) (hr _ _ (Nat.le_of_ble_eq_true rfl) (Nat.le_of_ble_eq_true rfl)) fun q1 => ?_
  refine k_putF (q0 := 0) C hI rfl rfl i_X4 tyX4_ok nmX4 0 (by decide) q_104 rfl rfl rfl rfl (Nat.le_of_ble_eq_true rfl) rfl dX4_init_9 ?_
  exact k_ret C X dX4_init_12 (fun i => [h0, q1].getD i 0) rfl
def oX5 (T : Nat → ClassId) (h0 : Nat) (qs : Nat → Nat) : va_W := [(h0, .inr (5, [.ref (qs 1), .ref (qs 2), vI 0])), (qs 1, .inl (T 0, 12, .inl (AI z0))), (qs 2, .inl (T 0, 12, .inl (AI z0)))]
set_option maxRecDepth 100000 in
set_option maxHeartbeats 4000000 in
theorem m_X5_init (D : va_G) (T : Nat → ClassId) : Mk yX5_init cX5_init 1 1 D T 2 24 (.inr (5, [.null, .null, vI 0])) (oX5 T) := by
  refine mk_Mk (plainFor_of_name (by decide)) rfl (by decide) ?_
  intro F h0 A bb C hI hr X _
  refine k_aload_n C dX5_init_0 rfl ?_
  refine k_obj C q_117 (by decide) (by decide) dX5_init_1 ?_
  refine k_aload_n C dX5_init_4 rfl ?_
  refine k_bipush C dX5_init_5 (by decide) ?_
  refine k_newi (N := 12) C dX5_init_7 rfl (Nat.le_of_ble_eq_true rfl) (hr _ _ (Nat.le_of_ble_eq_true rfl) (Nat.le_of_ble_eq_true rfl)) fun q1 => ?_
  refine k_putF (q0 := 0) C hI rfl rfl i_X5 tyX5_ok nmX5 0 (by decide) q_118 rfl rfl rfl rfl (Nat.le_of_ble_eq_true rfl) rfl dX5_init_9 ?_
  refine k_aload_n C dX5_init_12 rfl ?_
  refine k_bipush C dX5_init_13 (by decide) ?_
  refine k_newi (N := 12) C dX5_init_15 rfl (Nat.le_of_ble_eq_true rfl) (hr _ _ (Nat.le_of_ble_eq_true rfl) (Nat.le_of_ble_eq_true rfl)) fun q2 => ?_
  refine k_putF (q0 := 0) C hI rfl rfl i_X5 tyX5_ok nmX5 1 (by decide) q_120 rfl rfl rfl rfl (Nat.le_of_ble_eq_true rfl) rfl dX5_init_17 ?_
  exact k_ret C X dX5_init_20 (fun i => [h0, q1, q2].getD i 0) rfl
def oX1 (T : Nat → ClassId) (h0 : Nat) (qs : Nat → Nat) : va_W := [(h0, .inr (1, [.ref (qs 1), .ref (qs 2), .ref (qs 3), .ref (qs 4), .ref (qs 5), .ref (qs 6), .ref (qs 7), vI 0])), (qs 1, .inl (T 0, 80, .inl (AI z0))), (qs 2, .inl (T 0, 80, .inl (AI z0))), (qs 3, .inl (T 0, 80, .inl (AI z0))), (qs 4, .inl (T 0, 80, .inl (AI z0))), (qs 5, .inl (T 0, 80, .inl (AI z0))), (qs 6, .inl (T 0, 80, .inl (AI z0))), (qs 7, .inl (T 0, 80, .inl (AI z0)))]
set_option maxRecDepth 100000 in
set_option maxHeartbeats 4000000 in
theorem m_X1_init (D : va_G) (T : Nat → ClassId) : Mk yX1_init cX1_init 1 1 D T 7 560 (.inr (1, [.null, .null, .null, .null, .null, .null, .null, vI 0])) (oX1 T) := by
  refine mk_Mk (plainFor_of_name (by decide)) rfl (by decide) ?_
  intro F h0 A bb C hI hr X _
  refine k_aload_n C dX1_init_0 rfl ?_
  refine k_obj C q_55 (by decide) (by decide) dX1_init_1 ?_
  refine k_aload_n C dX1_init_4 rfl ?_
  refine k_bipush C dX1_init_5 (by decide) ?_
  refine k_newi (N := 80) C dX1_init_7 rfl (Nat.le_of_ble_eq_true rfl) (hr _ _ (Nat.le_of_ble_eq_true rfl) (Nat.le_of_ble_eq_true rfl)) fun q1 => ?_
  refine k_putF (q0 := 0) C hI rfl rfl i_X1 tyX1_ok nmX1 0 (by decide) q_56 rfl rfl rfl rfl (Nat.le_of_ble_eq_true rfl) rfl dX1_init_9 ?_
  refine k_aload_n C dX1_init_12 rfl ?_
  refine k_bipush C dX1_init_13 (by decide) ?_
  refine k_newi (N := 80) C dX1_init_15 rfl (Nat.le_of_ble_eq_true rfl) (hr _ _ (Nat.le_of_ble_eq_true rfl) (Nat.le_of_ble_eq_true rfl)) fun q2 => ?_
  refine k_putF (q0 := 0) C hI rfl rfl i_X1 tyX1_ok nmX1 1 (by decide) q_59 rfl rfl rfl rfl (Nat.le_of_ble_eq_true rfl) rfl dX1_init_17 ?_
  refine k_aload_n C dX1_init_20 rfl ?_
  refine k_bipush C dX1_init_21 (by decide) ?_
  refine k_newi (N := 80) C dX1_init_23 rfl (Nat.le_of_ble_eq_true rfl) (hr _ _ (Nat.le_of_ble_eq_true rfl) (Nat.le_of_ble_eq_true rfl)) fun q3 => ?_
  refine k_putF (q0 := 0) C hI rfl rfl i_X1 tyX1_ok nmX1 2 (by decide) q_62 rfl rfl rfl rfl (Nat.le_of_ble_eq_true rfl) rfl dX1_init_25 ?_
  refine k_aload_n C dX1_init_28 rfl ?_
  refine k_bipush C dX1_init_29 (by decide) ?_
  refine k_newi (N := 80) C dX1_init_31 rfl (Nat.le_of_ble_eq_true rfl) (hr _ _ (Nat.le_of_ble_eq_true rfl) (Nat.le_of_ble_eq_true rfl)) fun q4 => ?_
  refine k_putF (q0 := 0) C hI rfl rfl i_X1 tyX1_ok nmX1 3 (by decide) q_65 rfl rfl rfl rfl (Nat.le_of_ble_eq_true rfl) rfl dX1_init_33 ?_
  refine k_aload_n C dX1_init_36 rfl ?_
  refine k_bipush C dX1_init_37 (by decide) ?_
  refine k_newi (N := 80) C dX1_init_39 rfl (Nat.le_of_ble_eq_true rfl) (hr _ _ (Nat.le_of_ble_eq_true rfl) (Nat.le_of_ble_eq_true rfl)) fun q5 => ?_
  refine k_putF (q0 := 0) C hI rfl rfl i_X1 tyX1_ok nmX1 4 (by decide) q_68 rfl rfl rfl rfl (Nat.le_of_ble_eq_true rfl) rfl dX1_init_41 ?_
  refine k_aload_n C dX1_init_44 rfl ?_
  refine k_bipush C dX1_init_45 (by decide) ?_
  refine k_newi (N := 80) C dX1_init_47 rfl (Nat.le_of_ble_eq_true rfl) (hr _ _ (Nat.le_of_ble_eq_true rfl) (Nat.le_of_ble_eq_true rfl)) fun q6 => ?_
  refine k_putF (q0 := 0) C hI rfl rfl i_X1 tyX1_ok nmX1 5 (by decide) q_71 rfl rfl rfl rfl (Nat.le_of_ble_eq_true rfl) rfl dX1_init_49 ?_
  refine k_aload_n C dX1_init_52 rfl ?_
  refine k_bipush C dX1_init_53 (by decide) ?_
  refine k_newi (N := 80) C dX1_init_55 rfl (Nat.le_of_ble_eq_true rfl) (hr _ _ (Nat.le_of_ble_eq_true rfl) (Nat.le_of_ble_eq_true rfl)) fun q7 => ?_
  refine k_putF (q0 := 0) C hI rfl rfl i_X1 tyX1_ok nmX1 6 (by decide) q_74 rfl rfl rfl rfl (Nat.le_of_ble_eq_true rfl) rfl dX1_init_57 ?_
  exact k_ret C X dX1_init_60 (fun i => [h0, q1, q2, q3, q4, q5, q6, q7].getD i 0) rfl
def oX0 (T : Nat → ClassId) (h0 : Nat) (qs : Nat → Nat) : va_W := [(h0, .inr (0, [.ref (qs 1), vI 0, .ref (qs 2), .ref (qs 3), .ref (qs 4), vI 0, vI 0, vI 0, vI 0])), (qs 1, .inl (T 1, 60, .inl (AI z0))), (qs 2, .inl (T 0, 10, .inl (AI z0))), (qs 3, .inl (T 0, 10, .inl (AI z0))), (qs 4, .inl (T 0, 10, .inl (AI z0)))]
set_option maxRecDepth 100000 in
set_option maxHeartbeats 4000000 in
theorem m_X0_init (D : va_G) (T : Nat → ClassId) : Mk yX0_init cX0_init 1 1 D T 4 90 (.inr (0, [.null, vI 0, .null, .null, .null, vI 0, vI 0, vI 0, vI 0])) (oX0 T) := by
  refine mk_Mk (plainFor_of_name (by decide)) rfl (by decide) ?_
  intro F h0 A bb C hI hr X _
  refine k_aload_n C dX0_init_0 rfl ?_
  refine k_obj C q_197 (by decide) (by decide) dX0_init_1 ?_
  refine k_aload_n C dX0_init_4 rfl ?_
  refine k_bipush C dX0_init_5 (by decide) ?_
  refine k_newc (N := 60) C dX0_init_7 rfl (Nat.le_of_ble_eq_true rfl) (hr _ _ (Nat.le_of_ble_eq_true rfl) (Nat.le_of_ble_eq_true rfl)) fun q1 => ?_
  refine k_putF (q0 := 0) C hI rfl rfl i_X0 tyX0_ok nmX0 0 (by decide) q_198 rfl rfl rfl rfl (Nat.le_of_ble_eq_true rfl) rfl dX0_init_9 ?_
  refine k_aload_n C dX0_init_12 rfl ?_
  refine k_bipush C dX0_init_13 (by decide) ?_
  refine k_newi (N := 10) C dX0_init_15 rfl (Nat.le_of_ble_eq_true rfl) (hr _ _ (Nat.le_of_ble_eq_true rfl) (Nat.le_of_ble_eq_true rfl)) fun q2 => ?_
  refine k_putF (q0 := 0) C hI rfl rfl i_X0 tyX0_ok nmX0 2 (by decide) q_201 rfl rfl rfl rfl (Nat.le_of_ble_eq_true rfl) rfl dX0_init_17 ?_
  refine k_aload_n C dX0_init_20 rfl ?_
  refine k_bipush C dX0_init_21 (by decide) ?_
  refine k_newi (N := 10) C dX0_init_23 rfl (Nat.le_of_ble_eq_true rfl) (hr _ _ (Nat.le_of_ble_eq_true rfl) (Nat.le_of_ble_eq_true rfl)) fun q3 => ?_
  refine k_putF (q0 := 0) C hI rfl rfl i_X0 tyX0_ok nmX0 3 (by decide) q_203 rfl rfl rfl rfl (Nat.le_of_ble_eq_true rfl) rfl dX0_init_25 ?_
  refine k_aload_n C dX0_init_28 rfl ?_
  refine k_bipush C dX0_init_29 (by decide) ?_
  refine k_newi (N := 10) C dX0_init_31 rfl (Nat.le_of_ble_eq_true rfl) (hr _ _ (Nat.le_of_ble_eq_true rfl) (Nat.le_of_ble_eq_true rfl)) fun q4 => ?_
  refine k_putF (q0 := 0) C hI rfl rfl i_X0 tyX0_ok nmX0 4 (by decide) q_205 rfl rfl rfl rfl (Nat.le_of_ble_eq_true rfl) rfl dX0_init_33 ?_
  exact k_ret C X dX0_init_36 (fun i => [h0, q1, q2, q3, q4].getD i 0) rfl
def oX3 (T : Nat → ClassId) (h0 : Nat) (qs : Nat → Nat) : va_W := [(h0, .inr (3, [.ref (qs 1), .ref (qs 2), .ref (qs 3), .ref (qs 11), .ref (qs 13), .ref (qs 16), vI 0, vI 0, vI 0, vI 0, vI 0])), (qs 1, .inl (T 0, 10, .inl (AI sF))), (qs 2, .inl (T 0, 1000, .inl (AI z0))), (qs 3, .inr (1, [.ref (qs 4), .ref (qs 5), .ref (qs 6), .ref (qs 7), .ref (qs 8), .ref (qs 9), .ref (qs 10), vI 0])), (qs 4, .inl (T 0, 80, .inl (AI z0))), (qs 5, .inl (T 0, 80, .inl (AI z0))), (qs 6, .inl (T 0, 80, .inl (AI z0))), (qs 7, .inl (T 0, 80, .inl (AI z0))), (qs 8, .inl (T 0, 80, .inl (AI z0))), (qs 9, .inl (T 0, 80, .inl (AI z0))), (qs 10, .inl (T 0, 80, .inl (AI z0))), (qs 11, .inr (4, [.ref (qs 12), vI 0])), (qs 12, .inl (T 0, 30, .inl (AI z0))), (qs 13, .inr (5, [.ref (qs 14), .ref (qs 15), vI 0])), (qs 14, .inl (T 0, 12, .inl (AI z0))), (qs 15, .inl (T 0, 12, .inl (AI z0))), (qs 16, .inl (T 0, 9, .inl (AI z0)))]
set_option maxRecDepth 100000 in
set_option maxHeartbeats 4000000 in
theorem m_X3_init (D : va_G) (T : Nat → ClassId) : Mk yX3_init cX3_init 1 2 D T 16 1646 (.inr (3, [.null, .null, .null, .null, .null, .null, vI 0, vI 0, vI 0, vI 0, vI 0])) (oX3 T) := by
  refine mk_Mk (plainFor_of_name (by decide)) rfl (by decide) ?_
  intro F h0 A bb C hI hr X _
  refine k_aload_n C dX3_init_0 rfl ?_
  refine k_obj C q_44 (by decide) (by decide) dX3_init_1 ?_
  refine k_aload_n C dX3_init_4 rfl ?_
  refine k_bipush C dX3_init_5 (by decide) ?_
  refine k_newi (N := 10) C dX3_init_7 rfl (Nat.le_of_ble_eq_true rfl) (hr _ _ (Nat.le_of_ble_eq_true rfl) (Nat.le_of_ble_eq_true rfl)) fun q1 => ?_
  refine k_putF (q0 := 0) C hI rfl rfl i_X3 tyX3_ok nmX3 0 (by decide) q_131 rfl rfl rfl rfl (Nat.le_of_ble_eq_true rfl) rfl dX3_init_9 ?_
  refine k_gets C rfl dX3_init_12 ?_
  refine k_const C dX3_init_15 ?_
  refine k_aload_n C dX3_init_16 rfl ?_
  refine k_get (q0 := 0) C rfl rfl i_X3 0 (by decide) q_131 rfl dX3_init_17 ?_
  refine k_const C dX3_init_20 ?_
  refine k_bipush C dX3_init_21 (by decide) ?_
  refine k_copyx (q1 := 1) C q_47 rfl rfl (by decide) (Nat.le_of_ble_eq_true rfl) dX3_init_23 ?_
  refine k_aload_n C dX3_init_26 rfl ?_
  refine k_sipush C dX3_init_27 (by decide) ?_
  refine k_newi (N := 1000) C dX3_init_30 rfl (Nat.le_of_ble_eq_true rfl) (hr _ _ (Nat.le_of_ble_eq_true rfl) (Nat.le_of_ble_eq_true rfl)) fun q2 => ?_
  refine k_putF (q0 := 0) C hI rfl rfl i_X3 tyX3_ok nmX3 1 (by decide) q_133 rfl rfl rfl rfl (Nat.le_of_ble_eq_true rfl) rfl dX3_init_32 ?_
  refine k_aload_n C dX3_init_35 rfl ?_
  refine k_new (ci := 1) (fs := [.null, .null, .null, .null, .null, .null, .null, vI 0]) C q_50 q_51 q_24 i_X1 tyX1_ok rfl (fun j hj => by rcases (show j = 0 ∨ j = 1 ∨ j = 2 ∨ j = 3 ∨ j = 4 ∨ j = 5 ∨ j = 6 ∨ j = 7 by omega) with rfl | rfl | rfl | rfl | rfl | rfl | rfl | rfl <;> rfl) (hr _ _ (Nat.le_of_ble_eq_true rfl) (Nat.le_of_ble_eq_true rfl)) dX3_init_36 fun q3 => ?_
  refine k_dup C dX3_init_39 rfl ?_
  refine k_call C (m_X1_init D T) q_52 q_53 q_24 q_54 (by decide +kernel) rfl (by decide) (by decide) (Nat.le_of_ble_eq_true rfl) (hr _ _ (Nat.le_of_ble_eq_true rfl) (Nat.le_of_ble_eq_true rfl)) dX3_init_40 fun u4 => ?_
  refine k_putF (q0 := 0) C hI rfl rfl i_X3 tyX3_ok nmX3 2 (by decide) q_134 rfl rfl rfl rfl (Nat.le_of_ble_eq_true rfl) rfl dX3_init_43 ?_
  refine k_aload_n C dX3_init_46 rfl ?_
  refine k_new (ci := 4) (fs := [.null, vI 0]) C q_98 q_99 q_25 i_X4 tyX4_ok rfl (fun j hj => by rcases (show j = 0 ∨ j = 1 by omega) with rfl | rfl <;> rfl) (hr _ _ (Nat.le_of_ble_eq_true rfl) (Nat.le_of_ble_eq_true rfl)) dX3_init_47 fun q5 => ?_
  refine k_dup C dX3_init_50 rfl ?_
  refine k_call C (m_X4_init D T) q_100 q_101 q_25 q_102 (by decide +kernel) rfl (by decide) (by decide) (Nat.le_of_ble_eq_true rfl) (hr _ _ (Nat.le_of_ble_eq_true rfl) (Nat.le_of_ble_eq_true rfl)) dX3_init_51 fun u6 => ?_
  refine k_putF (q0 := 0) C hI rfl rfl i_X3 tyX3_ok nmX3 3 (by decide) q_136 rfl rfl rfl rfl (Nat.le_of_ble_eq_true rfl) rfl dX3_init_54 ?_
  refine k_aload_n C dX3_init_57 rfl ?_
  refine k_new (ci := 5) (fs := [.null, .null, vI 0]) C q_112 q_113 q_26 i_X5 tyX5_ok rfl (fun j hj => by rcases (show j = 0 ∨ j = 1 ∨ j = 2 by omega) with rfl | rfl | rfl <;> rfl) (hr _ _ (Nat.le_of_ble_eq_true rfl) (Nat.le_of_ble_eq_true rfl)) dX3_init_58 fun q7 => ?_
  refine k_dup C dX3_init_61 rfl ?_
  refine k_call C (m_X5_init D T) q_114 q_115 q_26 q_116 (by decide +kernel) rfl (by decide) (by decide) (Nat.le_of_ble_eq_true rfl) (hr _ _ (Nat.le_of_ble_eq_true rfl) (Nat.le_of_ble_eq_true rfl)) dX3_init_62 fun u8 => ?_
  refine k_putF (q0 := 0) C hI rfl rfl i_X3 tyX3_ok nmX3 4 (by decide) q_138 rfl rfl rfl rfl (Nat.le_of_ble_eq_true rfl) rfl dX3_init_65 ?_
  refine k_aload_n C dX3_init_68 rfl ?_
  refine k_bipush C dX3_init_69 (by decide) ?_
  refine k_newi (N := 9) C dX3_init_71 rfl (Nat.le_of_ble_eq_true rfl) (hr _ _ (Nat.le_of_ble_eq_true rfl) (Nat.le_of_ble_eq_true rfl)) fun q9 => ?_
  refine k_putF (q0 := 0) C hI rfl rfl i_X3 tyX3_ok nmX3 5 (by decide) q_140 rfl rfl rfl rfl (Nat.le_of_ble_eq_true rfl) rfl dX3_init_73 ?_
  exact k_ret C X dX3_init_76 (fun i => if i = 1 then q1 else if i = 2 then q2 else if i = 3 then q3 else if i < 11 then u4 (i - 3) else if i = 11 then q5 else if i = 12 then u6 1 else if i = 13 then q7 else if i < 16 then u8 (i - 13) else q9) rfl
