/-! THE CONSTRUCTOR of the reference (printed by ctor.py) -/
def m0 : Int → Int := up1 (up1 (up1 (up1 (up1 (up1 (up1 (up1 (up1 (up1 (z0) 17 10) 18 4) 19 20) 20 5) 21 3) 22 4) 23 12) 24 20) 25 3) 26 100
def oX7 (T : Nat → ClassId) (h0 : Nat) (qs : Nat → Nat) : va_W := [(h0, .inr (7, [.ref (qs 1), .ref (qs 2), .ref (qs 3), .ref (qs 4), .ref (qs 5), vI 0, vI 0, vI 0, vI 0])), (qs 1, .inl (T 0, 2739, .inl (AI m0))), (qs 2, .inl (T 0, 2739, .inl (AI z0))), (qs 3, .inl (T 0, 2739, .inl (AI z0))), (qs 4, .inl (T 0, 10956, .inl (AI z0))), (qs 5, .inl (T 0, 60, .inl (AI z0)))]
set_option maxRecDepth 100000 in
set_option maxHeartbeats 4000000 in
theorem m_X7_init (D : va_G) (T : Nat → ClassId) : Mk yX7_init cX7_init 1 1 D T 5 19233 (.inr (7, [.null, .null, .null, .null, .null, vI 0, vI 0, vI 0, vI 0])) (oX7 T) := by
  refine mk_Mk (plainFor_of_name (by decide)) rfl (by decide) ?_
  intro F h0 A bb C hI hr X _
  refine k_aload_n C dX7_init_0 rfl ?_
  refine k_obj C q_750 (by decide) (by decide) dX7_init_1 ?_
  refine k_aload_n C dX7_init_4 rfl ?_
  refine k_sipush C dX7_init_5 (by decide) ?_
  refine k_newi (N := 2739) C dX7_init_8 rfl (Nat.le_of_ble_eq_true rfl) (hr _ _ (Nat.le_of_ble_eq_true rfl) (Nat.le_of_ble_eq_true rfl)) fun q1 => ?_
  refine k_putF (q0 := 0) C hI rfl rfl i_X7 tyX7_ok nmX7 0 (by decide) q_751 rfl rfl rfl rfl (Nat.le_of_ble_eq_true rfl) rfl dX7_init_10 ?_
  refine k_aload_n C dX7_init_13 rfl ?_
  refine k_sipush C dX7_init_14 (by decide) ?_
  refine k_newi (N := 2739) C dX7_init_17 rfl (Nat.le_of_ble_eq_true rfl) (hr _ _ (Nat.le_of_ble_eq_true rfl) (Nat.le_of_ble_eq_true rfl)) fun q2 => ?_
  refine k_putF (q0 := 0) C hI rfl rfl i_X7 tyX7_ok nmX7 1 (by decide) q_752 rfl rfl rfl rfl (Nat.le_of_ble_eq_true rfl) rfl dX7_init_19 ?_
  refine k_aload_n C dX7_init_22 rfl ?_
  refine k_sipush C dX7_init_23 (by decide) ?_
  refine k_newi (N := 2739) C dX7_init_26 rfl (Nat.le_of_ble_eq_true rfl) (hr _ _ (Nat.le_of_ble_eq_true rfl) (Nat.le_of_ble_eq_true rfl)) fun q3 => ?_
  refine k_putF (q0 := 0) C hI rfl rfl i_X7 tyX7_ok nmX7 2 (by decide) q_753 rfl rfl rfl rfl (Nat.le_of_ble_eq_true rfl) rfl dX7_init_28 ?_
  refine k_aload_n C dX7_init_31 rfl ?_
  refine k_sipush C dX7_init_32 (by decide) ?_
  refine k_newi (N := 10956) C dX7_init_35 rfl (Nat.le_of_ble_eq_true rfl) (hr _ _ (Nat.le_of_ble_eq_true rfl) (Nat.le_of_ble_eq_true rfl)) fun q4 => ?_
  refine k_putF (q0 := 0) C hI rfl rfl i_X7 tyX7_ok nmX7 3 (by decide) q_754 rfl rfl rfl rfl (Nat.le_of_ble_eq_true rfl) rfl dX7_init_37 ?_
  refine k_aload_n C dX7_init_40 rfl ?_
  refine k_bipush C dX7_init_41 (by decide) ?_
  refine k_newi (N := 60) C dX7_init_43 rfl (Nat.le_of_ble_eq_true rfl) (hr _ _ (Nat.le_of_ble_eq_true rfl) (Nat.le_of_ble_eq_true rfl)) fun q5 => ?_
  refine k_putF (q0 := 0) C hI rfl rfl i_X7 tyX7_ok nmX7 4 (by decide) q_755 rfl rfl rfl rfl (Nat.le_of_ble_eq_true rfl) rfl dX7_init_45 ?_
  refine k_aload_n C dX7_init_48 rfl ?_
  refine k_get (q0 := 0) C rfl rfl i_X7 0 (by decide) q_751 rfl dX7_init_49 ?_
  refine k_bipush C dX7_init_52 (by decide) ?_
  refine k_bipush C dX7_init_54 (by decide) ?_
  refine k_iast (q0 := 1) (ws' := [(h0, .inr (7, [.ref q1, .ref q2, .ref q3, .ref q4, .ref q5, vI 0, vI 0, vI 0, vI 0])), (q1, .inl (T 0, 2739, .inl (AI (up1 (z0) 17 10)))), (q2, .inl (T 0, 2739, .inl (AI z0))), (q3, .inl (T 0, 2739, .inl (AI z0))), (q4, .inl (T 0, 10956, .inl (AI z0))), (q5, .inl (T 0, 60, .inl (AI z0)))]) C rfl (Nat.le_of_ble_eq_true rfl) (by decide) (by decide) rfl dX7_init_56 ?_
  refine k_aload_n C dX7_init_57 rfl ?_
  refine k_get (q0 := 0) C rfl rfl i_X7 0 (by decide) q_751 rfl dX7_init_58 ?_
  refine k_bipush C dX7_init_61 (by decide) ?_
  refine k_const C dX7_init_63 ?_
  refine k_iast (q0 := 1) (ws' := [(h0, .inr (7, [.ref q1, .ref q2, .ref q3, .ref q4, .ref q5, vI 0, vI 0, vI 0, vI 0])), (q1, .inl (T 0, 2739, .inl (AI (up1 (up1 (z0) 17 10) 18 4)))), (q2, .inl (T 0, 2739, .inl (AI z0))), (q3, .inl (T 0, 2739, .inl (AI z0))), (q4, .inl (T 0, 10956, .inl (AI z0))), (q5, .inl (T 0, 60, .inl (AI z0)))]) C rfl (Nat.le_of_ble_eq_true rfl) (by decide) (by decide) rfl dX7_init_64 ?_
  refine k_aload_n C dX7_init_65 rfl ?_
  refine k_get (q0 := 0) C rfl rfl i_X7 0 (by decide) q_751 rfl dX7_init_66 ?_
  refine k_bipush C dX7_init_69 (by decide) ?_
  refine k_bipush C dX7_init_71 (by decide) ?_
  refine k_iast (q0 := 1) (ws' := [(h0, .inr (7, [.ref q1, .ref q2, .ref q3, .ref q4, .ref q5, vI 0, vI 0, vI 0, vI 0])), (q1, .inl (T 0, 2739, .inl (AI (up1 (up1 (up1 (z0) 17 10) 18 4) 19 20)))), (q2, .inl (T 0, 2739, .inl (AI z0))), (q3, .inl (T 0, 2739, .inl (AI z0))), (q4, .inl (T 0, 10956, .inl (AI z0))), (q5, .inl (T 0, 60, .inl (AI z0)))]) C rfl (Nat.le_of_ble_eq_true rfl) (by decide) (by decide) rfl dX7_init_73 ?_
  refine k_aload_n C dX7_init_74 rfl ?_
  refine k_get (q0 := 0) C rfl rfl i_X7 0 (by decide) q_751 rfl dX7_init_75 ?_
  refine k_bipush C dX7_init_78 (by decide) ?_
  refine k_const C dX7_init_80 ?_
  refine k_iast (q0 := 1) (ws' := [(h0, .inr (7, [.ref q1, .ref q2, .ref q3, .ref q4, .ref q5, vI 0, vI 0, vI 0, vI 0])), (q1, .inl (T 0, 2739, .inl (AI (up1 (up1 (up1 (up1 (z0) 17 10) 18 4) 19 20) 20 5)))), (q2, .inl (T 0, 2739, .inl (AI z0))), (q3, .inl (T 0, 2739, .inl (AI z0))), (q4, .inl (T 0, 10956, .inl (AI z0))), (q5, .inl (T 0, 60, .inl (AI z0)))]) C rfl (Nat.le_of_ble_eq_true rfl) (by decide) (by decide) rfl dX7_init_81 ?_
  refine k_aload_n C dX7_init_82 rfl ?_
  refine k_get (q0 := 0) C rfl rfl i_X7 0 (by decide) q_751 rfl dX7_init_83 ?_
  refine k_bipush C dX7_init_86 (by decide) ?_
  refine k_const C dX7_init_88 ?_
  refine k_iast (q0 := 1) (ws' := [(h0, .inr (7, [.ref q1, .ref q2, .ref q3, .ref q4, .ref q5, vI 0, vI 0, vI 0, vI 0])), (q1, .inl (T 0, 2739, .inl (AI (up1 (up1 (up1 (up1 (up1 (z0) 17 10) 18 4) 19 20) 20 5) 21 3)))), (q2, .inl (T 0, 2739, .inl (AI z0))), (q3, .inl (T 0, 2739, .inl (AI z0))), (q4, .inl (T 0, 10956, .inl (AI z0))), (q5, .inl (T 0, 60, .inl (AI z0)))]) C rfl (Nat.le_of_ble_eq_true rfl) (by decide) (by decide) rfl dX7_init_89 ?_
  refine k_aload_n C dX7_init_90 rfl ?_
  refine k_get (q0 := 0) C rfl rfl i_X7 0 (by decide) q_751 rfl dX7_init_91 ?_
  refine k_bipush C dX7_init_94 (by decide) ?_
  refine k_const C dX7_init_96 ?_
  refine k_iast (q0 := 1) (ws' := [(h0, .inr (7, [.ref q1, .ref q2, .ref q3, .ref q4, .ref q5, vI 0, vI 0, vI 0, vI 0])), (q1, .inl (T 0, 2739, .inl (AI (up1 (up1 (up1 (up1 (up1 (up1 (z0) 17 10) 18 4) 19 20) 20 5) 21 3) 22 4)))), (q2, .inl (T 0, 2739, .inl (AI z0))), (q3, .inl (T 0, 2739, .inl (AI z0))), (q4, .inl (T 0, 10956, .inl (AI z0))), (q5, .inl (T 0, 60, .inl (AI z0)))]) C rfl (Nat.le_of_ble_eq_true rfl) (by decide) (by decide) rfl dX7_init_97 ?_
  refine k_aload_n C dX7_init_98 rfl ?_
  refine k_get (q0 := 0) C rfl rfl i_X7 0 (by decide) q_751 rfl dX7_init_99 ?_
  refine k_bipush C dX7_init_102 (by decide) ?_
  refine k_bipush C dX7_init_104 (by decide) ?_
  refine k_iast (q0 := 1) (ws' := [(h0, .inr (7, [.ref q1, .ref q2, .ref q3, .ref q4, .ref q5, vI 0, vI 0, vI 0, vI 0])), (q1, .inl (T 0, 2739, .inl (AI (up1 (up1 (up1 (up1 (up1 (up1 (up1 (z0) 17 10) 18 4) 19 20) 20 5) 21 3) 22 4) 23 12)))), (q2, .inl (T 0, 2739, .inl (AI z0))), (q3, .inl (T 0, 2739, .inl (AI z0))), (q4, .inl (T 0, 10956, .inl (AI z0))), (q5, .inl (T 0, 60, .inl (AI z0)))]) C rfl (Nat.le_of_ble_eq_true rfl) (by decide) (by decide) rfl dX7_init_106 ?_
  refine k_aload_n C dX7_init_107 rfl ?_
  refine k_get (q0 := 0) C rfl rfl i_X7 0 (by decide) q_751 rfl dX7_init_108 ?_
  refine k_bipush C dX7_init_111 (by decide) ?_
  refine k_bipush C dX7_init_113 (by decide) ?_
  refine k_iast (q0 := 1) (ws' := [(h0, .inr (7, [.ref q1, .ref q2, .ref q3, .ref q4, .ref q5, vI 0, vI 0, vI 0, vI 0])), (q1, .inl (T 0, 2739, .inl (AI (up1 (up1 (up1 (up1 (up1 (up1 (up1 (up1 (z0) 17 10) 18 4) 19 20) 20 5) 21 3) 22 4) 23 12) 24 20)))), (q2, .inl (T 0, 2739, .inl (AI z0))), (q3, .inl (T 0, 2739, .inl (AI z0))), (q4, .inl (T 0, 10956, .inl (AI z0))), (q5, .inl (T 0, 60, .inl (AI z0)))]) C rfl (Nat.le_of_ble_eq_true rfl) (by decide) (by decide) rfl dX7_init_115 ?_
  refine k_aload_n C dX7_init_116 rfl ?_
  refine k_get (q0 := 0) C rfl rfl i_X7 0 (by decide) q_751 rfl dX7_init_117 ?_
  refine k_bipush C dX7_init_120 (by decide) ?_
  refine k_const C dX7_init_122 ?_
  refine k_iast (q0 := 1) (ws' := [(h0, .inr (7, [.ref q1, .ref q2, .ref q3, .ref q4, .ref q5, vI 0, vI 0, vI 0, vI 0])), (q1, .inl (T 0, 2739, .inl (AI (up1 (up1 (up1 (up1 (up1 (up1 (up1 (up1 (up1 (z0) 17 10) 18 4) 19 20) 20 5) 21 3) 22 4) 23 12) 24 20) 25 3)))), (q2, .inl (T 0, 2739, .inl (AI z0))), (q3, .inl (T 0, 2739, .inl (AI z0))), (q4, .inl (T 0, 10956, .inl (AI z0))), (q5, .inl (T 0, 60, .inl (AI z0)))]) C rfl (Nat.le_of_ble_eq_true rfl) (by decide) (by decide) rfl dX7_init_123 ?_
  refine k_aload_n C dX7_init_124 rfl ?_
  refine k_get (q0 := 0) C rfl rfl i_X7 0 (by decide) q_751 rfl dX7_init_125 ?_
  refine k_bipush C dX7_init_128 (by decide) ?_
  refine k_bipush C dX7_init_130 (by decide) ?_
  refine k_iast (q0 := 1) (ws' := [(h0, .inr (7, [.ref q1, .ref q2, .ref q3, .ref q4, .ref q5, vI 0, vI 0, vI 0, vI 0])), (q1, .inl (T 0, 2739, .inl (AI (up1 (up1 (up1 (up1 (up1 (up1 (up1 (up1 (up1 (up1 (z0) 17 10) 18 4) 19 20) 20 5) 21 3) 22 4) 23 12) 24 20) 25 3) 26 100)))), (q2, .inl (T 0, 2739, .inl (AI z0))), (q3, .inl (T 0, 2739, .inl (AI z0))), (q4, .inl (T 0, 10956, .inl (AI z0))), (q5, .inl (T 0, 60, .inl (AI z0)))]) C rfl (Nat.le_of_ble_eq_true rfl) (by decide) (by decide) rfl dX7_init_132 ?_
  exact k_ret C X dX7_init_133 (fun i => [h0, q1, q2, q3, q4, q5].getD i 0) rfl
