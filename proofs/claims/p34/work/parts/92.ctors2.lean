/-! THE CONSTRUCTORS of the history and of the object (printed by ctor.py) -/
def oX2 (T : Nat → ClassId) (h0 : Nat) (qs : Nat → Nat) : va_W := [(h0, .inr (2, [.ref (qs 0), vI 0])), (qs 0, .inl (T 2, 4, .inr (.inr (.inr (.inr (fun i => some (if i = 0 then qs 1 else if i = 1 then qs 18 else if i = 2 then qs 35 else qs 52)))))))] ++ oX3 T (qs 1) (fun i => qs (1 + i)) ++ oX3 T (qs 18) (fun i => qs (18 + i)) ++ oX3 T (qs 35) (fun i => qs (35 + i)) ++ oX3 T (qs 52) (fun i => qs (52 + i))
set_option maxRecDepth 100000 in
set_option maxHeartbeats 4000000 in
theorem m_X2_init (D : va_G) (T : Nat → ClassId) : Mk yX2_init cX2_init 2 3 D T 69 6632 (.inr (2, [.null, vI 0])) (oX2 T) := by
  refine mk_Mk (plainFor_of_name (by decide)) rfl (by decide) ?_
  intro F h0 A bb C hI hr X _
  refine k_aload_n C dX2_init_0 rfl ?_
  refine k_obj C q_180 (by decide) (by decide) dX2_init_1 ?_
  refine k_aload_n C dX2_init_4 rfl ?_
  refine k_const C dX2_init_5 ?_
  refine k_newq (N := 4) C q_181 dX2_init_6 rfl (Nat.le_of_ble_eq_true rfl) (hr _ _ (Nat.le_of_ble_eq_true rfl) (Nat.le_of_ble_eq_true rfl)) fun q1 => ?_
  refine k_putF (q0 := 0) C hI rfl rfl i_X2 tyX2_ok nmX2 0 (by decide) q_184 rfl rfl rfl rfl (Nat.le_of_ble_eq_true rfl) rfl dX2_init_9 ?_
  refine k_const C dX2_init_12 ?_
  refine k_istore_n C dX2_init_13 (by decide) (rfl : _ = [_, _]) ?_
  refine k_iload_n C dX2_init_14 rfl ?_
  refine k_const C dX2_init_15 ?_
  refine k_icmp_ge 38 C dX2_init_16 (by decide) ⟨by decide, by decide⟩ ⟨by decide, by decide⟩ (fun z => absurd z (by decide)) (fun _ => ?_)
  refine k_aload_n C dX2_init_19 rfl ?_
  refine k_get (q0 := 0) C rfl rfl i_X2 0 (by decide) q_184 rfl dX2_init_20 ?_
  refine k_iload_n C dX2_init_23 rfl ?_
  refine k_new (ci := 3) (fs := [.null, .null, .null, .null, .null, .null, vI 0, vI 0, vI 0, vI 0, vI 0]) C q_181 q_40 q_22 i_X3 tyX3_ok rfl (fun j hj => by rcases (show j = 0 ∨ j = 1 ∨ j = 2 ∨ j = 3 ∨ j = 4 ∨ j = 5 ∨ j = 6 ∨ j = 7 ∨ j = 8 ∨ j = 9 ∨ j = 10 by omega) with rfl | rfl | rfl | rfl | rfl | rfl | rfl | rfl | rfl | rfl | rfl <;> rfl) (hr _ _ (Nat.le_of_ble_eq_true rfl) (Nat.le_of_ble_eq_true rfl)) dX2_init_24 fun q2 => ?_
  refine k_dup C dX2_init_27 rfl ?_
  refine k_call C (m_X3_init D T) q_183 q_42 q_22 q_43 (by decide +kernel) rfl (by decide) (by decide) (Nat.le_of_ble_eq_true rfl) (hr _ _ (Nat.le_of_ble_eq_true rfl) (Nat.le_of_ble_eq_true rfl)) dX2_init_28 fun u3 => ?_
  refine k_aast (q0 := 1) (qk := 2) C rfl rfl (by decide) (by decide) (by decide) rfl dX2_init_31 ?_
  refine k_iinc C dX2_init_32 rfl (by decide) (rfl : _ = [_, _]) ?_
  refine k_goto 14 C dX2_init_35 (by decide) ?_
  refine k_iload_n C dX2_init_14 rfl ?_
  refine k_const C dX2_init_15 ?_
  refine k_icmp_ge 38 C dX2_init_16 (by decide) ⟨by decide, by decide⟩ ⟨by decide, by decide⟩ (fun z => absurd z (by decide)) (fun _ => ?_)
  refine k_aload_n C dX2_init_19 rfl ?_
  refine k_get (q0 := 0) C rfl rfl i_X2 0 (by decide) q_184 rfl dX2_init_20 ?_
  refine k_iload_n C dX2_init_23 rfl ?_
  refine k_new (ci := 3) (fs := [.null, .null, .null, .null, .null, .null, vI 0, vI 0, vI 0, vI 0, vI 0]) C q_181 q_40 q_22 i_X3 tyX3_ok rfl (fun j hj => by rcases (show j = 0 ∨ j = 1 ∨ j = 2 ∨ j = 3 ∨ j = 4 ∨ j = 5 ∨ j = 6 ∨ j = 7 ∨ j = 8 ∨ j = 9 ∨ j = 10 by omega) with rfl | rfl | rfl | rfl | rfl | rfl | rfl | rfl | rfl | rfl | rfl <;> rfl) (hr _ _ (Nat.le_of_ble_eq_true rfl) (Nat.le_of_ble_eq_true rfl)) dX2_init_24 fun q4 => ?_
  refine k_dup C dX2_init_27 rfl ?_
  refine k_call C (m_X3_init D T) q_183 q_42 q_22 q_43 (by decide +kernel) rfl (by decide) (by decide) (Nat.le_of_ble_eq_true rfl) (hr _ _ (Nat.le_of_ble_eq_true rfl) (Nat.le_of_ble_eq_true rfl)) dX2_init_28 fun u5 => ?_
  refine k_aast (q0 := 1) (qk := 19) C rfl rfl (by decide) (by decide) (by decide) rfl dX2_init_31 ?_
  refine k_iinc C dX2_init_32 rfl (by decide) (rfl : _ = [_, _]) ?_
  refine k_goto 14 C dX2_init_35 (by decide) ?_
  refine k_iload_n C dX2_init_14 rfl ?_
  refine k_const C dX2_init_15 ?_
  refine k_icmp_ge 38 C dX2_init_16 (by decide) ⟨by decide, by decide⟩ ⟨by decide, by decide⟩ (fun z => absurd z (by decide)) (fun _ => ?_)
  refine k_aload_n C dX2_init_19 rfl ?_
  refine k_get (q0 := 0) C rfl rfl i_X2 0 (by decide) q_184 rfl dX2_init_20 ?_
  refine k_iload_n C dX2_init_23 rfl ?_
  refine k_new (ci := 3) (fs := [.null, .null, .null, .null, .null, .null, vI 0, vI 0, vI 0, vI 0, vI 0]) C q_181 q_40 q_22 i_X3 tyX3_ok rfl (fun j hj => by rcases (show j = 0 ∨ j = 1 ∨ j = 2 ∨ j = 3 ∨ j = 4 ∨ j = 5 ∨ j = 6 ∨ j = 7 ∨ j = 8 ∨ j = 9 ∨ j = 10 by omega) with rfl | rfl | rfl | rfl | rfl | rfl | rfl | rfl | rfl | rfl | rfl <;> rfl) (hr _ _ (Nat.le_of_ble_eq_true rfl) (Nat.le_of_ble_eq_true rfl)) dX2_init_24 fun q6 => ?_
  refine k_dup C dX2_init_27 rfl ?_
  refine k_call C (m_X3_init D T) q_183 q_42 q_22 q_43 (by decide +kernel) rfl (by decide) (by decide) (Nat.le_of_ble_eq_true rfl) (hr _ _ (Nat.le_of_ble_eq_true rfl) (Nat.le_of_ble_eq_true rfl)) dX2_init_28 fun u7 => ?_
  refine k_aast (q0 := 1) (qk := 36) C rfl rfl (by decide) (by decide) (by decide) rfl dX2_init_31 ?_
  refine k_iinc C dX2_init_32 rfl (by decide) (rfl : _ = [_, _]) ?_
  refine k_goto 14 C dX2_init_35 (by decide) ?_
  refine k_iload_n C dX2_init_14 rfl ?_
  refine k_const C dX2_init_15 ?_
  refine k_icmp_ge 38 C dX2_init_16 (by decide) ⟨by decide, by decide⟩ ⟨by decide, by decide⟩ (fun z => absurd z (by decide)) (fun _ => ?_)
  refine k_aload_n C dX2_init_19 rfl ?_
  refine k_get (q0 := 0) C rfl rfl i_X2 0 (by decide) q_184 rfl dX2_init_20 ?_
  refine k_iload_n C dX2_init_23 rfl ?_
  refine k_new (ci := 3) (fs := [.null, .null, .null, .null, .null, .null, vI 0, vI 0, vI 0, vI 0, vI 0]) C q_181 q_40 q_22 i_X3 tyX3_ok rfl (fun j hj => by rcases (show j = 0 ∨ j = 1 ∨ j = 2 ∨ j = 3 ∨ j = 4 ∨ j = 5 ∨ j = 6 ∨ j = 7 ∨ j = 8 ∨ j = 9 ∨ j = 10 by omega) with rfl | rfl | rfl | rfl | rfl | rfl | rfl | rfl | rfl | rfl | rfl <;> rfl) (hr _ _ (Nat.le_of_ble_eq_true rfl) (Nat.le_of_ble_eq_true rfl)) dX2_init_24 fun q8 => ?_
  refine k_dup C dX2_init_27 rfl ?_
  refine k_call C (m_X3_init D T) q_183 q_42 q_22 q_43 (by decide +kernel) rfl (by decide) (by decide) (Nat.le_of_ble_eq_true rfl) (hr _ _ (Nat.le_of_ble_eq_true rfl) (Nat.le_of_ble_eq_true rfl)) dX2_init_28 fun u9 => ?_
  refine k_aast (q0 := 1) (qk := 53) C rfl rfl (by decide) (by decide) (by decide) rfl dX2_init_31 ?_
  refine k_iinc C dX2_init_32 rfl (by decide) (rfl : _ = [_, _]) ?_
  refine k_goto 14 C dX2_init_35 (by decide) ?_
  refine k_iload_n C dX2_init_14 rfl ?_
  refine k_const C dX2_init_15 ?_
  refine k_icmp_ge 38 C dX2_init_16 (by decide) ⟨by decide, by decide⟩ ⟨by decide, by decide⟩ (fun _ => ?_) (fun z => absurd z (by decide))
  refine k_eqc (q0 := 1) (g := fun i => some (if i = 0 then q2 else if i = 1 then q4 else if i = 2 then q6 else q8)) rfl (fun j hj => by rcases (show j = 0 ∨ j = 1 ∨ j = 2 ∨ j = 3 by omega) with rfl | rfl | rfl | rfl <;> rfl) rfl ?_
  exact k_ret C X dX2_init_38 (fun i => if i = 0 then q1 else if i < 18 then (if i = 1 then q2 else u3 (i - 1)) else if i < 35 then (if i = 18 then q4 else u5 (i - 18)) else if i < 52 then (if i = 35 then q6 else u7 (i - 35)) else if i < 69 then (if i = 52 then q8 else u9 (i - 52)) else 0) rfl
def oX6 (T : Nat → ClassId) (h0 : Nat) (qs : Nat → Nat) : va_W := [(h0, .inr (6, [.ref (qs 1), .ref (qs 18), .ref (qs 35), vI 0, .ref (qs 52), .ref (qs 122), .ref (qs 127)]))] ++ oX3 T (qs 1) (fun i => qs (1 + i)) ++ oX3 T (qs 18) (fun i => qs (18 + i)) ++ oX3 T (qs 35) (fun i => qs (35 + i)) ++ oX2 T (qs 52) (fun i => qs (53 + i)) ++ oX0 T (qs 122) (fun i => qs (122 + i)) ++ [(qs 127, .inl (T 0, 1000, .inl (AI z0)))]
set_option maxRecDepth 100000 in
set_option maxHeartbeats 4000000 in
theorem m_X6_init (D : va_G) (T : Nat → ClassId) : Mk yX6_init cX6_init 1 4 D T 127 12704 (.inr (6, [.null, .null, .null, vI 0, .null, .null, .null])) (oX6 T) := by
  refine mk_Mk (plainFor_of_name (by decide)) rfl (by decide) ?_
  intro F h0 A bb C hI hr X _
  refine k_aload_n C dX6_init_0 rfl ?_
  refine k_obj C q_36 (by decide) (by decide) dX6_init_1 ?_
  refine k_aload_n C dX6_init_4 rfl ?_
  refine k_new (ci := 3) (fs := [.null, .null, .null, .null, .null, .null, vI 0, vI 0, vI 0, vI 0, vI 0]) C q_39 q_40 q_22 i_X3 tyX3_ok rfl (fun j hj => by rcases (show j = 0 ∨ j = 1 ∨ j = 2 ∨ j = 3 ∨ j = 4 ∨ j = 5 ∨ j = 6 ∨ j = 7 ∨ j = 8 ∨ j = 9 ∨ j = 10 by omega) with rfl | rfl | rfl | rfl | rfl | rfl | rfl | rfl | rfl | rfl | rfl <;> rfl) (hr _ _ (Nat.le_of_ble_eq_true rfl) (Nat.le_of_ble_eq_true rfl)) dX6_init_5 fun q1 => ?_
  refine k_dup C dX6_init_8 rfl ?_
  refine k_call C (m_X3_init D T) q_41 q_42 q_22 q_43 (by decide +kernel) rfl (by decide) (by decide) (Nat.le_of_ble_eq_true rfl) (hr _ _ (Nat.le_of_ble_eq_true rfl) (Nat.le_of_ble_eq_true rfl)) dX6_init_9 fun u2 => ?_
  refine k_putF (q0 := 0) C hI rfl rfl i_X6 tyX6_ok nmX6 0 (by decide) q_232 rfl rfl rfl rfl (Nat.le_of_ble_eq_true rfl) rfl dX6_init_12 ?_
  refine k_aload_n C dX6_init_15 rfl ?_
  refine k_new (ci := 3) (fs := [.null, .null, .null, .null, .null, .null, vI 0, vI 0, vI 0, vI 0, vI 0]) C q_39 q_40 q_22 i_X3 tyX3_ok rfl (fun j hj => by rcases (show j = 0 ∨ j = 1 ∨ j = 2 ∨ j = 3 ∨ j = 4 ∨ j = 5 ∨ j = 6 ∨ j = 7 ∨ j = 8 ∨ j = 9 ∨ j = 10 by omega) with rfl | rfl | rfl | rfl | rfl | rfl | rfl | rfl | rfl | rfl | rfl <;> rfl) (hr _ _ (Nat.le_of_ble_eq_true rfl) (Nat.le_of_ble_eq_true rfl)) dX6_init_16 fun q3 => ?_
  refine k_dup C dX6_init_19 rfl ?_
  refine k_call C (m_X3_init D T) q_41 q_42 q_22 q_43 (by decide +kernel) rfl (by decide) (by decide) (Nat.le_of_ble_eq_true rfl) (hr _ _ (Nat.le_of_ble_eq_true rfl) (Nat.le_of_ble_eq_true rfl)) dX6_init_20 fun u4 => ?_
  refine k_putF (q0 := 0) C hI rfl rfl i_X6 tyX6_ok nmX6 1 (by decide) q_233 rfl rfl rfl rfl (Nat.le_of_ble_eq_true rfl) rfl dX6_init_23 ?_
  refine k_aload_n C dX6_init_26 rfl ?_
  refine k_new (ci := 3) (fs := [.null, .null, .null, .null, .null, .null, vI 0, vI 0, vI 0, vI 0, vI 0]) C q_39 q_40 q_22 i_X3 tyX3_ok rfl (fun j hj => by rcases (show j = 0 ∨ j = 1 ∨ j = 2 ∨ j = 3 ∨ j = 4 ∨ j = 5 ∨ j = 6 ∨ j = 7 ∨ j = 8 ∨ j = 9 ∨ j = 10 by omega) with rfl | rfl | rfl | rfl | rfl | rfl | rfl | rfl | rfl | rfl | rfl <;> rfl) (hr _ _ (Nat.le_of_ble_eq_true rfl) (Nat.le_of_ble_eq_true rfl)) dX6_init_27 fun q5 => ?_
  refine k_dup C dX6_init_30 rfl ?_
  refine k_call C (m_X3_init D T) q_41 q_42 q_22 q_43 (by decide +kernel) rfl (by decide) (by decide) (Nat.le_of_ble_eq_true rfl) (hr _ _ (Nat.le_of_ble_eq_true rfl) (Nat.le_of_ble_eq_true rfl)) dX6_init_31 fun u6 => ?_
  refine k_putF (q0 := 0) C hI rfl rfl i_X6 tyX6_ok nmX6 2 (by decide) q_234 rfl rfl rfl rfl (Nat.le_of_ble_eq_true rfl) rfl dX6_init_34 ?_
  refine k_aload_n C dX6_init_37 rfl ?_
  refine k_const C dX6_init_38 ?_
  refine k_put (q0 := 0) C rfl rfl i_X6 tyX6_ok nmX6 3 (by decide) q_235 rfl rfl rfl (Nat.le_of_ble_eq_true rfl) rfl dX6_init_39 ?_
  refine k_aload_n C dX6_init_42 rfl ?_
  refine k_new (ci := 2) (fs := [.null, vI 0]) C q_175 q_176 q_27 i_X2 tyX2_ok rfl (fun j hj => by rcases (show j = 0 ∨ j = 1 by omega) with rfl | rfl <;> rfl) (hr _ _ (Nat.le_of_ble_eq_true rfl) (Nat.le_of_ble_eq_true rfl)) dX6_init_43 fun q7 => ?_
  refine k_dup C dX6_init_46 rfl ?_
  refine k_call C (m_X2_init D T) q_177 q_178 q_27 q_179 (by decide +kernel) rfl (by decide) (by decide) (Nat.le_of_ble_eq_true rfl) (hr _ _ (Nat.le_of_ble_eq_true rfl) (Nat.le_of_ble_eq_true rfl)) dX6_init_47 fun u8 => ?_
  refine k_putF (q0 := 0) C hI rfl rfl i_X6 tyX6_ok nmX6 4 (by decide) q_236 rfl rfl rfl rfl (Nat.le_of_ble_eq_true rfl) rfl dX6_init_50 ?_
  refine k_aload_n C dX6_init_53 rfl ?_
  refine k_new (ci := 0) (fs := [.null, vI 0, .null, .null, .null, vI 0, vI 0, vI 0, vI 0]) C q_192 q_193 q_28 i_X0 tyX0_ok rfl (fun j hj => by rcases (show j = 0 ∨ j = 1 ∨ j = 2 ∨ j = 3 ∨ j = 4 ∨ j = 5 ∨ j = 6 ∨ j = 7 ∨ j = 8 by omega) with rfl | rfl | rfl | rfl | rfl | rfl | rfl | rfl | rfl <;> rfl) (hr _ _ (Nat.le_of_ble_eq_true rfl) (Nat.le_of_ble_eq_true rfl)) dX6_init_54 fun q9 => ?_
  refine k_dup C dX6_init_57 rfl ?_
  refine k_call C (m_X0_init D T) q_194 q_195 q_28 q_196 (by decide +kernel) rfl (by decide) (by decide) (Nat.le_of_ble_eq_true rfl) (hr _ _ (Nat.le_of_ble_eq_true rfl) (Nat.le_of_ble_eq_true rfl)) dX6_init_58 fun u10 => ?_
  refine k_putF (q0 := 0) C hI rfl rfl i_X6 tyX6_ok nmX6 5 (by decide) q_237 rfl rfl rfl rfl (Nat.le_of_ble_eq_true rfl) rfl dX6_init_61 ?_
  refine k_aload_n C dX6_init_64 rfl ?_
  refine k_sipush C dX6_init_65 (by decide) ?_
  refine k_newi (N := 1000) C dX6_init_68 rfl (Nat.le_of_ble_eq_true rfl) (hr _ _ (Nat.le_of_ble_eq_true rfl) (Nat.le_of_ble_eq_true rfl)) fun q11 => ?_
  refine k_putF (q0 := 0) C hI rfl rfl i_X6 tyX6_ok nmX6 6 (by decide) q_238 rfl rfl rfl rfl (Nat.le_of_ble_eq_true rfl) rfl dX6_init_70 ?_
  exact k_ret C X dX6_init_73 (fun i => if i < 18 then (if i = 1 then q1 else u2 (i - 1)) else if i < 35 then (if i = 18 then q3 else u4 (i - 18)) else if i < 52 then (if i = 35 then q5 else u6 (i - 35)) else if i = 52 then q7 else if i < 122 then u8 (i - 53) else if i = 122 then q9 else if i < 127 then u10 (i - 122) else q11) rfl
