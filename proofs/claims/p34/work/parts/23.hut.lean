/-! copies -/
abbrev gCp (h g : HV) : HV := upr (upr (upr (upr (upr (upr (upr (upr h 3 (up1 (h 3) 7 (g 3 7))) 4 (cpI (g 4) (h 4) (g 3 7))) 5 (cpI (g 5) (h 5) (g 3 7))) 6 (cpI (g 6) (h 6) (g 3 7))) 7 (cpI (g 7) (h 7) (g 3 7))) 8 (cpI (g 8) (h 8) (g 3 7))) 9 (cpI (g 9) (h 9) (g 3 7))) 10 (cpI (g 10) (h 10) (g 3 7))
abbrev lCp (h g : HV) : HV := upr (upr h 12 (cpI (g 12) (h 12) 30)) 11 (up1 (h 11) 1 (g 11 1))
abbrev oCp (h g : HV) : HV := upr (upr (upr h 13 (up1 (h 13) 2 (g 13 2))) 14 (cpI (g 14) (h 14) (g 13 2))) 15 (cpI (g 15) (h 15) (g 13 2))
abbrev hCp1 (h g : HV) : HV := oCp (lCp (gCp (upr (upr h 1 (cpI (g 1) (h 1) 10)) 2 (cpI (g 2) (h 2) 1000)) g) g) g
def hCp (h g : HV) : HV := upr (upr (hCp1 h g) 16 (cpI (g 16) (hCp1 h g 16) 9)) 0 (up1 (up1 (up1 (up1 (up1 (hCp1 h g 0) 6 (g 0 6)) 7 (g 0 7)) 8 (g 0 8)) 9 (g 0 9)) 10 (g 0 10))
set_option maxRecDepth 100000 in
set_option maxHeartbeats 4000000 in
theorem m_X1_add {hs : Nat → HV} {tp md : HV} {E : HE} {j : Nat} {h : HV} (hE : HI E) (hj : j < 7) (hh : hs j = h) (m0 : 0 ≤ h 3 7) (m1 : h 3 7 < 80) {a n p d : Int} {hs9 : Nat → HV} (he : putH hs j (gAdd h a n p d) = hs9) : Mt yX1_add cX1_add 5 (some .int) 1 E [.ref (hA E j 3), vI a, vI n, vI p, vI d] hs tp md (some (vI (h 3 7))) hs9 tp md := by
  subst he
  refine mk_Mt hE (plainFor_of_name (by decide)) (Nat.le_of_ble_eq_true rfl) (by intro w0 hw0; simp only [List.mem_cons, List.not_mem_nil, or_false] at hw0; rcases hw0 with rfl | rfl | rfl | rfl | rfl <;> rfl) (rfl : _ = [_, _, _, _, _]) ?_
  intro F C D
  refine x_aload_n C dX1_add_0 rfl ?_
  refine gh_3_7 C hj hh q_77 dX1_add_1 rfl ?_
  refine x_bipush C dX1_add_4 (by decide) ?_
  refine x_icmp_lt 12 C dX1_add_6 (by decide) ⟨by omega, by omega⟩ ⟨by omega, by omega⟩ (fun c_1 => ?_) (fun c_1 => ?_)
  · refine x_aload_n C dX1_add_12 rfl ?_
    refine gh_3_0 C hj hh q_56 dX1_add_13 ?_
    refine x_aload_n C dX1_add_16 rfl ?_
    refine gh_3_7 C hj hh q_77 dX1_add_17 rfl ?_
    refine x_const C dX1_add_20 ?_
    refine sh_4 C hj hh (by omega) (by omega) dX1_add_21 rfl ?_
    refine x_aload_n C dX1_add_22 rfl ?_
    refine gh_3_1 C hj putH_same q_59 dX1_add_23 ?_
    refine x_aload_n C dX1_add_26 rfl ?_
    refine gh_3_7 C hj putH_same q_77 dX1_add_27 (show _ = h 3 7 from rfl) ?_
    refine x_iload_n C dX1_add_30 rfl ?_
    refine sh_5 C hj putH_same (by omega) (by omega) dX1_add_31 putH_put ?_
    refine x_aload_n C dX1_add_32 rfl ?_
    refine gh_3_2 C hj putH_same q_62 dX1_add_33 ?_
    refine x_aload_n C dX1_add_36 rfl ?_
    refine gh_3_7 C hj putH_same q_77 dX1_add_37 (show _ = h 3 7 from rfl) ?_
    refine x_iload_n C dX1_add_40 rfl ?_
    refine sh_6 C hj putH_same (by omega) (by omega) dX1_add_41 putH_put ?_
    refine x_aload_n C dX1_add_42 rfl ?_
    refine gh_3_3 C hj putH_same q_65 dX1_add_43 ?_
    refine x_aload_n C dX1_add_46 rfl ?_
    refine gh_3_7 C hj putH_same q_77 dX1_add_47 (show _ = h 3 7 from rfl) ?_
    refine x_iload_n C dX1_add_50 rfl ?_
    refine sh_7 C hj putH_same (by omega) (by omega) dX1_add_51 putH_put ?_
    refine x_aload_n C dX1_add_52 rfl ?_
    refine gh_3_4 C hj putH_same q_68 dX1_add_53 ?_
    refine x_aload_n C dX1_add_56 rfl ?_
    refine gh_3_7 C hj putH_same q_77 dX1_add_57 (show _ = h 3 7 from rfl) ?_
    refine x_const C dX1_add_60 ?_
    refine sh_8 C hj putH_same (by omega) (by omega) dX1_add_61 putH_put ?_
    refine x_aload_n C dX1_add_62 rfl ?_
    refine gh_3_5 C hj putH_same q_71 dX1_add_63 ?_
    refine x_aload_n C dX1_add_66 rfl ?_
    refine gh_3_7 C hj putH_same q_77 dX1_add_67 (show _ = h 3 7 from rfl) ?_
    refine x_iload C dX1_add_70 rfl ?_
    refine sh_9 C hj putH_same (by omega) (by omega) dX1_add_72 putH_put ?_
    refine x_aload_n C dX1_add_73 rfl ?_
    refine gh_3_6 C hj putH_same q_74 dX1_add_74 ?_
    refine x_aload_n C dX1_add_77 rfl ?_
    refine gh_3_7 C hj putH_same q_77 dX1_add_78 (show _ = h 3 7 from rfl) ?_
    refine x_const C dX1_add_81 ?_
    refine sh_10 C hj putH_same (by omega) (by omega) dX1_add_82 putH_put ?_
    refine x_aload_n C dX1_add_83 rfl ?_
    refine x_dup C dX1_add_84 rfl ?_
    refine gh_3_7 C hj putH_same q_77 dX1_add_85 (show _ = h 3 7 from rfl) ?_
    refine x_const C dX1_add_88 ?_
    refine x_iadd C dX1_add_89 ?_
    refine ph_3_7 C hj putH_same q_77 dX1_add_90 putH_put ?_
    refine x_aload_n C dX1_add_93 rfl ?_
    refine gh_3_7 C hj putH_same q_77 dX1_add_94 (show _ = (h 3 7) + 1 from rfl) ?_
    refine x_const C dX1_add_97 ?_
    refine x_isub C dX1_add_98 ?_
    exact x_iret C D rfl dX1_add_99 (by omega) rfl rfl rfl
  · exact absurd c_1 (by omega)
set_option maxRecDepth 100000 in
set_option maxHeartbeats 4000000 in
theorem m_X1_copyFrom {hs : Nat → HV} {tp md : HV} {E : HE} {j j2 : Nat} {h h2 : HV} (hE : HI E) (hj : j < 7) (hj2 : j2 < 7) (hne : j2 ≠ j) (hh : hs j = h) (hh2 : hs j2 = h2) {K2 : Int} (R2 : RG K2 h2) {hs9 : Nat → HV} (he : putH hs j (gCp h h2) = hs9) : Mt yX1_copyFrom cX1_copyFrom 2 none 2 E [.ref (hA E j 3), .ref (hA E j2 3)] hs tp md none hs9 tp md := by
  subst he
  refine mk_Mt hE (plainFor_of_name (by decide)) (Nat.le_of_ble_eq_true rfl) (by intro w0 hw0; simp only [List.mem_cons, List.not_mem_nil, or_false] at hw0; rcases hw0 with rfl | rfl <;> rfl) (rfl : _ = [_, _]) ?_
  intro F C D
  have rm := RG.made R2
  refine x_aload_n C dX1_copyFrom_0 rfl ?_
  refine x_aload_n C dX1_copyFrom_1 rfl ?_
  refine gh_3_7 C hj2 hh2 q_77 dX1_copyFrom_2 rfl ?_
  refine ph_3_7 C hj hh q_77 dX1_copyFrom_5 rfl ?_
  refine x_aload_n C dX1_copyFrom_8 rfl ?_
  refine gh_3_0 C hj2 ((putH_ne hne).trans hh2) q_56 dX1_copyFrom_9 ?_
  refine x_const C dX1_copyFrom_12 ?_
  refine x_aload_n C dX1_copyFrom_13 rfl ?_
  refine gh_3_0 C hj putH_same q_56 dX1_copyFrom_14 ?_
  refine x_const C dX1_copyFrom_17 ?_
  refine x_aload_n C dX1_copyFrom_18 rfl ?_
  refine gh_3_7 C hj putH_same q_77 dX1_copyFrom_19 (show _ = h2 3 7 from rfl) ?_
  refine ch_4 C hj putH_same hj2 ((putH_ne hne).trans hh2) (by omega) (by omega) q_271 (by decide) (Nat.le_of_ble_eq_true rfl) dX1_copyFrom_22 putH_put ?_
  refine x_aload_n C dX1_copyFrom_25 rfl ?_
  refine gh_3_1 C hj2 ((putH_ne hne).trans hh2) q_59 dX1_copyFrom_26 ?_
  refine x_const C dX1_copyFrom_29 ?_
  refine x_aload_n C dX1_copyFrom_30 rfl ?_
  refine gh_3_1 C hj putH_same q_59 dX1_copyFrom_31 ?_
  refine x_const C dX1_copyFrom_34 ?_
  refine x_aload_n C dX1_copyFrom_35 rfl ?_
  refine gh_3_7 C hj putH_same q_77 dX1_copyFrom_36 (show _ = h2 3 7 from rfl) ?_
  refine ch_5 C hj putH_same hj2 ((putH_ne hne).trans hh2) (by omega) (by omega) q_271 (by decide) (Nat.le_of_ble_eq_true rfl) dX1_copyFrom_39 putH_put ?_
  refine x_aload_n C dX1_copyFrom_42 rfl ?_
  refine gh_3_2 C hj2 ((putH_ne hne).trans hh2) q_62 dX1_copyFrom_43 ?_
  refine x_const C dX1_copyFrom_46 ?_
  refine x_aload_n C dX1_copyFrom_47 rfl ?_
  refine gh_3_2 C hj putH_same q_62 dX1_copyFrom_48 ?_
  refine x_const C dX1_copyFrom_51 ?_
  refine x_aload_n C dX1_copyFrom_52 rfl ?_
  refine gh_3_7 C hj putH_same q_77 dX1_copyFrom_53 (show _ = h2 3 7 from rfl) ?_
  refine ch_6 C hj putH_same hj2 ((putH_ne hne).trans hh2) (by omega) (by omega) q_271 (by decide) (Nat.le_of_ble_eq_true rfl) dX1_copyFrom_56 putH_put ?_
  refine x_aload_n C dX1_copyFrom_59 rfl ?_
  refine gh_3_3 C hj2 ((putH_ne hne).trans hh2) q_65 dX1_copyFrom_60 ?_
  refine x_const C dX1_copyFrom_63 ?_
  refine x_aload_n C dX1_copyFrom_64 rfl ?_
  refine gh_3_3 C hj putH_same q_65 dX1_copyFrom_65 ?_
  refine x_const C dX1_copyFrom_68 ?_
  refine x_aload_n C dX1_copyFrom_69 rfl ?_
  refine gh_3_7 C hj putH_same q_77 dX1_copyFrom_70 (show _ = h2 3 7 from rfl) ?_
  refine ch_7 C hj putH_same hj2 ((putH_ne hne).trans hh2) (by omega) (by omega) q_271 (by decide) (Nat.le_of_ble_eq_true rfl) dX1_copyFrom_73 putH_put ?_
  refine x_aload_n C dX1_copyFrom_76 rfl ?_
  refine gh_3_4 C hj2 ((putH_ne hne).trans hh2) q_68 dX1_copyFrom_77 ?_
  refine x_const C dX1_copyFrom_80 ?_
  refine x_aload_n C dX1_copyFrom_81 rfl ?_
  refine gh_3_4 C hj putH_same q_68 dX1_copyFrom_82 ?_
  refine x_const C dX1_copyFrom_85 ?_
  refine x_aload_n C dX1_copyFrom_86 rfl ?_
  refine gh_3_7 C hj putH_same q_77 dX1_copyFrom_87 (show _ = h2 3 7 from rfl) ?_
  refine ch_8 C hj putH_same hj2 ((putH_ne hne).trans hh2) (by omega) (by omega) q_271 (by decide) (Nat.le_of_ble_eq_true rfl) dX1_copyFrom_90 putH_put ?_
  refine x_aload_n C dX1_copyFrom_93 rfl ?_
  refine gh_3_5 C hj2 ((putH_ne hne).trans hh2) q_71 dX1_copyFrom_94 ?_
  refine x_const C dX1_copyFrom_97 ?_
  refine x_aload_n C dX1_copyFrom_98 rfl ?_
  refine gh_3_5 C hj putH_same q_71 dX1_copyFrom_99 ?_
  refine x_const C dX1_copyFrom_102 ?_
  refine x_aload_n C dX1_copyFrom_103 rfl ?_
  refine gh_3_7 C hj putH_same q_77 dX1_copyFrom_104 (show _ = h2 3 7 from rfl) ?_
  refine ch_9 C hj putH_same hj2 ((putH_ne hne).trans hh2) (by omega) (by omega) q_271 (by decide) (Nat.le_of_ble_eq_true rfl) dX1_copyFrom_107 putH_put ?_
  refine x_aload_n C dX1_copyFrom_110 rfl ?_
  refine gh_3_6 C hj2 ((putH_ne hne).trans hh2) q_74 dX1_copyFrom_111 ?_
  refine x_const C dX1_copyFrom_114 ?_
  refine x_aload_n C dX1_copyFrom_115 rfl ?_
  refine gh_3_6 C hj putH_same q_74 dX1_copyFrom_116 ?_
  refine x_const C dX1_copyFrom_119 ?_
  refine x_aload_n C dX1_copyFrom_120 rfl ?_
  refine gh_3_7 C hj putH_same q_77 dX1_copyFrom_121 (show _ = h2 3 7 from rfl) ?_
  refine ch_10 C hj putH_same hj2 ((putH_ne hne).trans hh2) (by omega) (by omega) q_271 (by decide) (Nat.le_of_ble_eq_true rfl) dX1_copyFrom_124 putH_put ?_
  exact x_vret C D dX1_copyFrom_127 rfl rfl rfl
set_option maxRecDepth 100000 in
set_option maxHeartbeats 4000000 in
theorem m_X4_copyFrom {hs : Nat → HV} {tp md : HV} {E : HE} {j j2 : Nat} {h h2 : HV} (hE : HI E) (hj : j < 7) (hj2 : j2 < 7) (hne : j2 ≠ j) (hh : hs j = h) (hh2 : hs j2 = h2) {K2 : Int} (R2 : RG K2 h2) {hs9 : Nat → HV} (he : putH hs j (lCp h h2) = hs9) : Mt yX4_copyFrom cX4_copyFrom 2 none 2 E [.ref (hA E j 11), .ref (hA E j2 11)] hs tp md none hs9 tp md := by
  subst he
  refine mk_Mt hE (plainFor_of_name (by decide)) (Nat.le_of_ble_eq_true rfl) (by intro w0 hw0; simp only [List.mem_cons, List.not_mem_nil, or_false] at hw0; rcases hw0 with rfl | rfl <;> rfl) (rfl : _ = [_, _]) ?_
  intro F C D
  refine x_aload_n C dX4_copyFrom_0 rfl ?_
  refine gh_11_0 C hj2 hh2 q_104 dX4_copyFrom_1 ?_
  refine x_const C dX4_copyFrom_4 ?_
  refine x_aload_n C dX4_copyFrom_5 rfl ?_
  refine gh_11_0 C hj hh q_104 dX4_copyFrom_6 ?_
  refine x_const C dX4_copyFrom_9 ?_
  refine x_bipush C dX4_copyFrom_10 (by decide) ?_
  refine ch_12 C hj hh hj2 hh2 (by omega) (by omega) q_276 (by decide) (Nat.le_of_ble_eq_true rfl) dX4_copyFrom_12 rfl ?_
  refine x_aload_n C dX4_copyFrom_15 rfl ?_
  refine x_aload_n C dX4_copyFrom_16 rfl ?_
  refine gh_11_1 C hj2 ((putH_ne hne).trans hh2) q_105 dX4_copyFrom_17 rfl ?_
  refine ph_11_1 C hj putH_same q_105 dX4_copyFrom_20 putH_put ?_
  exact x_vret C D dX4_copyFrom_23 rfl rfl rfl
set_option maxRecDepth 100000 in
set_option maxHeartbeats 4000000 in
theorem m_X5_copyFrom {hs : Nat → HV} {tp md : HV} {E : HE} {j j2 : Nat} {h h2 : HV} (hE : HI E) (hj : j < 7) (hj2 : j2 < 7) (hne : j2 ≠ j) (hh : hs j = h) (hh2 : hs j2 = h2) {K2 : Int} (R2 : RG K2 h2) {hs9 : Nat → HV} (he : putH hs j (oCp h h2) = hs9) : Mt yX5_copyFrom cX5_copyFrom 2 none 2 E [.ref (hA E j 13), .ref (hA E j2 13)] hs tp md none hs9 tp md := by
  subst he
  refine mk_Mt hE (plainFor_of_name (by decide)) (Nat.le_of_ble_eq_true rfl) (by intro w0 hw0; simp only [List.mem_cons, List.not_mem_nil, or_false] at hw0; rcases hw0 with rfl | rfl <;> rfl) (rfl : _ = [_, _]) ?_
  intro F C D
  have rm := RG.siz R2
  refine x_aload_n C dX5_copyFrom_0 rfl ?_
  refine x_aload_n C dX5_copyFrom_1 rfl ?_
  refine gh_13_2 C hj2 hh2 q_121 dX5_copyFrom_2 rfl ?_
  refine ph_13_2 C hj hh q_121 dX5_copyFrom_5 rfl ?_
  refine x_aload_n C dX5_copyFrom_8 rfl ?_
  refine gh_13_0 C hj2 ((putH_ne hne).trans hh2) q_118 dX5_copyFrom_9 ?_
  refine x_const C dX5_copyFrom_12 ?_
  refine x_aload_n C dX5_copyFrom_13 rfl ?_
  refine gh_13_0 C hj putH_same q_118 dX5_copyFrom_14 ?_
  refine x_const C dX5_copyFrom_17 ?_
  refine x_aload_n C dX5_copyFrom_18 rfl ?_
  refine gh_13_2 C hj putH_same q_121 dX5_copyFrom_19 (show _ = h2 13 2 from rfl) ?_
  refine ch_14 C hj putH_same hj2 ((putH_ne hne).trans hh2) (by omega) (by omega) q_281 (by decide) (Nat.le_of_ble_eq_true rfl) dX5_copyFrom_22 putH_put ?_
  refine x_aload_n C dX5_copyFrom_25 rfl ?_
  refine gh_13_1 C hj2 ((putH_ne hne).trans hh2) q_120 dX5_copyFrom_26 ?_
  refine x_const C dX5_copyFrom_29 ?_
  refine x_aload_n C dX5_copyFrom_30 rfl ?_
  refine gh_13_1 C hj putH_same q_120 dX5_copyFrom_31 ?_
  refine x_const C dX5_copyFrom_34 ?_
  refine x_aload_n C dX5_copyFrom_35 rfl ?_
  refine gh_13_2 C hj putH_same q_121 dX5_copyFrom_36 (show _ = h2 13 2 from rfl) ?_
  refine ch_15 C hj putH_same hj2 ((putH_ne hne).trans hh2) (by omega) (by omega) q_281 (by decide) (Nat.le_of_ble_eq_true rfl) dX5_copyFrom_39 putH_put ?_
  exact x_vret C D dX5_copyFrom_42 rfl rfl rfl
set_option maxRecDepth 100000 in
set_option maxHeartbeats 4000000 in
theorem m_X3_copyFrom {hs : Nat → HV} {tp md : HV} {E : HE} {j j2 : Nat} {h h2 : HV} (hE : HI E) (hj : j < 7) (hj2 : j2 < 7) (hne : j2 ≠ j) (hh : hs j = h) (hh2 : hs j2 = h2) {K2 : Int} (R2 : RG K2 h2) {hs9 : Nat → HV} (he : putH hs j (hCp h h2) = hs9) : Mt yX3_copyFrom cX3_copyFrom 2 none 3 E [.ref (hA E j 0), .ref (hA E j2 0)] hs tp md none hs9 tp md := by
  subst he
  refine mk_Mt hE (plainFor_of_name (by decide)) (Nat.le_of_ble_eq_true rfl) (by intro w0 hw0; simp only [List.mem_cons, List.not_mem_nil, or_false] at hw0; rcases hw0 with rfl | rfl <;> rfl) (rfl : _ = [_, _]) ?_
  intro F C D
  refine x_aload_n C dX3_copyFrom_0 rfl ?_
  refine gh_0_0 C hj2 hh2 q_131 dX3_copyFrom_1 ?_
  refine x_const C dX3_copyFrom_4 ?_
  refine x_aload_n C dX3_copyFrom_5 rfl ?_
  refine gh_0_0 C hj hh q_131 dX3_copyFrom_6 ?_
  refine x_const C dX3_copyFrom_9 ?_
  refine x_bipush C dX3_copyFrom_10 (by decide) ?_
  refine ch_1 C hj hh hj2 hh2 (by omega) (by omega) q_47 (by decide) (Nat.le_of_ble_eq_true rfl) dX3_copyFrom_12 rfl ?_
  refine x_aload_n C dX3_copyFrom_15 rfl ?_
  refine gh_0_1 C hj2 ((putH_ne hne).trans hh2) q_133 dX3_copyFrom_16 ?_
  refine x_const C dX3_copyFrom_19 ?_
  refine x_aload_n C dX3_copyFrom_20 rfl ?_
  refine gh_0_1 C hj putH_same q_133 dX3_copyFrom_21 ?_
  refine x_const C dX3_copyFrom_24 ?_
  refine x_sipush C dX3_copyFrom_25 (by decide) ?_
  refine ch_2 C hj putH_same hj2 ((putH_ne hne).trans hh2) (by omega) (by omega) q_47 (by decide) (Nat.le_of_ble_eq_true rfl) dX3_copyFrom_28 putH_put ?_
  refine x_aload_n C dX3_copyFrom_31 rfl ?_
  refine gh_0_2 C hj putH_same q_134 dX3_copyFrom_32 ?_
  refine x_aload_n C dX3_copyFrom_35 rfl ?_
  refine gh_0_2 C hj2 ((putH_ne hne).trans hh2) q_134 dX3_copyFrom_36 ?_
  refine x_callV (nA := 1) (As := [.ref (hA E j2 3)]) (rest := []) C (m_X1_copyFrom (h := (upr (upr h 1 (cpI (h2 1) (h 1) 10)) 2 (cpI (h2 2) (h 2) 1000))) hE hj hj2 hne putH_same ((putH_ne hne).trans hh2) R2 putH_put) q_267 q_268 q_269 q_24 q_270 (by decide +kernel) (wl_h hj putH_same 3 (by decide)) rfl rfl (by decide) (by decide) (Nat.le_of_ble_eq_true rfl) dX3_copyFrom_39 rfl ?_
  refine x_aload_n C dX3_copyFrom_42 rfl ?_
  refine gh_0_3 C hj putH_same q_136 dX3_copyFrom_43 ?_
  refine x_aload_n C dX3_copyFrom_46 rfl ?_
  refine gh_0_3 C hj2 ((putH_ne hne).trans hh2) q_136 dX3_copyFrom_47 ?_
  refine x_callV (nA := 1) (As := [.ref (hA E j2 11)]) (rest := []) C (m_X4_copyFrom (h := (gCp (upr (upr h 1 (cpI (h2 1) (h 1) 10)) 2 (cpI (h2 2) (h 2) 1000)) h2)) hE hj hj2 hne putH_same ((putH_ne hne).trans hh2) R2 putH_put) q_272 q_273 q_274 q_25 q_275 (by decide +kernel) (wl_h hj putH_same 11 (by decide)) rfl rfl (by decide) (by decide) (Nat.le_of_ble_eq_true rfl) dX3_copyFrom_50 rfl ?_
  refine x_aload_n C dX3_copyFrom_53 rfl ?_
  refine gh_0_4 C hj putH_same q_138 dX3_copyFrom_54 ?_
  refine x_aload_n C dX3_copyFrom_57 rfl ?_
  refine gh_0_4 C hj2 ((putH_ne hne).trans hh2) q_138 dX3_copyFrom_58 ?_
  refine x_callV (nA := 1) (As := [.ref (hA E j2 13)]) (rest := []) C (m_X5_copyFrom (h := (lCp (gCp (upr (upr h 1 (cpI (h2 1) (h 1) 10)) 2 (cpI (h2 2) (h 2) 1000)) h2) h2)) hE hj hj2 hne putH_same ((putH_ne hne).trans hh2) R2 putH_put) q_277 q_278 q_279 q_26 q_280 (by decide +kernel) (wl_h hj putH_same 13 (by decide)) rfl rfl (by decide) (by decide) (Nat.le_of_ble_eq_true rfl) dX3_copyFrom_61 rfl ?_
  refine x_aload_n C dX3_copyFrom_64 rfl ?_
  refine gh_0_5 C hj2 ((putH_ne hne).trans hh2) q_140 dX3_copyFrom_65 ?_
  refine x_const C dX3_copyFrom_68 ?_
  refine x_aload_n C dX3_copyFrom_69 rfl ?_
  refine gh_0_5 C hj putH_same q_140 dX3_copyFrom_70 ?_
  refine x_const C dX3_copyFrom_73 ?_
  refine x_bipush C dX3_copyFrom_74 (by decide) ?_
  refine ch_16 C hj putH_same hj2 ((putH_ne hne).trans hh2) (by omega) (by omega) q_47 (by decide) (Nat.le_of_ble_eq_true rfl) dX3_copyFrom_76 putH_put ?_
  refine x_aload_n C dX3_copyFrom_79 rfl ?_
  refine x_aload_n C dX3_copyFrom_80 rfl ?_
  refine gh_0_6 C hj2 ((putH_ne hne).trans hh2) q_142 dX3_copyFrom_81 rfl ?_
  refine ph_0_6 C hj putH_same q_142 dX3_copyFrom_84 putH_put ?_
  refine x_aload_n C dX3_copyFrom_87 rfl ?_
  refine x_aload_n C dX3_copyFrom_88 rfl ?_
  refine gh_0_7 C hj2 ((putH_ne hne).trans hh2) q_144 dX3_copyFrom_89 rfl ?_
  refine ph_0_7 C hj putH_same (RG.cal R2) q_144 dX3_copyFrom_92 putH_w ?_
  refine x_aload_n C dX3_copyFrom_95 rfl ?_
  refine x_aload_n C dX3_copyFrom_96 rfl ?_
  refine gh_0_8 C hj2 ((putH_ne hne).trans hh2) q_146 dX3_copyFrom_97 rfl ?_
  refine ph_0_8 C hj putH_same q_146 dX3_copyFrom_100 putH_w ?_
  refine x_aload_n C dX3_copyFrom_103 rfl ?_
  refine x_aload_n C dX3_copyFrom_104 rfl ?_
  refine gh_0_9 C hj2 ((putH_ne hne).trans hh2) q_148 dX3_copyFrom_105 rfl ?_
  refine ph_0_9 C hj putH_same q_148 dX3_copyFrom_108 putH_w ?_
  refine x_aload_n C dX3_copyFrom_111 rfl ?_
  refine x_aload_n C dX3_copyFrom_112 rfl ?_
  refine gh_0_10 C hj2 ((putH_ne hne).trans hh2) q_150 dX3_copyFrom_113 rfl ?_
  refine ph_0_10 C hj putH_same q_150 dX3_copyFrom_116 putH_w ?_
  exact x_vret C D dX3_copyFrom_119 rfl rfl rfl
set_option maxRecDepth 100000 in
set_option maxHeartbeats 4000000 in
theorem m_X3_weatherOf {hs : Nat → HV} {tp md : HV} {E : HE} {j : Nat} {h : HV} (hE : HI E) (hj : j < 7) (hh : hs j = h) {K : Int} (R : RG K h) {d : Int} (d0 : -1000000 ≤ d ∧ d ≤ 1000000) : Mt yX3_weatherOf cX3_weatherOf 2 (some .int) 1 E [.ref (hA E j 0), vI d] hs tp md (some (vI (wOf h d))) hs tp md := by
  refine mk_Mt hE (plainFor_of_name (by decide)) (Nat.le_of_ble_eq_true rfl) (by intro w0 hw0; simp only [List.mem_cons, List.not_mem_nil, or_false] at hw0; rcases hw0 with rfl | rfl <;> rfl) (rfl : _ = [_, _]) ?_
  intro F C D
  refine x_iload_n C dX3_weatherOf_0 rfl ?_
  refine x_if_lt 11 C dX3_weatherOf_1 (by decide) ⟨by omega, by omega⟩ (fun c_1 => ?_) (fun c_1 => ?_)
  · refine x_const C dX3_weatherOf_11 ?_
    refine x_goto 21 C dX3_weatherOf_12 (by decide) ?_
    exact x_iret C D rfl dX3_weatherOf_21 (by unfold wOf; split <;> first | rfl | omega) rfl rfl rfl
  · refine x_iload_n C dX3_weatherOf_4 rfl ?_
    refine x_sipush C dX3_weatherOf_5 (by decide) ?_
    refine x_icmp_le 15 C dX3_weatherOf_8 (by decide) ⟨by omega, by omega⟩ ⟨by omega, by omega⟩ (fun c_2 => ?_) (fun c_2 => ?_)
    · refine x_aload_n C dX3_weatherOf_15 rfl ?_
      refine gh_0_1 C hj hh q_133 dX3_weatherOf_16 ?_
      refine x_iload_n C dX3_weatherOf_19 rfl ?_
      refine lh_2 C hj hh (by omega) (by omega) dX3_weatherOf_20 rfl ?_
      have r_3 := RG.wea R (i := d) (by omega) (by omega)
      exact x_iret C D rfl dX3_weatherOf_21 (by unfold wOf; split <;> first | rfl | omega) rfl rfl rfl
    · refine x_const C dX3_weatherOf_11 ?_
      refine x_goto 21 C dX3_weatherOf_12 (by decide) ?_
      exact x_iret C D rfl dX3_weatherOf_21 (by unfold wOf; split <;> first | rfl | omega) rfl rfl rfl
set_option maxRecDepth 100000 in
set_option maxHeartbeats 4000000 in
theorem m_X3_isUpOpen {hs : Nat → HV} {tp md : HV} {E : HE} {j : Nat} {h : HV} (hE : HI E) (hj : j < 7) (hh : hs j = h) {K : Int} (R : RG K h) {d : Int} (d0 : -1000000 ≤ d ∧ d ≤ 1000000) : Mt yX3_isUpOpen cX3_isUpOpen 2 (some .boolean) 2 E [.ref (hA E j 0), vI d] hs tp md (some (vI (bI (upO h d)))) hs tp md := by
  refine mk_Mt hE (plainFor_of_name (by decide)) (Nat.le_of_ble_eq_true rfl) (by intro w0 hw0; simp only [List.mem_cons, List.not_mem_nil, or_false] at hw0; rcases hw0 with rfl | rfl <;> rfl) (rfl : _ = [_, _]) ?_
  intro F C D
  refine x_aload_n C dX3_isUpOpen_0 rfl ?_
  refine x_iload_n C dX3_isUpOpen_1 rfl ?_
  refine x_callV (nA := 1) (As := [vI d]) (rest := []) C (m_X3_weatherOf hE hj hh R ⟨by omega, by omega⟩) q_355 q_356 q_357 q_22 q_358 (by decide +kernel) (wl_h hj hh 0 (by decide)) rfl rfl (by decide) (by decide) (Nat.le_of_ble_eq_true rfl) dX3_isUpOpen_2 rfl ?_
  have hw := wOf_r R d
  refine x_const C dX3_isUpOpen_5 ?_
  refine x_iand (r := ((wOf h d) % 2)) C dX3_isUpOpen_6 (and_1 hw) ?_
  refine x_if_ne 14 C dX3_isUpOpen_7 (by decide) ⟨by omega, by omega⟩ (fun c_1 => ?_) (fun c_1 => ?_)
  · refine x_const C dX3_isUpOpen_14 ?_
    exact x_iret C D nar_b dX3_isUpOpen_15 (e0_bI (by omega)) rfl rfl rfl
  · refine x_const C dX3_isUpOpen_10 ?_
    refine x_goto 15 C dX3_isUpOpen_11 (by decide) ?_
    exact x_iret C D nar_b dX3_isUpOpen_15 (e1_bI (by omega)) rfl rfl rfl
set_option maxRecDepth 100000 in
set_option maxHeartbeats 4000000 in
theorem m_X3_isDownOpen {hs : Nat → HV} {tp md : HV} {E : HE} {j : Nat} {h : HV} (hE : HI E) (hj : j < 7) (hh : hs j = h) {K : Int} (R : RG K h) : Mt yX3_isDownOpen cX3_isDownOpen 1 (some .boolean) 2 E [.ref (hA E j 0)] hs tp md (some (vI (bI (dnO h)))) hs tp md := by
  refine mk_Mt hE (plainFor_of_name (by decide)) (Nat.le_of_ble_eq_true rfl) (by intro w0 hw0; simp only [List.mem_cons, List.not_mem_nil, or_false] at hw0; rcases hw0 with rfl <;> rfl) (rfl : _ = [_]) ?_
  intro F C D
  refine x_aload_n C dX3_isDownOpen_0 rfl ?_
  refine x_aload_n C dX3_isDownOpen_1 rfl ?_
  refine gh_0_6 C hj hh q_142 dX3_isDownOpen_2 rfl ?_
  have r_1 := RG.day R
  refine x_callV (nA := 1) (As := [vI (h 0 6)]) (rest := []) C (m_X3_weatherOf hE hj hh R ⟨by omega, by omega⟩) q_355 q_356 q_357 q_22 q_358 (by decide +kernel) (wl_h hj hh 0 (by decide)) rfl rfl (by decide) (by decide) (Nat.le_of_ble_eq_true rfl) dX3_isDownOpen_5 rfl ?_
  have hw := wOf_r R (h 0 6)
  refine x_const C dX3_isDownOpen_8 ?_
  refine x_iand (r := ((wOf h (h 0 6)) / 2 % 2 * 2)) C dX3_isDownOpen_9 (and_2 hw) ?_
  refine x_if_ne 17 C dX3_isDownOpen_10 (by decide) ⟨by omega, by omega⟩ (fun c_2 => ?_) (fun c_2 => ?_)
  · refine x_const C dX3_isDownOpen_17 ?_
    exact x_iret C D nar_b dX3_isDownOpen_18 (e0_bI (by omega)) rfl rfl rfl
  · refine x_const C dX3_isDownOpen_13 ?_
    refine x_goto 18 C dX3_isDownOpen_14 (by decide) ?_
    exact x_iret C D nar_b dX3_isDownOpen_18 (e1_bI (by omega)) rfl rfl rfl
set_option maxRecDepth 100000 in
set_option maxHeartbeats 4000000 in
theorem m_X3_isWindy {hs : Nat → HV} {tp md : HV} {E : HE} {j : Nat} {h : HV} (hE : HI E) (hj : j < 7) (hh : hs j = h) {K : Int} (R : RG K h) : Mt yX3_isWindy cX3_isWindy 1 (some .boolean) 2 E [.ref (hA E j 0)] hs tp md (some (vI (bI (windy h)))) hs tp md := by
  refine mk_Mt hE (plainFor_of_name (by decide)) (Nat.le_of_ble_eq_true rfl) (by intro w0 hw0; simp only [List.mem_cons, List.not_mem_nil, or_false] at hw0; rcases hw0 with rfl <;> rfl) (rfl : _ = [_]) ?_
  intro F C D
  refine x_aload_n C dX3_isWindy_0 rfl ?_
  refine x_aload_n C dX3_isWindy_1 rfl ?_
  refine gh_0_6 C hj hh q_142 dX3_isWindy_2 rfl ?_
  have r_1 := RG.day R
  refine x_callV (nA := 1) (As := [vI (h 0 6)]) (rest := []) C (m_X3_weatherOf hE hj hh R ⟨by omega, by omega⟩) q_355 q_356 q_357 q_22 q_358 (by decide +kernel) (wl_h hj hh 0 (by decide)) rfl rfl (by decide) (by decide) (Nat.le_of_ble_eq_true rfl) dX3_isWindy_5 rfl ?_
  have hw := wOf_r R (h 0 6)
  refine x_const C dX3_isWindy_8 ?_
  refine x_iand (r := ((wOf h (h 0 6)) / 4 * 4)) C dX3_isWindy_9 (and_4 hw) ?_
  refine x_if_eq 17 C dX3_isWindy_10 (by decide) ⟨by omega, by omega⟩ (fun c_2 => ?_) (fun c_2 => ?_)
  · refine x_const C dX3_isWindy_17 ?_
    exact x_iret C D nar_b dX3_isWindy_18 (e0_bI (by omega)) rfl rfl rfl
  · refine x_const C dX3_isWindy_13 ?_
    refine x_goto 18 C dX3_isWindy_14 (by decide) ?_
    exact x_iret C D nar_b dX3_isWindy_18 (e1_bI (by omega)) rfl rfl rfl
set_option maxRecDepth 100000 in
set_option maxHeartbeats 4000000 in
theorem m_X3_daysWithOtherWeather {hs : Nat → HV} {tp md : HV} {E : HE} {j : Nat} {h : HV} (hE : HI E) (hj : j < 7) (hh : hs j = h) {K : Int} (R : RG K h) {x y w : Int} (x0 : 0 ≤ x) (x1 : x ≤ y) (y1 : y ≤ 999) (w0 : IR w) : Mt yX3_daysWithOtherWeather cX3_daysWithOtherWeather 6 (some .int) 2 E [.ref (hA E j 0), vI x, vI y, vI w] hs tp md (some (vI (sumI (fun q => wOther h w (x + q)) (y + 1 - x)))) hs tp md := by
  refine mk_Mt hE (plainFor_of_name (by decide)) (Nat.le_of_ble_eq_true rfl) (by intro w0 hw0; simp only [List.mem_cons, List.not_mem_nil, or_false] at hw0; rcases hw0 with rfl | rfl | rfl | rfl <;> rfl) (rfl : _ = [_, _, _, _, _, _]) ?_
  intro F C D
  refine x_const C dX3_daysWithOtherWeather_0 ?_
  refine x_istore C dX3_daysWithOtherWeather_1 (by decide) (rfl : _ = [_, _, _, _, _, _]) ?_
  refine x_iload_n C dX3_daysWithOtherWeather_3 rfl ?_
  refine x_istore C dX3_daysWithOtherWeather_4 (by decide) (rfl : _ = [_, _, _, _, _, _]) ?_
  have K6 : ∀ (nn : Nat) (n : Int), 0 ≤ n → n ≤ y + 1 - x → 1100 - n < nn →  G F E hs tp md 6 [some (.ref (hA E j 0)), some (vI x), some (vI y), some (vI w), some (vI (sumI (fun q => wOther h w (x + q)) n)), some (vI (x + n))] [] := by
    intro nn
    induction nn with
    | zero => intro n n0 n1 hz; exact absurd hz (by omega)
    | succ nn ih =>
      intro n n0 n1 hz
      refine x_iload C dX3_daysWithOtherWeather_6 rfl ?_
      refine x_iload_n C dX3_daysWithOtherWeather_8 rfl ?_
      refine x_icmp_gt 39 C dX3_daysWithOtherWeather_9 (by decide) ⟨by omega, by omega⟩ ⟨by omega, by omega⟩ (fun c_1 => ?_) (fun c_1 => ?_)
      · refine x_iload C dX3_daysWithOtherWeather_39 rfl ?_
        exact x_iret C D rfl dX3_daysWithOtherWeather_41 (by rw [show n = y + 1 - x by omega]) rfl rfl rfl
      · refine x_iload C dX3_daysWithOtherWeather_12 rfl ?_
        refine x_sipush C dX3_daysWithOtherWeather_14 (by decide) ?_
        refine x_icmp_gt 39 C dX3_daysWithOtherWeather_17 (by decide) ⟨by omega, by omega⟩ ⟨by omega, by omega⟩ (fun c_2 => ?_) (fun c_2 => ?_)
        · exact absurd c_2 (by omega)
        · refine x_aload_n C dX3_daysWithOtherWeather_20 rfl ?_
          refine x_iload C dX3_daysWithOtherWeather_21 rfl ?_
          refine x_callV (nA := 1) (As := [vI (x + n)]) (rest := []) C (m_X3_weatherOf hE hj hh R ⟨by omega, by omega⟩) q_355 q_356 q_357 q_22 q_358 (by decide +kernel) (wl_h hj hh 0 (by decide)) rfl rfl (by decide) (by decide) (Nat.le_of_ble_eq_true rfl) dX3_daysWithOtherWeather_23 rfl ?_
          have hw := wOf_r R (x + n)
          refine x_iload_n C dX3_daysWithOtherWeather_26 rfl ?_
          refine x_icmp_eq 33 C dX3_daysWithOtherWeather_27 (by decide) ⟨by omega, by omega⟩ ⟨by omega, by omega⟩ (fun c_3 => ?_) (fun c_3 => ?_)
          · refine x_iinc C dX3_daysWithOtherWeather_33 rfl (by decide) (rfl : _ = [_, _, _, _, _, _]) ?_
            refine x_goto 6 C dX3_daysWithOtherWeather_36 (by decide) ?_
            refine G.wk (ih (n + 1) (by omega) (by omega) (by omega)) ?_
            simp [leL, sumI_s n0, Int.add_assoc, wOther, c_3]
          · refine x_iinc C dX3_daysWithOtherWeather_30 rfl (by decide) (rfl : _ = [_, _, _, _, _, _]) ?_
            refine x_iinc C dX3_daysWithOtherWeather_33 rfl (by decide) (rfl : _ = [_, _, _, _, _, _]) ?_
            refine x_goto 6 C dX3_daysWithOtherWeather_36 (by decide) ?_
            refine G.wk (ih (n + 1) (by omega) (by omega) (by omega)) ?_
            simp [leL, sumI_s n0, Int.add_assoc, wOther, c_3]
  refine G.wk (K6 1101 0 (by omega) (by omega) (by omega)) ?_
  simp only [leL, Int.add_zero, sumI_0, and_self]
set_option maxRecDepth 100000 in
set_option maxHeartbeats 4000000 in
theorem m_X3_changeWeather {hs : Nat → HV} {tp md : HV} {E : HE} {j : Nat} {h : HV} (hE : HI E) (hj : j < 7) (hh : hs j = h) {x y w : Int} (x0 : 0 ≤ x) (x1 : x ≤ y) (y1 : y ≤ 999) {hs9 : Nat → HV} (he : putH hs j (upr h 2 (wSet (h 2) x (y + 1) w)) = hs9) : Mt yX3_changeWeather cX3_changeWeather 5 none 2 E [.ref (hA E j 0), vI x, vI y, vI w] hs tp md none hs9 tp md := by
  subst he
  refine mk_Mt hE (plainFor_of_name (by decide)) (Nat.le_of_ble_eq_true rfl) (by intro w0 hw0; simp only [List.mem_cons, List.not_mem_nil, or_false] at hw0; rcases hw0 with rfl | rfl | rfl | rfl <;> rfl) (rfl : _ = [_, _, _, _, _]) ?_
  intro F C D
  refine x_const C dX3_changeWeather_0 ?_
  refine x_iload_n C dX3_changeWeather_1 rfl ?_
  refine x_max C q_624 q_295 q_29 q_296 (by decide) (Nat.le_of_ble_eq_true rfl) ⟨by omega, by omega⟩ ⟨by omega, by omega⟩ dX3_changeWeather_2 ?_
  refine G.eqS ?_ (congrArg (fun z => [vI z]) (show (if 0 < x then x else 0) = x by split <;> omega))
  refine x_istore C dX3_changeWeather_5 (by decide) (rfl : _ = [_, _, _, _, _]) ?_
  have K7 : ∀ (nn : Nat) (n : Int), 0 ≤ n → n ≤ y + 1 - x → 1100 - n < nn →  G F E (putH hs j (upr h 2 (wSet (h 2) x (x + n) w))) tp md 7 [some (.ref (hA E j 0)), some (vI x), some (vI y), some (vI w), some (vI (x + n))] [] := by
    intro nn
    induction nn with
    | zero => intro n n0 n1 hz; exact absurd hz (by omega)
    | succ nn ih =>
      intro n n0 n1 hz
      refine x_iload C dX3_changeWeather_7 rfl ?_
      refine x_iload_n C dX3_changeWeather_9 rfl ?_
      refine x_icmp_gt 35 C dX3_changeWeather_10 (by decide) ⟨by omega, by omega⟩ ⟨by omega, by omega⟩ (fun c_1 => ?_) (fun c_1 => ?_)
      · exact x_vret C D dX3_changeWeather_35 (by rw [show x + n = y + 1 by omega]) rfl rfl
      · refine x_iload C dX3_changeWeather_13 rfl ?_
        refine x_sipush C dX3_changeWeather_15 (by decide) ?_
        refine x_icmp_gt 35 C dX3_changeWeather_18 (by decide) ⟨by omega, by omega⟩ ⟨by omega, by omega⟩ (fun c_2 => ?_) (fun c_2 => ?_)
        · exact x_vret C D dX3_changeWeather_35 (by rw [show x + n = y + 1 by omega]) rfl rfl
        · refine x_aload_n C dX3_changeWeather_21 rfl ?_
          refine gh_0_1 C hj putH_same q_133 dX3_changeWeather_22 ?_
          refine x_iload C dX3_changeWeather_25 rfl ?_
          refine x_iload_n C dX3_changeWeather_27 rfl ?_
          refine sh_2 C hj putH_same (by omega) (by omega) dX3_changeWeather_28 putH_put ?_
          refine x_iinc C dX3_changeWeather_29 rfl (by decide) (rfl : _ = [_, _, _, _, _]) ?_
          refine x_goto 7 C dX3_changeWeather_32 (by decide) ?_
          refine G.of (G.wk (ih (n + 1) (by omega) (by omega) (by omega)) ?_) ?_ rfl rfl rfl
          · simp only [leL, Int.add_assoc, and_self]
          · rw [← wSet_s n0]; exact congrArg (putH hs j) upr_upr
  refine G.of (G.wk (K7 1101 0 (by omega) (by omega) (by omega)) ?_) ?_ rfl rfl rfl
  · simp only [leL, Int.add_zero, and_self]
  · rw [Int.add_zero, wSet_0, upr_id, putH_of hh]
set_option maxRecDepth 100000 in
set_option maxHeartbeats 4000000 in
theorem m_X6_areNightsAndPersons {hs : Nat → HV} {tp md : HV} {E : HE} (hE : HI E) {n p : Int} (n0 : IR n) (p0 : IR p) : Mt yX6_areNightsAndPersons cX6_areNightsAndPersons 2 (some .boolean) 1 E [vI n, vI p] hs tp md (some (vI (bI (1 ≤ n ∧ n ≤ 9 ∧ 1 ≤ p ∧ p ≤ 9)))) hs tp md := by
  refine mk_Mt hE (plainFor_of_name (by decide)) (Nat.le_of_ble_eq_true rfl) (by intro w0 hw0; simp only [List.mem_cons, List.not_mem_nil, or_false] at hw0; rcases hw0 with rfl | rfl <;> rfl) (rfl : _ = [_, _]) ?_
  intro F C D
  refine x_iload_n C dX6_areNightsAndPersons_0 rfl ?_
  refine x_const C dX6_areNightsAndPersons_1 ?_
  refine x_icmp_lt 26 C dX6_areNightsAndPersons_2 (by decide) ⟨by omega, by omega⟩ ⟨by omega, by omega⟩ (fun c_1 => ?_) (fun c_1 => ?_)
  · refine x_const C dX6_areNightsAndPersons_26 ?_
    exact x_iret C D nar_b dX6_areNightsAndPersons_27 (e0_bI (by omega)) rfl rfl rfl
  · refine x_iload_n C dX6_areNightsAndPersons_5 rfl ?_
    refine x_bipush C dX6_areNightsAndPersons_6 (by decide) ?_
    refine x_icmp_gt 26 C dX6_areNightsAndPersons_8 (by decide) ⟨by omega, by omega⟩ ⟨by omega, by omega⟩ (fun c_2 => ?_) (fun c_2 => ?_)
    · refine x_const C dX6_areNightsAndPersons_26 ?_
      exact x_iret C D nar_b dX6_areNightsAndPersons_27 (e0_bI (by omega)) rfl rfl rfl
    · refine x_iload_n C dX6_areNightsAndPersons_11 rfl ?_
      refine x_const C dX6_areNightsAndPersons_12 ?_
      refine x_icmp_lt 26 C dX6_areNightsAndPersons_13 (by decide) ⟨by omega, by omega⟩ ⟨by omega, by omega⟩ (fun c_3 => ?_) (fun c_3 => ?_)
      · refine x_const C dX6_areNightsAndPersons_26 ?_
        exact x_iret C D nar_b dX6_areNightsAndPersons_27 (e0_bI (by omega)) rfl rfl rfl
      · refine x_iload_n C dX6_areNightsAndPersons_16 rfl ?_
        refine x_bipush C dX6_areNightsAndPersons_17 (by decide) ?_
        refine x_icmp_gt 26 C dX6_areNightsAndPersons_19 (by decide) ⟨by omega, by omega⟩ ⟨by omega, by omega⟩ (fun c_4 => ?_) (fun c_4 => ?_)
        · refine x_const C dX6_areNightsAndPersons_26 ?_
          exact x_iret C D nar_b dX6_areNightsAndPersons_27 (e0_bI (by omega)) rfl rfl rfl
        · refine x_const C dX6_areNightsAndPersons_22 ?_
          refine x_goto 27 C dX6_areNightsAndPersons_23 (by decide) ?_
          exact x_iret C D nar_b dX6_areNightsAndPersons_27 (e1_bI (by omega)) rfl rfl rfl
set_option maxRecDepth 100000 in
set_option maxHeartbeats 4000000 in
theorem m_X3_hasBeds {hs : Nat → HV} {tp md : HV} {E : HE} {j : Nat} {h : HV} (hE : HI E) (hj : j < 7) (hh : hs j = h) {K : Int} (R : RG K h) {a n p : Int} (a0 : 0 ≤ a ∧ a ≤ 2000) (n0 : 0 ≤ n ∧ n ≤ 9) (p0 : 0 ≤ p ∧ p ≤ 9) : Mt yX3_hasBeds cX3_hasBeds 5 (some .boolean) 4 E [.ref (hA E j 0), vI a, vI n, vI p] hs tp md (some (vI (bI (hasB h a n p)))) hs tp md := by
  refine mk_Mt hE (plainFor_of_name (by decide)) (Nat.le_of_ble_eq_true rfl) (by intro w0 hw0; simp only [List.mem_cons, List.not_mem_nil, or_false] at hw0; rcases hw0 with rfl | rfl | rfl | rfl <;> rfl) (rfl : _ = [_, _, _, _, _]) ?_
  intro F C D
  refine x_const C dX3_hasBeds_0 ?_
  refine x_istore C dX3_hasBeds_1 (by decide) (rfl : _ = [_, _, _, _, _]) ?_
  have K3 : ∀ (nn : Nat) (i : Int), 0 ≤ i → i ≤ n → allI (fun i => decide (nBeds h (a + i) (a + i) + p ≤ h 1 0)) i = true → 20 - i < nn →  G F E hs tp md 3 [some (.ref (hA E j 0)), some (vI a), some (vI n), some (vI p), some (vI i)] [] := by
    intro nn
    induction nn with
    | zero => intro i i0 i1 hi hz; exact absurd hz (by omega)
    | succ nn ih =>
      intro i i0 i1 hi hz
      refine x_iload C dX3_hasBeds_3 rfl ?_
      refine x_iload_n C dX3_hasBeds_5 rfl ?_
      refine x_icmp_ge 39 C dX3_hasBeds_6 (by decide) ⟨by omega, by omega⟩ ⟨by omega, by omega⟩ (fun c_1 => ?_) (fun c_1 => ?_)
      · refine x_const C dX3_hasBeds_39 ?_
        exact x_iret C D nar_b dX3_hasBeds_40 (e1_bI (by rw [show n = i by omega]; exact hi)) rfl rfl rfl
      · refine x_aload_n C dX3_hasBeds_9 rfl ?_
        refine gh_0_2 C hj hh q_134 dX3_hasBeds_10 ?_
        refine x_iload_n C dX3_hasBeds_13 rfl ?_
        refine x_iload C dX3_hasBeds_14 rfl ?_
        refine x_iadd C dX3_hasBeds_16 ?_
        refine x_callV (nA := 1) (As := [vI (a + i)]) (rest := []) C (m_X1_bedsTakenIn hE hj hh R ⟨by omega, by omega⟩) q_449 q_388 q_389 q_24 q_390 (by decide +kernel) (wl_h hj hh 3 (by decide)) rfl rfl (by decide) (by decide) (Nat.le_of_ble_eq_true rfl) dX3_hasBeds_17 rfl ?_
        have rb := nBeds_r R (x := a + i)
        refine x_iload_n C dX3_hasBeds_20 rfl ?_
        refine x_iadd C dX3_hasBeds_21 ?_
        refine x_aload_n C dX3_hasBeds_22 rfl ?_
        refine gh_0_0 C hj hh q_131 dX3_hasBeds_23 ?_
        refine x_const C dX3_hasBeds_26 ?_
        refine lh_1 C hj hh (by omega) (by omega) dX3_hasBeds_27 rfl ?_
        have r_2 := RG.set' R (i := 0) (by omega) (by omega)
        refine x_icmp_le 33 C dX3_hasBeds_28 (by decide) ⟨by omega, by omega⟩ ⟨by omega, by omega⟩ (fun c_3 => ?_) (fun c_3 => ?_)
        · refine x_iinc C dX3_hasBeds_33 rfl (by decide) (rfl : _ = [_, _, _, _, _]) ?_
          refine x_goto 3 C dX3_hasBeds_36 (by decide) ?_
          refine G.wk (ih (i + 1) (by omega) (by omega) (by rw [allI_s i0, hi]; simpa using c_3) (by omega)) ?_
          simp only [leL, and_self]
        · refine x_const C dX3_hasBeds_31 ?_
          exact x_iret C D nar_b dX3_hasBeds_32 (e0_bI (fun q => by have q2 := (allI_iff n0.1).mp q i i0 c_1; simp at q2; omega)) rfl rfl rfl
  exact K3 21 0 (by omega) (by omega) allI_0 (by omega)
set_option maxRecDepth 100000 in
set_option maxHeartbeats 4000000 in
theorem m_X3_bookingError {hs : Nat → HV} {tp md : HV} {E : HE} {j : Nat} {h : HV} (hE : HI E) (hj : j < 7) (hh : hs j = h) {K : Int} (R : RG K h) {a n p : Int} (a0 : IR a) (n0 : IR n) (p0 : IR p) : Mt yX3_bookingError cX3_bookingError 4 (some .int) 5 E [.ref (hA E j 0), vI a, vI n, vI p] hs tp md (some (vI (bErr h a n p))) hs tp md := by
  refine mk_Mt hE (plainFor_of_name (by decide)) (Nat.le_of_ble_eq_true rfl) (by intro w0 hw0; simp only [List.mem_cons, List.not_mem_nil, or_false] at hw0; rcases hw0 with rfl | rfl | rfl | rfl <;> rfl) (rfl : _ = [_, _, _, _]) ?_
  intro F C D
  refine x_iload_n C dX3_bookingError_0 rfl ?_
  refine x_aload_n C dX3_bookingError_1 rfl ?_
  refine gh_0_6 C hj hh q_142 dX3_bookingError_2 rfl ?_
  have r_1 := RG.day R
  refine x_icmp_lt 23 C dX3_bookingError_5 (by decide) ⟨by omega, by omega⟩ ⟨by omega, by omega⟩ (fun c_2 => ?_) (fun c_2 => ?_)
  · refine x_ldc (n := (-1000002)) C q_444 dX3_bookingError_23 rfl ?_
    exact x_iret C D rfl dX3_bookingError_25 (by unfold bErr; rw [if_pos (by omega)]) rfl rfl rfl
  · refine x_iload_n C dX3_bookingError_8 rfl ?_
    refine x_sipush C dX3_bookingError_9 (by decide) ?_
    refine x_icmp_gt 23 C dX3_bookingError_12 (by decide) ⟨by omega, by omega⟩ ⟨by omega, by omega⟩ (fun c_3 => ?_) (fun c_3 => ?_)
    · refine x_ldc (n := (-1000002)) C q_444 dX3_bookingError_23 rfl ?_
      exact x_iret C D rfl dX3_bookingError_25 (by unfold bErr; rw [if_pos (by omega)]) rfl rfl rfl
    · refine x_iload_n C dX3_bookingError_15 rfl ?_
      refine x_iload_n C dX3_bookingError_16 rfl ?_
      refine x_callSN (nA := 2) (As := [vI n, vI p]) (rest := []) C (m_X6_areNightsAndPersons hE (n := n) (p := p) ⟨by omega, by omega⟩ ⟨by omega, by omega⟩) rfl q_433 q_21 q_434 (by decide +kernel) rfl (by decide) (by decide) (Nat.le_of_ble_eq_true rfl) dX3_bookingError_17 rfl ?_
      refine x_bz_ne 26 C dX3_bookingError_20 (by decide) (fun c_4 => ?_) (fun c_4 => ?_)
      · refine x_aload_n C dX3_bookingError_26 rfl ?_
        refine x_iload_n C dX3_bookingError_27 rfl ?_
        refine x_iload_n C dX3_bookingError_28 rfl ?_
        refine x_iload_n C dX3_bookingError_29 rfl ?_
        refine x_callV (nA := 3) (As := [vI a, vI n, vI p]) (rest := []) C (m_X3_hasBeds hE hj hh R ⟨by omega, by omega⟩ ⟨by omega, by omega⟩ ⟨by omega, by omega⟩) q_445 q_446 q_447 q_22 q_448 (by decide +kernel) (wl_h hj hh 0 (by decide)) rfl rfl (by decide) (by decide) (Nat.le_of_ble_eq_true rfl) dX3_bookingError_30 rfl ?_
        refine x_bz_ne 39 C dX3_bookingError_33 (by decide) (fun c_5 => ?_) (fun c_5 => ?_)
        · refine x_aload_n C dX3_bookingError_39 rfl ?_
          refine gh_0_2 C hj hh q_134 dX3_bookingError_40 ?_
          refine gh_3_7 C hj hh q_78 dX3_bookingError_43 rfl ?_
          have r_6 := RG.made R
          refine x_bipush C dX3_bookingError_46 (by decide) ?_
          refine x_icmp_lt 56 C dX3_bookingError_48 (by decide) ⟨by omega, by omega⟩ ⟨by omega, by omega⟩ (fun c_7 => ?_) (fun c_7 => ?_)
          · refine x_const C dX3_bookingError_56 ?_
            exact x_iret C D rfl dX3_bookingError_57 (by unfold bErr; rw [if_neg (by omega), if_neg (not_not_intro c_5), if_neg (by omega)]) rfl rfl rfl
          · refine x_ldc (n := (-1000003)) C q_451 dX3_bookingError_51 rfl ?_
            refine x_goto 57 C dX3_bookingError_53 (by decide) ?_
            exact x_iret C D rfl dX3_bookingError_57 (by unfold bErr; rw [if_neg (by omega), if_neg (not_not_intro c_5), if_pos c_7]) rfl rfl rfl
        · refine x_ldc (n := (-1000004)) C q_450 dX3_bookingError_36 rfl ?_
          exact x_iret C D rfl dX3_bookingError_38 (by unfold bErr; rw [if_neg (by omega), if_pos c_5]) rfl rfl rfl
      · refine x_ldc (n := (-1000002)) C q_444 dX3_bookingError_23 rfl ?_
        exact x_iret C D rfl dX3_bookingError_25 (by unfold bErr; rw [if_pos (by omega)]) rfl rfl rfl
set_option maxRecDepth 100000 in
set_option maxHeartbeats 4000000 in
theorem m_X3_addBooking {hs : Nat → HV} {tp md : HV} {E : HE} {j : Nat} {h : HV} (hE : HI E) (hj : j < 7) (hh : hs j = h) (m0 : 0 ≤ h 3 7) (m1 : h 3 7 < 80) {a n p : Int} {hs9 : Nat → HV} (he : putH hs j (hAdd h a n p) = hs9) : Mt yX3_addBooking cX3_addBooking 5 (some .int) 2 E [.ref (hA E j 0), vI a, vI n, vI p] hs tp md (some (vI (h 3 7))) hs9 tp md := by
  subst he
  refine mk_Mt hE (plainFor_of_name (by decide)) (Nat.le_of_ble_eq_true rfl) (by intro w0 hw0; simp only [List.mem_cons, List.not_mem_nil, or_false] at hw0; rcases hw0 with rfl | rfl | rfl | rfl <;> rfl) (rfl : _ = [_, _, _, _, _]) ?_
  intro F C D
  refine x_iload_n C dX3_addBooking_0 rfl ?_
  refine x_iload_n C dX3_addBooking_1 rfl ?_
  refine x_imul C dX3_addBooking_2 ?_
  refine x_aload_n C dX3_addBooking_3 rfl ?_
  refine gh_0_0 C hj hh q_131 dX3_addBooking_4 ?_
  refine x_const C dX3_addBooking_7 ?_
  refine lh_1 C hj hh (by omega) (by omega) dX3_addBooking_8 rfl ?_
  refine x_imul C dX3_addBooking_9 ?_
  refine x_istore C dX3_addBooking_10 (by decide) (rfl : _ = [_, _, _, _, _]) ?_
  refine x_aload_n C dX3_addBooking_12 rfl ?_
  refine x_dup C dX3_addBooking_13 rfl ?_
  refine gh_0_8 C hj hh q_146 dX3_addBooking_14 rfl ?_
  refine x_iload C dX3_addBooking_17 rfl ?_
  refine x_iadd C dX3_addBooking_19 ?_
  refine ph_0_8 C hj hh q_146 dX3_addBooking_20 rfl ?_
  refine x_aload_n C dX3_addBooking_23 rfl ?_
  refine gh_0_2 C hj putH_same q_134 dX3_addBooking_24 ?_
  refine x_iload_n C dX3_addBooking_27 rfl ?_
  refine x_iload_n C dX3_addBooking_28 rfl ?_
  refine x_iload_n C dX3_addBooking_29 rfl ?_
  refine x_iload C dX3_addBooking_30 rfl ?_
  refine x_callV (nA := 4) (As := [vI a, vI n, vI p, vI ((p * n) * (h 1 3))]) (rest := []) C (m_X1_add (h := (upr h 0 (up1 (h 0) 8 ((h 0 8) + ((p * n) * (h 1 3)))))) hE hj putH_same m0 m1 putH_put) q_464 q_465 q_466 q_24 q_467 (by decide +kernel) (wl_h hj putH_same 3 (by decide)) rfl rfl (by decide) (by decide) (Nat.le_of_ble_eq_true rfl) dX3_addBooking_32 rfl ?_
  exact x_iret C D rfl dX3_addBooking_35 rfl rfl rfl rfl
set_option maxRecDepth 100000 in
set_option maxHeartbeats 4000000 in
theorem m_X3_refundOf {hs : Nat → HV} {tp md : HV} {E : HE} {j : Nat} {h : HV} (hE : HI E) (hj : j < 7) (hh : hs j = h) {K : Int} (R : RG K h) {b : Int} (b0 : 0 ≤ b) (b1 : b < 80) : Mt yX3_refundOf cX3_refundOf 4 (some .int) 3 E [.ref (hA E j 0), vI b] hs tp md (some (vI (hRef h b))) hs tp md := by
  refine mk_Mt hE (plainFor_of_name (by decide)) (Nat.le_of_ble_eq_true rfl) (by intro w0 hw0; simp only [List.mem_cons, List.not_mem_nil, or_false] at hw0; rcases hw0 with rfl | rfl <;> rfl) (rfl : _ = [_, _, _, _]) ?_
  intro F C D
  refine x_aload_n C dX3_refundOf_0 rfl ?_
  refine gh_0_2 C hj hh q_134 dX3_refundOf_1 ?_
  refine gh_3_1 C hj hh q_60 dX3_refundOf_4 ?_
  refine x_iload_n C dX3_refundOf_7 rfl ?_
  refine lh_5 C hj hh (by omega) (by omega) dX3_refundOf_8 rfl ?_
  have r_1 := RG.arr R (b := b) (by omega) (by omega)
  refine x_istore_n C dX3_refundOf_9 (by decide) (rfl : _ = [_, _, _, _]) ?_
  refine x_iload_n C dX3_refundOf_10 rfl ?_
  refine x_aload_n C dX3_refundOf_11 rfl ?_
  refine gh_0_6 C hj hh q_142 dX3_refundOf_12 rfl ?_
  have r_2 := RG.day R
  refine x_isub C dX3_refundOf_15 ?_
  refine x_aload_n C dX3_refundOf_16 rfl ?_
  refine gh_0_0 C hj hh q_131 dX3_refundOf_17 ?_
  refine x_const C dX3_refundOf_20 ?_
  refine lh_1 C hj hh (by omega) (by omega) dX3_refundOf_21 rfl ?_
  have r_3 := RG.set' R (i := 4) (by omega) (by omega)
  refine x_icmp_lt 29 C dX3_refundOf_22 (by decide) ⟨by omega, by omega⟩ ⟨by omega, by omega⟩ (fun c_4 => ?_) (fun c_4 => ?_)
  · refine x_const C dX3_refundOf_29 ?_
    refine x_istore_n C dX3_refundOf_30 (by decide) (rfl : _ = [_, _, _, _]) ?_
    refine x_iload_n C dX3_refundOf_31 rfl ?_
    refine x_if_ne 43 C dX3_refundOf_32 (by decide) ⟨by decide, by decide⟩ (fun c_5 => absurd c_5 (by decide)) (fun _ => ?_)
    refine x_aload_n C dX3_refundOf_35 rfl ?_
    refine x_iload_n C dX3_refundOf_36 rfl ?_
    refine x_callV (nA := 1) (As := [vI (h 5 b)]) (rest := []) C (m_X3_isUpOpen hE hj hh R ⟨by omega, by omega⟩) q_378 q_379 q_380 q_22 q_381 (by decide +kernel) (wl_h hj hh 0 (by decide)) rfl rfl (by decide) (by decide) (Nat.le_of_ble_eq_true rfl) dX3_refundOf_37 rfl ?_
    refine x_bz_ne 55 C dX3_refundOf_40 (by decide) (fun c_6 => ?_) (fun c_6 => ?_)
    · refine x_const C dX3_refundOf_55 ?_
      exact x_iret C D rfl dX3_refundOf_56 (by simp only [hRef]; split <;> first | rfl | omega) rfl rfl rfl
    · refine x_aload_n C dX3_refundOf_43 rfl ?_
      refine gh_0_2 C hj hh q_134 dX3_refundOf_44 ?_
      refine gh_3_5 C hj hh q_72 dX3_refundOf_47 ?_
      refine x_iload_n C dX3_refundOf_50 rfl ?_
      refine lh_9 C hj hh (by omega) (by omega) dX3_refundOf_51 rfl ?_
      refine x_goto 56 C dX3_refundOf_52 (by decide) ?_
      exact x_iret C D rfl dX3_refundOf_56 (by simp only [hRef]; split <;> first | rfl | omega) rfl rfl rfl
  · refine x_const C dX3_refundOf_25 ?_
    refine x_goto 30 C dX3_refundOf_26 (by decide) ?_
    refine x_istore_n C dX3_refundOf_30 (by decide) (rfl : _ = [_, _, _, _]) ?_
    refine x_iload_n C dX3_refundOf_31 rfl ?_
    refine x_if_ne 43 C dX3_refundOf_32 (by decide) ⟨by decide, by decide⟩ (fun _ => ?_) (fun c_7 => absurd c_7 (by decide))
    refine x_aload_n C dX3_refundOf_43 rfl ?_
    refine gh_0_2 C hj hh q_134 dX3_refundOf_44 ?_
    refine gh_3_5 C hj hh q_72 dX3_refundOf_47 ?_
    refine x_iload_n C dX3_refundOf_50 rfl ?_
    refine lh_9 C hj hh (by omega) (by omega) dX3_refundOf_51 rfl ?_
    refine x_goto 56 C dX3_refundOf_52 (by decide) ?_
    exact x_iret C D rfl dX3_refundOf_56 (by simp only [hRef]; split <;> first | rfl | omega) rfl rfl rfl
set_option maxRecDepth 100000 in
set_option maxHeartbeats 4000000 in
theorem m_X3_cancelBooking {hs : Nat → HV} {tp md : HV} {E : HE} {j : Nat} {h : HV} (hE : HI E) (hj : j < 7) (hh : hs j = h) {K : Int} (R : RG K h) {b : Int} (b0 : 0 ≤ b) (b1 : b < 80) {hs9 : Nat → HV} (he : putH hs j (hCan h b) = hs9) : Mt yX3_cancelBooking cX3_cancelBooking 3 (some .int) 4 E [.ref (hA E j 0), vI b] hs tp md (some (vI (hRef h b))) hs9 tp md := by
  subst he
  refine mk_Mt hE (plainFor_of_name (by decide)) (Nat.le_of_ble_eq_true rfl) (by intro w0 hw0; simp only [List.mem_cons, List.not_mem_nil, or_false] at hw0; rcases hw0 with rfl | rfl <;> rfl) (rfl : _ = [_, _, _]) ?_
  intro F C D
  refine x_aload_n C dX3_cancelBooking_0 rfl ?_
  refine x_iload_n C dX3_cancelBooking_1 rfl ?_
  refine x_callV (nA := 1) (As := [vI b]) (rest := []) C (m_X3_refundOf hE hj hh R (by omega) (by omega)) q_603 q_375 q_376 q_22 q_377 (by decide +kernel) (wl_h hj hh 0 (by decide)) rfl rfl (by decide) (by decide) (Nat.le_of_ble_eq_true rfl) dX3_cancelBooking_2 rfl ?_
  refine x_istore_n C dX3_cancelBooking_5 (by decide) (rfl : _ = [_, _, _]) ?_
  refine x_aload_n C dX3_cancelBooking_6 rfl ?_
  refine gh_0_2 C hj hh q_134 dX3_cancelBooking_7 ?_
  refine gh_3_0 C hj hh q_57 dX3_cancelBooking_10 ?_
  refine x_iload_n C dX3_cancelBooking_13 rfl ?_
  refine x_const C dX3_cancelBooking_14 ?_
  refine sh_4 C hj hh (by omega) (by omega) dX3_cancelBooking_15 rfl ?_
  refine x_aload_n C dX3_cancelBooking_16 rfl ?_
  refine x_dup C dX3_cancelBooking_17 rfl ?_
  refine gh_0_8 C hj putH_same q_146 dX3_cancelBooking_18 (show _ = h 0 8 from rfl) ?_
  refine x_iload_n C dX3_cancelBooking_21 rfl ?_
  refine x_isub C dX3_cancelBooking_22 ?_
  refine ph_0_8 C hj putH_same q_146 dX3_cancelBooking_23 putH_put ?_
  refine x_aload_n C dX3_cancelBooking_26 rfl ?_
  refine x_dup C dX3_cancelBooking_27 rfl ?_
  refine gh_0_9 C hj putH_same q_148 dX3_cancelBooking_28 (show _ = h 0 9 from rfl) ?_
  refine x_aload_n C dX3_cancelBooking_31 rfl ?_
  refine gh_0_2 C hj putH_same q_134 dX3_cancelBooking_32 ?_
  refine gh_3_5 C hj putH_same q_72 dX3_cancelBooking_35 ?_
  refine x_iload_n C dX3_cancelBooking_38 rfl ?_
  refine lh_9 C hj putH_same (by omega) (by omega) dX3_cancelBooking_39 (show _ = h 9 b from rfl) ?_
  refine x_iload_n C dX3_cancelBooking_40 rfl ?_
  refine x_isub C dX3_cancelBooking_41 ?_
  refine x_iadd C dX3_cancelBooking_42 ?_
  refine ph_0_9 C hj putH_same q_148 dX3_cancelBooking_43 putH_w ?_
  refine x_iload_n C dX3_cancelBooking_46 rfl ?_
  exact x_iret C D rfl dX3_cancelBooking_47 rfl rfl rfl rfl
set_option maxRecDepth 100000 in
set_option maxHeartbeats 4000000 in
theorem m_X3_canStayLonger {hs : Nat → HV} {tp md : HV} {E : HE} {j : Nat} {h : HV} (hE : HI E) (hj : j < 7) (hh : hs j = h) {K : Int} (R : RG K h) {b : Int} (b0 : 0 ≤ b) (b1 : b < 80) {n : Int} (n0 : 1 ≤ n ∧ n ≤ 9) : Mt yX3_canStayLonger cX3_canStayLonger 4 (some .boolean) 5 E [.ref (hA E j 0), vI b, vI n] hs tp md (some (vI (bI (h 4 b = 1 ∧ h 0 6 ≤ h 5 b + h 6 b ∧ h 6 b + n ≤ 9 ∧ hasB h (h 5 b + h 6 b) n (h 7 b))))) hs tp md := by
  refine mk_Mt hE (plainFor_of_name (by decide)) (Nat.le_of_ble_eq_true rfl) (by intro w0 hw0; simp only [List.mem_cons, List.not_mem_nil, or_false] at hw0; rcases hw0 with rfl | rfl | rfl <;> rfl) (rfl : _ = [_, _, _, _]) ?_
  intro F C D
  have rar := RG.arr R b0 b1
  have rni := RG.nig R b0 b1
  refine x_aload_n C dX3_canStayLonger_0 rfl ?_
  refine gh_0_2 C hj hh q_134 dX3_canStayLonger_1 ?_
  refine x_iload_n C dX3_canStayLonger_4 rfl ?_
  refine x_callV (nA := 1) (As := [vI b]) (rest := []) C (m_X1_end hE hj hh (by omega) (by omega)) q_500 q_339 q_340 q_24 q_341 (by decide +kernel) (wl_h hj hh 3 (by decide)) rfl rfl (by decide) (by decide) (Nat.le_of_ble_eq_true rfl) dX3_canStayLonger_5 rfl ?_
  refine x_istore_n C dX3_canStayLonger_8 (by decide) (rfl : _ = [_, _, _, _]) ?_
  refine x_aload_n C dX3_canStayLonger_9 rfl ?_
  refine gh_0_2 C hj hh q_134 dX3_canStayLonger_10 ?_
  refine gh_3_0 C hj hh q_57 dX3_canStayLonger_13 ?_
  refine x_iload_n C dX3_canStayLonger_16 rfl ?_
  refine lh_4 C hj hh (by omega) (by omega) dX3_canStayLonger_17 rfl ?_
  have r_1 := RG.how R (b := b) (by omega) (by omega)
  refine x_const C dX3_canStayLonger_18 ?_
  refine x_icmp_ne 68 C dX3_canStayLonger_19 (by decide) ⟨by omega, by omega⟩ ⟨by omega, by omega⟩ (fun c_2 => ?_) (fun c_2 => ?_)
  · refine x_const C dX3_canStayLonger_68 ?_
    exact x_iret C D nar_b dX3_canStayLonger_69 (e0_bI (fun q => by first | (have q1 := q.1; have q2 := q.2.1; have q3 := q.2.2.1; omega) | exact absurd q.2.2.2 c_2)) rfl rfl rfl
  · refine x_iload_n C dX3_canStayLonger_22 rfl ?_
    refine x_aload_n C dX3_canStayLonger_23 rfl ?_
    refine gh_0_6 C hj hh q_142 dX3_canStayLonger_24 rfl ?_
    have r_3 := RG.day R
    refine x_icmp_lt 68 C dX3_canStayLonger_27 (by decide) ⟨by omega, by omega⟩ ⟨by omega, by omega⟩ (fun c_4 => ?_) (fun c_4 => ?_)
    · refine x_const C dX3_canStayLonger_68 ?_
      exact x_iret C D nar_b dX3_canStayLonger_69 (e0_bI (fun q => by first | (have q1 := q.1; have q2 := q.2.1; have q3 := q.2.2.1; omega) | exact absurd q.2.2.2 c_4)) rfl rfl rfl
    · refine x_aload_n C dX3_canStayLonger_30 rfl ?_
      refine gh_0_2 C hj hh q_134 dX3_canStayLonger_31 ?_
      refine gh_3_2 C hj hh q_64 dX3_canStayLonger_34 ?_
      refine x_iload_n C dX3_canStayLonger_37 rfl ?_
      refine lh_6 C hj hh (by omega) (by omega) dX3_canStayLonger_38 rfl ?_
      have r_5 := RG.nig R (b := b) (by omega) (by omega)
      refine x_iload_n C dX3_canStayLonger_39 rfl ?_
      refine x_iadd C dX3_canStayLonger_40 ?_
      refine x_bipush C dX3_canStayLonger_41 (by decide) ?_
      refine x_icmp_gt 68 C dX3_canStayLonger_43 (by decide) ⟨by omega, by omega⟩ ⟨by omega, by omega⟩ (fun c_6 => ?_) (fun c_6 => ?_)
      · refine x_const C dX3_canStayLonger_68 ?_
        exact x_iret C D nar_b dX3_canStayLonger_69 (e0_bI (fun q => by first | (have q1 := q.1; have q2 := q.2.1; have q3 := q.2.2.1; omega) | exact absurd q.2.2.2 c_6)) rfl rfl rfl
      · refine x_aload_n C dX3_canStayLonger_46 rfl ?_
        refine x_iload_n C dX3_canStayLonger_47 rfl ?_
        refine x_iload_n C dX3_canStayLonger_48 rfl ?_
        refine x_aload_n C dX3_canStayLonger_49 rfl ?_
        refine gh_0_2 C hj hh q_134 dX3_canStayLonger_50 ?_
        refine gh_3_3 C hj hh q_66 dX3_canStayLonger_53 ?_
        refine x_iload_n C dX3_canStayLonger_56 rfl ?_
        refine lh_7 C hj hh (by omega) (by omega) dX3_canStayLonger_57 rfl ?_
        have r_7 := RG.per R (b := b) (by omega) (by omega)
        refine x_callV (nA := 3) (As := [vI (h 5 b + h 6 b), vI n, vI (h 7 b)]) (rest := []) C (m_X3_hasBeds hE hj hh R ⟨by omega, by omega⟩ ⟨by omega, by omega⟩ ⟨by omega, by omega⟩) q_445 q_446 q_447 q_22 q_448 (by decide +kernel) (wl_h hj hh 0 (by decide)) rfl rfl (by decide) (by decide) (Nat.le_of_ble_eq_true rfl) dX3_canStayLonger_58 rfl ?_
        refine x_bz_eq 68 C dX3_canStayLonger_61 (by decide) (fun c_8 => ?_) (fun c_8 => ?_)
        · refine x_const C dX3_canStayLonger_68 ?_
          exact x_iret C D nar_b dX3_canStayLonger_69 (e0_bI (fun q => by first | (have q1 := q.1; have q2 := q.2.1; have q3 := q.2.2.1; omega) | exact absurd q.2.2.2 c_8)) rfl rfl rfl
        · refine x_const C dX3_canStayLonger_64 ?_
          refine x_goto 69 C dX3_canStayLonger_65 (by decide) ?_
          exact x_iret C D nar_b dX3_canStayLonger_69 (e1_bI ⟨by omega, by omega, by omega, c_8⟩) rfl rfl rfl
set_option maxRecDepth 100000 in
set_option maxHeartbeats 4000000 in
theorem m_X3_isStrandedNow {hs : Nat → HV} {tp md : HV} {E : HE} {j : Nat} {h : HV} (hE : HI E) (hj : j < 7) (hh : hs j = h) {K : Int} (R : RG K h) {b : Int} (b0 : 0 ≤ b) (b1 : b < 80) : Mt yX3_isStrandedNow cX3_isStrandedNow 2 (some .boolean) 3 E [.ref (hA E j 0), vI b] hs tp md (some (vI (bI (gOver h b (h 0 6) ∧ ¬ dnO h)))) hs tp md := by
  refine mk_Mt hE (plainFor_of_name (by decide)) (Nat.le_of_ble_eq_true rfl) (by intro w0 hw0; simp only [List.mem_cons, List.not_mem_nil, or_false] at hw0; rcases hw0 with rfl | rfl <;> rfl) (rfl : _ = [_, _]) ?_
  intro F C D
  refine x_aload_n C dX3_isStrandedNow_0 rfl ?_
  refine gh_0_2 C hj hh q_134 dX3_isStrandedNow_1 ?_
  refine x_iload_n C dX3_isStrandedNow_4 rfl ?_
  refine x_aload_n C dX3_isStrandedNow_5 rfl ?_
  refine gh_0_6 C hj hh q_142 dX3_isStrandedNow_6 rfl ?_
  have r_1 := RG.day R
  refine x_callV (nA := 2) (As := [vI b, vI (h 0 6)]) (rest := []) C (m_X1_isOver hE hj hh R (by omega) (by omega) ⟨by omega, by omega⟩) q_346 q_347 q_348 q_24 q_349 (by decide +kernel) (wl_h hj hh 3 (by decide)) rfl rfl (by decide) (by decide) (Nat.le_of_ble_eq_true rfl) dX3_isStrandedNow_9 rfl ?_
  refine x_bz_eq 26 C dX3_isStrandedNow_12 (by decide) (fun c_2 => ?_) (fun c_2 => ?_)
  · refine x_const C dX3_isStrandedNow_26 ?_
    exact x_iret C D nar_b dX3_isStrandedNow_27 (e0_bI (fun q => absurd q.1 c_2)) rfl rfl rfl
  · refine x_aload_n C dX3_isStrandedNow_15 rfl ?_
    refine x_callV (nA := 0) (As := []) (rest := []) C (m_X3_isDownOpen hE hj hh R) q_351 q_352 q_353 q_22 q_354 (by decide +kernel) (wl_h hj hh 0 (by decide)) rfl rfl (by decide) (by decide) (Nat.le_of_ble_eq_true rfl) dX3_isStrandedNow_16 rfl ?_
    refine x_bz_ne 26 C dX3_isStrandedNow_19 (by decide) (fun c_3 => ?_) (fun c_3 => ?_)
    · refine x_const C dX3_isStrandedNow_26 ?_
      exact x_iret C D nar_b dX3_isStrandedNow_27 (e0_bI (fun q => absurd c_3 q.2)) rfl rfl rfl
    · refine x_const C dX3_isStrandedNow_22 ?_
      refine x_goto 27 C dX3_isStrandedNow_23 (by decide) ?_
      exact x_iret C D nar_b dX3_isStrandedNow_27 (e1_bI ⟨c_2, c_3⟩) rfl rfl rfl
