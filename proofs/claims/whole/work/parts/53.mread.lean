set_option maxRecDepth 100000 in
set_option maxHeartbeats 4000000 in
theorem m_X7_isNext {hs : Nat → HV} {tp md : HV} {E : HE} (hE : HI E) {p L l m : Int} {f : Int → Int} (hp : md 0 5 = p) (hL : md 0 7 = L) (hf : md 5 = f) (p0 : 0 ≤ p ∧ p ≤ 61) (T : TX f L) (l0 : IR l) (m0 : IR m) : Mt yX7_isNext cX7_isNext 3 (some .boolean) 2 E [.ref (mA E 0), vI l, vI m] hs tp md (some (vI (bI (p < L ∧ l ≤ f p ∧ f p ≤ m)))) hs tp md := by
  subst hp; subst hL; subst hf
  have tl := T.1
  refine mk_Mt hE (plainFor_of_name (by decide)) (Nat.le_of_ble_eq_true rfl) (by intro w0 hw0; simp only [List.mem_cons, List.not_mem_nil, or_false] at hw0; rcases hw0 with rfl | rfl | rfl <;> rfl) (rfl : _ = [_, _, _]) ?_
  intro F C D
  refine x_aload_n C dX7_isNext_0 rfl ?_
  refine gm_0_5 C q_756 dX7_isNext_1 rfl ?_
  refine x_aload_n C dX7_isNext_4 rfl ?_
  refine gm_0_7 C q_758 dX7_isNext_5 rfl ?_
  refine x_icmp_ge 32 C dX7_isNext_8 (by decide) ⟨by omega, by omega⟩ ⟨by omega, by omega⟩ (fun c_1 => ?_) (fun c_1 => ?_)
  · refine x_const C dX7_isNext_32 ?_
    exact x_iret C D nar_b dX7_isNext_33 (e0_bI (fun q => absurd q.1 (by omega))) rfl rfl rfl
  · refine x_aload_n C dX7_isNext_11 rfl ?_
    refine gm_0_4 C q_755 dX7_isNext_12 ?_
    refine x_aload_n C dX7_isNext_15 rfl ?_
    refine gm_0_5 C q_756 dX7_isNext_16 rfl ?_
    refine lm_5 C (by omega) (by omega) dX7_isNext_19 rfl ?_
    have r_2 := T.2 (md 0 5) (by omega) (by omega)
    refine x_iload_n C dX7_isNext_20 rfl ?_
    refine x_iload_n C dX7_isNext_21 rfl ?_
    refine x_callS (nA := 3) (As := [vI (md 5 (md 0 5)), vI l, vI m]) (rest := []) C (m_X7_in hE (v := md 5 (md 0 5)) (l := l) (m := m) ⟨by omega, by omega⟩ ⟨by omega, by omega⟩ ⟨by omega, by omega⟩) q_787 q_788 q_64 q_789 (by decide +kernel) rfl (by decide) (by decide) (Nat.le_of_ble_eq_true rfl) dX7_isNext_22 rfl ?_
    refine x_bz_eq 32 C dX7_isNext_25 (by decide) (fun c_3 => ?_) (fun c_3 => ?_)
    · refine x_const C dX7_isNext_32 ?_
      exact x_iret C D nar_b dX7_isNext_33 (e0_bI (fun q => absurd q.2 c_3)) rfl rfl rfl
    · refine x_const C dX7_isNext_28 ?_
      refine x_goto 33 C dX7_isNext_29 (by decide) ?_
      exact x_iret C D nar_b dX7_isNext_33 (e1_bI ⟨by omega, c_3⟩) rfl rfl rfl
set_option maxRecDepth 100000 in
set_option maxHeartbeats 4000000 in
theorem m_X7_readBooking {hs : Nat → HV} {tp md : HV} {E : HE} (hE : HI E) {p : Int} (T : TX (md 5) (md 0 7)) (p0 : 0 ≤ p ∧ p ≤ 61) : Mt yX7_readBooking cX7_readBooking 4 (some .int) 3 E [.ref (mA E 0)] hs tp (mPl md p) (some (vI ((rdB (md 5) (md 0 7) p).1))) hs tp (mPl md (rdB (md 5) (md 0 7) p).2) := by
  refine mk_Mt hE (plainFor_of_name (by decide)) (Nat.le_of_ble_eq_true rfl) (by intro w0 hw0; simp only [List.mem_cons, List.not_mem_nil, or_false] at hw0; rcases hw0 with rfl <;> rfl) (rfl : _ = [_, _, _, _]) ?_
  intro F C D
  have tl := T.1
  refine x_aload_n C dX7_readBooking_0 rfl ?_
  refine x_bipush C dX7_readBooking_1 (by decide) ?_
  refine x_bipush C dX7_readBooking_3 (by decide) ?_
  refine x_callV (nA := 2) (As := [vI 48, vI 57]) (rest := []) C (m_X7_isNext hE (md := (upr md 0 (up1 (md 0) 5 p))) (p := p) (L := ((md 0) 7)) (f := md 5) (l := 48) (m := 57) (show (up1 (md 0) 5 p) 5 = p from up1_same) (show (up1 (md 0) 5 p) 7 = (md 0) 7 from by rw [up1_ne (by omega)]) rfl ⟨by omega, by omega⟩ T (by decide) (by decide)) q_834 q_836 q_30 q_64 q_837 (by decide +kernel) (wl_m 0 (by decide)) rfl rfl (by decide) (by decide) (Nat.le_of_ble_eq_true rfl) dX7_readBooking_5 rfl ?_
  refine x_bz_ne 19 C dX7_readBooking_8 (by decide) (fun c_1 => ?_) (fun c_1 => ?_)
  · refine x_aload_n C dX7_readBooking_19 rfl ?_
    refine gm_0_4 C q_755 dX7_readBooking_20 ?_
    refine x_aload_n C dX7_readBooking_23 rfl ?_
    refine gm_0_5 C q_756 dX7_readBooking_24 (show (up1 (md 0) 5 p) 5 = p from up1_same) ?_
    refine lm_5 C (by omega) (by omega) dX7_readBooking_27 (show _ = md 5 p from rfl) ?_
    have r_2 := T.2 p (by omega) (by omega)
    refine x_bipush C dX7_readBooking_28 (by decide) ?_
    refine x_isub C dX7_readBooking_30 ?_
    refine x_istore_n C dX7_readBooking_31 (by decide) (rfl : _ = [_, _, _, _]) ?_
    refine x_aload_n C dX7_readBooking_32 rfl ?_
    refine x_dup C dX7_readBooking_33 rfl ?_
    refine gm_0_5 C q_756 dX7_readBooking_34 (show (up1 (md 0) 5 p) 5 = p from up1_same) ?_
    refine x_const C dX7_readBooking_37 ?_
    refine x_iadd C dX7_readBooking_38 ?_
    refine pm_0_5 C q_756 dX7_readBooking_39 upr_ww ?_
    have K42 : ∀ (nn : Nat) (n : Nat) (v q : Int), (0 ≤ v ∧ v ≤ 899) → (1 ≤ q ∧ q ≤ 61) → md 0 7 ≤ q + n → rdQ (md 5) (md 0 7) p = rdD (md 5) (md 0 7) n v q → (n : Int) < nn →  G F E hs tp (mPl md q) 42 [some (.ref (mA E 0)), some (vI v), none, none] [] := by
      intro nn
      induction nn with
      | zero => intro n v q v0 q0 qn hq hz; exact absurd hz (by omega)
      | succ nn ih =>
        intro n v q v0 q0 qn hq hz
        refine x_iload_n C dX7_readBooking_42 rfl ?_
        refine x_if_le 111 C dX7_readBooking_43 (by decide) ⟨by omega, by omega⟩ (fun c_3 => ?_) (fun c_3 => ?_)
        · have e9 : rdD (md 5) (md 0 7) n v q = (v, q) := rdD_stop (fun z => by have z1 := z.1; have z2 := z.2.2; first | omega | exact absurd z.2.1 (by assumption))
          rw [e9] at hq
          refine x_aload_n C dX7_readBooking_111 rfl ?_
          refine x_bipush C dX7_readBooking_112 (by decide) ?_
          refine x_bipush C dX7_readBooking_114 (by decide) ?_
          refine x_callV (nA := 2) (As := [vI 43, vI 43]) (rest := []) C (m_X7_isNext hE (md := (upr md 0 (up1 (md 0) 5 q))) (p := q) (L := ((md 0) 7)) (f := md 5) (l := 43) (m := 43) (show (up1 (md 0) 5 q) 5 = q from up1_same) (show (up1 (md 0) 5 q) 7 = (md 0) 7 from by rw [up1_ne (by omega)]) rfl ⟨by omega, by omega⟩ T (by decide) (by decide)) q_834 q_836 q_30 q_64 q_837 (by decide +kernel) (wl_m 0 (by decide)) rfl rfl (by decide) (by decide) (Nat.le_of_ble_eq_true rfl) dX7_readBooking_116 rfl ?_
          refine x_bz_ne 130 C dX7_readBooking_119 (by decide) (fun c_4 => ?_) (fun c_4 => ?_)
          · refine x_aload_n C dX7_readBooking_130 rfl ?_
            refine x_dup C dX7_readBooking_131 rfl ?_
            refine gm_0_5 C q_756 dX7_readBooking_132 (show (up1 (md 0) 5 q) 5 = q from up1_same) ?_
            refine x_const C dX7_readBooking_135 ?_
            refine x_iadd C dX7_readBooking_136 ?_
            refine pm_0_5 C q_756 dX7_readBooking_137 upr_ww ?_
            refine x_aload_n C dX7_readBooking_140 rfl ?_
            refine x_bipush C dX7_readBooking_141 (by decide) ?_
            refine x_bipush C dX7_readBooking_143 (by decide) ?_
            refine x_callV (nA := 2) (As := [vI 49, vI 57]) (rest := []) C (m_X7_isNext hE (md := (upr md 0 (up1 (md 0) 5 (q + 1)))) (p := (q + 1)) (L := ((md 0) 7)) (f := md 5) (l := 49) (m := 57) (show (up1 (md 0) 5 (q + 1)) 5 = q + 1 from up1_same) (show (up1 (md 0) 5 (q + 1)) 7 = (md 0) 7 from by rw [up1_ne (by omega)]) rfl ⟨by omega, by omega⟩ T (by decide) (by decide)) q_834 q_836 q_30 q_64 q_837 (by decide +kernel) (wl_m 0 (by decide)) rfl rfl (by decide) (by decide) (Nat.le_of_ble_eq_true rfl) dX7_readBooking_145 rfl ?_
            refine x_bz_ne 159 C dX7_readBooking_148 (by decide) (fun c_5 => ?_) (fun c_5 => ?_)
            · refine x_aload_n C dX7_readBooking_159 rfl ?_
              refine gm_0_4 C q_755 dX7_readBooking_160 ?_
              refine x_aload_n C dX7_readBooking_163 rfl ?_
              refine gm_0_5 C q_756 dX7_readBooking_164 (show (up1 (md 0) 5 (q + 1)) 5 = q + 1 from up1_same) ?_
              refine lm_5 C (by omega) (by omega) dX7_readBooking_167 (show _ = md 5 (q + 1) from rfl) ?_
              have r_6 := T.2 (q + 1) (by omega) (by omega)
              refine x_bipush C dX7_readBooking_168 (by decide) ?_
              refine x_isub C dX7_readBooking_170 ?_
              refine x_istore_n C dX7_readBooking_171 (by decide) (rfl : _ = [_, _, _, _]) ?_
              refine x_aload_n C dX7_readBooking_172 rfl ?_
              refine x_dup C dX7_readBooking_173 rfl ?_
              refine gm_0_5 C q_756 dX7_readBooking_174 (show (up1 (md 0) 5 (q + 1)) 5 = q + 1 from up1_same) ?_
              refine x_const C dX7_readBooking_177 ?_
              refine x_iadd C dX7_readBooking_178 ?_
              refine pm_0_5 C q_756 dX7_readBooking_179 upr_ww ?_
              refine x_aload_n C dX7_readBooking_182 rfl ?_
              refine x_bipush C dX7_readBooking_183 (by decide) ?_
              refine x_bipush C dX7_readBooking_185 (by decide) ?_
              refine x_callV (nA := 2) (As := [vI 120, vI 120]) (rest := []) C (m_X7_isNext hE (md := (upr md 0 (up1 (md 0) 5 ((q + 1) + 1)))) (p := ((q + 1) + 1)) (L := ((md 0) 7)) (f := md 5) (l := 120) (m := 120) (show (up1 (md 0) 5 ((q + 1) + 1)) 5 = (q + 1) + 1 from up1_same) (show (up1 (md 0) 5 ((q + 1) + 1)) 7 = (md 0) 7 from by rw [up1_ne (by omega)]) rfl ⟨by omega, by omega⟩ T (by decide) (by decide)) q_834 q_836 q_30 q_64 q_837 (by decide +kernel) (wl_m 0 (by decide)) rfl rfl (by decide) (by decide) (Nat.le_of_ble_eq_true rfl) dX7_readBooking_187 rfl ?_
              refine x_bz_ne 201 C dX7_readBooking_190 (by decide) (fun c_7 => ?_) (fun c_7 => ?_)
              · refine x_aload_n C dX7_readBooking_201 rfl ?_
                refine x_dup C dX7_readBooking_202 rfl ?_
                refine gm_0_5 C q_756 dX7_readBooking_203 (show (up1 (md 0) 5 ((q + 1) + 1)) 5 = (q + 1) + 1 from up1_same) ?_
                refine x_const C dX7_readBooking_206 ?_
                refine x_iadd C dX7_readBooking_207 ?_
                refine pm_0_5 C q_756 dX7_readBooking_208 upr_ww ?_
                refine x_aload_n C dX7_readBooking_211 rfl ?_
                refine x_bipush C dX7_readBooking_212 (by decide) ?_
                refine x_bipush C dX7_readBooking_214 (by decide) ?_
                refine x_callV (nA := 2) (As := [vI 49, vI 57]) (rest := []) C (m_X7_isNext hE (md := (upr md 0 (up1 (md 0) 5 (((q + 1) + 1) + 1)))) (p := (((q + 1) + 1) + 1)) (L := ((md 0) 7)) (f := md 5) (l := 49) (m := 57) (show (up1 (md 0) 5 (((q + 1) + 1) + 1)) 5 = ((q + 1) + 1) + 1 from up1_same) (show (up1 (md 0) 5 (((q + 1) + 1) + 1)) 7 = (md 0) 7 from by rw [up1_ne (by omega)]) rfl ⟨by omega, by omega⟩ T (by decide) (by decide)) q_834 q_836 q_30 q_64 q_837 (by decide +kernel) (wl_m 0 (by decide)) rfl rfl (by decide) (by decide) (Nat.le_of_ble_eq_true rfl) dX7_readBooking_216 rfl ?_
                refine x_bz_ne 230 C dX7_readBooking_219 (by decide) (fun c_8 => ?_) (fun c_8 => ?_)
                · refine x_aload_n C dX7_readBooking_230 rfl ?_
                  refine gm_0_4 C q_755 dX7_readBooking_231 ?_
                  refine x_aload_n C dX7_readBooking_234 rfl ?_
                  refine gm_0_5 C q_756 dX7_readBooking_235 (show (up1 (md 0) 5 (((q + 1) + 1) + 1)) 5 = ((q + 1) + 1) + 1 from up1_same) ?_
                  refine lm_5 C (by omega) (by omega) dX7_readBooking_238 (show _ = md 5 (((q + 1) + 1) + 1) from rfl) ?_
                  have r_9 := T.2 (((q + 1) + 1) + 1) (by omega) (by omega)
                  refine x_bipush C dX7_readBooking_239 (by decide) ?_
                  refine x_isub C dX7_readBooking_241 ?_
                  refine x_istore_n C dX7_readBooking_242 (by decide) (rfl : _ = [_, _, _, _]) ?_
                  refine x_aload_n C dX7_readBooking_243 rfl ?_
                  refine x_dup C dX7_readBooking_244 rfl ?_
                  refine gm_0_5 C q_756 dX7_readBooking_245 (show (up1 (md 0) 5 (((q + 1) + 1) + 1)) 5 = ((q + 1) + 1) + 1 from up1_same) ?_
                  refine x_const C dX7_readBooking_248 ?_
                  refine x_iadd C dX7_readBooking_249 ?_
                  refine pm_0_5 C q_756 dX7_readBooking_250 upr_ww ?_
                  refine x_bipush C dX7_readBooking_253 (by decide) ?_
                  refine x_iload_n C dX7_readBooking_255 rfl ?_
                  refine x_imul C dX7_readBooking_256 ?_
                  refine x_bipush C dX7_readBooking_257 (by decide) ?_
                  refine x_iload_n C dX7_readBooking_259 rfl ?_
                  refine x_imul C dX7_readBooking_260 ?_
                  refine x_iadd C dX7_readBooking_261 ?_
                  refine x_iload_n C dX7_readBooking_262 rfl ?_
                  refine x_iadd C dX7_readBooking_263 ?_
                  exact x_iret C D rfl dX7_readBooking_264 (by first | (exfalso; omega) | (unfold rdB; rw [if_neg (not_not_intro c_1), hq]; show _ = (rdE (md 5) (md 0 7) v q).1; unfold rdE nx; (repeat (first | rw [if_pos (by first | omega | assumption | exact not_not_intro (by assumption))] | rw [if_neg (by first | omega | assumption | exact not_not_intro (by assumption))])); all_goals rfl)) rfl rfl (show mPl md ((((q + 1) + 1) + 1) + 1) = _ from congrArg (mPl md) (by first | (exfalso; omega) | (unfold rdB; rw [if_neg (not_not_intro c_1), hq]; show _ = (rdE (md 5) (md 0 7) v q).2; unfold rdE nx; (repeat (first | rw [if_pos (by first | omega | assumption | exact not_not_intro (by assumption))] | rw [if_neg (by first | omega | assumption | exact not_not_intro (by assumption))])); all_goals rfl)))
                · refine x_bipush C dX7_readBooking_222 (by decide) ?_
                  refine x_aload_n C dX7_readBooking_224 rfl ?_
                  refine gm_0_5 C q_756 dX7_readBooking_225 (show (up1 (md 0) 5 (((q + 1) + 1) + 1)) 5 = ((q + 1) + 1) + 1 from up1_same) ?_
                  refine x_isub C dX7_readBooking_228 ?_
                  exact x_iret C D rfl dX7_readBooking_229 (by first | (exfalso; omega) | (unfold rdB; rw [if_neg (not_not_intro c_1), hq]; show _ = (rdE (md 5) (md 0 7) v q).1; unfold rdE nx; (repeat (first | rw [if_pos (by first | omega | assumption | exact not_not_intro (by assumption))] | rw [if_neg (by first | omega | assumption | exact not_not_intro (by assumption))])); all_goals rfl)) rfl rfl (show mPl md (((q + 1) + 1) + 1) = _ from congrArg (mPl md) (by first | (exfalso; omega) | (unfold rdB; rw [if_neg (not_not_intro c_1), hq]; show _ = (rdE (md 5) (md 0 7) v q).2; unfold rdE nx; (repeat (first | rw [if_pos (by first | omega | assumption | exact not_not_intro (by assumption))] | rw [if_neg (by first | omega | assumption | exact not_not_intro (by assumption))])); all_goals rfl)))
              · refine x_bipush C dX7_readBooking_193 (by decide) ?_
                refine x_aload_n C dX7_readBooking_195 rfl ?_
                refine gm_0_5 C q_756 dX7_readBooking_196 (show (up1 (md 0) 5 ((q + 1) + 1)) 5 = (q + 1) + 1 from up1_same) ?_
                refine x_isub C dX7_readBooking_199 ?_
                exact x_iret C D rfl dX7_readBooking_200 (by first | (exfalso; omega) | (unfold rdB; rw [if_neg (not_not_intro c_1), hq]; show _ = (rdE (md 5) (md 0 7) v q).1; unfold rdE nx; (repeat (first | rw [if_pos (by first | omega | assumption | exact not_not_intro (by assumption))] | rw [if_neg (by first | omega | assumption | exact not_not_intro (by assumption))])); all_goals rfl)) rfl rfl (show mPl md ((q + 1) + 1) = _ from congrArg (mPl md) (by first | (exfalso; omega) | (unfold rdB; rw [if_neg (not_not_intro c_1), hq]; show _ = (rdE (md 5) (md 0 7) v q).2; unfold rdE nx; (repeat (first | rw [if_pos (by first | omega | assumption | exact not_not_intro (by assumption))] | rw [if_neg (by first | omega | assumption | exact not_not_intro (by assumption))])); all_goals rfl)))
            · refine x_bipush C dX7_readBooking_151 (by decide) ?_
              refine x_aload_n C dX7_readBooking_153 rfl ?_
              refine gm_0_5 C q_756 dX7_readBooking_154 (show (up1 (md 0) 5 (q + 1)) 5 = q + 1 from up1_same) ?_
              refine x_isub C dX7_readBooking_157 ?_
              exact x_iret C D rfl dX7_readBooking_158 (by first | (exfalso; omega) | (unfold rdB; rw [if_neg (not_not_intro c_1), hq]; show _ = (rdE (md 5) (md 0 7) v q).1; unfold rdE nx; (repeat (first | rw [if_pos (by first | omega | assumption | exact not_not_intro (by assumption))] | rw [if_neg (by first | omega | assumption | exact not_not_intro (by assumption))])); all_goals rfl)) rfl rfl (show mPl md (q + 1) = _ from congrArg (mPl md) (by first | (exfalso; omega) | (unfold rdB; rw [if_neg (not_not_intro c_1), hq]; show _ = (rdE (md 5) (md 0 7) v q).2; unfold rdE nx; (repeat (first | rw [if_pos (by first | omega | assumption | exact not_not_intro (by assumption))] | rw [if_neg (by first | omega | assumption | exact not_not_intro (by assumption))])); all_goals rfl)))
          · refine x_bipush C dX7_readBooking_122 (by decide) ?_
            refine x_aload_n C dX7_readBooking_124 rfl ?_
            refine gm_0_5 C q_756 dX7_readBooking_125 (show (up1 (md 0) 5 q) 5 = q from up1_same) ?_
            refine x_isub C dX7_readBooking_128 ?_
            exact x_iret C D rfl dX7_readBooking_129 (by first | (exfalso; omega) | (unfold rdB; rw [if_neg (not_not_intro c_1), hq]; show _ = (rdE (md 5) (md 0 7) v q).1; unfold rdE nx; (repeat (first | rw [if_pos (by first | omega | assumption | exact not_not_intro (by assumption))] | rw [if_neg (by first | omega | assumption | exact not_not_intro (by assumption))])); all_goals rfl)) rfl rfl (show mPl md q = _ from congrArg (mPl md) (by first | (exfalso; omega) | (unfold rdB; rw [if_neg (not_not_intro c_1), hq]; show _ = (rdE (md 5) (md 0 7) v q).2; unfold rdE nx; (repeat (first | rw [if_pos (by first | omega | assumption | exact not_not_intro (by assumption))] | rw [if_neg (by first | omega | assumption | exact not_not_intro (by assumption))])); all_goals rfl)))
        · refine x_aload_n C dX7_readBooking_46 rfl ?_
          refine x_bipush C dX7_readBooking_47 (by decide) ?_
          refine x_bipush C dX7_readBooking_49 (by decide) ?_
          refine x_callV (nA := 2) (As := [vI 48, vI 57]) (rest := []) C (m_X7_isNext hE (md := (upr md 0 (up1 (md 0) 5 q))) (p := q) (L := ((md 0) 7)) (f := md 5) (l := 48) (m := 57) (show (up1 (md 0) 5 q) 5 = q from up1_same) (show (up1 (md 0) 5 q) 7 = (md 0) 7 from by rw [up1_ne (by omega)]) rfl ⟨by omega, by omega⟩ T (by decide) (by decide)) q_834 q_836 q_30 q_64 q_837 (by decide +kernel) (wl_m 0 (by decide)) rfl rfl (by decide) (by decide) (Nat.le_of_ble_eq_true rfl) dX7_readBooking_51 rfl ?_
          refine x_bz_eq 111 C dX7_readBooking_54 (by decide) (fun c_10 => ?_) (fun c_10 => ?_)
          · have e9 : rdD (md 5) (md 0 7) n v q = (v, q) := rdD_stop (fun z => by have z1 := z.1; have z2 := z.2.2; first | omega | exact absurd z.2.1 (by assumption))
            rw [e9] at hq
            refine x_aload_n C dX7_readBooking_111 rfl ?_
            refine x_bipush C dX7_readBooking_112 (by decide) ?_
            refine x_bipush C dX7_readBooking_114 (by decide) ?_
            refine x_callV (nA := 2) (As := [vI 43, vI 43]) (rest := []) C (m_X7_isNext hE (md := (upr md 0 (up1 (md 0) 5 q))) (p := q) (L := ((md 0) 7)) (f := md 5) (l := 43) (m := 43) (show (up1 (md 0) 5 q) 5 = q from up1_same) (show (up1 (md 0) 5 q) 7 = (md 0) 7 from by rw [up1_ne (by omega)]) rfl ⟨by omega, by omega⟩ T (by decide) (by decide)) q_834 q_836 q_30 q_64 q_837 (by decide +kernel) (wl_m 0 (by decide)) rfl rfl (by decide) (by decide) (Nat.le_of_ble_eq_true rfl) dX7_readBooking_116 rfl ?_
            refine x_bz_ne 130 C dX7_readBooking_119 (by decide) (fun c_11 => ?_) (fun c_11 => ?_)
            · refine x_aload_n C dX7_readBooking_130 rfl ?_
              refine x_dup C dX7_readBooking_131 rfl ?_
              refine gm_0_5 C q_756 dX7_readBooking_132 (show (up1 (md 0) 5 q) 5 = q from up1_same) ?_
              refine x_const C dX7_readBooking_135 ?_
              refine x_iadd C dX7_readBooking_136 ?_
              refine pm_0_5 C q_756 dX7_readBooking_137 upr_ww ?_
              refine x_aload_n C dX7_readBooking_140 rfl ?_
              refine x_bipush C dX7_readBooking_141 (by decide) ?_
              refine x_bipush C dX7_readBooking_143 (by decide) ?_
              refine x_callV (nA := 2) (As := [vI 49, vI 57]) (rest := []) C (m_X7_isNext hE (md := (upr md 0 (up1 (md 0) 5 (q + 1)))) (p := (q + 1)) (L := ((md 0) 7)) (f := md 5) (l := 49) (m := 57) (show (up1 (md 0) 5 (q + 1)) 5 = q + 1 from up1_same) (show (up1 (md 0) 5 (q + 1)) 7 = (md 0) 7 from by rw [up1_ne (by omega)]) rfl ⟨by omega, by omega⟩ T (by decide) (by decide)) q_834 q_836 q_30 q_64 q_837 (by decide +kernel) (wl_m 0 (by decide)) rfl rfl (by decide) (by decide) (Nat.le_of_ble_eq_true rfl) dX7_readBooking_145 rfl ?_
              refine x_bz_ne 159 C dX7_readBooking_148 (by decide) (fun c_12 => ?_) (fun c_12 => ?_)
              · refine x_aload_n C dX7_readBooking_159 rfl ?_
                refine gm_0_4 C q_755 dX7_readBooking_160 ?_
                refine x_aload_n C dX7_readBooking_163 rfl ?_
                refine gm_0_5 C q_756 dX7_readBooking_164 (show (up1 (md 0) 5 (q + 1)) 5 = q + 1 from up1_same) ?_
                refine lm_5 C (by omega) (by omega) dX7_readBooking_167 (show _ = md 5 (q + 1) from rfl) ?_
                have r_13 := T.2 (q + 1) (by omega) (by omega)
                refine x_bipush C dX7_readBooking_168 (by decide) ?_
                refine x_isub C dX7_readBooking_170 ?_
                refine x_istore_n C dX7_readBooking_171 (by decide) (rfl : _ = [_, _, _, _]) ?_
                refine x_aload_n C dX7_readBooking_172 rfl ?_
                refine x_dup C dX7_readBooking_173 rfl ?_
                refine gm_0_5 C q_756 dX7_readBooking_174 (show (up1 (md 0) 5 (q + 1)) 5 = q + 1 from up1_same) ?_
                refine x_const C dX7_readBooking_177 ?_
                refine x_iadd C dX7_readBooking_178 ?_
                refine pm_0_5 C q_756 dX7_readBooking_179 upr_ww ?_
                refine x_aload_n C dX7_readBooking_182 rfl ?_
                refine x_bipush C dX7_readBooking_183 (by decide) ?_
                refine x_bipush C dX7_readBooking_185 (by decide) ?_
                refine x_callV (nA := 2) (As := [vI 120, vI 120]) (rest := []) C (m_X7_isNext hE (md := (upr md 0 (up1 (md 0) 5 ((q + 1) + 1)))) (p := ((q + 1) + 1)) (L := ((md 0) 7)) (f := md 5) (l := 120) (m := 120) (show (up1 (md 0) 5 ((q + 1) + 1)) 5 = (q + 1) + 1 from up1_same) (show (up1 (md 0) 5 ((q + 1) + 1)) 7 = (md 0) 7 from by rw [up1_ne (by omega)]) rfl ⟨by omega, by omega⟩ T (by decide) (by decide)) q_834 q_836 q_30 q_64 q_837 (by decide +kernel) (wl_m 0 (by decide)) rfl rfl (by decide) (by decide) (Nat.le_of_ble_eq_true rfl) dX7_readBooking_187 rfl ?_
                refine x_bz_ne 201 C dX7_readBooking_190 (by decide) (fun c_14 => ?_) (fun c_14 => ?_)
                · refine x_aload_n C dX7_readBooking_201 rfl ?_
                  refine x_dup C dX7_readBooking_202 rfl ?_
                  refine gm_0_5 C q_756 dX7_readBooking_203 (show (up1 (md 0) 5 ((q + 1) + 1)) 5 = (q + 1) + 1 from up1_same) ?_
                  refine x_const C dX7_readBooking_206 ?_
                  refine x_iadd C dX7_readBooking_207 ?_
                  refine pm_0_5 C q_756 dX7_readBooking_208 upr_ww ?_
                  refine x_aload_n C dX7_readBooking_211 rfl ?_
                  refine x_bipush C dX7_readBooking_212 (by decide) ?_
                  refine x_bipush C dX7_readBooking_214 (by decide) ?_
                  refine x_callV (nA := 2) (As := [vI 49, vI 57]) (rest := []) C (m_X7_isNext hE (md := (upr md 0 (up1 (md 0) 5 (((q + 1) + 1) + 1)))) (p := (((q + 1) + 1) + 1)) (L := ((md 0) 7)) (f := md 5) (l := 49) (m := 57) (show (up1 (md 0) 5 (((q + 1) + 1) + 1)) 5 = ((q + 1) + 1) + 1 from up1_same) (show (up1 (md 0) 5 (((q + 1) + 1) + 1)) 7 = (md 0) 7 from by rw [up1_ne (by omega)]) rfl ⟨by omega, by omega⟩ T (by decide) (by decide)) q_834 q_836 q_30 q_64 q_837 (by decide +kernel) (wl_m 0 (by decide)) rfl rfl (by decide) (by decide) (Nat.le_of_ble_eq_true rfl) dX7_readBooking_216 rfl ?_
                  refine x_bz_ne 230 C dX7_readBooking_219 (by decide) (fun c_15 => ?_) (fun c_15 => ?_)
                  · refine x_aload_n C dX7_readBooking_230 rfl ?_
                    refine gm_0_4 C q_755 dX7_readBooking_231 ?_
                    refine x_aload_n C dX7_readBooking_234 rfl ?_
                    refine gm_0_5 C q_756 dX7_readBooking_235 (show (up1 (md 0) 5 (((q + 1) + 1) + 1)) 5 = ((q + 1) + 1) + 1 from up1_same) ?_
                    refine lm_5 C (by omega) (by omega) dX7_readBooking_238 (show _ = md 5 (((q + 1) + 1) + 1) from rfl) ?_
                    have r_16 := T.2 (((q + 1) + 1) + 1) (by omega) (by omega)
                    refine x_bipush C dX7_readBooking_239 (by decide) ?_
                    refine x_isub C dX7_readBooking_241 ?_
                    refine x_istore_n C dX7_readBooking_242 (by decide) (rfl : _ = [_, _, _, _]) ?_
                    refine x_aload_n C dX7_readBooking_243 rfl ?_
                    refine x_dup C dX7_readBooking_244 rfl ?_
                    refine gm_0_5 C q_756 dX7_readBooking_245 (show (up1 (md 0) 5 (((q + 1) + 1) + 1)) 5 = ((q + 1) + 1) + 1 from up1_same) ?_
                    refine x_const C dX7_readBooking_248 ?_
                    refine x_iadd C dX7_readBooking_249 ?_
                    refine pm_0_5 C q_756 dX7_readBooking_250 upr_ww ?_
                    refine x_bipush C dX7_readBooking_253 (by decide) ?_
                    refine x_iload_n C dX7_readBooking_255 rfl ?_
                    refine x_imul C dX7_readBooking_256 ?_
                    refine x_bipush C dX7_readBooking_257 (by decide) ?_
                    refine x_iload_n C dX7_readBooking_259 rfl ?_
                    refine x_imul C dX7_readBooking_260 ?_
                    refine x_iadd C dX7_readBooking_261 ?_
                    refine x_iload_n C dX7_readBooking_262 rfl ?_
                    refine x_iadd C dX7_readBooking_263 ?_
                    exact x_iret C D rfl dX7_readBooking_264 (by first | (exfalso; omega) | (unfold rdB; rw [if_neg (not_not_intro c_1), hq]; show _ = (rdE (md 5) (md 0 7) v q).1; unfold rdE nx; (repeat (first | rw [if_pos (by first | omega | assumption | exact not_not_intro (by assumption))] | rw [if_neg (by first | omega | assumption | exact not_not_intro (by assumption))])); all_goals rfl)) rfl rfl (show mPl md ((((q + 1) + 1) + 1) + 1) = _ from congrArg (mPl md) (by first | (exfalso; omega) | (unfold rdB; rw [if_neg (not_not_intro c_1), hq]; show _ = (rdE (md 5) (md 0 7) v q).2; unfold rdE nx; (repeat (first | rw [if_pos (by first | omega | assumption | exact not_not_intro (by assumption))] | rw [if_neg (by first | omega | assumption | exact not_not_intro (by assumption))])); all_goals rfl)))
                  · refine x_bipush C dX7_readBooking_222 (by decide) ?_
                    refine x_aload_n C dX7_readBooking_224 rfl ?_
                    refine gm_0_5 C q_756 dX7_readBooking_225 (show (up1 (md 0) 5 (((q + 1) + 1) + 1)) 5 = ((q + 1) + 1) + 1 from up1_same) ?_
                    refine x_isub C dX7_readBooking_228 ?_
                    exact x_iret C D rfl dX7_readBooking_229 (by first | (exfalso; omega) | (unfold rdB; rw [if_neg (not_not_intro c_1), hq]; show _ = (rdE (md 5) (md 0 7) v q).1; unfold rdE nx; (repeat (first | rw [if_pos (by first | omega | assumption | exact not_not_intro (by assumption))] | rw [if_neg (by first | omega | assumption | exact not_not_intro (by assumption))])); all_goals rfl)) rfl rfl (show mPl md (((q + 1) + 1) + 1) = _ from congrArg (mPl md) (by first | (exfalso; omega) | (unfold rdB; rw [if_neg (not_not_intro c_1), hq]; show _ = (rdE (md 5) (md 0 7) v q).2; unfold rdE nx; (repeat (first | rw [if_pos (by first | omega | assumption | exact not_not_intro (by assumption))] | rw [if_neg (by first | omega | assumption | exact not_not_intro (by assumption))])); all_goals rfl)))
                · refine x_bipush C dX7_readBooking_193 (by decide) ?_
                  refine x_aload_n C dX7_readBooking_195 rfl ?_
                  refine gm_0_5 C q_756 dX7_readBooking_196 (show (up1 (md 0) 5 ((q + 1) + 1)) 5 = (q + 1) + 1 from up1_same) ?_
                  refine x_isub C dX7_readBooking_199 ?_
                  exact x_iret C D rfl dX7_readBooking_200 (by first | (exfalso; omega) | (unfold rdB; rw [if_neg (not_not_intro c_1), hq]; show _ = (rdE (md 5) (md 0 7) v q).1; unfold rdE nx; (repeat (first | rw [if_pos (by first | omega | assumption | exact not_not_intro (by assumption))] | rw [if_neg (by first | omega | assumption | exact not_not_intro (by assumption))])); all_goals rfl)) rfl rfl (show mPl md ((q + 1) + 1) = _ from congrArg (mPl md) (by first | (exfalso; omega) | (unfold rdB; rw [if_neg (not_not_intro c_1), hq]; show _ = (rdE (md 5) (md 0 7) v q).2; unfold rdE nx; (repeat (first | rw [if_pos (by first | omega | assumption | exact not_not_intro (by assumption))] | rw [if_neg (by first | omega | assumption | exact not_not_intro (by assumption))])); all_goals rfl)))
              · refine x_bipush C dX7_readBooking_151 (by decide) ?_
                refine x_aload_n C dX7_readBooking_153 rfl ?_
                refine gm_0_5 C q_756 dX7_readBooking_154 (show (up1 (md 0) 5 (q + 1)) 5 = q + 1 from up1_same) ?_
                refine x_isub C dX7_readBooking_157 ?_
                exact x_iret C D rfl dX7_readBooking_158 (by first | (exfalso; omega) | (unfold rdB; rw [if_neg (not_not_intro c_1), hq]; show _ = (rdE (md 5) (md 0 7) v q).1; unfold rdE nx; (repeat (first | rw [if_pos (by first | omega | assumption | exact not_not_intro (by assumption))] | rw [if_neg (by first | omega | assumption | exact not_not_intro (by assumption))])); all_goals rfl)) rfl rfl (show mPl md (q + 1) = _ from congrArg (mPl md) (by first | (exfalso; omega) | (unfold rdB; rw [if_neg (not_not_intro c_1), hq]; show _ = (rdE (md 5) (md 0 7) v q).2; unfold rdE nx; (repeat (first | rw [if_pos (by first | omega | assumption | exact not_not_intro (by assumption))] | rw [if_neg (by first | omega | assumption | exact not_not_intro (by assumption))])); all_goals rfl)))
            · refine x_bipush C dX7_readBooking_122 (by decide) ?_
              refine x_aload_n C dX7_readBooking_124 rfl ?_
              refine gm_0_5 C q_756 dX7_readBooking_125 (show (up1 (md 0) 5 q) 5 = q from up1_same) ?_
              refine x_isub C dX7_readBooking_128 ?_
              exact x_iret C D rfl dX7_readBooking_129 (by first | (exfalso; omega) | (unfold rdB; rw [if_neg (not_not_intro c_1), hq]; show _ = (rdE (md 5) (md 0 7) v q).1; unfold rdE nx; (repeat (first | rw [if_pos (by first | omega | assumption | exact not_not_intro (by assumption))] | rw [if_neg (by first | omega | assumption | exact not_not_intro (by assumption))])); all_goals rfl)) rfl rfl (show mPl md q = _ from congrArg (mPl md) (by first | (exfalso; omega) | (unfold rdB; rw [if_neg (not_not_intro c_1), hq]; show _ = (rdE (md 5) (md 0 7) v q).2; unfold rdE nx; (repeat (first | rw [if_pos (by first | omega | assumption | exact not_not_intro (by assumption))] | rw [if_neg (by first | omega | assumption | exact not_not_intro (by assumption))])); all_goals rfl)))
          · refine x_bipush C dX7_readBooking_57 (by decide) ?_
            refine x_iload_n C dX7_readBooking_59 rfl ?_
            refine x_imul C dX7_readBooking_60 ?_
            refine x_aload_n C dX7_readBooking_61 rfl ?_
            refine gm_0_4 C q_755 dX7_readBooking_62 ?_
            refine x_aload_n C dX7_readBooking_65 rfl ?_
            refine gm_0_5 C q_756 dX7_readBooking_66 (show (up1 (md 0) 5 q) 5 = q from up1_same) ?_
            refine lm_5 C (by omega) (by omega) dX7_readBooking_69 (show _ = md 5 q from rfl) ?_
            have r_17 := T.2 q (by omega) (by omega)
            refine x_iadd C dX7_readBooking_70 ?_
            refine x_bipush C dX7_readBooking_71 (by decide) ?_
            refine x_isub C dX7_readBooking_73 ?_
            refine x_sipush C dX7_readBooking_74 (by decide) ?_
            refine x_icmp_gt 111 C dX7_readBooking_77 (by decide) ⟨by omega, by omega⟩ ⟨by omega, by omega⟩ (fun c_18 => ?_) (fun c_18 => ?_)
            · have e9 : rdD (md 5) (md 0 7) n v q = (v, q) := rdD_stop (fun z => by have z1 := z.1; have z2 := z.2.2; first | omega | exact absurd z.2.1 (by assumption))
              rw [e9] at hq
              refine x_aload_n C dX7_readBooking_111 rfl ?_
              refine x_bipush C dX7_readBooking_112 (by decide) ?_
              refine x_bipush C dX7_readBooking_114 (by decide) ?_
              refine x_callV (nA := 2) (As := [vI 43, vI 43]) (rest := []) C (m_X7_isNext hE (md := (upr md 0 (up1 (md 0) 5 q))) (p := q) (L := ((md 0) 7)) (f := md 5) (l := 43) (m := 43) (show (up1 (md 0) 5 q) 5 = q from up1_same) (show (up1 (md 0) 5 q) 7 = (md 0) 7 from by rw [up1_ne (by omega)]) rfl ⟨by omega, by omega⟩ T (by decide) (by decide)) q_834 q_836 q_30 q_64 q_837 (by decide +kernel) (wl_m 0 (by decide)) rfl rfl (by decide) (by decide) (Nat.le_of_ble_eq_true rfl) dX7_readBooking_116 rfl ?_
              refine x_bz_ne 130 C dX7_readBooking_119 (by decide) (fun c_19 => ?_) (fun c_19 => ?_)
              · refine x_aload_n C dX7_readBooking_130 rfl ?_
                refine x_dup C dX7_readBooking_131 rfl ?_
                refine gm_0_5 C q_756 dX7_readBooking_132 (show (up1 (md 0) 5 q) 5 = q from up1_same) ?_
                refine x_const C dX7_readBooking_135 ?_
                refine x_iadd C dX7_readBooking_136 ?_
                refine pm_0_5 C q_756 dX7_readBooking_137 upr_ww ?_
                refine x_aload_n C dX7_readBooking_140 rfl ?_
                refine x_bipush C dX7_readBooking_141 (by decide) ?_
                refine x_bipush C dX7_readBooking_143 (by decide) ?_
                refine x_callV (nA := 2) (As := [vI 49, vI 57]) (rest := []) C (m_X7_isNext hE (md := (upr md 0 (up1 (md 0) 5 (q + 1)))) (p := (q + 1)) (L := ((md 0) 7)) (f := md 5) (l := 49) (m := 57) (show (up1 (md 0) 5 (q + 1)) 5 = q + 1 from up1_same) (show (up1 (md 0) 5 (q + 1)) 7 = (md 0) 7 from by rw [up1_ne (by omega)]) rfl ⟨by omega, by omega⟩ T (by decide) (by decide)) q_834 q_836 q_30 q_64 q_837 (by decide +kernel) (wl_m 0 (by decide)) rfl rfl (by decide) (by decide) (Nat.le_of_ble_eq_true rfl) dX7_readBooking_145 rfl ?_
                refine x_bz_ne 159 C dX7_readBooking_148 (by decide) (fun c_20 => ?_) (fun c_20 => ?_)
                · refine x_aload_n C dX7_readBooking_159 rfl ?_
                  refine gm_0_4 C q_755 dX7_readBooking_160 ?_
                  refine x_aload_n C dX7_readBooking_163 rfl ?_
                  refine gm_0_5 C q_756 dX7_readBooking_164 (show (up1 (md 0) 5 (q + 1)) 5 = q + 1 from up1_same) ?_
                  refine lm_5 C (by omega) (by omega) dX7_readBooking_167 (show _ = md 5 (q + 1) from rfl) ?_
                  have r_21 := T.2 (q + 1) (by omega) (by omega)
                  refine x_bipush C dX7_readBooking_168 (by decide) ?_
                  refine x_isub C dX7_readBooking_170 ?_
                  refine x_istore_n C dX7_readBooking_171 (by decide) (rfl : _ = [_, _, _, _]) ?_
                  refine x_aload_n C dX7_readBooking_172 rfl ?_
                  refine x_dup C dX7_readBooking_173 rfl ?_
                  refine gm_0_5 C q_756 dX7_readBooking_174 (show (up1 (md 0) 5 (q + 1)) 5 = q + 1 from up1_same) ?_
                  refine x_const C dX7_readBooking_177 ?_
                  refine x_iadd C dX7_readBooking_178 ?_
                  refine pm_0_5 C q_756 dX7_readBooking_179 upr_ww ?_
                  refine x_aload_n C dX7_readBooking_182 rfl ?_
                  refine x_bipush C dX7_readBooking_183 (by decide) ?_
                  refine x_bipush C dX7_readBooking_185 (by decide) ?_
                  refine x_callV (nA := 2) (As := [vI 120, vI 120]) (rest := []) C (m_X7_isNext hE (md := (upr md 0 (up1 (md 0) 5 ((q + 1) + 1)))) (p := ((q + 1) + 1)) (L := ((md 0) 7)) (f := md 5) (l := 120) (m := 120) (show (up1 (md 0) 5 ((q + 1) + 1)) 5 = (q + 1) + 1 from up1_same) (show (up1 (md 0) 5 ((q + 1) + 1)) 7 = (md 0) 7 from by rw [up1_ne (by omega)]) rfl ⟨by omega, by omega⟩ T (by decide) (by decide)) q_834 q_836 q_30 q_64 q_837 (by decide +kernel) (wl_m 0 (by decide)) rfl rfl (by decide) (by decide) (Nat.le_of_ble_eq_true rfl) dX7_readBooking_187 rfl ?_
                  refine x_bz_ne 201 C dX7_readBooking_190 (by decide) (fun c_22 => ?_) (fun c_22 => ?_)
                  · refine x_aload_n C dX7_readBooking_201 rfl ?_
                    refine x_dup C dX7_readBooking_202 rfl ?_
                    refine gm_0_5 C q_756 dX7_readBooking_203 (show (up1 (md 0) 5 ((q + 1) + 1)) 5 = (q + 1) + 1 from up1_same) ?_
                    refine x_const C dX7_readBooking_206 ?_
                    refine x_iadd C dX7_readBooking_207 ?_
                    refine pm_0_5 C q_756 dX7_readBooking_208 upr_ww ?_
                    refine x_aload_n C dX7_readBooking_211 rfl ?_
                    refine x_bipush C dX7_readBooking_212 (by decide) ?_
                    refine x_bipush C dX7_readBooking_214 (by decide) ?_
                    refine x_callV (nA := 2) (As := [vI 49, vI 57]) (rest := []) C (m_X7_isNext hE (md := (upr md 0 (up1 (md 0) 5 (((q + 1) + 1) + 1)))) (p := (((q + 1) + 1) + 1)) (L := ((md 0) 7)) (f := md 5) (l := 49) (m := 57) (show (up1 (md 0) 5 (((q + 1) + 1) + 1)) 5 = ((q + 1) + 1) + 1 from up1_same) (show (up1 (md 0) 5 (((q + 1) + 1) + 1)) 7 = (md 0) 7 from by rw [up1_ne (by omega)]) rfl ⟨by omega, by omega⟩ T (by decide) (by decide)) q_834 q_836 q_30 q_64 q_837 (by decide +kernel) (wl_m 0 (by decide)) rfl rfl (by decide) (by decide) (Nat.le_of_ble_eq_true rfl) dX7_readBooking_216 rfl ?_
                    refine x_bz_ne 230 C dX7_readBooking_219 (by decide) (fun c_23 => ?_) (fun c_23 => ?_)
                    · refine x_aload_n C dX7_readBooking_230 rfl ?_
                      refine gm_0_4 C q_755 dX7_readBooking_231 ?_
                      refine x_aload_n C dX7_readBooking_234 rfl ?_
                      refine gm_0_5 C q_756 dX7_readBooking_235 (show (up1 (md 0) 5 (((q + 1) + 1) + 1)) 5 = ((q + 1) + 1) + 1 from up1_same) ?_
                      refine lm_5 C (by omega) (by omega) dX7_readBooking_238 (show _ = md 5 (((q + 1) + 1) + 1) from rfl) ?_
                      have r_24 := T.2 (((q + 1) + 1) + 1) (by omega) (by omega)
                      refine x_bipush C dX7_readBooking_239 (by decide) ?_
                      refine x_isub C dX7_readBooking_241 ?_
                      refine x_istore_n C dX7_readBooking_242 (by decide) (rfl : _ = [_, _, _, _]) ?_
                      refine x_aload_n C dX7_readBooking_243 rfl ?_
                      refine x_dup C dX7_readBooking_244 rfl ?_
                      refine gm_0_5 C q_756 dX7_readBooking_245 (show (up1 (md 0) 5 (((q + 1) + 1) + 1)) 5 = ((q + 1) + 1) + 1 from up1_same) ?_
                      refine x_const C dX7_readBooking_248 ?_
                      refine x_iadd C dX7_readBooking_249 ?_
                      refine pm_0_5 C q_756 dX7_readBooking_250 upr_ww ?_
                      refine x_bipush C dX7_readBooking_253 (by decide) ?_
                      refine x_iload_n C dX7_readBooking_255 rfl ?_
                      refine x_imul C dX7_readBooking_256 ?_
                      refine x_bipush C dX7_readBooking_257 (by decide) ?_
                      refine x_iload_n C dX7_readBooking_259 rfl ?_
                      refine x_imul C dX7_readBooking_260 ?_
                      refine x_iadd C dX7_readBooking_261 ?_
                      refine x_iload_n C dX7_readBooking_262 rfl ?_
                      refine x_iadd C dX7_readBooking_263 ?_
                      exact x_iret C D rfl dX7_readBooking_264 (by first | (exfalso; omega) | (unfold rdB; rw [if_neg (not_not_intro c_1), hq]; show _ = (rdE (md 5) (md 0 7) v q).1; unfold rdE nx; (repeat (first | rw [if_pos (by first | omega | assumption | exact not_not_intro (by assumption))] | rw [if_neg (by first | omega | assumption | exact not_not_intro (by assumption))])); all_goals rfl)) rfl rfl (show mPl md ((((q + 1) + 1) + 1) + 1) = _ from congrArg (mPl md) (by first | (exfalso; omega) | (unfold rdB; rw [if_neg (not_not_intro c_1), hq]; show _ = (rdE (md 5) (md 0 7) v q).2; unfold rdE nx; (repeat (first | rw [if_pos (by first | omega | assumption | exact not_not_intro (by assumption))] | rw [if_neg (by first | omega | assumption | exact not_not_intro (by assumption))])); all_goals rfl)))
                    · refine x_bipush C dX7_readBooking_222 (by decide) ?_
                      refine x_aload_n C dX7_readBooking_224 rfl ?_
                      refine gm_0_5 C q_756 dX7_readBooking_225 (show (up1 (md 0) 5 (((q + 1) + 1) + 1)) 5 = ((q + 1) + 1) + 1 from up1_same) ?_
                      refine x_isub C dX7_readBooking_228 ?_
                      exact x_iret C D rfl dX7_readBooking_229 (by first | (exfalso; omega) | (unfold rdB; rw [if_neg (not_not_intro c_1), hq]; show _ = (rdE (md 5) (md 0 7) v q).1; unfold rdE nx; (repeat (first | rw [if_pos (by first | omega | assumption | exact not_not_intro (by assumption))] | rw [if_neg (by first | omega | assumption | exact not_not_intro (by assumption))])); all_goals rfl)) rfl rfl (show mPl md (((q + 1) + 1) + 1) = _ from congrArg (mPl md) (by first | (exfalso; omega) | (unfold rdB; rw [if_neg (not_not_intro c_1), hq]; show _ = (rdE (md 5) (md 0 7) v q).2; unfold rdE nx; (repeat (first | rw [if_pos (by first | omega | assumption | exact not_not_intro (by assumption))] | rw [if_neg (by first | omega | assumption | exact not_not_intro (by assumption))])); all_goals rfl)))
                  · refine x_bipush C dX7_readBooking_193 (by decide) ?_
                    refine x_aload_n C dX7_readBooking_195 rfl ?_
                    refine gm_0_5 C q_756 dX7_readBooking_196 (show (up1 (md 0) 5 ((q + 1) + 1)) 5 = (q + 1) + 1 from up1_same) ?_
                    refine x_isub C dX7_readBooking_199 ?_
                    exact x_iret C D rfl dX7_readBooking_200 (by first | (exfalso; omega) | (unfold rdB; rw [if_neg (not_not_intro c_1), hq]; show _ = (rdE (md 5) (md 0 7) v q).1; unfold rdE nx; (repeat (first | rw [if_pos (by first | omega | assumption | exact not_not_intro (by assumption))] | rw [if_neg (by first | omega | assumption | exact not_not_intro (by assumption))])); all_goals rfl)) rfl rfl (show mPl md ((q + 1) + 1) = _ from congrArg (mPl md) (by first | (exfalso; omega) | (unfold rdB; rw [if_neg (not_not_intro c_1), hq]; show _ = (rdE (md 5) (md 0 7) v q).2; unfold rdE nx; (repeat (first | rw [if_pos (by first | omega | assumption | exact not_not_intro (by assumption))] | rw [if_neg (by first | omega | assumption | exact not_not_intro (by assumption))])); all_goals rfl)))
                · refine x_bipush C dX7_readBooking_151 (by decide) ?_
                  refine x_aload_n C dX7_readBooking_153 rfl ?_
                  refine gm_0_5 C q_756 dX7_readBooking_154 (show (up1 (md 0) 5 (q + 1)) 5 = q + 1 from up1_same) ?_
                  refine x_isub C dX7_readBooking_157 ?_
                  exact x_iret C D rfl dX7_readBooking_158 (by first | (exfalso; omega) | (unfold rdB; rw [if_neg (not_not_intro c_1), hq]; show _ = (rdE (md 5) (md 0 7) v q).1; unfold rdE nx; (repeat (first | rw [if_pos (by first | omega | assumption | exact not_not_intro (by assumption))] | rw [if_neg (by first | omega | assumption | exact not_not_intro (by assumption))])); all_goals rfl)) rfl rfl (show mPl md (q + 1) = _ from congrArg (mPl md) (by first | (exfalso; omega) | (unfold rdB; rw [if_neg (not_not_intro c_1), hq]; show _ = (rdE (md 5) (md 0 7) v q).2; unfold rdE nx; (repeat (first | rw [if_pos (by first | omega | assumption | exact not_not_intro (by assumption))] | rw [if_neg (by first | omega | assumption | exact not_not_intro (by assumption))])); all_goals rfl)))
              · refine x_bipush C dX7_readBooking_122 (by decide) ?_
                refine x_aload_n C dX7_readBooking_124 rfl ?_
                refine gm_0_5 C q_756 dX7_readBooking_125 (show (up1 (md 0) 5 q) 5 = q from up1_same) ?_
                refine x_isub C dX7_readBooking_128 ?_
                exact x_iret C D rfl dX7_readBooking_129 (by first | (exfalso; omega) | (unfold rdB; rw [if_neg (not_not_intro c_1), hq]; show _ = (rdE (md 5) (md 0 7) v q).1; unfold rdE nx; (repeat (first | rw [if_pos (by first | omega | assumption | exact not_not_intro (by assumption))] | rw [if_neg (by first | omega | assumption | exact not_not_intro (by assumption))])); all_goals rfl)) rfl rfl (show mPl md q = _ from congrArg (mPl md) (by first | (exfalso; omega) | (unfold rdB; rw [if_neg (not_not_intro c_1), hq]; show _ = (rdE (md 5) (md 0 7) v q).2; unfold rdE nx; (repeat (first | rw [if_pos (by first | omega | assumption | exact not_not_intro (by assumption))] | rw [if_neg (by first | omega | assumption | exact not_not_intro (by assumption))])); all_goals rfl)))
            · refine x_bipush C dX7_readBooking_80 (by decide) ?_
              refine x_iload_n C dX7_readBooking_82 rfl ?_
              refine x_imul C dX7_readBooking_83 ?_
              refine x_aload_n C dX7_readBooking_84 rfl ?_
              refine gm_0_4 C q_755 dX7_readBooking_85 ?_
              refine x_aload_n C dX7_readBooking_88 rfl ?_
              refine gm_0_5 C q_756 dX7_readBooking_89 (show (up1 (md 0) 5 q) 5 = q from up1_same) ?_
              refine lm_5 C (by omega) (by omega) dX7_readBooking_92 (show _ = md 5 q from rfl) ?_
              have r_25 := T.2 q (by omega) (by omega)
              refine x_iadd C dX7_readBooking_93 ?_
              refine x_bipush C dX7_readBooking_94 (by decide) ?_
              refine x_isub C dX7_readBooking_96 ?_
              refine x_istore_n C dX7_readBooking_97 (by decide) (rfl : _ = [_, _, _, _]) ?_
              refine x_aload_n C dX7_readBooking_98 rfl ?_
              refine x_dup C dX7_readBooking_99 rfl ?_
              refine gm_0_5 C q_756 dX7_readBooking_100 (show (up1 (md 0) 5 q) 5 = q from up1_same) ?_
              refine x_const C dX7_readBooking_103 ?_
              refine x_iadd C dX7_readBooking_104 ?_
              refine pm_0_5 C q_756 dX7_readBooking_105 upr_ww ?_
              refine x_goto 42 C dX7_readBooking_108 (by decide) ?_
              obtain ⟨n9, rfl⟩ : ∃ n9, n = n9 + 1 := ⟨n - 1, by omega⟩
              refine G.wk (ih n9 (10 * v + md 5 q - 48) (q + 1) (by omega) (by omega) (by omega) (by rw [hq, rdD_go ⟨by omega, by assumption, by omega⟩]) (by omega)) ?_
              simp only [leL, and_self]
    refine G.wk (K42 61 60 (md 5 p - 48) (p + 1) (by omega) (by omega) (by omega) rfl (by omega)) ?_
    simp only [leL, and_self]
  · refine x_bipush C dX7_readBooking_11 (by decide) ?_
    refine x_aload_n C dX7_readBooking_13 rfl ?_
    refine gm_0_5 C q_756 dX7_readBooking_14 (show (up1 (md 0) 5 p) 5 = p from up1_same) ?_
    refine x_isub C dX7_readBooking_17 ?_
    exact x_iret C D rfl dX7_readBooking_18 (by unfold rdB; rw [if_pos (by assumption)]) rfl rfl (show mPl md p = _ from congrArg (mPl md) (by unfold rdB; rw [if_pos (by assumption)]))
