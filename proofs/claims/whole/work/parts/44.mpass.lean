set_option maxRecDepth 100000 in
set_option maxHeartbeats 4000000 in
theorem m_X7_passDay {hs : Nat → HV} {tp md : HV} {E : HE} (hE : HI E) {r : Int → Int} {K : Int} (R : MR K r) (hK : K ≤ 800000) (hd : r 0 ≤ 1059) : Mt yX7_passDay cX7_passDay 3 none 5 E [.ref (mA E 0)] hs tp (upr md 1 r) none hs tp (upr md 1 (mPas r)) := by
  refine mk_Mt hE (plainFor_of_name (by decide)) (Nat.le_of_ble_eq_true rfl) (by intro w0 hw0; simp only [List.mem_cons, List.not_mem_nil, or_false] at hw0; rcases hw0 with rfl <;> rfl) (rfl : _ = [_, _, _]) ?_
  intro F C D
  have rd0 := MR.day R
  have rz0 := MR.sets R
  refine x_aload_n C dX7_passDay_0 rfl ?_
  refine gm_0_0 C q_751 dX7_passDay_1 ?_
  refine x_const C dX7_passDay_4 ?_
  refine lm_1 C (by omega) (by omega) dX7_passDay_5 (show _ = r 0 from rfl) ?_
  have r_1 := MR.day R
  refine x_istore_n C dX7_passDay_6 (by decide) (rfl : _ = [_, _, _]) ?_
  refine x_const C dX7_passDay_7 ?_
  refine x_istore_n C dX7_passDay_8 (by decide) (rfl : _ = [_, _, _]) ?_
  have K9 : ∀ (nn : Nat) (i : Int), 0 ≤ i → i ≤ r 0 - r 22 + 1 ∨ i = 0 → 1100 - i < nn →  G F E hs tp (upr md 1 (foldI sSp r i)) 9 [some (.ref (mA E 0)), some (vI (r 0)), some (vI i)] [] := by
    intro nn
    induction nn with
    | zero => intro i i0 i1 hz; exact absurd hz (by omega)
    | succ nn ih =>
      intro i i0 i1 hz
      have rs := MS_spoI R (i := i) i0 (by omega)
      have rg := rs.1
      have e22 : (foldI sSp r i) 22 = r 22 := rs.2 22 (Or.inr (Or.inr (Or.inl ⟨by decide, by decide⟩)))
      refine x_iload_n C dX7_passDay_9 rfl ?_
      refine x_iload_n C dX7_passDay_10 rfl ?_
      refine x_aload_n C dX7_passDay_11 rfl ?_
      refine gm_0_0 C q_751 dX7_passDay_12 ?_
      refine x_bipush C dX7_passDay_15 (by decide) ?_
      refine lm_1 C (by omega) (by omega) dX7_passDay_17 (show _ = (foldI sSp r i) 22 from rfl) ?_
      have r_2 := (MR.sets rg)
      refine x_isub C dX7_passDay_18 ?_
      refine x_icmp_gt 59 C dX7_passDay_19 (by decide) ⟨by omega, by omega⟩ ⟨by omega, by omega⟩ (fun c_3 => ?_) (fun c_3 => ?_)
      · refine G.of ?_ rfl rfl (show _ = upr md 1 (mSpo r) from congrArg (upr md 1) (mSpo_i (by omega))) rfl
        have a1 := MS_mSpo R
        have ac1 := MR.came a1.1
        have ad1 : mSpo r 0 = r 0 := a1.2 0 (Or.inl rfl)
        refine x_const C dX7_passDay_59 ?_
        refine x_istore_n C dX7_passDay_60 (by decide) (rfl : _ = [_, _, _]) ?_
        have K61 : ∀ (nn : Nat) (i : Int), 0 ≤ i → i ≤ (mSpo r) 1 → (mSpo r) 1 - i < nn →  G F E hs tp (upr md 1 (foldI (sLm (r 0)) (mSpo r) i)) 61 [some (.ref (mA E 0)), some (vI (r 0)), some (vI i)] [] := by
          intro nn2
          induction nn2 with
          | zero => intro i i0 i1 hz2; exact absurd hz2 (by omega)
          | succ nn2 ih2 =>
            intro i i0 i1 hz2
            have rs := MS_leaI a1.1 (d := r 0) (i := i) i0 (by omega)
            have rg := rs.1
            have ec : (foldI (sLm (r 0)) (mSpo r) i) 1 = (mSpo r) 1 := rs.2 1 (Or.inr (Or.inl rfl))
            refine x_iload_n C dX7_passDay_61 rfl ?_
            refine x_aload_n C dX7_passDay_62 rfl ?_
            refine gm_0_0 C q_751 dX7_passDay_63 ?_
            refine x_const C dX7_passDay_66 ?_
            refine lm_1 C (by omega) (by omega) dX7_passDay_67 (show _ = (foldI (sLm (r 0)) (mSpo r) i) 1 from rfl) ?_
            have r_4 := MR.came rg
            refine x_icmp_ge 108 C dX7_passDay_68 (by decide) ⟨by omega, by omega⟩ ⟨by omega, by omega⟩ (fun c_5 => ?_) (fun c_5 => ?_)
            · refine G.of ?_ rfl rfl (show _ = upr md 1 (mLea (mSpo r) (r 0)) from congrArg (upr md 1) ((by rw [show i = (mSpo r) 1 by omega]; rfl))) rfl
              have a2 : MS K r (mLea (mSpo r) (r 0)) := a1.tr (MS_leaI a1.1 (d := r 0) ac1.1 ac1.2)
              have ac2 := MR.came a2.1
              refine x_const C dX7_passDay_108 ?_
              refine x_istore_n C dX7_passDay_109 (by decide) (rfl : _ = [_, _, _]) ?_
              have K110 : ∀ (nn : Nat) (i : Int), 0 ≤ i → i ≤ (mLea (mSpo r) (r 0)) 1 → (mLea (mSpo r) (r 0)) 1 - i < nn →  G F E hs tp (upr md 1 (foldI (sTm (r 0)) (mLea (mSpo r) (r 0)) i)) 110 [some (.ref (mA E 0)), some (vI (r 0)), some (vI i)] [] := by
                intro nn3
                induction nn3 with
                | zero => intro i i0 i1 hz3; exact absurd hz3 (by omega)
                | succ nn3 ih3 =>
                  intro i i0 i1 hz3
                  have rs := MS_latI a2.1 (d := r 0) (i := i) i0 (by omega)
                  have rg := rs.1
                  have ec : (foldI (sTm (r 0)) (mLea (mSpo r) (r 0)) i) 1 = (mLea (mSpo r) (r 0)) 1 := rs.2 1 (Or.inr (Or.inl rfl))
                  refine x_iload_n C dX7_passDay_110 rfl ?_
                  refine x_aload_n C dX7_passDay_111 rfl ?_
                  refine gm_0_0 C q_751 dX7_passDay_112 ?_
                  refine x_const C dX7_passDay_115 ?_
                  refine lm_1 C (by omega) (by omega) dX7_passDay_116 (show _ = (foldI (sTm (r 0)) (mLea (mSpo r) (r 0)) i) 1 from rfl) ?_
                  have r_6 := MR.came rg
                  refine x_icmp_ge 149 C dX7_passDay_117 (by decide) ⟨by omega, by omega⟩ ⟨by omega, by omega⟩ (fun c_7 => ?_) (fun c_7 => ?_)
                  · refine G.of ?_ rfl rfl (show _ = upr md 1 (mBeg1 r) from congrArg (upr md 1) ((by rw [show i = (mLea (mSpo r) (r 0)) 1 by omega]; rfl))) rfl
                    have a3 := MS_mBeg1 R
                    have ac3 := MR.came a3.1
                    refine x_aload_n C dX7_passDay_149 rfl ?_
                    refine x_iload_n C dX7_passDay_150 rfl ?_
                    refine x_callV (nA := 1) (As := [vI (r 0)]) (rest := []) C (m_X7_isUpOpen hE (r := (mBeg1 r)) a3.1 (d := (r 0)) (by omega) (by omega)) q_863 q_865 q_36 q_64 q_866 (by decide +kernel) (wl_m 0 (by decide)) rfl rfl (by decide) (by decide) (Nat.le_of_ble_eq_true rfl) dX7_passDay_151 rfl ?_
                    refine x_bz_eq 212 C dX7_passDay_154 (by decide) (fun c_8 => ?_) (fun c_8 => ?_)
                    · refine G.of ?_ rfl rfl (show _ = upr md 1 (mBeg r) from congrArg (upr md 1) ((show mBeg r = _ from if_neg c_8).symm)) rfl
                      have a5 := MS_mBeg R hd
                      have al5 := MR.cal a5.1
                      refine x_aload_n C dX7_passDay_212 rfl ?_
                      refine gm_0_0 C q_751 dX7_passDay_213 ?_
                      refine x_const C dX7_passDay_216 ?_
                      refine lm_1 C (by omega) (by omega) dX7_passDay_217 (show _ = (mBeg r) 4 from rfl) ?_
                      have r_9 := MR.cal a5.1
                      refine x_const C dX7_passDay_218 ?_
                      refine x_icmp_ne 235 C dX7_passDay_219 (by decide) ⟨by omega, by omega⟩ ⟨by omega, by omega⟩ (fun c_10 => ?_) (fun c_10 => ?_)
                      · refine G.of ?_ rfl rfl (show _ = upr md 1 (mMid r) from congrArg (upr md 1) ((show mMid r = _ from if_neg (fun q => absurd q.1 c_10)).symm)) rfl
                        have a6 := MS_mMid R hd
                        have a7 := MS_mEat a6.1
                        refine x_aload_n C dX7_passDay_235 rfl ?_
                        refine x_callV (nA := 0) (As := []) (rest := []) C (m_X7_eat hE (r := (mMid r)) a6.1 (by omega)) q_940 q_942 q_48 q_64 q_943 (by decide +kernel) (wl_m 0 (by decide)) rfl rfl (by decide) (by decide) (Nat.le_of_ble_eq_true rfl) dX7_passDay_236 rfl ?_
                        refine x_aload_n C dX7_passDay_239 rfl ?_
                        refine x_iload_n C dX7_passDay_240 rfl ?_
                        refine x_callV (nA := 1) (As := [vI (r 0)]) (rest := []) C (m_X7_sleep hE (r := (mEat (mMid r))) a7.1 (d := (r 0)) ⟨by omega, by omega⟩) q_944 q_946 q_49 q_64 q_947 (by decide +kernel) (wl_m 0 (by decide)) rfl rfl (by decide) (by decide) (Nat.le_of_ble_eq_true rfl) dX7_passDay_241 rfl ?_
                        refine x_aload_n C dX7_passDay_244 rfl ?_
                        refine gm_0_0 C q_751 dX7_passDay_245 ?_
                        refine x_const C dX7_passDay_248 ?_
                        refine x_dup2 C dX7_passDay_249 rfl rfl ?_
                        refine lm_1 C (by omega) (by omega) dX7_passDay_250 (show _ = (mSle (mEat (mMid r)) (r 0)) 0 from rfl) ?_
                        refine x_const C dX7_passDay_251 ?_
                        refine x_iadd C dX7_passDay_252 ?_
                        refine sm_1 C (by omega) (by omega) dX7_passDay_253 upr_w ?_
                        exact x_vret C D dX7_passDay_254 rfl rfl rfl
                      · refine x_aload_n C dX7_passDay_222 rfl ?_
                        refine x_iload_n C dX7_passDay_223 rfl ?_
                        refine x_callV (nA := 1) (As := [vI (r 0)]) (rest := []) C (m_X7_isWindy hE (r := (mBeg r)) a5.1 (d := (r 0)) (by omega) (by omega)) q_932 q_934 q_46 q_64 q_935 (by decide +kernel) (wl_m 0 (by decide)) rfl rfl (by decide) (by decide) (Nat.le_of_ble_eq_true rfl) dX7_passDay_224 rfl ?_
                        refine x_bz_ne 235 C dX7_passDay_227 (by decide) (fun c_11 => ?_) (fun c_11 => ?_)
                        · refine G.of ?_ rfl rfl (show _ = upr md 1 (mMid r) from congrArg (upr md 1) ((show mMid r = _ from if_neg (fun q => absurd c_11 q.2)).symm)) rfl
                          have a6 := MS_mMid R hd
                          have a7 := MS_mEat a6.1
                          refine x_aload_n C dX7_passDay_235 rfl ?_
                          refine x_callV (nA := 0) (As := []) (rest := []) C (m_X7_eat hE (r := (mMid r)) a6.1 (by omega)) q_940 q_942 q_48 q_64 q_943 (by decide +kernel) (wl_m 0 (by decide)) rfl rfl (by decide) (by decide) (Nat.le_of_ble_eq_true rfl) dX7_passDay_236 rfl ?_
                          refine x_aload_n C dX7_passDay_239 rfl ?_
                          refine x_iload_n C dX7_passDay_240 rfl ?_
                          refine x_callV (nA := 1) (As := [vI (r 0)]) (rest := []) C (m_X7_sleep hE (r := (mEat (mMid r))) a7.1 (d := (r 0)) ⟨by omega, by omega⟩) q_944 q_946 q_49 q_64 q_947 (by decide +kernel) (wl_m 0 (by decide)) rfl rfl (by decide) (by decide) (Nat.le_of_ble_eq_true rfl) dX7_passDay_241 rfl ?_
                          refine x_aload_n C dX7_passDay_244 rfl ?_
                          refine gm_0_0 C q_751 dX7_passDay_245 ?_
                          refine x_const C dX7_passDay_248 ?_
                          refine x_dup2 C dX7_passDay_249 rfl rfl ?_
                          refine lm_1 C (by omega) (by omega) dX7_passDay_250 (show _ = (mSle (mEat (mMid r)) (r 0)) 0 from rfl) ?_
                          refine x_const C dX7_passDay_251 ?_
                          refine x_iadd C dX7_passDay_252 ?_
                          refine sm_1 C (by omega) (by omega) dX7_passDay_253 upr_w ?_
                          exact x_vret C D dX7_passDay_254 rfl rfl rfl
                        · refine x_aload_n C dX7_passDay_230 rfl ?_
                          refine x_iload_n C dX7_passDay_231 rfl ?_
                          refine x_callV (nA := 1) (As := [vI (r 0)]) (rest := []) C (m_X7_fly hE (r := (mBeg r)) a5.1 (by omega) (d := (r 0)) (by omega) (by omega)) q_936 q_938 q_47 q_64 q_939 (by decide +kernel) (wl_m 0 (by decide)) rfl rfl (by decide) (by decide) (Nat.le_of_ble_eq_true rfl) dX7_passDay_232 rfl ?_
                          refine G.of ?_ rfl rfl (show _ = upr md 1 (mMid r) from congrArg (upr md 1) ((show mMid r = _ from if_pos ⟨c_10, c_11⟩).symm)) rfl
                          have a6 := MS_mMid R hd
                          have a7 := MS_mEat a6.1
                          refine x_aload_n C dX7_passDay_235 rfl ?_
                          refine x_callV (nA := 0) (As := []) (rest := []) C (m_X7_eat hE (r := (mMid r)) a6.1 (by omega)) q_940 q_942 q_48 q_64 q_943 (by decide +kernel) (wl_m 0 (by decide)) rfl rfl (by decide) (by decide) (Nat.le_of_ble_eq_true rfl) dX7_passDay_236 rfl ?_
                          refine x_aload_n C dX7_passDay_239 rfl ?_
                          refine x_iload_n C dX7_passDay_240 rfl ?_
                          refine x_callV (nA := 1) (As := [vI (r 0)]) (rest := []) C (m_X7_sleep hE (r := (mEat (mMid r))) a7.1 (d := (r 0)) ⟨by omega, by omega⟩) q_944 q_946 q_49 q_64 q_947 (by decide +kernel) (wl_m 0 (by decide)) rfl rfl (by decide) (by decide) (Nat.le_of_ble_eq_true rfl) dX7_passDay_241 rfl ?_
                          refine x_aload_n C dX7_passDay_244 rfl ?_
                          refine gm_0_0 C q_751 dX7_passDay_245 ?_
                          refine x_const C dX7_passDay_248 ?_
                          refine x_dup2 C dX7_passDay_249 rfl rfl ?_
                          refine lm_1 C (by omega) (by omega) dX7_passDay_250 (show _ = (mSle (mEat (mMid r)) (r 0)) 0 from rfl) ?_
                          refine x_const C dX7_passDay_251 ?_
                          refine x_iadd C dX7_passDay_252 ?_
                          refine sm_1 C (by omega) (by omega) dX7_passDay_253 upr_w ?_
                          exact x_vret C D dX7_passDay_254 rfl rfl rfl
                    · refine x_const C dX7_passDay_157 ?_
                      refine x_istore_n C dX7_passDay_158 (by decide) (rfl : _ = [_, _, _]) ?_
                      have K159 : ∀ (nn : Nat) (i : Int), 0 ≤ i → i ≤ (mBeg1 r) 1 → (mBeg1 r) 1 - i < nn →  G F E hs tp (upr md 1 (foldI (sCmm (r 0)) (mBeg1 r) i)) 159 [some (.ref (mA E 0)), some (vI (r 0)), some (vI i)] [] := by
                        intro nn4
                        induction nn4 with
                        | zero => intro i i0 i1 hz4; exact absurd hz4 (by omega)
                        | succ nn4 ih4 =>
                          intro i i0 i1 hz4
                          have rs := MS_comI a3.1 (d := r 0) (by omega) (by omega) (i := i) i0 (by omega)
                          have rg := rs.1
                          have ec : (foldI (sCmm (r 0)) (mBeg1 r) i) 1 = (mBeg1 r) 1 := rs.2 1 (Or.inr (Or.inl rfl))
                          refine x_iload_n C dX7_passDay_159 rfl ?_
                          refine x_aload_n C dX7_passDay_160 rfl ?_
                          refine gm_0_0 C q_751 dX7_passDay_161 ?_
                          refine x_const C dX7_passDay_164 ?_
                          refine lm_1 C (by omega) (by omega) dX7_passDay_165 (show _ = (foldI (sCmm (r 0)) (mBeg1 r) i) 1 from rfl) ?_
                          have r_12 := MR.came rg
                          refine x_icmp_ge 200 C dX7_passDay_166 (by decide) ⟨by omega, by omega⟩ ⟨by omega, by omega⟩ (fun c_13 => ?_) (fun c_13 => ?_)
                          · refine G.of ?_ rfl rfl (show _ = upr md 1 (mCom (mBeg1 r) (r 0)) from congrArg (upr md 1) ((by rw [show i = (mBeg1 r) 1 by omega]; rfl))) rfl
                            have a4 : MS K (mBeg1 r) (mCom (mBeg1 r) (r 0)) := MS_comI a3.1 (d := r 0) (by omega) (by omega) ac3.1 ac3.2
                            have az4 := MR.sets a4.1
                            refine x_aload_n C dX7_passDay_200 rfl ?_
                            refine x_aload_n C dX7_passDay_201 rfl ?_
                            refine gm_0_0 C q_751 dX7_passDay_202 ?_
                            refine x_bipush C dX7_passDay_205 (by decide) ?_
                            refine lm_1 C (by omega) (by omega) dX7_passDay_207 (show _ = (mCom (mBeg1 r) (r 0)) 23 from rfl) ?_
                            have r_14 := (MR.sets a4.1)
                            refine x_iload_n C dX7_passDay_208 rfl ?_
                            refine x_callV (nA := 2) (As := [vI ((mCom (mBeg1 r) (r 0)) 23), vI (r 0)]) (rest := []) C (m_X7_bring hE (r := (mCom (mBeg1 r) (r 0))) a4.1 (by omega) (m := ((mCom (mBeg1 r) (r 0)) 23)) (d := (r 0)) (by omega) (by omega) (by omega) (by omega)) q_928 q_930 q_45 q_64 q_931 (by decide +kernel) (wl_m 0 (by decide)) rfl rfl (by decide) (by decide) (Nat.le_of_ble_eq_true rfl) dX7_passDay_209 rfl ?_
                            refine G.of ?_ rfl rfl (show _ = upr md 1 (mBeg r) from congrArg (upr md 1) ((show mBeg r = _ from if_pos c_8).symm)) rfl
                            have a5 := MS_mBeg R hd
                            have al5 := MR.cal a5.1
                            refine x_aload_n C dX7_passDay_212 rfl ?_
                            refine gm_0_0 C q_751 dX7_passDay_213 ?_
                            refine x_const C dX7_passDay_216 ?_
                            refine lm_1 C (by omega) (by omega) dX7_passDay_217 (show _ = (mBeg r) 4 from rfl) ?_
                            have r_15 := MR.cal a5.1
                            refine x_const C dX7_passDay_218 ?_
                            refine x_icmp_ne 235 C dX7_passDay_219 (by decide) ⟨by omega, by omega⟩ ⟨by omega, by omega⟩ (fun c_16 => ?_) (fun c_16 => ?_)
                            · refine G.of ?_ rfl rfl (show _ = upr md 1 (mMid r) from congrArg (upr md 1) ((show mMid r = _ from if_neg (fun q => absurd q.1 c_16)).symm)) rfl
                              have a6 := MS_mMid R hd
                              have a7 := MS_mEat a6.1
                              refine x_aload_n C dX7_passDay_235 rfl ?_
                              refine x_callV (nA := 0) (As := []) (rest := []) C (m_X7_eat hE (r := (mMid r)) a6.1 (by omega)) q_940 q_942 q_48 q_64 q_943 (by decide +kernel) (wl_m 0 (by decide)) rfl rfl (by decide) (by decide) (Nat.le_of_ble_eq_true rfl) dX7_passDay_236 rfl ?_
                              refine x_aload_n C dX7_passDay_239 rfl ?_
                              refine x_iload_n C dX7_passDay_240 rfl ?_
                              refine x_callV (nA := 1) (As := [vI (r 0)]) (rest := []) C (m_X7_sleep hE (r := (mEat (mMid r))) a7.1 (d := (r 0)) ⟨by omega, by omega⟩) q_944 q_946 q_49 q_64 q_947 (by decide +kernel) (wl_m 0 (by decide)) rfl rfl (by decide) (by decide) (Nat.le_of_ble_eq_true rfl) dX7_passDay_241 rfl ?_
                              refine x_aload_n C dX7_passDay_244 rfl ?_
                              refine gm_0_0 C q_751 dX7_passDay_245 ?_
                              refine x_const C dX7_passDay_248 ?_
                              refine x_dup2 C dX7_passDay_249 rfl rfl ?_
                              refine lm_1 C (by omega) (by omega) dX7_passDay_250 (show _ = (mSle (mEat (mMid r)) (r 0)) 0 from rfl) ?_
                              refine x_const C dX7_passDay_251 ?_
                              refine x_iadd C dX7_passDay_252 ?_
                              refine sm_1 C (by omega) (by omega) dX7_passDay_253 upr_w ?_
                              exact x_vret C D dX7_passDay_254 rfl rfl rfl
                            · refine x_aload_n C dX7_passDay_222 rfl ?_
                              refine x_iload_n C dX7_passDay_223 rfl ?_
                              refine x_callV (nA := 1) (As := [vI (r 0)]) (rest := []) C (m_X7_isWindy hE (r := (mBeg r)) a5.1 (d := (r 0)) (by omega) (by omega)) q_932 q_934 q_46 q_64 q_935 (by decide +kernel) (wl_m 0 (by decide)) rfl rfl (by decide) (by decide) (Nat.le_of_ble_eq_true rfl) dX7_passDay_224 rfl ?_
                              refine x_bz_ne 235 C dX7_passDay_227 (by decide) (fun c_17 => ?_) (fun c_17 => ?_)
                              · refine G.of ?_ rfl rfl (show _ = upr md 1 (mMid r) from congrArg (upr md 1) ((show mMid r = _ from if_neg (fun q => absurd c_17 q.2)).symm)) rfl
                                have a6 := MS_mMid R hd
                                have a7 := MS_mEat a6.1
                                refine x_aload_n C dX7_passDay_235 rfl ?_
                                refine x_callV (nA := 0) (As := []) (rest := []) C (m_X7_eat hE (r := (mMid r)) a6.1 (by omega)) q_940 q_942 q_48 q_64 q_943 (by decide +kernel) (wl_m 0 (by decide)) rfl rfl (by decide) (by decide) (Nat.le_of_ble_eq_true rfl) dX7_passDay_236 rfl ?_
                                refine x_aload_n C dX7_passDay_239 rfl ?_
                                refine x_iload_n C dX7_passDay_240 rfl ?_
                                refine x_callV (nA := 1) (As := [vI (r 0)]) (rest := []) C (m_X7_sleep hE (r := (mEat (mMid r))) a7.1 (d := (r 0)) ⟨by omega, by omega⟩) q_944 q_946 q_49 q_64 q_947 (by decide +kernel) (wl_m 0 (by decide)) rfl rfl (by decide) (by decide) (Nat.le_of_ble_eq_true rfl) dX7_passDay_241 rfl ?_
                                refine x_aload_n C dX7_passDay_244 rfl ?_
                                refine gm_0_0 C q_751 dX7_passDay_245 ?_
                                refine x_const C dX7_passDay_248 ?_
                                refine x_dup2 C dX7_passDay_249 rfl rfl ?_
                                refine lm_1 C (by omega) (by omega) dX7_passDay_250 (show _ = (mSle (mEat (mMid r)) (r 0)) 0 from rfl) ?_
                                refine x_const C dX7_passDay_251 ?_
                                refine x_iadd C dX7_passDay_252 ?_
                                refine sm_1 C (by omega) (by omega) dX7_passDay_253 upr_w ?_
                                exact x_vret C D dX7_passDay_254 rfl rfl rfl
                              · refine x_aload_n C dX7_passDay_230 rfl ?_
                                refine x_iload_n C dX7_passDay_231 rfl ?_
                                refine x_callV (nA := 1) (As := [vI (r 0)]) (rest := []) C (m_X7_fly hE (r := (mBeg r)) a5.1 (by omega) (d := (r 0)) (by omega) (by omega)) q_936 q_938 q_47 q_64 q_939 (by decide +kernel) (wl_m 0 (by decide)) rfl rfl (by decide) (by decide) (Nat.le_of_ble_eq_true rfl) dX7_passDay_232 rfl ?_
                                refine G.of ?_ rfl rfl (show _ = upr md 1 (mMid r) from congrArg (upr md 1) ((show mMid r = _ from if_pos ⟨c_16, c_17⟩).symm)) rfl
                                have a6 := MS_mMid R hd
                                have a7 := MS_mEat a6.1
                                refine x_aload_n C dX7_passDay_235 rfl ?_
                                refine x_callV (nA := 0) (As := []) (rest := []) C (m_X7_eat hE (r := (mMid r)) a6.1 (by omega)) q_940 q_942 q_48 q_64 q_943 (by decide +kernel) (wl_m 0 (by decide)) rfl rfl (by decide) (by decide) (Nat.le_of_ble_eq_true rfl) dX7_passDay_236 rfl ?_
                                refine x_aload_n C dX7_passDay_239 rfl ?_
                                refine x_iload_n C dX7_passDay_240 rfl ?_
                                refine x_callV (nA := 1) (As := [vI (r 0)]) (rest := []) C (m_X7_sleep hE (r := (mEat (mMid r))) a7.1 (d := (r 0)) ⟨by omega, by omega⟩) q_944 q_946 q_49 q_64 q_947 (by decide +kernel) (wl_m 0 (by decide)) rfl rfl (by decide) (by decide) (Nat.le_of_ble_eq_true rfl) dX7_passDay_241 rfl ?_
                                refine x_aload_n C dX7_passDay_244 rfl ?_
                                refine gm_0_0 C q_751 dX7_passDay_245 ?_
                                refine x_const C dX7_passDay_248 ?_
                                refine x_dup2 C dX7_passDay_249 rfl rfl ?_
                                refine lm_1 C (by omega) (by omega) dX7_passDay_250 (show _ = (mSle (mEat (mMid r)) (r 0)) 0 from rfl) ?_
                                refine x_const C dX7_passDay_251 ?_
                                refine x_iadd C dX7_passDay_252 ?_
                                refine sm_1 C (by omega) (by omega) dX7_passDay_253 upr_w ?_
                                exact x_vret C D dX7_passDay_254 rfl rfl rfl
                          · refine x_aload_n C dX7_passDay_169 rfl ?_
                            refine x_iload_n C dX7_passDay_170 rfl ?_
                            refine x_const C dX7_passDay_171 ?_
                            refine x_callV (nA := 2) (As := [vI i, vI 0]) (rest := []) C (m_X7_is hE (r := (foldI (sCmm (r 0)) (mBeg1 r) i)) rg (b := i) (w := 0) (by omega) (by omega) ⟨by omega, by omega⟩) q_855 q_857 q_34 q_64 q_858 (by decide +kernel) (wl_m 0 (by decide)) rfl rfl (by decide) (by decide) (Nat.le_of_ble_eq_true rfl) dX7_passDay_172 rfl ?_
                            refine x_bz_eq 194 C dX7_passDay_175 (by decide) (fun c_18 => ?_) (fun c_18 => ?_)
                            · refine x_iinc C dX7_passDay_194 rfl (by decide) (rfl : _ = [_, _, _]) ?_
                              refine x_goto 159 C dX7_passDay_197 (by decide) ?_
                              have e9 : sCmm (r 0) i (foldI (sCmm (r 0)) (mBeg1 r) i) = (foldI (sCmm (r 0)) (mBeg1 r) i) := if_neg (by first | omega | assumption | (intro q; have q1 := q.1; have q2 := q.2; first | omega | (have q3 := q2.1; omega) | exact absurd q2.2 (by assumption)))
                              refine G.of (G.wk (ih4 (i + 1) (by omega) (by omega) (by omega)) ?_) rfl rfl ?_ rfl
                              · simp only [leL, and_self]
                              · rw [foldI_s i0, e9]
                            · refine x_aload_n C dX7_passDay_178 rfl ?_
                              refine x_iload_n C dX7_passDay_179 rfl ?_
                              refine x_const C dX7_passDay_180 ?_
                              refine x_callV (nA := 2) (As := [vI i, vI 1]) (rest := []) C (m_X7_of hE (r := (foldI (sCmm (r 0)) (mBeg1 r) i)) (b := i) (w := 1) (by omega) (by omega) (by omega) (by omega) (show _ = (foldI (sCmm (r 0)) (mBeg1 r) i) (51 + 7 * i + 1) from rfl)) q_799 q_801 q_23 q_64 q_802 (by decide +kernel) (wl_m 0 (by decide)) rfl rfl (by decide) (by decide) (Nat.le_of_ble_eq_true rfl) dX7_passDay_181 rfl ?_
                              have r_19 := MR.arr rg (b := i) (by omega) (by omega)
                              refine x_iload_n C dX7_passDay_184 rfl ?_
                              refine x_icmp_gt 194 C dX7_passDay_185 (by decide) ⟨by omega, by omega⟩ ⟨by omega, by omega⟩ (fun c_20 => ?_) (fun c_20 => ?_)
                              · refine x_iinc C dX7_passDay_194 rfl (by decide) (rfl : _ = [_, _, _]) ?_
                                refine x_goto 159 C dX7_passDay_197 (by decide) ?_
                                have e9 : sCmm (r 0) i (foldI (sCmm (r 0)) (mBeg1 r) i) = (foldI (sCmm (r 0)) (mBeg1 r) i) := if_neg (by first | omega | assumption | (intro q; have q1 := q.1; have q2 := q.2; first | omega | (have q3 := q2.1; omega) | exact absurd q2.2 (by assumption)))
                                refine G.of (G.wk (ih4 (i + 1) (by omega) (by omega) (by omega)) ?_) rfl rfl ?_ rfl
                                · simp only [leL, and_self]
                                · rw [foldI_s i0, e9]
                              · refine x_aload_n C dX7_passDay_188 rfl ?_
                                refine x_iload_n C dX7_passDay_189 rfl ?_
                                refine x_iload_n C dX7_passDay_190 rfl ?_
                                refine x_callV (nA := 2) (As := [vI i, vI (r 0)]) (rest := []) C (m_X7_come hE (r := (foldI (sCmm (r 0)) (mBeg1 r) i)) rg (b := i) (d := (r 0)) (by omega) (by omega)) q_920 q_922 q_43 q_64 q_923 (by decide +kernel) (wl_m 0 (by decide)) rfl rfl (by decide) (by decide) (Nat.le_of_ble_eq_true rfl) dX7_passDay_191 rfl ?_
                                refine x_iinc C dX7_passDay_194 rfl (by decide) (rfl : _ = [_, _, _]) ?_
                                refine x_goto 159 C dX7_passDay_197 (by decide) ?_
                                have e9 : sCmm (r 0) i (foldI (sCmm (r 0)) (mBeg1 r) i) = mCm (foldI (sCmm (r 0)) (mBeg1 r) i) i (r 0) := if_pos (by first | exact ⟨by assumption, by omega, by assumption⟩ | exact ⟨by assumption, by omega⟩)
                                refine G.of (G.wk (ih4 (i + 1) (by omega) (by omega) (by omega)) ?_) rfl rfl ?_ rfl
                                · simp only [leL, and_self]
                                · rw [foldI_s i0, e9]
                      exact K159 ((mBeg1 r) 1 + 1).toNat 0 (by omega) (by omega) (by omega)
                  · refine x_aload_n C dX7_passDay_120 rfl ?_
                    refine x_iload_n C dX7_passDay_121 rfl ?_
                    refine x_const C dX7_passDay_122 ?_
                    refine x_callV (nA := 2) (As := [vI i, vI 0]) (rest := []) C (m_X7_is hE (r := (foldI (sTm (r 0)) (mLea (mSpo r) (r 0)) i)) rg (b := i) (w := 0) (by omega) (by omega) ⟨by omega, by omega⟩) q_855 q_857 q_34 q_64 q_858 (by decide +kernel) (wl_m 0 (by decide)) rfl rfl (by decide) (by decide) (Nat.le_of_ble_eq_true rfl) dX7_passDay_123 rfl ?_
                    refine x_bz_eq 143 C dX7_passDay_126 (by decide) (fun c_21 => ?_) (fun c_21 => ?_)
                    · refine x_iinc C dX7_passDay_143 rfl (by decide) (rfl : _ = [_, _, _]) ?_
                      refine x_goto 110 C dX7_passDay_146 (by decide) ?_
                      have e9 : sTm (r 0) i (foldI (sTm (r 0)) (mLea (mSpo r) (r 0)) i) = (foldI (sTm (r 0)) (mLea (mSpo r) (r 0)) i) := if_neg (by first | omega | assumption | (intro q; have q1 := q.1; have q2 := q.2; first | omega | (have q3 := q2.1; omega) | exact absurd q2.2 (by assumption)))
                      refine G.of (G.wk (ih3 (i + 1) (by omega) (by omega) (by omega)) ?_) rfl rfl ?_ rfl
                      · simp only [leL, and_self]
                      · rw [foldI_s i0, e9]
                    · refine x_aload_n C dX7_passDay_129 rfl ?_
                      refine x_iload_n C dX7_passDay_130 rfl ?_
                      refine x_callV (nA := 1) (As := [vI i]) (rest := []) C (m_X7_end hE (r := (foldI (sTm (r 0)) (mLea (mSpo r) (r 0)) i)) (b := i) (by omega) (by omega) rfl) q_803 q_805 q_24 q_64 q_806 (by decide +kernel) (wl_m 0 (by decide)) rfl rfl (by decide) (by decide) (Nat.le_of_ble_eq_true rfl) dX7_passDay_131 rfl ?_
                      have r_22 := MR.arr rg (b := i) (by omega) (by omega)
                      have r_23 := MR.nig rg (b := i) (by omega) (by omega)
                      refine x_iload_n C dX7_passDay_134 rfl ?_
                      refine x_icmp_gt 143 C dX7_passDay_135 (by decide) ⟨by omega, by omega⟩ ⟨by omega, by omega⟩ (fun c_24 => ?_) (fun c_24 => ?_)
                      · refine x_iinc C dX7_passDay_143 rfl (by decide) (rfl : _ = [_, _, _]) ?_
                        refine x_goto 110 C dX7_passDay_146 (by decide) ?_
                        have e9 : sTm (r 0) i (foldI (sTm (r 0)) (mLea (mSpo r) (r 0)) i) = (foldI (sTm (r 0)) (mLea (mSpo r) (r 0)) i) := if_neg (by first | omega | assumption | (intro q; have q1 := q.1; have q2 := q.2; first | omega | (have q3 := q2.1; omega) | exact absurd q2.2 (by assumption)))
                        refine G.of (G.wk (ih3 (i + 1) (by omega) (by omega) (by omega)) ?_) rfl rfl ?_ rfl
                        · simp only [leL, and_self]
                        · rw [foldI_s i0, e9]
                      · refine x_aload_n C dX7_passDay_138 rfl ?_
                        refine x_iload_n C dX7_passDay_139 rfl ?_
                        refine x_callV (nA := 1) (As := [vI i]) (rest := []) C (m_X7_turnAway hE (r := (foldI (sTm (r 0)) (mLea (mSpo r) (r 0)) i)) (b := i) (by omega) (by omega)) q_916 q_918 q_42 q_64 q_919 (by decide +kernel) (wl_m 0 (by decide)) rfl rfl (by decide) (by decide) (Nat.le_of_ble_eq_true rfl) dX7_passDay_140 rfl ?_
                        refine x_iinc C dX7_passDay_143 rfl (by decide) (rfl : _ = [_, _, _]) ?_
                        refine x_goto 110 C dX7_passDay_146 (by decide) ?_
                        have e9 : sTm (r 0) i (foldI (sTm (r 0)) (mLea (mSpo r) (r 0)) i) = mAw (foldI (sTm (r 0)) (mLea (mSpo r) (r 0)) i) i := if_pos (by first | exact ⟨by assumption, by omega, by assumption⟩ | exact ⟨by assumption, by omega⟩)
                        refine G.of (G.wk (ih3 (i + 1) (by omega) (by omega) (by omega)) ?_) rfl rfl ?_ rfl
                        · simp only [leL, and_self]
                        · rw [foldI_s i0, e9]
              exact K110 ((mLea (mSpo r) (r 0)) 1 + 1).toNat 0 (by omega) (by omega) (by omega)
            · refine x_aload_n C dX7_passDay_71 rfl ?_
              refine x_iload_n C dX7_passDay_72 rfl ?_
              refine x_const C dX7_passDay_73 ?_
              refine x_callV (nA := 2) (As := [vI i, vI 1]) (rest := []) C (m_X7_is hE (r := (foldI (sLm (r 0)) (mSpo r) i)) rg (b := i) (w := 1) (by omega) (by omega) ⟨by omega, by omega⟩) q_855 q_857 q_34 q_64 q_858 (by decide +kernel) (wl_m 0 (by decide)) rfl rfl (by decide) (by decide) (Nat.le_of_ble_eq_true rfl) dX7_passDay_74 rfl ?_
              refine x_bz_eq 102 C dX7_passDay_77 (by decide) (fun c_25 => ?_) (fun c_25 => ?_)
              · refine x_iinc C dX7_passDay_102 rfl (by decide) (rfl : _ = [_, _, _]) ?_
                refine x_goto 61 C dX7_passDay_105 (by decide) ?_
                have e9 : sLm (r 0) i (foldI (sLm (r 0)) (mSpo r) i) = (foldI (sLm (r 0)) (mSpo r) i) := if_neg (by first | omega | assumption | (intro q; have q1 := q.1; have q2 := q.2; first | omega | (have q3 := q2.1; omega) | exact absurd q2.2 (by assumption)))
                refine G.of (G.wk (ih2 (i + 1) (by omega) (by omega) (by omega)) ?_) rfl rfl ?_ rfl
                · simp only [leL, and_self]
                · rw [foldI_s i0, e9]
              · refine x_aload_n C dX7_passDay_80 rfl ?_
                refine x_iload_n C dX7_passDay_81 rfl ?_
                refine x_callV (nA := 1) (As := [vI i]) (rest := []) C (m_X7_end hE (r := (foldI (sLm (r 0)) (mSpo r) i)) (b := i) (by omega) (by omega) rfl) q_803 q_805 q_24 q_64 q_806 (by decide +kernel) (wl_m 0 (by decide)) rfl rfl (by decide) (by decide) (Nat.le_of_ble_eq_true rfl) dX7_passDay_82 rfl ?_
                have r_26 := MR.arr rg (b := i) (by omega) (by omega)
                have r_27 := MR.nig rg (b := i) (by omega) (by omega)
                refine x_iload_n C dX7_passDay_85 rfl ?_
                refine x_icmp_gt 102 C dX7_passDay_86 (by decide) ⟨by omega, by omega⟩ ⟨by omega, by omega⟩ (fun c_28 => ?_) (fun c_28 => ?_)
                · refine x_iinc C dX7_passDay_102 rfl (by decide) (rfl : _ = [_, _, _]) ?_
                  refine x_goto 61 C dX7_passDay_105 (by decide) ?_
                  have e9 : sLm (r 0) i (foldI (sLm (r 0)) (mSpo r) i) = (foldI (sLm (r 0)) (mSpo r) i) := if_neg (by first | omega | assumption | (intro q; have q1 := q.1; have q2 := q.2; first | omega | (have q3 := q2.1; omega) | exact absurd q2.2 (by assumption)))
                  refine G.of (G.wk (ih2 (i + 1) (by omega) (by omega) (by omega)) ?_) rfl rfl ?_ rfl
                  · simp only [leL, and_self]
                  · rw [foldI_s i0, e9]
                · refine x_aload_n C dX7_passDay_89 rfl ?_
                  refine x_iload_n C dX7_passDay_90 rfl ?_
                  refine x_callV (nA := 1) (As := [vI (r 0)]) (rest := []) C (m_X7_isDownOpen hE (r := (foldI (sLm (r 0)) (mSpo r) i)) rg (d := (r 0)) (by omega) (by omega)) q_908 q_910 q_40 q_64 q_911 (by decide +kernel) (wl_m 0 (by decide)) rfl rfl (by decide) (by decide) (Nat.le_of_ble_eq_true rfl) dX7_passDay_91 rfl ?_
                  refine x_bz_eq 102 C dX7_passDay_94 (by decide) (fun c_29 => ?_) (fun c_29 => ?_)
                  · refine x_iinc C dX7_passDay_102 rfl (by decide) (rfl : _ = [_, _, _]) ?_
                    refine x_goto 61 C dX7_passDay_105 (by decide) ?_
                    have e9 : sLm (r 0) i (foldI (sLm (r 0)) (mSpo r) i) = (foldI (sLm (r 0)) (mSpo r) i) := if_neg (by first | omega | assumption | (intro q; have q1 := q.1; have q2 := q.2; first | omega | (have q3 := q2.1; omega) | exact absurd q2.2 (by assumption)))
                    refine G.of (G.wk (ih2 (i + 1) (by omega) (by omega) (by omega)) ?_) rfl rfl ?_ rfl
                    · simp only [leL, and_self]
                    · rw [foldI_s i0, e9]
                  · refine x_aload_n C dX7_passDay_97 rfl ?_
                    refine x_iload_n C dX7_passDay_98 rfl ?_
                    refine x_callV (nA := 1) (As := [vI i]) (rest := []) C (m_X7_leave hE (r := (foldI (sLm (r 0)) (mSpo r) i)) (b := i) (by omega) (by omega)) q_912 q_914 q_41 q_64 q_915 (by decide +kernel) (wl_m 0 (by decide)) rfl rfl (by decide) (by decide) (Nat.le_of_ble_eq_true rfl) dX7_passDay_99 rfl ?_
                    refine x_iinc C dX7_passDay_102 rfl (by decide) (rfl : _ = [_, _, _]) ?_
                    refine x_goto 61 C dX7_passDay_105 (by decide) ?_
                    have e9 : sLm (r 0) i (foldI (sLm (r 0)) (mSpo r) i) = mLv (foldI (sLm (r 0)) (mSpo r) i) i := if_pos (by first | exact ⟨by assumption, by omega, by assumption⟩ | exact ⟨by assumption, by omega⟩)
                    refine G.of (G.wk (ih2 (i + 1) (by omega) (by omega) (by omega)) ?_) rfl rfl ?_ rfl
                    · simp only [leL, and_self]
                    · rw [foldI_s i0, e9]
        exact K61 ((mSpo r) 1 + 1).toNat 0 (by omega) (by omega) (by omega)
      · refine x_aload_n C dX7_passDay_22 rfl ?_
        refine gm_0_0 C q_751 dX7_passDay_23 ?_
        refine x_bipush C dX7_passDay_26 (by decide) ?_
        refine x_dup2 C dX7_passDay_28 rfl rfl ?_
        refine lm_1 C (by omega) (by omega) dX7_passDay_29 (show _ = (foldI sSp r i) 9 from rfl) ?_
        refine x_aload_n C dX7_passDay_30 rfl ?_
        refine gm_0_0 C q_751 dX7_passDay_31 ?_
        refine x_sipush C dX7_passDay_34 (by decide) ?_
        refine x_iload_n C dX7_passDay_37 rfl ?_
        refine x_iadd C dX7_passDay_38 ?_
        refine lm_1 C (by omega) (by omega) dX7_passDay_39 (show _ = (foldI sSp r i) (1675 + i) from rfl) ?_
        have r_30 := MR.fre rg (d := i) (by omega) (by omega)
        refine x_iadd C dX7_passDay_40 ?_
        refine sm_1 C (by omega) (by omega) dX7_passDay_41 upr_w ?_
        refine x_aload_n C dX7_passDay_42 rfl ?_
        refine gm_0_0 C q_751 dX7_passDay_43 ?_
        refine x_sipush C dX7_passDay_46 (by decide) ?_
        refine x_iload_n C dX7_passDay_49 rfl ?_
        refine x_iadd C dX7_passDay_50 ?_
        refine x_const C dX7_passDay_51 ?_
        refine sm_1 C (by omega) (by omega) dX7_passDay_52 upr_w ?_
        refine x_iinc C dX7_passDay_53 rfl (by decide) (rfl : _ = [_, _, _]) ?_
        refine x_goto 9 C dX7_passDay_56 (by decide) ?_
        refine G.of (G.wk (ih (i + 1) (by omega) (by omega) (by omega)) ?_) rfl rfl ?_ rfl
        · simp only [leL, and_self]
        · rw [foldI_s i0]; rfl
  exact K9 1101 0 (by omega) (by omega) (by omega)
