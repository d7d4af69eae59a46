/-! THE LAW's ACT (printed by act.py) -/
set_option maxRecDepth 100000 in
theorem m_L_low {hs : Nat → HV} {tp : HV} {E : HE} (hE : HI E) {v n : Int} (n0 : 0 < n ∧ n ≤ 1000000) : Mt yL_low cL_low 2 (some .int) 1 E [vI v, vI n] hs tp zM (some (vI (lowF v n))) hs tp zM := by
  refine mk_Mt hE (plainFor_of_name (by decide)) (Nat.le_of_ble_eq_true rfl) (by intro w0 hw0; simp only [List.mem_cons, List.not_mem_nil, or_false] at hw0; rcases hw0 with rfl | rfl <;> rfl) (rfl : _ = [_, _]) ?_
  intro F C D
  have hm := mask_r v
  refine x_iload_n C dL_low_0 rfl ?_
  refine x_ldc (n := 2147483647) C q_313 dL_low_1 rfl ?_
  refine x_iand (r := (Int32.ofInt v &&& Int32.ofInt 2147483647).toInt) C dL_low_3 (oI_self _).symm ?_
  refine x_iload_n C dL_low_4 rfl ?_
  refine x_irem C dL_low_5 ⟨by omega, by omega⟩ ⟨by omega, by omega⟩ hm.1 n0.1 ?_
  exact x_iret C D rfl dL_low_6 rfl rfl rfl rfl
def tF (x : Int) : Int → Int := fun i => if i = 0 then 48 + lowF x 10 else if i = 1 then 43 else if i = 2 then 49 + lowF (shR x 4) 9 else if i = 3 then 120 else 49 + lowF (shR x 8) 4
def zAct (g x : Int) (r : Int → Int) : ZR :=
  if lowF (shR g 3) 14 < 4 then zBook r (r 0 + lowF x 6 - lowF (shR x 3) 8 / 7) (1 + lowF (shR x 4) 6) (1 + lowF (shR x 7) 6)
  else if lowF (shR g 3) 14 = 4 then (if lowF (shR g 9) 2 = 0 then zCancel r (lowF x (r 1 + 1)) else zExtend r (lowF x (r 1 + 1)) (1 + lowF (shR x 5) 4))
  else if lowF (shR g 3) 14 < 7 then zWeather r (r 0 + lowF x 4) (r 0 + lowF x 4 + lowF (shR x 2) 4) (lowF (shR x 4) 8)
  else if lowF (shR g 3) 14 = 7 then zOrder r (lowF x 2) (1 + lowF (shR x 1) 40)
  else if lowF (shR g 3) 14 = 8 then (if lowF x 4 = 0 then zRecall r else zFlight r (if lowF x 3 > 0 then 1 else 0))
  else if lowF (shR g 3) 14 < 12 then zPass r (1 + lowF x 3)
  else if lowF (shR g 3) 14 = 12 then zSet r (lowF x 10) (lowF (shR x 4) 30)
  else zAll r (lowF x 10) (1 + lowF (shR x 4) 9) (1 + lowF (shR x 8) 4)
theorem ok_act {K : Int} {r : Int → Int} (R : MR K r) (h : V (r 0) r) (u : 0 ≤ r 5 ∧ r 5 ≤ 1000000) {g x : Int} : ZOK (zAct g x r) := by
  unfold zAct
  by_cases c1 : lowF (shR g 3) 14 < 4
  · rw [if_pos c1]; exact ok_book R h
  rw [if_neg c1]
  by_cases c2 : lowF (shR g 3) 14 = 4
  · rw [if_pos c2]
    by_cases d : lowF (shR g 9) 2 = 0
    · rw [if_pos d]; exact ok_cancel R h
    · rw [if_neg d]; exact ok_extend R h
  rw [if_neg c2]
  by_cases c3 : lowF (shR g 3) 14 < 7
  · rw [if_pos c3]; exact ok_weather R h
  rw [if_neg c3]
  by_cases c4 : lowF (shR g 3) 14 = 7
  · rw [if_pos c4]; exact ok_order R h
  rw [if_neg c4]
  by_cases c5 : lowF (shR g 3) 14 = 8
  · rw [if_pos c5]
    by_cases d : lowF x 4 = 0
    · rw [if_pos d]; exact ok_recall R h
    · rw [if_neg d]; exact ok_flight R h u
  rw [if_neg c5]
  by_cases c6 : lowF (shR g 3) 14 < 12
  · rw [if_pos c6]; exact ok_pass R h
  rw [if_neg c6]
  by_cases c7 : lowF (shR g 3) 14 = 12
  · rw [if_pos c7]; exact ok_set R h
  · rw [if_neg c7]; exact ok_all R h
set_option maxRecDepth 100000 in
set_option maxHeartbeats 8000000 in
theorem m_L_act {hs : Nat → HV} {tp : HV} {r : Int → Int} {k : Int} {E : HE} (hE : HI E) {g x : Int} (S0 : HLS hs tp r k) : Mx yL_act cL_act 6 (some .int) 8 E [.ref (tA E 0), vI g, vI x] hs tp (fun v hs' tp' => ∃ z, v = some (vI z) ∧ AR (zAct g x r) r k z hs' tp') := by
  refine mk_Mx hE (plainFor_of_name (by decide)) (Nat.le_of_ble_eq_true rfl) (by intro w0 hw0; simp only [List.mem_cons, List.not_mem_nil, or_false] at hw0; rcases hw0 with rfl | rfl | rfl <;> rfl) (rfl : _ = [_, _, _, _, _, _]) ?_
  intro F C D
  have R := S0.mr
  have rc := R.came
  have d0 := S0.day
  refine x_iload_n C dL_act_0 rfl ?_
  refine x_const C dL_act_1 ?_
  refine x_ishr C dL_act_2 ?_
  refine x_bipush C dL_act_3 (by decide) ?_
  refine x_callS (nA := 2) (As := [vI (shR g 3), vI 14]) (rest := []) C (m_L_low hE (v := shR g 3) (n := 14) ⟨by decide, by decide⟩) q_310 q_311 q_20 q_312 (by decide +kernel) rfl (by decide) (by decide) (Nat.le_of_ble_eq_true rfl) dL_act_5 rfl ?_
  have l_1 := lowF_r (v := shR g 3) (n := 14) (by decide)
  refine x_istore_n C dL_act_8 (by decide) (rfl : _ = [_, _, _, _, _, _]) ?_
  refine x_aload_n C dL_act_9 rfl ?_
  refine x_const C dL_act_10 ?_
  refine x_callV (nA := 1) (As := [vI 0]) (rest := []) C (l_cnt hE S0 ⟨by decide, by decide⟩ (by decide) (by decide) (show yCount zM r 0 = r 0 from rfl)) q_282 q_283 q_284 q_21 q_285 (by decide +kernel) (wl_t 0 (by decide)) rfl rfl (by decide) (by decide) (Nat.le_of_ble_eq_true rfl) dL_act_11 rfl ?_
  refine x_istore C dL_act_14 (by decide) (rfl : _ = [_, _, _, _, _, _]) ?_
  refine x_iload_n C dL_act_16 rfl ?_
  refine x_aload_n C dL_act_17 rfl ?_
  refine x_const C dL_act_18 ?_
  refine x_callV (nA := 1) (As := [vI 1]) (rest := [vI x]) C (l_cnt hE S0 ⟨by decide, by decide⟩ (by decide) (by decide) (show yCount zM r 1 = r 1 from rfl)) q_282 q_283 q_284 q_21 q_285 (by decide +kernel) (wl_t 0 (by decide)) rfl rfl (by decide) (by decide) (Nat.le_of_ble_eq_true rfl) dL_act_19 rfl ?_
  refine x_const C dL_act_22 ?_
  refine x_iadd C dL_act_23 ?_
  refine x_callS (nA := 2) (As := [vI x, vI ((r 1) + 1)]) (rest := []) C (m_L_low hE (v := x) (n := (r 1) + 1) ⟨by omega, by omega⟩) q_310 q_311 q_20 q_312 (by decide +kernel) rfl (by decide) (by decide) (Nat.le_of_ble_eq_true rfl) dL_act_24 rfl ?_
  have l_2 := lowF_r (v := x) (n := (r 1) + 1) (by omega)
  refine x_istore C dL_act_27 (by decide) (rfl : _ = [_, _, _, _, _, _]) ?_
  refine x_iload_n C dL_act_29 rfl ?_
  refine x_const C dL_act_30 ?_
  refine x_icmp_ge 81 C dL_act_31 (by decide) ⟨by omega, by omega⟩ ⟨by decide, by decide⟩ (fun c_3 => ?_) (fun c_3 => ?_)
  · refine x_iload_n C dL_act_81 rfl ?_
    refine x_const C dL_act_82 ?_
    refine x_icmp_ne 122 C dL_act_83 (by decide) ⟨by omega, by omega⟩ ⟨by decide, by decide⟩ (fun c_4 => ?_) (fun c_4 => ?_)
    · refine x_iload_n C dL_act_122 rfl ?_
      refine x_bipush C dL_act_123 (by decide) ?_
      refine x_icmp_ge 165 C dL_act_125 (by decide) ⟨by omega, by omega⟩ ⟨by decide, by decide⟩ (fun c_5 => ?_) (fun c_5 => ?_)
      · refine x_iload_n C dL_act_165 rfl ?_
        refine x_bipush C dL_act_166 (by decide) ?_
        refine x_icmp_ne 191 C dL_act_168 (by decide) ⟨by omega, by omega⟩ ⟨by decide, by decide⟩ (fun c_6 => ?_) (fun c_6 => ?_)
        · refine x_iload_n C dL_act_191 rfl ?_
          refine x_bipush C dL_act_192 (by decide) ?_
          refine x_icmp_ne 230 C dL_act_194 (by decide) ⟨by omega, by omega⟩ ⟨by decide, by decide⟩ (fun c_7 => ?_) (fun c_7 => ?_)
          · refine x_iload_n C dL_act_230 rfl ?_
            refine x_bipush C dL_act_231 (by decide) ?_
            refine x_icmp_ge 248 C dL_act_233 (by decide) ⟨by omega, by omega⟩ ⟨by decide, by decide⟩ (fun c_8 => ?_) (fun c_8 => ?_)
            · refine x_iload_n C dL_act_248 rfl ?_
              refine x_bipush C dL_act_249 (by decide) ?_
              refine x_icmp_ne 273 C dL_act_251 (by decide) ⟨by omega, by omega⟩ ⟨by decide, by decide⟩ (fun c_9 => ?_) (fun c_9 => ?_)
              · refine x_aload_n C dL_act_273 rfl ?_
                obtain ⟨u0, tq0, N0, T0⟩ := l_clear (f := tF x) hE S0
                refine x_callV (nA := 0) (As := []) (rest := []) C N0 q_658 q_659 q_660 q_21 q_661 (by decide +kernel) (wl_t 0 (by decide)) rfl rfl (by decide) (by decide) (Nat.le_of_ble_eq_true rfl) dL_act_274 rfl ?_
                refine x_pop C dL_act_277 rfl ?_
                refine x_aload_n C dL_act_278 rfl ?_
                refine x_bipush C dL_act_279 (by decide) ?_
                refine x_iload_n C dL_act_281 rfl ?_
                refine x_bipush C dL_act_282 (by decide) ?_
                refine x_callS (nA := 2) (As := [vI x, vI 10]) (rest := [vI 48, .ref (tA E 0)]) C (m_L_low hE (v := x) (n := 10) ⟨by decide, by decide⟩) q_310 q_311 q_20 q_312 (by decide +kernel) rfl (by decide) (by decide) (Nat.le_of_ble_eq_true rfl) dL_act_284 rfl ?_
                have l_10 := lowF_r (v := x) (n := 10) (by decide)
                refine x_iadd C dL_act_287 ?_
                refine x_i2c C dL_act_288 ⟨by omega, by omega⟩ ?_
                obtain ⟨u1, tq1, N1, T1⟩ := l_type hE T0 (c := 48 + (lowF x 10)) (by decide) ⟨by omega, by omega⟩ rfl
                refine x_callV (nA := 1) (As := [vI (48 + (lowF x 10))]) (rest := []) C N1 q_662 q_663 q_664 q_21 q_665 (by decide +kernel) (wl_t 0 (by decide)) rfl rfl (by decide) (by decide) (Nat.le_of_ble_eq_true rfl) dL_act_289 rfl ?_
                refine x_pop C dL_act_292 rfl ?_
                refine x_aload_n C dL_act_293 rfl ?_
                refine x_bipush C dL_act_294 (by decide) ?_
                obtain ⟨u2, tq2, N2, T2⟩ := l_type hE T1 (c := 43) (by decide) ⟨by omega, by omega⟩ rfl
                refine x_callV (nA := 1) (As := [vI 43]) (rest := []) C N2 q_662 q_663 q_664 q_21 q_665 (by decide +kernel) (wl_t 0 (by decide)) rfl rfl (by decide) (by decide) (Nat.le_of_ble_eq_true rfl) dL_act_296 rfl ?_
                refine x_pop C dL_act_299 rfl ?_
                refine x_aload_n C dL_act_300 rfl ?_
                refine x_bipush C dL_act_301 (by decide) ?_
                refine x_iload_n C dL_act_303 rfl ?_
                refine x_const C dL_act_304 ?_
                refine x_ishr C dL_act_305 ?_
                refine x_bipush C dL_act_306 (by decide) ?_
                refine x_callS (nA := 2) (As := [vI (shR x 4), vI 9]) (rest := [vI 49, .ref (tA E 0)]) C (m_L_low hE (v := shR x 4) (n := 9) ⟨by decide, by decide⟩) q_310 q_311 q_20 q_312 (by decide +kernel) rfl (by decide) (by decide) (Nat.le_of_ble_eq_true rfl) dL_act_308 rfl ?_
                have l_11 := lowF_r (v := shR x 4) (n := 9) (by decide)
                refine x_iadd C dL_act_311 ?_
                refine x_i2c C dL_act_312 ⟨by omega, by omega⟩ ?_
                obtain ⟨u3, tq3, N3, T3⟩ := l_type hE T2 (c := 49 + (lowF (shR x 4) 9)) (by decide) ⟨by omega, by omega⟩ rfl
                refine x_callV (nA := 1) (As := [vI (49 + (lowF (shR x 4) 9))]) (rest := []) C N3 q_662 q_663 q_664 q_21 q_665 (by decide +kernel) (wl_t 0 (by decide)) rfl rfl (by decide) (by decide) (Nat.le_of_ble_eq_true rfl) dL_act_313 rfl ?_
                refine x_pop C dL_act_316 rfl ?_
                refine x_aload_n C dL_act_317 rfl ?_
                refine x_bipush C dL_act_318 (by decide) ?_
                obtain ⟨u4, tq4, N4, T4⟩ := l_type hE T3 (c := 120) (by decide) ⟨by omega, by omega⟩ rfl
                refine x_callV (nA := 1) (As := [vI 120]) (rest := []) C N4 q_662 q_663 q_664 q_21 q_665 (by decide +kernel) (wl_t 0 (by decide)) rfl rfl (by decide) (by decide) (Nat.le_of_ble_eq_true rfl) dL_act_320 rfl ?_
                refine x_pop C dL_act_323 rfl ?_
                refine x_aload_n C dL_act_324 rfl ?_
                refine x_bipush C dL_act_325 (by decide) ?_
                refine x_iload_n C dL_act_327 rfl ?_
                refine x_bipush C dL_act_328 (by decide) ?_
                refine x_ishr C dL_act_330 ?_
                refine x_const C dL_act_331 ?_
                refine x_callS (nA := 2) (As := [vI (shR x 8), vI 4]) (rest := [vI 49, .ref (tA E 0)]) C (m_L_low hE (v := shR x 8) (n := 4) ⟨by decide, by decide⟩) q_310 q_311 q_20 q_312 (by decide +kernel) rfl (by decide) (by decide) (Nat.le_of_ble_eq_true rfl) dL_act_332 rfl ?_
                have l_12 := lowF_r (v := shR x 8) (n := 4) (by decide)
                refine x_iadd C dL_act_335 ?_
                refine x_i2c C dL_act_336 ⟨by omega, by omega⟩ ?_
                obtain ⟨u5, tq5, N5, T5⟩ := l_type hE T4 (c := 49 + (lowF (shR x 8) 4)) (by decide) ⟨by omega, by omega⟩ rfl
                refine x_callV (nA := 1) (As := [vI (49 + (lowF (shR x 8) 4))]) (rest := []) C N5 q_662 q_663 q_664 q_21 q_665 (by decide +kernel) (wl_t 0 (by decide)) rfl rfl (by decide) (by decide) (Nat.le_of_ble_eq_true rfl) dL_act_337 rfl ?_
                refine x_pop C dL_act_340 rfl ?_
                refine x_aload_n C dL_act_341 rfl ?_
                obtain ⟨v9, hs9, tp9, M9, A9⟩ := l_bookAll hE (f := tF x) (d := lowF x 10) (n := 1 + lowF (shR x 4) 9) (p := 1 + lowF (shR x 8) 4) (T5 : HLX _ _ _ _ 5 _) (by omega) (by omega) (by omega) rfl rfl (by show 49 + lowF (shR x 4) 9 = _; omega) rfl (by show 49 + lowF (shR x 8) 4 = _; omega)
                refine x_callV (nA := 0) (As := []) (rest := []) C M9 q_670 q_671 q_672 q_21 q_673 (by decide +kernel) (wl_t 0 (by decide)) rfl rfl (by decide) (by decide) (Nat.le_of_ble_eq_true rfl) dL_act_342 rfl ?_
                exact y_iret C D rfl dL_act_345 ⟨v9, rfl, by unfold zAct; rw [if_neg (by omega), if_neg (by omega), if_neg (by omega), if_neg (by omega), if_neg (by omega), if_neg (by omega), if_neg (by omega)]; exact A9⟩
              · refine x_aload_n C dL_act_254 rfl ?_
                refine x_iload_n C dL_act_255 rfl ?_
                refine x_bipush C dL_act_256 (by decide) ?_
                refine x_callS (nA := 2) (As := [vI x, vI 10]) (rest := [.ref (tA E 0)]) C (m_L_low hE (v := x) (n := 10) ⟨by decide, by decide⟩) q_310 q_311 q_20 q_312 (by decide +kernel) rfl (by decide) (by decide) (Nat.le_of_ble_eq_true rfl) dL_act_258 rfl ?_
                have l_13 := lowF_r (v := x) (n := 10) (by decide)
                refine x_iload_n C dL_act_261 rfl ?_
                refine x_const C dL_act_262 ?_
                refine x_ishr C dL_act_263 ?_
                refine x_bipush C dL_act_264 (by decide) ?_
                refine x_callS (nA := 2) (As := [vI (shR x 4), vI 30]) (rest := [vI (lowF x 10), .ref (tA E 0)]) C (m_L_low hE (v := shR x 4) (n := 30) ⟨by decide, by decide⟩) q_310 q_311 q_20 q_312 (by decide +kernel) rfl (by decide) (by decide) (Nat.le_of_ble_eq_true rfl) dL_act_266 rfl ?_
                have l_14 := lowF_r (v := shR x 4) (n := 30) (by decide)
                obtain ⟨v9, hs9, tp9, M9, A9⟩ := l_set hE S0 (c := lowF x 10) (w := lowF (shR x 4) 30) ⟨by omega, by omega⟩ ⟨by omega, by omega⟩
                refine x_callV (nA := 2) (As := [vI (lowF x 10), vI (lowF (shR x 4) 30)]) (rest := []) C M9 q_645 q_646 q_647 q_21 q_648 (by decide +kernel) (wl_t 0 (by decide)) rfl rfl (by decide) (by decide) (Nat.le_of_ble_eq_true rfl) dL_act_269 rfl ?_
                exact y_iret C D rfl dL_act_272 ⟨v9, rfl, by unfold zAct; rw [if_neg (by omega), if_neg (by omega), if_neg (by omega), if_neg (by omega), if_neg (by omega), if_neg (by omega), if_pos (by omega)]; exact A9⟩
            · refine x_aload_n C dL_act_236 rfl ?_
              refine x_const C dL_act_237 ?_
              refine x_iload_n C dL_act_238 rfl ?_
              refine x_const C dL_act_239 ?_
              refine x_callS (nA := 2) (As := [vI x, vI 3]) (rest := [vI 1, .ref (tA E 0)]) C (m_L_low hE (v := x) (n := 3) ⟨by decide, by decide⟩) q_310 q_311 q_20 q_312 (by decide +kernel) rfl (by decide) (by decide) (Nat.le_of_ble_eq_true rfl) dL_act_240 rfl ?_
              have l_15 := lowF_r (v := x) (n := 3) (by decide)
              refine x_iadd C dL_act_243 ?_
              obtain ⟨v9, hs9, tp9, M9, A9⟩ := l_pass hE S0 (n := 1 + (lowF x 3)) ⟨by omega, by omega⟩
              refine x_callV (nA := 1) (As := [vI (1 + (lowF x 3))]) (rest := []) C M9 q_585 q_586 q_587 q_21 q_588 (by decide +kernel) (wl_t 0 (by decide)) rfl rfl (by decide) (by decide) (Nat.le_of_ble_eq_true rfl) dL_act_244 rfl ?_
              exact y_iret C D rfl dL_act_247 ⟨v9, rfl, by unfold zAct; rw [if_neg (by omega), if_neg (by omega), if_neg (by omega), if_neg (by omega), if_neg (by omega), if_pos (by omega)]; exact A9⟩
          · refine x_iload_n C dL_act_197 rfl ?_
            refine x_const C dL_act_198 ?_
            refine x_callS (nA := 2) (As := [vI x, vI 4]) (rest := []) C (m_L_low hE (v := x) (n := 4) ⟨by decide, by decide⟩) q_310 q_311 q_20 q_312 (by decide +kernel) rfl (by decide) (by decide) (Nat.le_of_ble_eq_true rfl) dL_act_199 rfl ?_
            have l_16 := lowF_r (v := x) (n := 4) (by decide)
            refine x_if_ne 212 C dL_act_202 (by decide) ⟨by omega, by omega⟩ (fun c_17 => ?_) (fun c_17 => ?_)
            · refine x_aload_n C dL_act_212 rfl ?_
              refine x_iload_n C dL_act_213 rfl ?_
              refine x_const C dL_act_214 ?_
              refine x_callS (nA := 2) (As := [vI x, vI 3]) (rest := [.ref (tA E 0)]) C (m_L_low hE (v := x) (n := 3) ⟨by decide, by decide⟩) q_310 q_311 q_20 q_312 (by decide +kernel) rfl (by decide) (by decide) (Nat.le_of_ble_eq_true rfl) dL_act_215 rfl ?_
              have l_18 := lowF_r (v := x) (n := 3) (by decide)
              refine x_if_le 225 C dL_act_218 (by decide) ⟨by omega, by omega⟩ (fun c_19 => ?_) (fun c_19 => ?_)
              · refine x_const C dL_act_225 ?_
                obtain ⟨v9, hs9, tp9, M9, A9⟩ := l_flight hE S0 (x := 0) (by decide)
                refine x_callV (nA := 1) (As := [vI 0]) (rest := []) C M9 q_641 q_642 q_643 q_21 q_644 (by decide +kernel) (wl_t 0 (by decide)) rfl rfl (by decide) (by decide) (Nat.le_of_ble_eq_true rfl) dL_act_226 rfl ?_
                exact y_iret C D rfl dL_act_229 ⟨v9, rfl, by unfold zAct; rw [if_neg (by omega), if_neg (by omega), if_neg (by omega), if_neg (by omega), if_pos (by omega), if_neg c_17, if_neg (by omega)]; exact A9⟩
              · refine x_const C dL_act_221 ?_
                refine x_goto 226 C dL_act_222 (by decide) ?_
                obtain ⟨v9, hs9, tp9, M9, A9⟩ := l_flight hE S0 (x := 1) (by decide)
                refine x_callV (nA := 1) (As := [vI 1]) (rest := []) C M9 q_641 q_642 q_643 q_21 q_644 (by decide +kernel) (wl_t 0 (by decide)) rfl rfl (by decide) (by decide) (Nat.le_of_ble_eq_true rfl) dL_act_226 rfl ?_
                exact y_iret C D rfl dL_act_229 ⟨v9, rfl, by unfold zAct; rw [if_neg (by omega), if_neg (by omega), if_neg (by omega), if_neg (by omega), if_pos (by omega), if_neg c_17, if_pos (by omega)]; exact A9⟩
            · refine x_aload_n C dL_act_205 rfl ?_
              obtain ⟨v9, hs9, tp9, M9, A9⟩ := l_recall hE S0
              refine x_callV (nA := 0) (As := []) (rest := []) C M9 q_633 q_634 q_635 q_21 q_636 (by decide +kernel) (wl_t 0 (by decide)) rfl rfl (by decide) (by decide) (Nat.le_of_ble_eq_true rfl) dL_act_206 rfl ?_
              refine x_goto 229 C dL_act_209 (by decide) ?_
              exact y_iret C D rfl dL_act_229 ⟨v9, rfl, by unfold zAct; rw [if_neg (by omega), if_neg (by omega), if_neg (by omega), if_neg (by omega), if_pos (by omega), if_pos c_17]; exact A9⟩
        · refine x_aload_n C dL_act_171 rfl ?_
          refine x_iload_n C dL_act_172 rfl ?_
          refine x_const C dL_act_173 ?_
          refine x_callS (nA := 2) (As := [vI x, vI 2]) (rest := [.ref (tA E 0)]) C (m_L_low hE (v := x) (n := 2) ⟨by decide, by decide⟩) q_310 q_311 q_20 q_312 (by decide +kernel) rfl (by decide) (by decide) (Nat.le_of_ble_eq_true rfl) dL_act_174 rfl ?_
          have l_20 := lowF_r (v := x) (n := 2) (by decide)
          refine x_const C dL_act_177 ?_
          refine x_iload_n C dL_act_178 rfl ?_
          refine x_const C dL_act_179 ?_
          refine x_ishr C dL_act_180 ?_
          refine x_bipush C dL_act_181 (by decide) ?_
          refine x_callS (nA := 2) (As := [vI (shR x 1), vI 40]) (rest := [vI 1, vI (lowF x 2), .ref (tA E 0)]) C (m_L_low hE (v := shR x 1) (n := 40) ⟨by decide, by decide⟩) q_310 q_311 q_20 q_312 (by decide +kernel) rfl (by decide) (by decide) (Nat.le_of_ble_eq_true rfl) dL_act_183 rfl ?_
          have l_21 := lowF_r (v := shR x 1) (n := 40) (by decide)
          refine x_iadd C dL_act_186 ?_
          obtain ⟨v9, hs9, tp9, M9, A9⟩ := l_order hE S0 (c := lowF x 2) (w := 1 + (lowF (shR x 1) 40)) ⟨by omega, by omega⟩ ⟨by omega, by omega⟩
          refine x_callV (nA := 2) (As := [vI (lowF x 2), vI (1 + (lowF (shR x 1) 40))]) (rest := []) C M9 q_625 q_626 q_627 q_21 q_628 (by decide +kernel) (wl_t 0 (by decide)) rfl rfl (by decide) (by decide) (Nat.le_of_ble_eq_true rfl) dL_act_187 rfl ?_
          exact y_iret C D rfl dL_act_190 ⟨v9, rfl, by unfold zAct; rw [if_neg (by omega), if_neg (by omega), if_neg (by omega), if_pos (by omega)]; exact A9⟩
      · refine x_aload_n C dL_act_128 rfl ?_
        refine x_iload C dL_act_129 rfl ?_
        refine x_iload_n C dL_act_131 rfl ?_
        refine x_const C dL_act_132 ?_
        refine x_callS (nA := 2) (As := [vI x, vI 4]) (rest := [vI (r 0), .ref (tA E 0)]) C (m_L_low hE (v := x) (n := 4) ⟨by decide, by decide⟩) q_310 q_311 q_20 q_312 (by decide +kernel) rfl (by decide) (by decide) (Nat.le_of_ble_eq_true rfl) dL_act_133 rfl ?_
        have l_22 := lowF_r (v := x) (n := 4) (by decide)
        refine x_iadd C dL_act_136 ?_
        refine x_iload C dL_act_137 rfl ?_
        refine x_iload_n C dL_act_139 rfl ?_
        refine x_const C dL_act_140 ?_
        refine x_callS (nA := 2) (As := [vI x, vI 4]) (rest := [vI (r 0), vI ((r 0) + (lowF x 4)), .ref (tA E 0)]) C (m_L_low hE (v := x) (n := 4) ⟨by decide, by decide⟩) q_310 q_311 q_20 q_312 (by decide +kernel) rfl (by decide) (by decide) (Nat.le_of_ble_eq_true rfl) dL_act_141 rfl ?_
        have l_23 := lowF_r (v := x) (n := 4) (by decide)
        refine x_iadd C dL_act_144 ?_
        refine x_iload_n C dL_act_145 rfl ?_
        refine x_const C dL_act_146 ?_
        refine x_ishr C dL_act_147 ?_
        refine x_const C dL_act_148 ?_
        refine x_callS (nA := 2) (As := [vI (shR x 2), vI 4]) (rest := [vI ((r 0) + (lowF x 4)), vI ((r 0) + (lowF x 4)), .ref (tA E 0)]) C (m_L_low hE (v := shR x 2) (n := 4) ⟨by decide, by decide⟩) q_310 q_311 q_20 q_312 (by decide +kernel) rfl (by decide) (by decide) (Nat.le_of_ble_eq_true rfl) dL_act_149 rfl ?_
        have l_24 := lowF_r (v := shR x 2) (n := 4) (by decide)
        refine x_iadd C dL_act_152 ?_
        refine x_iload_n C dL_act_153 rfl ?_
        refine x_const C dL_act_154 ?_
        refine x_ishr C dL_act_155 ?_
        refine x_bipush C dL_act_156 (by decide) ?_
        refine x_callS (nA := 2) (As := [vI (shR x 4), vI 8]) (rest := [vI (((r 0) + (lowF x 4)) + (lowF (shR x 2) 4)), vI ((r 0) + (lowF x 4)), .ref (tA E 0)]) C (m_L_low hE (v := shR x 4) (n := 8) ⟨by decide, by decide⟩) q_310 q_311 q_20 q_312 (by decide +kernel) rfl (by decide) (by decide) (Nat.le_of_ble_eq_true rfl) dL_act_158 rfl ?_
        have l_25 := lowF_r (v := shR x 4) (n := 8) (by decide)
        obtain ⟨v9, hs9, tp9, M9, A9⟩ := l_weather hE S0 (x := (r 0) + (lowF x 4)) (y := ((r 0) + (lowF x 4)) + (lowF (shR x 2) 4)) (w := lowF (shR x 4) 8) ⟨by omega, by omega⟩ ⟨by omega, by omega⟩ ⟨by omega, by omega⟩
        refine x_callV (nA := 3) (As := [vI ((r 0) + (lowF x 4)), vI (((r 0) + (lowF x 4)) + (lowF (shR x 2) 4)), vI (lowF (shR x 4) 8)]) (rest := []) C M9 q_612 q_613 q_614 q_21 q_615 (by decide +kernel) (wl_t 0 (by decide)) rfl rfl (by decide) (by decide) (Nat.le_of_ble_eq_true rfl) dL_act_161 rfl ?_
        exact y_iret C D rfl dL_act_164 ⟨v9, rfl, by unfold zAct; rw [if_neg (by omega), if_neg (by omega), if_pos (by omega)]; exact A9⟩
    · refine x_iload_n C dL_act_86 rfl ?_
      refine x_bipush C dL_act_87 (by decide) ?_
      refine x_ishr C dL_act_89 ?_
      refine x_const C dL_act_90 ?_
      refine x_callS (nA := 2) (As := [vI (shR g 9), vI 2]) (rest := []) C (m_L_low hE (v := shR g 9) (n := 2) ⟨by decide, by decide⟩) q_310 q_311 q_20 q_312 (by decide +kernel) rfl (by decide) (by decide) (Nat.le_of_ble_eq_true rfl) dL_act_91 rfl ?_
      have l_26 := lowF_r (v := shR g 9) (n := 2) (by decide)
      refine x_if_ne 106 C dL_act_94 (by decide) ⟨by omega, by omega⟩ (fun c_27 => ?_) (fun c_27 => ?_)
      · refine x_aload_n C dL_act_106 rfl ?_
        refine x_iload C dL_act_107 rfl ?_
        refine x_const C dL_act_109 ?_
        refine x_iload_n C dL_act_110 rfl ?_
        refine x_const C dL_act_111 ?_
        refine x_ishr C dL_act_112 ?_
        refine x_const C dL_act_113 ?_
        refine x_callS (nA := 2) (As := [vI (shR x 5), vI 4]) (rest := [vI 1, vI (lowF x ((r 1) + 1)), .ref (tA E 0)]) C (m_L_low hE (v := shR x 5) (n := 4) ⟨by decide, by decide⟩) q_310 q_311 q_20 q_312 (by decide +kernel) rfl (by decide) (by decide) (Nat.le_of_ble_eq_true rfl) dL_act_114 rfl ?_
        have l_28 := lowF_r (v := shR x 5) (n := 4) (by decide)
        refine x_iadd C dL_act_117 ?_
        obtain ⟨v9, hs9, tp9, M9, A9⟩ := l_extend hE S0 (b := lowF x ((r 1) + 1)) (n := 1 + (lowF (shR x 5) 4)) ⟨by omega, by omega⟩ ⟨by omega, by omega⟩
        refine x_callV (nA := 2) (As := [vI (lowF x ((r 1) + 1)), vI (1 + (lowF (shR x 5) 4))]) (rest := []) C M9 q_604 q_605 q_606 q_21 q_607 (by decide +kernel) (wl_t 0 (by decide)) rfl rfl (by decide) (by decide) (Nat.le_of_ble_eq_true rfl) dL_act_118 rfl ?_
        exact y_iret C D rfl dL_act_121 ⟨v9, rfl, by unfold zAct; rw [if_neg (by omega), if_pos (by omega), if_neg c_27]; exact A9⟩
      · refine x_aload_n C dL_act_97 rfl ?_
        refine x_iload C dL_act_98 rfl ?_
        obtain ⟨v9, hs9, tp9, M9, A9⟩ := l_cancel hE S0 (b := lowF x ((r 1) + 1)) ⟨by omega, by omega⟩
        refine x_callV (nA := 1) (As := [vI (lowF x ((r 1) + 1))]) (rest := []) C M9 q_595 q_596 q_597 q_21 q_598 (by decide +kernel) (wl_t 0 (by decide)) rfl rfl (by decide) (by decide) (Nat.le_of_ble_eq_true rfl) dL_act_100 rfl ?_
        refine x_goto 121 C dL_act_103 (by decide) ?_
        exact y_iret C D rfl dL_act_121 ⟨v9, rfl, by unfold zAct; rw [if_neg (by omega), if_pos (by omega), if_pos c_27]; exact A9⟩
  · refine x_aload_n C dL_act_34 rfl ?_
    refine x_iload C dL_act_35 rfl ?_
    refine x_iload_n C dL_act_37 rfl ?_
    refine x_bipush C dL_act_38 (by decide) ?_
    refine x_callS (nA := 2) (As := [vI x, vI 6]) (rest := [vI (r 0), .ref (tA E 0)]) C (m_L_low hE (v := x) (n := 6) ⟨by decide, by decide⟩) q_310 q_311 q_20 q_312 (by decide +kernel) rfl (by decide) (by decide) (Nat.le_of_ble_eq_true rfl) dL_act_40 rfl ?_
    have l_29 := lowF_r (v := x) (n := 6) (by decide)
    refine x_iadd C dL_act_43 ?_
    refine x_iload_n C dL_act_44 rfl ?_
    refine x_const C dL_act_45 ?_
    refine x_ishr C dL_act_46 ?_
    refine x_bipush C dL_act_47 (by decide) ?_
    refine x_callS (nA := 2) (As := [vI (shR x 3), vI 8]) (rest := [vI ((r 0) + (lowF x 6)), .ref (tA E 0)]) C (m_L_low hE (v := shR x 3) (n := 8) ⟨by decide, by decide⟩) q_310 q_311 q_20 q_312 (by decide +kernel) rfl (by decide) (by decide) (Nat.le_of_ble_eq_true rfl) dL_act_49 rfl ?_
    have l_30 := lowF_r (v := shR x 3) (n := 8) (by decide)
    refine x_bipush C dL_act_52 (by decide) ?_
    refine x_idiv C dL_act_54 ⟨by omega, by omega⟩ ⟨by omega, by omega⟩ (by omega) (by omega) ?_
    refine x_isub C dL_act_55 ?_
    refine x_const C dL_act_56 ?_
    refine x_iload_n C dL_act_57 rfl ?_
    refine x_const C dL_act_58 ?_
    refine x_ishr C dL_act_59 ?_
    refine x_bipush C dL_act_60 (by decide) ?_
    refine x_callS (nA := 2) (As := [vI (shR x 4), vI 6]) (rest := [vI 1, vI (((r 0) + (lowF x 6)) - ((lowF (shR x 3) 8) / 7)), .ref (tA E 0)]) C (m_L_low hE (v := shR x 4) (n := 6) ⟨by decide, by decide⟩) q_310 q_311 q_20 q_312 (by decide +kernel) rfl (by decide) (by decide) (Nat.le_of_ble_eq_true rfl) dL_act_62 rfl ?_
    have l_31 := lowF_r (v := shR x 4) (n := 6) (by decide)
    refine x_iadd C dL_act_65 ?_
    refine x_const C dL_act_66 ?_
    refine x_iload_n C dL_act_67 rfl ?_
    refine x_bipush C dL_act_68 (by decide) ?_
    refine x_ishr C dL_act_70 ?_
    refine x_bipush C dL_act_71 (by decide) ?_
    refine x_callS (nA := 2) (As := [vI (shR x 7), vI 6]) (rest := [vI 1, vI (1 + (lowF (shR x 4) 6)), vI (((r 0) + (lowF x 6)) - ((lowF (shR x 3) 8) / 7)), .ref (tA E 0)]) C (m_L_low hE (v := shR x 7) (n := 6) ⟨by decide, by decide⟩) q_310 q_311 q_20 q_312 (by decide +kernel) rfl (by decide) (by decide) (Nat.le_of_ble_eq_true rfl) dL_act_73 rfl ?_
    have l_32 := lowF_r (v := shR x 7) (n := 6) (by decide)
    refine x_iadd C dL_act_76 ?_
    obtain ⟨v9, hs9, tp9, M9, A9⟩ := l_book hE S0 (a := ((r 0) + (lowF x 6)) - ((lowF (shR x 3) 8) / 7)) (n := 1 + (lowF (shR x 4) 6)) (p := 1 + (lowF (shR x 7) 6)) ⟨by omega, by omega⟩ ⟨by omega, by omega⟩ ⟨by omega, by omega⟩
    refine x_callV (nA := 3) (As := [vI (((r 0) + (lowF x 6)) - ((lowF (shR x 3) 8) / 7)), vI (1 + (lowF (shR x 4) 6)), vI (1 + (lowF (shR x 7) 6))]) (rest := []) C M9 q_435 q_436 q_437 q_21 q_438 (by decide +kernel) (wl_t 0 (by decide)) rfl rfl (by decide) (by decide) (Nat.le_of_ble_eq_true rfl) dL_act_77 rfl ?_
    exact y_iret C D rfl dL_act_80 ⟨v9, rfl, by unfold zAct; rw [if_pos (by omega)]; exact A9⟩
