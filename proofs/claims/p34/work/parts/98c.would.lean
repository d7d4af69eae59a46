/-! WHAT WOULD BE, beside what then is (printed by would.py) -/
section WLD
variable {hs : Nat → HV} {tp : HV} {r : Int → Int} {k : Int} {E : HE}
theorem l_firstV (hE : HI E) (S : HLS hs tp r k) {n p : Int} (n0 : 1 ≤ n ∧ n ≤ 9) (p0 : 1 ≤ p ∧ p ≤ 9) : ∃ v hs' tp', Mt yX6_firstFree cX6_firstFree 6 (some .int) 3 E [.ref (tA E 0), vI n, vI p] hs tp zM (some (vI v)) hs' tp' zM ∧ HLS hs' tp' r k ∧ (v = -1000005 ∨ (r 0 ≤ v ∧ v ≤ 899 ∧ mFits r v (v + n) p ∧ (r 0 < v → ¬ mFits r (v - 1) (v - 1 + n) p))) := by
  obtain ⟨hs', tp', M, S'⟩ := l_first hE S (n := n) (p := p) ⟨by omega, by omega⟩ ⟨by omega, by omega⟩
  exact ⟨_, hs', tp', M, S', first_x n0 p0 S.day⟩
theorem l_use_no (hE : HI E) (S : HLS hs tp r k) : Mt yX6_use cX6_use 6 (some .double) 3 E [.ref (tA E 0), vI 3, vI 2] hs tp zM (some (.double 13830554455654793216)) hs tp zM := by
  have h := l_use hE S (x := 3) (y := 2) ⟨by decide, by decide⟩ ⟨by decide, by decide⟩
  rwa [show yUse r 3 2 = 13830554455654793216 from if_pos (by omega)] at h
end WLD
set_option maxRecDepth 100000 in
set_option maxHeartbeats 8000000 in
theorem m_L_would {hs : Nat → HV} {tp : HV} {r : Int → Int} {k : Int} {E : HE} (hE : HI E) {x : Int} (S0 : HLS hs tp r k) : Mx yL_would cL_would 14 (some .boolean) 9 E [.ref (tA E 0), vI x] hs tp (fun v hs' tp' => v = some (vI 1) ∧ ∃ k', HLS hs' tp' r k') := by
  refine mk_Mx hE (plainFor_of_name (by decide)) (Nat.le_of_ble_eq_true rfl) (by intro w0 hw0; simp only [List.mem_cons, List.not_mem_nil, or_false] at hw0; rcases hw0 with rfl | rfl <;> rfl) (rfl : _ = [_, _, _, _, _, _, _, _, _, _, _, _, _, _]) ?_
  intro F C D
  have R := S0.mr
  have rc := R.came
  have r4 := R.cal
  have d0 := S0.day
  refine x_const C dL_would_0 ?_
  refine x_iload_n C dL_would_1 rfl ?_
  refine x_bipush C dL_would_2 (by decide) ?_
  refine x_callS (nA := 2) (As := [vI x, vI 9]) (rest := [vI 1]) C (m_L_low hE (v := x) (n := 9) ⟨by decide, by decide⟩) q_310 q_311 q_20 q_312 (by decide +kernel) rfl (by decide) (by decide) (Nat.le_of_ble_eq_true rfl) dL_would_4 rfl ?_
  have l_1 := lowF_r (v := x) (n := 9) (by decide)
  refine x_iadd C dL_would_7 ?_
  refine x_istore_n C dL_would_8 (by decide) (rfl : _ = [_, _, _, _, _, _, _, _, _, _, _, _, _, _]) ?_
  refine x_const C dL_would_9 ?_
  refine x_iload_n C dL_would_10 rfl ?_
  refine x_const C dL_would_11 ?_
  refine x_ishr C dL_would_12 ?_
  refine x_bipush C dL_would_13 (by decide) ?_
  refine x_callS (nA := 2) (As := [vI (shR x 4), vI 9]) (rest := [vI 1]) C (m_L_low hE (v := shR x 4) (n := 9) ⟨by decide, by decide⟩) q_310 q_311 q_20 q_312 (by decide +kernel) rfl (by decide) (by decide) (Nat.le_of_ble_eq_true rfl) dL_would_15 rfl ?_
  have l_2 := lowF_r (v := shR x 4) (n := 9) (by decide)
  refine x_iadd C dL_would_18 ?_
  refine x_istore_n C dL_would_19 (by decide) (rfl : _ = [_, _, _, _, _, _, _, _, _, _, _, _, _, _]) ?_
  refine x_aload_n C dL_would_20 rfl ?_
  refine x_iload_n C dL_would_21 rfl ?_
  refine x_iload_n C dL_would_22 rfl ?_
  obtain ⟨v1, hs1, tp1, M1, S1, hf⟩ := l_firstV hE S0 (n := 1 + (lowF x 9)) (p := 1 + (lowF (shR x 4) 9)) ⟨by omega, by omega⟩ ⟨by omega, by omega⟩
  refine x_callV (nA := 2) (As := [vI (1 + (lowF x 9)), vI (1 + (lowF (shR x 4) 9))]) (rest := []) C M1 q_428 q_429 q_430 q_21 q_431 (by decide +kernel) (wl_t 0 (by decide)) rfl rfl (by decide) (by decide) (Nat.le_of_ble_eq_true rfl) dL_would_23 rfl ?_
  refine x_istore C dL_would_26 (by decide) (rfl : _ = [_, _, _, _, _, _, _, _, _, _, _, _, _, _]) ?_
  have K114 : ∀ (hs' : Nat → HV) (tp' : HV) (k9 : Int), HLS hs' tp' r k9 → G F E hs' tp' zM 114 [some (.ref (tA E 0)), some (vI x), none, none, none, none, none, none, none, none, none, none, none, none] [] := by
    intro hs' tp' k9 T1
    refine x_const C dL_would_114 ?_
    refine x_iload_n C dL_would_115 rfl ?_
    refine x_bipush C dL_would_116 (by decide) ?_
    refine x_ishr C dL_would_118 ?_
    refine x_bipush C dL_would_119 (by decide) ?_
    refine x_callS (nA := 2) (As := [vI (shR x 8), vI 9]) (rest := [vI 1]) C (m_L_low hE (v := shR x 8) (n := 9) ⟨by decide, by decide⟩) q_310 q_311 q_20 q_312 (by decide +kernel) rfl (by decide) (by decide) (Nat.le_of_ble_eq_true rfl) dL_would_121 rfl ?_
    have l_3 := lowF_r (v := shR x 8) (n := 9) (by decide)
    refine x_iadd C dL_would_124 ?_
    refine x_istore C dL_would_125 (by decide) (rfl : _ = [_, _, _, _, _, _, _, _, _, _, _, _, _, _]) ?_
    refine x_aload_n C dL_would_127 rfl ?_
    obtain ⟨hT2, tT2, MT2, T2⟩ := l_hungry hE T1
    obtain ⟨vh, evh⟩ : ∃ z, z = hV r := ⟨_, rfl⟩
    rw [show (if r 10 < (mHu r).2 10 then (mHu r).1 else -1000005) = vh from evh.symm] at MT2
    refine x_callV (nA := 0) (As := []) (rest := []) C MT2 q_469 q_470 q_471 q_21 q_472 (by decide +kernel) (wl_t 0 (by decide)) rfl rfl (by decide) (by decide) (Nat.le_of_ble_eq_true rfl) dL_would_128 rfl ?_
    refine x_istore C dL_would_131 (by decide) (rfl : _ = [_, _, _, _, _, _, _, _, _, _, _, _, _, _]) ?_
    refine x_aload_n C dL_would_133 rfl ?_
    refine x_iload C dL_would_134 rfl ?_
    obtain ⟨hT3, tT3, MT3, T3⟩ := l_wanting hE T2 (n := 1 + lowF (shR x 8) 9) ⟨by omega, by omega⟩
    refine x_callV (nA := 1) (As := [vI (1 + (lowF (shR x 8) 9))]) (rest := []) C MT3 q_560 q_561 q_562 q_21 q_563 (by decide +kernel) (wl_t 0 (by decide)) rfl rfl (by decide) (by decide) (Nat.le_of_ble_eq_true rfl) dL_would_136 rfl ?_
    refine x_istore C dL_would_139 (by decide) (rfl : _ = [_, _, _, _, _, _, _, _, _, _, _, _, _, _]) ?_
    refine x_aload_n C dL_would_141 rfl ?_
    refine x_iload C dL_would_142 rfl ?_
    obtain ⟨hT4, tT4, MT4, T4⟩ := l_turned hE T3 (n := 1 + lowF (shR x 8) 9) ⟨by omega, by omega⟩
    refine x_callV (nA := 1) (As := [vI (1 + (lowF (shR x 8) 9))]) (rest := []) C MT4 q_568 q_569 q_570 q_21 q_571 (by decide +kernel) (wl_t 0 (by decide)) rfl rfl (by decide) (by decide) (Nat.le_of_ble_eq_true rfl) dL_would_144 rfl ?_
    refine x_istore C dL_would_147 (by decide) (rfl : _ = [_, _, _, _, _, _, _, _, _, _, _, _, _, _]) ?_
    obtain ⟨g0, g1, g2, h1, h2, h3, h4⟩ := hungry_x R d0 (n := 1 + lowF (shR x 8) 9) ⟨by omega, by omega⟩
    rw [← evh] at h1 h2 h3 h4
    have K176 : G F E hT4 tT4 zM 176 [some (.ref (tA E 0)), some (vI x), none, none, none, some (vI (1 + (lowF (shR x 8) 9))), some (vI vh), some (vI (gV r 10 (1 + lowF (shR x 8) 9))), some (vI (gV r 13 (1 + lowF (shR x 8) 9))), none, none, none, none, none] [] := by
      refine x_iload_n C dL_would_176 rfl ?_
      refine x_const C dL_would_177 ?_
      refine x_ishr C dL_would_178 ?_
      refine x_aload_n C dL_would_179 rfl ?_
      refine x_const C dL_would_180 ?_
      refine x_callV (nA := 1) (As := [vI 1]) (rest := [vI (shR x 3)]) C (l_cnt hE T4 ⟨by decide, by decide⟩ (by decide) (by decide) (show yCount zM r 1 = r 1 from rfl)) q_282 q_283 q_284 q_21 q_285 (by decide +kernel) (wl_t 0 (by decide)) rfl rfl (by decide) (by decide) (Nat.le_of_ble_eq_true rfl) dL_would_181 rfl ?_
      refine x_const C dL_would_184 ?_
      refine x_iadd C dL_would_185 ?_
      refine x_callS (nA := 2) (As := [vI (shR x 3), vI ((r 1) + 1)]) (rest := []) C (m_L_low hE (v := shR x 3) (n := (r 1) + 1) ⟨by omega, by omega⟩) q_310 q_311 q_20 q_312 (by decide +kernel) rfl (by decide) (by decide) (Nat.le_of_ble_eq_true rfl) dL_would_186 rfl ?_
      have l_4 := lowF_r (v := shR x 3) (n := (r 1) + 1) (by omega)
      refine x_istore C dL_would_189 (by decide) (rfl : _ = [_, _, _, _, _, _, _, _, _, _, _, _, _, _]) ?_
      refine x_aload_n C dL_would_191 rfl ?_
      refine x_iload C dL_would_192 rfl ?_
      obtain ⟨hT5, tT5, MT5, T5⟩ := l_gone hE T4 (b := lowF (shR x 3) (r 1 + 1)) ⟨by omega, by omega⟩
      refine x_callV (nA := 1) (As := [vI (lowF (shR x 3) ((r 1) + 1))]) (rest := []) C MT5 q_572 q_573 q_574 q_21 q_575 (by decide +kernel) (wl_t 0 (by decide)) rfl rfl (by decide) (by decide) (Nat.le_of_ble_eq_true rfl) dL_would_194 rfl ?_
      refine x_istore C dL_would_197 (by decide) (rfl : _ = [_, _, _, _, _, _, _, _, _, _, _, _, _, _]) ?_
      refine x_aload_n C dL_would_199 rfl ?_
      obtain ⟨v6, h6, t6, M6, T6, hb⟩ := l_best hE T5
      refine x_callV (nA := 0) (As := []) (rest := []) C M6 q_577 q_578 q_579 q_21 q_580 (by decide +kernel) (wl_t 0 (by decide)) rfl rfl (by decide) (by decide) (Nat.le_of_ble_eq_true rfl) dL_would_200 rfl ?_
      refine x_istore C dL_would_203 (by decide) (rfl : _ = [_, _, _, _, _, _, _, _, _, _, _, _, _, _]) ?_
      have K229 : G F E h6 t6 zM 229 [some (.ref (tA E 0)), some (vI x), none, none, none, some (vI (1 + (lowF (shR x 8) 9))), some (vI vh), some (vI (gV r 10 (1 + lowF (shR x 8) 9))), some (vI (gV r 13 (1 + lowF (shR x 8) 9))), some (vI (lowF (shR x 3) ((r 1) + 1))), some (vI (nV r (lowF (shR x 3) (r 1 + 1)))), some (vI v6), none, none] [] := by
        refine x_aload_n C dL_would_229 rfl ?_
        refine x_const C dL_would_230 ?_
        refine x_callV (nA := 1) (As := [vI 0]) (rest := []) C (l_cnt hE T6 ⟨by decide, by decide⟩ (by decide) (by decide) (show yCount zM r 0 = r 0 from rfl)) q_282 q_283 q_284 q_21 q_285 (by decide +kernel) (wl_t 0 (by decide)) rfl rfl (by decide) (by decide) (Nat.le_of_ble_eq_true rfl) dL_would_231 rfl ?_
        refine x_iload C dL_would_234 rfl ?_
        refine x_iadd C dL_would_236 ?_
        refine x_sipush C dL_would_237 (by decide) ?_
        refine x_icmp_le 245 C dL_would_240 (by decide) ⟨by omega, by omega⟩ ⟨by decide, by decide⟩ (fun c_5 => ?_) (fun c_5 => ?_)
        · refine x_aload_n C dL_would_245 rfl ?_
          refine x_bipush C dL_would_246 (by decide) ?_
          refine x_callV (nA := 1) (As := [vI 19]) (rest := []) C (l_cnt hE T6 ⟨by decide, by decide⟩ (by decide) (by decide) (show yCount zM r 19 = r 10 from rfl)) q_282 q_283 q_284 q_21 q_285 (by decide +kernel) (wl_t 0 (by decide)) rfl rfl (by decide) (by decide) (Nat.le_of_ble_eq_true rfl) dL_would_248 rfl ?_
          refine x_istore C dL_would_251 (by decide) (rfl : _ = [_, _, _, _, _, _, _, _, _, _, _, _, _, _]) ?_
          refine x_aload_n C dL_would_253 rfl ?_
          refine x_bipush C dL_would_254 (by decide) ?_
          refine x_callV (nA := 1) (As := [vI 22]) (rest := []) C (l_cnt hE T6 ⟨by decide, by decide⟩ (by decide) (by decide) (show yCount zM r 22 = r 13 from rfl)) q_282 q_283 q_284 q_21 q_285 (by decide +kernel) (wl_t 0 (by decide)) rfl rfl (by decide) (by decide) (Nat.le_of_ble_eq_true rfl) dL_would_256 rfl ?_
          refine x_istore C dL_would_259 (by decide) (rfl : _ = [_, _, _, _, _, _, _, _, _, _, _, _, _, _]) ?_
          refine x_aload_n C dL_would_261 rfl ?_
          refine x_iload C dL_would_262 rfl ?_
          obtain ⟨v8, h8, t8, M8, A8⟩ := l_pass hE T6 (n := 1 + lowF (shR x 8) 9) ⟨by omega, by omega⟩
          rw [show zPass r (1 + lowF (shR x 8) 9) = (mPasI r (1 + lowF (shR x 8) 9) 0, some (mPasI r (1 + lowF (shR x 8) 9))) from (if_neg (by omega)).trans (if_neg (by omega))] at A8
          have e8 : v8 = mPasI r (1 + lowF (shR x 8) 9) 0 := A8.1
          have T8 : HLU h8 t8 (mPasI r (1 + lowF (shR x 8) 9)) (kR k9) r := A8.2
          subst e8
          refine x_callV (nA := 1) (As := [vI (1 + (lowF (shR x 8) 9))]) (rest := []) C M8 q_585 q_586 q_587 q_21 q_588 (by decide +kernel) (wl_t 0 (by decide)) rfl rfl (by decide) (by decide) (Nat.le_of_ble_eq_true rfl) dL_would_264 rfl ?_
          refine x_aload_n C dL_would_267 rfl ?_
          refine x_const C dL_would_268 ?_
          refine x_callV (nA := 1) (As := [vI 0]) (rest := [vI (mPasI r (1 + lowF (shR x 8) 9) 0)]) C (l_cnt hE T8.ls ⟨by decide, by decide⟩ (by decide) (by decide) rfl) q_282 q_283 q_284 q_21 q_285 (by decide +kernel) (wl_t 0 (by decide)) rfl rfl (by decide) (by decide) (Nat.le_of_ble_eq_true rfl) dL_would_269 rfl ?_
          refine x_nsame 303 C dL_would_272 (by decide) rfl ?_
          refine x_aload_n C dL_would_275 rfl ?_
          refine x_bipush C dL_would_276 (by decide) ?_
          refine x_callV (nA := 1) (As := [vI 19]) (rest := []) C (l_cnt hE T8.ls ⟨by decide, by decide⟩ (by decide) (by decide) rfl) q_282 q_283 q_284 q_21 q_285 (by decide +kernel) (wl_t 0 (by decide)) rfl rfl (by decide) (by decide) (Nat.le_of_ble_eq_true rfl) dL_would_278 rfl ?_
          refine x_iload C dL_would_281 rfl ?_
          refine x_isub C dL_would_283 ?_
          refine x_iload C dL_would_284 rfl ?_
          refine x_nsame 303 C dL_would_286 (by decide) g0.symm ?_
          refine x_aload_n C dL_would_289 rfl ?_
          refine x_bipush C dL_would_290 (by decide) ?_
          refine x_callV (nA := 1) (As := [vI 22]) (rest := []) C (l_cnt hE T8.ls ⟨by decide, by decide⟩ (by decide) (by decide) rfl) q_282 q_283 q_284 q_21 q_285 (by decide +kernel) (wl_t 0 (by decide)) rfl rfl (by decide) (by decide) (Nat.le_of_ble_eq_true rfl) dL_would_292 rfl ?_
          refine x_iload C dL_would_295 rfl ?_
          refine x_isub C dL_would_297 ?_
          refine x_iload C dL_would_298 rfl ?_
          refine x_same 305 C dL_would_300 (by decide) (show _ = gV r 13 (1 + lowF (shR x 8) 9) from (if_neg (by omega)).symm) ?_
          have y0 := gone_x T1 (b := lowF (shR x 3) (r 1 + 1))
          have K343 : G F E h8 t8 zM 343 [some (.ref (tA E 0)), some (vI x), none, none, none, some (vI (1 + (lowF (shR x 8) 9))), some (vI vh), some (vI (gV r 10 (1 + lowF (shR x 8) 9))), some (vI (gV r 13 (1 + lowF (shR x 8) 9))), some (vI (lowF (shR x 3) ((r 1) + 1))), some (vI (nV r (lowF (shR x 3) (r 1 + 1)))), some (vI v6), some (vI (r 10)), some (vI (r 13))] [] := by
            refine x_aload_n C dL_would_343 rfl ?_
            obtain ⟨hsu, tpu, Mu, T9⟩ := l_undo hE T8
            refine x_callV (nA := 0) (As := []) (rest := []) C Mu q_254 q_255 q_256 q_21 q_257 (by decide +kernel) (wl_t 0 (by decide)) rfl rfl (by decide) (by decide) (Nat.le_of_ble_eq_true rfl) dL_would_344 rfl ?_
            refine x_pop C dL_would_347 rfl ?_
            refine x_aload_n C dL_would_348 rfl ?_
            refine x_bipush C dL_would_349 (by decide) ?_
            refine x_callV (nA := 1) (As := [vI 19]) (rest := []) C (l_cnt hE T9 ⟨by decide, by decide⟩ (by decide) (by decide) (show yCount zM r 19 = r 10 from rfl)) q_282 q_283 q_284 q_21 q_285 (by decide +kernel) (wl_t 0 (by decide)) rfl rfl (by decide) (by decide) (Nat.le_of_ble_eq_true rfl) dL_would_351 rfl ?_
            refine x_iload C dL_would_354 rfl ?_
            refine x_nsame 386 C dL_would_356 (by decide) rfl ?_
            refine x_aload_n C dL_would_359 rfl ?_
            refine x_const C dL_would_360 ?_
            obtain ⟨hT10, tT10, MT10, T10⟩ := l_wanting hE T9 (n := 0) ⟨by decide, by decide⟩
            rw [show gV r 10 0 = -1000002 from rfl] at MT10
            refine x_callV (nA := 1) (As := [vI 0]) (rest := []) C MT10 q_560 q_561 q_562 q_21 q_563 (by decide +kernel) (wl_t 0 (by decide)) rfl rfl (by decide) (by decide) (Nat.le_of_ble_eq_true rfl) dL_would_361 rfl ?_
            refine x_ldc (n := (-1000002)) C q_590 dL_would_364 rfl ?_
            refine x_icmp_ne 386 C dL_would_366 (by decide) ⟨by decide, by decide⟩ ⟨by decide, by decide⟩ (fun z => absurd z (by decide)) (fun _ => ?_)
            refine x_aload_n C dL_would_369 rfl ?_
            refine x_const C dL_would_370 ?_
            refine x_const C dL_would_371 ?_
            refine x_callV (nA := 2) (As := [vI 3, vI 2]) (rest := []) C (l_use_no hE T10) q_419 q_420 q_421 q_21 q_422 (by decide +kernel) (wl_t 0 (by decide)) rfl rfl (by decide) (by decide) (Nat.le_of_ble_eq_true rfl) dL_would_372 rfl ?_
            refine x_ldc2 C qd_591 dL_would_375 ?_
            refine x_dcmp (n := 0) C dL_would_378 (dc_self (by unfold vf_n64; decide)) ?_
            refine x_if_ne 386 C dL_would_379 (by decide) ⟨by decide, by decide⟩ (fun z => absurd z (by decide)) (fun _ => ?_)
            refine x_const C dL_would_382 ?_
            refine x_goto 387 C dL_would_383 (by decide) ?_
            exact y_iret C D rfl dL_would_387 ⟨rfl, _, T10⟩
          refine x_iload C dL_would_305 rfl ?_
          refine x_if_le 343 C dL_would_307 (by decide) ⟨by omega, by omega⟩ (fun c_6 => ?_) (fun c_6 => ?_)
          · exact K343
          · obtain ⟨y1, y2, y3⟩ := (gone_x T1 (b := lowF (shR x 3) (r 1 + 1))).2.2 (by omega)
            have y4 := y3 (1 + lowF (shR x 8) 9) (by omega) (by omega)
            have hk1 := (MR_pasI R (n := 1 + lowF (shR x 8) 9) (by omega) (by omega)).2.2 1 (Or.inr (Or.inl rfl)) (by decide)
            have q9 := T8.ls.mr.st (b := lowF (shR x 3) (r 1 + 1)) (by omega) (by omega)
            refine x_aload_n C dL_would_310 rfl ?_
            refine x_iload C dL_would_311 rfl ?_
            refine x_const C dL_would_313 ?_
            refine x_callV (nA := 2) (As := [vI (lowF (shR x 3) ((r 1) + 1)), vI 0]) (rest := []) C (l_bk hE T8.ls (b := lowF (shR x 3) (r 1 + 1)) ⟨by omega, by omega⟩ ⟨by decide, by decide⟩ (yB0 ⟨by omega, by rw [hk1]; omega⟩)) q_329 q_330 q_331 q_21 q_332 (by decide +kernel) (wl_t 0 (by decide)) rfl rfl (by decide) (by decide) (Nat.le_of_ble_eq_true rfl) dL_would_314 rfl ?_
            refine x_const C dL_would_317 ?_
            refine x_icmp_ne 325 C dL_would_318 (by decide) ⟨by omega, by omega⟩ ⟨by decide, by decide⟩ (fun c_7 => ?_) (fun c_7 => ?_)
            · refine x_const C dL_would_325 ?_
              refine x_iload C dL_would_326 rfl ?_
              refine x_iload C dL_would_328 rfl ?_
              refine x_icmp_gt 337 C dL_would_330 (by decide) ⟨by omega, by omega⟩ ⟨by omega, by omega⟩ (fun c_8 => ?_) (fun c_8 => absurd c_8 (by omega))
              refine x_const C dL_would_337 ?_
              refine x_icmp_eq 343 C dL_would_338 (by decide) ⟨by decide, by decide⟩ ⟨by decide, by decide⟩ (fun _ => ?_) (fun z => absurd z (by decide))
              exact K343
            · refine x_const C dL_would_321 ?_
              refine x_goto 326 C dL_would_322 (by decide) ?_
              refine x_iload C dL_would_326 rfl ?_
              refine x_iload C dL_would_328 rfl ?_
              refine x_icmp_gt 337 C dL_would_330 (by decide) ⟨by omega, by omega⟩ ⟨by omega, by omega⟩ (fun c_9 => absurd c_9 (by omega)) (fun c_9 => ?_)
              refine x_const C dL_would_333 ?_
              refine x_goto 338 C dL_would_334 (by decide) ?_
              refine x_icmp_eq 343 C dL_would_338 (by decide) ⟨by decide, by decide⟩ ⟨by decide, by decide⟩ (fun _ => ?_) (fun z => absurd z (by decide))
              exact K343
        · refine x_const C dL_would_243 ?_
          exact y_iret C D rfl dL_would_244 ⟨rfl, _, T6⟩
      rcases hb with hb | ⟨b1, b2, b3⟩
      · subst hb
        refine x_iload C dL_would_205 rfl ?_
        refine x_bipush C dL_would_207 (by decide) ?_
        refine x_icmp_gt 227 C dL_would_209 (by decide) ⟨by decide, by decide⟩ ⟨by decide, by decide⟩ (fun z => absurd z (by decide)) (fun _ => ?_)
        refine x_iload C dL_would_212 rfl ?_
        refine x_if_lt 229 C dL_would_214 (by decide) ⟨by decide, by decide⟩ (fun _ => ?_) (fun z => absurd z (by decide))
        refine G.wk K229 ?_
        simp only [leL, and_self, and_true, true_and]; try trivial
      · refine x_iload C dL_would_205 rfl ?_
        refine x_bipush C dL_would_207 (by decide) ?_
        refine x_icmp_gt 227 C dL_would_209 (by decide) ⟨by omega, by omega⟩ ⟨by decide, by decide⟩ (fun c_10 => absurd c_10 (by omega)) (fun c_10 => ?_)
        refine x_iload C dL_would_212 rfl ?_
        refine x_if_lt 229 C dL_would_214 (by decide) ⟨by omega, by omega⟩ (fun c_11 => absurd c_11 (by omega)) (fun c_11 => ?_)
        refine x_aload_n C dL_would_217 rfl ?_
        refine x_bipush C dL_would_218 (by decide) ?_
        refine x_callV (nA := 1) (As := [vI 13]) (rest := []) C (l_cnt hE T6 ⟨by decide, by decide⟩ (by decide) (by decide) (show yCount zM r 13 = r 4 from rfl)) q_282 q_283 q_284 q_21 q_285 (by decide +kernel) (wl_t 0 (by decide)) rfl rfl (by decide) (by decide) (Nat.le_of_ble_eq_true rfl) dL_would_220 rfl ?_
        refine x_const C dL_would_223 ?_
        refine x_icmp_ne 229 C dL_would_224 (by decide) ⟨by omega, by omega⟩ ⟨by decide, by decide⟩ (fun c_12 => ?_) (fun c_12 => absurd c_12 (by omega))
        exact K229
    refine x_iload C dL_would_149 rfl ?_
    refine x_if_le 169 C dL_would_151 (by decide) ⟨by omega, by omega⟩ (fun c_13 => ?_) (fun c_13 => ?_)
    · have g9 := h4 (by omega)
      refine x_iload C dL_would_169 rfl ?_
      refine x_if_eq 176 C dL_would_171 (by decide) ⟨by omega, by omega⟩ (fun c_14 => ?_) (fun c_14 => absurd c_14 (by omega))
      exact K176
    · refine x_iload C dL_would_154 rfl ?_
      refine x_iload C dL_would_156 rfl ?_
      refine x_icmp_gt 169 C dL_would_158 (by decide) ⟨by omega, by omega⟩ ⟨by omega, by omega⟩ (fun c_15 => ?_) (fun c_15 => ?_)
      · have g9 := h4 (by omega)
        refine x_iload C dL_would_169 rfl ?_
        refine x_if_eq 176 C dL_would_171 (by decide) ⟨by omega, by omega⟩ (fun c_16 => ?_) (fun c_16 => absurd c_16 (by omega))
        exact K176
      · have g9 := h3 (by omega) (by omega)
        refine x_iload C dL_would_161 rfl ?_
        refine x_if_ne 176 C dL_would_163 (by decide) ⟨by omega, by omega⟩ (fun c_17 => ?_) (fun c_17 => absurd c_17 (by omega))
        exact K176
  rcases hf with hf | ⟨f1, f2, f3, f4⟩
  · subst hf
    refine x_iload C dL_would_28 rfl ?_
    refine x_if_lt 114 C dL_would_30 (by decide) ⟨by decide, by decide⟩ (fun _ => ?_) (fun z => absurd z (by decide))
    refine G.wk (K114 _ _ _ S1) ?_
    simp only [leL, and_self, and_true, true_and]; try trivial
  · have K87 : ∀ (hs' : Nat → HV) (tp' : HV) (k9 : Int), HLS hs' tp' r k9 → G F E hs' tp' zM 87 [some (.ref (tA E 0)), some (vI x), some (vI (1 + lowF x 9)), some (vI (1 + lowF (shR x 4) 9)), some (vI v1), none, none, none, none, none, none, none, none, none] [] := by
      intro hs' tp' k9 S4
      refine x_iload C dL_would_87 rfl ?_
      refine x_aload_n C dL_would_89 rfl ?_
      refine x_const C dL_would_90 ?_
      refine x_callV (nA := 1) (As := [vI 0]) (rest := [vI v1]) C (l_cnt hE S4 ⟨by decide, by decide⟩ (by decide) (by decide) (show yCount zM r 0 = r 0 from rfl)) q_282 q_283 q_284 q_21 q_285 (by decide +kernel) (wl_t 0 (by decide)) rfl rfl (by decide) (by decide) (Nat.le_of_ble_eq_true rfl) dL_would_91 rfl ?_
      refine x_icmp_le 114 C dL_would_94 (by decide) ⟨by omega, by omega⟩ ⟨by omega, by omega⟩ (fun c_18 => ?_) (fun c_18 => ?_)
      · refine G.wk (K114 _ _ _ S4) ?_
        simp only [leL, and_self, and_true, true_and]; try trivial
      · refine x_aload_n C dL_would_97 rfl ?_
        refine x_iload C dL_would_98 rfl ?_
        refine x_const C dL_would_100 ?_
        refine x_isub C dL_would_101 ?_
        refine x_iload_n C dL_would_102 rfl ?_
        refine x_iload_n C dL_would_103 rfl ?_
        obtain ⟨v5, hs5, tp5, M5, A5⟩ := l_book hE S4 (a := v1 - 1) (n := 1 + lowF x 9) (p := 1 + lowF (shR x 4) 9) ⟨by omega, by omega⟩ ⟨by omega, by omega⟩ ⟨by omega, by omega⟩
        rw [book_not ⟨by omega, by omega⟩ ⟨by omega, by omega⟩ ⟨by omega, by omega⟩ (f4 (by omega))] at A5
        have e5 : v5 = -1000004 := A5.1
        have S5 : HLS hs5 tp5 r _ := A5.2
        subst e5
        refine x_callV (nA := 3) (As := [vI (v1 - 1), vI (1 + lowF x 9), vI (1 + lowF (shR x 4) 9)]) (rest := []) C M5 q_435 q_436 q_437 q_21 q_438 (by decide +kernel) (wl_t 0 (by decide)) rfl rfl (by decide) (by decide) (Nat.le_of_ble_eq_true rfl) dL_would_104 rfl ?_
        refine x_ldc (n := (-1000004)) C q_382 dL_would_107 rfl ?_
        refine x_icmp_eq 114 C dL_would_109 (by decide) ⟨by decide, by decide⟩ ⟨by decide, by decide⟩ (fun _ => ?_) (fun z => absurd z (by decide))
        refine G.wk (K114 _ _ _ S5) ?_
        simp only [leL, and_self, and_true, true_and]; try trivial
    refine x_iload C dL_would_28 rfl ?_
    refine x_if_lt 114 C dL_would_30 (by decide) ⟨by omega, by omega⟩ (fun c_19 => absurd c_19 (by omega)) (fun c_19 => ?_)
    refine x_aload_n C dL_would_33 rfl ?_
    refine x_iload C dL_would_34 rfl ?_
    refine x_iload_n C dL_would_36 rfl ?_
    refine x_iload_n C dL_would_37 rfl ?_
    obtain ⟨v2, hs2, tp2, M2, A2⟩ := l_book hE S1 (a := v1) (n := 1 + lowF x 9) (p := 1 + lowF (shR x 4) 9) ⟨by omega, by omega⟩ ⟨by omega, by omega⟩ ⟨by omega, by omega⟩
    refine x_callV (nA := 3) (As := [vI v1, vI (1 + (lowF x 9)), vI (1 + (lowF (shR x 4) 9))]) (rest := []) C M2 q_435 q_436 q_437 q_21 q_438 (by decide +kernel) (wl_t 0 (by decide)) rfl rfl (by decide) (by decide) (Nat.le_of_ble_eq_true rfl) dL_would_38 rfl ?_
    rcases book_free R ⟨by omega, by omega⟩ ⟨by omega, by omega⟩ ⟨f1, f2⟩ f3 with ⟨e2, h80⟩ | ⟨e2, h80⟩
    · rw [e2] at A2
      have e3 : v2 = -1000003 := A2.1
      have S2 : HLS hs2 tp2 r k := A2.2
      subst e3
      refine x_istore C dL_would_41 (by decide) (rfl : _ = [_, _, _, _, _, _, _, _, _, _, _, _, _, _]) ?_
      refine x_aload_n C dL_would_43 rfl ?_
      refine x_const C dL_would_44 ?_
      refine x_callV (nA := 1) (As := [vI 1]) (rest := []) C (l_cnt hE S2 ⟨by decide, by decide⟩ (by decide) (by decide) (show yCount zM r 1 = r 1 from rfl)) q_282 q_283 q_284 q_21 q_285 (by decide +kernel) (wl_t 0 (by decide)) rfl rfl (by decide) (by decide) (Nat.le_of_ble_eq_true rfl) dL_would_45 rfl ?_
      refine x_bipush C dL_would_48 (by decide) ?_
      refine x_icmp_ge 58 C dL_would_50 (by decide) ⟨by omega, by omega⟩ ⟨by decide, by decide⟩ (fun c_20 => ?_) (fun c_20 => absurd c_20 (by omega))
      refine x_iload C dL_would_58 rfl ?_
      refine x_if_lt 77 C dL_would_60 (by decide) ⟨by decide, by decide⟩ (fun _ => ?_) (fun z => absurd z (by decide))
      refine x_iload C dL_would_77 rfl ?_
      refine x_if_lt 87 C dL_would_79 (by decide) ⟨by decide, by decide⟩ (fun _ => ?_) (fun z => absurd z (by decide))
      refine G.wk (K87 _ _ _ S2) ?_
      simp only [leL, and_self, and_true, true_and]; try trivial
    · rw [e2] at A2
      have e3 : v2 = r 1 := A2.1
      have U2 : HLU hs2 tp2 (mAdd r v1 (1 + lowF x 9) (1 + lowF (shR x 4) 9)) (kR k) r := A2.2
      subst e3
      refine x_istore C dL_would_41 (by decide) (rfl : _ = [_, _, _, _, _, _, _, _, _, _, _, _, _, _]) ?_
      refine x_aload_n C dL_would_43 rfl ?_
      refine x_const C dL_would_44 ?_
      refine x_callV (nA := 1) (As := [vI 1]) (rest := []) C (l_cnt hE U2.ls ⟨by decide, by decide⟩ (by decide) (by decide) (show yCount zM (mAdd r v1 (1 + lowF x 9) (1 + lowF (shR x 4) 9)) 1 = r 1 + 1 from (mAdd_arr rc.1).1)) q_282 q_283 q_284 q_21 q_285 (by decide +kernel) (wl_t 0 (by decide)) rfl rfl (by decide) (by decide) (Nat.le_of_ble_eq_true rfl) dL_would_45 rfl ?_
      refine x_bipush C dL_would_48 (by decide) ?_
      refine x_icmp_ge 58 C dL_would_50 (by decide) ⟨by omega, by omega⟩ ⟨by decide, by decide⟩ (fun c_21 => ?_) (fun c_21 => ?_)
      · refine x_iload C dL_would_58 rfl ?_
        refine x_if_lt 77 C dL_would_60 (by decide) ⟨by omega, by omega⟩ (fun c_22 => absurd c_22 (by omega)) (fun c_22 => ?_)
        refine x_aload_n C dL_would_63 rfl ?_
        refine x_iload C dL_would_64 rfl ?_
        refine x_const C dL_would_66 ?_
        refine x_callV (nA := 2) (As := [vI (r 1), vI 1]) (rest := []) C (l_bk hE U2.ls (b := r 1) ⟨by omega, by omega⟩ ⟨by decide, by decide⟩ ((yB1 ⟨by omega, by rw [(mAdd_arr rc.1).1]; omega⟩).trans (mAdd_arr rc.1).2)) q_329 q_330 q_331 q_21 q_332 (by decide +kernel) (wl_t 0 (by decide)) rfl rfl (by decide) (by decide) (Nat.le_of_ble_eq_true rfl) dL_would_67 rfl ?_
        refine x_iload C dL_would_70 rfl ?_
        refine x_same 77 C dL_would_72 (by decide) rfl ?_
        refine x_iload C dL_would_77 rfl ?_
        refine x_if_lt 87 C dL_would_79 (by decide) ⟨by omega, by omega⟩ (fun c_23 => absurd c_23 (by omega)) (fun c_23 => ?_)
        refine x_aload_n C dL_would_82 rfl ?_
        obtain ⟨hs3, tp3, M3, S3⟩ := l_undo hE U2
        refine x_callV (nA := 0) (As := []) (rest := []) C M3 q_254 q_255 q_256 q_21 q_257 (by decide +kernel) (wl_t 0 (by decide)) rfl rfl (by decide) (by decide) (Nat.le_of_ble_eq_true rfl) dL_would_83 rfl ?_
        refine x_pop C dL_would_86 rfl ?_
        refine G.wk (K87 _ _ _ S3) ?_
        simp only [leL, and_self, and_true, true_and]; try trivial
      · refine x_iload C dL_would_53 rfl ?_
        refine x_if_lt 75 C dL_would_55 (by decide) ⟨by omega, by omega⟩ (fun c_24 => absurd c_24 (by omega)) (fun c_24 => ?_)
        refine x_iload C dL_would_58 rfl ?_
        refine x_if_lt 77 C dL_would_60 (by decide) ⟨by omega, by omega⟩ (fun c_25 => absurd c_25 (by omega)) (fun c_25 => ?_)
        refine x_aload_n C dL_would_63 rfl ?_
        refine x_iload C dL_would_64 rfl ?_
        refine x_const C dL_would_66 ?_
        refine x_callV (nA := 2) (As := [vI (r 1), vI 1]) (rest := []) C (l_bk hE U2.ls (b := r 1) ⟨by omega, by omega⟩ ⟨by decide, by decide⟩ ((yB1 ⟨by omega, by rw [(mAdd_arr rc.1).1]; omega⟩).trans (mAdd_arr rc.1).2)) q_329 q_330 q_331 q_21 q_332 (by decide +kernel) (wl_t 0 (by decide)) rfl rfl (by decide) (by decide) (Nat.le_of_ble_eq_true rfl) dL_would_67 rfl ?_
        refine x_iload C dL_would_70 rfl ?_
        refine x_same 77 C dL_would_72 (by decide) rfl ?_
        refine x_iload C dL_would_77 rfl ?_
        refine x_if_lt 87 C dL_would_79 (by decide) ⟨by omega, by omega⟩ (fun c_26 => absurd c_26 (by omega)) (fun c_26 => ?_)
        refine x_aload_n C dL_would_82 rfl ?_
        obtain ⟨hs3, tp3, M3, S3⟩ := l_undo hE U2
        refine x_callV (nA := 0) (As := []) (rest := []) C M3 q_254 q_255 q_256 q_21 q_257 (by decide +kernel) (wl_t 0 (by decide)) rfl rfl (by decide) (by decide) (Nat.le_of_ble_eq_true rfl) dL_would_83 rfl ?_
        refine x_pop C dL_would_86 rfl ?_
        refine G.wk (K87 _ _ _ S3) ?_
        simp only [leL, and_self, and_true, true_and]; try trivial
