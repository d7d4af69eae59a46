/-! THE LAW's CASES (printed by law.py) -/
set_option maxRecDepth 100000 in
set_option maxHeartbeats 4000000 in
theorem law_book {F : FC} {E : HE} {hs : Nat → HV} {tp md : HV} {q Ls : Nat} {xs : Nat → Int32} {i : Int} (C : Cs F RL code 8 10 E) (X : SX F E q Ls xs) (hE : HI E) (h0 : 0 ≤ i) (h1 : i + 3 < Ls) (S : SIM hs tp md) (K : ∀ (hs : Nat → HV) (tp md : HV), SIM hs tp md → G F E hs tp md 961 (LL E q i) []) : G F E hs tp md 172 (LL E q i) [] := by
  refine x_aload_n C dL_law_172 rfl ?_
  refine x_arg C X dL_law_173 dL_law_174 dL_law_175 dL_law_176 dL_law_177 (by omega) (by omega) ?_
  refine x_arg C X dL_law_178 dL_law_179 dL_law_180 dL_law_181 dL_law_182 (by omega) (by omega) ?_
  refine x_arg C X dL_law_183 dL_law_184 dL_law_185 dL_law_186 dL_law_187 (by omega) (by omega) ?_
  refine x_callV (nA := 3) (As := [vI (yv xs (i + 1)), vI (yv xs (i + 2)), vI (yv xs (i + 3))]) (rest := []) C (m_X6_book hE S.r0 S.sg (a := (yv xs (i + 1))) (n := (yv xs (i + 2))) (p := (yv xs (i + 3))) (oI_IR _) (oI_IR _) (oI_IR _)) q_292 q_293 q_294 q_56 q_295 (by decide +kernel) (wl_t 0 (by decide)) rfl rfl (by decide) (by decide) (Nat.le_of_ble_eq_true rfl) dL_law_188 rfl ?_
  refine x_aload_n C dL_law_191 rfl ?_
  refine x_arg C X dL_law_192 dL_law_193 dL_law_194 dL_law_195 dL_law_196 (by omega) (by omega) ?_
  refine x_arg C X dL_law_197 dL_law_198 dL_law_199 dL_law_200 dL_law_201 (by omega) (by omega) ?_
  refine x_arg C X dL_law_202 dL_law_203 dL_law_204 dL_law_205 dL_law_206 (by omega) (by omega) ?_
  refine G.of (md' := upr md 1 (md 1)) ?_ rfl rfl upr_id.symm rfl
  refine x_callV (nA := 3) (As := [vI (yv xs (i + 1)), vI (yv xs (i + 2)), vI (yv xs (i + 3))]) (rest := [_]) C (m_X7_book hE (md := md) (r := md 1) S.mr S.k0 (a := (yv xs (i + 1))) (n := (yv xs (i + 2))) (p := (yv xs (i + 3))) (oI_IR _) (oI_IR _) (oI_IR _)) q_779 q_780 q_781 q_64 q_782 (by decide +kernel) (wl_m 0 (by decide)) rfl rfl (by decide) (by decide) (Nat.le_of_ble_eq_true rfl) dL_law_207 rfl ?_
  refine x_same 961 C dL_law_210 (by decide) ((sim_book S (a := (yv xs (i + 1))) (n := (yv xs (i + 2))) (p := (yv xs (i + 3)))).1) ?_
  exact K _ _ _ ((sim_book S (a := (yv xs (i + 1))) (n := (yv xs (i + 2))) (p := (yv xs (i + 3)))).2)
set_option maxRecDepth 100000 in
set_option maxHeartbeats 4000000 in
theorem law_bookAll {F : FC} {E : HE} {hs : Nat → HV} {tp md : HV} {q Ls : Nat} {xs : Nat → Int32} {i : Int} (C : Cs F RL code 8 10 E) (X : SX F E q Ls xs) (hE : HI E) (h0 : 0 ≤ i) (h1 : i + 3 < Ls) (S : SIM hs tp md) (K : ∀ (hs : Nat → HV) (tp md : HV), SIM hs tp md → G F E hs tp md 961 (LL E q i) []) : G F E hs tp md 215 (LL E q i) [] := by
  refine x_aload_n C dL_law_215 rfl ?_
  refine x_callV (nA := 0) (As := []) (rest := []) C (m_X6_bookAll hE S.r0 S.sg S.tg S.r1) q_368 q_369 q_370 q_56 q_371 (by decide +kernel) (wl_t 0 (by decide)) rfl rfl (by decide) (by decide) (Nat.le_of_ble_eq_true rfl) dL_law_216 rfl ?_
  refine x_aload_n C dL_law_219 rfl ?_
  refine G.of (md' := upr md 1 (md 1)) ?_ rfl rfl upr_id.symm rfl
  refine x_callV (nA := 0) (As := []) (rest := [_]) C (m_X7_bookAll hE (md := md) (r := md 1) S.mr S.k0 S.tx S.plc) q_822 q_823 q_824 q_64 q_825 (by decide +kernel) (wl_m 0 (by decide)) rfl rfl (by decide) (by decide) (Nat.le_of_ble_eq_true rfl) dL_law_220 rfl ?_
  refine x_same 961 C dL_law_223 (by decide) ((sim_bookAll S).1) ?_
  exact K _ _ _ ((sim_bookAll S).2)
set_option maxRecDepth 100000 in
set_option maxHeartbeats 4000000 in
theorem law_cancel {F : FC} {E : HE} {hs : Nat → HV} {tp md : HV} {q Ls : Nat} {xs : Nat → Int32} {i : Int} (C : Cs F RL code 8 10 E) (X : SX F E q Ls xs) (hE : HI E) (h0 : 0 ≤ i) (h1 : i + 3 < Ls) (S : SIM hs tp md) (K : ∀ (hs : Nat → HV) (tp md : HV), SIM hs tp md → G F E hs tp md 961 (LL E q i) []) : G F E hs tp md 228 (LL E q i) [] := by
  refine x_aload_n C dL_law_228 rfl ?_
  refine x_arg C X dL_law_229 dL_law_230 dL_law_231 dL_law_232 dL_law_233 (by omega) (by omega) ?_
  refine x_callV (nA := 1) (As := [vI (yv xs (i + 1))]) (rest := []) C (m_X6_cancel hE S.r0 S.sg (b := (yv xs (i + 1))) (oI_IR _)) q_403 q_404 q_405 q_56 q_406 (by decide +kernel) (wl_t 0 (by decide)) rfl rfl (by decide) (by decide) (Nat.le_of_ble_eq_true rfl) dL_law_234 rfl ?_
  refine x_aload_n C dL_law_237 rfl ?_
  refine x_arg C X dL_law_238 dL_law_239 dL_law_240 dL_law_241 dL_law_242 (by omega) (by omega) ?_
  refine G.of (md' := upr md 1 (md 1)) ?_ rfl rfl upr_id.symm rfl
  refine x_callV (nA := 1) (As := [vI (yv xs (i + 1))]) (rest := [_]) C (m_X7_cancel hE (md := md) (r := md 1) S.mr S.k0 (b := (yv xs (i + 1))) (oI_IR _)) q_871 q_872 q_873 q_64 q_874 (by decide +kernel) (wl_m 0 (by decide)) rfl rfl (by decide) (by decide) (Nat.le_of_ble_eq_true rfl) dL_law_243 rfl ?_
  refine x_same 961 C dL_law_246 (by decide) ((sim_cancel S (b := (yv xs (i + 1)))).1) ?_
  exact K _ _ _ ((sim_cancel S (b := (yv xs (i + 1)))).2)
set_option maxRecDepth 100000 in
set_option maxHeartbeats 4000000 in
theorem law_extend {F : FC} {E : HE} {hs : Nat → HV} {tp md : HV} {q Ls : Nat} {xs : Nat → Int32} {i : Int} (C : Cs F RL code 8 10 E) (X : SX F E q Ls xs) (hE : HI E) (h0 : 0 ≤ i) (h1 : i + 3 < Ls) (S : SIM hs tp md) (K : ∀ (hs : Nat → HV) (tp md : HV), SIM hs tp md → G F E hs tp md 961 (LL E q i) []) : G F E hs tp md 251 (LL E q i) [] := by
  refine x_aload_n C dL_law_251 rfl ?_
  refine x_arg C X dL_law_252 dL_law_253 dL_law_254 dL_law_255 dL_law_256 (by omega) (by omega) ?_
  refine x_arg C X dL_law_257 dL_law_258 dL_law_259 dL_law_260 dL_law_261 (by omega) (by omega) ?_
  refine x_callV (nA := 2) (As := [vI (yv xs (i + 1)), vI (yv xs (i + 2))]) (rest := []) C (m_X6_extend hE S.r0 S.sg (b := (yv xs (i + 1))) (n := (yv xs (i + 2))) (oI_IR _) (oI_IR _)) q_433 q_434 q_435 q_56 q_436 (by decide +kernel) (wl_t 0 (by decide)) rfl rfl (by decide) (by decide) (Nat.le_of_ble_eq_true rfl) dL_law_262 rfl ?_
  refine x_aload_n C dL_law_265 rfl ?_
  refine x_arg C X dL_law_266 dL_law_267 dL_law_268 dL_law_269 dL_law_270 (by omega) (by omega) ?_
  refine x_arg C X dL_law_271 dL_law_272 dL_law_273 dL_law_274 dL_law_275 (by omega) (by omega) ?_
  refine G.of (md' := upr md 1 (md 1)) ?_ rfl rfl upr_id.symm rfl
  refine x_callV (nA := 2) (As := [vI (yv xs (i + 1)), vI (yv xs (i + 2))]) (rest := [_]) C (m_X7_extend hE (md := md) (r := md 1) S.mr S.k0 (b := (yv xs (i + 1))) (n := (yv xs (i + 2))) (oI_IR _) (oI_IR _)) q_876 q_877 q_878 q_64 q_879 (by decide +kernel) (wl_m 0 (by decide)) rfl rfl (by decide) (by decide) (Nat.le_of_ble_eq_true rfl) dL_law_276 rfl ?_
  refine x_same 961 C dL_law_279 (by decide) ((sim_extend S (b := (yv xs (i + 1))) (n := (yv xs (i + 2)))).1) ?_
  exact K _ _ _ ((sim_extend S (b := (yv xs (i + 1))) (n := (yv xs (i + 2)))).2)
set_option maxRecDepth 100000 in
set_option maxHeartbeats 4000000 in
theorem law_weather {F : FC} {E : HE} {hs : Nat → HV} {tp md : HV} {q Ls : Nat} {xs : Nat → Int32} {i : Int} (C : Cs F RL code 8 10 E) (X : SX F E q Ls xs) (hE : HI E) (h0 : 0 ≤ i) (h1 : i + 3 < Ls) (S : SIM hs tp md) (K : ∀ (hs : Nat → HV) (tp md : HV), SIM hs tp md → G F E hs tp md 961 (LL E q i) []) : G F E hs tp md 284 (LL E q i) [] := by
  refine x_aload_n C dL_law_284 rfl ?_
  refine x_arg C X dL_law_285 dL_law_286 dL_law_287 dL_law_288 dL_law_289 (by omega) (by omega) ?_
  refine x_arg C X dL_law_290 dL_law_291 dL_law_292 dL_law_293 dL_law_294 (by omega) (by omega) ?_
  refine x_arg C X dL_law_295 dL_law_296 dL_law_297 dL_law_298 dL_law_299 (by omega) (by omega) ?_
  refine x_callV (nA := 3) (As := [vI (yv xs (i + 1)), vI (yv xs (i + 2)), vI (yv xs (i + 3))]) (rest := []) C (m_X6_weather hE S.r0 S.sg (x := (yv xs (i + 1))) (y := (yv xs (i + 2))) (w := (yv xs (i + 3))) (oI_IR _) (oI_IR _) (oI_IR _)) q_444 q_445 q_446 q_56 q_447 (by decide +kernel) (wl_t 0 (by decide)) rfl rfl (by decide) (by decide) (Nat.le_of_ble_eq_true rfl) dL_law_300 rfl ?_
  refine x_aload_n C dL_law_303 rfl ?_
  refine x_arg C X dL_law_304 dL_law_305 dL_law_306 dL_law_307 dL_law_308 (by omega) (by omega) ?_
  refine x_arg C X dL_law_309 dL_law_310 dL_law_311 dL_law_312 dL_law_313 (by omega) (by omega) ?_
  refine x_arg C X dL_law_314 dL_law_315 dL_law_316 dL_law_317 dL_law_318 (by omega) (by omega) ?_
  refine G.of (md' := upr md 1 (md 1)) ?_ rfl rfl upr_id.symm rfl
  refine x_callV (nA := 3) (As := [vI (yv xs (i + 1)), vI (yv xs (i + 2)), vI (yv xs (i + 3))]) (rest := [_]) C (m_X7_weather hE (md := md) (r := md 1) S.mr S.k0 (x := (yv xs (i + 1))) (y := (yv xs (i + 2))) (w := (yv xs (i + 3))) (oI_IR _) (oI_IR _) (oI_IR _)) q_880 q_881 q_882 q_64 q_883 (by decide +kernel) (wl_m 0 (by decide)) rfl rfl (by decide) (by decide) (Nat.le_of_ble_eq_true rfl) dL_law_319 rfl ?_
  refine x_same 961 C dL_law_322 (by decide) ((sim_weather S (x := (yv xs (i + 1))) (y := (yv xs (i + 2))) (w := (yv xs (i + 3)))).1) ?_
  exact K _ _ _ ((sim_weather S (x := (yv xs (i + 1))) (y := (yv xs (i + 2))) (w := (yv xs (i + 3)))).2)
set_option maxRecDepth 100000 in
set_option maxHeartbeats 4000000 in
theorem law_order {F : FC} {E : HE} {hs : Nat → HV} {tp md : HV} {q Ls : Nat} {xs : Nat → Int32} {i : Int} (C : Cs F RL code 8 10 E) (X : SX F E q Ls xs) (hE : HI E) (h0 : 0 ≤ i) (h1 : i + 3 < Ls) (S : SIM hs tp md) (K : ∀ (hs : Nat → HV) (tp md : HV), SIM hs tp md → G F E hs tp md 961 (LL E q i) []) : G F E hs tp md 327 (LL E q i) [] := by
  refine x_aload_n C dL_law_327 rfl ?_
  refine x_arg C X dL_law_328 dL_law_329 dL_law_330 dL_law_331 dL_law_332 (by omega) (by omega) ?_
  refine x_arg C X dL_law_333 dL_law_334 dL_law_335 dL_law_336 dL_law_337 (by omega) (by omega) ?_
  refine x_callV (nA := 2) (As := [vI (yv xs (i + 1)), vI (yv xs (i + 2))]) (rest := []) C (m_X6_order hE S.r0 S.sg (k := (yv xs (i + 1))) (w := (yv xs (i + 2))) (oI_IR _) (oI_IR _)) q_457 q_458 q_459 q_56 q_460 (by decide +kernel) (wl_t 0 (by decide)) rfl rfl (by decide) (by decide) (Nat.le_of_ble_eq_true rfl) dL_law_338 rfl ?_
  refine x_aload_n C dL_law_341 rfl ?_
  refine x_arg C X dL_law_342 dL_law_343 dL_law_344 dL_law_345 dL_law_346 (by omega) (by omega) ?_
  refine x_arg C X dL_law_347 dL_law_348 dL_law_349 dL_law_350 dL_law_351 (by omega) (by omega) ?_
  refine G.of (md' := upr md 1 (md 1)) ?_ rfl rfl upr_id.symm rfl
  refine x_callV (nA := 2) (As := [vI (yv xs (i + 1)), vI (yv xs (i + 2))]) (rest := [_]) C (m_X7_order hE (md := md) (r := md 1) S.mr S.k0 (k := (yv xs (i + 1))) (w := (yv xs (i + 2))) (oI_IR _) (oI_IR _)) q_884 q_885 q_886 q_64 q_887 (by decide +kernel) (wl_m 0 (by decide)) rfl rfl (by decide) (by decide) (Nat.le_of_ble_eq_true rfl) dL_law_352 rfl ?_
  refine x_same 961 C dL_law_355 (by decide) ((sim_order S (k := (yv xs (i + 1))) (w := (yv xs (i + 2)))).1) ?_
  exact K _ _ _ ((sim_order S (k := (yv xs (i + 1))) (w := (yv xs (i + 2)))).2)
set_option maxRecDepth 100000 in
set_option maxHeartbeats 4000000 in
theorem law_recall {F : FC} {E : HE} {hs : Nat → HV} {tp md : HV} {q Ls : Nat} {xs : Nat → Int32} {i : Int} (C : Cs F RL code 8 10 E) (X : SX F E q Ls xs) (hE : HI E) (h0 : 0 ≤ i) (h1 : i + 3 < Ls) (S : SIM hs tp md) (K : ∀ (hs : Nat → HV) (tp md : HV), SIM hs tp md → G F E hs tp md 961 (LL E q i) []) : G F E hs tp md 360 (LL E q i) [] := by
  refine x_aload_n C dL_law_360 rfl ?_
  refine x_callV (nA := 0) (As := []) (rest := []) C (m_X6_recall hE S.r0 S.sg) q_466 q_467 q_468 q_56 q_469 (by decide +kernel) (wl_t 0 (by decide)) rfl rfl (by decide) (by decide) (Nat.le_of_ble_eq_true rfl) dL_law_361 rfl ?_
  refine x_aload_n C dL_law_364 rfl ?_
  refine G.of (md' := upr md 1 (md 1)) ?_ rfl rfl upr_id.symm rfl
  refine x_callV (nA := 0) (As := []) (rest := [_]) C (m_X7_recall hE (md := md) (r := md 1) S.mr S.k0) q_888 q_889 q_890 q_64 q_891 (by decide +kernel) (wl_m 0 (by decide)) rfl rfl (by decide) (by decide) (Nat.le_of_ble_eq_true rfl) dL_law_365 rfl ?_
  refine x_same 961 C dL_law_368 (by decide) ((sim_recall S).1) ?_
  exact K _ _ _ ((sim_recall S).2)
set_option maxRecDepth 100000 in
set_option maxHeartbeats 4000000 in
theorem law_flight {F : FC} {E : HE} {hs : Nat → HV} {tp md : HV} {q Ls : Nat} {xs : Nat → Int32} {i : Int} (C : Cs F RL code 8 10 E) (X : SX F E q Ls xs) (hE : HI E) (h0 : 0 ≤ i) (h1 : i + 3 < Ls) (S : SIM hs tp md) (K : ∀ (hs : Nat → HV) (tp md : HV), SIM hs tp md → G F E hs tp md 961 (LL E q i) []) : G F E hs tp md 373 (LL E q i) [] := by
  refine x_aload_n C dL_law_373 rfl ?_
  refine x_arg C X dL_law_374 dL_law_375 dL_law_376 dL_law_377 dL_law_378 (by omega) (by omega) ?_
  refine x_flag 386 387 C dL_law_379 dL_law_382 dL_law_383 dL_law_386 (by decide) (by decide) rfl (oI_IR _) ?_
  refine x_callV (nA := 1) (As := [vI (bI (yv xs (i + 1) ≠ 0))]) (rest := []) C (m_X6_flight hE S.r0 S.sg (x := (bI (yv xs (i + 1) ≠ 0))) bI_01) q_474 q_475 q_476 q_56 q_477 (by decide +kernel) (wl_t 0 (by decide)) rfl rfl (by decide) (by decide) (Nat.le_of_ble_eq_true rfl) dL_law_387 rfl ?_
  refine x_aload_n C dL_law_390 rfl ?_
  refine x_arg C X dL_law_391 dL_law_392 dL_law_393 dL_law_394 dL_law_395 (by omega) (by omega) ?_
  refine x_flag 403 404 C dL_law_396 dL_law_399 dL_law_400 dL_law_403 (by decide) (by decide) rfl (oI_IR _) ?_
  refine G.of (md' := upr md 1 (md 1)) ?_ rfl rfl upr_id.symm rfl
  refine x_callV (nA := 1) (As := [vI (bI (yv xs (i + 1) ≠ 0))]) (rest := [_]) C (m_X7_flight hE (md := md) (r := md 1) S.mr S.k0 (x := (bI (yv xs (i + 1) ≠ 0))) bI_01) q_896 q_897 q_898 q_64 q_899 (by decide +kernel) (wl_m 0 (by decide)) rfl rfl (by decide) (by decide) (Nat.le_of_ble_eq_true rfl) dL_law_404 rfl ?_
  refine x_same 961 C dL_law_407 (by decide) ((sim_flight S (x := (bI (yv xs (i + 1) ≠ 0))) bI_01).1) ?_
  exact K _ _ _ ((sim_flight S (x := (bI (yv xs (i + 1) ≠ 0))) bI_01).2)
set_option maxRecDepth 100000 in
set_option maxHeartbeats 4000000 in
theorem law_pass {F : FC} {E : HE} {hs : Nat → HV} {tp md : HV} {q Ls : Nat} {xs : Nat → Int32} {i : Int} (C : Cs F RL code 8 10 E) (X : SX F E q Ls xs) (hE : HI E) (h0 : 0 ≤ i) (h1 : i + 3 < Ls) (S : SIM hs tp md) (K : ∀ (hs : Nat → HV) (tp md : HV), SIM hs tp md → G F E hs tp md 961 (LL E q i) []) : G F E hs tp md 412 (LL E q i) [] := by
  refine x_aload_n C dL_law_412 rfl ?_
  refine x_arg C X dL_law_413 dL_law_414 dL_law_415 dL_law_416 dL_law_417 (by omega) (by omega) ?_
  refine x_callV (nA := 1) (As := [vI (yv xs (i + 1))]) (rest := []) C (m_X6_pass hE S.r0 S.sg (n := (yv xs (i + 1))) (oI_IR _) (by decide)) q_478 q_479 q_480 q_56 q_481 (by decide +kernel) (wl_t 0 (by decide)) rfl rfl (by decide) (by decide) (Nat.le_of_ble_eq_true rfl) dL_law_418 rfl ?_
  refine x_aload_n C dL_law_421 rfl ?_
  refine x_arg C X dL_law_422 dL_law_423 dL_law_424 dL_law_425 dL_law_426 (by omega) (by omega) ?_
  refine G.of (md' := upr md 1 (md 1)) ?_ rfl rfl upr_id.symm rfl
  refine x_callV (nA := 1) (As := [vI (yv xs (i + 1))]) (rest := [_]) C (m_X7_pass hE (md := md) (r := md 1) S.mr S.k0 (n := (yv xs (i + 1))) (oI_IR _) (by decide)) q_900 q_901 q_902 q_64 q_903 (by decide +kernel) (wl_m 0 (by decide)) rfl rfl (by decide) (by decide) (Nat.le_of_ble_eq_true rfl) dL_law_427 rfl ?_
  refine x_same 961 C dL_law_430 (by decide) ((sim_pass S (n := (yv xs (i + 1)))).1) ?_
  exact K _ _ _ ((sim_pass S (n := (yv xs (i + 1)))).2)
set_option maxRecDepth 100000 in
set_option maxHeartbeats 4000000 in
theorem law_set {F : FC} {E : HE} {hs : Nat → HV} {tp md : HV} {q Ls : Nat} {xs : Nat → Int32} {i : Int} (C : Cs F RL code 8 10 E) (X : SX F E q Ls xs) (hE : HI E) (h0 : 0 ≤ i) (h1 : i + 3 < Ls) (S : SIM hs tp md) (K : ∀ (hs : Nat → HV) (tp md : HV), SIM hs tp md → G F E hs tp md 961 (LL E q i) []) : G F E hs tp md 435 (LL E q i) [] := by
  refine x_aload_n C dL_law_435 rfl ?_
  refine x_arg C X dL_law_436 dL_law_437 dL_law_438 dL_law_439 dL_law_440 (by omega) (by omega) ?_
  refine x_arg C X dL_law_441 dL_law_442 dL_law_443 dL_law_444 dL_law_445 (by omega) (by omega) ?_
  refine x_callV (nA := 2) (As := [vI (yv xs (i + 1)), vI (yv xs (i + 2))]) (rest := []) C (m_X6_set hE S.r0 S.sg (k := (yv xs (i + 1))) (w := (yv xs (i + 2))) (oI_IR _) (oI_IR _)) q_578 q_579 q_580 q_56 q_581 (by decide +kernel) (wl_t 0 (by decide)) rfl rfl (by decide) (by decide) (Nat.le_of_ble_eq_true rfl) dL_law_446 rfl ?_
  refine x_aload_n C dL_law_449 rfl ?_
  refine x_arg C X dL_law_450 dL_law_451 dL_law_452 dL_law_453 dL_law_454 (by omega) (by omega) ?_
  refine x_arg C X dL_law_455 dL_law_456 dL_law_457 dL_law_458 dL_law_459 (by omega) (by omega) ?_
  refine G.of (md' := upr md 1 (md 1)) ?_ rfl rfl upr_id.symm rfl
  refine x_callV (nA := 2) (As := [vI (yv xs (i + 1)), vI (yv xs (i + 2))]) (rest := [_]) C (m_X7_set hE (md := md) (r := md 1) S.mr S.k0 S.hm (k := (yv xs (i + 1))) (w := (yv xs (i + 2))) (oI_IR _) (oI_IR _)) q_948 q_949 q_950 q_64 q_951 (by decide +kernel) (wl_m 0 (by decide)) rfl rfl (by decide) (by decide) (Nat.le_of_ble_eq_true rfl) dL_law_460 rfl ?_
  refine x_same 961 C dL_law_463 (by decide) ((sim_set S (k := (yv xs (i + 1))) (w := (yv xs (i + 2)))).1) ?_
  exact K _ _ _ ((sim_set S (k := (yv xs (i + 1))) (w := (yv xs (i + 2)))).2)
set_option maxRecDepth 100000 in
set_option maxHeartbeats 4000000 in
theorem law_type {F : FC} {E : HE} {hs : Nat → HV} {tp md : HV} {q Ls : Nat} {xs : Nat → Int32} {i : Int} (C : Cs F RL code 8 10 E) (X : SX F E q Ls xs) (hE : HI E) (h0 : 0 ≤ i) (h1 : i + 3 < Ls) (S : SIM hs tp md) (K : ∀ (hs : Nat → HV) (tp md : HV), SIM hs tp md → G F E hs tp md 961 (LL E q i) []) : G F E hs tp md 468 (LL E q i) [] := by
  refine x_aload_n C dL_law_468 rfl ?_
  refine x_arg C X dL_law_469 dL_law_470 dL_law_471 dL_law_472 dL_law_473 (by omega) (by omega) ?_
  refine x_i2c C dL_law_474 ?_
  refine x_callV (nA := 1) (As := [vI (c2 (yv xs (i + 1)))]) (rest := []) C (m_X6_type hE S.tg (c := (c2 (yv xs (i + 1)))) (c2_r _)) q_602 q_603 q_604 q_56 q_605 (by decide +kernel) (wl_t 0 (by decide)) rfl rfl (by decide) (by decide) (Nat.le_of_ble_eq_true rfl) dL_law_475 rfl ?_
  refine x_aload_n C dL_law_478 rfl ?_
  refine x_arg C X dL_law_479 dL_law_480 dL_law_481 dL_law_482 dL_law_483 (by omega) (by omega) ?_
  refine x_i2c C dL_law_484 ?_
  refine G.of (md' := upr md 1 (md 1)) ?_ rfl rfl upr_id.symm rfl
  refine x_callV (nA := 1) (As := [vI (c2 (yv xs (i + 1)))]) (rest := [_]) C (m_X7_type hE (md := md) (r := md 1) S.tx.1 (c := (c2 (yv xs (i + 1))))) q_955 q_956 q_957 q_64 q_958 (by decide +kernel) (wl_m 0 (by decide)) rfl rfl (by decide) (by decide) (Nat.le_of_ble_eq_true rfl) dL_law_485 rfl ?_
  refine x_same 961 C dL_law_488 (by decide) ((sim_type S (c := (c2 (yv xs (i + 1)))) (c2_r _)).1) ?_
  exact K _ _ _ ((sim_type S (c := (c2 (yv xs (i + 1)))) (c2_r _)).2)
set_option maxRecDepth 100000 in
set_option maxHeartbeats 4000000 in
theorem law_clearText {F : FC} {E : HE} {hs : Nat → HV} {tp md : HV} {q Ls : Nat} {xs : Nat → Int32} {i : Int} (C : Cs F RL code 8 10 E) (X : SX F E q Ls xs) (hE : HI E) (h0 : 0 ≤ i) (h1 : i + 3 < Ls) (S : SIM hs tp md) (K : ∀ (hs : Nat → HV) (tp md : HV), SIM hs tp md → G F E hs tp md 961 (LL E q i) []) : G F E hs tp md 493 (LL E q i) [] := by
  refine x_aload_n C dL_law_493 rfl ?_
  refine x_callV (nA := 0) (As := []) (rest := []) C (m_X6_clearText hE) q_610 q_611 q_612 q_56 q_613 (by decide +kernel) (wl_t 0 (by decide)) rfl rfl (by decide) (by decide) (Nat.le_of_ble_eq_true rfl) dL_law_494 rfl ?_
  refine x_aload_n C dL_law_497 rfl ?_
  refine G.of (md' := upr md 1 (md 1)) ?_ rfl rfl upr_id.symm rfl
  refine x_callV (nA := 0) (As := []) (rest := [_]) C (m_X7_clearText hE (md := md) (r := md 1)) q_959 q_960 q_961 q_64 q_962 (by decide +kernel) (wl_m 0 (by decide)) rfl rfl (by decide) (by decide) (Nat.le_of_ble_eq_true rfl) dL_law_498 rfl ?_
  refine x_same 961 C dL_law_501 (by decide) ((sim_clear S).1) ?_
  exact K _ _ _ ((sim_clear S).2)
set_option maxRecDepth 100000 in
set_option maxHeartbeats 4000000 in
theorem law_fault {F : FC} {E : HE} {hs : Nat → HV} {tp md : HV} {q Ls : Nat} {xs : Nat → Int32} {i : Int} (C : Cs F RL code 8 10 E) (X : SX F E q Ls xs) (hE : HI E) (h0 : 0 ≤ i) (h1 : i + 3 < Ls) (S : SIM hs tp md) (K : ∀ (hs : Nat → HV) (tp md : HV), SIM hs tp md → G F E hs tp md 961 (LL E q i) []) : G F E hs tp md 506 (LL E q i) [] := by
  refine x_aload_n C dL_law_506 rfl ?_
  refine x_callV (nA := 0) (As := []) (rest := []) C (m_X6_fault hE S.tg) q_614 q_615 q_616 q_56 q_617 (by decide +kernel) (wl_t 0 (by decide)) rfl rfl (by decide) (by decide) (Nat.le_of_ble_eq_true rfl) dL_law_507 rfl ?_
  refine x_aload_n C dL_law_510 rfl ?_
  refine G.of (md' := upr md 1 (md 1)) ?_ rfl rfl upr_id.symm rfl
  refine x_callV (nA := 0) (As := []) (rest := [_]) C (m_X7_fault hE (md := md) (r := md 1) S.tx S.plc) q_963 q_964 q_965 q_64 q_966 (by decide +kernel) (wl_m 0 (by decide)) rfl rfl (by decide) (by decide) (Nat.le_of_ble_eq_true rfl) dL_law_511 rfl ?_
  refine x_same 961 C dL_law_514 (by decide) ((sim_fault S).1) ?_
  exact K _ _ _ ((sim_fault S).2)
set_option maxRecDepth 100000 in
set_option maxHeartbeats 4000000 in
theorem law_undo {F : FC} {E : HE} {hs : Nat → HV} {tp md : HV} {q Ls : Nat} {xs : Nat → Int32} {i : Int} (C : Cs F RL code 8 10 E) (X : SX F E q Ls xs) (hE : HI E) (h0 : 0 ≤ i) (h1 : i + 3 < Ls) (S : SIM hs tp md) (K : ∀ (hs : Nat → HV) (tp md : HV), SIM hs tp md → G F E hs tp md 961 (LL E q i) []) : G F E hs tp md 519 (LL E q i) [] := by
  refine x_aload_n C dL_law_519 rfl ?_
  refine x_callV (nA := 0) (As := []) (rest := []) C (m_X6_undo hE S.r0 S.sg S.1) q_618 q_619 q_620 q_56 q_621 (by decide +kernel) (wl_t 0 (by decide)) rfl rfl (by decide) (by decide) (Nat.le_of_ble_eq_true rfl) dL_law_520 rfl ?_
  refine x_aload_n C dL_law_523 rfl ?_
  refine G.of (md' := upr md 1 (md 1)) ?_ rfl rfl upr_id.symm rfl
  refine x_callV (nA := 0) (As := []) (rest := [_]) C (m_X7_undo hE (md := md) (r := md 1) S.mr S.k0) q_967 q_968 q_969 q_64 q_970 (by decide +kernel) (wl_m 0 (by decide)) rfl rfl (by decide) (by decide) (Nat.le_of_ble_eq_true rfl) dL_law_524 rfl ?_
  refine x_same 961 C dL_law_527 (by decide) ((sim_undo S).1) ?_
  exact K _ _ _ ((sim_undo S).2)
set_option maxRecDepth 100000 in
set_option maxHeartbeats 4000000 in
theorem law_keep {F : FC} {E : HE} {hs : Nat → HV} {tp md : HV} {q Ls : Nat} {xs : Nat → Int32} {i : Int} (C : Cs F RL code 8 10 E) (X : SX F E q Ls xs) (hE : HI E) (h0 : 0 ≤ i) (h1 : i + 3 < Ls) (S : SIM hs tp md) (K : ∀ (hs : Nat → HV) (tp md : HV), SIM hs tp md → G F E hs tp md 961 (LL E q i) []) : G F E hs tp md 532 (LL E q i) [] := by
  refine x_aload_n C dL_law_532 rfl ?_
  refine x_callV (nA := 0) (As := []) (rest := []) C (m_X6_keep hE S.r0) q_626 q_627 q_628 q_56 q_629 (by decide +kernel) (wl_t 0 (by decide)) rfl rfl (by decide) (by decide) (Nat.le_of_ble_eq_true rfl) dL_law_533 rfl ?_
  refine x_aload_n C dL_law_536 rfl ?_
  refine G.of (md' := upr md 1 (md 1)) ?_ rfl rfl upr_id.symm rfl
  refine x_callV (nA := 0) (As := []) (rest := [_]) C (m_X7_keep hE (md := md) (r := md 1)) q_971 q_972 q_973 q_64 q_974 (by decide +kernel) (wl_m 0 (by decide)) rfl rfl (by decide) (by decide) (Nat.le_of_ble_eq_true rfl) dL_law_537 rfl ?_
  refine x_same 961 C dL_law_540 (by decide) (t_keep S) ?_
  exact K _ _ _ (sim_keep S)
set_option maxRecDepth 100000 in
set_option maxHeartbeats 4000000 in
theorem law_restore {F : FC} {E : HE} {hs : Nat → HV} {tp md : HV} {q Ls : Nat} {xs : Nat → Int32} {i : Int} (C : Cs F RL code 8 10 E) (X : SX F E q Ls xs) (hE : HI E) (h0 : 0 ≤ i) (h1 : i + 3 < Ls) (S : SIM hs tp md) (K : ∀ (hs : Nat → HV) (tp md : HV), SIM hs tp md → G F E hs tp md 961 (LL E q i) []) : G F E hs tp md 545 (LL E q i) [] := by
  refine x_aload_n C dL_law_545 rfl ?_
  refine x_callV (nA := 0) (As := []) (rest := []) C (m_X6_restore hE S.r0 S.sg S.r2 S.z3) q_630 q_631 q_632 q_56 q_633 (by decide +kernel) (wl_t 0 (by decide)) rfl rfl (by decide) (by decide) (Nat.le_of_ble_eq_true rfl) dL_law_546 rfl ?_
  refine x_aload_n C dL_law_549 rfl ?_
  refine G.of (md' := upr md 1 (md 1)) ?_ rfl rfl upr_id.symm rfl
  refine x_callV (nA := 0) (As := []) (rest := [_]) C (m_X7_restore hE (md := md) (r := md 1) S.mr S.k0 S.z8) q_975 q_976 q_977 q_64 q_978 (by decide +kernel) (wl_m 0 (by decide)) rfl rfl (by decide) (by decide) (Nat.le_of_ble_eq_true rfl) dL_law_550 rfl ?_
  refine x_same 961 C dL_law_553 (by decide) ((sim_restore S).1) ?_
  exact K _ _ _ ((sim_restore S).2)
set_option maxRecDepth 100000 in
set_option maxHeartbeats 4000000 in
theorem law_booking {F : FC} {E : HE} {hs : Nat → HV} {tp md : HV} {q Ls : Nat} {xs : Nat → Int32} {i : Int} (C : Cs F RL code 8 10 E) (X : SX F E q Ls xs) (hE : HI E) (h0 : 0 ≤ i) (h1 : i + 3 < Ls) (S : SIM hs tp md) (K : ∀ (hs : Nat → HV) (tp md : HV), SIM hs tp md → G F E hs tp md 961 (LL E q i) []) : G F E hs tp md 558 (LL E q i) [] := by
  refine x_aload_n C dL_law_558 rfl ?_
  refine x_arg C X dL_law_559 dL_law_560 dL_law_561 dL_law_562 dL_law_563 (by omega) (by omega) ?_
  refine x_arg C X dL_law_564 dL_law_565 dL_law_566 dL_law_567 dL_law_568 (by omega) (by omega) ?_
  refine x_callV (nA := 2) (As := [vI (yv xs (i + 1)), vI (yv xs (i + 2))]) (rest := []) C (m_X6_booking hE S.r0 (b := (yv xs (i + 1))) (w := (yv xs (i + 2))) (oI_IR _) (oI_IR _)) q_634 q_635 q_636 q_56 q_637 (by decide +kernel) (wl_t 0 (by decide)) rfl rfl (by decide) (by decide) (Nat.le_of_ble_eq_true rfl) dL_law_569 rfl ?_
  refine x_aload_n C dL_law_572 rfl ?_
  refine x_arg C X dL_law_573 dL_law_574 dL_law_575 dL_law_576 dL_law_577 (by omega) (by omega) ?_
  refine x_arg C X dL_law_578 dL_law_579 dL_law_580 dL_law_581 dL_law_582 (by omega) (by omega) ?_
  refine G.of (md' := upr md 1 (md 1)) ?_ rfl rfl upr_id.symm rfl
  refine x_callV (nA := 2) (As := [vI (yv xs (i + 1)), vI (yv xs (i + 2))]) (rest := [_]) C (m_X7_booking hE (md := md) (r := md 1) S.mr (b := (yv xs (i + 1))) (w := (yv xs (i + 2))) (oI_IR _) (oI_IR _)) q_979 q_980 q_981 q_64 q_982 (by decide +kernel) (wl_m 0 (by decide)) rfl rfl (by decide) (by decide) (Nat.le_of_ble_eq_true rfl) dL_law_583 rfl ?_
  refine x_same 961 C dL_law_586 (by decide) (t_booking S) ?_
  exact K _ _ _ (by rw [upr_id]; exact S)
set_option maxRecDepth 100000 in
set_option maxHeartbeats 4000000 in
theorem law_day {F : FC} {E : HE} {hs : Nat → HV} {tp md : HV} {q Ls : Nat} {xs : Nat → Int32} {i : Int} (C : Cs F RL code 8 10 E) (X : SX F E q Ls xs) (hE : HI E) (h0 : 0 ≤ i) (h1 : i + 3 < Ls) (S : SIM hs tp md) (K : ∀ (hs : Nat → HV) (tp md : HV), SIM hs tp md → G F E hs tp md 961 (LL E q i) []) : G F E hs tp md 591 (LL E q i) [] := by
  refine x_aload_n C dL_law_591 rfl ?_
  refine x_arg C X dL_law_592 dL_law_593 dL_law_594 dL_law_595 dL_law_596 (by omega) (by omega) ?_
  refine x_arg C X dL_law_597 dL_law_598 dL_law_599 dL_law_600 dL_law_601 (by omega) (by omega) ?_
  refine x_callV (nA := 2) (As := [vI (yv xs (i + 1)), vI (yv xs (i + 2))]) (rest := []) C (m_X6_day hE S.r0 (d := (yv xs (i + 1))) (w := (yv xs (i + 2))) (oI_IR _) (oI_IR _)) q_642 q_643 q_644 q_56 q_645 (by decide +kernel) (wl_t 0 (by decide)) rfl rfl (by decide) (by decide) (Nat.le_of_ble_eq_true rfl) dL_law_602 rfl ?_
  refine x_aload_n C dL_law_605 rfl ?_
  refine x_arg C X dL_law_606 dL_law_607 dL_law_608 dL_law_609 dL_law_610 (by omega) (by omega) ?_
  refine x_arg C X dL_law_611 dL_law_612 dL_law_613 dL_law_614 dL_law_615 (by omega) (by omega) ?_
  refine G.of (md' := upr md 1 (md 1)) ?_ rfl rfl upr_id.symm rfl
  refine x_callV (nA := 2) (As := [vI (yv xs (i + 1)), vI (yv xs (i + 2))]) (rest := [_]) C (m_X7_day hE (md := md) (r := md 1) S.mr (d := (yv xs (i + 1))) (w := (yv xs (i + 2))) (oI_IR _) (oI_IR _)) q_983 q_984 q_985 q_64 q_986 (by decide +kernel) (wl_m 0 (by decide)) rfl rfl (by decide) (by decide) (Nat.le_of_ble_eq_true rfl) dL_law_616 rfl ?_
  refine x_same 961 C dL_law_619 (by decide) (t_day S) ?_
  exact K _ _ _ (by rw [upr_id]; exact S)
set_option maxRecDepth 100000 in
set_option maxHeartbeats 4000000 in
theorem law_fresh {F : FC} {E : HE} {hs : Nat → HV} {tp md : HV} {q Ls : Nat} {xs : Nat → Int32} {i : Int} (C : Cs F RL code 8 10 E) (X : SX F E q Ls xs) (hE : HI E) (h0 : 0 ≤ i) (h1 : i + 3 < Ls) (S : SIM hs tp md) (K : ∀ (hs : Nat → HV) (tp md : HV), SIM hs tp md → G F E hs tp md 961 (LL E q i) []) : G F E hs tp md 624 (LL E q i) [] := by
  refine x_aload_n C dL_law_624 rfl ?_
  refine x_arg C X dL_law_625 dL_law_626 dL_law_627 dL_law_628 dL_law_629 (by omega) (by omega) ?_
  refine x_arg C X dL_law_630 dL_law_631 dL_law_632 dL_law_633 dL_law_634 (by omega) (by omega) ?_
  refine x_callV (nA := 2) (As := [vI (yv xs (i + 1)), vI (yv xs (i + 2))]) (rest := []) C (m_X6_fresh hE S.r0 (r := (yv xs (i + 1))) (w := (yv xs (i + 2))) (oI_IR _) (oI_IR _) (by decide)) q_655 q_656 q_657 q_56 q_658 (by decide +kernel) (wl_t 0 (by decide)) rfl rfl (by decide) (by decide) (Nat.le_of_ble_eq_true rfl) dL_law_635 rfl ?_
  refine x_aload_n C dL_law_638 rfl ?_
  refine x_arg C X dL_law_639 dL_law_640 dL_law_641 dL_law_642 dL_law_643 (by omega) (by omega) ?_
  refine x_arg C X dL_law_644 dL_law_645 dL_law_646 dL_law_647 dL_law_648 (by omega) (by omega) ?_
  refine G.of (md' := upr md 1 (md 1)) ?_ rfl rfl upr_id.symm rfl
  refine x_callV (nA := 2) (As := [vI (yv xs (i + 1)), vI (yv xs (i + 2))]) (rest := [_]) C (m_X7_fresh hE (md := md) (r := md 1) S.mr (k := (yv xs (i + 1))) (w := (yv xs (i + 2))) (oI_IR _) (oI_IR _) (by decide)) q_987 q_988 q_989 q_64 q_990 (by decide +kernel) (wl_m 0 (by decide)) rfl rfl (by decide) (by decide) (Nat.le_of_ble_eq_true rfl) dL_law_649 rfl ?_
  refine x_same 961 C dL_law_652 (by decide) (t_fresh S) ?_
  exact K _ _ _ (by rw [upr_id]; exact S)
set_option maxRecDepth 100000 in
set_option maxHeartbeats 4000000 in
theorem law_waiting {F : FC} {E : HE} {hs : Nat → HV} {tp md : HV} {q Ls : Nat} {xs : Nat → Int32} {i : Int} (C : Cs F RL code 8 10 E) (X : SX F E q Ls xs) (hE : HI E) (h0 : 0 ≤ i) (h1 : i + 3 < Ls) (S : SIM hs tp md) (K : ∀ (hs : Nat → HV) (tp md : HV), SIM hs tp md → G F E hs tp md 961 (LL E q i) []) : G F E hs tp md 657 (LL E q i) [] := by
  refine x_aload_n C dL_law_657 rfl ?_
  refine x_arg C X dL_law_658 dL_law_659 dL_law_660 dL_law_661 dL_law_662 (by omega) (by omega) ?_
  refine x_arg C X dL_law_663 dL_law_664 dL_law_665 dL_law_666 dL_law_667 (by omega) (by omega) ?_
  refine x_callV (nA := 2) (As := [vI (yv xs (i + 1)), vI (yv xs (i + 2))]) (rest := []) C (m_X6_waiting hE S.r0 (r := (yv xs (i + 1))) (w := (yv xs (i + 2))) (oI_IR _) (oI_IR _)) q_669 q_670 q_671 q_56 q_672 (by decide +kernel) (wl_t 0 (by decide)) rfl rfl (by decide) (by decide) (Nat.le_of_ble_eq_true rfl) dL_law_668 rfl ?_
  refine x_aload_n C dL_law_671 rfl ?_
  refine x_arg C X dL_law_672 dL_law_673 dL_law_674 dL_law_675 dL_law_676 (by omega) (by omega) ?_
  refine x_arg C X dL_law_677 dL_law_678 dL_law_679 dL_law_680 dL_law_681 (by omega) (by omega) ?_
  refine G.of (md' := upr md 1 (md 1)) ?_ rfl rfl upr_id.symm rfl
  refine x_callV (nA := 2) (As := [vI (yv xs (i + 1)), vI (yv xs (i + 2))]) (rest := [_]) C (m_X7_waiting hE (md := md) (r := md 1) S.mr (k := (yv xs (i + 1))) (w := (yv xs (i + 2))) (oI_IR _) (oI_IR _)) q_991 q_992 q_993 q_64 q_994 (by decide +kernel) (wl_m 0 (by decide)) rfl rfl (by decide) (by decide) (Nat.le_of_ble_eq_true rfl) dL_law_682 rfl ?_
  refine x_same 961 C dL_law_685 (by decide) (t_waiting S) ?_
  exact K _ _ _ (by rw [upr_id]; exact S)
set_option maxRecDepth 100000 in
set_option maxHeartbeats 4000000 in
theorem law_count {F : FC} {E : HE} {hs : Nat → HV} {tp md : HV} {q Ls : Nat} {xs : Nat → Int32} {i : Int} (C : Cs F RL code 8 10 E) (X : SX F E q Ls xs) (hE : HI E) (h0 : 0 ≤ i) (h1 : i + 3 < Ls) (S : SIM hs tp md) (K : ∀ (hs : Nat → HV) (tp md : HV), SIM hs tp md → G F E hs tp md 961 (LL E q i) []) : G F E hs tp md 690 (LL E q i) [] := by
  refine x_aload_n C dL_law_690 rfl ?_
  refine x_arg C X dL_law_691 dL_law_692 dL_law_693 dL_law_694 dL_law_695 (by omega) (by omega) ?_
  refine x_callV (nA := 1) (As := [vI (yv xs (i + 1))]) (rest := []) C (m_X6_count hE S.r0 (w := (yv xs (i + 1))) (oI_IR _)) q_673 q_674 q_675 q_56 q_676 (by decide +kernel) (wl_t 0 (by decide)) rfl rfl (by decide) (by decide) (Nat.le_of_ble_eq_true rfl) dL_law_696 rfl ?_
  refine x_aload_n C dL_law_699 rfl ?_
  refine x_arg C X dL_law_700 dL_law_701 dL_law_702 dL_law_703 dL_law_704 (by omega) (by omega) ?_
  refine G.of (md' := upr md 1 (md 1)) ?_ rfl rfl upr_id.symm rfl
  refine x_callV (nA := 1) (As := [vI (yv xs (i + 1))]) (rest := [_]) C (m_X7_count hE (md := md) (r := md 1) S.mr (w := (yv xs (i + 1))) (oI_IR _)) q_995 q_996 q_997 q_64 q_998 (by decide +kernel) (wl_m 0 (by decide)) rfl rfl (by decide) (by decide) (Nat.le_of_ble_eq_true rfl) dL_law_705 rfl ?_
  refine x_same 961 C dL_law_708 (by decide) (t_count S) ?_
  exact K _ _ _ (by rw [upr_id]; exact S)
set_option maxRecDepth 100000 in
set_option maxHeartbeats 4000000 in
theorem law_coins {F : FC} {E : HE} {hs : Nat → HV} {tp md : HV} {q Ls : Nat} {xs : Nat → Int32} {i : Int} (C : Cs F RL code 8 10 E) (X : SX F E q Ls xs) (hE : HI E) (h0 : 0 ≤ i) (h1 : i + 3 < Ls) (S : SIM hs tp md) (K : ∀ (hs : Nat → HV) (tp md : HV), SIM hs tp md → G F E hs tp md 961 (LL E q i) []) : G F E hs tp md 713 (LL E q i) [] := by
  refine x_aload_n C dL_law_713 rfl ?_
  refine x_arg C X dL_law_714 dL_law_715 dL_law_716 dL_law_717 dL_law_718 (by omega) (by omega) ?_
  refine x_callV (nA := 1) (As := [vI (yv xs (i + 1))]) (rest := []) C (m_X6_coins hE S.r0 (w := (yv xs (i + 1))) (oI_IR _)) q_691 q_692 q_693 q_56 q_694 (by decide +kernel) (wl_t 0 (by decide)) rfl rfl (by decide) (by decide) (Nat.le_of_ble_eq_true rfl) dL_law_719 rfl ?_
  refine x_aload_n C dL_law_722 rfl ?_
  refine x_arg C X dL_law_723 dL_law_724 dL_law_725 dL_law_726 dL_law_727 (by omega) (by omega) ?_
  refine G.of (md' := upr md 1 (md 1)) ?_ rfl rfl upr_id.symm rfl
  refine x_callV (nA := 1) (As := [vI (yv xs (i + 1))]) (rest := [_]) C (m_X7_coins hE (md := md) (r := md 1) S.mr (w := (yv xs (i + 1))) (oI_IR _)) q_1011 q_1012 q_1013 q_64 q_1014 (by decide +kernel) (wl_m 0 (by decide)) rfl rfl (by decide) (by decide) (Nat.le_of_ble_eq_true rfl) dL_law_728 rfl ?_
  refine x_same 961 C dL_law_731 (by decide) (t_coins S) ?_
  exact K _ _ _ (by rw [upr_id]; exact S)
set_option maxRecDepth 100000 in
set_option maxHeartbeats 4000000 in
theorem law_refund {F : FC} {E : HE} {hs : Nat → HV} {tp md : HV} {q Ls : Nat} {xs : Nat → Int32} {i : Int} (C : Cs F RL code 8 10 E) (X : SX F E q Ls xs) (hE : HI E) (h0 : 0 ≤ i) (h1 : i + 3 < Ls) (S : SIM hs tp md) (K : ∀ (hs : Nat → HV) (tp md : HV), SIM hs tp md → G F E hs tp md 961 (LL E q i) []) : G F E hs tp md 797 (LL E q i) [] := by
  refine x_aload_n C dL_law_797 rfl ?_
  refine x_arg C X dL_law_798 dL_law_799 dL_law_800 dL_law_801 dL_law_802 (by omega) (by omega) ?_
  refine x_callV (nA := 1) (As := [vI (yv xs (i + 1))]) (rest := []) C (m_X6_refund hE S.r0 (b := (yv xs (i + 1))) (oI_IR _)) q_705 q_706 q_707 q_56 q_708 (by decide +kernel) (wl_t 0 (by decide)) rfl rfl (by decide) (by decide) (Nat.le_of_ble_eq_true rfl) dL_law_803 rfl ?_
  refine x_aload_n C dL_law_806 rfl ?_
  refine x_arg C X dL_law_807 dL_law_808 dL_law_809 dL_law_810 dL_law_811 (by omega) (by omega) ?_
  refine G.of (md' := upr md 1 (md 1)) ?_ rfl rfl upr_id.symm rfl
  refine x_callV (nA := 1) (As := [vI (yv xs (i + 1))]) (rest := [_]) C (m_X7_refund hE (md := md) (r := md 1) S.mr (b := (yv xs (i + 1))) (oI_IR _)) q_846 q_847 q_848 q_64 q_849 (by decide +kernel) (wl_m 0 (by decide)) rfl rfl (by decide) (by decide) (Nat.le_of_ble_eq_true rfl) dL_law_812 rfl ?_
  refine x_same 961 C dL_law_815 (by decide) (ans_refund S) ?_
  exact K _ _ _ (by rw [upr_id]; exact S)
set_option maxRecDepth 100000 in
set_option maxHeartbeats 4000000 in
theorem law_firstFree {F : FC} {E : HE} {hs : Nat → HV} {tp md : HV} {q Ls : Nat} {xs : Nat → Int32} {i : Int} (C : Cs F RL code 8 10 E) (X : SX F E q Ls xs) (hE : HI E) (h0 : 0 ≤ i) (h1 : i + 3 < Ls) (S : SIM hs tp md) (K : ∀ (hs : Nat → HV) (tp md : HV), SIM hs tp md → G F E hs tp md 961 (LL E q i) []) : G F E hs tp md 820 (LL E q i) [] := by
  refine x_aload_n C dL_law_820 rfl ?_
  refine x_arg C X dL_law_821 dL_law_822 dL_law_823 dL_law_824 dL_law_825 (by omega) (by omega) ?_
  refine x_arg C X dL_law_826 dL_law_827 dL_law_828 dL_law_829 dL_law_830 (by omega) (by omega) ?_
  refine x_callV (nA := 2) (As := [vI (yv xs (i + 1)), vI (yv xs (i + 2))]) (rest := []) C (m_X6_firstFree hE S.r0 (n := (yv xs (i + 1))) (p := (yv xs (i + 2))) (oI_IR _) (oI_IR _)) q_710 q_711 q_712 q_56 q_713 (by decide +kernel) (wl_t 0 (by decide)) rfl rfl (by decide) (by decide) (Nat.le_of_ble_eq_true rfl) dL_law_831 rfl ?_
  refine x_aload_n C dL_law_834 rfl ?_
  refine x_arg C X dL_law_835 dL_law_836 dL_law_837 dL_law_838 dL_law_839 (by omega) (by omega) ?_
  refine x_arg C X dL_law_840 dL_law_841 dL_law_842 dL_law_843 dL_law_844 (by omega) (by omega) ?_
  refine G.of (md' := upr md 1 (md 1)) ?_ rfl rfl upr_id.symm rfl
  refine x_callV (nA := 2) (As := [vI (yv xs (i + 1)), vI (yv xs (i + 2))]) (rest := [_]) C (m_X7_firstFree hE (md := md) (r := md 1) S.mr (n := (yv xs (i + 1))) (p := (yv xs (i + 2))) (oI_IR _) (oI_IR _)) q_1020 q_1021 q_1022 q_64 q_1023 (by decide +kernel) (wl_m 0 (by decide)) rfl rfl (by decide) (by decide) (Nat.le_of_ble_eq_true rfl) dL_law_845 rfl ?_
  refine x_same 961 C dL_law_848 (by decide) ((t_first S).1) ?_
  exact K _ _ _ (by rw [upr_id]; exact (t_first S).2)
set_option maxRecDepth 100000 in
set_option maxHeartbeats 4000000 in
theorem law_hungryIn {F : FC} {E : HE} {hs : Nat → HV} {tp md : HV} {q Ls : Nat} {xs : Nat → Int32} {i : Int} (C : Cs F RL code 8 10 E) (X : SX F E q Ls xs) (hE : HI E) (h0 : 0 ≤ i) (h1 : i + 3 < Ls) (S : SIM hs tp md) (K : ∀ (hs : Nat → HV) (tp md : HV), SIM hs tp md → G F E hs tp md 961 (LL E q i) []) : G F E hs tp md 853 (LL E q i) [] := by
  refine x_aload_n C dL_law_853 rfl ?_
  refine x_callV (nA := 0) (As := []) (rest := []) C (m_X6_hungryIn hE S.r0 S.r1 (by decide) S.hd S.hu) q_715 q_716 q_717 q_56 q_718 (by decide +kernel) (wl_t 0 (by decide)) rfl rfl (by decide) (by decide) (Nat.le_of_ble_eq_true rfl) dL_law_854 rfl ?_
  refine x_aload_n C dL_law_857 rfl ?_
  refine G.of (md' := upr md 1 (md 1)) ?_ rfl rfl upr_id.symm rfl
  refine x_callV (nA := 0) (As := []) (rest := [_]) C (m_X7_hungryIn hE (md := md) (r := md 1) S.mr (by decide) S.hm S.u10) q_1024 q_1025 q_1026 q_64 q_1027 (by decide +kernel) (wl_m 0 (by decide)) rfl rfl (by decide) (by decide) (Nat.le_of_ble_eq_true rfl) dL_law_858 rfl ?_
  refine x_same 961 C dL_law_861 (by decide) ((sim_hungry S).1) ?_
  exact K _ _ _ ((sim_hungry S).2)
set_option maxRecDepth 100000 in
set_option maxHeartbeats 4000000 in
theorem law_wanting {F : FC} {E : HE} {hs : Nat → HV} {tp md : HV} {q Ls : Nat} {xs : Nat → Int32} {i : Int} (C : Cs F RL code 8 10 E) (X : SX F E q Ls xs) (hE : HI E) (h0 : 0 ≤ i) (h1 : i + 3 < Ls) (S : SIM hs tp md) (K : ∀ (hs : Nat → HV) (tp md : HV), SIM hs tp md → G F E hs tp md 961 (LL E q i) []) : G F E hs tp md 866 (LL E q i) [] := by
  refine x_aload_n C dL_law_866 rfl ?_
  refine x_arg C X dL_law_867 dL_law_868 dL_law_869 dL_law_870 dL_law_871 (by omega) (by omega) ?_
  refine x_callV (nA := 1) (As := [vI (yv xs (i + 1))]) (rest := []) C (m_X6_wanting hE S.r0 S.r1 (by decide) S.hd (n := (yv xs (i + 1))) (oI_IR _)) q_719 q_720 q_721 q_56 q_722 (by decide +kernel) (wl_t 0 (by decide)) rfl rfl (by decide) (by decide) (Nat.le_of_ble_eq_true rfl) dL_law_872 rfl ?_
  refine x_aload_n C dL_law_875 rfl ?_
  refine x_arg C X dL_law_876 dL_law_877 dL_law_878 dL_law_879 dL_law_880 (by omega) (by omega) ?_
  refine G.of (md' := upr md 1 (md 1)) ?_ rfl rfl upr_id.symm rfl
  refine x_callV (nA := 1) (As := [vI (yv xs (i + 1))]) (rest := [_]) C (m_X7_wanting hE (md := md) (r := md 1) S.mr (by decide) S.hm (n := (yv xs (i + 1))) (oI_IR _)) q_1028 q_1029 q_1030 q_64 q_1031 (by decide +kernel) (wl_m 0 (by decide)) rfl rfl (by decide) (by decide) (Nat.le_of_ble_eq_true rfl) dL_law_881 rfl ?_
  refine x_same 961 C dL_law_884 (by decide) ((sim_grow S (c := 5) (n := (yv xs (i + 1))) (by decide)).1) ?_
  exact K _ _ _ ((sim_grow S (c := 5) (n := (yv xs (i + 1))) (by decide)).2)
set_option maxRecDepth 100000 in
set_option maxHeartbeats 4000000 in
theorem law_goneIn {F : FC} {E : HE} {hs : Nat → HV} {tp md : HV} {q Ls : Nat} {xs : Nat → Int32} {i : Int} (C : Cs F RL code 8 10 E) (X : SX F E q Ls xs) (hE : HI E) (h0 : 0 ≤ i) (h1 : i + 3 < Ls) (S : SIM hs tp md) (K : ∀ (hs : Nat → HV) (tp md : HV), SIM hs tp md → G F E hs tp md 961 (LL E q i) []) : G F E hs tp md 889 (LL E q i) [] := by
  refine x_aload_n C dL_law_889 rfl ?_
  refine x_arg C X dL_law_890 dL_law_891 dL_law_892 dL_law_893 dL_law_894 (by omega) (by omega) ?_
  refine x_callV (nA := 1) (As := [vI (yv xs (i + 1))]) (rest := []) C (m_X6_goneIn hE S.r0 S.r1 (by decide) S.hd (b := (yv xs (i + 1))) (oI_IR _)) q_727 q_728 q_729 q_56 q_730 (by decide +kernel) (wl_t 0 (by decide)) rfl rfl (by decide) (by decide) (Nat.le_of_ble_eq_true rfl) dL_law_895 rfl ?_
  refine x_aload_n C dL_law_898 rfl ?_
  refine x_arg C X dL_law_899 dL_law_900 dL_law_901 dL_law_902 dL_law_903 (by omega) (by omega) ?_
  refine G.of (md' := upr md 1 (md 1)) ?_ rfl rfl upr_id.symm rfl
  refine x_callV (nA := 1) (As := [vI (yv xs (i + 1))]) (rest := [_]) C (m_X7_goneIn hE (md := md) (r := md 1) S.mr (by decide) S.hm (b := (yv xs (i + 1))) (oI_IR _)) q_1036 q_1037 q_1038 q_64 q_1039 (by decide +kernel) (wl_m 0 (by decide)) rfl rfl (by decide) (by decide) (Nat.le_of_ble_eq_true rfl) dL_law_904 rfl ?_
  refine x_same 961 C dL_law_907 (by decide) ((sim_gone S (b := (yv xs (i + 1)))).1) ?_
  exact K _ _ _ ((sim_gone S (b := (yv xs (i + 1)))).2)
set_option maxRecDepth 100000 in
set_option maxHeartbeats 4000000 in
theorem law_turnedAway {F : FC} {E : HE} {hs : Nat → HV} {tp md : HV} {q Ls : Nat} {xs : Nat → Int32} {i : Int} (C : Cs F RL code 8 10 E) (X : SX F E q Ls xs) (hE : HI E) (h0 : 0 ≤ i) (h1 : i + 3 < Ls) (S : SIM hs tp md) (K : ∀ (hs : Nat → HV) (tp md : HV), SIM hs tp md → G F E hs tp md 961 (LL E q i) []) : G F E hs tp md 912 (LL E q i) [] := by
  refine x_aload_n C dL_law_912 rfl ?_
  refine x_arg C X dL_law_913 dL_law_914 dL_law_915 dL_law_916 dL_law_917 (by omega) (by omega) ?_
  refine x_callV (nA := 1) (As := [vI (yv xs (i + 1))]) (rest := []) C (m_X6_turnedAway hE S.r0 S.r1 (by decide) S.hd (n := (yv xs (i + 1))) (oI_IR _)) q_732 q_733 q_734 q_56 q_735 (by decide +kernel) (wl_t 0 (by decide)) rfl rfl (by decide) (by decide) (Nat.le_of_ble_eq_true rfl) dL_law_918 rfl ?_
  refine x_aload_n C dL_law_921 rfl ?_
  refine x_arg C X dL_law_922 dL_law_923 dL_law_924 dL_law_925 dL_law_926 (by omega) (by omega) ?_
  refine G.of (md' := upr md 1 (md 1)) ?_ rfl rfl upr_id.symm rfl
  refine x_callV (nA := 1) (As := [vI (yv xs (i + 1))]) (rest := [_]) C (m_X7_turnedAway hE (md := md) (r := md 1) S.mr (by decide) S.hm (n := (yv xs (i + 1))) (oI_IR _)) q_1040 q_1041 q_1042 q_64 q_1043 (by decide +kernel) (wl_m 0 (by decide)) rfl rfl (by decide) (by decide) (Nat.le_of_ble_eq_true rfl) dL_law_927 rfl ?_
  refine x_same 961 C dL_law_930 (by decide) ((sim_grow S (c := 8) (n := (yv xs (i + 1))) (by decide)).1) ?_
  exact K _ _ _ ((sim_grow S (c := 8) (n := (yv xs (i + 1))) (by decide)).2)
set_option maxRecDepth 100000 in
set_option maxHeartbeats 4000000 in
theorem law_bestCall {F : FC} {E : HE} {hs : Nat → HV} {tp md : HV} {q Ls : Nat} {xs : Nat → Int32} {i : Int} (C : Cs F RL code 8 10 E) (X : SX F E q Ls xs) (hE : HI E) (h0 : 0 ≤ i) (h1 : i + 3 < Ls) (S : SIM hs tp md) (K : ∀ (hs : Nat → HV) (tp md : HV), SIM hs tp md → G F E hs tp md 961 (LL E q i) []) : G F E hs tp md 935 (LL E q i) [] := by
  refine x_aload_n C dL_law_935 rfl ?_
  refine x_callV (nA := 0) (As := []) (rest := []) C (m_X6_bestCall hE S.r0 S.r1 (by decide) S.hd) q_736 q_737 q_738 q_56 q_739 (by decide +kernel) (wl_t 0 (by decide)) rfl rfl (by decide) (by decide) (Nat.le_of_ble_eq_true rfl) dL_law_936 rfl ?_
  refine x_aload_n C dL_law_939 rfl ?_
  refine G.of (md' := upr md 1 (md 1)) ?_ rfl rfl upr_id.symm rfl
  refine x_callV (nA := 0) (As := []) (rest := [_]) C (m_X7_bestCall hE (md := md) (r := md 1) S.mr (by decide) S.hm S.u5) q_1044 q_1045 q_1046 q_64 q_1047 (by decide +kernel) (wl_m 0 (by decide)) rfl rfl (by decide) (by decide) (Nat.le_of_ble_eq_true rfl) dL_law_940 rfl ?_
  refine x_same 961 C dL_law_943 (by decide) ((sim_best S).1) ?_
  exact K _ _ _ ((sim_best S).2)
set_option maxRecDepth 100000 in
set_option maxHeartbeats 4000000 in
theorem law_fullest {F : FC} {E : HE} {hs : Nat → HV} {tp md : HV} {q Ls : Nat} {xs : Nat → Int32} {i : Int} (C : Cs F RL code 8 10 E) (X : SX F E q Ls xs) (hE : HI E) (h0 : 0 ≤ i) (h1 : i + 3 < Ls) (S : SIM hs tp md) (K : ∀ (hs : Nat → HV) (tp md : HV), SIM hs tp md → G F E hs tp md 961 (LL E q i) []) : G F E hs tp md 948 (LL E q i) [] := by
  refine x_aload_n C dL_law_948 rfl ?_
  refine x_callV (nA := 0) (As := []) (rest := []) C (m_X6_fullest hE S.r0) q_744 q_591 q_592 q_56 q_593 (by decide +kernel) (wl_t 0 (by decide)) rfl rfl (by decide) (by decide) (Nat.le_of_ble_eq_true rfl) dL_law_949 rfl ?_
  refine x_aload_n C dL_law_952 rfl ?_
  refine G.of (md' := upr md 1 (md 1)) ?_ rfl rfl upr_id.symm rfl
  refine x_callV (nA := 0) (As := []) (rest := [_]) C (m_X7_fullest hE (md := md) (r := md 1) S.mr) q_1052 q_1053 q_1054 q_64 q_1055 (by decide +kernel) (wl_m 0 (by decide)) rfl rfl (by decide) (by decide) (Nat.le_of_ble_eq_true rfl) dL_law_953 rfl ?_
  refine x_same 961 C dL_law_956 (by decide) (t_full S) ?_
  exact K _ _ _ (by rw [upr_id]; exact S.row)
