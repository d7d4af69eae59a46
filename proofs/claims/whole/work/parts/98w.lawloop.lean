/-! THE LAW's LOOP (printed by law2.py) -/
set_option maxRecDepth 100000 in
set_option maxHeartbeats 4000000 in
theorem law_loop {F : FC} {E : HE} {q Ls : Nat} {xs : Nat → Int32} (C : Cs F RL code 8 10 E) (X : SX F E q Ls xs) (hLs : Ls ≤ 2048) (hE : HI E) (Z : ∀ (hs : Nat → HV) (tp md : HV) (i : Int), G F E hs tp md 967 (LL E q i) []) : ∀ (n : Nat) (i : Int), 0 ≤ i → i ≤ 3000 → 3000 - i < n → ∀ (hs : Nat → HV) (tp md : HV), SIM hs tp md → G F E hs tp md 18 (LL E q i) []
  | 0, i, h0, h9, hn, _, _, _, _ => by omega
  | n + 1, i, h0, h9, hn, hs, tp, md, S => by
    refine x_iload_n C dL_law_18 rfl ?_
    refine x_aload_n C dL_law_19 rfl ?_
    refine x_slen C X dL_law_20 ?_
    refine x_const C dL_law_21 ?_
    refine x_isub C dL_law_22 ?_
    refine x_icmp_gt 967 C dL_law_23 (by decide) ⟨by omega, by omega⟩ ⟨by omega, by omega⟩ (fun _ => Z hs tp md i) (fun c1 => ?_)
    have K : ∀ (hs : Nat → HV) (tp md : HV), SIM hs tp md → G F E hs tp md 961 (LL E q i) [] := fun hs tp md S => by
      refine x_iinc C dL_law_961 rfl (by decide) (rfl : _ = LL E q (i + 4)) ?_
      refine x_goto 18 C dL_law_964 (by decide) ?_
      exact law_loop C X hLs hE Z n (i + 4) (by omega) (by omega) (by omega) hs tp md S
    refine x_aload_n C dL_law_26 rfl ?_
    refine x_iload_n C dL_law_27 rfl ?_
    refine x_sld C X h0 (by omega) dL_law_28 ?_
    refine x_bipush C dL_law_29 (by decide) ?_
    refine x_iand (r := a31 (yv xs i)) C dL_law_31 (oI_self _).symm ?_
    have r := a31_r (yv xs i)
    generalize a31 (yv xs i) = v at r ⊢
    by_cases c31 : v = 31
    · exact x_tabOut 961 C dL_law_32 ⟨by omega, by omega⟩ (Or.inr (by omega)) (by decide) (K hs tp md S)
    rcases (show v = 0 ∨ v = 1 ∨ v = 2 ∨ v = 3 ∨ v = 4 ∨ v = 5 ∨ v = 6 ∨ v = 7 ∨ v = 8 ∨ v = 9 ∨ v = 10 ∨ v = 11 ∨ v = 12 ∨ v = 13 ∨ v = 14 ∨ v = 15 ∨ v = 16 ∨ v = 17 ∨ v = 18 ∨ v = 19 ∨ v = 20 ∨ v = 21 ∨ v = 22 ∨ v = 23 ∨ v = 24 ∨ v = 25 ∨ v = 26 ∨ v = 27 ∨ v = 28 ∨ v = 29 ∨ v = 30 by omega) with rfl | rfl | rfl | rfl | rfl | rfl | rfl | rfl | rfl | rfl | rfl | rfl | rfl | rfl | rfl | rfl | rfl | rfl | rfl | rfl | rfl | rfl | rfl | rfl | rfl | rfl | rfl | rfl | rfl | rfl | rfl
    · exact x_tabIn 172 C dL_law_32 ⟨by decide, by decide⟩ (by decide) (by decide) rfl (by decide) (law_book C X hE h0 (by omega) S K)
    · exact x_tabIn 215 C dL_law_32 ⟨by decide, by decide⟩ (by decide) (by decide) rfl (by decide) (law_bookAll C X hE h0 (by omega) S K)
    · exact x_tabIn 228 C dL_law_32 ⟨by decide, by decide⟩ (by decide) (by decide) rfl (by decide) (law_cancel C X hE h0 (by omega) S K)
    · exact x_tabIn 251 C dL_law_32 ⟨by decide, by decide⟩ (by decide) (by decide) rfl (by decide) (law_extend C X hE h0 (by omega) S K)
    · exact x_tabIn 284 C dL_law_32 ⟨by decide, by decide⟩ (by decide) (by decide) rfl (by decide) (law_weather C X hE h0 (by omega) S K)
    · exact x_tabIn 327 C dL_law_32 ⟨by decide, by decide⟩ (by decide) (by decide) rfl (by decide) (law_order C X hE h0 (by omega) S K)
    · exact x_tabIn 360 C dL_law_32 ⟨by decide, by decide⟩ (by decide) (by decide) rfl (by decide) (law_recall C X hE h0 (by omega) S K)
    · exact x_tabIn 373 C dL_law_32 ⟨by decide, by decide⟩ (by decide) (by decide) rfl (by decide) (law_flight C X hE h0 (by omega) S K)
    · exact x_tabIn 412 C dL_law_32 ⟨by decide, by decide⟩ (by decide) (by decide) rfl (by decide) (law_pass C X hE h0 (by omega) S K)
    · exact x_tabIn 435 C dL_law_32 ⟨by decide, by decide⟩ (by decide) (by decide) rfl (by decide) (law_set C X hE h0 (by omega) S K)
    · exact x_tabIn 468 C dL_law_32 ⟨by decide, by decide⟩ (by decide) (by decide) rfl (by decide) (law_type C X hE h0 (by omega) S K)
    · exact x_tabIn 493 C dL_law_32 ⟨by decide, by decide⟩ (by decide) (by decide) rfl (by decide) (law_clearText C X hE h0 (by omega) S K)
    · exact x_tabIn 506 C dL_law_32 ⟨by decide, by decide⟩ (by decide) (by decide) rfl (by decide) (law_fault C X hE h0 (by omega) S K)
    · exact x_tabIn 519 C dL_law_32 ⟨by decide, by decide⟩ (by decide) (by decide) rfl (by decide) (law_undo C X hE h0 (by omega) S K)
    · exact x_tabIn 532 C dL_law_32 ⟨by decide, by decide⟩ (by decide) (by decide) rfl (by decide) (law_keep C X hE h0 (by omega) S K)
    · exact x_tabIn 545 C dL_law_32 ⟨by decide, by decide⟩ (by decide) (by decide) rfl (by decide) (law_restore C X hE h0 (by omega) S K)
    · exact x_tabIn 558 C dL_law_32 ⟨by decide, by decide⟩ (by decide) (by decide) rfl (by decide) (law_booking C X hE h0 (by omega) S K)
    · exact x_tabIn 591 C dL_law_32 ⟨by decide, by decide⟩ (by decide) (by decide) rfl (by decide) (law_day C X hE h0 (by omega) S K)
    · exact x_tabIn 624 C dL_law_32 ⟨by decide, by decide⟩ (by decide) (by decide) rfl (by decide) (law_fresh C X hE h0 (by omega) S K)
    · exact x_tabIn 657 C dL_law_32 ⟨by decide, by decide⟩ (by decide) (by decide) rfl (by decide) (law_waiting C X hE h0 (by omega) S K)
    · exact x_tabIn 690 C dL_law_32 ⟨by decide, by decide⟩ (by decide) (by decide) rfl (by decide) (law_count C X hE h0 (by omega) S K)
    · exact x_tabIn 713 C dL_law_32 ⟨by decide, by decide⟩ (by decide) (by decide) rfl (by decide) (law_coins C X hE h0 (by omega) S K)
    · exact x_tabIn 736 C dL_law_32 ⟨by decide, by decide⟩ (by decide) (by decide) rfl (by decide) (law_use C X hE h0 (by omega) S K)
    · exact x_tabIn 797 C dL_law_32 ⟨by decide, by decide⟩ (by decide) (by decide) rfl (by decide) (law_refund C X hE h0 (by omega) S K)
    · exact x_tabIn 820 C dL_law_32 ⟨by decide, by decide⟩ (by decide) (by decide) rfl (by decide) (law_firstFree C X hE h0 (by omega) S K)
    · exact x_tabIn 853 C dL_law_32 ⟨by decide, by decide⟩ (by decide) (by decide) rfl (by decide) (law_hungryIn C X hE h0 (by omega) S K)
    · exact x_tabIn 866 C dL_law_32 ⟨by decide, by decide⟩ (by decide) (by decide) rfl (by decide) (law_wanting C X hE h0 (by omega) S K)
    · exact x_tabIn 889 C dL_law_32 ⟨by decide, by decide⟩ (by decide) (by decide) rfl (by decide) (law_goneIn C X hE h0 (by omega) S K)
    · exact x_tabIn 912 C dL_law_32 ⟨by decide, by decide⟩ (by decide) (by decide) rfl (by decide) (law_turnedAway C X hE h0 (by omega) S K)
    · exact x_tabIn 935 C dL_law_32 ⟨by decide, by decide⟩ (by decide) (by decide) rfl (by decide) (law_bestCall C X hE h0 (by omega) S K)
    · exact x_tabIn 948 C dL_law_32 ⟨by decide, by decide⟩ (by decide) (by decide) rfl (by decide) (law_fullest C X hE h0 (by omega) S K)
