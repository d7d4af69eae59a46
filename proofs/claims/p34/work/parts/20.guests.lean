/-! the guests -/
abbrev gEnd (h : HV) (b : Int) : Int := h 5 b + h 6 b
abbrev gHold (h : HV) (b : Int) : Prop := h 4 b = 0 ∨ h 4 b = 1
abbrev gOver (h : HV) (b t : Int) : Prop := h 4 b = 1 ∧ h 5 b + h 6 b ≤ t
abbrev gMany (h : HV) (w : Int) : Int → Int := fun b => if h 4 b = w then 1 else 0
abbrev gThere (h : HV) : Int → Int := fun b => if h 4 b = 1 then h 7 b else 0
abbrev gHeld (h : HV) : Int → Int := fun b => if gHold h b then h 9 b else 0
abbrev gArr (h : HV) (d : Int) : Int → Int := fun b => if h 4 b = 0 ∧ h 5 b = d then 1 else 0
abbrev gEnds (h : HV) (d : Int) : Int → Int := fun b => if gHold h b ∧ h 5 b + h 6 b = d then 1 else 0
abbrev gShared (h : HV) (x y b : Int) : Int := (if h 5 b + h 6 b ≤ y + 1 then h 5 b + h 6 b else y + 1) - (if h 5 b < x then x else h 5 b)
abbrev gBeds (h : HV) (x y : Int) : Int → Int := fun b => if gHold h b ∧ 0 < gShared h x y b then gShared h x y b * h 7 b else 0
abbrev nThere (h : HV) : Int := sumI (gThere h) (h 3 7)
abbrev nBeds (h : HV) (x y : Int) : Int := sumI (gBeds h x y) (h 3 7)
set_option maxRecDepth 100000 in
set_option maxHeartbeats 4000000 in
theorem m_X1_knows {hs : Nat → HV} {tp md : HV} {E : HE} {j : Nat} {h : HV} (hE : HI E) (hj : j < 7) (hh : hs j = h) {K : Int} (R : RG K h) {b : Int} (b0 : IR b) : Mt yX1_knows cX1_knows 2 (some .boolean) 1 E [.ref (hA E j 3), vI b] hs tp md (some (vI (bI (0 ≤ b ∧ b < h 3 7)))) hs tp md := by
  refine mk_Mt hE (plainFor_of_name (by decide)) (Nat.le_of_ble_eq_true rfl) (by intro w0 hw0; simp only [List.mem_cons, List.not_mem_nil, or_false] at hw0; rcases hw0 with rfl | rfl <;> rfl) (rfl : _ = [_, _]) ?_
  intro F C D
  refine x_iload_n C dX1_knows_0 rfl ?_
  refine x_if_lt 16 C dX1_knows_1 (by decide) ⟨by omega, by omega⟩ (fun c_1 => ?_) (fun c_1 => ?_)
  · refine x_const C dX1_knows_16 ?_
    exact x_iret C D nar_b dX1_knows_17 (e0_bI (by omega)) rfl rfl rfl
  · refine x_iload_n C dX1_knows_4 rfl ?_
    refine x_aload_n C dX1_knows_5 rfl ?_
    refine gh_3_7 C hj hh q_77 dX1_knows_6 rfl ?_
    have r_2 := RG.made R
    refine x_icmp_ge 16 C dX1_knows_9 (by decide) ⟨by omega, by omega⟩ ⟨by omega, by omega⟩ (fun c_3 => ?_) (fun c_3 => ?_)
    · refine x_const C dX1_knows_16 ?_
      exact x_iret C D nar_b dX1_knows_17 (e0_bI (by omega)) rfl rfl rfl
    · refine x_const C dX1_knows_12 ?_
      refine x_goto 17 C dX1_knows_13 (by decide) ?_
      exact x_iret C D nar_b dX1_knows_17 (e1_bI (by omega)) rfl rfl rfl
set_option maxRecDepth 100000 in
set_option maxHeartbeats 4000000 in
theorem m_X1_end {hs : Nat → HV} {tp md : HV} {E : HE} {j : Nat} {h : HV} (hE : HI E) (hj : j < 7) (hh : hs j = h) {b : Int} (b0 : 0 ≤ b) (b1 : b < 80) : Mt yX1_end cX1_end 2 (some .int) 1 E [.ref (hA E j 3), vI b] hs tp md (some (vI (h 5 b + h 6 b))) hs tp md := by
  refine mk_Mt hE (plainFor_of_name (by decide)) (Nat.le_of_ble_eq_true rfl) (by intro w0 hw0; simp only [List.mem_cons, List.not_mem_nil, or_false] at hw0; rcases hw0 with rfl | rfl <;> rfl) (rfl : _ = [_, _]) ?_
  intro F C D
  refine x_aload_n C dX1_end_0 rfl ?_
  refine gh_3_1 C hj hh q_59 dX1_end_1 ?_
  refine x_iload_n C dX1_end_4 rfl ?_
  refine lh_5 C hj hh (by omega) (by omega) dX1_end_5 rfl ?_
  refine x_aload_n C dX1_end_6 rfl ?_
  refine gh_3_2 C hj hh q_62 dX1_end_7 ?_
  refine x_iload_n C dX1_end_10 rfl ?_
  refine lh_6 C hj hh (by omega) (by omega) dX1_end_11 rfl ?_
  refine x_iadd C dX1_end_12 ?_
  exact x_iret C D rfl dX1_end_13 rfl rfl rfl rfl
set_option maxRecDepth 100000 in
set_option maxHeartbeats 4000000 in
theorem m_X1_holdsBeds {hs : Nat → HV} {tp md : HV} {E : HE} {j : Nat} {h : HV} (hE : HI E) (hj : j < 7) (hh : hs j = h) {K : Int} (R : RG K h) {b : Int} (b0 : 0 ≤ b) (b1 : b < 80) : Mt yX1_holdsBeds cX1_holdsBeds 2 (some .boolean) 1 E [.ref (hA E j 3), vI b] hs tp md (some (vI (bI (gHold h b)))) hs tp md := by
  refine mk_Mt hE (plainFor_of_name (by decide)) (Nat.le_of_ble_eq_true rfl) (by intro w0 hw0; simp only [List.mem_cons, List.not_mem_nil, or_false] at hw0; rcases hw0 with rfl | rfl <;> rfl) (rfl : _ = [_, _]) ?_
  intro F C D
  refine x_aload_n C dX1_holdsBeds_0 rfl ?_
  refine gh_3_0 C hj hh q_56 dX1_holdsBeds_1 ?_
  refine x_iload_n C dX1_holdsBeds_4 rfl ?_
  refine lh_4 C hj hh (by omega) (by omega) dX1_holdsBeds_5 rfl ?_
  have r_1 := RG.how R (b := b) (by omega) (by omega)
  refine x_if_eq 19 C dX1_holdsBeds_6 (by decide) ⟨by omega, by omega⟩ (fun c_2 => ?_) (fun c_2 => ?_)
  · refine x_const C dX1_holdsBeds_19 ?_
    refine x_goto 24 C dX1_holdsBeds_20 (by decide) ?_
    exact x_iret C D nar_b dX1_holdsBeds_24 (e1_bI (by omega)) rfl rfl rfl
  · refine x_aload_n C dX1_holdsBeds_9 rfl ?_
    refine gh_3_0 C hj hh q_56 dX1_holdsBeds_10 ?_
    refine x_iload_n C dX1_holdsBeds_13 rfl ?_
    refine lh_4 C hj hh (by omega) (by omega) dX1_holdsBeds_14 rfl ?_
    have r_3 := RG.how R (b := b) (by omega) (by omega)
    refine x_const C dX1_holdsBeds_15 ?_
    refine x_icmp_ne 23 C dX1_holdsBeds_16 (by decide) ⟨by omega, by omega⟩ ⟨by omega, by omega⟩ (fun c_4 => ?_) (fun c_4 => ?_)
    · refine x_const C dX1_holdsBeds_23 ?_
      exact x_iret C D nar_b dX1_holdsBeds_24 (e0_bI (by omega)) rfl rfl rfl
    · refine x_const C dX1_holdsBeds_19 ?_
      refine x_goto 24 C dX1_holdsBeds_20 (by decide) ?_
      exact x_iret C D nar_b dX1_holdsBeds_24 (e1_bI (by omega)) rfl rfl rfl
set_option maxRecDepth 100000 in
set_option maxHeartbeats 4000000 in
theorem m_X1_isOver {hs : Nat → HV} {tp md : HV} {E : HE} {j : Nat} {h : HV} (hE : HI E) (hj : j < 7) (hh : hs j = h) {K : Int} (R : RG K h) {b : Int} (b0 : 0 ≤ b) (b1 : b < 80) {t : Int} (t0 : IR t) : Mt yX1_isOver cX1_isOver 3 (some .boolean) 2 E [.ref (hA E j 3), vI b, vI t] hs tp md (some (vI (bI (gOver h b t)))) hs tp md := by
  refine mk_Mt hE (plainFor_of_name (by decide)) (Nat.le_of_ble_eq_true rfl) (by intro w0 hw0; simp only [List.mem_cons, List.not_mem_nil, or_false] at hw0; rcases hw0 with rfl | rfl | rfl <;> rfl) (rfl : _ = [_, _, _]) ?_
  intro F C D
  have ra := RG.arr R b0 b1
  have rn := RG.nig R b0 b1
  refine x_aload_n C dX1_isOver_0 rfl ?_
  refine gh_3_0 C hj hh q_56 dX1_isOver_1 ?_
  refine x_iload_n C dX1_isOver_4 rfl ?_
  refine lh_4 C hj hh (by omega) (by omega) dX1_isOver_5 rfl ?_
  have r_1 := RG.how R (b := b) (by omega) (by omega)
  refine x_const C dX1_isOver_6 ?_
  refine x_icmp_ne 23 C dX1_isOver_7 (by decide) ⟨by omega, by omega⟩ ⟨by omega, by omega⟩ (fun c_2 => ?_) (fun c_2 => ?_)
  · refine x_const C dX1_isOver_23 ?_
    exact x_iret C D nar_b dX1_isOver_24 (e0_bI (by omega)) rfl rfl rfl
  · refine x_aload_n C dX1_isOver_10 rfl ?_
    refine x_iload_n C dX1_isOver_11 rfl ?_
    refine x_callV (nA := 1) (As := [vI b]) (rest := []) C (m_X1_end hE hj hh (by omega) (by omega)) q_350 q_339 q_340 q_24 q_341 (by decide +kernel) (wl_h hj hh 3 (by decide)) rfl rfl (by decide) (by decide) (Nat.le_of_ble_eq_true rfl) dX1_isOver_12 rfl ?_
    refine x_iload_n C dX1_isOver_15 rfl ?_
    refine x_icmp_gt 23 C dX1_isOver_16 (by decide) ⟨by omega, by omega⟩ ⟨by omega, by omega⟩ (fun c_3 => ?_) (fun c_3 => ?_)
    · refine x_const C dX1_isOver_23 ?_
      exact x_iret C D nar_b dX1_isOver_24 (e0_bI (by omega)) rfl rfl rfl
    · refine x_const C dX1_isOver_19 ?_
      refine x_goto 24 C dX1_isOver_20 (by decide) ?_
      exact x_iret C D nar_b dX1_isOver_24 (e1_bI (by omega)) rfl rfl rfl
set_option maxRecDepth 100000 in
set_option maxHeartbeats 4000000 in
theorem m_X1_howMany {hs : Nat → HV} {tp md : HV} {E : HE} {j : Nat} {h : HV} (hE : HI E) (hj : j < 7) (hh : hs j = h) {K : Int} (R : RG K h) {w : Int} (w0 : IR w) : Mt yX1_howMany cX1_howMany 4 (some .int) 1 E [.ref (hA E j 3), vI w] hs tp md (some (vI (sumI (gMany h w) (h 3 7)))) hs tp md := by
  refine mk_Mt hE (plainFor_of_name (by decide)) (Nat.le_of_ble_eq_true rfl) (by intro w0 hw0; simp only [List.mem_cons, List.not_mem_nil, or_false] at hw0; rcases hw0 with rfl | rfl <;> rfl) (rfl : _ = [_, _, _, _]) ?_
  intro F C D
  have rm := RG.made R
  refine x_const C dX1_howMany_0 ?_
  refine x_istore_n C dX1_howMany_1 (by decide) (rfl : _ = [_, _, _, _]) ?_
  refine x_const C dX1_howMany_2 ?_
  refine x_istore_n C dX1_howMany_3 (by decide) (rfl : _ = [_, _, _, _]) ?_
  have K4 : ∀ (nn : Nat) (i : Int), 0 ≤ i → i ≤ h 3 7 → h 3 7 - i < nn →  G F E hs tp md 4 [some (.ref (hA E j 3)), some (vI w), some (vI (sumI (gMany h w) i)), some (vI i)] [] := by
    intro nn
    induction nn with
    | zero => intro i i0 i1 hz; exact absurd hz (by omega)
    | succ nn ih =>
      intro i i0 i1 hz
      refine x_iload_n C dX1_howMany_4 rfl ?_
      refine x_aload_n C dX1_howMany_5 rfl ?_
      refine gh_3_7 C hj hh q_77 dX1_howMany_6 rfl ?_
      have r_1 := RG.made R
      refine x_icmp_ge 31 C dX1_howMany_9 (by decide) ⟨by omega, by omega⟩ ⟨by omega, by omega⟩ (fun c_2 => ?_) (fun c_2 => ?_)
      · refine x_iload_n C dX1_howMany_31 rfl ?_
        exact x_iret C D rfl dX1_howMany_32 (by rw [show i = h 3 7 by omega]) rfl rfl rfl
      · refine x_aload_n C dX1_howMany_12 rfl ?_
        refine gh_3_0 C hj hh q_56 dX1_howMany_13 ?_
        refine x_iload_n C dX1_howMany_16 rfl ?_
        refine lh_4 C hj hh (by omega) (by omega) dX1_howMany_17 rfl ?_
        have r_3 := RG.how R (b := i) (by omega) (by omega)
        refine x_iload_n C dX1_howMany_18 rfl ?_
        refine x_icmp_ne 25 C dX1_howMany_19 (by decide) ⟨by omega, by omega⟩ ⟨by omega, by omega⟩ (fun c_4 => ?_) (fun c_4 => ?_)
        · refine x_iinc C dX1_howMany_25 rfl (by decide) (rfl : _ = [_, _, _, _]) ?_
          refine x_goto 4 C dX1_howMany_28 (by decide) ?_
          refine G.wk (ih (i + 1) (by omega) (by omega) (by omega)) ?_
          simp [leL, sumI_s i0, gMany, c_2, c_4]
        · refine x_iinc C dX1_howMany_22 rfl (by decide) (rfl : _ = [_, _, _, _]) ?_
          refine x_iinc C dX1_howMany_25 rfl (by decide) (rfl : _ = [_, _, _, _]) ?_
          refine x_goto 4 C dX1_howMany_28 (by decide) ?_
          refine G.wk (ih (i + 1) (by omega) (by omega) (by omega)) ?_
          simp [leL, sumI_s i0, gMany, c_2, c_4]
  exact K4 ((h 3 7 : Int) + 1).toNat 0 (by omega) (by omega) (by omega)
set_option maxRecDepth 100000 in
set_option maxHeartbeats 4000000 in
theorem m_X1_personsThere {hs : Nat → HV} {tp md : HV} {E : HE} {j : Nat} {h : HV} (hE : HI E) (hj : j < 7) (hh : hs j = h) {K : Int} (R : RG K h) : Mt yX1_personsThere cX1_personsThere 3 (some .int) 1 E [.ref (hA E j 3)] hs tp md (some (vI (nThere h))) hs tp md := by
  refine mk_Mt hE (plainFor_of_name (by decide)) (Nat.le_of_ble_eq_true rfl) (by intro w0 hw0; simp only [List.mem_cons, List.not_mem_nil, or_false] at hw0; rcases hw0 with rfl <;> rfl) (rfl : _ = [_, _, _]) ?_
  intro F C D
  have rm := RG.made R
  refine x_const C dX1_personsThere_0 ?_
  refine x_istore_n C dX1_personsThere_1 (by decide) (rfl : _ = [_, _, _]) ?_
  refine x_const C dX1_personsThere_2 ?_
  refine x_istore_n C dX1_personsThere_3 (by decide) (rfl : _ = [_, _, _]) ?_
  have K4 : ∀ (nn : Nat) (i : Int), 0 ≤ i → i ≤ h 3 7 → h 3 7 - i < nn →  G F E hs tp md 4 [some (.ref (hA E j 3)), some (vI (sumI (gThere h) i)), some (vI i)] [] := by
    intro nn
    induction nn with
    | zero => intro i i0 i1 hz; exact absurd hz (by omega)
    | succ nn ih =>
      intro i i0 i1 hz
      refine x_iload_n C dX1_personsThere_4 rfl ?_
      refine x_aload_n C dX1_personsThere_5 rfl ?_
      refine gh_3_7 C hj hh q_77 dX1_personsThere_6 rfl ?_
      have r_1 := RG.made R
      refine x_icmp_ge 37 C dX1_personsThere_9 (by decide) ⟨by omega, by omega⟩ ⟨by omega, by omega⟩ (fun c_2 => ?_) (fun c_2 => ?_)
      · refine x_iload_n C dX1_personsThere_37 rfl ?_
        exact x_iret C D rfl dX1_personsThere_38 (by rw [show i = h 3 7 by omega]) rfl rfl rfl
      · refine x_aload_n C dX1_personsThere_12 rfl ?_
        refine gh_3_0 C hj hh q_56 dX1_personsThere_13 ?_
        refine x_iload_n C dX1_personsThere_16 rfl ?_
        refine lh_4 C hj hh (by omega) (by omega) dX1_personsThere_17 rfl ?_
        have r_3 := RG.how R (b := i) (by omega) (by omega)
        refine x_const C dX1_personsThere_18 ?_
        refine x_icmp_ne 31 C dX1_personsThere_19 (by decide) ⟨by omega, by omega⟩ ⟨by omega, by omega⟩ (fun c_4 => ?_) (fun c_4 => ?_)
        · refine x_iinc C dX1_personsThere_31 rfl (by decide) (rfl : _ = [_, _, _]) ?_
          refine x_goto 4 C dX1_personsThere_34 (by decide) ?_
          refine G.wk (ih (i + 1) (by omega) (by omega) (by omega)) ?_
          simp [leL, sumI_s i0, gThere, c_2, c_4]
        · refine x_iload_n C dX1_personsThere_22 rfl ?_
          refine x_aload_n C dX1_personsThere_23 rfl ?_
          refine gh_3_3 C hj hh q_65 dX1_personsThere_24 ?_
          refine x_iload_n C dX1_personsThere_27 rfl ?_
          refine lh_7 C hj hh (by omega) (by omega) dX1_personsThere_28 rfl ?_
          have r_5 := RG.per R (b := i) (by omega) (by omega)
          refine x_iadd C dX1_personsThere_29 ?_
          refine x_istore_n C dX1_personsThere_30 (by decide) (rfl : _ = [_, _, _]) ?_
          refine x_iinc C dX1_personsThere_31 rfl (by decide) (rfl : _ = [_, _, _]) ?_
          refine x_goto 4 C dX1_personsThere_34 (by decide) ?_
          refine G.wk (ih (i + 1) (by omega) (by omega) (by omega)) ?_
          simp [leL, sumI_s i0, gThere, c_2, c_4]
  exact K4 ((h 3 7 : Int) + 1).toNat 0 (by omega) (by omega) (by omega)
set_option maxRecDepth 100000 in
set_option maxHeartbeats 4000000 in
theorem m_X1_depositsHeld {hs : Nat → HV} {tp md : HV} {E : HE} {j : Nat} {h : HV} (hE : HI E) (hj : j < 7) (hh : hs j = h) {K : Int} (R : RG K h) : Mt yX1_depositsHeld cX1_depositsHeld 3 (some .int) 2 E [.ref (hA E j 3)] hs tp md (some (vI (sumI (gHeld h) (h 3 7)))) hs tp md := by
  refine mk_Mt hE (plainFor_of_name (by decide)) (Nat.le_of_ble_eq_true rfl) (by intro w0 hw0; simp only [List.mem_cons, List.not_mem_nil, or_false] at hw0; rcases hw0 with rfl <;> rfl) (rfl : _ = [_, _, _]) ?_
  intro F C D
  have rm := RG.made R
  refine x_const C dX1_depositsHeld_0 ?_
  refine x_istore_n C dX1_depositsHeld_1 (by decide) (rfl : _ = [_, _, _]) ?_
  refine x_const C dX1_depositsHeld_2 ?_
  refine x_istore_n C dX1_depositsHeld_3 (by decide) (rfl : _ = [_, _, _]) ?_
  have K4 : ∀ (nn : Nat) (i : Int), 0 ≤ i → i ≤ h 3 7 → h 3 7 - i < nn →  G F E hs tp md 4 [some (.ref (hA E j 3)), some (vI (sumI (gHeld h) i)), some (vI i)] [] := by
    intro nn
    induction nn with
    | zero => intro i i0 i1 hz; exact absurd hz (by omega)
    | succ nn ih =>
      intro i i0 i1 hz
      refine x_iload_n C dX1_depositsHeld_4 rfl ?_
      refine x_aload_n C dX1_depositsHeld_5 rfl ?_
      refine gh_3_7 C hj hh q_77 dX1_depositsHeld_6 rfl ?_
      have r_1 := RG.made R
      refine x_icmp_ge 35 C dX1_depositsHeld_9 (by decide) ⟨by omega, by omega⟩ ⟨by omega, by omega⟩ (fun c_2 => ?_) (fun c_2 => ?_)
      · refine x_iload_n C dX1_depositsHeld_35 rfl ?_
        exact x_iret C D rfl dX1_depositsHeld_36 (by rw [show i = h 3 7 by omega]) rfl rfl rfl
      · refine x_aload_n C dX1_depositsHeld_12 rfl ?_
        refine x_iload_n C dX1_depositsHeld_13 rfl ?_
        refine x_callV (nA := 1) (As := [vI i]) (rest := []) C (m_X1_holdsBeds hE hj hh R (by omega) (by omega)) q_325 q_326 q_327 q_24 q_328 (by decide +kernel) (wl_h hj hh 3 (by decide)) rfl rfl (by decide) (by decide) (Nat.le_of_ble_eq_true rfl) dX1_depositsHeld_14 rfl ?_
        refine x_bz_eq 29 C dX1_depositsHeld_17 (by decide) (fun c_3 => ?_) (fun c_3 => ?_)
        · refine x_iinc C dX1_depositsHeld_29 rfl (by decide) (rfl : _ = [_, _, _]) ?_
          refine x_goto 4 C dX1_depositsHeld_32 (by decide) ?_
          refine G.wk (ih (i + 1) (by omega) (by omega) (by omega)) ?_
          simp [leL, sumI_s i0, gHeld, gHold, c_2, c_3]
        · refine x_iload_n C dX1_depositsHeld_20 rfl ?_
          refine x_aload_n C dX1_depositsHeld_21 rfl ?_
          refine gh_3_5 C hj hh q_71 dX1_depositsHeld_22 ?_
          refine x_iload_n C dX1_depositsHeld_25 rfl ?_
          refine lh_9 C hj hh (by omega) (by omega) dX1_depositsHeld_26 rfl ?_
          refine x_iadd C dX1_depositsHeld_27 ?_
          refine x_istore_n C dX1_depositsHeld_28 (by decide) (rfl : _ = [_, _, _]) ?_
          refine x_iinc C dX1_depositsHeld_29 rfl (by decide) (rfl : _ = [_, _, _]) ?_
          refine x_goto 4 C dX1_depositsHeld_32 (by decide) ?_
          refine G.wk (ih (i + 1) (by omega) (by omega) (by omega)) ?_
          simp [leL, sumI_s i0, gHeld, gHold, c_2, c_3]
  exact K4 ((h 3 7 : Int) + 1).toNat 0 (by omega) (by omega) (by omega)
set_option maxRecDepth 100000 in
set_option maxHeartbeats 4000000 in
theorem m_X1_arrivingOn {hs : Nat → HV} {tp md : HV} {E : HE} {j : Nat} {h : HV} (hE : HI E) (hj : j < 7) (hh : hs j = h) {K : Int} (R : RG K h) {d : Int} (d0 : IR d) : Mt yX1_arrivingOn cX1_arrivingOn 4 (some .int) 1 E [.ref (hA E j 3), vI d] hs tp md (some (vI (sumI (gArr h d) (h 3 7)))) hs tp md := by
  refine mk_Mt hE (plainFor_of_name (by decide)) (Nat.le_of_ble_eq_true rfl) (by intro w0 hw0; simp only [List.mem_cons, List.not_mem_nil, or_false] at hw0; rcases hw0 with rfl | rfl <;> rfl) (rfl : _ = [_, _, _, _]) ?_
  intro F C D
  have rm := RG.made R
  refine x_const C dX1_arrivingOn_0 ?_
  refine x_istore_n C dX1_arrivingOn_1 (by decide) (rfl : _ = [_, _, _, _]) ?_
  refine x_const C dX1_arrivingOn_2 ?_
  refine x_istore_n C dX1_arrivingOn_3 (by decide) (rfl : _ = [_, _, _, _]) ?_
  have K4 : ∀ (nn : Nat) (i : Int), 0 ≤ i → i ≤ h 3 7 → h 3 7 - i < nn →  G F E hs tp md 4 [some (.ref (hA E j 3)), some (vI d), some (vI (sumI (gArr h d) i)), some (vI i)] [] := by
    intro nn
    induction nn with
    | zero => intro i i0 i1 hz; exact absurd hz (by omega)
    | succ nn ih =>
      intro i i0 i1 hz
      refine x_iload_n C dX1_arrivingOn_4 rfl ?_
      refine x_aload_n C dX1_arrivingOn_5 rfl ?_
      refine gh_3_7 C hj hh q_77 dX1_arrivingOn_6 rfl ?_
      have r_1 := RG.made R
      refine x_icmp_ge 40 C dX1_arrivingOn_9 (by decide) ⟨by omega, by omega⟩ ⟨by omega, by omega⟩ (fun c_2 => ?_) (fun c_2 => ?_)
      · refine x_iload_n C dX1_arrivingOn_40 rfl ?_
        exact x_iret C D rfl dX1_arrivingOn_41 (by rw [show i = h 3 7 by omega]) rfl rfl rfl
      · refine x_aload_n C dX1_arrivingOn_12 rfl ?_
        refine gh_3_0 C hj hh q_56 dX1_arrivingOn_13 ?_
        refine x_iload_n C dX1_arrivingOn_16 rfl ?_
        refine lh_4 C hj hh (by omega) (by omega) dX1_arrivingOn_17 rfl ?_
        have r_3 := RG.how R (b := i) (by omega) (by omega)
        refine x_if_ne 34 C dX1_arrivingOn_18 (by decide) ⟨by omega, by omega⟩ (fun c_4 => ?_) (fun c_4 => ?_)
        · refine x_iinc C dX1_arrivingOn_34 rfl (by decide) (rfl : _ = [_, _, _, _]) ?_
          refine x_goto 4 C dX1_arrivingOn_37 (by decide) ?_
          refine G.wk (ih (i + 1) (by omega) (by omega) (by omega)) ?_
          simp [leL, sumI_s i0, gArr, c_2, c_4]
        · refine x_aload_n C dX1_arrivingOn_21 rfl ?_
          refine gh_3_1 C hj hh q_59 dX1_arrivingOn_22 ?_
          refine x_iload_n C dX1_arrivingOn_25 rfl ?_
          refine lh_5 C hj hh (by omega) (by omega) dX1_arrivingOn_26 rfl ?_
          have r_5 := RG.arr R (b := i) (by omega) (by omega)
          refine x_iload_n C dX1_arrivingOn_27 rfl ?_
          refine x_icmp_ne 34 C dX1_arrivingOn_28 (by decide) ⟨by omega, by omega⟩ ⟨by omega, by omega⟩ (fun c_6 => ?_) (fun c_6 => ?_)
          · refine x_iinc C dX1_arrivingOn_34 rfl (by decide) (rfl : _ = [_, _, _, _]) ?_
            refine x_goto 4 C dX1_arrivingOn_37 (by decide) ?_
            refine G.wk (ih (i + 1) (by omega) (by omega) (by omega)) ?_
            simp [leL, sumI_s i0, gArr, c_2, c_4, c_6]
          · refine x_iinc C dX1_arrivingOn_31 rfl (by decide) (rfl : _ = [_, _, _, _]) ?_
            refine x_iinc C dX1_arrivingOn_34 rfl (by decide) (rfl : _ = [_, _, _, _]) ?_
            refine x_goto 4 C dX1_arrivingOn_37 (by decide) ?_
            refine G.wk (ih (i + 1) (by omega) (by omega) (by omega)) ?_
            simp [leL, sumI_s i0, gArr, c_2, c_4, c_6]
  exact K4 ((h 3 7 : Int) + 1).toNat 0 (by omega) (by omega) (by omega)
set_option maxRecDepth 100000 in
set_option maxHeartbeats 4000000 in
theorem m_X1_endingOn {hs : Nat → HV} {tp md : HV} {E : HE} {j : Nat} {h : HV} (hE : HI E) (hj : j < 7) (hh : hs j = h) {K : Int} (R : RG K h) {d : Int} (d0 : IR d) : Mt yX1_endingOn cX1_endingOn 4 (some .int) 2 E [.ref (hA E j 3), vI d] hs tp md (some (vI (sumI (gEnds h d) (h 3 7)))) hs tp md := by
  refine mk_Mt hE (plainFor_of_name (by decide)) (Nat.le_of_ble_eq_true rfl) (by intro w0 hw0; simp only [List.mem_cons, List.not_mem_nil, or_false] at hw0; rcases hw0 with rfl | rfl <;> rfl) (rfl : _ = [_, _, _, _]) ?_
  intro F C D
  have rm := RG.made R
  refine x_const C dX1_endingOn_0 ?_
  refine x_istore_n C dX1_endingOn_1 (by decide) (rfl : _ = [_, _, _, _]) ?_
  refine x_const C dX1_endingOn_2 ?_
  refine x_istore_n C dX1_endingOn_3 (by decide) (rfl : _ = [_, _, _, _]) ?_
  have K4 : ∀ (nn : Nat) (i : Int), 0 ≤ i → i ≤ h 3 7 → h 3 7 - i < nn →  G F E hs tp md 4 [some (.ref (hA E j 3)), some (vI d), some (vI (sumI (gEnds h d) i)), some (vI i)] [] := by
    intro nn
    induction nn with
    | zero => intro i i0 i1 hz; exact absurd hz (by omega)
    | succ nn ih =>
      intro i i0 i1 hz
      refine x_iload_n C dX1_endingOn_4 rfl ?_
      refine x_aload_n C dX1_endingOn_5 rfl ?_
      refine gh_3_7 C hj hh q_77 dX1_endingOn_6 rfl ?_
      have r_1 := RG.made R
      refine x_icmp_ge 38 C dX1_endingOn_9 (by decide) ⟨by omega, by omega⟩ ⟨by omega, by omega⟩ (fun c_2 => ?_) (fun c_2 => ?_)
      · refine x_iload_n C dX1_endingOn_38 rfl ?_
        exact x_iret C D rfl dX1_endingOn_39 (by rw [show i = h 3 7 by omega]) rfl rfl rfl
      · refine x_aload_n C dX1_endingOn_12 rfl ?_
        refine x_iload_n C dX1_endingOn_13 rfl ?_
        refine x_callV (nA := 1) (As := [vI i]) (rest := []) C (m_X1_holdsBeds hE hj hh R (by omega) (by omega)) q_325 q_326 q_327 q_24 q_328 (by decide +kernel) (wl_h hj hh 3 (by decide)) rfl rfl (by decide) (by decide) (Nat.le_of_ble_eq_true rfl) dX1_endingOn_14 rfl ?_
        refine x_bz_eq 32 C dX1_endingOn_17 (by decide) (fun c_3 => ?_) (fun c_3 => ?_)
        · refine x_iinc C dX1_endingOn_32 rfl (by decide) (rfl : _ = [_, _, _, _]) ?_
          refine x_goto 4 C dX1_endingOn_35 (by decide) ?_
          refine G.wk (ih (i + 1) (by omega) (by omega) (by omega)) ?_
          simp [leL, sumI_s i0, gEnds, gHold, gEnd, c_2, c_3]
        · refine x_aload_n C dX1_endingOn_20 rfl ?_
          refine x_iload_n C dX1_endingOn_21 rfl ?_
          have ra := RG.arr R i0 (by omega)
          have rn := RG.nig R i0 (by omega)
          refine x_callV (nA := 1) (As := [vI i]) (rest := []) C (m_X1_end hE hj hh (by omega) (by omega)) q_350 q_339 q_340 q_24 q_341 (by decide +kernel) (wl_h hj hh 3 (by decide)) rfl rfl (by decide) (by decide) (Nat.le_of_ble_eq_true rfl) dX1_endingOn_22 rfl ?_
          refine x_iload_n C dX1_endingOn_25 rfl ?_
          refine x_icmp_ne 32 C dX1_endingOn_26 (by decide) ⟨by omega, by omega⟩ ⟨by omega, by omega⟩ (fun c_4 => ?_) (fun c_4 => ?_)
          · refine x_iinc C dX1_endingOn_32 rfl (by decide) (rfl : _ = [_, _, _, _]) ?_
            refine x_goto 4 C dX1_endingOn_35 (by decide) ?_
            refine G.wk (ih (i + 1) (by omega) (by omega) (by omega)) ?_
            simp [leL, sumI_s i0, gEnds, gHold, gEnd, c_2, c_3, c_4]
          · refine x_iinc C dX1_endingOn_29 rfl (by decide) (rfl : _ = [_, _, _, _]) ?_
            refine x_iinc C dX1_endingOn_32 rfl (by decide) (rfl : _ = [_, _, _, _]) ?_
            refine x_goto 4 C dX1_endingOn_35 (by decide) ?_
            refine G.wk (ih (i + 1) (by omega) (by omega) (by omega)) ?_
            simp [leL, sumI_s i0, gEnds, gHold, gEnd, c_2, c_3, c_4]
  exact K4 ((h 3 7 : Int) + 1).toNat 0 (by omega) (by omega) (by omega)
set_option maxRecDepth 100000 in
set_option maxHeartbeats 4000000 in
theorem m_X1_bedsTakenFrom {hs : Nat → HV} {tp md : HV} {E : HE} {j : Nat} {h : HV} (hE : HI E) (hj : j < 7) (hh : hs j = h) {K : Int} (R : RG K h) {x y : Int} (x0 : -100000 ≤ x ∧ x ≤ 100000) (y0 : -100000 ≤ y ∧ y ≤ 100000) : Mt yX1_bedsTakenFrom cX1_bedsTakenFrom 6 (some .int) 2 E [.ref (hA E j 3), vI x, vI y] hs tp md (some (vI (nBeds h x y))) hs tp md := by
  refine mk_Mt hE (plainFor_of_name (by decide)) (Nat.le_of_ble_eq_true rfl) (by intro w0 hw0; simp only [List.mem_cons, List.not_mem_nil, or_false] at hw0; rcases hw0 with rfl | rfl | rfl <;> rfl) (rfl : _ = [_, _, _, _, _, _]) ?_
  intro F C D
  have rm := RG.made R
  refine x_const C dX1_bedsTakenFrom_0 ?_
  refine x_istore_n C dX1_bedsTakenFrom_1 (by decide) (rfl : _ = [_, _, _, _, _, _]) ?_
  refine x_const C dX1_bedsTakenFrom_2 ?_
  refine x_istore C dX1_bedsTakenFrom_3 (by decide) (rfl : _ = [_, _, _, _, _, _]) ?_
  have K5 : ∀ (nn : Nat) (i : Int), 0 ≤ i → i ≤ h 3 7 → h 3 7 - i < nn →  G F E hs tp md 5 [some (.ref (hA E j 3)), some (vI x), some (vI y), some (vI (sumI (gBeds h x y) i)), some (vI i), none] [] := by
    intro nn
    induction nn with
    | zero => intro i i0 i1 hz; exact absurd hz (by omega)
    | succ nn ih =>
      intro i i0 i1 hz
      refine x_iload C dX1_bedsTakenFrom_5 rfl ?_
      refine x_aload_n C dX1_bedsTakenFrom_7 rfl ?_
      refine gh_3_7 C hj hh q_77 dX1_bedsTakenFrom_8 rfl ?_
      have r_1 := RG.made R
      refine x_icmp_ge 73 C dX1_bedsTakenFrom_11 (by decide) ⟨by omega, by omega⟩ ⟨by omega, by omega⟩ (fun c_2 => ?_) (fun c_2 => ?_)
      · refine x_iload_n C dX1_bedsTakenFrom_73 rfl ?_
        exact x_iret C D rfl dX1_bedsTakenFrom_74 (by rw [show i = h 3 7 by omega]) rfl rfl rfl
      · refine x_aload_n C dX1_bedsTakenFrom_14 rfl ?_
        refine x_iload C dX1_bedsTakenFrom_15 rfl ?_
        have ra := RG.arr R i0 (by omega)
        have rn := RG.nig R i0 (by omega)
        refine x_callV (nA := 1) (As := [vI i]) (rest := []) C (m_X1_end hE hj hh (by omega) (by omega)) q_350 q_339 q_340 q_24 q_341 (by decide +kernel) (wl_h hj hh 3 (by decide)) rfl rfl (by decide) (by decide) (Nat.le_of_ble_eq_true rfl) dX1_bedsTakenFrom_17 rfl ?_
        refine x_iload_n C dX1_bedsTakenFrom_20 rfl ?_
        refine x_const C dX1_bedsTakenFrom_21 ?_
        refine x_iadd C dX1_bedsTakenFrom_22 ?_
        refine x_min C q_395 q_396 q_29 q_397 (by decide) (Nat.le_of_ble_eq_true rfl) ⟨by omega, by omega⟩ ⟨by omega, by omega⟩ dX1_bedsTakenFrom_23 ?_
        refine x_aload_n C dX1_bedsTakenFrom_26 rfl ?_
        refine gh_3_1 C hj hh q_59 dX1_bedsTakenFrom_27 ?_
        refine x_iload C dX1_bedsTakenFrom_30 rfl ?_
        refine lh_5 C hj hh (by omega) (by omega) dX1_bedsTakenFrom_32 rfl ?_
        have r_3 := RG.arr R (b := i) (by omega) (by omega)
        refine x_iload_n C dX1_bedsTakenFrom_33 rfl ?_
        refine x_max C q_398 q_295 q_29 q_296 (by decide) (Nat.le_of_ble_eq_true rfl) ⟨by omega, by omega⟩ ⟨by omega, by omega⟩ dX1_bedsTakenFrom_34 ?_
        refine x_isub C dX1_bedsTakenFrom_37 ?_
        refine x_istore C dX1_bedsTakenFrom_38 (by decide) (rfl : _ = [_, _, _, _, _, _]) ?_
        refine x_aload_n C dX1_bedsTakenFrom_40 rfl ?_
        refine x_iload C dX1_bedsTakenFrom_41 rfl ?_
        refine x_callV (nA := 1) (As := [vI i]) (rest := []) C (m_X1_holdsBeds hE hj hh R (by omega) (by omega)) q_325 q_326 q_327 q_24 q_328 (by decide +kernel) (wl_h hj hh 3 (by decide)) rfl rfl (by decide) (by decide) (Nat.le_of_ble_eq_true rfl) dX1_bedsTakenFrom_43 rfl ?_
        refine x_bz_eq 67 C dX1_bedsTakenFrom_46 (by decide) (fun c_4 => ?_) (fun c_4 => ?_)
        · refine x_iinc C dX1_bedsTakenFrom_67 rfl (by decide) (rfl : _ = [_, _, _, _, _, _]) ?_
          refine x_goto 5 C dX1_bedsTakenFrom_70 (by decide) ?_
          refine G.wk (ih (i + 1) (by omega) (by omega) (by omega)) ?_
          have e9 : gBeds h x y i = (0 : Int) := if_neg (fun q => absurd q.1 c_4)
          simp only [leL, sumI_s i0, e9, Int.add_zero, and_self]
        · refine x_iload C dX1_bedsTakenFrom_49 rfl ?_
          refine x_if_le 67 C dX1_bedsTakenFrom_51 (by decide) ⟨by split <;> split <;> omega, by split <;> split <;> omega⟩ (fun c_5 => ?_) (fun c_5 => ?_)
          · refine x_iinc C dX1_bedsTakenFrom_67 rfl (by decide) (rfl : _ = [_, _, _, _, _, _]) ?_
            refine x_goto 5 C dX1_bedsTakenFrom_70 (by decide) ?_
            refine G.wk (ih (i + 1) (by omega) (by omega) (by omega)) ?_
            have e9 : gBeds h x y i = (0 : Int) := if_neg (fun q => absurd q.2 (Int.not_lt.mpr c_5))
            simp only [leL, sumI_s i0, e9, Int.add_zero, and_self]
          · refine x_iload_n C dX1_bedsTakenFrom_54 rfl ?_
            refine x_iload C dX1_bedsTakenFrom_55 rfl ?_
            refine x_aload_n C dX1_bedsTakenFrom_57 rfl ?_
            refine gh_3_3 C hj hh q_65 dX1_bedsTakenFrom_58 ?_
            refine x_iload C dX1_bedsTakenFrom_61 rfl ?_
            refine lh_7 C hj hh (by omega) (by omega) dX1_bedsTakenFrom_63 rfl ?_
            have r_6 := RG.per R (b := i) (by omega) (by omega)
            refine x_imul C dX1_bedsTakenFrom_64 ?_
            refine x_iadd C dX1_bedsTakenFrom_65 ?_
            refine x_istore_n C dX1_bedsTakenFrom_66 (by decide) (rfl : _ = [_, _, _, _, _, _]) ?_
            refine x_iinc C dX1_bedsTakenFrom_67 rfl (by decide) (rfl : _ = [_, _, _, _, _, _]) ?_
            refine x_goto 5 C dX1_bedsTakenFrom_70 (by decide) ?_
            refine G.wk (ih (i + 1) (by omega) (by omega) (by omega)) ?_
            have e9 : gBeds h x y i = gShared h x y i * h 7 i := if_pos ⟨c_4, c_5⟩
            simp only [leL, sumI_s i0, e9, Int.add_zero, and_self]
  exact K5 ((h 3 7 : Int) + 1).toNat 0 (by omega) (by omega) (by omega)
set_option maxRecDepth 100000 in
set_option maxHeartbeats 4000000 in
theorem m_X1_bedsTakenIn {hs : Nat → HV} {tp md : HV} {E : HE} {j : Nat} {h : HV} (hE : HI E) (hj : j < 7) (hh : hs j = h) {K : Int} (R : RG K h) {x : Int} (x0 : -100000 ≤ x ∧ x ≤ 100000) : Mt yX1_bedsTakenIn cX1_bedsTakenIn 2 (some .int) 3 E [.ref (hA E j 3), vI x] hs tp md (some (vI (nBeds h x x))) hs tp md := by
  refine mk_Mt hE (plainFor_of_name (by decide)) (Nat.le_of_ble_eq_true rfl) (by intro w0 hw0; simp only [List.mem_cons, List.not_mem_nil, or_false] at hw0; rcases hw0 with rfl | rfl <;> rfl) (rfl : _ = [_, _]) ?_
  intro F C D
  refine x_aload_n C dX1_bedsTakenIn_0 rfl ?_
  refine x_iload_n C dX1_bedsTakenIn_1 rfl ?_
  refine x_iload_n C dX1_bedsTakenIn_2 rfl ?_
  refine x_callV (nA := 2) (As := [vI x, vI x]) (rest := []) C (m_X1_bedsTakenFrom hE hj hh R ⟨by omega, by omega⟩ ⟨by omega, by omega⟩) q_391 q_392 q_393 q_24 q_394 (by decide +kernel) (wl_h hj hh 3 (by decide)) rfl rfl (by decide) (by decide) (Nat.le_of_ble_eq_true rfl) dX1_bedsTakenIn_3 rfl ?_
  exact x_iret C D rfl dX1_bedsTakenIn_6 rfl rfl rfl rfl
