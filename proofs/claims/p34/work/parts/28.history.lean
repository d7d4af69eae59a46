set_option maxRecDepth 100000 in
set_option maxHeartbeats 4000000 in
theorem m_J7_fill_53178 {hs : Nat → HV} {tp md : HV} {E : HE} (hE : HI E) {v : Int} {tp9 : HV} (he : upr tp 1 (fun d => if 0 ≤ d ∧ d < 1000 then v else tp 1 d) = tp9) : Mt yJ7_fill_53178 cJ7_fill_53178 4 none 1 E [.ref (tA E 1), vI v] hs tp md none hs tp9 md := by
  subst he
  refine mk_Mt hE (by decide +kernel) (Nat.le_of_ble_eq_true rfl) (by intro w0 hw0; simp only [List.mem_cons, List.not_mem_nil, or_false] at hw0; rcases hw0 with rfl | rfl <;> rfl) (rfl : _ = [_, _, _, _]) ?_
  intro F C D
  refine x_const C dJ7_fill_53178_0 ?_
  refine x_istore_n C dJ7_fill_53178_1 (by decide) (rfl : _ = [_, _, _, _]) ?_
  refine x_aload_n C dJ7_fill_53178_2 rfl ?_
  refine nt_1 C dJ7_fill_53178_3 ?_
  refine x_istore_n C dJ7_fill_53178_4 (by decide) (rfl : _ = [_, _, _, _]) ?_
  have K5 : ∀ (nn : Nat) (i : Int), 0 ≤ i → i ≤ 1000 → 1000 - i < nn →  G F E hs (upr tp 1 (fun d => if 0 ≤ d ∧ d < i then v else tp 1 d)) md 5 [some (.ref (tA E 1)), some (vI v), some (vI i), some (vI 1000)] [] := by
    intro nn
    induction nn with
    | zero => intro i i0 i1 hz; exact absurd hz (by omega)
    | succ nn ih =>
      intro i i0 i1 hz
      refine x_iload_n C dJ7_fill_53178_5 rfl ?_
      refine x_iload_n C dJ7_fill_53178_6 rfl ?_
      refine x_icmp_ge 20 C dJ7_fill_53178_7 (by decide) ⟨by omega, by omega⟩ ⟨by omega, by omega⟩ (fun c_1 => ?_) (fun c_1 => ?_)
      · exact x_vret C D dJ7_fill_53178_20 rfl (by rw [show i = 1000 by omega]) rfl
      · refine x_aload_n C dJ7_fill_53178_10 rfl ?_
        refine x_iload_n C dJ7_fill_53178_11 rfl ?_
        refine x_iload_n C dJ7_fill_53178_12 rfl ?_
        refine st_1 C (by omega) (by omega) dJ7_fill_53178_13 rfl ?_
        refine x_iinc C dJ7_fill_53178_14 rfl (by decide) (rfl : _ = [_, _, _, _]) ?_
        refine x_goto 5 C dJ7_fill_53178_17 (by decide) ?_
        refine G.of (G.wk (ih (i + 1) (by omega) (by omega) (by omega)) ?_) rfl ?_ rfl rfl
        · simp only [leL, and_self]
        · rw [upr_upr, upr_same]; refine congrArg (upr tp 1) ?_; funext d; unfold up1; split
          · rw [if_pos (by omega)]
          · show (if 0 ≤ d ∧ d < i then v else tp 1 d) = _
            by_cases q : 0 ≤ d ∧ d < i
            · rw [if_pos q, if_pos (by omega)]
            · rw [if_neg q, if_neg (by omega)]
  refine G.of (K5 1001 0 (by omega) (by omega) (by omega)) rfl ?_ rfl rfl
  rw [show (fun d => if 0 ≤ d ∧ d < 0 then v else tp 1 d) = tp 1 by funext d; rw [if_neg (by omega)], upr_id]
set_option maxRecDepth 100000 in
set_option maxHeartbeats 4000000 in
theorem m_X1_fillBedsTaken {hs : Nat → HV} {tp md : HV} {E : HE} {j : Nat} {h : HV} (hE : HI E) (hj : j < 7) (hh : hs j = h) {K : Int} (R : RG K h) {tp9 : HV} (he : upr tp 1 (fbR h (tp 1) (h 3 7)) = tp9) : Mt yX1_fillBedsTaken cX1_fillBedsTaken 4 none 2 E [.ref (hA E j 3), .ref (tA E 1)] hs tp md none hs tp9 md := by
  subst he
  refine mk_Mt hE (plainFor_of_name (by decide)) (Nat.le_of_ble_eq_true rfl) (by intro w0 hw0; simp only [List.mem_cons, List.not_mem_nil, or_false] at hw0; rcases hw0 with rfl | rfl <;> rfl) (rfl : _ = [_, _, _, _]) ?_
  intro F C D
  have rm := RG.made R
  refine x_aload_n C dX1_fillBedsTaken_0 rfl ?_
  refine x_const C dX1_fillBedsTaken_1 ?_
  refine x_callS (nA := 2) (As := [.ref (tA E 1), vI 0]) (rest := []) C (m_J7_fill_53178 (tp := tp) (v := 0) hE rfl) q_416 q_417 q_30 q_418 (by decide +kernel) rfl (by decide) (by decide) (Nat.le_of_ble_eq_true rfl) dX1_fillBedsTaken_2 rfl ?_
  refine G.of (tp' := upr tp 1 (fbR h (tp 1) 0)) ?_ rfl (congrArg (upr tp 1) (by funext d; unfold fbR; rfl)) rfl rfl
  refine x_const C dX1_fillBedsTaken_5 ?_
  refine x_istore_n C dX1_fillBedsTaken_6 (by decide) (rfl : _ = [_, _, _, _]) ?_
  have K7 : ∀ (nn : Nat) (i : Int), 0 ≤ i → i ≤ h 3 7 → h 3 7 - i < nn →  G F E hs (upr tp 1 (fbR h (tp 1) i)) md 7 [some (.ref (hA E j 3)), some (.ref (tA E 1)), some (vI i), none] [] := by
    intro nn
    induction nn with
    | zero => intro i i0 i1 hz; exact absurd hz (by omega)
    | succ nn ih =>
      intro i i0 i1 hz
      refine x_iload_n C dX1_fillBedsTaken_7 rfl ?_
      refine x_aload_n C dX1_fillBedsTaken_8 rfl ?_
      refine gh_3_7 C hj hh q_77 dX1_fillBedsTaken_9 rfl ?_
      have r_1 := RG.made R
      refine x_icmp_ge 76 C dX1_fillBedsTaken_12 (by decide) ⟨by omega, by omega⟩ ⟨by omega, by omega⟩ (fun c_2 => ?_) (fun c_2 => ?_)
      · exact x_vret C D dX1_fillBedsTaken_76 rfl (by rw [show i = h 3 7 by omega]) rfl
      · refine x_aload_n C dX1_fillBedsTaken_15 rfl ?_
        refine x_iload_n C dX1_fillBedsTaken_16 rfl ?_
        refine x_callV (nA := 1) (As := [vI i]) (rest := []) C (m_X1_holdsBeds hE hj hh R (by omega) (by omega)) q_325 q_326 q_327 q_24 q_328 (by decide +kernel) (wl_h hj hh 3 (by decide)) rfl rfl (by decide) (by decide) (Nat.le_of_ble_eq_true rfl) dX1_fillBedsTaken_17 rfl ?_
        refine x_bz_ne 26 C dX1_fillBedsTaken_20 (by decide) (fun c_3 => ?_) (fun c_3 => ?_)
        · have ra := RG.arr R i0 (by omega)
          have rn := RG.nig R i0 (by omega)
          have rp := RG.per R i0 (by omega)
          refine x_const C dX1_fillBedsTaken_26 ?_
          refine x_aload_n C dX1_fillBedsTaken_27 rfl ?_
          refine gh_3_1 C hj hh q_59 dX1_fillBedsTaken_28 ?_
          refine x_iload_n C dX1_fillBedsTaken_31 rfl ?_
          refine lh_5 C hj hh (by omega) (by omega) dX1_fillBedsTaken_32 rfl ?_
          have r_4 := RG.arr R (b := i) (by omega) (by omega)
          refine x_max C q_398 q_295 q_29 q_296 (by decide) (Nat.le_of_ble_eq_true rfl) ⟨by omega, by omega⟩ ⟨by omega, by omega⟩ dX1_fillBedsTaken_33 ?_
          refine G.eqS ?_ (congrArg (fun z => [vI z]) (show (if 0 < h 5 i then h 5 i else 0) = h 5 i by split <;> omega))
          refine x_istore_n C dX1_fillBedsTaken_36 (by decide) (rfl : _ = [_, _, _, _]) ?_
          have K37 : ∀ (nn : Nat) (k : Int), 0 ≤ k → k ≤ h 6 i → 20 - k < nn →  G F E hs (upr tp 1 (fbS h (tp 1) i k)) md 37 [some (.ref (hA E j 3)), some (.ref (tA E 1)), some (vI i), some (vI (h 5 i + k))] [] := by
            intro nn2
            induction nn2 with
            | zero => intro k k0 k1 hz2; exact absurd hz2 (by omega)
            | succ nn2 ih2 =>
              intro k k0 k1 hz2
              refine x_iload_n C dX1_fillBedsTaken_37 rfl ?_
              refine x_aload_n C dX1_fillBedsTaken_38 rfl ?_
              refine x_iload_n C dX1_fillBedsTaken_39 rfl ?_
              refine x_callV (nA := 1) (As := [vI i]) (rest := [vI (h 5 i + k)]) C (m_X1_end hE hj hh (by omega) (by omega)) q_350 q_339 q_340 q_24 q_341 (by decide +kernel) (wl_h hj hh 3 (by decide)) rfl rfl (by decide) (by decide) (Nat.le_of_ble_eq_true rfl) dX1_fillBedsTaken_40 rfl ?_
              refine x_icmp_ge 70 C dX1_fillBedsTaken_43 (by decide) ⟨by omega, by omega⟩ ⟨by omega, by omega⟩ (fun c_5 => ?_) (fun c_5 => ?_)
              · refine x_iinc C dX1_fillBedsTaken_70 rfl (by decide) (rfl : _ = [_, _, _, _]) ?_
                refine x_goto 7 C dX1_fillBedsTaken_73 (by decide) ?_
                refine G.of (G.wk (ih (i + 1) (by omega) (by omega) (by omega)) ?_) rfl ?_ rfl rfl
                · simp only [leL, and_self]
                · rw [← fbS_e i0 c_3, show h 6 i = k by omega]
              · refine x_iload_n C dX1_fillBedsTaken_46 rfl ?_
                refine x_aload_n C dX1_fillBedsTaken_47 rfl ?_
                refine nt_1 C dX1_fillBedsTaken_48 ?_
                refine x_icmp_ge 70 C dX1_fillBedsTaken_49 (by decide) ⟨by omega, by omega⟩ ⟨by omega, by omega⟩ (fun c_6 => ?_) (fun c_6 => ?_)
                · refine x_iinc C dX1_fillBedsTaken_70 rfl (by decide) (rfl : _ = [_, _, _, _]) ?_
                  refine x_goto 7 C dX1_fillBedsTaken_73 (by decide) ?_
                  refine G.of (G.wk (ih (i + 1) (by omega) (by omega) (by omega)) ?_) rfl ?_ rfl rfl
                  · simp only [leL, and_self]
                  · rw [← fbS_e i0 c_3, show h 6 i = k by omega]
                · refine x_aload_n C dX1_fillBedsTaken_52 rfl ?_
                  refine x_iload_n C dX1_fillBedsTaken_53 rfl ?_
                  refine x_dup2 C dX1_fillBedsTaken_54 rfl rfl ?_
                  refine lt_1 C (by omega) (by omega) dX1_fillBedsTaken_55 (show _ = (fbS h (tp 1) i k) (h 5 i + k) from rfl) ?_
                  refine x_aload_n C dX1_fillBedsTaken_56 rfl ?_
                  refine gh_3_3 C hj hh q_65 dX1_fillBedsTaken_57 ?_
                  refine x_iload_n C dX1_fillBedsTaken_60 rfl ?_
                  refine lh_7 C hj hh (by omega) (by omega) dX1_fillBedsTaken_61 rfl ?_
                  have r_7 := RG.per R (b := i) (by omega) (by omega)
                  refine x_iadd C dX1_fillBedsTaken_62 ?_
                  refine st_1 C (by omega) (by omega) dX1_fillBedsTaken_63 rfl ?_
                  refine x_iinc C dX1_fillBedsTaken_64 rfl (by decide) (rfl : _ = [_, _, _, _]) ?_
                  refine x_goto 37 C dX1_fillBedsTaken_67 (by decide) ?_
                  refine G.of (G.wk (ih2 (k + 1) (by omega) (by omega) (by omega)) ?_) rfl ?_ rfl rfl
                  · simp only [leL, Int.add_assoc, and_self]
                  · rw [← fbS_s (by omega) (by omega) k0]; exact upr_upr
          refine G.of (G.wk (K37 21 0 (by omega) (by omega) (by omega)) ?_) rfl ?_ rfl rfl
          · simp only [leL, Int.add_zero, and_self]
          · rw [fbS_0]
        · refine x_goto 70 C dX1_fillBedsTaken_23 (by decide) ?_
          refine x_iinc C dX1_fillBedsTaken_70 rfl (by decide) (rfl : _ = [_, _, _, _]) ?_
          refine x_goto 7 C dX1_fillBedsTaken_73 (by decide) ?_
          refine G.of (G.wk (ih (i + 1) (by omega) (by omega) (by omega)) ?_) rfl ?_ rfl rfl
          · simp only [leL, and_self]
          · rw [fbR_n i0 c_3]
  exact K7 ((h 3 7 : Int) + 1).toNat 0 (by omega) (by omega) (by omega)
set_option maxRecDepth 100000 in
set_option maxHeartbeats 4000000 in
theorem m_X2_dropOldest {hs : Nat → HV} {tp md : HV} {E : HE} (hE : HI E) (S : SG tp) (s4 : tp 2 1 = 4) {tp9 : HV} (he : hDrop tp = tp9) : Mt yX2_dropOldest cX2_dropOldest 3 none 1 E [.ref (tA E 2)] hs tp md none hs tp9 md := by
  subst he
  refine mk_Mt hE (plainFor_of_name (by decide)) (Nat.le_of_ble_eq_true rfl) (by intro w0 hw0; simp only [List.mem_cons, List.not_mem_nil, or_false] at hw0; rcases hw0 with rfl <;> rfl) (rfl : _ = [_, _, _]) ?_
  intro F C D
  have z0 := S.2 0 (by decide) (by decide)
  refine x_aload_n C dX2_dropOldest_0 rfl ?_
  refine gt_2_0 C q_184 dX2_dropOldest_1 ?_
  refine x_const C dX2_dropOldest_4 ?_
  refine x_aald C (by omega) (by omega) dX2_dropOldest_5 (show _ = (tp 3 0).toNat from rfl) ?_
  refine x_astore_n C dX2_dropOldest_6 (by decide) (rfl : _ = [_, _, _]) ?_
  refine x_const C dX2_dropOldest_7 ?_
  refine x_istore_n C dX2_dropOldest_8 (by decide) (rfl : _ = [_, _, _]) ?_
  have K9 : ∀ (nn : Nat) (k : Int), 0 ≤ k → k ≤ 3 → 20 - k < nn →  G F E hs (upr tp 3 (shC (tp 3) k)) md 9 [some (.ref (tA E 2)), some (.ref (hA E ((tp 3 0).toNat) 0)), some (vI (k + 1))] [] := by
    intro nn
    induction nn with
    | zero => intro k k0 k1 hz; exact absurd hz (by omega)
    | succ nn ih =>
      intro k k0 k1 hz
      refine x_iload_n C dX2_dropOldest_9 rfl ?_
      refine x_const C dX2_dropOldest_10 ?_
      refine x_icmp_ge 34 C dX2_dropOldest_11 (by decide) ⟨by omega, by omega⟩ ⟨by omega, by omega⟩ (fun c_1 => ?_) (fun c_1 => ?_)
      · have zn : ((tp 3 0).toNat : Int) = tp 3 0 := Int.toNat_of_nonneg (by omega)
        have kk : k = 3 := by omega
        subst kk
        refine x_aload_n C dX2_dropOldest_34 rfl ?_
        refine gt_2_0 C q_184 dX2_dropOldest_35 ?_
        refine x_const C dX2_dropOldest_38 ?_
        refine x_aload_n C dX2_dropOldest_39 rfl ?_
        refine x_aast C (by omega) (by omega) (by omega) dX2_dropOldest_40 rfl ?_
        refine x_aload_n C dX2_dropOldest_41 rfl ?_
        refine x_const C dX2_dropOldest_42 ?_
        refine pt_2_1 C q_185 dX2_dropOldest_43 rfl ?_
        exact x_vret C D dX2_dropOldest_46 rfl (by rw [zn, upr_upr]; rfl) rfl
      · have zk : 3 ≤ shC (tp 3) k (k + 1) ∧ shC (tp 3) k (k + 1) ≤ 6 := by
          unfold shC; rw [if_neg (by omega)]; exact S.2 (k + 1) (by omega) (by omega)
        have zn : ((shC (tp 3) k (k + 1)).toNat : Int) = shC (tp 3) k (k + 1) := Int.toNat_of_nonneg (by omega)
        refine x_aload_n C dX2_dropOldest_14 rfl ?_
        refine gt_2_0 C q_184 dX2_dropOldest_15 ?_
        refine x_iload_n C dX2_dropOldest_18 rfl ?_
        refine x_const C dX2_dropOldest_19 ?_
        refine x_isub C dX2_dropOldest_20 ?_
        refine x_aload_n C dX2_dropOldest_21 rfl ?_
        refine gt_2_0 C q_184 dX2_dropOldest_22 ?_
        refine x_iload_n C dX2_dropOldest_25 rfl ?_
        refine x_aald C (by omega) (by omega) dX2_dropOldest_26 (show _ = (shC (tp 3) k (k + 1)).toNat from rfl) ?_
        refine x_aast C (by omega) (by omega) (by omega) dX2_dropOldest_27 rfl ?_
        refine x_iinc C dX2_dropOldest_28 rfl (by decide) (rfl : _ = [_, _, _]) ?_
        refine x_goto 9 C dX2_dropOldest_31 (by decide) ?_
        refine G.of (G.wk (ih (k + 1) (by omega) (by omega) (by omega)) ?_) rfl ?_ rfl rfl
        · simp only [leL, and_self]
        · rw [zn, ← shC_s k0]; exact upr_upr
  refine G.of (G.wk (K9 21 0 (by omega) (by omega) (by omega)) ?_) rfl ?_ rfl rfl
  · simp only [leL, Int.zero_add, and_self]
  · rw [shC_0, upr_id]
set_option maxRecDepth 100000 in
set_option maxHeartbeats 4000000 in
theorem m_X2_remember {hs : Nat → HV} {tp md : HV} {E : HE} (hE : HI E) (S : SG tp) {K2 : Int} (R2 : RG K2 (hs 0)) {hs9 : Nat → HV} (he : rH hs tp = hs9) {tp9 : HV} (he2 : rT tp = tp9) : Mt yX2_remember cX2_remember 2 none 4 E [.ref (tA E 2), .ref (hA E 0 0)] hs tp md none hs9 tp9 md := by
  subst he; subst he2
  refine mk_Mt hE (plainFor_of_name (by decide)) (Nat.le_of_ble_eq_true rfl) (by intro w0 hw0; simp only [List.mem_cons, List.not_mem_nil, or_false] at hw0; rcases hw0 with rfl | rfl <;> rfl) (rfl : _ = [_, _]) ?_
  intro F C D
  have s0 := S.1
  refine x_aload_n C dX2_remember_0 rfl ?_
  refine gt_2_1 C q_185 dX2_remember_1 rfl ?_
  refine x_const C dX2_remember_4 ?_
  refine x_icmp_lt 12 C dX2_remember_5 (by decide) ⟨by omega, by omega⟩ ⟨by omega, by omega⟩ (fun c_1 => ?_) (fun c_1 => ?_)
  · refine G.of (tp' := hT1 tp) ?_ rfl (by unfold hT1; rw [if_neg (by omega)]) rfl rfl
    have s1 := SG_1 S
    have rj := rJ_r S
    have s2 := s1.1.1
    refine x_aload_n C dX2_remember_12 rfl ?_
    refine gt_2_0 C q_184 dX2_remember_13 ?_
    refine x_aload_n C dX2_remember_16 rfl ?_
    refine gt_2_1 C q_185 dX2_remember_17 rfl ?_
    refine x_aald C (by omega) (by omega) dX2_remember_20 (show _ = (rJ tp) from rfl) ?_
    refine x_aload_n C dX2_remember_21 rfl ?_
    refine x_callV (nA := 1) (As := [.ref (hA E 0 0)]) (rest := []) C (m_X3_copyFrom hE (by omega) (by decide) (show 0 ≠ rJ tp by omega) (rfl : hs (rJ tp) = _) (rfl : hs 0 = hs 0) R2 rfl) q_263 q_264 q_265 q_22 q_266 (by decide +kernel) (wl_h (by omega) (rfl : hs (rJ tp) = _) 0 (by decide)) rfl rfl (by decide) (by decide) (Nat.le_of_ble_eq_true rfl) dX2_remember_22 rfl ?_
    refine x_aload_n C dX2_remember_25 rfl ?_
    refine x_dup C dX2_remember_26 rfl ?_
    refine gt_2_1 C q_185 dX2_remember_27 rfl ?_
    refine x_const C dX2_remember_30 ?_
    refine x_iadd C dX2_remember_31 ?_
    refine pt_2_1 C q_185 dX2_remember_32 rfl ?_
    exact x_vret C D dX2_remember_35 rfl rfl rfl
  · refine x_aload_n C dX2_remember_8 rfl ?_
    refine x_callV (nA := 0) (As := []) (rest := []) C (m_X2_dropOldest hE S (by omega) rfl) q_456 q_458 q_1 q_27 q_459 (by decide +kernel) (wl_t 2 (by decide)) rfl rfl (by decide) (by decide) (Nat.le_of_ble_eq_true rfl) dX2_remember_9 rfl ?_
    refine G.of (tp' := hT1 tp) ?_ rfl (by unfold hT1; rw [if_pos c_1]) rfl rfl
    have s1 := SG_1 S
    have rj := rJ_r S
    have s2 := s1.1.1
    refine x_aload_n C dX2_remember_12 rfl ?_
    refine gt_2_0 C q_184 dX2_remember_13 ?_
    refine x_aload_n C dX2_remember_16 rfl ?_
    refine gt_2_1 C q_185 dX2_remember_17 rfl ?_
    refine x_aald C (by omega) (by omega) dX2_remember_20 (show _ = (rJ tp) from rfl) ?_
    refine x_aload_n C dX2_remember_21 rfl ?_
    refine x_callV (nA := 1) (As := [.ref (hA E 0 0)]) (rest := []) C (m_X3_copyFrom hE (by omega) (by decide) (show 0 ≠ rJ tp by omega) (rfl : hs (rJ tp) = _) (rfl : hs 0 = hs 0) R2 rfl) q_263 q_264 q_265 q_22 q_266 (by decide +kernel) (wl_h (by omega) (rfl : hs (rJ tp) = _) 0 (by decide)) rfl rfl (by decide) (by decide) (Nat.le_of_ble_eq_true rfl) dX2_remember_22 rfl ?_
    refine x_aload_n C dX2_remember_25 rfl ?_
    refine x_dup C dX2_remember_26 rfl ?_
    refine gt_2_1 C q_185 dX2_remember_27 rfl ?_
    refine x_const C dX2_remember_30 ?_
    refine x_iadd C dX2_remember_31 ?_
    refine pt_2_1 C q_185 dX2_remember_32 rfl ?_
    exact x_vret C D dX2_remember_35 rfl rfl rfl
set_option maxRecDepth 100000 in
set_option maxHeartbeats 4000000 in
theorem m_X2_giveBack {hs : Nat → HV} {tp md : HV} {E : HE} (hE : HI E) (S : SG tp) (s1 : 1 ≤ tp 2 1) {K2 : Int} (R2 : RG K2 (hs (tp 3 (tp 2 1 - 1)).toNat)) {hs9 : Nat → HV} (he : putH hs 0 (hCp (hs 0) (hs (tp 3 (tp 2 1 - 1)).toNat)) = hs9) {tp9 : HV} (he2 : upr tp 2 (up1 (tp 2) 1 (tp 2 1 - 1)) = tp9) : Mt yX2_giveBack cX2_giveBack 2 none 4 E [.ref (tA E 2), .ref (hA E 0 0)] hs tp md none hs9 tp9 md := by
  subst he; subst he2
  refine mk_Mt hE (plainFor_of_name (by decide)) (Nat.le_of_ble_eq_true rfl) (by intro w0 hw0; simp only [List.mem_cons, List.not_mem_nil, or_false] at hw0; rcases hw0 with rfl | rfl <;> rfl) (rfl : _ = [_, _]) ?_
  intro F C D
  have s0 := S.1
  have sz := S.2 (tp 2 1 - 1) (by omega) (by omega)
  refine x_aload_n C dX2_giveBack_0 rfl ?_
  refine gt_2_1 C q_185 dX2_giveBack_1 rfl ?_
  refine x_if_le 30 C dX2_giveBack_4 (by decide) ⟨by omega, by omega⟩ (fun c_1 => ?_) (fun c_1 => ?_)
  · exact absurd c_1 (by omega)
  · refine x_aload_n C dX2_giveBack_7 rfl ?_
    refine x_dup C dX2_giveBack_8 rfl ?_
    refine gt_2_1 C q_185 dX2_giveBack_9 rfl ?_
    refine x_const C dX2_giveBack_12 ?_
    refine x_isub C dX2_giveBack_13 ?_
    refine pt_2_1 C q_185 dX2_giveBack_14 rfl ?_
    refine x_aload_n C dX2_giveBack_17 rfl ?_
    refine x_aload_n C dX2_giveBack_18 rfl ?_
    refine gt_2_0 C q_184 dX2_giveBack_19 ?_
    refine x_aload_n C dX2_giveBack_22 rfl ?_
    refine gt_2_1 C q_185 dX2_giveBack_23 (show _ = (tp 2 1) - 1 from rfl) ?_
    refine x_aald C (by omega) (by omega) dX2_giveBack_26 (show _ = (tp 3 (tp 2 1 - 1)).toNat from rfl) ?_
    refine x_callV (nA := 1) (As := [.ref (hA E ((tp 3 (tp 2 1 - 1)).toNat) 0)]) (rest := []) C (m_X3_copyFrom hE (by decide) (by omega) (show (tp 3 (tp 2 1 - 1)).toNat ≠ 0 by omega) (rfl : hs 0 = hs 0) (rfl : hs (tp 3 (tp 2 1 - 1)).toNat = _) R2 rfl) q_263 q_264 q_265 q_22 q_266 (by decide +kernel) (wl_h (by decide) (rfl : hs 0 = hs 0) 0 (by decide)) rfl rfl (by decide) (by decide) (Nat.le_of_ble_eq_true rfl) dX2_giveBack_27 rfl ?_
    exact x_vret C D dX2_giveBack_30 rfl rfl rfl
