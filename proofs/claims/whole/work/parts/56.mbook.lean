theorem n_X7_readAll {hs : Nat → HV} {tp md : HV} {E : HE} (hE : HI E) {r : Int → Int} (T : TX (md 5) (md 0 7)) (p0 : 0 ≤ md 0 5 ∧ md 0 5 ≤ 61) : Mt yX7_readAll cX7_readAll 4 (some .int) 4 E [.ref (mA E 0)] hs tp (upr md 1 r) (some (vI (rdAll (md 5) (md 0 7)).1)) hs tp (upr (mPl md (rdAll (md 5) (md 0 7)).2) 1 r) := by
  have h := m_X7_readAll (hs := hs) (tp := tp) hE (md := upr md 1 r) (p := md 0 5) T p0
  have e : mPl (upr md 1 r) (md 0 5) = upr md 1 r := mPl_id (md := upr md 1 r)
  rw [e, mPl_mv] at h
  exact h
set_option maxRecDepth 100000 in
set_option maxHeartbeats 4000000 in
theorem m_X7_fault {hs : Nat → HV} {tp md : HV} {E : HE} (hE : HI E) {r : Int → Int} (T : TX (md 5) (md 0 7)) (pl : 0 ≤ md 0 5 ∧ md 0 5 ≤ 61) : Mt yX7_fault cX7_fault 2 (some .int) 5 E [.ref (mA E 0)] hs tp (upr md 1 r) (some (vI ((yFault md r).1))) hs tp ((yFault md r).2) := by
  refine mk_Mt hE (plainFor_of_name (by decide)) (Nat.le_of_ble_eq_true rfl) (by intro w0 hw0; simp only [List.mem_cons, List.not_mem_nil, or_false] at hw0; rcases hw0 with rfl <;> rfl) (rfl : _ = [_, _]) ?_
  intro F C D
  have tl := T.1
  refine x_aload_n C dX7_fault_0 rfl ?_
  refine x_callV (nA := 0) (As := []) (rest := []) C (n_X7_readAll hE T (by first | assumption | omega)) q_826 q_828 q_28 q_64 q_829 (by decide +kernel) (wl_m 0 (by decide)) rfl rfl (by decide) (by decide) (Nat.le_of_ble_eq_true rfl) dX7_fault_1 rfl ?_
  have ra9 := rdA_r (f := md 5) tl.2 61 0 0 (by decide) (by decide)
  have ra9 : -161 ≤ (rdAll (md 5) (md 0 7)).1 ∧ (rdAll (md 5) (md 0 7)).1 ≤ 61 ∧ _ := ra9
  refine x_istore_n C dX7_fault_4 (by decide) (rfl : _ = [_, _]) ?_
  refine x_iload_n C dX7_fault_5 rfl ?_
  refine x_if_ge 16 C dX7_fault_6 (by decide) ⟨by omega, by omega⟩ (fun c_1 => ?_) (fun c_1 => ?_)
  · refine x_ldc (n := (-1000005)) C q_821 dX7_fault_16 rfl ?_
    exact x_iret C D rfl dX7_fault_18 (by unfold yFault; exact (if_neg (by omega)).symm) rfl rfl rfl
  · refine x_bipush C dX7_fault_9 (by decide) ?_
    refine x_iload_n C dX7_fault_11 rfl ?_
    refine x_isub C dX7_fault_12 ?_
    refine x_goto 18 C dX7_fault_13 (by decide) ?_
    exact x_iret C D rfl dX7_fault_18 (by unfold yFault; exact (if_pos (by omega)).symm) rfl rfl rfl
set_option maxRecDepth 100000 in
set_option maxHeartbeats 4000000 in
theorem m_X7_bookAll {hs : Nat → HV} {tp md : HV} {E : HE} (hE : HI E) {r : Int → Int} {K : Int} (R : MR K r) (k0 : 0 ≤ md 0 6 ∧ md 0 6 ≤ 4) (T : TX (md 5) (md 0 7)) (pl : 0 ≤ md 0 5 ∧ md 0 5 ≤ 61) : Mt yX7_bookAll cX7_bookAll 5 (some .int) 6 E [.ref (mA E 0)] hs tp (upr md 1 r) (some (vI ((yBookAll md r).1))) hs tp ((yBookAll md r).2) := by
  refine mk_Mt hE (plainFor_of_name (by decide)) (Nat.le_of_ble_eq_true rfl) (by intro w0 hw0; simp only [List.mem_cons, List.not_mem_nil, or_false] at hw0; rcases hw0 with rfl <;> rfl) (rfl : _ = [_, _, _, _, _]) ?_
  intro F C D
  have tl := T.1
  have rc0 := MR.came R
  refine x_aload_n C dX7_bookAll_0 rfl ?_
  refine x_callV (nA := 0) (As := []) (rest := []) C (n_X7_readAll hE T (by first | assumption | omega)) q_826 q_828 q_28 q_64 q_829 (by decide +kernel) (wl_m 0 (by decide)) rfl rfl (by decide) (by decide) (Nat.le_of_ble_eq_true rfl) dX7_bookAll_1 rfl ?_
  have ra9 := rdA_r (f := md 5) tl.2 61 0 0 (by decide) (by decide)
  have ra9 : -161 ≤ (rdAll (md 5) (md 0 7)).1 ∧ (rdAll (md 5) (md 0 7)).1 ≤ 61 ∧ _ := ra9
  refine x_istore_n C dX7_bookAll_4 (by decide) (rfl : _ = [_, _, _, _, _]) ?_
  refine x_iload_n C dX7_bookAll_5 rfl ?_
  refine x_if_ge 11 C dX7_bookAll_6 (by decide) ⟨by omega, by omega⟩ (fun c_1 => ?_) (fun c_1 => ?_)
  · obtain ⟨N, eN, cN⟩ := rdA_c (f := md 5) tl.2 61 0 0 (by decide) (by decide) (by omega) c_1
    have eN2 : (rdAll (md 5) (md 0 7)).1 = 0 + (N : Int) := eN
    have cn : rdC (md 5) (md 0 7) (rdAll (md 5) (md 0 7)).1.toNat 0 := by rw [eN2, show (0 + (N : Int)).toNat = N by omega]; exact cN
    refine x_aload_n C dX7_bookAll_11 rfl ?_
    refine x_callV (nA := 0) (As := []) (rest := []) C (m_X7_lay hE (r := r) (md := (mPl md (rdAll (md 5) (md 0 7)).2))) q_838 q_840 q_31 q_64 q_841 (by decide +kernel) (wl_m 0 (by decide)) rfl rfl (by decide) (by decide) (Nat.le_of_ble_eq_true rfl) dX7_bookAll_12 rfl ?_
    refine x_aload_n C dX7_bookAll_15 rfl ?_
    refine x_const C dX7_bookAll_16 ?_
    refine pm_0_5 C q_756 dX7_bookAll_17 rfl ?_
    refine G.of ?_ rfl rfl (show _ = upr (mPl (aX md r) 0) 1 (r) from upr_cm (by decide)) rfl
    refine x_const C dX7_bookAll_20 ?_
    refine x_istore_n C dX7_bookAll_21 (by decide) (rfl : _ = [_, _, _, _, _]) ?_
    have K22 : ∀ (nn : Nat) (n : Nat) (p : Int) (g : Int → Int), MR K g → (0 ≤ p ∧ p ≤ 61) → rdC (md 5) (md 0 7) n p → g 1 = r 1 + ((rdAll (md 5) (md 0 7)).1 - n) → (n : Int) ≤ (rdAll (md 5) (md 0 7)).1 → aB md r = mBa (md 5) (md 0 7) n p g → (n : Int) < nn →  G F E hs tp (upr (mPl (aX md r) p) 1 g) 22 [some (.ref (mA E 0)), some (vI ((rdAll (md 5) (md 0 7)).1)), some (vI ((rdAll (md 5) (md 0 7)).1 - (n : Int))), none, none] [] := by
      intro nn
      induction nn with
      | zero => intro n p g rg p0 hc g1 nv hq hz; exact absurd hz (by omega)
      | succ nn ih =>
        intro n p g rg p0 hc g1 nv hq hz
        have rcg := MR.came rg
        refine x_iload_n C dX7_bookAll_22 rfl ?_
        refine x_iload_n C dX7_bookAll_23 rfl ?_
        refine x_icmp_ge 101 C dX7_bookAll_24 (by decide) ⟨by omega, by omega⟩ ⟨by omega, by omega⟩ (fun c_2 => ?_) (fun c_2 => ?_)
        · have e9 : aB md r = (0, p, g) := by rw [hq, show n = 0 by omega]; rfl
          have rcz := MR.came rg
          refine x_aload_n C dX7_bookAll_101 rfl ?_
          refine x_callV (nA := 0) (As := []) (rest := []) C (m_X7_takeBack hE (r := g) (md := (mPl (aX md r) p))) q_842 q_844 q_32 q_64 q_845 (by decide +kernel) (wl_m 0 (by decide)) rfl rfl (by decide) (by decide) (Nat.le_of_ble_eq_true rfl) dX7_bookAll_102 rfl ?_
          refine G.of ?_ rfl rfl (show _ = upr (mPl (aX md r) (aB md r).2.1) 1 (aG md r) from (by show _ = upr (mPl (aX md r) (aB md r).2.1) 1 (cpI (aX md r 3) (aB md r).2.2 2739); rw [e9]; try rfl)) rfl
          refine x_aload_n C dX7_bookAll_105 rfl ?_
          refine x_callV (nA := 0) (As := []) (rest := []) C (m_X7_record hE (r := (aG md r)) (md := (mPl (aX md r) (aB md r).2.1)) (show 0 ≤ md 0 6 ∧ md 0 6 ≤ 4 from k0)) q_809 q_811 q_25 q_64 q_812 (by decide +kernel) (wl_m 0 (by decide)) rfl rfl (by decide) (by decide) (Nat.le_of_ble_eq_true rfl) dX7_bookAll_106 rfl ?_
          refine x_aload_n C dX7_bookAll_109 rfl ?_
          refine x_const C dX7_bookAll_110 ?_
          refine pm_0_5 C q_756 dX7_bookAll_111 rfl ?_
          refine G.of ?_ rfl rfl (show _ = upr (mPl (aY md r) 0) 1 (aG md r) from upr_cm (by decide)) rfl
          have ax3 : aX md r 3 = cpI r (mPl md (rdAll (md 5) (md 0 7)).2 3) 2739 := upr_same
          have gi : ∀ i, 0 ≤ i → i < 2739 → aG md r i = r i := fun i i0 i1 => by
            show cpI (aX md r 3) (aB md r).2.2 2739 i = r i
            rw [ax3]; unfold cpI; rw [if_pos ⟨i0, i1⟩, if_pos ⟨i0, i1⟩]
          have rG : MR K (aG md r) := fun i i0 i1 => by rw [gi i i0 i1]; exact R i i0 i1
          have g1 : aG md r 1 = r 1 := gi 1 (by decide) (by decide)
          refine x_const C dX7_bookAll_114 ?_
          refine x_istore_n C dX7_bookAll_115 (by decide) (rfl : _ = [_, _, _, _, _]) ?_
          have K116 : ∀ (nn : Nat) (n2 : Nat) (p2 : Int) (g2 : Int → Int), MR K g2 → (0 ≤ p2 ∧ p2 ≤ 61) → rdC (md 5) (md 0 7) n2 p2 → g2 1 = r 1 + ((rdAll (md 5) (md 0 7)).1 - n2) → (n2 : Int) ≤ (rdAll (md 5) (md 0 7)).1 → aC md r = mBb (md 5) (md 0 7) n2 p2 g2 → (n2 : Int) < nn →  G F E hs tp (upr (mPl (aY md r) p2) 1 g2) 116 [some (.ref (mA E 0)), some (vI ((rdAll (md 5) (md 0 7)).1)), some (vI ((rdAll (md 5) (md 0 7)).1 - (n2 : Int))), none, none] [] := by
            intro nn2
            induction nn2 with
            | zero => intro n2 p2 g2 rg2 p20 hc2 g21 nv2 hq2 hz2; exact absurd hz2 (by omega)
            | succ nn2 ih2 =>
              intro n2 p2 g2 rg2 p20 hc2 g21 nv2 hq2 hz2
              have rcg2 := MR.came rg2
              refine x_iload_n C dX7_bookAll_116 rfl ?_
              refine x_iload_n C dX7_bookAll_117 rfl ?_
              refine x_icmp_ge 162 C dX7_bookAll_118 (by decide) ⟨by omega, by omega⟩ ⟨by omega, by omega⟩ (fun c_3 => ?_) (fun c_3 => ?_)
              · refine x_iload_n C dX7_bookAll_162 rfl ?_
                exact x_iret C D rfl dX7_bookAll_163 (by unfold yBookAll; rw [if_neg (by omega), if_neg (by rw [e9]; exact Int.lt_irrefl 0)]) rfl rfl (by unfold yBookAll; rw [if_neg (by omega), if_neg (by rw [e9]; exact Int.lt_irrefl 0)]; show _ = upr (mPl (aY md r) (aC md r).1) 1 (aC md r).2; rw [hq2, show n2 = 0 by omega]; rfl)
              · refine x_aload_n C dX7_bookAll_121 rfl ?_
                refine x_callV (nA := 0) (As := []) (rest := []) C (n_X7_readBooking hE (md := (aY md r)) (r := g2) (p := p2) (f := md 5) (L := md 0 7) (show aY md r 5 = md 5 from mRec_x.1) (show aY md r 0 7 = md 0 7 from mRec_x.2.1) T ⟨by omega, by omega⟩) q_830 q_832 q_29 q_64 q_833 (by decide +kernel) (wl_m 0 (by decide)) rfl rfl (by decide) (by decide) (Nat.le_of_ble_eq_true rfl) dX7_bookAll_122 rfl ?_
                have rc9 : 0 ≤ (rdB (md 5) (md 0 7) p2).1 := by
                  obtain ⟨n9, rfl⟩ : ∃ n9, n2 = n9 + 1 := ⟨n2 - 1, by omega⟩
                  exact hc2.1
                have rb9 := rdB_r (f := md 5) (p := p2) tl.2 ⟨by omega, by omega⟩
                have rb5 := rb9.2.2.2.2 rc9
                refine x_istore_n C dX7_bookAll_125 (by decide) (rfl : _ = [_, _, _, _, _]) ?_
                refine x_aload_n C dX7_bookAll_126 rfl ?_
                refine x_iload_n C dX7_bookAll_127 rfl ?_
                refine x_bipush C dX7_bookAll_128 (by decide) ?_
                refine x_idiv C dX7_bookAll_130 ⟨(by omega), (by omega)⟩ ⟨by omega, by omega⟩ (by omega) (by omega) ?_
                refine x_iload_n C dX7_bookAll_131 rfl ?_
                refine x_bipush C dX7_bookAll_132 (by decide) ?_
                refine x_idiv C dX7_bookAll_134 ⟨(by omega), (by omega)⟩ ⟨by omega, by omega⟩ (by omega) (by omega) ?_
                refine x_bipush C dX7_bookAll_135 (by decide) ?_
                refine x_irem C dX7_bookAll_137 ⟨(by omega), (by omega)⟩ ⟨by omega, by omega⟩ (by omega) (by omega) ?_
                refine x_iload_n C dX7_bookAll_138 rfl ?_
                refine x_bipush C dX7_bookAll_139 (by decide) ?_
                refine x_irem C dX7_bookAll_141 ⟨(by omega), (by omega)⟩ ⟨by omega, by omega⟩ (by omega) (by omega) ?_
                refine x_callV (nA := 3) (As := [vI (((rdB (md 5) (md 0 7) p2).1) / 100), vI ((((rdB (md 5) (md 0 7) p2).1) / 10) % 10), vI (((rdB (md 5) (md 0 7) p2).1) % 10)]) (rest := []) C (m_X7_addBooking hE (r := g2) (a := (((rdB (md 5) (md 0 7) p2).1) / 100)) (n := ((((rdB (md 5) (md 0 7) p2).1) / 10) % 10)) (p := (((rdB (md 5) (md 0 7) p2).1) % 10)) (by omega) (by omega)) q_813 q_815 q_26 q_64 q_816 (by decide +kernel) (wl_m 0 (by decide)) rfl rfl (by decide) (by decide) (Nat.le_of_ble_eq_true rfl) dX7_bookAll_142 rfl ?_
                refine x_pop C dX7_bookAll_145 rfl ?_
                refine x_aload_n C dX7_bookAll_146 rfl ?_
                refine x_dup C dX7_bookAll_147 rfl ?_
                refine gm_0_5 C q_756 dX7_bookAll_148 (show _ = (mPl (aY md r) (rdB (md 5) (md 0 7) p2).2) 0 5 from rfl) ?_
                refine x_const C dX7_bookAll_151 ?_
                refine x_iadd C dX7_bookAll_152 ?_
                refine pm_0_5 C q_756 dX7_bookAll_153 rfl ?_
                refine G.of ?_ rfl rfl (show _ = upr (mPl (aY md r) ((rdB (md 5) (md 0 7) p2).2 + 1)) 1 (mAdd g2 (((rdB (md 5) (md 0 7) p2).1) / 100) ((((rdB (md 5) (md 0 7) p2).1) / 10) % 10) (((rdB (md 5) (md 0 7) p2).1) % 10)) from (by rw [show mPl (aY md r) (rdB (md 5) (md 0 7) p2).2 0 5 = (rdB (md 5) (md 0 7) p2).2 from by show up1 ((aY md r) 0) 5 (rdB (md 5) (md 0 7) p2).2 5 = (rdB (md 5) (md 0 7) p2).2; rw [up1_same]]; exact mPl_w)) rfl
                refine x_iinc C dX7_bookAll_156 rfl (by decide) (rfl : _ = [_, _, _, _, _]) ?_
                refine x_goto 116 C dX7_bookAll_159 (by decide) ?_
                obtain ⟨n9, rfl⟩ : ∃ n9, n2 = n9 + 1 := ⟨n2 - 1, by omega⟩
                have e1 : mAdd g2 ((rdB (md 5) (md 0 7) p2).1 / 100) ((rdB (md 5) (md 0 7) p2).1 / 10 % 10) ((rdB (md 5) (md 0 7) p2).1 % 10) 1 = g2 1 + 1 := by
                  show up1 (up1 (up1 (up1 (up1 (up1 (up1 (up1 (up1 g2 1 (g2 1 + 1)) _ _) _ _) _ _) _ _) _ _) _ _) _ _) _ _ 1 = _
                  rw [up1_ne (by decide), up1_ne (by omega), up1_ne (by omega), up1_ne (by omega), up1_ne (by omega), up1_ne (by omega), up1_ne (by omega), up1_ne (by omega), up1_same]
                refine G.wk (ih2 n9 ((rdB (md 5) (md 0 7) p2).2 + 1) (mAdd g2 ((rdB (md 5) (md 0 7) p2).1 / 100) ((rdB (md 5) (md 0 7) p2).1 / 10 % 10) ((rdB (md 5) (md 0 7) p2).1 % 10)) (MR_mAdd rg2 (by omega) ⟨by omega, by omega⟩ ⟨by omega, by omega⟩ ⟨by omega, by omega⟩) (by omega) hc2.2 (by rw [e1]; omega) (by omega) (by rw [hq2]; rfl) (by omega)) ?_
                simp only [leL, and_self, and_true, true_and]; exact congrArg (fun z => some (vI z)) (by omega)
          refine G.wk (K116 ((rdAll (md 5) (md 0 7)).1.toNat + 1) (rdAll (md 5) (md 0 7)).1.toNat 0 (aG md r) rG (by decide) cn (by omega) (by omega) rfl (by omega)) ?_
          simp only [leL, and_self, and_true, true_and]; exact congrArg (fun z => some (vI z)) (by omega)
        · refine x_aload_n C dX7_bookAll_27 rfl ?_
          refine x_callV (nA := 0) (As := []) (rest := []) C (n_X7_readBooking hE (md := (aX md r)) (r := g) (p := p) (f := md 5) (L := md 0 7) rfl rfl T ⟨by omega, by omega⟩) q_830 q_832 q_29 q_64 q_833 (by decide +kernel) (wl_m 0 (by decide)) rfl rfl (by decide) (by decide) (Nat.le_of_ble_eq_true rfl) dX7_bookAll_28 rfl ?_
          have rc9 : 0 ≤ (rdB (md 5) (md 0 7) p).1 := by
            obtain ⟨n9, rfl⟩ : ∃ n9, n = n9 + 1 := ⟨n - 1, by omega⟩
            exact hc.1
          have rb9 := rdB_r (f := md 5) (p := p) tl.2 ⟨by omega, by omega⟩
          have rb5 := rb9.2.2.2.2 rc9
          refine x_istore_n C dX7_bookAll_31 (by decide) (rfl : _ = [_, _, _, _, _]) ?_
          refine x_aload_n C dX7_bookAll_32 rfl ?_
          refine x_iload_n C dX7_bookAll_33 rfl ?_
          refine x_bipush C dX7_bookAll_34 (by decide) ?_
          refine x_idiv C dX7_bookAll_36 ⟨(by omega), (by omega)⟩ ⟨by omega, by omega⟩ (by omega) (by omega) ?_
          refine x_iload_n C dX7_bookAll_37 rfl ?_
          refine x_bipush C dX7_bookAll_38 (by decide) ?_
          refine x_idiv C dX7_bookAll_40 ⟨(by omega), (by omega)⟩ ⟨by omega, by omega⟩ (by omega) (by omega) ?_
          refine x_bipush C dX7_bookAll_41 (by decide) ?_
          refine x_irem C dX7_bookAll_43 ⟨(by omega), (by omega)⟩ ⟨by omega, by omega⟩ (by omega) (by omega) ?_
          refine x_iload_n C dX7_bookAll_44 rfl ?_
          refine x_bipush C dX7_bookAll_45 (by decide) ?_
          refine x_irem C dX7_bookAll_47 ⟨(by omega), (by omega)⟩ ⟨by omega, by omega⟩ (by omega) (by omega) ?_
          refine x_callV (nA := 3) (As := [vI (((rdB (md 5) (md 0 7) p).1) / 100), vI ((((rdB (md 5) (md 0 7) p).1) / 10) % 10), vI (((rdB (md 5) (md 0 7) p).1) % 10)]) (rest := []) C (m_X7_tryToBook hE (r := g) rg (a := (((rdB (md 5) (md 0 7) p).1) / 100)) (n := ((((rdB (md 5) (md 0 7) p).1) / 10) % 10)) (p := (((rdB (md 5) (md 0 7) p).1) % 10)) ⟨by omega, by omega⟩ ⟨by omega, by omega⟩ ⟨by omega, by omega⟩) q_783 q_785 q_20 q_64 q_786 (by decide +kernel) (wl_m 0 (by decide)) rfl rfl (by decide) (by decide) (Nat.le_of_ble_eq_true rfl) dX7_bookAll_48 rfl ?_
          have r_4 := mErr_r (r := g) (a := (((rdB (md 5) (md 0 7) p).1) / 100)) (n := ((((rdB (md 5) (md 0 7) p).1) / 10) % 10)) (p := (((rdB (md 5) (md 0 7) p).1) % 10))
          refine x_istore C dX7_bookAll_51 (by decide) (rfl : _ = [_, _, _, _, _]) ?_
          refine x_iload C dX7_bookAll_53 rfl ?_
          refine x_if_ge 65 C dX7_bookAll_55 (by decide) ⟨by omega, by omega⟩ (fun c_5 => ?_) (fun c_5 => ?_)
          · have me1 := mErr_0 c_5
            refine x_aload_n C dX7_bookAll_65 rfl ?_
            refine x_iload_n C dX7_bookAll_66 rfl ?_
            refine x_bipush C dX7_bookAll_67 (by decide) ?_
            refine x_idiv C dX7_bookAll_69 ⟨(by omega), (by omega)⟩ ⟨by omega, by omega⟩ (by omega) (by omega) ?_
            refine x_iload_n C dX7_bookAll_70 rfl ?_
            refine x_bipush C dX7_bookAll_71 (by decide) ?_
            refine x_idiv C dX7_bookAll_73 ⟨(by omega), (by omega)⟩ ⟨by omega, by omega⟩ (by omega) (by omega) ?_
            refine x_bipush C dX7_bookAll_74 (by decide) ?_
            refine x_irem C dX7_bookAll_76 ⟨(by omega), (by omega)⟩ ⟨by omega, by omega⟩ (by omega) (by omega) ?_
            refine x_iload_n C dX7_bookAll_77 rfl ?_
            refine x_bipush C dX7_bookAll_78 (by decide) ?_
            refine x_irem C dX7_bookAll_80 ⟨(by omega), (by omega)⟩ ⟨by omega, by omega⟩ (by omega) (by omega) ?_
            refine x_callV (nA := 3) (As := [vI (((rdB (md 5) (md 0 7) p).1) / 100), vI ((((rdB (md 5) (md 0 7) p).1) / 10) % 10), vI (((rdB (md 5) (md 0 7) p).1) % 10)]) (rest := []) C (m_X7_addBooking hE (r := g) (a := (((rdB (md 5) (md 0 7) p).1) / 100)) (n := ((((rdB (md 5) (md 0 7) p).1) / 10) % 10)) (p := (((rdB (md 5) (md 0 7) p).1) % 10)) (by omega) (by omega)) q_813 q_815 q_26 q_64 q_816 (by decide +kernel) (wl_m 0 (by decide)) rfl rfl (by decide) (by decide) (Nat.le_of_ble_eq_true rfl) dX7_bookAll_81 rfl ?_
            refine x_pop C dX7_bookAll_84 rfl ?_
            refine x_aload_n C dX7_bookAll_85 rfl ?_
            refine x_dup C dX7_bookAll_86 rfl ?_
            refine gm_0_5 C q_756 dX7_bookAll_87 (show _ = (mPl (aX md r) (rdB (md 5) (md 0 7) p).2) 0 5 from rfl) ?_
            refine x_const C dX7_bookAll_90 ?_
            refine x_iadd C dX7_bookAll_91 ?_
            refine pm_0_5 C q_756 dX7_bookAll_92 rfl ?_
            refine G.of ?_ rfl rfl (show _ = upr (mPl (aX md r) ((rdB (md 5) (md 0 7) p).2 + 1)) 1 (mAdd g (((rdB (md 5) (md 0 7) p).1) / 100) ((((rdB (md 5) (md 0 7) p).1) / 10) % 10) (((rdB (md 5) (md 0 7) p).1) % 10)) from (by rw [show mPl (aX md r) (rdB (md 5) (md 0 7) p).2 0 5 = (rdB (md 5) (md 0 7) p).2 from by show up1 ((aX md r) 0) 5 (rdB (md 5) (md 0 7) p).2 5 = (rdB (md 5) (md 0 7) p).2; rw [up1_same]]; exact mPl_w)) rfl
            refine x_iinc C dX7_bookAll_95 rfl (by decide) (rfl : _ = [_, _, _, _, _]) ?_
            refine x_goto 22 C dX7_bookAll_98 (by decide) ?_
            obtain ⟨n9, rfl⟩ : ∃ n9, n = n9 + 1 := ⟨n - 1, by omega⟩
            have me0 := mErr_0 c_5
            have e1 : mAdd g ((rdB (md 5) (md 0 7) p).1 / 100) ((rdB (md 5) (md 0 7) p).1 / 10 % 10) ((rdB (md 5) (md 0 7) p).1 % 10) 1 = g 1 + 1 := by
              show up1 (up1 (up1 (up1 (up1 (up1 (up1 (up1 (up1 g 1 (g 1 + 1)) _ _) _ _) _ _) _ _) _ _) _ _) _ _) _ _ 1 = _
              rw [up1_ne (by decide), up1_ne (by omega), up1_ne (by omega), up1_ne (by omega), up1_ne (by omega), up1_ne (by omega), up1_ne (by omega), up1_ne (by omega), up1_same]
            refine G.wk (ih n9 ((rdB (md 5) (md 0 7) p).2 + 1) (mAdd g ((rdB (md 5) (md 0 7) p).1 / 100) ((rdB (md 5) (md 0 7) p).1 / 10 % 10) ((rdB (md 5) (md 0 7) p).1 % 10)) (MR_mAdd rg (by omega) ⟨by omega, by omega⟩ ⟨by omega, by omega⟩ ⟨by omega, by omega⟩) (by omega) hc.2 (by rw [e1]; omega) (by omega) (by rw [hq]; exact if_neg (Int.not_lt.mpr c_5)) (by omega)) ?_
            simp only [leL, and_self, and_true, true_and]; exact congrArg (fun z => some (vI z)) (by omega)
          · refine x_aload_n C dX7_bookAll_58 rfl ?_
            refine x_callV (nA := 0) (As := []) (rest := []) C (m_X7_takeBack hE (r := g) (md := (mPl (aX md r) (rdB (md 5) (md 0 7) p).2))) q_842 q_844 q_32 q_64 q_845 (by decide +kernel) (wl_m 0 (by decide)) rfl rfl (by decide) (by decide) (Nat.le_of_ble_eq_true rfl) dX7_bookAll_59 rfl ?_
            have e9 : aB md r = (mErr g ((rdB (md 5) (md 0 7) p).1 / 100) ((rdB (md 5) (md 0 7) p).1 / 10 % 10) ((rdB (md 5) (md 0 7) p).1 % 10), (rdB (md 5) (md 0 7) p).2, g) := by
              rw [hq]; obtain ⟨n9, rfl⟩ : ∃ n9, n = n9 + 1 := ⟨n - 1, by omega⟩
              exact if_pos (by omega)
            refine x_iload C dX7_bookAll_62 rfl ?_
            exact x_iret C D rfl dX7_bookAll_64 (by unfold yBookAll; rw [if_neg (by omega), if_pos (by rw [e9]; dsimp only; omega)]; show _ = (aB md r).1; rw [e9]; try rfl) rfl rfl (by unfold yBookAll; rw [if_neg (by omega), if_pos (by rw [e9]; dsimp only; omega)]; show _ = upr (mPl (aX md r) (aB md r).2.1) 1 (cpI (aX md r 3) (aB md r).2.2 2739); rw [e9]; try rfl)
    refine G.wk (K22 ((rdAll (md 5) (md 0 7)).1.toNat + 1) (rdAll (md 5) (md 0 7)).1.toNat 0 r R (by decide) cn (by omega) (by omega) rfl (by omega)) ?_
    simp only [leL, and_self, and_true, true_and]; exact congrArg (fun z => some (vI z)) (by omega)
  · refine x_iload_n C dX7_bookAll_9 rfl ?_
    exact x_iret C D rfl dX7_bookAll_10 (by unfold yBookAll; rw [if_pos (by omega)]) rfl rfl (by unfold yBookAll; rw [if_pos (by omega)])
