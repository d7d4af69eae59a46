/-! WHAT A HUT TELLS (printed by tell.py) -/
theorem GC.nil {F : FD} {D : va_G} {A : Nat → Prop} {ws : va_W} {ce sl pc : Nat} {L : List (Option Value)} {st : List Value} (k : GC F D A ws ce sl pc L st) : GC F D A (ws ++ []) ce sl pc L st := by
  have e : ws ++ [] = ws := List.append_nil ws
  rw [e]; exact k
theorem GC.unnil {F : FD} {D : va_G} {A : Nat → Prop} {ws : va_W} {ce sl pc : Nat} {L : List (Option Value)} {st : List Value} (k : GC F D A (ws ++ []) ce sl pc L st) : GC F D A ws ce sl pc L st := by
  have e : ws ++ [] = ws := List.append_nil ws
  rw [e] at k; exact k
set_option maxRecDepth 100000 in
set_option maxHeartbeats 8000000 in
theorem m_L_tell {hs : Nat → HV} {tp : HV} {r : Int → Int} {k : Int} {E : HE} (hE : HI E) (S : HLS hs tp r k) : Mn yL_tell cL_tell 3 5 E hs tp (tlF r) := by
  refine mk_Mn hE (plainFor_of_name (by decide)) (by decide) fun F sz C hr X => ?_
  have hAA : ∀ q, AA E q → AZ E sz q := fun _ h => Or.inl h
  refine k_bipush C dL_tell_0 (by decide) ?_
  refine GC.nil ?_
  refine k_newi (N := 64) C dL_tell_2 rfl (Nat.le_of_ble_eq_true rfl) (hr _ _ (by decide) (by decide)) fun q => ?_
  have e0 : arr E.2.2.1 z0 = arr E.2.2.1 (cut (tellF r) 0) := by rw [cut_0]
  show GC F E.1 _ (wl E hs tp zM ++ [(q, arr E.2.2.1 z0)]) 1 64 _ _ _
  rw [e0]
  refine k_astore_n C dL_tell_4 (by decide) (rfl : _ = [_, _, _]) ?_
  refine k_const C dL_tell_5 ?_
  refine k_istore_n C dL_tell_6 (by decide) (rfl : _ = [_, _, _]) ?_
  have K7 : ∀ (nn : Nat) (i : Int), 0 ≤ i → i ≤ 23 → 23 - i < nn →  GC F E.1 (AZ E sz) (wl E hs tp zM ++ [(q, arr E.2.2.1 (cut (tellF r) (i)))]) 1 64 7 [some (.ref (tA E 0)), some (.ref (q)), some (vI i)] [] := by
    intro nn
    induction nn with
    | zero => intro i i0 i1 hz; exact absurd hz (by omega)
    | succ nn ih =>
      intro i i0 i1 hz
      refine k_iload_n C dL_tell_7 rfl ?_
      refine k_bipush C dL_tell_8 (by decide) ?_
      refine k_icmp_ge 27 C dL_tell_10 (by decide) ⟨by omega, by omega⟩ ⟨by decide, by decide⟩ (fun c_1 => ?_) (fun c_1 => ?_)
      · have hi : i = 23 := by omega
        subst hi
        refine k_const C dL_tell_27 ?_
        refine k_istore_n C dL_tell_28 (by decide) (rfl : _ = [_, _, _]) ?_
        have K29 : ∀ (nn : Nat) (j : Int), 0 ≤ j → j ≤ 10 → 10 - j < nn →  GC F E.1 (AZ E sz) (wl E hs tp zM ++ [(q, arr E.2.2.1 (cut (tellF r) (23 + j)))]) 1 64 29 [some (.ref (tA E 0)), some (.ref (q)), some (vI j)] [] := by
          intro nn2
          induction nn2 with
          | zero => intro j j0 j1 hz2; exact absurd hz2 (by omega)
          | succ nn2 ih2 =>
            intro j j0 j1 hz2
            refine k_iload_n C dL_tell_29 rfl ?_
            refine k_bipush C dL_tell_30 (by decide) ?_
            refine k_icmp_ge 55 C dL_tell_32 (by decide) ⟨by omega, by omega⟩ ⟨by decide, by decide⟩ (fun c_2 => ?_) (fun c_2 => ?_)
            · have hj : j = 10 := by omega
              subst hj
              refine k_const C dL_tell_55 ?_
              refine k_istore_n C dL_tell_56 (by decide) (rfl : _ = [_, _, _]) ?_
              have K57 : ∀ (nn : Nat) (m : Int), 0 ≤ m → m ≤ 4 → 4 - m < nn →  GC F E.1 (AZ E sz) (wl E hs tp zM ++ [(q, arr E.2.2.1 (cut (tellF r) (33 + m)))]) 1 64 57 [some (.ref (tA E 0)), some (.ref (q)), some (vI m)] [] := by
                intro nn3
                induction nn3 with
                | zero => intro m m0 m1 hz3; exact absurd hz3 (by omega)
                | succ nn3 ih3 =>
                  intro m m0 m1 hz3
                  refine k_iload_n C dL_tell_57 rfl ?_
                  refine k_const C dL_tell_58 ?_
                  refine k_icmp_ge 79 C dL_tell_59 (by decide) ⟨by omega, by omega⟩ ⟨by decide, by decide⟩ (fun c_3 => ?_) (fun c_3 => ?_)
                  · have hm : m = 4 := by omega
                    subst hm
                    refine k_const C dL_tell_79 ?_
                    refine k_istore_n C dL_tell_80 (by decide) (rfl : _ = [_, _, _]) ?_
                    have K81 : ∀ (nn : Nat) (b : Int), 0 ≤ b → b ≤ 9 → 9 - b < nn →  GC F E.1 (AZ E sz) (wl E hs tp zM ++ [(q, arr E.2.2.1 (cut (tellF r) (37 + 3 * b)))]) 1 64 81 [some (.ref (tA E 0)), some (.ref (q)), some (vI b)] [] := by
                      intro nn4
                      induction nn4 with
                      | zero => intro b b0 b1 hz4; exact absurd hz4 (by omega)
                      | succ nn4 ih4 =>
                        intro b b0 b1 hz4
                        refine k_iload_n C dL_tell_81 rfl ?_
                        refine k_bipush C dL_tell_82 (by decide) ?_
                        refine k_icmp_ge 156 C dL_tell_84 (by decide) ⟨by omega, by omega⟩ ⟨by decide, by decide⟩ (fun c_4 => ?_) (fun c_4 => ?_)
                        · have hb : b = 9 := by omega
                          subst hb
                          refine k_aload_n C dL_tell_156 rfl ?_
                          exact k_aret C X dL_tell_157
                        · refine k_aload_n C dL_tell_87 rfl ?_
                          refine k_bipush C dL_tell_88 (by decide) ?_
                          refine k_const C dL_tell_90 ?_
                          refine k_iload_n C dL_tell_91 rfl ?_
                          refine k_imul C dL_tell_92 ?_
                          refine k_iadd C dL_tell_93 ?_
                          refine k_aload_n C dL_tell_94 rfl ?_
                          refine k_iload_n C dL_tell_95 rfl ?_
                          refine k_const C dL_tell_96 ?_
                          refine k_callMV (nA := 2) (As := [vI b, vI 0]) (rest := [vI (37 + (3 * b)), .ref (q)]) C hE hAA (l_booking hE S (b := b) (w := 0) ⟨by omega, by omega⟩ ⟨by decide, by decide⟩) q_329 q_330 q_331 q_21 q_332 (by decide +kernel) (wl_t 0 (by decide)) rfl rfl (by decide) (by decide) (hr _ _ (by decide) (by decide)) (Nat.le_of_ble_eq_true rfl) dL_tell_97 rfl ?_
                          refine k_put1 (g' := cut (tellF r) (38 + 3 * b)) C (by omega) (by omega) ((cut_s (m := 37 + 3 * b) (by omega) (tell_4 (by omega))).trans (congrArg (cut (tellF r)) (by omega))) dL_tell_100 ?_
                          refine k_aload_n C dL_tell_101 rfl ?_
                          refine k_bipush C dL_tell_102 (by decide) ?_
                          refine k_const C dL_tell_104 ?_
                          refine k_iload_n C dL_tell_105 rfl ?_
                          refine k_imul C dL_tell_106 ?_
                          refine k_iadd C dL_tell_107 ?_
                          refine k_bipush C dL_tell_108 (by decide) ?_
                          refine k_aload_n C dL_tell_110 rfl ?_
                          refine k_iload_n C dL_tell_111 rfl ?_
                          refine k_const C dL_tell_112 ?_
                          refine k_callMV (nA := 2) (As := [vI b, vI 4]) (rest := [vI 100, vI (38 + (3 * b)), .ref (q)]) C hE hAA (l_booking hE S (b := b) (w := 4) ⟨by omega, by omega⟩ ⟨by decide, by decide⟩) q_329 q_330 q_331 q_21 q_332 (by decide +kernel) (wl_t 0 (by decide)) rfl rfl (by decide) (by decide) (hr _ _ (by decide) (by decide)) (Nat.le_of_ble_eq_true rfl) dL_tell_113 rfl ?_
                          refine k_imul C dL_tell_116 ?_
                          refine k_aload_n C dL_tell_117 rfl ?_
                          refine k_iload_n C dL_tell_118 rfl ?_
                          refine k_const C dL_tell_119 ?_
                          refine k_callMV (nA := 2) (As := [vI b, vI 2]) (rest := [vI (100 * (yBooking r b 4)), vI (38 + (3 * b)), .ref (q)]) C hE hAA (l_booking hE S (b := b) (w := 2) ⟨by omega, by omega⟩ ⟨by decide, by decide⟩) q_329 q_330 q_331 q_21 q_332 (by decide +kernel) (wl_t 0 (by decide)) rfl rfl (by decide) (by decide) (hr _ _ (by decide) (by decide)) (Nat.le_of_ble_eq_true rfl) dL_tell_120 rfl ?_
                          refine k_iadd C dL_tell_123 ?_
                          refine k_put1 (g' := cut (tellF r) (39 + 3 * b)) C (by omega) (by omega) ((cut_s (m := 38 + 3 * b) (by omega) (tell_5 (by omega))).trans (congrArg (cut (tellF r)) (by omega))) dL_tell_124 ?_
                          refine k_aload_n C dL_tell_125 rfl ?_
                          refine k_bipush C dL_tell_126 (by decide) ?_
                          refine k_const C dL_tell_128 ?_
                          refine k_iload_n C dL_tell_129 rfl ?_
                          refine k_imul C dL_tell_130 ?_
                          refine k_iadd C dL_tell_131 ?_
                          refine k_bipush C dL_tell_132 (by decide) ?_
                          refine k_aload_n C dL_tell_134 rfl ?_
                          refine k_iload_n C dL_tell_135 rfl ?_
                          refine k_bipush C dL_tell_136 (by decide) ?_
                          refine k_callMV (nA := 2) (As := [vI b, vI 8]) (rest := [vI 100, vI (39 + (3 * b)), .ref (q)]) C hE hAA (l_booking hE S (b := b) (w := 8) ⟨by omega, by omega⟩ ⟨by decide, by decide⟩) q_329 q_330 q_331 q_21 q_332 (by decide +kernel) (wl_t 0 (by decide)) rfl rfl (by decide) (by decide) (hr _ _ (by decide) (by decide)) (Nat.le_of_ble_eq_true rfl) dL_tell_138 rfl ?_
                          refine k_imul C dL_tell_141 ?_
                          refine k_aload_n C dL_tell_142 rfl ?_
                          refine k_iload_n C dL_tell_143 rfl ?_
                          refine k_const C dL_tell_144 ?_
                          refine k_callMV (nA := 2) (As := [vI b, vI 5]) (rest := [vI (100 * (yBooking r b 8)), vI (39 + (3 * b)), .ref (q)]) C hE hAA (l_booking hE S (b := b) (w := 5) ⟨by omega, by omega⟩ ⟨by decide, by decide⟩) q_329 q_330 q_331 q_21 q_332 (by decide +kernel) (wl_t 0 (by decide)) rfl rfl (by decide) (by decide) (hr _ _ (by decide) (by decide)) (Nat.le_of_ble_eq_true rfl) dL_tell_145 rfl ?_
                          refine k_iadd C dL_tell_148 ?_
                          refine k_put1 (g' := cut (tellF r) (37 + 3 * (b + 1))) C (by omega) (by omega) ((cut_s (m := 39 + 3 * b) (by omega) (tell_6 (by omega))).trans (congrArg (cut (tellF r)) (by omega))) dL_tell_149 ?_
                          refine k_iinc C dL_tell_150 rfl (by decide) (rfl : _ = [_, _, _]) ?_
                          refine k_goto 81 C dL_tell_153 (by decide) ?_
                          refine GC.wk (ih4 (b + 1) (by omega) (by omega) (by omega)) ?_
                          simp only [leL, and_self]
                    exact K81 10 0 (by decide) (by decide) (by decide)
                  · refine k_aload_n C dL_tell_62 rfl ?_
                    refine k_bipush C dL_tell_63 (by decide) ?_
                    refine k_iload_n C dL_tell_65 rfl ?_
                    refine k_iadd C dL_tell_66 ?_
                    refine k_aload_n C dL_tell_67 rfl ?_
                    refine k_iload_n C dL_tell_68 rfl ?_
                    refine k_callMV (nA := 1) (As := [vI m]) (rest := [vI (33 + m), .ref (q)]) C hE hAA (l_coins hE S (w := m) ⟨by omega, by omega⟩) q_317 q_318 q_319 q_21 q_320 (by decide +kernel) (wl_t 0 (by decide)) rfl rfl (by decide) (by decide) (hr _ _ (by decide) (by decide)) (Nat.le_of_ble_eq_true rfl) dL_tell_69 rfl ?_
                    refine k_put1 (g' := cut (tellF r) (33 + (m + 1))) C (by omega) (by omega) ((cut_s (m := 33 + m) (by omega) (tell_3 (by omega) (by omega))).trans (congrArg (cut (tellF r)) (by omega))) dL_tell_72 ?_
                    refine k_iinc C dL_tell_73 rfl (by decide) (rfl : _ = [_, _, _]) ?_
                    refine k_goto 57 C dL_tell_76 (by decide) ?_
                    refine GC.wk (ih3 (m + 1) (by omega) (by omega) (by omega)) ?_
                    simp only [leL, and_self]
              exact K57 5 0 (by decide) (by decide) (by decide)
            · refine k_aload_n C dL_tell_35 rfl ?_
              refine k_bipush C dL_tell_36 (by decide) ?_
              refine k_iload_n C dL_tell_38 rfl ?_
              refine k_iadd C dL_tell_39 ?_
              refine k_aload_n C dL_tell_40 rfl ?_
              refine k_bipush C dL_tell_41 (by decide) ?_
              refine k_iload_n C dL_tell_43 rfl ?_
              refine k_iadd C dL_tell_44 ?_
              refine k_callMV (nA := 1) (As := [vI (25 + j)]) (rest := [vI (23 + j), .ref (q)]) C hE hAA (l_count hE S (w := 25 + j) ⟨by omega, by omega⟩ (by omega) (by omega)) q_282 q_283 q_284 q_21 q_285 (by decide +kernel) (wl_t 0 (by decide)) rfl rfl (by decide) (by decide) (hr _ _ (by decide) (by decide)) (Nat.le_of_ble_eq_true rfl) dL_tell_45 rfl ?_
              refine k_put1 (g' := cut (tellF r) (23 + (j + 1))) C (by omega) (by omega) ((cut_s (m := 23 + j) (by omega) (tell_2 (by omega) (by omega))).trans (congrArg (cut (tellF r)) (by omega))) dL_tell_48 ?_
              refine k_iinc C dL_tell_49 rfl (by decide) (rfl : _ = [_, _, _]) ?_
              refine k_goto 29 C dL_tell_52 (by decide) ?_
              refine GC.wk (ih2 (j + 1) (by omega) (by omega) (by omega)) ?_
              simp only [leL, and_self]
        exact K29 11 0 (by decide) (by decide) (by decide)
      · refine k_aload_n C dL_tell_13 rfl ?_
        refine k_iload_n C dL_tell_14 rfl ?_
        refine k_aload_n C dL_tell_15 rfl ?_
        refine k_iload_n C dL_tell_16 rfl ?_
        refine k_callMV (nA := 1) (As := [vI i]) (rest := [vI i, .ref (q)]) C hE hAA (l_count hE S (w := i) ⟨by omega, by omega⟩ (by omega) (by omega)) q_282 q_283 q_284 q_21 q_285 (by decide +kernel) (wl_t 0 (by decide)) rfl rfl (by decide) (by decide) (hr _ _ (by decide) (by decide)) (Nat.le_of_ble_eq_true rfl) dL_tell_17 rfl ?_
        refine k_put1 (g' := cut (tellF r) (i + 1)) C (by omega) (by omega) ((cut_s (m := i) (by omega) (tell_1 (by omega))).trans (congrArg (cut (tellF r)) (by omega))) dL_tell_20 ?_
        refine k_iinc C dL_tell_21 rfl (by decide) (rfl : _ = [_, _, _]) ?_
        refine k_goto 7 C dL_tell_24 (by decide) ?_
        refine GC.wk (ih (i + 1) (by omega) (by omega) (by omega)) ?_
        simp only [leL, and_self]
  exact K7 24 0 (by decide) (by decide) (by decide)
