/-! THE LAW's LOOP (printed by law34.py) -/
section LAWR
variable {F : FD} {own : String} {cc : ByteArray} {nL kf : Nat} {D : va_G} {T : Nat → ClassId} {A : Nat → Prop} {bb : Nat → Nat} {ws : va_W} {ce sl pc : Nat} {L : List (Option Value)} {st : List Value} {a b : Int}
theorem k_same {off : Int} (tgt : Nat) (C : CC F own cc nL kf D T A bb) (d : decode cc pc = .ok (.if_icmp .eq off, 3)) (ht : (pc : Int) + off = (tgt : Int)) (eq0 : a = b) (k : GC F D A ws ce sl tgt L st) : GC F D A ws ce sl pc L (vI b :: vI a :: st) := by
  obtain ⟨p, l, e, R, s, m, args, below, meth, c, Q⟩ := F
  subst eq0
  intro H locs ls hP hD hS hL
  exact lv_icmp_eq C.1 C.2.1 d ht (fun _ => k H locs ls hP hD hS hL) (fun h => absurd rfl h)
theorem k_nsame {off : Int} (tgt : Nat) (C : CC F own cc nL kf D T A bb) (d : decode cc pc = .ok (.if_icmp .ne off, 3)) (ht : (pc : Int) + off = (tgt : Int)) (eq0 : a = b) (k : GC F D A ws ce sl (pc + 3) L st) : GC F D A ws ce sl pc L (vI b :: vI a :: st) := by
  obtain ⟨p, l, e, R, s, m, args, below, meth, c, Q⟩ := F
  subst eq0
  intro H locs ls hP hD hS hL
  exact lv_icmp_ne C.1 C.2.1 d ht (fun h => absurd rfl h) (fun _ => k H locs ls hP hD hS hL)
theorem has2 {i j x y : Nat} {f g : va_E} (C : CC F own cc nL kf D T A bb) (h1 : ws[i]? = some (x, f)) (h2 : ws[j]? = some (y, g)) : hasO F D A ws (PS2 D T [(x, f), (y, g)]) := by
  obtain ⟨p, l, e, R, s, m, args, below, meth, c, Q⟩ := F
  obtain ⟨hx, hb, hml, hown, hts, hK, -⟩ := C
  intro H locs U hP hS hU hW
  refine ⟨fun k z hz => ?_, hK.moved hW.alike⟩
  rw [hU]
  match k, hz with
  | 0, hz => cases hz; exact hP i _ h1
  | 1, hz => cases hz; exact hP j _ h2
  | k + 2, hz => simp at hz
end LAWR
abbrev LL (b : Nat) (E : HE) (e : Int) : List (Option Value) := [some (.ref b), some (.ref (tA E 0)), some (vI e), none, none, none, none, none, none, none]
set_option maxRecDepth 100000 in
set_option maxHeartbeats 8000000 in
theorem law_loop {F : FD} {E : HE} {A : Nat → Prop} {b Ls : Nat} {xs : Nat → Int32} (C : CC F RL code 10 11 E.1 E.2.2.1 A E.2.2.2) (hE : HI E) (hAA : ∀ q, AA E q → A q) (hr : ∀ a b, a ≤ 600000 → b ≤ 7302250 → rmC F a b) (hX : ∀ ws, hasO F E.1 A ws (PX2 b Ls xs)) (hLs : Ls ≤ 260) (Z : ∀ (hs : Nat → HV) (tp : HV) (ce sl : Nat) (L : List (Option Value)), ce ≤ 600000 → sl ≤ 7302250 → GC F E.1 A (wl E hs tp zM ++ []) ce sl 199 L []) :
    ∀ (n e : Nat), e ≤ 24 → 24 - e < n → ∀ (hs : Nat → HV) (tp : HV) (r : Int → Int) (k : Int), HLS hs tp r k → V (r 0) r → GC F E.1 A (wl E hs tp zM ++ []) (128 + 4 * e) (12711 + 256 * e) 10 (LL b E e) [] := by
  intro n
  induction n with
  | zero => intro e _ h; exact absurd h (by omega)
  | succ n ih =>
    intro e e0 e9 hs tp r k S hV
    have k0 := S.k0
    refine k_iload_n C dL_law_10 rfl ?_
    refine k_bipush C dL_law_11 (by decide) ?_
    refine k_icmp_ge 199 C dL_law_13 (by decide) ⟨by omega, by omega⟩ ⟨by decide, by decide⟩ (fun c_1 => ?_) (fun c_1 => ?_)
    · exact Z _ _ _ _ _ (by omega) (by omega)
    · have K166 : ∀ (hs' : Nat → HV) (tp' : HV) (r' : Int → Int) (k' : Int) (ws' : va_W) (ce' sl' : Nat), HLS hs' tp' r' k' → V (r' 0) r' → ce' ≤ 128 + 4 * (e + 1) → sl' ≤ 12711 + 256 * (e + 1) → GC F E.1 A (wl E hs' tp' zM ++ ws') ce' sl' 166 [some (.ref (b)), some (.ref (tA E 0)), some (vI (e : Int)), none, some (vI (cellV Ls xs (2 * (e : Int) + 1))), none, none, none, none, none] [] := by
        intro hs' tp' r' k' ws' ce' sl' T1 TV c1 c2
        refine GC.wide c1 c2 (GC.drop (GC.unnil ?_))
        refine k_aload_n C dL_law_166 rfl ?_
        refine k_callX (nA := 1) (As := [.ref (tA E 0)]) (rest := []) C hE hAA (m_L_sums hE T1 TV) q_362 q_363 q_20 q_364 (by decide +kernel) rfl (by decide) (by decide) (hr _ _ (by omega) (by omega)) (Nat.le_of_ble_eq_true rfl) dL_law_167 rfl fun v5 hs5 tp5 hp5 => ?_
        obtain ⟨rfl, T2⟩ := hp5
        refine k_if_eq 191 C dL_law_170 (by decide) ⟨by decide, by decide⟩ (fun z => absurd z (by decide)) (fun _ => ?_)
        refine k_iload_n C dL_law_173 rfl ?_
        refine k_const C dL_law_174 ?_
        refine k_irem C dL_law_175 ⟨by omega, by omega⟩ ⟨by omega, by omega⟩ (by omega) (by omega) ?_
        refine k_const C dL_law_176 ?_
        refine k_icmp_ne 193 C dL_law_177 (by decide) ⟨by omega, by omega⟩ ⟨by decide, by decide⟩ (fun c_2 => ?_) (fun c_2 => ?_)
        · refine k_iinc C dL_law_193 rfl (by decide) (rfl : _ = [_, _, _, _, _, _, _, _, _, _]) ?_
          refine k_goto 10 C dL_law_196 (by decide) ?_
          refine GC.wk (ih (e + 1) (by omega) (by omega) _ _ _ _ T2 TV) ?_
          exact ⟨rfl, rfl, rfl, trivial⟩
        · refine k_aload_n C dL_law_180 rfl ?_
          refine k_iload C dL_law_181 rfl ?_
          refine k_const C dL_law_183 ?_
          refine k_ishr C dL_law_184 ?_
          refine k_callX (nA := 2) (As := [.ref (tA E 0), vI (shR (cellV Ls xs (2 * (e : Int) + 1)) 1)]) (rest := []) C hE hAA (m_L_would hE T2 (x := shR (cellV Ls xs (2 * (e : Int) + 1)) 1)) q_425 q_426 q_20 q_427 (by decide +kernel) rfl (by decide) (by decide) (hr _ _ (by omega) (by omega)) (Nat.le_of_ble_eq_true rfl) dL_law_185 rfl fun v6 hs6 tp6 hp6 => ?_
          obtain ⟨rfl, k6, T3⟩ := hp6
          refine k_if_ne 193 C dL_law_188 (by decide) ⟨by decide, by decide⟩ (fun _ => ?_) (fun z => absurd z (by decide))
          refine k_iinc C dL_law_193 rfl (by decide) (rfl : _ = [_, _, _, _, _, _, _, _, _, _]) ?_
          refine k_goto 10 C dL_law_196 (by decide) ?_
          refine GC.wk (ih (e + 1) (by omega) (by omega) _ _ _ _ T3 TV) ?_
          exact ⟨rfl, rfl, rfl, trivial⟩
      refine k_aload_n C dL_law_16 rfl ?_
      refine k_const C dL_law_17 ?_
      refine k_iload_n C dL_law_18 rfl ?_
      refine k_imul C dL_law_19 ?_
      refine k_callO (nA := 2) (As := [.ref (b), vI (2 * (e : Int))]) (rest := []) C (m_L_cell (b := b) (Ls := Ls) (xs := xs) hLs (k := 2 * (e : Int)) ⟨by omega, by omega⟩) PX2.blind (hX _) q_306 q_307 q_20 q_308 (by decide +kernel) rfl (by decide) (by decide) (hr _ _ (by omega) (by omega)) (Nat.le_of_ble_eq_true rfl) dL_law_20 rfl ?_
      refine k_istore_n C dL_law_23 (by decide) (rfl : _ = [_, _, _, _, _, _, _, _, _, _]) ?_
      refine k_aload_n C dL_law_24 rfl ?_
      refine k_const C dL_law_25 ?_
      refine k_iload_n C dL_law_26 rfl ?_
      refine k_imul C dL_law_27 ?_
      refine k_const C dL_law_28 ?_
      refine k_iadd C dL_law_29 ?_
      refine k_callO (nA := 2) (As := [.ref (b), vI ((2 * (e : Int)) + 1)]) (rest := []) C (m_L_cell (b := b) (Ls := Ls) (xs := xs) hLs (k := (2 * (e : Int)) + 1) ⟨by omega, by omega⟩) PX2.blind (hX _) q_306 q_307 q_20 q_308 (by decide +kernel) rfl (by decide) (by decide) (hr _ _ (by omega) (by omega)) (Nat.le_of_ble_eq_true rfl) dL_law_30 rfl ?_
      refine k_istore C dL_law_33 (by decide) (rfl : _ = [_, _, _, _, _, _, _, _, _, _]) ?_
      refine k_aload_n C dL_law_35 rfl ?_
      refine k_callN (rest := []) C hE hAA (m_L_tell hE S) q_314 q_315 q_20 q_316 (by decide +kernel) (by decide) (by decide) (hr _ _ (by omega) (by omega)) (Nat.le_of_ble_eq_true rfl) dL_law_36 fun q1 => ?_
      refine k_astore C dL_law_39 (by decide) (rfl : _ = [_, _, _, _, _, _, _, _, _, _]) ?_
      refine k_aload_n C dL_law_41 rfl ?_
      refine k_bipush C dL_law_42 (by decide) ?_
      refine k_callMV (nA := 1) (As := [vI 23]) (rest := []) C hE hAA (l_count23 hE S) q_282 q_283 q_284 q_21 q_285 (by decide +kernel) (wl_t 0 (by decide)) rfl rfl (by decide) (by decide) (hr _ _ (by omega) (by omega)) (Nat.le_of_ble_eq_true rfl) dL_law_44 rfl ?_
      refine k_istore C dL_law_47 (by decide) (rfl : _ = [_, _, _, _, _, _, _, _, _, _]) ?_
      refine k_aload_n C dL_law_49 rfl ?_
      refine k_iload_n C dL_law_50 rfl ?_
      refine k_iload C dL_law_51 rfl ?_
      refine k_callX (nA := 3) (As := [.ref (tA E 0), vI (cellV Ls xs (2 * (e : Int))), vI (cellV Ls xs ((2 * (e : Int)) + 1))]) (rest := []) C hE hAA (m_L_act hE S (g := cellV Ls xs (2 * (e : Int))) (x := cellV Ls xs ((2 * (e : Int)) + 1))) q_592 q_593 q_20 q_594 (by decide +kernel) rfl (by decide) (by decide) (hr _ _ (by omega) (by omega)) (Nat.le_of_ble_eq_true rfl) dL_law_53 rfl fun v1 hs1 tp1 hp1 => ?_
      obtain ⟨z1, rfl, A1⟩ := hp1
      refine k_istore C dL_law_56 (by decide) (rfl : _ = [_, _, _, _, _, _, _, _, _, _]) ?_
      have ok := ok_act (g := cellV Ls xs (2 * (e : Int))) (x := cellV Ls xs (2 * (e : Int) + 1)) S.mr hV S.u5
      rcases hz : zAct (cellV Ls xs (2 * (e : Int))) (cellV Ls xs (2 * (e : Int) + 1)) r with ⟨zv, _ | g1⟩
      · rw [hz] at A1 ok
        have e1 : z1 = zv := A1.1
        have S1 : HLS hs1 tp1 r k := A1.2
        have o1 : -1000005 ≤ z1 ∧ z1 < 0 := by rw [e1]; exact ok
        refine k_aload_n C dL_law_58 rfl ?_
        refine k_callN (rest := []) C hE hAA (m_L_tell hE S1) q_314 q_315 q_20 q_316 (by decide +kernel) (by decide) (by decide) (hr _ _ (by omega) (by omega)) (Nat.le_of_ble_eq_true rfl) dL_law_59 fun q2 => ?_
        refine k_astore C dL_law_62 (by decide) (rfl : _ = [_, _, _, _, _, _, _, _, _, _]) ?_
        refine k_iload C dL_law_64 rfl ?_
        refine k_if_ge 92 C dL_law_66 (by decide) ⟨by omega, by omega⟩ (fun c_3 => absurd c_3 (by omega)) (fun c_3 => ?_)
        refine k_aload C dL_law_69 rfl ?_
        refine k_aload C dL_law_71 rfl ?_
        refine k_callO (nA := 2) (As := [.ref (q1), .ref (q2)]) (rest := []) C (m_L_same (a := q1) (b := q2) (f := tlF r) (g := tlF r) rfl) PS2.blind (has2 C (wl_inr (j := 0) rfl) (wl_inr (j := 1) rfl)) q_359 q_360 q_20 q_361 (by decide +kernel) rfl (by decide) (by decide) (hr _ _ (by omega) (by omega)) (Nat.le_of_ble_eq_true rfl) dL_law_73 rfl ?_
        refine k_if_eq 90 C dL_law_76 (by decide) ⟨by decide, by decide⟩ (fun z => absurd z (by decide)) (fun _ => ?_)
        refine k_aload_n C dL_law_79 rfl ?_
        refine k_bipush C dL_law_80 (by decide) ?_
        refine k_callMV (nA := 1) (As := [vI 23]) (rest := []) C hE hAA (l_count23 hE S1) q_282 q_283 q_284 q_21 q_285 (by decide +kernel) (wl_t 0 (by decide)) rfl rfl (by decide) (by decide) (hr _ _ (by omega) (by omega)) (Nat.le_of_ble_eq_true rfl) dL_law_82 rfl ?_
        refine k_iload C dL_law_85 rfl ?_
        refine k_same 92 C dL_law_87 (by decide) rfl ?_
        refine k_iload C dL_law_92 rfl ?_
        refine k_if_lt 166 C dL_law_94 (by decide) ⟨by omega, by omega⟩ (fun c_4 => ?_) (fun c_4 => absurd c_4 (by omega))
        refine GC.wk (K166 _ _ _ _ _ _ _ S1 hV (by omega) (by omega)) ?_
        exact ⟨rfl, rfl, rfl, rfl, trivial⟩
      · rw [hz] at A1 ok
        have e1 : z1 = zv := A1.1
        have U1 : HLU hs1 tp1 g1 (kR k) r := A1.2
        have o1 : 0 ≤ z1 ∧ z1 ≤ 1000000 := by rw [e1]; exact ⟨ok.1, ok.2.1⟩
        have V1 : V (g1 0) g1 := ok.2.2
        refine k_aload_n C dL_law_58 rfl ?_
        refine k_callN (rest := []) C hE hAA (m_L_tell hE U1.ls) q_314 q_315 q_20 q_316 (by decide +kernel) (by decide) (by decide) (hr _ _ (by omega) (by omega)) (Nat.le_of_ble_eq_true rfl) dL_law_59 fun q2 => ?_
        refine k_astore C dL_law_62 (by decide) (rfl : _ = [_, _, _, _, _, _, _, _, _, _]) ?_
        refine k_iload C dL_law_64 rfl ?_
        refine k_if_ge 92 C dL_law_66 (by decide) ⟨by omega, by omega⟩ (fun c_5 => ?_) (fun c_5 => absurd c_5 (by omega))
        refine k_iload C dL_law_92 rfl ?_
        refine k_if_lt 166 C dL_law_94 (by decide) ⟨by omega, by omega⟩ (fun c_6 => absurd c_6 (by omega)) (fun c_6 => ?_)
        refine k_iload_n C dL_law_97 rfl ?_
        refine k_const C dL_law_98 ?_
        refine k_callMS (nA := 2) (As := [vI (cellV Ls xs (2 * (e : Int))), vI 4]) (rest := []) C hE hAA (m_L_low hE (v := cellV Ls xs (2 * (e : Int))) (n := 4) ⟨by decide, by decide⟩) q_310 q_311 q_20 q_312 (by decide +kernel) rfl (by decide) (by decide) (hr _ _ (by omega) (by omega)) (Nat.le_of_ble_eq_true rfl) dL_law_99 rfl ?_
        have lw4 := lowF_r (v := cellV Ls xs (2 * (e : Int))) (n := 4) (by decide)
        refine k_if_ne 166 C dL_law_102 (by decide) ⟨by omega, by omega⟩ (fun c_7 => ?_) (fun c_7 => ?_)
        · refine GC.wk (K166 _ _ _ _ _ _ _ U1.ls V1 (by omega) (by omega)) ?_
          exact ⟨rfl, rfl, rfl, rfl, trivial⟩
        · refine k_aload_n C dL_law_105 rfl ?_
          obtain ⟨hs2, tp2, M2, S2⟩ := l_undo hE U1
          refine k_callMV (nA := 0) (As := []) (rest := []) C hE hAA M2 q_254 q_255 q_256 q_21 q_257 (by decide +kernel) (wl_t 0 (by decide)) rfl rfl (by decide) (by decide) (hr _ _ (by omega) (by omega)) (Nat.le_of_ble_eq_true rfl) dL_law_106 rfl ?_
          refine k_istore C dL_law_109 (by decide) (rfl : _ = [_, _, _, _, _, _, _, _, _, _]) ?_
          refine k_aload_n C dL_law_111 rfl ?_
          refine k_callN (rest := []) C hE hAA (m_L_tell hE S2) q_314 q_315 q_20 q_316 (by decide +kernel) (by decide) (by decide) (hr _ _ (by omega) (by omega)) (Nat.le_of_ble_eq_true rfl) dL_law_112 fun q3 => ?_
          refine k_aload C dL_law_115 rfl ?_
          refine k_callO (nA := 2) (As := [.ref (q3), .ref (q1)]) (rest := []) C (m_L_same (a := q3) (b := q1) (f := tlF r) (g := tlF r) rfl) PS2.blind (has2 C (wl_inr (j := 2) rfl) (wl_inr (j := 0) rfl)) q_359 q_360 q_20 q_361 (by decide +kernel) rfl (by decide) (by decide) (hr _ _ (by omega) (by omega)) (Nat.le_of_ble_eq_true rfl) dL_law_117 rfl ?_
          refine k_if_eq 164 C dL_law_120 (by decide) ⟨by decide, by decide⟩ (fun z => absurd z (by decide)) (fun _ => ?_)
          refine k_iload C dL_law_123 rfl ?_
          refine k_iload C dL_law_125 rfl ?_
          refine k_const C dL_law_127 ?_
          refine k_icmp_ne 135 C dL_law_128 (by decide) ⟨by omega, by omega⟩ ⟨by decide, by decide⟩ (fun c_8 => ?_) (fun c_8 => ?_)
          · refine k_iload C dL_law_135 rfl ?_
            refine k_nsame 164 C dL_law_137 (by decide) (by unfold kR; rw [if_neg c_8]; omega) ?_
            refine k_aload_n C dL_law_140 rfl ?_
            refine k_iload_n C dL_law_141 rfl ?_
            refine k_iload C dL_law_142 rfl ?_
            refine k_callX (nA := 3) (As := [.ref (tA E 0), vI (cellV Ls xs (2 * (e : Int))), vI (cellV Ls xs ((2 * (e : Int)) + 1))]) (rest := []) C hE hAA (m_L_act hE S2 (g := cellV Ls xs (2 * (e : Int))) (x := cellV Ls xs ((2 * (e : Int)) + 1))) q_592 q_593 q_20 q_594 (by decide +kernel) rfl (by decide) (by decide) (hr _ _ (by omega) (by omega)) (Nat.le_of_ble_eq_true rfl) dL_law_144 rfl fun v3 hs3 tp3 hp3 => ?_
            obtain ⟨z3, rfl, A3⟩ := hp3
            rw [hz] at A3
            have e3 : z3 = zv := A3.1
            have U3 : HLU hs3 tp3 g1 (kR (kR k - 1)) r := A3.2
            refine k_iload C dL_law_147 rfl ?_
            refine k_nsame 164 C dL_law_149 (by decide) (e3.trans e1.symm) ?_
            refine k_aload_n C dL_law_152 rfl ?_
            refine k_callN (rest := []) C hE hAA (m_L_tell hE U3.ls) q_314 q_315 q_20 q_316 (by decide +kernel) (by decide) (by decide) (hr _ _ (by omega) (by omega)) (Nat.le_of_ble_eq_true rfl) dL_law_153 fun q4 => ?_
            refine k_aload C dL_law_156 rfl ?_
            refine k_callO (nA := 2) (As := [.ref (q4), .ref (q2)]) (rest := []) C (m_L_same (a := q4) (b := q2) (f := tlF g1) (g := tlF g1) rfl) PS2.blind (has2 C (wl_inr (j := 3) rfl) (wl_inr (j := 1) rfl)) q_359 q_360 q_20 q_361 (by decide +kernel) rfl (by decide) (by decide) (hr _ _ (by omega) (by omega)) (Nat.le_of_ble_eq_true rfl) dL_law_158 rfl ?_
            refine k_if_ne 166 C dL_law_161 (by decide) ⟨by decide, by decide⟩ (fun _ => ?_) (fun z => absurd z (by decide))
            refine GC.wk (K166 _ _ _ _ _ _ _ U3.ls V1 (by omega) (by omega)) ?_
            exact ⟨rfl, rfl, rfl, rfl, trivial⟩
          · refine k_const C dL_law_131 ?_
            refine k_goto 137 C dL_law_132 (by decide) ?_
            refine k_nsame 164 C dL_law_137 (by decide) (by unfold kR; rw [if_pos c_8]; decide) ?_
            refine k_aload_n C dL_law_140 rfl ?_
            refine k_iload_n C dL_law_141 rfl ?_
            refine k_iload C dL_law_142 rfl ?_
            refine k_callX (nA := 3) (As := [.ref (tA E 0), vI (cellV Ls xs (2 * (e : Int))), vI (cellV Ls xs ((2 * (e : Int)) + 1))]) (rest := []) C hE hAA (m_L_act hE S2 (g := cellV Ls xs (2 * (e : Int))) (x := cellV Ls xs ((2 * (e : Int)) + 1))) q_592 q_593 q_20 q_594 (by decide +kernel) rfl (by decide) (by decide) (hr _ _ (by omega) (by omega)) (Nat.le_of_ble_eq_true rfl) dL_law_144 rfl fun v3 hs3 tp3 hp3 => ?_
            obtain ⟨z3, rfl, A3⟩ := hp3
            rw [hz] at A3
            have e3 : z3 = zv := A3.1
            have U3 : HLU hs3 tp3 g1 (kR (kR k - 1)) r := A3.2
            refine k_iload C dL_law_147 rfl ?_
            refine k_nsame 164 C dL_law_149 (by decide) (e3.trans e1.symm) ?_
            refine k_aload_n C dL_law_152 rfl ?_
            refine k_callN (rest := []) C hE hAA (m_L_tell hE U3.ls) q_314 q_315 q_20 q_316 (by decide +kernel) (by decide) (by decide) (hr _ _ (by omega) (by omega)) (Nat.le_of_ble_eq_true rfl) dL_law_153 fun q4 => ?_
            refine k_aload C dL_law_156 rfl ?_
            refine k_callO (nA := 2) (As := [.ref (q4), .ref (q2)]) (rest := []) C (m_L_same (a := q4) (b := q2) (f := tlF g1) (g := tlF g1) rfl) PS2.blind (has2 C (wl_inr (j := 3) rfl) (wl_inr (j := 1) rfl)) q_359 q_360 q_20 q_361 (by decide +kernel) rfl (by decide) (by decide) (hr _ _ (by omega) (by omega)) (Nat.le_of_ble_eq_true rfl) dL_law_158 rfl ?_
            refine k_if_ne 166 C dL_law_161 (by decide) ⟨by decide, by decide⟩ (fun _ => ?_) (fun z => absurd z (by decide))
            refine GC.wk (K166 _ _ _ _ _ _ _ U3.ls V1 (by omega) (by omega)) ?_
            exact ⟨rfl, rfl, rfl, rfl, trivial⟩
