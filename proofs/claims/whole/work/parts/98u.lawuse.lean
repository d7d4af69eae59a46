/-! THE LAW's CASE OF THE SHARE IN USE: two doubles in locals -/
section USEW
variable {p : Program} {l : Launch} {e : Env} {R : Room} {s : State} {m : MethodId} {args : Array Value} {below : List Frame} {meth : Method} {c : Code} {cells slots : Nat} {Q : State → Prop} {E : HE} {hs : Nat → HV} {tp md : HV} {hs' : Nat → HV} {tp' md' : HV} {pc : Nat} {own : String} {cc : ByteArray} {nL kf : Nat}
theorem y_back {H : Heap} {locs : List Loc} {ls : Array Slot} {st0 rest : List Value} {av : Array Value} {v : Option Value}
    (hr : va_Run p l e R s m args below meth c H locs cells slots 0 0 (F0 m pc ls st0) rest (QR E v hs' tp' md' av) (AA E)) (hS : va_S (AA E) s.heap H locs) (n : ∀ (H : Heap) (locs : List Loc), va_P E.1 vwCl (wl E hs' tp' md') H → va_S (AA E) s.heap H locs → W p l e R s m args below meth c H locs cells slots Q (F0 m (pc + 3) ls (v.toList ++ rest))) : W p l e R s m args below meth c H locs cells slots Q (F0 m pc ls st0) := by
  intro T hT X
  obtain ⟨v0, st₀, t, T', L', h0, X', hL', e1, e2, ⟨⟨hv, hW⟩, hz, hk⟩, stp⟩ := hr T hT X
  cases hv
  rw [h0] at hz hk
  obtain ⟨t2, a1, b1⟩ := n T'.heap (locs ++ L') (by rw [e1]; exact hW.1)
    ⟨Nat.le_trans hS.1 (by rw [e1]; exact hz), fun q h1 h2 => by rw [e1, hk q (Nat.lt_of_lt_of_le h1 hS.1) h2]; exact hS.2.1 q h1 h2, fun q hq => by
      rcases List.mem_append.mp hq with h | h
      · exact hS.2.2 q h
      · exact hL' q h⟩ T' rfl X'
  exact ⟨t2, stp t2 a1, b1⟩
theorem y_callV {index q0 ci N A nA ny k : Nat} {fs : List Value} {Cn : String} {T : u_T} {y : MethodName} {cy : ByteArray} {ret : Option FieldType} {As rest st : List Value} {v : Option Value} (C : Cs (p, l, e, R, s, m, args, below, meth, c, cells, slots, Q) own cc nL kf E) (hM : Mt y cy ny ret k E (.ref A :: As) hs tp md v hs' tp' md')
    (w1 : Cond.methodLink own index y ∈ TB) (w2 : Cond.instanceMethod y ∈ TB) (w3 : Cond.selects Cn y y ∈ TB) (w4 : Cond.initialized Cn ∈ TB) (w5 : Cond.code y cy ny ret ∈ TB) (hd : y.cls = Cn ∧ y.cls ≠ "java/lang/invoke/MethodHandle" ∧ y.cls ≠ "java/lang/invoke/VarHandle" ∧ (parseMethodDescriptor y.desc).map (fun d => d.parameters.length) = some nA)
    (hw : (wl E hs tp md)[q0]? = some (A, .inr (ci, fs))) (hc : vwCl[ci]? = some (Cn, T, N)) (hn : As.length = nA) (hk : k + 1 ≤ kf) (hm : 19 + ny + 30 * k ≤ 30 * kf) (hcat : (rest.map fun v => v.category).sum ≤ 8) (d : decode cc pc = .ok (.invokevirtual index, 3)) (hst : As.reverse ++ .ref A :: rest = st)
    {H : Heap} {locs : List Loc} {ls : Array Slot} (hP : va_P E.1 vwCl (wl E hs tp md) H) (hS : va_S (AA E) s.heap H locs) (hsz : ls.size = nL)
    (n : ∀ (H : Heap) (locs : List Loc), va_P E.1 vwCl (wl E hs' tp' md') H → va_S (AA E) s.heap H locs → W p l e R s m args below meth c H locs cells slots Q (F0 m (pc + 3) ls (v.toList ++ rest))) : W p l e R s m args below meth c H locs cells slots Q (F0 m pc ls st) := by
  obtain ⟨hx, hb, hml, hown, hts, hK, hE, hZ, hce, hsl, hfr, hlo, hlk⟩ := C
  subst hst
  have hG : GoodIn TB (wsV own index Cn y (.code y cy ny ret :: TB)) := fun w hw => by
    rcases List.mem_append.mp hw with h | h
    · have h' : w ∈ TB := by
        simp only [List.mem_cons, List.not_mem_nil, or_false] at h
        rcases h with rfl | rfl | rfl | rfl <;> assumption
      exact ⟨h', good_of_word (tb_good _ h')⟩
    · exact goodTB w5 w h
  have cw : CallW R s args own Cn index y cy ny ret (.code y cy ny ret :: TB) (RM k) 0 0 nA := cwV nA hts hG rfl rfl rfl hd ⟨by show k + 1 ≤ _; omega, by show 8 + (ny + 11) + 30 * k ≤ _; omega⟩
  exact y_back (va_runV (As := As) (rest := rest) ⟨hx, hb, hml, hown, hts⟩ (hM l) cw ⟨blind, va_recv hK hP hc hw, fun U hU hW => ⟨rfl, Wd.of hP hK hZ hS hU hW⟩⟩ rfl hn hsz rfl (lv_room hcat) d ⟨hce, hsl⟩) hS n
end USEW
theorem LL_of {ls : Array Slot} {E : HE} {q : Nat} {i : Int} (h1 : ls.size = 8) (h2 : lv_wf ls) (a : ls[0]? = some (.val (.ref q))) (b : ls[1]? = some (.val (.ref (tA E 0)))) (c : ls[2]? = some (.val (.ref (mA E 0)))) (d : ls[3]? = some (.val (vI i))) : LH ls 8 (LL E q i) := by
  refine ⟨h1, h2, fun k v hk => ?_⟩
  match k, hk with
  | 0, hk => cases hk; exact ⟨a, rfl⟩
  | 1, hk => cases hk; exact ⟨b, rfl⟩
  | 2, hk => cases hk; exact ⟨c, rfl⟩
  | 3, hk => cases hk; exact ⟨d, rfl⟩
  | 4, hk => cases hk
  | 5, hk => cases hk
  | 6, hk => cases hk
  | 7, hk => cases hk
  | k + 8, hk => simp [LL] at hk
set_option maxRecDepth 100000 in
set_option maxHeartbeats 4000000 in
theorem law_use2 {F : FC} {E : HE} {hs : Nat → HV} {tp md : HV} {q Ls : Nat} {xs : Nat → Int32} {i : Int} (C : Cs F RL code 8 10 E) (X : SX F E q Ls xs) (hE : HI E) (h0 : 0 ≤ i) (h1 : i + 3 < Ls) (S : SIM hs tp md) (K : ∀ (hs : Nat → HV) (tp md : HV), SIM hs tp md → G F E hs tp md 961 (LL E q i) []) : G F E hs tp md 750 (LL E q i) [.double (xUse (hs 0) (yv xs (i + 1)) (yv xs (i + 2)))] := by
  have eu := t_use S (x := yv xs (i + 1)) (y := yv xs (i + 2))
  generalize xUse (hs 0) (yv xs (i + 1)) (yv xs (i + 2)) = P at eu ⊢
  obtain ⟨p, l, e, R, s, m, args, below, meth, c, cells, slots, Q⟩ := F
  obtain ⟨x1, x2, x3, x4⟩ := id X
  have hx := C.1
  have hb := C.2.1
  have hml := C.2.2.1
  intro H locs ls hP hS hL
  have hl := hL.has
  rw [hml] at hl
  refine lv_dstore (lv' := [(4, .double P), (0, .ref q), (1, .ref (tA E 0)), (2, .ref (mA E 0)), (3, vI i)]) hx hb dL_law_750 hl (by decide) rfl (fun ls hl => ?_)
  refine lv_aload_n hx hb dL_law_752 rfl (lv_at hl 3 rfl) ?_
  refine lv_aload_n hx hb dL_law_753 rfl (lv_at hl 1 rfl) ?_
  refine lv_iload_n hx hb dL_law_754 rfl (lv_at hl 4 rfl) ?_
  refine lv_iconst hx hb dL_law_755 rfl ?_
  refine lv_iadd hx hb dL_law_756 ?_
  rw [oI_add]
  refine va_sld hx hb x1 x2 x3 hS (oI_in (by omega) (by omega) (by omega)) dL_law_757 ?_
  rw [oI_clamp ⟨by omega, by omega⟩]
  refine lv_aload_n hx hb dL_law_758 rfl (lv_at hl 1 rfl) ?_
  refine lv_iload_n hx hb dL_law_759 rfl (lv_at hl 4 rfl) ?_
  refine lv_iconst hx hb dL_law_760 rfl ?_
  refine lv_iadd hx hb dL_law_761 ?_
  rw [oI_add]
  refine va_sld hx hb x1 x2 x3 hS (oI_in (by omega) (by omega) (by omega)) dL_law_762 ?_
  rw [oI_clamp ⟨by omega, by omega⟩]
  have ea : ∀ k : Int, (.int (xs k.toNat) : Value) = vI (yv xs k) := fun k => (congrArg Value.int (oI_self _)).symm
  rw [ea, ea]
  have hP2 : va_P E.1 vwCl (wl E hs tp (upr md 1 (md 1))) H := by rw [upr_id]; exact hP
  refine y_callV (nA := 2) (As := [vI (yv xs (i + 1)), vI (yv xs (i + 2))]) (rest := []) C (m_X7_use hE (md := md) (r := md 1) S.mr (x := yv xs (i + 1)) (y := yv xs (i + 2)) (oI_IR _) (oI_IR _)) q_1015 q_1016 q_1017 q_64 q_1018 (by decide +kernel) (wl_m 0 (by decide)) rfl rfl (by decide) (by decide) (Nat.le_of_ble_eq_true rfl) dL_law_763 rfl hP2 hS hl.1 fun H locs hP hS => ?_
  rw [← eu]
  refine lv_dstore (lv' := [(6, .double P), (4, .double P), (0, .ref q), (1, .ref (tA E 0)), (2, .ref (mA E 0)), (3, vI i)]) hx hb dL_law_766 hl (by decide) rfl (fun ls hl => ?_)
  have K2 : W p l e R s m args below meth c H locs cells slots Q (F0 m 794 ls []) := by
    refine lv_goto (tgt := 961) hx hb dL_law_794 (by decide) ?_
    exact K hs tp (upr md 1 (md 1)) (by rw [upr_id]; exact S) H locs ls hP hS (by rw [hml]; exact LL_of hl.1 hl.2.1 (lv_at hl 2 rfl) (lv_at hl 3 rfl) (lv_at hl 4 rfl) (lv_at hl 5 rfl))
  refine lv_dload hx hb dL_law_768 (lv_at hl 1 rfl) ?_
  refine lv_dload hx hb dL_law_770 (lv_at hl 0 rfl) ?_
  refine lv_dcmp hx hb dL_law_772 ?_
  refine lv_if_eq (tgt := 794) hx hb dL_law_773 (by decide) (fun _ => K2) (fun hne => ?_)
  refine lv_dload hx hb dL_law_776 (lv_at hl 1 rfl) ?_
  refine lv_dload hx hb dL_law_778 (lv_at hl 1 rfl) ?_
  refine lv_dcmp hx hb dL_law_780 ?_
  refine lv_if_eq (tgt := 792) hx hb dL_law_781 (by decide) (fun h => absurd h hne) (fun _ => ?_)
  refine lv_dload hx hb dL_law_784 (lv_at hl 0 rfl) ?_
  refine lv_dload hx hb dL_law_786 (lv_at hl 0 rfl) ?_
  refine lv_dcmp hx hb dL_law_788 ?_
  exact lv_if_ne (tgt := 794) hx hb dL_law_789 (by decide) (fun _ => K2) (fun h => absurd h hne)
set_option maxRecDepth 100000 in
set_option maxHeartbeats 4000000 in
theorem law_use {F : FC} {E : HE} {hs : Nat → HV} {tp md : HV} {q Ls : Nat} {xs : Nat → Int32} {i : Int} (C : Cs F RL code 8 10 E) (X : SX F E q Ls xs) (hE : HI E) (h0 : 0 ≤ i) (h1 : i + 3 < Ls) (S : SIM hs tp md) (K : ∀ (hs : Nat → HV) (tp md : HV), SIM hs tp md → G F E hs tp md 961 (LL E q i) []) : G F E hs tp md 736 (LL E q i) [] := by
  refine x_aload_n C dL_law_736 rfl ?_
  refine x_arg C X dL_law_737 dL_law_738 dL_law_739 dL_law_740 dL_law_741 (by omega) (by omega) ?_
  refine x_arg C X dL_law_742 dL_law_743 dL_law_744 dL_law_745 dL_law_746 (by omega) (by omega) ?_
  refine x_callV (nA := 2) (As := [vI (yv xs (i + 1)), vI (yv xs (i + 2))]) (rest := []) C (m_X6_use hE S.r0 (x := yv xs (i + 1)) (y := yv xs (i + 2)) (oI_IR _) (oI_IR _)) q_699 q_700 q_701 q_56 q_702 (by decide +kernel) (wl_t 0 (by decide)) rfl rfl (by decide) (by decide) (Nat.le_of_ble_eq_true rfl) dL_law_747 rfl ?_
  exact law_use2 C X hE h0 h1 S K
