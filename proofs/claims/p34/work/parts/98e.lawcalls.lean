/-! THE LAW's CALLS of its own methods -/
set_option maxHeartbeats 4000000 in
theorem m_L_cell {b Ls : Nat} {xs : Nat → Int32} (hLs : Ls ≤ 260) {k : Int} (k0 : 0 ≤ k ∧ k ≤ 1000) : Mo yL_cell cL_cell 2 (some .int) 1 [.ref b, vI k] (PX2 b Ls xs) (vI (cellV Ls xs k)) := by
  intro l
  refine ofWF (cy := cL_cell) (maxL := 2) (ret := some .int) (plainFor_of_name (by decide)) rfl ?_
  intro p e s m av below meth c s₁ B hml hv
  obtain ⟨rfl, hX, hlt⟩ := hv
  have hx := B.exec
  have hb := B.bytes
  have hts := atoms_spec (ws := .code yL_cell cL_cell 2 (some .int) :: TB) B.pre
  rw [lg_entry_eq]
  have hL := LH_entry (vs := [.ref b, vI k]) (n := 2) (Nat.le_of_ble_eq_true rfl) (by intro w hw; simp only [List.mem_cons, List.not_mem_nil, or_false] at hw; rcases hw with rfl | rfl <;> rfl)
  have e9 : vI (Ls : Int) = .int (Int32.ofNat Ls) := congrArg Value.int Int32.ofInt_eq_ofNat
  refine lv_iload_n hx hb dL_cell_0 rfl (hL.at rfl) ?_
  refine lv_aload_n hx hb dL_cell_1 rfl (hL.at rfl) ?_
  refine va_slen (A := fun _ => False) hx hb hX hlt (fun h => h) va_S.rf dL_cell_2 ?_
  rw [← e9]
  refine lv_icmp_ge (tgt := 12) hx hb dL_cell_3 (by decide) (fun h => ?_) (fun h => ?_)
  · have hk : (Ls : Int) ≤ k := (oI_le (a := (Ls : Int)) (b := k) ⟨by omega, by omega⟩ ⟨by omega, by omega⟩).mp h
    refine lv_ldc hx hb (findClass_of_methodNamed B.named) (hts _ (List.mem_cons_of_mem _ q_309)) dL_cell_12 ?_
    refine lv_iload_n hx hb dL_cell_14 rfl (hL.at rfl) ?_
    refine lv_imul hx hb dL_cell_15 ?_
    refine lv_sipush (v := Int32.ofInt 1913) hx hb dL_cell_16 (by decide) ?_
    refine lv_iadd hx hb dL_cell_19 ?_
    have ev : (2751433 : Int32) * Int32.ofInt k + Int32.ofInt 1913 = Int32.ofInt (cellV Ls xs k) := by
      rw [show (2751433 : Int32) = Int32.ofInt 2751433 from rfl, oI_mul, oI_add]
      exact congrArg Int32.ofInt (if_neg (by omega)).symm
    rw [ev]
    exact W.zret hx hb B.returns rfl (fun t ht _ => ⟨rfl, va_S.rf.F ht⟩) (fun q hq => absurd hq List.not_mem_nil) dL_cell_20 B.notSynchronized
  · have hk : k < (Ls : Int) := by
      have := mt (oI_le (a := (Ls : Int)) (b := k) ⟨by omega, by omega⟩ ⟨by omega, by omega⟩).mpr h
      omega
    refine lv_aload_n hx hb dL_cell_6 rfl (hL.at rfl) ?_
    refine lv_iload_n hx hb dL_cell_7 rfl (hL.at rfl) ?_
    refine va_sld (A := fun _ => False) hx hb hX hlt (fun h => h) va_S.rf (oI_in k0.1 hk (by omega)) dL_cell_8 ?_
    refine lv_goto (tgt := 20) hx hb dL_cell_9 (by decide) ?_
    have ev : xs (Int32.ofInt k).toNatClampNeg = Int32.ofInt (cellV Ls xs k) := by
      rw [oI_clamp ⟨by omega, by omega⟩, show cellV Ls xs k = (xs k.toNat).toInt from if_pos hk, oI_self]
    rw [ev]
    exact W.zret hx hb B.returns rfl (fun t ht _ => ⟨rfl, va_S.rf.F ht⟩) (fun q hq => absurd hq List.not_mem_nil) dL_cell_20 B.notSynchronized
/-- what a callee asks of the heap holds wherever the walk stands -/
def hasO : FD → va_G → (Nat → Prop) → va_W → (State → Prop) → Prop := fun (_, _, _, _, s, _, _, _, _, _, _) D A ws Pre =>
  ∀ (H : Heap) (locs : List Loc) (U : State), va_P D vwCl ws H → va_S A s.heap H locs → U.heap = H → s.WarmedH U.vm → Pre U
section CALLS4
variable {F : FD} {own : String} {cc : ByteArray} {nL kf : Nat} {E : HE} {hs hs' : Nat → HV} {tp tp' : HV} {A : Nat → Prop} {ws : va_W} {ce sl pc : Nat} {L : List (Option Value)} {D : va_G} {T : Nat → ClassId} {bb : Nat → Nat}
theorem k_callO {index nA ny k : Nat} {y : MethodName} {cy : ByteArray} {ret : Option FieldType} {As rest st : List Value} {Pre : State → Prop} {v : Value} (C : CC F own cc nL kf D T A bb) (hM : Mo y cy ny ret k As Pre v) (hbl : FrameBlind (va_Pc As Pre)) (hpre : hasO F D A ws Pre)
    (w1 : Cond.methodLink own index y ∈ TB) (w2 : Cond.static y ∈ TB) (w4 : Cond.initialized y.cls ∈ TB) (w5 : Cond.code y cy ny ret ∈ TB) (hd : y.cls ≠ "java/lang/invoke/MethodHandle" ∧ y.cls ≠ "java/lang/invoke/VarHandle" ∧ (parseMethodDescriptor y.desc).map (fun d => d.parameters.length) = some nA)
    (hn : As.length = nA) (hk : k + 1 ≤ kf) (hm : 19 + ny + 30 * k ≤ 30 * kf) (hr : rmC F ce sl) (hcat : (rest.map fun v => v.category).sum ≤ 8) (d : decode cc pc = .ok (.invokestatic index, 3)) (hst : As.reverse ++ rest = st)
    (n : GC F D A ws ce sl (pc + 3) L (v :: rest)) : GC F D A ws ce sl pc L st := by
  obtain ⟨p, l, e, R, s, m, args, below, meth, c, Q⟩ := F
  obtain ⟨hx, hb, hml, hown, hts, hK, hZ, hA, hfr, hlo⟩ := C
  subst hst
  intro H locs ls hP hD hS hL
  have cb := callB_of (own := own) (index := index) (R := R) (rm := RM k) (mc := 0) (ms := 0) nA hts (goodTB w5) rfl rfl rfl (hts _ w4) (hts _ w1) hd ⟨by show k + 1 ≤ _; omega, by show 8 + (ny + 11) + 30 * k ≤ _; omega⟩
  have run := va_runS (e := e) (below := below) (meth := meth) (As := As) (rest := rest) (cells := ce) (slots := sl) (locs := locs) (H := H) (g := F0 m pc ls (As.reverse ++ rest)) ⟨hx, hb, hml, hown, hts⟩ (hM l) ⟨cb, hts _ w2⟩ ⟨hbl, fun U hU hW => ⟨rfl, hpre H locs U hP hS hU hW⟩⟩ rfl hn (hL.1.trans hml) rfl (lv_room hcat) d ⟨hr.1, hr.2⟩
  intro T0 hT X
  obtain ⟨v0, st₀, t, T', L', h0, X', hL', e1, e2, ⟨hv, hz, hk0⟩, stp⟩ := run T0 hT X
  cases hv
  rw [h0] at hz hk0
  have hP1 : va_P D vwCl ws T'.heap := fun k x hx => (hP k x hx).kept (by rw [e1]; exact hk0 x.1 (hP k x hx).lt (fun h => h))
  obtain ⟨t2, a1, b1⟩ := n T'.heap (locs ++ L') ls hP1 hD
    ⟨Nat.le_trans hS.1 (by rw [e1]; exact hz), fun q h1 h2 => by rw [e1, hk0 q (Nat.lt_of_lt_of_le h1 hS.1) (fun z => z)]; exact hS.2.1 q h1 h2, fun q hq => by
      rcases List.mem_append.mp hq with h | h
      · exact hS.2.2 q h
      · exact absurd (hL' q h) (fun z => z)⟩ hL T' rfl X'
  exact ⟨t2, stp t2 a1, b1⟩
/-- a static call whose contract names its answer, and leaves the world -/
theorem k_callMS {index nA ny k : Nat} {y : MethodName} {cy : ByteArray} {ret : Option FieldType} {As rest st : List Value} {v : Option Value} (C : CC F own cc nL kf E.1 E.2.2.1 A E.2.2.2) (hE : HI E) (hAA : ∀ q, AA E q → A q) (hM : Mt y cy ny ret k E As hs tp zM v hs' tp' zM)
    (w1 : Cond.methodLink own index y ∈ TB) (w2 : Cond.static y ∈ TB) (w4 : Cond.initialized y.cls ∈ TB) (w5 : Cond.code y cy ny ret ∈ TB) (hd : y.cls ≠ "java/lang/invoke/MethodHandle" ∧ y.cls ≠ "java/lang/invoke/VarHandle" ∧ (parseMethodDescriptor y.desc).map (fun d => d.parameters.length) = some nA)
    (hn : As.length = nA) (hk : k + 1 ≤ kf) (hm : 19 + ny + 30 * k ≤ 30 * kf) (hr : rmC F ce sl) (hcat : (rest.map fun v => v.category).sum ≤ 8) (d : decode cc pc = .ok (.invokestatic index, 3)) (hst : As.reverse ++ rest = st)
    (n : GC F E.1 A (wl E hs' tp' zM ++ ws) ce sl (pc + 3) L (v.toList ++ rest)) : GC F E.1 A (wl E hs tp zM ++ ws) ce sl pc L st := by
  obtain ⟨p, l, e, R, s, m, args, below, meth, c, Q⟩ := F
  obtain ⟨hx, hb, hml, hown, hts, hK, hZ, hA, hfr, hlo⟩ := C
  subst hst
  intro H locs ls hP hD hS hL
  have cb := callB_of (own := own) (index := index) (R := R) (rm := RM k) (mc := 0) (ms := 0) nA hts (goodTB w5) rfl rfl rfl (hts _ w4) (hts _ w1) hd ⟨by show k + 1 ≤ _; omega, by show 8 + (ny + 11) + 30 * k ≤ _; omega⟩
  have run := va_runS (e := e) (below := below) (meth := meth) (As := As) (rest := rest) (cells := ce) (slots := sl) (locs := locs) (H := H) (g := F0 m pc ls (As.reverse ++ rest)) ⟨hx, hb, hml, hown, hts⟩ (hM l) ⟨cb, hts _ w2⟩ ⟨blind, fun U hU hW => ⟨rfl, (⟨by rw [hU]; exact fun k x hx => hP k x (wl_inl hx), hK.moved hW.alike, by rw [hU]; exact ((hZ.to hS hW).wk hAA).1⟩ : Wd E hs tp zM U)⟩⟩ rfl hn (hL.1.trans hml) rfl (lv_room hcat) d ⟨hr.1, hr.2⟩
  have run2 := run_mono (Qb := QX E (fun v1 hs1 tp1 => v1 = v ∧ hs1 = hs' ∧ tp1 = tp') As.toArray) run fun s o t h => ⟨⟨v, hs', tp', h.1.1, ⟨rfl, rfl, rfl⟩, h.1.2⟩, h.2⟩
  refine k_backX hE hAA run2 hP hD hS fun v1 hs1 tp1 hp H locs hP hD hS => ?_
  obtain ⟨rfl, rfl, rfl⟩ := hp
  exact n H locs ls hP hD hS hL
theorem AZ_blind {sz : Nat} {args : List Value} : FrameBlind (va_Pc args (PN E hs tp sz)) := fun a U g mk q => by
  obtain ⟨q0, q1, qP, qK, qZ⟩ := q
  exact ⟨q0, q1, qP, va_K.moved (u := U) (U := U.calling g mk a) (Vm.Alike.refl U.vm) qK, qZ.same rfl⟩
/-- a call of the method that makes an array -/
theorem k_callN {index ny k : Nat} {y : MethodName} {cy : ByteArray} {rest : List Value} {f : Int → Int} (C : CC F own cc nL kf E.1 E.2.2.1 A E.2.2.2) (hE : HI E) (hAA : ∀ q, AA E q → A q) (hM : Mn y cy ny k E hs tp f)
    (w1 : Cond.methodLink own index y ∈ TB) (w2 : Cond.static y ∈ TB) (w4 : Cond.initialized y.cls ∈ TB) (w5 : Cond.code y cy ny (some (.array .int)) ∈ TB) (hd : y.cls ≠ "java/lang/invoke/MethodHandle" ∧ y.cls ≠ "java/lang/invoke/VarHandle" ∧ (parseMethodDescriptor y.desc).map (fun d => d.parameters.length) = some 1)
    (hk : k + 1 ≤ kf) (hm : 19 + ny + 30 * k ≤ 30 * kf) (hr : rmC F (ce + 1) (sl + 64)) (hcat : (rest.map fun v => v.category).sum ≤ 8) (d : decode cc pc = .ok (.invokestatic index, 3))
    (n : ∀ q, GC F E.1 A (wl E hs tp zM ++ (ws ++ [(q, arr E.2.2.1 f)])) (ce + 1) (sl + 64) (pc + 3) L (.ref q :: rest)) : GC F E.1 A (wl E hs tp zM ++ ws) ce sl pc L (.ref (tA E 0) :: rest) := by
  obtain ⟨p, l, e, R, s, m, args, below, meth, c, Q⟩ := F
  obtain ⟨hx, hb, hml, hown, hts, hK, hZ, hA, hfr, hlo⟩ := C
  intro H locs ls hP hD hS hL
  have hsub : ∀ x, AZ E H.size x → A x := fun x h => h.elim (hAA x) fun h => hA x (Nat.le_trans hS.1 h)
  have cb := callB_of (own := own) (index := index) (R := R) (rm := { frames := k, cells := 1, slots := 64, locals := 30 * k }) (mc := 1) (ms := 64) 1 hts (goodTB w5) rfl rfl rfl (hts _ w4) (hts _ w1) hd ⟨by show k + 1 ≤ _; omega, by show 8 + (ny + 11) + 30 * k ≤ _; omega⟩
  refine va_callr (va_runS (As := [.ref (tA E 0)]) (rest := rest) ⟨hx, hb, hml, hown, hts⟩ (hM l H.size) ⟨cb, hts _ w2⟩ ⟨AZ_blind, fun U hU hW => ⟨rfl, by rw [hU], by rw [hU]; exact fun k x hx => hP k x (wl_inl hx), hK.moved hW.alike, by rw [hU]; exact (hZ.to hS hW).wk hsub⟩⟩ rfl rfl (hL.1.trans hml) rfl (lv_room hcat) d ⟨hr.1, hr.2⟩) hS (fun x _ h => hsub x h) hsub (fun u q t H1 locs1 ht hvm _ hB hz1 hk1 hS1 => ?_)
  obtain ⟨hq, hP1⟩ := hB
  rw [ht] at hP1
  have h0 : ([(q, arr E.2.2.1 f)] : va_W)[0]? = some (q, arr E.2.2.1 f) := rfl
  have ap : ∀ (j : Nat) (x : Nat × va_E), ws[j]? = some x → x.1 < H.size ∧ ¬ AA E x.1 := fun j x hx => wl_apart hP hD hx
  have ws1 : va_P E.1 vwCl ws H1 := fun j x hx => (hP _ x (wl_inr hx)).kept (hk1 x.1 (ap j x hx).1 (fun h => h.elim (ap j x hx).2 fun h => absurd (ap j x hx).1 (by omega)))
  have hq1 : ∀ (j : Nat) (x : Nat × va_E), (wl E hs tp zM)[j]? = some x → x.1 < H.size := fun j x hx => (hP _ x (wl_inl hx)).lt
  refine n q H1 locs1 ls (va_P.app (fun k x hx => hP1 k x (wl_inl hx)) (va_P.app ws1 fun k x hx => hP1 _ x (wl_inr hx))) ?_ hS1 hL
  have one : ∀ (j : Nat) (x : Nat × va_E), ([(q, arr E.2.2.1 f)] : va_W)[j]? = some x → x.1 = q := fun j x hx => by
    have hj : j < 1 := (List.getElem?_eq_some_iff.mp hx).1
    have : j = 0 := by omega
    subst this
    exact (congrArg Prod.fst (Option.some.inj hx)).symm
  refine va_D.app ((wl_D hE hs tp zM).weaken fun _ x _ h => hAA x.1 h) (va_D.app ⟨fun i j x y hx hy h => ?_, fun j x hx => hD.2 _ x (wl_inr hx)⟩ ⟨fun i j x y hx hy h => ?_, fun j x hx => ?_⟩ fun i j x y hx hy h => ?_) fun i j x y hx hy h => ?_
  · have := hD.1 (128 + i) (128 + j) x y (wl_inr hx) (wl_inr hy) h; omega
  · have hi : i < 1 := (List.getElem?_eq_some_iff.mp hx).1
    have hj : j < 1 := (List.getElem?_eq_some_iff.mp hy).1
    omega
  · rw [one j x hx]; exact hA q (Nat.le_trans hS.1 hq)
  · have := (ap i x hx).1; have := one j y hy; omega
  · by_cases hj : j < ws.length
    · rw [List.getElem?_append_left hj] at hy
      obtain ⟨hi, rfl⟩ := wl_of hx
      exact (ap j y hy).2 (h ▸ ⟨i, hi, rfl⟩)
    · rw [List.getElem?_append_right (by omega)] at hy
      have := hq1 i x hx; have := one _ y hy; omega
end CALLS4
