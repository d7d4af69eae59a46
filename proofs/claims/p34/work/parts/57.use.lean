/-! THE SHARE OF BEDS IN USE: doubles -/
theorem qd_423 : (.constantDouble RX6 245 13830554455654793216 : Cond) ∈ TB := tb_in (List.mem_of_getElem? (i := 423) (by decide +kernel)) rfl
theorem qd_591 : (.constantDouble RL 71 13830554455654793216 : Cond) ∈ TB := tb_in (List.mem_of_getElem? (i := 591) (by decide +kernel)) rfl
theorem LH.st2 {ls ls' : Array Slot} {nL i : Nat} {L : List (Option Value)} {v : Value} (h : LH ls nL L) (h' : lv_has ls' nL ((i, v) :: (L.zipIdx.filterMap fun q => q.1.map fun v => (q.2, v)).filter (fun q => !(q.1 == i) && (!(q.1 == i + 1) && !(q.1 + 1 == i && q.2.category == 2))))) : LH ls' nL ((L.set i none).set (i + 1) none) := by
  refine ⟨h'.1, h'.2.1, fun k w hk => ?_⟩
  by_cases e1 : k = i + 1
  · subst e1
    rw [List.getElem?_set] at hk
    simp at hk
  rw [List.getElem?_set_ne (Ne.symm e1)] at hk
  by_cases e : k = i
  · subst e
    rw [List.getElem?_set] at hk
    simp at hk
  rw [List.getElem?_set_ne (Ne.symm e)] at hk
  have hw := (h.2.2 k w hk).2
  refine ⟨h'.2.2 (k, w) (List.mem_cons_of_mem _ (List.mem_filter.mpr ⟨List.mem_filterMap.mpr ⟨(some w, k), List.mem_zipIdx_iff_getElem?.mpr hk, rfl⟩, ?_⟩)), hw⟩
  simp [e, e1, hw]
theorem nn_div {a b : Int} (hb : 1 ≤ b ∧ b ≤ 2147483647) : vf_n64 (FP.ddiv (FP.i2d (Int32.ofInt a)) (FP.i2d (Int32.ofInt b))) :=
  Jvm.Free.Fl.ddiv_out (Nat.le_of_lt (Jvm.Free.Fl.i2d_fin (Int32.ofInt a)) : Jvm.Free.Fl.NoNaN64 _) (Jvm.Free.Fl.i2d_fin _) (Jvm.Free.Fl.i2d_nz (fun e => by
    have q := congrArg Int32.toInt e
    rw [Int32.toInt_ofInt_of_le (by omega) (by omega)] at q
    exact absurd q (by show ¬ b = 0; omega)))
section DROWS
variable {F : FC} {own : String} {cc : ByteArray} {nL kf : Nat} {E : HE} {hs : Nat → HV} {tp md : HV} {pc : Nat} {L : List (Option Value)} {st : List Value} {a b : Int} {hs' : Nat → HV} {tp' md' : HV}
theorem x_i2d (C : Cs F own cc nL kf E) (d : decode cc pc = .ok (.i2d, 1)) (k : G F E hs tp md (pc + 1) L (.double (FP.i2d (Int32.ofInt a)) :: st)) : G F E hs tp md pc L (vI a :: st) := by
  obtain ⟨p, l, e, R, s, m, args, below, meth, c, cells, slots, Q⟩ := F
  intro H locs ls hP hS hL
  exact lv_i2d C.1 C.2.1 d (k H locs ls hP hS hL)
theorem x_ddiv {x y : UInt64} (C : Cs F own cc nL kf E) (d : decode cc pc = .ok (.ddiv, 1)) (hn : vf_n64 (FP.ddiv x y)) (k : G F E hs tp md (pc + 1) L (.double (FP.ddiv x y) :: st)) : G F E hs tp md pc L (.double y :: .double x :: st) := by
  obtain ⟨p, l, e, R, s, m, args, below, meth, c, cells, slots, Q⟩ := F
  intro H locs ls hP hS hL
  exact lv_ddiv C.1 C.2.1 d hn (k H locs ls hP hS hL)
theorem x_ldc2 {index : Nat} {v : UInt64} (C : Cs F own cc nL kf E) (hw : Cond.constantDouble own index v ∈ TB) (d : decode cc pc = .ok (.ldc2_w index, 3)) (k : G F E hs tp md (pc + 3) L (.double v :: st)) : G F E hs tp md pc L st := by
  obtain ⟨p, l, e, R, s, m, args, below, meth, c, cells, slots, Q⟩ := F
  intro H locs ls hP hS hL
  exact lv_ldc2d C.1 C.2.1 C.2.2.2.1 (C.2.2.2.2.1 _ hw) d (k H locs ls hP hS hL)
theorem x_dst {i : Nat} {x : UInt64} {L' : List (Option Value)} (C : Cs F own cc nL kf E) (d : decode cc pc = .ok (.dstore i, 2)) (d2 : decode cc (pc + 2) = .ok (.dload i, 2)) (hi : i + 1 < nL) (eL : (L.set i none).set (i + 1) none = L') (k : G F E hs tp md (pc + 4) L' (.double x :: st)) : G F E hs tp md pc L (.double x :: st) := by
  obtain ⟨p, l, e, R, s, m, args, below, meth, c, cells, slots, Q⟩ := F
  subst eL
  intro H locs ls hP hS hL
  exact lv_dstore C.1 C.2.1 d hL.has (by rw [C.2.2.1]; exact hi) rfl fun ls' h' => lv_dload C.1 C.2.1 d2 (lv_at h' 0 rfl) (k H locs ls' hP hS (hL.st2 h'))
theorem x_dret {x r : UInt64} (C : Cs F own cc nL kf E) (D : Ce F (some .double) E (some (.double r)) hs' tp' md') (d : decode cc pc = .ok (.dreturn, 1)) (e0 : x = r) (e1 : hs = hs') (e2 : tp = tp') (e3 : md = md') : G F E hs tp md pc L [.double x] := by
  obtain ⟨p, l, e, R, s, m, args, below, meth, c, cells, slots, Q⟩ := F
  obtain ⟨hx, hb, hml, hown, hts, hK, hE, hZ, -, -, -, -, hlk⟩ := C
  obtain ⟨z1, z2, hr, hQ⟩ := D
  subst e0; subst e1; subst e2; subst e3; subst z1; subst z2; subst hQ
  intro H locs ls hP hS hL
  exact W.dret hx hb hr (fun t ht hW => ⟨⟨rfl, Wd.of hP hK hZ hS ht hW⟩, hS.F ht⟩) (fun q hq => hS.2.2 q hq) d hlk
end DROWS
abbrev useQ (a b : Int) : UInt64 := FP.ddiv (FP.i2d (Int32.ofInt a)) (FP.i2d (Int32.ofInt b))
def xUse (h : HV) (x y : Int) : UInt64 := if x < 0 ∨ y < x ∨ 999 < y ∨ h 1 0 < 1 then 13830554455654793216 else useQ (nBeds h x y) ((y - x + 1) * h 1 0)
def yUse (r : Int → Int) (x y : Int) : UInt64 := if ¬ (0 ≤ x ∧ x ≤ 999) ∨ ¬ (x ≤ y ∧ y ≤ 999) then 13830554455654793216 else useQ (sumI (fun q => mTk r (x + q)) (y + 1 - x)) ((y - x + 1) * r 17)
theorem mul_r {a b : Int} (h0 : 1 ≤ a ∧ a ≤ 1000) (h1 : 1 ≤ b ∧ b ≤ 40) : 1 ≤ a * b ∧ a * b ≤ 2147483647 := by
  have q : a * b ≤ 1000 * 40 := Int.mul_le_mul h0.2 h1.2 (by omega) (by decide)
  have p : 1 * 1 ≤ a * b := Int.mul_le_mul h0.1 h1.1 (by decide) (by omega)
  omega
set_option maxRecDepth 100000 in
set_option maxHeartbeats 4000000 in
theorem m_X6_use {hs : Nat → HV} {tp md : HV} {E : HE} (hE : HI E) {K : Int} (R : RG K (hs 0)) {x y : Int} (x0 : IR x) (y0 : IR y) : Mt yX6_use cX6_use 6 (some .double) 3 E [.ref (tA E 0), vI x, vI y] hs tp md (some (.double (xUse (hs 0) x y))) hs tp md := by
  refine mk_Mt hE (plainFor_of_name (by decide)) (Nat.le_of_ble_eq_true rfl) (by intro w0 hw0; simp only [List.mem_cons, List.not_mem_nil, or_false] at hw0; rcases hw0 with rfl | rfl | rfl <;> rfl) (rfl : _ = [_, _, _, _, _, _]) ?_
  intro F C D
  have rs9 : 1 ≤ hs 0 1 0 ∧ hs 0 1 0 ≤ 40 := RG.set R (i := 0) (by decide) (by decide)
  refine x_aload_n C dX6_use_0 rfl ?_
  refine gt_0_0 C q_232 dX6_use_1 ?_
  refine gh_0_0 C (by decide) (rfl : hs 0 = hs 0) q_132 dX6_use_4 ?_
  refine x_const C dX6_use_7 ?_
  refine lh_1 C (by decide) (rfl : hs 0 = hs 0) (by omega) (by omega) dX6_use_8 rfl ?_
  have r_1 := RG.set' R (i := 0) (by omega) (by omega)
  refine x_istore_n C dX6_use_9 (by decide) (rfl : _ = [_, _, _, _, _, _]) ?_
  refine x_iload_n C dX6_use_10 rfl ?_
  refine x_if_lt 31 C dX6_use_11 (by decide) ⟨by omega, by omega⟩ (fun c_2 => ?_) (fun c_2 => ?_)
  · refine x_ldc2 C qd_423 dX6_use_31 ?_
    exact x_dret C D dX6_use_34 (by unfold xUse; first | (rw [if_pos (by omega)]) | (rw [if_neg (by omega)])) rfl rfl rfl
  · refine x_iload_n C dX6_use_14 rfl ?_
    refine x_iload_n C dX6_use_15 rfl ?_
    refine x_icmp_lt 31 C dX6_use_16 (by decide) ⟨by omega, by omega⟩ ⟨by omega, by omega⟩ (fun c_3 => ?_) (fun c_3 => ?_)
    · refine x_ldc2 C qd_423 dX6_use_31 ?_
      exact x_dret C D dX6_use_34 (by unfold xUse; first | (rw [if_pos (by omega)]) | (rw [if_neg (by omega)])) rfl rfl rfl
    · refine x_iload_n C dX6_use_19 rfl ?_
      refine x_sipush C dX6_use_20 (by decide) ?_
      refine x_icmp_gt 31 C dX6_use_23 (by decide) ⟨by omega, by omega⟩ ⟨by omega, by omega⟩ (fun c_4 => ?_) (fun c_4 => ?_)
      · refine x_ldc2 C qd_423 dX6_use_31 ?_
        exact x_dret C D dX6_use_34 (by unfold xUse; first | (rw [if_pos (by omega)]) | (rw [if_neg (by omega)])) rfl rfl rfl
      · refine x_iload_n C dX6_use_26 rfl ?_
        refine x_const C dX6_use_27 ?_
        refine x_icmp_ge 35 C dX6_use_28 (by decide) ⟨by omega, by omega⟩ ⟨by omega, by omega⟩ (fun c_5 => ?_) (fun c_5 => ?_)
        · refine x_aload_n C dX6_use_35 rfl ?_
          refine gt_0_0 C q_232 dX6_use_36 ?_
          refine gh_0_2 C (by decide) (rfl : hs 0 = hs 0) q_135 dX6_use_39 ?_
          refine x_iload_n C dX6_use_42 rfl ?_
          refine x_iload_n C dX6_use_43 rfl ?_
          refine x_callV (nA := 2) (As := [vI x, vI y]) (rest := []) C (m_X1_bedsTakenFrom hE (by decide) (rfl : hs 0 = hs 0) R ⟨by omega, by omega⟩ ⟨by omega, by omega⟩) q_424 q_392 q_393 q_24 q_394 (by decide +kernel) (wl_h (by decide) (rfl : hs 0 = hs 0) 3 (by decide)) rfl rfl (by decide) (by decide) (Nat.le_of_ble_eq_true rfl) dX6_use_44 rfl ?_
          refine x_i2d C dX6_use_47 ?_
          refine x_dst C dX6_use_48 dX6_use_50 (by decide) (rfl : _ = [_, _, _, _, _, _]) ?_
          refine x_iload_n C dX6_use_52 rfl ?_
          refine x_iload_n C dX6_use_53 rfl ?_
          refine x_isub C dX6_use_54 ?_
          refine x_const C dX6_use_55 ?_
          refine x_iadd C dX6_use_56 ?_
          refine x_iload_n C dX6_use_57 rfl ?_
          refine x_imul C dX6_use_58 ?_
          refine x_i2d C dX6_use_59 ?_
          refine x_ddiv C dX6_use_60 (nn_div (mul_r ⟨by omega, by omega⟩ ⟨by omega, by omega⟩)) ?_
          exact x_dret C D dX6_use_61 (by unfold xUse; first | (rw [if_pos (by omega)]) | (rw [if_neg (by omega)])) rfl rfl rfl
        · refine x_ldc2 C qd_423 dX6_use_31 ?_
          exact x_dret C D dX6_use_34 (by unfold xUse; first | (rw [if_pos (by omega)]) | (rw [if_neg (by omega)])) rfl rfl rfl
