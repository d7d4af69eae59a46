/-! CONTRACTS OF THE LAW's METHODS, and their calls -/
abbrev PT : Type := Option Value → (Nat → HV) → HV → Prop
def QX (E : HE) (P : PT) : Array Value → State → Outcome → State → Prop := fun _ s o t => (∃ v hs tp, o = .returned v ∧ P v hs tp ∧ Wd E hs tp zM t) ∧ va_F (AA E) s t
/-- the method y, from the world hs tp with these arguments: what it returns, and the world then, are as P says -/
def Mx (y : MethodName) (cy : ByteArray) (ny : Nat) (ret : Option FieldType) (k : Nat) (E : HE) (args : List Value) (hs : Nat → HV) (tp : HV) (P : PT) : Prop :=
  ∀ l : Launch, Met l y (.code y cy ny ret :: TB) (RM k) (va_Pc args (Wd E hs tp zM)) (QX E P) 0 0 (AA E)
def Cx : FC → Option FieldType → HE → PT → Prop := fun (_, _, _, _, s, _, args, below, meth, _, cells, slots, Q) ret E P =>
  cells = 0 ∧ slots = 0 ∧ meth.sig.returnType = ret ∧ Q = MQ below (QX E P) args s 0 0 (AA E)
theorem mk_Mx {E : HE} {hs : Nat → HV} {tp : HV} {y : MethodName} {cy : ByteArray} {ny k : Nat} {ret : Option FieldType} {args : List Value} {P : PT} {L0 : List (Option Value)} (hE : HI E) (hy : plainFor y = true) (hlen : args.length ≤ ny) (hc : ∀ w ∈ args, w.category = 1) (hL0 : args.map some ++ List.replicate (ny - args.length) none = L0)
    (body : ∀ F : FC, Cs F y.cls cy ny k E → Cx F ret E P → G F E hs tp zM 0 L0 []) : Mx y cy ny ret k E args hs tp P := by
  intro l
  refine ofWF (cy := cy) (maxL := ny) (ret := ret) hy rfl ?_
  intro p e s m av below meth c s₁ B hml hv
  obtain ⟨rfl, hP, hK, hZ⟩ := hv
  have hts := atoms_spec (ws := .code y cy ny ret :: TB) B.pre
  have C : Cs (p, l, e, (headSpec (.code y cy ny ret :: TB) (RM k)).room, s, m, args.toArray, below, meth, c, 0, 0, MQ below (QX E P) args.toArray s 0 0 (AA E)) y.cls cy ny k E :=
    ⟨B.exec, B.bytes, hml, findClass_of_methodNamed B.named, fun w hw => hts w (List.mem_cons_of_mem _ hw), hK, hE, hZ, Nat.zero_le _, Nat.zero_le _, Nat.le_refl _, Nat.le_refl _, B.notSynchronized⟩
  rw [lg_entry_eq]
  exact body _ C ⟨rfl, rfl, B.returns, rfl⟩ s.heap [] _ hP va_S.rf (by rw [hml, ← hL0]; exact LH_entry hlen hc)
section XR
variable {F : FC} {own : String} {cc : ByteArray} {nL kf : Nat} {E : HE} {hs : Nat → HV} {tp : HV} {pc : Nat} {L : List (Option Value)} {st : List Value} {a b : Int} {P : PT}
theorem y_iret {ty : FieldType} (C : Cs F own cc nL kf E) (D : Cx F (some ty) E P) (hn : narrow ty (vI a) = vI a) (d : decode cc pc = .ok (.ireturn, 1)) (hp : P (some (vI a)) hs tp) : G F E hs tp zM pc L [vI a] := by
  obtain ⟨p, l, e, R, s, m, args, below, meth, c, cells, slots, Q⟩ := F
  obtain ⟨hx, hb, hml, hown, hts, hK, hE, hZ, -, -, -, -, hlk⟩ := C
  obtain ⟨z1, z2, hr, hQ⟩ := D
  subst z1; subst z2; subst hQ
  intro H locs ls hP hS hL
  exact W.zret hx hb hr hn (fun t ht hW => ⟨⟨_, _, _, rfl, hp, Wd.of hP hK hZ hS ht hW⟩, hS.F ht⟩) (fun q hq => hS.2.2 q hq) d hlk
theorem x_ishr {md : HV} (C : Cs F own cc nL kf E) (d : decode cc pc = .ok (.ishr, 1)) (k : G F E hs tp md (pc + 1) L (vI (shR a b) :: st)) : G F E hs tp md pc L (vI b :: vI a :: st) := by
  obtain ⟨p, l, e, R, s, m, args, below, meth, c, cells, slots, Q⟩ := F
  intro H locs ls hP hS hL
  refine lv_ishr C.1 C.2.1 d ?_
  have z := k H locs ls hP hS hL
  have e9 : vI (shR a b) = .int (Int32.ofInt a >>> (Int32.ofInt b &&& 31)) := congrArg Value.int (oI_self _)
  rw [e9] at z; exact z
theorem x_same {md : HV} {off : Int} (tgt : Nat) (C : Cs F own cc nL kf E) (d : decode cc pc = .ok (.if_icmp .eq off, 3)) (ht : (pc : Int) + off = (tgt : Int)) (eq0 : a = b) (k : G F E hs tp md tgt L st) : G F E hs tp md pc L (vI b :: vI a :: st) := by
  obtain ⟨p, l, e, R, s, m, args, below, meth, c, cells, slots, Q⟩ := F
  subst eq0
  intro H locs ls hP hS hL
  exact lv_icmp_eq C.1 C.2.1 d ht (fun _ => k H locs ls hP hS hL) (fun h => absurd rfl h)
theorem x_nsame {md : HV} {off : Int} (tgt : Nat) (C : Cs F own cc nL kf E) (d : decode cc pc = .ok (.if_icmp .ne off, 3)) (ht : (pc : Int) + off = (tgt : Int)) (eq0 : a = b) (k : G F E hs tp md (pc + 3) L st) : G F E hs tp md pc L (vI b :: vI a :: st) := by
  obtain ⟨p, l, e, R, s, m, args, below, meth, c, cells, slots, Q⟩ := F
  subst eq0
  intro H locs ls hP hS hL
  exact lv_icmp_ne C.1 C.2.1 d ht (fun h => absurd rfl h) (fun _ => k H locs ls hP hS hL)
theorem c16 {a : Int} (h : 0 ≤ a ∧ a ≤ 65535) : ((Int32.ofInt a).toUInt32 % 65536).toInt32 = Int32.ofInt a := by
  have hb : (Int32.ofInt a).toUInt32.toNat = a.toNat := by
    show (BitVec.ofInt 32 a).toNat = a.toNat
    rw [BitVec.toNat_ofInt]
    have : a % (2 ^ 32 : Nat) = a := Int.emod_eq_of_lt h.1 (by omega)
    rw [this]
  have hm : (Int32.ofInt a).toUInt32 % 65536 = (Int32.ofInt a).toUInt32 := by
    apply UInt32.toNat_inj.mp
    rw [UInt32.toNat_mod, hb]
    exact Nat.mod_eq_of_lt (by show a.toNat < 65536; omega)
  rw [hm]; rfl
theorem x_i2c {md : HV} (C : Cs F own cc nL kf E) (d : decode cc pc = .ok (.i2c, 1)) (h : 0 ≤ a ∧ a ≤ 65535) (n : G F E hs tp md (pc + 1) L (vI a :: st)) : G F E hs tp md pc L (vI a :: st) := by
  obtain ⟨p, l, e, R, s, m, args, below, meth, c, cells, slots, Q⟩ := F
  intro H locs ls hP hS hL
  exact lv_i2c C.1 C.2.1 d (c16 h) (n H locs ls hP hS hL)
theorem x_dcmp {md : HV} {x y : UInt64} {op : CmpOp} {n : Int} (C : Cs F own cc nL kf E) (d : decode cc pc = .ok (.dcmp op, 1)) (h : Op.cmpValue (FP.dcmp x y) op = Int32.ofInt n) (k : G F E hs tp md (pc + 1) L (vI n :: st)) : G F E hs tp md pc L (.double y :: .double x :: st) := by
  obtain ⟨p, l, e, R, s, m, args, below, meth, c, cells, slots, Q⟩ := F
  intro H locs ls hP hS hL
  refine lv_dcmp C.1 C.2.1 d ?_
  rw [h]; exact k H locs ls hP hS hL
end XR
theorem dc_self {x : UInt64} (h : vf_n64 x) : Op.cmpValue (FP.dcmp x x) .l = Int32.ofInt 0 := by
  rw [show FP.dcmp x x = some .eq from FP.Core.dcmp_self (Jvm.Free.Fl.val64_no.mp h)]; rfl
/-! calls out of a walk whose world grows -/
theorem run_mono {p : Program} {l : Launch} {e : Env} {R : Room} {s : State} {m : MethodId} {args : Array Value} {below : List Frame} {meth : Method} {c : Code} {H : Heap} {locs : List Loc} {cells slots mc ms : Nat} {g : JFrame} {rest : List Value} {Qa Qb : State → Outcome → State → Prop} {free : Addr → Prop}
    (hr : va_Run p l e R s m args below meth c H locs cells slots mc ms g rest Qa free) (h : ∀ s o t, Qa s o t → Qb s o t) : va_Run p l e R s m args below meth c H locs cells slots mc ms g rest Qb free := by
  intro T hT X
  obtain ⟨v, st₀, t, T', L, h1, h2, h3, h4, h5, h6, h7⟩ := hr T hT X
  exact ⟨v, st₀, t, T', L, h1, h2, h3, h4, h5, h _ _ _ h6, h7⟩
section CALLS2
variable {p : Program} {l : Launch} {e : Env} {R : Room} {s : State} {m : MethodId} {args : Array Value} {below : List Frame} {meth : Method} {c : Code} {cells slots : Nat} {Q : State → Prop} {E : HE} {hs : Nat → HV} {tp : HV} {A : Nat → Prop} {ws : va_W} {pc : Nat} {P : PT}
theorem wl_inl {k : Nat} {x : Nat × va_E} (h : (wl E hs tp zM)[k]? = some x) : (wl E hs tp zM ++ ws)[k]? = some x := by
  rw [List.getElem?_append_left (List.getElem?_eq_some_iff.mp h).1]; exact h
theorem wl_inr {j : Nat} {x : Nat × va_E} (h : ws[j]? = some x) : (wl E hs tp zM ++ ws)[128 + j]? = some x := by
  have e : (wl E hs tp zM).length = 128 := by unfold wl; rw [List.length_map, List.length_range]
  rw [List.getElem?_append_right (by omega), e, show 128 + j - 128 = j by omega]; exact h
/-- the cells beside the world are apart from it -/
theorem wl_apart {H : Heap} (hP : va_P E.1 vwCl (wl E hs tp zM ++ ws) H) (hD : va_D A (wl E hs tp zM ++ ws)) {j : Nat} {x : Nat × va_E} (h : ws[j]? = some x) : x.1 < H.size ∧ ¬ AA E x.1 := by
  refine ⟨(hP _ x (wl_inr h)).lt, fun ⟨k, hk, e⟩ => ?_⟩
  have := hD.1 (128 + j) k x _ (wl_inr h) (wl_inl (wl_at (hs := hs) (tp := tp) (md := zM) hk)) e
  omega
/-- behind a change of the world's own cells -/
theorem wl_join {H H1 : Heap} {hs' : Nat → HV} {tp' : HV} (hE : HI E) (hAA : ∀ q, AA E q → A q) (hP : va_P E.1 vwCl (wl E hs tp zM ++ ws) H) (hD : va_D A (wl E hs tp zM ++ ws)) (hP1 : va_P E.1 vwCl (wl E hs' tp' zM) H1) (hk : ∀ q : Nat, q < H.size → ¬ AA E q → H1[q]? = H[q]?) : va_P E.1 vwCl (wl E hs' tp' zM ++ ws) H1 ∧ va_D A (wl E hs' tp' zM ++ ws) := by
  refine ⟨va_P.app hP1 fun j x hx => ?_, va_D.app ((wl_D hE hs' tp' zM).weaken fun _ x _ h => hAA x.1 h) ⟨fun i j x y hx hy h => ?_, fun j x hx => hD.2 _ x (wl_inr hx)⟩ fun i j x y hx hy h => ?_⟩
  · have a := wl_apart hP hD hx
    exact (hP _ x (wl_inr hx)).kept (hk x.1 a.1 a.2)
  · have := hD.1 (128 + i) (128 + j) x y (wl_inr hx) (wl_inr hy) h
    omega
  · obtain ⟨hi, rfl⟩ := wl_of hx
    exact (wl_apart hP hD hy).2 (h ▸ ⟨i, hi, rfl⟩)
theorem k_backX {H : Heap} {locs : List Loc} {ls : Array Slot} {st0 rest : List Value} {av : Array Value} (hE : HI E) (hAA : ∀ q, AA E q → A q)
    (hr : va_Run p l e R s m args below meth c H locs cells slots 0 0 (F0 m pc ls st0) rest (QX E P av) (AA E)) (hP : va_P E.1 vwCl (wl E hs tp zM ++ ws) H) (hD : va_D A (wl E hs tp zM ++ ws)) (hS : va_S A s.heap H locs)
    (n : ∀ v hs' tp', P v hs' tp' → ∀ (H : Heap) (locs : List Loc), va_P E.1 vwCl (wl E hs' tp' zM ++ ws) H → va_D A (wl E hs' tp' zM ++ ws) → va_S A s.heap H locs → W p l e R s m args below meth c H locs cells slots Q (F0 m (pc + 3) ls (v.toList ++ rest))) : W p l e R s m args below meth c H locs cells slots Q (F0 m pc ls st0) := by
  intro T hT X
  obtain ⟨v0, st₀, t, T', L', h0, X', hL', e1, e2, ⟨⟨v, hs', tp', hv, hp, hW⟩, hz, hk⟩, stp⟩ := hr T hT X
  cases hv
  rw [h0] at hz hk
  have hP1 : va_P E.1 vwCl (wl E hs' tp' zM) T'.heap := by rw [e1]; exact hW.1
  obtain ⟨j1, j2⟩ := wl_join (H1 := T'.heap) hE hAA hP hD hP1 (fun q h1 h2 => by rw [e1]; exact hk q h1 h2)
  obtain ⟨t2, a1, b1⟩ := n v0 hs' tp' hp T'.heap (locs ++ L') j1 j2
    ⟨Nat.le_trans hS.1 (by rw [e1]; exact hz), fun q h1 h2 => by rw [e1, hk q (Nat.lt_of_lt_of_le h1 hS.1) (fun z => h2 (hAA q z))]; exact hS.2.1 q h1 h2, fun q hq => by
      rcases List.mem_append.mp hq with h | h
      · exact hS.2.2 q h
      · exact hAA _ (hL' q h)⟩ T' rfl X'
  exact ⟨t2, stp t2 a1, b1⟩
end CALLS2
section CALLS3
variable {F : FD} {own : String} {cc : ByteArray} {nL kf : Nat} {E : HE} {hs : Nat → HV} {tp : HV} {A : Nat → Prop} {ws : va_W} {ce sl pc : Nat} {L : List (Option Value)} {P : PT}
theorem k_callX {index nA ny k : Nat} {y : MethodName} {cy : ByteArray} {ret : Option FieldType} {As rest st : List Value} (C : CC F own cc nL kf E.1 E.2.2.1 A E.2.2.2) (hE : HI E) (hAA : ∀ q, AA E q → A q) (hM : Mx y cy ny ret k E As hs tp P)
    (w1 : Cond.methodLink own index y ∈ TB) (w2 : Cond.static y ∈ TB) (w4 : Cond.initialized y.cls ∈ TB) (w5 : Cond.code y cy ny ret ∈ TB) (hd : y.cls ≠ "java/lang/invoke/MethodHandle" ∧ y.cls ≠ "java/lang/invoke/VarHandle" ∧ (parseMethodDescriptor y.desc).map (fun d => d.parameters.length) = some nA)
    (hn : As.length = nA) (hk : k + 1 ≤ kf) (hm : 19 + ny + 30 * k ≤ 30 * kf) (hr : rmC F ce sl) (hcat : (rest.map fun v => v.category).sum ≤ 8) (d : decode cc pc = .ok (.invokestatic index, 3)) (hst : As.reverse ++ rest = st)
    (n : ∀ v hs' tp', P v hs' tp' → GC F E.1 A (wl E hs' tp' zM ++ ws) ce sl (pc + 3) L (v.toList ++ rest)) : GC F E.1 A (wl E hs tp zM ++ ws) ce sl pc L st := by
  obtain ⟨p, l, e, R, s, m, args, below, meth, c, Q⟩ := F
  obtain ⟨hx, hb, hml, hown, hts, hK, hZ, hA, hfr, hlo⟩ := C
  subst hst
  intro H locs ls hP hD hS hL
  have cb := callB_of (own := own) (index := index) (R := R) (rm := RM k) (mc := 0) (ms := 0) nA hts (goodTB w5) rfl rfl rfl (hts _ w4) (hts _ w1) hd ⟨by show k + 1 ≤ _; omega, by show 8 + (ny + 11) + 30 * k ≤ _; omega⟩
  refine k_backX hE hAA (va_runS (As := As) (rest := rest) ⟨hx, hb, hml, hown, hts⟩ (hM l) ⟨cb, hts _ w2⟩ ⟨blind, fun U hU hW => ⟨rfl, ?_⟩⟩ rfl hn (hL.1.trans hml) rfl (lv_room hcat) d ⟨hr.1, hr.2⟩) hP hD hS fun v hs' tp' hp H locs hP hD hS => n v hs' tp' hp H locs ls hP hD hS hL
  exact ⟨by rw [hU]; exact fun k x hx => hP k x (wl_inl hx), hK.moved hW.alike, by rw [hU]; exact ((hZ.to hS hW).wk hAA).1⟩
theorem k_callXV {index q0 ci N A0 nA ny k : Nat} {fs : List Value} {Cn : String} {T : u_T} {y : MethodName} {cy : ByteArray} {ret : Option FieldType} {As rest st : List Value} (C : CC F own cc nL kf E.1 E.2.2.1 A E.2.2.2) (hE : HI E) (hAA : ∀ q, AA E q → A q) (hM : Mx y cy ny ret k E (.ref A0 :: As) hs tp P)
    (w1 : Cond.methodLink own index y ∈ TB) (w2 : Cond.instanceMethod y ∈ TB) (w3 : Cond.selects Cn y y ∈ TB) (w4 : Cond.initialized Cn ∈ TB) (w5 : Cond.code y cy ny ret ∈ TB) (hd : y.cls = Cn ∧ y.cls ≠ "java/lang/invoke/MethodHandle" ∧ y.cls ≠ "java/lang/invoke/VarHandle" ∧ (parseMethodDescriptor y.desc).map (fun d => d.parameters.length) = some nA)
    (hw : (wl E hs tp zM)[q0]? = some (A0, .inr (ci, fs))) (hc : vwCl[ci]? = some (Cn, T, N)) (hn : As.length = nA) (hk : k + 1 ≤ kf) (hm : 19 + ny + 30 * k ≤ 30 * kf) (hr : rmC F ce sl) (hcat : (rest.map fun v => v.category).sum ≤ 8) (d : decode cc pc = .ok (.invokevirtual index, 3)) (hst : As.reverse ++ .ref A0 :: rest = st)
    (n : ∀ v hs' tp', P v hs' tp' → GC F E.1 A (wl E hs' tp' zM ++ ws) ce sl (pc + 3) L (v.toList ++ rest)) : GC F E.1 A (wl E hs tp zM ++ ws) ce sl pc L st := by
  obtain ⟨p, l, e, R, s, m, args, below, meth, c, Q⟩ := F
  obtain ⟨hx, hb, hml, hown, hts, hK, hZ, hA, hfr, hlo⟩ := C
  subst hst
  intro H locs ls hP hD hS hL
  have hG : GoodIn TB (wsV own index Cn y (.code y cy ny ret :: TB)) := fun w hw => by
    rcases List.mem_append.mp hw with h | h
    · have h' : w ∈ TB := by
        simp only [List.mem_cons, List.not_mem_nil, or_false] at h
        rcases h with rfl | rfl | rfl | rfl <;> assumption
      exact ⟨h', good_of_word (tb_good _ h')⟩
    · exact goodTB w5 w h
  have cw : CallW R s args own Cn index y cy ny ret (.code y cy ny ret :: TB) (RM k) 0 0 nA := cwV nA hts hG rfl rfl rfl hd ⟨by show k + 1 ≤ _; omega, by show 8 + (ny + 11) + 30 * k ≤ _; omega⟩
  refine k_backX hE hAA (va_runV (As := As) (rest := rest) ⟨hx, hb, hml, hown, hts⟩ (hM l) cw ⟨blind, va_recv hK hP hc (wl_inl hw), fun U hU hW => ⟨rfl, ?_⟩⟩ rfl hn (hL.1.trans hml) rfl (lv_room hcat) d ⟨hr.1, hr.2⟩) hP hD hS fun v hs' tp' hp H locs hP hD hS => n v hs' tp' hp H locs ls hP hD hS hL
  exact ⟨by rw [hU]; exact fun k x hx => hP k x (wl_inl hx), hK.moved hW.alike, by rw [hU]; exact ((hZ.to hS hW).wk hAA).1⟩
/-- a call whose contract names its answer -/
theorem k_callMV {index q0 ci N A0 nA ny k : Nat} {fs : List Value} {Cn : String} {T : u_T} {y : MethodName} {cy : ByteArray} {ret : Option FieldType} {As rest st : List Value} {v : Option Value} {hs' : Nat → HV} {tp' : HV} (C : CC F own cc nL kf E.1 E.2.2.1 A E.2.2.2) (hE : HI E) (hAA : ∀ q, AA E q → A q) (hM : Mt y cy ny ret k E (.ref A0 :: As) hs tp zM v hs' tp' zM)
    (w1 : Cond.methodLink own index y ∈ TB) (w2 : Cond.instanceMethod y ∈ TB) (w3 : Cond.selects Cn y y ∈ TB) (w4 : Cond.initialized Cn ∈ TB) (w5 : Cond.code y cy ny ret ∈ TB) (hd : y.cls = Cn ∧ y.cls ≠ "java/lang/invoke/MethodHandle" ∧ y.cls ≠ "java/lang/invoke/VarHandle" ∧ (parseMethodDescriptor y.desc).map (fun d => d.parameters.length) = some nA)
    (hw : (wl E hs tp zM)[q0]? = some (A0, .inr (ci, fs))) (hc : vwCl[ci]? = some (Cn, T, N)) (hn : As.length = nA) (hk : k + 1 ≤ kf) (hm : 19 + ny + 30 * k ≤ 30 * kf) (hr : rmC F ce sl) (hcat : (rest.map fun v => v.category).sum ≤ 8) (d : decode cc pc = .ok (.invokevirtual index, 3)) (hst : As.reverse ++ .ref A0 :: rest = st)
    (n : GC F E.1 A (wl E hs' tp' zM ++ ws) ce sl (pc + 3) L (v.toList ++ rest)) : GC F E.1 A (wl E hs tp zM ++ ws) ce sl pc L st := by
  obtain ⟨p, l, e, R, s, m, args, below, meth, c, Q⟩ := F
  obtain ⟨hx, hb, hml, hown, hts, hK, hZ, hA, hfr, hlo⟩ := C
  subst hst
  intro H locs ls hP hD hS hL
  have hG : GoodIn TB (wsV own index Cn y (.code y cy ny ret :: TB)) := fun w hw => by
    rcases List.mem_append.mp hw with h | h
    · have h' : w ∈ TB := by
        simp only [List.mem_cons, List.not_mem_nil, or_false] at h
        rcases h with rfl | rfl | rfl | rfl <;> assumption
      exact ⟨h', good_of_word (tb_good _ h')⟩
    · exact goodTB w5 w h
  have cw : CallW R s args own Cn index y cy ny ret (.code y cy ny ret :: TB) (RM k) 0 0 nA := cwV nA hts hG rfl rfl rfl hd ⟨by show k + 1 ≤ _; omega, by show 8 + (ny + 11) + 30 * k ≤ _; omega⟩
  have run := va_runV (e := e) (below := below) (meth := meth) (As := As) (rest := rest) (cells := ce) (slots := sl) (locs := locs) (H := H) (g := F0 m pc ls (As.reverse ++ Value.ref A0 :: rest)) ⟨hx, hb, hml, hown, hts⟩ (hM l) cw ⟨blind, va_recv hK hP hc (wl_inl hw), fun U hU hW => ⟨rfl, (⟨by rw [hU]; exact fun k x hx => hP k x (wl_inl hx), hK.moved hW.alike, by rw [hU]; exact ((hZ.to hS hW).wk hAA).1⟩ : Wd E hs tp zM U)⟩⟩ rfl hn (hL.1.trans hml) rfl (lv_room hcat) d ⟨hr.1, hr.2⟩
  have run2 := run_mono (Qb := QX E (fun v1 hs1 tp1 => v1 = v ∧ hs1 = hs' ∧ tp1 = tp') ((Value.ref A0 :: As).toArray)) run fun s o t h => ⟨⟨v, hs', tp', h.1.1, ⟨rfl, rfl, rfl⟩, h.1.2⟩, h.2⟩
  refine k_backX hE hAA run2 hP hD hS fun v1 hs1 tp1 hp H locs hP hD hS => ?_
  obtain ⟨rfl, rfl, rfl⟩ := hp
  exact n H locs ls hP hD hS hL
end CALLS3
