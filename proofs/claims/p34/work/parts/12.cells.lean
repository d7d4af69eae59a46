/-! rows that read and write cells, call and return -/
section CELLS
variable {F : FC} {own : String} {cc : ByteArray} {nL kf : Nat} {E : HE} {hs : Nat → HV} {tp md : HV} {pc : Nat} {L : List (Option Value)} {st : List Value} {a b : Int} {hs' : Nat → HV} {tp' md' : HV}
theorem x_get {index q0 ci N A : Nat} {fs : List Value} {v : Value} {Cn : String} {T : u_T} (C : Cs F own cc nL kf E) (hw : (wl E hs tp md)[q0]? = some (A, .inr (ci, fs))) (hc : vwCl[ci]? = some (Cn, T, N)) (hin : ∀ w ∈ u_ws Cn T N, w ∈ TB) (k : Nat) (hk : k < N) (hl : Cond.fieldLink own index (T k).1 (T k).2.1 (T k).2.2.1 ∈ TB) (hv : fs[k]? = some v) (d : decode cc pc = .ok (.getfield index, 3)) (n : G F E hs tp md (pc + 3) L (v :: st)) : G F E hs tp md pc L (.ref A :: st) := by
  obtain ⟨p, l, e, R, s, m, args, below, meth, c, cells, slots, Q⟩ := F
  obtain ⟨hx, hb, hml, hown, hts, hK, -⟩ := C
  intro H locs ls hP hS hL
  exact va_get hx hb hts hin hown hK hP q0 hw hc k hk (hts _ hl) (fun _ h => h) hv d (n H locs ls hP hS hL)
theorem x_put {index q0 ci N A : Nat} {fs : List Value} {v : Value} {Cn : String} {T : u_T} {ty0 : Nat → FieldType} (C : Cs F own cc nL kf E) (hw : (wl E hs tp md)[q0]? = some (A, .inr (ci, fs))) (hc : vwCl[ci]? = some (Cn, T, N)) (hin : ∀ w ∈ u_ws Cn T N, w ∈ TB) (hty : ∀ k, k < N → parseFieldDescriptor (T k).2.2.1 = some (ty0 k)) (hnm : ∀ a, a < N → ∀ b, b < N → a ≠ b → (T a).2.1 ≠ (T b).2.1) (k : Nat) (hk : k < N) (hl : Cond.fieldLink own index (T k).1 (T k).2.1 (T k).2.2.1 ∈ TB) (hfin : (T k).2.2.2 = false) (hn : narrow (ty0 k) v = v) (hfit : fits (ty0 k) v = true) (hlen : k < fs.length) (hset : (wl E hs tp md).set q0 (A, .inr (ci, fs.set k v)) = wl E hs' tp' md') (d : decode cc pc = .ok (.putfield index, 3)) (n : G F E hs' tp' md' (pc + 3) L st) : G F E hs tp md pc L (v :: .ref A :: st) := by
  obtain ⟨p, l, e, R, s, m, args, below, meth, c, cells, slots, Q⟩ := F
  obtain ⟨hx, hb, hml, hown, hts, hK, hE, -⟩ := C
  intro H locs ls hP hS hL
  exact va_put hx hb hts hin ty0 hty hnm hown hK hP (wl_D hE hs tp md) hS q0 hw hc k hk (hts _ hl) (fun _ h => h) hfin (hty k hk) hn hfit hlen d fun H1 locs1 hP1 _ hS1 => n H1 locs1 ls (by rw [hset] at hP1; exact hP1) hS1 hL
theorem x_iald {q0 A : Nat} {N : Nat} {f : Int → Int} (C : Cs F own cc nL kf E) (hw : (wl E hs tp md)[q0]? = some (A, .inl (E.2.2.1 0, N, .inl (AI f)))) (hN : N < 20000) (h0 : 0 ≤ a) (h1 : a < N) (d : decode cc pc = .ok (.iaload, 1)) (n : G F E hs tp md (pc + 1) L (vI (f a) :: st)) : G F E hs tp md pc L (vI a :: .ref A :: st) := by
  obtain ⟨p, l, e, R, s, m, args, below, meth, c, cells, slots, Q⟩ := F
  obtain ⟨hx, hb, hml, hown, hts, hK, -⟩ := C
  intro H locs ls hP hS hL
  refine va_iald hx hb hK hP q0 0 hw rfl (oI_in h0 h1 hN) d ?_
  rw [AI_at h0 h1 hN]
  exact n H locs ls hP hS hL
theorem x_cald {q0 A : Nat} {N : Nat} {f : Int → Int} (C : Cs F own cc nL kf E) (hw : (wl E hs tp md)[q0]? = some (A, .inl (E.2.2.1 1, N, .inl (AI f)))) (hN : N < 20000) (h0 : 0 ≤ a) (h1 : a < N) (d : decode cc pc = .ok (.caload, 1)) (n : G F E hs tp md (pc + 1) L (vI (f a) :: st)) : G F E hs tp md pc L (vI a :: .ref A :: st) := by
  obtain ⟨p, l, e, R, s, m, args, below, meth, c, cells, slots, Q⟩ := F
  obtain ⟨hx, hb, hml, hown, hts, hK, -⟩ := C
  intro H locs ls hP hS hL
  refine va_cald hx hb hK hP q0 1 hw rfl (oI_in h0 h1 hN) d ?_
  rw [AI_at h0 h1 hN]
  exact n H locs ls hP hS hL
theorem x_iast {q0 A : Nat} {N : Nat} {f : Int → Int} (C : Cs F own cc nL kf E) (hw : (wl E hs tp md)[q0]? = some (A, .inl (E.2.2.1 0, N, .inl (AI f)))) (hN : N < 20000) (h0 : 0 ≤ a) (h1 : a < N) (hset : (wl E hs tp md).set q0 (A, .inl (E.2.2.1 0, N, .inl (AI (up1 f a b)))) = wl E hs' tp' md') (d : decode cc pc = .ok (.iastore, 1)) (n : G F E hs' tp' md' (pc + 1) L st) : G F E hs tp md pc L (vI b :: vI a :: .ref A :: st) := by
  obtain ⟨p, l, e, R, s, m, args, below, meth, c, cells, slots, Q⟩ := F
  obtain ⟨hx, hb, hml, hown, hts, hK, hE, -⟩ := C
  intro H locs ls hP hS hL
  refine va_iast hx hb hK hP (wl_D hE hs tp md) hS q0 0 hw rfl (oI_in h0 h1 hN) d fun H1 locs1 hP1 _ hS1 => n H1 locs1 ls ?_ hS1 hL
  rw [← AI_up (v := b) h0 (oI_clamp ⟨by omega, by omega⟩), hset] at hP1
  exact hP1
theorem x_cast {q0 A : Nat} {N : Nat} {f : Int → Int} (C : Cs F own cc nL kf E) (hw : (wl E hs tp md)[q0]? = some (A, .inl (E.2.2.1 1, N, .inl (AI f)))) (hN : N < 20000) (h0 : 0 ≤ a) (h1 : a < N) (hb0 : vp_nar .char (Int32.ofInt b) = Int32.ofInt b) (hset : (wl E hs tp md).set q0 (A, .inl (E.2.2.1 1, N, .inl (AI (up1 f a b)))) = wl E hs' tp' md') (d : decode cc pc = .ok (.castore, 1)) (n : G F E hs' tp' md' (pc + 1) L st) : G F E hs tp md pc L (vI b :: vI a :: .ref A :: st) := by
  obtain ⟨p, l, e, R, s, m, args, below, meth, c, cells, slots, Q⟩ := F
  obtain ⟨hx, hb, hml, hown, hts, hK, hE, -⟩ := C
  intro H locs ls hP hS hL
  refine va_cast hx hb hK hP (wl_D hE hs tp md) hS q0 1 hw rfl (oI_in h0 h1 hN) d fun H1 locs1 hP1 _ hS1 => n H1 locs1 ls ?_ hS1 hL
  rw [hb0, ← AI_up (v := b) h0 (oI_clamp ⟨by omega, by omega⟩), hset] at hP1
  exact hP1
theorem x_alen {q0 A : Nat} {N : Nat} {f : Int → Int} (C : Cs F own cc nL kf E) (hw : (wl E hs tp md)[q0]? = some (A, .inl (E.2.2.1 0, N, .inl (AI f)))) (d : decode cc pc = .ok (.arraylength, 1)) (n : G F E hs tp md (pc + 1) L (vI (N : Int) :: st)) : G F E hs tp md pc L (.ref A :: st) := by
  obtain ⟨p, l, e, R, s, m, args, below, meth, c, cells, slots, Q⟩ := F
  obtain ⟨hx, hb, hml, hown, hts, hK, -⟩ := C
  intro H locs ls hP hS hL
  exact va_alen hx hb hK hP q0 0 hw rfl (Int32.ofInt_eq_ofNat).symm d (n H locs ls hP hS hL)
/-! the statics stay -/
theorem va_X.at {b L : Nat} {xs : Nat → Int32} {U U' : State} {H H' : Heap} (h : va_X b L xs U H) (hvm : U.vm.Alike U'.vm) (hq : H'[b]? = H[b]?) : va_X b L xs U' H' := (h.moved hvm).kept hq
theorem ZS.to {A : Nat → Prop} {bb : Nat → Nat} {s U : State} {H : Heap} {locs : List Loc} (h : ZS A bb s s.heap) (hS : va_S A s.heap H locs) (hW : s.WarmedH U.vm) : ZS A bb U H := by
  refine ⟨fun i hi => ?_, h.2.warmM hW⟩
  obtain ⟨h1, h2, h3, h4⟩ := h.1 i hi
  exact ⟨(h1.kept fun a ha hn => hS.2.1 a ha hn).moved hW.alike, h2.at hW.alike (hS.2.1 _ h3 h4), Nat.lt_of_lt_of_le h3 hS.1, h4⟩
theorem ZS.same {A : Nat → Prop} {bb : Nat → Nat} {s U : State} {H : Heap} (h : ZS A bb s H) (hW : s.vm = U.vm) : ZS A bb U H := by
  have hal : s.vm.Alike U.vm := hW ▸ Vm.Alike.refl _
  exact ⟨fun i hi => ⟨(h.1 i hi).1.moved hal, (h.1 i hi).2.1.moved hal, (h.1 i hi).2.2⟩, h.2.same rfl hW⟩
/-! contracts -/
abbrev RM (k : Nat) : Room := { frames := k, cells := 0, slots := 0, locals := 30 * k }
def QR (E : HE) (v : Option Value) (hs : Nat → HV) (tp md : HV) : Array Value → State → Outcome → State → Prop := fun _ s o t => (o = .returned v ∧ Wd E hs tp md t) ∧ va_F (AA E) s t
/-- the method y, from the world hs tp md with these arguments: it returns v, and the world is hs' tp' md' -/
def Mt (y : MethodName) (cy : ByteArray) (ny : Nat) (ret : Option FieldType) (k : Nat) (E : HE) (args : List Value) (hs : Nat → HV) (tp md : HV) (v : Option Value) (hs' : Nat → HV) (tp' md' : HV) : Prop :=
  ∀ l : Launch, Met l y (.code y cy ny ret :: TB) (RM k) (va_Pc args (Wd E hs tp md)) (QR E v hs' tp' md') 0 0 (AA E)
/-- where a walk ends -/
def Ce : FC → Option FieldType → HE → Option Value → (Nat → HV) → HV → HV → Prop := fun (_, _, _, _, s, _, args, below, meth, _, cells, slots, Q) ret E v hs tp md =>
  cells = 0 ∧ slots = 0 ∧ meth.sig.returnType = ret ∧ Q = MQ below (QR E v hs tp md) args s 0 0 (AA E)
theorem LH_entry {vs : List Value} {n : Nat} (h : vs.length ≤ n) (hc : ∀ v ∈ vs, v.category = 1) : LH ((lg_sl vs ++ List.replicate (n - (lg_sl vs).length) Slot.unset).toArray) n (vs.map some ++ List.replicate (n - vs.length) none) := by
  have e1 : lg_sl vs = vs.map Slot.val := by
    induction vs with
    | nil => rfl
    | cons v l ih =>
      have hv := hc v List.mem_cons_self
      have ih' := ih (by simp at h; omega) (fun w hw => hc w (List.mem_cons_of_mem _ hw))
      show (if v.category = 2 then _ else _) ++ lg_sl l = _
      rw [ih', if_neg (by omega)]
      rfl
  have hl : (lg_sl vs).length = vs.length := by rw [e1, List.length_map]
  obtain ⟨h1, h2, -⟩ := lv_entry vs (n := n) (by omega)
  refine ⟨h1, h2, fun i v hi => ?_⟩
  by_cases hlt : i < vs.length
  · rw [List.getElem?_append_left (by rw [List.length_map]; exact hlt), List.getElem?_map] at hi
    obtain ⟨w0, hw, e⟩ := Option.map_eq_some_iff.mp hi
    have e' : w0 = v := Option.some.inj e
    subst e'
    refine ⟨?_, hc w0 (List.mem_of_getElem? hw)⟩
    rw [e1, List.getElem?_toArray, List.getElem?_append_left (by rw [List.length_map]; exact hlt), List.getElem?_map, hw]
    rfl
  · rw [List.getElem?_append_right (by rw [List.length_map]; omega), List.getElem?_replicate] at hi
    split at hi <;> cases hi
/-- a contract out of a walk, for a class or a method that no row of the natives runs instead -/
theorem ofWF {l : Launch} {y : MethodName} {ws ws' : List Cond} {rm : Room} {Pc : Array Value → State → Prop} {Qc : Array Value → State → Outcome → State → Prop} {mc ms : Nat} {free : Addr → Prop} {cy : ByteArray} {maxL : Nat} {ret : Option FieldType} (hy : plainFor y = true) (hw : ws = Cond.code y cy maxL ret :: ws')
    (body : ∀ p e s m args below meth c s₁, BodyLoose p l y (headSpec ws rm) cy maxL ret e s m args below meth c s₁ → c.maxLocals = maxL → Pc args s → W p l e (headSpec ws rm).room s m args below meth c s.heap [] 0 0 (MQ below Qc args s mc ms free) (entryFrame m args maxL)) : Met l y ws rm Pc Qc mc ms free := by
  refine MetFree.of_bodySF (code := cy) (maxLocals := maxL) (ret := ret) hy ?_ ?_
  · intro args s m h hn
    obtain ⟨meth, c, h1, h2, h3, h4, h5, h6, -, -⟩ := Cond.code_spec hn (atoms_spec (ws := ws) h _ (by rw [hw]; exact List.mem_cons_self))
    exact ⟨meth, c, h1, h2, h3, h4, h5, h6⟩
  · intro p e s m args below meth c s₁ B hml hP _
    have hh0 : s₁.heap = s.heap := by rw [B.state]; rfl
    obtain ⟨t, a1, o, b1, b2, b3⟩ := body p e s m args below meth c s₁ B hml hP s₁ hh0 (Stand.of_body B)
    exact ⟨t, o, a1, b1, b2, ⟨b3.1, b3.2⟩⟩
theorem mk_Mt {y : MethodName} {cy : ByteArray} {ny k : Nat} {ret : Option FieldType} {args : List Value} {v : Option Value} {L0 : List (Option Value)} (hE : HI E) (hy : plainFor y = true) (hlen : args.length ≤ ny) (hc : ∀ w ∈ args, w.category = 1) (hL0 : args.map some ++ List.replicate (ny - args.length) none = L0)
    (body : ∀ F : FC, Cs F y.cls cy ny k E → Ce F ret E v hs' tp' md' → G F E hs tp md 0 L0 []) : Mt y cy ny ret k E args hs tp md v hs' tp' md' := by
  intro l
  refine ofWF (cy := cy) (maxL := ny) (ret := ret) hy rfl ?_
  intro p e s m av below meth c s₁ B hml hv
  obtain ⟨rfl, hP, hK, hZ⟩ := hv
  have hts := atoms_spec (ws := .code y cy ny ret :: TB) B.pre
  have C : Cs (p, l, e, (headSpec (.code y cy ny ret :: TB) (RM k)).room, s, m, args.toArray, below, meth, c, 0, 0, MQ below (QR E v hs' tp' md') args.toArray s 0 0 (AA E)) y.cls cy ny k E :=
    ⟨B.exec, B.bytes, hml, findClass_of_methodNamed B.named, fun w hw => hts w (List.mem_cons_of_mem _ hw), hK, hE, hZ, Nat.zero_le _, Nat.zero_le _, Nat.le_refl _, Nat.le_refl _, B.notSynchronized⟩
  rw [lg_entry_eq]
  exact body _ C ⟨rfl, rfl, B.returns, rfl⟩ s.heap [] _ hP va_S.rf (by rw [hml, ← hL0]; exact LH_entry hlen hc)
theorem Wd.of {s t : State} {H : Heap} {locs : List Loc} (hP : va_P E.1 vwCl (wl E hs tp md) H) (hK : va_K E.1 vwCl (tysE E) s) (hZ : ZS (AA E) E.2.2.2 s s.heap) (hS : va_S (AA E) s.heap H locs) (ht : t.heap = H) (hW : s.WarmedH t.vm) : Wd E hs tp md t :=
  ⟨by rw [ht]; exact hP, hK.moved hW.alike, by rw [ht]; exact hZ.to hS hW⟩
theorem x_iret {r : Int} {ty : FieldType} (C : Cs F own cc nL kf E) (D : Ce F (some ty) E (some (vI r)) hs' tp' md') (hn : narrow ty (vI r) = vI r) (d : decode cc pc = .ok (.ireturn, 1)) (e0 : a = r) (e1 : hs = hs') (e2 : tp = tp') (e3 : md = md') : G F E hs tp md pc L [vI a] := by
  obtain ⟨p, l, e, R, s, m, args, below, meth, c, cells, slots, Q⟩ := F
  obtain ⟨hx, hb, hml, hown, hts, hK, hE, hZ, -, -, -, -, hlk⟩ := C
  obtain ⟨z1, z2, hr, hQ⟩ := D
  subst e0; subst e1; subst e2; subst e3; subst z1; subst z2; subst hQ
  intro H locs ls hP hS hL
  exact W.zret hx hb hr hn (fun t ht hW => ⟨⟨rfl, Wd.of hP hK hZ hS ht hW⟩, hS.F ht⟩) (fun q hq => hS.2.2 q hq) d hlk
theorem x_vret (C : Cs F own cc nL kf E) (D : Ce F none E none hs' tp' md') (d : decode cc pc = .ok (.return_, 1)) (e1 : hs = hs') (e2 : tp = tp') (e3 : md = md') : G F E hs tp md pc L [] := by
  obtain ⟨p, l, e, R, s, m, args, below, meth, c, cells, slots, Q⟩ := F
  obtain ⟨hx, hb, hml, hown, hts, hK, hE, hZ, -, -, -, -, hlk⟩ := C
  obtain ⟨z1, z2, hr, hQ⟩ := D
  subst e1; subst e2; subst e3; subst z1; subst z2; subst hQ
  intro H locs ls hP hS hL
  exact W.vret hx hb hr (fun t ht hW => ⟨⟨rfl, Wd.of hP hK hZ hS ht hW⟩, hS.F ht⟩) (fun q hq => hS.2.2 q hq) d hlk
theorem blind {args : List Value} : FrameBlind (va_Pc args (Wd E hs tp md)) := fun a U g mk q => by
  obtain ⟨q0, qP, qK, qZ⟩ := q
  exact ⟨q0, qP, va_K.moved (u := U) (U := U.calling g mk a) (Vm.Alike.refl U.vm) qK, qZ.same rfl⟩
theorem goodTB {y : MethodName} {cy : ByteArray} {ny : Nat} {ret : Option FieldType} (h : Cond.code y cy ny ret ∈ TB) : GoodIn TB (.code y cy ny ret :: TB) := fun w hw => by
  rcases List.mem_cons.mp hw with rfl | hw
  · exact ⟨h, good_of_word (tb_good _ h)⟩
  · exact ⟨hw, good_of_word (tb_good _ hw)⟩
theorem x_back {p : Program} {l : Launch} {e : Env} {R : Room} {s : State} {m : MethodId} {args : Array Value} {below : List Frame} {meth : Method} {c : Code} {cells slots : Nat} {Q : State → Prop} {H : Heap} {locs : List Loc} {ls : Array Slot} {st0 rest : List Value} {av : Array Value} {v : Option Value}
    (hr : va_Run p l e R s m args below meth c H locs cells slots 0 0 (F0 m pc ls st0) rest (QR E v hs' tp' md' av) (AA E)) (hS : va_S (AA E) s.heap H locs) (hL : LH ls c.maxLocals L) (n : G (p, l, e, R, s, m, args, below, meth, c, cells, slots, Q) E hs' tp' md' (pc + 3) L (v.toList ++ rest)) : W p l e R s m args below meth c H locs cells slots Q (F0 m pc ls st0) := by
  intro T hT X
  obtain ⟨v0, st₀, t, T', L', h0, X', hL', e1, e2, ⟨⟨hv, hW⟩, hz, hk⟩, stp⟩ := hr T hT X
  cases hv
  rw [h0] at hz hk
  obtain ⟨t2, a1, b1⟩ := n T'.heap (locs ++ L') ls (by rw [e1]; exact hW.1)
    ⟨Nat.le_trans hS.1 (by rw [e1]; exact hz), fun q h1 h2 => by rw [e1, hk q (Nat.lt_of_lt_of_le h1 hS.1) h2]; exact hS.2.1 q h1 h2, fun q hq => by
      rcases List.mem_append.mp hq with h | h
      · exact hS.2.2 q h
      · exact hL' q h⟩ hL T' rfl X'
  exact ⟨t2, stp t2 a1, b1⟩
theorem x_callV {index q0 ci N A nA ny k : Nat} {fs : List Value} {Cn : String} {T : u_T} {y : MethodName} {cy : ByteArray} {ret : Option FieldType} {As rest : List Value} {v : Option Value} (C : Cs F own cc nL kf E) (hM : Mt y cy ny ret k E (.ref A :: As) hs tp md v hs' tp' md')
    (w1 : Cond.methodLink own index y ∈ TB) (w2 : Cond.instanceMethod y ∈ TB) (w3 : Cond.selects Cn y y ∈ TB) (w4 : Cond.initialized Cn ∈ TB) (w5 : Cond.code y cy ny ret ∈ TB) (hd : y.cls = Cn ∧ y.cls ≠ "java/lang/invoke/MethodHandle" ∧ y.cls ≠ "java/lang/invoke/VarHandle" ∧ (parseMethodDescriptor y.desc).map (fun d => d.parameters.length) = some nA)
    (hw : (wl E hs tp md)[q0]? = some (A, .inr (ci, fs))) (hc : vwCl[ci]? = some (Cn, T, N)) (hn : As.length = nA) (hk : k + 1 ≤ kf) (hm : 19 + ny + 30 * k ≤ 30 * kf) (hcat : (rest.map fun v => v.category).sum ≤ 8) (d : decode cc pc = .ok (.invokevirtual index, 3)) (hst : As.reverse ++ .ref A :: rest = st)
    (n : G F E hs' tp' md' (pc + 3) L (v.toList ++ rest)) : G F E hs tp md pc L st := by
  obtain ⟨p, l, e, R, s, m, args, below, meth, c, cells, slots, Q⟩ := F
  obtain ⟨hx, hb, hml, hown, hts, hK, hE, hZ, hce, hsl, hfr, hlo, hlk⟩ := C
  subst hst
  intro H locs ls hP hS hL
  have hG : GoodIn TB (wsV own index Cn y (.code y cy ny ret :: TB)) := fun w hw => by
    rcases List.mem_append.mp hw with h | h
    · have h' : w ∈ TB := by
        simp only [List.mem_cons, List.not_mem_nil, or_false] at h
        rcases h with rfl | rfl | rfl | rfl <;> assumption
      exact ⟨h', good_of_word (tb_good _ h')⟩
    · exact goodTB w5 w h
  have cw : CallW R s args own Cn index y cy ny ret (.code y cy ny ret :: TB) (RM k) 0 0 nA := cwV nA hts hG rfl rfl rfl hd ⟨by show k + 1 ≤ _; omega, by show 8 + (ny + 11) + 30 * k ≤ _; omega⟩
  refine x_back (va_runV (As := As) (rest := rest) ⟨hx, hb, hml, hown, hts⟩ (hM l) cw ⟨blind, va_recv hK hP hc hw, fun U hU hW => ⟨rfl, Wd.of hP hK hZ hS hU hW⟩⟩ rfl hn (hL.1.trans hml) rfl (lv_room hcat) d ⟨hce, hsl⟩) hS hL n
theorem x_callS {index nA ny k : Nat} {y : MethodName} {cy : ByteArray} {ret : Option FieldType} {As rest : List Value} {v : Option Value} (C : Cs F own cc nL kf E) (hM : Mt y cy ny ret k E As hs tp md v hs' tp' md')
    (w1 : Cond.methodLink own index y ∈ TB) (w2 : Cond.static y ∈ TB) (w4 : Cond.initialized y.cls ∈ TB) (w5 : Cond.code y cy ny ret ∈ TB) (hd : y.cls ≠ "java/lang/invoke/MethodHandle" ∧ y.cls ≠ "java/lang/invoke/VarHandle" ∧ (parseMethodDescriptor y.desc).map (fun d => d.parameters.length) = some nA)
    (hn : As.length = nA) (hk : k + 1 ≤ kf) (hm : 19 + ny + 30 * k ≤ 30 * kf) (hcat : (rest.map fun v => v.category).sum ≤ 8) (d : decode cc pc = .ok (.invokestatic index, 3)) (hst : As.reverse ++ rest = st)
    (n : G F E hs' tp' md' (pc + 3) L (v.toList ++ rest)) : G F E hs tp md pc L st := by
  obtain ⟨p, l, e, R, s, m, args, below, meth, c, cells, slots, Q⟩ := F
  obtain ⟨hx, hb, hml, hown, hts, hK, hE, hZ, hce, hsl, hfr, hlo, hlk⟩ := C
  subst hst
  intro H locs ls hP hS hL
  have cb := callB_of (own := own) (index := index) (R := R) (rm := RM k) (mc := 0) (ms := 0) nA hts (goodTB w5) rfl rfl rfl (hts _ w4) (hts _ w1) hd ⟨by show k + 1 ≤ _; omega, by show 8 + (ny + 11) + 30 * k ≤ _; omega⟩
  refine x_back (va_runS (As := As) (rest := rest) ⟨hx, hb, hml, hown, hts⟩ (hM l) ⟨cb, hts _ w2⟩ ⟨blind, fun U hU hW => ⟨rfl, Wd.of hP hK hZ hS hU hW⟩⟩ rfl hn (hL.1.trans hml) rfl (lv_room hcat) d ⟨hce, hsl⟩) hS hL n
theorem x_callSN {index nA ny k : Nat} {host : String} {y : MethodName} {cy : ByteArray} {ret : Option FieldType} {As rest : List Value} {v : Option Value} (C : Cs F own cc nL kf E) (hM : Mt y cy ny ret k E As hs tp md v hs' tp' md') (ho : Cond.methodLinkNest own index y host = .methodLinkNest RX3 88 yX6_areNightsAndPersons "HutBookings")
    (w2 : Cond.static y ∈ TB) (w4 : Cond.initialized y.cls ∈ TB) (w5 : Cond.code y cy ny ret ∈ TB) (hd : y.cls ≠ "java/lang/invoke/MethodHandle" ∧ y.cls ≠ "java/lang/invoke/VarHandle" ∧ (parseMethodDescriptor y.desc).map (fun d => d.parameters.length) = some nA)
    (hn : As.length = nA) (hk : k + 1 ≤ kf) (hm : 19 + ny + 30 * k ≤ 30 * kf) (hcat : (rest.map fun v => v.category).sum ≤ 8) (d : decode cc pc = .ok (.invokestatic index, 3)) (hst : As.reverse ++ rest = st)
    (n : G F E hs' tp' md' (pc + 3) L (v.toList ++ rest)) : G F E hs tp md pc L st := by
  obtain ⟨p, l, e, R, s, m, args, below, meth, c, cells, slots, Q⟩ := F
  obtain ⟨hx, hb, hml, hown, hts, hK, hE, hZ, hce, hsl, hfr, hlo, hlk⟩ := C
  subst hst
  intro H locs ls hP hS hL
  have cb := va_cnB (own := own) (index := index) (host := host) (R := R) (rm := RM k) (mc := 0) (ms := 0) nA hts (goodTB w5) rfl rfl rfl (by rw [ho]; exact hZ.2) (hts _ w4) hd ⟨by show k + 1 ≤ _; omega, by show 8 + (ny + 11) + 30 * k ≤ _; omega⟩
  refine x_back (va_runSN (As := As) (rest := rest) ⟨hx, hb, hml, hown, hts⟩ (hM l) ⟨cb, hts _ w2, trivial⟩ ⟨blind, fun U hU hW => ⟨rfl, Wd.of hP hK hZ hS hU hW⟩⟩ rfl hn (hL.1.trans hml) rfl (lv_room hcat) d ⟨hce, hsl⟩) hS hL n
/-- the first n places of f over those of g -/
def cpI (f g : Int → Int) (n : Int) : Int → Int := fun i => if 0 ≤ i ∧ i < n then f i else g i
theorem AI_cp {f g : Int → Int} {n : Int} (h0 : 0 ≤ n) : va_cpy (AI f) (AI g) 0 0 n.toNat = AI (cpI f g n) := by
  funext k
  unfold va_cpy AI cpI
  by_cases hk : k < n.toNat
  · rw [if_pos ⟨Nat.zero_le _, by omega⟩, if_pos ⟨by omega, by omega⟩, Nat.sub_zero, Nat.zero_add]
  · rw [if_neg (by omega), if_neg (by omega)]
theorem x_copy {index q0 q1 A0 A1 N N1 : Nat} {f g : Int → Int} (C : Cs F own cc nL kf E) (w1 : Cond.methodLink own index arraycopyName ∈ TB) (hw0 : (wl E hs tp md)[q0]? = some (A0, .inl (E.2.2.1 0, N, .inl (AI f)))) (hw1 : (wl E hs tp md)[q1]? = some (A1, .inl (E.2.2.1 0, N1, .inl (AI g)))) (h0 : 0 ≤ a) (h1 : a ≤ N) (h2 : a ≤ N1) (hN : N < 20000) (hset : (wl E hs tp md).set q1 (A1, .inl (E.2.2.1 0, N1, .inl (AI (cpI f g a)))) = wl E hs' tp' md') (hk : 2 ≤ kf) (hcat : (st.map fun v => v.category).sum ≤ 8) (d : decode cc pc = .ok (.invokestatic index, 3)) (n : G F E hs' tp' md' (pc + 3) L st) : G F E hs tp md pc L (vI a :: vI 0 :: .ref A1 :: vI 0 :: .ref A0 :: st) := by
  obtain ⟨p, l, e, R, s, m, args, below, meth, c, cells, slots, Q⟩ := F
  obtain ⟨hx, hb, hml, hown, hts, hK, hE, hZ, hce, hsl, hfr, hlo, hlk⟩ := C
  intro H locs ls hP hS hL
  have e0 : (Int32.ofInt 0).toNatClampNeg = 0 := by decide
  have e1 : (Int32.ofInt a).toNatClampNeg = a.toNat := oI_clamp ⟨by omega, by omega⟩
  have ew : nativeFrameWords "java/lang/System" "arraycopy" 5 = 7 := by decide
  refine va_copyi hx hb hL.1.symm hown (hts _ w1) (hts _ q_49) (hts _ q_48) (hts _ (q_23 : Cond.initialized "java/lang/System" ∈ TB)) hK hP (wl_D hE hs tp md) hS q0 q1 0 0 hw0 hw1 rfl rfl rfl (by decide) (by decide) ?_ ?_ ?_ (fun _ _ => rfl) (by omega) (by rw [ew]; omega) d fun H1 locs1 hP1 _ hS1 => n H1 locs1 ls ?_ hS1 hL
  · intro q
    have q' := (oI_lt (a := a) (b := 0) ⟨by omega, by omega⟩ ⟨by decide, by decide⟩).mp q
    omega
  · rw [e0, e1]; omega
  · rw [e0, e1]; omega
  · rw [e0, e1, AI_cp h0, hset] at hP1
    exact hP1
/-- the sign of an exclusive or -/
def xr (a b : Int) : Int := (Int32.ofInt a ^^^ Int32.ofInt b).toInt
theorem xr_IR {a b : Int} : IR (xr a b) := oI_IR _
theorem xr_neg {a b : Int} (ha : IR a) (hb : IR b) (h0 : 0 ≤ b) : xr a b < 0 ↔ a < 0 := by
  have k : ∀ z : Int32, z.toInt < 0 ↔ z.toBitVec.msb = true := fun z => by
    show z.toBitVec.toInt < 0 ↔ _
    rw [BitVec.toInt_neg_iff, BitVec.msb_eq_decide]; simp; omega
  have kb : (Int32.ofInt b).toBitVec.msb = false := by
    have h1 := not_congr (k (Int32.ofInt b))
    rw [oI_toInt hb] at h1
    have := h1.mp (by omega)
    simpa using this
  unfold xr
  rw [k, Int32.toBitVec_xor, BitVec.msb_xor, kb, Bool.xor_false, ← k, oI_toInt ha]
theorem x_ixor (C : Cs F own cc nL kf E) (d : decode cc pc = .ok (.ixor, 1)) (k : G F E hs tp md (pc + 1) L (vI (xr a b) :: st)) : G F E hs tp md pc L (vI b :: vI a :: st) := by
  obtain ⟨p, l, e, R, s, m, args, below, meth, c, cells, slots, Q⟩ := F
  intro H locs ls hP hS hL
  refine lv_ixor C.1 C.2.1 d ?_
  have h := k H locs ls hP hS hL
  have e9 : vI (xr a b) = .int (Int32.ofInt a ^^^ Int32.ofInt b) := congrArg Value.int (oI_self _)
  rw [e9] at h
  exact h
theorem x_iremT (C : Cs F own cc nL kf E) (d : decode cc pc = .ok (.irem, 1)) (ha : IR a) (hb : IR b) (h1 : 1 < b) (k : G F E hs tp md (pc + 1) L (vI (Int.tmod a b) :: st)) : G F E hs tp md pc L (vI b :: vI a :: st) := by
  obtain ⟨p, l, e, R, s, m, args, below, meth, c, cells, slots, Q⟩ := F
  intro H locs ls hP hS hL
  refine lv_irem C.1 C.2.1 d (fun q => ?_) ?_
  · have := (oI_eq hb (by constructor <;> omega : IR 0)).mp q
    omega
  · have hq : (Int32.ofInt a / Int32.ofInt b) = Int32.ofInt (a.tdiv b) := by
      have hle : (a.tdiv b).natAbs ≤ a.natAbs := by rw [Int.natAbs_tdiv]; exact Nat.div_le_self _ _
      have h2 : a.tdiv b ≠ 2147483648 := by
        intro q
        have h3 : (a.tdiv b).natAbs = a.natAbs / b.natAbs := Int.natAbs_tdiv a b
        have h4 : a.natAbs / b.natAbs ≤ a.natAbs / 2 := Nat.div_le_div_left (by omega) (by decide)
        omega
      have hr : IR (a.tdiv b) := by constructor <;> omega
      rw [← Int32.toInt_inj, Int32.toInt_div, oI_toInt ha, oI_toInt hb, oI_toInt hr]
      exact Int.bmod_eq_of_le (by omega) (by omega)
    rw [hq, oI_mul, oI_sub, show a - a.tdiv b * b = a.tmod b by have := Int.tmod_add_mul_tdiv a b; rw [Int.mul_comm]; omega]
    exact k H locs ls hP hS hL
theorem x_min {index : Nat} (C : Cs F own cc nL kf E) (w1 : Cond.methodLink own index Lib.Math.min.name ∈ TB) (w2 : Cond.static Lib.Math.min.name ∈ TB) (w3 : Cond.initialized "java/lang/Math" ∈ TB) (w4 : Cond.code Lib.Math.min.name Lib.Math.min.code 2 (some .int) ∈ TB) (hk : 1 ≤ kf) (hcat : (st.map fun v => v.category).sum ≤ 8) (ha : IR a) (hb : IR b) (d : decode cc pc = .ok (.invokestatic index, 3)) (n : G F E hs tp md (pc + 3) L (vI (if a ≤ b then a else b) :: st)) : G F E hs tp md pc L (vI b :: vI a :: st) := by
  obtain ⟨p, l, e, R, s, m, args, below, meth, c, cells, slots, Q⟩ := F
  obtain ⟨hx, hbb, hml, hown, hts, hK, hE, hZ, hce, hsl, hfr, hlo, hlk⟩ := C
  intro H locs ls hP hS hL
  refine va_mmin hx hbb hL.1.symm hown (hts _ w1) (hts _ w2) (hts _ w3) (hts _ w4) (by omega) (by omega) hce hsl d ?_
  have e1 : (if Int32.ofInt b < Int32.ofInt a then Int32.ofInt b else Int32.ofInt a) = Int32.ofInt (if a ≤ b then a else b) := by
    by_cases h : a ≤ b
    · rw [if_pos h, if_neg (by rw [oI_lt hb ha]; omega)]
    · rw [if_neg h, if_pos (by rw [oI_lt hb ha]; omega)]
  rw [e1]
  exact n H locs ls hP hS hL
theorem x_max {index : Nat} (C : Cs F own cc nL kf E) (w1 : Cond.methodLink own index Lib.Math.max.name ∈ TB) (w2 : Cond.static Lib.Math.max.name ∈ TB) (w3 : Cond.initialized "java/lang/Math" ∈ TB) (w4 : Cond.code Lib.Math.max.name Lib.Math.max.code 2 (some .int) ∈ TB) (hk : 1 ≤ kf) (hcat : (st.map fun v => v.category).sum ≤ 8) (ha : IR a) (hb : IR b) (d : decode cc pc = .ok (.invokestatic index, 3)) (n : G F E hs tp md (pc + 3) L (vI (if a < b then b else a) :: st)) : G F E hs tp md pc L (vI b :: vI a :: st) := by
  obtain ⟨p, l, e, R, s, m, args, below, meth, c, cells, slots, Q⟩ := F
  obtain ⟨hx, hbb, hml, hown, hts, hK, hE, hZ, hce, hsl, hfr, hlo, hlk⟩ := C
  intro H locs ls hP hS hL
  refine va_mmax hx hbb hL.1.symm hown (hts _ w1) (hts _ w2) (hts _ w3) (hts _ w4) (by omega) (by omega) hce hsl d ?_
  have e1 : (if Int32.ofInt a < Int32.ofInt b then Int32.ofInt b else Int32.ofInt a) = Int32.ofInt (if a < b then b else a) := by
    by_cases h : a < b
    · rw [if_pos h, if_pos (by rw [oI_lt ha hb]; omega)]
    · rw [if_neg h, if_neg (by rw [oI_lt ha hb]; omega)]
  rw [e1]
  exact n H locs ls hP hS hL
end CELLS
