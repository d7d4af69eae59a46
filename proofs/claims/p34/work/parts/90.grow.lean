/-! MAKING: walks of constructors, over a world that grows -/
theorem q_97 : (.arrayClass .int : Cond) ∈ TB := tb_in (List.mem_of_getElem? (i := 97) (by decide +kernel)) rfl
theorem q_231 : (.arrayClass .char : Cond) ∈ TB := tb_in (List.mem_of_getElem? (i := 231) (by decide +kernel)) rfl
theorem q_182 : (.arrayOver (.object "HutBookings$Hut") : Cond) ∈ lw_tbl := List.mem_of_getElem? (i := 182) (by decide +kernel)
abbrev TY (T : Nat → ClassId) : List (ClassId × FieldType) := [(T 0, .int), (T 1, .char), (T 2, .object "HutBookings$Hut")]
abbrev FD : Type := Program × Launch × Env × Room × State × MethodId × Array Value × List Frame × Method × Code × (State → Prop)
/-- the statics, and that rows of huts can be made -/
abbrev nwF : Cond := .fieldLinkNest RX3 15 "HutBookings" "SETTING_FIRST" "[I" "HutBookings"
def ZA (A : Nat → Prop) (bb : Nat → Nat) (U : State) (H : Heap) : Prop := ZS A bb U H ∧ va_AO "HutBookings$Hut" U ∧ va_Nw nwF U
theorem ZA.to {A : Nat → Prop} {bb : Nat → Nat} {s U : State} {H : Heap} {locs : List Loc} (h : ZA A bb s s.heap) (hS : va_S A s.heap H locs) (hW : s.WarmedH U.vm) : ZA A bb U H := ⟨h.1.to hS hW, h.2.1.moved hW.alike, h.2.2.warmF hW⟩
theorem ZA.wk {A B : Nat → Prop} {bb : Nat → Nat} {U : State} {H : Heap} (h : ZA A bb U H) (hAB : ∀ q, B q → A q) : ZA B bb U H :=
  ⟨⟨fun i hi => ⟨(h.1.1 i hi).1.narrow hAB, (h.1.1 i hi).2.1, (h.1.1 i hi).2.2.1, fun q => (h.1.1 i hi).2.2.2 (hAB _ q)⟩, h.1.2⟩, h.2⟩
theorem ZA.same {A : Nat → Prop} {bb : Nat → Nat} {s U : State} {H : Heap} (h : ZA A bb s H) (hW : s.vm = U.vm) : ZA A bb U H := ⟨h.1.same hW, h.2.1.moved (hW ▸ Vm.Alike.refl _), h.2.2.same rfl hW⟩
def CC : FD → String → ByteArray → Nat → Nat → va_G → (Nat → ClassId) → (Nat → Prop) → (Nat → Nat) → Prop := fun (p, _, _, R, s, m, args, _, meth, c, _) own cc nL k D T A bb =>
  p.tables.exec = Jvm.exec ∧ c.code = cc ∧ c.maxLocals = nL ∧ s.vm.findClass own = some m.cls ∧ (∀ w ∈ TB, w.before args s = true) ∧ va_K D vwCl (TY T) s ∧ ZA A bb s s.heap ∧ (∀ q, s.heap.size ≤ q → A q) ∧ k ≤ R.frames ∧ 30 * k ≤ R.locals
def rmC : FD → Nat → Nat → Prop := fun (_, _, _, R, _, _, _, _, _, _, _) a b => a ≤ R.cells ∧ b ≤ R.slots
def nmI : FD → Prop := fun (_, _, _, _, _, _, _, _, meth, _, _) => meth.name = "<init>"
def GC : FD → va_G → (Nat → Prop) → va_W → Nat → Nat → Nat → List (Option Value) → List Value → Prop := fun (p, l, e, R, s, m, args, below, meth, c, Q) D A ws cells slots pc L st =>
  ∀ (H : Heap) (locs : List Loc) (ls : Array Slot), va_P D vwCl ws H → va_D A ws → va_S A s.heap H locs → LH ls c.maxLocals L → W p l e R s m args below meth c H locs cells slots Q (F0 m pc ls st)
section GROW
variable {F : FD} {own : String} {cc : ByteArray} {nL kf : Nat} {D : va_G} {T : Nat → ClassId} {A : Nat → Prop} {bb : Nat → Nat} {ws ws' : va_W} {ce sl pc : Nat} {L : List (Option Value)} {st : List Value} {a b : Int}
theorem k_const {n : Int} (C : CC F own cc nL kf D T A bb) (d : decode cc pc = .ok (.iconst n, 1)) (k : GC F D A ws ce sl (pc + 1) L (vI n :: st)) : GC F D A ws ce sl pc L st := by
  obtain ⟨p, l, e, R, s, m, args, below, meth, c, Q⟩ := F
  intro H locs ls hP hD hS hL
  exact lv_iconst C.1 C.2.1 d rfl (k H locs ls hP hD hS hL)
theorem k_bipush {n : Int} (C : CC F own cc nL kf D T A bb) (d : decode cc pc = .ok (.bipush n, 2)) (hv : (Int8.ofInt n).toInt32 = Int32.ofInt n) (k : GC F D A ws ce sl (pc + 2) L (vI n :: st)) : GC F D A ws ce sl pc L st := by
  obtain ⟨p, l, e, R, s, m, args, below, meth, c, Q⟩ := F
  intro H locs ls hP hD hS hL
  exact lv_bipush C.1 C.2.1 d hv (k H locs ls hP hD hS hL)
theorem k_sipush {n : Int} (C : CC F own cc nL kf D T A bb) (d : decode cc pc = .ok (.sipush n, 3)) (hv : (Int16.ofInt n).toInt32 = Int32.ofInt n) (k : GC F D A ws ce sl (pc + 3) L (vI n :: st)) : GC F D A ws ce sl pc L st := by
  obtain ⟨p, l, e, R, s, m, args, below, meth, c, Q⟩ := F
  intro H locs ls hP hD hS hL
  exact lv_sipush C.1 C.2.1 d hv (k H locs ls hP hD hS hL)
theorem k_aload_n {i : Fin 4} {x : Nat} (C : CC F own cc nL kf D T A bb) (d : decode cc pc = .ok (.aload_n i, 1)) (h : L[(i : Nat)]? = some (some (.ref x))) (k : GC F D A ws ce sl (pc + 1) L (.ref x :: st)) : GC F D A ws ce sl pc L st := by
  obtain ⟨p, l, e, R, s, m, args, below, meth, c, Q⟩ := F
  intro H locs ls hP hD hS hL
  exact lv_aload_n C.1 C.2.1 d rfl (hL.at h) (k H locs ls hP hD hS hL)
theorem k_iload_n {i : Fin 4} {x : Int32} (C : CC F own cc nL kf D T A bb) (d : decode cc pc = .ok (.iload_n i, 1)) (h : L[(i : Nat)]? = some (some (.int x))) (k : GC F D A ws ce sl (pc + 1) L (.int x :: st)) : GC F D A ws ce sl pc L st := by
  obtain ⟨p, l, e, R, s, m, args, below, meth, c, Q⟩ := F
  intro H locs ls hP hD hS hL
  exact lv_iload_n C.1 C.2.1 d rfl (hL.at h) (k H locs ls hP hD hS hL)
theorem k_istore_n {i : Fin 4} {x : Int32} {L' : List (Option Value)} (C : CC F own cc nL kf D T A bb) (d : decode cc pc = .ok (.istore_n i, 1)) (hi : (i : Nat) < nL) (eL : L.set (i : Nat) (some (.int x)) = L') (k : GC F D A ws ce sl (pc + 1) L' st) : GC F D A ws ce sl pc L (.int x :: st) := by
  obtain ⟨p, l, e, R, s, m, args, below, meth, c, Q⟩ := F
  subst eL
  intro H locs ls hP hD hS hL
  exact lv_istore_n C.1 C.2.1 d rfl hL.has (by rw [C.2.2.1]; exact hi) rfl fun ls' h' => k H locs ls' hP hD hS (hL.st rfl h')
theorem k_astore_n {i : Fin 4} {x : Nat} {L' : List (Option Value)} (C : CC F own cc nL kf D T A bb) (d : decode cc pc = .ok (.astore_n i, 1)) (hi : (i : Nat) < nL) (eL : L.set (i : Nat) (some (.ref x)) = L') (k : GC F D A ws ce sl (pc + 1) L' st) : GC F D A ws ce sl pc L (.ref x :: st) := by
  obtain ⟨p, l, e, R, s, m, args, below, meth, c, Q⟩ := F
  subst eL
  intro H locs ls hP hD hS hL
  exact lv_astore_n C.1 C.2.1 d rfl hL.has (by rw [C.2.2.1]; exact hi) rfl fun ls' h' => k H locs ls' hP hD hS (hL.st rfl h')
theorem k_iinc {i : Nat} {n : Int} {L' : List (Option Value)} (C : CC F own cc nL kf D T A bb) (d : decode cc pc = .ok (.iinc i n, 3)) (h : L[i]? = some (some (vI a))) (hi : i < nL) (eL : L.set i (some (vI (a + n))) = L') (k : GC F D A ws ce sl (pc + 3) L' st) : GC F D A ws ce sl pc L st := by
  obtain ⟨p, l, e, R, s, m, args, below, meth, c, Q⟩ := F
  subst eL
  intro H locs ls hP hD hS hL
  obtain ⟨kk, hk⟩ := has_at (ls := ls) (nL := nL) h
  exact lv_iinc C.1 C.2.1 d hL.has hk (oI_add a n) (by rw [C.2.2.1]; exact hi) rfl fun ls' h' => k H locs ls' hP hD hS (hL.st rfl h')
theorem k_goto {off : Int} (tgt : Nat) (C : CC F own cc nL kf D T A bb) (d : decode cc pc = .ok (.goto off, 3)) (ht : (pc : Int) + off = (tgt : Int)) (k : GC F D A ws ce sl tgt L st) : GC F D A ws ce sl pc L st := by
  obtain ⟨p, l, e, R, s, m, args, below, meth, c, Q⟩ := F
  intro H locs ls hP hD hS hL
  exact lv_goto C.1 C.2.1 d ht (k H locs ls hP hD hS hL)
theorem k_icmp_ge {off : Int} (tgt : Nat) (C : CC F own cc nL kf D T A bb) (d : decode cc pc = .ok (.if_icmp .ge off, 3)) (ht : (pc : Int) + off = (tgt : Int)) (ha : IR a) (hb : IR b) (kt : b ≤ a → GC F D A ws ce sl tgt L st) (kf : a < b → GC F D A ws ce sl (pc + 3) L st) : GC F D A ws ce sl pc L (vI b :: vI a :: st) := by
  obtain ⟨p, l, e, R, s, m, args, below, meth, c, Q⟩ := F
  intro H locs ls hP hD hS hL
  exact lv_icmp_ge C.1 C.2.1 d ht (fun h => kt ((oI_le hb ha).mp h) H locs ls hP hD hS hL) (fun h => kf (by have := mt (oI_le hb ha).mpr h; omega) H locs ls hP hD hS hL)
theorem k_dup {v : Value} (C : CC F own cc nL kf D T A bb) (d : decode cc pc = .ok (.dup, 1)) (hv : v.category = 1) (k : GC F D A ws ce sl (pc + 1) L (v :: v :: st)) : GC F D A ws ce sl pc L (v :: st) := by
  obtain ⟨p, l, e, R, s, m, args, below, meth, c, Q⟩ := F
  intro H locs ls hP hD hS hL
  exact lv_dup C.1 C.2.1 d hv (k H locs ls hP hD hS hL)
theorem k_obj {index x : Nat} (C : CC F own cc nL kf D T A bb) (w : Cond.methodLink own index objectInit ∈ TB) (hk : 1 ≤ kf) (hcat : (st.map fun v => v.category).sum ≤ 8) (d : decode cc pc = .ok (.invokespecial index, 3)) (k : GC F D A ws ce sl (pc + 3) L st) : GC F D A ws ce sl pc L (.ref x :: st) := by
  obtain ⟨p, l, e, R, s, m, args, below, meth, c, Q⟩ := F
  obtain ⟨hx, hb, hml, hown, hts, hK, hZ, hA, hfr, hlo⟩ := C
  intro H locs ls hP hD hS hL
  exact W.objInit hx hb hown (hts _ w) (hts _ q_37) (hts _ q_38) rfl hL.1 (rest := st) rfl d (by omega) (by have e : (F0 m pc ls (.ref x :: st)).monitorRoom = 0 := rfl; rw [e]; omega) (k H locs ls hP hD hS hL)
/-- an array's class is the one that the tables know -/
theorem k_cls {s : State} {t : Nat} {cA : ClassId} {ty : FieldType} {tys : List (ClassId × FieldType)} (hK : va_K D vwCl (tys ++ [(cA, ty)]) s) (h : tys[t]? = some (T t, ty)) (hp : ∀ C, ty ≠ .object C) : cA = T t := by
  have h1 := (hK.2 t _ (by rw [List.getElem?_append_left (List.getElem?_eq_some_iff.mp h).1]; exact h)).2
  have h2 := (hK.2 tys.length (cA, ty) (by rw [List.getElem?_append_right (Nat.le_refl _), Nat.sub_self]; rfl)).2
  cases ty with
  | object C => exact absurd rfl (hp C)
  | _ => exact Option.some.inj (h2.symm.trans h1)
theorem k_clsO {s : State} {t : Nat} {cA : ClassId} {Cn : String} {tys : List (ClassId × FieldType)} (hK : va_K D vwCl (tys ++ [(cA, .object Cn)]) s) (h : tys[t]? = some (T t, .object Cn)) : cA = T t := by
  have h1 := (hK.2 t _ (by rw [List.getElem?_append_left (List.getElem?_eq_some_iff.mp h).1]; exact h)).2
  have h2 := (hK.2 tys.length (cA, .object Cn) (by rw [List.getElem?_append_right (Nat.le_refl _), Nat.sub_self]; rfl)).2
  obtain ⟨_, _, _, _, _, e1⟩ := h1
  obtain ⟨_, _, _, _, _, e2⟩ := h2
  exact Option.some.inj (e2.symm.trans e1)
abbrev z0 : Int → Int := fun _ => 0
theorem k_newi {N : Nat} (C : CC F own cc nL kf D T A bb) (d : decode cc pc = .ok (.newarray .int, 2)) (ha : a = (N : Int)) (hN : N < 20000) (hr : rmC F (ce + 1) (sl + N)) (k : ∀ q, GC F D A (ws ++ [(q, .inl (T 0, N, .inl (AI z0)))]) (ce + 1) (sl + N) (pc + 2) L (.ref q :: st)) : GC F D A ws ce sl pc L (vI a :: st) := by
  obtain ⟨p, l, e, R, s, m, args, below, meth, c, Q⟩ := F
  obtain ⟨hx, hb, hml, hown, hts, hK, hZ, hA, hfr, hlo⟩ := C
  subst ha
  intro H locs ls hP hD hS hL
  have e1 : (Int32.ofInt (N : Int)).toNatClampNeg = N := by rw [oI_clamp ⟨by omega, by omega⟩]; omega
  have hn : ¬ Int32.ofInt (N : Int) < 0 := fun q => by
    have q' := (oI_lt (a := (N : Int)) (b := 0) ⟨by omega, by omega⟩ ⟨by decide, by decide⟩).mp q
    omega
  refine va_newa (atype := .int) (N' := N) (a0 := (N, .inl (AI z0))) hx hb (hts _ q_97) (ty := .int) rfl hK hP hD hS hA (fun cA => rfl) hn e1 (by show N * 4 ≤ _; omega) hr.1 hr.2 d fun q cA H1 hK1 hP1 hD1 hS1 => ?_
  have ec : cA = T 0 := k_cls (t := 0) hK1 rfl (fun C h => by cases h)
  subst ec
  exact k q H1 locs ls hP1 hD1 hS1 hL
theorem k_newc {N : Nat} (C : CC F own cc nL kf D T A bb) (d : decode cc pc = .ok (.newarray .char, 2)) (ha : a = (N : Int)) (hN : N < 20000) (hr : rmC F (ce + 1) (sl + N)) (k : ∀ q, GC F D A (ws ++ [(q, .inl (T 1, N, .inl (AI z0)))]) (ce + 1) (sl + N) (pc + 2) L (.ref q :: st)) : GC F D A ws ce sl pc L (vI a :: st) := by
  obtain ⟨p, l, e, R, s, m, args, below, meth, c, Q⟩ := F
  obtain ⟨hx, hb, hml, hown, hts, hK, hZ, hA, hfr, hlo⟩ := C
  subst ha
  intro H locs ls hP hD hS hL
  have e1 : (Int32.ofInt (N : Int)).toNatClampNeg = N := by rw [oI_clamp ⟨by omega, by omega⟩]; omega
  have hn : ¬ Int32.ofInt (N : Int) < 0 := fun q => by
    have q' := (oI_lt (a := (N : Int)) (b := 0) ⟨by omega, by omega⟩ ⟨by decide, by decide⟩).mp q
    omega
  refine va_newa (atype := .char) (N' := N) (a0 := (N, .inl (AI z0))) hx hb (hts _ q_231) (ty := .char) rfl hK hP hD hS hA (fun cA => rfl) hn e1 (by show N * 2 ≤ _; omega) hr.1 hr.2 d fun q cA H1 hK1 hP1 hD1 hS1 => ?_
  have ec : cA = T 1 := k_cls (t := 1) hK1 rfl (fun C h => by cases h)
  subst ec
  exact k q H1 locs ls hP1 hD1 hS1 hL
theorem k_newq {N index : Nat} (C : CC F own cc nL kf D T A bb) (w : Cond.classLink own index "HutBookings$Hut" ∈ TB) (d : decode cc pc = .ok (.anewarray index, 3)) (ha : a = (N : Int)) (hN : N < 20000) (hr : rmC F (ce + 1) (sl + N)) (k : ∀ q, GC F D A (ws ++ [(q, .inl (T 2, N, .inr (.inr (.inr (.inr (fun _ => none))))))]) (ce + 1) (sl + N) (pc + 3) L (.ref q :: st)) : GC F D A ws ce sl pc L (vI a :: st) := by
  obtain ⟨p, l, e, R, s, m, args, below, meth, c, Q⟩ := F
  obtain ⟨hx, hb, hml, hown, hts, hK, hZ, hA, hfr, hlo⟩ := C
  subst ha
  intro H locs ls hP hD hS hL
  have e1 : (Int32.ofInt (N : Int)).toNatClampNeg = N := by rw [oI_clamp ⟨by omega, by omega⟩]; omega
  have hn : ¬ Int32.ofInt (N : Int) < 0 := fun q => by
    have q' := (oI_lt (a := (N : Int)) (b := 0) ⟨by omega, by omega⟩ ⟨by decide, by decide⟩).mp q
    omega
  refine va_newq hx hb hown (hts _ w) hZ.2.1 hK hP hD hS hA (N' := N) hn e1 (by omega) hr.1 hr.2 d fun q cA H1 hK1 hP1 hD1 hS1 => ?_
  have ec : cA = T 2 := k_clsO (t := 2) hK1 rfl
  subst ec
  exact k q H1 locs ls hP1 hD1 hS1 hL
theorem k_new {index ci N : Nat} {Cn : String} {Tn : u_T} {ty : Nat → FieldType} {fs : List Value} (C : CC F own cc nL kf D T A bb) (w1 : Cond.classLink own index Cn ∈ TB) (w2 : Cond.instantiable Cn N ∈ TB) (w3 : Cond.initialized Cn ∈ TB) (hin : ∀ w ∈ u_ws Cn Tn N, w ∈ TB) (hty : ∀ k, k < N → parseFieldDescriptor (Tn k).2.2.1 = some (ty k)) (hc : vwCl[ci]? = some (Cn, Tn, N)) (hfs : ∀ j, j < N → defaultValue (ty j) = vp_V fs j) (hr : rmC F (ce + 1) (sl + N)) (d : decode cc pc = .ok (.new index, 3)) (k : ∀ q, GC F D A (ws ++ [(q, .inr (ci, fs))]) (ce + 1) (sl + N) (pc + 3) L (.ref q :: st)) : GC F D A ws ce sl pc L st := by
  obtain ⟨p, l, e, R, s, m, args, below, meth, c, Q⟩ := F
  obtain ⟨hx, hb, hml, hown, hts, hK, hZ, hA, hfr, hlo⟩ := C
  intro H locs ls hP hD hS hL
  exact va_new hx hb hts hin ty hty hown (hts _ w1) (hts _ w2) (hts _ w3) hK hP hD hS hA hc hfs hr.1 hr.2 d fun q H1 hP1 hD1 hS1 => k q H1 locs ls hP1 hD1 hS1 hL
theorem k_putF {index q0 ci N x : Nat} {fs : List Value} {v : Value} {Cn : String} {Tn : u_T} {ty0 : Nat → FieldType} (C : CC F own cc nL kf D T A bb) (hI : nmI F) (hw : ws[q0]? = some (x, .inr (ci, fs))) (hc : vwCl[ci]? = some (Cn, Tn, N)) (hin : ∀ w ∈ u_ws Cn Tn N, w ∈ TB) (hty : ∀ k, k < N → parseFieldDescriptor (Tn k).2.2.1 = some (ty0 k)) (hnm : ∀ a, a < N → ∀ b, b < N → a ≠ b → (Tn a).2.1 ≠ (Tn b).2.1) (k : Nat) (hk : k < N) (hl : Cond.fieldLink own index (Tn k).1 (Tn k).2.1 (Tn k).2.2.1 ∈ TB) (hfin : (Tn k).2.2.2 = true) (hdecl : (Tn k).1 = own) (hn : narrow (ty0 k) v = v) (hfit : fits (ty0 k) v = true) (hlen : k < fs.length) (hset : ws.set q0 (x, .inr (ci, fs.set k v)) = ws') (d : decode cc pc = .ok (.putfield index, 3)) (n : GC F D A ws' ce sl (pc + 3) L st) : GC F D A ws ce sl pc L (v :: .ref x :: st) := by
  obtain ⟨p, l, e, R, s, m, args, below, meth, c, Q⟩ := F
  obtain ⟨hx, hb, hml, hown, hts, hK, hZ, hA, hfr, hlo⟩ := C
  intro H locs ls hP hD hS hL
  refine va_putF hx hb hts hin ty0 hty hnm hown hK hP hD hS q0 hw hc k hk (hts _ hl) (fun _ h => h) hfin hI hdecl (hty k hk) hn hfit hlen d fun H1 locs1 hP1 hD1 hS1 => ?_
  rw [hset] at hP1 hD1
  exact n H1 locs1 ls hP1 hD1 hS1 hL
theorem k_put {index q0 ci N x : Nat} {fs : List Value} {v : Value} {Cn : String} {Tn : u_T} {ty0 : Nat → FieldType} (C : CC F own cc nL kf D T A bb) (hw : ws[q0]? = some (x, .inr (ci, fs))) (hc : vwCl[ci]? = some (Cn, Tn, N)) (hin : ∀ w ∈ u_ws Cn Tn N, w ∈ TB) (hty : ∀ k, k < N → parseFieldDescriptor (Tn k).2.2.1 = some (ty0 k)) (hnm : ∀ a, a < N → ∀ b, b < N → a ≠ b → (Tn a).2.1 ≠ (Tn b).2.1) (k : Nat) (hk : k < N) (hl : Cond.fieldLink own index (Tn k).1 (Tn k).2.1 (Tn k).2.2.1 ∈ TB) (hfin : (Tn k).2.2.2 = false) (hn : narrow (ty0 k) v = v) (hfit : fits (ty0 k) v = true) (hlen : k < fs.length) (hset : ws.set q0 (x, .inr (ci, fs.set k v)) = ws') (d : decode cc pc = .ok (.putfield index, 3)) (n : GC F D A ws' ce sl (pc + 3) L st) : GC F D A ws ce sl pc L (v :: .ref x :: st) := by
  obtain ⟨p, l, e, R, s, m, args, below, meth, c, Q⟩ := F
  obtain ⟨hx, hb, hml, hown, hts, hK, hZ, hA, hfr, hlo⟩ := C
  intro H locs ls hP hD hS hL
  refine va_put hx hb hts hin ty0 hty hnm hown hK hP hD hS q0 hw hc k hk (hts _ hl) (fun _ h => h) hfin (hty k hk) hn hfit hlen d fun H1 locs1 hP1 hD1 hS1 => ?_
  rw [hset] at hP1 hD1
  exact n H1 locs1 ls hP1 hD1 hS1 hL
theorem k_get {index q0 ci N x : Nat} {fs : List Value} {v : Value} {Cn : String} {Tn : u_T} (C : CC F own cc nL kf D T A bb) (hw : ws[q0]? = some (x, .inr (ci, fs))) (hc : vwCl[ci]? = some (Cn, Tn, N)) (hin : ∀ w ∈ u_ws Cn Tn N, w ∈ TB) (k : Nat) (hk : k < N) (hl : Cond.fieldLink own index (Tn k).1 (Tn k).2.1 (Tn k).2.2.1 ∈ TB) (hv : fs[k]? = some v) (d : decode cc pc = .ok (.getfield index, 3)) (n : GC F D A ws ce sl (pc + 3) L (v :: st)) : GC F D A ws ce sl pc L (.ref x :: st) := by
  obtain ⟨p, l, e, R, s, m, args, below, meth, c, Q⟩ := F
  obtain ⟨hx, hb, hml, hown, hts, hK, hZ, hA, hfr, hlo⟩ := C
  intro H locs ls hP hD hS hL
  exact va_get hx hb hts hin hown hK hP q0 hw hc k hk (hts _ hl) (fun _ h => h) hv d (n H locs ls hP hD hS hL)
theorem k_iast {q0 x N : Nat} {f : Int → Int} (C : CC F own cc nL kf D T A bb) (hw : ws[q0]? = some (x, .inl (T 0, N, .inl (AI f)))) (hN : N < 20000) (h0 : 0 ≤ a) (h1 : a < N) (hset : ws.set q0 (x, .inl (T 0, N, .inl (AI (up1 f a b)))) = ws') (d : decode cc pc = .ok (.iastore, 1)) (n : GC F D A ws' ce sl (pc + 1) L st) : GC F D A ws ce sl pc L (vI b :: vI a :: .ref x :: st) := by
  obtain ⟨p, l, e, R, s, m, args, below, meth, c, Q⟩ := F
  obtain ⟨hx, hb, hml, hown, hts, hK, hZ, hA, hfr, hlo⟩ := C
  intro H locs ls hP hD hS hL
  refine va_iast hx hb hK hP hD hS q0 0 hw rfl (oI_in h0 h1 hN) d fun H1 locs1 hP1 hD1 hS1 => ?_
  rw [← AI_up (v := b) h0 (oI_clamp ⟨by omega, by omega⟩), hset] at hP1 hD1
  exact n H1 locs1 ls hP1 hD1 hS1 hL
theorem k_aast {q0 qk x v N : Nat} {vs : List Value} {f : Nat → Option Nat} (C : CC F own cc nL kf D T A bb) (hw : ws[q0]? = some (x, .inl (T 2, N, .inr (.inr (.inr (.inr f)))))) (hv : ws[qk]? = some (v, .inr (3, vs))) (hN : N < 20000) (h0 : 0 ≤ a) (h1 : a < N) (hset : ws.set q0 (x, .inl (T 2, N, .inr (.inr (.inr (.inr (va_up f a.toNat (some v))))))) = ws') (d : decode cc pc = .ok (.aastore, 1)) (n : GC F D A ws' ce sl (pc + 1) L st) : GC F D A ws ce sl pc L (.ref v :: vI a :: .ref x :: st) := by
  obtain ⟨p, l, e, R, s, m, args, below, meth, c, Q⟩ := F
  obtain ⟨hx, hb, hml, hown, hts, hK, hZ, hA, hfr, hlo⟩ := C
  intro H locs ls hP hD hS hL
  refine va_astq hx hb hK hP hD hS q0 2 qk 3 (r := (RX3, TX3, 11)) hw rfl hv rfl (oI_in h0 h1 hN) d fun H1 locs1 hP1 hD1 hS1 => ?_
  rw [oI_clamp ⟨by omega, by omega⟩, hset] at hP1 hD1
  exact n H1 locs1 ls hP1 hD1 hS1 hL
theorem k_gets {index : Nat} (C : CC F own cc nL kf D T A bb) (hl : Cond.fieldLinkNest own index "HutBookings" "SETTING_FIRST" "[I" "HutBookings" = nwF) (d : decode cc pc = .ok (.getstatic index, 3)) (n : GC F D A ws ce sl (pc + 3) L (.ref (bb 0) :: st)) : GC F D A ws ce sl pc L st := by
  obtain ⟨p, l, e, R, s, m, args, below, meth, c, Q⟩ := F
  obtain ⟨hx, hb, hml, hown, hts, hK, hZ, hA, hfr, hlo⟩ := C
  intro H locs ls hP hD hS hL
  have hn : (Cond.fieldLinkNest own index "HutBookings" "SETTING_FIRST" "[I" "HutBookings").before args s = true := by rw [hl]; exact va_Nw.use rfl hZ.2.2
  exact va_getsN hx hb (hZ.1.1 0 (by decide)).1 hS hown hn (fun _ h => h) d (n H locs ls hP hD hS hL)
def sF : Int → Int := fun i => if 0 ≤ i ∧ i < 10 then stV 0 i.toNat else 0
theorem k_copyx {index q1 x : Nat} (C : CC F own cc nL kf D T A bb) (w1 : Cond.methodLink own index arraycopyName ∈ TB) (hw : ws[q1]? = some (x, .inl (T 0, 10, .inl (AI z0)))) (hset : ws.set q1 (x, .inl (T 0, 10, .inl (AI sF))) = ws') (hk : 2 ≤ kf) (hcat : (st.map fun v => v.category).sum ≤ 8) (d : decode cc pc = .ok (.invokestatic index, 3)) (n : GC F D A ws' ce sl (pc + 3) L st) : GC F D A ws ce sl pc L (vI 10 :: vI 0 :: .ref x :: vI 0 :: .ref (bb 0) :: st) := by
  obtain ⟨p, l, e, R, s, m, args, below, meth, c, Q⟩ := F
  obtain ⟨hx, hb, hml, hown, hts, hK, hZ, hA, hfr, hlo⟩ := C
  intro H locs ls hP hD hS hL
  have ew : nativeFrameWords "java/lang/System" "arraycopy" 5 = 7 := by decide
  obtain ⟨z1, z2, z3, z4⟩ := hZ.1.1 0 (by decide)
  refine va_copyx hx hb hL.1.symm hown (hts _ w1) (hts _ q_49) (hts _ q_48) (hts _ (q_23 : Cond.initialized "java/lang/System" ∈ TB)) hK hP hD hS z2 z3 z4 q1 0 hw rfl (by decide) (by decide) (by decide) (by decide) (by decide) (by omega) (by rw [ew]; omega) d fun H1 locs1 hP1 hD1 hS1 => ?_
  have e : va_cpy (fun k => Int32.ofInt (stV 0 k)) (AI z0) (Int32.ofInt 0).toNatClampNeg (Int32.ofInt 0).toNatClampNeg (Int32.ofInt 10).toNatClampNeg = AI sF := by
    rw [show (Int32.ofInt 0).toNatClampNeg = 0 by decide, show (Int32.ofInt 10).toNatClampNeg = 10 by decide]
    funext k
    unfold va_cpy AI sF
    by_cases hk : k < 10
    · rw [if_pos ⟨Nat.zero_le _, by omega⟩, if_pos ⟨by omega, by omega⟩, Nat.sub_zero, Nat.zero_add, Int.toNat_natCast]
    · rw [if_neg (by omega), if_neg (by omega)]
  rw [e, hset] at hP1 hD1
  exact n H1 locs1 ls hP1 hD1 hS1 hL
end GROW
/-- a cell of references is what its places say -/
theorem k_eqc {F : FD} {D : va_G} {A : Nat → Prop} {ws ws' : va_W} {ce sl pc : Nat} {L : List (Option Value)} {st : List Value} {q0 x N : Nat} {cA : ClassId} {f g : Nat → Option Nat} (hw : ws[q0]? = some (x, .inl (cA, N, .inr (.inr (.inr (.inr f)))))) (h : ∀ j, j < N → f j = g j) (hset : ws.set q0 (x, .inl (cA, N, .inr (.inr (.inr (.inr g))))) = ws') (n : GC F D A ws' ce sl pc L st) : GC F D A ws ce sl pc L st := by
  obtain ⟨p, l, e, R, s, m, args, below, meth, c, Q⟩ := F
  intro H locs ls hP hD hS hL
  have e1 : vp_cell cA (N, .inr (.inr (.inr (.inr f)))) = vp_cell cA (N, .inr (.inr (.inr (.inr g)))) := by
    show arrV cA N (fun j => va_rf (f j)) = arrV cA N (fun j => va_rf (g j))
    unfold arrV
    congr 1
    congr 1
    funext j
    show va_rf (f j.val) = va_rf (g j.val)
    rw [h j.val j.isLt]
  have e2 : H[x]? = some (vp_cell cA (N, .inr (.inr (.inr (.inr g))))) := by rw [← e1]; exact hP q0 _ hw
  have hP1 := hP.set (H1 := H) (e := .inl (cA, N, .inr (.inr (.inr (.inr g))))) hD hw e2 (fun _ _ => rfl)
  have hD1 := hD.set (e := .inl (cA, N, .inr (.inr (.inr (.inr g))))) hw
  rw [hset] at hP1 hD1
  exact n H locs ls hP1 hD1 hS hL
/-- a constructor: from its own cell, as it is born, to the cells out h0 qs -/
def Mk (y : MethodName) (cy : ByteArray) (ny k : Nat) (D : va_G) (T : Nat → ClassId) (cM sM : Nat) (E0 : va_E) (out : Nat → (Nat → Nat) → va_W) : Prop :=
  ∀ (l : Launch) (h0 sz : Nat) (bb : Nat → Nat), Met l y (.code y cy ny none :: TB) ({ frames := k, cells := cM, slots := sM, locals := 30 * k }) (va_Pc [.ref h0] (fun U => U.heap.size = sz ∧ va_P D vwCl [(h0, E0)] U.heap ∧ va_K D vwCl (TY T) U ∧ ZA (va_A [(h0, E0)] sz) bb U U.heap))
    (va_Qv (fun _ : Nat → Nat => True) (fun qs t => va_P D vwCl (out h0 qs) t.heap ∧ va_D (va_A [(h0, E0)] sz) (out h0 qs)) (va_A [(h0, E0)] sz)) cM sM (va_A [(h0, E0)] sz)
/-- where a constructor's walk ends -/
def CE : FD → (Nat → Prop) → Nat → Nat → va_G → ((Nat → Nat) → va_W) → Prop := fun (_, _, _, _, s, _, args, below, meth, _, Q) A cM sM D out =>
  meth.sig.returnType = none ∧ meth.locks = false ∧ Q = MQ below (va_Qv (fun _ : Nat → Nat => True) (fun qs t => va_P D vwCl (out qs) t.heap ∧ va_D A (out qs)) A) args s cM sM A
theorem k_ret {F : FD} {own : String} {cc : ByteArray} {nL kf : Nat} {D : va_G} {T : Nat → ClassId} {A : Nat → Prop} {bb : Nat → Nat} {ws : va_W} {pc : Nat} {L : List (Option Value)} {cM sM : Nat} {out : (Nat → Nat) → va_W} (C : CC F own cc nL kf D T A bb) (X : CE F A cM sM D out) (d : decode cc pc = .ok (.return_, 1)) (qs : Nat → Nat) (eo : ws = out qs) : GC F D A ws cM sM pc L [] := by
  obtain ⟨p, l, e, R, s, m, args, below, meth, c, Q⟩ := F
  obtain ⟨hx, hb, hml, hown, hts, hK, hZ, hA, hfr, hlo⟩ := C
  obtain ⟨hr, hlk, hQ⟩ := X
  subst hQ
  subst eo
  intro H locs ls hP hD hS hL
  exact W.vret hx hb hr (fun t ht hW => ⟨⟨qs, rfl, trivial, by rw [ht]; exact hP, hD⟩, hS.F ht⟩) (fun q hq => hS.2.2 q hq) d hlk
theorem mk_Mk {y : MethodName} {cy : ByteArray} {ny k : Nat} {D : va_G} {T : Nat → ClassId} {cM sM : Nat} {E0 : va_E} {out : Nat → (Nat → Nat) → va_W} (hy : plainFor y = true) (hyn : y.name = "<init>") (hny : 1 ≤ ny)
    (body : ∀ (F : FD) (h0 : Nat) (A : Nat → Prop) (bb : Nat → Nat), CC F y.cls cy ny k D T A bb → nmI F → (∀ a b, a ≤ cM → b ≤ sM → rmC F a b) → CE F A cM sM D (out h0) → A h0 → GC F D A [(h0, E0)] 0 0 0 (some (.ref h0) :: List.replicate (ny - 1) none) []) : Mk y cy ny k D T cM sM E0 out := by
  intro l h0 sz bb
  refine ofWF (cy := cy) (maxL := ny) (ret := none) hy rfl ?_
  intro p e s m av below meth c s₁ B hml hv
  obtain ⟨rfl, hsz, hP, hK, hZ⟩ := hv
  subst hsz
  have hts := atoms_spec (ws := .code y cy ny none :: TB) B.pre
  have hA : ∀ q, s.heap.size ≤ q → va_A [(h0, E0)] s.heap.size q := fun q h => Or.inr h
  have C : CC (p, l, e, (headSpec (.code y cy ny none :: TB) ({ frames := k, cells := cM, slots := sM, locals := 30 * k } : Room)).room, s, m, ([.ref h0] : List Value).toArray, below, meth, c, MQ below (va_Qv (fun _ : Nat → Nat => True) (fun qs t => va_P D vwCl (out h0 qs) t.heap ∧ va_D (va_A [(h0, E0)] s.heap.size) (out h0 qs)) (va_A [(h0, E0)] s.heap.size)) ([.ref h0] : List Value).toArray s cM sM (va_A [(h0, E0)] s.heap.size)) y.cls cy ny k D T (va_A [(h0, E0)] s.heap.size) bb :=
    ⟨B.exec, B.bytes, hml, findClass_of_methodNamed B.named, fun w hw => hts w (List.mem_cons_of_mem _ hw), hK, hZ, hA, Nat.le_refl _, Nat.le_refl _⟩
  have hD : va_D (va_A [(h0, E0)] s.heap.size) [(h0, E0)] := by
    have z : va_D (fun _ => True) [(h0, E0)] := by
      refine ⟨fun i j p q hi hj _ => ?_, fun _ _ _ => trivial⟩
      have a := (List.getElem?_eq_some_iff.mp hi).1
      have b := (List.getElem?_eq_some_iff.mp hj).1
      have a : i < 1 := a
      have b : j < 1 := b
      omega
    exact z.self
  rw [lg_entry_eq]
  have hL := LH_entry (vs := [.ref h0]) (n := ny) hny (by intro w hw; rw [List.mem_singleton.mp hw]; rfl)
  exact body _ h0 _ bb C ((name_of_methodNamed B.named B.method).1.trans hyn) (fun a b ha hb => ⟨ha, hb⟩) ⟨B.returns, B.notSynchronized, rfl⟩ (Or.inl ⟨0, E0, rfl⟩) s.heap [] _ hP hD va_S.rf (by rw [hml]; exact hL)
theorem k_join {A : Nat → Prop} {D : va_G} {ws w1 : va_W} {q : Nat} {E0 : va_E} {H H1 : Heap} (hP : va_P D vwCl (ws ++ [(q, E0)]) H) (hD : va_D A (ws ++ [(q, E0)])) (hk : ∀ x : Nat, x < H.size → ¬ va_A [(q, E0)] H.size x → H1[x]? = H[x]?) (hF : ∀ x, va_A [(q, E0)] H.size x → A x) (hP1 : va_P D vwCl w1 H1) (hD1 : va_D (va_A [(q, E0)] H.size) w1) : va_P D vwCl (ws ++ w1) H1 ∧ va_D A (ws ++ w1) := by
  have inl : ∀ (k : Nat) (x : Nat × va_E), ws[k]? = some x → (ws ++ [(q, E0)])[k]? = some x := fun k x hx => by
    rw [List.getElem?_append_left (List.getElem?_eq_some_iff.mp hx).1]; exact hx
  have lst : (ws ++ [(q, E0)])[ws.length]? = some (q, E0) := by rw [List.getElem?_append_right (Nat.le_refl _), Nat.sub_self]; rfl
  have apart : ∀ (k : Nat) (x : Nat × va_E), ws[k]? = some x → x.1 < H.size ∧ ¬ va_A [(q, E0)] H.size x.1 := fun k x hx => by
    have hl := (hP k x (inl k x hx)).lt
    refine ⟨hl, fun h => ?_⟩
    rcases h with ⟨k2, e2, h⟩ | h
    · have hk2 : k2 < 1 := (List.getElem?_eq_some_iff.mp h).1
      have e3 : k2 = 0 := by omega
      subst e3
      have e4 : q = x.1 := congrArg Prod.fst (Option.some.inj h)
      have := hD.1 k ws.length x (q, E0) (inl k x hx) lst e4.symm
      have h5 := (List.getElem?_eq_some_iff.mp hx).1
      omega
    · omega
  refine ⟨va_P.app (fun k x hx => ?_) hP1, va_D.app ⟨fun i j x y hx hy => hD.1 i j x y (inl i x hx) (inl j y hy), fun k x hx => hD.2 k x (inl k x hx)⟩ (hD1.weaken fun k x _ h => hF x.1 h) (fun i j x y hx hy hxy => ?_)⟩
  · obtain ⟨g1, g2⟩ := apart k x hx
    exact (hP k x (inl k x hx)).kept (hk x.1 g1 g2)
  · exact (apart i x hx).2 (by rw [hxy]; exact hD1.2 j y hy)
theorem k_call {F : FD} {own : String} {cc : ByteArray} {nL kf : Nat} {D : va_G} {T : Nat → ClassId} {A : Nat → Prop} {bb : Nat → Nat} {ws : va_W} {ce sl pc : Nat} {L : List (Option Value)} {st : List Value} {index q ny k cM sM : Nat} {y : MethodName} {cy : ByteArray} {E0 : va_E} {out : Nat → (Nat → Nat) → va_W} (C : CC F own cc nL kf D T A bb) (hM : Mk y cy ny k D T cM sM E0 out)
    (w1 : Cond.methodLink own index y ∈ TB) (w2 : Cond.instanceMethod y ∈ TB) (w4 : Cond.initialized y.cls ∈ TB) (w5 : Cond.code y cy ny none ∈ TB) (hd : y.cls ≠ "java/lang/invoke/MethodHandle" ∧ y.cls ≠ "java/lang/invoke/VarHandle" ∧ (parseMethodDescriptor y.desc).map (fun d => d.parameters.length) = some 0) (hyn : y.name = "<init>")
    (hk : k + 1 ≤ kf) (hm : 19 + ny + 30 * k ≤ 30 * kf) (hcat : (st.map fun v => v.category).sum ≤ 8) (hr : rmC F (ce + cM) (sl + sM)) (d : decode cc pc = .ok (.invokespecial index, 3))
    (n : ∀ qs, GC F D A (ws ++ out q qs) (ce + cM) (sl + sM) (pc + 3) L st) : GC F D A (ws ++ [(q, E0)]) ce sl pc L (.ref q :: st) := by
  obtain ⟨p, l, e, R, s, m, args, below, meth, c, Q⟩ := F
  obtain ⟨hx, hb, hml, hown, hts, hK, hZ, hA, hfr, hlo⟩ := C
  intro H locs ls hP hD hS hL
  have lst : (ws ++ [(q, E0)])[ws.length]? = some (q, E0) := by rw [List.getElem?_append_right (Nat.le_refl _), Nat.sub_self]; rfl
  have hF : ∀ x, va_A [(q, E0)] H.size x → A x := fun x h => by
    rcases h with ⟨k2, e2, h⟩ | h
    · have hk2 : k2 < 1 := (List.getElem?_eq_some_iff.mp h).1
      have e3 : k2 = 0 := by omega
      subst e3
      have e4 : q = x := congrArg Prod.fst (Option.some.inj h)
      rw [← e4]; exact hD.2 _ _ lst
    · exact hA x (Nat.le_trans hS.1 h)
  have hPc : va_P D vwCl [(q, E0)] H := fun k x hx => by
    have hk2 : k < 1 := (List.getElem?_eq_some_iff.mp hx).1
    have e3 : k = 0 := by omega
    subst e3
    exact hP ws.length x (lst.trans hx)
  have cw := cwI (own := own) (index := index) (R := R) (rm := { frames := k, cells := cM, slots := sM, locals := 30 * k }) (mc := cM) (ms := sM) 0 hts (goodTB w5) rfl rfl rfl (hts _ w4) (hts _ w1) (hts _ w2) hyn hd ⟨by show k + 1 ≤ _; omega, by show 8 + (ny + 11) + 30 * k ≤ _; omega⟩
  refine va_callv (va_runI (As := []) (rest := st) ⟨hx, hb, hml, hown, hts⟩ (hM l q H.size bb) cw ⟨fun a U g mk q0 => ?_, fun U hU hW => ?_⟩ rfl rfl (hL.1.trans hml) rfl (lv_room hcat) d ⟨hr.1, hr.2⟩) hS (fun x _ h => hF x h) hF (fun qs t H1 locs1 ht hvm _ hB hz1 hk1 hS1 => ?_)
  · obtain ⟨q1, q2, qP, qK, qZ⟩ := q0
    exact ⟨q1, q2, qP, va_K.moved (u := U) (U := U.calling g mk a) (Vm.Alike.refl U.vm) qK, qZ.same rfl⟩
  · refine ⟨rfl, by rw [hU], by rw [hU]; exact hPc, va_K.moved hW.alike hK, ?_⟩
    rw [hU]
    exact (hZ.to hS hW).wk hF
  · obtain ⟨hP1, hD1⟩ := hB
    rw [ht] at hP1
    obtain ⟨j1, j2⟩ := k_join hP hD hk1 hF hP1 hD1
    exact n qs H1 locs1 ls j1 j2 hS1 hL
