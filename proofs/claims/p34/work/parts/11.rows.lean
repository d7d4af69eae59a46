/-! THE ROWS: one instruction each, over the world. F: where the walk stands; G: from there on it comes to its end. -/
abbrev FC : Type := Program × Launch × Env × Room × State × MethodId × Array Value × List Frame × Method × Code × Nat × Nat × (State → Prop)
def LH (ls : Array Slot) (nL : Nat) (L : List (Option Value)) : Prop := ls.size = nL ∧ lv_wf ls ∧ ∀ (i : Nat) (v : Value), L[i]? = some (some v) → ls[i]? = some (.val v) ∧ v.category = 1
theorem LH.at {ls : Array Slot} {nL : Nat} {L : List (Option Value)} (h : LH ls nL L) {i : Nat} {v : Value} (e : L[i]? = some (some v)) : ls[i]? = some (.val v) := (h.2.2 i v e).1
theorem LH.has {ls : Array Slot} {nL : Nat} {L : List (Option Value)} (h : LH ls nL L) : lv_has ls nL (L.zipIdx.filterMap fun q => q.1.map fun v => (q.2, v)) := by
  refine ⟨h.1, h.2.1, fun q hq => ?_⟩
  obtain ⟨⟨o, i⟩, h1, h2⟩ := List.mem_filterMap.mp hq
  cases o with
  | none => simp at h2
  | some v =>
    simp only [Option.map_some, Option.some.injEq] at h2
    subst h2
    have h3 := List.mem_zipIdx_iff_getElem?.mp h1
    exact (h.2.2 i v h3).1
theorem LH.st {ls ls' : Array Slot} {nL i : Nat} {L : List (Option Value)} {v : Value} (h : LH ls nL L) (hc : v.category = 1) (h' : lv_has ls' nL ((i, v) :: (L.zipIdx.filterMap fun q => q.1.map fun v => (q.2, v)).filter (fun q => !(q.1 == i) && !(q.1 + 1 == i && q.2.category == 2)))) : LH ls' nL (L.set i (some v)) := by
  refine ⟨h'.1, h'.2.1, fun k w hk => ?_⟩
  by_cases e : k = i
  · subst e
    by_cases hl : k < L.length
    · rw [List.getElem?_set_self hl] at hk
      cases hk
      exact ⟨h'.2.2 _ List.mem_cons_self, hc⟩
    · rw [List.getElem?_eq_none (by rw [List.length_set]; omega)] at hk
      cases hk
  · rw [List.getElem?_set_ne (Ne.symm e)] at hk
    have hw := (h.2.2 k w hk).2
    refine ⟨h'.2.2 (k, w) (List.mem_cons_of_mem _ (List.mem_filter.mpr ⟨List.mem_filterMap.mpr ⟨(some w, k), List.mem_zipIdx_iff_getElem?.mpr hk, rfl⟩, ?_⟩)), hw⟩
    simp [e, hw]
/-- the static rows of the object's class: the least and the most of the settings, and their first values -/
def stN : Nat → String := fun i => match i with
  | 0 => "SETTING_FIRST"
  | 1 => "SETTING_LEAST"
  | _ => "SETTING_MOST"
def stV : Nat → Nat → Int := fun i k => match i with
  | 0 => [10, 4, 20, 5, 3, 4, 12, 20, 3, 100].getD k 0
  | 1 => [1, 0, 0, 0, 0, 1, 0, 0, 0, 0].getD k 0
  | _ => [40, 20, 99, 99, 30, 30, 50, 99, 20, 999].getD k 0
def ZS (A : Nat → Prop) (b : Nat → Nat) (U : State) (H : Heap) : Prop := (∀ i, i < 3 → va_Z "HutBookings" (stN i) "[I" (.ref (b i)) A U H ∧ va_X (b i) 10 (fun k => Int32.ofInt (stV i k)) U H ∧ b i < H.size ∧ ¬ A (b i)) ∧ va_Nw (.methodLinkNest RX3 88 yX6_areNightsAndPersons "HutBookings") U
def Wd (E : HE) (hs : Nat → HV) (tp md : HV) (U : State) : Prop := va_P E.1 vwCl (wl E hs tp md) U.heap ∧ va_K E.1 vwCl (tysE E) U ∧ ZS (AA E) E.2.2.2 U U.heap
def Cs : FC → String → ByteArray → Nat → Nat → HE → Prop := fun (p, _, _, R, s, m, args, _, meth, c, cells, slots, _) own cc nL k E =>
  p.tables.exec = Jvm.exec ∧ c.code = cc ∧ c.maxLocals = nL ∧ s.vm.findClass own = some m.cls ∧ (∀ w ∈ TB, w.before args s = true) ∧ va_K E.1 vwCl (tysE E) s ∧ HI E ∧ ZS (AA E) E.2.2.2 s s.heap ∧ cells ≤ R.cells ∧ slots ≤ R.slots ∧ k ≤ R.frames ∧ 30 * k ≤ R.locals ∧ meth.locks = false
def G : FC → HE → (Nat → HV) → HV → HV → Nat → List (Option Value) → List Value → Prop := fun (p, l, e, R, s, m, args, below, meth, c, cells, slots, Q) E hs tp md pc L st =>
  ∀ (H : Heap) (locs : List Loc) (ls : Array Slot), va_P E.1 vwCl (wl E hs tp md) H → va_S (AA E) s.heap H locs → LH ls c.maxLocals L → W p l e R s m args below meth c H locs cells slots Q (F0 m pc ls st)
section ROWS
variable {F : FC} {own : String} {cc : ByteArray} {nL kf : Nat} {E : HE} {hs : Nat → HV} {tp md : HV} {pc : Nat} {L : List (Option Value)} {st : List Value} {a b : Int}
theorem G.of {hs' : Nat → HV} {tp' md' : HV} {L' : List (Option Value)} (h : G F E hs' tp' md' pc L' st) (h1 : hs = hs') (h2 : tp = tp') (h3 : md = md') (h4 : L = L') : G F E hs tp md pc L st := by subst h1; subst h2; subst h3; subst h4; exact h
theorem G.eqL {L' : List (Option Value)} (h : G F E hs tp md pc L' st) (h4 : L = L') : G F E hs tp md pc L st := by subst h4; exact h
theorem G.eqS {st' : List Value} (h : G F E hs tp md pc L st') (h4 : st = st') : G F E hs tp md pc L st := by subst h4; exact h
theorem x_const {n : Int} (C : Cs F own cc nL kf E) (d : decode cc pc = .ok (.iconst n, 1)) (k : G F E hs tp md (pc + 1) L (vI n :: st)) : G F E hs tp md pc L st := by
  obtain ⟨p, l, e, R, s, m, args, below, meth, c, cells, slots, Q⟩ := F
  intro H locs ls hP hS hL
  exact lv_iconst C.1 C.2.1 d rfl (k H locs ls hP hS hL)
theorem x_bipush {n : Int} (C : Cs F own cc nL kf E) (d : decode cc pc = .ok (.bipush n, 2)) (hv : (Int8.ofInt n).toInt32 = Int32.ofInt n) (k : G F E hs tp md (pc + 2) L (vI n :: st)) : G F E hs tp md pc L st := by
  obtain ⟨p, l, e, R, s, m, args, below, meth, c, cells, slots, Q⟩ := F
  intro H locs ls hP hS hL
  exact lv_bipush C.1 C.2.1 d hv (k H locs ls hP hS hL)
theorem x_sipush {n : Int} (C : Cs F own cc nL kf E) (d : decode cc pc = .ok (.sipush n, 3)) (hv : (Int16.ofInt n).toInt32 = Int32.ofInt n) (k : G F E hs tp md (pc + 3) L (vI n :: st)) : G F E hs tp md pc L st := by
  obtain ⟨p, l, e, R, s, m, args, below, meth, c, cells, slots, Q⟩ := F
  intro H locs ls hP hS hL
  exact lv_sipush C.1 C.2.1 d hv (k H locs ls hP hS hL)
theorem x_ldc {n : Int} {index : Nat} {v : Int32} (C : Cs F own cc nL kf E) (hw : Cond.constant own index v ∈ TB) (d : decode cc pc = .ok (.ldc index, 2)) (hv : v = Int32.ofInt n) (k : G F E hs tp md (pc + 2) L (vI n :: st)) : G F E hs tp md pc L st := by
  obtain ⟨p, l, e, R, s, m, args, below, meth, c, cells, slots, Q⟩ := F
  subst hv
  intro H locs ls hP hS hL
  exact lv_ldc C.1 C.2.1 C.2.2.2.1 (C.2.2.2.2.1 _ hw) d (k H locs ls hP hS hL)
theorem x_iload {i : Nat} {x : Int32} (C : Cs F own cc nL kf E) (d : decode cc pc = .ok (.iload i, 2)) (h : L[i]? = some (some (.int x))) (k : G F E hs tp md (pc + 2) L (.int x :: st)) : G F E hs tp md pc L st := by
  obtain ⟨p, l, e, R, s, m, args, below, meth, c, cells, slots, Q⟩ := F
  intro H locs ls hP hS hL
  exact lv_iload C.1 C.2.1 d (hL.at h) (k H locs ls hP hS hL)
theorem x_iload_n {i : Fin 4} {x : Int32} (C : Cs F own cc nL kf E) (d : decode cc pc = .ok (.iload_n i, 1)) (h : L[(i : Nat)]? = some (some (.int x))) (k : G F E hs tp md (pc + 1) L (.int x :: st)) : G F E hs tp md pc L st := by
  obtain ⟨p, l, e, R, s, m, args, below, meth, c, cells, slots, Q⟩ := F
  intro H locs ls hP hS hL
  exact lv_iload_n C.1 C.2.1 d rfl (hL.at h) (k H locs ls hP hS hL)
theorem x_aload {i : Nat} {x : Nat} (C : Cs F own cc nL kf E) (d : decode cc pc = .ok (.aload i, 2)) (h : L[i]? = some (some (.ref x))) (k : G F E hs tp md (pc + 2) L (.ref x :: st)) : G F E hs tp md pc L st := by
  obtain ⟨p, l, e, R, s, m, args, below, meth, c, cells, slots, Q⟩ := F
  intro H locs ls hP hS hL
  exact lv_aload C.1 C.2.1 d (hL.at h) (k H locs ls hP hS hL)
theorem x_aload_n {i : Fin 4} {x : Nat} (C : Cs F own cc nL kf E) (d : decode cc pc = .ok (.aload_n i, 1)) (h : L[(i : Nat)]? = some (some (.ref x))) (k : G F E hs tp md (pc + 1) L (.ref x :: st)) : G F E hs tp md pc L st := by
  obtain ⟨p, l, e, R, s, m, args, below, meth, c, cells, slots, Q⟩ := F
  intro H locs ls hP hS hL
  exact lv_aload_n C.1 C.2.1 d rfl (hL.at h) (k H locs ls hP hS hL)
theorem x_istore {i : Nat} {x : Int32} {L' : List (Option Value)} (C : Cs F own cc nL kf E) (d : decode cc pc = .ok (.istore i, 2)) (hi : i < nL) (eL : L.set i (some (.int x)) = L') (k : G F E hs tp md (pc + 2) L' st) : G F E hs tp md pc L (.int x :: st) := by
  obtain ⟨p, l, e, R, s, m, args, below, meth, c, cells, slots, Q⟩ := F
  subst eL
  intro H locs ls hP hS hL
  exact lv_istore C.1 C.2.1 d hL.has (by rw [C.2.2.1]; exact hi) rfl fun ls' h' => k H locs ls' hP hS (hL.st rfl h')
theorem x_istore_n {i : Fin 4} {x : Int32} {L' : List (Option Value)} (C : Cs F own cc nL kf E) (d : decode cc pc = .ok (.istore_n i, 1)) (hi : (i : Nat) < nL) (eL : L.set (i : Nat) (some (.int x)) = L') (k : G F E hs tp md (pc + 1) L' st) : G F E hs tp md pc L (.int x :: st) := by
  obtain ⟨p, l, e, R, s, m, args, below, meth, c, cells, slots, Q⟩ := F
  subst eL
  intro H locs ls hP hS hL
  exact lv_istore_n C.1 C.2.1 d rfl hL.has (by rw [C.2.2.1]; exact hi) rfl fun ls' h' => k H locs ls' hP hS (hL.st rfl h')
theorem x_astore_n {i : Fin 4} {x : Nat} {L' : List (Option Value)} (C : Cs F own cc nL kf E) (d : decode cc pc = .ok (.astore_n i, 1)) (hi : (i : Nat) < nL) (eL : L.set (i : Nat) (some (.ref x)) = L') (k : G F E hs tp md (pc + 1) L' st) : G F E hs tp md pc L (.ref x :: st) := by
  obtain ⟨p, l, e, R, s, m, args, below, meth, c, cells, slots, Q⟩ := F
  subst eL
  intro H locs ls hP hS hL
  exact lv_astore_n C.1 C.2.1 d rfl hL.has (by rw [C.2.2.1]; exact hi) rfl fun ls' h' => k H locs ls' hP hS (hL.st rfl h')
theorem has_at {ls : Array Slot} {nL i : Nat} {L : List (Option Value)} {v : Value} (h : L[i]? = some (some v)) : ∃ k : Nat, (L.zipIdx.filterMap fun q => q.1.map fun v => (q.2, v))[k]? = some (i, v) :=
  List.getElem?_of_mem (List.mem_filterMap.mpr ⟨(some v, i), List.mem_zipIdx_iff_getElem?.mpr h, rfl⟩)
theorem x_iinc {i : Nat} {n : Int} {L' : List (Option Value)} (C : Cs F own cc nL kf E) (d : decode cc pc = .ok (.iinc i n, 3)) (h : L[i]? = some (some (vI a))) (hi : i < nL) (eL : L.set i (some (vI (a + n))) = L') (k : G F E hs tp md (pc + 3) L' st) : G F E hs tp md pc L st := by
  obtain ⟨p, l, e, R, s, m, args, below, meth, c, cells, slots, Q⟩ := F
  subst eL
  intro H locs ls hP hS hL
  obtain ⟨kk, hk⟩ := has_at (ls := ls) (nL := nL) h
  exact lv_iinc C.1 C.2.1 d hL.has hk (oI_add a n) (by rw [C.2.2.1]; exact hi) rfl fun ls' h' => k H locs ls' hP hS (hL.st rfl h')
theorem x_iadd (C : Cs F own cc nL kf E) (d : decode cc pc = .ok (.iadd, 1)) (k : G F E hs tp md (pc + 1) L (vI (a + b) :: st)) : G F E hs tp md pc L (vI b :: vI a :: st) := by
  obtain ⟨p, l, e, R, s, m, args, below, meth, c, cells, slots, Q⟩ := F
  intro H locs ls hP hS hL
  refine lv_iadd C.1 C.2.1 d ?_
  rw [oI_add]; exact k H locs ls hP hS hL
theorem x_isub (C : Cs F own cc nL kf E) (d : decode cc pc = .ok (.isub, 1)) (k : G F E hs tp md (pc + 1) L (vI (a - b) :: st)) : G F E hs tp md pc L (vI b :: vI a :: st) := by
  obtain ⟨p, l, e, R, s, m, args, below, meth, c, cells, slots, Q⟩ := F
  intro H locs ls hP hS hL
  refine lv_isub C.1 C.2.1 d ?_
  rw [oI_sub]; exact k H locs ls hP hS hL
theorem x_imul (C : Cs F own cc nL kf E) (d : decode cc pc = .ok (.imul, 1)) (k : G F E hs tp md (pc + 1) L (vI (a * b) :: st)) : G F E hs tp md pc L (vI b :: vI a :: st) := by
  obtain ⟨p, l, e, R, s, m, args, below, meth, c, cells, slots, Q⟩ := F
  intro H locs ls hP hS hL
  refine lv_imul C.1 C.2.1 d ?_
  rw [oI_mul]; exact k H locs ls hP hS hL
theorem x_idiv (C : Cs F own cc nL kf E) (d : decode cc pc = .ok (.idiv, 1)) (ha : IR a) (hb : IR b) (h0 : 0 ≤ a) (h1 : 0 < b) (k : G F E hs tp md (pc + 1) L (vI (a / b) :: st)) : G F E hs tp md pc L (vI b :: vI a :: st) := by
  obtain ⟨p, l, e, R, s, m, args, below, meth, c, cells, slots, Q⟩ := F
  intro H locs ls hP hS hL
  refine lv_idiv C.1 C.2.1 d (fun q => ?_) ?_
  · have := (oI_eq hb (by constructor <;> omega : IR 0)).mp q
    omega
  · rw [oI_div ha hb h0 h1]; exact k H locs ls hP hS hL
theorem x_irem (C : Cs F own cc nL kf E) (d : decode cc pc = .ok (.irem, 1)) (ha : IR a) (hb : IR b) (h0 : 0 ≤ a) (h1 : 0 < b) (k : G F E hs tp md (pc + 1) L (vI (a % b) :: st)) : G F E hs tp md pc L (vI b :: vI a :: st) := by
  obtain ⟨p, l, e, R, s, m, args, below, meth, c, cells, slots, Q⟩ := F
  intro H locs ls hP hS hL
  refine lv_irem C.1 C.2.1 d (fun q => ?_) ?_
  · have := (oI_eq hb (by constructor <;> omega : IR 0)).mp q
    omega
  · rw [oI_div ha hb h0 h1, oI_mul, oI_sub, show a - a / b * b = a % b by rw [Int.mul_comm]; have := Int.emod_add_mul_ediv a b; omega]; exact k H locs ls hP hS hL
theorem x_iand {r : Int} (C : Cs F own cc nL kf E) (d : decode cc pc = .ok (.iand, 1)) (h : Int32.ofInt a &&& Int32.ofInt b = Int32.ofInt r) (k : G F E hs tp md (pc + 1) L (vI r :: st)) : G F E hs tp md pc L (vI b :: vI a :: st) := by
  obtain ⟨p, l, e, R, s, m, args, below, meth, c, cells, slots, Q⟩ := F
  intro H locs ls hP hS hL
  refine lv_iand C.1 C.2.1 d ?_
  rw [h]; exact k H locs ls hP hS hL
theorem x_dup {v : Value} (C : Cs F own cc nL kf E) (d : decode cc pc = .ok (.dup, 1)) (hv : v.category = 1) (k : G F E hs tp md (pc + 1) L (v :: v :: st)) : G F E hs tp md pc L (v :: st) := by
  obtain ⟨p, l, e, R, s, m, args, below, meth, c, cells, slots, Q⟩ := F
  intro H locs ls hP hS hL
  exact lv_dup C.1 C.2.1 d hv (k H locs ls hP hS hL)
theorem x_pop {v : Value} (C : Cs F own cc nL kf E) (d : decode cc pc = .ok (.pop, 1)) (hv : v.category = 1) (k : G F E hs tp md (pc + 1) L st) : G F E hs tp md pc L (v :: st) := by
  obtain ⟨p, l, e, R, s, m, args, below, meth, c, cells, slots, Q⟩ := F
  intro H locs ls hP hS hL
  exact lv_pop C.1 C.2.1 d hv (k H locs ls hP hS hL)
theorem x_goto {off : Int} (tgt : Nat) (C : Cs F own cc nL kf E) (d : decode cc pc = .ok (.goto off, 3)) (ht : (pc : Int) + off = (tgt : Int)) (k : G F E hs tp md tgt L st) : G F E hs tp md pc L st := by
  obtain ⟨p, l, e, R, s, m, args, below, meth, c, cells, slots, Q⟩ := F
  intro H locs ls hP hS hL
  exact lv_goto C.1 C.2.1 d ht (k H locs ls hP hS hL)
theorem x_icmp_lt {off : Int} (tgt : Nat) (C : Cs F own cc nL kf E) (d : decode cc pc = .ok (.if_icmp .lt off, 3)) (ht : (pc : Int) + off = (tgt : Int)) (ha : IR a) (hb : IR b) (kt : a < b → G F E hs tp md tgt L st) (kf : b ≤ a → G F E hs tp md (pc + 3) L st) : G F E hs tp md pc L (vI b :: vI a :: st) := by
  obtain ⟨p, l, e, R, s, m, args, below, meth, c, cells, slots, Q⟩ := F
  intro H locs ls hP hS hL
  exact lv_icmp_lt C.1 C.2.1 d ht (fun h => kt ((oI_lt ha hb).mp h) H locs ls hP hS hL) (fun h => kf (by have := mt (oI_lt ha hb).mpr h; omega) H locs ls hP hS hL)
theorem x_icmp_ge {off : Int} (tgt : Nat) (C : Cs F own cc nL kf E) (d : decode cc pc = .ok (.if_icmp .ge off, 3)) (ht : (pc : Int) + off = (tgt : Int)) (ha : IR a) (hb : IR b) (kt : b ≤ a → G F E hs tp md tgt L st) (kf : a < b → G F E hs tp md (pc + 3) L st) : G F E hs tp md pc L (vI b :: vI a :: st) := by
  obtain ⟨p, l, e, R, s, m, args, below, meth, c, cells, slots, Q⟩ := F
  intro H locs ls hP hS hL
  exact lv_icmp_ge C.1 C.2.1 d ht (fun h => kt ((oI_le hb ha).mp h) H locs ls hP hS hL) (fun h => kf (by have := mt (oI_le hb ha).mpr h; omega) H locs ls hP hS hL)
theorem x_icmp_gt {off : Int} (tgt : Nat) (C : Cs F own cc nL kf E) (d : decode cc pc = .ok (.if_icmp .gt off, 3)) (ht : (pc : Int) + off = (tgt : Int)) (ha : IR a) (hb : IR b) (kt : b < a → G F E hs tp md tgt L st) (kf : a ≤ b → G F E hs tp md (pc + 3) L st) : G F E hs tp md pc L (vI b :: vI a :: st) := by
  obtain ⟨p, l, e, R, s, m, args, below, meth, c, cells, slots, Q⟩ := F
  intro H locs ls hP hS hL
  exact lv_icmp_gt C.1 C.2.1 d ht (fun h => kt ((oI_lt hb ha).mp h) H locs ls hP hS hL) (fun h => kf (by have := mt (oI_lt hb ha).mpr h; omega) H locs ls hP hS hL)
theorem x_icmp_le {off : Int} (tgt : Nat) (C : Cs F own cc nL kf E) (d : decode cc pc = .ok (.if_icmp .le off, 3)) (ht : (pc : Int) + off = (tgt : Int)) (ha : IR a) (hb : IR b) (kt : a ≤ b → G F E hs tp md tgt L st) (kf : b < a → G F E hs tp md (pc + 3) L st) : G F E hs tp md pc L (vI b :: vI a :: st) := by
  obtain ⟨p, l, e, R, s, m, args, below, meth, c, cells, slots, Q⟩ := F
  intro H locs ls hP hS hL
  exact lv_icmp_le C.1 C.2.1 d ht (fun h => kt ((oI_le ha hb).mp h) H locs ls hP hS hL) (fun h => kf (by have := mt (oI_le ha hb).mpr h; omega) H locs ls hP hS hL)
theorem x_icmp_eq {off : Int} (tgt : Nat) (C : Cs F own cc nL kf E) (d : decode cc pc = .ok (.if_icmp .eq off, 3)) (ht : (pc : Int) + off = (tgt : Int)) (ha : IR a) (hb : IR b) (kt : a = b → G F E hs tp md tgt L st) (kf : a ≠ b → G F E hs tp md (pc + 3) L st) : G F E hs tp md pc L (vI b :: vI a :: st) := by
  obtain ⟨p, l, e, R, s, m, args, below, meth, c, cells, slots, Q⟩ := F
  intro H locs ls hP hS hL
  exact lv_icmp_eq C.1 C.2.1 d ht (fun h => kt ((oI_eq ha hb).mp h) H locs ls hP hS hL) (fun h => kf (mt (oI_eq ha hb).mpr h) H locs ls hP hS hL)
theorem x_icmp_ne {off : Int} (tgt : Nat) (C : Cs F own cc nL kf E) (d : decode cc pc = .ok (.if_icmp .ne off, 3)) (ht : (pc : Int) + off = (tgt : Int)) (ha : IR a) (hb : IR b) (kt : a ≠ b → G F E hs tp md tgt L st) (kf : a = b → G F E hs tp md (pc + 3) L st) : G F E hs tp md pc L (vI b :: vI a :: st) := by
  obtain ⟨p, l, e, R, s, m, args, below, meth, c, cells, slots, Q⟩ := F
  intro H locs ls hP hS hL
  exact lv_icmp_ne C.1 C.2.1 d ht (fun h => kt (mt (oI_eq ha hb).mpr h) H locs ls hP hS hL) (fun h => kf ((oI_eq ha hb).mp (by simpa using h)) H locs ls hP hS hL)
theorem IR0 : IR 0 := ⟨by decide, by decide⟩
theorem oI_0 : (0 : Int32) = Int32.ofInt 0 := rfl
theorem x_if_eq {off : Int} (tgt : Nat) (C : Cs F own cc nL kf E) (d : decode cc pc = .ok (.ifCond .eq off, 3)) (ht : (pc : Int) + off = (tgt : Int)) (ha : IR a) (kt : a = 0 → G F E hs tp md tgt L st) (kf : a ≠ 0 → G F E hs tp md (pc + 3) L st) : G F E hs tp md pc L (vI a :: st) := by
  obtain ⟨p, l, e, R, s, m, args, below, meth, c, cells, slots, Q⟩ := F
  intro H locs ls hP hS hL
  exact lv_if_eq C.1 C.2.1 d ht (fun h => kt ((oI_eq ha IR0).mp h) H locs ls hP hS hL) (fun h => kf (mt (oI_eq ha IR0).mpr h) H locs ls hP hS hL)
theorem x_if_ne {off : Int} (tgt : Nat) (C : Cs F own cc nL kf E) (d : decode cc pc = .ok (.ifCond .ne off, 3)) (ht : (pc : Int) + off = (tgt : Int)) (ha : IR a) (kt : a ≠ 0 → G F E hs tp md tgt L st) (kf : a = 0 → G F E hs tp md (pc + 3) L st) : G F E hs tp md pc L (vI a :: st) := by
  obtain ⟨p, l, e, R, s, m, args, below, meth, c, cells, slots, Q⟩ := F
  intro H locs ls hP hS hL
  exact lv_if_ne C.1 C.2.1 d ht (fun h => kt (mt (oI_eq ha IR0).mpr h) H locs ls hP hS hL) (fun h => kf ((oI_eq ha IR0).mp (by simpa using h)) H locs ls hP hS hL)
theorem x_if_lt {off : Int} (tgt : Nat) (C : Cs F own cc nL kf E) (d : decode cc pc = .ok (.ifCond .lt off, 3)) (ht : (pc : Int) + off = (tgt : Int)) (ha : IR a) (kt : a < 0 → G F E hs tp md tgt L st) (kf : 0 ≤ a → G F E hs tp md (pc + 3) L st) : G F E hs tp md pc L (vI a :: st) := by
  obtain ⟨p, l, e, R, s, m, args, below, meth, c, cells, slots, Q⟩ := F
  intro H locs ls hP hS hL
  exact lv_if_lt C.1 C.2.1 d ht (fun h => kt ((oI_lt ha IR0).mp h) H locs ls hP hS hL) (fun h => kf (by have := mt (oI_lt ha IR0).mpr h; omega) H locs ls hP hS hL)
theorem x_if_ge {off : Int} (tgt : Nat) (C : Cs F own cc nL kf E) (d : decode cc pc = .ok (.ifCond .ge off, 3)) (ht : (pc : Int) + off = (tgt : Int)) (ha : IR a) (kt : 0 ≤ a → G F E hs tp md tgt L st) (kf : a < 0 → G F E hs tp md (pc + 3) L st) : G F E hs tp md pc L (vI a :: st) := by
  obtain ⟨p, l, e, R, s, m, args, below, meth, c, cells, slots, Q⟩ := F
  intro H locs ls hP hS hL
  exact lv_if_ge C.1 C.2.1 d ht (fun h => kt ((oI_le IR0 ha).mp h) H locs ls hP hS hL) (fun h => kf (by have := mt (oI_le IR0 ha).mpr h; omega) H locs ls hP hS hL)
theorem x_if_le {off : Int} (tgt : Nat) (C : Cs F own cc nL kf E) (d : decode cc pc = .ok (.ifCond .le off, 3)) (ht : (pc : Int) + off = (tgt : Int)) (ha : IR a) (kt : a ≤ 0 → G F E hs tp md tgt L st) (kf : 0 < a → G F E hs tp md (pc + 3) L st) : G F E hs tp md pc L (vI a :: st) := by
  obtain ⟨p, l, e, R, s, m, args, below, meth, c, cells, slots, Q⟩ := F
  intro H locs ls hP hS hL
  exact lv_if_le C.1 C.2.1 d ht (fun h => kt ((oI_le ha IR0).mp h) H locs ls hP hS hL) (fun h => kf (by have := mt (oI_le ha IR0).mpr h; omega) H locs ls hP hS hL)
theorem x_dup2 {v w : Value} (C : Cs F own cc nL kf E) (d : decode cc pc = .ok (.dup2, 1)) (hv : v.category = 1) (hw : w.category = 1) (k : G F E hs tp md (pc + 1) L (v :: w :: v :: w :: st)) : G F E hs tp md pc L (v :: w :: st) := by
  obtain ⟨p, l, e, R, s, m, args, below, meth, c, cells, slots, Q⟩ := F
  intro H locs ls hP hS hL
  exact lv_dup2_11 C.1 C.2.1 d hv hw (k H locs ls hP hS hL)
theorem x_tabIn {dflt lo hi : Int} {offs : Array Int} {len : Nat} {off : Int} (tgt : Nat) (C : Cs F own cc nL kf E) (d : decode cc pc = .ok (.tableswitch dflt lo hi offs, len)) (ha : IR a) (h1 : lo ≤ a) (h2 : a ≤ hi) (ho : offs[(a - lo).toNat]? = some off) (ht : (pc : Int) + off = (tgt : Int)) (k : G F E hs tp md tgt L st) : G F E hs tp md pc L (vI a :: st) := by
  obtain ⟨p, l, e, R, s, m, args, below, meth, c, cells, slots, Q⟩ := F
  intro H locs ls hP hS hL
  exact lv_tableIn C.1 C.2.1 d (by rw [oI_toInt ha]; omega) (by rw [oI_toInt ha]; omega) (by rw [oI_toInt ha]; exact ho) ht (k H locs ls hP hS hL)
theorem x_tabOut {dflt lo hi : Int} {offs : Array Int} {len : Nat} (tgt : Nat) (C : Cs F own cc nL kf E) (d : decode cc pc = .ok (.tableswitch dflt lo hi offs, len)) (ha : IR a) (h : a < lo ∨ hi < a) (ht : (pc : Int) + dflt = (tgt : Int)) (k : G F E hs tp md tgt L st) : G F E hs tp md pc L (vI a :: st) := by
  obtain ⟨p, l, e, R, s, m, args, below, meth, c, cells, slots, Q⟩ := F
  intro H locs ls hP hS hL
  exact lv_tableOut C.1 C.2.1 d (by rw [oI_toInt ha]; exact h) ht (k H locs ls hP hS hL)
end ROWS
