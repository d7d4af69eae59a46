/-! ROWS OF THE LAW: a world that grows (k_), contracts whose answer is told by a property (Mx), methods that only read (Mr) -/
section GROW2
variable {F : FD} {own : String} {cc : ByteArray} {nL kf : Nat} {D : va_G} {T : Nat → ClassId} {A : Nat → Prop} {bb : Nat → Nat} {ws ws' : va_W} {ce sl pc : Nat} {L : List (Option Value)} {st : List Value} {a b : Int}
theorem k_iload {i : Nat} {x : Int32} (C : CC F own cc nL kf D T A bb) (d : decode cc pc = .ok (.iload i, 2)) (h : L[i]? = some (some (.int x))) (k : GC F D A ws ce sl (pc + 2) L (.int x :: st)) : GC F D A ws ce sl pc L st := by
  obtain ⟨p, l, e, R, s, m, args, below, meth, c, Q⟩ := F
  intro H locs ls hP hD hS hL
  exact lv_iload C.1 C.2.1 d (hL.at h) (k H locs ls hP hD hS hL)
theorem k_istore {i : Nat} {x : Int32} {L' : List (Option Value)} (C : CC F own cc nL kf D T A bb) (d : decode cc pc = .ok (.istore i, 2)) (hi : i < nL) (eL : L.set i (some (.int x)) = L') (k : GC F D A ws ce sl (pc + 2) L' st) : GC F D A ws ce sl pc L (.int x :: st) := by
  obtain ⟨p, l, e, R, s, m, args, below, meth, c, Q⟩ := F
  subst eL
  intro H locs ls hP hD hS hL
  exact lv_istore C.1 C.2.1 d hL.has (by rw [C.2.2.1]; exact hi) rfl fun ls' h' => k H locs ls' hP hD hS (hL.st rfl h')
theorem k_aload {i : Nat} {x : Nat} (C : CC F own cc nL kf D T A bb) (d : decode cc pc = .ok (.aload i, 2)) (h : L[i]? = some (some (.ref x))) (k : GC F D A ws ce sl (pc + 2) L (.ref x :: st)) : GC F D A ws ce sl pc L st := by
  obtain ⟨p, l, e, R, s, m, args, below, meth, c, Q⟩ := F
  intro H locs ls hP hD hS hL
  exact lv_aload C.1 C.2.1 d (hL.at h) (k H locs ls hP hD hS hL)
theorem k_iadd (C : CC F own cc nL kf D T A bb) (d : decode cc pc = .ok (.iadd, 1)) (k : GC F D A ws ce sl (pc + 1) L (vI (a + b) :: st)) : GC F D A ws ce sl pc L (vI b :: vI a :: st) := by
  obtain ⟨p, l, e, R, s, m, args, below, meth, c, Q⟩ := F
  intro H locs ls hP hD hS hL
  refine lv_iadd C.1 C.2.1 d ?_
  rw [oI_add]; exact k H locs ls hP hD hS hL
theorem k_isub (C : CC F own cc nL kf D T A bb) (d : decode cc pc = .ok (.isub, 1)) (k : GC F D A ws ce sl (pc + 1) L (vI (a - b) :: st)) : GC F D A ws ce sl pc L (vI b :: vI a :: st) := by
  obtain ⟨p, l, e, R, s, m, args, below, meth, c, Q⟩ := F
  intro H locs ls hP hD hS hL
  refine lv_isub C.1 C.2.1 d ?_
  rw [oI_sub]; exact k H locs ls hP hD hS hL
theorem k_imul (C : CC F own cc nL kf D T A bb) (d : decode cc pc = .ok (.imul, 1)) (k : GC F D A ws ce sl (pc + 1) L (vI (a * b) :: st)) : GC F D A ws ce sl pc L (vI b :: vI a :: st) := by
  obtain ⟨p, l, e, R, s, m, args, below, meth, c, Q⟩ := F
  intro H locs ls hP hD hS hL
  refine lv_imul C.1 C.2.1 d ?_
  rw [oI_mul]; exact k H locs ls hP hD hS hL
theorem k_irem (C : CC F own cc nL kf D T A bb) (d : decode cc pc = .ok (.irem, 1)) (ha : IR a) (hb : IR b) (h0 : 0 ≤ a) (h1 : 0 < b) (k : GC F D A ws ce sl (pc + 1) L (vI (a % b) :: st)) : GC F D A ws ce sl pc L (vI b :: vI a :: st) := by
  obtain ⟨p, l, e, R, s, m, args, below, meth, c, Q⟩ := F
  intro H locs ls hP hD hS hL
  refine lv_irem C.1 C.2.1 d (fun q => ?_) ?_
  · have := (oI_eq hb (by constructor <;> omega : IR 0)).mp q
    omega
  · rw [oI_div ha hb h0 h1, oI_mul, oI_sub, show a - a / b * b = a % b by rw [Int.mul_comm]; have := Int.emod_add_mul_ediv a b; omega]; exact k H locs ls hP hD hS hL
theorem k_icmp_eq {off : Int} (tgt : Nat) (C : CC F own cc nL kf D T A bb) (d : decode cc pc = .ok (.if_icmp .eq off, 3)) (ht : (pc : Int) + off = (tgt : Int)) (ha : IR a) (hb : IR b) (kt : a = b → GC F D A ws ce sl tgt L st) (kf : a ≠ b → GC F D A ws ce sl (pc + 3) L st) : GC F D A ws ce sl pc L (vI b :: vI a :: st) := by
  obtain ⟨p, l, e, R, s, m, args, below, meth, c, Q⟩ := F
  intro H locs ls hP hD hS hL
  exact lv_icmp_eq C.1 C.2.1 d ht (fun h => kt ((oI_eq ha hb).mp h) H locs ls hP hD hS hL) (fun h => kf (mt (oI_eq ha hb).mpr h) H locs ls hP hD hS hL)
theorem k_icmp_ne {off : Int} (tgt : Nat) (C : CC F own cc nL kf D T A bb) (d : decode cc pc = .ok (.if_icmp .ne off, 3)) (ht : (pc : Int) + off = (tgt : Int)) (ha : IR a) (hb : IR b) (kt : a ≠ b → GC F D A ws ce sl tgt L st) (kf : a = b → GC F D A ws ce sl (pc + 3) L st) : GC F D A ws ce sl pc L (vI b :: vI a :: st) := by
  obtain ⟨p, l, e, R, s, m, args, below, meth, c, Q⟩ := F
  intro H locs ls hP hD hS hL
  exact lv_icmp_ne C.1 C.2.1 d ht (fun h => kt (mt (oI_eq ha hb).mpr h) H locs ls hP hD hS hL) (fun h => kf ((oI_eq ha hb).mp (by simpa using h)) H locs ls hP hD hS hL)
theorem k_icmp_lt {off : Int} (tgt : Nat) (C : CC F own cc nL kf D T A bb) (d : decode cc pc = .ok (.if_icmp .lt off, 3)) (ht : (pc : Int) + off = (tgt : Int)) (ha : IR a) (hb : IR b) (kt : a < b → GC F D A ws ce sl tgt L st) (kf : b ≤ a → GC F D A ws ce sl (pc + 3) L st) : GC F D A ws ce sl pc L (vI b :: vI a :: st) := by
  obtain ⟨p, l, e, R, s, m, args, below, meth, c, Q⟩ := F
  intro H locs ls hP hD hS hL
  exact lv_icmp_lt C.1 C.2.1 d ht (fun h => kt ((oI_lt ha hb).mp h) H locs ls hP hD hS hL) (fun h => kf (by have := mt (oI_lt ha hb).mpr h; omega) H locs ls hP hD hS hL)
theorem k_if_eq {off : Int} (tgt : Nat) (C : CC F own cc nL kf D T A bb) (d : decode cc pc = .ok (.ifCond .eq off, 3)) (ht : (pc : Int) + off = (tgt : Int)) (ha : IR a) (kt : a = 0 → GC F D A ws ce sl tgt L st) (kf : a ≠ 0 → GC F D A ws ce sl (pc + 3) L st) : GC F D A ws ce sl pc L (vI a :: st) := by
  obtain ⟨p, l, e, R, s, m, args, below, meth, c, Q⟩ := F
  intro H locs ls hP hD hS hL
  exact lv_if_eq C.1 C.2.1 d ht (fun h => kt ((oI_eq ha IR0).mp h) H locs ls hP hD hS hL) (fun h => kf (mt (oI_eq ha IR0).mpr h) H locs ls hP hD hS hL)
theorem k_if_ne {off : Int} (tgt : Nat) (C : CC F own cc nL kf D T A bb) (d : decode cc pc = .ok (.ifCond .ne off, 3)) (ht : (pc : Int) + off = (tgt : Int)) (ha : IR a) (kt : a ≠ 0 → GC F D A ws ce sl tgt L st) (kf : a = 0 → GC F D A ws ce sl (pc + 3) L st) : GC F D A ws ce sl pc L (vI a :: st) := by
  obtain ⟨p, l, e, R, s, m, args, below, meth, c, Q⟩ := F
  intro H locs ls hP hD hS hL
  exact lv_if_ne C.1 C.2.1 d ht (fun h => kt (mt (oI_eq ha IR0).mpr h) H locs ls hP hD hS hL) (fun h => kf ((oI_eq ha IR0).mp (by simpa using h)) H locs ls hP hD hS hL)
theorem k_if_lt {off : Int} (tgt : Nat) (C : CC F own cc nL kf D T A bb) (d : decode cc pc = .ok (.ifCond .lt off, 3)) (ht : (pc : Int) + off = (tgt : Int)) (ha : IR a) (kt : a < 0 → GC F D A ws ce sl tgt L st) (kf : 0 ≤ a → GC F D A ws ce sl (pc + 3) L st) : GC F D A ws ce sl pc L (vI a :: st) := by
  obtain ⟨p, l, e, R, s, m, args, below, meth, c, Q⟩ := F
  intro H locs ls hP hD hS hL
  exact lv_if_lt C.1 C.2.1 d ht (fun h => kt ((oI_lt ha IR0).mp h) H locs ls hP hD hS hL) (fun h => kf (by have := mt (oI_lt ha IR0).mpr h; omega) H locs ls hP hD hS hL)
theorem k_if_ge {off : Int} (tgt : Nat) (C : CC F own cc nL kf D T A bb) (d : decode cc pc = .ok (.ifCond .ge off, 3)) (ht : (pc : Int) + off = (tgt : Int)) (ha : IR a) (kt : 0 ≤ a → GC F D A ws ce sl tgt L st) (kf : a < 0 → GC F D A ws ce sl (pc + 3) L st) : GC F D A ws ce sl pc L (vI a :: st) := by
  obtain ⟨p, l, e, R, s, m, args, below, meth, c, Q⟩ := F
  intro H locs ls hP hD hS hL
  exact lv_if_ge C.1 C.2.1 d ht (fun h => kt ((oI_le IR0 ha).mp h) H locs ls hP hD hS hL) (fun h => kf (by have := mt (oI_le IR0 ha).mpr h; omega) H locs ls hP hD hS hL)
theorem k_pop {v : Value} (C : CC F own cc nL kf D T A bb) (d : decode cc pc = .ok (.pop, 1)) (hv : v.category = 1) (k : GC F D A ws ce sl (pc + 1) L st) : GC F D A ws ce sl pc L (v :: st) := by
  obtain ⟨p, l, e, R, s, m, args, below, meth, c, Q⟩ := F
  intro H locs ls hP hD hS hL
  exact lv_pop C.1 C.2.1 d hv (k H locs ls hP hD hS hL)
theorem k_astore {i : Nat} {x : Nat} {L' : List (Option Value)} (C : CC F own cc nL kf D T A bb) (d : decode cc pc = .ok (.astore i, 2)) (hi : i < nL) (eL : L.set i (some (.ref x)) = L') (k : GC F D A ws ce sl (pc + 2) L' st) : GC F D A ws ce sl pc L (.ref x :: st) := by
  obtain ⟨p, l, e, R, s, m, args, below, meth, c, Q⟩ := F
  subst eL
  intro H locs ls hP hD hS hL
  exact lv_astore C.1 C.2.1 d hL.has (by rw [C.2.2.1]; exact hi) rfl fun ls' h' => k H locs ls' hP hD hS (hL.st rfl h')
def shR (a b : Int) : Int := (Int32.ofInt a >>> (Int32.ofInt b &&& 31)).toInt
theorem shR_IR (a b : Int) : IR (shR a b) := oI_IR _
theorem k_ishr (C : CC F own cc nL kf D T A bb) (d : decode cc pc = .ok (.ishr, 1)) (k : GC F D A ws ce sl (pc + 1) L (vI (shR a b) :: st)) : GC F D A ws ce sl pc L (vI b :: vI a :: st) := by
  obtain ⟨p, l, e, R, s, m, args, below, meth, c, Q⟩ := F
  intro H locs ls hP hD hS hL
  refine lv_ishr C.1 C.2.1 d ?_
  have z := k H locs ls hP hD hS hL
  have e9 : vI (shR a b) = .int (Int32.ofInt a >>> (Int32.ofInt b &&& 31)) := congrArg Value.int (oI_self _)
  rw [e9] at z; exact z
theorem GC.drop {w2 : va_W} (k : GC F D A ws ce sl pc L st) : GC F D A (ws ++ w2) ce sl pc L st := by
  obtain ⟨p, l, e, R, s, m, args, below, meth, c, Q⟩ := F
  intro H locs ls hP hD hS hL
  have inl : ∀ (k : Nat) (x : Nat × va_E), ws[k]? = some x → (ws ++ w2)[k]? = some x := fun k x hx => by
    rw [List.getElem?_append_left (List.getElem?_eq_some_iff.mp hx).1]; exact hx
  exact k H locs ls (fun k x hx => hP k x (inl k x hx)) ⟨fun i j x y hx hy => hD.1 i j x y (inl i x hx) (inl j y hy), fun k x hx => hD.2 k x (inl k x hx)⟩ hS hL
theorem GC.wide {ce' sl' : Nat} (h1 : ce ≤ ce') (h2 : sl ≤ sl') (k : GC F D A ws ce' sl' pc L st) : GC F D A ws ce sl pc L st := by
  obtain ⟨p, l, e, R, s, m, args, below, meth, c, Q⟩ := F
  intro H locs ls hP hD hS hL
  exact W.widen h1 h2 (k H locs ls hP hD hS hL)
theorem GC.wk {L' : List (Option Value)} (k : GC F D A ws ce sl pc L' st) (h : leL L' L) : GC F D A ws ce sl pc L st := by
  obtain ⟨p, l, e, R, s, m, args, below, meth, c, Q⟩ := F
  intro H locs ls hP hD hS hL
  exact k H locs ls hP hD hS ⟨hL.1, hL.2.1, fun i v hi => hL.2.2 i v (leL_at _ _ h i v hi)⟩
end GROW2
