/-! THE LAW's ARRAYS: made by tell, compared by same; its script read by cell -/
abbrev arr (T : Nat → ClassId) (f : Int → Int) : va_E := .inl (T 0, 64, .inl (AI f))
def cut (f : Int → Int) (m : Int) : Int → Int := fun j => if 0 ≤ j ∧ j < m then f j else 0
theorem cut_0 {f : Int → Int} : cut f 0 = z0 := by funext j; exact if_neg (by omega)
theorem cut_s {f : Int → Int} {m v : Int} (m0 : 0 ≤ m) (h : v = f m) : up1 (cut f m) m v = cut f (m + 1) := by
  subst h
  funext j
  by_cases e : j = m
  · subst e; rw [up1_same]; exact (if_pos (by omega)).symm
  · rw [up1_ne e]; unfold cut
    by_cases c : 0 ≤ j ∧ j < m
    · rw [if_pos c, if_pos (by omega)]
    · rw [if_neg c, if_neg (by omega)]
def tellF (r : Int → Int) : Int → Int := fun j => if j < 23 then yCount zM r j else if j < 33 then yCount zM r (25 + (j - 23)) else if j < 37 then yCoins r (j - 33) else
  if (j - 37) % 3 = 0 then yBooking r ((j - 37) / 3) 0 else if (j - 37) % 3 = 1 then 100 * yBooking r ((j - 37) / 3) 4 + yBooking r ((j - 37) / 3) 2 else 100 * yBooking r ((j - 37) / 3) 8 + yBooking r ((j - 37) / 3) 5
theorem tell_1 {r : Int → Int} {i : Int} (h : i < 23) : yCount zM r i = tellF r i := (if_pos h).symm
theorem tell_2 {r : Int → Int} {i : Int} (h0 : 0 ≤ i) (h : i < 10) : yCount zM r (25 + i) = tellF r (23 + i) := by
  unfold tellF; rw [if_neg (by omega), if_pos (by omega), show 23 + i - 23 = i by omega]
theorem tell_3 {r : Int → Int} {i : Int} (h0 : 0 ≤ i) (h : i < 4) : yCoins r i = tellF r (33 + i) := by
  unfold tellF; rw [if_neg (by omega), if_neg (by omega), if_pos (by omega), show 33 + i - 33 = i by omega]
theorem tell_4 {r : Int → Int} {b : Int} (h0 : 0 ≤ b) : yBooking r b 0 = tellF r (37 + 3 * b) := by
  unfold tellF; rw [if_neg (by omega), if_neg (by omega), if_neg (by omega), if_pos (by omega), show (37 + 3 * b - 37) / 3 = b by omega]
theorem tell_5 {r : Int → Int} {b : Int} (h0 : 0 ≤ b) : 100 * yBooking r b 4 + yBooking r b 2 = tellF r (38 + 3 * b) := by
  unfold tellF; rw [if_neg (by omega), if_neg (by omega), if_neg (by omega), if_neg (by omega), if_pos (by omega), show (38 + 3 * b - 37) / 3 = b by omega]
theorem tell_6 {r : Int → Int} {b : Int} (h0 : 0 ≤ b) : 100 * yBooking r b 8 + yBooking r b 5 = tellF r (39 + 3 * b) := by
  unfold tellF; rw [if_neg (by omega), if_neg (by omega), if_neg (by omega), if_neg (by omega), if_neg (by omega), show (39 + 3 * b - 37) / 3 = b by omega]
abbrev tlF (r : Int → Int) : Int → Int := cut (tellF r) 64
/-- the cells that a walk of tell may change -/
def AZ (E : HE) (sz : Nat) : Nat → Prop := fun q => AA E q ∨ sz ≤ q
abbrev QN (E : HE) (hs : Nat → HV) (tp : HV) (f : Int → Int) (sz : Nat) : Array Value → State → Outcome → State → Prop :=
  va_Qr (fun _ : Unit => True) (fun _ q t => sz ≤ q ∧ va_P E.1 vwCl (wl E hs tp zM ++ [(q, arr E.2.2.1 f)]) t.heap) (AZ E sz)
def PN (E : HE) (hs : Nat → HV) (tp : HV) (sz : Nat) : State → Prop := fun U => U.heap.size = sz ∧ va_P E.1 vwCl (wl E hs tp zM) U.heap ∧ va_K E.1 vwCl (TY E.2.2.1) U ∧ ZA (AZ E sz) E.2.2.2 U U.heap
/-- a method that makes an array of what the world says, and leaves the world as it is -/
def Mn (y : MethodName) (cy : ByteArray) (ny k : Nat) (E : HE) (hs : Nat → HV) (tp : HV) (f : Int → Int) : Prop :=
  ∀ (l : Launch) (sz : Nat), Met l y (.code y cy ny (some (.array .int)) :: TB) ({ frames := k, cells := 1, slots := 64, locals := 30 * k }) (va_Pc [.ref (tA E 0)] (PN E hs tp sz)) (QN E hs tp f sz) 1 64 (AZ E sz)
def CT : FD → HE → (Nat → HV) → HV → (Int → Int) → Nat → Prop := fun (_, _, _, _, s, _, args, below, meth, _, Q) E hs tp f sz =>
  meth.sig.returnType = some (.array .int) ∧ meth.locks = false ∧ Q = MQ below (QN E hs tp f sz) args s 1 64 (AZ E sz)
section NEWS
variable {E : HE} {hs : Nat → HV} {tp : HV} {f : Int → Int}
theorem mk_Mn {y : MethodName} {cy : ByteArray} {ny k : Nat} (hE : HI E) (hy : plainFor y = true) (hny : 1 ≤ ny)
    (body : ∀ (F : FD) (sz : Nat), CC F y.cls cy ny k E.1 E.2.2.1 (AZ E sz) E.2.2.2 → (∀ a b, a ≤ 1 → b ≤ 64 → rmC F a b) → CT F E hs tp f sz → GC F E.1 (AZ E sz) (wl E hs tp zM ++ []) 0 0 0 (some (.ref (tA E 0)) :: List.replicate (ny - 1) none) []) : Mn y cy ny k E hs tp f := by
  intro l sz
  refine ofWF (cy := cy) (maxL := ny) (ret := some (.array .int)) hy rfl ?_
  intro p e s m av below meth c s₁ B hml hv
  obtain ⟨rfl, hsz, hP, hK, hZ⟩ := hv
  subst hsz
  have hts := atoms_spec (ws := .code y cy ny (some (.array .int)) :: TB) B.pre
  have C : CC (p, l, e, (headSpec (.code y cy ny (some (.array .int)) :: TB) ({ frames := k, cells := 1, slots := 64, locals := 30 * k } : Room)).room, s, m, ([.ref (tA E 0)] : List Value).toArray, below, meth, c, MQ below (QN E hs tp f s.heap.size) ([.ref (tA E 0)] : List Value).toArray s 1 64 (AZ E s.heap.size)) y.cls cy ny k E.1 E.2.2.1 (AZ E s.heap.size) E.2.2.2 :=
    ⟨B.exec, B.bytes, hml, findClass_of_methodNamed B.named, fun w hw => hts w (List.mem_cons_of_mem _ hw), hK, hZ, fun _ h => Or.inr h, Nat.le_refl _, Nat.le_refl _⟩
  rw [lg_entry_eq]
  have hL := LH_entry (vs := [.ref (tA E 0)]) (n := ny) hny (by intro w hw; rw [List.mem_singleton.mp hw]; rfl)
  have hD : va_D (AZ E s.heap.size) (wl E hs tp zM ++ []) := by rw [List.append_nil]; exact (wl_D hE hs tp zM).weaken fun _ _ _ h => Or.inl h
  exact body _ s.heap.size C (fun a b ha hb => ⟨ha, hb⟩) ⟨B.returns, B.notSynchronized, rfl⟩ s.heap [] _ (by rw [List.append_nil]; exact hP) hD va_S.rf (by rw [hml]; exact hL)
theorem k_aret {F : FD} {own : String} {cc : ByteArray} {nL kf sz : Nat} {pc q : Nat} {L : List (Option Value)} (C : CC F own cc nL kf E.1 E.2.2.1 (AZ E sz) E.2.2.2) (X : CT F E hs tp f sz) (d : decode cc pc = .ok (.areturn, 1)) : GC F E.1 (AZ E sz) (wl E hs tp zM ++ [(q, arr E.2.2.1 f)]) 1 64 pc L [.ref q] := by
  obtain ⟨p, l, e, R, s, m, args, below, meth, c, Q⟩ := F
  obtain ⟨hx, hb, hml, hown, hts, hK, hZ, hA, hfr, hlo⟩ := C
  obtain ⟨hr, hlk, hQ⟩ := X
  subst hQ
  intro H locs ls hP hD hS hL
  have h0 : ([(q, arr E.2.2.1 f)] : va_W)[0]? = some (q, arr E.2.2.1 f) := rfl
  have hq : sz ≤ q := by
    rcases hD.2 _ _ (wl_inr (hs := hs) (tp := tp) h0) with h | h
    · exact absurd h (wl_apart hP hD h0).2
    · exact h
  exact W.aret hx hb hr (Or.inr ⟨_, rfl⟩) (Or.inr ⟨_, rfl⟩) (fun t ht hW => ⟨⟨(), q, rfl, trivial, hq, by rw [ht]; exact hP⟩, hS.F ht⟩) (fun z hz => hS.2.2 z hz) d hlk
theorem wl_set1 {q : Nat} {x y : va_E} : (wl E hs tp zM ++ [(q, x)]).set 128 (q, y) = wl E hs tp zM ++ [(q, y)] := by
  have e : (wl E hs tp zM).length = 128 := by unfold wl; rw [List.length_map, List.length_range]
  have z : (List.append (wl E hs tp zM) [(q, x)]).set 128 (q, y) = List.append (wl E hs tp zM) ([(q, x)].set (128 - (wl E hs tp zM).length) (q, y)) := by
    apply List.ext_getElem?
    intro i
    show ((wl E hs tp zM ++ [(q, x)] : List (Nat × va_E)).set 128 (q, y))[i]? = (wl E hs tp zM ++ ([(q, x)].set (128 - (wl E hs tp zM).length) (q, y)) : List (Nat × va_E))[i]?
    rw [e]
    by_cases h : i = 128
    · subst h
      rw [List.getElem?_set_self (by rw [List.length_append, e]; exact Nat.lt_succ_self 128), List.getElem?_append_right (by omega), e]; rfl
    · rw [List.getElem?_set_ne (Ne.symm h)]
      by_cases h2 : i < 128
      · rw [List.getElem?_append_left (by omega), List.getElem?_append_left (by omega)]
      · rw [List.getElem?_append_right (by omega), List.getElem?_append_right (by omega), e]
        rw [List.getElem?_eq_none (by show 1 ≤ _; omega), List.getElem?_eq_none (by show 1 ≤ _; omega)]
  rw [e] at z; exact z
theorem k_put1 {F : FD} {own : String} {cc : ByteArray} {nL kf : Nat} {A : Nat → Prop} {pc q ce sl : Nat} {L : List (Option Value)} {st : List Value} {m v : Int} {g g' : Int → Int} (C : CC F own cc nL kf E.1 E.2.2.1 A E.2.2.2) (h0 : 0 ≤ m) (h1 : m < 64) (e : up1 g m v = g') (d : decode cc pc = .ok (.iastore, 1)) (n : GC F E.1 A (wl E hs tp zM ++ [(q, arr E.2.2.1 g')]) ce sl (pc + 1) L st) : GC F E.1 A (wl E hs tp zM ++ [(q, arr E.2.2.1 g)]) ce sl pc L (vI v :: vI m :: .ref q :: st) := by
  have h : ([(q, arr E.2.2.1 g)] : va_W)[0]? = some (q, arr E.2.2.1 g) := rfl
  subst e
  exact k_iast (q0 := 128) (N := 64) C (wl_inr (j := 0) h) (Nat.le_of_ble_eq_true rfl) h0 h1 wl_set1 d n
end NEWS
/-- a method that only reads -/
def QO (v : Value) : Array Value → State → Outcome → State → Prop := fun _ s o t => o = .returned (some v) ∧ va_F (fun _ => False) s t
def Mo (y : MethodName) (cy : ByteArray) (ny : Nat) (ret : Option FieldType) (k : Nat) (args : List Value) (Pre : State → Prop) (v : Value) : Prop :=
  ∀ l : Launch, Met l y (.code y cy ny ret :: TB) (RM k) (va_Pc args Pre) (QO v) 0 0 (fun _ => False)
def PS2 (D : va_G) (T : Nat → ClassId) (ws : va_W) : State → Prop := fun U => va_P D vwCl ws U.heap ∧ va_K D vwCl (TY T) U
theorem PS2.blind {D : va_G} {T : Nat → ClassId} {ws : va_W} {args : List Value} : FrameBlind (va_Pc args (PS2 D T ws)) := fun a U g mk q => by
  obtain ⟨q0, qP, qK⟩ := q
  exact ⟨q0, qP, va_K.moved (u := U) (U := U.calling g mk a) (Vm.Alike.refl U.vm) qK⟩
set_option maxHeartbeats 4000000 in
theorem m_L_same {D : va_G} {T : Nat → ClassId} {a b : Nat} {f g : Int → Int} (hfg : f = g) : Mo yL_same cL_same 3 (some .boolean) 1 [.ref a, .ref b] (PS2 D T [(a, arr T f), (b, arr T g)]) (vI 1) := by
  subst hfg
  intro l
  refine ofWF (cy := cL_same) (maxL := 3) (ret := some .boolean) (plainFor_of_name (by decide)) rfl ?_
  intro p e s m av below meth c s₁ B hml hv
  obtain ⟨rfl, hP, hK⟩ := hv
  have hx := B.exec
  have hb := B.bytes
  have K : ∀ (n : Nat) (i : Int), 0 ≤ i → i ≤ 64 → 64 - i < n → ∀ ls, LH ls 3 [some (.ref a), some (.ref b), some (vI i)] → W p l e (headSpec (.code yL_same cL_same 3 (some .boolean) :: TB) (RM 1)).room s m ([.ref a, .ref b] : List Value).toArray below meth c s.heap [] 0 0 (MQ below (QO (vI 1)) ([.ref a, .ref b] : List Value).toArray s 0 0 (fun _ => False)) (F0 m 2 ls []) := by
    intro n
    induction n with
    | zero => intro i i0 i1 hz; exact absurd hz (by omega)
    | succ n ih =>
      intro i i0 i1 hz ls hL
      refine lv_iload_n hx hb dL_same_2 rfl (hL.at rfl) ?_
      refine lv_bipush (v := Int32.ofInt 64) hx hb dL_same_3 (by decide) ?_
      refine lv_icmp_ge (tgt := 25) hx hb dL_same_5 (by decide) (fun _ => ?_) (fun h => ?_)
      · refine lv_iconst hx hb dL_same_25 rfl ?_
        exact W.zret hx hb B.returns rfl (fun t ht _ => ⟨rfl, va_S.rf.F ht⟩) (fun q hq => absurd hq List.not_mem_nil) dL_same_26 B.notSynchronized
      · have hi : i < 64 := by
          have := mt (oI_le (a := 64) (b := i) ⟨by decide, by decide⟩ ⟨by omega, by omega⟩).mpr h
          omega
        refine lv_aload_n hx hb dL_same_8 rfl (hL.at rfl) ?_
        refine lv_iload_n hx hb dL_same_9 rfl (hL.at rfl) ?_
        refine va_iald hx hb hK hP 0 0 rfl rfl (oI_in i0 hi (by decide)) dL_same_10 ?_
        refine lv_aload_n hx hb dL_same_11 rfl (hL.at rfl) ?_
        refine lv_iload_n hx hb dL_same_12 rfl (hL.at rfl) ?_
        refine va_iald hx hb hK hP 1 0 rfl rfl (oI_in i0 hi (by decide)) dL_same_13 ?_
        refine lv_icmp_eq (tgt := 19) hx hb dL_same_14 (by decide) (fun _ => ?_) (fun h => absurd rfl h)
        have hh := hL.has
        obtain ⟨kk, hk⟩ := has_at (ls := ls) (nL := 3) (i := 2) (L := [some (.ref a), some (.ref b), some (vI i)]) (v := vI i) rfl
        refine lv_iinc hx hb dL_same_19 hh hk (oI_add i 1) (by decide) rfl fun ls' h' => ?_
        refine lv_goto (tgt := 2) hx hb dL_same_22 (by decide) ?_
        exact ih (i + 1) (by omega) (by omega) (by omega) ls' (hL.st rfl h')
  rw [lg_entry_eq]
  have hL := LH_entry (vs := [.ref a, .ref b]) (n := 3) (Nat.le_of_ble_eq_true rfl) (by intro w hw; simp only [List.mem_cons, List.not_mem_nil, or_false] at hw; rcases hw with rfl | rfl <;> rfl)
  refine lv_iconst hx hb dL_same_0 rfl ?_
  refine lv_istore_n hx hb dL_same_1 rfl hL.has (by decide) rfl fun ls' h' => ?_
  exact K 65 0 (by decide) (by decide) (by decide) ls' (hL.st rfl h')
/-- the script's number at a place -/
def cellV (Ls : Nat) (xs : Nat → Int32) (k : Int) : Int := if k < Ls then (xs k.toNat).toInt else 2751433 * k + 1913
def PX2 (b Ls : Nat) (xs : Nat → Int32) : State → Prop := fun U => va_X b Ls xs U U.heap ∧ b < U.heap.size
theorem PX2.blind {b Ls : Nat} {xs : Nat → Int32} {args : List Value} : FrameBlind (va_Pc args (PX2 b Ls xs)) := fun a U g mk q => by
  obtain ⟨q0, qX, qb⟩ := q
  exact ⟨q0, qX.moved (Vm.Alike.refl U.vm), qb⟩
