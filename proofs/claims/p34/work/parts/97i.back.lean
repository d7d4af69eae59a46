/-! CALLS in a walk that keeps its locals -/
section USEW
variable {p : Program} {l : Launch} {e : Env} {R : Room} {s : State} {m : MethodId} {args : Array Value} {below : List Frame} {meth : Method} {c : Code} {cells slots : Nat} {Q : State → Prop} {E : HE} {hs : Nat → HV} {tp md : HV} {hs' : Nat → HV} {tp' md' : HV} {pc : Nat} {own : String} {cc : ByteArray} {nL kf : Nat}
theorem y_back {H : Heap} {locs : List Loc} {ls : Array Slot} {st0 rest : List Value} {av : Array Value} {v : Option Value}
    (hr : va_Run p l e R s m args below meth c H locs cells slots 0 0 (F0 m pc ls st0) rest (QR E v hs' tp' md' av) (AA E)) (hS : va_S (AA E) s.heap H locs) (n : ∀ (H : Heap) (locs : List Loc), va_P E.1 vwCl (wl E hs' tp' md') H → va_S (AA E) s.heap H locs → W p l e R s m args below meth c H locs cells slots Q (F0 m (pc + 3) ls (v.toList ++ rest))) : W p l e R s m args below meth c H locs cells slots Q (F0 m pc ls st0) := by
  intro T hT X
  obtain ⟨v0, st₀, t, T', L', h0, X', hL', e1, e2, ⟨⟨hv, hW⟩, hz, hk⟩, stp⟩ := hr T hT X
  cases hv
  rw [h0] at hz hk
  obtain ⟨t2, a1, b1⟩ := n T'.heap (locs ++ L') (by rw [e1]; exact hW.1)
    ⟨Nat.le_trans hS.1 (by rw [e1]; exact hz), fun q h1 h2 => by rw [e1, hk q (Nat.lt_of_lt_of_le h1 hS.1) h2]; exact hS.2.1 q h1 h2, fun q hq => by
      rcases List.mem_append.mp hq with h | h
      · exact hS.2.2 q h
      · exact hL' q h⟩ T' rfl X'
  exact ⟨t2, stp t2 a1, b1⟩
theorem y_callV {index q0 ci N A nA ny k : Nat} {fs : List Value} {Cn : String} {T : u_T} {y : MethodName} {cy : ByteArray} {ret : Option FieldType} {As rest st : List Value} {v : Option Value} (C : Cs (p, l, e, R, s, m, args, below, meth, c, cells, slots, Q) own cc nL kf E) (hM : Mt y cy ny ret k E (.ref A :: As) hs tp md v hs' tp' md')
    (w1 : Cond.methodLink own index y ∈ TB) (w2 : Cond.instanceMethod y ∈ TB) (w3 : Cond.selects Cn y y ∈ TB) (w4 : Cond.initialized Cn ∈ TB) (w5 : Cond.code y cy ny ret ∈ TB) (hd : y.cls = Cn ∧ y.cls ≠ "java/lang/invoke/MethodHandle" ∧ y.cls ≠ "java/lang/invoke/VarHandle" ∧ (parseMethodDescriptor y.desc).map (fun d => d.parameters.length) = some nA)
    (hw : (wl E hs tp md)[q0]? = some (A, .inr (ci, fs))) (hc : vwCl[ci]? = some (Cn, T, N)) (hn : As.length = nA) (hk : k + 1 ≤ kf) (hm : 19 + ny + 30 * k ≤ 30 * kf) (hcat : (rest.map fun v => v.category).sum ≤ 8) (d : decode cc pc = .ok (.invokevirtual index, 3)) (hst : As.reverse ++ .ref A :: rest = st)
    {H : Heap} {locs : List Loc} {ls : Array Slot} (hP : va_P E.1 vwCl (wl E hs tp md) H) (hS : va_S (AA E) s.heap H locs) (hsz : ls.size = nL)
    (n : ∀ (H : Heap) (locs : List Loc), va_P E.1 vwCl (wl E hs' tp' md') H → va_S (AA E) s.heap H locs → W p l e R s m args below meth c H locs cells slots Q (F0 m (pc + 3) ls (v.toList ++ rest))) : W p l e R s m args below meth c H locs cells slots Q (F0 m pc ls st) := by
  obtain ⟨hx, hb, hml, hown, hts, hK, hE, hZ, hce, hsl, hfr, hlo, hlk⟩ := C
  subst hst
  have hG : GoodIn TB (wsV own index Cn y (.code y cy ny ret :: TB)) := fun w hw => by
    rcases List.mem_append.mp hw with h | h
    · have h' : w ∈ TB := by
        simp only [List.mem_cons, List.not_mem_nil, or_false] at h
        rcases h with rfl | rfl | rfl | rfl <;> assumption
      exact ⟨h', good_of_word (tb_good _ h')⟩
    · exact goodTB w5 w h
  have cw : CallW R s args own Cn index y cy ny ret (.code y cy ny ret :: TB) (RM k) 0 0 nA := cwV nA hts hG rfl rfl rfl hd ⟨by show k + 1 ≤ _; omega, by show 8 + (ny + 11) + 30 * k ≤ _; omega⟩
  exact y_back (va_runV (As := As) (rest := rest) ⟨hx, hb, hml, hown, hts⟩ (hM l) cw ⟨blind, va_recv hK hP hc hw, fun U hU hW => ⟨rfl, Wd.of hP hK hZ hS hU hW⟩⟩ rfl hn hsz rfl (lv_room hcat) d ⟨hce, hsl⟩) hS n
end USEW
