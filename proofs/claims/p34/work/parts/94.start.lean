/-! THE START: classes, arrays' classes, statics; then the cells laid out -/
theorem st_cls {s : State} {args : Array Value} (hts : ∀ w ∈ lw_tbl, w.before args s = true) : ∃ D : va_G, ∀ (c : Nat) (q : vw_C), vwCl[c]? = some q → u_Kn s q.1 q.2.1 q.2.2 (D.1 c) (D.2 c) := by
  have h : ∀ w ∈ TB, w.before args s = true := fun w hw => hts w (tb_sub hw)
  obtain ⟨c0, i0, k0⟩ := u_known (C := RX0) (T := TX0) (N := 9) (n := 9) h i_X0 (h _ q_193)
  obtain ⟨c1, i1, k1⟩ := u_known (C := RX1) (T := TX1) (N := 8) (n := 8) h i_X1 (h _ q_51)
  obtain ⟨c2, i2, k2⟩ := u_known (C := RX2) (T := TX2) (N := 2) (n := 2) h i_X2 (h _ q_176)
  obtain ⟨c3, i3, k3⟩ := u_known (C := RX3) (T := TX3) (N := 11) (n := 11) h i_X3 (h _ q_40)
  obtain ⟨c4, i4, k4⟩ := u_known (C := RX4) (T := TX4) (N := 2) (n := 2) h i_X4 (h _ q_99)
  obtain ⟨c5, i5, k5⟩ := u_known (C := RX5) (T := TX5) (N := 3) (n := 3) h i_X5 (h _ q_113)
  obtain ⟨c6, i6, k6⟩ := u_known (C := RX6) (T := TX6) (N := 7) (n := 7) h i_X6 (h _ q_32)
  refine ⟨(fun k => match k with | 0 => c0 | 1 => c1 | 2 => c2 | 3 => c3 | 4 => c4 | 5 => c5 | _ => c6, fun k => match k with | 0 => i0 | 1 => i1 | 2 => i2 | 3 => i3 | 4 => i4 | 5 => i5 | _ => i6), ?_⟩
  intro c q hq
  match c, hq with
  | 0, hq => cases hq; exact k0
  | 1, hq => cases hq; exact k1
  | 2, hq => cases hq; exact k2
  | 3, hq => cases hq; exact k3
  | 4, hq => cases hq; exact k4
  | 5, hq => cases hq; exact k5
  | 6, hq => cases hq; exact k6
  | c + 7, hq => simp [vwCl] at hq
theorem st_arr {s : State} {args : Array Value} {ty : FieldType} (h : (Cond.arrayClass ty).before args s = true) (hp : ∀ C, ty ≠ .object C) : ∃ cA, ArrOfT s cA ty ∧ va_RA s cA ty := by
  obtain ⟨c, k, comp, h1, h2, h3⟩ := Cond.arrayClass_spec h
  refine ⟨c, fun n z => ⟨fun k h => (by cases h), k, h2, comp, h3⟩, ?_⟩
  cases ty with
  | object C => exact absurd rfl (hp C)
  | _ => exact h1
theorem st_arrO {s : State} {args : Array Value} {Cn : String} (h : (Cond.arrayOver (.object Cn)).before args s = true) : ∃ cA, ArrOfT s cA (.object Cn) ∧ va_RA s cA (.object Cn) := by
  obtain ⟨comp, c, k, h1, -, h3, h4, h5⟩ := Cond.arrayOver_spec h
  exact ⟨c, fun n z => ⟨fun k h => (by cases h), k, h3, comp, h4⟩, k, comp, h3, h4, h1, h5⟩
theorem st_K {s : State} {args : Array Value} (hts : ∀ w ∈ lw_tbl, w.before args s = true) : ∃ (D : va_G) (T : Nat → ClassId), va_K D vwCl (TY T) s := by
  obtain ⟨D, hD⟩ := st_cls hts
  obtain ⟨t0, h0⟩ := st_arr (hts _ (tb_sub q_97)) (fun C h => by cases h)
  obtain ⟨t1, h1⟩ := st_arr (hts _ (tb_sub q_231)) (fun C h => by cases h)
  obtain ⟨t2, h2⟩ := st_arrO (hts _ q_182)
  refine ⟨D, fun k => match k with | 0 => t0 | 1 => t1 | _ => t2, hD, fun k q hq => ?_⟩
  match k, hq with
  | 0, hq => cases hq; exact h0
  | 1, hq => cases hq; exact h1
  | 2, hq => cases hq; exact h2
  | k + 3, hq => simp at hq
/-- a static row, read off the premises -/
theorem st_X {args : Array Value} {s : State} {tm : Term} {f : Nat → Int32} (harr : (Cond.arrayOf tm .int).before args s = true) (hlen : (Term.length tm).eval args s none [] s = some (.int 10)) (hel : ∀ j : Nat, j < 10 → (Term.elem tm (.int (Int32.ofNat j))).eval args s none [] s = some (.int (f j))) : ∃ t : Nat, tm.eval args s none [] s = some (.ref t) ∧ va_X t 10 f s s.heap ∧ t < s.heap.size := by
  obtain ⟨t, cell, ht, hat, hv⟩ := Term.length_spec hlen
  obtain ⟨hcell, hkn, -, -⟩ := State.arrayAt?_spec hat
  obtain ⟨hof, -⟩ := Cond.arrayOf_spec harr ht hcell
  have hsz : cell.slots.size < 2147483648 := by
    have hl := hlen
    simp only [Term.eval, ht, hat, Option.bind_eq_bind, Option.bind_some] at hl
    by_cases hlt : cell.slots.size < 2147483648
    · exact hlt
    · simp [hlt] at hl
  have e10 : cell.slots.size = 10 := by
    have e : cell.slots.size.toInt32 = 10 := (Value.int.inj hv).symm
    have e2 := congrArg Int32.toInt e
    have e3 : cell.slots.size.toInt32.toInt = (cell.slots.size : Int) := by
      show (Int32.ofNat cell.slots.size).toInt = _
      rw [← Int32.ofInt_eq_ofNat]
      exact oI_toInt ⟨by omega, by omega⟩
    rw [e3] at e2
    have e4 : ((10 : Int32)).toInt = 10 := by decide
    rw [e4] at e2
    omega
  refine ⟨t, ht, ⟨cell, hcell, hof, hkn, e10, fun j hj => ?_⟩, (Array.getElem?_eq_some_iff.mp hcell).1⟩
  obtain ⟨a, i, cell2, h1, h2, h3, h4, h5⟩ := Term.elem_spec (hel j hj)
  cases ht.symm.trans h1
  cases hat.symm.trans h3
  have hi : i = Int32.ofNat j := by
    have e : (Term.int (Int32.ofNat j)).eval args s none [] s = some (.int (Int32.ofNat j)) := rfl
    cases h2.symm.trans e
    rfl
  have hc : i.toNatClampNeg = j := by rw [hi]; exact Int32.toNatClampNeg_ofNat_of_lt (by omega)
  rw [hc] at h5
  exact h5
theorem st_row {args : Array Value} {s : State} {n : String} {i : Nat} (h : (Jvm.Cond.and given_1 narrow_1).before args s = true) (h1 : (Cond.arrayOf (.static "HutBookings" n "[I") .int).before args s = true) (h2 : (Cond.eq (.length (.static "HutBookings" n "[I")) (.int 10)).before args s = true) (h3 : ∀ j, j < 10 → (Cond.eq (.elem (.static "HutBookings" n "[I") (.int (Int32.ofNat j))) (.int (Int32.ofInt (stV i j)))).before args s = true) (hl : (Cond.laysStatic "HutBookings" n "[I").before args s = true) (hini : (Cond.initialized "HutBookings").before args s = true) :
    ∃ t : Nat, va_Z "HutBookings" n "[I" (.ref t) (fun q : Nat => s.heap.size ≤ q) s s.heap ∧ va_X t 10 (fun k => Int32.ofInt (stV i k)) s s.heap ∧ t < s.heap.size := by
  obtain ⟨t, ht, hX, hlt⟩ := st_X (f := fun k => Int32.ofInt (stV i k)) h1 (va_eqt h2) (fun j hj => va_eqt (h3 j hj))
  exact ⟨t, va_Zref hl hini ht (fun a ha => Nat.not_le.mpr ha), hX, hlt⟩
