/-! THE TEXT: what it keeps to, and how it is read -/
def TG (t : HV) : Prop := (0 ≤ t 4 1 ∧ t 4 1 ≤ 60) ∧ (0 ≤ t 4 5 ∧ t 4 5 ≤ 10) ∧ (0 ≤ t 4 6 ∧ t 4 6 ≤ 5) ∧ (0 ≤ t 4 7 ∧ t 4 7 ≤ 899) ∧ (0 ≤ t 4 8 ∧ t 4 8 ≤ 9) ∧ (∀ i, 0 ≤ i → i < 60 → 0 ≤ t 5 i ∧ t 5 i ≤ 65535) ∧ (∀ i, 0 ≤ i → i < 10 → (0 ≤ t 6 i ∧ t 6 i ≤ 899) ∧ (0 ≤ t 7 i ∧ t 7 i ≤ 9) ∧ (0 ≤ t 8 i ∧ t 8 i ≤ 9))
theorem chr_ok {c : Int} (h : 0 ≤ c ∧ c ≤ 65535) : vp_nar .char (Int32.ofInt c) = Int32.ofInt c := by
  have e : Int32.ofInt c = nI c.toNat := by
    have e1 : c = (c.toNat : Int) := (Int.toNat_of_nonneg h.1).symm
    rw [e1]; exact Int32.ofInt_eq_ofNat
  have k := (pk_charN (q := c.toNat) (by omega)).1
  rw [e]
  unfold vp_nar
  rw [k]
abbrev xApp (t : HV) (c : Int) : HV := upr (upr t 5 (up1 (t 5) (t 4 1) c)) 4 (up1 (t 4) 1 (t 4 1 + 1))
abbrev xMv (t : HV) (n : Int) : HV := upr t 4 (up1 (t 4) 6 n)
abbrev kDB (c : Int) : Prop := 48 ≤ c ∧ c ≤ 57
abbrev kDD (t : HV) (c : Int) : Prop := (48 ≤ c ∧ c ≤ 57) ∧ t 4 7 ≠ 0 ∧ t 4 7 * 10 + (c - 48) ≤ 899
abbrev kNi (c : Int) : Prop := 49 ≤ c ∧ c ≤ 57
abbrev kPe (t : HV) (c : Int) : Prop := (49 ≤ c ∧ c ≤ 57) ∧ t 4 5 < 10
def xDB (t : HV) (c : Int) : HV := if kDB c then xMv (upr t 4 (up1 (t 4) 7 (c - 48))) 1 else t
def xDD (t : HV) (c : Int) : HV := if kDD t c then upr t 4 (up1 (t 4) 7 (t 4 7 * 10 + (c - 48))) else t
def xNi (t : HV) (c : Int) : HV := if kNi c then xMv (upr t 4 (up1 (t 4) 8 (c - 48))) 3 else t
def xPe (t : HV) (c : Int) : HV := if kPe t c then xMv (upr (upr (upr (upr t 6 (up1 (t 6) (t 4 5) (t 4 7))) 7 (up1 (t 7) (t 4 5) (t 4 8))) 8 (up1 (t 8) (t 4 5) (c - 48))) 4 (up1 (t 4) 5 (t 4 5 + 1))) 5 else t
abbrev kA (t : HV) (c : Int) : Prop := (t 4 6 = 0 ∧ kDB c) ∨ (t 4 6 = 1 ∧ (c = 43 ∨ kDD t c)) ∨ (t 4 6 = 2 ∧ kNi c) ∨ (t 4 6 = 3 ∧ c = 120) ∨ (t 4 6 = 4 ∧ kPe t c) ∨ (t 4 6 = 5 ∧ c = 59)
def xA (t : HV) (c : Int) : HV := if t 4 6 = 0 then xDB t c else if t 4 6 = 1 then (if c = 43 then xMv t 2 else xDD t c) else if t 4 6 = 2 then xNi t c else if t 4 6 = 3 then (if c = 120 then xMv t 4 else t) else if t 4 6 = 4 then xPe t c else (if c = 59 then xMv t 0 else t)
theorem xA_0 {t : HV} {c : Int} (e : t 4 6 = 0) : xA t c = xDB t c := if_pos e
theorem xA_1 {t : HV} {c : Int} (e : t 4 6 = 1) : xA t c = if c = 43 then xMv t 2 else xDD t c := by unfold xA; rw [if_neg (by omega), if_pos e]
theorem xA_2 {t : HV} {c : Int} (e : t 4 6 = 2) : xA t c = xNi t c := by unfold xA; rw [if_neg (by omega), if_neg (by omega), if_pos e]
theorem xA_3 {t : HV} {c : Int} (e : t 4 6 = 3) : xA t c = if c = 120 then xMv t 4 else t := by unfold xA; rw [if_neg (by omega), if_neg (by omega), if_neg (by omega), if_pos e]
theorem xA_4 {t : HV} {c : Int} (e : t 4 6 = 4) : xA t c = xPe t c := by unfold xA; rw [if_neg (by omega), if_neg (by omega), if_neg (by omega), if_neg (by omega), if_pos e]
theorem xA_5 {t : HV} {c : Int} (e : t 4 6 = 5) : xA t c = if c = 59 then xMv t 0 else t := by unfold xA; rw [if_neg (by omega), if_neg (by omega), if_neg (by omega), if_neg (by omega), if_neg (by omega)]
theorem TG.w4 {t : HV} (T : TG t) {f : Int → Int} (h1 : 0 ≤ f 1 ∧ f 1 ≤ 60) (h5 : 0 ≤ f 5 ∧ f 5 ≤ 10) (h6 : 0 ≤ f 6 ∧ f 6 ≤ 5) (h7 : 0 ≤ f 7 ∧ f 7 ≤ 899) (h8 : 0 ≤ f 8 ∧ f 8 ≤ 9) : TG (upr t 4 f) := ⟨h1, h5, h6, h7, h8, T.2.2.2.2.2.1, T.2.2.2.2.2.2⟩
theorem TG.up {t : HV} (T : TG t) {k v : Int} (h1 : k = 1 → 0 ≤ v ∧ v ≤ 60) (h5 : k = 5 → 0 ≤ v ∧ v ≤ 10) (h6 : k = 6 → 0 ≤ v ∧ v ≤ 5) (h7 : k = 7 → 0 ≤ v ∧ v ≤ 899) (h8 : k = 8 → 0 ≤ v ∧ v ≤ 9) : TG (upr t 4 (up1 (t 4) k v)) := by
  obtain ⟨a1, a5, a6, a7, a8, -, -⟩ := id T
  refine T.w4 ?_ ?_ ?_ ?_ ?_ <;> unfold up1 <;> split <;> first | assumption | (next e => first | exact h1 e.symm | exact h5 e.symm | exact h6 e.symm | exact h7 e.symm | exact h8 e.symm)
theorem TG.mv {t : HV} (T : TG t) {n : Int} (h : 0 ≤ n ∧ n ≤ 5) : TG (xMv t n) := T.up (by omega) (by omega) (fun _ => h) (by omega) (by omega)
theorem TG_DB {t : HV} (T : TG t) {c : Int} : TG (xDB t c) := by
  unfold xDB; split
  · exact (T.up (k := 7) (v := c - 48) (by omega) (by omega) (by omega) (fun _ => by omega) (by omega)).mv (by decide)
  · exact T
theorem TG_DD {t : HV} (T : TG t) {c : Int} : TG (xDD t c) := by
  have a := T.2.2.2.1
  unfold xDD; split
  · exact T.up (k := 7) (by omega) (by omega) (by omega) (fun _ => by omega) (by omega)
  · exact T
theorem TG_Ni {t : HV} (T : TG t) {c : Int} : TG (xNi t c) := by
  unfold xNi; split
  · exact (T.up (k := 8) (v := c - 48) (by omega) (by omega) (by omega) (by omega) (fun _ => by omega)).mv (by decide)
  · exact T
theorem TG_Pe {t : HV} (T : TG t) {c : Int} : TG (xPe t c) := by
  obtain ⟨a1, a5, a6, a7, a8, ac, ab⟩ := id T
  unfold xPe; split
  · next q =>
    have T1 : TG (upr (upr (upr t 6 (up1 (t 6) (t 4 5) (t 4 7))) 7 (up1 (t 7) (t 4 5) (t 4 8))) 8 (up1 (t 8) (t 4 5) (c - 48))) := by
      refine ⟨a1, a5, a6, a7, a8, ac, fun i i0 i1 => ?_⟩
      have b := ab i i0 i1
      show (0 ≤ up1 (t 6) (t 4 5) (t 4 7) i ∧ up1 (t 6) (t 4 5) (t 4 7) i ≤ 899) ∧ (0 ≤ up1 (t 7) (t 4 5) (t 4 8) i ∧ up1 (t 7) (t 4 5) (t 4 8) i ≤ 9) ∧ (0 ≤ up1 (t 8) (t 4 5) (c - 48) i ∧ up1 (t 8) (t 4 5) (c - 48) i ≤ 9)
      unfold up1
      split
      · omega
      · exact b
    exact (T1.up (k := 5) (v := t 4 5 + 1) (by omega) (fun _ => by omega) (by omega) (by omega) (by omega)).mv (by decide)
  · exact T
theorem TG_A {t : HV} (T : TG t) {c : Int} : TG (xA t c) := by
  unfold xA
  split
  · exact TG_DB T
  · split
    · split
      · exact T.mv (by decide)
      · exact TG_DD T
    · split
      · exact TG_Ni T
      · split
        · split
          · exact T.mv (by decide)
          · exact T
        · split
          · exact TG_Pe T
          · split
            · exact T.mv (by decide)
            · exact T
theorem xA_len {t : HV} {c : Int} : xA t c 4 1 = t 4 1 ∧ xA t c 5 = t 5 := by
  unfold xA xDB xDD xNi xPe
  repeat' split
  all_goals exact ⟨rfl, rfl⟩
/-- the fault, and the text's numbers behind the reading -/
def ffN : Nat → Int → HV → Int × HV
  | 0, _, t => (if t 4 6 = 5 then -1000005 else t 4 1, t)
  | n + 1, i, t => if kA t (t 5 i) then ffN n (i + 1) (xA t (t 5 i)) else (i, xA t (t 5 i))
abbrev ff0 (t : HV) : HV := upr t 4 (up1 (up1 (t 4) 5 0) 6 0)
def ff (t : HV) : Int × HV := ffN (t 4 1).toNat 0 (ff0 t)
theorem ffN_0 {n : Nat} {i : Int} {t : HV} (e : n = 0) : ffN n i t = (if t 4 6 = 5 then -1000005 else t 4 1, t) := by subst e; rfl
theorem ffN_t {n : Nat} {i : Int} {t : HV} (q : kA t (t 5 i)) : ffN (n + 1) i t = ffN n (i + 1) (xA t (t 5 i)) := if_pos q
theorem ffN_f {n : Nat} {i : Int} {t : HV} (q : ¬ kA t (t 5 i)) : ffN (n + 1) i t = (i, xA t (t 5 i)) := if_neg q
theorem TG_ff0 {t : HV} (T : TG t) : TG (ff0 t) := by
  have h := (T.up (k := 5) (v := 0) (by omega) (fun _ => by decide) (by omega) (by omega) (by omega)).up (k := 6) (v := 0) (by omega) (by omega) (fun _ => by decide) (by omega) (by omega)
  rw [upr_upr] at h
  exact h
theorem TG_ffN : ∀ (n : Nat) (i : Int) {t : HV}, TG t → TG (ffN n i t).2
  | 0, _, t, T => T
  | n + 1, i, t, T => by
    unfold ffN; split
    · exact TG_ffN n (i + 1) (TG_A T)
    · exact TG_A T
theorem TG_ff {t : HV} (T : TG t) : TG (ff t).2 := TG_ffN _ _ (TG_ff0 T)
theorem ffN_row : ∀ (n : Nat) (i : Int) {t : HV}, (ffN n i t).2 4 1 = t 4 1 ∧ (ffN n i t).2 5 = t 5
  | 0, _, t => ⟨rfl, rfl⟩
  | n + 1, i, t => by
    have a := xA_len (t := t) (c := t 5 i)
    unfold ffN; split
    · have b := ffN_row n (i + 1) (t := xA t (t 5 i))
      exact ⟨b.1.trans a.1, b.2.trans a.2⟩
    · exact a
theorem xA_rows {t : HV} {c : Int} {k : Nat} (h : k < 4) : xA t c k = t k := by
  have hk : k = 0 ∨ k = 1 ∨ k = 2 ∨ k = 3 := by omega
  rcases hk with rfl | rfl | rfl | rfl <;> (unfold xA xDB xDD xNi xPe; repeat' split) <;> rfl
theorem ffN_rows : ∀ (n : Nat) (i : Int) {t : HV} {k : Nat}, k < 4 → (ffN n i t).2 k = t k
  | 0, _, t, k, h => rfl
  | n + 1, i, t, k, h => by
    unfold ffN; split
    · exact (ffN_rows n (i + 1) h).trans (xA_rows h)
    · exact xA_rows h
