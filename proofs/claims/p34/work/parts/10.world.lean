/-! THE WORLD: 128 cells (the md beside them is a shadow: no cell is behind it) at addresses that never change: seven huts of 17 cells (hut j, cell c: place 17 j + c), 9 cells of the object beside them (place 119 + c), 6 of the reference (place 128 + c). -/
abbrev HE : Type := va_G × (Nat → Nat) × (Nat → ClassId) × (Nat → Nat)
abbrev HV : Type := Nat → Int → Int
def AI (f : Int → Int) : Nat → Int32 := fun i => Int32.ofInt (f (i : Int))
def up1 (f : Int → Int) (i v : Int) : Int → Int := fun k => if k = i then v else f k
def upr (h : HV) (c : Nat) (f : Int → Int) : HV := fun k => if k = c then f else h k
def putH (hs : Nat → HV) (j : Nat) (h : HV) : Nat → HV := fun k => if k = j then h else hs k
def hA (E : HE) (j c : Nat) : Nat := E.2.1 (17 * j + c)
def tA (E : HE) (c : Nat) : Nat := E.2.1 (119 + c)
def mA (E : HE) (c : Nat) : Nat := E.2.1 (128 + c)
abbrev vI (x : Int) : Value := .int (Int32.ofInt x)
def hutE (E : HE) (j : Nat) (h : HV) (c : Nat) : va_E := match c with
  | 0 => .inr (3, [.ref (hA E j 1), .ref (hA E j 2), .ref (hA E j 3), .ref (hA E j 11), .ref (hA E j 13), .ref (hA E j 16), vI (h 0 6), vI (h 0 7), vI (h 0 8), vI (h 0 9), vI (h 0 10)])
  | 1 => .inl (E.2.2.1 0, 10, .inl (AI (h 1)))
  | 2 => .inl (E.2.2.1 0, 1000, .inl (AI (h 2)))
  | 3 => .inr (1, [.ref (hA E j 4), .ref (hA E j 5), .ref (hA E j 6), .ref (hA E j 7), .ref (hA E j 8), .ref (hA E j 9), .ref (hA E j 10), vI (h 3 7)])
  | 4 => .inl (E.2.2.1 0, 80, .inl (AI (h 4)))
  | 5 => .inl (E.2.2.1 0, 80, .inl (AI (h 5)))
  | 6 => .inl (E.2.2.1 0, 80, .inl (AI (h 6)))
  | 7 => .inl (E.2.2.1 0, 80, .inl (AI (h 7)))
  | 8 => .inl (E.2.2.1 0, 80, .inl (AI (h 8)))
  | 9 => .inl (E.2.2.1 0, 80, .inl (AI (h 9)))
  | 10 => .inl (E.2.2.1 0, 80, .inl (AI (h 10)))
  | 11 => .inr (4, [.ref (hA E j 12), vI (h 11 1)])
  | 12 => .inl (E.2.2.1 0, 30, .inl (AI (h 12)))
  | 13 => .inr (5, [.ref (hA E j 14), .ref (hA E j 15), vI (h 13 2)])
  | 14 => .inl (E.2.2.1 0, 12, .inl (AI (h 14)))
  | 15 => .inl (E.2.2.1 0, 12, .inl (AI (h 15)))
  | _ => .inl (E.2.2.1 0, 9, .inl (AI (h 16)))
def topE (E : HE) (tp : HV) (c : Nat) : va_E := match c with
  | 0 => .inr (6, [.ref (hA E 0 0), .ref (hA E 1 0), .ref (hA E 2 0), vI (tp 0 3), .ref (tA E 2), .ref (tA E 4), .ref (tA E 1)])
  | 1 => .inl (E.2.2.1 0, 1000, .inl (AI (tp 1)))
  | 2 => .inr (2, [.ref (tA E 3), vI (tp 2 1)])
  | 3 => .inl (E.2.2.1 2, 4, .inr (.inr (.inr (.inr (fun i => some (hA E (tp 3 (i : Int)).toNat 0))))))
  | 4 => .inr (0, [.ref (tA E 5), vI (tp 4 1), .ref (tA E 6), .ref (tA E 7), .ref (tA E 8), vI (tp 4 5), vI (tp 4 6), vI (tp 4 7), vI (tp 4 8)])
  | 5 => .inl (E.2.2.1 1, 60, .inl (AI (tp 5)))
  | 6 => .inl (E.2.2.1 0, 10, .inl (AI (tp 6)))
  | 7 => .inl (E.2.2.1 0, 10, .inl (AI (tp 7)))
  | _ => .inl (E.2.2.1 0, 10, .inl (AI (tp 8)))
def modE (E : HE) (md : HV) (c : Nat) : va_E := match c with
  | 0 => .inr (7, [.ref (mA E 1), .ref (mA E 2), .ref (mA E 3), .ref (mA E 4), .ref (mA E 5), vI (md 0 5), vI (md 0 6), vI (md 0 7), vI (md 0 8)])
  | 1 => .inl (E.2.2.1 0, 2739, .inl (AI (md 1)))
  | 2 => .inl (E.2.2.1 0, 2739, .inl (AI (md 2)))
  | 3 => .inl (E.2.2.1 0, 2739, .inl (AI (md 3)))
  | 4 => .inl (E.2.2.1 0, 10956, .inl (AI (md 4)))
  | _ => .inl (E.2.2.1 0, 60, .inl (AI (md 5)))
def cellE (E : HE) (hs : Nat → HV) (tp md : HV) (k : Nat) : va_E := if k < 119 then hutE E (k / 17) (hs (k / 17)) (k % 17) else if k < 128 then topE E tp (k - 119) else modE E md (k - 128)
def wl (E : HE) (hs : Nat → HV) (tp md : HV) : va_W := (List.range 128).map fun k => (E.2.1 k, cellE E hs tp md k)
def AA (E : HE) : Nat → Prop := fun q => ∃ k, k < 128 ∧ q = E.2.1 k
def HI (E : HE) : Prop := ∀ i j, i < 128 → j < 128 → E.2.1 i = E.2.1 j → i = j
abbrev tysE (E : HE) : List (ClassId × FieldType) := [(E.2.2.1 0, .int), (E.2.2.1 1, .char), (E.2.2.1 2, .object "HutBookings$Hut")]
theorem wl_at {E : HE} {hs : Nat → HV} {tp md : HV} {k : Nat} (hk : k < 128) : (wl E hs tp md)[k]? = some (E.2.1 k, cellE E hs tp md k) := by
  unfold wl; rw [List.getElem?_map, List.getElem?_range hk]; rfl
theorem wl_of {E : HE} {hs : Nat → HV} {tp md : HV} {k : Nat} {q : Nat × va_E} (h : (wl E hs tp md)[k]? = some q) : k < 128 ∧ q = (E.2.1 k, cellE E hs tp md k) := by
  have hk : k < 128 := by
    have := (List.getElem?_eq_some_iff.mp h).1
    unfold wl at this; rwa [List.length_map, List.length_range] at this
  rw [wl_at hk] at h
  exact ⟨hk, (Option.some.inj h).symm⟩
theorem wl_D {E : HE} (h : HI E) (hs : Nat → HV) (tp md : HV) : va_D (AA E) (wl E hs tp md) := by
  refine ⟨fun i j p q hi hj e => ?_, fun k q hk => ?_⟩
  · obtain ⟨a, rfl⟩ := wl_of hi
    obtain ⟨b, rfl⟩ := wl_of hj
    exact h i j a b e
  · obtain ⟨a, rfl⟩ := wl_of hk
    exact ⟨k, a, rfl⟩
theorem wl_set {E : HE} {hs hs' : Nat → HV} {tp md tp' md' : HV} {k : Nat} {e : va_E} (hk : k < 128) (h1 : cellE E hs' tp' md' k = e) (h2 : ∀ i, i < 128 → i ≠ k → cellE E hs' tp' md' i = cellE E hs tp md i) : (wl E hs tp md).set k (E.2.1 k, e) = wl E hs' tp' md' := by
  apply List.ext_getElem?
  intro i
  by_cases hi : i < 128
  · by_cases hik : i = k
    · subst hik
      rw [List.getElem?_set_self (by unfold wl; rw [List.length_map, List.length_range]; exact hk), wl_at hk, h1]
    · rw [List.getElem?_set_ne (Ne.symm hik), wl_at hi, wl_at hi, h2 i hi hik]
  · rw [List.getElem?_eq_none, List.getElem?_eq_none]
    · unfold wl; rw [List.length_map, List.length_range]; omega
    · rw [List.length_set]; unfold wl; rw [List.length_map, List.length_range]; omega
theorem cellE_h {E : HE} {hs : Nat → HV} {tp md : HV} {j c : Nat} (hj : j < 7) (hc : c < 17) : cellE E hs tp md (17 * j + c) = hutE E j (hs j) c := by
  unfold cellE
  rw [if_pos (by omega), show (17 * j + c) / 17 = j by omega, show (17 * j + c) % 17 = c by omega]
theorem cellE_t {E : HE} {hs : Nat → HV} {tp md : HV} {c : Nat} (hc : c < 9) : cellE E hs tp md (119 + c) = topE E tp c := by
  unfold cellE
  rw [if_neg (by omega), if_pos (by omega), show 119 + c - 119 = c by omega]
theorem wl_h {E : HE} {hs : Nat → HV} {tp md : HV} {j : Nat} (hj : j < 7) {h : HV} (hh : hs j = h) (c : Nat) (hc : c < 17) : (wl E hs tp md)[17 * j + c]? = some (hA E j c, hutE E j h c) := by
  rw [wl_at (by omega), cellE_h hj hc, hh]; rfl
theorem wl_t {E : HE} {hs : Nat → HV} {tp md : HV} (c : Nat) (hc : c < 9) : (wl E hs tp md)[119 + c]? = some (tA E c, topE E tp c) := by
  rw [wl_at (by omega), cellE_t hc]; rfl
theorem upr_same {h : HV} {c : Nat} {f : Int → Int} : upr h c f c = f := if_pos rfl
theorem upr_ne {h : HV} {c k : Nat} {f : Int → Int} (n : k ≠ c) : upr h c f k = h k := if_neg n
theorem upr_upr {h : HV} {c : Nat} {f g : Int → Int} : upr (upr h c f) c g = upr h c g := by funext k; unfold upr; split <;> rfl
theorem upr_id {h : HV} {c : Nat} : upr h c (h c) = h := by funext k; unfold upr; split <;> simp_all
theorem up1_same {f : Int → Int} {i v : Int} : up1 f i v i = v := if_pos rfl
theorem up1_ne {f : Int → Int} {i k v : Int} (n : k ≠ i) : up1 f i v k = f k := if_neg n
theorem up1_id {f : Int → Int} {i : Int} : up1 f i (f i) = f := by funext k; unfold up1; split <;> simp_all
theorem up1_up1 {f : Int → Int} {i v w : Int} : up1 (up1 f i v) i w = up1 f i w := by funext k; unfold up1; split <;> rfl
theorem putH_same {hs : Nat → HV} {j : Nat} {h : HV} : putH hs j h j = h := if_pos rfl
theorem putH_ne {hs : Nat → HV} {j k : Nat} {h : HV} (n : k ≠ j) : putH hs j h k = hs k := if_neg n
theorem putH_put {hs : Nat → HV} {j : Nat} {h h' : HV} : putH (putH hs j h) j h' = putH hs j h' := by funext k; unfold putH; split <;> rfl
theorem putH_id {hs : Nat → HV} {j : Nat} : putH hs j (hs j) = hs := by funext k; unfold putH; split <;> simp_all
theorem putH_of {hs : Nat → HV} {j : Nat} {h : HV} (e : hs j = h) : putH hs j h = hs := by rw [← e]; exact putH_id
theorem putH_w {hs : Nat → HV} {j c : Nat} {h : HV} {f : Int → Int} {i v : Int} : putH (putH hs j (upr h c f)) j (upr (upr h c f) c (up1 (upr h c f c) i v)) = putH hs j (upr h c (up1 f i v)) := by rw [putH_put, upr_upr, upr_same]
theorem upr_w {h : HV} {c : Nat} {f : Int → Int} {i v : Int} : upr (upr h c f) c (up1 (upr h c f c) i v) = upr h c (up1 f i v) := by rw [upr_upr, upr_same]
theorem putH_comm {hs : Nat → HV} {j k : Nat} {h h' : HV} (n : j ≠ k) : putH (putH hs j h) k h' = putH (putH hs k h') j h := by
  funext q; unfold putH; split <;> split <;> simp_all
/-- a cell's own entry is read off its own row alone -/
theorem hutE_own {E : HE} {j : Nat} {h h' : HV} {c : Nat} (hc : c < 17) (e : h' c = h c) : hutE E j h' c = hutE E j h c := by
  have k : c = 0 ∨ c = 1 ∨ c = 2 ∨ c = 3 ∨ c = 4 ∨ c = 5 ∨ c = 6 ∨ c = 7 ∨ c = 8 ∨ c = 9 ∨ c = 10 ∨ c = 11 ∨ c = 12 ∨ c = 13 ∨ c = 14 ∨ c = 15 ∨ c = 16 := by omega
  rcases k with rfl | rfl | rfl | rfl | rfl | rfl | rfl | rfl | rfl | rfl | rfl | rfl | rfl | rfl | rfl | rfl | rfl <;> simp only [hutE, e]
theorem topE_own {E : HE} {h h' : HV} {c : Nat} (hc : c < 9) (e : h' c = h c) : topE E h' c = topE E h c := by
  have k : c = 0 ∨ c = 1 ∨ c = 2 ∨ c = 3 ∨ c = 4 ∨ c = 5 ∨ c = 6 ∨ c = 7 ∨ c = 8 := by omega
  rcases k with rfl | rfl | rfl | rfl | rfl | rfl | rfl | rfl | rfl <;> simp only [topE, e]
theorem modE_own {E : HE} {h h' : HV} {c : Nat} (hc : c < 6) (e : h' c = h c) : modE E h' c = modE E h c := by
  have k : c = 0 ∨ c = 1 ∨ c = 2 ∨ c = 3 ∨ c = 4 ∨ c = 5 := by omega
  rcases k with rfl | rfl | rfl | rfl | rfl | rfl <;> simp only [modE, e]
theorem set_h {E : HE} {hs : Nat → HV} {tp md : HV} {j : Nat} (hj : j < 7) {h : HV} (hh : hs j = h) (c : Nat) (hc : c < 17) (f : Int → Int) {e : va_E} (he : hutE E j (upr h c f) c = e) : (wl E hs tp md).set (17 * j + c) (hA E j c, e) = wl E (putH hs j (upr h c f)) tp md := by
  refine wl_set (by omega) (by rw [cellE_h hj hc, putH_same]; exact he) fun i hi hik => ?_
  unfold cellE
  by_cases h1 : i < 119
  · rw [if_pos h1, if_pos h1]
    by_cases h2 : i / 17 = j
    · rw [h2, putH_same, hh]
      exact hutE_own (by omega) (upr_ne (by omega))
    · rw [putH_ne h2]
  · rw [if_neg h1, if_neg h1]
theorem set_t {E : HE} {hs : Nat → HV} {tp md : HV} (c : Nat) (hc : c < 9) (f : Int → Int) {e : va_E} (he : topE E (upr tp c f) c = e) : (wl E hs tp md).set (119 + c) (tA E c, e) = wl E hs (upr tp c f) md := by
  refine wl_set (by omega) (by rw [cellE_t hc]; exact he) fun i hi hik => ?_
  unfold cellE
  by_cases h1 : i < 119
  · rw [if_pos h1, if_pos h1]
  · rw [if_neg h1, if_neg h1]
    by_cases h2 : i < 128
    · rw [if_pos h2, if_pos h2]
      exact topE_own (by omega) (upr_ne (by omega))
    · rw [if_neg h2, if_neg h2]
theorem AI_up {f : Int → Int} {i v : Int} (h0 : 0 ≤ i) {n : Nat} (hn : n = i.toNat) : AI (up1 f i v) = upd (AI f) n (Int32.ofInt v) := by
  subst hn
  funext k
  unfold AI up1 upd
  by_cases hk : (k : Int) = i
  · rw [if_pos hk, if_pos (by omega)]
  · rw [if_neg hk, if_neg (by omega)]
/-! numbers -/
abbrev IR (a : Int) : Prop := -2147483648 ≤ a ∧ a ≤ 2147483647
theorem oI_toInt {a : Int} (h : IR a) : (Int32.ofInt a).toInt = a := Int32.toInt_ofInt_of_le (by simpa using h.1) (by have := h.2; simp; omega)
theorem oI_lt {a b : Int} (ha : IR a) (hb : IR b) : Int32.ofInt a < Int32.ofInt b ↔ a < b := by rw [Int32.lt_iff_toInt_lt, oI_toInt ha, oI_toInt hb]
theorem oI_le {a b : Int} (ha : IR a) (hb : IR b) : Int32.ofInt a ≤ Int32.ofInt b ↔ a ≤ b := by rw [Int32.le_iff_toInt_le, oI_toInt ha, oI_toInt hb]
theorem oI_eq {a b : Int} (ha : IR a) (hb : IR b) : Int32.ofInt a = Int32.ofInt b ↔ a = b := by rw [← Int32.toInt_inj, oI_toInt ha, oI_toInt hb]
theorem oI_add (a b : Int) : Int32.ofInt a + Int32.ofInt b = Int32.ofInt (a + b) := (Int32.ofInt_add a b).symm
theorem oI_sub (a b : Int) : Int32.ofInt a - Int32.ofInt b = Int32.ofInt (a - b) := (Int32.ofInt_sub a b).symm
theorem oI_mul (a b : Int) : Int32.ofInt a * Int32.ofInt b = Int32.ofInt (a * b) := (Int32.ofInt_mul a b).symm
theorem oI_self (x : Int32) : Int32.ofInt x.toInt = x := Int32.ofInt_toInt x
theorem oI_IR (x : Int32) : IR x.toInt := ⟨by have := Int32.le_toInt x; simpa using this, by have := Int32.toInt_lt x; simp at this; omega⟩
theorem oI_clamp {a : Int} (h : IR a) : (Int32.ofInt a).toNatClampNeg = a.toNat := by
  show (Int32.ofInt a).toInt.toNat = _; rw [oI_toInt h]
theorem oI_in {a : Int} {n : Nat} (h0 : 0 ≤ a) (h1 : a < n) (hn : n < 20000) : vp_in (Int32.ofInt a) n := by
  have hR : IR a := ⟨by omega, by omega⟩
  rw [vp_in_iff, oI_toInt hR]; omega
theorem AI_at {f : Int → Int} {a : Int} {n : Nat} (h0 : 0 ≤ a) (h1 : a < n) (hn : n < 20000) : AI f (Int32.ofInt a).toNatClampNeg = Int32.ofInt (f a) := by
  rw [oI_clamp ⟨by omega, by omega⟩]; unfold AI; rw [Int.toNat_of_nonneg h0]
theorem oI_div {a b : Int} (ha : IR a) (hb : IR b) (h0 : 0 ≤ a) (h1 : 0 < b) : Int32.ofInt a / Int32.ofInt b = Int32.ofInt (a / b) := by
  have hle : a / b ≤ a := Int.ediv_le_self _ h0
  have hge : 0 ≤ a / b := Int.ediv_nonneg h0 (by omega)
  rw [← Int32.toInt_inj, Int32.toInt_div, oI_toInt ha, oI_toInt hb, oI_toInt ⟨by omega, by have := ha.2; omega⟩, Int.tdiv_eq_ediv_of_nonneg h0]
  exact Int.bmod_eq_of_le (by omega) (by have := ha.2; omega)
