/-! the row of the history's huts; the rows of nights -/
section REFS
variable {F : FC} {own : String} {cc : ByteArray} {nL kf : Nat} {E : HE} {hs : Nat → HV} {tp md : HV} {pc : Nat} {L : List (Option Value)} {st : List Value} {a : Int}
theorem x_aald (C : Cs F own cc nL kf E) (h0 : 0 ≤ a) (h1 : a < 4) (d : decode cc pc = .ok (.aaload, 1)) {j9 : Nat} (hv : (tp 3 a).toNat = j9) (n : G F E hs tp md (pc + 1) L (.ref (hA E j9 0) :: st)) : G F E hs tp md pc L (vI a :: .ref (tA E 3) :: st) := by
  obtain ⟨p, l, e, R, s, m, args, below, meth, c, cells, slots, Q⟩ := F
  obtain ⟨hx, hb, hml, hown, hts, hK, -⟩ := C
  subst hv
  intro H locs ls hP hS hL
  refine va_aldq hx hb hK hP (119 + 3) 2 (wl_t 3 (by decide)) rfl (oI_in h0 h1 (by decide)) d ?_
  have k := n H locs ls hP hS hL
  rw [oI_clamp ⟨by omega, by omega⟩]
  have e9 : ((a.toNat : Nat) : Int) = a := Int.toNat_of_nonneg h0
  show W p l e R s m args below meth c H locs cells slots Q (F0 m (pc + 1) ls (va_rf (some (hA E (tp 3 ((a.toNat : Nat) : Int)).toNat 0)) :: st))
  rw [e9]
  exact k
theorem x_aast {j : Nat} (C : Cs F own cc nL kf E) (hj : j < 7) (h0 : 0 ≤ a) (h1 : a < 4) (d : decode cc pc = .ok (.aastore, 1)) {t9 : HV} (he : upr tp 3 (up1 (tp 3) a (j : Int)) = t9) (n : G F E hs t9 md (pc + 1) L st) : G F E hs tp md pc L (.ref (hA E j 0) :: vI a :: .ref (tA E 3) :: st) := by
  obtain ⟨p, l, e, R, s, m, args, below, meth, c, cells, slots, Q⟩ := F
  obtain ⟨hx, hb, hml, hown, hts, hK, hE, -⟩ := C
  subst he
  intro H locs ls hP hS hL
  refine va_astq hx hb hK hP (wl_D hE hs tp md) hS (119 + 3) 2 (17 * j + 0) 3 (r := (RX3, TX3, 11)) (wl_t 3 (by decide)) rfl (wl_h hj rfl 0 (by decide)) rfl (oI_in h0 h1 (by decide)) d fun H1 locs1 hP1 _ hS1 => n H1 locs1 ls ?_ hS1 hL
  rw [oI_clamp ⟨by omega, by omega⟩] at hP1
  rw [← set_t 3 (by decide) (up1 (tp 3) a (j : Int)) (e := .inl (E.2.2.1 2, 4, .inr (.inr (.inr (.inr (va_up (fun i => some (hA E (tp 3 (i : Int)).toNat 0)) a.toNat (some (hA E j 0)))))))) ?_]
  · exact hP1
  · have e9 : (fun i : Nat => some (hA E (up1 (tp 3) a (j : Int) (i : Int)).toNat 0)) = va_up (fun i => some (hA E (tp 3 (i : Int)).toNat 0)) a.toNat (some (hA E j 0)) := by
      funext i
      unfold up1 va_up
      by_cases hi : (i : Int) = a
      · rw [if_pos hi, if_pos (by omega)]; rfl
      · rw [if_neg hi, if_neg (by omega)]
    rw [← e9]
    rfl
/-- the static rows -/
theorem x_gets {index i : Nat} (hi : i < 3) (C : Cs F own cc nL kf E) (hl : Cond.fieldLink own index "HutBookings" (stN i) "[I" ∈ TB) (d : decode cc pc = .ok (.getstatic index, 3)) (n : G F E hs tp md (pc + 3) L (.ref (E.2.2.2 i) :: st)) : G F E hs tp md pc L st := by
  obtain ⟨p, l, e, R, s, m, args, below, meth, c, cells, slots, Q⟩ := F
  obtain ⟨hx, hb, hml, hown, hts, hK, hE, hZ, -⟩ := C
  intro H locs ls hP hS hL
  exact va_gets hx hb (hZ.1 i hi).1 hS hown (hts _ hl) (fun _ h => h) d (n H locs ls hP hS hL)
theorem x_srow {i : Nat} (hi : i < 3) (C : Cs F own cc nL kf E) (h0 : 0 ≤ a) (h1 : a < 10) (d : decode cc pc = .ok (.iaload, 1)) (n : G F E hs tp md (pc + 1) L (vI (stV i a.toNat) :: st)) : G F E hs tp md pc L (vI a :: .ref (E.2.2.2 i) :: st) := by
  obtain ⟨p, l, e, R, s, m, args, below, meth, c, cells, slots, Q⟩ := F
  obtain ⟨hx, hb, hml, hown, hts, hK, hE, hZ, -⟩ := C
  obtain ⟨z1, z2, z3, z4⟩ := hZ.1 i hi
  intro H locs ls hP hS hL
  refine va_sld hx hb z2 z3 z4 hS (oI_in h0 h1 (by decide)) d ?_
  rw [oI_clamp ⟨by omega, by omega⟩]
  exact n H locs ls hP hS hL
end REFS
/-- the beds of a night, guest by guest -/
abbrev gNight (h : HV) (d : Int) : Int → Int := fun b => if gHold h b ∧ h 5 b ≤ d ∧ d < h 5 b + h 6 b then h 7 b else 0
def fbR (h : HV) (f : Int → Int) (b : Int) : Int → Int := fun d => if 0 ≤ d ∧ d < 1000 then sumI (gNight h d) b else f d
def fbS (h : HV) (f : Int → Int) (b k : Int) : Int → Int := fun d => if 0 ≤ d ∧ d < 1000 then sumI (gNight h d) b + (if h 5 b ≤ d ∧ d < h 5 b + k then h 7 b else 0) else f d
theorem fbS_0 {h : HV} {f : Int → Int} {b : Int} : fbS h f b 0 = fbR h f b := by funext d; unfold fbS fbR; rw [if_neg (show ¬ (h 5 b ≤ d ∧ d < h 5 b + 0) by omega), Int.add_zero]
theorem fbS_s {h : HV} {f : Int → Int} {b k : Int} (h0 : 0 ≤ h 5 b + k) (h1 : h 5 b + k < 1000) (k0 : 0 ≤ k) : up1 (fbS h f b k) (h 5 b + k) (fbS h f b k (h 5 b + k) + h 7 b) = fbS h f b (k + 1) := by
  funext d
  unfold up1
  by_cases e : d = h 5 b + k
  · rw [if_pos e]; subst e
    unfold fbS
    rw [if_pos (⟨h0, h1⟩ : 0 ≤ h 5 b + k ∧ h 5 b + k < 1000), if_neg (show ¬ (h 5 b ≤ h 5 b + k ∧ h 5 b + k < h 5 b + k) by omega), if_pos (⟨h0, h1⟩ : 0 ≤ h 5 b + k ∧ h 5 b + k < 1000), if_pos (show h 5 b ≤ h 5 b + k ∧ h 5 b + k < h 5 b + (k + 1) by omega)]; omega
  · rw [if_neg e]
    unfold fbS
    by_cases q : h 5 b ≤ d ∧ d < h 5 b + k
    · rw [if_pos q, if_pos (show h 5 b ≤ d ∧ d < h 5 b + (k + 1) by omega)]
    · rw [if_neg q, if_neg (show ¬ (h 5 b ≤ d ∧ d < h 5 b + (k + 1)) by omega)]
theorem fbS_e {h : HV} {f : Int → Int} {b : Int} (b0 : 0 ≤ b) (q : gHold h b) : fbS h f b (h 6 b) = fbR h f (b + 1) := by
  funext d; unfold fbS fbR; rw [sumI_s b0]
  by_cases c : h 5 b ≤ d ∧ d < h 5 b + h 6 b
  · rw [if_pos c]; show _ = if _ then sumI (gNight h d) b + (if _ then _ else _) else _; rw [if_pos (⟨q, c⟩ : gHold h b ∧ h 5 b ≤ d ∧ d < h 5 b + h 6 b)]
  · rw [if_neg c]; show _ = if _ then sumI (gNight h d) b + (if _ then _ else _) else _; rw [if_neg (fun z : gHold h b ∧ h 5 b ≤ d ∧ d < h 5 b + h 6 b => c z.2)]
theorem fbR_n {h : HV} {f : Int → Int} {b : Int} (b0 : 0 ≤ b) (q : ¬ gHold h b) : fbR h f (b + 1) = fbR h f b := by
  funext d; unfold fbR; rw [sumI_s b0]
  show (if _ then sumI (gNight h d) b + (if _ then _ else _) else _) = _
  rw [if_neg (fun z : gHold h b ∧ h 5 b ≤ d ∧ d < h 5 b + h 6 b => q z.1), Int.add_zero]
theorem fbR_r {K : Int} {h : HV} (R : RG K h) {f : Int → Int} {b d : Int} (b0 : 0 ≤ b) (b1 : b ≤ 80) (d0 : 0 ≤ d) (d1 : d < 1000) : 0 ≤ fbR h f b d ∧ fbR h f b d ≤ 720 := by
  have := sumI_le (f := gNight h d) (lo := 0) (hi := 9) b0 fun k x y => by
    have rp := R.per (b := k) x (by omega)
    unfold gNight; split <;> omega
  unfold fbR; rw [if_pos ⟨d0, d1⟩]; omega
theorem gNight_beds {h : HV} {d : Int} : gNight h d = gBeds h d d := by
  funext b
  have k : (h 5 b ≤ d ∧ d < h 5 b + h 6 b) ↔ 0 < gShared h d d b := by
    unfold gShared
    split <;> split <;> omega
  show (if gHold h b ∧ h 5 b ≤ d ∧ d < h 5 b + h 6 b then h 7 b else 0) = (if gHold h b ∧ 0 < gShared h d d b then gShared h d d b * h 7 b else 0)
  by_cases c : gHold h b ∧ 0 < gShared h d d b
  · rw [if_pos c, if_pos ⟨c.1, k.mpr c.2⟩, gShared_1 c.2]; omega
  · rw [if_neg c, if_neg (fun z => c ⟨z.1, k.mp z.2⟩)]
/-! the history -/
def SG (t : HV) : Prop := (0 ≤ t 2 1 ∧ t 2 1 ≤ 4) ∧ ∀ i, 0 ≤ i → i < 4 → 3 ≤ t 3 i ∧ t 3 i ≤ 6
abbrev hDrop (t : HV) : HV := upr (upr t 3 (up1 (shC (t 3) 3) 3 (t 3 0))) 2 (up1 (t 2) 1 3)
def hT1 (t : HV) : HV := if 4 ≤ t 2 1 then hDrop t else t
def rT (t : HV) : HV := upr (hT1 t) 2 (up1 (hT1 t 2) 1 (hT1 t 2 1 + 1))
def rJ (t : HV) : Nat := (hT1 t 3 (hT1 t 2 1)).toNat
def rH (hs : Nat → HV) (t : HV) : Nat → HV := putH hs (rJ t) (hCp (hs (rJ t)) (hs 0))
theorem SG_drop {t : HV} (S : SG t) : SG (hDrop t) := by
  refine ⟨⟨by show 0 ≤ up1 (t 2) 1 3 1; rw [up1_same]; decide, by show up1 (t 2) 1 3 1 ≤ 4; rw [up1_same]; decide⟩, fun i a b => ?_⟩
  show 3 ≤ up1 (shC (t 3) 3) 3 (t 3 0) i ∧ up1 (shC (t 3) 3) 3 (t 3 0) i ≤ 6
  unfold up1 shC
  split
  · exact S.2 0 (by decide) (by decide)
  · split
    · exact S.2 (i + 1) (by omega) (by omega)
    · exact S.2 i a b
theorem SG_1 {t : HV} (S : SG t) : SG (hT1 t) ∧ hT1 t 2 1 ≤ 3 := by
  unfold hT1; split
  · exact ⟨SG_drop S, by show up1 (t 2) 1 3 1 ≤ 3; rw [up1_same]; decide⟩
  · exact ⟨S, by omega⟩
theorem SG_rT {t : HV} (S : SG t) : SG (rT t) := by
  have a := SG_1 S
  refine ⟨?_, a.1.2⟩
  show 0 ≤ up1 (hT1 t 2) 1 (hT1 t 2 1 + 1) 1 ∧ up1 (hT1 t 2) 1 (hT1 t 2 1 + 1) 1 ≤ 4
  rw [up1_same]
  have := a.1.1
  omega
theorem rJ_r {t : HV} (S : SG t) : 3 ≤ rJ t ∧ rJ t ≤ 6 ∧ ((rJ t : Nat) : Int) = hT1 t 3 (hT1 t 2 1) := by
  have a := SG_1 S
  have b := a.1.2 (hT1 t 2 1) a.1.1.1 (by omega)
  unfold rJ
  omega
theorem rH_ne {hs : Nat → HV} {t : HV} (S : SG t) {k : Nat} (h : k < 3) : rH hs t k = hs k := putH_ne (by have := rJ_r S; omega)
