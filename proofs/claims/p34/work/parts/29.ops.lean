/-! WHAT THE OBJECT's METHODS ANSWER AND DO -/
def xErr (h : HV) (b : Int) : Int := if ¬ (0 ≤ b ∧ b < h 3 7) then -1000001 else if h 4 b = 0 then 0 else -1000004
abbrev cStay (h : HV) (b n : Int) : Prop := h 4 b = 1 ∧ h 0 6 ≤ h 5 b + h 6 b ∧ h 6 b + n ≤ 9 ∧ hasB h (h 5 b + h 6 b) n (h 7 b)
abbrev OP : Type := Int × (Nat → HV) × HV
def xBook (hs : Nat → HV) (tp : HV) (a n p : Int) : OP := if bErr (hs 0) a n p = 0 then (hs 0 3 7, putH (rH hs tp) 0 (hAdd (hs 0) a n p), rT tp) else (bErr (hs 0) a n p, hs, tp)
def xCancel (hs : Nat → HV) (tp : HV) (b : Int) : OP := if xErr (hs 0) b = 0 then (hRef (hs 0) b, putH (rH hs tp) 0 (hCan (hs 0) b), rT tp) else (xErr (hs 0) b, hs, tp)
abbrev hExt (h : HV) (b n : Int) : HV := upr h 6 (up1 (h 6) b (h 6 b + n))
def xExtend (hs : Nat → HV) (tp : HV) (b n : Int) : OP := if ¬ (0 ≤ b ∧ b < hs 0 3 7) then (-1000001, hs, tp) else if n < 1 ∨ 9 < n then (-1000002, hs, tp) else if ¬ cStay (hs 0) b n then (-1000004, hs, tp) else (hExt (hs 0) b n 5 b + hExt (hs 0) b n 6 b, putH (rH hs tp) 0 (hExt (hs 0) b n), rT tp)
abbrev nOther (h : HV) (x y w : Int) : Int := sumI (fun q => wOther h w (x + q)) (y + 1 - x)
def xWeather (hs : Nat → HV) (tp : HV) (x y w : Int) : OP := if x < hs 0 0 6 ∨ y < x ∨ 999 < y ∨ w < 0 ∨ 7 < w then (-1000002, hs, tp) else if nOther (hs 0) x y w = 0 then (-1000005, hs, tp) else (nOther (hs 0) x y w, putH (rH hs tp) 0 (upr (hs 0) 2 (wSet (hs 0 2) x (y + 1) w)), rT tp)
def xOrder (hs : Nat → HV) (tp : HV) (k w : Int) : OP := if k < 0 ∨ 1 < k ∨ w < 1 ∨ 99 < w then (-1000002, hs, tp) else if 12 ≤ hs 0 13 2 then (-1000003, hs, tp) else (oApp (hs 0) k w 13 2, putH (rH hs tp) 0 (oApp (hs 0) k w), rT tp)
def xRecall (hs : Nat → HV) (tp : HV) : OP := if hs 0 13 2 < 1 then (-1000005, hs, tp) else (hs 0 15 (hs 0 13 2 - 1), putH (rH hs tp) 0 (oLast (hs 0)), rT tp)
def xFlight (hs : Nat → HV) (tp : HV) (x : Int) : OP := if hs 0 0 7 = x then (-1000005, hs, tp) else (hs 0 16 0, putH (rH hs tp) 0 (upr (hs 0) 0 (up1 (hs 0 0) 7 x)), rT tp)
def passI (h : HV) (n : Int) : HV := foldI (fun _ g => dPass g) h n
def xPass (hs : Nat → HV) (tp : HV) (n : Int) : OP := if n < 1 ∨ 30 < n then (-1000002, hs, tp) else if 999 < hs 0 0 6 + n then (-1000003, hs, tp) else (passI (hs 0) n 0 6, putH (rH hs tp) 0 (passI (hs 0) n), rT tp)
def fuN (f : Int → Int) : Nat → Int → Int → Int → Int
  | 0, _, b, _ => b
  | n + 1, d, b, m => if m < f d then fuN f n (d + 1) d (f d) else fuN f n (d + 1) b m
def nFull (h : HV) (f : Int → Int) : Int := fuN (fbR h f (h 3 7)) (1000 - h 0 6).toNat (h 0 6) (-1000005) 0
abbrev tRow (h : HV) (tp : HV) : HV := upr tp 1 (fbR h (tp 1) (h 3 7))
def nMost (h : HV) (f : Int → Int) : Int := if nFull h f = -1000005 then 0 else nBeds h (nFull h f) (nFull h f)
def xSet (hs : Nat → HV) (tp : HV) (k w : Int) : OP := if k < 0 ∨ 9 < k then (-1000002, hs, tp) else if w < stV 1 k.toNat ∨ stV 2 k.toNat < w then (-1000002, hs, tp) else
  if k = 0 then (if w < nMost (hs 0) (tp 1) then (-1000004, hs, tRow (hs 0) tp) else if hs 0 1 k = w then (-1000005, hs, tRow (hs 0) tp) else (hs 0 1 k, putH (rH hs (tRow (hs 0) tp)) 0 (upr (hs 0) 1 (up1 (hs 0 1) k w)), rT (tRow (hs 0) tp)))
  else if hs 0 1 k = w then (-1000005, hs, tp) else (hs 0 1 k, putH (rH hs tp) 0 (upr (hs 0) 1 (up1 (hs 0 1) k w)), rT tp)
def xType (tp : HV) (c : Int) : Int × HV := if 60 ≤ tp 4 1 then (-1000003, tp) else (tp 4 1 + 1, xApp tp c)
def xUndo (hs : Nat → HV) (tp : HV) : OP := if tp 2 1 < 1 then (-1000005, hs, tp) else (tp 2 1 - 1, putH hs 0 (hCp (hs 0) (hs (tp 3 (tp 2 1 - 1)).toNat)), upr tp 2 (up1 (tp 2) 1 (tp 2 1 - 1)))
def xRestore (hs : Nat → HV) (tp : HV) : OP := if tp 0 3 = 0 then (-1000005, hs, tp) else (hs 2 0 6, putH (rH hs tp) 0 (hCp (hs 0) (hs 2)), rT tp)
def baN (t : HV) : Nat → Int → HV → Int × HV
  | 0, _, g => (0, g)
  | n + 1, i, g => if bErr g (t 6 i) (t 7 i) (t 8 i) = 0 then baN t n (i + 1) (hAdd g (t 6 i) (t 7 i) (t 8 i)) else (bErr g (t 6 i) (t 7 i) (t 8 i), g)
abbrev bAll (hs : Nat → HV) (t : HV) : Int × HV := baN t (t 4 5).toNat 0 (hCp (hs 1) (hs 0))
def xBookAll (hs : Nat → HV) (tp : HV) : OP := if (ff tp).1 ≠ -1000005 then (-100 - (ff tp).1, hs, (ff tp).2) else
  if (bAll hs (ff tp).2).1 ≠ 0 then ((bAll hs (ff tp).2).1, putH hs 1 (bAll hs (ff tp).2).2, (ff tp).2) else
  ((ff tp).2 4 5, putH (rH (putH hs 1 (bAll hs (ff tp).2).2) (ff tp).2) 0 (hCp (hs 0) (bAll hs (ff tp).2).2), rT (ff tp).2)
def xBooking (h : HV) (b w : Int) : Int := if ¬ (0 ≤ b ∧ b < h 3 7) then -1000001 else if w = 0 then h 4 b else if w = 1 then h 5 b else if w = 2 then h 6 b else if w = 3 then h 7 b else if w = 4 then h 5 b + h 6 b else if w = 5 then h 8 b else if w = 6 then (if gOver h b (h 0 6) ∧ ¬ dnO h then 1 else 0) else if w = 7 then h 9 b else if w = 8 then (if h 10 b = -1 then -1000005 else h 10 b) else -1000002
def xDay (h : HV) (d w : Int) : Int := if d < 0 ∨ 999 < d then -1000002 else if w = 0 then nBeds h d d else if w = 1 then h 1 0 - nBeds h d d else if w = 2 then wOf h d else if w = 3 then sumI (gArr h d) (h 3 7) else if w = 4 then sumI (gEnds h d) (h 3 7) else -1000002
def xFresh (h : HV) (r w : Int) : Int := if r < 0 ∨ w < 0 ∨ 1 < w then -1000002 else if lRank h (h 0 6) r = -1000005 then -1000005 else if w = 0 then lRank h (h 0 6) r else h 12 (lRank h (h 0 6) r % 30)
def xWaiting (h : HV) (r w : Int) : Int := if r < 0 ∨ w < 0 ∨ 1 < w then -1000002 else if h 13 2 ≤ r then -1000005 else if w = 0 then h 14 r else h 15 r
def xCount (h tp : HV) (w : Int) : Int := if 14 ≤ w ∧ w < 23 then h 16 (w - 14) else if 25 ≤ w ∧ w < 35 then h 1 (w - 25) else if w = 0 then h 0 6 else if w = 1 then h 3 7 else if 2 ≤ w ∧ w ≤ 6 then sumI (gMany h (w - 2)) (h 3 7) else if w = 7 then nThere h else if w = 8 then (if 0 < nThere h - h 1 0 then nThere h - h 1 0 else 0) else if w = 9 then sumI (h 12) 30 else if w = 10 then h 11 1 else if w = 11 then h 13 2 else if w = 12 then sumI (h 15) (h 13 2) else if w = 13 then (if h 0 7 = 0 then 0 else 1) else if w = 23 then tp 2 1 else if w = 24 then tp 4 1 else -1000002
def xCoins (h : HV) (w : Int) : Int := if w = 0 then h 0 8 else if w = 1 then sumI (gHeld h) (h 3 7) else if w = 2 then h 0 9 else if w = 3 then h 0 10 else -1000002
def xRefund (h : HV) (b : Int) : Int := if xErr h b ≠ 0 then xErr h b else hRef h b
def frN (f : Int → Int) (e n p : Int) : Nat → Int → Int → Int
  | 0, _, _ => -1000005
  | k + 1, d, r => if (if f d + p ≤ e then r + 1 else 0) = n then d - n + 1 else frN f e n p k (d + 1) (if f d + p ≤ e then r + 1 else 0)
def xFirst (h : HV) (f : Int → Int) (n p : Int) : Int := frN (fbR h f (h 3 7)) (h 1 0) n p (899 + n - h 0 6).toNat (h 0 6) 0
def srN (p : HV → Bool) : Nat → Int → HV → Int × HV
  | 0, _, g => (-1000005, g)
  | n + 1, d, g => if p (dPass g) then (d, dPass g) else srN p n (d + 1) (dPass g)
def xHungry (h g : HV) : Int × HV := srN (fun q => decide (h 16 5 < q 16 5)) 60 1 (hCp g h)
def xGone (h g : HV) (b : Int) : Int × HV := srN (fun q => decide (q 4 b = 2)) 60 1 (hCp g h)
def xGrow (h g : HV) (c n : Int) : Int := passI (hCp g h) n 16 c - h 16 c
def bcN : Nat → Int → HV → Int → Int → Int → Int × HV
  | 0, _, g, b, _, _ => (b, g)
  | n + 1, a, g, b, m, s => if s ≤ 30 then (if windy (dBegin g) then bcN n (a + 1) (dEnd (dBegin g)) b m s else if m < (dFill (dBegin g) 0).2 then bcN n (a + 1) (dEnd (dBegin g)) s (dFill (dBegin g) 0).2 (a + 1) else bcN n (a + 1) (dEnd (dBegin g)) b m (a + 1)) else (b, g)
def xBest (h g : HV) : Int × HV := bcN 60 0 (hCp g h) (-1000005) 0 0
/-! bounds of copies and foresight -/
theorem cpI_r {P : Int → Prop} {f g : Int → Int} {n i : Int} (hf : P (f i)) (hg : P (g i)) : P (cpI f g n i) := by unfold cpI; split <;> assumption
theorem RG_cp {K K' : Int} {g h : HV} (Rg : RG K g) (Rh : RG K' h) : RG K (hCp h g) := by
  refine ⟨fun i a b => ?_, fun i a b => ?_, ?_, fun b b0 b1 => ⟨?_, ?_, ?_, ?_, ?_⟩, ?_, fun i a b => ?_, ?_, fun i a b => ⟨?_, ?_⟩, ?_, ?_⟩
  · exact cpI_r (P := fun z => stV 1 i.toNat ≤ z ∧ z ≤ stV 2 i.toNat) (Rg.set a b) (Rh.set a b)
  · exact cpI_r (P := fun z => 0 ≤ z ∧ z ≤ 7) (Rg.wea a b) (Rh.wea a b)
  · show 0 ≤ up1 (h 3) 7 (g 3 7) 7 ∧ up1 (h 3) 7 (g 3 7) 7 ≤ 80
    rw [up1_same]; exact Rg.made
  · exact cpI_r (P := fun z => 0 ≤ z ∧ z ≤ 4) (Rg.how b0 b1) (Rh.how b0 b1)
  · exact cpI_r (P := fun z => 0 ≤ z ∧ z ≤ 899) (Rg.arr b0 b1) (Rh.arr b0 b1)
  · exact cpI_r (P := fun z => 0 ≤ z ∧ z ≤ 9) (Rg.nig b0 b1) (Rh.nig b0 b1)
  · exact cpI_r (P := fun z => 0 ≤ z ∧ z ≤ 9) (Rg.per b0 b1) (Rh.per b0 b1)
  · exact cpI_r (P := fun z => -1 ≤ z ∧ z ≤ 1060) (Rg.cam b0 b1) (Rh.cam b0 b1)
  · show 0 ≤ up1 (h 11) 1 (g 11 1) 1 ∧ up1 (h 11) 1 (g 11 1) 1 ≤ K
    rw [up1_same]; exact Rg.dry
  · show 0 ≤ cpI (g 12) (h 12) 30 i ∧ cpI (g 12) (h 12) 30 i ≤ K
    unfold cpI; rw [if_pos ⟨a, b⟩]; exact Rg.fre a b
  · show 0 ≤ up1 (h 13) 2 (g 13 2) 2 ∧ up1 (h 13) 2 (g 13 2) 2 ≤ 12
    rw [up1_same]; exact Rg.siz
  · exact cpI_r (P := fun z => 0 ≤ z ∧ z ≤ 1) (Rg.kin a b) (Rh.kin a b)
  · exact cpI_r (P := fun z => 0 ≤ z ∧ z ≤ 99) (Rg.por a b) (Rh.por a b)
  · show 0 ≤ g 0 6 ∧ g 0 6 ≤ 1060
    exact Rg.day
  · show g 0 7 = 0 ∨ g 0 7 = 1
    exact Rg.cal
theorem hCp_day {h g : HV} : hCp h g 0 6 = g 0 6 ∧ hCp h g 0 7 = g 0 7 ∧ hCp h g 3 7 = g 3 7 := ⟨rfl, rfl, rfl⟩
theorem passI_0 {h : HV} : passI h 0 = h := rfl
theorem passI_s {h : HV} {n : Int} (q : 0 ≤ n) : passI h (n + 1) = dPass (passI h n) := foldI_s q
theorem RG_passI {K : Int} {h : HV} (R : RG K h) {n : Int} (n0 : 0 ≤ n) (hd : h 0 6 + n ≤ 1060) : RG (K + 149 * n) (passI h n) ∧ passI h n 0 6 = h 0 6 + n ∧ passI h n 3 7 = h 3 7 :=
  foldI_iv (f := fun _ g => dPass g) (x := h) n0 (fun k (g : HV) => k ≤ n → RG (K + 149 * k) g ∧ g 0 6 = h 0 6 + k ∧ g 3 7 = h 3 7) (fun _ => ⟨by rw [Int.mul_zero, Int.add_zero]; exact R, by omega, rfl⟩) (fun k y a b hy hk => by
    obtain ⟨h1, h2, h3⟩ := hy (by omega)
    have p := RG_pass h1 (by omega)
    exact ⟨p.1.mono (by omega), by rw [p.2.2.2.2.2.2.2, h2]; omega, by rw [p.2.2.2.1, h3]⟩) (Int.le_refl _)
theorem stay16 {K : Int} {h : HV} (R : RG K h) : True := trivial
/-- how hungry a day leaves them, at most -/
theorem lv16 (h : HV) (b c : Int) (hc : c ≠ 8) : dLv h b 16 c = h 16 c ∧ dAw h b 16 c = h 16 c ∧ dIn h b 16 c = h 16 c :=
  ⟨rfl, by show up1 (h 16) 8 _ c = h 16 c; exact up1_ne hc, rfl⟩
theorem fold16 {f : Int → HV → HV} {c : Int} (hf : ∀ b g, f b g 16 c = g 16 c) {h : HV} {i : Int} (hi : 0 ≤ i) : foldI f h i 16 c = h 16 c :=
  foldI_iv hi (fun _ (g : HV) => g 16 c = h 16 c) rfl fun k y _ _ hy => (hf k y).trans hy
theorem foldp16 {f : Int → HV × Int → HV × Int} {c : Int} (hf : ∀ b g, (f b g).1 16 c = g.1 16 c) {q : HV × Int} {i : Int} (hi : 0 ≤ i) : (foldI f q i).1 16 c = q.1 16 c :=
  foldI_iv hi (fun _ (g : HV × Int) => g.1 16 c = q.1 16 c) rfl fun k y _ _ hy => (hf k y).trans hy
theorem leave16 {K : Int} {h : HV} (R : RG K h) {c : Int} (hc : c ≠ 8) : dLeave h 16 c = h 16 c := fold16 (fun b g => by
  unfold sLv; split
  · exact (lv16 g b c hc).1
  · rfl) R.made.1
theorem late16 {K : Int} {h : HV} (R : RG K h) {c : Int} (hc : c ≠ 8) : dLate h 16 c = h 16 c := fold16 (fun b g => by
  unfold sLt; split
  · exact (lv16 g b c hc).2.1
  · rfl) R.made.1
theorem come16 {K : Int} {h : HV} (R : RG K h) {c : Int} (hc : c ≠ 8) : dCome h 16 c = h 16 c := foldp16 (q := (h, nThere h)) (fun b g => by
  unfold sCm; split
  · split
    · exact (lv16 g.1 b c hc).2.2
    · exact (lv16 g.1 b c hc).2.1
  · rfl) R.made.1
theorem fill16 {K : Int} {h : HV} (R : RG K h) {x c : Int} (hc : c ≠ 8) : (dFill h x).1 16 c = h 16 c := foldp16 (q := (h, 0)) (fun b g => by
  unfold sFl; split
  · show (if x = 0 then g.1 else dLv g.1 b) 16 c = _
    split
    · rfl
    · exact (lv16 g.1 b c hc).1
  · rfl) R.made.1
theorem oTF16 {h : HV} {m : Int} : oTF h m 16 = h 16 := by unfold oTF; split <;> rfl
theorem store16 {h : HV} {k p t : Int} : lStore h k p t 16 = h 16 := by unfold lStore; split <;> rfl
theorem bring16 {c : Int} (hc : c ≠ 2) : ∀ (n : Nat) (h : HV) (l : Int), dBr n h l 16 c = h 16 c
  | 0, h, l => rfl
  | n + 1, h, l => by
    unfold dBr; split
    · rw [bring16 hc n]
      show up1 _ 2 _ c = _
      rw [up1_ne hc, store16, oTF16]
    · rfl
theorem spoil16 {h : HV} {c : Int} (hc : c ≠ 4) : dSpoil h 16 c = h 16 c := by show up1 (h 16) 4 _ c = _; exact up1_ne hc
theorem begin16 {K : Int} {h : HV} (R : RG K h) {c : Int} (h4 : c ≠ 4) (h8 : c ≠ 8) (h2 : c ≠ 2) : dBegin h 16 c = h 16 c := by
  have a := RS_spoil R
  have e1 : dBeg1 h 16 c = h 16 c := by
    unfold dBeg1; split
    · rw [late16 (RS_leave a.1).1 h8, leave16 a.1 h8, spoil16 h4]
    · rw [late16 a.1 h8, spoil16 h4]
  unfold dBegin; split
  · exact (bring16 h2 12 _ _).trans ((come16 (RS_beg1 R).1 h8).trans e1)
  · exact e1
theorem fly16 {K : Int} {h : HV} (R : RG K h) {c : Int} (h0 : c ≠ 0) (h1 : c ≠ 1) (h8 : c ≠ 8) (h2 : c ≠ 2) : dFly h 16 c = h 16 c := by
  have b := RS_bring R (set_50 R).2.1.1
  show up1 (up1 (dFly1 h 16) 1 _) 0 _ c = _
  rw [up1_ne h0, up1_ne h1]
  show (dFill (dBring h (h 1 7)) 1).1 16 c = _
  exact (fill16 b.1 h8).trans (bring16 h2 12 _ _)
theorem sleep16 {K : Int} {h : HV} (R : RG K h) {c : Int} (h7 : c ≠ 7) (h6 : c ≠ 6) : dSleep h 16 c = h 16 c := fold16 (fun b g => by
  have e1 : sSl1 b g 16 c = g 16 c := by
    unfold sSl1; split
    · show up1 (g 16) 7 _ c = _; exact up1_ne h7
    · rfl
  unfold sSl; split
  · show up1 (sSl1 b g 16) 6 _ c = _; rw [up1_ne h6, e1]
  · exact e1) R.made.1
theorem eat16 {h : HV} : dEat h 16 5 = h 16 5 + (nThere h - nEat h (nThere h) (h 0 6)) := by
  rfl
theorem nEat_r {K : Int} {h : HV} (R : RG K h) {p t : Int} (p0 : 0 ≤ p) : 0 ≤ nEat h p t ∧ nEat h p t ≤ p := by
  have a := eatE_le (f := h 12) (t := t) (p := p) (n := 30)
  have b := eatE_ge (f := h 12) (t := t) (p := p) (n := 30) p0 (by decide) fun s x y => (R.fre x y).1
  have d := R.dry
  unfold nEat eatD; split <;> omega
theorem hung_pass {K : Int} {h : HV} (R : RG K h) : h 16 5 ≤ dPass h 16 5 ∧ dPass h 16 5 ≤ h 16 5 + 720 := by
  have a := RS_begin R
  have b : ∃ g K', RG K' g ∧ g 16 5 = h 16 5 ∧ dPass h = dEnd g := by
    unfold dPass; split
    · exact ⟨_, _, (RS_fly a.1).1, by rw [fly16 a.1 (by decide) (by decide) (by decide) (by decide), begin16 R (by decide) (by decide) (by decide)], rfl⟩
    · exact ⟨_, _, a.1, begin16 R (by decide) (by decide) (by decide), rfl⟩
  obtain ⟨g, K', Rg, e1, e2⟩ := b
  have c := nThere_r Rg
  have d := nEat_r Rg (p := nThere g) (t := g 0 6) c.1
  rw [e2, ← e1]
  show g 16 5 ≤ dSleep (dEat g) 16 5 ∧ dSleep (dEat g) 16 5 ≤ g 16 5 + 720
  rw [sleep16 (RS_eat Rg).1 (by decide) (by decide), eat16]
  omega
theorem srchI_r {g : Int → Int} {no : Int} : ∀ (n : Nat) (k l : Int), srch g no n k l = no ∨ (k ≤ srch g no n k l ∧ srch g no n k l < k + n)
  | 0, k, l => Or.inl rfl
  | n + 1, k, l => by
    unfold srch; split
    · rcases srchI_r (g := g) (no := no) n (k + 1) l with q | q
      · exact Or.inl q
      · exact Or.inr (by omega)
    · split
      · exact Or.inr (by omega)
      · rcases srchI_r (g := g) (no := no) n (k + 1) (l - 1) with q | q
        · exact Or.inl q
        · exact Or.inr (by omega)
theorem lRank_r (h : HV) (t r : Int) : lRank h t r = -1000005 ∨ (t - 30 ≤ lRank h t r ∧ lRank h t r < t) := by
  rcases srchI_r (g := fun d => h 12 (d % 30)) (no := -1000005) 30 (t - 30) r with q | q
  · exact Or.inl q
  · exact Or.inr ⟨q.1, by have := q.2; show srch _ _ 30 _ _ < t; omega⟩
theorem fuN_r {f : Int → Int} : ∀ (n : Nat) (d b m : Int), fuN f n d b m = b ∨ (d ≤ fuN f n d b m ∧ fuN f n d b m < d + n)
  | 0, d, b, m => Or.inl rfl
  | n + 1, d, b, m => by
    unfold fuN; split
    · rcases fuN_r (f := f) n (d + 1) d (f d) with q | q
      · exact Or.inr (by omega)
      · exact Or.inr (by omega)
    · rcases fuN_r (f := f) n (d + 1) b m with q | q
      · exact Or.inl q
      · exact Or.inr (by omega)
theorem nFull_r {K : Int} {h : HV} (R : RG K h) {f : Int → Int} : nFull h f = -1000005 ∨ (0 ≤ nFull h f ∧ nFull h f < 1000 + 60) := by
  have d := R.day
  rcases fuN_r (f := fbR h f (h 3 7)) (1000 - h 0 6).toNat (h 0 6) (-1000005) 0 with q | q
  · exact Or.inl q
  · exact Or.inr (by unfold nFull; omega)
theorem RG_add {K : Int} {h : HV} (R : RG K h) {a n p : Int} (a0 : 0 ≤ a ∧ a ≤ 899) (n0 : 0 ≤ n ∧ n ≤ 9) (p0 : 0 ≤ p ∧ p ≤ 9) (m1 : h 3 7 < 80) : RG K (hAdd h a n p) := by
  have rm := R.made
  refine ⟨R.1, R.2.1, ?_, fun b b0 b1 => ⟨?_, ?_, ?_, ?_, ?_⟩, R.dry, R.2.2.2.2.2.1, R.siz, R.2.2.2.2.2.2.2.1, R.day, R.cal⟩
  · show 0 ≤ up1 (h 3) 7 (h 3 7 + 1) 7 ∧ up1 (h 3) 7 (h 3 7 + 1) 7 ≤ 80
    rw [up1_same]; omega
  · show 0 ≤ up1 (h 4) (h 3 7) 0 b ∧ up1 (h 4) (h 3 7) 0 b ≤ 4
    unfold up1; split
    · decide
    · exact R.how b0 b1
  · show 0 ≤ up1 (h 5) (h 3 7) a b ∧ up1 (h 5) (h 3 7) a b ≤ 899
    unfold up1; split
    · exact a0
    · exact R.arr b0 b1
  · show 0 ≤ up1 (h 6) (h 3 7) n b ∧ up1 (h 6) (h 3 7) n b ≤ 9
    unfold up1; split
    · exact n0
    · exact R.nig b0 b1
  · show 0 ≤ up1 (h 7) (h 3 7) p b ∧ up1 (h 7) (h 3 7) p b ≤ 9
    unfold up1; split
    · exact p0
    · exact R.per b0 b1
  · show -1 ≤ up1 (h 10) (h 3 7) (-1) b ∧ up1 (h 10) (h 3 7) (-1) b ≤ 1060
    unfold up1; split
    · decide
    · exact R.cam b0 b1
theorem bErr_0 {h : HV} {a n p : Int} (e : bErr h a n p = 0) : (h 0 6 ≤ a ∧ a ≤ 899) ∧ (1 ≤ n ∧ n ≤ 9) ∧ (1 ≤ p ∧ p ≤ 9) ∧ hasB h a n p ∧ h 3 7 < 80 := by
  unfold bErr at e
  by_cases c1 : a < h 0 6 ∨ 899 < a ∨ ¬ (1 ≤ n ∧ n ≤ 9 ∧ 1 ≤ p ∧ p ≤ 9)
  · rw [if_pos c1] at e; omega
  · rw [if_neg c1] at e
    by_cases c2 : ¬ hasB h a n p
    · rw [if_pos c2] at e; omega
    · rw [if_neg c2] at e
      by_cases c3 : 80 ≤ h 3 7
      · rw [if_pos c3] at e; omega
      · exact ⟨by omega, by omega, by omega, Decidable.not_not.mp c2, by omega⟩
theorem bErr_r {h : HV} {a n p : Int} : bErr h a n p = 0 ∨ (-1000004 ≤ bErr h a n p ∧ bErr h a n p ≤ -1000002) := by
  unfold bErr; split
  · omega
  · split
    · omega
    · split <;> omega
theorem xErr_r {h : HV} {b : Int} : xErr h b = 0 ∨ (-1000004 ≤ xErr h b ∧ xErr h b ≤ -1000001) := by
  unfold xErr; split
  · omega
  · split <;> omega
theorem xErr_0 {h : HV} {b : Int} (e : xErr h b = 0) : (0 ≤ b ∧ b < h 3 7) ∧ h 4 b = 0 := by
  unfold xErr at e
  by_cases c1 : ¬ (0 ≤ b ∧ b < h 3 7)
  · rw [if_pos c1] at e; omega
  · rw [if_neg c1] at e
    by_cases c2 : h 4 b = 0
    · exact ⟨by omega, c2⟩
    · rw [if_neg c2] at e; omega
theorem nOther_r {h : HV} {x y w : Int} (x0 : 0 ≤ x) (xy : x ≤ y) (y1 : y ≤ 999) : 0 ≤ nOther h x y w ∧ nOther h x y w ≤ 1000 := by
  have := sumI_le (f := fun q => wOther h w (x + q)) (lo := 0) (hi := 1) (i := y + 1 - x) (by omega) fun k a b => by
    show 0 ≤ (if wOf h (x + k) = w then 0 else 1) ∧ (if wOf h (x + k) = w then (0 : Int) else 1) ≤ 1
    split <;> decide
  unfold nOther; omega
theorem nMost_r {K : Int} {h : HV} (R : RG K h) {f : Int → Int} : 0 ≤ nMost h f ∧ nMost h f ≤ 720 := by
  unfold nMost; split
  · decide
  · exact nBeds_r R
theorem stV_r {k : Int} (h0 : 0 ≤ k) (h1 : k < 10) : (0 ≤ stV 1 k.toNat ∧ stV 1 k.toNat ≤ 999) ∧ (0 ≤ stV 2 k.toNat ∧ stV 2 k.toNat ≤ 999) := by
  have q : k = 0 ∨ k = 1 ∨ k = 2 ∨ k = 3 ∨ k = 4 ∨ k = 5 ∨ k = 6 ∨ k = 7 ∨ k = 8 ∨ k = 9 := by omega
  rcases q with rfl | rfl | rfl | rfl | rfl | rfl | rfl | rfl | rfl | rfl <;> decide
theorem SG_row {h t : HV} (S : SG t) : SG (tRow h t) := S
abbrev trial (hs : Nat → HV) : HV := hCp (hs 1) (hs 0)
theorem rT_4 {t : HV} {c : Nat} {i : Int} (hc : 4 ≤ c) : rT t c i = t c i := by
  unfold rT; rw [upr_ne (by omega)]; unfold hT1; split
  · unfold hDrop; repeat rw [upr_ne (by omega)]
  · rfl
theorem trial_16 {hs : Nat → HV} {c : Int} (a : 0 ≤ c) (b : c < 9) : trial hs 16 c = hs 0 16 c := by
  show cpI (hs 0 16) (hCp1 (hs 1) (hs 0) 16) 9 c = _
  unfold cpI; rw [if_pos ⟨a, b⟩]
def xGrowOp (hs : Nat → HV) (tp : HV) (c n : Int) : OP := if n < 1 ∨ 60 < n then (-1000002, hs, tp) else (xGrow (hs 0) (hs 1) c n, putH hs 1 (passI (trial hs) n), tp)
def xHungOp (hs : Nat → HV) (tp : HV) : OP := ((xHungry (hs 0) (hs 1)).1, putH hs 1 (xHungry (hs 0) (hs 1)).2, tp)
def xGoneOp (hs : Nat → HV) (tp : HV) (b : Int) : OP := if ¬ (0 ≤ b ∧ b < hs 0 3 7) then (-1000001, hs, tp) else if ¬ gHold (hs 0) b then (-1000004, hs, tp) else ((xGone (hs 0) (hs 1) b).1, putH hs 1 (xGone (hs 0) (hs 1) b).2, tp)
def xBestOp (hs : Nat → HV) (tp : HV) : OP := if hs 0 0 7 ≠ 0 then (-1000005, hs, tp) else ((xBest (hs 0) (hs 1)).1, putH hs 1 (xBest (hs 0) (hs 1)).2, tp)
def xFirstOp (hs : Nat → HV) (tp : HV) (n p : Int) : OP := if ¬ (1 ≤ n ∧ n ≤ 9 ∧ 1 ≤ p ∧ p ≤ 9) then (-1000002, hs, tp) else (xFirst (hs 0) (tp 1) n p, hs, tRow (hs 0) tp)
theorem srN_t {p : HV → Bool} {n : Nat} {d : Int} {g : HV} (q : p (dPass g) = true) : srN p (n + 1) d g = (d, dPass g) := if_pos q
theorem srN_f {p : HV → Bool} {n : Nat} {d : Int} {g : HV} (q : ¬ p (dPass g) = true) : srN p (n + 1) d g = srN p n (d + 1) (dPass g) := if_neg q
theorem frN_t {f : Int → Int} {e n p : Int} {k : Nat} {d r : Int} (q : (if f d + p ≤ e then r + 1 else 0) = n) : frN f e n p (k + 1) d r = d - n + 1 := if_pos q
theorem frN_f {f : Int → Int} {e n p : Int} {k : Nat} {d r : Int} (q : ¬ (if f d + p ≤ e then r + 1 else 0) = n) : frN f e n p (k + 1) d r = frN f e n p k (d + 1) (if f d + p ≤ e then r + 1 else 0) := if_neg q
theorem bcN_x {n : Nat} {a : Int} {g : HV} {b m s : Int} (q : ¬ s ≤ 30) : bcN n a g b m s = (b, g) := by
  cases n with
  | zero => rfl
  | succ n => exact if_neg q
theorem bcN_w {n : Nat} {a : Int} {g : HV} {b m s : Int} (q : s ≤ 30) (w : windy (dBegin g)) : bcN (n + 1) a g b m s = bcN n (a + 1) (dEnd (dBegin g)) b m s := by
  show (if s ≤ 30 then (if windy (dBegin g) then _ else _) else _) = _; rw [if_pos q, if_pos w]
theorem bcN_m {n : Nat} {a : Int} {g : HV} {b m s : Int} (q : s ≤ 30) (w : ¬ windy (dBegin g)) (c : m < (dFill (dBegin g) 0).2) : bcN (n + 1) a g b m s = bcN n (a + 1) (dEnd (dBegin g)) s (dFill (dBegin g) 0).2 (a + 1) := by
  show (if s ≤ 30 then (if windy (dBegin g) then _ else (if m < (dFill (dBegin g) 0).2 then _ else _)) else _) = _; rw [if_pos q, if_neg w, if_pos c]
theorem bcN_n {n : Nat} {a : Int} {g : HV} {b m s : Int} (q : s ≤ 30) (w : ¬ windy (dBegin g)) (c : ¬ m < (dFill (dBegin g) 0).2) : bcN (n + 1) a g b m s = bcN n (a + 1) (dEnd (dBegin g)) b m (a + 1) := by
  show (if s ≤ 30 then (if windy (dBegin g) then _ else (if m < (dFill (dBegin g) 0).2 then _ else _)) else _) = _; rw [if_pos q, if_neg w, if_neg c]
theorem baN_t {t : HV} {n : Nat} {i : Int} {g : HV} (q : bErr g (t 6 i) (t 7 i) (t 8 i) = 0) : baN t (n + 1) i g = baN t n (i + 1) (hAdd g (t 6 i) (t 7 i) (t 8 i)) := if_pos q
theorem baN_f {t : HV} {n : Nat} {i : Int} {g : HV} (q : ¬ bErr g (t 6 i) (t 7 i) (t 8 i) = 0) : baN t (n + 1) i g = (bErr g (t 6 i) (t 7 i) (t 8 i), g) := if_neg q
theorem dFill0' {K : Int} {h : HV} (R : RG K h) : (dFill h 0).1 = h := dFill0 R.made.1
theorem RG_beg_end {K : Int} {h : HV} (R : RG K h) (hd : h 0 6 ≤ 1059) : RG (K + 149) (dEnd (dBegin h)) ∧ dEnd (dBegin h) 0 6 = h 0 6 + 1 := by
  have a := RS_begin R
  have b := RG_end a.1 (by rw [a.2.2.2.2.2.2.2]; exact hd)
  exact ⟨b.1.mono (by omega), by rw [b.2.2.2.2.2.2.2, a.2.2.2.2.2.2.2]⟩
theorem SG_ff {t : HV} (S : SG t) : SG (ff t).2 := by
  have a : (ff t).2 2 = t 2 := ffN_rows _ _ (by decide)
  have b : (ff t).2 3 = t 3 := ffN_rows _ _ (by decide)
  unfold SG; rw [a, b]; exact S
theorem ffN_r : ∀ (n : Nat) (i : Int) {t : HV}, 0 ≤ i → i + n = t 4 1 → (ffN n i t).1 = -1000005 ∨ (0 ≤ (ffN n i t).1 ∧ (ffN n i t).1 ≤ t 4 1)
  | 0, i, t, i0, e => by
    show (if t 4 6 = 5 then (-1000005 : Int) else t 4 1) = -1000005 ∨ (0 ≤ (if t 4 6 = 5 then (-1000005 : Int) else t 4 1) ∧ (if t 4 6 = 5 then (-1000005 : Int) else t 4 1) ≤ t 4 1)
    split <;> omega
  | n + 1, i, t, i0, e => by
    unfold ffN; split
    · have a := xA_len (t := t) (c := t 5 i)
      have b := ffN_r n (i + 1) (t := xA t (t 5 i)) (by omega) (by rw [a.1]; omega)
      rw [a.1] at b
      exact b
    · exact Or.inr (by dsimp only; omega)
theorem ff_r {t : HV} (T : TG t) : (ff t).1 = -1000005 ∨ (0 ≤ (ff t).1 ∧ (ff t).1 ≤ 60) := by
  have a := T.1
  have b := ffN_r (t 4 1).toNat 0 (t := ff0 t) (Int.le_refl 0) (by show _ = t 4 1; omega)
  have e : ff0 t 4 1 = t 4 1 := rfl
  rw [e] at b
  rcases b with q | q
  · exact Or.inl q
  · exact Or.inr ⟨q.1, Int.le_trans q.2 a.2⟩
