/-! WHAT A HUT's METHODS DO TO ITS NUMBERS, and that they keep to their bounds -/
theorem RG.w0 {K : Int} {h : HV} (R : RG K h) {k v : Int} (n6 : (6 : Int) ≠ k) (n7 : (7 : Int) ≠ k) : RG K (upr h 0 (up1 (h 0) k v)) :=
  ⟨R.1, R.2.1, R.2.2.1, R.2.2.2.1, R.2.2.2.2.1, R.2.2.2.2.2.1, R.2.2.2.2.2.2.1, R.2.2.2.2.2.2.2.1, by
    show 0 ≤ up1 (h 0) k v 6 ∧ up1 (h 0) k v 6 ≤ 1060
    rw [up1_ne n6]; exact R.day, by
    show up1 (h 0) k v 7 = 0 ∨ up1 (h 0) k v 7 = 1
    rw [up1_ne n7]; exact R.cal⟩
theorem RG.w06 {K : Int} {h : HV} (R : RG K h) {v : Int} (v0 : 0 ≤ v) (v1 : v ≤ 1060) : RG K (upr h 0 (up1 (h 0) 6 v)) :=
  ⟨R.1, R.2.1, R.2.2.1, R.2.2.2.1, R.2.2.2.2.1, R.2.2.2.2.2.1, R.2.2.2.2.2.2.1, R.2.2.2.2.2.2.2.1, by
    show 0 ≤ up1 (h 0) 6 v 6 ∧ up1 (h 0) 6 v 6 ≤ 1060
    rw [up1_same]; exact ⟨v0, v1⟩, by
    show up1 (h 0) 6 v 7 = 0 ∨ up1 (h 0) 6 v 7 = 1
    rw [up1_ne (by decide)]; exact R.cal⟩
theorem RG.w07 {K : Int} {h : HV} (R : RG K h) {v : Int} (v0 : v = 0 ∨ v = 1) : RG K (upr h 0 (up1 (h 0) 7 v)) :=
  ⟨R.1, R.2.1, R.2.2.1, R.2.2.2.1, R.2.2.2.2.1, R.2.2.2.2.2.1, R.2.2.2.2.2.2.1, R.2.2.2.2.2.2.2.1, by
    show 0 ≤ up1 (h 0) 7 v 6 ∧ up1 (h 0) 7 v 6 ≤ 1060
    rw [up1_ne (by decide)]; exact R.day, by
    show up1 (h 0) 7 v 7 = 0 ∨ up1 (h 0) 7 v 7 = 1
    rw [up1_same]; exact v0⟩
theorem RG.w4 {K : Int} {h : HV} (R : RG K h) {k v : Int} (v0 : 0 ≤ v ∧ v ≤ 4) : RG K (upr h 4 (up1 (h 4) k v)) :=
  ⟨R.1, R.2.1, R.2.2.1, fun b b0 b1 => ⟨by
    show 0 ≤ up1 (h 4) k v b ∧ up1 (h 4) k v b ≤ 4
    unfold up1; split
    · exact v0
    · exact R.how b0 b1, (R.2.2.2.1 b b0 b1).2⟩, R.2.2.2.2.1, R.2.2.2.2.2.1, R.2.2.2.2.2.2.1, R.2.2.2.2.2.2.2.1, R.day, R.cal⟩
theorem RG.w6 {K : Int} {h : HV} (R : RG K h) {k v : Int} (v0 : 0 ≤ v ∧ v ≤ 9) : RG K (upr h 6 (up1 (h 6) k v)) :=
  ⟨R.1, R.2.1, R.2.2.1, fun b b0 b1 => ⟨R.how b0 b1, R.arr b0 b1, by
    show 0 ≤ up1 (h 6) k v b ∧ up1 (h 6) k v b ≤ 9
    unfold up1; split
    · exact v0
    · exact R.nig b0 b1, R.per b0 b1, R.cam b0 b1⟩, R.2.2.2.2.1, R.2.2.2.2.2.1, R.2.2.2.2.2.2.1, R.2.2.2.2.2.2.2.1, R.day, R.cal⟩
theorem RG.w10 {K : Int} {h : HV} (R : RG K h) {k v : Int} (v0 : -1 ≤ v ∧ v ≤ 1060) : RG K (upr h 10 (up1 (h 10) k v)) :=
  ⟨R.1, R.2.1, R.2.2.1, fun b b0 b1 => ⟨R.how b0 b1, R.arr b0 b1, R.nig b0 b1, R.per b0 b1, by
    show -1 ≤ up1 (h 10) k v b ∧ up1 (h 10) k v b ≤ 1060
    unfold up1; split
    · exact v0
    · exact R.cam b0 b1⟩, R.2.2.2.2.1, R.2.2.2.2.2.1, R.2.2.2.2.2.2.1, R.2.2.2.2.2.2.2.1, R.day, R.cal⟩
theorem RG.w8 {K : Int} {h : HV} (R : RG K h) {f : Int → Int} : RG K (upr h 8 f) := R
theorem RG.w9 {K : Int} {h : HV} (R : RG K h) {f : Int → Int} : RG K (upr h 9 f) := R
theorem RG.w16 {K : Int} {h : HV} (R : RG K h) {f : Int → Int} : RG K (upr h 16 f) := R
theorem RG.w12 {K K' : Int} {h : HV} (R : RG K h) (hK : K ≤ K') {f : Int → Int} (hf : ∀ i, 0 ≤ i → i < 30 → 0 ≤ f i ∧ f i ≤ K') : RG K' (upr h 12 f) :=
  ⟨R.1, R.2.1, R.2.2.1, R.2.2.2.1, ⟨R.dry.1, Int.le_trans R.dry.2 hK⟩, hf, R.2.2.2.2.2.2.1, R.2.2.2.2.2.2.2.1, R.day, R.cal⟩
theorem RG.w11 {K K' : Int} {h : HV} (R : RG K h) (hK : K ≤ K') {v : Int} (v0 : 0 ≤ v ∧ v ≤ K') : RG K' (upr h 11 (up1 (h 11) 1 v)) :=
  ⟨R.1, R.2.1, R.2.2.1, R.2.2.2.1, by
    show 0 ≤ up1 (h 11) 1 v 1 ∧ up1 (h 11) 1 v 1 ≤ K'
    rw [up1_same]; exact v0, fun i a b => ⟨(R.fre a b).1, Int.le_trans (R.fre a b).2 hK⟩, R.2.2.2.2.2.2.1, R.2.2.2.2.2.2.2.1, R.day, R.cal⟩
theorem RG.mono {K K' : Int} {h : HV} (R : RG K h) (hK : K ≤ K') : RG K' h :=
  ⟨R.1, R.2.1, R.2.2.1, R.2.2.2.1, ⟨R.dry.1, Int.le_trans R.dry.2 hK⟩, fun i a b => ⟨(R.fre a b).1, Int.le_trans (R.fre a b).2 hK⟩, R.2.2.2.2.2.2.1, R.2.2.2.2.2.2.2.1, R.day, R.cal⟩
theorem RG.w13 {K : Int} {h : HV} (R : RG K h) {v : Int} (v0 : 0 ≤ v ∧ v ≤ 12) : RG K (upr h 13 (up1 (h 13) 2 v)) :=
  ⟨R.1, R.2.1, R.2.2.1, R.2.2.2.1, R.dry, R.2.2.2.2.2.1, by
    show 0 ≤ up1 (h 13) 2 v 2 ∧ up1 (h 13) 2 v 2 ≤ 12
    rw [up1_same]; exact v0, R.2.2.2.2.2.2.2.1, R.day, R.cal⟩
theorem RG.w14 {K : Int} {h : HV} (R : RG K h) {f : Int → Int} (hf : ∀ i, 0 ≤ i → i < 12 → 0 ≤ f i ∧ f i ≤ 1) : RG K (upr h 14 f) :=
  ⟨R.1, R.2.1, R.2.2.1, R.2.2.2.1, R.dry, R.2.2.2.2.2.1, R.siz, fun i a b => ⟨hf i a b, R.por a b⟩, R.day, R.cal⟩
theorem RG.w15 {K : Int} {h : HV} (R : RG K h) {f : Int → Int} (hf : ∀ i, 0 ≤ i → i < 12 → 0 ≤ f i ∧ f i ≤ 99) : RG K (upr h 15 f) :=
  ⟨R.1, R.2.1, R.2.2.1, R.2.2.2.1, R.dry, R.2.2.2.2.2.1, R.siz, fun i a b => ⟨R.kin a b, hf i a b⟩, R.day, R.cal⟩
theorem RG.w2 {K : Int} {h : HV} (R : RG K h) {f : Int → Int} (hf : ∀ i, 0 ≤ i → i < 1000 → 0 ≤ f i ∧ f i ≤ 7) : RG K (upr h 2 f) :=
  ⟨R.1, hf, R.2.2.1, R.2.2.2.1, R.dry, R.2.2.2.2.2.1, R.siz, R.2.2.2.2.2.2.2.1, R.day, R.cal⟩
/-! the weather -/
def wOf (h : HV) (d : Int) : Int := if d < 0 ∨ 999 < d then 0 else h 2 d
theorem wOf_r {K : Int} {h : HV} (R : RG K h) (d : Int) : 0 ≤ wOf h d ∧ wOf h d ≤ 7 := by
  unfold wOf; split
  · omega
  · exact R.wea (by omega) (by omega)
theorem and_1 {w : Int} (hw : 0 ≤ w ∧ w ≤ 7) : Int32.ofInt w &&& Int32.ofInt 1 = Int32.ofInt (w % 2) := by
  have k : w = 0 ∨ w = 1 ∨ w = 2 ∨ w = 3 ∨ w = 4 ∨ w = 5 ∨ w = 6 ∨ w = 7 := by omega
  rcases k with rfl | rfl | rfl | rfl | rfl | rfl | rfl | rfl <;> decide
theorem and_2 {w : Int} (hw : 0 ≤ w ∧ w ≤ 7) : Int32.ofInt w &&& Int32.ofInt 2 = Int32.ofInt (w / 2 % 2 * 2) := by
  have k : w = 0 ∨ w = 1 ∨ w = 2 ∨ w = 3 ∨ w = 4 ∨ w = 5 ∨ w = 6 ∨ w = 7 := by omega
  rcases k with rfl | rfl | rfl | rfl | rfl | rfl | rfl | rfl <;> decide
theorem and_4 {w : Int} (hw : 0 ≤ w ∧ w ≤ 7) : Int32.ofInt w &&& Int32.ofInt 4 = Int32.ofInt (w / 4 * 4) := by
  have k : w = 0 ∨ w = 1 ∨ w = 2 ∨ w = 3 ∨ w = 4 ∨ w = 5 ∨ w = 6 ∨ w = 7 := by omega
  rcases k with rfl | rfl | rfl | rfl | rfl | rfl | rfl | rfl <;> decide
abbrev upO (h : HV) (d : Int) : Prop := wOf h d % 2 = 0
abbrev dnO (h : HV) : Prop := wOf h (h 0 6) / 2 % 2 = 0
abbrev windy (h : HV) : Prop := 4 ≤ wOf h (h 0 6)
abbrev wOther (h : HV) (w : Int) : Int → Int := fun d => if wOf h d = w then 0 else 1
def wSet (f : Int → Int) (x y w : Int) : Int → Int := fun d => if x ≤ d ∧ d < y then w else f d
/-! booking -/
abbrev hasB (h : HV) (a n p : Int) : Prop := allI (fun i => decide (nBeds h (a + i) (a + i) + p ≤ h 1 0)) n = true
def bErr (h : HV) (a n p : Int) : Int := if a < h 0 6 ∨ 899 < a ∨ ¬ (1 ≤ n ∧ n ≤ 9 ∧ 1 ≤ p ∧ p ≤ 9) then -1000002 else if ¬ hasB h a n p then -1000004 else if 80 ≤ h 3 7 then -1000003 else 0
theorem wSet_0 {f : Int → Int} {x w : Int} : wSet f x x w = f := by funext d; unfold wSet; rw [if_neg (by omega)]
theorem wSet_s {f : Int → Int} {x n w : Int} (h : 0 ≤ n) : up1 (wSet f x (x + n) w) (x + n) w = wSet f x (x + (n + 1)) w := by
  funext d
  unfold up1 wSet
  by_cases e : d = x + n
  · rw [if_pos e, if_pos (by omega)]
  · rw [if_neg e]
    by_cases q : x ≤ d ∧ d < x + n
    · rw [if_pos q, if_pos (by omega)]
    · rw [if_neg q, if_neg (by omega)]
abbrev gAdd (h : HV) (a n p d : Int) : HV := upr (upr (upr (upr (upr (upr (upr (upr h 4 (up1 (h 4) (h 3 7) 0)) 5 (up1 (h 5) (h 3 7) a)) 6 (up1 (h 6) (h 3 7) n)) 7 (up1 (h 7) (h 3 7) p)) 8 (up1 (h 8) (h 3 7) 0)) 9 (up1 (h 9) (h 3 7) d)) 10 (up1 (h 10) (h 3 7) (-1))) 3 (up1 (h 3) 7 (h 3 7 + 1))
abbrev hAdd (h : HV) (a n p : Int) : HV := gAdd (upr h 0 (up1 (h 0) 8 (h 0 8 + p * n * h 1 3))) a n p (p * n * h 1 3)
abbrev hRef (h : HV) (b : Int) : Int := if h 1 4 ≤ h 5 b - h 0 6 ∨ ¬ upO h (h 5 b) then h 9 b else 0
abbrev hCan (h : HV) (b : Int) : HV := upr (upr h 4 (up1 (h 4) b 3)) 0 (up1 (up1 (h 0) 8 (h 0 8 - hRef h b)) 9 (h 0 9 + (h 9 b - hRef h b)))
/-! a day -/
def dLv (h : HV) (b : Int) : HV := upr (upr h 0 (up1 (h 0) 8 (h 0 8 + (h 1 2 * h 7 b * (h 5 b + h 6 b - h 10 b) - h 9 b)))) 4 (up1 (h 4) b 2)
def dAw (h : HV) (b : Int) : HV := upr (upr (upr h 4 (up1 (h 4) b 4)) 0 (up1 (h 0) 8 (h 0 8 - h 9 b))) 16 (up1 (h 16) 8 (h 16 8 + h 7 b))
def dIn (h : HV) (b : Int) : HV := upr (upr h 4 (up1 (h 4) b 1)) 10 (up1 (h 10) b (h 0 6))
def sLv (b : Int) (h : HV) : HV := if gOver h b (h 0 6) then dLv h b else h
def sLt (b : Int) (h : HV) : HV := if h 4 b = 0 ∧ h 5 b + h 6 b ≤ h 0 6 then dAw h b else h
def sCm (b : Int) (q : HV × Int) : HV × Int := if q.1 4 b = 0 ∧ q.1 5 b ≤ q.1 0 6 then (if q.2 + q.1 7 b ≤ q.1 1 0 + q.1 1 1 then (dIn q.1 b, q.2 + q.1 7 b) else (dAw q.1 b, q.2)) else q
def sFl (x b : Int) (q : HV × Int) : HV × Int := if gOver q.1 b (q.1 0 6) ∧ q.2 + q.1 7 b ≤ q.1 1 8 then (if x = 0 then q.1 else dLv q.1 b, q.2 + q.1 7 b) else q
def sSl1 (b : Int) (h : HV) : HV := if h 4 b = 1 then upr (upr h 8 (up1 (h 8) b (h 8 b + 1))) 16 (up1 (h 16) 7 (h 16 7 + h 7 b)) else h
def sSl (b : Int) (h : HV) : HV := if gOver (sSl1 b h) b (sSl1 b h 0 6) then upr (sSl1 b h) 16 (up1 (sSl1 b h 16) 6 (sSl1 b h 16 6 + sSl1 b h 7 b)) else sSl1 b h
theorem sLv_t {b : Int} {h : HV} (q : gOver h b (h 0 6)) : sLv b h = dLv h b := if_pos q
theorem sLv_f {b : Int} {h : HV} (q : ¬ gOver h b (h 0 6)) : sLv b h = h := if_neg q
theorem sLt_t {b : Int} {h : HV} (q : h 4 b = 0 ∧ h 5 b + h 6 b ≤ h 0 6) : sLt b h = dAw h b := if_pos q
theorem sLt_f {b : Int} {h : HV} (q : ¬ (h 4 b = 0 ∧ h 5 b + h 6 b ≤ h 0 6)) : sLt b h = h := if_neg q
theorem sCm_n {b : Int} {q : HV × Int} (c : ¬ (q.1 4 b = 0 ∧ q.1 5 b ≤ q.1 0 6)) : sCm b q = q := if_neg c
theorem sCm_i {b : Int} {q : HV × Int} (c : q.1 4 b = 0 ∧ q.1 5 b ≤ q.1 0 6) (d : q.2 + q.1 7 b ≤ q.1 1 0 + q.1 1 1) : sCm b q = (dIn q.1 b, q.2 + q.1 7 b) := by unfold sCm; rw [if_pos c, if_pos d]
theorem sCm_a {b : Int} {q : HV × Int} (c : q.1 4 b = 0 ∧ q.1 5 b ≤ q.1 0 6) (d : ¬ (q.2 + q.1 7 b ≤ q.1 1 0 + q.1 1 1)) : sCm b q = (dAw q.1 b, q.2) := by unfold sCm; rw [if_pos c, if_neg d]
theorem sFl_n {x b : Int} {q : HV × Int} (c : ¬ (gOver q.1 b (q.1 0 6) ∧ q.2 + q.1 7 b ≤ q.1 1 8)) : sFl x b q = q := if_neg c
theorem sFl_0 {x b : Int} {q : HV × Int} (c : gOver q.1 b (q.1 0 6) ∧ q.2 + q.1 7 b ≤ q.1 1 8) (d : x = 0) : sFl x b q = (q.1, q.2 + q.1 7 b) := by unfold sFl; rw [if_pos c, if_pos d]
theorem sFl_1 {x b : Int} {q : HV × Int} (c : gOver q.1 b (q.1 0 6) ∧ q.2 + q.1 7 b ≤ q.1 1 8) (d : x ≠ 0) : sFl x b q = (dLv q.1 b, q.2 + q.1 7 b) := by unfold sFl; rw [if_pos c, if_neg d]
theorem sSl1_t {b : Int} {h : HV} (q : h 4 b = 1) : sSl1 b h = upr (upr h 8 (up1 (h 8) b (h 8 b + 1))) 16 (up1 (h 16) 7 (h 16 7 + h 7 b)) := if_pos q
theorem sSl1_f {b : Int} {h : HV} (q : ¬ h 4 b = 1) : sSl1 b h = h := if_neg q
theorem sSl_t {b : Int} {h g : HV} (e : sSl1 b h = g) (q : gOver g b (g 0 6)) : sSl b h = upr g 16 (up1 (g 16) 6 (g 16 6 + g 7 b)) := by subst e; exact if_pos q
theorem sSl_f {b : Int} {h g : HV} (e : sSl1 b h = g) (q : ¬ gOver g b (g 0 6)) : sSl b h = g := by subst e; exact if_neg q
def dLeave (h : HV) : HV := foldI sLv h (h 3 7)
def dLate (h : HV) : HV := foldI sLt h (h 3 7)
def dCome (h : HV) : HV := (foldI sCm (h, nThere h) (h 3 7)).1
def dFill (h : HV) (x : Int) : HV × Int := foldI (sFl x) (h, 0) (h 3 7)
def dSleep (h : HV) : HV := foldI sSl h (h 3 7)
def sBr (h : HV) (l : Int) : HV := upr (lStore (oTF h l) (h 14 0) (oTak h l) (oTF h l 0 6)) 16 (up1 (lStore (oTF h l) (h 14 0) (oTak h l) (oTF h l 0 6) 16) 2 (lStore (oTF h l) (h 14 0) (oTak h l) (oTF h l 0 6) 16 2 + oTak h l))
def dBr : Nat → HV → Int → HV
  | 0, h, _ => h
  | n + 1, h, l => if 0 < l ∧ 0 < h 13 2 then dBr n (sBr h l) (l - oTak h l) else h
abbrev dBring (h : HV) (m : Int) : HV := dBr 12 h m
def dSpoil (h : HV) : HV := upr (lThr h (h 0 6) (h 1 5)) 16 (up1 (h 16) 4 (h 16 4 + nSp (h 12) (h 0 6) (31 - h 1 5)))
def dBeg1 (h : HV) : HV := dLate (if dnO (dSpoil h) then dLeave (dSpoil h) else dSpoil h)
def dBegin (h : HV) : HV := if upO (dBeg1 h) (dBeg1 h 0 6) then dBring (dCome (dBeg1 h)) (dCome (dBeg1 h) 1 6) else dBeg1 h
def dFly1 (h : HV) : HV := (dFill (dBring h (h 1 7)) 1).1
def dFly (h : HV) : HV := upr (upr (dFly1 h) 16 (up1 (up1 (dFly1 h 16) 1 (dBring h (h 1 7) 16 1 + (dFill (dBring h (h 1 7)) 1).2)) 0 (dFly1 h 16 0 + 1))) 0 (up1 (up1 (up1 (dFly1 h 0) 8 (dFly1 h 0 8 - dFly1 h 1 9)) 10 (dFly1 h 0 10 + dFly1 h 1 9)) 7 0)
def dEat (h : HV) : HV := upr (lEat h (nThere h) (h 0 6)) 16 (up1 (up1 (h 16) 3 (h 16 3 + nEat h (nThere h) (h 0 6))) 5 (h 16 5 + (nThere h - nEat h (nThere h) (h 0 6))))
def dEnd (h : HV) : HV := upr (dSleep (dEat h)) 0 (up1 (dSleep (dEat h) 0) 6 (dSleep (dEat h) 0 6 + 1))
def dPass (h : HV) : HV := dEnd (if dBegin h 0 7 ≠ 0 ∧ ¬ windy (dBegin h) then dFly (dBegin h) else dBegin h)
/-! the bounds are kept, and what else stays: rows 1, 3, 5, 6, 7 and the day -/
def RS (K : Int) (h g : HV) : Prop := RG K g ∧ g 1 = h 1 ∧ g 2 = h 2 ∧ g 3 = h 3 ∧ g 5 = h 5 ∧ g 6 = h 6 ∧ g 7 = h 7 ∧ g 0 6 = h 0 6
theorem RS.of {K : Int} {h : HV} (R : RG K h) : RS K h h := ⟨R, rfl, rfl, rfl, rfl, rfl, rfl, rfl⟩
theorem RS.tr {K K' : Int} {h g f : HV} (a : RS K h g) (b : RS K' g f) : RS K' h f := ⟨b.1, b.2.1.trans a.2.1, b.2.2.1.trans a.2.2.1, b.2.2.2.1.trans a.2.2.2.1, b.2.2.2.2.1.trans a.2.2.2.2.1, b.2.2.2.2.2.1.trans a.2.2.2.2.2.1, b.2.2.2.2.2.2.1.trans a.2.2.2.2.2.2.1, b.2.2.2.2.2.2.2.trans a.2.2.2.2.2.2.2⟩
theorem RS_dLv {K : Int} {h : HV} (R : RG K h) (b : Int) : RS K h (dLv h b) := ⟨(R.w0 (k := 8) (by decide) (by decide)).w4 (by decide), rfl, rfl, rfl, rfl, rfl, rfl, rfl⟩
theorem RS_dAw {K : Int} {h : HV} (R : RG K h) (b : Int) : RS K h (dAw h b) := ⟨((R.w4 (by decide)).w0 (k := 8) (by decide) (by decide)).w16, rfl, rfl, rfl, rfl, rfl, rfl, rfl⟩
theorem RS_dIn {K : Int} {h : HV} (R : RG K h) (b : Int) : RS K h (dIn h b) := ⟨(R.w4 (by decide)).w10 ⟨by have := R.day; omega, R.day.2⟩, rfl, rfl, rfl, rfl, rfl, rfl, rfl⟩
theorem RS_sLv {K : Int} {h : HV} (R : RG K h) (b : Int) : RS K h (sLv b h) := by
  unfold sLv; split
  · exact RS_dLv R b
  · exact RS.of R
theorem RS_sLt {K : Int} {h : HV} (R : RG K h) (b : Int) : RS K h (sLt b h) := by
  unfold sLt; split
  · exact RS_dAw R b
  · exact RS.of R
theorem RS_sCm {K : Int} {q : HV × Int} (R : RG K q.1) (b : Int) : RS K q.1 (sCm b q).1 := by
  unfold sCm; split
  · split
    · exact RS_dIn R b
    · exact RS_dAw R b
  · exact RS.of R
theorem RS_sFl {K : Int} {q : HV × Int} (R : RG K q.1) (x b : Int) : RS K q.1 (sFl x b q).1 := by
  unfold sFl; split
  · show RS K q.1 (if x = 0 then q.1 else dLv q.1 b)
    split
    · exact RS.of R
    · exact RS_dLv R b
  · exact RS.of R
theorem RS_sSl {K : Int} {h : HV} (R : RG K h) (b : Int) : RS K h (sSl b h) := by
  have h1 : RS K h (sSl1 b h) := by
    unfold sSl1; split
    · exact ⟨R, rfl, rfl, rfl, rfl, rfl, rfl, rfl⟩
    · exact RS.of R
  unfold sSl; split
  · exact h1.tr ⟨h1.1.w16, rfl, rfl, rfl, rfl, rfl, rfl, rfl⟩
  · exact h1
theorem RS_fold {K : Int} {h : HV} (R : RG K h) {f : Int → HV → HV} (hf : ∀ b g, RG K g → RS K g (f b g)) {i : Int} (hi : 0 ≤ i) : RS K h (foldI f h i) :=
  foldI_iv hi (fun _ g => RS K h g) (RS.of R) fun k y _ _ hy => hy.tr (hf k y hy.1)
theorem RS_foldp {K : Int} {q : HV × Int} (R : RG K q.1) {f : Int → HV × Int → HV × Int} (hf : ∀ b g, RG K g.1 → RS K g.1 (f b g).1) {i : Int} (hi : 0 ≤ i) : RS K q.1 (foldI f q i).1 :=
  foldI_iv hi (fun _ g => RS K q.1 g.1) (RS.of R) fun k y _ _ hy => hy.tr (hf k y hy.1)
theorem RS_leaveI {K : Int} {h : HV} (R : RG K h) {i : Int} (hi : 0 ≤ i) : RS K h (foldI sLv h i) := RS_fold R (fun b _ r => RS_sLv r b) hi
theorem RS_lateI {K : Int} {h : HV} (R : RG K h) {i : Int} (hi : 0 ≤ i) : RS K h (foldI sLt h i) := RS_fold R (fun b _ r => RS_sLt r b) hi
theorem RS_sleepI {K : Int} {h : HV} (R : RG K h) {i : Int} (hi : 0 ≤ i) : RS K h (foldI sSl h i) := RS_fold R (fun b _ r => RS_sSl r b) hi
theorem RS_comeI {K : Int} {h : HV} (R : RG K h) {i n : Int} (hi : 0 ≤ i) : RS K h (foldI sCm (h, n) i).1 := RS_foldp (q := (h, n)) R (fun b _ r => RS_sCm r b) hi
theorem RS_fillI {K : Int} {h : HV} (R : RG K h) {x i n : Int} (hi : 0 ≤ i) : RS K h (foldI (sFl x) (h, n) i).1 := RS_foldp (q := (h, n)) R (fun b _ r => RS_sFl r x b) hi
theorem RS_leave {K : Int} {h : HV} (R : RG K h) : RS K h (dLeave h) := RS_leaveI R R.made.1
theorem RS_late {K : Int} {h : HV} (R : RG K h) : RS K h (dLate h) := RS_lateI R R.made.1
theorem RS_sleep {K : Int} {h : HV} (R : RG K h) : RS K h (dSleep h) := RS_sleepI R R.made.1
theorem RS_come {K : Int} {h : HV} (R : RG K h) : RS K h (dCome h) := RS_comeI R R.made.1
theorem RS_fill {K : Int} {h : HV} (R : RG K h) {x : Int} : RS K h (dFill h x).1 := RS_fillI R R.made.1
theorem RS_thr {K : Int} {h : HV} (R : RG K h) (t k : Int) : RG K (lThr h t k) := R.w12 (Int.le_refl _) fun i a b => by
  unfold thr; split
  · have := R.dry; omega
  · exact R.fre a b
theorem RS_spoil {K : Int} {h : HV} (R : RG K h) : RS K h (dSpoil h) := ⟨(RS_thr R _ _).w16, rfl, rfl, rfl, rfl, rfl, rfl, rfl⟩
theorem RG_oRF {K : Int} {h : HV} (R : RG K h) (s0 : 1 ≤ h 13 2) : RG K (oRF h) := by
  have rs := R.siz
  refine ((R.w14 (f := shC (h 14) (h 13 2 - 1)) fun i a b => ?_).w15 (f := shC (h 15) (h 13 2 - 1)) fun i a b => ?_).w13 (v := h 13 2 - 1) ⟨by omega, by omega⟩
  · unfold shC; split
    · exact R.kin (by omega) (by omega)
    · exact R.kin a b
  · unfold shC; split
    · exact R.por (by omega) (by omega)
    · exact R.por a b
theorem oTak_r {K : Int} {h : HV} (R : RG K h) {m : Int} (m0 : 0 ≤ m) : 0 ≤ oTak h m ∧ oTak h m ≤ m ∧ oTak h m ≤ h 15 0 := by
  have := R.por (i := 0) (by decide) (by decide)
  unfold oTak; split <;> omega
theorem RS_oTF {K : Int} {h : HV} (R : RG K h) (s0 : 1 ≤ h 13 2) {m : Int} (m0 : 0 ≤ m) : RS K h (oTF h m) := by
  have rp := R.por (i := 0) (by decide) (by decide)
  have rt := oTak_r R m0
  have h1 : RS K h (upr h 15 (up1 (h 15) 0 (h 15 0 - oTak h m))) := ⟨R.w15 fun i a b => by
    unfold up1; split
    · omega
    · exact R.por a b, rfl, rfl, rfl, rfl, rfl, rfl, rfl⟩
  unfold oTF; split
  · exact h1.tr ⟨RG_oRF h1.1 s0, rfl, rfl, rfl, rfl, rfl, rfl, rfl⟩
  · exact h1
theorem RS_store {K : Int} {h : HV} (R : RG K h) {k p t : Int} (p0 : 0 ≤ p) : RS (K + p) h (lStore h k p t) := by
  have rd := R.dry
  unfold lStore; split
  · refine ⟨R.w12 (by omega) fun i a b => ?_, rfl, rfl, rfl, rfl, rfl, rfl, rfl⟩
    have rf := R.fre a b
    have rf2 := R.fre (i := t % 30) (by omega) (by omega)
    unfold up1; split <;> omega
  · exact ⟨R.w11 (by omega) (by omega), rfl, rfl, rfl, rfl, rfl, rfl, rfl⟩
theorem RS_sBr {K : Int} {h : HV} (R : RG K h) (s0 : 1 ≤ h 13 2) {l : Int} (l0 : 0 ≤ l) : RS (K + oTak h l) h (sBr h l) := by
  have a := RS_oTF R s0 l0
  have b := RS_store a.1 (k := h 14 0) (t := oTF h l 0 6) (oTak_r R l0).1
  exact a.tr (b.tr ⟨b.1.w16, rfl, rfl, rfl, rfl, rfl, rfl, rfl⟩)
theorem RS_dBr {K : Int} : ∀ (n : Nat) {h : HV} {l K0 : Int}, RG K0 h → 0 ≤ l → K0 + l ≤ K → RS K h (dBr n h l)
  | 0, h, l, K0, R, l0, hk => RS.of (R.mono (by omega))
  | n + 1, h, l, K0, R, l0, hk => by
    unfold dBr; split
    · have a := RS_sBr R (by omega) l0
      have t := oTak_r R l0
      exact a.tr (RS_dBr n a.1 (by omega) (by omega))
    · exact RS.of (R.mono (by omega))
theorem RS_bring {K : Int} {h : HV} (R : RG K h) {m : Int} (m0 : 0 ≤ m) : RS (K + m) h (dBring h m) := RS_dBr 12 R m0 (Int.le_refl _)
theorem nThere_r {K : Int} {h : HV} (R : RG K h) : 0 ≤ nThere h ∧ nThere h ≤ 720 := by
  have rm := R.made
  have := sumI_le (f := gThere h) (lo := 0) (hi := 9) rm.1 fun k a b => by
    have rp := R.per (b := k) a (by omega)
    unfold gThere; split <;> omega
  unfold nThere; omega
theorem gShared_1 {h : HV} {x b : Int} (q : 0 < gShared h x x b) : gShared h x x b = 1 := by
  unfold gShared at *
  by_cases h1 : h 5 b + h 6 b ≤ x + 1 <;> by_cases h2 : h 5 b < x <;> simp only [h1, h2, if_true, if_false] at q ⊢ <;> omega
theorem gShared_le {h : HV} {x y b : Int} (hxy : y ≤ x + 1000) : gShared h x y b ≤ 1001 := by unfold gShared; split <;> split <;> omega
theorem nBeds_r {K : Int} {h : HV} (R : RG K h) {x : Int} : 0 ≤ nBeds h x x ∧ nBeds h x x ≤ 720 := by
  have rm := R.made
  have := sumI_le (f := gBeds h x x) (lo := 0) (hi := 9) rm.1 fun k a b => by
    have rp := R.per (b := k) a (by omega)
    unfold gBeds; split
    · next q =>
      rw [gShared_1 q.2]; omega
    · omega
  unfold nBeds; omega
theorem RS_eat {K : Int} {h : HV} (R : RG K h) : RS K h (dEat h) := by
  have rt := nThere_r R
  have rd := R.dry
  have hge : ∀ n, 0 ≤ n → 0 ≤ eatE (h 12) (h 0 6) (nThere h) n := fun n a => eatE_ge rt.1 a fun s a b => (R.fre a b).1
  have hle := eatE_le (f := h 12) (t := h 0 6) (p := nThere h) (n := 30)
  have h1 : RG K (upr h 12 (eatR (h 12) (h 0 6) (nThere h) 30)) := R.w12 (Int.le_refl _) fun i a b => by
    have rf := R.fre a b
    unfold eatR; split
    · next q =>
      have q1 := eatE_s (f := h 12) (t := h 0 6) (p := nThere h) (n := (i - h 0 6 - 1) % 30) (by omega) (by rw [show (h 0 6 - 30 + 1 + (i - h 0 6 - 1) % 30) % 30 = i by omega]; exact rf.1)
      rw [show (h 0 6 - 30 + 1 + (i - h 0 6 - 1) % 30) % 30 = i by omega] at q1
      have q2 := eatE_le (f := h 12) (t := h 0 6) (p := nThere h) (n := (i - h 0 6 - 1) % 30)
      split at q1 <;> omega
    · exact rf
  have hg := hge 30 (by decide)
  refine ⟨(h1.w11 (v := h 11 1 - eatD h (nThere h) (h 0 6)) (Int.le_refl _) ?_).w16, rfl, rfl, rfl, rfl, rfl, rfl, rfl⟩
  unfold eatD; split <;> omega
theorem dBr_stop {n : Nat} {h : HV} {l : Int} (q : ¬ (0 < l ∧ 0 < h 13 2)) : dBr n h l = h := by
  cases n with
  | zero => rfl
  | succ n => exact if_neg q
theorem dBr_go {n : Nat} {h : HV} {l : Int} (q : 0 < l ∧ 0 < h 13 2) : dBr (n + 1) h l = dBr n (sBr h l) (l - oTak h l) := if_pos q
theorem come_r {K : Int} {h : HV} (R : RG K h) {i : Int} (hi : 0 ≤ i) (hj : i ≤ 80) : 0 ≤ (foldI sCm (h, nThere h) i).2 ∧ (foldI sCm (h, nThere h) i).2 ≤ 720 :=
  (foldI_iv (f := sCm) (x := (h, nThere h)) hi (fun _ (g : HV × Int) => RS K h g.1 ∧ 0 ≤ g.2 ∧ g.2 ≤ 720) ⟨RS.of R, nThere_r R⟩ fun k y a b hy => by
    refine ⟨hy.1.tr (RS_sCm hy.1.1 k), ?_⟩
    have rp := hy.1.1.per (b := k) a (by omega)
    have r0 := hy.1.1.set (i := 0) (by decide) (by decide)
    have r1 := hy.1.1.set (i := 1) (by decide) (by decide)
    simp [stV] at r0 r1
    unfold sCm; split
    · split
      · dsimp only; omega
      · exact hy.2
    · exact hy.2).2
theorem fill_r {K : Int} {h : HV} (R : RG K h) {x i : Int} (hi : 0 ≤ i) (hj : i ≤ 80) : 0 ≤ (foldI (sFl x) (h, 0) i).2 ∧ (foldI (sFl x) (h, 0) i).2 ≤ 999 :=
  (foldI_iv (f := sFl x) (x := (h, 0)) hi (fun _ (g : HV × Int) => RS K h g.1 ∧ 0 ≤ g.2 ∧ g.2 ≤ 999) ⟨RS.of R, by show (0 : Int) ≤ 0 ∧ (0 : Int) ≤ 999; decide⟩ fun k y a b hy => by
    refine ⟨hy.1.tr (RS_sFl hy.1.1 x k), ?_⟩
    have rp := hy.1.1.per (b := k) a (by omega)
    have r0 := hy.1.1.set' (i := 8) (by decide) (by decide)
    unfold sFl; split
    · dsimp only; omega
    · exact hy.2).2
theorem dFill0 {h : HV} {i : Int} (hi : 0 ≤ i) : (foldI (sFl 0) (h, 0) i).1 = h :=
  foldI_iv (f := sFl 0) (x := (h, (0 : Int))) hi (fun _ (g : HV × Int) => g.1 = h) rfl fun k y _ _ hy => by
    unfold sFl; split
    · exact hy
    · exact hy
theorem RS_beg1 {K : Int} {h : HV} (R : RG K h) : RS K h (dBeg1 h) := by
  have a := RS_spoil R
  unfold dBeg1
  split
  · exact a.tr ((RS_leave a.1).tr (RS_late (RS_leave a.1).1))
  · exact a.tr (RS_late a.1)
theorem RS.mono {K K' : Int} {h g : HV} (a : RS K h g) (hk : K ≤ K') : RS K' h g := ⟨a.1.mono hk, a.2⟩
theorem set_50 {K : Int} {h : HV} (R : RG K h) : (0 ≤ h 1 6 ∧ h 1 6 ≤ 50) ∧ (0 ≤ h 1 7 ∧ h 1 7 ≤ 99) ∧ (0 ≤ h 1 8 ∧ h 1 8 ≤ 20) ∧ (1 ≤ h 1 5 ∧ h 1 5 ≤ 30) ∧ (1 ≤ h 1 0 ∧ h 1 0 ≤ 40) ∧ (0 ≤ h 1 1 ∧ h 1 1 ≤ 20) := by
  have r6 := R.set (i := 6) (by decide) (by decide)
  have r7 := R.set (i := 7) (by decide) (by decide)
  have r8 := R.set (i := 8) (by decide) (by decide)
  have r5 := R.set (i := 5) (by decide) (by decide)
  have r0 := R.set (i := 0) (by decide) (by decide)
  have r1 := R.set (i := 1) (by decide) (by decide)
  simp [stV] at r6 r7 r8 r5 r0 r1
  omega
theorem RS_begin {K : Int} {h : HV} (R : RG K h) : RS (K + 50) h (dBegin h) := by
  have a := RS_beg1 R
  unfold dBegin
  split
  · have b := RS_come a.1
    have s := set_50 b.1
    have c := RS_bring b.1 s.1.1
    exact a.tr (b.tr (c.mono (by omega)))
  · exact a.mono (by omega)
theorem RS_fly {K : Int} {h : HV} (R : RG K h) : RS (K + 99) h (dFly h) := by
  have s := set_50 R
  have a := RS_bring R s.2.1.1
  have b := RS_fill a.1 (x := 1)
  have ab := (a.tr b).mono (show K + h 1 7 ≤ K + 99 by omega)
  have r1 : RG (K + 99) (dFly1 h) := ab.1
  exact ⟨(((r1.w16).w0 (k := 8) (v := dFly1 h 0 8 - dFly1 h 1 9) (by decide) (by decide)).w0 (k := 10) (v := dFly1 h 0 10 + dFly1 h 1 9) (by decide) (by decide)).w07 (v := 0) (Or.inl rfl) |> fun q => by
    have e : dFly h = upr (upr (upr (upr (dFly1 h) 16 (up1 (up1 (dFly1 h 16) 1 (dBring h (h 1 7) 16 1 + (dFill (dBring h (h 1 7)) 1).2)) 0 (dFly1 h 16 0 + 1))) 0 (up1 (dFly1 h 0) 8 (dFly1 h 0 8 - dFly1 h 1 9))) 0 (up1 (up1 (dFly1 h 0) 8 (dFly1 h 0 8 - dFly1 h 1 9)) 10 (dFly1 h 0 10 + dFly1 h 1 9))) 0 (up1 (up1 (up1 (dFly1 h 0) 8 (dFly1 h 0 8 - dFly1 h 1 9)) 10 (dFly1 h 0 10 + dFly1 h 1 9)) 7 0) := by
      rw [upr_upr, upr_upr]; rfl
    rw [e]; exact q, ab.2.1, ab.2.2.1, ab.2.2.2.1, ab.2.2.2.2.1, ab.2.2.2.2.2.1, ab.2.2.2.2.2.2.1, ab.2.2.2.2.2.2.2⟩
theorem RG_end {K : Int} {h : HV} (R : RG K h) (hd : h 0 6 ≤ 1059) : RG K (dEnd h) ∧ dEnd h 1 = h 1 ∧ dEnd h 2 = h 2 ∧ dEnd h 3 = h 3 ∧ dEnd h 5 = h 5 ∧ dEnd h 6 = h 6 ∧ dEnd h 7 = h 7 ∧ dEnd h 0 6 = h 0 6 + 1 := by
  have a := RS_eat R
  have b := a.tr (RS_sleep a.1)
  have e : dSleep (dEat h) 0 6 = h 0 6 := b.2.2.2.2.2.2.2
  have rd := R.day
  exact ⟨b.1.w06 (by omega) (by omega), b.2.1, b.2.2.1, b.2.2.2.1, b.2.2.2.2.1, b.2.2.2.2.2.1, b.2.2.2.2.2.2.1, by
    show up1 (dSleep (dEat h) 0) 6 (dSleep (dEat h) 0 6 + 1) 6 = _
    rw [up1_same, e]⟩
theorem RG_pass {K : Int} {h : HV} (R : RG K h) (hd : h 0 6 ≤ 1059) : RG (K + 149) (dPass h) ∧ dPass h 1 = h 1 ∧ dPass h 2 = h 2 ∧ dPass h 3 = h 3 ∧ dPass h 5 = h 5 ∧ dPass h 6 = h 6 ∧ dPass h 7 = h 7 ∧ dPass h 0 6 = h 0 6 + 1 := by
  have a := RS_begin R
  have b : RS (K + 149) h (if dBegin h 0 7 ≠ 0 ∧ ¬ windy (dBegin h) then dFly (dBegin h) else dBegin h) := by
    split
    · exact (a.tr (RS_fly a.1)).mono (by omega)
    · exact a.mono (by omega)
  have c := RG_end b.1 (by rw [b.2.2.2.2.2.2.2]; exact hd)
  unfold dPass
  refine ⟨c.1, c.2.1.trans b.2.1, c.2.2.1.trans b.2.2.1, c.2.2.2.1.trans b.2.2.2.1, c.2.2.2.2.1.trans b.2.2.2.2.1, c.2.2.2.2.2.1.trans b.2.2.2.2.2.1, c.2.2.2.2.2.2.1.trans b.2.2.2.2.2.2.1, ?_⟩
  rw [c.2.2.2.2.2.2.2, b.2.2.2.2.2.2.2]
