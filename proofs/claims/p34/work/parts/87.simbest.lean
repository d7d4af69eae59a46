/-! THE BEST CALL, both sides -/
theorem end16 {K : Int} {h : HV} (R : RG K h) {c : Int} (c0 : c = 0 ∨ c = 1) : dEnd h 16 c = h 16 c := by
  show dSleep (dEat h) 16 c = h 16 c
  rw [sleep16 (RS_eat R).1 (by omega) (by omega)]
  show up1 (up1 (h 16) 3 (h 16 3 + nEat h (nThere h) (h 0 6))) 5 (h 16 5 + (nThere h - nEat h (nThere h) (h 0 6))) c = h 16 c
  rw [up1_ne (by omega), up1_ne (by omega)]
/-- the day's work of an unflown day -/
theorem pass_no {h : HV} (q : h 0 7 = 0 ∨ windy (dBegin h)) : dPass h = dEnd (dBegin h) := by
  unfold dPass
  rw [if_neg]
  intro u
  rcases q with q | q
  · exact u.1 (by rw [begin_7]; exact q)
  · exact u.2 q
theorem no16 {K : Int} {g : HV} (R : RG K g) {c : Int} (c0 : c = 0 ∨ c = 1) : dEnd (dBegin g) 16 c = g 16 c := by
  rw [end16 (RS_begin R).1 c0]
  exact begin16 R (by omega) (by omega) (by omega)
theorem pass_fly {K : Int} {g : HV} (R : RG K g) (e7 : g 0 7 = 1) (q : ¬ windy (dBegin g)) : dPass g 16 0 = g 16 0 + 1 ∧ dPass g 16 1 = g 16 1 + (dFill (dBegin g) 0).2 := by
  have Rb := RS_begin R
  have e1 : dPass g = dEnd (dFly (dBegin g)) := by
    unfold dPass
    rw [if_pos ⟨by rw [begin_7, e7]; decide, q⟩]
  have Rf := RS_fly Rb.1
  have Rg := RS_bring Rb.1 (m := dBegin g 1 7) (set_50 Rb.1).2.1.1
  have b0 : dBegin g 16 0 = g 16 0 := begin16 R (by decide) (by decide) (by decide)
  have b1 : dBegin g 16 1 = g 16 1 := begin16 R (by decide) (by decide) (by decide)
  have e0 : dFly1 (dBegin g) 16 0 = g 16 0 := by
    show (dFill (dBring (dBegin g) (dBegin g 1 7)) 1).1 16 0 = _
    rw [fill16 Rg.1 (by decide)]
    exact (bring16 (by decide) 12 _ _).trans b0
  rw [e1, end16 Rf.1 (Or.inl rfl), end16 Rf.1 (Or.inr rfl)]
  constructor
  · show up1 (up1 (dFly1 (dBegin g) 16) 1 (dBring (dBegin g) (dBegin g 1 7) 16 1 + (dFill (dBring (dBegin g) (dBegin g 1 7)) 1).2)) 0 (dFly1 (dBegin g) 16 0 + 1) 0 = _
    rw [up1_same, e0]
  · show up1 (up1 (dFly1 (dBegin g) 16) 1 (dBring (dBegin g) (dBegin g 1 7) 16 1 + (dFill (dBring (dBegin g) (dBegin g 1 7)) 1).2)) 0 (dFly1 (dBegin g) 16 0 + 1) 1 = _
    rw [up1_ne (by decide), up1_same]
    have eb : dBring (dBegin g) (dBegin g 1 7) 16 1 = g 16 1 := (bring16 (by decide) 12 _ _).trans b1
    have s := Rg.2
    have ef := fill_eq (h := dBegin g) (g := dBring (dBegin g) (dBegin g 1 7)) s.2.2.1 (dBr_4 12 _ _) s.2.2.2.1 s.2.2.2.2.1 s.2.2.2.2.2.1 s.1 s.2.2.2.2.2.2
    rw [eb, ef]
def FF : Nat → HV → Int
  | 0, _ => 0
  | k + 1, g => if windy (dBegin g) then FF k (dEnd (dBegin g)) else (dFill (dBegin g) 0).2
theorem FF_w {k : Nat} {g : HV} (w : windy (dBegin g)) : FF (k + 1) g = FF k (dEnd (dBegin g)) := if_pos w
theorem FF_n {k : Nat} {g : HV} (w : ¬ windy (dBegin g)) : FF (k + 1) g = (dFill (dBegin g) 0).2 := if_neg w
theorem cF_fill {v : Int} {h : HV} : (dFill (cF v h) 0).2 = (dFill h 0).2 := by
  have e := cG_fold (v := v) (f := sFl 0) (q := (h, 0)) (n := h 3 7) fun b q => by
    show _ = if gOver q.1 b (q.1 0 6) ∧ q.2 + q.1 7 b ≤ q.1 1 8 then (if (0 : Int) = 0 then cF v q.1 else dLv (cF v q.1) b, q.2 + q.1 7 b) else cG v q
    unfold sFl
    by_cases c : gOver q.1 b (q.1 0 6) ∧ q.2 + q.1 7 b ≤ q.1 1 8
    · rw [if_pos c, if_pos c, if_pos rfl, if_pos rfl]
    · rw [if_neg c, if_neg c]
  exact (congrArg Prod.snd e).symm
theorem FF_cF {v : Int} : ∀ (k : Nat) (g : HV), FF k (cF v g) = FF k g
  | 0, _ => rfl
  | k + 1, g => by
    by_cases w : windy (dBegin g)
    · rw [FF_w w, FF_w (windy_cF.mpr w), ← cF_begin, ← cF_end, FF_cF k]
    · rw [FF_n w, FF_n (fun u => w (windy_cF.mp u)), ← cF_begin, cF_fill]
def gN (g : HV) : Nat → HV
  | 0 => g
  | n + 1 => dEnd (dBegin (gN g n))
theorem gN_s {g : HV} : ∀ n : Nat, gN (dEnd (dBegin g)) n = gN g (n + 1)
  | 0 => rfl
  | n + 1 => by show dEnd (dBegin (gN (dEnd (dBegin g)) n)) = dEnd (dBegin (gN g (n + 1))); rw [gN_s n]
/-- a flight that is called flies on the first day without too much wind -/
theorem td1 {f n s : Int} : ∀ (k : Nat) (d t : Int) (g : HV) (q : Int → Int), n ≤ d → PS t g q → g 0 7 = 1 → t + k ≤ 1060 → q 5 = f → q 6 = s → mTd f n k d q 6 = s + FF k g
  | 0, d, t, g, q, hn, P, e7, ht, e5, e6 => by show q 6 = s + 0; omega
  | k + 1, d, t, g, q, hn, P, e7, ht, e5, e6 => by
    have T := P.2.2.2.2.1.2.2.2.1
    have e4 : q 4 = 1 := T.2.1.symm.trans e7
    have t0 : g 16 0 = q 5 := T.1 0 (by decide) (by decide)
    have t1 : g 16 1 = q 6 := T.1 1 (by decide) (by decide)
    rw [mTd_go e5, if_pos hn, show up1 q 4 1 = q by rw [← e4]; exact up1_id]
    have Q := P.pass (by omega)
    have T2 := Q.2.2.2.2.1.2.2.2.1
    have u0 : dPass g 16 0 = mPas q 5 := T2.1 0 (by decide) (by decide)
    have u1 : dPass g 16 1 = mPas q 6 := T2.1 1 (by decide) (by decide)
    by_cases w : windy (dBegin g)
    · have ep := pass_no (Or.inr w)
      rw [FF_w w]
      rw [ep] at Q u0 u1
      refine td1 k (d + 1) (t + 1) (dEnd (dBegin g)) (mPas q) (by omega) Q (by rw [end_7, begin_7, e7]) (by omega) ?_ ?_
      · rw [← u0, no16 P.2.2.1 (Or.inl rfl), t0, e5]
      · rw [← u1, no16 P.2.2.1 (Or.inr rfl), t1, e6]
    · have z := pass_fly P.2.2.1 e7 w
      rw [FF_n w, mTd_stop (Or.inr (by rw [← u0, z.1, t0, e5]; omega)), ← u1, z.2, t1, e6]
theorem td0 {f s : Int} {n : Nat} : ∀ (j k : Nat) (d t : Int) (g : HV) (q : Int → Int), d + j = n → j ≤ k → PS t g q → g 0 7 = 0 → t + k ≤ 1060 → q 5 = f → q 6 = s → mTd f n k d q 6 = s + FF (k - j) (gN g j)
  | 0, k, d, t, g, q, hd, hj, P, e7, ht, e5, e6 => by
    have e1 : mTd f n k d q 6 = mTd f n k d (up1 q 4 1) 6 := by
      cases k with
      | zero => exact (up1_ne (f := q) (i := 4) (k := 6) (v := 1) (by decide)).symm
      | succ k =>
        rw [mTd_go e5, mTd_go (show up1 q 4 1 5 = f by rw [up1_ne (by decide)]; exact e5), if_pos (by omega), up1_up1]
    rw [e1]
    have z := td1 (f := f) (n := n) (s := s) k d t (cF 1 g) (up1 q 4 1) (by omega) (P.flight P.1.2 (Or.inr rfl)) cF_7 ht (by rw [up1_ne (by decide)]; exact e5) (by rw [up1_ne (by decide)]; exact e6)
    rw [z, FF_cF]; rfl
  | j + 1, 0, d, t, g, q, hd, hj, P, e7, ht, e5, e6 => by omega
  | j + 1, k + 1, d, t, g, q, hd, hj, P, e7, ht, e5, e6 => by
    have T := P.2.2.2.2.1.2.2.2.1
    have e4 : q 4 = 0 := T.2.1.symm.trans e7
    have t0 : g 16 0 = q 5 := T.1 0 (by decide) (by decide)
    have t1 : g 16 1 = q 6 := T.1 1 (by decide) (by decide)
    rw [mTd_go e5, if_neg (by omega), show up1 q 4 0 = q by rw [← e4]; exact up1_id]
    have Q := P.pass (by omega)
    rw [pass_no (Or.inl e7)] at Q
    have T2 := Q.2.2.2.2.1.2.2.2.1
    have u0 : dEnd (dBegin g) 16 0 = mPas q 5 := T2.1 0 (by decide) (by decide)
    have u1 : dEnd (dBegin g) 16 1 = mPas q 6 := T2.1 1 (by decide) (by decide)
    have z := td0 (f := f) (s := s) (n := n) j k (d + 1) (t + 1) (dEnd (dBegin g)) (mPas q) (by omega) (by omega) Q (by rw [end_7, begin_7, e7]) (by omega) (by rw [← u0, no16 P.2.2.1 (Or.inl rfl), t0, e5]) (by rw [← u1, no16 P.2.2.1 (Or.inr rfl), t1, e6])
    rw [z, gN_s, show k + 1 - (j + 1) = k - j by omega]
abbrev vB (g : HV) (j : Nat) : Int := FF (60 - j) (gN g j)
theorem take_eq {t : Int} {g : HV} {q : Int → Int} (P : PS t g q) (ht : t ≤ 999) (e7 : g 0 7 = 0) {j : Nat} (hj : j ≤ 60) : mTake q j = vB g j := by
  have z := td0 (f := q 5) (s := q 6) (n := j) j 60 0 t g q (by omega) hj P e7 (by omega) rfl rfl
  show mTd (q 5) j 60 0 q 6 - q 6 = _
  rw [z]; show q 6 + FF (60 - j) (gN g j) - q 6 = FF (60 - j) (gN g j); omega
/-- the loop over the days of a call -/
def RB (v : Nat → Int) : Nat → Nat → Int → Int → Int
  | 0, _, b, _ => b
  | k + 1, d, b, m => if m < v d then RB v k (d + 1) d (v d) else RB v k (d + 1) b m
theorem RB_skip {v : Nat → Int} {b m : Int} : ∀ (i k d : Nat), (∀ c, d ≤ c → c < d + i → v c ≤ m) → RB v k d b m = RB v (k - i) (d + i) b m
  | 0, k, d, _ => rfl
  | i + 1, 0, d, _ => by rw [Nat.zero_sub]; rfl
  | i + 1, k + 1, d, h => by
    have e : RB v (k + 1) d b m = RB v k (d + 1) b m := if_neg (by have := h d (Nat.le_refl _) (by omega); omega)
    rw [e, RB_skip i k (d + 1) fun c a z => h c (by omega) (by omega), show k + 1 - (i + 1) = k - i by omega, show d + 1 + i = d + (i + 1) by omega]
theorem mBc_eq {t : Int} {g : HV} (ht : t ≤ 999) (e7 : g 0 7 = 0) : ∀ (k d : Nat) (md : HV) (q : Int → Int) (b m : Int), d + k ≤ 61 → PS t g q →
    (mBc k d md q b m).1 = RB (vB g) k d b m ∧ (∀ c, c ≠ 3 → (mBc k d md q b m).2.1 c = md c) ∧ ∀ i, 0 ≤ i → i < 2739 → (mBc k d md q b m).2.2 i = q i
  | 0, d, md, q, b, m, hd, P => ⟨rfl, fun _ _ => rfl, fun _ _ _ => rfl⟩
  | k + 1, d, md, q, b, m, hd, P => by
    have e := take_eq P ht e7 (j := d) (by omega)
    have P2 : PS t g (mTb md q d) := P.cg fun i i0 i1 => mTb_i i0 i1
    have h1 : ∀ c, c ≠ 3 → mLay md q c = md c := fun c hc => upr_ne hc
    unfold mBc RB
    rw [e]
    by_cases c : m < vB g d
    · rw [if_pos c, if_pos c]
      have z := mBc_eq ht e7 k (d + 1) (mLay md q) (mTb md q d) d (vB g d) (by omega) P2
      exact ⟨z.1, fun i hi => (z.2.1 i hi).trans (h1 i hi), fun i i0 i1 => (z.2.2 i i0 i1).trans (mTb_i i0 i1)⟩
    · rw [if_neg c, if_neg c]
      have z := mBc_eq ht e7 k (d + 1) (mLay md q) (mTb md q d) b m (by omega) P2
      exact ⟨z.1, fun i hi => (z.2.1 i hi).trans (h1 i hi), fun i i0 i1 => (z.2.2 i i0 i1).trans (mTb_i i0 i1)⟩
theorem vB_w {g : HV} {j : Nat} (hj : j < 60) (w : windy (dBegin (gN g j))) : vB g j = vB g (j + 1) := by
  show FF (60 - j) (gN g j) = FF (60 - (j + 1)) (gN g (j + 1))
  rw [show 60 - j = (60 - (j + 1)) + 1 by omega, FF_w w]; rfl
theorem vB_n {g : HV} {j : Nat} (hj : j < 60) (w : ¬ windy (dBegin (gN g j))) : vB g j = (dFill (dBegin (gN g j)) 0).2 := by
  show FF (60 - j) (gN g j) = _
  rw [show 60 - j = (60 - (j + 1)) + 1 by omega, FF_n w]
theorem vB_run {g : HV} {j : Nat} (hj : j ≤ 60) : ∀ (i c : Nat), c + i = j → (∀ x, c ≤ x → x < j → windy (dBegin (gN g x))) → vB g c = vB g j
  | 0, c, e, _ => by rw [← e]; rfl
  | i + 1, c, e, h => by rw [vB_w (by omega) (h c (Nat.le_refl _) (by omega)), vB_run hj i (c + 1) (by omega) fun x a b => h x (by omega) b]
theorem bcN_eq {t0 : Int} {g : HV} (ht : t0 ≤ 999) (e7 : g 0 7 = 0) : ∀ (n j s : Nat) (b m : Int) (q : Int → Int), n + j = 60 → s ≤ j → 0 ≤ m → PS (t0 + j) (gN g j) q → gN g j 0 7 = 0 → (∀ x, s ≤ x → x < j → windy (dBegin (gN g x))) →
    (bcN n j (gN g j) b m s).1 = RB (vB g) (31 - s) s b m ∧ RG 200000 (bcN n j (gN g j) b m s).2
  | 0, j, s, b, m, q, hn, hs, m0, P, f7, hw => by
    refine ⟨?_, P.rg⟩
    have e : j = 60 := by omega
    subst e
    rw [RB_skip (31 - s) (31 - s) s fun c c0 c1 => by
      rw [vB_run (g := g) (j := 60) (Nat.le_refl _) (60 - c) c (by omega) fun x a d => hw x (by omega) d]
      exact m0, Nat.sub_self]
    rfl
  | n + 1, j, s, b, m, q, hn, hs, m0, P, f7, hw => by
    by_cases c : (s : Int) ≤ 30
    · have Q := P.pass (by omega)
      rw [pass_no (Or.inl f7)] at Q
      have Q2 : PS (t0 + ((j + 1 : Nat) : Int)) (gN g (j + 1)) (mPas q) := by rw [show t0 + ((j + 1 : Nat) : Int) = t0 + j + 1 by omega]; exact Q
      have f8 : gN g (j + 1) 0 7 = 0 := by show dEnd (dBegin (gN g j)) 0 7 = 0; rw [end_7, begin_7, f7]
      have ej : ((j : Int) + 1) = ((j + 1 : Nat) : Int) := by omega
      by_cases w : windy (dBegin (gN g j))
      · rw [bcN_w c w, ej]
        exact bcN_eq ht e7 n (j + 1) s b m (mPas q) (by omega) (by omega) m0 Q2 f8 fun x a d => by
          by_cases z : x = j
          · rw [z]; exact w
          · exact hw x a (by omega)
      · have vj := vB_n (by omega) w
        have run : ∀ c, s ≤ c → c < j + 1 → vB g c = (dFill (dBegin (gN g j)) 0).2 := fun c a d => by
          rw [← vj]
          exact vB_run (by omega) (j - c) c (by omega) fun x p r => hw x (by omega) r
        by_cases u : m < (dFill (dBegin (gN g j)) 0).2
        · rw [bcN_m c w u, ej]
          have z := bcN_eq ht e7 n (j + 1) (j + 1) s ((dFill (dBegin (gN g j)) 0).2) (mPas q) (by omega) (Nat.le_refl _) (by omega) Q2 f8 fun x a d => by omega
          refine ⟨z.1.trans ?_, z.2⟩
          have e1 : RB (vB g) (31 - s) s b m = RB (vB g) (30 - s) (s + 1) s (vB g s) := by
            rw [show 31 - s = (30 - s) + 1 by omega]
            exact if_pos (by rw [run s (Nat.le_refl _) (by omega)]; exact u)
          rw [e1, run s (Nat.le_refl _) (by omega), RB_skip (j - s) (30 - s) (s + 1) fun c a d => by rw [run c (by omega) (by omega)]; exact Int.le_refl _, show 30 - s - (j - s) = 31 - (j + 1) by omega, show s + 1 + (j - s) = j + 1 by omega]
        · rw [bcN_n c w u, ej]
          have z := bcN_eq ht e7 n (j + 1) (j + 1) b m (mPas q) (by omega) (Nat.le_refl _) m0 Q2 f8 fun x a d => by omega
          refine ⟨z.1.trans ?_, z.2⟩
          rw [RB_skip (v := vB g) (j + 1 - s) (31 - s) s fun c a d => by rw [run c a (by omega)]; omega, show 31 - s - (j + 1 - s) = 31 - (j + 1) by omega, show s + (j + 1 - s) = j + 1 by omega]
    · rw [bcN_x c, show 31 - s = 0 by omega]
      exact ⟨rfl, P.rg⟩
theorem sim_best {hs : Nat → HV} {tp md : HV} (S : SIM hs tp md) : AG (xBestOp hs tp) (yBest md (md 1)) := by
  obtain ⟨t, t1, P⟩ := S.2.1
  have T := P.2.2.2.2.1.2.2.2.1
  have e4 : hs 0 0 7 = md 1 4 := T.2.1
  have cl := P.2.2.1.cal
  have P1 : PS t (trial hs) (md 1) := P.cp (S.1 1 (by decide))
  unfold xBestOp yBest
  by_cases c : hs 0 0 7 = 0
  · rw [if_neg (not_not_intro c), if_neg (by omega)]
    have f7 : trial hs 0 7 = 0 := (hCp_day (h := hs 1) (g := hs 0)).2.1.trans c
    have z := mBc_eq t1 f7 31 0 md (md 1) (-1000005) 0 (by decide) P1
    have y := bcN_eq t1 f7 60 0 0 (-1000005) 0 (md 1) rfl (Nat.le_refl _) (Int.le_refl _) (by rw [show t + ((0 : Nat) : Int) = t by omega]; exact P1) f7 fun x a b => by omega
    refine ⟨y.1.trans z.1.symm, ?_⟩
    refine S.oth (fun k hk => putH_ne hk) (show RG 200000 (putH hs 1 (xBest (hs 0) (hs 1)).2 1) by rw [putH_same]; exact y.2) ⟨rfl, rfl, rfl, rfl, rfl⟩ S.2.2.2.2.1 ⟨fun i i0 i1 => z.2.2 i i0 i1, z.2.1 2 (by decide), z.2.1 4 (by decide), z.2.1 5 (by decide), ?_, ?_, ?_⟩ ?_
    · exact congrFun (z.2.1 0 (by decide)) 6
    · exact congrFun (z.2.1 0 (by decide)) 7
    · exact congrFun (z.2.1 0 (by decide)) 8
    · have e5 : (mBc 31 (0 : Nat) md (md 1) (-1000005) 0).2.1 0 5 = md 0 5 := congrFun (z.2.1 0 (by decide)) 5
      show 0 ≤ (mBc 31 (0 : Nat) md (md 1) (-1000005) 0).2.1 0 5 ∧ (mBc 31 (0 : Nat) md (md 1) (-1000005) 0).2.1 0 5 ≤ 61
      rw [e5]; exact S.2.2.2.2.2.2.2
  · rw [if_pos c, if_pos (by omega)]; exact S.no rfl
