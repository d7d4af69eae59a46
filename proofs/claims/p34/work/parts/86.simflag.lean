/-! A HUT WITH ITS FLIGHT CALLED OR NOT: but for the flight itself, a day does the same -/
def cF (v : Int) (h : HV) : HV := upr h 0 (up1 (h 0) 7 v)
theorem up1_cm {f : Int → Int} {i j v w : Int} (n : i ≠ j) : up1 (up1 f i v) j w = up1 (up1 f j w) i v := by
  funext k; unfold up1
  by_cases a : k = j
  · by_cases b : k = i
    · omega
    · rw [if_pos a, if_neg b, if_pos a]
  · rw [if_neg a]
    by_cases b : k = i
    · rw [if_pos b, if_pos b]
    · rw [if_neg b, if_neg b, if_neg a]
theorem cF_u {v : Int} {h : HV} {k : Nat} {f : Int → Int} (hk : k ≠ 0) : cF v (upr h k f) = upr (cF v h) k f := by
  unfold cF; rw [upr_ne (Ne.symm hk)]; exact upr_cm hk
theorem cF_u0 {v : Int} {h : HV} {f : Int → Int} : cF v (upr h 0 f) = upr (cF v h) 0 (up1 f 7 v) := by
  unfold cF
  show upr (upr h 0 f) 0 (up1 f 7 v) = upr (upr h 0 (up1 (h 0) 7 v)) 0 (up1 f 7 v)
  rw [upr_upr, upr_upr]
theorem cF_id {v : Int} {h : HV} (e : h 0 7 = v) : cF v h = h := by unfold cF; rw [← e, up1_id, upr_id]
theorem cF_7 {v : Int} {h : HV} : cF v h 0 7 = v := by
  show up1 (h 0) 7 v 7 = v; exact up1_same
theorem cF_dLv {v : Int} {h : HV} {b : Int} : cF v (dLv h b) = dLv (cF v h) b := by
  unfold dLv; rw [cF_u (by decide), cF_u0, up1_cm (by decide)]; rfl
theorem cF_dAw {v : Int} {h : HV} {b : Int} : cF v (dAw h b) = dAw (cF v h) b := by
  unfold dAw; rw [cF_u (by decide), cF_u0, cF_u (by decide), up1_cm (by decide)]; rfl
theorem cF_dIn {v : Int} {h : HV} {b : Int} : cF v (dIn h b) = dIn (cF v h) b := by
  unfold dIn; rw [cF_u (by decide), cF_u (by decide)]; rfl
theorem cF_sLv {v : Int} {h : HV} {b : Int} : cF v (sLv b h) = sLv b (cF v h) := by
  show _ = if gOver h b (h 0 6) then dLv (cF v h) b else cF v h
  unfold sLv
  by_cases q : gOver h b (h 0 6)
  · rw [if_pos q, if_pos q, cF_dLv]
  · rw [if_neg q, if_neg q]
theorem cF_sLt {v : Int} {h : HV} {b : Int} : cF v (sLt b h) = sLt b (cF v h) := by
  show _ = if h 4 b = 0 ∧ h 5 b + h 6 b ≤ h 0 6 then dAw (cF v h) b else cF v h
  unfold sLt
  by_cases q : h 4 b = 0 ∧ h 5 b + h 6 b ≤ h 0 6
  · rw [if_pos q, if_pos q, cF_dAw]
  · rw [if_neg q, if_neg q]
abbrev cG (v : Int) (q : HV × Int) : HV × Int := (cF v q.1, q.2)
theorem cF_sCm {v : Int} {q : HV × Int} {b : Int} : cG v (sCm b q) = sCm b (cG v q) := by
  show _ = if q.1 4 b = 0 ∧ q.1 5 b ≤ q.1 0 6 then (if q.2 + q.1 7 b ≤ q.1 1 0 + q.1 1 1 then (dIn (cF v q.1) b, q.2 + q.1 7 b) else (dAw (cF v q.1) b, q.2)) else cG v q
  unfold sCm
  by_cases c : q.1 4 b = 0 ∧ q.1 5 b ≤ q.1 0 6
  · rw [if_pos c, if_pos c]
    by_cases d : q.2 + q.1 7 b ≤ q.1 1 0 + q.1 1 1
    · rw [if_pos d, if_pos d, ← cF_dIn]
    · rw [if_neg d, if_neg d, ← cF_dAw]
  · rw [if_neg c, if_neg c]
theorem cF_foldN {v : Int} {f : Int → HV → HV} (hf : ∀ b g, cF v (f b g) = f b (cF v g)) {h : HV} : ∀ n : Nat, cF v (foldN f h n) = foldN f (cF v h) n
  | 0 => rfl
  | n + 1 => by show cF v (f n (foldN f h n)) = f n (foldN f (cF v h) n); rw [hf, cF_foldN hf n]
theorem cF_fold {v : Int} {f : Int → HV → HV} (hf : ∀ b g, cF v (f b g) = f b (cF v g)) {h : HV} {n : Int} : cF v (foldI f h n) = foldI f (cF v h) n := cF_foldN hf _
theorem cG_foldN {v : Int} {f : Int → HV × Int → HV × Int} (hf : ∀ b g, cG v (f b g) = f b (cG v g)) {q : HV × Int} : ∀ n : Nat, cG v (foldN f q n) = foldN f (cG v q) n
  | 0 => rfl
  | n + 1 => by show cG v (f n (foldN f q n)) = f n (foldN f (cG v q) n); rw [hf, cG_foldN hf n]
theorem cG_fold {v : Int} {f : Int → HV × Int → HV × Int} (hf : ∀ b g, cG v (f b g) = f b (cG v g)) {q : HV × Int} {n : Int} : cG v (foldI f q n) = foldI f (cG v q) n := cG_foldN hf _
theorem cF_oTF {v : Int} {h : HV} {m : Int} : cF v (oTF h m) = oTF (cF v h) m := by
  show _ = if h 15 0 - oTak h m = 0 then oRF (upr (cF v h) 15 (up1 (h 15) 0 (h 15 0 - oTak h m))) else upr (cF v h) 15 (up1 (h 15) 0 (h 15 0 - oTak h m))
  show cF v (if h 15 0 - oTak h m = 0 then oRF (upr h 15 (up1 (h 15) 0 (h 15 0 - oTak h m))) else upr h 15 (up1 (h 15) 0 (h 15 0 - oTak h m))) = _
  by_cases q : h 15 0 - oTak h m = 0
  · rw [if_pos q, if_pos q]
    unfold oRF
    rw [cF_u (by decide), cF_u (by decide), cF_u (by decide), cF_u (by decide)]; rfl
  · rw [if_neg q, if_neg q, cF_u (by decide)]
theorem cF_lStore {v : Int} {h : HV} {k p t : Int} : cF v (lStore h k p t) = lStore (cF v h) k p t := by
  unfold lStore
  by_cases q : k = 0
  · rw [if_pos q, if_pos q, cF_u (by decide)]; rfl
  · rw [if_neg q, if_neg q, cF_u (by decide)]; rfl
theorem cF_sBr {v : Int} {h : HV} {l : Int} : cF v (sBr h l) = sBr (cF v h) l := by
  have e1 : cF v (lStore (oTF h l) (h 14 0) (oTak h l) (oTF h l 0 6)) = lStore (oTF (cF v h) l) (h 14 0) (oTak h l) (oTF h l 0 6) := by rw [cF_lStore, cF_oTF]
  have e2 : oTF (cF v h) l 0 6 = oTF h l 0 6 := by rw [← cF_oTF]; rfl
  have e3 : sBr (cF v h) l = upr (lStore (oTF (cF v h) l) (h 14 0) (oTak h l) (oTF h l 0 6)) 16 (up1 (lStore (oTF (cF v h) l) (h 14 0) (oTak h l) (oTF h l 0 6) 16) 2 (lStore (oTF (cF v h) l) (h 14 0) (oTak h l) (oTF h l 0 6) 16 2 + oTak h l)) := by
    rw [← e2]; rfl
  rw [e3, ← e1]
  unfold sBr
  rw [cF_u (by decide)]; rfl
theorem cF_dBr {v : Int} : ∀ (n : Nat) (h : HV) (l : Int), cF v (dBr n h l) = dBr n (cF v h) l
  | 0, h, l => rfl
  | n + 1, h, l => by
    show cF v (if 0 < l ∧ 0 < h 13 2 then dBr n (sBr h l) (l - oTak h l) else h) = if 0 < l ∧ 0 < h 13 2 then dBr n (sBr (cF v h) l) (l - oTak h l) else cF v h
    by_cases q : 0 < l ∧ 0 < h 13 2
    · rw [if_pos q, if_pos q, cF_dBr n, cF_sBr]
    · rw [if_neg q, if_neg q]
theorem cF_dSpoil {v : Int} {h : HV} : cF v (dSpoil h) = dSpoil (cF v h) := by
  unfold dSpoil lThr; rw [cF_u (by decide), cF_u (by decide)]; rfl
theorem cF_beg1 {v : Int} {h : HV} : cF v (dBeg1 h) = dBeg1 (cF v h) := by
  unfold dBeg1 dLate
  rw [← cF_dSpoil]
  show cF v (foldI sLt (if dnO (dSpoil h) then dLeave (dSpoil h) else dSpoil h) ((if dnO (dSpoil h) then dLeave (dSpoil h) else dSpoil h) 3 7)) = foldI sLt (if dnO (dSpoil h) then dLeave (cF v (dSpoil h)) else cF v (dSpoil h)) ((if dnO (dSpoil h) then dLeave (cF v (dSpoil h)) else cF v (dSpoil h)) 3 7)
  rw [cF_fold (f := sLt) fun b g => cF_sLt]
  have e : cF v (if dnO (dSpoil h) then dLeave (dSpoil h) else dSpoil h) = if dnO (dSpoil h) then dLeave (cF v (dSpoil h)) else cF v (dSpoil h) := by
    by_cases q : dnO (dSpoil h)
    · rw [if_pos q, if_pos q]
      unfold dLeave
      exact cF_fold (f := sLv) fun b g => cF_sLv
    · rw [if_neg q, if_neg q]
  rw [← e]; rfl
theorem cF_come {v : Int} {h : HV} : cF v (dCome h) = dCome (cF v h) := congrArg Prod.fst (cG_fold (v := v) (f := sCm) (q := (h, nThere h)) (n := h 3 7) fun b g => cF_sCm)
theorem cF_begin {v : Int} {h : HV} : cF v (dBegin h) = dBegin (cF v h) := by
  unfold dBegin
  rw [← cF_beg1]
  show _ = if upO (dBeg1 h) (dBeg1 h 0 6) then dBring (dCome (cF v (dBeg1 h))) (dCome (cF v (dBeg1 h)) 1 6) else cF v (dBeg1 h)
  by_cases q : upO (dBeg1 h) (dBeg1 h 0 6)
  · rw [if_pos q, if_pos q, ← cF_come]
    exact cF_dBr 12 _ _
  · rw [if_neg q, if_neg q]
theorem cF_eat {v : Int} {h : HV} : cF v (dEat h) = dEat (cF v h) := by
  unfold dEat lEat; rw [cF_u (by decide), cF_u (by decide), cF_u (by decide)]; rfl
theorem cF_sSl {v : Int} {h : HV} {b : Int} : cF v (sSl b h) = sSl b (cF v h) := by
  have e1 : cF v (sSl1 b h) = sSl1 b (cF v h) := by
    show _ = if h 4 b = 1 then upr (upr (cF v h) 8 (up1 (h 8) b (h 8 b + 1))) 16 (up1 (h 16) 7 (h 16 7 + h 7 b)) else cF v h
    unfold sSl1
    by_cases q : h 4 b = 1
    · rw [if_pos q, if_pos q, cF_u (by decide), cF_u (by decide)]
    · rw [if_neg q, if_neg q]
  unfold sSl
  rw [← e1]
  show _ = if gOver (sSl1 b h) b (sSl1 b h 0 6) then upr (cF v (sSl1 b h)) 16 (up1 (sSl1 b h 16) 6 (sSl1 b h 16 6 + sSl1 b h 7 b)) else cF v (sSl1 b h)
  by_cases q : gOver (sSl1 b h) b (sSl1 b h 0 6)
  · rw [if_pos q, if_pos q, cF_u (by decide)]
  · rw [if_neg q, if_neg q]
theorem cF_end {v : Int} {h : HV} : cF v (dEnd h) = dEnd (cF v h) := by
  have e : cF v (dSleep (dEat h)) = dSleep (dEat (cF v h)) := by
    rw [← cF_eat]
    unfold dSleep
    exact cF_fold (f := sSl) fun b g => cF_sSl
  unfold dEnd
  rw [← e, cF_u0, up1_cm (by decide)]; rfl
/-- the flag itself stays -/
theorem begin_7 {h : HV} : dBegin h 0 7 = h 0 7 := by
  have e := cF_begin (v := h 0 7) (h := h)
  rw [cF_id rfl] at e
  rw [← e]; exact cF_7
theorem end_7 {h : HV} : dEnd h 0 7 = h 0 7 := by
  have e := cF_end (v := h 0 7) (h := h)
  rw [cF_id rfl] at e
  rw [← e]; exact cF_7
theorem windy_cF {v : Int} {h : HV} : windy (dBegin (cF v h)) ↔ windy (dBegin h) := by
  rw [← cF_begin]; exact Iff.rfl
theorem dBr_4 : ∀ (n : Nat) (h : HV) (l : Int), dBr n h l 4 = h 4
  | 0, h, l => rfl
  | n + 1, h, l => by
    unfold dBr; split
    · exact (dBr_4 n _ _).trans sBr_x.2.1
    · rfl
/-- the seats that a flight fills, whether it flies or would -/
theorem fill_eq {h g : HV} (e3 : g 3 = h 3) (e4 : g 4 = h 4) (e5 : g 5 = h 5) (e6 : g 6 = h 6) (e7 : g 7 = h 7) (e1 : g 1 = h 1) (e0 : g 0 6 = h 0 6) : (dFill g 1).2 = (dFill h 0).2 := by
  unfold dFill
  rw [e3]
  by_cases hn : 0 ≤ h 3 7
  · have key := foldI_iv (f := fun (_ : Int) (_ : Unit) => ()) (x := ()) hn (fun k _ => (foldI (sFl 1) (g, 0) k).2 = (foldI (sFl 0) (h, 0) k).2 ∧ (∀ c, k ≤ c → (foldI (sFl 1) (g, 0) k).1 4 c = h 4 c) ∧ (foldI (sFl 1) (g, 0) k).1 5 = h 5 ∧ (foldI (sFl 1) (g, 0) k).1 6 = h 6 ∧ (foldI (sFl 1) (g, 0) k).1 7 = h 7 ∧ (foldI (sFl 1) (g, 0) k).1 1 = h 1 ∧ (foldI (sFl 1) (g, 0) k).1 0 6 = h 0 6) ⟨rfl, fun c _ => congrFun e4 c, e5, e6, e7, e1, e0⟩ fun k _ k0 _ p => by
      have z := dFill0 (h := h) k0
      rw [foldI_s k0, foldI_s k0]
      generalize hA : foldI (sFl 1) (g, 0) k = A at p
      generalize hB : foldI (sFl 0) (h, 0) k = B at p z
      obtain ⟨p1, p2, p3, p4, p5, p6, p7⟩ := p
      have w4 := p2 k (Int.le_refl _)
      by_cases q : gOver h k (h 0 6) ∧ B.2 + h 7 k ≤ h 1 8
      · have f1 : sFl 1 k A = (dLv A.1 k, A.2 + A.1 7 k) := sFl_1 ⟨⟨by rw [w4]; exact q.1.1, by rw [p3, p4, p7]; exact q.1.2⟩, by rw [p1, p5, p6]; exact q.2⟩ (by decide)
        have f2 : sFl 0 k B = (B.1, B.2 + B.1 7 k) := sFl_0 (by rw [z]; exact q) rfl
        rw [f1, f2]
        refine ⟨by show A.2 + A.1 7 k = B.2 + B.1 7 k; rw [z, p1, p5], fun c hc => ?_, p3, p4, p5, p6, ?_⟩
        · show up1 (A.1 4) k 2 c = h 4 c
          rw [up1_ne (by omega)]; exact p2 c (by omega)
        · show up1 (A.1 0) 8 (A.1 0 8 + (A.1 1 2 * A.1 7 k * (A.1 5 k + A.1 6 k - A.1 10 k) - A.1 9 k)) 6 = h 0 6
          rw [up1_ne (by decide)]; exact p7
      · have f1 : sFl 1 k A = A := sFl_n fun u => q ⟨⟨by rw [← w4]; exact u.1.1, by have := u.1.2; rw [p3, p4, p7] at this; exact this⟩, by have := u.2; rw [p1, p5, p6] at this; exact this⟩
        have f2 : sFl 0 k B = B := sFl_n (by rw [z]; exact q)
        rw [f1, f2]
        exact ⟨p1, fun c hc => p2 c (by omega), p3, p4, p5, p6, p7⟩
    exact key.1
  · unfold foldI; rw [show (h 3 7).toNat = 0 by omega]; rfl
