/-! BRINGING, both sides -/
theorem sBr_x {h : HV} {l : Int} : sBr h l 0 = h 0 ∧ sBr h l 4 = h 4 ∧ sBr h l 8 = h 8 ∧ sBr h l 9 = h 9 ∧ sBr h l 10 = h 10 ∧ sBr h l 16 = up1 (h 16) 2 (h 16 2 + oTak h l) ∧
    sBr h l 12 = (if h 14 0 = 0 then up1 (h 12) (h 0 6 % 30) (h 12 (h 0 6 % 30) + oTak h l) else h 12) ∧ sBr h l 11 1 = (if h 14 0 = 0 then h 11 1 else h 11 1 + oTak h l) ∧
    sBr h l 13 2 = (if h 15 0 - oTak h l = 0 then h 13 2 - 1 else h 13 2) ∧ sBr h l 14 = (if h 15 0 - oTak h l = 0 then shC (h 14) (h 13 2 - 1) else h 14) ∧
    sBr h l 15 = (if h 15 0 - oTak h l = 0 then shC (up1 (h 15) 0 (h 15 0 - oTak h l)) (h 13 2 - 1) else up1 (h 15) 0 (h 15 0 - oTak h l)) := by
  by_cases c : h 15 0 - oTak h l = 0
  · have eT : oTF h l = oRF (upr h 15 (up1 (h 15) 0 (h 15 0 - oTak h l))) := if_pos c
    by_cases k : h 14 0 = 0
    · have e : sBr h l = upr (upr (oTF h l) 12 (up1 (oTF h l 12) (oTF h l 0 6 % 30) (oTF h l 12 (oTF h l 0 6 % 30) + oTak h l))) 16 (up1 (oTF h l 16) 2 (oTF h l 16 2 + oTak h l)) := by
        unfold sBr; rw [show lStore (oTF h l) (h 14 0) (oTak h l) (oTF h l 0 6) = _ from if_pos k]; rfl
      rw [e, eT, if_pos c, if_pos c, if_pos c, if_pos k, if_pos k]
      exact ⟨rfl, rfl, rfl, rfl, rfl, rfl, rfl, rfl, rfl, rfl, rfl⟩
    · have e : sBr h l = upr (upr (oTF h l) 11 (up1 (oTF h l 11) 1 (oTF h l 11 1 + oTak h l))) 16 (up1 (oTF h l 16) 2 (oTF h l 16 2 + oTak h l)) := by
        unfold sBr; rw [show lStore (oTF h l) (h 14 0) (oTak h l) (oTF h l 0 6) = _ from if_neg k]; rfl
      rw [e, eT, if_pos c, if_pos c, if_pos c, if_neg k, if_neg k]
      exact ⟨rfl, rfl, rfl, rfl, rfl, rfl, rfl, rfl, rfl, rfl, rfl⟩
  · have eT : oTF h l = upr h 15 (up1 (h 15) 0 (h 15 0 - oTak h l)) := if_neg c
    by_cases k : h 14 0 = 0
    · have e : sBr h l = upr (upr (oTF h l) 12 (up1 (oTF h l 12) (oTF h l 0 6 % 30) (oTF h l 12 (oTF h l 0 6 % 30) + oTak h l))) 16 (up1 (oTF h l 16) 2 (oTF h l 16 2 + oTak h l)) := by
        unfold sBr; rw [show lStore (oTF h l) (h 14 0) (oTak h l) (oTF h l 0 6) = _ from if_pos k]; rfl
      rw [e, eT, if_neg c, if_neg c, if_neg c, if_pos k, if_pos k]
      exact ⟨rfl, rfl, rfl, rfl, rfl, rfl, rfl, rfl, rfl, rfl, rfl⟩
    · have e : sBr h l = upr (upr (oTF h l) 11 (up1 (oTF h l 11) 1 (oTF h l 11 1 + oTak h l))) 16 (up1 (oTF h l 16) 2 (oTF h l 16 2 + oTak h l)) := by
        unfold sBr; rw [show lStore (oTF h l) (h 14 0) (oTak h l) (oTF h l 0 6) = _ from if_neg k]; rfl
      rw [e, eT, if_neg c, if_neg c, if_neg c, if_neg k, if_neg k]
      exact ⟨rfl, rfl, rfl, rfl, rfl, rfl, rfl, rfl, rfl, rfl, rfl⟩
theorem mB2_at {r : Int → Int} {l d i : Int} (d0 : 0 ≤ d) : mB2 r l d i = if i = 7 then r 7 + mTak r l else if i = 39 then r 39 - mTak r l else if i = 2 then (if r 27 = 0 then r 2 else r 2 + mTak r l) else if i = 1675 + d then (if r 27 = 0 then r (1675 + d) + mTak r l else r (1675 + d)) else r i := by
  have hp : ∀ j, j ≠ 2 → j ≠ 1675 + d → mPut r l d j = r j := fun j n1 n2 => by
    show (if r 27 = 0 then _ else _ : Int → Int) j = r j
    split
    · exact up1_ne n2
    · exact up1_ne n1
  show up1 (up1 (mPut r l d) 39 (mPut r l d 39 - mTak r l)) 7 (mPut r l d 7 + mTak r l) i = _
  rw [hp 39 (by decide) (by omega), hp 7 (by decide) (by omega)]
  by_cases a : i = 7
  · subst a; rw [up1_same, if_pos rfl]
  rw [up1_ne a, if_neg a]
  by_cases b : i = 39
  · subst b; rw [up1_same, if_pos rfl]
  rw [up1_ne b, if_neg b]
  by_cases c : i = 2
  · subst c
    rw [if_pos rfl]
    show (if r 27 = 0 then _ else _ : Int → Int) 2 = _
    by_cases k : r 27 = 0
    · rw [if_pos k, if_pos k, up1_ne (by omega)]
    · rw [if_neg k, if_neg k, up1_same]
  rw [if_neg c]
  by_cases e : i = 1675 + d
  · subst e
    rw [if_pos rfl]
    show (if r 27 = 0 then _ else _ : Int → Int) (1675 + d) = _
    by_cases k : r 27 = 0
    · rw [if_pos k, if_pos k, up1_same]
    · rw [if_neg k, if_neg k, up1_ne (by omega)]
  rw [if_neg e, hp i c e]
theorem mDr_at {q : Int → Int} {i : Int} (q0 : 1 ≤ q 3 ∧ q 3 ≤ 12) : mDrop q 0 i = if i = 3 then q 3 - 1 else if (27 ≤ i ∧ i < 27 + (q 3 - 1)) ∨ (39 ≤ i ∧ i < 39 + (q 3 - 1)) then q (i + 1) else if i = 27 + (q 3 - 1) ∨ i = 39 + (q 3 - 1) then 0 else q i := by
  show up1 (up1 (mSh (up1 q 3 (q 3 - 1)) 0 (q 3 - 1)) (27 + (q 3 - 1)) 0) (39 + (q 3 - 1)) 0 i = _
  by_cases a : i = 3
  · subst a; rw [up1_ne (by omega), up1_ne (by omega), if_pos rfl]
    exact (if_neg (by omega)).trans up1_same
  rw [if_neg a]
  by_cases b : (27 ≤ i ∧ i < 27 + (q 3 - 1)) ∨ (39 ≤ i ∧ i < 39 + (q 3 - 1))
  · rw [if_pos b, up1_ne (by omega), up1_ne (by omega)]
    exact (if_pos (by omega)).trans (up1_ne (by omega))
  rw [if_neg b]
  by_cases c : i = 39 + (q 3 - 1)
  · rw [if_pos (Or.inr c), c, up1_same]
  rw [up1_ne c]
  by_cases e : i = 27 + (q 3 - 1)
  · rw [if_pos (Or.inl e), e, up1_same]
  rw [up1_ne e, if_neg (by omega)]
  exact (if_neg (by omega)).trans (up1_ne a)
theorem HS_br {K K' t : Int} {h : HV} {r : Int → Int} (R : RG K h) (M : MR K' r) (S : HS (t - 29) h r) (et : h 0 6 = t) (t0 : 0 ≤ t ∧ t ≤ 1059) {l : Int} (l0 : 0 < l) (w0 : 0 < r 3) : HS (t - 29) (sBr h l) (mB1 r l t) ∧ oTak h l = mTak r l := by
  have rw0 := M.wait
  have hO := S.2.2.1
  have hF := S.2.2.2.2
  have hT := S.2.2.2.1
  have k0 : h 14 0 = r 27 ∧ h 15 0 = r 39 := hO.2 0 (by decide) (by decide) w0
  have eTk : oTak h l = mTak r l := by
    show (if l ≤ h 15 0 then l else h 15 0) = if r 39 < l then r 39 else l
    rw [k0.2]
    by_cases c : r 39 < l
    · rw [if_pos c, if_neg (by omega)]
    · rw [if_neg c, if_pos (by omega)]
  refine ⟨?_, eTk⟩
  have x := sBr_x (h := h) (l := l)
  have y := fun i => mB2_at (r := r) (l := l) (d := t) (i := i) t0.1
  have s1 := RS_sBr R (show 1 ≤ h 13 2 by rw [hO.1]; omega) (l := l) (by omega)
  have m1 := (MS_mB1 M l0 w0 t0.1 (show t < 1064 by omega)).1
  have e39 : mPut r l t 39 = r 39 := mPut_39 t0.1
  have q3 : mB2 r l t 3 = r 3 := by rw [y 3, if_neg (by omega), if_neg (by omega), if_neg (by omega), if_neg (by omega)]
  -- the row behind dropping, but for the orders
  have hm : ∀ i, i ≠ 3 → ¬ (27 ≤ i ∧ i < 51) → mB1 r l t i = mB2 r l t i := fun i n3 n => by
    unfold mB1; split
    · rw [mDr_at (by omega), if_neg n3, if_neg (by omega), if_neg (by omega)]
    · rfl
  have hb : ∀ i, i ≠ 7 → i ≠ 2 → i ≠ 3 → ¬ (27 ≤ i ∧ i < 51) → i ≠ 1675 + t → mB1 r l t i = r i := fun i n7 n2 n3 n ne => by
    rw [hm i n3 n, y i, if_neg n7, if_neg (by omega), if_neg n2, if_neg ne]
  refine ⟨S.1.ofS s1 m1, S.2.1.of x.2.1 x.2.2.1 x.2.2.2.1 x.2.2.2.2.1 (hb 1 (by decide) (by decide) (by decide) (by omega) (by omega)) (fun i i0 i1 => hb i (by omega) (by omega) (by omega) (by omega) (by omega)), ?_, ⟨fun c c0 c1 => ?_, ?_, ?_, ?_, ?_⟩, ?_, fun d d0 d1 => ?_, fun d d0 d1 d2 => ?_⟩
  · have x13 := x.2.2.2.2.2.2.2.2.1
    have x14 := x.2.2.2.2.2.2.2.2.2.1
    have x15 := x.2.2.2.2.2.2.2.2.2.2
    rw [eTk, k0.2] at x13 x14 x15
    by_cases c : r 39 - mTak r l = 0
    · rw [if_pos c] at x13 x14 x15
      have e1 : mB1 r l t = mDrop (mB2 r l t) 0 := if_pos (by rw [e39]; exact c)
      rw [e1]
      have z := fun i => mDr_at (q := mB2 r l t) (i := i) (by omega)
      refine ⟨by rw [x13, z 3, if_pos rfl, q3, hO.1], fun k k0' k1 k2 => ?_⟩
      rw [z 3, if_pos rfl, q3] at k2
      have o := hO.2 (k + 1) (by omega) (by omega) (by omega)
      rw [x14, x15, z (27 + k), z (39 + k), if_neg (by omega), if_pos (by omega), if_neg (by omega), if_pos (by omega), y (27 + k + 1), y (39 + k + 1)]
      rw [if_neg (by omega), if_neg (by omega), if_neg (by omega), if_neg (by omega), if_neg (by omega), if_neg (by omega), if_neg (by omega), if_neg (by omega)]
      unfold shC
      rw [if_pos (by rw [hO.1]; omega), if_pos (by rw [hO.1]; omega), up1_ne (by omega), o.1, o.2]
      exact ⟨by rw [Int.add_assoc], by rw [Int.add_assoc]⟩
    · rw [if_neg c] at x13 x14 x15
      have e1 : mB1 r l t = mB2 r l t := if_neg (by rw [e39]; exact c)
      rw [e1]
      refine ⟨by rw [x13, q3, hO.1], fun k k0' k1 k2 => ?_⟩
      rw [q3] at k2
      have o := hO.2 k k0' k1 k2
      rw [x14, x15, y (27 + k), y (39 + k), if_neg (by omega), if_neg (by omega), if_neg (by omega), if_neg (by omega), if_neg (by omega)]
      refine ⟨o.1, ?_⟩
      by_cases a : k = 0
      · subst a; rw [up1_same, if_pos (by decide)]
      · rw [up1_ne a, if_neg (by omega), if_neg (by omega), if_neg (by omega)]; exact o.2
  · rw [x.2.2.2.2.2.1]
    by_cases e : c = 2
    · subst e
      have q : h 16 2 = r 7 := hT.1 2 (by decide) (by decide)
      rw [up1_same, show (5 + 2 : Int) = 7 by decide, hm 7 (by decide) (by omega), y 7, if_pos rfl, eTk, q]
    · rw [up1_ne e, hb (5 + c) (by omega) (by omega) (by omega) (by omega) (by omega)]; exact hT.1 c c0 c1
  · rw [x.1, hb 4 (by decide) (by decide) (by decide) (by omega) (by omega)]; exact hT.2.1
  · rw [x.1, hb 14 (by decide) (by decide) (by decide) (by omega) (by omega)]; exact hT.2.2.1
  · rw [x.1, hb 15 (by decide) (by decide) (by decide) (by omega) (by omega)]; exact hT.2.2.2.1
  · rw [x.1, hb 16 (by decide) (by decide) (by decide) (by omega) (by omega)]; exact hT.2.2.2.2
  · rw [x.2.2.2.2.2.2.2.1, k0.1, eTk, hF.1, hm 2 (by decide) (by omega), y 2, if_neg (show ¬ (2 : Int) = 7 by decide), if_neg (show ¬ (2 : Int) = 39 by decide), if_pos (show (2 : Int) = 2 from rfl)]
  · rw [x.2.2.2.2.2.2.1, k0.1, eTk, et]
    have eF : rF (mB1 r l t) d = if d = t ∧ r 27 = 0 then rF r d + mTak r l else rF r d := by
      show (if 0 ≤ d then mB1 r l t (1675 + d) else 0) = if d = t ∧ r 27 = 0 then (if 0 ≤ d then r (1675 + d) else 0) + mTak r l else (if 0 ≤ d then r (1675 + d) else 0)
      by_cases a : 0 ≤ d
      · rw [if_pos a, if_pos a, hm _ (by omega) (by omega), y _, if_neg (by omega), if_neg (by omega), if_neg (by omega)]
        by_cases e : d = t
        · subst e
          rw [if_pos rfl]
          by_cases k : r 27 = 0
          · rw [if_pos k, if_pos ⟨rfl, k⟩]
          · rw [if_neg k, if_neg (fun z => k z.2)]
        · rw [if_neg (by omega), if_neg (fun z => e z.1)]
      · rw [if_neg a, if_neg a, if_neg (fun z => a (by omega))]
    rw [eF]
    have z := hF.2.1 d (by omega) (by omega)
    by_cases k : r 27 = 0
    · rw [if_pos k]
      by_cases e : d = t
      · subst e; rw [if_pos ⟨rfl, k⟩, up1_same, z]
      · rw [if_neg (fun u => e u.1), up1_ne (by omega), z]
    · rw [if_neg k, if_neg (fun u => k u.2), z]
  · rw [hb (1675 + d) (by omega) (by omega) (by omega) (by omega) (by omega)]
    exact hF.2.2 d d0 d1 d2
theorem HS_brN {t : Int} (t0 : 0 ≤ t ∧ t ≤ 1059) : ∀ (n : Nat) (K K' : Int) (h : HV) (r : Int → Int) (l : Int), RG K h → MR K' r → h 0 6 = t → 0 ≤ l → HS (t - 29) h r → HS (t - 29) (dBr n h l) (mBr n r l t)
  | 0, _, _, _, _, _, _, _, _, _, S => S
  | n + 1, K, K', h, r, l, R, M, et, l0, S => by
    have e3 : h 13 2 = r 3 := S.2.2.1.1
    by_cases c : 0 < l ∧ 0 < r 3
    · have a := HS_br R M S et t0 c.1 c.2
      have s1 := RS_sBr R (show 1 ≤ h 13 2 by rw [e3]; omega) (l := l) l0
      have m1 := (MS_mB1 M c.1 c.2 t0.1 (show t < 1064 by omega)).1
      have ht := mTak_r M c.1
      rw [dBr_go (by rw [e3]; exact c), mBr_go c, a.2]
      rw [a.2] at s1
      exact HS_brN t0 n (K + mTak r l) (K' + mTak r l) (sBr h l) (mB1 r l t) (l - mTak r l) s1.1 m1.1 (s1.2.2.2.2.2.2.2.trans et) (by omega) a.1
    · rw [dBr_stop (by rw [e3]; exact c), mBr_stop c]; exact S
