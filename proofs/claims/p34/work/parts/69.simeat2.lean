theorem mE2_x {q : Int → Int} {l : Int} : mE2 q l 2 = q 2 - mEd q l ∧ mE2 q l 8 = q 8 + mEd q l ∧ mE2 q l 10 = q 10 + (l - mEd q l) ∧ ∀ i, i ≠ 2 → i ≠ 8 → i ≠ 10 → mE2 q l i = q i := by
  refine ⟨?_, ?_, up1_same, fun i n1 n2 n3 => ?_⟩
  · show up1 (up1 (up1 q 2 (q 2 - mEd q l)) 8 (q 8 + mEd q l)) 10 (q 10 + (l - mEd q l)) 2 = _
    rw [up1_ne (by decide), up1_ne (by decide), up1_same]
  · show up1 (up1 (up1 q 2 (q 2 - mEd q l)) 8 (q 8 + mEd q l)) 10 (q 10 + (l - mEd q l)) 8 = _
    rw [up1_ne (by decide), up1_same]
  · show up1 (up1 (up1 q 2 (q 2 - mEd q l)) 8 (q 8 + mEd q l)) 10 (q 10 + (l - mEd q l)) i = _
    rw [up1_ne n3, up1_ne n2, up1_ne n1]
theorem HS_eat {K t : Int} {h : HV} {r : Int → Int} (R : RG K h) (M : MR K r) (et : h 0 6 = t) (hd : t ≤ 1059) (S : HS (t - 29) h r) : HS (t - 29) (dEat h) (mEat r) := by
  have rd := R.day
  have m := M.came
  have F := S.2.2.2.2
  have T := S.2.2.2.1
  have ep : nThere h = nPer r := nThere_eq S.1 S.2.1 m.2
  have pr := nPer_r M
  have c := mEt_c 1064 0 r (nPer r) (by decide) pr.1 (fun q q0 q1 => by rw [Int.zero_add]; exact (M.fre q0 (by omega)).1)
  -- the sums, both sides
  have eS : ∀ j : Int, eT r 0 j = sumI (rF r) j := fun j => sumI_cg fun k k0 _ => by rw [Int.zero_add]; exact (if_pos k0).symm
  have z1 : ∀ d : Int, 0 ≤ d → d < t - 29 → rF r d = 0 := fun d d0 d1 => by
    show (if 0 ≤ d then r (1675 + d) else 0) = 0
    rw [if_pos d0]; exact F.2.2 d d0 (by omega) (Or.inl d1)
  have z2 : ∀ d : Int, d < 0 → rF r d = 0 := fun d d0 => if_neg (by omega)
  have eH : ∀ n : Int, 0 ≤ n → n ≤ 30 → eatS (h 12) t n = eT r 0 (t - 29 + n) := fun n n0 n1 => by
    rw [eS, sum_shift n0 z1 z2]
    exact sumI_cg fun k k0 k1 => by rw [show t - 30 + 1 + k = t - 29 + k by omega]; exact F.2.1 (t - 29 + k) (by omega) (by omega)
  have eEnd : eT r 0 1064 = eT r 0 (t - 29 + 30) := by
    rw [eS, eS, show (1064 : Int) = (t - 29 + 30) + (1064 - (t - 29 + 30)) by omega, sumI_add (by omega) (by omega), sumI_z (n := 1064 - (t - 29 + 30)) fun k k0 k1 => by
      show (if 0 ≤ t - 29 + 30 + k then r (1675 + (t - 29 + 30 + k)) else 0) = 0
      rw [if_pos (by omega)]; exact F.2.2 _ (by omega) (by omega) (Or.inr (by omega)), Int.add_zero]
  have eE : ∀ n : Int, 0 ≤ n → n ≤ 30 → eatE (h 12) t (nThere h) n = eM (nPer r) (eT r 0 (t - 29 + n)) := fun n n0 n1 => by
    unfold eatE; rw [eH n n0 n1, ep]
  have e30 : eatE (h 12) t (nThere h) 30 = eM (nPer r) (eT r 0 ((1064 : Nat) : Int)) := by
    rw [eE 30 (by decide) (by decide), ← eEnd]; rfl
  have c2 : (mEt 1064 0 r (nPer r)).1 2 = r 2 := c.2.2.2 2 (by decide) (by omega)
  have eD : eatD h (nThere h) t = mEd (mEt 1064 0 r (nPer r)).1 (mEt 1064 0 r (nPer r)).2 := by
    show (if nThere h - eatE (h 12) t (nThere h) 30 ≤ h 11 1 then nThere h - eatE (h 12) t (nThere h) 30 else h 11 1) = if (mEt 1064 0 r (nPer r)).1 2 < (mEt 1064 0 r (nPer r)).2 then (mEt 1064 0 r (nPer r)).1 2 else (mEt 1064 0 r (nPer r)).2
    rw [c2, c.1, e30, ep, F.1]
    by_cases q : r 2 < nPer r - eM (nPer r) (eT r 0 ((1064 : Nat) : Int))
    · rw [if_pos q, if_neg (by omega)]
    · rw [if_neg q, if_pos (by omega)]
  have x := mE2_x (q := (mEt 1064 0 r (nPer r)).1) (l := (mEt 1064 0 r (nPer r)).2)
  have at0 : ∀ i, i ≠ 2 → i ≠ 8 → i ≠ 10 → i < 1675 → mEat r i = r i := fun i a b e l => (x.2.2.2 i a b e).trans (c.2.2.2 i b (by omega))
  have aF : ∀ d : Int, 0 ≤ d → d < 1064 → mEat r (1675 + d) = r (1675 + d) - (eM (nPer r) (eT r 0 (d + 1)) - eM (nPer r) (eT r 0 d)) := fun d d0 d1 => by
    have q := c.2.2.1 d d0 (by omega)
    rw [Int.zero_add] at q
    exact (x.2.2.2 (1675 + d) (by omega) (by omega) (by omega)).trans q
  refine ⟨S.1.ofS (RS_eat R) (MS_mEat M), S.2.1.of rfl rfl rfl rfl (at0 1 (by decide) (by decide) (by decide) (by decide)) (fun i i0 i1 => at0 i (by omega) (by omega) (by omega) (by omega)), S.2.2.1.of rfl rfl rfl (at0 3 (by decide) (by decide) (by decide) (by decide)) (fun i i0 i1 => at0 i (by omega) (by omega) (by omega) (by omega)), ⟨fun k k0 k1 => ?_, ?_, ?_, ?_, ?_⟩, ?_, fun d d0 d1 => ?_, fun d d0 d1 d2 => ?_⟩
  · show up1 (up1 (h 16) 3 (h 16 3 + nEat h (nThere h) (h 0 6))) 5 (h 16 5 + (nThere h - nEat h (nThere h) (h 0 6))) k = _
    have eN : nEat h (nThere h) (h 0 6) = eM (nPer r) (eT r 0 ((1064 : Nat) : Int)) + mEd (mEt 1064 0 r (nPer r)).1 (mEt 1064 0 r (nPer r)).2 := by
      show eatE (h 12) (h 0 6) (nThere h) 30 + eatD h (nThere h) (h 0 6) = _
      rw [et, e30, eD]
    rw [eN]
    by_cases a : k = 5
    · subst a
      have q : h 16 5 = r 10 := T.1 5 (by decide) (by decide)
      have c10 : (mEt 1064 0 r (nPer r)).1 10 = r 10 := c.2.2.2 10 (by decide) (by omega)
      have x10 : mEat r 10 = _ := x.2.2.1
      rw [up1_same, show (5 + 5 : Int) = 10 by decide, x10, c10, c.1, q, ep]; omega
    · rw [up1_ne a]
      by_cases b : k = 3
      · subst b
        have q : h 16 3 = r 8 := T.1 3 (by decide) (by decide)
        have x8 : mEat r 8 = _ := x.2.1
        rw [up1_same, show (5 + 3 : Int) = 8 by decide, x8, c.2.1, q]; omega
      · rw [up1_ne b, at0 (5 + k) (by omega) (by omega) (by omega) (by omega)]; exact T.1 k k0 k1
  · rw [at0 4 (by decide) (by decide) (by decide) (by decide)]; exact T.2.1
  · rw [at0 14 (by decide) (by decide) (by decide) (by decide)]; exact T.2.2.1
  · rw [at0 15 (by decide) (by decide) (by decide) (by decide)]; exact T.2.2.2.1
  · rw [at0 16 (by decide) (by decide) (by decide) (by decide)]; exact T.2.2.2.2
  · have x2 : mEat r 2 = _ := x.1
    rw [x2, c2, ← eD]
    show up1 (h 11) 1 (h 11 1 - eatD h (nThere h) (h 0 6)) 1 = _
    rw [up1_same, et, F.1]
  · show eatR (h 12) (h 0 6) (nThere h) 30 (d % 30) = if 0 ≤ d then mEat r (1675 + d) else 0
    have ej : (d % 30 - t - 1) % 30 = d - (t - 29) := by omega
    rw [et]
    unfold eatR
    rw [ej, if_pos (by omega), eE _ (by omega) (by omega), eE _ (by omega) (by omega), F.2.1 d d0 d1, show t - 29 + (d - (t - 29) + 1) = d + 1 by omega, show t - 29 + (d - (t - 29)) = d by omega]
    by_cases a : 0 ≤ d
    · rw [if_pos a, aF d a (by omega)]
      show (if 0 ≤ d then r (1675 + d) else 0) - _ = _
      rw [if_pos a]
    · rw [if_neg a]
      have n0 : ∀ j : Int, j ≤ 0 → eT r 0 j = 0 := fun j j0 => by
        show sumI _ j = 0
        unfold sumI; rw [show j.toNat = 0 by omega]; rfl
      rw [n0 (d + 1) (by omega), n0 d (by omega)]
      show (if 0 ≤ d then r (1675 + d) else 0) - _ = 0
      rw [if_neg a]; omega
  · have z := F.2.2 d d0 d1 d2
    have s : eT r 0 (d + 1) = eT r 0 d := by
      show sumI (fun q => r (1675 + (0 + q))) (d + 1) = _
      rw [sumI_s d0, Int.zero_add, z, Int.add_zero]
    rw [aF d d0 d1, z, s]; omega
/-- a day, both sides -/
theorem HS_pass {K t : Int} {h : HV} {r : Int → Int} (R : RG K h) (M : MR K r) (et : h 0 6 = t) (hd : t ≤ 1059) (S : HS (t - 30) h r) : HS (t + 1 - 30) (dPass h) (mPas r) := by
  have rd := R.day
  have e0 : r 0 = t := by rw [← S.1.2.2.2.1]; exact et
  have a1 := HS_begin R M et hd S
  have r1 : RS (K + 50) h (dBegin h) := RS_begin R
  have m1 := MS_mBeg M (by omega)
  have t1 : dBegin h 0 6 = t := r1.2.2.2.2.2.2.2.trans et
  have w1 : wOf (dBegin h) (dBegin h 0 6) = mBeg r (611 + r 0) := by
    rw [t1, e0]; exact a1.1.2.1 t (by omega) (by omega)
  have k1 : dBegin h 0 7 = mBeg r 4 := a1.2.2.2.1.2.1
  have cl := m1.1.cal
  have a2 : HS (t - 29) (if dBegin h 0 7 ≠ 0 ∧ ¬ windy (dBegin h) then dFly (dBegin h) else dBegin h) (mMid r) ∧ RS (K + 149) h (if dBegin h 0 7 ≠ 0 ∧ ¬ windy (dBegin h) then dFly (dBegin h) else dBegin h) := by
    unfold mMid
    by_cases c : dBegin h 0 7 ≠ 0 ∧ ¬ windy (dBegin h)
    · have c2 : mBeg r 4 = 1 ∧ ¬ 4 ≤ mBeg r (611 + r 0) := ⟨by have := c.1; rw [k1] at this; omega, fun q => c.2 (by show 4 ≤ wOf (dBegin h) (dBegin h 0 6); rw [w1]; exact q)⟩
      rw [if_pos c, if_pos c2]
      have f := RS_fly r1.1
      exact ⟨HS_fly r1.1 m1.1 t1 hd a1 e0, ⟨(r1.tr f).1.mono (by omega), (r1.tr f).2⟩⟩
    · have c2 : ¬ (mBeg r 4 = 1 ∧ ¬ 4 ≤ mBeg r (611 + r 0)) := fun q => c ⟨by rw [k1, q.1]; decide, fun w => q.2 (by rw [← w1]; exact w)⟩
      rw [if_neg c, if_neg c2]
      exact ⟨a1, ⟨r1.1.mono (by omega), r1.2⟩⟩
  have m2 := MS_mMid M (by omega)
  unfold dPass dEnd mPas mNig
  generalize (if dBegin h 0 7 ≠ 0 ∧ ¬ windy (dBegin h) then dFly (dBegin h) else dBegin h) = g at a2
  have t2 : g 0 6 = t := a2.2.2.2.2.2.2.2.2.trans et
  have a3 := HS_eat a2.2.1 m2.1 t2 hd a2.1
  have r3 := RS_eat a2.2.1
  have m3 := MS_mEat m2.1
  have t3 : dEat g 0 6 = t := r3.2.2.2.2.2.2.2.trans t2
  obtain ⟨r4, m4, a4⟩ := HS_sleep r3.1 m3.1 a3 (by omega) (d := r 0) (t3.trans e0.symm)
  have t4 : dSleep (dEat g) 0 6 = t := r4.2.2.2.2.2.2.2.trans t3
  have n4 : mSle (mEat (mMid r)) (r 0) 0 = t := a4.1.2.2.2.1.symm.trans t4
  have c0 : ∀ i, i ≠ 0 → up1 (mSle (mEat (mMid r)) (r 0)) 0 (mSle (mEat (mMid r)) (r 0) 0 + 1) i = mSle (mEat (mMid r)) (r 0) i := fun i n => up1_ne n
  have hr : ∀ f : Int → Int, ∀ i, i ≠ 6 → up1 f 6 (f 6 + 1) i = f i := fun f i n => up1_ne n
  rw [show t + 1 - 30 = t - 29 by omega]
  refine ⟨⟨fun i i0 i1 => ?_, fun d d0 d1 => ?_, ?_, ?_, fun b b0 b1 b2 => ?_⟩, a4.2.1.of rfl rfl rfl rfl (c0 1 (by decide)) (fun i i0 i1 => c0 i (by omega)), a4.2.2.1.of rfl rfl rfl (c0 3 (by decide)) (fun i i0 i1 => c0 i (by omega)), a4.2.2.2.1.of rfl (hr _ 7 (by decide)) (hr _ 8 (by decide)) (hr _ 9 (by decide)) (hr _ 10 (by decide)) (fun i i0 i1 => c0 i (by omega)), a4.2.2.2.2.of rfl rfl (c0 2 (by decide)) (fun i i0 i1 => c0 i (by omega)) (by omega)⟩
  · rw [c0 _ (by omega)]; exact a4.1.1 i i0 i1
  · rw [c0 _ (by omega)]; exact a4.1.2.1 d d0 d1
  · rw [c0 1 (by decide)]; exact a4.1.2.2.1
  · show up1 (dSleep (dEat g) 0) 6 (dSleep (dEat g) 0 6 + 1) 6 = _
    rw [up1_same, up1_same, t4, n4]
  · rw [c0 1 (by decide)] at b2
    rw [c0 _ (by omega), c0 _ (by omega), c0 _ (by omega)]; exact a4.1.2.2.2.2 b b0 b1 b2
