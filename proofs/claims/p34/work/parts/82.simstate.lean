/-! A STATE OF BOTH SIDES -/
def PS (t : Int) (h : HV) (r : Int → Int) : Prop :=
  (0 ≤ t ∧ t ≤ 1060) ∧ h 0 6 = t ∧ RG (149 * t) h ∧ MR (149 * t) r ∧ HS (t - 30) h r ∧ (0 ≤ r 5 ∧ r 5 ≤ t) ∧ (0 ≤ r 10 ∧ r 10 ≤ 720 * t) ∧ (∀ d, t ≤ d → d ≤ 999 → nBeds h d d ≤ h 1 0)
def PE (h : HV) (r : Int → Int) : Prop := ∃ t, t ≤ 999 ∧ PS t h r
theorem PS.cg {t : Int} {h : HV} {r q : Int → Int} (P : PS t h r) (e : ∀ i, 0 ≤ i → i < 2739 → q i = r i) : PS t h q := by
  obtain ⟨p0, p1, p2, p3, p4, p5, p6, p7⟩ := P
  exact ⟨p0, p1, p2, p3.cg e, p4.cg (by omega) e, by rw [e 5 (by decide) (by decide)]; exact p5, by rw [e 10 (by decide) (by decide)]; exact p6, p7⟩
theorem PE.cg {h : HV} {r q : Int → Int} (P : PE h r) (e : ∀ i, 0 ≤ i → i < 2739 → q i = r i) : PE h q := by
  obtain ⟨t, t1, p⟩ := P
  exact ⟨t, t1, p.cg e⟩
theorem PS.day {t : Int} {h : HV} {r : Int → Int} (P : PS t h r) : r 0 = t := P.2.2.2.2.1.1.2.2.2.1.symm.trans P.2.1
theorem PS.cp {t K : Int} {h g : HV} {r : Int → Int} (P : PS t g r) (R : RG K h) : PS t (hCp h g) r := by
  obtain ⟨p0, p1, p2, p3, p4, p5, p6, p7⟩ := P
  have R2 := RG_cp p2 R
  have S2 := HS_cp (h := h) p4
  have m := p3.came
  refine ⟨p0, p1, R2, p3, S2, p5, p6, fun d d0 d1 => ?_⟩
  have r1 : ∀ i, 0 ≤ i → i < 10 → hCp h g 1 i = g 1 i := fun i a b => cpI_in a b
  rw [nBeds_eq (K' := 0) R2 S2.1 S2.2.1 m.2, ← nBeds_eq (K' := 0) p2 p4.1 p4.2.1 m.2, r1 0 (by decide) (by decide)]
  exact p7 d d0 d1
theorem PE.cp {K : Int} {h g : HV} {r : Int → Int} (P : PE g r) (R : RG K h) : PE (hCp h g) r := by
  obtain ⟨t, t1, p⟩ := P
  exact ⟨t, t1, p.cp R⟩
theorem PE.rg {h : HV} {r : Int → Int} (P : PE h r) : RG 200000 h := by
  obtain ⟨t, t1, p⟩ := P
  exact p.2.2.1.mono (by omega)
def SIM (hs : Nat → HV) (tp md : HV) : Prop :=
  (∀ k, k < 7 → RG 200000 (hs k)) ∧ PE (hs 0) (md 1) ∧
  (SG tp ∧ (∀ i j, 0 ≤ i → i < 4 → 0 ≤ j → j < 4 → tp 3 i = tp 3 j → i = j) ∧ tp 2 1 = md 0 6 ∧ ∀ k, 0 ≤ k → k < tp 2 1 → PE (hs (tp 3 k).toNat) (fun i => md 4 (2739 * k + i))) ∧
  ((tp 0 3 = 0 ∨ tp 0 3 = 1) ∧ tp 0 3 = md 0 8 ∧ (tp 0 3 = 1 → PE (hs 2) (md 2))) ∧
  (TG tp ∧ tp 4 1 = md 0 7 ∧ (∀ i, 0 ≤ i → i < 60 → tp 5 i = md 5 i) ∧ 0 ≤ md 0 5 ∧ md 0 5 ≤ 61)
theorem SIM.k0 {hs : Nat → HV} {tp md : HV} (S : SIM hs tp md) : 0 ≤ md 0 6 ∧ md 0 6 ≤ 4 := by
  have a := S.2.2.1.1.1; have b := S.2.2.1.2.2.1; omega
theorem SIM.tx {hs : Nat → HV} {tp md : HV} (S : SIM hs tp md) : TX (md 5) (md 0 7) := by
  have T := S.2.2.2.2
  refine ⟨by rw [← T.2.1]; exact T.1.1, fun i i0 i1 => ?_⟩
  rw [← T.2.2.1 i i0 i1]; exact T.1.2.2.2.2.2.1 i i0 i1
/-- what neither hut 0 nor the histories see -/
theorem SIM.oth {hs hs' : Nat → HV} {tp tp' md md' : HV} (S : SIM hs tp md) (a : ∀ k, k ≠ 1 → hs' k = hs k) (a1 : RG 200000 (hs' 1)) (b : tp' 0 3 = tp 0 3 ∧ tp' 2 = tp 2 ∧ tp' 3 = tp 3 ∧ tp' 4 1 = tp 4 1 ∧ tp' 5 = tp 5) (b2 : TG tp') (c : (∀ i, 0 ≤ i → i < 2739 → md' 1 i = md 1 i) ∧ md' 2 = md 2 ∧ md' 4 = md 4 ∧ md' 5 = md 5 ∧ md' 0 6 = md 0 6 ∧ md' 0 7 = md 0 7 ∧ md' 0 8 = md 0 8) (c2 : 0 ≤ md' 0 5 ∧ md' 0 5 ≤ 61) : SIM hs' tp' md' := by
  obtain ⟨s1, s2, ⟨s3, s4, s5, s6⟩, ⟨s7, s8, s9⟩, s10, s11, s12, s13⟩ := S
  obtain ⟨b1, b3, b4, b5, b6⟩ := b
  obtain ⟨c1, c3, c4, c5, c6, c7, c8⟩ := c
  refine ⟨fun k hk => ?_, ?_, ⟨?_, ?_, ?_, fun k k0 k1 => ?_⟩, ⟨?_, ?_, fun z => ?_⟩, b2, ?_, fun i i0 i1 => ?_, c2⟩
  · by_cases e : k = 1
    · subst e; exact a1
    · rw [a k e]; exact s1 k hk
  · rw [a 0 (by decide)]; exact s2.cg c1
  · unfold SG; rw [b3, b4]; exact s3
  · rw [b4]; exact s4
  · rw [b3, c6]; exact s5
  · rw [b3] at k1
    have r := s3.2 k k0 (by have := s3.1; omega)
    rw [b4, c4, a _ (by omega)]; exact s6 k k0 k1
  · rw [b1]; exact s7
  · rw [b1, c8]; exact s8
  · rw [b1] at z; rw [a 2 (by decide), c3]; exact s9 z
  · rw [b5, c7]; exact s11
  · rw [b6, c5]; exact s12 i i0 i1
theorem TG_rT {t : HV} (T : TG t) : TG (rT t) := by
  have e : ∀ c, 4 ≤ c → rT t c = t c := fun c hc => funext fun i => rT_4 hc
  unfold TG
  rw [e 4 (by decide), e 5 (by decide), e 6 (by decide), e 7 (by decide), e 8 (by decide)]
  exact T
/-- an act that is recorded -/
theorem SIM.rec {hs : Nat → HV} {tp md : HV} (S : SIM hs tp md) {h' : HV} {r' : Int → Int} (P : PE h' r') : SIM (putH (rH hs tp) 0 h') (rT tp) (upr (mRec md (md 1)) 1 r') := by
  have k0 := S.k0
  obtain ⟨s1, s2, ⟨s3, s4, s5, s6⟩, ⟨s7, s8, s9⟩, s10, s11, s12, s13⟩ := S
  have rj := rJ_r s3
  have x := mRec_x (md := md) (r := md 1)
  have z5 : rT tp 5 = tp 5 := funext fun i => rT_4 (by decide)
  have z4 : rT tp 4 = tp 4 := funext fun i => rT_4 (by decide)
  have z0 : rT tp 0 = tp 0 := by
    unfold rT; rw [upr_ne (by decide)]; unfold hT1; split
    · unfold hDrop; rw [upr_ne (by decide), upr_ne (by decide)]
    · rfl
  have hh : ∀ k : Nat, k ≠ 0 → putH (rH hs tp) 0 h' k = if k = rJ tp then hCp (hs k) (hs 0) else hs k := fun k hk => by
    rw [putH_ne hk]; unfold rH
    by_cases e : k = rJ tp
    · rw [if_pos e]; subst e; exact putH_same
    · rw [if_neg e]; exact putH_ne e
  have g6 : upr (mRec md (md 1)) 1 r' 0 6 = mR0 md 0 6 + 1 := by
    show up1 (mR0 md 0) 6 (mR0 md 0 6 + 1) 6 = _; exact up1_same
  have g4 : upr (mRec md (md 1)) 1 r' 4 = cpS (md 1) (mR0 md 4) (2739 * mR0 md 0 6) 2739 := rfl
  have t2 : rT tp 2 1 = hT1 tp 2 1 + 1 := by
    show up1 (hT1 tp 2) 1 (hT1 tp 2 1 + 1) 1 = _; exact up1_same
  have t3 : rT tp 3 = hT1 tp 3 := rfl
  have e1 : hT1 tp 2 1 = mR0 md 0 6 := by
    unfold hT1 mR0
    by_cases c : 4 ≤ tp 2 1
    · rw [if_pos c, if_pos (by omega)]
      show up1 (tp 2) 1 3 1 = up1 (md 0) 6 (md 0 6 - 1) 6
      rw [up1_same, up1_same]; omega
    · rw [if_neg c, if_neg (by omega)]; exact s5
  have hinj : ∀ i j, 0 ≤ i → i < 4 → 0 ≤ j → j < 4 → hT1 tp 3 i = hT1 tp 3 j → i = j := by
    unfold hT1
    by_cases c : 4 ≤ tp 2 1
    · rw [if_pos c]
      have e : ∀ i, 0 ≤ i → i < 4 → hDrop tp 3 i = tp 3 (if i = 3 then 0 else i + 1) := fun i i0 i1 => by
        show up1 (shC (tp 3) 3) 3 (tp 3 0) i = _
        by_cases q : i = 3
        · subst q; rw [up1_same, if_pos rfl]
        · rw [up1_ne q, if_neg q]; unfold shC; rw [if_pos (by omega)]
      intro i j i0 i1 j0 j1 q
      rw [e i i0 i1, e j j0 j1] at q
      have w := s4 _ _ (by split <;> omega) (by split <;> omega) (by split <;> omega) (by split <;> omega) q
      split at w <;> split at w <;> omega
    · rw [if_neg c]; exact s4
  have sg1 := SG_1 s3
  refine ⟨fun k hk => ?_, ?_, ⟨SG_rT s3, by rw [t3]; exact hinj, by rw [t2, g6, e1], fun k q0 q1 => ?_⟩, ⟨?_, ?_, fun z => ?_⟩, TG_rT s10, ?_, fun i i0 i1 => ?_, ?_⟩
  · by_cases e : k = 0
    · subst e; rw [putH_same]; exact P.rg
    · rw [hh k e]; split
      · exact RG_cp (s1 0 (by decide)) (s1 k hk)
      · exact s1 k hk
  · rw [putH_same]; exact P
  · rw [t2] at q1
    rw [t3, g4]
    have rk := sg1.1.2 k q0 (by have := sg1.2; omega)
    rw [hh _ (by omega)]
    by_cases e : k = hT1 tp 2 1
    · have ej : (hT1 tp 3 k).toNat = rJ tp := by rw [e]; rfl
      rw [if_pos ej, ej]
      refine (s2.cp (s1 (rJ tp) (by omega))).cg fun i i0 i1 => ?_
      rw [← e1, e]
      show (if 2739 * hT1 tp 2 1 ≤ 2739 * hT1 tp 2 1 + i ∧ 2739 * hT1 tp 2 1 + i < 2739 * hT1 tp 2 1 + 2739 then md 1 (2739 * hT1 tp 2 1 + i - 2739 * hT1 tp 2 1) else _) = _
      rw [if_pos (by omega), show 2739 * hT1 tp 2 1 + i - 2739 * hT1 tp 2 1 = i by omega]
    · have nj : ¬ (hT1 tp 3 k).toNat = rJ tp := fun w => e (hinj k (hT1 tp 2 1) q0 (by have := sg1.2; omega) sg1.1.1.1 (by have := sg1.2; omega) (by omega))
      rw [if_neg nj]
      have ec : ∀ i, 0 ≤ i → i < 2739 → cpS (md 1) (mR0 md 4) (2739 * mR0 md 0 6) 2739 (2739 * k + i) = mR0 md 4 (2739 * k + i) := fun i i0 i1 => by
        unfold cpS; rw [if_neg (by rw [← e1]; omega)]
      have key : PE (hs (hT1 tp 3 k).toNat) (fun i => mR0 md 4 (2739 * k + i)) := by
        unfold hT1 mR0
        by_cases c : 4 ≤ tp 2 1
        · have kk : k < 3 := by
            have : hT1 tp 2 1 = 3 := by unfold hT1; rw [if_pos c]; show up1 (tp 2) 1 3 1 = 3; exact up1_same
            omega
          rw [if_pos c, if_pos (show md 0 6 = 4 by omega)]
          have ed : hDrop tp 3 k = tp 3 (k + 1) := by
            show up1 (shC (tp 3) 3) 3 (tp 3 0) k = _
            rw [up1_ne (by omega)]; unfold shC; rw [if_pos (by omega)]
          rw [ed]
          refine (s6 (k + 1) (by omega) (by omega)).cg fun i i0 i1 => ?_
          show shS (md 4) 8217 (2739 * k + i) = md 4 (2739 * (k + 1) + i)
          unfold shS; rw [if_pos (by omega), show 2739 * k + i + 2739 = 2739 * (k + 1) + i by omega]
        · have kk : k < tp 2 1 := by
            have : hT1 tp 2 1 = tp 2 1 := by unfold hT1; rw [if_neg c]
            omega
          rw [if_neg c, if_neg (show ¬ md 0 6 = 4 by omega)]
          exact s6 k q0 kk
      exact key.cg ec
  · rw [z0]; exact s7
  · rw [z0]; exact s8.trans x.2.2.2.symm
  · rw [z0] at z
    rw [hh 2 (by decide), if_neg (by omega)]
    have e2 : upr (mRec md (md 1)) 1 r' 2 = md 2 := by
      show mR0 md 2 = md 2
      unfold mR0; split <;> rfl
    rw [e2]; exact s9 z
  · rw [z4]; exact s11.trans x.2.1.symm
  · rw [z5]
    show tp 5 i = mRec md (md 1) 5 i
    rw [x.1]; exact s12 i i0 i1
  · show 0 ≤ mRec md (md 1) 0 5 ∧ mRec md (md 1) 0 5 ≤ 61
    rw [x.2.2.1]; exact s13
theorem mNo_id {md : HV} {v : Int} : mNo md (md 1) v = (v, md) := by
  show (v, upr md 1 (md 1)) = (v, md)
  rw [upr_id]
