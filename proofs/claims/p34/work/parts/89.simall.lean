/-! THE WHOLE TEXT, both sides -/
theorem ff_D {L c : Int} {f : Int → Int} (hL : L ≤ 60) (c0 : 0 ≤ c) : ∀ (n : Nat) (v p : Int) (t : HV), TK L f t → t 4 6 = 1 → t 4 7 = v → t 4 5 = c → 0 ≤ v → 0 ≤ p → p ≤ L → L ≤ p + n →
    ∃ u : HV, ffN (L - p).toNat p t = ffN (L - (rdD f L n v p).2).toNat (rdD f L n v p).2 u ∧ TK L f u ∧ u 4 6 = 1 ∧ u 4 7 = (rdD f L n v p).1 ∧ u 4 5 = c ∧ ¬ (0 < (rdD f L n v p).1 ∧ nx f L (rdD f L n v p).2 48 57 ∧ 10 * (rdD f L n v p).1 + f (rdD f L n v p).2 - 48 ≤ 899) ∧ p ≤ (rdD f L n v p).2 ∧ (rdD f L n v p).2 ≤ L ∧ 0 ≤ (rdD f L n v p).1
  | 0, v, p, t, T, e6, e7, e5, v0, p0, hp, hn => ⟨t, rfl, T, e6, e7, e5, fun q => by have := q.2.1.1; show False; have hh : p < L := this; omega, Int.le_refl _, hp, v0⟩
  | n + 1, v, p, t, T, e6, e7, e5, v0, p0, hp, hn => by
    by_cases h : 0 < v ∧ nx f L p 48 57 ∧ 10 * v + f p - 48 ≤ 899
    · rw [rdD_go h]
      have h2 : p < L ∧ 48 ≤ f p ∧ f p ≤ 57 := h.2.1
      have kd : kDD t (f p) := ⟨h2.2, by rw [e7]; omega, by rw [e7]; have := h.2.2; omega⟩
      rw [ff_go T p0 hL h2.1 (Or.inr (Or.inl ⟨e6, Or.inr kd⟩))]
      have x1 : xA t (f p) = upr t 4 (up1 (t 4) 7 (t 4 7 * 10 + (f p - 48))) := by
        rw [xA_1 e6, if_neg (by omega)]; exact if_pos kd
      refine (fun z => ?_) (ff_D hL c0 n (10 * v + f p - 48) (p + 1) (xA t (f p)) T.mv ?_ ?_ ?_ (by omega) (by omega) (by omega) (by omega))
      · obtain ⟨u, z1, z2, z3, z4, z5, z6, z7, z8, z9⟩ := z
        exact ⟨u, z1, z2, z3, z4, z5, z6, by omega, z8, z9⟩
      · rw [x1]; show up1 (t 4) 7 (t 4 7 * 10 + (f p - 48)) 6 = 1
        rw [up1_ne (by decide)]; exact e6
      · rw [x1]; show up1 (t 4) 7 (t 4 7 * 10 + (f p - 48)) 7 = _
        rw [up1_same, e7]; omega
      · rw [x1]; show up1 (t 4) 7 (t 4 7 * 10 + (f p - 48)) 5 = c
        rw [up1_ne (by decide)]; exact e5
    · rw [rdD_stop h]
      exact ⟨t, rfl, T, e6, e7, e5, h, Int.le_refl _, hp, v0⟩
theorem ff_B {L p c : Int} {f : Int → Int} {t : HV} (T : TK L f t) (p0 : 0 ≤ p) (hL : L ≤ 60) (h : p ≤ L) (e6 : t 4 6 = 0) (e5 : t 4 5 = c) (c0 : 0 ≤ c) (c1 : 6 * c ≤ p) :
    ((rdB f L p).1 < 0 → (ffN (L - p).toNat p t).1 = -100 - (rdB f L p).1) ∧
    (0 ≤ (rdB f L p).1 → ∃ u : HV, ffN (L - p).toNat p t = ffN (L - (rdB f L p).2).toNat (rdB f L p).2 u ∧ TK L f u ∧ u 4 6 = 5 ∧ u 4 5 = c + 1 ∧ u 6 c = bA f L p ∧ u 7 c = bN f L p ∧ u 8 c = bP f L p ∧ (rdB f L p).2 ≤ L) := by
  by_cases q : nx f L p 48 57
  · have q2 : p < L ∧ 48 ≤ f p ∧ f p ≤ 57 := q
    have eB : rdB f L p = rdE f L (rdQ f L p).1 (rdQ f L p).2 := if_neg (not_not_intro q)
    have x1 : xA t (f p) = xMv (upr t 4 (up1 (t 4) 7 (f p - 48))) 1 := by rw [xA_0 e6]; exact if_pos q2.2
    obtain ⟨u, z1, z2, z3, z4, z5, z6, z7, z8, z9⟩ := ff_D hL c0 60 (f p - 48) (p + 1) (xA t (f p)) T.mv (by
      rw [x1]; show up1 (up1 (t 4) 7 (f p - 48)) 6 1 6 = 1; exact up1_same) (by
      rw [x1]; show up1 (up1 (t 4) 7 (f p - 48)) 6 1 7 = _
      rw [up1_ne (by decide), up1_same]) (by
      rw [x1]; show up1 (up1 (t 4) 7 (f p - 48)) 6 1 5 = c
      rw [up1_ne (by decide), up1_ne (by decide)]; exact e5) (by omega) (by omega) (by omega) (by omega)
    have ez := ff_E z2 (by omega) hL z8 z3 z4 z5 c0 (by omega) z9 z6
    have eg := ff_go T p0 hL q2.1 (Or.inl ⟨e6, q2.2⟩)
    show ((rdB f L p).1 < 0 → (ffN (L - p).toNat p t).1 = -100 - (rdB f L p).1) ∧
      (0 ≤ (rdB f L p).1 → ∃ u : HV, ffN (L - p).toNat p t = ffN (L - (rdB f L p).2).toNat (rdB f L p).2 u ∧ TK L f u ∧ u 4 6 = 5 ∧ u 4 5 = c + 1 ∧ u 6 c = (rdB f L p).1 / 100 ∧ u 7 c = (rdB f L p).1 / 10 % 10 ∧ u 8 c = (rdB f L p).1 % 10 ∧ (rdB f L p).2 ≤ L)
    rw [eB, eg, z1]
    exact ez
  · have eB : rdB f L p = (-100 - p, p) := if_pos q
    rw [eB]
    refine ⟨fun _ => ?_, fun z => by dsimp only at z; omega⟩
    rw [ff_no T p0 hL h (by rw [e6]; decide) fun w k => ?_]
    · show p = -100 - (-100 - p); omega
    · rcases k with k | k | k | k | k | k
      · exact q ⟨w, k.2⟩
      · have := k.1; omega
      · have := k.1; omega
      · have := k.1; omega
      · have := k.1; omega
      · have := k.1; omega
def Ent (f : Int → Int) (L : Int) (u : HV) : Nat → Int → Int → Prop
  | 0, _, _ => True
  | n + 1, c, p => (u 6 c = bA f L p ∧ u 7 c = bN f L p ∧ u 8 c = bP f L p) ∧ Ent f L u n (c + 1) ((rdB f L p).2 + 1)
theorem ff_A {L : Int} {f : Int → Int} (hL : L ≤ 60) : ∀ (k : Nat) (p c : Int) (t : HV), TK L f t → t 4 6 = 0 → t 4 5 = c → 0 ≤ c → 6 * c ≤ p → p ≤ L → L + 1 ≤ p + 5 * k →
    ((rdA f L k p c).1 < 0 → (ffN (L - p).toNat p t).1 = -100 - (rdA f L k p c).1) ∧
    (0 ≤ (rdA f L k p c).1 → (ffN (L - p).toNat p t).1 = -1000005 ∧ (ffN (L - p).toNat p t).2 4 5 = (rdA f L k p c).1 ∧ c ≤ (rdA f L k p c).1 ∧ Ent f L (ffN (L - p).toNat p t).2 ((rdA f L k p c).1 - c).toNat c p)
  | 0, p, c, t, T, e6, e5, c0, c1, hp, hk => by omega
  | k + 1, p, c, t, T, e6, e5, c0, c1, hp, hk => by
    have zb := ff_B T (by omega) hL hp e6 e5 c0 c1
    have rb := rdB_r (f := f) (L := L) (p := p) hL ⟨by omega, by omega⟩
    unfold rdA
    by_cases a : (rdB f L p).1 < 0
    · rw [if_pos a]
      exact ⟨zb.1, fun z => by omega⟩
    rw [if_neg a]
    have r5 := rb.2.2.2.2 (by omega)
    obtain ⟨u, z1, z2, z3, z4, z5, z6, z7, z8⟩ := zb.2 (by omega)
    rw [z1]
    by_cases b : nx f L (rdB f L p).2 59 59
    · rw [if_pos b]
      have b2 : (rdB f L p).2 < L ∧ 59 ≤ f (rdB f L p).2 ∧ f (rdB f L p).2 ≤ 59 := b
      have e59 : f (rdB f L p).2 = 59 := by omega
      rw [ff_go z2 (by omega) hL b2.1 (Or.inr (Or.inr (Or.inr (Or.inr (Or.inr ⟨z3, e59⟩)))))]
      have x1 : xA u (f (rdB f L p).2) = xMv u 0 := by rw [xA_5 z3, if_pos e59]
      have y5 : xA u (f (rdB f L p).2) 4 5 = c + 1 := by
        rw [x1]; show up1 (u 4) 6 0 5 = c + 1
        rw [up1_ne (by decide)]; exact z4
      have ih := ff_A hL k ((rdB f L p).2 + 1) (c + 1) (xA u (f (rdB f L p).2)) z2.mv (by
        rw [x1]; show up1 (u 4) 6 0 6 = 0; exact up1_same) y5 (by omega) (by omega) (by omega) (by omega)
      refine ⟨ih.1, fun z => ?_⟩
      obtain ⟨i1, i2, i3, i4⟩ := ih.2 z
      have old := ffN_old (L - ((rdB f L p).2 + 1)).toNat ((rdB f L p).2 + 1) (t := xA u (f (rdB f L p).2)) (j := c) (by omega)
      have w6 : xA u (f (rdB f L p).2) 6 = u 6 := by rw [x1]; rfl
      have w7 : xA u (f (rdB f L p).2) 7 = u 7 := by rw [x1]; rfl
      have w8 : xA u (f (rdB f L p).2) 8 = u 8 := by rw [x1]; rfl
      refine ⟨i1, i2, by omega, ?_⟩
      rw [show ((rdA f L k ((rdB f L p).2 + 1) (c + 1)).1 - c).toNat = ((rdA f L k ((rdB f L p).2 + 1) (c + 1)).1 - (c + 1)).toNat + 1 by omega]
      exact ⟨⟨by rw [old.1, w6]; exact z5, by rw [old.2.1, w7]; exact z6, by rw [old.2.2, w8]; exact z7⟩, i4⟩
    · rw [if_neg b]
      by_cases d : (rdB f L p).2 < L
      · rw [if_pos d]
        refine ⟨fun _ => ?_, fun z => by dsimp only at z; omega⟩
        have e : u 5 (rdB f L p).2 = f (rdB f L p).2 := z2.2 _ (by omega) (by omega)
        rw [show (L - (rdB f L p).2).toNat = (L - ((rdB f L p).2 + 1)).toNat + 1 by omega, ffN_f (fun k => ?_)]
        · show (rdB f L p).2 = -100 - (-100 - (rdB f L p).2); omega
        · rw [e] at k
          rcases k with k | k | k | k | k | k
          · have := k.1; omega
          · have := k.1; omega
          · have := k.1; omega
          · have := k.1; omega
          · have := k.1; omega
          · exact b ⟨d, by have := k.2; omega, by have := k.2; omega⟩
      · rw [if_neg d]
        refine ⟨fun z => by dsimp only at z; omega, fun _ => ?_⟩
        rw [ffN_0 (by omega), if_pos z3]
        refine ⟨rfl, z4, by dsimp only; omega, ?_⟩
        show Ent f L u (c + 1 - c).toNat c p
        rw [show (c + 1 - c).toNat = 1 by omega]
        exact ⟨⟨z5, z6, z7⟩, trivial⟩
theorem sim_ff {hs : Nat → HV} {tp md : HV} (S : SIM hs tp md) : ((rdAll (md 5) (md 0 7)).1 < 0 → (ff tp).1 = -100 - (rdAll (md 5) (md 0 7)).1) ∧
    (0 ≤ (rdAll (md 5) (md 0 7)).1 → (ff tp).1 = -1000005 ∧ (ff tp).2 4 5 = (rdAll (md 5) (md 0 7)).1 ∧ Ent (md 5) (md 0 7) (ff tp).2 (rdAll (md 5) (md 0 7)).1.toNat 0 0) := by
  have T := S.2.2.2.2
  have hl := T.1.1
  have z := ff_A (L := md 0 7) (f := md 5) (by have := T.2.1; omega) 61 0 0 (ff0 tp) ⟨T.2.1, T.2.2.1⟩ (by show up1 (up1 (tp 4) 5 0) 6 0 6 = 0; exact up1_same) (by
    show up1 (up1 (tp 4) 5 0) 6 0 5 = 0
    rw [up1_ne (by decide), up1_same]) (Int.le_refl _) (by decide) (by have := T.2.1; omega) (by have := T.2.1; omega)
  have e : ffN (md 0 7 - 0).toNat 0 (ff0 tp) = ff tp := by
    unfold ff; rw [Int.sub_zero, ← T.2.1]
  rw [e] at z
  refine ⟨z.1, fun w => ?_⟩
  obtain ⟨a, b, _, d⟩ := z.2 w
  rw [Int.sub_zero] at d
  exact ⟨a, b, d⟩
theorem sim_rd {hs : Nat → HV} {tp md : HV} (S : SIM hs tp md) : -161 ≤ (rdAll (md 5) (md 0 7)).1 ∧ 0 ≤ (rdAll (md 5) (md 0 7)).2 ∧ (rdAll (md 5) (md 0 7)).2 ≤ 61 := by
  have a := rdA_r (f := md 5) (L := md 0 7) S.tx.1.2 61 0 0 ⟨by decide, by decide⟩ (by decide)
  exact ⟨a.1, a.2.2⟩
theorem sim_read {hs hs' : Nat → HV} {tp md md' : HV} (S : SIM hs tp md) (a : ∀ k, k ≠ 1 → hs' k = hs k) (a1 : RG 200000 (hs' 1)) (c : (∀ i, 0 ≤ i → i < 2739 → md' 1 i = md 1 i) ∧ md' 2 = md 2 ∧ md' 4 = md 4 ∧ md' 5 = md 5 ∧ md' 0 6 = md 0 6 ∧ md' 0 7 = md 0 7 ∧ md' 0 8 = md 0 8) (c2 : 0 ≤ md' 0 5 ∧ md' 0 5 ≤ 61) : SIM hs' (ff tp).2 md' := by
  have r := ffN_row (tp 4 1).toNat 0 (t := ff0 tp)
  have q : ∀ k, k < 4 → (ff tp).2 k = tp k := fun k hk => (ffN_rows (tp 4 1).toNat 0 (t := ff0 tp) hk).trans (show ff0 tp k = tp k from upr_ne (by omega))
  exact S.oth a a1 ⟨congrFun (q 0 (by decide)) 3, q 2 (by decide), q 3 (by decide), r.1, r.2⟩ (TG_ff S.2.2.2.2.1) c c2
theorem sim_fault {hs : Nat → HV} {tp md : HV} (S : SIM hs tp md) : (ff tp).1 = (yFault md (md 1)).1 ∧ SIM hs (ff tp).2 (yFault md (md 1)).2 := by
  have z := sim_ff S
  have r := sim_rd S
  unfold yFault
  constructor
  · by_cases c : (rdAll (md 5) (md 0 7)).1 < 0
    · rw [z.1 c, if_pos c]
    · rw [(z.2 (by omega)).1, if_neg c]
  · refine sim_read S (fun _ _ => rfl) (S.1 1 (by decide)) ⟨fun _ _ _ => rfl, rfl, rfl, rfl, ?_, ?_, ?_⟩ ?_
    · show up1 (md 0) 5 (rdAll (md 5) (md 0 7)).2 6 = _; exact up1_ne (by decide)
    · show up1 (md 0) 5 (rdAll (md 5) (md 0 7)).2 7 = _; exact up1_ne (by decide)
    · show up1 (md 0) 5 (rdAll (md 5) (md 0 7)).2 8 = _; exact up1_ne (by decide)
    · show 0 ≤ up1 (md 0) 5 (rdAll (md 5) (md 0 7)).2 5 ∧ up1 (md 0) 5 (rdAll (md 5) (md 0 7)).2 5 ≤ 61
      rw [up1_same]; exact r.2
theorem ba_eq {f : Int → Int} {L t : Int} {u : HV} (ht : t ≤ 999) : ∀ (n : Nat) (i p : Int) (g : HV) (q : Int → Int), PS t g q → Ent f L u n i p → (baN u n i g).1 = (mBa f L n p q).1 ∧ RG 200000 (baN u n i g).2
  | 0, i, p, g, q, P, _ => ⟨rfl, P.rg⟩
  | n + 1, i, p, g, q, P, E => by
    have e := ans_err P.2.2.1 P.2.2.2.1 P.2.2.2.2.1 (a := bA f L p) (n := bN f L p) (p := bP f L p)
    obtain ⟨⟨e1, e2, e3⟩, E2⟩ := E
    by_cases c : bErr g (bA f L p) (bN f L p) (bP f L p) = 0
    · have cm : ¬ mErr q (bA f L p) (bN f L p) (bP f L p) < 0 := by rw [← e, c]; decide
      rw [baN_t (by rw [e1, e2, e3]; exact c), e1, e2, e3]
      unfold mBa
      rw [if_neg cm]
      exact ba_eq ht n (i + 1) _ _ _ (P.add ht c) E2
    · have cm : mErr q (bA f L p) (bN f L p) (bP f L p) < 0 := by
        rw [← e]; have := bErr_r (h := g) (a := bA f L p) (n := bN f L p) (p := bP f L p); omega
      rw [baN_f (by rw [e1, e2, e3]; exact c), e1, e2, e3]
      unfold mBa
      rw [if_pos cm]
      exact ⟨e, P.rg⟩
theorem bb_eq {f : Int → Int} {L t : Int} {u : HV} (ht : t ≤ 999) : ∀ (n : Nat) (i p : Int) (g : HV) (q : Int → Int), PS t g q → Ent f L u n i p → (baN u n i g).1 = 0 → PS t (baN u n i g).2 (mBb f L n p q).2
  | 0, i, p, g, q, P, _, _ => P
  | n + 1, i, p, g, q, P, E, h => by
    obtain ⟨⟨e1, e2, e3⟩, E2⟩ := E
    by_cases c : bErr g (bA f L p) (bN f L p) (bP f L p) = 0
    · rw [baN_t (by rw [e1, e2, e3]; exact c), e1, e2, e3] at h ⊢
      unfold mBb
      exact bb_eq ht n (i + 1) _ _ _ (P.add ht c) E2 h
    · rw [baN_f (by rw [e1, e2, e3]; exact c), e1, e2, e3] at h
      exact absurd h c
theorem mBa_p {f : Int → Int} {L : Int} (hL : L ≤ 60) : ∀ (n : Nat) (p : Int) (q : Int → Int), 0 ≤ p ∧ p ≤ 61 → rdC f L n p → 0 ≤ (mBa f L n p q).2.1 ∧ (mBa f L n p q).2.1 ≤ 61
  | 0, p, q, p0, _ => p0
  | n + 1, p, q, p0, C => by
    have rb := rdB_r (f := f) hL p0
    have r5 := rb.2.2.2.2 C.1
    unfold mBa
    split
    · dsimp only; omega
    · exact mBa_p hL n _ _ ⟨by omega, by omega⟩ C.2
theorem mBb_p {f : Int → Int} {L : Int} (hL : L ≤ 60) : ∀ (n : Nat) (p : Int) (q : Int → Int), 0 ≤ p ∧ p ≤ 61 → rdC f L n p → 0 ≤ (mBb f L n p q).1 ∧ (mBb f L n p q).1 ≤ 61
  | 0, p, q, p0, _ => p0
  | n + 1, p, q, p0, C => by
    have rb := rdB_r (f := f) hL p0
    have r5 := rb.2.2.2.2 C.1
    unfold mBb
    exact mBb_p hL n _ _ ⟨by omega, by omega⟩ C.2
theorem mBa_le {f : Int → Int} {L : Int} : ∀ (n : Nat) (p : Int) (q : Int → Int), (mBa f L n p q).1 ≤ 0
  | 0, p, q => Int.le_refl _
  | n + 1, p, q => by
    unfold mBa
    split
    · exact mErr_r.2
    · exact mBa_le n _ _
theorem mR0_1 {X : HV} {g : Int → Int} : mR0 (upr X 1 g) = upr (mR0 X) 1 g := by
  show (if X 0 6 = 4 then upr (upr (upr X 1 g) 4 (shS (X 4) 8217)) 0 (up1 (X 0) 6 (X 0 6 - 1)) else upr X 1 g) = _
  unfold mR0
  by_cases c : X 0 6 = 4
  · rw [if_pos c, if_pos c]; exact upr_mv (by decide) (by decide)
  · rw [if_neg c, if_neg c]
theorem mRec_1 {X : HV} {g r q : Int → Int} : upr (mRec (upr X 1 g) r) 1 q = upr (mRec X r) 1 q := by
  have e : mRec (upr X 1 g) r = upr (mRec X r) 1 g := by
    unfold mRec
    rw [mR0_1]
    exact upr_mv (by decide) (by decide)
  rw [e, upr_upr]
theorem SIM.pl {hs : Nat → HV} {tp Y : HV} {r : Int → Int} {p : Int} (S : SIM hs tp (upr Y 1 r)) (p0 : 0 ≤ p ∧ p ≤ 61) : SIM hs tp (upr (mPl Y p) 1 r) := by
  refine S.oth (fun _ _ => rfl) (S.1 1 (by decide)) ⟨rfl, rfl, rfl, rfl, rfl⟩ S.2.2.2.2.1 ⟨fun _ _ _ => rfl, rfl, rfl, rfl, ?_, ?_, ?_⟩ ?_
  · show up1 (Y 0) 5 p 6 = _; exact up1_ne (by decide)
  · show up1 (Y 0) 5 p 7 = _; exact up1_ne (by decide)
  · show up1 (Y 0) 5 p 8 = _; exact up1_ne (by decide)
  · show 0 ≤ up1 (Y 0) 5 p 5 ∧ up1 (Y 0) 5 p 5 ≤ 61
    rw [up1_same]; exact p0
theorem sim_bookAll {hs : Nat → HV} {tp md : HV} (S : SIM hs tp md) : AG (xBookAll hs tp) (yBookAll md (md 1)) := by
  obtain ⟨t, t1, P⟩ := S.2.1
  have z := sim_ff S
  have r := sim_rd S
  have hL := S.tx.1.2
  unfold xBookAll yBookAll
  by_cases c : (rdAll (md 5) (md 0 7)).1 < 0
  · have e := z.1 c
    rw [if_pos (by rw [e]; omega), if_pos c]
    refine ⟨by show -100 - (ff tp).1 = _; rw [e]; omega, ?_⟩
    have f := (sim_fault S).2
    exact f
  · obtain ⟨e1, e2, E⟩ := z.2 (by omega)
    rw [if_neg (not_not_intro e1), if_neg c]
    obtain ⟨n, n1, C⟩ := rdA_c (f := md 5) (L := md 0 7) hL 61 0 0 ⟨by decide, by decide⟩ (by decide) (by omega) (by show 0 ≤ (rdAll (md 5) (md 0 7)).1; omega)
    have en : (rdAll (md 5) (md 0 7)).1.toNat = n := by
      have n1 : (rdAll (md 5) (md 0 7)).1 = 0 + (n : Int) := n1
      omega
    have P1 : PS t (hCp (hs 1) (hs 0)) (md 1) := P.cp (S.1 1 (by decide))
    have ab := ba_eq t1 (rdAll (md 5) (md 0 7)).1.toNat 0 0 _ _ P1 E
    have eA : bAll hs (ff tp).2 = baN (ff tp).2 (rdAll (md 5) (md 0 7)).1.toNat 0 (hCp (hs 1) (hs 0)) := by
      show baN (ff tp).2 ((ff tp).2 4 5).toNat 0 _ = _
      rw [e2]
    have pa := mBa_p hL (rdAll (md 5) (md 0 7)).1.toNat 0 (md 1) ⟨by decide, by decide⟩ (by rw [en]; exact C)
    have eG : ∀ i, 0 ≤ i → i < 2739 → aG md (md 1) i = md 1 i := fun i i0 i1 => by
      show cpI (mLay (mPl md (rdAll (md 5) (md 0 7)).2) (md 1) 3) (aB md (md 1)).2.2 2739 i = md 1 i
      have e : mLay (mPl md (rdAll (md 5) (md 0 7)).2) (md 1) 3 = cpI (md 1) (md 3) 2739 := upr_same
      rw [e, cpI_in i0 i1, cpI_in i0 i1]
    rw [eA]
    generalize hX : aX md (md 1) = X
    have S2 : SIM (putH hs 1 (baN (ff tp).2 (rdAll (md 5) (md 0 7)).1.toNat 0 (hCp (hs 1) (hs 0))).2) (ff tp).2 (upr (mPl X (aB md (md 1)).2.1) 1 (aG md (md 1))) := by
      rw [← hX]
      refine sim_read S (fun k hk => putH_ne hk) (by rw [putH_same]; exact ab.2) ⟨eG, rfl, rfl, rfl, ?_, ?_, ?_⟩ ?_
      · show up1 (up1 (md 0) 5 (rdAll (md 5) (md 0 7)).2) 5 (aB md (md 1)).2.1 6 = md 0 6
        rw [up1_ne (by decide), up1_ne (by decide)]
      · show up1 (up1 (md 0) 5 (rdAll (md 5) (md 0 7)).2) 5 (aB md (md 1)).2.1 7 = md 0 7
        rw [up1_ne (by decide), up1_ne (by decide)]
      · show up1 (up1 (md 0) 5 (rdAll (md 5) (md 0 7)).2) 5 (aB md (md 1)).2.1 8 = md 0 8
        rw [up1_ne (by decide), up1_ne (by decide)]
      · show 0 ≤ up1 (up1 (md 0) 5 (rdAll (md 5) (md 0 7)).2) 5 (aB md (md 1)).2.1 5 ∧ up1 (up1 (md 0) 5 (rdAll (md 5) (md 0 7)).2) 5 (aB md (md 1)).2.1 5 ≤ 61
        rw [up1_same]; exact pa
    by_cases d : (baN (ff tp).2 (rdAll (md 5) (md 0 7)).1.toNat 0 (hCp (hs 1) (hs 0))).1 = 0
    · have d2 : ¬ (aB md (md 1)).1 < 0 := by
        have : (aB md (md 1)).1 = 0 := ab.1.symm.trans d
        omega
      rw [if_neg (not_not_intro d), if_neg d2]
      refine ⟨e2, ?_⟩
      have PB := bb_eq t1 (rdAll (md 5) (md 0 7)).1.toNat 0 0 _ (aG md (md 1)) (P1.cg eG) E d
      have Q := S2.rec (h' := hCp (hs 0) (baN (ff tp).2 (rdAll (md 5) (md 0 7)).1.toNat 0 (hCp (hs 1) (hs 0))).2) (r' := (aC md (md 1)).2) ⟨t, t1, PB.cp (S.1 0 (by decide))⟩
      rw [mRec_1] at Q
      have pb := mBb_p hL (rdAll (md 5) (md 0 7)).1.toNat 0 (aG md (md 1)) ⟨by decide, by decide⟩ (by rw [en]; exact C)
      have Q2 := Q.pl (p := (aC md (md 1)).1) pb
      rw [← hX] at Q2
      exact Q2
    · have d2 : (aB md (md 1)).1 < 0 := by
        have a : (baN (ff tp).2 (rdAll (md 5) (md 0 7)).1.toNat 0 (hCp (hs 1) (hs 0))).1 = (aB md (md 1)).1 := ab.1
        have b : (aB md (md 1)).1 ≤ 0 := by
          show (mBa (md 5) (md 0 7) (rdAll (md 5) (md 0 7)).1.toNat 0 (md 1)).1 ≤ 0
          exact mBa_le _ _ _
        omega
      rw [if_pos d, if_pos d2]
      exact ⟨ab.1, S2⟩
