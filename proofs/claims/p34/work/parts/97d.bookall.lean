/-! ONE BOOKING OUT OF THE TEXT: d+nxp -/
theorem up1_cg {q r : Int → Int} (e : ∀ i, 0 ≤ i → i < 2739 → q i = r i) {a v : Int} : ∀ i, 0 ≤ i → i < 2739 → up1 q a v i = up1 r a v i := fun i i0 i1 => by
  unfold up1; split
  · rfl
  · exact e i i0 i1
theorem mAdd_cg {q r : Int → Int} (e : ∀ i, 0 ≤ i → i < 2739 → q i = r i) {a n p : Int} : ∀ i, 0 ≤ i → i < 2739 → mAdd q a n p i = mAdd r a n p i := fun i i0 i1 => by
  have e1 := e 1 (by decide) (by decide)
  have e14 := e 14 (by decide) (by decide)
  have e20 := e 20 (by decide) (by decide)
  show up1 (up1 (up1 (up1 (up1 (up1 (up1 (up1 (up1 q 1 (q 1 + 1)) (51 + 7 * (q 1) + 0) 0) (51 + 7 * (q 1) + 1) a) (51 + 7 * (q 1) + 2) n) (51 + 7 * (q 1) + 3) p) (51 + 7 * (q 1) + 4) 0) (51 + 7 * (q 1) + 5) (p * n * q 20)) (51 + 7 * (q 1) + 6) (-1000005)) 14 (q 14 + p * n * q 20) i = _
  rw [e1, e14, e20]
  exact up1_cg (up1_cg (up1_cg (up1_cg (up1_cg (up1_cg (up1_cg (up1_cg (up1_cg e)))))))) i i0 i1
section FIVE
variable {f : Int → Int} {d n p : Int} (d0 : 0 ≤ d ∧ d ≤ 9) (n0 : 1 ≤ n ∧ n ≤ 9) (p0 : 1 ≤ p ∧ p ≤ 9) (e0 : f 0 = 48 + d) (e1 : f 1 = 43) (e2 : f 2 = 48 + n) (e3 : f 3 = 120) (e4 : f 4 = 48 + p)
theorem rdB_5 (d0 : 0 ≤ d ∧ d ≤ 9) (n0 : 1 ≤ n ∧ n ≤ 9) (p0 : 1 ≤ p ∧ p ≤ 9) (e0 : f 0 = 48 + d) (e1 : f 1 = 43) (e2 : f 2 = 48 + n) (e3 : f 3 = 120) (e4 : f 4 = 48 + p) : rdB f 5 0 = (100 * d + 10 * n + p, 5) := by
  have a0 : nx f 5 0 48 57 := ⟨by decide, by omega, by omega⟩
  have q : rdQ f 5 0 = (d, 1) := by
    show rdD f 5 60 (f 0 - 48) (0 + 1) = _
    rw [rdD_stop (fun h => by have h2 : 48 ≤ f 1 := h.2.1.2.1; omega), e0]
    exact congrArg (fun z => (z, (1 : Int))) (by omega)
  unfold rdB
  rw [if_neg (not_not_intro a0), q]
  show rdE f 5 d 1 = _
  have a1 : nx f 5 1 43 43 := ⟨by decide, by omega, by omega⟩
  have a2 : nx f 5 (1 + 1) 49 57 := ⟨by decide, by show 49 ≤ f 2; omega, by show f 2 ≤ 57; omega⟩
  have a3 : nx f 5 (1 + 1 + 1) 120 120 := ⟨by decide, by show 120 ≤ f 3; omega, by show f 3 ≤ 120; omega⟩
  have a4 : nx f 5 (1 + 1 + 1 + 1) 49 57 := ⟨by decide, by show 49 ≤ f 4; omega, by show f 4 ≤ 57; omega⟩
  unfold rdE
  rw [if_neg (not_not_intro a1), if_neg (not_not_intro a2), if_neg (not_not_intro a3), if_neg (not_not_intro a4)]
  show (100 * d + 10 * (f 2 - 48) + (f 4 - 48), (5 : Int)) = _
  rw [e2, e4]
  exact congrArg (fun z => (z, (5 : Int))) (by omega)
theorem rdAll_5 (d0 : 0 ≤ d ∧ d ≤ 9) (n0 : 1 ≤ n ∧ n ≤ 9) (p0 : 1 ≤ p ∧ p ≤ 9) (e0 : f 0 = 48 + d) (e1 : f 1 = 43) (e2 : f 2 = 48 + n) (e3 : f 3 = 120) (e4 : f 4 = 48 + p) : rdAll f 5 = (1, 5) := by
  have b := rdB_5 d0 n0 p0 e0 e1 e2 e3 e4
  show rdA f 5 (60 + 1) 0 0 = _
  unfold rdA
  rw [b, if_neg (show ¬ (100 * d + 10 * n + p, (5 : Int)).1 < 0 by show ¬ 100 * d + 10 * n + p < 0; omega), if_neg (show ¬ nx f 5 ((100 * d + 10 * n + p, (5 : Int))).2 59 59 from fun h => absurd h.1 (by show ¬ (5 : Int) < 5; decide)), if_neg (show ¬ ((100 * d + 10 * n + p, (5 : Int))).2 < 5 by show ¬ (5 : Int) < 5; decide)]
  rfl
theorem mBa_1 {L q : Int} {g : Int → Int} : mBa f L 1 q g = if mErr g (bA f L q) (bN f L q) (bP f L q) < 0 then (mErr g (bA f L q) (bN f L q) (bP f L q), (rdB f L q).2, g) else (0, (rdB f L q).2 + 1, mAdd g (bA f L q) (bN f L q) (bP f L q)) := rfl
theorem mBb_1 {L q : Int} {g : Int → Int} : mBb f L 1 q g = ((rdB f L q).2 + 1, mAdd g (bA f L q) (bN f L q) (bP f L q)) := rfl
end FIVE
theorem l_bookAll {hs : Nat → HV} {tp : HV} {r f : Int → Int} {k : Int} {E : HE} (hE : HI E) {d n p : Int} (S : HLX hs tp r k 5 f) (d0 : 0 ≤ d ∧ d ≤ 9) (n0 : 1 ≤ n ∧ n ≤ 9) (p0 : 1 ≤ p ∧ p ≤ 9) (e0 : f 0 = 48 + d) (e1 : f 1 = 43) (e2 : f 2 = 48 + n) (e3 : f 3 = 120) (e4 : f 4 = 48 + p) :
    ∃ v hs' tp', Mt yX6_bookAll cX6_bookAll 4 (some .int) 6 E [.ref (tA E 0)] hs tp zM (some (vI v)) hs' tp' zM ∧ AR (zAll r d n p) r k v hs' tp' := by
  obtain ⟨md, S, rfl, rfl, hL, hf⟩ := S
  have h := sim_bookAll S
  have f0 : md 5 0 = 48 + d := (hf 0 (by decide) (by decide)).trans e0
  have f1 : md 5 1 = 43 := (hf 1 (by decide) (by decide)).trans e1
  have f2 : md 5 2 = 48 + n := (hf 2 (by decide) (by decide)).trans e2
  have f3 : md 5 3 = 120 := (hf 3 (by decide) (by decide)).trans e3
  have f4 : md 5 4 = 48 + p := (hf 4 (by decide) (by decide)).trans e4
  have b : rdB (md 5) (md 0 7) 0 = (100 * d + 10 * n + p, 5) := by rw [hL]; exact rdB_5 d0 n0 p0 f0 f1 f2 f3 f4
  have a : rdAll (md 5) (md 0 7) = (1, 5) := by rw [hL]; exact rdAll_5 d0 n0 p0 f0 f1 f2 f3 f4
  have bA0 : bA (md 5) (md 0 7) 0 = d := by show (rdB (md 5) (md 0 7) 0).1 / 100 = d; rw [b]; show (100 * d + 10 * n + p) / 100 = d; omega
  have bN0 : bN (md 5) (md 0 7) 0 = n := by show (rdB (md 5) (md 0 7) 0).1 / 10 % 10 = n; rw [b]; show (100 * d + 10 * n + p) / 10 % 10 = n; omega
  have bP0 : bP (md 5) (md 0 7) 0 = p := by show (rdB (md 5) (md 0 7) 0).1 % 10 = p; rw [b]; show (100 * d + 10 * n + p) % 10 = p; omega
  have eB : (aB md (md 1)).1 = if mErr (md 1) d n p < 0 then mErr (md 1) d n p else 0 := by
    show (mBa (md 5) (md 0 7) (rdAll (md 5) (md 0 7)).1.toNat 0 (md 1)).1 = _
    rw [a]
    show (mBa (md 5) (md 0 7) 1 0 (md 1)).1 = _
    rw [mBa_1, bA0, bN0, bP0]; split <;> rfl
  have eC : (aC md (md 1)).2 = mAdd (aG md (md 1)) d n p := by
    show (mBb (md 5) (md 0 7) (rdAll (md 5) (md 0 7)).1.toNat 0 (aG md (md 1))).2 = _
    rw [a]
    show (mBb (md 5) (md 0 7) 1 0 (aG md (md 1))).2 = _
    rw [mBb_1, bA0, bN0, bP0]
  have eG : ∀ i, 0 ≤ i → i < 2739 → aG md (md 1) i = md 1 i := fun i i0 i1 => by
    show cpI (aX md (md 1) 3) _ 2739 i = _
    have e : aX md (md 1) 3 = cpI (md 1) (mPl md (rdAll (md 5) (md 0 7)).2 3) 2739 := upr_same
    rw [cpI_in i0 i1, e, cpI_in i0 i1]
  have e6 : ∀ q, mPl (aX md (md 1)) q 0 6 = md 0 6 := fun q => by
    show up1 (aX md (md 1) 0) 5 q 6 = _
    rw [up1_ne (by decide)]
    show up1 (md 0) 5 (rdAll (md 5) (md 0 7)).2 6 = _
    rw [up1_ne (by decide)]
  have nr : ¬ (rdAll (md 5) (md 0 7)).1 < 0 := by rw [a]; decide
  unfold zAll
  by_cases c : mErr (md 1) d n p < 0
  · have e : yBookAll md (md 1) = ((aB md (md 1)).1, upr (mPl (aX md (md 1)) (aB md (md 1)).2.1) 1 (aG md (md 1))) := (if_neg nr).trans (if_pos (by rw [eB, if_pos c]; exact c))
    rw [e] at h
    refine ⟨_, _, _, (m_X6_bookAll (md := zM) hE S.r0 S.sg S.tg S.r1), ?_⟩
    rw [if_pos c]
    have h3 := HLS.m1 (md := mPl (aX md (md 1)) (aB md (md 1)).2.1) (g := aG md (md 1)) h.2
    rw [e6] at h3
    exact ⟨h.1.trans (by show (aB md (md 1)).1 = _; rw [eB, if_pos c]), h3.cg fun i i0 i1 => (eG i i0 i1).symm⟩
  · have e : yBookAll md (md 1) = ((rdAll (md 5) (md 0 7)).1, upr (mPl (aY md (md 1)) (aC md (md 1)).1) 1 (aC md (md 1)).2) := (if_neg nr).trans (if_neg (by rw [eB, if_neg c]; decide))
    rw [e] at h
    refine ⟨_, _, _, (m_X6_bookAll (md := zM) hE S.r0 S.sg S.tg S.r1), ?_⟩
    rw [if_neg c]
    have k0 := S.k0
    refine ⟨h.1.trans (by show (rdAll (md 5) (md 0 7)).1 = _; rw [a]), HLU.cg (r := mAdd (aG md (md 1)) d n p) (r0 := aG md (md 1)) ⟨_, h.2, eC, ?_, kR_1 k0.1, fun i i0 i1 => ?_⟩ (fun i i0 i1 => (mAdd_cg eG i i0 i1).symm) fun i i0 i1 => (eG i i0 i1).symm⟩
    · show up1 (aY md (md 1) 0) 5 (aC md (md 1)).1 6 = _
      rw [up1_ne (by decide)]
      show mRec (mPl (aX md (md 1)) (aB md (md 1)).2.1) (aG md (md 1)) 0 6 = _
      rw [mRec_6, e6]
    · show mRec (mPl (aX md (md 1)) (aB md (md 1)).2.1) (aG md (md 1)) 4 (2739 * (kR (md 0 6) - 1) + i) = _
      have z := mRec_4 (md := mPl (aX md (md 1)) (aB md (md 1)).2.1) (r := aG md (md 1)) i0 i1
      rw [e6] at z; exact z
