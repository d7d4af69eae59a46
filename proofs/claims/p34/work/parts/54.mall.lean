/-! ALL BOOKINGS OF THE TEXT -/
theorem mPl_id {md : HV} : mPl md (md 0 5) = md := by
  show upr md 0 (up1 (md 0) 5 (md 0 5)) = md
  rw [up1_id, upr_id]
theorem mPl_mv {md : HV} {r : Int → Int} {q : Int} : mPl (upr md 1 r) q = upr (mPl md q) 1 r := upr_cm (by decide)
theorem mPl_w {md : HV} {r : Int → Int} {p q : Int} : upr (upr (mPl md p) 1 r) 0 (up1 (mPl md p 0) 5 q) = upr (mPl md q) 1 r :=
  (upr_cm (by decide)).trans (congrArg (fun z => upr z 1 r) upr_ww)
def rdC (f : Int → Int) (L : Int) : Nat → Int → Prop
  | 0, _ => True
  | n + 1, p => 0 ≤ (rdB f L p).1 ∧ rdC f L n ((rdB f L p).2 + 1)
theorem rdA_c {f : Int → Int} {L : Int} (hL : L ≤ 60) : ∀ (k : Nat) (p c : Int), 0 ≤ p ∧ p ≤ 61 → 0 ≤ c → L + 1 ≤ p + 5 * k → 0 ≤ (rdA f L k p c).1 → ∃ n : Nat, (rdA f L k p c).1 = c + n ∧ rdC f L n p
  | 0, p, c, p0, c0, hk, h => ⟨0, by show c = c + ((0 : Nat) : Int); omega, trivial⟩
  | k + 1, p, c, p0, c0, hk, h => by
    have rb := rdB_r (f := f) hL p0
    unfold rdA at h ⊢
    by_cases a : (rdB f L p).1 < 0
    · rw [if_pos a] at h; omega
    rw [if_neg a] at h ⊢
    have r5 := rb.2.2.2.2 (by omega)
    by_cases b : nx f L (rdB f L p).2 59 59
    · rw [if_pos b] at h ⊢
      have b1 : (rdB f L p).2 < L := b.1
      obtain ⟨n, e1, e2⟩ := rdA_c (f := f) hL k ((rdB f L p).2 + 1) (c + 1) ⟨by omega, by omega⟩ (by omega) (by omega) h
      exact ⟨n + 1, by rw [e1]; omega, ⟨by omega, e2⟩⟩
    · rw [if_neg b] at h ⊢
      by_cases d : (rdB f L p).2 < L
      · rw [if_pos d] at h; dsimp only at h; omega
      · rw [if_neg d]; exact ⟨1, by show c + 1 = c + ((1 : Nat) : Int); omega, ⟨by omega, trivial⟩⟩
theorem rdA_r {f : Int → Int} {L : Int} (hL : L ≤ 60) : ∀ (k : Nat) (p c : Int), 0 ≤ p ∧ p ≤ 61 → 0 ≤ c → -161 ≤ (rdA f L k p c).1 ∧ (rdA f L k p c).1 ≤ c + k ∧ 0 ≤ (rdA f L k p c).2 ∧ (rdA f L k p c).2 ≤ 61
  | 0, p, c, p0, c0 => by show -161 ≤ c ∧ c ≤ c + ((0 : Nat) : Int) ∧ 0 ≤ p ∧ p ≤ 61; omega
  | k + 1, p, c, p0, c0 => by
    have rb := rdB_r (f := f) hL p0
    unfold rdA
    by_cases a : (rdB f L p).1 < 0
    · rw [if_pos a]; omega
    rw [if_neg a]
    by_cases b : nx f L (rdB f L p).2 59 59
    · rw [if_pos b]
      have b1 : (rdB f L p).2 < L := b.1
      have e := rdA_r (f := f) hL k ((rdB f L p).2 + 1) (c + 1) ⟨by omega, by omega⟩ (by omega)
      omega
    · rw [if_neg b]
      by_cases d : (rdB f L p).2 < L
      · rw [if_pos d]; dsimp only; omega
      · rw [if_neg d]; dsimp only; omega
theorem mR0_x {md : HV} : mR0 md 5 = md 5 ∧ mR0 md 0 7 = md 0 7 ∧ mR0 md 0 5 = md 0 5 ∧ mR0 md 0 8 = md 0 8 := by
  unfold mR0; split
  · exact ⟨rfl, rfl, rfl, rfl⟩
  · exact ⟨rfl, rfl, rfl, rfl⟩
theorem mRec_x {md : HV} {r : Int → Int} : mRec md r 5 = md 5 ∧ mRec md r 0 7 = md 0 7 ∧ mRec md r 0 5 = md 0 5 ∧ mRec md r 0 8 = md 0 8 :=
  ⟨mR0_x.1, mR0_x.2.1, mR0_x.2.2.1, mR0_x.2.2.2⟩
abbrev bA (f : Int → Int) (L p : Int) : Int := (rdB f L p).1 / 100
abbrev bN (f : Int → Int) (L p : Int) : Int := (rdB f L p).1 / 10 % 10
abbrev bP (f : Int → Int) (L p : Int) : Int := (rdB f L p).1 % 10
def mBa (f : Int → Int) (L : Int) : Nat → Int → (Int → Int) → Int × Int × (Int → Int)
  | 0, p, g => (0, p, g)
  | n + 1, p, g => if mErr g (bA f L p) (bN f L p) (bP f L p) < 0 then (mErr g (bA f L p) (bN f L p) (bP f L p), (rdB f L p).2, g) else mBa f L n ((rdB f L p).2 + 1) (mAdd g (bA f L p) (bN f L p) (bP f L p))
def mBb (f : Int → Int) (L : Int) : Nat → Int → (Int → Int) → Int × (Int → Int)
  | 0, p, g => (p, g)
  | n + 1, p, g => mBb f L n ((rdB f L p).2 + 1) (mAdd g (bA f L p) (bN f L p) (bP f L p))
abbrev aX (md : HV) (r : Int → Int) : HV := mLay (mPl md (rdAll (md 5) (md 0 7)).2) r
abbrev aB (md : HV) (r : Int → Int) : Int × Int × (Int → Int) := mBa (md 5) (md 0 7) (rdAll (md 5) (md 0 7)).1.toNat 0 r
abbrev aG (md : HV) (r : Int → Int) : Int → Int := cpI (aX md r 3) (aB md r).2.2 2739
abbrev aY (md : HV) (r : Int → Int) : HV := mRec (mPl (aX md r) (aB md r).2.1) (aG md r)
abbrev aC (md : HV) (r : Int → Int) : Int × (Int → Int) := mBb (md 5) (md 0 7) (rdAll (md 5) (md 0 7)).1.toNat 0 (aG md r)
def yBookAll (md : HV) (r : Int → Int) : OPM := if (rdAll (md 5) (md 0 7)).1 < 0 then ((rdAll (md 5) (md 0 7)).1, upr (mPl md (rdAll (md 5) (md 0 7)).2) 1 r) else
  if (aB md r).1 < 0 then ((aB md r).1, upr (mPl (aX md r) (aB md r).2.1) 1 (aG md r)) else ((rdAll (md 5) (md 0 7)).1, upr (mPl (aY md r) (aC md r).1) 1 (aC md r).2)
def yFault (md : HV) (r : Int → Int) : OPM := (if (rdAll (md 5) (md 0 7)).1 < 0 then -100 - (rdAll (md 5) (md 0 7)).1 else -1000005, upr (mPl md (rdAll (md 5) (md 0 7)).2) 1 r)
