/-! NIGHTS, both sides: the row of nights, the share in use, the first free day, the fullest night -/
theorem sumN_plus {f g : Int → Int} : ∀ n : Nat, sumN (fun b => f b + g b) n = sumN f n + sumN g n
  | 0 => rfl
  | n + 1 => by
    show sumN (fun b => f b + g b) n + (f n + g n) = (sumN f n + f n) + (sumN g n + g n)
    rw [sumN_plus n]; omega
theorem sumI_plus {f g : Int → Int} {n : Int} : sumI (fun b => f b + g b) n = sumI f n + sumI g n := sumN_plus _
theorem sum_swap {F : Int → Int → Int} {m n : Int} (m0 : 0 ≤ m) : sumI (fun q => sumI (F q) n) m = sumI (fun b => sumI (fun q => F q b) m) n :=
  foldI_iv (f := fun (_ : Int) (_ : Unit) => ()) (x := ()) m0 (fun k _ => sumI (fun q => sumI (F q) n) k = sumI (fun b => sumI (fun q => F q b) k) n) (by
    rw [sumI_0]; exact (sumI_z fun k _ _ => sumI_0).symm) fun k _ k0 _ e => by
    rw [sumI_s k0, e, ← sumI_plus]
    exact sumI_cg fun b _ _ => (sumI_s (f := fun q => F q b) k0).symm
theorem sum_span {c : Prop} [Decidable c] {a e x p m : Int} (m0 : 0 ≤ m) : sumI (fun q => if c ∧ a ≤ x + q ∧ x + q ≤ e - 1 then p else 0) m = if c ∧ 0 < (if e ≤ x + m then e else x + m) - (if a < x then x else a) then ((if e ≤ x + m then e else x + m) - (if a < x then x else a)) * p else 0 :=
  foldI_iv (f := fun (_ : Int) (_ : Unit) => ()) (x := ()) m0 (fun k _ => sumI (fun q => if c ∧ a ≤ x + q ∧ x + q ≤ e - 1 then p else 0) k = if c ∧ 0 < (if e ≤ x + k then e else x + k) - (if a < x then x else a) then ((if e ≤ x + k then e else x + k) - (if a < x then x else a)) * p else 0) (by
    rw [sumI_0, if_neg (fun w => by have := w.2; split at this <;> split at this <;> omega)]) fun k _ k0 _ e1 => by
    rw [sumI_s k0, e1]
    generalize hM : (if a < x then x else a) = M
    have hM1 : a ≤ M ∧ x ≤ M ∧ (M = a ∨ M = x) := by rw [← hM]; split <;> omega
    by_cases hc : c
    · by_cases h1 : a ≤ x + k ∧ x + k ≤ e - 1
      · rw [if_pos (⟨hc, h1⟩ : c ∧ a ≤ x + k ∧ x + k ≤ e - 1), if_neg (show ¬ e ≤ x + k by omega)]
        have e2 : (if e ≤ x + (k + 1) then e else x + (k + 1)) = x + k + 1 := by split <;> omega
        rw [e2, if_pos (⟨hc, by omega⟩ : c ∧ 0 < x + k + 1 - M), show x + k + 1 - M = (x + k - M) + 1 by omega, Int.add_mul, Int.one_mul]
        by_cases h2 : 0 < x + k - M
        · rw [if_pos (⟨hc, h2⟩ : c ∧ 0 < x + k - M)]
        · rw [if_neg (fun w : c ∧ 0 < x + k - M => h2 w.2), show x + k - M = 0 by omega, Int.zero_mul]
      · rw [if_neg (fun w : c ∧ a ≤ x + k ∧ x + k ≤ e - 1 => h1 w.2), Int.add_zero]
        by_cases h2 : e ≤ x + k
        · rw [if_pos h2, if_pos (show e ≤ x + (k + 1) by omega)]
        · rw [if_neg h2]
          have h3 : ¬ 0 < x + k - M := by omega
          have h4 : ¬ 0 < (if e ≤ x + (k + 1) then e else x + (k + 1)) - M := by split <;> omega
          rw [if_neg (fun w : c ∧ 0 < x + k - M => h3 w.2), if_neg (fun w : c ∧ 0 < (if e ≤ x + (k + 1) then e else x + (k + 1)) - M => h4 w.2)]
    · rw [if_neg (fun w => hc w.1), if_neg (fun w => hc w.1), if_neg (fun w => hc w.1)]; rfl
theorem nBedsF_eq {K : Int} {h : HV} {r : Int → Int} (R : RG K h) (k : HK h r) (b : HB h r) (m1 : r 1 ≤ 80) {x y : Int} (hxy : x ≤ y) : nBeds h x y = sumI (fun q => mTk r (x + q)) (y + 1 - x) := by
  have e1 : sumI (fun q => mTk r (x + q)) (y + 1 - x) = sumI (fun c => sumI (fun q => mBed r (x + q) c) (y + 1 - x)) (r 1) := sum_swap (F := fun q c => mBed r (x + q) c) (by omega)
  rw [e1]
  show sumI (gBeds h x y) (h 3 7) = _
  rw [k.2.2.1]
  refine sumI_cg fun i i0 i1 => ?_
  have z := b i i0 (by omega) i1
  have w := k.2.2.2.2 i i0 (by omega) i1
  have hw := R.how i0 (show i < 80 by omega)
  have s := sum_span (c := r (51 + 7 * i + 0) ≤ 1) (a := r (51 + 7 * i + 1)) (e := r (51 + 7 * i + 1) + r (51 + 7 * i + 2)) (x := x) (p := r (51 + 7 * i + 3)) (m := y + 1 - x) (by omega)
  show (if gHold h i ∧ 0 < gShared h x y i then gShared h x y i * h 7 i else 0) = sumI (fun q => if mHas r (x + q) i then r (51 + 7 * i + 3) else 0) (y + 1 - x)
  refine Eq.trans ?_ s.symm
  show (if (h 4 i = 0 ∨ h 4 i = 1) ∧ 0 < (if h 5 i + h 6 i ≤ y + 1 then h 5 i + h 6 i else y + 1) - (if h 5 i < x then x else h 5 i) then ((if h 5 i + h 6 i ≤ y + 1 then h 5 i + h 6 i else y + 1) - (if h 5 i < x then x else h 5 i)) * h 7 i else 0) = _
  rw [show x + (y + 1 - x) = y + 1 by omega, ← z.1, ← w.1, ← w.2.1, ← w.2.2]
  by_cases q : h 4 i ≤ 1 ∧ 0 < (if h 5 i + h 6 i ≤ y + 1 then h 5 i + h 6 i else y + 1) - (if h 5 i < x then x else h 5 i)
  · rw [if_pos q, if_pos ⟨by omega, q.2⟩]
  · rw [if_neg q, if_neg (fun u => q ⟨by omega, u.2⟩)]
theorem ans_use {K t : Int} {h : HV} {r : Int → Int} (R : RG K h) (S : HS t h r) (m1 : r 1 ≤ 80) {x y : Int} : xUse h x y = yUse r x y := by
  have s0 : h 1 0 = r 17 := S.1.1 0 (by decide) (by decide)
  have s1 := (set_50 R).2.2.2.2.1
  unfold xUse yUse
  by_cases c : x < 0 ∨ y < x ∨ 999 < y
  · rw [if_pos (by omega), if_pos (by omega)]
  · rw [if_neg (by omega), if_neg (by omega), nBedsF_eq R S.1 S.2.1 m1 (by omega), s0]
theorem fbR_eq {K t : Int} {h : HV} {r : Int → Int} (R : RG K h) (S : HS t h r) (m1 : r 1 ≤ 80) {f : Int → Int} {d : Int} (d0 : 0 ≤ d) (d1 : d < 1000) : fbR h f (h 3 7) d = mTk r d := by
  unfold fbR; rw [if_pos ⟨d0, d1⟩, gNight_beds]
  exact nBeds_eq (K' := K) R S.1 S.2.1 m1
theorem fuN_eq {K t : Int} {h : HV} {r : Int → Int} (R : RG K h) (S : HS t h r) (m1 : r 1 ≤ 80) {f : Int → Int} : ∀ (n : Nat) (d b m : Int), 0 ≤ d → d + n ≤ 1000 → fuN (fbR h f (h 3 7)) n d b m = mFu r n d b m
  | 0, _, _, _, _, _ => rfl
  | n + 1, d, b, m, d0, d1 => by
    have e := fbR_eq R S m1 (f := f) d0 (show d < 1000 by omega)
    unfold fuN mFu
    rw [e, fuN_eq R S m1 n (d + 1) d (mTk r d) (by omega) (by omega), fuN_eq R S m1 n (d + 1) b m (by omega) (by omega)]
theorem ans_full {K t : Int} {h : HV} {r : Int → Int} (R : RG K h) (S : HS t h r) (m1 : r 1 ≤ 80) (hd : r 0 ≤ 999) {f : Int → Int} : nFull h f = yFull r := by
  have e0 : h 0 6 = r 0 := S.1.2.2.2.1
  have d := R.day
  unfold nFull yFull
  rw [e0]
  exact fuN_eq R S m1 _ _ _ _ (by omega) (by omega)
theorem mFu_c {r : Int → Int} : ∀ (k : Nat) (d b m : Int), (mFu r k d b m = b ∧ ∀ q, d ≤ q → q < d + k → mTk r q ≤ m) ∨ ((d ≤ mFu r k d b m ∧ mFu r k d b m < d + k) ∧ m < mTk r (mFu r k d b m) ∧ ∀ q, d ≤ q → q < d + k → mTk r q ≤ mTk r (mFu r k d b m))
  | 0, d, b, m => Or.inl ⟨rfl, fun q a c => absurd c (by omega)⟩
  | k + 1, d, b, m => by
    unfold mFu
    by_cases c : m < mTk r d
    · rw [if_pos c]
      rcases mFu_c (r := r) k (d + 1) d (mTk r d) with a | a
      · rw [a.1]
        refine Or.inr ⟨⟨Int.le_refl _, by omega⟩, c, fun q q0 q1 => ?_⟩
        by_cases e : q = d
        · rw [e]; exact Int.le_refl _
        · exact a.2 q (by omega) (by omega)
      · refine Or.inr ⟨⟨by omega, by omega⟩, by omega, fun q q0 q1 => ?_⟩
        by_cases e : q = d
        · rw [e]; omega
        · exact a.2.2 q (by omega) (by omega)
    · rw [if_neg c]
      rcases mFu_c (r := r) k (d + 1) b m with a | a
      · refine Or.inl ⟨a.1, fun q q0 q1 => ?_⟩
        by_cases e : q = d
        · rw [e]; omega
        · exact a.2 q (by omega) (by omega)
      · refine Or.inr ⟨⟨by omega, by omega⟩, a.2.1, fun q q0 q1 => ?_⟩
        by_cases e : q = d
        · rw [e]; omega
        · exact a.2.2 q (by omega) (by omega)
theorem most_eq {K t : Int} {h : HV} {r : Int → Int} (R : RG K h) (S : HS t h r) (m1 : r 1 ≤ 80) (hd : 0 ≤ r 0 ∧ r 0 ≤ 999) {f : Int → Int} {w : Int} (w0 : 0 ≤ w) : w < nMost h f ↔ ¬ allI (fun q => decide (mTk r (r 0 + q) ≤ w)) (1000 - r 0) = true := by
  have ef : nFull h f = yFull r := ans_full R S m1 hd.2
  rw [allI_iff (by omega)]
  unfold nMost
  rw [ef]
  rcases mFu_c (r := r) (1000 - r 0).toNat (r 0) (-1000005) 0 with a | a
  · rw [if_pos (show yFull r = -1000005 from a.1)]
    refine ⟨fun u => absurd u (by omega), fun u => absurd (fun k k0 k1 => decide_eq_true ?_) u⟩
    have := a.2 (r 0 + k) (by omega) (by omega)
    omega
  · have en : ¬ yFull r = -1000005 := by show ¬ mFu r (1000 - r 0).toNat (r 0) (-1000005) 0 = -1000005; omega
    rw [if_neg en, nBeds_eq (K' := K) R S.1 S.2.1 m1]
    refine ⟨fun u v => ?_, fun u => ?_⟩
    · have := of_decide_eq_true (v (yFull r - r 0) (by show 0 ≤ mFu r (1000 - r 0).toNat (r 0) (-1000005) 0 - r 0; omega) (by show mFu r (1000 - r 0).toNat (r 0) (-1000005) 0 - r 0 < 1000 - r 0; omega))
      rw [show r 0 + (yFull r - r 0) = yFull r by omega] at this
      omega
    · refine Int.not_le.mp fun v => u fun k k0 k1 => decide_eq_true ?_
      have := a.2.2 (r 0 + k) (by omega) (by omega)
      exact Int.le_trans this v
theorem mFf_s {r : Int → Int} {n p s : Int} (q : ¬ mFits r s (s + n) p) : mFf r n p (900 - s).toNat s = mFf r n p (900 - (s + 1)).toNat (s + 1) := by
  by_cases c : 0 < 900 - s
  · rw [show (900 - s).toNat = (900 - (s + 1)).toNat + 1 by omega]
    exact if_neg q
  · rw [show (900 - s).toNat = 0 by omega, show (900 - (s + 1)).toNat = 0 by omega]; rfl
theorem mFf_skip {r : Int → Int} {n p s : Int} : ∀ k : Nat, (∀ u, s ≤ u → u < s + k → ¬ mFits r u (u + n) p) → mFf r n p (900 - s).toNat s = mFf r n p (900 - (s + k)).toNat (s + k)
  | 0, _ => by rw [show s + ((0 : Nat) : Int) = s by omega]
  | k + 1, hq => by
    rw [mFf_skip k fun u a b => hq u a (by omega), mFf_s (hq (s + k) (by omega) (by omega)), show s + ((k + 1 : Nat) : Int) = s + k + 1 by omega]
theorem frN_eq {K t : Int} {h : HV} {r : Int → Int} (R : RG K h) (S : HS t h r) (m1 : r 1 ≤ 80) {f : Int → Int} {n p : Int} (n1 : 1 ≤ n ∧ n ≤ 9) : ∀ (k : Nat) (d u : Int), 0 ≤ u → u < n → 0 ≤ d - u → d + k = 899 + n ∨ (k = 0 ∧ 899 + n ≤ d) → (∀ q, d - u ≤ q → q < d → mTk r q + p ≤ r 17) → frN (fbR h f (h 3 7)) (h 1 0) n p k d u = mFf r n p (900 - (d - u)).toNat (d - u)
  | 0, d, u, u0, u1, du, hk, hf => by
    rw [show (900 - (d - u)).toNat = 0 by omega]; rfl
  | k + 1, d, u, u0, u1, du, hk, hf => by
    have e := fbR_eq R S m1 (f := f) (show 0 ≤ d by omega) (show d < 1000 by omega)
    have s0 : h 1 0 = r 17 := S.1.1 0 (by decide) (by decide)
    by_cases c : mTk r d + p ≤ r 17
    · have e1 : (if fbR h f (h 3 7) d + p ≤ h 1 0 then u + 1 else 0) = u + 1 := if_pos (by rw [e, s0]; exact c)
      by_cases g : u + 1 = n
      · rw [frN_t (by rw [e1]; exact g), show (900 - (d - u)).toNat = (900 - (d - u) - 1).toNat + 1 by omega]
        unfold mFf
        rw [if_pos ?_]
        · omega
        · show allI (fun i => decide (mTk r (d - u + i) + p ≤ r 17)) (d - u + n - (d - u)) = true
          rw [allI_iff (by omega)]
          intro i i0 i1
          refine decide_eq_true ?_
          by_cases z : d - u + i = d
          · rw [z]; exact c
          · exact hf _ (by omega) (by omega)
      · rw [frN_f (by rw [e1]; exact g), e1, frN_eq R S m1 n1 k (d + 1) (u + 1) (by omega) (by omega) (by omega) (by omega) (fun q q0 q1 => by
          by_cases z : q = d
          · rw [z]; exact c
          · exact hf _ (by omega) (by omega)), show d + 1 - (u + 1) = d - u by omega]
    · have e1 : (if fbR h f (h 3 7) d + p ≤ h 1 0 then u + 1 else 0) = 0 := if_neg (by rw [e, s0]; exact c)
      rw [frN_f (by rw [e1]; omega), e1, frN_eq R S m1 n1 k (d + 1) 0 (by omega) (by omega) (by omega) (by omega) (fun q q0 q1 => by omega), show d + 1 - 0 = d - u + ((u + 1).toNat : Int) by omega]
      refine (mFf_skip _ fun v v0 v1 w => c ?_).symm
      have w2 : allI (fun i => decide (mTk r (v + i) + p ≤ r 17)) (v + n - v) = true := w
      rw [allI_iff (by omega)] at w2
      have := of_decide_eq_true (w2 (d - v) (by omega) (by omega))
      rwa [show v + (d - v) = d by omega] at this
theorem ans_first {K t : Int} {h : HV} {r : Int → Int} (R : RG K h) (S : HS t h r) (m1 : r 1 ≤ 80) (hd : 0 ≤ r 0) {f : Int → Int} {n p : Int} (n1 : 1 ≤ n ∧ n ≤ 9) : xFirst h f n p = mFf r n p (900 - r 0).toNat (r 0) := by
  have e0 : h 0 6 = r 0 := S.1.2.2.2.1
  unfold xFirst
  rw [e0]
  have z := frN_eq R S m1 (f := f) (p := p) n1 (899 + n - r 0).toNat (r 0) 0 (by omega) (by omega) (by omega) (by omega) (fun q q0 q1 => by omega)
  rw [Int.sub_zero] at z; exact z
