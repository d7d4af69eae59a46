/-! plain words: truth as a number, sums, folds -/
def bI (c : Prop) [Decidable c] : Int := if c then 1 else 0
theorem bI_t {c : Prop} [Decidable c] (h : c) : bI c = 1 := if_pos h
theorem bI_f {c : Prop} [Decidable c] (h : ¬ c) : bI c = 0 := if_neg h
theorem bI_IR {c : Prop} [Decidable c] : IR (bI c) := by unfold bI; constructor <;> split <;> decide
theorem bI_01 {c : Prop} [Decidable c] : bI c = 0 ∨ bI c = 1 := by unfold bI; split <;> simp
theorem bI_eq0 {c : Prop} [Decidable c] (h : bI c = 0) : ¬ c := fun hc => by rw [bI_t hc] at h; cases h
theorem bI_ne0 {c : Prop} [Decidable c] (h : bI c ≠ 0) : c := Decidable.byContradiction fun hc => h (bI_f hc)
theorem bI_iff {c d : Prop} [Decidable c] [Decidable d] (h : c ↔ d) : bI c = bI d := by unfold bI; by_cases hc : c <;> simp [hc, ← h]
theorem e1_bI {c : Prop} [Decidable c] (h : c) : (1 : Int) = bI c := (bI_t h).symm
theorem e0_bI {c : Prop} [Decidable c] (h : ¬ c) : (0 : Int) = bI c := (bI_f h).symm
theorem nar_b {c : Prop} [Decidable c] : narrow .boolean (vI (bI c)) = vI (bI c) := by unfold bI; split <;> rfl
def sumN (f : Int → Int) : Nat → Int
  | 0 => 0
  | n + 1 => sumN f n + f n
def sumI (f : Int → Int) (i : Int) : Int := sumN f i.toNat
theorem sumI_0 {f : Int → Int} : sumI f 0 = 0 := rfl
theorem sumI_s {f : Int → Int} {i : Int} (h : 0 ≤ i) : sumI f (i + 1) = sumI f i + f i := by
  unfold sumI
  have e1 : (i + 1).toNat = i.toNat + 1 := by omega
  have e2 : (i.toNat : Int) = i := Int.toNat_of_nonneg h
  rw [e1, sumN, e2]
theorem sumN_le {f : Int → Int} {lo hi : Int} : ∀ (n : Nat), (∀ k : Int, 0 ≤ k → k < n → lo ≤ f k ∧ f k ≤ hi) → lo * n ≤ sumN f n ∧ sumN f n ≤ hi * n
  | 0, _ => by simp [sumN]
  | n + 1, h => by
    have h1 := sumN_le n fun k a b => h k a (by omega)
    have h2 := h n (by omega) (by omega)
    simp only [sumN]
    have e1 : lo * ((n + 1 : Nat) : Int) = lo * n + lo := by rw [Int.natCast_add, Int.mul_add]; simp
    have e2 : hi * ((n + 1 : Nat) : Int) = hi * n + hi := by rw [Int.natCast_add, Int.mul_add]; simp
    omega
theorem sumI_le {f : Int → Int} {lo hi i : Int} (h0 : 0 ≤ i) (h : ∀ k : Int, 0 ≤ k → k < i → lo ≤ f k ∧ f k ≤ hi) : lo * i ≤ sumI f i ∧ sumI f i ≤ hi * i := by
  have e2 : (i.toNat : Int) = i := Int.toNat_of_nonneg h0
  have h1 := sumN_le (f := f) (lo := lo) (hi := hi) i.toNat fun k a b => h k a (by omega)
  rw [e2] at h1
  exact h1
theorem sumN_sign {f : Int → Int} : ∀ (n : Nat), (∀ k : Int, 0 ≤ k → k < n → 0 ≤ f k) → 0 ≤ sumN f n
  | 0, _ => by simp [sumN]
  | n + 1, h => by
    have h1 := sumN_sign n fun k a b => h k a (by omega)
    have h2 := h n (by omega) (by omega)
    simp only [sumN]; omega
theorem sumI_sign {f : Int → Int} {i : Int} (h0 : 0 ≤ i) (h : ∀ k : Int, 0 ≤ k → k < i → 0 ≤ f k) : 0 ≤ sumI f i :=
  sumN_sign _ fun k a b => h k a (by omega)
theorem sumN_cg {f g : Int → Int} : ∀ (n : Nat), (∀ k : Int, 0 ≤ k → k < n → f k = g k) → sumN f n = sumN g n
  | 0, _ => rfl
  | n + 1, h => by simp only [sumN]; rw [sumN_cg n fun k a b => h k a (by omega), h n (by omega) (by omega)]
theorem sumI_cg {f g : Int → Int} {i : Int} (h : ∀ k : Int, 0 ≤ k → k < i → f k = g k) : sumI f i = sumI g i := by
  unfold sumI
  by_cases h0 : 0 ≤ i
  · have e2 : (i.toNat : Int) = i := Int.toNat_of_nonneg h0
    exact sumN_cg _ fun k a b => h k a (by omega)
  · have e2 : i.toNat = 0 := by omega
    rw [e2]; rfl
def allN (f : Int → Bool) : Nat → Bool
  | 0 => true
  | n + 1 => allN f n && f n
def allI (f : Int → Bool) (i : Int) : Bool := allN f i.toNat
theorem allI_0 {f : Int → Bool} : allI f 0 = true := rfl
theorem allI_s {f : Int → Bool} {i : Int} (h : 0 ≤ i) : allI f (i + 1) = (allI f i && f i) := by
  unfold allI
  have e1 : (i + 1).toNat = i.toNat + 1 := by omega
  have e2 : (i.toNat : Int) = i := Int.toNat_of_nonneg h
  rw [e1, allN, e2]
theorem allN_iff {f : Int → Bool} : ∀ (n : Nat), allN f n = true ↔ ∀ k : Int, 0 ≤ k → k < n → f k = true
  | 0 => ⟨fun _ k a b => by omega, fun _ => rfl⟩
  | n + 1 => by
    rw [allN, Bool.and_eq_true, allN_iff n]
    constructor
    · intro ⟨q1, q2⟩ k a b
      by_cases e : k = n
      · rw [e]; exact q2
      · exact q1 k a (by omega)
    · intro q
      exact ⟨fun k a b => q k a (by omega), q n (by omega) (by omega)⟩
theorem allI_iff {f : Int → Bool} {i : Int} (h : 0 ≤ i) : allI f i = true ↔ ∀ k : Int, 0 ≤ k → k < i → f k = true := by
  have e2 : (i.toNat : Int) = i := Int.toNat_of_nonneg h
  have := allN_iff (f := f) i.toNat
  rw [e2] at this
  exact this
/-- a state folded over 0 .. i-1 -/
def foldN {α : Type} (f : Int → α → α) (x : α) : Nat → α
  | 0 => x
  | n + 1 => f n (foldN f x n)
def foldI {α : Type} (f : Int → α → α) (x : α) (i : Int) : α := foldN f x i.toNat
theorem foldI_0 {α : Type} {f : Int → α → α} {x : α} : foldI f x 0 = x := rfl
theorem foldI_s {α : Type} {f : Int → α → α} {x : α} {i : Int} (h : 0 ≤ i) : foldI f x (i + 1) = f i (foldI f x i) := by
  unfold foldI
  have e1 : (i + 1).toNat = i.toNat + 1 := by omega
  have e2 : (i.toNat : Int) = i := Int.toNat_of_nonneg h
  rw [e1, foldN, e2]
theorem foldN_iv {α : Type} {f : Int → α → α} {x : α} (P : Int → α → Prop) (h0 : P 0 x) : ∀ (n : Nat), (∀ (k : Int) (y : α), 0 ≤ k → k < n → P k y → P (k + 1) (f k y)) → P n (foldN f x n)
  | 0, _ => h0
  | n + 1, h => by
    have := h n (foldN f x n) (by omega) (by omega) (foldN_iv P h0 n fun k y a b c => h k y a (by omega) c)
    exact this
theorem foldI_iv {α : Type} {f : Int → α → α} {x : α} {i : Int} (hi : 0 ≤ i) (P : Int → α → Prop) (h0 : P 0 x) (h : ∀ (k : Int) (y : α), 0 ≤ k → k < i → P k y → P (k + 1) (f k y)) : P i (foldI f x i) := by
  have e2 : (i.toNat : Int) = i := Int.toNat_of_nonneg hi
  have h1 := foldN_iv (f := f) (x := x) P h0 i.toNat fun k y a b c => h k y a (by omega) c
  rw [e2] at h1
  exact h1
/-- the locals that the first list knows, the second knows as well -/
def leL : List (Option Value) → List (Option Value) → Prop
  | [], _ => True
  | none :: l1, [] => leL l1 []
  | none :: l1, _ :: l2 => leL l1 l2
  | some _ :: _, [] => False
  | some v :: l1, o :: l2 => o = some v ∧ leL l1 l2
theorem leL_at : ∀ (l1 l2 : List (Option Value)), leL l1 l2 → ∀ (i : Nat) (v : Value), l1[i]? = some (some v) → l2[i]? = some (some v)
  | [], _, _, i, v, hi => by simp at hi
  | none :: l1, [], h, 0, v, hi => by simp at hi
  | none :: l1, [], h, i + 1, v, hi => by
    have := leL_at l1 [] h i v (by simpa using hi)
    simp at this
  | none :: l1, o :: l2, h, 0, v, hi => by simp at hi
  | none :: l1, o :: l2, h, i + 1, v, hi => by
    have := leL_at l1 l2 h i v (by simpa using hi)
    simpa using this
  | some w :: l1, [], h, i, v, hi => h.elim
  | some w :: l1, o :: l2, h, 0, v, hi => by
    simp at hi
    simp [h.1, hi]
  | some w :: l1, o :: l2, h, i + 1, v, hi => by
    have := leL_at l1 l2 h.2 i v (by simpa using hi)
    simpa using this
theorem G.wk {F : FC} {E : HE} {hs : Nat → HV} {tp md : HV} {pc : Nat} {L L' : List (Option Value)} {st : List Value} (k : G F E hs tp md pc L' st) (h : leL L' L) : G F E hs tp md pc L st := by
  obtain ⟨p, l, e, R, s, m, args, below, meth, c, cells, slots, Q⟩ := F
  intro H locs ls hP hS hL
  exact k H locs ls hP hS ⟨hL.1, hL.2.1, fun i v hi => hL.2.2 i v (leL_at _ _ h i v hi)⟩
section BROWS
variable {F : FC} {own : String} {cc : ByteArray} {nL kf : Nat} {E : HE} {hs : Nat → HV} {tp md : HV} {pc : Nat} {L : List (Option Value)} {st : List Value}
theorem x_bz_eq {q : Prop} [Decidable q] {off : Int} (tgt : Nat) (C : Cs F own cc nL kf E) (d : decode cc pc = .ok (.ifCond .eq off, 3)) (ht : (pc : Int) + off = (tgt : Int)) (kt : ¬ q → G F E hs tp md tgt L st) (kf : q → G F E hs tp md (pc + 3) L st) : G F E hs tp md pc L (vI (bI q) :: st) :=
  x_if_eq tgt C d ht bI_IR (fun h => kt (bI_eq0 h)) (fun h => kf (bI_ne0 h))
theorem x_bz_ne {q : Prop} [Decidable q] {off : Int} (tgt : Nat) (C : Cs F own cc nL kf E) (d : decode cc pc = .ok (.ifCond .ne off, 3)) (ht : (pc : Int) + off = (tgt : Int)) (kt : q → G F E hs tp md tgt L st) (kf : ¬ q → G F E hs tp md (pc + 3) L st) : G F E hs tp md pc L (vI (bI q) :: st) :=
  x_if_ne tgt C d ht bI_IR (fun h => kt (bI_ne0 h)) (fun h => kf (bI_eq0 h))
end BROWS
/-- what a hut's numbers keep to; K: how much food at most -/
def RG (K : Int) (h : HV) : Prop :=
  (∀ i, 0 ≤ i → i < 10 → stV 1 i.toNat ≤ h 1 i ∧ h 1 i ≤ stV 2 i.toNat) ∧ (∀ i, 0 ≤ i → i < 1000 → 0 ≤ h 2 i ∧ h 2 i ≤ 7) ∧ (0 ≤ h 3 7 ∧ h 3 7 ≤ 80) ∧
  (∀ b, 0 ≤ b → b < 80 → (0 ≤ h 4 b ∧ h 4 b ≤ 4) ∧ (0 ≤ h 5 b ∧ h 5 b ≤ 899) ∧ (0 ≤ h 6 b ∧ h 6 b ≤ 9) ∧ (0 ≤ h 7 b ∧ h 7 b ≤ 9) ∧ (-1 ≤ h 10 b ∧ h 10 b ≤ 1060)) ∧
  (0 ≤ h 11 1 ∧ h 11 1 ≤ K) ∧ (∀ i, 0 ≤ i → i < 30 → 0 ≤ h 12 i ∧ h 12 i ≤ K) ∧ (0 ≤ h 13 2 ∧ h 13 2 ≤ 12) ∧ (∀ i, 0 ≤ i → i < 12 → (0 ≤ h 14 i ∧ h 14 i ≤ 1) ∧ (0 ≤ h 15 i ∧ h 15 i ≤ 99)) ∧
  (0 ≤ h 0 6 ∧ h 0 6 ≤ 1060) ∧ (h 0 7 = 0 ∨ h 0 7 = 1)
theorem RG.set {K : Int} {h : HV} (R : RG K h) {i : Int} (h0 : 0 ≤ i) (h1 : i < 10) : stV 1 i.toNat ≤ h 1 i ∧ h 1 i ≤ stV 2 i.toNat := R.1 i h0 h1
theorem RG.set' {K : Int} {h : HV} (R : RG K h) {i : Int} (h0 : 0 ≤ i) (h1 : i < 10) : 0 ≤ h 1 i ∧ h 1 i ≤ 999 := by
  have h2 := R.1 i h0 h1
  have k : i = 0 ∨ i = 1 ∨ i = 2 ∨ i = 3 ∨ i = 4 ∨ i = 5 ∨ i = 6 ∨ i = 7 ∨ i = 8 ∨ i = 9 := by omega
  rcases k with rfl | rfl | rfl | rfl | rfl | rfl | rfl | rfl | rfl | rfl <;> simp [stV] at h2 <;> omega
theorem RG.wea {K : Int} {h : HV} (R : RG K h) {i : Int} (h0 : 0 ≤ i) (h1 : i < 1000) : 0 ≤ h 2 i ∧ h 2 i ≤ 7 := R.2.1 i h0 h1
theorem RG.made {K : Int} {h : HV} (R : RG K h) : 0 ≤ h 3 7 ∧ h 3 7 ≤ 80 := R.2.2.1
theorem RG.how {K : Int} {h : HV} (R : RG K h) {b : Int} (h0 : 0 ≤ b) (h1 : b < 80) : 0 ≤ h 4 b ∧ h 4 b ≤ 4 := (R.2.2.2.1 b h0 h1).1
theorem RG.arr {K : Int} {h : HV} (R : RG K h) {b : Int} (h0 : 0 ≤ b) (h1 : b < 80) : 0 ≤ h 5 b ∧ h 5 b ≤ 899 := (R.2.2.2.1 b h0 h1).2.1
theorem RG.nig {K : Int} {h : HV} (R : RG K h) {b : Int} (h0 : 0 ≤ b) (h1 : b < 80) : 0 ≤ h 6 b ∧ h 6 b ≤ 9 := (R.2.2.2.1 b h0 h1).2.2.1
theorem RG.per {K : Int} {h : HV} (R : RG K h) {b : Int} (h0 : 0 ≤ b) (h1 : b < 80) : 0 ≤ h 7 b ∧ h 7 b ≤ 9 := (R.2.2.2.1 b h0 h1).2.2.2.1
theorem RG.cam {K : Int} {h : HV} (R : RG K h) {b : Int} (h0 : 0 ≤ b) (h1 : b < 80) : -1 ≤ h 10 b ∧ h 10 b ≤ 1060 := (R.2.2.2.1 b h0 h1).2.2.2.2
theorem RG.dry {K : Int} {h : HV} (R : RG K h) : 0 ≤ h 11 1 ∧ h 11 1 ≤ K := R.2.2.2.2.1
theorem RG.fre {K : Int} {h : HV} (R : RG K h) {i : Int} (h0 : 0 ≤ i) (h1 : i < 30) : 0 ≤ h 12 i ∧ h 12 i ≤ K := R.2.2.2.2.2.1 i h0 h1
theorem RG.siz {K : Int} {h : HV} (R : RG K h) : 0 ≤ h 13 2 ∧ h 13 2 ≤ 12 := R.2.2.2.2.2.2.1
theorem RG.kin {K : Int} {h : HV} (R : RG K h) {i : Int} (h0 : 0 ≤ i) (h1 : i < 12) : 0 ≤ h 14 i ∧ h 14 i ≤ 1 := (R.2.2.2.2.2.2.2.1 i h0 h1).1
theorem RG.por {K : Int} {h : HV} (R : RG K h) {i : Int} (h0 : 0 ≤ i) (h1 : i < 12) : 0 ≤ h 15 i ∧ h 15 i ≤ 99 := (R.2.2.2.2.2.2.2.1 i h0 h1).2
theorem RG.day {K : Int} {h : HV} (R : RG K h) : 0 ≤ h 0 6 ∧ h 0 6 ≤ 1060 := R.2.2.2.2.2.2.2.2.1
theorem RG.cal {K : Int} {h : HV} (R : RG K h) : h 0 7 = 0 ∨ h 0 7 = 1 := R.2.2.2.2.2.2.2.2.2
