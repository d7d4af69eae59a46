/-! FOOD AND COUNTS, both sides -/
theorem mFr_z {r : Int → Int} {w : Int} : ∀ (n : Nat) (d l : Int), (∀ j, d ≤ j → j < d + n → r (1675 + j) = 0) → mFr r w n d l = -1000005
  | 0, _, _, _ => rfl
  | n + 1, d, l, hz => by
    unfold mFr
    rw [if_neg (by rw [hz d (Int.le_refl _) (by omega)]; decide)]
    exact mFr_z n (d + 1) l fun j a b => hz j (by omega) (by omega)
theorem mFr_k {r : Int → Int} {w : Int} {m : Nat} : ∀ (n : Nat) (d l : Int), (∀ j, d ≤ j → j < d + n → r (1675 + j) = 0) → mFr r w (n + m) d l = mFr r w m (d + n) l
  | 0, d, l, _ => by rw [show d + ((0 : Nat) : Int) = d by omega, Nat.zero_add]
  | n + 1, d, l, hz => by
    rw [show n + 1 + m = (n + m) + 1 by omega]
    show (if 0 < r (1675 + d) then _ else mFr r w (n + m) (d + 1) l) = _
    rw [if_neg (by rw [hz d (Int.le_refl _) (by omega)]; decide), mFr_k n (d + 1) l fun j a b => hz j (by omega) (by omega), show d + 1 + (n : Int) = d + ((n + 1 : Nat) : Int) by omega]
theorem srch_k {g : Int → Int} {no : Int} {m : Nat} : ∀ (n : Nat) (d l : Int), (∀ j, d ≤ j → j < d + n → g j = 0) → srch g no (n + m) d l = srch g no m (d + n) l
  | 0, d, l, _ => by rw [show d + ((0 : Nat) : Int) = d by omega, Nat.zero_add]
  | n + 1, d, l, hz => by
    rw [show n + 1 + m = (n + m) + 1 by omega]
    show (if g d = 0 then srch g no (n + m) (d + 1) l else _) = _
    rw [if_pos (hz d (Int.le_refl _) (by omega)), srch_k n (d + 1) l fun j a b => hz j (by omega) (by omega), show d + 1 + (n : Int) = d + ((n + 1 : Nat) : Int) by omega]
theorem mFr_srch {r g : Int → Int} {w : Int} {m : Nat} : ∀ (n : Nat) (d l : Int), 0 ≤ d → (∀ j, d ≤ j → j < d + n → g j = r (1675 + j) ∧ 0 ≤ g j) → (∀ j, d + n ≤ j → j < d + n + m → r (1675 + j) = 0) →
    mFr r w (n + m) d l = if srch g (-1000005) n d l = -1000005 then -1000005 else if w = 0 then srch g (-1000005) n d l else g (srch g (-1000005) n d l)
  | 0, d, l, d0, hg, hz => by
    rw [Nat.zero_add]
    exact (mFr_z m d l fun j a b => hz j (by omega) (by omega)).trans (if_pos rfl).symm
  | n + 1, d, l, d0, hg, hz => by
    have hd := hg d (Int.le_refl _) (by omega)
    rw [show n + 1 + m = (n + m) + 1 by omega]
    have ih := fun l2 => mFr_srch (r := r) (g := g) (w := w) (m := m) n (d + 1) l2 (by omega) (fun j a b => hg j (by omega) (by omega)) (fun j a b => hz j (by omega) (by omega))
    unfold mFr srch
    by_cases c : g d = 0
    · rw [if_neg (by rw [← hd.1, c]; decide), if_pos c]
      exact ih l
    · rw [if_pos (by rw [← hd.1]; omega), if_neg c]
      by_cases e : l = 0
      · rw [if_pos e, if_pos e, if_neg (show ¬ d = -1000005 by omega), ← hd.1]
      · rw [if_neg e, if_neg e]
        exact ih (l - 1)
theorem ans_fresh {K K' t : Int} {h : HV} {r : Int → Int} (R : RG K h) (M : MR K' r) (et : h 0 6 = t) (hd : t ≤ 999) (S : HS (t - 30) h r) {k w : Int} : xFresh h k w = yFresh r k w := by
  have rd := R.day
  have F := S.2.2.2.2
  unfold xFresh yFresh
  by_cases c : k < 0 ∨ w < 0 ∨ 1 < w
  · rw [if_pos c, if_pos (by omega)]
  rw [if_neg c, if_neg (show ¬ (k < 0 ∨ ¬ (0 ≤ w ∧ w ≤ 1)) by omega), et]
  have hg : ∀ j, t - 30 ≤ j → j < t → (fun d => h 12 (d % 30)) j = rF r j := fun j a b => F.2.1 j a (by omega)
  have eR : lRank h t k = srch (fun d => h 12 (d % 30)) (-1000005) 30 (t - 30) k := rfl
  rw [eR]
  by_cases q : 0 ≤ t - 30
  · have z := mFr_srch (r := r) (g := fun d => h 12 (d % 30)) (w := w) (m := 1034 - (t - 30).toNat) 30 (t - 30) k q (fun j a b => ⟨(hg j a (by omega)).trans (if_pos (by omega)), (R.fre (by omega) (by omega)).1⟩) (fun j a b => F.2.2 j (by omega) (by omega) (Or.inr (by omega)))
    have y := mFr_k (r := r) (w := w) (m := 30 + (1034 - (t - 30).toNat)) (t - 30).toNat 0 k (fun j a b => F.2.2 j (by omega) (by omega) (Or.inl (by omega)))
    rw [show (t - 30).toNat + (30 + (1034 - (t - 30).toNat)) = 1064 by omega, show 0 + (((t - 30).toNat : Nat) : Int) = t - 30 by omega] at y
    rw [y, z]
  · have s := srch_k (g := fun d => h 12 (d % 30)) (no := -1000005) (m := t.toNat) (30 - t).toNat (t - 30) k (fun j a b => (hg j a (by omega)).trans (if_neg (by omega)))
    rw [show (30 - t).toNat + t.toNat = 30 by omega, show t - 30 + (((30 - t).toNat : Nat) : Int) = 0 by omega] at s
    have z := mFr_srch (r := r) (g := fun d => h 12 (d % 30)) (w := w) (m := 1064 - t.toNat) t.toNat 0 k (Int.le_refl _) (fun j a b => ⟨(hg j (by omega) (by omega)).trans (if_pos a), (R.fre (by omega) (by omega)).1⟩) (fun j a b => F.2.2 j (by omega) (by omega) (Or.inr (by omega)))
    rw [show t.toNat + (1064 - t.toNat) = 1064 by omega] at z
    rw [s, z]
theorem sum_mod {f : Int → Int} {T : Int} : sumI (fun q => f ((T + q) % 30)) 30 = sumI f 30 := by
  have hj : 0 ≤ T % 30 ∧ T % 30 < 30 := by omega
  have e1 := sumI_add (f := fun q => f ((T + q) % 30)) (a := 30 - T % 30) (n := T % 30) (by omega) hj.1
  have e2 := sumI_add (f := f) (a := T % 30) (n := 30 - T % 30) hj.1 (by omega)
  rw [show 30 - T % 30 + T % 30 = 30 by omega] at e1
  rw [show T % 30 + (30 - T % 30) = 30 by omega] at e2
  rw [e1, e2, Int.add_comm]
  congr 1
  · exact sumI_cg fun k k0 k1 => congrArg f (by omega)
  · exact sumI_cg fun k k0 k1 => congrArg f (by omega)
theorem allF_eq {K t : Int} {h : HV} {r : Int → Int} (R : RG K h) (et : h 0 6 = t) (hd : t ≤ 999) (S : HS (t - 30) h r) : sumI (h 12) 30 = mFrP r := by
  have rd := R.day
  have F := S.2.2.2.2
  have z1 : ∀ d, 0 ≤ d → d < t - 30 → rF r d = 0 := fun d d0 d1 => by
    show (if 0 ≤ d then r (1675 + d) else 0) = 0
    rw [if_pos d0]; exact F.2.2 d d0 (by omega) (Or.inl d1)
  have z2 : ∀ d, d < 0 → rF r d = 0 := fun d d0 => if_neg (by omega)
  have e1 : sumI (h 12) 30 = sumI (rF r) t := by
    rw [← sum_mod (f := h 12) (T := t - 30), show t = t - 30 + 30 by omega, sum_shift (G := rF r) (a := t - 30) (n := 30) (by decide) z1 z2]
    rw [show t - 30 + 30 - 30 = t - 30 by omega]
    exact sumI_cg fun k k0 k1 => F.2.1 (t - 30 + k) (by omega) (by omega)
  have e2 : mFrP r = sumI (rF r) 1064 := by
    unfold mFrP
    exact sumI_cg fun k k0 k1 => (if_pos k0).symm
  rw [e1, e2, show (1064 : Int) = t + (1064 - t) by omega, sumI_add (by omega) (by omega), sumI_z (n := 1064 - t) fun k k0 k1 => by
    show (if 0 ≤ t + k then r (1675 + (t + k)) else 0) = 0
    rw [if_pos (by omega)]; exact F.2.2 _ (by omega) (by omega) (Or.inr (by omega)), Int.add_zero]
theorem many_eq {t : Int} {h : HV} {r : Int → Int} (S : HS t h r) (m1 : r 1 ≤ 80) {w : Int} : sumI (gMany h w) (h 3 7) = sumI (mMany r w) (r 1) := by
  rw [S.1.2.2.1]
  exact sumI_cg fun i i0 i1 => by
    have z := S.2.1 i i0 (by omega) i1
    show (if h 4 i = w then 1 else 0) = if r (51 + 7 * i + 0) = w then 1 else 0
    rw [z.1]
theorem waP_eq {t : Int} {h : HV} {r : Int → Int} (S : HS t h r) (m3 : r 3 ≤ 12) : sumI (h 15) (h 13 2) = mWaP r := by
  unfold mWaP
  rw [S.2.2.1.1]
  exact sumI_cg fun i i0 i1 => (S.2.2.1.2 i i0 (by omega) i1).2
theorem ans_count {K K' t : Int} {h : HV} {r : Int → Int} (R : RG K h) (M : MR K' r) (et : h 0 6 = t) (hd : t ≤ 999) (S : HS (t - 30) h r) {tp md : HV} (e23 : tp 2 1 = md 0 6) (e24 : tp 4 1 = md 0 7) {w : Int} : xCount h tp w = yCount md r w := by
  have m := M.came
  have m3 := M.wait
  have T := S.2.2.2.1
  have cl := R.cal
  by_cases a : 2 ≤ w ∧ w ≤ 6
  · unfold xCount yCount
    rw [if_neg (by omega), if_neg (by omega), if_neg (by omega), if_neg (by omega), if_pos a, if_pos a]
    exact many_eq S m.2
  by_cases b : 25 ≤ w ∧ w ≤ 34
  · unfold xCount yCount
    rw [if_neg (by omega), if_pos (by omega), if_neg a, if_pos b]
    have z := S.1.1 (w - 25) (by omega) (by omega)
    rw [z, show 17 + (w - 25) = 17 + w - 25 by omega]
  have k : w = 0 ∨ w = 1 ∨ w = 7 ∨ w = 8 ∨ w = 9 ∨ w = 10 ∨ w = 11 ∨ w = 12 ∨ w = 13 ∨ w = 14 ∨ w = 15 ∨ w = 16 ∨ w = 17 ∨ w = 18 ∨ w = 19 ∨ w = 20 ∨ w = 21 ∨ w = 22 ∨ w = 23 ∨ w = 24 ∨ (w < 0 ∨ 34 < w) := by omega
  have ep : nThere h = nPer r := nThere_eq S.1 S.2.1 m.2
  have s0 : h 1 0 = r 17 := S.1.1 0 (by decide) (by decide)
  rcases k with rfl | rfl | rfl | rfl | rfl | rfl | rfl | rfl | rfl | rfl | rfl | rfl | rfl | rfl | rfl | rfl | rfl | rfl | rfl | rfl | k
  · exact S.1.2.2.2.1
  · exact S.1.2.2.1
  · exact ep
  · show (if 0 < nThere h - h 1 0 then nThere h - h 1 0 else 0) = if r 17 < nPer r then nPer r - r 17 else 0
    rw [ep, s0]
    by_cases c : r 17 < nPer r
    · rw [if_pos c, if_pos (by omega)]
    · rw [if_neg c, if_neg (by omega)]
  · exact allF_eq R et hd S
  · exact S.2.2.2.2.1
  · exact S.2.2.1.1
  · exact waP_eq S m3.2
  · show (if h 0 7 = 0 then 0 else 1) = r 4
    rw [← T.2.1]
    rcases cl with c | c
    · rw [if_pos c, c]
    · rw [if_neg (by omega), c]
  · exact T.1 0 (by decide) (by decide)
  · exact T.1 1 (by decide) (by decide)
  · exact T.1 2 (by decide) (by decide)
  · exact T.1 3 (by decide) (by decide)
  · exact T.1 4 (by decide) (by decide)
  · exact T.1 5 (by decide) (by decide)
  · exact T.1 6 (by decide) (by decide)
  · exact T.1 7 (by decide) (by decide)
  · exact T.1 8 (by decide) (by decide)
  · exact e23
  · exact e24
  · unfold xCount yCount
    rw [if_neg (by omega), if_neg (by omega), if_neg (by omega), if_neg (by omega), if_neg a, if_neg (by omega), if_neg (by omega), if_neg (by omega), if_neg (by omega), if_neg (by omega), if_neg (by omega), if_neg (by omega), if_neg (by omega), if_neg (by omega)]
    rw [if_neg a, if_neg b, if_neg (by omega), if_neg (by omega), if_neg (by omega), if_neg (by omega), if_neg (by omega), if_neg (by omega), if_neg (by omega), if_neg (by omega), if_neg (by omega), if_neg (by omega), if_neg (by omega), if_neg (by omega), if_neg (by omega), if_neg (by omega), if_neg (by omega), if_neg (by omega), if_neg (by omega), if_neg (by omega), if_neg (by omega), if_neg (by omega)]
