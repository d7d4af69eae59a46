theorem sumI_add {f : Int → Int} {a n : Int} (a0 : 0 ≤ a) (n0 : 0 ≤ n) : sumI f (a + n) = sumI f a + sumI (fun q => f (a + q)) n :=
  foldI_iv (f := fun (k : Int) (_ : Unit) => ()) (x := ()) n0 (fun k _ => sumI f (a + k) = sumI f a + sumI (fun q => f (a + q)) k) (by
    rw [Int.add_zero, sumI_0, Int.add_zero]) fun k _ k0 _ e => by
    rw [← Int.add_assoc, sumI_s (by omega), sumI_s k0, e, Int.add_assoc]
theorem sumI_z {f : Int → Int} {n : Int} (h : ∀ k, 0 ≤ k → k < n → f k = 0) : sumI f n = 0 := by
  by_cases hn : 0 ≤ n
  · have q := sumI_le (f := f) (lo := 0) (hi := 0) hn (fun k a b => by rw [h k a b]; decide)
    rw [Int.zero_mul] at q; omega
  · unfold sumI; rw [show n.toNat = 0 by omega]; rfl
/-- the sum from 0 on and the sum from a on, where nothing lies between 0 and a -/
theorem sum_shift {G : Int → Int} {a n : Int} (n0 : 0 ≤ n) (z1 : ∀ d, 0 ≤ d → d < a → G d = 0) (z2 : ∀ d, d < 0 → G d = 0) : sumI G (a + n) = sumI (fun q => G (a + q)) n := by
  by_cases h : 0 ≤ a
  · rw [sumI_add h n0, sumI_z fun k k0 k1 => z1 k k0 k1, Int.zero_add]
  · by_cases w : 0 ≤ a + n
    · have e := sumI_add (f := fun q => G (a + q)) (a := -a) (n := a + n) (by omega) w
      rw [show -a + (a + n) = n by omega] at e
      rw [e, sumI_z (n := -a) fun k k0 k1 => z2 (a + k) (by omega), Int.zero_add]
      exact sumI_cg fun k _ _ => by rw [show a + (-a + k) = k by omega]
    · rw [sumI_z (n := n) fun k k0 k1 => z2 (a + k) (by omega)]
      unfold sumI; rw [show (a + n).toNat = 0 by omega]; rfl
theorem mSpo_c {r : Int → Int} {N : Int} (hN : 0 ≤ N) : foldI sSp r N 9 = r 9 + sumI (fun q => r (1675 + q)) N ∧ ∀ i, i ≠ 9 → foldI sSp r N i = if 1675 ≤ i ∧ i < 1675 + N then 0 else r i :=
  foldI_iv (f := sSp) (x := r) hN (fun k g => g 9 = r 9 + sumI (fun q => r (1675 + q)) k ∧ ∀ i, i ≠ 9 → g i = if 1675 ≤ i ∧ i < 1675 + k then 0 else r i) ⟨by rw [sumI_0, Int.add_zero], fun i _ => (if_neg (by omega)).symm⟩ fun k g k0 _ e => by
    refine ⟨?_, fun i n => ?_⟩
    · show up1 (up1 g 9 (g 9 + g (1675 + k))) (1675 + k) 0 9 = _
      rw [up1_ne (by omega), up1_same, sumI_s k0, e.1, e.2 (1675 + k) (by omega), if_neg (by omega)]; omega
    · show up1 (up1 g 9 (g 9 + g (1675 + k))) (1675 + k) 0 i = _
      by_cases c : i = 1675 + k
      · subst c; rw [up1_same, if_pos (by omega)]
      · rw [up1_ne c, up1_ne n, e.2 i n]
        by_cases w : 1675 ≤ i ∧ i < 1675 + k
        · rw [if_pos w, if_pos (by omega)]
        · rw [if_neg w, if_neg (by omega)]
theorem HS_spoil {K t : Int} {h : HV} {r : Int → Int} (R : RG K h) (M : MR K r) (et : h 0 6 = t) (hd : t ≤ 1059) (S : HS (t - 30) h r) : HS (t - 29) (dSpoil h) (mSpo r) := by
  have m := M.came
  have rd := R.day
  have hk : 1 ≤ h 1 5 ∧ h 1 5 ≤ 30 := R.set (i := 5) (by decide) (by decide)
  have ek : h 1 5 = r 22 := S.1.1 5 (by decide) (by decide)
  have e0 : r 0 = t := by rw [← S.1.2.2.2.1]; exact et
  have F := S.2.2.2.2
  have z1 : ∀ d, 0 ≤ d → d < t - 30 → rF r d = 0 := fun d d0 d1 => by
    show (if 0 ≤ d then r (1675 + d) else 0) = 0
    rw [if_pos d0]; exact F.2.2 d d0 (by omega) (Or.inl d1)
  have z2 : ∀ d, d < 0 → rF r d = 0 := fun d d0 => if_neg (by omega)
  have en : nSp (h 12) t (31 - h 1 5) = sumI (rF r) (t - 30 + (31 - h 1 5)) := by
    rw [sum_shift (by omega) z1 z2]
    exact sumI_cg fun k k0 k1 => F.2.1 (t - 30 + k) (by omega) (by omega)
  -- the reference's row, cell by cell
  have hc : mSpo r 9 = r 9 + nSp (h 12) t (31 - h 1 5) ∧ ∀ i, i ≠ 9 → mSpo r i = if 1675 ≤ i ∧ i < 1675 + (t - h 1 5 + 1) then 0 else r i := by
    by_cases w : 0 ≤ t - h 1 5 + 1
    · have q := mSpo_c (r := r) w
      have eN : foldI sSp r (t - h 1 5 + 1) = mSpo r := mSpo_i (Or.inl (by rw [e0, ← ek]))
      rw [eN] at q
      refine ⟨q.1.trans ?_, q.2⟩
      rw [en, show t - 30 + (31 - h 1 5) = t - h 1 5 + 1 by omega]
      congr 1
      exact sumI_cg fun k k0 _ => (if_pos k0).symm
    · have eN : foldI sSp r 0 = mSpo r := mSpo_i (Or.inr ⟨rfl, by omega⟩)
      rw [foldI_0] at eN
      rw [← eN, en]
      refine ⟨?_, fun i _ => (if_neg (by omega)).symm⟩
      rw [show sumI (rF r) (t - 30 + (31 - h 1 5)) = 0 from sumI_z fun k k0 k1 => absurd k1 (by omega), Int.add_zero]
  have at' : ∀ i, i ≠ 9 → i < 1675 → mSpo r i = r i := fun i n l => by rw [hc.2 i n, if_neg (by omega)]
  have hg12 : dSpoil h 12 = thr (h 12) t (31 - h 1 5) := by rw [← et]; rfl
  refine ⟨S.1.ofS (RS_spoil R) (MS_mSpo M), S.2.1.of rfl rfl rfl rfl (at' 1 (by decide) (by decide)) (fun i i0 i1 => at' i (by omega) (by omega)), S.2.2.1.of rfl rfl rfl (at' 3 (by decide) (by decide)) (fun i i0 i1 => at' i (by omega) (by omega)), ⟨fun c c0 c1 => ?_, ?_, ?_, ?_, ?_⟩, ?_, fun d d0 d1 => ?_, fun d d0 d1 d2 => ?_⟩
  · show up1 (h 16) 4 (h 16 4 + nSp (h 12) (h 0 6) (31 - h 1 5)) c = _
    by_cases e : c = 4
    · subst e
      have q : h 16 4 = r 9 := S.2.2.2.1.1 4 (by decide) (by decide)
      rw [up1_same, show (5 + 4 : Int) = 9 by decide, hc.1, et, q]
    · rw [up1_ne e, at' (5 + c) (by omega) (by omega)]; exact S.2.2.2.1.1 c c0 c1
  · rw [at' 4 (by decide) (by decide)]; exact S.2.2.2.1.2.1
  · rw [at' 14 (by decide) (by decide)]; exact S.2.2.2.1.2.2.1
  · rw [at' 15 (by decide) (by decide)]; exact S.2.2.2.1.2.2.2.1
  · rw [at' 16 (by decide) (by decide)]; exact S.2.2.2.1.2.2.2.2
  · rw [at' 2 (by decide) (by decide)]; exact F.1
  · rw [hg12]
    have eF : rF (mSpo r) d = if 0 ≤ d then (if d < t - h 1 5 + 1 then 0 else r (1675 + d)) else 0 := by
      show (if 0 ≤ d then mSpo r (1675 + d) else 0) = _
      by_cases q : 0 ≤ d
      · rw [if_pos q, if_pos q, hc.2 _ (by omega)]
        by_cases w : d < t - h 1 5 + 1
        · rw [if_pos w, if_pos (by omega)]
        · rw [if_neg w, if_neg (by omega)]
      · rw [if_neg q, if_neg q]
    rw [eF]
    unfold thr
    by_cases q : d < t - h 1 5 + 1 ∨ d = t
    · rw [if_pos (by omega)]
      by_cases a : 0 ≤ d
      · rw [if_pos a]
        rcases q with q | q
        · rw [if_pos q]
        · rw [if_neg (by omega)]
          exact (F.2.2 d a (by omega) (Or.inr (by omega))).symm
      · rw [if_neg a]
    · rw [if_neg (by omega), F.2.1 d (by omega) (by omega), if_neg (by omega : ¬ d < t - h 1 5 + 1)]
  · rw [hc.2 _ (by omega)]
    by_cases q : 1675 ≤ 1675 + d ∧ 1675 + d < 1675 + (t - h 1 5 + 1)
    · rw [if_pos q]
    · rw [if_neg q]; exact F.2.2 d d0 d1 (by omega)
