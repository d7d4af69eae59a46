/-! the larder -/
def thr (f : Int → Int) (t n : Int) : Int → Int := fun s => if 0 ≤ s ∧ s < 30 ∧ (s - t) % 30 < n then 0 else f s
theorem thr_0 {f : Int → Int} {t : Int} : thr f t 0 = f := by funext s; unfold thr; rw [if_neg (by omega)]
theorem thr_s {f : Int → Int} {t n : Int} (h0 : 0 ≤ n) (h1 : n < 30) : up1 (thr f t n) ((t - 30 + n) % 30) 0 = thr f t (n + 1) := by
  funext s
  unfold up1 thr
  by_cases e : s = (t - 30 + n) % 30
  · rw [if_pos e, if_pos (by omega)]
  · rw [if_neg e]
    by_cases q : 0 ≤ s ∧ s < 30 ∧ (s - t) % 30 < n
    · rw [if_pos q, if_pos (by omega)]
    · rw [if_neg q, if_neg (by omega)]
theorem thr_at {f : Int → Int} {t n : Int} (h0 : 0 ≤ n) (h1 : n < 30) : thr f t n ((t - 30 + n) % 30) = f ((t - 30 + n) % 30) := by unfold thr; rw [if_neg (by omega)]
abbrev nSp (f : Int → Int) (t n : Int) : Int := sumI (fun q => f ((t - 30 + q) % 30)) n
abbrev lThr (h : HV) (t k : Int) : HV := upr h 12 (thr (h 12) t (31 - k))
abbrev lStore (h : HV) (k p t : Int) : HV := if k = 0 then upr h 12 (up1 (h 12) (t % 30) (h 12 (t % 30) + p)) else upr h 11 (up1 (h 11) 1 (h 11 1 + p))
def eatS (f : Int → Int) (t n : Int) : Int := sumI (fun q => f ((t - 30 + 1 + q) % 30)) n
def eatE (f : Int → Int) (t p n : Int) : Int := if p ≤ eatS f t n then p else eatS f t n
def eatR (f : Int → Int) (t p n : Int) : Int → Int := fun s => if 0 ≤ s ∧ s < 30 ∧ (s - t - 1) % 30 < n then f s - (eatE f t p ((s - t - 1) % 30 + 1) - eatE f t p ((s - t - 1) % 30)) else f s
theorem eatS_s {f : Int → Int} {t n : Int} (h0 : 0 ≤ n) : eatS f t (n + 1) = eatS f t n + f ((t - 30 + 1 + n) % 30) := by unfold eatS; rw [sumI_s h0]
theorem eatE_0 {f : Int → Int} {t p : Int} (hp : 0 ≤ p) : eatE f t p 0 = 0 := by unfold eatE; rw [show eatS f t 0 = 0 from rfl]; split <;> omega
theorem eatE_s {f : Int → Int} {t p n : Int} (h0 : 0 ≤ n) (hf : 0 ≤ f ((t - 30 + 1 + n) % 30)) : (if p - eatE f t p n ≤ f ((t - 30 + 1 + n) % 30) then p - eatE f t p n else f ((t - 30 + 1 + n) % 30)) = eatE f t p (n + 1) - eatE f t p n := by
  unfold eatE; rw [eatS_s h0]; split <;> split <;> split <;> omega
theorem eatR_0 {f : Int → Int} {t p : Int} : eatR f t p 0 = f := by funext s; unfold eatR; rw [if_neg (by omega)]
theorem eatR_at {f : Int → Int} {t p n : Int} (h0 : 0 ≤ n) (h1 : n < 30) : eatR f t p n ((t - 30 + 1 + n) % 30) = f ((t - 30 + 1 + n) % 30) := by unfold eatR; rw [if_neg (by omega)]
theorem eatR_s {f : Int → Int} {t p n : Int} (h0 : 0 ≤ n) (h1 : n < 30) : up1 (eatR f t p n) ((t - 30 + 1 + n) % 30) (f ((t - 30 + 1 + n) % 30) - (eatE f t p (n + 1) - eatE f t p n)) = eatR f t p (n + 1) := by
  funext s
  unfold up1 eatR
  by_cases e : s = (t - 30 + 1 + n) % 30
  · have e2 : (s - t - 1) % 30 = n := by omega
    rw [if_pos e, if_pos (by omega), e2, ← e]
  · rw [if_neg e]
    by_cases q : 0 ≤ s ∧ s < 30 ∧ (s - t - 1) % 30 < n
    · rw [if_pos q, if_pos (by omega)]
    · rw [if_neg q, if_neg (by omega)]
theorem eatE_le {f : Int → Int} {t p n : Int} : eatE f t p n ≤ p := by unfold eatE; split <;> omega
theorem eatE_ge {f : Int → Int} {t p n : Int} (hp : 0 ≤ p) (h0 : 0 ≤ n) (hf : ∀ s, 0 ≤ s → s < 30 → 0 ≤ f s) : 0 ≤ eatE f t p n := by
  have h1 : 0 ≤ eatS f t n := by
    have h2 := sumI_sign (f := fun q => f ((t - 30 + 1 + q) % 30)) h0 fun k _ _ => hf _ (by omega) (by omega)
    exact h2
  unfold eatE; split <;> omega
abbrev eatD (h : HV) (p t : Int) : Int := if p - eatE (h 12) t p 30 ≤ h 11 1 then p - eatE (h 12) t p 30 else h 11 1
abbrev lEat (h : HV) (p t : Int) : HV := upr (upr h 12 (eatR (h 12) t p 30)) 11 (up1 (h 11) 1 (h 11 1 - eatD h p t))
abbrev nEat (h : HV) (p t : Int) : Int := eatE (h 12) t p 30 + eatD h p t
def srch (g : Int → Int) (no : Int) : Nat → Int → Int → Int
  | 0, _, _ => no
  | n + 1, k, l => if g k = 0 then srch g no n (k + 1) l else if l = 0 then k else srch g no n (k + 1) (l - 1)
def srchI (g : Int → Int) (no n k l : Int) : Int := srch g no n.toNat k l
theorem srchI_0 {g : Int → Int} {no n k l : Int} (h : n ≤ 0) : srchI g no n k l = no := by unfold srchI; rw [show n.toNat = 0 by omega]; rfl
theorem srchI_s {g : Int → Int} {no n k l : Int} (h : 0 < n) : srchI g no n k l = if g k = 0 then srchI g no (n - 1) (k + 1) l else if l = 0 then k else srchI g no (n - 1) (k + 1) (l - 1) := by
  unfold srchI; rw [show n.toNat = (n - 1).toNat + 1 by omega]; rfl
abbrev lRank (h : HV) (t r : Int) : Int := srchI (fun d => h 12 (d % 30)) (-1000005) 30 (t - 30) r
/-! the orders -/
def shC (f : Int → Int) (n : Int) : Int → Int := fun k => if 0 ≤ k ∧ k < n then f (k + 1) else f k
theorem shC_0 {f : Int → Int} : shC f 0 = f := by funext s; unfold shC; rw [if_neg (by omega)]
theorem shC_s {f : Int → Int} {n : Int} (h0 : 0 ≤ n) : up1 (shC f n) (n + 1 - 1) (shC f n (n + 1)) = shC f (n + 1) := by
  funext s
  unfold up1 shC
  by_cases e : s = n + 1 - 1
  · rw [if_pos e, if_neg (by omega), if_pos (by omega)]
    exact congrArg f (by omega)
  · rw [if_neg e]
    by_cases q : 0 ≤ s ∧ s < n
    · rw [if_pos q, if_pos (by omega)]
    · rw [if_neg q, if_neg (by omega)]
abbrev oApp (h : HV) (k w : Int) : HV := upr (upr (upr h 14 (up1 (h 14) (h 13 2) k)) 15 (up1 (h 15) (h 13 2) w)) 13 (up1 (h 13) 2 (h 13 2 + 1))
abbrev oLast (h : HV) : HV := upr h 13 (up1 (h 13) 2 (h 13 2 - 1))
abbrev oRF (h : HV) : HV := upr (upr (upr h 14 (shC (h 14) (h 13 2 - 1))) 15 (shC (h 15) (h 13 2 - 1))) 13 (up1 (h 13) 2 (h 13 2 - 1))
abbrev oTak (h : HV) (m : Int) : Int := if m ≤ h 15 0 then m else h 15 0
abbrev oTF (h : HV) (m : Int) : HV := if h 15 0 - oTak h m = 0 then oRF (upr h 15 (up1 (h 15) 0 (h 15 0 - oTak h m))) else upr h 15 (up1 (h 15) 0 (h 15 0 - oTak h m))
set_option maxRecDepth 100000 in
set_option maxHeartbeats 4000000 in
theorem m_J9_floorMod_7cf53 {hs : Nat → HV} {tp md : HV} {E : HE} (hE : HI E) {d : Int} (d0 : -1000000 ≤ d ∧ d ≤ 1000000) : Mt yJ9_floorMod_7cf53 cJ9_floorMod_7cf53 3 (some .int) 1 E [vI d, vI 30] hs tp md (some (vI (d % 30))) hs tp md := by
  refine mk_Mt hE (by decide +kernel) (Nat.le_of_ble_eq_true rfl) (by intro w0 hw0; simp only [List.mem_cons, List.not_mem_nil, or_false] at hw0; rcases hw0 with rfl | rfl <;> rfl) (rfl : _ = [_, _, _]) ?_
  intro F C D
  have e8 := Int.emod_nonneg d (by decide : (30 : Int) ≠ 0)
  have e7 := xr_neg (a := d) (b := 30) ⟨by omega, by omega⟩ ⟨by decide, by decide⟩ (by decide)
  have e5 : d.tmod 30 = if 0 ≤ d ∨ (30 : Int) ∣ d then d % 30 else d % 30 - 30 := by rw [Int.tmod_eq_emod]; split <;> simp
  have e6 : -30 < d.tmod 30 ∧ d.tmod 30 < 30 := by rw [e5]; split <;> omega
  refine x_iload_n C dJ9_floorMod_7cf53_0 rfl ?_
  refine x_iload_n C dJ9_floorMod_7cf53_1 rfl ?_
  refine x_iremT C dJ9_floorMod_7cf53_2 ⟨(by omega), (by omega)⟩ ⟨by omega, by omega⟩ (by omega) ?_
  refine x_istore_n C dJ9_floorMod_7cf53_3 (by decide) (rfl : _ = [_, _, _]) ?_
  refine x_iload_n C dJ9_floorMod_7cf53_4 rfl ?_
  refine x_iload_n C dJ9_floorMod_7cf53_5 rfl ?_
  refine x_ixor C dJ9_floorMod_7cf53_6 ?_
  refine x_if_ge 18 C dJ9_floorMod_7cf53_7 (by decide) xr_IR (fun c_1 => ?_) (fun c_1 => ?_)
  · refine x_iload_n C dJ9_floorMod_7cf53_18 rfl ?_
    exact x_iret C D rfl dJ9_floorMod_7cf53_19 (by rw [e5] at *; split at * <;> omega) rfl rfl rfl
  · refine x_iload_n C dJ9_floorMod_7cf53_10 rfl ?_
    refine x_if_eq 18 C dJ9_floorMod_7cf53_11 (by decide) ⟨by omega, by omega⟩ (fun c_2 => ?_) (fun c_2 => ?_)
    · refine x_iload_n C dJ9_floorMod_7cf53_18 rfl ?_
      exact x_iret C D rfl dJ9_floorMod_7cf53_19 (by rw [e5] at *; split at * <;> omega) rfl rfl rfl
    · refine x_iload_n C dJ9_floorMod_7cf53_14 rfl ?_
      refine x_iload_n C dJ9_floorMod_7cf53_15 rfl ?_
      refine x_iadd C dJ9_floorMod_7cf53_16 ?_
      exact x_iret C D rfl dJ9_floorMod_7cf53_17 (by rw [e5] at *; split at * <;> omega) rfl rfl rfl
set_option maxRecDepth 100000 in
set_option maxHeartbeats 4000000 in
theorem m_X4_slotOf {hs : Nat → HV} {tp md : HV} {E : HE} (hE : HI E) {d : Int} (d0 : -1000000 ≤ d ∧ d ≤ 1000000) : Mt yX4_slotOf cX4_slotOf 1 (some .int) 2 E [vI d] hs tp md (some (vI (d % 30))) hs tp md := by
  refine mk_Mt hE (plainFor_of_name (by decide)) (Nat.le_of_ble_eq_true rfl) (by intro w0 hw0; simp only [List.mem_cons, List.not_mem_nil, or_false] at hw0; rcases hw0 with rfl <;> rfl) (rfl : _ = [_]) ?_
  intro F C D
  refine x_iload_n C dX4_slotOf_0 rfl ?_
  refine x_bipush C dX4_slotOf_1 (by decide) ?_
  refine x_callS (nA := 2) (As := [vI d, vI 30]) (rest := []) C (m_J9_floorMod_7cf53 hE (d := d) ⟨by omega, by omega⟩) q_497 q_498 q_65 q_499 (by decide +kernel) rfl (by decide) (by decide) (Nat.le_of_ble_eq_true rfl) dX4_slotOf_3 rfl ?_
  exact x_iret C D rfl dX4_slotOf_6 rfl rfl rfl rfl
set_option maxRecDepth 100000 in
set_option maxHeartbeats 4000000 in
theorem m_X4_freshOf {hs : Nat → HV} {tp md : HV} {E : HE} {j : Nat} {h : HV} (hE : HI E) (hj : j < 7) (hh : hs j = h) {d v9 : Int} (d0 : -1000000 ≤ d ∧ d ≤ 1000000) (hv : h 12 (d % 30) = v9) : Mt yX4_freshOf cX4_freshOf 2 (some .int) 3 E [.ref (hA E j 11), vI d] hs tp md (some (vI v9)) hs tp md := by
  refine mk_Mt hE (plainFor_of_name (by decide)) (Nat.le_of_ble_eq_true rfl) (by intro w0 hw0; simp only [List.mem_cons, List.not_mem_nil, or_false] at hw0; rcases hw0 with rfl | rfl <;> rfl) (rfl : _ = [_, _]) ?_
  intro F C D
  refine x_aload_n C dX4_freshOf_0 rfl ?_
  refine gh_11_0 C hj hh q_140 dX4_freshOf_1 ?_
  refine x_iload_n C dX4_freshOf_4 rfl ?_
  refine x_callS (nA := 1) (As := [vI d]) (rest := [.ref (hA E j 12)]) C (m_X4_slotOf hE (d := d) ⟨by omega, by omega⟩) q_494 q_495 q_60 q_496 (by decide +kernel) rfl (by decide) (by decide) (Nat.le_of_ble_eq_true rfl) dX4_freshOf_5 rfl ?_
  refine lh_12 C hj hh (by omega) (by omega) dX4_freshOf_8 rfl ?_
  exact x_iret C D rfl dX4_freshOf_9 hv rfl rfl rfl
set_option maxRecDepth 100000 in
set_option maxHeartbeats 4000000 in
theorem m_X4_allFresh {hs : Nat → HV} {tp md : HV} {E : HE} {j : Nat} {h : HV} (hE : HI E) (hj : j < 7) (hh : hs j = h) {K : Int} (R : RG K h) : Mt yX4_allFresh cX4_allFresh 3 (some .int) 1 E [.ref (hA E j 11)] hs tp md (some (vI (sumI (h 12) 30))) hs tp md := by
  refine mk_Mt hE (plainFor_of_name (by decide)) (Nat.le_of_ble_eq_true rfl) (by intro w0 hw0; simp only [List.mem_cons, List.not_mem_nil, or_false] at hw0; rcases hw0 with rfl <;> rfl) (rfl : _ = [_, _, _]) ?_
  intro F C D
  refine x_const C dX4_allFresh_0 ?_
  refine x_istore_n C dX4_allFresh_1 (by decide) (rfl : _ = [_, _, _]) ?_
  refine x_const C dX4_allFresh_2 ?_
  refine x_istore_n C dX4_allFresh_3 (by decide) (rfl : _ = [_, _, _]) ?_
  have K4 : ∀ (nn : Nat) (i : Int), 0 ≤ i → i ≤ 30 → 30 - i < nn →  G F E hs tp md 4 [some (.ref (hA E j 11)), some (vI (sumI (h 12) i)), some (vI i)] [] := by
    intro nn
    induction nn with
    | zero => intro i i0 i1 hz; exact absurd hz (by omega)
    | succ nn ih =>
      intro i i0 i1 hz
      refine x_iload_n C dX4_allFresh_4 rfl ?_
      refine x_bipush C dX4_allFresh_5 (by decide) ?_
      refine x_icmp_ge 25 C dX4_allFresh_7 (by decide) ⟨by omega, by omega⟩ ⟨by omega, by omega⟩ (fun c_1 => ?_) (fun c_1 => ?_)
      · refine x_iload_n C dX4_allFresh_25 rfl ?_
        exact x_iret C D rfl dX4_allFresh_26 (by rw [show i = 30 by omega]) rfl rfl rfl
      · refine x_iload_n C dX4_allFresh_10 rfl ?_
        refine x_aload_n C dX4_allFresh_11 rfl ?_
        refine gh_11_0 C hj hh q_140 dX4_allFresh_12 ?_
        refine x_iload_n C dX4_allFresh_15 rfl ?_
        refine lh_12 C hj hh (by omega) (by omega) dX4_allFresh_16 rfl ?_
        refine x_iadd C dX4_allFresh_17 ?_
        refine x_istore_n C dX4_allFresh_18 (by decide) (rfl : _ = [_, _, _]) ?_
        refine x_iinc C dX4_allFresh_19 rfl (by decide) (rfl : _ = [_, _, _]) ?_
        refine x_goto 4 C dX4_allFresh_22 (by decide) ?_
        refine G.wk (ih (i + 1) (by omega) (by omega) (by omega)) ?_
        simp only [leL, sumI_s i0, and_self]
  exact K4 ((30 : Int) + 1).toNat 0 (by omega) (by omega) (by omega)
set_option maxRecDepth 100000 in
set_option maxHeartbeats 4000000 in
theorem m_X4_throwSpoiltAway {hs : Nat → HV} {tp md : HV} {E : HE} {j : Nat} {h : HV} (hE : HI E) (hj : j < 7) (hh : hs j = h) {t : Int} (t0 : 0 ≤ t ∧ t ≤ 1100) {k : Int} (k0 : 1 ≤ k ∧ k ≤ 30) {hs9 : Nat → HV} (he : putH hs j (lThr h t k) = hs9) : Mt yX4_throwSpoiltAway cX4_throwSpoiltAway 6 (some .int) 3 E [.ref (hA E j 11), vI t, vI k] hs tp md (some (vI (nSp (h 12) t (31 - k)))) hs9 tp md := by
  subst he
  refine mk_Mt hE (plainFor_of_name (by decide)) (Nat.le_of_ble_eq_true rfl) (by intro w0 hw0; simp only [List.mem_cons, List.not_mem_nil, or_false] at hw0; rcases hw0 with rfl | rfl | rfl <;> rfl) (rfl : _ = [_, _, _, _, _, _]) ?_
  intro F C D
  refine x_const C dX4_throwSpoiltAway_0 ?_
  refine x_istore_n C dX4_throwSpoiltAway_1 (by decide) (rfl : _ = [_, _, _, _, _, _]) ?_
  refine x_iload_n C dX4_throwSpoiltAway_2 rfl ?_
  refine x_bipush C dX4_throwSpoiltAway_3 (by decide) ?_
  refine x_isub C dX4_throwSpoiltAway_5 ?_
  refine x_istore C dX4_throwSpoiltAway_6 (by decide) (rfl : _ = [_, _, _, _, _, _]) ?_
  have K8 : ∀ (nn : Nat) (n : Int), 0 ≤ n → n ≤ 31 - k → 40 - n < nn →  G F E (putH hs j (upr h 12 (thr (h 12) t n))) tp md 8 [some (.ref (hA E j 11)), some (vI t), some (vI k), some (vI (nSp (h 12) t n)), some (vI (t - 30 + n)), none] [] := by
    intro nn
    induction nn with
    | zero => intro n n0 n1 hz; exact absurd hz (by omega)
    | succ nn ih =>
      intro n n0 n1 hz
      refine x_iload C dX4_throwSpoiltAway_8 rfl ?_
      refine x_iload_n C dX4_throwSpoiltAway_10 rfl ?_
      refine x_iload_n C dX4_throwSpoiltAway_11 rfl ?_
      refine x_isub C dX4_throwSpoiltAway_12 ?_
      refine x_icmp_gt 47 C dX4_throwSpoiltAway_13 (by decide) ⟨by omega, by omega⟩ ⟨by omega, by omega⟩ (fun c_1 => ?_) (fun c_1 => ?_)
      · refine x_iload_n C dX4_throwSpoiltAway_47 rfl ?_
        exact x_iret C D rfl dX4_throwSpoiltAway_48 (by rw [show n = 31 - k by omega]) (by rw [show n = 31 - k by omega]) rfl rfl
      · refine x_iload C dX4_throwSpoiltAway_16 rfl ?_
        refine x_callS (nA := 1) (As := [vI (t - 30 + n)]) (rest := []) C (m_X4_slotOf hE (d := t - 30 + n) ⟨by omega, by omega⟩) q_494 q_495 q_60 q_496 (by decide +kernel) rfl (by decide) (by decide) (Nat.le_of_ble_eq_true rfl) dX4_throwSpoiltAway_18 rfl ?_
        refine x_istore C dX4_throwSpoiltAway_21 (by decide) (rfl : _ = [_, _, _, _, _, _]) ?_
        refine x_iload_n C dX4_throwSpoiltAway_23 rfl ?_
        refine x_aload_n C dX4_throwSpoiltAway_24 rfl ?_
        refine gh_11_0 C hj putH_same q_140 dX4_throwSpoiltAway_25 ?_
        refine x_iload C dX4_throwSpoiltAway_28 rfl ?_
        refine lh_12 C hj putH_same (by omega) (by omega) dX4_throwSpoiltAway_30 (show thr (h 12) t n ((t - 30 + n) % 30) = h 12 ((t - 30 + n) % 30) from thr_at n0 (by omega)) ?_
        refine x_iadd C dX4_throwSpoiltAway_31 ?_
        refine x_istore_n C dX4_throwSpoiltAway_32 (by decide) (rfl : _ = [_, _, _, _, _, _]) ?_
        refine x_aload_n C dX4_throwSpoiltAway_33 rfl ?_
        refine gh_11_0 C hj putH_same q_140 dX4_throwSpoiltAway_34 ?_
        refine x_iload C dX4_throwSpoiltAway_37 rfl ?_
        refine x_const C dX4_throwSpoiltAway_39 ?_
        refine sh_12 C hj putH_same (by omega) (by omega) dX4_throwSpoiltAway_40 putH_put ?_
        refine x_iinc C dX4_throwSpoiltAway_41 rfl (by decide) (rfl : _ = [_, _, _, _, _, _]) ?_
        refine x_goto 8 C dX4_throwSpoiltAway_44 (by decide) ?_
        refine G.of (G.wk (ih (n + 1) (by omega) (by omega) (by omega)) ?_) ?_ rfl rfl rfl
        · simp only [leL, sumI_s n0, Int.add_assoc, and_self]
        · rw [← thr_s n0 (by omega)]; exact congrArg (putH hs j) upr_upr
  refine G.of (G.wk (K8 41 0 (by omega) (by omega) (by omega)) ?_) ?_ rfl rfl rfl
  · simp only [leL, Int.add_zero, and_self]; trivial
  · rw [thr_0, upr_id, putH_of hh]
set_option maxRecDepth 100000 in
set_option maxHeartbeats 4000000 in
theorem m_X4_store {hs : Nat → HV} {tp md : HV} {E : HE} {j : Nat} {h : HV} (hE : HI E) (hj : j < 7) (hh : hs j = h) {k p t : Int} (k0 : 0 ≤ k ∧ k ≤ 1) (t0 : 0 ≤ t ∧ t ≤ 1100) {hs9 : Nat → HV} (he : putH hs j (lStore h k p t) = hs9) : Mt yX4_store cX4_store 4 none 3 E [.ref (hA E j 11), vI k, vI p, vI t] hs tp md none hs9 tp md := by
  subst he
  refine mk_Mt hE (plainFor_of_name (by decide)) (Nat.le_of_ble_eq_true rfl) (by intro w0 hw0; simp only [List.mem_cons, List.not_mem_nil, or_false] at hw0; rcases hw0 with rfl | rfl | rfl | rfl <;> rfl) (rfl : _ = [_, _, _, _]) ?_
  intro F C D
  refine x_iload_n C dX4_store_0 rfl ?_
  refine x_if_ne 20 C dX4_store_1 (by decide) ⟨by omega, by omega⟩ (fun c_1 => ?_) (fun c_1 => ?_)
  · refine x_aload_n C dX4_store_20 rfl ?_
    refine x_dup C dX4_store_21 rfl ?_
    refine gh_11_1 C hj hh q_141 dX4_store_22 rfl ?_
    refine x_iload_n C dX4_store_25 rfl ?_
    refine x_iadd C dX4_store_26 ?_
    refine ph_11_1 C hj hh q_141 dX4_store_27 rfl ?_
    exact x_vret C D dX4_store_30 (by unfold lStore; rw [if_neg c_1]) rfl rfl
  · refine x_aload_n C dX4_store_4 rfl ?_
    refine gh_11_0 C hj hh q_140 dX4_store_5 ?_
    refine x_iload_n C dX4_store_8 rfl ?_
    refine x_callS (nA := 1) (As := [vI t]) (rest := [.ref (hA E j 12)]) C (m_X4_slotOf hE (d := t) ⟨by omega, by omega⟩) q_494 q_495 q_60 q_496 (by decide +kernel) rfl (by decide) (by decide) (Nat.le_of_ble_eq_true rfl) dX4_store_9 rfl ?_
    refine x_dup2 C dX4_store_12 rfl rfl ?_
    refine lh_12 C hj hh (by omega) (by omega) dX4_store_13 rfl ?_
    refine x_iload_n C dX4_store_14 rfl ?_
    refine x_iadd C dX4_store_15 ?_
    refine sh_12 C hj hh (by omega) (by omega) dX4_store_16 rfl ?_
    refine x_goto 30 C dX4_store_17 (by decide) ?_
    exact x_vret C D dX4_store_30 (by unfold lStore; rw [if_pos c_1]) rfl rfl
set_option maxRecDepth 100000 in
set_option maxHeartbeats 4000000 in
theorem m_X4_eat {hs : Nat → HV} {tp md : HV} {E : HE} {j : Nat} {h : HV} (hE : HI E) (hj : j < 7) (hh : hs j = h) {K : Int} (R : RG K h) (hK : K ≤ 1000000) {p t : Int} (p0 : 0 ≤ p ∧ p ≤ 100000) (t0 : 0 ≤ t ∧ t ≤ 1100) {hs9 : Nat → HV} (he : putH hs j (lEat h p t) = hs9) : Mt yX4_eat cX4_eat 7 (some .int) 3 E [.ref (hA E j 11), vI p, vI t] hs tp md (some (vI (nEat h p t))) hs9 tp md := by
  subst he
  refine mk_Mt hE (plainFor_of_name (by decide)) (Nat.le_of_ble_eq_true rfl) (by intro w0 hw0; simp only [List.mem_cons, List.not_mem_nil, or_false] at hw0; rcases hw0 with rfl | rfl | rfl <;> rfl) (rfl : _ = [_, _, _, _, _, _, _]) ?_
  intro F C D
  have rd := RG.dry R
  have hf : ∀ s, 0 ≤ s → s < 30 → 0 ≤ h 12 s ∧ h 12 s ≤ K := fun s a b => RG.fre R a b
  refine x_const C dX4_eat_0 ?_
  refine x_istore_n C dX4_eat_1 (by decide) (rfl : _ = [_, _, _, _, _, _, _]) ?_
  refine x_iload_n C dX4_eat_2 rfl ?_
  refine x_bipush C dX4_eat_3 (by decide) ?_
  refine x_isub C dX4_eat_5 ?_
  refine x_const C dX4_eat_6 ?_
  refine x_iadd C dX4_eat_7 ?_
  refine x_istore C dX4_eat_8 (by decide) (rfl : _ = [_, _, _, _, _, _, _]) ?_
  have K10 : ∀ (nn : Nat) (n : Int), 0 ≤ n → n ≤ 30 → 40 - n < nn →  G F E (putH hs j (upr h 12 (eatR (h 12) t p n))) tp md 10 [some (.ref (hA E j 11)), some (vI p), some (vI t), some (vI (eatE (h 12) t p n)), some (vI (t - 30 + 1 + n)), none, none] [] := by
    intro nn
    induction nn with
    | zero => intro n n0 n1 hz; exact absurd hz (by omega)
    | succ nn ih =>
      intro n n0 n1 hz
      refine x_iload C dX4_eat_10 rfl ?_
      refine x_iload_n C dX4_eat_12 rfl ?_
      refine x_icmp_gt 61 C dX4_eat_13 (by decide) ⟨by omega, by omega⟩ ⟨by omega, by omega⟩ (fun c_1 => ?_) (fun c_1 => ?_)
      · have hn9 : n = 30 := by omega
        subst hn9
        have he0 := eatE_le (f := h 12) (t := t) (p := p) (n := 30)
        have he1 := eatE_ge (f := h 12) (t := t) (p := p) (n := 30) p0.1 (by decide) (fun s a b => (hf s a b).1)
        refine x_iload_n C dX4_eat_61 rfl ?_
        refine x_iload_n C dX4_eat_62 rfl ?_
        refine x_isub C dX4_eat_63 ?_
        refine x_aload_n C dX4_eat_64 rfl ?_
        refine gh_11_1 C hj putH_same q_141 dX4_eat_65 (show _ = h 11 1 from rfl) ?_
        refine x_min C q_573 q_321 q_65 q_322 (by decide) (Nat.le_of_ble_eq_true rfl) ⟨by omega, by omega⟩ ⟨by omega, by omega⟩ dX4_eat_68 ?_
        refine x_istore C dX4_eat_71 (by decide) (rfl : _ = [_, _, _, _, _, _, _]) ?_
        refine x_aload_n C dX4_eat_73 rfl ?_
        refine x_dup C dX4_eat_74 rfl ?_
        refine gh_11_1 C hj putH_same q_141 dX4_eat_75 (show _ = h 11 1 from rfl) ?_
        refine x_iload C dX4_eat_78 rfl ?_
        refine x_isub C dX4_eat_80 ?_
        refine ph_11_1 C hj putH_same q_141 dX4_eat_81 putH_put ?_
        refine x_iload_n C dX4_eat_84 rfl ?_
        refine x_iload C dX4_eat_85 rfl ?_
        refine x_iadd C dX4_eat_87 ?_
        exact x_iret C D rfl dX4_eat_88 rfl rfl rfl rfl
      · have hz := hf ((t - 30 + 1 + n) % 30) (by omega) (by omega)
        have he0 := eatE_le (f := h 12) (t := t) (p := p) (n := n)
        have he1 := eatE_ge (f := h 12) (t := t) (p := p) (n := n) p0.1 n0 (fun s a b => (hf s a b).1)
        refine x_iload C dX4_eat_16 rfl ?_
        refine x_callS (nA := 1) (As := [vI (t - 30 + 1 + n)]) (rest := []) C (m_X4_slotOf hE (d := t - 30 + 1 + n) ⟨by omega, by omega⟩) q_494 q_495 q_60 q_496 (by decide +kernel) rfl (by decide) (by decide) (Nat.le_of_ble_eq_true rfl) dX4_eat_18 rfl ?_
        refine x_istore C dX4_eat_21 (by decide) (rfl : _ = [_, _, _, _, _, _, _]) ?_
        refine x_iload_n C dX4_eat_23 rfl ?_
        refine x_iload_n C dX4_eat_24 rfl ?_
        refine x_isub C dX4_eat_25 ?_
        refine x_aload_n C dX4_eat_26 rfl ?_
        refine gh_11_0 C hj putH_same q_140 dX4_eat_27 ?_
        refine x_iload C dX4_eat_30 rfl ?_
        refine lh_12 C hj putH_same (by omega) (by omega) dX4_eat_32 (show eatR (h 12) t p n ((t - 30 + 1 + n) % 30) = h 12 ((t - 30 + 1 + n) % 30) from eatR_at n0 (by omega)) ?_
        refine x_min C q_573 q_321 q_65 q_322 (by decide) (Nat.le_of_ble_eq_true rfl) ⟨by omega, by omega⟩ ⟨by omega, by omega⟩ dX4_eat_33 ?_
        refine G.eqS ?_ (congrArg (fun z => [vI z]) (eatE_s n0 hz.1))
        refine x_istore C dX4_eat_36 (by decide) (rfl : _ = [_, _, _, _, _, _, _]) ?_
        refine x_aload_n C dX4_eat_38 rfl ?_
        refine gh_11_0 C hj putH_same q_140 dX4_eat_39 ?_
        refine x_iload C dX4_eat_42 rfl ?_
        refine x_dup2 C dX4_eat_44 rfl rfl ?_
        refine lh_12 C hj putH_same (by omega) (by omega) dX4_eat_45 (show eatR (h 12) t p n ((t - 30 + 1 + n) % 30) = h 12 ((t - 30 + 1 + n) % 30) from eatR_at n0 (by omega)) ?_
        refine x_iload C dX4_eat_46 rfl ?_
        refine x_isub C dX4_eat_48 ?_
        refine sh_12 C hj putH_same (by omega) (by omega) dX4_eat_49 putH_put ?_
        refine x_iload_n C dX4_eat_50 rfl ?_
        refine x_iload C dX4_eat_51 rfl ?_
        refine x_iadd C dX4_eat_53 ?_
        refine x_istore_n C dX4_eat_54 (by decide) (rfl : _ = [_, _, _, _, _, _, _]) ?_
        refine x_iinc C dX4_eat_55 rfl (by decide) (rfl : _ = [_, _, _, _, _, _, _]) ?_
        refine x_goto 10 C dX4_eat_58 (by decide) ?_
        refine G.of (G.wk (ih (n + 1) (by omega) (by omega) (by omega)) ?_) ?_ rfl rfl rfl
        · simp only [leL, Int.add_assoc, and_self, and_true, true_and]; exact congrArg (fun z => some (vI z)) (by omega)
        · rw [← eatR_s n0 (by omega)]; refine (congrArg (putH hs j) upr_upr).trans ?_; rw [upr_same]
  refine G.of (G.wk (K10 41 0 (by omega) (by omega) (by omega)) ?_) ?_ rfl rfl rfl
  · simp only [leL, Int.add_zero, eatE_0 p0.1, and_self]
  · rw [eatR_0, upr_id, putH_of hh]
set_option maxRecDepth 100000 in
set_option maxHeartbeats 4000000 in
theorem m_X4_dayOfRank {hs : Nat → HV} {tp md : HV} {E : HE} {j : Nat} {h : HV} (hE : HI E) (hj : j < 7) (hh : hs j = h) {K : Int} (R : RG K h) (hK : K ≤ 1000000) {t r : Int} (t0 : 0 ≤ t ∧ t ≤ 1100) (r0 : 0 ≤ r ∧ r ≤ 2147483647) : Mt yX4_dayOfRank cX4_dayOfRank 5 (some .int) 4 E [.ref (hA E j 11), vI t, vI r] hs tp md (some (vI (lRank h t r))) hs tp md := by
  refine mk_Mt hE (plainFor_of_name (by decide)) (Nat.le_of_ble_eq_true rfl) (by intro w0 hw0; simp only [List.mem_cons, List.not_mem_nil, or_false] at hw0; rcases hw0 with rfl | rfl | rfl <;> rfl) (rfl : _ = [_, _, _, _, _]) ?_
  intro F C D
  refine x_const C dX4_dayOfRank_0 ?_
  refine x_istore_n C dX4_dayOfRank_1 (by decide) (rfl : _ = [_, _, _, _, _]) ?_
  refine x_iload_n C dX4_dayOfRank_2 rfl ?_
  refine x_bipush C dX4_dayOfRank_3 (by decide) ?_
  refine x_isub C dX4_dayOfRank_5 ?_
  refine x_istore C dX4_dayOfRank_6 (by decide) (rfl : _ = [_, _, _, _, _]) ?_
  have K8 : ∀ (nn : Nat) (n e : Int), 0 ≤ n → n ≤ 30 → 0 ≤ e → e ≤ n → lRank h t r = srchI (fun d => h 12 (d % 30)) (-1000005) (30 - n) (t - 30 + n) (r - e) → 40 - n < nn →  G F E hs tp md 8 [some (.ref (hA E j 11)), some (vI t), some (vI r), some (vI e), some (vI (t - 30 + n))] [] := by
    intro nn
    induction nn with
    | zero => intro n e n0 n1 z0 z1 hq hz; exact absurd hz (by omega)
    | succ nn ih =>
      intro n e n0 n1 z0 z1 hq hz
      refine x_iload C dX4_dayOfRank_8 rfl ?_
      refine x_iload_n C dX4_dayOfRank_10 rfl ?_
      refine x_icmp_ge 43 C dX4_dayOfRank_11 (by decide) ⟨by omega, by omega⟩ ⟨by omega, by omega⟩ (fun c_1 => ?_) (fun c_1 => ?_)
      · refine x_ldc (n := (-1000005)) C q_667 dX4_dayOfRank_43 rfl ?_
        exact x_iret C D rfl dX4_dayOfRank_45 (by rw [hq, srchI_0 (by omega)]) rfl rfl rfl
      · refine x_aload_n C dX4_dayOfRank_14 rfl ?_
        refine x_iload C dX4_dayOfRank_15 rfl ?_
        refine x_callV (nA := 1) (As := [vI (t - 30 + n)]) (rest := []) C (m_X4_freshOf hE hj hh (d := t - 30 + n) ⟨by omega, by omega⟩ (v9 := h 12 ((t - 30 + n) % 30)) rfl) q_663 q_664 q_665 q_60 q_666 (by decide +kernel) (wl_h hj hh 11 (by decide)) rfl rfl (by decide) (by decide) (Nat.le_of_ble_eq_true rfl) dX4_dayOfRank_17 rfl ?_
        have hz := RG.fre R (i := (t - 30 + n) % 30) (by omega) (by omega)
        refine x_if_ne 26 C dX4_dayOfRank_20 (by decide) ⟨by omega, by omega⟩ (fun c_2 => ?_) (fun c_2 => ?_)
        · refine x_iload_n C dX4_dayOfRank_26 rfl ?_
          refine x_iload_n C dX4_dayOfRank_27 rfl ?_
          refine x_icmp_ne 34 C dX4_dayOfRank_28 (by decide) ⟨by omega, by omega⟩ ⟨by omega, by omega⟩ (fun c_3 => ?_) (fun c_3 => ?_)
          · refine x_iinc C dX4_dayOfRank_34 rfl (by decide) (rfl : _ = [_, _, _, _, _]) ?_
            refine x_iinc C dX4_dayOfRank_37 rfl (by decide) (rfl : _ = [_, _, _, _, _]) ?_
            refine x_goto 8 C dX4_dayOfRank_40 (by decide) ?_
            refine G.wk (ih (n + 1) (e + 1) (by omega) (by omega) (by omega) (by omega) (by rw [hq, srchI_s (by omega), if_neg c_2, if_neg (by omega)]; congr 1 <;> omega) (by omega)) ?_
            simp only [leL, Int.add_assoc, and_self]
          · refine x_iload C dX4_dayOfRank_31 rfl ?_
            exact x_iret C D rfl dX4_dayOfRank_33 (by rw [hq, srchI_s (by omega), if_neg c_2, if_pos (by omega)]) rfl rfl rfl
        · refine x_goto 37 C dX4_dayOfRank_23 (by decide) ?_
          refine x_iinc C dX4_dayOfRank_37 rfl (by decide) (rfl : _ = [_, _, _, _, _]) ?_
          refine x_goto 8 C dX4_dayOfRank_40 (by decide) ?_
          refine G.wk (ih (n + 1) e (by omega) (by omega) (by omega) (by omega) (by rw [hq, srchI_s (by omega), if_pos c_2]; congr 1 <;> omega) (by omega)) ?_
          simp only [leL, Int.add_assoc, and_self]
  refine G.wk (K8 41 0 0 (by omega) (by omega) (by omega) (by omega) (by simp) (by omega)) ?_
  simp only [leL, Int.add_zero, and_self]
set_option maxRecDepth 100000 in
set_option maxHeartbeats 4000000 in
theorem m_X5_append {hs : Nat → HV} {tp md : HV} {E : HE} {j : Nat} {h : HV} (hE : HI E) (hj : j < 7) (hh : hs j = h) (s0 : 0 ≤ h 13 2) (s1 : h 13 2 < 12) {k w : Int} {hs9 : Nat → HV} (he : putH hs j (oApp h k w) = hs9) : Mt yX5_append cX5_append 3 none 1 E [.ref (hA E j 13), vI k, vI w] hs tp md none hs9 tp md := by
  subst he
  refine mk_Mt hE (plainFor_of_name (by decide)) (Nat.le_of_ble_eq_true rfl) (by intro w0 hw0; simp only [List.mem_cons, List.not_mem_nil, or_false] at hw0; rcases hw0 with rfl | rfl | rfl <;> rfl) (rfl : _ = [_, _, _]) ?_
  intro F C D
  refine x_aload_n C dX5_append_0 rfl ?_
  refine gh_13_2 C hj hh q_159 dX5_append_1 rfl ?_
  refine x_bipush C dX5_append_4 (by decide) ?_
  refine x_icmp_ge 39 C dX5_append_6 (by decide) ⟨by omega, by omega⟩ ⟨by omega, by omega⟩ (fun c_1 => ?_) (fun c_1 => ?_)
  · exact absurd c_1 (by omega)
  · refine x_aload_n C dX5_append_9 rfl ?_
    refine gh_13_0 C hj hh q_154 dX5_append_10 ?_
    refine x_aload_n C dX5_append_13 rfl ?_
    refine gh_13_2 C hj hh q_159 dX5_append_14 rfl ?_
    refine x_iload_n C dX5_append_17 rfl ?_
    refine sh_14 C hj hh (by omega) (by omega) dX5_append_18 rfl ?_
    refine x_aload_n C dX5_append_19 rfl ?_
    refine gh_13_1 C hj putH_same q_157 dX5_append_20 ?_
    refine x_aload_n C dX5_append_23 rfl ?_
    refine gh_13_2 C hj putH_same q_159 dX5_append_24 (show _ = h 13 2 from rfl) ?_
    refine x_iload_n C dX5_append_27 rfl ?_
    refine sh_15 C hj putH_same (by omega) (by omega) dX5_append_28 putH_put ?_
    refine x_aload_n C dX5_append_29 rfl ?_
    refine x_dup C dX5_append_30 rfl ?_
    refine gh_13_2 C hj putH_same q_159 dX5_append_31 (show _ = h 13 2 from rfl) ?_
    refine x_const C dX5_append_34 ?_
    refine x_iadd C dX5_append_35 ?_
    refine ph_13_2 C hj putH_same q_159 dX5_append_36 putH_put ?_
    exact x_vret C D dX5_append_39 rfl rfl rfl
set_option maxRecDepth 100000 in
set_option maxHeartbeats 4000000 in
theorem m_X5_removeLast {hs : Nat → HV} {tp md : HV} {E : HE} {j : Nat} {h : HV} (hE : HI E) (hj : j < 7) (hh : hs j = h) (s0 : 1 ≤ h 13 2) (s1 : h 13 2 ≤ 12) {hs9 : Nat → HV} (he : putH hs j (oLast h) = hs9) : Mt yX5_removeLast cX5_removeLast 1 (some .int) 1 E [.ref (hA E j 13)] hs tp md (some (vI (h 15 (h 13 2 - 1)))) hs9 tp md := by
  subst he
  refine mk_Mt hE (plainFor_of_name (by decide)) (Nat.le_of_ble_eq_true rfl) (by intro w0 hw0; simp only [List.mem_cons, List.not_mem_nil, or_false] at hw0; rcases hw0 with rfl <;> rfl) (rfl : _ = [_]) ?_
  intro F C D
  refine x_aload_n C dX5_removeLast_0 rfl ?_
  refine gh_13_2 C hj hh q_159 dX5_removeLast_1 rfl ?_
  refine x_const C dX5_removeLast_4 ?_
  refine x_icmp_ge 10 C dX5_removeLast_5 (by decide) ⟨by omega, by omega⟩ ⟨by omega, by omega⟩ (fun c_1 => ?_) (fun c_1 => ?_)
  · refine x_aload_n C dX5_removeLast_10 rfl ?_
    refine x_dup C dX5_removeLast_11 rfl ?_
    refine gh_13_2 C hj hh q_159 dX5_removeLast_12 rfl ?_
    refine x_const C dX5_removeLast_15 ?_
    refine x_isub C dX5_removeLast_16 ?_
    refine ph_13_2 C hj hh q_159 dX5_removeLast_17 rfl ?_
    refine x_aload_n C dX5_removeLast_20 rfl ?_
    refine gh_13_1 C hj putH_same q_157 dX5_removeLast_21 ?_
    refine x_aload_n C dX5_removeLast_24 rfl ?_
    refine gh_13_2 C hj putH_same q_159 dX5_removeLast_25 (show _ = (h 13 2) - 1 from rfl) ?_
    refine lh_15 C hj putH_same (by omega) (by omega) dX5_removeLast_28 (show _ = h 15 ((h 13 2) - 1) from rfl) ?_
    exact x_iret C D rfl dX5_removeLast_29 rfl rfl rfl rfl
  · exact absurd c_1 (by omega)
set_option maxRecDepth 100000 in
set_option maxHeartbeats 4000000 in
theorem m_X5_removeFirst {hs : Nat → HV} {tp md : HV} {E : HE} {j : Nat} {h : HV} (hE : HI E) (hj : j < 7) (hh : hs j = h) (s0 : 1 ≤ h 13 2) (s1 : h 13 2 ≤ 12) {hs9 : Nat → HV} (he : putH hs j (oRF h) = hs9) : Mt yX5_removeFirst cX5_removeFirst 2 none 1 E [.ref (hA E j 13)] hs tp md none hs9 tp md := by
  subst he
  refine mk_Mt hE (plainFor_of_name (by decide)) (Nat.le_of_ble_eq_true rfl) (by intro w0 hw0; simp only [List.mem_cons, List.not_mem_nil, or_false] at hw0; rcases hw0 with rfl <;> rfl) (rfl : _ = [_, _]) ?_
  intro F C D
  refine x_const C dX5_removeFirst_0 ?_
  refine x_istore_n C dX5_removeFirst_1 (by decide) (rfl : _ = [_, _]) ?_
  have K2 : ∀ (nn : Nat) (n : Int), 0 ≤ n → n ≤ h 13 2 - 1 → 40 - n < nn →  G F E (putH hs j (upr (upr h 14 (shC (h 14) n)) 15 (shC (h 15) n))) tp md 2 [some (.ref (hA E j 13)), some (vI (n + 1))] [] := by
    intro nn
    induction nn with
    | zero => intro n n0 n1 hz; exact absurd hz (by omega)
    | succ nn ih =>
      intro n n0 n1 hz
      refine x_iload_n C dX5_removeFirst_2 rfl ?_
      refine x_aload_n C dX5_removeFirst_3 rfl ?_
      refine gh_13_2 C hj putH_same q_159 dX5_removeFirst_4 (show _ = h 13 2 from rfl) ?_
      refine x_icmp_ge 44 C dX5_removeFirst_7 (by decide) ⟨by omega, by omega⟩ ⟨by omega, by omega⟩ (fun c_1 => ?_) (fun c_1 => ?_)
      · refine x_aload_n C dX5_removeFirst_44 rfl ?_
        refine x_dup C dX5_removeFirst_45 rfl ?_
        refine gh_13_2 C hj putH_same q_159 dX5_removeFirst_46 (show _ = h 13 2 from rfl) ?_
        refine x_const C dX5_removeFirst_49 ?_
        refine x_isub C dX5_removeFirst_50 ?_
        refine ph_13_2 C hj putH_same q_159 dX5_removeFirst_51 putH_put ?_
        exact x_vret C D dX5_removeFirst_54 (by rw [show n = h 13 2 - 1 by omega]; rfl) rfl rfl
      · refine x_aload_n C dX5_removeFirst_10 rfl ?_
        refine gh_13_0 C hj putH_same q_154 dX5_removeFirst_11 ?_
        refine x_iload_n C dX5_removeFirst_14 rfl ?_
        refine x_const C dX5_removeFirst_15 ?_
        refine x_isub C dX5_removeFirst_16 ?_
        refine x_aload_n C dX5_removeFirst_17 rfl ?_
        refine gh_13_0 C hj putH_same q_154 dX5_removeFirst_18 ?_
        refine x_iload_n C dX5_removeFirst_21 rfl ?_
        refine lh_14 C hj putH_same (by omega) (by omega) dX5_removeFirst_22 (show _ = (shC (h 14) n) (n + 1) from rfl) ?_
        refine sh_14 C hj putH_same (by omega) (by omega) dX5_removeFirst_23 putH_put ?_
        refine x_aload_n C dX5_removeFirst_24 rfl ?_
        refine gh_13_1 C hj putH_same q_157 dX5_removeFirst_25 ?_
        refine x_iload_n C dX5_removeFirst_28 rfl ?_
        refine x_const C dX5_removeFirst_29 ?_
        refine x_isub C dX5_removeFirst_30 ?_
        refine x_aload_n C dX5_removeFirst_31 rfl ?_
        refine gh_13_1 C hj putH_same q_157 dX5_removeFirst_32 ?_
        refine x_iload_n C dX5_removeFirst_35 rfl ?_
        refine lh_15 C hj putH_same (by omega) (by omega) dX5_removeFirst_36 (show _ = (shC (h 15) n) (n + 1) from rfl) ?_
        refine sh_15 C hj putH_same (by omega) (by omega) dX5_removeFirst_37 putH_put ?_
        refine x_iinc C dX5_removeFirst_38 rfl (by decide) (rfl : _ = [_, _]) ?_
        refine x_goto 2 C dX5_removeFirst_41 (by decide) ?_
        refine G.of (G.wk (ih (n + 1) (by omega) (by omega) (by omega)) ?_) ?_ rfl rfl rfl
        · simp only [leL, and_self]
        · rw [← shC_s n0, ← shC_s n0]; refine congrArg (putH hs j) ?_; funext q; unfold upr; split <;> (try split) <;> simp_all
  refine G.of (G.wk (K2 41 0 (by omega) (by omega) (by omega)) ?_) ?_ rfl rfl rfl
  · simp only [leL, Int.zero_add, and_self]
  · rw [shC_0, shC_0, upr_id]; rw [show upr h 15 (h 15) = h from upr_id, putH_of hh]
set_option maxRecDepth 100000 in
set_option maxHeartbeats 4000000 in
theorem m_X5_takeFromFirst {hs : Nat → HV} {tp md : HV} {E : HE} {j : Nat} {h : HV} (hE : HI E) (hj : j < 7) (hh : hs j = h) {K : Int} (R : RG K h) (s0 : 1 ≤ h 13 2) (s1 : h 13 2 ≤ 12) {m : Int} (m0 : 0 ≤ m ∧ m ≤ 1000) {hs9 : Nat → HV} (he : putH hs j (oTF h m) = hs9) : Mt yX5_takeFromFirst cX5_takeFromFirst 3 (some .int) 2 E [.ref (hA E j 13), vI m] hs tp md (some (vI (oTak h m))) hs9 tp md := by
  subst he
  refine mk_Mt hE (plainFor_of_name (by decide)) (Nat.le_of_ble_eq_true rfl) (by intro w0 hw0; simp only [List.mem_cons, List.not_mem_nil, or_false] at hw0; rcases hw0 with rfl | rfl <;> rfl) (rfl : _ = [_, _, _]) ?_
  intro F C D
  refine x_aload_n C dX5_takeFromFirst_0 rfl ?_
  refine gh_13_2 C hj hh q_159 dX5_takeFromFirst_1 rfl ?_
  have r_1 := RG.siz R
  refine x_const C dX5_takeFromFirst_4 ?_
  refine x_icmp_ge 10 C dX5_takeFromFirst_5 (by decide) ⟨by omega, by omega⟩ ⟨by omega, by omega⟩ (fun c_2 => ?_) (fun c_2 => ?_)
  · refine x_iload_n C dX5_takeFromFirst_10 rfl ?_
    refine x_aload_n C dX5_takeFromFirst_11 rfl ?_
    refine gh_13_1 C hj hh q_157 dX5_takeFromFirst_12 ?_
    refine x_const C dX5_takeFromFirst_15 ?_
    refine lh_15 C hj hh (by omega) (by omega) dX5_takeFromFirst_16 rfl ?_
    have r_3 := RG.por R (i := 0) (by omega) (by omega)
    refine x_min C q_540 q_321 q_65 q_322 (by decide) (Nat.le_of_ble_eq_true rfl) ⟨by omega, by omega⟩ ⟨by omega, by omega⟩ dX5_takeFromFirst_17 ?_
    refine x_istore_n C dX5_takeFromFirst_20 (by decide) (rfl : _ = [_, _, _]) ?_
    refine x_aload_n C dX5_takeFromFirst_21 rfl ?_
    refine gh_13_1 C hj hh q_157 dX5_takeFromFirst_22 ?_
    refine x_const C dX5_takeFromFirst_25 ?_
    refine x_dup2 C dX5_takeFromFirst_26 rfl rfl ?_
    refine lh_15 C hj hh (by omega) (by omega) dX5_takeFromFirst_27 rfl ?_
    have r_4 := RG.por R (i := 0) (by omega) (by omega)
    refine x_iload_n C dX5_takeFromFirst_28 rfl ?_
    refine x_isub C dX5_takeFromFirst_29 ?_
    refine sh_15 C hj hh (by omega) (by omega) dX5_takeFromFirst_30 rfl ?_
    refine x_aload_n C dX5_takeFromFirst_31 rfl ?_
    refine gh_13_1 C hj putH_same q_157 dX5_takeFromFirst_32 ?_
    refine x_const C dX5_takeFromFirst_35 ?_
    refine lh_15 C hj putH_same (by omega) (by omega) dX5_takeFromFirst_36 (show _ = (h 15 0) - (if m ≤ h 15 0 then m else h 15 0) from rfl) ?_
    refine x_if_ne 44 C dX5_takeFromFirst_37 (by decide) ⟨by split <;> omega, by split <;> omega⟩ (fun c_5 => ?_) (fun c_5 => ?_)
    · refine x_iload_n C dX5_takeFromFirst_44 rfl ?_
      exact x_iret C D rfl dX5_takeFromFirst_45 rfl (by unfold oTF; rw [if_neg c_5]) rfl rfl
    · refine x_aload_n C dX5_takeFromFirst_40 rfl ?_
      refine x_callV (nA := 0) (As := []) (rest := []) C (m_X5_removeFirst (h := (upr h 15 (up1 (h 15) 0 ((h 15 0) - (if m ≤ h 15 0 then m else h 15 0))))) hE hj putH_same s0 s1 putH_put) q_541 q_543 q_14 q_61 q_544 (by decide +kernel) (wl_h hj putH_same 13 (by decide)) rfl rfl (by decide) (by decide) (Nat.le_of_ble_eq_true rfl) dX5_takeFromFirst_41 rfl ?_
      refine x_iload_n C dX5_takeFromFirst_44 rfl ?_
      exact x_iret C D rfl dX5_takeFromFirst_45 rfl (by unfold oTF; rw [if_pos c_5]) rfl rfl
  · exact absurd c_2 (by omega)
set_option maxRecDepth 100000 in
set_option maxHeartbeats 4000000 in
theorem m_X5_allPortions {hs : Nat → HV} {tp md : HV} {E : HE} {j : Nat} {h : HV} (hE : HI E) (hj : j < 7) (hh : hs j = h) {K : Int} (R : RG K h) : Mt yX5_allPortions cX5_allPortions 3 (some .int) 1 E [.ref (hA E j 13)] hs tp md (some (vI (sumI (h 15) (h 13 2)))) hs tp md := by
  refine mk_Mt hE (plainFor_of_name (by decide)) (Nat.le_of_ble_eq_true rfl) (by intro w0 hw0; simp only [List.mem_cons, List.not_mem_nil, or_false] at hw0; rcases hw0 with rfl <;> rfl) (rfl : _ = [_, _, _]) ?_
  intro F C D
  have rs := RG.siz R
  refine x_const C dX5_allPortions_0 ?_
  refine x_istore_n C dX5_allPortions_1 (by decide) (rfl : _ = [_, _, _]) ?_
  refine x_const C dX5_allPortions_2 ?_
  refine x_istore_n C dX5_allPortions_3 (by decide) (rfl : _ = [_, _, _]) ?_
  have K4 : ∀ (nn : Nat) (i : Int), 0 ≤ i → i ≤ h 13 2 → h 13 2 - i < nn →  G F E hs tp md 4 [some (.ref (hA E j 13)), some (vI (sumI (h 15) i)), some (vI i)] [] := by
    intro nn
    induction nn with
    | zero => intro i i0 i1 hz; exact absurd hz (by omega)
    | succ nn ih =>
      intro i i0 i1 hz
      refine x_iload_n C dX5_allPortions_4 rfl ?_
      refine x_aload_n C dX5_allPortions_5 rfl ?_
      refine gh_13_2 C hj hh q_159 dX5_allPortions_6 rfl ?_
      have r_1 := RG.siz R
      refine x_icmp_ge 27 C dX5_allPortions_9 (by decide) ⟨by omega, by omega⟩ ⟨by omega, by omega⟩ (fun c_2 => ?_) (fun c_2 => ?_)
      · refine x_iload_n C dX5_allPortions_27 rfl ?_
        exact x_iret C D rfl dX5_allPortions_28 (by rw [show i = h 13 2 by omega]) rfl rfl rfl
      · refine x_iload_n C dX5_allPortions_12 rfl ?_
        refine x_aload_n C dX5_allPortions_13 rfl ?_
        refine gh_13_1 C hj hh q_157 dX5_allPortions_14 ?_
        refine x_iload_n C dX5_allPortions_17 rfl ?_
        refine lh_15 C hj hh (by omega) (by omega) dX5_allPortions_18 rfl ?_
        have r_3 := RG.por R (i := i) (by omega) (by omega)
        refine x_iadd C dX5_allPortions_19 ?_
        refine x_istore_n C dX5_allPortions_20 (by decide) (rfl : _ = [_, _, _]) ?_
        refine x_iinc C dX5_allPortions_21 rfl (by decide) (rfl : _ = [_, _, _]) ?_
        refine x_goto 4 C dX5_allPortions_24 (by decide) ?_
        refine G.wk (ih (i + 1) (by omega) (by omega) (by omega)) ?_
        simp only [leL, sumI_s i0, and_self]
  exact K4 ((h 13 2 : Int) + 1).toNat 0 (by omega) (by omega) (by omega)
