/-! COPIES stand as what they are copied from -/
theorem kept_in {i : Int} (k : kept i) : 0 ≤ i ∧ i < 2739 := by unfold kept at k; omega
theorem HS.cg {t : Int} {h : HV} {r q : Int → Int} (S : HS t h r) (ht : t ≤ 1034) (e : ∀ i, 0 ≤ i → i < 2739 → q i = r i) : HS t h q :=
  ⟨S.1.of rfl rfl rfl rfl rfl rfl rfl fun i k => e i (kept_in k).1 (kept_in k).2, S.2.1.of rfl rfl rfl rfl (e 1 (by decide) (by decide)) (fun i i0 i1 => e i (by omega) (by omega)), S.2.2.1.of rfl rfl rfl (e 3 (by decide) (by decide)) (fun i i0 i1 => e i (by omega) (by omega)),
    S.2.2.2.1.of rfl rfl rfl rfl rfl (fun i i0 i1 => e i (by omega) (by omega)), S.2.2.2.2.of rfl rfl (e 2 (by decide) (by decide)) (fun i i0 i1 => e i (by omega) (by omega)) ht⟩
theorem MR.cg {K : Int} {r q : Int → Int} (M : MR K r) (e : ∀ i, 0 ≤ i → i < 2739 → q i = r i) : MR K q := fun i i0 i1 => by rw [e i i0 i1]; exact M i i0 i1
theorem cpI_in {f g : Int → Int} {n i : Int} (h0 : 0 ≤ i) (h1 : i < n) : cpI f g n i = f i := if_pos ⟨h0, h1⟩
theorem HS_cp {t : Int} {h g : HV} {r : Int → Int} (S : HS t g r) : HS t (hCp h g) r := by
  have e1 : g 3 7 = r 1 := S.1.2.2.1
  have e3 : g 13 2 = r 3 := S.2.2.1.1
  have r3 : hCp h g 3 7 = g 3 7 := rfl
  have r1 : ∀ i, 0 ≤ i → i < 10 → hCp h g 1 i = g 1 i := fun i a b => cpI_in a b
  have r2 : ∀ i, 0 ≤ i → i < 1000 → hCp h g 2 i = g 2 i := fun i a b => cpI_in a b
  have r4 : ∀ i, 0 ≤ i → i < g 3 7 → hCp h g 4 i = g 4 i := fun i a b => cpI_in a b
  have r5 : ∀ i, 0 ≤ i → i < g 3 7 → hCp h g 5 i = g 5 i := fun i a b => cpI_in a b
  have r6 : ∀ i, 0 ≤ i → i < g 3 7 → hCp h g 6 i = g 6 i := fun i a b => cpI_in a b
  have r7 : ∀ i, 0 ≤ i → i < g 3 7 → hCp h g 7 i = g 7 i := fun i a b => cpI_in a b
  have r8 : ∀ i, 0 ≤ i → i < g 3 7 → hCp h g 8 i = g 8 i := fun i a b => cpI_in a b
  have r9 : ∀ i, 0 ≤ i → i < g 3 7 → hCp h g 9 i = g 9 i := fun i a b => cpI_in a b
  have r10 : ∀ i, 0 ≤ i → i < g 3 7 → hCp h g 10 i = g 10 i := fun i a b => cpI_in a b
  have r11 : hCp h g 11 1 = g 11 1 := rfl
  have r12 : ∀ i, 0 ≤ i → i < 30 → hCp h g 12 i = g 12 i := fun i a b => cpI_in a b
  have r13 : hCp h g 13 2 = g 13 2 := rfl
  have r14 : ∀ i, 0 ≤ i → i < g 13 2 → hCp h g 14 i = g 14 i := fun i a b => cpI_in a b
  have r15 : ∀ i, 0 ≤ i → i < g 13 2 → hCp h g 15 i = g 15 i := fun i a b => cpI_in a b
  have r16 : ∀ i, 0 ≤ i → i < 9 → hCp h g 16 i = g 16 i := fun i a b => cpI_in a b
  have r0 : hCp h g 0 6 = g 0 6 ∧ hCp h g 0 7 = g 0 7 ∧ hCp h g 0 8 = g 0 8 ∧ hCp h g 0 9 = g 0 9 ∧ hCp h g 0 10 = g 0 10 := by
    refine ⟨?_, ?_, ?_, ?_, ?_⟩
    · show up1 (up1 (up1 (up1 (up1 (hCp1 h g 0) 6 (g 0 6)) 7 (g 0 7)) 8 (g 0 8)) 9 (g 0 9)) 10 (g 0 10) 6 = _
      rw [up1_ne (by decide), up1_ne (by decide), up1_ne (by decide), up1_ne (by decide), up1_same]
    · show up1 (up1 (up1 (up1 (up1 (hCp1 h g 0) 6 (g 0 6)) 7 (g 0 7)) 8 (g 0 8)) 9 (g 0 9)) 10 (g 0 10) 7 = _
      rw [up1_ne (by decide), up1_ne (by decide), up1_ne (by decide), up1_same]
    · show up1 (up1 (up1 (up1 (up1 (hCp1 h g 0) 6 (g 0 6)) 7 (g 0 7)) 8 (g 0 8)) 9 (g 0 9)) 10 (g 0 10) 8 = _
      rw [up1_ne (by decide), up1_ne (by decide), up1_same]
    · show up1 (up1 (up1 (up1 (up1 (hCp1 h g 0) 6 (g 0 6)) 7 (g 0 7)) 8 (g 0 8)) 9 (g 0 9)) 10 (g 0 10) 9 = _
      rw [up1_ne (by decide), up1_same]
    · show up1 (up1 (up1 (up1 (up1 (hCp1 h g 0) 6 (g 0 6)) 7 (g 0 7)) 8 (g 0 8)) 9 (g 0 9)) 10 (g 0 10) 10 = _
      rw [up1_same]
  refine ⟨⟨fun i a b => (r1 i a b).trans (S.1.1 i a b), fun d a b => ?_, r3.trans e1, r0.1.trans S.1.2.2.2.1, fun b b0 b1 b2 => ?_⟩, fun b b0 b1 b2 => ?_, ⟨r13.trans e3, fun k k0 k1 k2 => ?_⟩, ⟨fun c c0 c1 => (r16 c c0 c1).trans (S.2.2.2.1.1 c c0 c1), r0.2.1.trans S.2.2.2.1.2.1, r0.2.2.1.trans S.2.2.2.1.2.2.1, r0.2.2.2.1.trans S.2.2.2.1.2.2.2.1, r0.2.2.2.2.trans S.2.2.2.1.2.2.2.2⟩, r11.trans S.2.2.2.2.1, fun d d0 d1 => ?_, S.2.2.2.2.2.2⟩
  · have z := S.1.2.1 d a b
    unfold wOf at z ⊢
    by_cases q : d < 0 ∨ 999 < d
    · rw [if_pos q] at z ⊢; exact z
    · rw [if_neg q] at z ⊢; rw [r2 d (by omega) (by omega)]; exact z
  · rw [r5 b b0 (by omega), r6 b b0 (by omega), r7 b b0 (by omega)]; exact S.1.2.2.2.2 b b0 b1 b2
  · rw [r4 b b0 (by omega), r8 b b0 (by omega), r9 b b0 (by omega), r10 b b0 (by omega)]; exact S.2.1 b b0 b1 b2
  · rw [r14 k k0 (by omega), r15 k k0 (by omega)]; exact S.2.2.1.2 k k0 k1 k2
  · rw [r12 _ (by omega) (by omega)]; exact S.2.2.2.2.2.1 d d0 d1
/-- days on days, both sides -/
theorem HS_passI {K t : Int} {h : HV} {r : Int → Int} (R : RG K h) (M : MR K r) (et : h 0 6 = t) (S : HS (t - 30) h r) {n : Int} (n0 : 0 ≤ n) (hn : t + n ≤ 1060) : RG (K + 149 * n) (passI h n) ∧ MR (K + 149 * n) (mPasI r n) ∧ passI h n 0 6 = t + n ∧ HS (t + n - 30) (passI h n) (mPasI r n) := by
  have e0 : r 0 = t := by rw [← S.1.2.2.2.1]; exact et
  have key : ∀ k : Int, 0 ≤ k → k ≤ n → HS (t + k - 30) (passI h k) (mPasI r k) := fun k k0 k1 =>
    foldI_iv (f := fun (i : Int) (_ : Unit) => ()) (x := ()) k0 (fun i _ => i ≤ n → HS (t + i - 30) (passI h i) (mPasI r i)) (fun _ => by rw [Int.add_zero]; exact S) (fun i _ i0 _ hi q => by
      have a := RG_passI R (n := i) i0 (by omega)
      have b := MR_pasI M (n := i) i0 (by omega)
      have z := HS_pass a.1 b.1 (t := t + i) (by rw [a.2.1, et]) (by omega) (hi (by omega))
      rw [passI_s i0, mPasI_s i0, show t + (i + 1) - 30 = t + i + 1 - 30 by omega]; exact z) k1
  exact ⟨(RG_passI R n0 (by omega)).1, (MR_pasI M n0 (by omega)).1, by rw [(RG_passI R n0 (by omega)).2.1, et], key n n0 (Int.le_refl _)⟩
