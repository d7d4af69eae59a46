theorem mCan_at {r : Int → Int} {b v i : Int} (n1 : i ≠ 14) (n2 : i ≠ 15) (n3 : i ≠ 51 + 7 * b + 0) : mCan r b v i = r i := by
  show up1 (up1 (up1 r (51 + 7 * b + 0) 3) 14 _) 15 _ i = r i
  rw [up1_ne n2, up1_ne n1, up1_ne n3]
theorem HS_cancel {K t : Int} {h : HV} {r : Int → Int} (M : MR K r) (S : HS t h r) (ht : t ≤ 1034) {b : Int} (b0 : 0 ≤ b) (b1 : b < r 1) : HS t (hCan h b) (mCan r b (mRef0 r b)) := by
  have m := M.came
  have z := S.2.1 b b0 (by omega) b1
  have er := ans_ref0 S M b0 b1
  have T := S.2.2.2.1
  have at' : ∀ i, i ≠ 14 → i ≠ 15 → i ≠ 51 + 7 * b + 0 → mCan r b (mRef0 r b) i = r i := fun i a c e => mCan_at a c e
  have x14 : mCan r b (mRef0 r b) 14 = r 14 - mRef0 r b := by
    show up1 (up1 (up1 r (51 + 7 * b + 0) 3) 14 (r 14 - mRef0 r b)) 15 (r 15 + (r (51 + 7 * b + 5) - mRef0 r b)) 14 = _
    rw [up1_ne (by decide), up1_same]
  have x15 : mCan r b (mRef0 r b) 15 = r 15 + (r (51 + 7 * b + 5) - mRef0 r b) := up1_same
  have h0 : ∀ i, i ≠ 8 → i ≠ 9 → hCan h b 0 i = h 0 i := fun i n1 n2 => by
    show up1 (up1 (h 0) 8 _) 9 _ i = h 0 i
    rw [up1_ne n2, up1_ne n1]
  have h08 : hCan h b 0 8 = h 0 8 - hRef h b := by
    show up1 (up1 (h 0) 8 (h 0 8 - hRef h b)) 9 (h 0 9 + (h 9 b - hRef h b)) 8 = _
    rw [up1_ne (by decide), up1_same]
  have h09 : hCan h b 0 9 = h 0 9 + (h 9 b - hRef h b) := by
    show up1 (up1 (h 0) 8 (h 0 8 - hRef h b)) 9 (h 0 9 + (h 9 b - hRef h b)) 9 = _
    rw [up1_same]
  refine ⟨S.1.of rfl rfl rfl rfl rfl rfl (h0 6 (by decide) (by decide)) (fun i k => at' i (by unfold kept at k; omega) (by unfold kept at k; omega) (by unfold kept at k; omega)), S.2.1.up0 b0 (by omega) (show (3 : Int) ≠ 1 by decide) rfl rfl rfl rfl (at' 1 (by decide) (by decide) (by omega)) (fun i i0 i1 => ?_), S.2.2.1.of rfl rfl rfl (at' 3 (by decide) (by decide) (by omega)) (fun i i0 i1 => at' i (by omega) (by omega) (by omega)), ⟨fun c c0 c1 => ?_, ?_, ?_, ?_, ?_⟩, S.2.2.2.2.of rfl rfl (at' 2 (by decide) (by decide) (by omega)) (fun i i0 i1 => at' i (by omega) (by omega) (by omega)) ht⟩
  · show up1 (up1 (up1 r (51 + 7 * b + 0) 3) 14 _) 15 _ i = _
    rw [up1_ne (by omega), up1_ne (by omega)]
  · rw [at' (5 + c) (by omega) (by omega) (by omega)]; exact T.1 c c0 c1
  · rw [h0 7 (by decide) (by decide), at' 4 (by decide) (by decide) (by omega)]; exact T.2.1
  · rw [h08, x14, er, T.2.2.1]
  · rw [h09, x15, er, T.2.2.2.1, z.2.2.1]
  · rw [h0 10 (by decide) (by decide), at' 16 (by decide) (by decide) (by omega)]; exact T.2.2.2.2
