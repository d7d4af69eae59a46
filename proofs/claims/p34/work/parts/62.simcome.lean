theorem HS_late {K t : Int} {h : HV} {r : Int → Int} (R : RG K h) (M : MR K r) (S : HS t h r) (ht : t ≤ 1034) {d : Int} (ed : h 0 6 = d) : HS t (dLate h) (mLat r d) := by
  have m := M.came
  have e1 : h 3 7 = r 1 := S.1.2.2.1
  have key : RS K h (dLate h) ∧ MS K r (mLat r d) ∧ HS t (dLate h) (mLat r d) := by
    unfold dLate mLat
    rw [e1]
    refine fold2 (P := fun a b => RS K h a ∧ MS K r b ∧ HS t a b) ⟨RS.of R, MS.of M, S⟩ fun k a b k0 k1 p => ?_
    have m1 : b 1 = r 1 := p.2.1.2 1 (Or.inr (Or.inl rfl))
    have y := p.2.2.1.2.2.2.2 k k0 (by omega) (by omega)
    have z := p.2.2.2.1 k k0 (by omega) (by omega)
    have e6 : a 0 6 = d := p.1.2.2.2.2.2.2.2.trans ed
    refine ⟨p.1.tr (RS_sLt p.1.1 k), p.2.1.tr (MS_sTm p.2.1.1 k0 (by omega)), ?_⟩
    unfold sLt sTm
    by_cases q : a 4 k = 0 ∧ a 5 k + a 6 k ≤ d
    · rw [if_pos ⟨q.1, by rw [e6]; exact q.2⟩, if_pos ⟨by rw [← z.1]; exact q.1, by rw [← y.1, ← y.2.1]; exact q.2⟩]
      exact HS_aw p.1.1 p.2.1.1 p.2.2 ht k0 (by omega)
    · rw [if_neg (fun w => q ⟨w.1, by rw [← e6]; exact w.2⟩), if_neg (fun w => q ⟨by rw [z.1]; exact w.1, by rw [y.1, y.2.1]; exact w.2⟩)]
      exact p.2.2
  exact key.2.2
theorem sumI_up {f g : Int → Int} {b : Int} (h : ∀ i, i ≠ b → g i = f i) {n : Int} (b0 : 0 ≤ b) (b1 : b < n) : sumI g n = sumI f n + (g b - f b) := by
  have q : ∀ i : Int, 0 ≤ i → sumI g i = sumI f i + if b < i then g b - f b else 0 := fun i i0 => by
    have z := foldI_iv (f := fun (k : Int) (_ : Unit) => ()) (x := ()) i0 (fun k _ => sumI g k = sumI f k + if b < k then g b - f b else 0) (by
      rw [sumI_0, sumI_0, if_neg (by omega)]; rfl) (fun k _ k0 _ e => by
      rw [sumI_s k0, sumI_s k0, e]
      by_cases c : k = b
      · subst c; rw [if_neg (by omega), if_pos (by omega)]; omega
      · rw [h k c]
        by_cases d : b < k
        · rw [if_pos d, if_pos (by omega)]; omega
        · rw [if_neg d, if_neg (by omega)]; omega)
    exact z
  have z := q n (by omega)
  rw [if_pos b1] at z; exact z
theorem mIn_at {r : Int → Int} {b d i : Int} (n1 : i ≠ 51 + 7 * b + 6) (n2 : i ≠ 51 + 7 * b + 0) : mIn r b d i = r i := by
  show up1 (up1 r (51 + 7 * b + 0) 1) (51 + 7 * b + 6) d i = r i
  rw [up1_ne n1, up1_ne n2]
theorem HS_in {K t : Int} {h : HV} {r : Int → Int} (R : RG K h) (M : MR K r) (S : HS t h r) (ht : t ≤ 1034) {b d : Int} (b0 : 0 ≤ b) (b1 : b < r 1) (ed : h 0 6 = d) : HS t (dIn h b) (mIn r b d) := by
  have m := M.came
  have rd := R.day
  refine ⟨S.1.ofS (RS_dIn R b) (MS_mIn M b0 (by omega) (by omega) (by omega)), fun c c0 c1 c2 => ?_, S.2.2.1.of rfl rfl rfl (mIn_at (by omega) (by omega)) fun i i0 i1 => mIn_at (by omega) (by omega), S.2.2.2.1.of rfl rfl rfl rfl rfl fun i i0 i1 => mIn_at (by omega) (by omega), S.2.2.2.2.of rfl rfl (mIn_at (by omega) (by omega)) (fun i i0 i1 => mIn_at (by omega) (by omega)) ht⟩
  rw [mIn_at (i := 1) (by omega) (by omega)] at c2
  have z := S.2.1 c c0 c1 c2
  rw [mIn_at (i := 51 + 7 * c + 4) (by omega) (by omega), mIn_at (i := 51 + 7 * c + 5) (by omega) (by omega)]
  by_cases e : c = b
  · subst e
    have e0 : mIn r c d (51 + 7 * c + 0) = 1 := by
      show up1 (up1 r (51 + 7 * c + 0) 1) (51 + 7 * c + 6) d (51 + 7 * c + 0) = 1
      rw [up1_ne (by omega), up1_same]
    have e6 : mIn r c d (51 + 7 * c + 6) = d := up1_same
    have h4 : dIn h c 4 c = 1 := up1_same
    have h10 : dIn h c 10 c = h 0 6 := up1_same
    rw [e0, e6, h4, h10]
    exact ⟨rfl, z.2.1, z.2.2.1, Or.inl ⟨ed, rd.1⟩⟩
  · have h4 : dIn h b 4 c = h 4 c := up1_ne e
    have h10 : dIn h b 10 c = h 10 c := up1_ne e
    rw [mIn_at (i := 51 + 7 * c + 0) (by omega) (by omega), mIn_at (i := 51 + 7 * c + 6) (by omega) (by omega), h4, h10]
    exact z
theorem nThere_in {h : HV} {b : Int} (b0 : 0 ≤ b) (b1 : b < h 3 7) (h4 : h 4 b = 0) : nThere (dIn h b) = nThere h + h 7 b := by
  have q := sumI_up (f := gThere h) (g := gThere (dIn h b)) (b := b) (n := h 3 7) (fun i n => by
    show (if dIn h b 4 i = 1 then h 7 i else 0) = if h 4 i = 1 then h 7 i else 0
    rw [show dIn h b 4 i = h 4 i from up1_ne n]) b0 b1
  have e1 : gThere (dIn h b) b = h 7 b := if_pos up1_same
  have e2 : gThere h b = 0 := if_neg (by omega)
  rw [e1, e2] at q
  exact q.trans (by rw [Int.sub_zero])
theorem nThere_aw {h : HV} {b : Int} (b0 : 0 ≤ b) (b1 : b < h 3 7) (h4 : h 4 b = 0) : nThere (dAw h b) = nThere h := by
  have q := sumI_up (f := gThere h) (g := gThere (dAw h b)) (b := b) (n := h 3 7) (fun i n => by
    show (if dAw h b 4 i = 1 then h 7 i else 0) = if h 4 i = 1 then h 7 i else 0
    rw [show dAw h b 4 i = h 4 i from up1_ne n]) b0 b1
  have e0 : dAw h b 4 b = 4 := up1_same
  have e1 : gThere (dAw h b) b = 0 := if_neg (by rw [e0]; decide)
  have e2 : gThere h b = 0 := if_neg (by omega)
  rw [e1, e2] at q
  exact q.trans (by rw [Int.sub_self, Int.add_zero])
theorem HS_come {K t : Int} {h : HV} {r : Int → Int} (R : RG K h) (M : MR K r) (S : HS t h r) (ht : t ≤ 1034) {d : Int} (ed : h 0 6 = d) : HS t (dCome h) (mCom r d) := by
  have m := M.came
  have rd := R.day
  have e1 : h 3 7 = r 1 := S.1.2.2.1
  have key : RS K h (dCome h) ∧ MS K r (mCom r d) ∧ HS t (dCome h) (mCom r d) ∧ (foldI sCm (h, nThere h) (h 3 7)).2 = nThere (dCome h) := by
    unfold dCome mCom
    rw [e1]
    refine fold2 (P := fun (a : HV × Int) b => RS K h a.1 ∧ MS K r b ∧ HS t a.1 b ∧ a.2 = nThere a.1) ⟨RS.of R, MS.of M, S, rfl⟩ fun k a b k0 k1 p => ?_
    have m1 : b 1 = r 1 := p.2.1.2 1 (Or.inr (Or.inl rfl))
    have ma := p.2.1.1.came
    have y := p.2.2.1.1.2.2.2.2 k k0 (by omega) (by omega)
    have z := p.2.2.1.2.1 k k0 (by omega) (by omega)
    have e6 : a.1 0 6 = d := p.1.2.2.2.2.2.2.2.trans ed
    have em : a.1 3 7 = b 1 := p.2.2.1.1.2.2.1
    have s0 : a.1 1 0 = b 17 := p.2.2.1.1.1 0 (by decide) (by decide)
    have s1 : a.1 1 1 = b 18 := p.2.2.1.1.1 1 (by decide) (by decide)
    have en : nThere a.1 = nPer b := nThere_eq p.2.2.1.1 p.2.2.1.2.1 ma.2
    have p4 := p.2.2.2
    have hR := p.1.tr (RS_sCm p.1.1 k)
    have hM := p.2.1.tr (MS_sCmm p.2.1.1 (d := d) k0 (by omega) (by omega) (by omega))
    refine ⟨hR, hM, ?_⟩
    by_cases q : a.1 4 k = 0 ∧ a.1 5 k ≤ d
    · have q1 : a.1 4 k = 0 ∧ a.1 5 k ≤ a.1 0 6 := ⟨q.1, by rw [e6]; exact q.2⟩
      have q2 : b (51 + 7 * k + 0) = 0 ∧ b (51 + 7 * k + 1) ≤ d := ⟨by rw [← z.1]; exact q.1, by rw [← y.1]; exact q.2⟩
      by_cases w : a.2 + a.1 7 k ≤ a.1 1 0 + a.1 1 1
      · have f1 : sCm k a = (dIn a.1 k, a.2 + a.1 7 k) := (if_pos q1).trans (if_pos w)
        have f2 : sCmm d k b = mIn b k d := (if_pos q2).trans (if_neg (by omega))
        rw [f1, f2]
        exact ⟨HS_in p.1.1 p.2.1.1 p.2.2.1 ht k0 (by omega) e6, by
          show a.2 + a.1 7 k = nThere (dIn a.1 k)
          rw [nThere_in k0 (by omega) q.1, p4]⟩
      · have f1 : sCm k a = (dAw a.1 k, a.2) := (if_pos q1).trans (if_neg w)
        have f2 : sCmm d k b = mAw b k := (if_pos q2).trans (if_pos (by omega))
        rw [f1, f2]
        exact ⟨HS_aw p.1.1 p.2.1.1 p.2.2.1 ht k0 (by omega), by
          show a.2 = nThere (dAw a.1 k)
          rw [nThere_aw k0 (by omega) q.1, p4]⟩
    · have f1 : sCm k a = a := if_neg fun w => q ⟨w.1, by rw [← e6]; exact w.2⟩
      have f2 : sCmm d k b = b := if_neg fun w => q ⟨by rw [z.1]; exact w.1, by rw [y.1]; exact w.2⟩
      rw [f1, f2]
      exact ⟨p.2.2.1, p4⟩
  exact key.2.2.1
