/-! THE START: the statics; the cells laid out -/
theorem q_46l : (.laysStatic "HutBookings" "SETTING_FIRST" "[I" : Cond) ∈ lw_tbl := List.mem_of_getElem? (i := 46) (by decide +kernel)
theorem q_650l : (.laysStatic "HutBookings" "SETTING_LEAST" "[I" : Cond) ∈ lw_tbl := List.mem_of_getElem? (i := 650) (by decide +kernel)
theorem q_652l : (.laysStatic "HutBookings" "SETTING_MOST" "[I" : Cond) ∈ lw_tbl := List.mem_of_getElem? (i := 652) (by decide +kernel)
theorem st_ZA {s : State} {args : Array Value} (hts : ∀ w ∈ lw_tbl, w.before args s = true) (hgv : (Jvm.Cond.and given_1 narrow_1).before args s = true) : ∃ bb : Nat → Nat, ZA (fun q : Nat => s.heap.size ≤ q) bb s s.heap := by
  have hs := flat_of_before _ hgv
  have hini : (Cond.initialized "HutBookings").before args s = true := hts _ (tb_sub q_21)
  obtain ⟨t0, a0, b0, c0⟩ := st_row (n := "SETTING_FIRST") (i := 0) hgv (hs _ (by decide +kernel)) (hs _ (by decide +kernel)) (fun j hj => by
    rcases (show j = 0 ∨ j = 1 ∨ j = 2 ∨ j = 3 ∨ j = 4 ∨ j = 5 ∨ j = 6 ∨ j = 7 ∨ j = 8 ∨ j = 9 by omega) with rfl | rfl | rfl | rfl | rfl | rfl | rfl | rfl | rfl | rfl <;> exact hs _ (by decide +kernel)) (hts _ q_46l) hini
  obtain ⟨t1, a1, b1, c1⟩ := st_row (n := "SETTING_LEAST") (i := 1) hgv (hs _ (by decide +kernel)) (hs _ (by decide +kernel)) (fun j hj => by
    rcases (show j = 0 ∨ j = 1 ∨ j = 2 ∨ j = 3 ∨ j = 4 ∨ j = 5 ∨ j = 6 ∨ j = 7 ∨ j = 8 ∨ j = 9 by omega) with rfl | rfl | rfl | rfl | rfl | rfl | rfl | rfl | rfl | rfl <;> exact hs _ (by decide +kernel)) (hts _ q_650l) hini
  obtain ⟨t2, a2, b2, c2⟩ := st_row (n := "SETTING_MOST") (i := 2) hgv (hs _ (by decide +kernel)) (hs _ (by decide +kernel)) (fun j hj => by
    rcases (show j = 0 ∨ j = 1 ∨ j = 2 ∨ j = 3 ∨ j = 4 ∨ j = 5 ∨ j = 6 ∨ j = 7 ∨ j = 8 ∨ j = 9 by omega) with rfl | rfl | rfl | rfl | rfl | rfl | rfl | rfl | rfl | rfl <;> exact hs _ (by decide +kernel)) (hts _ q_652l) hini
  refine ⟨fun i => match i with | 0 => t0 | 1 => t1 | _ => t2, ⟨fun i hi => ?_, va_Nw.of rfl (hts _ q_443)⟩, va_AO.of (hts _ q_182), va_Nw.of rfl (hts _ q_45)⟩
  match i, hi with
  | 0, _ => exact ⟨a0, b0, c0, Nat.not_le.mpr c0⟩
  | 1, _ => exact ⟨a1, b1, c1, Nat.not_le.mpr c1⟩
  | 2, _ => exact ⟨a2, b2, c2, Nat.not_le.mpr c2⟩
  | i + 3, hi => exact absurd hi (by omega)
def zH : HV := fun c => if c = 1 then sF else z0
def zT : HV := fun c => if c = 3 then (fun i => if i = 0 then 3 else if i = 1 then 4 else if i = 2 then 5 else 6) else z0
def zM : HV := fun c => if c = 1 then m0 else z0
abbrev zHs : Nat → HV := fun _ => zH
/-- where a cell of the flat list was made -/
def pos (k : Nat) : Nat := if k < 51 then k + 1 else if k < 119 then k + 3 else if k = 119 then 0 else if k = 120 then 127 else if k = 121 then 52 else if k = 122 then 53 else if k < 128 then k - 1 else k
theorem pos_inj {i j : Nat} (e : pos i = pos j) (hi : i < 128) (hj : j < 128) : i = j := by
  unfold pos at e
  repeat' split at e
  all_goals omega
def adr (q : Nat) (qs : Nat → Nat) (k : Nat) : Nat := if k = 0 then q else qs k
abbrev mkE (D : va_G) (T : Nat → ClassId) (bb : Nat → Nat) (q : Nat) (qs : Nat → Nat) : HE := (D, fun k => adr q qs (pos k), T, bb)
abbrev WW (T : Nat → ClassId) (q : Nat) (qs : Nat → Nat) : va_W := oX6 T q qs
set_option maxRecDepth 100000 in
set_option maxHeartbeats 4000000 in
theorem place_0 {D : va_G} {T : Nat → ClassId} {bb : Nat → Nat} {q : Nat} {qs : Nat → Nat} : ∀ k, 0 ≤ k → k < 17 → (WW T q qs)[pos k]? = some ((mkE D T bb q qs).2.1 k, cellE (mkE D T bb q qs) zHs zT zM k) := by
  intro k k0 k1
  rcases (show k = 0 ∨ k = 1 ∨ k = 2 ∨ k = 3 ∨ k = 4 ∨ k = 5 ∨ k = 6 ∨ k = 7 ∨ k = 8 ∨ k = 9 ∨ k = 10 ∨ k = 11 ∨ k = 12 ∨ k = 13 ∨ k = 14 ∨ k = 15 ∨ k = 16 by omega) with rfl | rfl | rfl | rfl | rfl | rfl | rfl | rfl | rfl | rfl | rfl | rfl | rfl | rfl | rfl | rfl | rfl
  · rfl
  · rfl
  · rfl
  · rfl
  · rfl
  · rfl
  · rfl
  · rfl
  · rfl
  · rfl
  · rfl
  · rfl
  · rfl
  · rfl
  · rfl
  · rfl
  · rfl
set_option maxRecDepth 100000 in
set_option maxHeartbeats 4000000 in
theorem place_17 {D : va_G} {T : Nat → ClassId} {bb : Nat → Nat} {q : Nat} {qs : Nat → Nat} : ∀ k, 17 ≤ k → k < 34 → (WW T q qs)[pos k]? = some ((mkE D T bb q qs).2.1 k, cellE (mkE D T bb q qs) zHs zT zM k) := by
  intro k k0 k1
  rcases (show k = 17 ∨ k = 18 ∨ k = 19 ∨ k = 20 ∨ k = 21 ∨ k = 22 ∨ k = 23 ∨ k = 24 ∨ k = 25 ∨ k = 26 ∨ k = 27 ∨ k = 28 ∨ k = 29 ∨ k = 30 ∨ k = 31 ∨ k = 32 ∨ k = 33 by omega) with rfl | rfl | rfl | rfl | rfl | rfl | rfl | rfl | rfl | rfl | rfl | rfl | rfl | rfl | rfl | rfl | rfl
  · rfl
  · rfl
  · rfl
  · rfl
  · rfl
  · rfl
  · rfl
  · rfl
  · rfl
  · rfl
  · rfl
  · rfl
  · rfl
  · rfl
  · rfl
  · rfl
  · rfl
set_option maxRecDepth 100000 in
set_option maxHeartbeats 4000000 in
theorem place_34 {D : va_G} {T : Nat → ClassId} {bb : Nat → Nat} {q : Nat} {qs : Nat → Nat} : ∀ k, 34 ≤ k → k < 51 → (WW T q qs)[pos k]? = some ((mkE D T bb q qs).2.1 k, cellE (mkE D T bb q qs) zHs zT zM k) := by
  intro k k0 k1
  rcases (show k = 34 ∨ k = 35 ∨ k = 36 ∨ k = 37 ∨ k = 38 ∨ k = 39 ∨ k = 40 ∨ k = 41 ∨ k = 42 ∨ k = 43 ∨ k = 44 ∨ k = 45 ∨ k = 46 ∨ k = 47 ∨ k = 48 ∨ k = 49 ∨ k = 50 by omega) with rfl | rfl | rfl | rfl | rfl | rfl | rfl | rfl | rfl | rfl | rfl | rfl | rfl | rfl | rfl | rfl | rfl
  · rfl
  · rfl
  · rfl
  · rfl
  · rfl
  · rfl
  · rfl
  · rfl
  · rfl
  · rfl
  · rfl
  · rfl
  · rfl
  · rfl
  · rfl
  · rfl
  · rfl
set_option maxRecDepth 100000 in
set_option maxHeartbeats 4000000 in
theorem place_51 {D : va_G} {T : Nat → ClassId} {bb : Nat → Nat} {q : Nat} {qs : Nat → Nat} : ∀ k, 51 ≤ k → k < 68 → (WW T q qs)[pos k]? = some ((mkE D T bb q qs).2.1 k, cellE (mkE D T bb q qs) zHs zT zM k) := by
  intro k k0 k1
  rcases (show k = 51 ∨ k = 52 ∨ k = 53 ∨ k = 54 ∨ k = 55 ∨ k = 56 ∨ k = 57 ∨ k = 58 ∨ k = 59 ∨ k = 60 ∨ k = 61 ∨ k = 62 ∨ k = 63 ∨ k = 64 ∨ k = 65 ∨ k = 66 ∨ k = 67 by omega) with rfl | rfl | rfl | rfl | rfl | rfl | rfl | rfl | rfl | rfl | rfl | rfl | rfl | rfl | rfl | rfl | rfl
  · rfl
  · rfl
  · rfl
  · rfl
  · rfl
  · rfl
  · rfl
  · rfl
  · rfl
  · rfl
  · rfl
  · rfl
  · rfl
  · rfl
  · rfl
  · rfl
  · rfl
set_option maxRecDepth 100000 in
set_option maxHeartbeats 4000000 in
theorem place_68 {D : va_G} {T : Nat → ClassId} {bb : Nat → Nat} {q : Nat} {qs : Nat → Nat} : ∀ k, 68 ≤ k → k < 85 → (WW T q qs)[pos k]? = some ((mkE D T bb q qs).2.1 k, cellE (mkE D T bb q qs) zHs zT zM k) := by
  intro k k0 k1
  rcases (show k = 68 ∨ k = 69 ∨ k = 70 ∨ k = 71 ∨ k = 72 ∨ k = 73 ∨ k = 74 ∨ k = 75 ∨ k = 76 ∨ k = 77 ∨ k = 78 ∨ k = 79 ∨ k = 80 ∨ k = 81 ∨ k = 82 ∨ k = 83 ∨ k = 84 by omega) with rfl | rfl | rfl | rfl | rfl | rfl | rfl | rfl | rfl | rfl | rfl | rfl | rfl | rfl | rfl | rfl | rfl
  · rfl
  · rfl
  · rfl
  · rfl
  · rfl
  · rfl
  · rfl
  · rfl
  · rfl
  · rfl
  · rfl
  · rfl
  · rfl
  · rfl
  · rfl
  · rfl
  · rfl
set_option maxRecDepth 100000 in
set_option maxHeartbeats 4000000 in
theorem place_85 {D : va_G} {T : Nat → ClassId} {bb : Nat → Nat} {q : Nat} {qs : Nat → Nat} : ∀ k, 85 ≤ k → k < 102 → (WW T q qs)[pos k]? = some ((mkE D T bb q qs).2.1 k, cellE (mkE D T bb q qs) zHs zT zM k) := by
  intro k k0 k1
  rcases (show k = 85 ∨ k = 86 ∨ k = 87 ∨ k = 88 ∨ k = 89 ∨ k = 90 ∨ k = 91 ∨ k = 92 ∨ k = 93 ∨ k = 94 ∨ k = 95 ∨ k = 96 ∨ k = 97 ∨ k = 98 ∨ k = 99 ∨ k = 100 ∨ k = 101 by omega) with rfl | rfl | rfl | rfl | rfl | rfl | rfl | rfl | rfl | rfl | rfl | rfl | rfl | rfl | rfl | rfl | rfl
  · rfl
  · rfl
  · rfl
  · rfl
  · rfl
  · rfl
  · rfl
  · rfl
  · rfl
  · rfl
  · rfl
  · rfl
  · rfl
  · rfl
  · rfl
  · rfl
  · rfl
set_option maxRecDepth 100000 in
set_option maxHeartbeats 4000000 in
theorem place_102 {D : va_G} {T : Nat → ClassId} {bb : Nat → Nat} {q : Nat} {qs : Nat → Nat} : ∀ k, 102 ≤ k → k < 119 → (WW T q qs)[pos k]? = some ((mkE D T bb q qs).2.1 k, cellE (mkE D T bb q qs) zHs zT zM k) := by
  intro k k0 k1
  rcases (show k = 102 ∨ k = 103 ∨ k = 104 ∨ k = 105 ∨ k = 106 ∨ k = 107 ∨ k = 108 ∨ k = 109 ∨ k = 110 ∨ k = 111 ∨ k = 112 ∨ k = 113 ∨ k = 114 ∨ k = 115 ∨ k = 116 ∨ k = 117 ∨ k = 118 by omega) with rfl | rfl | rfl | rfl | rfl | rfl | rfl | rfl | rfl | rfl | rfl | rfl | rfl | rfl | rfl | rfl | rfl
  · rfl
  · rfl
  · rfl
  · rfl
  · rfl
  · rfl
  · rfl
  · rfl
  · rfl
  · rfl
  · rfl
  · rfl
  · rfl
  · rfl
  · rfl
  · rfl
  · rfl
theorem place_states {D : va_G} {T : Nat → ClassId} {bb : Nat → Nat} {q : Nat} {qs : Nat → Nat} : (fun i : Nat => some (if i = 0 then qs (53 + 1) else if i = 1 then qs (53 + 18) else if i = 2 then qs (53 + 35) else qs (53 + 52))) = fun i : Nat => some (hA (mkE D T bb q qs) (zT 3 (i : Int)).toNat 0) := by
  funext i
  have ez : zT 3 (i : Int) = if (i : Int) = 0 then 3 else if (i : Int) = 1 then 4 else if (i : Int) = 2 then 5 else 6 := rfl
  rw [ez]
  by_cases h0 : i = 0
  · subst h0; rfl
  · by_cases h1 : i = 1
    · subst h1; rfl
    · by_cases h2 : i = 2
      · subst h2; rfl
      · rw [if_neg h0, if_neg h1, if_neg h2, if_neg (by omega), if_neg (by omega), if_neg (by omega)]; rfl
set_option maxRecDepth 100000 in
set_option maxHeartbeats 4000000 in
theorem place_119 {D : va_G} {T : Nat → ClassId} {bb : Nat → Nat} {q : Nat} {qs : Nat → Nat} : ∀ k, 119 ≤ k → k < 128 → (WW T q qs)[pos k]? = some ((mkE D T bb q qs).2.1 k, cellE (mkE D T bb q qs) zHs zT zM k) := by
  intro k k0 k1
  rcases (show k = 119 ∨ k = 120 ∨ k = 121 ∨ k = 122 ∨ k = 123 ∨ k = 124 ∨ k = 125 ∨ k = 126 ∨ k = 127 by omega) with rfl | rfl | rfl | rfl | rfl | rfl | rfl | rfl | rfl
  · rfl
  · rfl
  · rfl
  · show some (qs 53, (.inl (T 2, 4, .inr (.inr (.inr (.inr (fun i : Nat => some (if i = 0 then qs (53 + 1) else if i = 1 then qs (53 + 18) else if i = 2 then qs (53 + 35) else qs (53 + 52))))))) : va_E)) = some (qs 53, (.inl (T 2, 4, .inr (.inr (.inr (.inr (fun i : Nat => some (hA (mkE D T bb q qs) (zT 3 (i : Int)).toNat 0)))))) : va_E))
    rw [place_states]
  · rfl
  · rfl
  · rfl
  · rfl
  · rfl
theorem st_place {D : va_G} {T : Nat → ClassId} {bb : Nat → Nat} {q : Nat} {qs : Nat → Nat} {k : Nat} (hk : k < 128) : (WW T q qs)[pos k]? = some ((mkE D T bb q qs).2.1 k, cellE (mkE D T bb q qs) zHs zT zM k) := by
  rcases (show k < 17 ∨ (17 ≤ k ∧ k < 34) ∨ (34 ≤ k ∧ k < 51) ∨ (51 ≤ k ∧ k < 68) ∨ (68 ≤ k ∧ k < 85) ∨ (85 ≤ k ∧ k < 102) ∨ (102 ≤ k ∧ k < 119) ∨ (119 ≤ k ∧ k < 128) by omega) with h | h | h | h | h | h | h | h
  · exact place_0 k (Nat.zero_le _) h
  · exact place_17 k h.1 h.2
  · exact place_34 k h.1 h.2
  · exact place_51 k h.1 h.2
  · exact place_68 k h.1 h.2
  · exact place_85 k h.1 h.2
  · exact place_102 k h.1 h.2
  · exact place_119 k h.1 h.2
theorem st_world {D : va_G} {T : Nat → ClassId} {bb : Nat → Nat} {q : Nat} {qs : Nat → Nat} {A : Nat → Prop} {H : Heap} (hP : va_P D vwCl (WW T q qs) H) (hD : va_D A (WW T q qs)) : va_P D vwCl (wl (mkE D T bb q qs) zHs zT zM) H ∧ HI (mkE D T bb q qs) ∧ ∀ x, AA (mkE D T bb q qs) x → A x := by
  refine ⟨fun k x hx => ?_, fun i j hi hj e => ?_, fun x hx => ?_⟩
  · obtain ⟨hk, rfl⟩ := wl_of hx
    exact hP (pos k) _ (st_place hk)
  · exact pos_inj (hD.1 (pos i) (pos j) _ _ (st_place (D := D) (bb := bb) hi) (st_place (D := D) (bb := bb) hj) e) hi hj
  · obtain ⟨k, hk, rfl⟩ := hx
    exact hD.2 (pos k) _ (st_place (D := D) (bb := bb) hk)
