section FIELDS
variable {F : FC} {own : String} {cc : ByteArray} {nL kf : Nat} {E : HE} {hs : Nat → HV} {tp md : HV} {pc : Nat} {L : List (Option Value)} {st : List Value} {a b : Int} {j : Nat} {h : HV} {index : Nat}

theorem gh_0_0 (C : Cs F own cc nL kf E) (hj : j < 7) (hh : hs j = h) (hl : Cond.fieldLink own index "HutBookings$Hut" "settings" "[I" ∈ TB) (d : decode cc pc = .ok (.getfield index, 3)) (n : G F E hs tp md (pc + 3) L (.ref (hA E j 1) :: st)) : G F E hs tp md pc L (.ref (hA E j 0) :: st) :=
  x_get C (wl_h hj hh 0 (by decide)) rfl i_X3 0 (by decide) hl rfl d n
theorem gh_0_1 (C : Cs F own cc nL kf E) (hj : j < 7) (hh : hs j = h) (hl : Cond.fieldLink own index "HutBookings$Hut" "weatherRow" "[I" ∈ TB) (d : decode cc pc = .ok (.getfield index, 3)) (n : G F E hs tp md (pc + 3) L (.ref (hA E j 2) :: st)) : G F E hs tp md pc L (.ref (hA E j 0) :: st) :=
  x_get C (wl_h hj hh 0 (by decide)) rfl i_X3 1 (by decide) hl rfl d n
theorem gh_0_2 (C : Cs F own cc nL kf E) (hj : j < 7) (hh : hs j = h) (hl : Cond.fieldLink own index "HutBookings$Hut" "guests" "LHutBookings$Guests;" ∈ TB) (d : decode cc pc = .ok (.getfield index, 3)) (n : G F E hs tp md (pc + 3) L (.ref (hA E j 3) :: st)) : G F E hs tp md pc L (.ref (hA E j 0) :: st) :=
  x_get C (wl_h hj hh 0 (by decide)) rfl i_X3 2 (by decide) hl rfl d n
theorem gh_0_3 (C : Cs F own cc nL kf E) (hj : j < 7) (hh : hs j = h) (hl : Cond.fieldLink own index "HutBookings$Hut" "larder" "LHutBookings$Larder;" ∈ TB) (d : decode cc pc = .ok (.getfield index, 3)) (n : G F E hs tp md (pc + 3) L (.ref (hA E j 11) :: st)) : G F E hs tp md pc L (.ref (hA E j 0) :: st) :=
  x_get C (wl_h hj hh 0 (by decide)) rfl i_X3 3 (by decide) hl rfl d n
theorem gh_0_4 (C : Cs F own cc nL kf E) (hj : j < 7) (hh : hs j = h) (hl : Cond.fieldLink own index "HutBookings$Hut" "orders" "LHutBookings$Orders;" ∈ TB) (d : decode cc pc = .ok (.getfield index, 3)) (n : G F E hs tp md (pc + 3) L (.ref (hA E j 13) :: st)) : G F E hs tp md pc L (.ref (hA E j 0) :: st) :=
  x_get C (wl_h hj hh 0 (by decide)) rfl i_X3 4 (by decide) hl rfl d n
theorem gh_0_5 (C : Cs F own cc nL kf E) (hj : j < 7) (hh : hs j = h) (hl : Cond.fieldLink own index "HutBookings$Hut" "tally" "[I" ∈ TB) (d : decode cc pc = .ok (.getfield index, 3)) (n : G F E hs tp md (pc + 3) L (.ref (hA E j 16) :: st)) : G F E hs tp md pc L (.ref (hA E j 0) :: st) :=
  x_get C (wl_h hj hh 0 (by decide)) rfl i_X3 5 (by decide) hl rfl d n
theorem gh_0_6 (C : Cs F own cc nL kf E) (hj : j < 7) (hh : hs j = h) (hl : Cond.fieldLink own index "HutBookings$Hut" "today" "I" ∈ TB) (d : decode cc pc = .ok (.getfield index, 3)) {v9 : Int} (hv : h 0 6 = v9) (n : G F E hs tp md (pc + 3) L (vI v9 :: st)) : G F E hs tp md pc L (.ref (hA E j 0) :: st) :=
  by subst hv; exact x_get C (wl_h hj hh 0 (by decide)) rfl i_X3 6 (by decide) hl rfl d n
theorem ph_0_6 (C : Cs F own cc nL kf E) (hj : j < 7) (hh : hs j = h) (hl : Cond.fieldLink own index "HutBookings$Hut" "today" "I" ∈ TB) (d : decode cc pc = .ok (.putfield index, 3)) {hs9 : Nat → HV} (he : putH hs j (upr h 0 (up1 (h 0) 6 a)) = hs9) (n : G F E hs9 tp md (pc + 3) L st) : G F E hs tp md pc L (vI a :: .ref (hA E j 0) :: st) :=
  by subst he; exact x_put C (wl_h hj hh 0 (by decide)) rfl i_X3 tyX3_ok nmX3 6 (by decide) hl rfl rfl rfl (Nat.le_of_ble_eq_true rfl) (set_h hj hh 0 (by decide) _ rfl) d n
theorem gh_0_7 (C : Cs F own cc nL kf E) (hj : j < 7) (hh : hs j = h) (hl : Cond.fieldLink own index "HutBookings$Hut" "flightCalled" "Z" ∈ TB) (d : decode cc pc = .ok (.getfield index, 3)) {v9 : Int} (hv : h 0 7 = v9) (n : G F E hs tp md (pc + 3) L (vI v9 :: st)) : G F E hs tp md pc L (.ref (hA E j 0) :: st) :=
  by subst hv; exact x_get C (wl_h hj hh 0 (by decide)) rfl i_X3 7 (by decide) hl rfl d n
theorem ph_0_7 (C : Cs F own cc nL kf E) (hj : j < 7) (hh : hs j = h) (ha : a = 0 ∨ a = 1) (hl : Cond.fieldLink own index "HutBookings$Hut" "flightCalled" "Z" ∈ TB) (d : decode cc pc = .ok (.putfield index, 3)) {hs9 : Nat → HV} (he : putH hs j (upr h 0 (up1 (h 0) 7 a)) = hs9) (n : G F E hs9 tp md (pc + 3) L st) : G F E hs tp md pc L (vI a :: .ref (hA E j 0) :: st) :=
  by subst he; exact x_put C (wl_h hj hh 0 (by decide)) rfl i_X3 tyX3_ok nmX3 7 (by decide) hl rfl (by rcases ha with rfl | rfl <;> rfl) (by rcases ha with rfl | rfl <;> rfl) (Nat.le_of_ble_eq_true rfl) (set_h hj hh 0 (by decide) _ rfl) d n
theorem gh_0_8 (C : Cs F own cc nL kf E) (hj : j < 7) (hh : hs j = h) (hl : Cond.fieldLink own index "HutBookings$Hut" "purse" "I" ∈ TB) (d : decode cc pc = .ok (.getfield index, 3)) {v9 : Int} (hv : h 0 8 = v9) (n : G F E hs tp md (pc + 3) L (vI v9 :: st)) : G F E hs tp md pc L (.ref (hA E j 0) :: st) :=
  by subst hv; exact x_get C (wl_h hj hh 0 (by decide)) rfl i_X3 8 (by decide) hl rfl d n
theorem ph_0_8 (C : Cs F own cc nL kf E) (hj : j < 7) (hh : hs j = h) (hl : Cond.fieldLink own index "HutBookings$Hut" "purse" "I" ∈ TB) (d : decode cc pc = .ok (.putfield index, 3)) {hs9 : Nat → HV} (he : putH hs j (upr h 0 (up1 (h 0) 8 a)) = hs9) (n : G F E hs9 tp md (pc + 3) L st) : G F E hs tp md pc L (vI a :: .ref (hA E j 0) :: st) :=
  by subst he; exact x_put C (wl_h hj hh 0 (by decide)) rfl i_X3 tyX3_ok nmX3 8 (by decide) hl rfl rfl rfl (Nat.le_of_ble_eq_true rfl) (set_h hj hh 0 (by decide) _ rfl) d n
theorem gh_0_9 (C : Cs F own cc nL kf E) (hj : j < 7) (hh : hs j = h) (hl : Cond.fieldLink own index "HutBookings$Hut" "depositsKept" "I" ∈ TB) (d : decode cc pc = .ok (.getfield index, 3)) {v9 : Int} (hv : h 0 9 = v9) (n : G F E hs tp md (pc + 3) L (vI v9 :: st)) : G F E hs tp md pc L (.ref (hA E j 0) :: st) :=
  by subst hv; exact x_get C (wl_h hj hh 0 (by decide)) rfl i_X3 9 (by decide) hl rfl d n
theorem ph_0_9 (C : Cs F own cc nL kf E) (hj : j < 7) (hh : hs j = h) (hl : Cond.fieldLink own index "HutBookings$Hut" "depositsKept" "I" ∈ TB) (d : decode cc pc = .ok (.putfield index, 3)) {hs9 : Nat → HV} (he : putH hs j (upr h 0 (up1 (h 0) 9 a)) = hs9) (n : G F E hs9 tp md (pc + 3) L st) : G F E hs tp md pc L (vI a :: .ref (hA E j 0) :: st) :=
  by subst he; exact x_put C (wl_h hj hh 0 (by decide)) rfl i_X3 tyX3_ok nmX3 9 (by decide) hl rfl rfl rfl (Nat.le_of_ble_eq_true rfl) (set_h hj hh 0 (by decide) _ rfl) d n
theorem gh_0_10 (C : Cs F own cc nL kf E) (hj : j < 7) (hh : hs j = h) (hl : Cond.fieldLink own index "HutBookings$Hut" "flightsPaid" "I" ∈ TB) (d : decode cc pc = .ok (.getfield index, 3)) {v9 : Int} (hv : h 0 10 = v9) (n : G F E hs tp md (pc + 3) L (vI v9 :: st)) : G F E hs tp md pc L (.ref (hA E j 0) :: st) :=
  by subst hv; exact x_get C (wl_h hj hh 0 (by decide)) rfl i_X3 10 (by decide) hl rfl d n
theorem ph_0_10 (C : Cs F own cc nL kf E) (hj : j < 7) (hh : hs j = h) (hl : Cond.fieldLink own index "HutBookings$Hut" "flightsPaid" "I" ∈ TB) (d : decode cc pc = .ok (.putfield index, 3)) {hs9 : Nat → HV} (he : putH hs j (upr h 0 (up1 (h 0) 10 a)) = hs9) (n : G F E hs9 tp md (pc + 3) L st) : G F E hs tp md pc L (vI a :: .ref (hA E j 0) :: st) :=
  by subst he; exact x_put C (wl_h hj hh 0 (by decide)) rfl i_X3 tyX3_ok nmX3 10 (by decide) hl rfl rfl rfl (Nat.le_of_ble_eq_true rfl) (set_h hj hh 0 (by decide) _ rfl) d n
theorem gh_3_0 (C : Cs F own cc nL kf E) (hj : j < 7) (hh : hs j = h) (hl : Cond.fieldLink own index "HutBookings$Guests" "how" "[I" ∈ TB) (d : decode cc pc = .ok (.getfield index, 3)) (n : G F E hs tp md (pc + 3) L (.ref (hA E j 4) :: st)) : G F E hs tp md pc L (.ref (hA E j 3) :: st) :=
  x_get C (wl_h hj hh 3 (by decide)) rfl i_X1 0 (by decide) hl rfl d n
theorem gh_3_1 (C : Cs F own cc nL kf E) (hj : j < 7) (hh : hs j = h) (hl : Cond.fieldLink own index "HutBookings$Guests" "arrives" "[I" ∈ TB) (d : decode cc pc = .ok (.getfield index, 3)) (n : G F E hs tp md (pc + 3) L (.ref (hA E j 5) :: st)) : G F E hs tp md pc L (.ref (hA E j 3) :: st) :=
  x_get C (wl_h hj hh 3 (by decide)) rfl i_X1 1 (by decide) hl rfl d n
theorem gh_3_2 (C : Cs F own cc nL kf E) (hj : j < 7) (hh : hs j = h) (hl : Cond.fieldLink own index "HutBookings$Guests" "nights" "[I" ∈ TB) (d : decode cc pc = .ok (.getfield index, 3)) (n : G F E hs tp md (pc + 3) L (.ref (hA E j 6) :: st)) : G F E hs tp md pc L (.ref (hA E j 3) :: st) :=
  x_get C (wl_h hj hh 3 (by decide)) rfl i_X1 2 (by decide) hl rfl d n
theorem gh_3_3 (C : Cs F own cc nL kf E) (hj : j < 7) (hh : hs j = h) (hl : Cond.fieldLink own index "HutBookings$Guests" "persons" "[I" ∈ TB) (d : decode cc pc = .ok (.getfield index, 3)) (n : G F E hs tp md (pc + 3) L (.ref (hA E j 7) :: st)) : G F E hs tp md pc L (.ref (hA E j 3) :: st) :=
  x_get C (wl_h hj hh 3 (by decide)) rfl i_X1 3 (by decide) hl rfl d n
theorem gh_3_4 (C : Cs F own cc nL kf E) (hj : j < 7) (hh : hs j = h) (hl : Cond.fieldLink own index "HutBookings$Guests" "slept" "[I" ∈ TB) (d : decode cc pc = .ok (.getfield index, 3)) (n : G F E hs tp md (pc + 3) L (.ref (hA E j 8) :: st)) : G F E hs tp md pc L (.ref (hA E j 3) :: st) :=
  x_get C (wl_h hj hh 3 (by decide)) rfl i_X1 4 (by decide) hl rfl d n
theorem gh_3_5 (C : Cs F own cc nL kf E) (hj : j < 7) (hh : hs j = h) (hl : Cond.fieldLink own index "HutBookings$Guests" "deposit" "[I" ∈ TB) (d : decode cc pc = .ok (.getfield index, 3)) (n : G F E hs tp md (pc + 3) L (.ref (hA E j 9) :: st)) : G F E hs tp md pc L (.ref (hA E j 3) :: st) :=
  x_get C (wl_h hj hh 3 (by decide)) rfl i_X1 5 (by decide) hl rfl d n
theorem gh_3_6 (C : Cs F own cc nL kf E) (hj : j < 7) (hh : hs j = h) (hl : Cond.fieldLink own index "HutBookings$Guests" "came" "[I" ∈ TB) (d : decode cc pc = .ok (.getfield index, 3)) (n : G F E hs tp md (pc + 3) L (.ref (hA E j 10) :: st)) : G F E hs tp md pc L (.ref (hA E j 3) :: st) :=
  x_get C (wl_h hj hh 3 (by decide)) rfl i_X1 6 (by decide) hl rfl d n
theorem gh_3_7 (C : Cs F own cc nL kf E) (hj : j < 7) (hh : hs j = h) (hl : Cond.fieldLink own index "HutBookings$Guests" "made" "I" ∈ TB) (d : decode cc pc = .ok (.getfield index, 3)) {v9 : Int} (hv : h 3 7 = v9) (n : G F E hs tp md (pc + 3) L (vI v9 :: st)) : G F E hs tp md pc L (.ref (hA E j 3) :: st) :=
  by subst hv; exact x_get C (wl_h hj hh 3 (by decide)) rfl i_X1 7 (by decide) hl rfl d n
theorem ph_3_7 (C : Cs F own cc nL kf E) (hj : j < 7) (hh : hs j = h) (hl : Cond.fieldLink own index "HutBookings$Guests" "made" "I" ∈ TB) (d : decode cc pc = .ok (.putfield index, 3)) {hs9 : Nat → HV} (he : putH hs j (upr h 3 (up1 (h 3) 7 a)) = hs9) (n : G F E hs9 tp md (pc + 3) L st) : G F E hs tp md pc L (vI a :: .ref (hA E j 3) :: st) :=
  by subst he; exact x_put C (wl_h hj hh 3 (by decide)) rfl i_X1 tyX1_ok nmX1 7 (by decide) hl rfl rfl rfl (Nat.le_of_ble_eq_true rfl) (set_h hj hh 3 (by decide) _ rfl) d n
theorem gh_11_0 (C : Cs F own cc nL kf E) (hj : j < 7) (hh : hs j = h) (hl : Cond.fieldLink own index "HutBookings$Larder" "fresh" "[I" ∈ TB) (d : decode cc pc = .ok (.getfield index, 3)) (n : G F E hs tp md (pc + 3) L (.ref (hA E j 12) :: st)) : G F E hs tp md pc L (.ref (hA E j 11) :: st) :=
  x_get C (wl_h hj hh 11 (by decide)) rfl i_X4 0 (by decide) hl rfl d n
theorem gh_11_1 (C : Cs F own cc nL kf E) (hj : j < 7) (hh : hs j = h) (hl : Cond.fieldLink own index "HutBookings$Larder" "dry" "I" ∈ TB) (d : decode cc pc = .ok (.getfield index, 3)) {v9 : Int} (hv : h 11 1 = v9) (n : G F E hs tp md (pc + 3) L (vI v9 :: st)) : G F E hs tp md pc L (.ref (hA E j 11) :: st) :=
  by subst hv; exact x_get C (wl_h hj hh 11 (by decide)) rfl i_X4 1 (by decide) hl rfl d n
theorem ph_11_1 (C : Cs F own cc nL kf E) (hj : j < 7) (hh : hs j = h) (hl : Cond.fieldLink own index "HutBookings$Larder" "dry" "I" ∈ TB) (d : decode cc pc = .ok (.putfield index, 3)) {hs9 : Nat → HV} (he : putH hs j (upr h 11 (up1 (h 11) 1 a)) = hs9) (n : G F E hs9 tp md (pc + 3) L st) : G F E hs tp md pc L (vI a :: .ref (hA E j 11) :: st) :=
  by subst he; exact x_put C (wl_h hj hh 11 (by decide)) rfl i_X4 tyX4_ok nmX4 1 (by decide) hl rfl rfl rfl (Nat.le_of_ble_eq_true rfl) (set_h hj hh 11 (by decide) _ rfl) d n
theorem gh_13_0 (C : Cs F own cc nL kf E) (hj : j < 7) (hh : hs j = h) (hl : Cond.fieldLink own index "HutBookings$Orders" "kinds" "[I" ∈ TB) (d : decode cc pc = .ok (.getfield index, 3)) (n : G F E hs tp md (pc + 3) L (.ref (hA E j 14) :: st)) : G F E hs tp md pc L (.ref (hA E j 13) :: st) :=
  x_get C (wl_h hj hh 13 (by decide)) rfl i_X5 0 (by decide) hl rfl d n
theorem gh_13_1 (C : Cs F own cc nL kf E) (hj : j < 7) (hh : hs j = h) (hl : Cond.fieldLink own index "HutBookings$Orders" "portions" "[I" ∈ TB) (d : decode cc pc = .ok (.getfield index, 3)) (n : G F E hs tp md (pc + 3) L (.ref (hA E j 15) :: st)) : G F E hs tp md pc L (.ref (hA E j 13) :: st) :=
  x_get C (wl_h hj hh 13 (by decide)) rfl i_X5 1 (by decide) hl rfl d n
theorem gh_13_2 (C : Cs F own cc nL kf E) (hj : j < 7) (hh : hs j = h) (hl : Cond.fieldLink own index "HutBookings$Orders" "size" "I" ∈ TB) (d : decode cc pc = .ok (.getfield index, 3)) {v9 : Int} (hv : h 13 2 = v9) (n : G F E hs tp md (pc + 3) L (vI v9 :: st)) : G F E hs tp md pc L (.ref (hA E j 13) :: st) :=
  by subst hv; exact x_get C (wl_h hj hh 13 (by decide)) rfl i_X5 2 (by decide) hl rfl d n
theorem ph_13_2 (C : Cs F own cc nL kf E) (hj : j < 7) (hh : hs j = h) (hl : Cond.fieldLink own index "HutBookings$Orders" "size" "I" ∈ TB) (d : decode cc pc = .ok (.putfield index, 3)) {hs9 : Nat → HV} (he : putH hs j (upr h 13 (up1 (h 13) 2 a)) = hs9) (n : G F E hs9 tp md (pc + 3) L st) : G F E hs tp md pc L (vI a :: .ref (hA E j 13) :: st) :=
  by subst he; exact x_put C (wl_h hj hh 13 (by decide)) rfl i_X5 tyX5_ok nmX5 2 (by decide) hl rfl rfl rfl (Nat.le_of_ble_eq_true rfl) (set_h hj hh 13 (by decide) _ rfl) d n
theorem lh_1 (C : Cs F own cc nL kf E) (hj : j < 7) (hh : hs j = h) (h0 : 0 ≤ a) (h1 : a < 10) (d : decode cc pc = .ok (.iaload, 1)) {v9 : Int} (hv : h 1 a = v9) (n : G F E hs tp md (pc + 1) L (vI v9 :: st)) : G F E hs tp md pc L (vI a :: .ref (hA E j 1) :: st) :=
  by subst hv; exact x_iald C (wl_h hj hh 1 (by decide)) (by decide) h0 h1 d n
theorem sh_1 (C : Cs F own cc nL kf E) (hj : j < 7) (hh : hs j = h) (h0 : 0 ≤ a) (h1 : a < 10) (d : decode cc pc = .ok (.iastore, 1)) {hs9 : Nat → HV} (he : putH hs j (upr h 1 (up1 (h 1) a b)) = hs9) (n : G F E hs9 tp md (pc + 1) L st) : G F E hs tp md pc L (vI b :: vI a :: .ref (hA E j 1) :: st) :=
  by subst he; exact x_iast C (wl_h hj hh 1 (by decide)) (by decide) h0 h1 (set_h hj hh 1 (by decide) _ rfl) d n
theorem nh_1 (C : Cs F own cc nL kf E) (hj : j < 7) (hh : hs j = h) (d : decode cc pc = .ok (.arraylength, 1)) (n : G F E hs tp md (pc + 1) L (vI 10 :: st)) : G F E hs tp md pc L (.ref (hA E j 1) :: st) :=
  x_alen C (wl_h hj hh 1 (by decide)) d n
theorem lh_2 (C : Cs F own cc nL kf E) (hj : j < 7) (hh : hs j = h) (h0 : 0 ≤ a) (h1 : a < 1000) (d : decode cc pc = .ok (.iaload, 1)) {v9 : Int} (hv : h 2 a = v9) (n : G F E hs tp md (pc + 1) L (vI v9 :: st)) : G F E hs tp md pc L (vI a :: .ref (hA E j 2) :: st) :=
  by subst hv; exact x_iald C (wl_h hj hh 2 (by decide)) (by decide) h0 h1 d n
theorem sh_2 (C : Cs F own cc nL kf E) (hj : j < 7) (hh : hs j = h) (h0 : 0 ≤ a) (h1 : a < 1000) (d : decode cc pc = .ok (.iastore, 1)) {hs9 : Nat → HV} (he : putH hs j (upr h 2 (up1 (h 2) a b)) = hs9) (n : G F E hs9 tp md (pc + 1) L st) : G F E hs tp md pc L (vI b :: vI a :: .ref (hA E j 2) :: st) :=
  by subst he; exact x_iast C (wl_h hj hh 2 (by decide)) (by decide) h0 h1 (set_h hj hh 2 (by decide) _ rfl) d n
theorem nh_2 (C : Cs F own cc nL kf E) (hj : j < 7) (hh : hs j = h) (d : decode cc pc = .ok (.arraylength, 1)) (n : G F E hs tp md (pc + 1) L (vI 1000 :: st)) : G F E hs tp md pc L (.ref (hA E j 2) :: st) :=
  x_alen C (wl_h hj hh 2 (by decide)) d n
theorem lh_4 (C : Cs F own cc nL kf E) (hj : j < 7) (hh : hs j = h) (h0 : 0 ≤ a) (h1 : a < 80) (d : decode cc pc = .ok (.iaload, 1)) {v9 : Int} (hv : h 4 a = v9) (n : G F E hs tp md (pc + 1) L (vI v9 :: st)) : G F E hs tp md pc L (vI a :: .ref (hA E j 4) :: st) :=
  by subst hv; exact x_iald C (wl_h hj hh 4 (by decide)) (by decide) h0 h1 d n
theorem sh_4 (C : Cs F own cc nL kf E) (hj : j < 7) (hh : hs j = h) (h0 : 0 ≤ a) (h1 : a < 80) (d : decode cc pc = .ok (.iastore, 1)) {hs9 : Nat → HV} (he : putH hs j (upr h 4 (up1 (h 4) a b)) = hs9) (n : G F E hs9 tp md (pc + 1) L st) : G F E hs tp md pc L (vI b :: vI a :: .ref (hA E j 4) :: st) :=
  by subst he; exact x_iast C (wl_h hj hh 4 (by decide)) (by decide) h0 h1 (set_h hj hh 4 (by decide) _ rfl) d n
theorem nh_4 (C : Cs F own cc nL kf E) (hj : j < 7) (hh : hs j = h) (d : decode cc pc = .ok (.arraylength, 1)) (n : G F E hs tp md (pc + 1) L (vI 80 :: st)) : G F E hs tp md pc L (.ref (hA E j 4) :: st) :=
  x_alen C (wl_h hj hh 4 (by decide)) d n
theorem lh_5 (C : Cs F own cc nL kf E) (hj : j < 7) (hh : hs j = h) (h0 : 0 ≤ a) (h1 : a < 80) (d : decode cc pc = .ok (.iaload, 1)) {v9 : Int} (hv : h 5 a = v9) (n : G F E hs tp md (pc + 1) L (vI v9 :: st)) : G F E hs tp md pc L (vI a :: .ref (hA E j 5) :: st) :=
  by subst hv; exact x_iald C (wl_h hj hh 5 (by decide)) (by decide) h0 h1 d n
theorem sh_5 (C : Cs F own cc nL kf E) (hj : j < 7) (hh : hs j = h) (h0 : 0 ≤ a) (h1 : a < 80) (d : decode cc pc = .ok (.iastore, 1)) {hs9 : Nat → HV} (he : putH hs j (upr h 5 (up1 (h 5) a b)) = hs9) (n : G F E hs9 tp md (pc + 1) L st) : G F E hs tp md pc L (vI b :: vI a :: .ref (hA E j 5) :: st) :=
  by subst he; exact x_iast C (wl_h hj hh 5 (by decide)) (by decide) h0 h1 (set_h hj hh 5 (by decide) _ rfl) d n
theorem nh_5 (C : Cs F own cc nL kf E) (hj : j < 7) (hh : hs j = h) (d : decode cc pc = .ok (.arraylength, 1)) (n : G F E hs tp md (pc + 1) L (vI 80 :: st)) : G F E hs tp md pc L (.ref (hA E j 5) :: st) :=
  x_alen C (wl_h hj hh 5 (by decide)) d n
theorem lh_6 (C : Cs F own cc nL kf E) (hj : j < 7) (hh : hs j = h) (h0 : 0 ≤ a) (h1 : a < 80) (d : decode cc pc = .ok (.iaload, 1)) {v9 : Int} (hv : h 6 a = v9) (n : G F E hs tp md (pc + 1) L (vI v9 :: st)) : G F E hs tp md pc L (vI a :: .ref (hA E j 6) :: st) :=
  by subst hv; exact x_iald C (wl_h hj hh 6 (by decide)) (by decide) h0 h1 d n
theorem sh_6 (C : Cs F own cc nL kf E) (hj : j < 7) (hh : hs j = h) (h0 : 0 ≤ a) (h1 : a < 80) (d : decode cc pc = .ok (.iastore, 1)) {hs9 : Nat → HV} (he : putH hs j (upr h 6 (up1 (h 6) a b)) = hs9) (n : G F E hs9 tp md (pc + 1) L st) : G F E hs tp md pc L (vI b :: vI a :: .ref (hA E j 6) :: st) :=
  by subst he; exact x_iast C (wl_h hj hh 6 (by decide)) (by decide) h0 h1 (set_h hj hh 6 (by decide) _ rfl) d n
theorem nh_6 (C : Cs F own cc nL kf E) (hj : j < 7) (hh : hs j = h) (d : decode cc pc = .ok (.arraylength, 1)) (n : G F E hs tp md (pc + 1) L (vI 80 :: st)) : G F E hs tp md pc L (.ref (hA E j 6) :: st) :=
  x_alen C (wl_h hj hh 6 (by decide)) d n
theorem lh_7 (C : Cs F own cc nL kf E) (hj : j < 7) (hh : hs j = h) (h0 : 0 ≤ a) (h1 : a < 80) (d : decode cc pc = .ok (.iaload, 1)) {v9 : Int} (hv : h 7 a = v9) (n : G F E hs tp md (pc + 1) L (vI v9 :: st)) : G F E hs tp md pc L (vI a :: .ref (hA E j 7) :: st) :=
  by subst hv; exact x_iald C (wl_h hj hh 7 (by decide)) (by decide) h0 h1 d n
theorem sh_7 (C : Cs F own cc nL kf E) (hj : j < 7) (hh : hs j = h) (h0 : 0 ≤ a) (h1 : a < 80) (d : decode cc pc = .ok (.iastore, 1)) {hs9 : Nat → HV} (he : putH hs j (upr h 7 (up1 (h 7) a b)) = hs9) (n : G F E hs9 tp md (pc + 1) L st) : G F E hs tp md pc L (vI b :: vI a :: .ref (hA E j 7) :: st) :=
  by subst he; exact x_iast C (wl_h hj hh 7 (by decide)) (by decide) h0 h1 (set_h hj hh 7 (by decide) _ rfl) d n
theorem nh_7 (C : Cs F own cc nL kf E) (hj : j < 7) (hh : hs j = h) (d : decode cc pc = .ok (.arraylength, 1)) (n : G F E hs tp md (pc + 1) L (vI 80 :: st)) : G F E hs tp md pc L (.ref (hA E j 7) :: st) :=
  x_alen C (wl_h hj hh 7 (by decide)) d n
theorem lh_8 (C : Cs F own cc nL kf E) (hj : j < 7) (hh : hs j = h) (h0 : 0 ≤ a) (h1 : a < 80) (d : decode cc pc = .ok (.iaload, 1)) {v9 : Int} (hv : h 8 a = v9) (n : G F E hs tp md (pc + 1) L (vI v9 :: st)) : G F E hs tp md pc L (vI a :: .ref (hA E j 8) :: st) :=
  by subst hv; exact x_iald C (wl_h hj hh 8 (by decide)) (by decide) h0 h1 d n
theorem sh_8 (C : Cs F own cc nL kf E) (hj : j < 7) (hh : hs j = h) (h0 : 0 ≤ a) (h1 : a < 80) (d : decode cc pc = .ok (.iastore, 1)) {hs9 : Nat → HV} (he : putH hs j (upr h 8 (up1 (h 8) a b)) = hs9) (n : G F E hs9 tp md (pc + 1) L st) : G F E hs tp md pc L (vI b :: vI a :: .ref (hA E j 8) :: st) :=
  by subst he; exact x_iast C (wl_h hj hh 8 (by decide)) (by decide) h0 h1 (set_h hj hh 8 (by decide) _ rfl) d n
theorem nh_8 (C : Cs F own cc nL kf E) (hj : j < 7) (hh : hs j = h) (d : decode cc pc = .ok (.arraylength, 1)) (n : G F E hs tp md (pc + 1) L (vI 80 :: st)) : G F E hs tp md pc L (.ref (hA E j 8) :: st) :=
  x_alen C (wl_h hj hh 8 (by decide)) d n
theorem lh_9 (C : Cs F own cc nL kf E) (hj : j < 7) (hh : hs j = h) (h0 : 0 ≤ a) (h1 : a < 80) (d : decode cc pc = .ok (.iaload, 1)) {v9 : Int} (hv : h 9 a = v9) (n : G F E hs tp md (pc + 1) L (vI v9 :: st)) : G F E hs tp md pc L (vI a :: .ref (hA E j 9) :: st) :=
  by subst hv; exact x_iald C (wl_h hj hh 9 (by decide)) (by decide) h0 h1 d n
theorem sh_9 (C : Cs F own cc nL kf E) (hj : j < 7) (hh : hs j = h) (h0 : 0 ≤ a) (h1 : a < 80) (d : decode cc pc = .ok (.iastore, 1)) {hs9 : Nat → HV} (he : putH hs j (upr h 9 (up1 (h 9) a b)) = hs9) (n : G F E hs9 tp md (pc + 1) L st) : G F E hs tp md pc L (vI b :: vI a :: .ref (hA E j 9) :: st) :=
  by subst he; exact x_iast C (wl_h hj hh 9 (by decide)) (by decide) h0 h1 (set_h hj hh 9 (by decide) _ rfl) d n
theorem nh_9 (C : Cs F own cc nL kf E) (hj : j < 7) (hh : hs j = h) (d : decode cc pc = .ok (.arraylength, 1)) (n : G F E hs tp md (pc + 1) L (vI 80 :: st)) : G F E hs tp md pc L (.ref (hA E j 9) :: st) :=
  x_alen C (wl_h hj hh 9 (by decide)) d n
theorem lh_10 (C : Cs F own cc nL kf E) (hj : j < 7) (hh : hs j = h) (h0 : 0 ≤ a) (h1 : a < 80) (d : decode cc pc = .ok (.iaload, 1)) {v9 : Int} (hv : h 10 a = v9) (n : G F E hs tp md (pc + 1) L (vI v9 :: st)) : G F E hs tp md pc L (vI a :: .ref (hA E j 10) :: st) :=
  by subst hv; exact x_iald C (wl_h hj hh 10 (by decide)) (by decide) h0 h1 d n
theorem sh_10 (C : Cs F own cc nL kf E) (hj : j < 7) (hh : hs j = h) (h0 : 0 ≤ a) (h1 : a < 80) (d : decode cc pc = .ok (.iastore, 1)) {hs9 : Nat → HV} (he : putH hs j (upr h 10 (up1 (h 10) a b)) = hs9) (n : G F E hs9 tp md (pc + 1) L st) : G F E hs tp md pc L (vI b :: vI a :: .ref (hA E j 10) :: st) :=
  by subst he; exact x_iast C (wl_h hj hh 10 (by decide)) (by decide) h0 h1 (set_h hj hh 10 (by decide) _ rfl) d n
theorem nh_10 (C : Cs F own cc nL kf E) (hj : j < 7) (hh : hs j = h) (d : decode cc pc = .ok (.arraylength, 1)) (n : G F E hs tp md (pc + 1) L (vI 80 :: st)) : G F E hs tp md pc L (.ref (hA E j 10) :: st) :=
  x_alen C (wl_h hj hh 10 (by decide)) d n
theorem lh_12 (C : Cs F own cc nL kf E) (hj : j < 7) (hh : hs j = h) (h0 : 0 ≤ a) (h1 : a < 30) (d : decode cc pc = .ok (.iaload, 1)) {v9 : Int} (hv : h 12 a = v9) (n : G F E hs tp md (pc + 1) L (vI v9 :: st)) : G F E hs tp md pc L (vI a :: .ref (hA E j 12) :: st) :=
  by subst hv; exact x_iald C (wl_h hj hh 12 (by decide)) (by decide) h0 h1 d n
theorem sh_12 (C : Cs F own cc nL kf E) (hj : j < 7) (hh : hs j = h) (h0 : 0 ≤ a) (h1 : a < 30) (d : decode cc pc = .ok (.iastore, 1)) {hs9 : Nat → HV} (he : putH hs j (upr h 12 (up1 (h 12) a b)) = hs9) (n : G F E hs9 tp md (pc + 1) L st) : G F E hs tp md pc L (vI b :: vI a :: .ref (hA E j 12) :: st) :=
  by subst he; exact x_iast C (wl_h hj hh 12 (by decide)) (by decide) h0 h1 (set_h hj hh 12 (by decide) _ rfl) d n
theorem nh_12 (C : Cs F own cc nL kf E) (hj : j < 7) (hh : hs j = h) (d : decode cc pc = .ok (.arraylength, 1)) (n : G F E hs tp md (pc + 1) L (vI 30 :: st)) : G F E hs tp md pc L (.ref (hA E j 12) :: st) :=
  x_alen C (wl_h hj hh 12 (by decide)) d n
theorem lh_14 (C : Cs F own cc nL kf E) (hj : j < 7) (hh : hs j = h) (h0 : 0 ≤ a) (h1 : a < 12) (d : decode cc pc = .ok (.iaload, 1)) {v9 : Int} (hv : h 14 a = v9) (n : G F E hs tp md (pc + 1) L (vI v9 :: st)) : G F E hs tp md pc L (vI a :: .ref (hA E j 14) :: st) :=
  by subst hv; exact x_iald C (wl_h hj hh 14 (by decide)) (by decide) h0 h1 d n
theorem sh_14 (C : Cs F own cc nL kf E) (hj : j < 7) (hh : hs j = h) (h0 : 0 ≤ a) (h1 : a < 12) (d : decode cc pc = .ok (.iastore, 1)) {hs9 : Nat → HV} (he : putH hs j (upr h 14 (up1 (h 14) a b)) = hs9) (n : G F E hs9 tp md (pc + 1) L st) : G F E hs tp md pc L (vI b :: vI a :: .ref (hA E j 14) :: st) :=
  by subst he; exact x_iast C (wl_h hj hh 14 (by decide)) (by decide) h0 h1 (set_h hj hh 14 (by decide) _ rfl) d n
theorem nh_14 (C : Cs F own cc nL kf E) (hj : j < 7) (hh : hs j = h) (d : decode cc pc = .ok (.arraylength, 1)) (n : G F E hs tp md (pc + 1) L (vI 12 :: st)) : G F E hs tp md pc L (.ref (hA E j 14) :: st) :=
  x_alen C (wl_h hj hh 14 (by decide)) d n
theorem lh_15 (C : Cs F own cc nL kf E) (hj : j < 7) (hh : hs j = h) (h0 : 0 ≤ a) (h1 : a < 12) (d : decode cc pc = .ok (.iaload, 1)) {v9 : Int} (hv : h 15 a = v9) (n : G F E hs tp md (pc + 1) L (vI v9 :: st)) : G F E hs tp md pc L (vI a :: .ref (hA E j 15) :: st) :=
  by subst hv; exact x_iald C (wl_h hj hh 15 (by decide)) (by decide) h0 h1 d n
theorem sh_15 (C : Cs F own cc nL kf E) (hj : j < 7) (hh : hs j = h) (h0 : 0 ≤ a) (h1 : a < 12) (d : decode cc pc = .ok (.iastore, 1)) {hs9 : Nat → HV} (he : putH hs j (upr h 15 (up1 (h 15) a b)) = hs9) (n : G F E hs9 tp md (pc + 1) L st) : G F E hs tp md pc L (vI b :: vI a :: .ref (hA E j 15) :: st) :=
  by subst he; exact x_iast C (wl_h hj hh 15 (by decide)) (by decide) h0 h1 (set_h hj hh 15 (by decide) _ rfl) d n
theorem nh_15 (C : Cs F own cc nL kf E) (hj : j < 7) (hh : hs j = h) (d : decode cc pc = .ok (.arraylength, 1)) (n : G F E hs tp md (pc + 1) L (vI 12 :: st)) : G F E hs tp md pc L (.ref (hA E j 15) :: st) :=
  x_alen C (wl_h hj hh 15 (by decide)) d n
theorem lh_16 (C : Cs F own cc nL kf E) (hj : j < 7) (hh : hs j = h) (h0 : 0 ≤ a) (h1 : a < 9) (d : decode cc pc = .ok (.iaload, 1)) {v9 : Int} (hv : h 16 a = v9) (n : G F E hs tp md (pc + 1) L (vI v9 :: st)) : G F E hs tp md pc L (vI a :: .ref (hA E j 16) :: st) :=
  by subst hv; exact x_iald C (wl_h hj hh 16 (by decide)) (by decide) h0 h1 d n
theorem sh_16 (C : Cs F own cc nL kf E) (hj : j < 7) (hh : hs j = h) (h0 : 0 ≤ a) (h1 : a < 9) (d : decode cc pc = .ok (.iastore, 1)) {hs9 : Nat → HV} (he : putH hs j (upr h 16 (up1 (h 16) a b)) = hs9) (n : G F E hs9 tp md (pc + 1) L st) : G F E hs tp md pc L (vI b :: vI a :: .ref (hA E j 16) :: st) :=
  by subst he; exact x_iast C (wl_h hj hh 16 (by decide)) (by decide) h0 h1 (set_h hj hh 16 (by decide) _ rfl) d n
theorem nh_16 (C : Cs F own cc nL kf E) (hj : j < 7) (hh : hs j = h) (d : decode cc pc = .ok (.arraylength, 1)) (n : G F E hs tp md (pc + 1) L (vI 9 :: st)) : G F E hs tp md pc L (.ref (hA E j 16) :: st) :=
  x_alen C (wl_h hj hh 16 (by decide)) d n
theorem gt_0_0 (C : Cs F own cc nL kf E) (hl : Cond.fieldLink own index "HutBookings" "hut" "LHutBookings$Hut;" ∈ TB) (d : decode cc pc = .ok (.getfield index, 3)) (n : G F E hs tp md (pc + 3) L (.ref (hA E 0 0) :: st)) : G F E hs tp md pc L (.ref (tA E 0) :: st) :=
  x_get C (wl_t 0 (by decide)) rfl i_X6 0 (by decide) hl rfl d n
theorem gt_0_1 (C : Cs F own cc nL kf E) (hl : Cond.fieldLink own index "HutBookings" "trial" "LHutBookings$Hut;" ∈ TB) (d : decode cc pc = .ok (.getfield index, 3)) (n : G F E hs tp md (pc + 3) L (.ref (hA E 1 0) :: st)) : G F E hs tp md pc L (.ref (tA E 0) :: st) :=
  x_get C (wl_t 0 (by decide)) rfl i_X6 1 (by decide) hl rfl d n
theorem gt_0_2 (C : Cs F own cc nL kf E) (hl : Cond.fieldLink own index "HutBookings" "snapshot" "LHutBookings$Hut;" ∈ TB) (d : decode cc pc = .ok (.getfield index, 3)) (n : G F E hs tp md (pc + 3) L (.ref (hA E 2 0) :: st)) : G F E hs tp md pc L (.ref (tA E 0) :: st) :=
  x_get C (wl_t 0 (by decide)) rfl i_X6 2 (by decide) hl rfl d n
theorem gt_0_3 (C : Cs F own cc nL kf E) (hl : Cond.fieldLink own index "HutBookings" "hasSnapshot" "Z" ∈ TB) (d : decode cc pc = .ok (.getfield index, 3)) {v9 : Int} (hv : tp 0 3 = v9) (n : G F E hs tp md (pc + 3) L (vI v9 :: st)) : G F E hs tp md pc L (.ref (tA E 0) :: st) :=
  by subst hv; exact x_get C (wl_t 0 (by decide)) rfl i_X6 3 (by decide) hl rfl d n
theorem pt_0_3 (C : Cs F own cc nL kf E) (ha : a = 0 ∨ a = 1) (hl : Cond.fieldLink own index "HutBookings" "hasSnapshot" "Z" ∈ TB) (d : decode cc pc = .ok (.putfield index, 3)) {h9 : HV} (he : upr tp 0 (up1 (tp 0) 3 a) = h9) (n : G F E hs h9 md (pc + 3) L st) : G F E hs tp md pc L (vI a :: .ref (tA E 0) :: st) :=
  by subst he; exact x_put C (wl_t 0 (by decide)) rfl i_X6 tyX6_ok nmX6 3 (by decide) hl rfl (by rcases ha with rfl | rfl <;> rfl) (by rcases ha with rfl | rfl <;> rfl) (Nat.le_of_ble_eq_true rfl) (set_t 0 (by decide) _ rfl) d n
theorem gt_0_4 (C : Cs F own cc nL kf E) (hl : Cond.fieldLink own index "HutBookings" "history" "LHutBookings$History;" ∈ TB) (d : decode cc pc = .ok (.getfield index, 3)) (n : G F E hs tp md (pc + 3) L (.ref (tA E 2) :: st)) : G F E hs tp md pc L (.ref (tA E 0) :: st) :=
  x_get C (wl_t 0 (by decide)) rfl i_X6 4 (by decide) hl rfl d n
theorem gt_0_5 (C : Cs F own cc nL kf E) (hl : Cond.fieldLink own index "HutBookings" "text" "LHutBookings$BookingText;" ∈ TB) (d : decode cc pc = .ok (.getfield index, 3)) (n : G F E hs tp md (pc + 3) L (.ref (tA E 4) :: st)) : G F E hs tp md pc L (.ref (tA E 0) :: st) :=
  x_get C (wl_t 0 (by decide)) rfl i_X6 5 (by decide) hl rfl d n
theorem gt_0_6 (C : Cs F own cc nL kf E) (hl : Cond.fieldLink own index "HutBookings" "bedsTaken" "[I" ∈ TB) (d : decode cc pc = .ok (.getfield index, 3)) (n : G F E hs tp md (pc + 3) L (.ref (tA E 1) :: st)) : G F E hs tp md pc L (.ref (tA E 0) :: st) :=
  x_get C (wl_t 0 (by decide)) rfl i_X6 6 (by decide) hl rfl d n
theorem gt_2_0 (C : Cs F own cc nL kf E) (hl : Cond.fieldLink own index "HutBookings$History" "states" "[LHutBookings$Hut;" ∈ TB) (d : decode cc pc = .ok (.getfield index, 3)) (n : G F E hs tp md (pc + 3) L (.ref (tA E 3) :: st)) : G F E hs tp md pc L (.ref (tA E 2) :: st) :=
  x_get C (wl_t 2 (by decide)) rfl i_X2 0 (by decide) hl rfl d n
theorem gt_2_1 (C : Cs F own cc nL kf E) (hl : Cond.fieldLink own index "HutBookings$History" "size" "I" ∈ TB) (d : decode cc pc = .ok (.getfield index, 3)) {v9 : Int} (hv : tp 2 1 = v9) (n : G F E hs tp md (pc + 3) L (vI v9 :: st)) : G F E hs tp md pc L (.ref (tA E 2) :: st) :=
  by subst hv; exact x_get C (wl_t 2 (by decide)) rfl i_X2 1 (by decide) hl rfl d n
theorem pt_2_1 (C : Cs F own cc nL kf E) (hl : Cond.fieldLink own index "HutBookings$History" "size" "I" ∈ TB) (d : decode cc pc = .ok (.putfield index, 3)) {h9 : HV} (he : upr tp 2 (up1 (tp 2) 1 a) = h9) (n : G F E hs h9 md (pc + 3) L st) : G F E hs tp md pc L (vI a :: .ref (tA E 2) :: st) :=
  by subst he; exact x_put C (wl_t 2 (by decide)) rfl i_X2 tyX2_ok nmX2 1 (by decide) hl rfl rfl rfl (Nat.le_of_ble_eq_true rfl) (set_t 2 (by decide) _ rfl) d n
theorem gt_4_0 (C : Cs F own cc nL kf E) (hl : Cond.fieldLink own index "HutBookings$BookingText" "characters" "[C" ∈ TB) (d : decode cc pc = .ok (.getfield index, 3)) (n : G F E hs tp md (pc + 3) L (.ref (tA E 5) :: st)) : G F E hs tp md pc L (.ref (tA E 4) :: st) :=
  x_get C (wl_t 4 (by decide)) rfl i_X0 0 (by decide) hl rfl d n
theorem gt_4_1 (C : Cs F own cc nL kf E) (hl : Cond.fieldLink own index "HutBookings$BookingText" "length" "I" ∈ TB) (d : decode cc pc = .ok (.getfield index, 3)) {v9 : Int} (hv : tp 4 1 = v9) (n : G F E hs tp md (pc + 3) L (vI v9 :: st)) : G F E hs tp md pc L (.ref (tA E 4) :: st) :=
  by subst hv; exact x_get C (wl_t 4 (by decide)) rfl i_X0 1 (by decide) hl rfl d n
theorem pt_4_1 (C : Cs F own cc nL kf E) (hl : Cond.fieldLink own index "HutBookings$BookingText" "length" "I" ∈ TB) (d : decode cc pc = .ok (.putfield index, 3)) {h9 : HV} (he : upr tp 4 (up1 (tp 4) 1 a) = h9) (n : G F E hs h9 md (pc + 3) L st) : G F E hs tp md pc L (vI a :: .ref (tA E 4) :: st) :=
  by subst he; exact x_put C (wl_t 4 (by decide)) rfl i_X0 tyX0_ok nmX0 1 (by decide) hl rfl rfl rfl (Nat.le_of_ble_eq_true rfl) (set_t 4 (by decide) _ rfl) d n
theorem gt_4_2 (C : Cs F own cc nL kf E) (hl : Cond.fieldLink own index "HutBookings$BookingText" "arrives" "[I" ∈ TB) (d : decode cc pc = .ok (.getfield index, 3)) (n : G F E hs tp md (pc + 3) L (.ref (tA E 6) :: st)) : G F E hs tp md pc L (.ref (tA E 4) :: st) :=
  x_get C (wl_t 4 (by decide)) rfl i_X0 2 (by decide) hl rfl d n
theorem gt_4_3 (C : Cs F own cc nL kf E) (hl : Cond.fieldLink own index "HutBookings$BookingText" "nights" "[I" ∈ TB) (d : decode cc pc = .ok (.getfield index, 3)) (n : G F E hs tp md (pc + 3) L (.ref (tA E 7) :: st)) : G F E hs tp md pc L (.ref (tA E 4) :: st) :=
  x_get C (wl_t 4 (by decide)) rfl i_X0 3 (by decide) hl rfl d n
theorem gt_4_4 (C : Cs F own cc nL kf E) (hl : Cond.fieldLink own index "HutBookings$BookingText" "persons" "[I" ∈ TB) (d : decode cc pc = .ok (.getfield index, 3)) (n : G F E hs tp md (pc + 3) L (.ref (tA E 8) :: st)) : G F E hs tp md pc L (.ref (tA E 4) :: st) :=
  x_get C (wl_t 4 (by decide)) rfl i_X0 4 (by decide) hl rfl d n
theorem gt_4_5 (C : Cs F own cc nL kf E) (hl : Cond.fieldLink own index "HutBookings$BookingText" "found" "I" ∈ TB) (d : decode cc pc = .ok (.getfield index, 3)) {v9 : Int} (hv : tp 4 5 = v9) (n : G F E hs tp md (pc + 3) L (vI v9 :: st)) : G F E hs tp md pc L (.ref (tA E 4) :: st) :=
  by subst hv; exact x_get C (wl_t 4 (by decide)) rfl i_X0 5 (by decide) hl rfl d n
theorem pt_4_5 (C : Cs F own cc nL kf E) (hl : Cond.fieldLink own index "HutBookings$BookingText" "found" "I" ∈ TB) (d : decode cc pc = .ok (.putfield index, 3)) {h9 : HV} (he : upr tp 4 (up1 (tp 4) 5 a) = h9) (n : G F E hs h9 md (pc + 3) L st) : G F E hs tp md pc L (vI a :: .ref (tA E 4) :: st) :=
  by subst he; exact x_put C (wl_t 4 (by decide)) rfl i_X0 tyX0_ok nmX0 5 (by decide) hl rfl rfl rfl (Nat.le_of_ble_eq_true rfl) (set_t 4 (by decide) _ rfl) d n
theorem gt_4_6 (C : Cs F own cc nL kf E) (hl : Cond.fieldLink own index "HutBookings$BookingText" "place" "I" ∈ TB) (d : decode cc pc = .ok (.getfield index, 3)) {v9 : Int} (hv : tp 4 6 = v9) (n : G F E hs tp md (pc + 3) L (vI v9 :: st)) : G F E hs tp md pc L (.ref (tA E 4) :: st) :=
  by subst hv; exact x_get C (wl_t 4 (by decide)) rfl i_X0 6 (by decide) hl rfl d n
theorem pt_4_6 (C : Cs F own cc nL kf E) (hl : Cond.fieldLink own index "HutBookings$BookingText" "place" "I" ∈ TB) (d : decode cc pc = .ok (.putfield index, 3)) {h9 : HV} (he : upr tp 4 (up1 (tp 4) 6 a) = h9) (n : G F E hs h9 md (pc + 3) L st) : G F E hs tp md pc L (vI a :: .ref (tA E 4) :: st) :=
  by subst he; exact x_put C (wl_t 4 (by decide)) rfl i_X0 tyX0_ok nmX0 6 (by decide) hl rfl rfl rfl (Nat.le_of_ble_eq_true rfl) (set_t 4 (by decide) _ rfl) d n
theorem gt_4_7 (C : Cs F own cc nL kf E) (hl : Cond.fieldLink own index "HutBookings$BookingText" "dayRead" "I" ∈ TB) (d : decode cc pc = .ok (.getfield index, 3)) {v9 : Int} (hv : tp 4 7 = v9) (n : G F E hs tp md (pc + 3) L (vI v9 :: st)) : G F E hs tp md pc L (.ref (tA E 4) :: st) :=
  by subst hv; exact x_get C (wl_t 4 (by decide)) rfl i_X0 7 (by decide) hl rfl d n
theorem pt_4_7 (C : Cs F own cc nL kf E) (hl : Cond.fieldLink own index "HutBookings$BookingText" "dayRead" "I" ∈ TB) (d : decode cc pc = .ok (.putfield index, 3)) {h9 : HV} (he : upr tp 4 (up1 (tp 4) 7 a) = h9) (n : G F E hs h9 md (pc + 3) L st) : G F E hs tp md pc L (vI a :: .ref (tA E 4) :: st) :=
  by subst he; exact x_put C (wl_t 4 (by decide)) rfl i_X0 tyX0_ok nmX0 7 (by decide) hl rfl rfl rfl (Nat.le_of_ble_eq_true rfl) (set_t 4 (by decide) _ rfl) d n
theorem gt_4_8 (C : Cs F own cc nL kf E) (hl : Cond.fieldLink own index "HutBookings$BookingText" "nightsRead" "I" ∈ TB) (d : decode cc pc = .ok (.getfield index, 3)) {v9 : Int} (hv : tp 4 8 = v9) (n : G F E hs tp md (pc + 3) L (vI v9 :: st)) : G F E hs tp md pc L (.ref (tA E 4) :: st) :=
  by subst hv; exact x_get C (wl_t 4 (by decide)) rfl i_X0 8 (by decide) hl rfl d n
theorem pt_4_8 (C : Cs F own cc nL kf E) (hl : Cond.fieldLink own index "HutBookings$BookingText" "nightsRead" "I" ∈ TB) (d : decode cc pc = .ok (.putfield index, 3)) {h9 : HV} (he : upr tp 4 (up1 (tp 4) 8 a) = h9) (n : G F E hs h9 md (pc + 3) L st) : G F E hs tp md pc L (vI a :: .ref (tA E 4) :: st) :=
  by subst he; exact x_put C (wl_t 4 (by decide)) rfl i_X0 tyX0_ok nmX0 8 (by decide) hl rfl rfl rfl (Nat.le_of_ble_eq_true rfl) (set_t 4 (by decide) _ rfl) d n
theorem lt_1 (C : Cs F own cc nL kf E) (h0 : 0 ≤ a) (h1 : a < 1000) (d : decode cc pc = .ok (.iaload, 1)) {v9 : Int} (hv : tp 1 a = v9) (n : G F E hs tp md (pc + 1) L (vI v9 :: st)) : G F E hs tp md pc L (vI a :: .ref (tA E 1) :: st) :=
  by subst hv; exact x_iald C (wl_t 1 (by decide)) (by decide) h0 h1 d n
theorem st_1 (C : Cs F own cc nL kf E) (h0 : 0 ≤ a) (h1 : a < 1000) (d : decode cc pc = .ok (.iastore, 1)) {h9 : HV} (he : upr tp 1 (up1 (tp 1) a b) = h9) (n : G F E hs h9 md (pc + 1) L st) : G F E hs tp md pc L (vI b :: vI a :: .ref (tA E 1) :: st) :=
  by subst he; exact x_iast C (wl_t 1 (by decide)) (by decide) h0 h1 (set_t 1 (by decide) _ rfl) d n
theorem nt_1 (C : Cs F own cc nL kf E) (d : decode cc pc = .ok (.arraylength, 1)) (n : G F E hs tp md (pc + 1) L (vI 1000 :: st)) : G F E hs tp md pc L (.ref (tA E 1) :: st) :=
  x_alen C (wl_t 1 (by decide)) d n
theorem lt_6 (C : Cs F own cc nL kf E) (h0 : 0 ≤ a) (h1 : a < 10) (d : decode cc pc = .ok (.iaload, 1)) {v9 : Int} (hv : tp 6 a = v9) (n : G F E hs tp md (pc + 1) L (vI v9 :: st)) : G F E hs tp md pc L (vI a :: .ref (tA E 6) :: st) :=
  by subst hv; exact x_iald C (wl_t 6 (by decide)) (by decide) h0 h1 d n
theorem st_6 (C : Cs F own cc nL kf E) (h0 : 0 ≤ a) (h1 : a < 10) (d : decode cc pc = .ok (.iastore, 1)) {h9 : HV} (he : upr tp 6 (up1 (tp 6) a b) = h9) (n : G F E hs h9 md (pc + 1) L st) : G F E hs tp md pc L (vI b :: vI a :: .ref (tA E 6) :: st) :=
  by subst he; exact x_iast C (wl_t 6 (by decide)) (by decide) h0 h1 (set_t 6 (by decide) _ rfl) d n
theorem nt_6 (C : Cs F own cc nL kf E) (d : decode cc pc = .ok (.arraylength, 1)) (n : G F E hs tp md (pc + 1) L (vI 10 :: st)) : G F E hs tp md pc L (.ref (tA E 6) :: st) :=
  x_alen C (wl_t 6 (by decide)) d n
theorem lt_7 (C : Cs F own cc nL kf E) (h0 : 0 ≤ a) (h1 : a < 10) (d : decode cc pc = .ok (.iaload, 1)) {v9 : Int} (hv : tp 7 a = v9) (n : G F E hs tp md (pc + 1) L (vI v9 :: st)) : G F E hs tp md pc L (vI a :: .ref (tA E 7) :: st) :=
  by subst hv; exact x_iald C (wl_t 7 (by decide)) (by decide) h0 h1 d n
theorem st_7 (C : Cs F own cc nL kf E) (h0 : 0 ≤ a) (h1 : a < 10) (d : decode cc pc = .ok (.iastore, 1)) {h9 : HV} (he : upr tp 7 (up1 (tp 7) a b) = h9) (n : G F E hs h9 md (pc + 1) L st) : G F E hs tp md pc L (vI b :: vI a :: .ref (tA E 7) :: st) :=
  by subst he; exact x_iast C (wl_t 7 (by decide)) (by decide) h0 h1 (set_t 7 (by decide) _ rfl) d n
theorem nt_7 (C : Cs F own cc nL kf E) (d : decode cc pc = .ok (.arraylength, 1)) (n : G F E hs tp md (pc + 1) L (vI 10 :: st)) : G F E hs tp md pc L (.ref (tA E 7) :: st) :=
  x_alen C (wl_t 7 (by decide)) d n
theorem lt_8 (C : Cs F own cc nL kf E) (h0 : 0 ≤ a) (h1 : a < 10) (d : decode cc pc = .ok (.iaload, 1)) {v9 : Int} (hv : tp 8 a = v9) (n : G F E hs tp md (pc + 1) L (vI v9 :: st)) : G F E hs tp md pc L (vI a :: .ref (tA E 8) :: st) :=
  by subst hv; exact x_iald C (wl_t 8 (by decide)) (by decide) h0 h1 d n
theorem st_8 (C : Cs F own cc nL kf E) (h0 : 0 ≤ a) (h1 : a < 10) (d : decode cc pc = .ok (.iastore, 1)) {h9 : HV} (he : upr tp 8 (up1 (tp 8) a b) = h9) (n : G F E hs h9 md (pc + 1) L st) : G F E hs tp md pc L (vI b :: vI a :: .ref (tA E 8) :: st) :=
  by subst he; exact x_iast C (wl_t 8 (by decide)) (by decide) h0 h1 (set_t 8 (by decide) _ rfl) d n
theorem nt_8 (C : Cs F own cc nL kf E) (d : decode cc pc = .ok (.arraylength, 1)) (n : G F E hs tp md (pc + 1) L (vI 10 :: st)) : G F E hs tp md pc L (.ref (tA E 8) :: st) :=
  x_alen C (wl_t 8 (by decide)) d n
theorem lt_5 (C : Cs F own cc nL kf E) (h0 : 0 ≤ a) (h1 : a < 60) (d : decode cc pc = .ok (.caload, 1)) {v9 : Int} (hv : tp 5 a = v9) (n : G F E hs tp md (pc + 1) L (vI v9 :: st)) : G F E hs tp md pc L (vI a :: .ref (tA E 5) :: st)   :=
  by subst hv; exact x_cald C (wl_t 5 (by decide)) (by decide) h0 h1 d n
theorem st_5 (C : Cs F own cc nL kf E) (h0 : 0 ≤ a) (h1 : a < 60) (hb : vp_nar .char (Int32.ofInt b) = Int32.ofInt b) (d : decode cc pc = .ok (.castore, 1)) {h9 : HV} (he : upr tp 5 (up1 (tp 5) a b) = h9) (n : G F E hs h9 md (pc + 1) L st) : G F E hs tp md pc L (vI b :: vI a :: .ref (tA E 5) :: st) :=
  by subst he; exact x_cast C (wl_t 5 (by decide)) (by decide) h0 h1 hb (set_t 5 (by decide) _ rfl) d n
theorem ch_1 {j2 : Nat} {h2 : HV} (C : Cs F own cc nL kf E) (hj : j < 7) (hh : hs j = h) (hj2 : j2 < 7) (hh2 : hs j2 = h2) (n0 : 0 ≤ a) (n1 : a ≤ 10) (hl : Cond.methodLink own index arraycopyName ∈ TB) (hk : 2 ≤ kf) (hcat : (st.map fun v => v.category).sum ≤ 8) (d : decode cc pc = .ok (.invokestatic index, 3)) {hs9 : Nat → HV} (he : putH hs j (upr h 1 (cpI (h2 1) (h 1) a)) = hs9) (n : G F E hs9 tp md (pc + 3) L st) : G F E hs tp md pc L (vI a :: vI 0 :: .ref (hA E j 1) :: vI 0 :: .ref (hA E j2 1) :: st) :=
  by subst he; exact x_copy C hl (wl_h hj2 hh2 1 (by decide)) (wl_h hj hh 1 (by decide)) n0 n1 n1 (by decide) (set_h hj hh 1 (by decide) _ rfl) hk hcat d n
theorem ch_2 {j2 : Nat} {h2 : HV} (C : Cs F own cc nL kf E) (hj : j < 7) (hh : hs j = h) (hj2 : j2 < 7) (hh2 : hs j2 = h2) (n0 : 0 ≤ a) (n1 : a ≤ 1000) (hl : Cond.methodLink own index arraycopyName ∈ TB) (hk : 2 ≤ kf) (hcat : (st.map fun v => v.category).sum ≤ 8) (d : decode cc pc = .ok (.invokestatic index, 3)) {hs9 : Nat → HV} (he : putH hs j (upr h 2 (cpI (h2 2) (h 2) a)) = hs9) (n : G F E hs9 tp md (pc + 3) L st) : G F E hs tp md pc L (vI a :: vI 0 :: .ref (hA E j 2) :: vI 0 :: .ref (hA E j2 2) :: st) :=
  by subst he; exact x_copy C hl (wl_h hj2 hh2 2 (by decide)) (wl_h hj hh 2 (by decide)) n0 n1 n1 (by decide) (set_h hj hh 2 (by decide) _ rfl) hk hcat d n
theorem ch_4 {j2 : Nat} {h2 : HV} (C : Cs F own cc nL kf E) (hj : j < 7) (hh : hs j = h) (hj2 : j2 < 7) (hh2 : hs j2 = h2) (n0 : 0 ≤ a) (n1 : a ≤ 80) (hl : Cond.methodLink own index arraycopyName ∈ TB) (hk : 2 ≤ kf) (hcat : (st.map fun v => v.category).sum ≤ 8) (d : decode cc pc = .ok (.invokestatic index, 3)) {hs9 : Nat → HV} (he : putH hs j (upr h 4 (cpI (h2 4) (h 4) a)) = hs9) (n : G F E hs9 tp md (pc + 3) L st) : G F E hs tp md pc L (vI a :: vI 0 :: .ref (hA E j 4) :: vI 0 :: .ref (hA E j2 4) :: st) :=
  by subst he; exact x_copy C hl (wl_h hj2 hh2 4 (by decide)) (wl_h hj hh 4 (by decide)) n0 n1 n1 (by decide) (set_h hj hh 4 (by decide) _ rfl) hk hcat d n
theorem ch_5 {j2 : Nat} {h2 : HV} (C : Cs F own cc nL kf E) (hj : j < 7) (hh : hs j = h) (hj2 : j2 < 7) (hh2 : hs j2 = h2) (n0 : 0 ≤ a) (n1 : a ≤ 80) (hl : Cond.methodLink own index arraycopyName ∈ TB) (hk : 2 ≤ kf) (hcat : (st.map fun v => v.category).sum ≤ 8) (d : decode cc pc = .ok (.invokestatic index, 3)) {hs9 : Nat → HV} (he : putH hs j (upr h 5 (cpI (h2 5) (h 5) a)) = hs9) (n : G F E hs9 tp md (pc + 3) L st) : G F E hs tp md pc L (vI a :: vI 0 :: .ref (hA E j 5) :: vI 0 :: .ref (hA E j2 5) :: st) :=
  by subst he; exact x_copy C hl (wl_h hj2 hh2 5 (by decide)) (wl_h hj hh 5 (by decide)) n0 n1 n1 (by decide) (set_h hj hh 5 (by decide) _ rfl) hk hcat d n
theorem ch_6 {j2 : Nat} {h2 : HV} (C : Cs F own cc nL kf E) (hj : j < 7) (hh : hs j = h) (hj2 : j2 < 7) (hh2 : hs j2 = h2) (n0 : 0 ≤ a) (n1 : a ≤ 80) (hl : Cond.methodLink own index arraycopyName ∈ TB) (hk : 2 ≤ kf) (hcat : (st.map fun v => v.category).sum ≤ 8) (d : decode cc pc = .ok (.invokestatic index, 3)) {hs9 : Nat → HV} (he : putH hs j (upr h 6 (cpI (h2 6) (h 6) a)) = hs9) (n : G F E hs9 tp md (pc + 3) L st) : G F E hs tp md pc L (vI a :: vI 0 :: .ref (hA E j 6) :: vI 0 :: .ref (hA E j2 6) :: st) :=
  by subst he; exact x_copy C hl (wl_h hj2 hh2 6 (by decide)) (wl_h hj hh 6 (by decide)) n0 n1 n1 (by decide) (set_h hj hh 6 (by decide) _ rfl) hk hcat d n
theorem ch_7 {j2 : Nat} {h2 : HV} (C : Cs F own cc nL kf E) (hj : j < 7) (hh : hs j = h) (hj2 : j2 < 7) (hh2 : hs j2 = h2) (n0 : 0 ≤ a) (n1 : a ≤ 80) (hl : Cond.methodLink own index arraycopyName ∈ TB) (hk : 2 ≤ kf) (hcat : (st.map fun v => v.category).sum ≤ 8) (d : decode cc pc = .ok (.invokestatic index, 3)) {hs9 : Nat → HV} (he : putH hs j (upr h 7 (cpI (h2 7) (h 7) a)) = hs9) (n : G F E hs9 tp md (pc + 3) L st) : G F E hs tp md pc L (vI a :: vI 0 :: .ref (hA E j 7) :: vI 0 :: .ref (hA E j2 7) :: st) :=
  by subst he; exact x_copy C hl (wl_h hj2 hh2 7 (by decide)) (wl_h hj hh 7 (by decide)) n0 n1 n1 (by decide) (set_h hj hh 7 (by decide) _ rfl) hk hcat d n
theorem ch_8 {j2 : Nat} {h2 : HV} (C : Cs F own cc nL kf E) (hj : j < 7) (hh : hs j = h) (hj2 : j2 < 7) (hh2 : hs j2 = h2) (n0 : 0 ≤ a) (n1 : a ≤ 80) (hl : Cond.methodLink own index arraycopyName ∈ TB) (hk : 2 ≤ kf) (hcat : (st.map fun v => v.category).sum ≤ 8) (d : decode cc pc = .ok (.invokestatic index, 3)) {hs9 : Nat → HV} (he : putH hs j (upr h 8 (cpI (h2 8) (h 8) a)) = hs9) (n : G F E hs9 tp md (pc + 3) L st) : G F E hs tp md pc L (vI a :: vI 0 :: .ref (hA E j 8) :: vI 0 :: .ref (hA E j2 8) :: st) :=
  by subst he; exact x_copy C hl (wl_h hj2 hh2 8 (by decide)) (wl_h hj hh 8 (by decide)) n0 n1 n1 (by decide) (set_h hj hh 8 (by decide) _ rfl) hk hcat d n
theorem ch_9 {j2 : Nat} {h2 : HV} (C : Cs F own cc nL kf E) (hj : j < 7) (hh : hs j = h) (hj2 : j2 < 7) (hh2 : hs j2 = h2) (n0 : 0 ≤ a) (n1 : a ≤ 80) (hl : Cond.methodLink own index arraycopyName ∈ TB) (hk : 2 ≤ kf) (hcat : (st.map fun v => v.category).sum ≤ 8) (d : decode cc pc = .ok (.invokestatic index, 3)) {hs9 : Nat → HV} (he : putH hs j (upr h 9 (cpI (h2 9) (h 9) a)) = hs9) (n : G F E hs9 tp md (pc + 3) L st) : G F E hs tp md pc L (vI a :: vI 0 :: .ref (hA E j 9) :: vI 0 :: .ref (hA E j2 9) :: st) :=
  by subst he; exact x_copy C hl (wl_h hj2 hh2 9 (by decide)) (wl_h hj hh 9 (by decide)) n0 n1 n1 (by decide) (set_h hj hh 9 (by decide) _ rfl) hk hcat d n
theorem ch_10 {j2 : Nat} {h2 : HV} (C : Cs F own cc nL kf E) (hj : j < 7) (hh : hs j = h) (hj2 : j2 < 7) (hh2 : hs j2 = h2) (n0 : 0 ≤ a) (n1 : a ≤ 80) (hl : Cond.methodLink own index arraycopyName ∈ TB) (hk : 2 ≤ kf) (hcat : (st.map fun v => v.category).sum ≤ 8) (d : decode cc pc = .ok (.invokestatic index, 3)) {hs9 : Nat → HV} (he : putH hs j (upr h 10 (cpI (h2 10) (h 10) a)) = hs9) (n : G F E hs9 tp md (pc + 3) L st) : G F E hs tp md pc L (vI a :: vI 0 :: .ref (hA E j 10) :: vI 0 :: .ref (hA E j2 10) :: st) :=
  by subst he; exact x_copy C hl (wl_h hj2 hh2 10 (by decide)) (wl_h hj hh 10 (by decide)) n0 n1 n1 (by decide) (set_h hj hh 10 (by decide) _ rfl) hk hcat d n
theorem ch_12 {j2 : Nat} {h2 : HV} (C : Cs F own cc nL kf E) (hj : j < 7) (hh : hs j = h) (hj2 : j2 < 7) (hh2 : hs j2 = h2) (n0 : 0 ≤ a) (n1 : a ≤ 30) (hl : Cond.methodLink own index arraycopyName ∈ TB) (hk : 2 ≤ kf) (hcat : (st.map fun v => v.category).sum ≤ 8) (d : decode cc pc = .ok (.invokestatic index, 3)) {hs9 : Nat → HV} (he : putH hs j (upr h 12 (cpI (h2 12) (h 12) a)) = hs9) (n : G F E hs9 tp md (pc + 3) L st) : G F E hs tp md pc L (vI a :: vI 0 :: .ref (hA E j 12) :: vI 0 :: .ref (hA E j2 12) :: st) :=
  by subst he; exact x_copy C hl (wl_h hj2 hh2 12 (by decide)) (wl_h hj hh 12 (by decide)) n0 n1 n1 (by decide) (set_h hj hh 12 (by decide) _ rfl) hk hcat d n
theorem ch_14 {j2 : Nat} {h2 : HV} (C : Cs F own cc nL kf E) (hj : j < 7) (hh : hs j = h) (hj2 : j2 < 7) (hh2 : hs j2 = h2) (n0 : 0 ≤ a) (n1 : a ≤ 12) (hl : Cond.methodLink own index arraycopyName ∈ TB) (hk : 2 ≤ kf) (hcat : (st.map fun v => v.category).sum ≤ 8) (d : decode cc pc = .ok (.invokestatic index, 3)) {hs9 : Nat → HV} (he : putH hs j (upr h 14 (cpI (h2 14) (h 14) a)) = hs9) (n : G F E hs9 tp md (pc + 3) L st) : G F E hs tp md pc L (vI a :: vI 0 :: .ref (hA E j 14) :: vI 0 :: .ref (hA E j2 14) :: st) :=
  by subst he; exact x_copy C hl (wl_h hj2 hh2 14 (by decide)) (wl_h hj hh 14 (by decide)) n0 n1 n1 (by decide) (set_h hj hh 14 (by decide) _ rfl) hk hcat d n
theorem ch_15 {j2 : Nat} {h2 : HV} (C : Cs F own cc nL kf E) (hj : j < 7) (hh : hs j = h) (hj2 : j2 < 7) (hh2 : hs j2 = h2) (n0 : 0 ≤ a) (n1 : a ≤ 12) (hl : Cond.methodLink own index arraycopyName ∈ TB) (hk : 2 ≤ kf) (hcat : (st.map fun v => v.category).sum ≤ 8) (d : decode cc pc = .ok (.invokestatic index, 3)) {hs9 : Nat → HV} (he : putH hs j (upr h 15 (cpI (h2 15) (h 15) a)) = hs9) (n : G F E hs9 tp md (pc + 3) L st) : G F E hs tp md pc L (vI a :: vI 0 :: .ref (hA E j 15) :: vI 0 :: .ref (hA E j2 15) :: st) :=
  by subst he; exact x_copy C hl (wl_h hj2 hh2 15 (by decide)) (wl_h hj hh 15 (by decide)) n0 n1 n1 (by decide) (set_h hj hh 15 (by decide) _ rfl) hk hcat d n
theorem ch_16 {j2 : Nat} {h2 : HV} (C : Cs F own cc nL kf E) (hj : j < 7) (hh : hs j = h) (hj2 : j2 < 7) (hh2 : hs j2 = h2) (n0 : 0 ≤ a) (n1 : a ≤ 9) (hl : Cond.methodLink own index arraycopyName ∈ TB) (hk : 2 ≤ kf) (hcat : (st.map fun v => v.category).sum ≤ 8) (d : decode cc pc = .ok (.invokestatic index, 3)) {hs9 : Nat → HV} (he : putH hs j (upr h 16 (cpI (h2 16) (h 16) a)) = hs9) (n : G F E hs9 tp md (pc + 3) L st) : G F E hs tp md pc L (vI a :: vI 0 :: .ref (hA E j 16) :: vI 0 :: .ref (hA E j2 16) :: st) :=
  by subst he; exact x_copy C hl (wl_h hj2 hh2 16 (by decide)) (wl_h hj hh 16 (by decide)) n0 n1 n1 (by decide) (set_h hj hh 16 (by decide) _ rfl) hk hcat d n
end FIELDS
