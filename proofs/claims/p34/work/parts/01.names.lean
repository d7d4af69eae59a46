-- ===== PART A: goes FIRST, ahead of the names: the tables' words, and 'selects' of the private methods out of them =====
/-- a private method of a class that the tables say can be made, by its rows of tables_1 -/
def lw_okq (q : MethodName × Nat) : Prop := (q.1.cls ≠ "java/lang/invoke/MethodHandle" ∧ q.1.cls ≠ "java/lang/invoke/VarHandle") ∧ Cond.instantiable q.1.cls q.2 ∈ tables_1 ∧ Cond.privateMethod q.1 ∈ tables_1 ∧ Cond.instanceMethod q.1 ∈ tables_1
theorem lw_p0 : lw_okq (⟨"HutBookings", "errorUnlessBooked", "(I)I"⟩, 7) := ⟨⟨by decide +kernel, by decide +kernel⟩, List.mem_of_getElem? (i := 12) (by decide +kernel), List.mem_of_getElem? (i := 350) (by decide +kernel), List.mem_of_getElem? (i := 351) (by decide +kernel)⟩
theorem lw_p1 : lw_okq (⟨"HutBookings$History", "dropOldest", "()V"⟩, 2) := ⟨⟨by decide +kernel, by decide +kernel⟩, List.mem_of_getElem? (i := 156) (by decide +kernel), List.mem_of_getElem? (i := 437) (by decide +kernel), List.mem_of_getElem? (i := 438) (by decide +kernel)⟩
theorem lw_p2 : lw_okq (⟨"HutBookings$Hut", "letGroupsLeave", "()V"⟩, 11) := ⟨⟨by decide +kernel, by decide +kernel⟩, List.mem_of_getElem? (i := 20) (by decide +kernel), List.mem_of_getElem? (i := 473) (by decide +kernel), List.mem_of_getElem? (i := 474) (by decide +kernel)⟩
theorem lw_p3 : lw_okq (⟨"HutBookings$Hut", "letLeave", "(I)V"⟩, 11) := ⟨⟨by decide +kernel, by decide +kernel⟩, List.mem_of_getElem? (i := 20) (by decide +kernel), List.mem_of_getElem? (i := 477) (by decide +kernel), List.mem_of_getElem? (i := 478) (by decide +kernel)⟩
theorem lw_p4 : lw_okq (⟨"HutBookings$Hut", "turnLateOnesAway", "()V"⟩, 11) := ⟨⟨by decide +kernel, by decide +kernel⟩, List.mem_of_getElem? (i := 20) (by decide +kernel), List.mem_of_getElem? (i := 482) (by decide +kernel), List.mem_of_getElem? (i := 483) (by decide +kernel)⟩
theorem lw_p5 : lw_okq (⟨"HutBookings$Hut", "turnAway", "(I)V"⟩, 11) := ⟨⟨by decide +kernel, by decide +kernel⟩, List.mem_of_getElem? (i := 20) (by decide +kernel), List.mem_of_getElem? (i := 486) (by decide +kernel), List.mem_of_getElem? (i := 487) (by decide +kernel)⟩
theorem lw_p6 : lw_okq (⟨"HutBookings$Hut", "letGroupsCome", "()V"⟩, 11) := ⟨⟨by decide +kernel, by decide +kernel⟩, List.mem_of_getElem? (i := 20) (by decide +kernel), List.mem_of_getElem? (i := 490) (by decide +kernel), List.mem_of_getElem? (i := 491) (by decide +kernel)⟩
theorem lw_p7 : lw_okq (⟨"HutBookings$Hut", "bring", "(I)V"⟩, 11) := ⟨⟨by decide +kernel, by decide +kernel⟩, List.mem_of_getElem? (i := 20) (by decide +kernel), List.mem_of_getElem? (i := 495) (by decide +kernel), List.mem_of_getElem? (i := 496) (by decide +kernel)⟩
theorem lw_p8 : lw_okq (⟨"HutBookings$Orders", "removeFirst", "()V"⟩, 3) := ⟨⟨by decide +kernel, by decide +kernel⟩, List.mem_of_getElem? (i := 93) (by decide +kernel), List.mem_of_getElem? (i := 504) (by decide +kernel), List.mem_of_getElem? (i := 505) (by decide +kernel)⟩
theorem lw_p9 : lw_okq (⟨"HutBookings$Hut", "fly", "()V"⟩, 11) := ⟨⟨by decide +kernel, by decide +kernel⟩, List.mem_of_getElem? (i := 20) (by decide +kernel), List.mem_of_getElem? (i := 516) (by decide +kernel), List.mem_of_getElem? (i := 517) (by decide +kernel)⟩
theorem lw_p10 : lw_okq (⟨"HutBookings$Hut", "letAllEat", "()V"⟩, 11) := ⟨⟨by decide +kernel, by decide +kernel⟩, List.mem_of_getElem? (i := 20) (by decide +kernel), List.mem_of_getElem? (i := 528) (by decide +kernel), List.mem_of_getElem? (i := 529) (by decide +kernel)⟩
theorem lw_p11 : lw_okq (⟨"HutBookings$Hut", "letAllSleep", "()V"⟩, 11) := ⟨⟨by decide +kernel, by decide +kernel⟩, List.mem_of_getElem? (i := 20) (by decide +kernel), List.mem_of_getElem? (i := 537) (by decide +kernel), List.mem_of_getElem? (i := 538) (by decide +kernel)⟩
theorem lw_p12 : lw_okq (⟨"HutBookings", "passInTrial", "(I)V"⟩, 7) := ⟨⟨by decide +kernel, by decide +kernel⟩, List.mem_of_getElem? (i := 12) (by decide +kernel), List.mem_of_getElem? (i := 545) (by decide +kernel), List.mem_of_getElem? (i := 546) (by decide +kernel)⟩
theorem lw_p13 : lw_okq (⟨"HutBookings", "mostBedsTaken", "()I"⟩, 7) := ⟨⟨by decide +kernel, by decide +kernel⟩, List.mem_of_getElem? (i := 12) (by decide +kernel), List.mem_of_getElem? (i := 634) (by decide +kernel), List.mem_of_getElem? (i := 635) (by decide +kernel)⟩
theorem lw_p14 : lw_okq (⟨"HutBookings$BookingText", "accepts", "(C)Z"⟩, 9) := ⟨⟨by decide +kernel, by decide +kernel⟩, List.mem_of_getElem? (i := 173) (by decide +kernel), List.mem_of_getElem? (i := 659) (by decide +kernel), List.mem_of_getElem? (i := 660) (by decide +kernel)⟩
theorem lw_p15 : lw_okq (⟨"HutBookings$BookingText", "acceptsDayBegin", "(C)Z"⟩, 9) := ⟨⟨by decide +kernel, by decide +kernel⟩, List.mem_of_getElem? (i := 173) (by decide +kernel), List.mem_of_getElem? (i := 663) (by decide +kernel), List.mem_of_getElem? (i := 664) (by decide +kernel)⟩
def lw_privs_1 : List (MethodName × Nat) := [(⟨"HutBookings", "errorUnlessBooked", "(I)I"⟩, 7), (⟨"HutBookings$History", "dropOldest", "()V"⟩, 2), (⟨"HutBookings$Hut", "letGroupsLeave", "()V"⟩, 11), (⟨"HutBookings$Hut", "letLeave", "(I)V"⟩, 11), (⟨"HutBookings$Hut", "turnLateOnesAway", "()V"⟩, 11), (⟨"HutBookings$Hut", "turnAway", "(I)V"⟩, 11), (⟨"HutBookings$Hut", "letGroupsCome", "()V"⟩, 11), (⟨"HutBookings$Hut", "bring", "(I)V"⟩, 11), (⟨"HutBookings$Orders", "removeFirst", "()V"⟩, 3), (⟨"HutBookings$Hut", "fly", "()V"⟩, 11), (⟨"HutBookings$Hut", "letAllEat", "()V"⟩, 11), (⟨"HutBookings$Hut", "letAllSleep", "()V"⟩, 11), (⟨"HutBookings", "passInTrial", "(I)V"⟩, 7), (⟨"HutBookings", "mostBedsTaken", "()I"⟩, 7), (⟨"HutBookings$BookingText", "accepts", "(C)Z"⟩, 9), (⟨"HutBookings$BookingText", "acceptsDayBegin", "(C)Z"⟩, 9)]
theorem lw_r1 : ∀ q ∈ lw_privs_1, lw_okq q := List.forall_mem_cons.mpr ⟨lw_p0, List.forall_mem_cons.mpr ⟨lw_p1, List.forall_mem_cons.mpr ⟨lw_p2, List.forall_mem_cons.mpr ⟨lw_p3, List.forall_mem_cons.mpr ⟨lw_p4, List.forall_mem_cons.mpr ⟨lw_p5, List.forall_mem_cons.mpr ⟨lw_p6, List.forall_mem_cons.mpr ⟨lw_p7, List.forall_mem_cons.mpr ⟨lw_p8, List.forall_mem_cons.mpr ⟨lw_p9, List.forall_mem_cons.mpr ⟨lw_p10, List.forall_mem_cons.mpr ⟨lw_p11, List.forall_mem_cons.mpr ⟨lw_p12, List.forall_mem_cons.mpr ⟨lw_p13, List.forall_mem_cons.mpr ⟨lw_p14, List.forall_mem_cons.mpr ⟨lw_p15, fun _ h => absurd h List.not_mem_nil⟩⟩⟩⟩⟩⟩⟩⟩⟩⟩⟩⟩⟩⟩⟩⟩
theorem lw_p16 : lw_okq (⟨"HutBookings$BookingText", "moveTo", "(I)Z"⟩, 9) := ⟨⟨by decide +kernel, by decide +kernel⟩, List.mem_of_getElem? (i := 173) (by decide +kernel), List.mem_of_getElem? (i := 667) (by decide +kernel), List.mem_of_getElem? (i := 668) (by decide +kernel)⟩
theorem lw_p17 : lw_okq (⟨"HutBookings$BookingText", "acceptsDayDigit", "(C)Z"⟩, 9) := ⟨⟨by decide +kernel, by decide +kernel⟩, List.mem_of_getElem? (i := 173) (by decide +kernel), List.mem_of_getElem? (i := 671) (by decide +kernel), List.mem_of_getElem? (i := 672) (by decide +kernel)⟩
theorem lw_p18 : lw_okq (⟨"HutBookings$BookingText", "acceptsNights", "(C)Z"⟩, 9) := ⟨⟨by decide +kernel, by decide +kernel⟩, List.mem_of_getElem? (i := 173) (by decide +kernel), List.mem_of_getElem? (i := 675) (by decide +kernel), List.mem_of_getElem? (i := 676) (by decide +kernel)⟩
theorem lw_p19 : lw_okq (⟨"HutBookings$BookingText", "acceptsPersons", "(C)Z"⟩, 9) := ⟨⟨by decide +kernel, by decide +kernel⟩, List.mem_of_getElem? (i := 173) (by decide +kernel), List.mem_of_getElem? (i := 679) (by decide +kernel), List.mem_of_getElem? (i := 680) (by decide +kernel)⟩
def lw_privs_2 : List (MethodName × Nat) := [(⟨"HutBookings$BookingText", "moveTo", "(I)Z"⟩, 9), (⟨"HutBookings$BookingText", "acceptsDayDigit", "(C)Z"⟩, 9), (⟨"HutBookings$BookingText", "acceptsNights", "(C)Z"⟩, 9), (⟨"HutBookings$BookingText", "acceptsPersons", "(C)Z"⟩, 9)]
theorem lw_r2 : ∀ q ∈ lw_privs_2, lw_okq q := List.forall_mem_cons.mpr ⟨lw_p16, List.forall_mem_cons.mpr ⟨lw_p17, List.forall_mem_cons.mpr ⟨lw_p18, List.forall_mem_cons.mpr ⟨lw_p19, fun _ h => absurd h List.not_mem_nil⟩⟩⟩⟩
def lw_privs : List (MethodName × Nat) := lw_privs_1 ++ (lw_privs_2)
def lw_tbl : List Cond := k2_sels lw_privs ++ tables_1
theorem lw_privs_ok : ∀ q ∈ lw_privs, lw_okq q := by
  show ∀ q ∈ lw_privs_1 ++ (lw_privs_2), lw_okq q
  exact List.forall_mem_append.mpr ⟨lw_r1, lw_r2⟩
/-- the streams that the claim lets the run draw from -/
abbrev lw_cs : List Choice := [Jvm.Choice.named "NaN.bits"]
theorem lw_bits : nanBits ∈ lw_cs := by first | decide | exact List.mem_cons_self | simp [lw_cs, nanBits]
def RX0 : String := "HutBookings$BookingText"
def TX0 : u_T := fun k => match k with
  | 0 => ("HutBookings$BookingText", "characters", "[C", true)
  | 1 => ("HutBookings$BookingText", "length", "I", false)
  | 2 => ("HutBookings$BookingText", "arrives", "[I", true)
  | 3 => ("HutBookings$BookingText", "nights", "[I", true)
  | 4 => ("HutBookings$BookingText", "persons", "[I", true)
  | 5 => ("HutBookings$BookingText", "found", "I", false)
  | 6 => ("HutBookings$BookingText", "place", "I", false)
  | 7 => ("HutBookings$BookingText", "dayRead", "I", false)
  | _ => ("HutBookings$BookingText", "nightsRead", "I", false)
def tyX0 : Nat → FieldType := fun k => match k with
  | 0 => .array .char
  | 1 => .int
  | 2 => .array .int
  | 3 => .array .int
  | 4 => .array .int
  | 5 => .int
  | 6 => .int
  | 7 => .int
  | _ => .int
abbrev wsX00 : List Cond := u_ws RX0 TX0 9
theorem nmX0 : ∀ a, a < 9 → ∀ b, b < 9 → a ≠ b → (TX0 a).2.1 ≠ (TX0 b).2.1 := by decide +kernel
theorem tyX0_ok : ∀ k, k < 9 → parseFieldDescriptor (TX0 k).2.2.1 = some (tyX0 k) := by decide +kernel
abbrev cX0_init : ByteArray := prog_2_method_1_code
def yX0_init : MethodName := ⟨RX0, "<init>", "()V"⟩
abbrev cX0_append : ByteArray := prog_2_method_2_code
def yX0_append : MethodName := ⟨RX0, "append", "(C)V"⟩
abbrev cX0_findFault : ByteArray := prog_2_method_3_code
def yX0_findFault : MethodName := ⟨RX0, "findFault", "()I"⟩
abbrev cX0_accepts : ByteArray := prog_2_method_4_code
def yX0_accepts : MethodName := ⟨RX0, "accepts", "(C)Z"⟩
abbrev cX0_moveTo : ByteArray := prog_2_method_5_code
def yX0_moveTo : MethodName := ⟨RX0, "moveTo", "(I)Z"⟩
abbrev cX0_acceptsDayBegin : ByteArray := prog_2_method_6_code
def yX0_acceptsDayBegin : MethodName := ⟨RX0, "acceptsDayBegin", "(C)Z"⟩
abbrev cX0_acceptsDayDigit : ByteArray := prog_2_method_7_code
def yX0_acceptsDayDigit : MethodName := ⟨RX0, "acceptsDayDigit", "(C)Z"⟩
abbrev cX0_acceptsNights : ByteArray := prog_2_method_8_code
def yX0_acceptsNights : MethodName := ⟨RX0, "acceptsNights", "(C)Z"⟩
abbrev cX0_acceptsPersons : ByteArray := prog_2_method_9_code
def yX0_acceptsPersons : MethodName := ⟨RX0, "acceptsPersons", "(C)Z"⟩
def RX1 : String := "HutBookings$Guests"
def TX1 : u_T := fun k => match k with
  | 0 => ("HutBookings$Guests", "how", "[I", true)
  | 1 => ("HutBookings$Guests", "arrives", "[I", true)
  | 2 => ("HutBookings$Guests", "nights", "[I", true)
  | 3 => ("HutBookings$Guests", "persons", "[I", true)
  | 4 => ("HutBookings$Guests", "slept", "[I", true)
  | 5 => ("HutBookings$Guests", "deposit", "[I", true)
  | 6 => ("HutBookings$Guests", "came", "[I", true)
  | _ => ("HutBookings$Guests", "made", "I", false)
def tyX1 : Nat → FieldType := fun k => match k with
  | 0 => .array .int
  | 1 => .array .int
  | 2 => .array .int
  | 3 => .array .int
  | 4 => .array .int
  | 5 => .array .int
  | 6 => .array .int
  | _ => .int
abbrev wsX10 : List Cond := u_ws RX1 TX1 8
theorem nmX1 : ∀ a, a < 8 → ∀ b, b < 8 → a ≠ b → (TX1 a).2.1 ≠ (TX1 b).2.1 := by decide +kernel
theorem tyX1_ok : ∀ k, k < 8 → parseFieldDescriptor (TX1 k).2.2.1 = some (tyX1 k) := by decide +kernel
abbrev cX1_init : ByteArray := prog_3_method_1_code
def yX1_init : MethodName := ⟨RX1, "<init>", "()V"⟩
abbrev cX1_copyFrom : ByteArray := prog_3_method_2_code
def yX1_copyFrom : MethodName := ⟨RX1, "copyFrom", "(LHutBookings$Guests;)V"⟩
abbrev cX1_add : ByteArray := prog_3_method_3_code
def yX1_add : MethodName := ⟨RX1, "add", "(IIII)I"⟩
abbrev cX1_knows : ByteArray := prog_3_method_4_code
def yX1_knows : MethodName := ⟨RX1, "knows", "(I)Z"⟩
abbrev cX1_end : ByteArray := prog_3_method_5_code
def yX1_end : MethodName := ⟨RX1, "end", "(I)I"⟩
abbrev cX1_holdsBeds : ByteArray := prog_3_method_6_code
def yX1_holdsBeds : MethodName := ⟨RX1, "holdsBeds", "(I)Z"⟩
abbrev cX1_isOver : ByteArray := prog_3_method_7_code
def yX1_isOver : MethodName := ⟨RX1, "isOver", "(II)Z"⟩
abbrev cX1_bedsTakenIn : ByteArray := prog_3_method_8_code
def yX1_bedsTakenIn : MethodName := ⟨RX1, "bedsTakenIn", "(I)I"⟩
abbrev cX1_bedsTakenFrom : ByteArray := prog_3_method_9_code
def yX1_bedsTakenFrom : MethodName := ⟨RX1, "bedsTakenFrom", "(II)I"⟩
abbrev cX1_fillBedsTaken : ByteArray := prog_3_method_10_code
def yX1_fillBedsTaken : MethodName := ⟨RX1, "fillBedsTaken", "([I)V"⟩
abbrev cX1_arrivingOn : ByteArray := prog_3_method_11_code
def yX1_arrivingOn : MethodName := ⟨RX1, "arrivingOn", "(I)I"⟩
abbrev cX1_endingOn : ByteArray := prog_3_method_12_code
def yX1_endingOn : MethodName := ⟨RX1, "endingOn", "(I)I"⟩
abbrev cX1_howMany : ByteArray := prog_3_method_13_code
def yX1_howMany : MethodName := ⟨RX1, "howMany", "(I)I"⟩
abbrev cX1_personsThere : ByteArray := prog_3_method_14_code
def yX1_personsThere : MethodName := ⟨RX1, "personsThere", "()I"⟩
abbrev cX1_depositsHeld : ByteArray := prog_3_method_15_code
def yX1_depositsHeld : MethodName := ⟨RX1, "depositsHeld", "()I"⟩
def RX2 : String := "HutBookings$History"
def TX2 : u_T := fun k => match k with
  | 0 => ("HutBookings$History", "states", "[LHutBookings$Hut;", true)
  | _ => ("HutBookings$History", "size", "I", false)
def tyX2 : Nat → FieldType := fun k => match k with
  | 0 => .array (.object "HutBookings$Hut")
  | _ => .int
abbrev wsX20 : List Cond := u_ws RX2 TX2 2
theorem nmX2 : ∀ a, a < 2 → ∀ b, b < 2 → a ≠ b → (TX2 a).2.1 ≠ (TX2 b).2.1 := by decide +kernel
theorem tyX2_ok : ∀ k, k < 2 → parseFieldDescriptor (TX2 k).2.2.1 = some (tyX2 k) := by decide +kernel
abbrev cX2_init : ByteArray := prog_4_method_1_code
def yX2_init : MethodName := ⟨RX2, "<init>", "()V"⟩
abbrev cX2_remember : ByteArray := prog_4_method_2_code
def yX2_remember : MethodName := ⟨RX2, "remember", "(LHutBookings$Hut;)V"⟩
abbrev cX2_dropOldest : ByteArray := prog_4_method_3_code
def yX2_dropOldest : MethodName := ⟨RX2, "dropOldest", "()V"⟩
abbrev cX2_giveBack : ByteArray := prog_4_method_4_code
def yX2_giveBack : MethodName := ⟨RX2, "giveBack", "(LHutBookings$Hut;)V"⟩
def RX3 : String := "HutBookings$Hut"
def TX3 : u_T := fun k => match k with
  | 0 => ("HutBookings$Hut", "settings", "[I", true)
  | 1 => ("HutBookings$Hut", "weatherRow", "[I", true)
  | 2 => ("HutBookings$Hut", "guests", "LHutBookings$Guests;", true)
  | 3 => ("HutBookings$Hut", "larder", "LHutBookings$Larder;", true)
  | 4 => ("HutBookings$Hut", "orders", "LHutBookings$Orders;", true)
  | 5 => ("HutBookings$Hut", "tally", "[I", true)
  | 6 => ("HutBookings$Hut", "today", "I", false)
  | 7 => ("HutBookings$Hut", "flightCalled", "Z", false)
  | 8 => ("HutBookings$Hut", "purse", "I", false)
  | 9 => ("HutBookings$Hut", "depositsKept", "I", false)
  | _ => ("HutBookings$Hut", "flightsPaid", "I", false)
def tyX3 : Nat → FieldType := fun k => match k with
  | 0 => .array .int
  | 1 => .array .int
  | 2 => .object "HutBookings$Guests"
  | 3 => .object "HutBookings$Larder"
  | 4 => .object "HutBookings$Orders"
  | 5 => .array .int
  | 6 => .int
  | 7 => .boolean
  | 8 => .int
  | 9 => .int
  | _ => .int
abbrev wsX30 : List Cond := u_ws RX3 TX3 11
theorem nmX3 : ∀ a, a < 11 → ∀ b, b < 11 → a ≠ b → (TX3 a).2.1 ≠ (TX3 b).2.1 := by decide +kernel
theorem tyX3_ok : ∀ k, k < 11 → parseFieldDescriptor (TX3 k).2.2.1 = some (tyX3 k) := by decide +kernel
abbrev cX3_init : ByteArray := prog_5_method_1_code
def yX3_init : MethodName := ⟨RX3, "<init>", "()V"⟩
abbrev cX3_copyFrom : ByteArray := prog_5_method_2_code
def yX3_copyFrom : MethodName := ⟨RX3, "copyFrom", "(LHutBookings$Hut;)V"⟩
abbrev cX3_weatherOf : ByteArray := prog_5_method_3_code
def yX3_weatherOf : MethodName := ⟨RX3, "weatherOf", "(I)I"⟩
abbrev cX3_isUpOpen : ByteArray := prog_5_method_4_code
def yX3_isUpOpen : MethodName := ⟨RX3, "isUpOpen", "(I)Z"⟩
abbrev cX3_isDownOpen : ByteArray := prog_5_method_5_code
def yX3_isDownOpen : MethodName := ⟨RX3, "isDownOpen", "()Z"⟩
abbrev cX3_isWindy : ByteArray := prog_5_method_6_code
def yX3_isWindy : MethodName := ⟨RX3, "isWindy", "()Z"⟩
abbrev cX3_daysWithOtherWeather : ByteArray := prog_5_method_7_code
def yX3_daysWithOtherWeather : MethodName := ⟨RX3, "daysWithOtherWeather", "(III)I"⟩
abbrev cX3_changeWeather : ByteArray := prog_5_method_8_code
def yX3_changeWeather : MethodName := ⟨RX3, "changeWeather", "(III)V"⟩
abbrev cX3_bookingError : ByteArray := prog_5_method_9_code
def yX3_bookingError : MethodName := ⟨RX3, "bookingError", "(III)I"⟩
abbrev cX3_addBooking : ByteArray := prog_5_method_10_code
def yX3_addBooking : MethodName := ⟨RX3, "addBooking", "(III)I"⟩
abbrev cX3_hasBeds : ByteArray := prog_5_method_11_code
def yX3_hasBeds : MethodName := ⟨RX3, "hasBeds", "(III)Z"⟩
abbrev cX3_refundOf : ByteArray := prog_5_method_12_code
def yX3_refundOf : MethodName := ⟨RX3, "refundOf", "(I)I"⟩
abbrev cX3_cancelBooking : ByteArray := prog_5_method_13_code
def yX3_cancelBooking : MethodName := ⟨RX3, "cancelBooking", "(I)I"⟩
abbrev cX3_canStayLonger : ByteArray := prog_5_method_14_code
def yX3_canStayLonger : MethodName := ⟨RX3, "canStayLonger", "(II)Z"⟩
abbrev cX3_isStrandedNow : ByteArray := prog_5_method_15_code
def yX3_isStrandedNow : MethodName := ⟨RX3, "isStrandedNow", "(I)Z"⟩
abbrev cX3_passDay : ByteArray := prog_5_method_16_code
def yX3_passDay : MethodName := ⟨RX3, "passDay", "()V"⟩
abbrev cX3_beginDay : ByteArray := prog_5_method_17_code
def yX3_beginDay : MethodName := ⟨RX3, "beginDay", "()V"⟩
abbrev cX3_endDay : ByteArray := prog_5_method_18_code
def yX3_endDay : MethodName := ⟨RX3, "endDay", "()V"⟩
abbrev cX3_letGroupsLeave : ByteArray := prog_5_method_19_code
def yX3_letGroupsLeave : MethodName := ⟨RX3, "letGroupsLeave", "()V"⟩
abbrev cX3_letLeave : ByteArray := prog_5_method_20_code
def yX3_letLeave : MethodName := ⟨RX3, "letLeave", "(I)V"⟩
abbrev cX3_turnLateOnesAway : ByteArray := prog_5_method_21_code
def yX3_turnLateOnesAway : MethodName := ⟨RX3, "turnLateOnesAway", "()V"⟩
abbrev cX3_turnAway : ByteArray := prog_5_method_22_code
def yX3_turnAway : MethodName := ⟨RX3, "turnAway", "(I)V"⟩
abbrev cX3_letGroupsCome : ByteArray := prog_5_method_23_code
def yX3_letGroupsCome : MethodName := ⟨RX3, "letGroupsCome", "()V"⟩
abbrev cX3_bring : ByteArray := prog_5_method_24_code
def yX3_bring : MethodName := ⟨RX3, "bring", "(I)V"⟩
abbrev cX3_fly : ByteArray := prog_5_method_25_code
def yX3_fly : MethodName := ⟨RX3, "fly", "()V"⟩
abbrev cX3_fillSeats : ByteArray := prog_5_method_26_code
def yX3_fillSeats : MethodName := ⟨RX3, "fillSeats", "(Z)I"⟩
abbrev cX3_letAllEat : ByteArray := prog_5_method_27_code
def yX3_letAllEat : MethodName := ⟨RX3, "letAllEat", "()V"⟩
abbrev cX3_letAllSleep : ByteArray := prog_5_method_28_code
def yX3_letAllSleep : MethodName := ⟨RX3, "letAllSleep", "()V"⟩
def RX4 : String := "HutBookings$Larder"
def TX4 : u_T := fun k => match k with
  | 0 => ("HutBookings$Larder", "fresh", "[I", true)
  | _ => ("HutBookings$Larder", "dry", "I", false)
def tyX4 : Nat → FieldType := fun k => match k with
  | 0 => .array .int
  | _ => .int
abbrev wsX40 : List Cond := u_ws RX4 TX4 2
theorem nmX4 : ∀ a, a < 2 → ∀ b, b < 2 → a ≠ b → (TX4 a).2.1 ≠ (TX4 b).2.1 := by decide +kernel
theorem tyX4_ok : ∀ k, k < 2 → parseFieldDescriptor (TX4 k).2.2.1 = some (tyX4 k) := by decide +kernel
abbrev cX4_init : ByteArray := prog_6_method_1_code
def yX4_init : MethodName := ⟨RX4, "<init>", "()V"⟩
abbrev cX4_copyFrom : ByteArray := prog_6_method_2_code
def yX4_copyFrom : MethodName := ⟨RX4, "copyFrom", "(LHutBookings$Larder;)V"⟩
abbrev cX4_slotOf : ByteArray := prog_6_method_3_code
def yX4_slotOf : MethodName := ⟨RX4, "slotOf", "(I)I"⟩
abbrev cX4_allFresh : ByteArray := prog_6_method_5_code
def yX4_allFresh : MethodName := ⟨RX4, "allFresh", "()I"⟩
abbrev cX4_throwSpoiltAway : ByteArray := prog_6_method_7_code
def yX4_throwSpoiltAway : MethodName := ⟨RX4, "throwSpoiltAway", "(II)I"⟩
abbrev cX4_store : ByteArray := prog_6_method_8_code
def yX4_store : MethodName := ⟨RX4, "store", "(III)V"⟩
abbrev cX4_eat : ByteArray := prog_6_method_9_code
def yX4_eat : MethodName := ⟨RX4, "eat", "(II)I"⟩
def RX5 : String := "HutBookings$Orders"
def TX5 : u_T := fun k => match k with
  | 0 => ("HutBookings$Orders", "kinds", "[I", true)
  | 1 => ("HutBookings$Orders", "portions", "[I", true)
  | _ => ("HutBookings$Orders", "size", "I", false)
def tyX5 : Nat → FieldType := fun k => match k with
  | 0 => .array .int
  | 1 => .array .int
  | _ => .int
abbrev wsX50 : List Cond := u_ws RX5 TX5 3
theorem nmX5 : ∀ a, a < 3 → ∀ b, b < 3 → a ≠ b → (TX5 a).2.1 ≠ (TX5 b).2.1 := by decide +kernel
theorem tyX5_ok : ∀ k, k < 3 → parseFieldDescriptor (TX5 k).2.2.1 = some (tyX5 k) := by decide +kernel
abbrev cX5_init : ByteArray := prog_7_method_1_code
def yX5_init : MethodName := ⟨RX5, "<init>", "()V"⟩
abbrev cX5_copyFrom : ByteArray := prog_7_method_2_code
def yX5_copyFrom : MethodName := ⟨RX5, "copyFrom", "(LHutBookings$Orders;)V"⟩
abbrev cX5_append : ByteArray := prog_7_method_3_code
def yX5_append : MethodName := ⟨RX5, "append", "(II)V"⟩
abbrev cX5_removeLast : ByteArray := prog_7_method_4_code
def yX5_removeLast : MethodName := ⟨RX5, "removeLast", "()I"⟩
abbrev cX5_takeFromFirst : ByteArray := prog_7_method_5_code
def yX5_takeFromFirst : MethodName := ⟨RX5, "takeFromFirst", "(I)I"⟩
abbrev cX5_removeFirst : ByteArray := prog_7_method_6_code
def yX5_removeFirst : MethodName := ⟨RX5, "removeFirst", "()V"⟩
abbrev cX5_allPortions : ByteArray := prog_7_method_7_code
def yX5_allPortions : MethodName := ⟨RX5, "allPortions", "()I"⟩
def RX6 : String := "HutBookings"
def TX6 : u_T := fun k => match k with
  | 0 => ("HutBookings", "hut", "LHutBookings$Hut;", true)
  | 1 => ("HutBookings", "trial", "LHutBookings$Hut;", true)
  | 2 => ("HutBookings", "snapshot", "LHutBookings$Hut;", true)
  | 3 => ("HutBookings", "hasSnapshot", "Z", false)
  | 4 => ("HutBookings", "history", "LHutBookings$History;", true)
  | 5 => ("HutBookings", "text", "LHutBookings$BookingText;", true)
  | _ => ("HutBookings", "bedsTaken", "[I", true)
def tyX6 : Nat → FieldType := fun k => match k with
  | 0 => .object "HutBookings$Hut"
  | 1 => .object "HutBookings$Hut"
  | 2 => .object "HutBookings$Hut"
  | 3 => .boolean
  | 4 => .object "HutBookings$History"
  | 5 => .object "HutBookings$BookingText"
  | _ => .array .int
abbrev wsX60 : List Cond := u_ws RX6 TX6 7
theorem nmX6 : ∀ a, a < 7 → ∀ b, b < 7 → a ≠ b → (TX6 a).2.1 ≠ (TX6 b).2.1 := by decide +kernel
theorem tyX6_ok : ∀ k, k < 7 → parseFieldDescriptor (TX6 k).2.2.1 = some (tyX6 k) := by decide +kernel
abbrev cX6_init : ByteArray := prog_1_method_1_code
def yX6_init : MethodName := ⟨RX6, "<init>", "()V"⟩
abbrev cX6_book : ByteArray := prog_1_method_2_code
def yX6_book : MethodName := ⟨RX6, "book", "(III)I"⟩
abbrev cX6_bookAll : ByteArray := prog_1_method_3_code
def yX6_bookAll : MethodName := ⟨RX6, "bookAll", "()I"⟩
abbrev cX6_cancel : ByteArray := prog_1_method_4_code
def yX6_cancel : MethodName := ⟨RX6, "cancel", "(I)I"⟩
abbrev cX6_extend : ByteArray := prog_1_method_5_code
def yX6_extend : MethodName := ⟨RX6, "extend", "(II)I"⟩
abbrev cX6_weather : ByteArray := prog_1_method_6_code
def yX6_weather : MethodName := ⟨RX6, "weather", "(III)I"⟩
abbrev cX6_order : ByteArray := prog_1_method_7_code
def yX6_order : MethodName := ⟨RX6, "order", "(II)I"⟩
abbrev cX6_recall : ByteArray := prog_1_method_8_code
def yX6_recall : MethodName := ⟨RX6, "recall", "()I"⟩
abbrev cX6_flight : ByteArray := prog_1_method_9_code
def yX6_flight : MethodName := ⟨RX6, "flight", "(Z)I"⟩
abbrev cX6_pass : ByteArray := prog_1_method_10_code
def yX6_pass : MethodName := ⟨RX6, "pass", "(I)I"⟩
abbrev cX6_set : ByteArray := prog_1_method_11_code
def yX6_set : MethodName := ⟨RX6, "set", "(II)I"⟩
abbrev cX6_type : ByteArray := prog_1_method_12_code
def yX6_type : MethodName := ⟨RX6, "type", "(C)I"⟩
abbrev cX6_clearText : ByteArray := prog_1_method_13_code
def yX6_clearText : MethodName := ⟨RX6, "clearText", "()I"⟩
abbrev cX6_undo : ByteArray := prog_1_method_15_code
def yX6_undo : MethodName := ⟨RX6, "undo", "()I"⟩
abbrev cX6_booking : ByteArray := prog_1_method_18_code
def yX6_booking : MethodName := ⟨RX6, "booking", "(II)I"⟩
abbrev cX6_day : ByteArray := prog_1_method_19_code
def yX6_day : MethodName := ⟨RX6, "day", "(II)I"⟩
abbrev cX6_count : ByteArray := prog_1_method_22_code
def yX6_count : MethodName := ⟨RX6, "count", "(I)I"⟩
abbrev cX6_coins : ByteArray := prog_1_method_23_code
def yX6_coins : MethodName := ⟨RX6, "coins", "(I)I"⟩
abbrev cX6_use : ByteArray := prog_1_method_24_code
def yX6_use : MethodName := ⟨RX6, "use", "(II)D"⟩
abbrev cX6_refund : ByteArray := prog_1_method_25_code
def yX6_refund : MethodName := ⟨RX6, "refund", "(I)I"⟩
abbrev cX6_firstFree : ByteArray := prog_1_method_26_code
def yX6_firstFree : MethodName := ⟨RX6, "firstFree", "(II)I"⟩
abbrev cX6_hungryIn : ByteArray := prog_1_method_27_code
def yX6_hungryIn : MethodName := ⟨RX6, "hungryIn", "()I"⟩
abbrev cX6_wanting : ByteArray := prog_1_method_28_code
def yX6_wanting : MethodName := ⟨RX6, "wanting", "(I)I"⟩
abbrev cX6_goneIn : ByteArray := prog_1_method_29_code
def yX6_goneIn : MethodName := ⟨RX6, "goneIn", "(I)I"⟩
abbrev cX6_turnedAway : ByteArray := prog_1_method_30_code
def yX6_turnedAway : MethodName := ⟨RX6, "turnedAway", "(I)I"⟩
abbrev cX6_bestCall : ByteArray := prog_1_method_31_code
def yX6_bestCall : MethodName := ⟨RX6, "bestCall", "()I"⟩
abbrev cX6_fullest : ByteArray := prog_1_method_32_code
def yX6_fullest : MethodName := ⟨RX6, "fullest", "()I"⟩
abbrev cX6_errorUnlessBooked : ByteArray := prog_1_method_33_code
def yX6_errorUnlessBooked : MethodName := ⟨RX6, "errorUnlessBooked", "(I)I"⟩
abbrev cX6_mostBedsTaken : ByteArray := prog_1_method_34_code
def yX6_mostBedsTaken : MethodName := ⟨RX6, "mostBedsTaken", "()I"⟩
abbrev cX6_passInTrial : ByteArray := prog_1_method_35_code
def yX6_passInTrial : MethodName := ⟨RX6, "passInTrial", "(I)V"⟩
abbrev cX6_areNightsAndPersons : ByteArray := prog_1_method_36_code
def yX6_areNightsAndPersons : MethodName := ⟨RX6, "areNightsAndPersons", "(II)Z"⟩
def RX7 : String := "HutBookingsModel"
def TX7 : u_T := fun k => match k with
  | _ => ("", "", "", false)
def tyX7 : Nat → FieldType := fun k => match k with
  | _ => .int
abbrev wsX70 : List Cond := u_ws RX7 TX7 0
theorem nmX7 : ∀ a, a < 0 → ∀ b, b < 0 → a ≠ b → (TX7 a).2.1 ≠ (TX7 b).2.1 := by decide +kernel
theorem tyX7_ok : ∀ k, k < 0 → parseFieldDescriptor (TX7 k).2.2.1 = some (tyX7 k) := by decide +kernel
def RJ9 : String := "java/lang/Math"
def TJ9 : u_T := fun k => match k with
  | _ => ("", "", "", false)
def tyJ9 : Nat → FieldType := fun k => match k with
  | _ => .int
abbrev wsJ90 : List Cond := u_ws RJ9 TJ9 0
theorem nmJ9 : ∀ a, a < 0 → ∀ b, b < 0 → a ≠ b → (TJ9 a).2.1 ≠ (TJ9 b).2.1 := by decide +kernel
theorem tyJ9_ok : ∀ k, k < 0 → parseFieldDescriptor (TJ9 k).2.2.1 = some (tyJ9 k) := by decide +kernel
abbrev cJ9_floorMod_7cf53 : ByteArray := prog_10_method_50_code
def yJ9_floorMod_7cf53 : MethodName := ⟨RJ9, "floorMod", "(II)I"⟩
abbrev cJ9_max_7cf53 : ByteArray := prog_10_method_65_code
def yJ9_max_7cf53 : MethodName := ⟨RJ9, "max", "(II)I"⟩
abbrev cJ9_min_7cf53 : ByteArray := prog_10_method_69_code
def yJ9_min_7cf53 : MethodName := ⟨RJ9, "min", "(II)I"⟩
def RJ10 : String := "java/lang/System"
def TJ10 : u_T := fun k => match k with
  | _ => ("", "", "", false)
def tyJ10 : Nat → FieldType := fun k => match k with
  | _ => .int
abbrev wsJ100 : List Cond := u_ws RJ10 TJ10 0
theorem nmJ10 : ∀ a, a < 0 → ∀ b, b < 0 → a ≠ b → (TJ10 a).2.1 ≠ (TJ10 b).2.1 := by decide +kernel
theorem tyJ10_ok : ∀ k, k < 0 → parseFieldDescriptor (TJ10 k).2.2.1 = some (tyJ10 k) := by decide +kernel
def RJ7 : String := "java/util/Arrays"
def TJ7 : u_T := fun k => match k with
  | _ => ("", "", "", false)
def tyJ7 : Nat → FieldType := fun k => match k with
  | _ => .int
abbrev wsJ70 : List Cond := u_ws RJ7 TJ7 0
theorem nmJ7 : ∀ a, a < 0 → ∀ b, b < 0 → a ≠ b → (TJ7 a).2.1 ≠ (TJ7 b).2.1 := by decide +kernel
theorem tyJ7_ok : ∀ k, k < 0 → parseFieldDescriptor (TJ7 k).2.2.1 = some (tyJ7 k) := by decide +kernel
abbrev cJ7_fill_53178 : ByteArray := prog_12_method_103_code
def yJ7_fill_53178 : MethodName := ⟨RJ7, "fill", "([II)V"⟩
def RL : String := "HutBookingsLaw"
abbrev cL_cell : ByteArray := method_2_code
def yL_cell : MethodName := ⟨RL, "cell", "([II)I"⟩
abbrev cL_low : ByteArray := method_3_code
def yL_low : MethodName := ⟨RL, "low", "(II)I"⟩
abbrev cL_tell : ByteArray := method_4_code
def yL_tell : MethodName := ⟨RL, "tell", "(LHutBookings;)[I"⟩
abbrev cL_same : ByteArray := method_5_code
def yL_same : MethodName := ⟨RL, "same", "([I[I)Z"⟩
abbrev cL_sums : ByteArray := method_6_code
def yL_sums : MethodName := ⟨RL, "sums", "(LHutBookings;)Z"⟩
abbrev cL_would : ByteArray := method_7_code
def yL_would : MethodName := ⟨RL, "would", "(LHutBookings;I)Z"⟩
abbrev cL_act : ByteArray := method_8_code
def yL_act : MethodName := ⟨RL, "act", "(LHutBookings;II)I"⟩
abbrev cL_law : ByteArray := code
def yL_law : MethodName := ⟨RL, "law", "([I)Z"⟩
abbrev vwCl : List vw_C := [(RX0, TX0, 9), (RX1, TX1, 8), (RX2, TX2, 2), (RX3, TX3, 11), (RX4, TX4, 2), (RX5, TX5, 3), (RX6, TX6, 7)]
