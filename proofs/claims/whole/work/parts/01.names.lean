-- ===== PART A: goes FIRST, ahead of the names: the tables' words, and 'selects' of the private methods out of them =====
/-- a private method of a class that the tables say can be made, by its rows of tables_1 -/
def lw_okq (q : MethodName × Nat) : Prop := (q.1.cls ≠ "java/lang/invoke/MethodHandle" ∧ q.1.cls ≠ "java/lang/invoke/VarHandle") ∧ Cond.instantiable q.1.cls q.2 ∈ tables_1 ∧ Cond.privateMethod q.1 ∈ tables_1 ∧ Cond.instanceMethod q.1 ∈ tables_1
theorem lw_p0 : lw_okq (⟨"HutBookings$History", "dropOldest", "()V"⟩, 2) := ⟨⟨by decide +kernel, by decide +kernel⟩, List.mem_of_getElem? (i := 159) (by decide +kernel), List.mem_of_getElem? (i := 282) (by decide +kernel), List.mem_of_getElem? (i := 283) (by decide +kernel)⟩
theorem lw_p1 : lw_okq (⟨"HutBookings$BookingText", "accepts", "(C)Z"⟩, 9) := ⟨⟨by decide +kernel, by decide +kernel⟩, List.mem_of_getElem? (i := 176) (by decide +kernel), List.mem_of_getElem? (i := 322) (by decide +kernel), List.mem_of_getElem? (i := 323) (by decide +kernel)⟩
theorem lw_p2 : lw_okq (⟨"HutBookings$BookingText", "acceptsDayBegin", "(C)Z"⟩, 9) := ⟨⟨by decide +kernel, by decide +kernel⟩, List.mem_of_getElem? (i := 176) (by decide +kernel), List.mem_of_getElem? (i := 326) (by decide +kernel), List.mem_of_getElem? (i := 327) (by decide +kernel)⟩
theorem lw_p3 : lw_okq (⟨"HutBookings$BookingText", "moveTo", "(I)Z"⟩, 9) := ⟨⟨by decide +kernel, by decide +kernel⟩, List.mem_of_getElem? (i := 176) (by decide +kernel), List.mem_of_getElem? (i := 330) (by decide +kernel), List.mem_of_getElem? (i := 331) (by decide +kernel)⟩
theorem lw_p4 : lw_okq (⟨"HutBookings$BookingText", "acceptsDayDigit", "(C)Z"⟩, 9) := ⟨⟨by decide +kernel, by decide +kernel⟩, List.mem_of_getElem? (i := 176) (by decide +kernel), List.mem_of_getElem? (i := 334) (by decide +kernel), List.mem_of_getElem? (i := 335) (by decide +kernel)⟩
theorem lw_p5 : lw_okq (⟨"HutBookings$BookingText", "acceptsNights", "(C)Z"⟩, 9) := ⟨⟨by decide +kernel, by decide +kernel⟩, List.mem_of_getElem? (i := 176) (by decide +kernel), List.mem_of_getElem? (i := 338) (by decide +kernel), List.mem_of_getElem? (i := 339) (by decide +kernel)⟩
theorem lw_p6 : lw_okq (⟨"HutBookings$BookingText", "acceptsPersons", "(C)Z"⟩, 9) := ⟨⟨by decide +kernel, by decide +kernel⟩, List.mem_of_getElem? (i := 176) (by decide +kernel), List.mem_of_getElem? (i := 342) (by decide +kernel), List.mem_of_getElem? (i := 343) (by decide +kernel)⟩
theorem lw_p7 : lw_okq (⟨"HutBookings", "errorUnlessBooked", "(I)I"⟩, 7) := ⟨⟨by decide +kernel, by decide +kernel⟩, List.mem_of_getElem? (i := 13) (by decide +kernel), List.mem_of_getElem? (i := 353) (by decide +kernel), List.mem_of_getElem? (i := 354) (by decide +kernel)⟩
theorem lw_p8 : lw_okq (⟨"HutBookings$Hut", "letGroupsLeave", "()V"⟩, 11) := ⟨⟨by decide +kernel, by decide +kernel⟩, List.mem_of_getElem? (i := 21) (by decide +kernel), List.mem_of_getElem? (i := 450) (by decide +kernel), List.mem_of_getElem? (i := 451) (by decide +kernel)⟩
theorem lw_p9 : lw_okq (⟨"HutBookings$Hut", "letLeave", "(I)V"⟩, 11) := ⟨⟨by decide +kernel, by decide +kernel⟩, List.mem_of_getElem? (i := 21) (by decide +kernel), List.mem_of_getElem? (i := 458) (by decide +kernel), List.mem_of_getElem? (i := 459) (by decide +kernel)⟩
theorem lw_p10 : lw_okq (⟨"HutBookings$Hut", "turnLateOnesAway", "()V"⟩, 11) := ⟨⟨by decide +kernel, by decide +kernel⟩, List.mem_of_getElem? (i := 21) (by decide +kernel), List.mem_of_getElem? (i := 462) (by decide +kernel), List.mem_of_getElem? (i := 463) (by decide +kernel)⟩
theorem lw_p11 : lw_okq (⟨"HutBookings$Hut", "turnAway", "(I)V"⟩, 11) := ⟨⟨by decide +kernel, by decide +kernel⟩, List.mem_of_getElem? (i := 21) (by decide +kernel), List.mem_of_getElem? (i := 466) (by decide +kernel), List.mem_of_getElem? (i := 467) (by decide +kernel)⟩
theorem lw_p12 : lw_okq (⟨"HutBookings$Hut", "letGroupsCome", "()V"⟩, 11) := ⟨⟨by decide +kernel, by decide +kernel⟩, List.mem_of_getElem? (i := 21) (by decide +kernel), List.mem_of_getElem? (i := 470) (by decide +kernel), List.mem_of_getElem? (i := 471) (by decide +kernel)⟩
theorem lw_p13 : lw_okq (⟨"HutBookings$Hut", "bring", "(I)V"⟩, 11) := ⟨⟨by decide +kernel, by decide +kernel⟩, List.mem_of_getElem? (i := 21) (by decide +kernel), List.mem_of_getElem? (i := 478) (by decide +kernel), List.mem_of_getElem? (i := 479) (by decide +kernel)⟩
theorem lw_p14 : lw_okq (⟨"HutBookings$Orders", "removeFirst", "()V"⟩, 3) := ⟨⟨by decide +kernel, by decide +kernel⟩, List.mem_of_getElem? (i := 94) (by decide +kernel), List.mem_of_getElem? (i := 487) (by decide +kernel), List.mem_of_getElem? (i := 488) (by decide +kernel)⟩
theorem lw_p15 : lw_okq (⟨"HutBookings$Hut", "fly", "()V"⟩, 11) := ⟨⟨by decide +kernel, by decide +kernel⟩, List.mem_of_getElem? (i := 21) (by decide +kernel), List.mem_of_getElem? (i := 499) (by decide +kernel), List.mem_of_getElem? (i := 500) (by decide +kernel)⟩
def lw_privs_1 : List (MethodName × Nat) := [(⟨"HutBookings$History", "dropOldest", "()V"⟩, 2), (⟨"HutBookings$BookingText", "accepts", "(C)Z"⟩, 9), (⟨"HutBookings$BookingText", "acceptsDayBegin", "(C)Z"⟩, 9), (⟨"HutBookings$BookingText", "moveTo", "(I)Z"⟩, 9), (⟨"HutBookings$BookingText", "acceptsDayDigit", "(C)Z"⟩, 9), (⟨"HutBookings$BookingText", "acceptsNights", "(C)Z"⟩, 9), (⟨"HutBookings$BookingText", "acceptsPersons", "(C)Z"⟩, 9), (⟨"HutBookings", "errorUnlessBooked", "(I)I"⟩, 7), (⟨"HutBookings$Hut", "letGroupsLeave", "()V"⟩, 11), (⟨"HutBookings$Hut", "letLeave", "(I)V"⟩, 11), (⟨"HutBookings$Hut", "turnLateOnesAway", "()V"⟩, 11), (⟨"HutBookings$Hut", "turnAway", "(I)V"⟩, 11), (⟨"HutBookings$Hut", "letGroupsCome", "()V"⟩, 11), (⟨"HutBookings$Hut", "bring", "(I)V"⟩, 11), (⟨"HutBookings$Orders", "removeFirst", "()V"⟩, 3), (⟨"HutBookings$Hut", "fly", "()V"⟩, 11)]
theorem lw_r1 : ∀ q ∈ lw_privs_1, lw_okq q := List.forall_mem_cons.mpr ⟨lw_p0, List.forall_mem_cons.mpr ⟨lw_p1, List.forall_mem_cons.mpr ⟨lw_p2, List.forall_mem_cons.mpr ⟨lw_p3, List.forall_mem_cons.mpr ⟨lw_p4, List.forall_mem_cons.mpr ⟨lw_p5, List.forall_mem_cons.mpr ⟨lw_p6, List.forall_mem_cons.mpr ⟨lw_p7, List.forall_mem_cons.mpr ⟨lw_p8, List.forall_mem_cons.mpr ⟨lw_p9, List.forall_mem_cons.mpr ⟨lw_p10, List.forall_mem_cons.mpr ⟨lw_p11, List.forall_mem_cons.mpr ⟨lw_p12, List.forall_mem_cons.mpr ⟨lw_p13, List.forall_mem_cons.mpr ⟨lw_p14, List.forall_mem_cons.mpr ⟨lw_p15, fun _ h => absurd h List.not_mem_nil⟩⟩⟩⟩⟩⟩⟩⟩⟩⟩⟩⟩⟩⟩⟩⟩
theorem lw_p16 : lw_okq (⟨"HutBookings$Hut", "letAllEat", "()V"⟩, 11) := ⟨⟨by decide +kernel, by decide +kernel⟩, List.mem_of_getElem? (i := 21) (by decide +kernel), List.mem_of_getElem? (i := 511) (by decide +kernel), List.mem_of_getElem? (i := 512) (by decide +kernel)⟩
theorem lw_p17 : lw_okq (⟨"HutBookings$Hut", "letAllSleep", "()V"⟩, 11) := ⟨⟨by decide +kernel, by decide +kernel⟩, List.mem_of_getElem? (i := 21) (by decide +kernel), List.mem_of_getElem? (i := 520) (by decide +kernel), List.mem_of_getElem? (i := 521) (by decide +kernel)⟩
theorem lw_p18 : lw_okq (⟨"HutBookings", "mostBedsTaken", "()I"⟩, 7) := ⟨⟨by decide +kernel, by decide +kernel⟩, List.mem_of_getElem? (i := 13) (by decide +kernel), List.mem_of_getElem? (i := 532) (by decide +kernel), List.mem_of_getElem? (i := 533) (by decide +kernel)⟩
theorem lw_p19 : lw_okq (⟨"HutBookings", "passInTrial", "(I)V"⟩, 7) := ⟨⟨by decide +kernel, by decide +kernel⟩, List.mem_of_getElem? (i := 13) (by decide +kernel), List.mem_of_getElem? (i := 669) (by decide +kernel), List.mem_of_getElem? (i := 670) (by decide +kernel)⟩
theorem lw_p20 : lw_okq (⟨"HutBookingsModel", "tryToBook", "(III)I"⟩, 9) := ⟨⟨by decide +kernel, by decide +kernel⟩, List.mem_of_getElem? (i := 691) (by decide +kernel), List.mem_of_getElem? (i := 729) (by decide +kernel), List.mem_of_getElem? (i := 730) (by decide +kernel)⟩
theorem lw_p21 : lw_okq (⟨"HutBookingsModel", "fits", "(III)Z"⟩, 9) := ⟨⟨by decide +kernel, by decide +kernel⟩, List.mem_of_getElem? (i := 691) (by decide +kernel), List.mem_of_getElem? (i := 737) (by decide +kernel), List.mem_of_getElem? (i := 738) (by decide +kernel)⟩
theorem lw_p22 : lw_okq (⟨"HutBookingsModel", "taken", "(I)I"⟩, 9) := ⟨⟨by decide +kernel, by decide +kernel⟩, List.mem_of_getElem? (i := 691) (by decide +kernel), List.mem_of_getElem? (i := 741) (by decide +kernel), List.mem_of_getElem? (i := 742) (by decide +kernel)⟩
theorem lw_p23 : lw_okq (⟨"HutBookingsModel", "of", "(II)I"⟩, 9) := ⟨⟨by decide +kernel, by decide +kernel⟩, List.mem_of_getElem? (i := 691) (by decide +kernel), List.mem_of_getElem? (i := 745) (by decide +kernel), List.mem_of_getElem? (i := 746) (by decide +kernel)⟩
theorem lw_p24 : lw_okq (⟨"HutBookingsModel", "end", "(I)I"⟩, 9) := ⟨⟨by decide +kernel, by decide +kernel⟩, List.mem_of_getElem? (i := 691) (by decide +kernel), List.mem_of_getElem? (i := 749) (by decide +kernel), List.mem_of_getElem? (i := 750) (by decide +kernel)⟩
theorem lw_p25 : lw_okq (⟨"HutBookingsModel", "record", "()V"⟩, 9) := ⟨⟨by decide +kernel, by decide +kernel⟩, List.mem_of_getElem? (i := 691) (by decide +kernel), List.mem_of_getElem? (i := 755) (by decide +kernel), List.mem_of_getElem? (i := 756) (by decide +kernel)⟩
theorem lw_p26 : lw_okq (⟨"HutBookingsModel", "addBooking", "(III)I"⟩, 9) := ⟨⟨by decide +kernel, by decide +kernel⟩, List.mem_of_getElem? (i := 691) (by decide +kernel), List.mem_of_getElem? (i := 759) (by decide +kernel), List.mem_of_getElem? (i := 760) (by decide +kernel)⟩
theorem lw_p27 : lw_okq (⟨"HutBookingsModel", "put", "(III)V"⟩, 9) := ⟨⟨by decide +kernel, by decide +kernel⟩, List.mem_of_getElem? (i := 691) (by decide +kernel), List.mem_of_getElem? (i := 763) (by decide +kernel), List.mem_of_getElem? (i := 764) (by decide +kernel)⟩
theorem lw_p28 : lw_okq (⟨"HutBookingsModel", "readAll", "()I"⟩, 9) := ⟨⟨by decide +kernel, by decide +kernel⟩, List.mem_of_getElem? (i := 691) (by decide +kernel), List.mem_of_getElem? (i := 772) (by decide +kernel), List.mem_of_getElem? (i := 773) (by decide +kernel)⟩
theorem lw_p29 : lw_okq (⟨"HutBookingsModel", "readBooking", "()I"⟩, 9) := ⟨⟨by decide +kernel, by decide +kernel⟩, List.mem_of_getElem? (i := 691) (by decide +kernel), List.mem_of_getElem? (i := 776) (by decide +kernel), List.mem_of_getElem? (i := 777) (by decide +kernel)⟩
theorem lw_p30 : lw_okq (⟨"HutBookingsModel", "isNext", "(II)Z"⟩, 9) := ⟨⟨by decide +kernel, by decide +kernel⟩, List.mem_of_getElem? (i := 691) (by decide +kernel), List.mem_of_getElem? (i := 780) (by decide +kernel), List.mem_of_getElem? (i := 781) (by decide +kernel)⟩
theorem lw_p31 : lw_okq (⟨"HutBookingsModel", "lay", "()V"⟩, 9) := ⟨⟨by decide +kernel, by decide +kernel⟩, List.mem_of_getElem? (i := 691) (by decide +kernel), List.mem_of_getElem? (i := 784) (by decide +kernel), List.mem_of_getElem? (i := 785) (by decide +kernel)⟩
def lw_privs_2 : List (MethodName × Nat) := [(⟨"HutBookings$Hut", "letAllEat", "()V"⟩, 11), (⟨"HutBookings$Hut", "letAllSleep", "()V"⟩, 11), (⟨"HutBookings", "mostBedsTaken", "()I"⟩, 7), (⟨"HutBookings", "passInTrial", "(I)V"⟩, 7), (⟨"HutBookingsModel", "tryToBook", "(III)I"⟩, 9), (⟨"HutBookingsModel", "fits", "(III)Z"⟩, 9), (⟨"HutBookingsModel", "taken", "(I)I"⟩, 9), (⟨"HutBookingsModel", "of", "(II)I"⟩, 9), (⟨"HutBookingsModel", "end", "(I)I"⟩, 9), (⟨"HutBookingsModel", "record", "()V"⟩, 9), (⟨"HutBookingsModel", "addBooking", "(III)I"⟩, 9), (⟨"HutBookingsModel", "put", "(III)V"⟩, 9), (⟨"HutBookingsModel", "readAll", "()I"⟩, 9), (⟨"HutBookingsModel", "readBooking", "()I"⟩, 9), (⟨"HutBookingsModel", "isNext", "(II)Z"⟩, 9), (⟨"HutBookingsModel", "lay", "()V"⟩, 9)]
theorem lw_r2 : ∀ q ∈ lw_privs_2, lw_okq q := List.forall_mem_cons.mpr ⟨lw_p16, List.forall_mem_cons.mpr ⟨lw_p17, List.forall_mem_cons.mpr ⟨lw_p18, List.forall_mem_cons.mpr ⟨lw_p19, List.forall_mem_cons.mpr ⟨lw_p20, List.forall_mem_cons.mpr ⟨lw_p21, List.forall_mem_cons.mpr ⟨lw_p22, List.forall_mem_cons.mpr ⟨lw_p23, List.forall_mem_cons.mpr ⟨lw_p24, List.forall_mem_cons.mpr ⟨lw_p25, List.forall_mem_cons.mpr ⟨lw_p26, List.forall_mem_cons.mpr ⟨lw_p27, List.forall_mem_cons.mpr ⟨lw_p28, List.forall_mem_cons.mpr ⟨lw_p29, List.forall_mem_cons.mpr ⟨lw_p30, List.forall_mem_cons.mpr ⟨lw_p31, fun _ h => absurd h List.not_mem_nil⟩⟩⟩⟩⟩⟩⟩⟩⟩⟩⟩⟩⟩⟩⟩⟩
theorem lw_p32 : lw_okq (⟨"HutBookingsModel", "takeBack", "()V"⟩, 9) := ⟨⟨by decide +kernel, by decide +kernel⟩, List.mem_of_getElem? (i := 691) (by decide +kernel), List.mem_of_getElem? (i := 788) (by decide +kernel), List.mem_of_getElem? (i := 789) (by decide +kernel)⟩
theorem lw_p33 : lw_okq (⟨"HutBookingsModel", "isBooking", "(I)Z"⟩, 9) := ⟨⟨by decide +kernel, by decide +kernel⟩, List.mem_of_getElem? (i := 691) (by decide +kernel), List.mem_of_getElem? (i := 796) (by decide +kernel), List.mem_of_getElem? (i := 797) (by decide +kernel)⟩
theorem lw_p34 : lw_okq (⟨"HutBookingsModel", "is", "(II)Z"⟩, 9) := ⟨⟨by decide +kernel, by decide +kernel⟩, List.mem_of_getElem? (i := 691) (by decide +kernel), List.mem_of_getElem? (i := 801) (by decide +kernel), List.mem_of_getElem? (i := 802) (by decide +kernel)⟩
theorem lw_p35 : lw_okq (⟨"HutBookingsModel", "refundOf", "(I)I"⟩, 9) := ⟨⟨by decide +kernel, by decide +kernel⟩, List.mem_of_getElem? (i := 691) (by decide +kernel), List.mem_of_getElem? (i := 805) (by decide +kernel), List.mem_of_getElem? (i := 806) (by decide +kernel)⟩
theorem lw_p36 : lw_okq (⟨"HutBookingsModel", "isUpOpen", "(I)Z"⟩, 9) := ⟨⟨by decide +kernel, by decide +kernel⟩, List.mem_of_getElem? (i := 691) (by decide +kernel), List.mem_of_getElem? (i := 809) (by decide +kernel), List.mem_of_getElem? (i := 810) (by decide +kernel)⟩
theorem lw_p37 : lw_okq (⟨"HutBookingsModel", "weatherOf", "(I)I"⟩, 9) := ⟨⟨by decide +kernel, by decide +kernel⟩, List.mem_of_getElem? (i := 691) (by decide +kernel), List.mem_of_getElem? (i := 813) (by decide +kernel), List.mem_of_getElem? (i := 814) (by decide +kernel)⟩
theorem lw_p38 : lw_okq (⟨"HutBookingsModel", "dropOrder", "(I)V"⟩, 9) := ⟨⟨by decide +kernel, by decide +kernel⟩, List.mem_of_getElem? (i := 691) (by decide +kernel), List.mem_of_getElem? (i := 838) (by decide +kernel), List.mem_of_getElem? (i := 839) (by decide +kernel)⟩
theorem lw_p39 : lw_okq (⟨"HutBookingsModel", "passDay", "()V"⟩, 9) := ⟨⟨by decide +kernel, by decide +kernel⟩, List.mem_of_getElem? (i := 691) (by decide +kernel), List.mem_of_getElem? (i := 850) (by decide +kernel), List.mem_of_getElem? (i := 851) (by decide +kernel)⟩
theorem lw_p40 : lw_okq (⟨"HutBookingsModel", "isDownOpen", "(I)Z"⟩, 9) := ⟨⟨by decide +kernel, by decide +kernel⟩, List.mem_of_getElem? (i := 691) (by decide +kernel), List.mem_of_getElem? (i := 854) (by decide +kernel), List.mem_of_getElem? (i := 855) (by decide +kernel)⟩
theorem lw_p41 : lw_okq (⟨"HutBookingsModel", "leave", "(I)V"⟩, 9) := ⟨⟨by decide +kernel, by decide +kernel⟩, List.mem_of_getElem? (i := 691) (by decide +kernel), List.mem_of_getElem? (i := 858) (by decide +kernel), List.mem_of_getElem? (i := 859) (by decide +kernel)⟩
theorem lw_p42 : lw_okq (⟨"HutBookingsModel", "turnAway", "(I)V"⟩, 9) := ⟨⟨by decide +kernel, by decide +kernel⟩, List.mem_of_getElem? (i := 691) (by decide +kernel), List.mem_of_getElem? (i := 862) (by decide +kernel), List.mem_of_getElem? (i := 863) (by decide +kernel)⟩
theorem lw_p43 : lw_okq (⟨"HutBookingsModel", "come", "(II)V"⟩, 9) := ⟨⟨by decide +kernel, by decide +kernel⟩, List.mem_of_getElem? (i := 691) (by decide +kernel), List.mem_of_getElem? (i := 866) (by decide +kernel), List.mem_of_getElem? (i := 867) (by decide +kernel)⟩
theorem lw_p44 : lw_okq (⟨"HutBookingsModel", "personsThere", "()I"⟩, 9) := ⟨⟨by decide +kernel, by decide +kernel⟩, List.mem_of_getElem? (i := 691) (by decide +kernel), List.mem_of_getElem? (i := 870) (by decide +kernel), List.mem_of_getElem? (i := 871) (by decide +kernel)⟩
theorem lw_p45 : lw_okq (⟨"HutBookingsModel", "bring", "(II)V"⟩, 9) := ⟨⟨by decide +kernel, by decide +kernel⟩, List.mem_of_getElem? (i := 691) (by decide +kernel), List.mem_of_getElem? (i := 874) (by decide +kernel), List.mem_of_getElem? (i := 875) (by decide +kernel)⟩
theorem lw_p46 : lw_okq (⟨"HutBookingsModel", "isWindy", "(I)Z"⟩, 9) := ⟨⟨by decide +kernel, by decide +kernel⟩, List.mem_of_getElem? (i := 691) (by decide +kernel), List.mem_of_getElem? (i := 878) (by decide +kernel), List.mem_of_getElem? (i := 879) (by decide +kernel)⟩
theorem lw_p47 : lw_okq (⟨"HutBookingsModel", "fly", "(I)V"⟩, 9) := ⟨⟨by decide +kernel, by decide +kernel⟩, List.mem_of_getElem? (i := 691) (by decide +kernel), List.mem_of_getElem? (i := 882) (by decide +kernel), List.mem_of_getElem? (i := 883) (by decide +kernel)⟩
def lw_privs_3 : List (MethodName × Nat) := [(⟨"HutBookingsModel", "takeBack", "()V"⟩, 9), (⟨"HutBookingsModel", "isBooking", "(I)Z"⟩, 9), (⟨"HutBookingsModel", "is", "(II)Z"⟩, 9), (⟨"HutBookingsModel", "refundOf", "(I)I"⟩, 9), (⟨"HutBookingsModel", "isUpOpen", "(I)Z"⟩, 9), (⟨"HutBookingsModel", "weatherOf", "(I)I"⟩, 9), (⟨"HutBookingsModel", "dropOrder", "(I)V"⟩, 9), (⟨"HutBookingsModel", "passDay", "()V"⟩, 9), (⟨"HutBookingsModel", "isDownOpen", "(I)Z"⟩, 9), (⟨"HutBookingsModel", "leave", "(I)V"⟩, 9), (⟨"HutBookingsModel", "turnAway", "(I)V"⟩, 9), (⟨"HutBookingsModel", "come", "(II)V"⟩, 9), (⟨"HutBookingsModel", "personsThere", "()I"⟩, 9), (⟨"HutBookingsModel", "bring", "(II)V"⟩, 9), (⟨"HutBookingsModel", "isWindy", "(I)Z"⟩, 9), (⟨"HutBookingsModel", "fly", "(I)V"⟩, 9)]
theorem lw_r3 : ∀ q ∈ lw_privs_3, lw_okq q := List.forall_mem_cons.mpr ⟨lw_p32, List.forall_mem_cons.mpr ⟨lw_p33, List.forall_mem_cons.mpr ⟨lw_p34, List.forall_mem_cons.mpr ⟨lw_p35, List.forall_mem_cons.mpr ⟨lw_p36, List.forall_mem_cons.mpr ⟨lw_p37, List.forall_mem_cons.mpr ⟨lw_p38, List.forall_mem_cons.mpr ⟨lw_p39, List.forall_mem_cons.mpr ⟨lw_p40, List.forall_mem_cons.mpr ⟨lw_p41, List.forall_mem_cons.mpr ⟨lw_p42, List.forall_mem_cons.mpr ⟨lw_p43, List.forall_mem_cons.mpr ⟨lw_p44, List.forall_mem_cons.mpr ⟨lw_p45, List.forall_mem_cons.mpr ⟨lw_p46, List.forall_mem_cons.mpr ⟨lw_p47, fun _ h => absurd h List.not_mem_nil⟩⟩⟩⟩⟩⟩⟩⟩⟩⟩⟩⟩⟩⟩⟩⟩
theorem lw_p48 : lw_okq (⟨"HutBookingsModel", "eat", "()V"⟩, 9) := ⟨⟨by decide +kernel, by decide +kernel⟩, List.mem_of_getElem? (i := 691) (by decide +kernel), List.mem_of_getElem? (i := 886) (by decide +kernel), List.mem_of_getElem? (i := 887) (by decide +kernel)⟩
theorem lw_p49 : lw_okq (⟨"HutBookingsModel", "sleep", "(I)V"⟩, 9) := ⟨⟨by decide +kernel, by decide +kernel⟩, List.mem_of_getElem? (i := 691) (by decide +kernel), List.mem_of_getElem? (i := 890) (by decide +kernel), List.mem_of_getElem? (i := 891) (by decide +kernel)⟩
theorem lw_p50 : lw_okq (⟨"HutBookingsModel", "inState", "(I)I"⟩, 9) := ⟨⟨by decide +kernel, by decide +kernel⟩, List.mem_of_getElem? (i := 691) (by decide +kernel), List.mem_of_getElem? (i := 945) (by decide +kernel), List.mem_of_getElem? (i := 946) (by decide +kernel)⟩
theorem lw_p51 : lw_okq (⟨"HutBookingsModel", "freshPortions", "()I"⟩, 9) := ⟨⟨by decide +kernel, by decide +kernel⟩, List.mem_of_getElem? (i := 691) (by decide +kernel), List.mem_of_getElem? (i := 949) (by decide +kernel), List.mem_of_getElem? (i := 950) (by decide +kernel)⟩
theorem lw_p52 : lw_okq (⟨"HutBookingsModel", "waitingPortions", "()I"⟩, 9) := ⟨⟨by decide +kernel, by decide +kernel⟩, List.mem_of_getElem? (i := 691) (by decide +kernel), List.mem_of_getElem? (i := 953) (by decide +kernel), List.mem_of_getElem? (i := 954) (by decide +kernel)⟩
theorem lw_p53 : lw_okq (⟨"HutBookingsModel", "grows", "(II)I"⟩, 9) := ⟨⟨by decide +kernel, by decide +kernel⟩, List.mem_of_getElem? (i := 691) (by decide +kernel), List.mem_of_getElem? (i := 978) (by decide +kernel), List.mem_of_getElem? (i := 979) (by decide +kernel)⟩
theorem lw_p54 : lw_okq (⟨"HutBookingsModel", "takesDown", "(I)I"⟩, 9) := ⟨⟨by decide +kernel, by decide +kernel⟩, List.mem_of_getElem? (i := 691) (by decide +kernel), List.mem_of_getElem? (i := 994) (by decide +kernel), List.mem_of_getElem? (i := 995) (by decide +kernel)⟩
def lw_privs_4 : List (MethodName × Nat) := [(⟨"HutBookingsModel", "eat", "()V"⟩, 9), (⟨"HutBookingsModel", "sleep", "(I)V"⟩, 9), (⟨"HutBookingsModel", "inState", "(I)I"⟩, 9), (⟨"HutBookingsModel", "freshPortions", "()I"⟩, 9), (⟨"HutBookingsModel", "waitingPortions", "()I"⟩, 9), (⟨"HutBookingsModel", "grows", "(II)I"⟩, 9), (⟨"HutBookingsModel", "takesDown", "(I)I"⟩, 9)]
theorem lw_r4 : ∀ q ∈ lw_privs_4, lw_okq q := List.forall_mem_cons.mpr ⟨lw_p48, List.forall_mem_cons.mpr ⟨lw_p49, List.forall_mem_cons.mpr ⟨lw_p50, List.forall_mem_cons.mpr ⟨lw_p51, List.forall_mem_cons.mpr ⟨lw_p52, List.forall_mem_cons.mpr ⟨lw_p53, List.forall_mem_cons.mpr ⟨lw_p54, fun _ h => absurd h List.not_mem_nil⟩⟩⟩⟩⟩⟩⟩
def lw_privs : List (MethodName × Nat) := lw_privs_1 ++ (lw_privs_2 ++ (lw_privs_3 ++ (lw_privs_4)))
def lw_tbl : List Cond := k2_sels lw_privs ++ tables_1
theorem lw_privs_ok : ∀ q ∈ lw_privs, lw_okq q := by
  show ∀ q ∈ lw_privs_1 ++ (lw_privs_2 ++ (lw_privs_3 ++ (lw_privs_4))), lw_okq q
  exact List.forall_mem_append.mpr ⟨lw_r1, List.forall_mem_append.mpr ⟨lw_r2, List.forall_mem_append.mpr ⟨lw_r3, lw_r4⟩⟩⟩
/-- the streams that the claim lets the run draw from -/
abbrev lw_cs : List Choice := [Jvm.Choice.named "NaN.bits"]
theorem lw_bits : nanBits ∈ lw_cs := by first | decide | exact List.mem_cons_self | simp [lw_cs, nanBits]
def RX0 : String := "HutBookings$BookingText"
def TX0 : u_T := fun k => match k with
  | 0 => ("HutBookings$BookingText", "characters", "[C", true)
  | 1 => ("HutBookings$BookingText", "length", "I", false)
  | 2 => ("HutBookings$BookingText", "arrives", "[I", true)
  | 3 => ("HutBookings$BookingText", "nights", "[I", true)
  | 4 => ("HutBookings$BookingText", "persons", "[I", true)
  | 5 => ("HutBookings$BookingText", "found", "I", false)
  | 6 => ("HutBookings$BookingText", "place", "I", false)
  | 7 => ("HutBookings$BookingText", "dayRead", "I", false)
  | _ => ("HutBookings$BookingText", "nightsRead", "I", false)
def tyX0 : Nat → FieldType := fun k => match k with
  | 0 => .array .char
  | 1 => .int
  | 2 => .array .int
  | 3 => .array .int
  | 4 => .array .int
  | 5 => .int
  | 6 => .int
  | 7 => .int
  | _ => .int
abbrev wsX00 : List Cond := u_ws RX0 TX0 9
theorem nmX0 : ∀ a, a < 9 → ∀ b, b < 9 → a ≠ b → (TX0 a).2.1 ≠ (TX0 b).2.1 := by decide +kernel
theorem tyX0_ok : ∀ k, k < 9 → parseFieldDescriptor (TX0 k).2.2.1 = some (tyX0 k) := by decide +kernel
abbrev cX0_init : ByteArray := prog_2_method_1_code
def yX0_init : MethodName := ⟨RX0, "<init>", "()V"⟩
abbrev cX0_append : ByteArray := prog_2_method_2_code
def yX0_append : MethodName := ⟨RX0, "append", "(C)V"⟩
abbrev cX0_findFault : ByteArray := prog_2_method_3_code
def yX0_findFault : MethodName := ⟨RX0, "findFault", "()I"⟩
abbrev cX0_accepts : ByteArray := prog_2_method_4_code
def yX0_accepts : MethodName := ⟨RX0, "accepts", "(C)Z"⟩
abbrev cX0_moveTo : ByteArray := prog_2_method_5_code
def yX0_moveTo : MethodName := ⟨RX0, "moveTo", "(I)Z"⟩
abbrev cX0_acceptsDayBegin : ByteArray := prog_2_method_6_code
def yX0_acceptsDayBegin : MethodName := ⟨RX0, "acceptsDayBegin", "(C)Z"⟩
abbrev cX0_acceptsDayDigit : ByteArray := prog_2_method_7_code
def yX0_acceptsDayDigit : MethodName := ⟨RX0, "acceptsDayDigit", "(C)Z"⟩
abbrev cX0_acceptsNights : ByteArray := prog_2_method_8_code
def yX0_acceptsNights : MethodName := ⟨RX0, "acceptsNights", "(C)Z"⟩
abbrev cX0_acceptsPersons : ByteArray := prog_2_method_9_code
def yX0_acceptsPersons : MethodName := ⟨RX0, "acceptsPersons", "(C)Z"⟩
def RX1 : String := "HutBookings$Guests"
def TX1 : u_T := fun k => match k with
  | 0 => ("HutBookings$Guests", "how", "[I", true)
  | 1 => ("HutBookings$Guests", "arrives", "[I", true)
  | 2 => ("HutBookings$Guests", "nights", "[I", true)
  | 3 => ("HutBookings$Guests", "persons", "[I", true)
  | 4 => ("HutBookings$Guests", "slept", "[I", true)
  | 5 => ("HutBookings$Guests", "deposit", "[I", true)
  | 6 => ("HutBookings$Guests", "came", "[I", true)
  | _ => ("HutBookings$Guests", "made", "I", false)
def tyX1 : Nat → FieldType := fun k => match k with
  | 0 => .array .int
  | 1 => .array .int
  | 2 => .array .int
  | 3 => .array .int
  | 4 => .array .int
  | 5 => .array .int
  | 6 => .array .int
  | _ => .int
abbrev wsX10 : List Cond := u_ws RX1 TX1 8
theorem nmX1 : ∀ a, a < 8 → ∀ b, b < 8 → a ≠ b → (TX1 a).2.1 ≠ (TX1 b).2.1 := by decide +kernel
theorem tyX1_ok : ∀ k, k < 8 → parseFieldDescriptor (TX1 k).2.2.1 = some (tyX1 k) := by decide +kernel
abbrev cX1_init : ByteArray := prog_3_method_1_code
def yX1_init : MethodName := ⟨RX1, "<init>", "()V"⟩
abbrev cX1_copyFrom : ByteArray := prog_3_method_2_code
def yX1_copyFrom : MethodName := ⟨RX1, "copyFrom", "(LHutBookings$Guests;)V"⟩
abbrev cX1_add : ByteArray := prog_3_method_3_code
def yX1_add : MethodName := ⟨RX1, "add", "(IIII)I"⟩
abbrev cX1_knows : ByteArray := prog_3_method_4_code
def yX1_knows : MethodName := ⟨RX1, "knows", "(I)Z"⟩
abbrev cX1_end : ByteArray := prog_3_method_5_code
def yX1_end : MethodName := ⟨RX1, "end", "(I)I"⟩
abbrev cX1_holdsBeds : ByteArray := prog_3_method_6_code
def yX1_holdsBeds : MethodName := ⟨RX1, "holdsBeds", "(I)Z"⟩
abbrev cX1_isOver : ByteArray := prog_3_method_7_code
def yX1_isOver : MethodName := ⟨RX1, "isOver", "(II)Z"⟩
abbrev cX1_bedsTakenIn : ByteArray := prog_3_method_8_code
def yX1_bedsTakenIn : MethodName := ⟨RX1, "bedsTakenIn", "(I)I"⟩
abbrev cX1_bedsTakenFrom : ByteArray := prog_3_method_9_code
def yX1_bedsTakenFrom : MethodName := ⟨RX1, "bedsTakenFrom", "(II)I"⟩
abbrev cX1_fillBedsTaken : ByteArray := prog_3_method_10_code
def yX1_fillBedsTaken : MethodName := ⟨RX1, "fillBedsTaken", "([I)V"⟩
abbrev cX1_arrivingOn : ByteArray := prog_3_method_11_code
def yX1_arrivingOn : MethodName := ⟨RX1, "arrivingOn", "(I)I"⟩
abbrev cX1_endingOn : ByteArray := prog_3_method_12_code
def yX1_endingOn : MethodName := ⟨RX1, "endingOn", "(I)I"⟩
abbrev cX1_howMany : ByteArray := prog_3_method_13_code
def yX1_howMany : MethodName := ⟨RX1, "howMany", "(I)I"⟩
abbrev cX1_personsThere : ByteArray := prog_3_method_14_code
def yX1_personsThere : MethodName := ⟨RX1, "personsThere", "()I"⟩
abbrev cX1_depositsHeld : ByteArray := prog_3_method_15_code
def yX1_depositsHeld : MethodName := ⟨RX1, "depositsHeld", "()I"⟩
def RX2 : String := "HutBookings$History"
def TX2 : u_T := fun k => match k with
  | 0 => ("HutBookings$History", "states", "[LHutBookings$Hut;", true)
  | _ => ("HutBookings$History", "size", "I", false)
def tyX2 : Nat → FieldType := fun k => match k with
  | 0 => .array (.object "HutBookings$Hut")
  | _ => .int
abbrev wsX20 : List Cond := u_ws RX2 TX2 2
theorem nmX2 : ∀ a, a < 2 → ∀ b, b < 2 → a ≠ b → (TX2 a).2.1 ≠ (TX2 b).2.1 := by decide +kernel
theorem tyX2_ok : ∀ k, k < 2 → parseFieldDescriptor (TX2 k).2.2.1 = some (tyX2 k) := by decide +kernel
abbrev cX2_init : ByteArray := prog_4_method_1_code
def yX2_init : MethodName := ⟨RX2, "<init>", "()V"⟩
abbrev cX2_remember : ByteArray := prog_4_method_2_code
def yX2_remember : MethodName := ⟨RX2, "remember", "(LHutBookings$Hut;)V"⟩
abbrev cX2_dropOldest : ByteArray := prog_4_method_3_code
def yX2_dropOldest : MethodName := ⟨RX2, "dropOldest", "()V"⟩
abbrev cX2_giveBack : ByteArray := prog_4_method_4_code
def yX2_giveBack : MethodName := ⟨RX2, "giveBack", "(LHutBookings$Hut;)V"⟩
def RX3 : String := "HutBookings$Hut"
def TX3 : u_T := fun k => match k with
  | 0 => ("HutBookings$Hut", "settings", "[I", true)
  | 1 => ("HutBookings$Hut", "weatherRow", "[I", true)
  | 2 => ("HutBookings$Hut", "guests", "LHutBookings$Guests;", true)
  | 3 => ("HutBookings$Hut", "larder", "LHutBookings$Larder;", true)
  | 4 => ("HutBookings$Hut", "orders", "LHutBookings$Orders;", true)
  | 5 => ("HutBookings$Hut", "tally", "[I", true)
  | 6 => ("HutBookings$Hut", "today", "I", false)
  | 7 => ("HutBookings$Hut", "flightCalled", "Z", false)
  | 8 => ("HutBookings$Hut", "purse", "I", false)
  | 9 => ("HutBookings$Hut", "depositsKept", "I", false)
  | _ => ("HutBookings$Hut", "flightsPaid", "I", false)
def tyX3 : Nat → FieldType := fun k => match k with
  | 0 => .array .int
  | 1 => .array .int
  | 2 => .object "HutBookings$Guests"
  | 3 => .object "HutBookings$Larder"
  | 4 => .object "HutBookings$Orders"
  | 5 => .array .int
  | 6 => .int
  | 7 => .boolean
  | 8 => .int
  | 9 => .int
  | _ => .int
abbrev wsX30 : List Cond := u_ws RX3 TX3 11
theorem nmX3 : ∀ a, a < 11 → ∀ b, b < 11 → a ≠ b → (TX3 a).2.1 ≠ (TX3 b).2.1 := by decide +kernel
theorem tyX3_ok : ∀ k, k < 11 → parseFieldDescriptor (TX3 k).2.2.1 = some (tyX3 k) := by decide +kernel
abbrev cX3_init : ByteArray := prog_5_method_1_code
def yX3_init : MethodName := ⟨RX3, "<init>", "()V"⟩
abbrev cX3_copyFrom : ByteArray := prog_5_method_2_code
def yX3_copyFrom : MethodName := ⟨RX3, "copyFrom", "(LHutBookings$Hut;)V"⟩
abbrev cX3_weatherOf : ByteArray := prog_5_method_3_code
def yX3_weatherOf : MethodName := ⟨RX3, "weatherOf", "(I)I"⟩
abbrev cX3_isUpOpen : ByteArray := prog_5_method_4_code
def yX3_isUpOpen : MethodName := ⟨RX3, "isUpOpen", "(I)Z"⟩
abbrev cX3_isDownOpen : ByteArray := prog_5_method_5_code
def yX3_isDownOpen : MethodName := ⟨RX3, "isDownOpen", "()Z"⟩
abbrev cX3_isWindy : ByteArray := prog_5_method_6_code
def yX3_isWindy : MethodName := ⟨RX3, "isWindy", "()Z"⟩
abbrev cX3_daysWithOtherWeather : ByteArray := prog_5_method_7_code
def yX3_daysWithOtherWeather : MethodName := ⟨RX3, "daysWithOtherWeather", "(III)I"⟩
abbrev cX3_changeWeather : ByteArray := prog_5_method_8_code
def yX3_changeWeather : MethodName := ⟨RX3, "changeWeather", "(III)V"⟩
abbrev cX3_bookingError : ByteArray := prog_5_method_9_code
def yX3_bookingError : MethodName := ⟨RX3, "bookingError", "(III)I"⟩
abbrev cX3_addBooking : ByteArray := prog_5_method_10_code
def yX3_addBooking : MethodName := ⟨RX3, "addBooking", "(III)I"⟩
abbrev cX3_hasBeds : ByteArray := prog_5_method_11_code
def yX3_hasBeds : MethodName := ⟨RX3, "hasBeds", "(III)Z"⟩
abbrev cX3_refundOf : ByteArray := prog_5_method_12_code
def yX3_refundOf : MethodName := ⟨RX3, "refundOf", "(I)I"⟩
abbrev cX3_cancelBooking : ByteArray := prog_5_method_13_code
def yX3_cancelBooking : MethodName := ⟨RX3, "cancelBooking", "(I)I"⟩
abbrev cX3_canStayLonger : ByteArray := prog_5_method_14_code
def yX3_canStayLonger : MethodName := ⟨RX3, "canStayLonger", "(II)Z"⟩
abbrev cX3_isStrandedNow : ByteArray := prog_5_method_15_code
def yX3_isStrandedNow : MethodName := ⟨RX3, "isStrandedNow", "(I)Z"⟩
abbrev cX3_passDay : ByteArray := prog_5_method_16_code
def yX3_passDay : MethodName := ⟨RX3, "passDay", "()V"⟩
abbrev cX3_beginDay : ByteArray := prog_5_method_17_code
def yX3_beginDay : MethodName := ⟨RX3, "beginDay", "()V"⟩
abbrev cX3_endDay : ByteArray := prog_5_method_18_code
def yX3_endDay : MethodName := ⟨RX3, "endDay", "()V"⟩
abbrev cX3_letGroupsLeave : ByteArray := prog_5_method_19_code
def yX3_letGroupsLeave : MethodName := ⟨RX3, "letGroupsLeave", "()V"⟩
abbrev cX3_letLeave : ByteArray := prog_5_method_20_code
def yX3_letLeave : MethodName := ⟨RX3, "letLeave", "(I)V"⟩
abbrev cX3_turnLateOnesAway : ByteArray := prog_5_method_21_code
def yX3_turnLateOnesAway : MethodName := ⟨RX3, "turnLateOnesAway", "()V"⟩
abbrev cX3_turnAway : ByteArray := prog_5_method_22_code
def yX3_turnAway : MethodName := ⟨RX3, "turnAway", "(I)V"⟩
abbrev cX3_letGroupsCome : ByteArray := prog_5_method_23_code
def yX3_letGroupsCome : MethodName := ⟨RX3, "letGroupsCome", "()V"⟩
abbrev cX3_bring : ByteArray := prog_5_method_24_code
def yX3_bring : MethodName := ⟨RX3, "bring", "(I)V"⟩
abbrev cX3_fly : ByteArray := prog_5_method_25_code
def yX3_fly : MethodName := ⟨RX3, "fly", "()V"⟩
abbrev cX3_fillSeats : ByteArray := prog_5_method_26_code
def yX3_fillSeats : MethodName := ⟨RX3, "fillSeats", "(Z)I"⟩
abbrev cX3_letAllEat : ByteArray := prog_5_method_27_code
def yX3_letAllEat : MethodName := ⟨RX3, "letAllEat", "()V"⟩
abbrev cX3_letAllSleep : ByteArray := prog_5_method_28_code
def yX3_letAllSleep : MethodName := ⟨RX3, "letAllSleep", "()V"⟩
def RX4 : String := "HutBookings$Larder"
def TX4 : u_T := fun k => match k with
  | 0 => ("HutBookings$Larder", "fresh", "[I", true)
  | _ => ("HutBookings$Larder", "dry", "I", false)
def tyX4 : Nat → FieldType := fun k => match k with
  | 0 => .array .int
  | _ => .int
abbrev wsX40 : List Cond := u_ws RX4 TX4 2
theorem nmX4 : ∀ a, a < 2 → ∀ b, b < 2 → a ≠ b → (TX4 a).2.1 ≠ (TX4 b).2.1 := by decide +kernel
theorem tyX4_ok : ∀ k, k < 2 → parseFieldDescriptor (TX4 k).2.2.1 = some (tyX4 k) := by decide +kernel
abbrev cX4_init : ByteArray := prog_6_method_1_code
def yX4_init : MethodName := ⟨RX4, "<init>", "()V"⟩
abbrev cX4_copyFrom : ByteArray := prog_6_method_2_code
def yX4_copyFrom : MethodName := ⟨RX4, "copyFrom", "(LHutBookings$Larder;)V"⟩
abbrev cX4_slotOf : ByteArray := prog_6_method_3_code
def yX4_slotOf : MethodName := ⟨RX4, "slotOf", "(I)I"⟩
abbrev cX4_freshOf : ByteArray := prog_6_method_4_code
def yX4_freshOf : MethodName := ⟨RX4, "freshOf", "(I)I"⟩
abbrev cX4_allFresh : ByteArray := prog_6_method_5_code
def yX4_allFresh : MethodName := ⟨RX4, "allFresh", "()I"⟩
abbrev cX4_dayOfRank : ByteArray := prog_6_method_6_code
def yX4_dayOfRank : MethodName := ⟨RX4, "dayOfRank", "(II)I"⟩
abbrev cX4_throwSpoiltAway : ByteArray := prog_6_method_7_code
def yX4_throwSpoiltAway : MethodName := ⟨RX4, "throwSpoiltAway", "(II)I"⟩
abbrev cX4_store : ByteArray := prog_6_method_8_code
def yX4_store : MethodName := ⟨RX4, "store", "(III)V"⟩
abbrev cX4_eat : ByteArray := prog_6_method_9_code
def yX4_eat : MethodName := ⟨RX4, "eat", "(II)I"⟩
def RX5 : String := "HutBookings$Orders"
def TX5 : u_T := fun k => match k with
  | 0 => ("HutBookings$Orders", "kinds", "[I", true)
  | 1 => ("HutBookings$Orders", "portions", "[I", true)
  | _ => ("HutBookings$Orders", "size", "I", false)
def tyX5 : Nat → FieldType := fun k => match k with
  | 0 => .array .int
  | 1 => .array .int
  | _ => .int
abbrev wsX50 : List Cond := u_ws RX5 TX5 3
theorem nmX5 : ∀ a, a < 3 → ∀ b, b < 3 → a ≠ b → (TX5 a).2.1 ≠ (TX5 b).2.1 := by decide +kernel
theorem tyX5_ok : ∀ k, k < 3 → parseFieldDescriptor (TX5 k).2.2.1 = some (tyX5 k) := by decide +kernel
abbrev cX5_init : ByteArray := prog_7_method_1_code
def yX5_init : MethodName := ⟨RX5, "<init>", "()V"⟩
abbrev cX5_copyFrom : ByteArray := prog_7_method_2_code
def yX5_copyFrom : MethodName := ⟨RX5, "copyFrom", "(LHutBookings$Orders;)V"⟩
abbrev cX5_append : ByteArray := prog_7_method_3_code
def yX5_append : MethodName := ⟨RX5, "append", "(II)V"⟩
abbrev cX5_removeLast : ByteArray := prog_7_method_4_code
def yX5_removeLast : MethodName := ⟨RX5, "removeLast", "()I"⟩
abbrev cX5_takeFromFirst : ByteArray := prog_7_method_5_code
def yX5_takeFromFirst : MethodName := ⟨RX5, "takeFromFirst", "(I)I"⟩
abbrev cX5_removeFirst : ByteArray := prog_7_method_6_code
def yX5_removeFirst : MethodName := ⟨RX5, "removeFirst", "()V"⟩
abbrev cX5_allPortions : ByteArray := prog_7_method_7_code
def yX5_allPortions : MethodName := ⟨RX5, "allPortions", "()I"⟩
def RX6 : String := "HutBookings"
def TX6 : u_T := fun k => match k with
  | 0 => ("HutBookings", "hut", "LHutBookings$Hut;", true)
  | 1 => ("HutBookings", "trial", "LHutBookings$Hut;", true)
  | 2 => ("HutBookings", "snapshot", "LHutBookings$Hut;", true)
  | 3 => ("HutBookings", "hasSnapshot", "Z", false)
  | 4 => ("HutBookings", "history", "LHutBookings$History;", true)
  | 5 => ("HutBookings", "text", "LHutBookings$BookingText;", true)
  | _ => ("HutBookings", "bedsTaken", "[I", true)
def tyX6 : Nat → FieldType := fun k => match k with
  | 0 => .object "HutBookings$Hut"
  | 1 => .object "HutBookings$Hut"
  | 2 => .object "HutBookings$Hut"
  | 3 => .boolean
  | 4 => .object "HutBookings$History"
  | 5 => .object "HutBookings$BookingText"
  | _ => .array .int
abbrev wsX60 : List Cond := u_ws RX6 TX6 7
theorem nmX6 : ∀ a, a < 7 → ∀ b, b < 7 → a ≠ b → (TX6 a).2.1 ≠ (TX6 b).2.1 := by decide +kernel
theorem tyX6_ok : ∀ k, k < 7 → parseFieldDescriptor (TX6 k).2.2.1 = some (tyX6 k) := by decide +kernel
abbrev cX6_init : ByteArray := prog_1_method_1_code
def yX6_init : MethodName := ⟨RX6, "<init>", "()V"⟩
abbrev cX6_book : ByteArray := prog_1_method_2_code
def yX6_book : MethodName := ⟨RX6, "book", "(III)I"⟩
abbrev cX6_bookAll : ByteArray := prog_1_method_3_code
def yX6_bookAll : MethodName := ⟨RX6, "bookAll", "()I"⟩
abbrev cX6_cancel : ByteArray := prog_1_method_4_code
def yX6_cancel : MethodName := ⟨RX6, "cancel", "(I)I"⟩
abbrev cX6_extend : ByteArray := prog_1_method_5_code
def yX6_extend : MethodName := ⟨RX6, "extend", "(II)I"⟩
abbrev cX6_weather : ByteArray := prog_1_method_6_code
def yX6_weather : MethodName := ⟨RX6, "weather", "(III)I"⟩
abbrev cX6_order : ByteArray := prog_1_method_7_code
def yX6_order : MethodName := ⟨RX6, "order", "(II)I"⟩
abbrev cX6_recall : ByteArray := prog_1_method_8_code
def yX6_recall : MethodName := ⟨RX6, "recall", "()I"⟩
abbrev cX6_flight : ByteArray := prog_1_method_9_code
def yX6_flight : MethodName := ⟨RX6, "flight", "(Z)I"⟩
abbrev cX6_pass : ByteArray := prog_1_method_10_code
def yX6_pass : MethodName := ⟨RX6, "pass", "(I)I"⟩
abbrev cX6_set : ByteArray := prog_1_method_11_code
def yX6_set : MethodName := ⟨RX6, "set", "(II)I"⟩
abbrev cX6_type : ByteArray := prog_1_method_12_code
def yX6_type : MethodName := ⟨RX6, "type", "(C)I"⟩
abbrev cX6_clearText : ByteArray := prog_1_method_13_code
def yX6_clearText : MethodName := ⟨RX6, "clearText", "()I"⟩
abbrev cX6_fault : ByteArray := prog_1_method_14_code
def yX6_fault : MethodName := ⟨RX6, "fault", "()I"⟩
abbrev cX6_undo : ByteArray := prog_1_method_15_code
def yX6_undo : MethodName := ⟨RX6, "undo", "()I"⟩
abbrev cX6_keep : ByteArray := prog_1_method_16_code
def yX6_keep : MethodName := ⟨RX6, "keep", "()I"⟩
abbrev cX6_restore : ByteArray := prog_1_method_17_code
def yX6_restore : MethodName := ⟨RX6, "restore", "()I"⟩
abbrev cX6_booking : ByteArray := prog_1_method_18_code
def yX6_booking : MethodName := ⟨RX6, "booking", "(II)I"⟩
abbrev cX6_day : ByteArray := prog_1_method_19_code
def yX6_day : MethodName := ⟨RX6, "day", "(II)I"⟩
abbrev cX6_fresh : ByteArray := prog_1_method_20_code
def yX6_fresh : MethodName := ⟨RX6, "fresh", "(II)I"⟩
abbrev cX6_waiting : ByteArray := prog_1_method_21_code
def yX6_waiting : MethodName := ⟨RX6, "waiting", "(II)I"⟩
abbrev cX6_count : ByteArray := prog_1_method_22_code
def yX6_count : MethodName := ⟨RX6, "count", "(I)I"⟩
abbrev cX6_coins : ByteArray := prog_1_method_23_code
def yX6_coins : MethodName := ⟨RX6, "coins", "(I)I"⟩
abbrev cX6_use : ByteArray := prog_1_method_24_code
def yX6_use : MethodName := ⟨RX6, "use", "(II)D"⟩
abbrev cX6_refund : ByteArray := prog_1_method_25_code
def yX6_refund : MethodName := ⟨RX6, "refund", "(I)I"⟩
abbrev cX6_firstFree : ByteArray := prog_1_method_26_code
def yX6_firstFree : MethodName := ⟨RX6, "firstFree", "(II)I"⟩
abbrev cX6_hungryIn : ByteArray := prog_1_method_27_code
def yX6_hungryIn : MethodName := ⟨RX6, "hungryIn", "()I"⟩
abbrev cX6_wanting : ByteArray := prog_1_method_28_code
def yX6_wanting : MethodName := ⟨RX6, "wanting", "(I)I"⟩
abbrev cX6_goneIn : ByteArray := prog_1_method_29_code
def yX6_goneIn : MethodName := ⟨RX6, "goneIn", "(I)I"⟩
abbrev cX6_turnedAway : ByteArray := prog_1_method_30_code
def yX6_turnedAway : MethodName := ⟨RX6, "turnedAway", "(I)I"⟩
abbrev cX6_bestCall : ByteArray := prog_1_method_31_code
def yX6_bestCall : MethodName := ⟨RX6, "bestCall", "()I"⟩
abbrev cX6_fullest : ByteArray := prog_1_method_32_code
def yX6_fullest : MethodName := ⟨RX6, "fullest", "()I"⟩
abbrev cX6_errorUnlessBooked : ByteArray := prog_1_method_33_code
def yX6_errorUnlessBooked : MethodName := ⟨RX6, "errorUnlessBooked", "(I)I"⟩
abbrev cX6_mostBedsTaken : ByteArray := prog_1_method_34_code
def yX6_mostBedsTaken : MethodName := ⟨RX6, "mostBedsTaken", "()I"⟩
abbrev cX6_passInTrial : ByteArray := prog_1_method_35_code
def yX6_passInTrial : MethodName := ⟨RX6, "passInTrial", "(I)V"⟩
abbrev cX6_areNightsAndPersons : ByteArray := prog_1_method_36_code
def yX6_areNightsAndPersons : MethodName := ⟨RX6, "areNightsAndPersons", "(II)Z"⟩
def RX7 : String := "HutBookingsModel"
def TX7 : u_T := fun k => match k with
  | 0 => ("HutBookingsModel", "now", "[I", true)
  | 1 => ("HutBookingsModel", "slot", "[I", true)
  | 2 => ("HutBookingsModel", "beside", "[I", true)
  | 3 => ("HutBookingsModel", "history", "[I", true)
  | 4 => ("HutBookingsModel", "text", "[I", true)
  | 5 => ("HutBookingsModel", "place", "I", false)
  | 6 => ("HutBookingsModel", "kept", "I", false)
  | 7 => ("HutBookingsModel", "length", "I", false)
  | _ => ("HutBookingsModel", "isFilled", "Z", false)
def tyX7 : Nat → FieldType := fun k => match k with
  | 0 => .array .int
  | 1 => .array .int
  | 2 => .array .int
  | 3 => .array .int
  | 4 => .array .int
  | 5 => .int
  | 6 => .int
  | 7 => .int
  | _ => .boolean
abbrev wsX70 : List Cond := u_ws RX7 TX7 9
theorem nmX7 : ∀ a, a < 9 → ∀ b, b < 9 → a ≠ b → (TX7 a).2.1 ≠ (TX7 b).2.1 := by decide +kernel
theorem tyX7_ok : ∀ k, k < 9 → parseFieldDescriptor (TX7 k).2.2.1 = some (tyX7 k) := by decide +kernel
abbrev cX7_init : ByteArray := prog_9_method_1_code
def yX7_init : MethodName := ⟨RX7, "<init>", "()V"⟩
abbrev cX7_in : ByteArray := prog_9_method_2_code
def yX7_in : MethodName := ⟨RX7, "in", "(III)Z"⟩
abbrev cX7_record : ByteArray := prog_9_method_3_code
def yX7_record : MethodName := ⟨RX7, "record", "()V"⟩
abbrev cX7_lay : ByteArray := prog_9_method_4_code
def yX7_lay : MethodName := ⟨RX7, "lay", "()V"⟩
abbrev cX7_takeBack : ByteArray := prog_9_method_5_code
def yX7_takeBack : MethodName := ⟨RX7, "takeBack", "()V"⟩
abbrev cX7_of : ByteArray := prog_9_method_6_code
def yX7_of : MethodName := ⟨RX7, "of", "(II)I"⟩
abbrev cX7_put : ByteArray := prog_9_method_7_code
def yX7_put : MethodName := ⟨RX7, "put", "(III)V"⟩
abbrev cX7_is : ByteArray := prog_9_method_8_code
def yX7_is : MethodName := ⟨RX7, "is", "(II)Z"⟩
abbrev cX7_end : ByteArray := prog_9_method_9_code
def yX7_end : MethodName := ⟨RX7, "end", "(I)I"⟩
abbrev cX7_isBooking : ByteArray := prog_9_method_10_code
def yX7_isBooking : MethodName := ⟨RX7, "isBooking", "(I)Z"⟩
abbrev cX7_weatherOf : ByteArray := prog_9_method_11_code
def yX7_weatherOf : MethodName := ⟨RX7, "weatherOf", "(I)I"⟩
abbrev cX7_isUpOpen : ByteArray := prog_9_method_12_code
def yX7_isUpOpen : MethodName := ⟨RX7, "isUpOpen", "(I)Z"⟩
abbrev cX7_isDownOpen : ByteArray := prog_9_method_13_code
def yX7_isDownOpen : MethodName := ⟨RX7, "isDownOpen", "(I)Z"⟩
abbrev cX7_isWindy : ByteArray := prog_9_method_14_code
def yX7_isWindy : MethodName := ⟨RX7, "isWindy", "(I)Z"⟩
abbrev cX7_inState : ByteArray := prog_9_method_15_code
def yX7_inState : MethodName := ⟨RX7, "inState", "(I)I"⟩
abbrev cX7_personsThere : ByteArray := prog_9_method_16_code
def yX7_personsThere : MethodName := ⟨RX7, "personsThere", "()I"⟩
abbrev cX7_taken : ByteArray := prog_9_method_17_code
def yX7_taken : MethodName := ⟨RX7, "taken", "(I)I"⟩
abbrev cX7_fits : ByteArray := prog_9_method_18_code
def yX7_fits : MethodName := ⟨RX7, "fits", "(III)Z"⟩
abbrev cX7_leave : ByteArray := prog_9_method_19_code
def yX7_leave : MethodName := ⟨RX7, "leave", "(I)V"⟩
abbrev cX7_turnAway : ByteArray := prog_9_method_20_code
def yX7_turnAway : MethodName := ⟨RX7, "turnAway", "(I)V"⟩
abbrev cX7_come : ByteArray := prog_9_method_21_code
def yX7_come : MethodName := ⟨RX7, "come", "(II)V"⟩
abbrev cX7_dropOrder : ByteArray := prog_9_method_22_code
def yX7_dropOrder : MethodName := ⟨RX7, "dropOrder", "(I)V"⟩
abbrev cX7_bring : ByteArray := prog_9_method_23_code
def yX7_bring : MethodName := ⟨RX7, "bring", "(II)V"⟩
abbrev cX7_fly : ByteArray := prog_9_method_24_code
def yX7_fly : MethodName := ⟨RX7, "fly", "(I)V"⟩
abbrev cX7_eat : ByteArray := prog_9_method_25_code
def yX7_eat : MethodName := ⟨RX7, "eat", "()V"⟩
abbrev cX7_sleep : ByteArray := prog_9_method_26_code
def yX7_sleep : MethodName := ⟨RX7, "sleep", "(I)V"⟩
abbrev cX7_passDay : ByteArray := prog_9_method_27_code
def yX7_passDay : MethodName := ⟨RX7, "passDay", "()V"⟩
abbrev cX7_tryToBook : ByteArray := prog_9_method_28_code
def yX7_tryToBook : MethodName := ⟨RX7, "tryToBook", "(III)I"⟩
abbrev cX7_addBooking : ByteArray := prog_9_method_29_code
def yX7_addBooking : MethodName := ⟨RX7, "addBooking", "(III)I"⟩
abbrev cX7_book : ByteArray := prog_9_method_30_code
def yX7_book : MethodName := ⟨RX7, "book", "(III)I"⟩
abbrev cX7_isNext : ByteArray := prog_9_method_31_code
def yX7_isNext : MethodName := ⟨RX7, "isNext", "(II)Z"⟩
abbrev cX7_readBooking : ByteArray := prog_9_method_32_code
def yX7_readBooking : MethodName := ⟨RX7, "readBooking", "()I"⟩
abbrev cX7_readAll : ByteArray := prog_9_method_33_code
def yX7_readAll : MethodName := ⟨RX7, "readAll", "()I"⟩
abbrev cX7_bookAll : ByteArray := prog_9_method_34_code
def yX7_bookAll : MethodName := ⟨RX7, "bookAll", "()I"⟩
abbrev cX7_refundOf : ByteArray := prog_9_method_35_code
def yX7_refundOf : MethodName := ⟨RX7, "refundOf", "(I)I"⟩
abbrev cX7_refund : ByteArray := prog_9_method_36_code
def yX7_refund : MethodName := ⟨RX7, "refund", "(I)I"⟩
abbrev cX7_cancel : ByteArray := prog_9_method_37_code
def yX7_cancel : MethodName := ⟨RX7, "cancel", "(I)I"⟩
abbrev cX7_extend : ByteArray := prog_9_method_38_code
def yX7_extend : MethodName := ⟨RX7, "extend", "(II)I"⟩
abbrev cX7_weather : ByteArray := prog_9_method_39_code
def yX7_weather : MethodName := ⟨RX7, "weather", "(III)I"⟩
abbrev cX7_order : ByteArray := prog_9_method_40_code
def yX7_order : MethodName := ⟨RX7, "order", "(II)I"⟩
abbrev cX7_recall : ByteArray := prog_9_method_41_code
def yX7_recall : MethodName := ⟨RX7, "recall", "()I"⟩
abbrev cX7_flight : ByteArray := prog_9_method_42_code
def yX7_flight : MethodName := ⟨RX7, "flight", "(Z)I"⟩
abbrev cX7_pass : ByteArray := prog_9_method_43_code
def yX7_pass : MethodName := ⟨RX7, "pass", "(I)I"⟩
abbrev cX7_most : ByteArray := prog_9_method_44_code
def yX7_most : MethodName := ⟨RX7, "most", "(I)I"⟩
abbrev cX7_set : ByteArray := prog_9_method_45_code
def yX7_set : MethodName := ⟨RX7, "set", "(II)I"⟩
abbrev cX7_type : ByteArray := prog_9_method_46_code
def yX7_type : MethodName := ⟨RX7, "type", "(C)I"⟩
abbrev cX7_clearText : ByteArray := prog_9_method_47_code
def yX7_clearText : MethodName := ⟨RX7, "clearText", "()I"⟩
abbrev cX7_fault : ByteArray := prog_9_method_48_code
def yX7_fault : MethodName := ⟨RX7, "fault", "()I"⟩
abbrev cX7_undo : ByteArray := prog_9_method_49_code
def yX7_undo : MethodName := ⟨RX7, "undo", "()I"⟩
abbrev cX7_keep : ByteArray := prog_9_method_50_code
def yX7_keep : MethodName := ⟨RX7, "keep", "()I"⟩
abbrev cX7_restore : ByteArray := prog_9_method_51_code
def yX7_restore : MethodName := ⟨RX7, "restore", "()I"⟩
abbrev cX7_booking : ByteArray := prog_9_method_52_code
def yX7_booking : MethodName := ⟨RX7, "booking", "(II)I"⟩
abbrev cX7_day : ByteArray := prog_9_method_53_code
def yX7_day : MethodName := ⟨RX7, "day", "(II)I"⟩
abbrev cX7_fresh : ByteArray := prog_9_method_54_code
def yX7_fresh : MethodName := ⟨RX7, "fresh", "(II)I"⟩
abbrev cX7_waiting : ByteArray := prog_9_method_55_code
def yX7_waiting : MethodName := ⟨RX7, "waiting", "(II)I"⟩
abbrev cX7_freshPortions : ByteArray := prog_9_method_56_code
def yX7_freshPortions : MethodName := ⟨RX7, "freshPortions", "()I"⟩
abbrev cX7_waitingPortions : ByteArray := prog_9_method_57_code
def yX7_waitingPortions : MethodName := ⟨RX7, "waitingPortions", "()I"⟩
abbrev cX7_count : ByteArray := prog_9_method_58_code
def yX7_count : MethodName := ⟨RX7, "count", "(I)I"⟩
abbrev cX7_coins : ByteArray := prog_9_method_59_code
def yX7_coins : MethodName := ⟨RX7, "coins", "(I)I"⟩
abbrev cX7_use : ByteArray := prog_9_method_60_code
def yX7_use : MethodName := ⟨RX7, "use", "(II)D"⟩
abbrev cX7_firstFree : ByteArray := prog_9_method_61_code
def yX7_firstFree : MethodName := ⟨RX7, "firstFree", "(II)I"⟩
abbrev cX7_hungryIn : ByteArray := prog_9_method_62_code
def yX7_hungryIn : MethodName := ⟨RX7, "hungryIn", "()I"⟩
abbrev cX7_grows : ByteArray := prog_9_method_63_code
def yX7_grows : MethodName := ⟨RX7, "grows", "(II)I"⟩
abbrev cX7_wanting : ByteArray := prog_9_method_64_code
def yX7_wanting : MethodName := ⟨RX7, "wanting", "(I)I"⟩
abbrev cX7_goneIn : ByteArray := prog_9_method_65_code
def yX7_goneIn : MethodName := ⟨RX7, "goneIn", "(I)I"⟩
abbrev cX7_turnedAway : ByteArray := prog_9_method_66_code
def yX7_turnedAway : MethodName := ⟨RX7, "turnedAway", "(I)I"⟩
abbrev cX7_takesDown : ByteArray := prog_9_method_67_code
def yX7_takesDown : MethodName := ⟨RX7, "takesDown", "(I)I"⟩
abbrev cX7_bestCall : ByteArray := prog_9_method_68_code
def yX7_bestCall : MethodName := ⟨RX7, "bestCall", "()I"⟩
abbrev cX7_fullest : ByteArray := prog_9_method_69_code
def yX7_fullest : MethodName := ⟨RX7, "fullest", "()I"⟩
def RJ9 : String := "java/lang/Math"
def TJ9 : u_T := fun k => match k with
  | _ => ("", "", "", false)
def tyJ9 : Nat → FieldType := fun k => match k with
  | _ => .int
abbrev wsJ90 : List Cond := u_ws RJ9 TJ9 0
theorem nmJ9 : ∀ a, a < 0 → ∀ b, b < 0 → a ≠ b → (TJ9 a).2.1 ≠ (TJ9 b).2.1 := by decide +kernel
theorem tyJ9_ok : ∀ k, k < 0 → parseFieldDescriptor (TJ9 k).2.2.1 = some (tyJ9 k) := by decide +kernel
abbrev cJ9_floorMod_7cf53 : ByteArray := prog_10_method_50_code
def yJ9_floorMod_7cf53 : MethodName := ⟨RJ9, "floorMod", "(II)I"⟩
abbrev cJ9_max_7cf53 : ByteArray := prog_10_method_65_code
def yJ9_max_7cf53 : MethodName := ⟨RJ9, "max", "(II)I"⟩
abbrev cJ9_min_7cf53 : ByteArray := prog_10_method_69_code
def yJ9_min_7cf53 : MethodName := ⟨RJ9, "min", "(II)I"⟩
def RJ10 : String := "java/lang/System"
def TJ10 : u_T := fun k => match k with
  | _ => ("", "", "", false)
def tyJ10 : Nat → FieldType := fun k => match k with
  | _ => .int
abbrev wsJ100 : List Cond := u_ws RJ10 TJ10 0
theorem nmJ10 : ∀ a, a < 0 → ∀ b, b < 0 → a ≠ b → (TJ10 a).2.1 ≠ (TJ10 b).2.1 := by decide +kernel
theorem tyJ10_ok : ∀ k, k < 0 → parseFieldDescriptor (TJ10 k).2.2.1 = some (tyJ10 k) := by decide +kernel
def RJ7 : String := "java/util/Arrays"
def TJ7 : u_T := fun k => match k with
  | _ => ("", "", "", false)
def tyJ7 : Nat → FieldType := fun k => match k with
  | _ => .int
abbrev wsJ70 : List Cond := u_ws RJ7 TJ7 0
theorem nmJ7 : ∀ a, a < 0 → ∀ b, b < 0 → a ≠ b → (TJ7 a).2.1 ≠ (TJ7 b).2.1 := by decide +kernel
theorem tyJ7_ok : ∀ k, k < 0 → parseFieldDescriptor (TJ7 k).2.2.1 = some (tyJ7 k) := by decide +kernel
abbrev cJ7_fill_53178 : ByteArray := prog_12_method_103_code
def yJ7_fill_53178 : MethodName := ⟨RJ7, "fill", "([II)V"⟩
def RL : String := "HutBookingsLaw"
abbrev cL_law : ByteArray := code
def yL_law : MethodName := ⟨RL, "law", "([I)Z"⟩
abbrev vwCl : List vw_C := [(RX0, TX0, 9), (RX1, TX1, 8), (RX2, TX2, 2), (RX3, TX3, 11), (RX4, TX4, 2), (RX5, TX5, 3), (RX6, TX6, 7), (RX7, TX7, 9)]
