section
/-- it names a row that stands outside the short library, so that rounds are read over the whole one from the start: else each slip in a name would read all parts anew. It says nothing. -/
theorem zz_wide : True := by
  have _z := @Jvm.Free.Cc.Seg.bool
  trivial
end
section
-- ===== PART A: goes FIRST, ahead of the names: the tables' words, and 'selects' of the private methods out of them =====
/-- a private method of a class that the tables say can be made, by its rows of tables_1 -/
def lw_okq (q : MethodName × Nat) : Prop := (q.1.cls ≠ "java/lang/invoke/MethodHandle" ∧ q.1.cls ≠ "java/lang/invoke/VarHandle") ∧ Cond.instantiable q.1.cls q.2 ∈ tables_1 ∧ Cond.privateMethod q.1 ∈ tables_1 ∧ Cond.instanceMethod q.1 ∈ tables_1
theorem lw_p0 : lw_okq (⟨"HutBookings$History", "dropOldest", "()V"⟩, 2) := ⟨⟨by decide +kernel, by decide +kernel⟩, List.mem_of_getElem? (i := 159) (by decide +kernel), List.mem_of_getElem? (i := 282) (by decide +kernel), List.mem_of_getElem? (i := 283) (by decide +kernel)⟩
theorem lw_p1 : lw_okq (⟨"HutBookings$BookingText", "accepts", "(C)Z"⟩, 9) := ⟨⟨by decide +kernel, by decide +kernel⟩, List.mem_of_getElem? (i := 176) (by decide +kernel), List.mem_of_getElem? (i := 322) (by decide +kernel), List.mem_of_getElem? (i := 323) (by decide +kernel)⟩
theorem lw_p2 : lw_okq (⟨"HutBookings$BookingText", "acceptsDayBegin", "(C)Z"⟩, 9) := ⟨⟨by decide +kernel, by decide +kernel⟩, List.mem_of_getElem? (i := 176) (by decide +kernel), List.mem_of_getElem? (i := 326) (by decide +kernel), List.mem_of_getElem? (i := 327) (by decide +kernel)⟩
theorem lw_p3 : lw_okq (⟨"HutBookings$BookingText", "moveTo", "(I)Z"⟩, 9) := ⟨⟨by decide +kernel, by decide +kernel⟩, List.mem_of_getElem? (i := 176) (by decide +kernel), List.mem_of_getElem? (i := 330) (by decide +kernel), List.mem_of_getElem? (i := 331) (by decide +kernel)⟩
theorem lw_p4 : lw_okq (⟨"HutBookings$BookingText", "acceptsDayDigit", "(C)Z"⟩, 9) := ⟨⟨by decide +kernel, by decide +kernel⟩, List.mem_of_getElem? (i := 176) (by decide +kernel), List.mem_of_getElem? (i := 334) (by decide +kernel), List.mem_of_getElem? (i := 335) (by decide +kernel)⟩
theorem lw_p5 : lw_okq (⟨"HutBookings$BookingText", "acceptsNights", "(C)Z"⟩, 9) := ⟨⟨by decide +kernel, by decide +kernel⟩, List.mem_of_getElem? (i := 176) (by decide +kernel), List.mem_of_getElem? (i := 338) (by decide +kernel), List.mem_of_getElem? (i := 339) (by decide +kernel)⟩
theorem lw_p6 : lw_okq (⟨"HutBookings$BookingText", "acceptsPersons", "(C)Z"⟩, 9) := ⟨⟨by decide +kernel, by decide +kernel⟩, List.mem_of_getElem? (i := 176) (by decide +kernel), List.mem_of_getElem? (i := 342) (by decide +kernel), List.mem_of_getElem? (i := 343) (by decide +kernel)⟩
theorem lw_p7 : lw_okq (⟨"HutBookings", "errorUnlessBooked", "(I)I"⟩, 7) := ⟨⟨by decide +kernel, by decide +kernel⟩, List.mem_of_getElem? (i := 13) (by decide +kernel), List.mem_of_getElem? (i := 353) (by decide +kernel), List.mem_of_getElem? (i := 354) (by decide +kernel)⟩
theorem lw_p8 : lw_okq (⟨"HutBookings$Hut", "letGroupsLeave", "()V"⟩, 11) := ⟨⟨by decide +kernel, by decide +kernel⟩, List.mem_of_getElem? (i := 21) (by decide +kernel), List.mem_of_getElem? (i := 454) (by decide +kernel), List.mem_of_getElem? (i := 455) (by decide +kernel)⟩
theorem lw_p9 : lw_okq (⟨"HutBookings$Hut", "letLeave", "(I)V"⟩, 11) := ⟨⟨by decide +kernel, by decide +kernel⟩, List.mem_of_getElem? (i := 21) (by decide +kernel), List.mem_of_getElem? (i := 462) (by decide +kernel), List.mem_of_getElem? (i := 463) (by decide +kernel)⟩
theorem lw_p10 : lw_okq (⟨"HutBookings$Hut", "turnLateOnesAway", "()V"⟩, 11) := ⟨⟨by decide +kernel, by decide +kernel⟩, List.mem_of_getElem? (i := 21) (by decide +kernel), List.mem_of_getElem? (i := 466) (by decide +kernel), List.mem_of_getElem? (i := 467) (by decide +kernel)⟩
theorem lw_p11 : lw_okq (⟨"HutBookings$Hut", "turnAway", "(I)V"⟩, 11) := ⟨⟨by decide +kernel, by decide +kernel⟩, List.mem_of_getElem? (i := 21) (by decide +kernel), List.mem_of_getElem? (i := 470) (by decide +kernel), List.mem_of_getElem? (i := 471) (by decide +kernel)⟩
theorem lw_p12 : lw_okq (⟨"HutBookings$Hut", "letGroupsCome", "()V"⟩, 11) := ⟨⟨by decide +kernel, by decide +kernel⟩, List.mem_of_getElem? (i := 21) (by decide +kernel), List.mem_of_getElem? (i := 474) (by decide +kernel), List.mem_of_getElem? (i := 475) (by decide +kernel)⟩
theorem lw_p13 : lw_okq (⟨"HutBookings$Hut", "bring", "(I)V"⟩, 11) := ⟨⟨by decide +kernel, by decide +kernel⟩, List.mem_of_getElem? (i := 21) (by decide +kernel), List.mem_of_getElem? (i := 482) (by decide +kernel), List.mem_of_getElem? (i := 483) (by decide +kernel)⟩
theorem lw_p14 : lw_okq (⟨"HutBookings$Orders", "removeFirst", "()V"⟩, 3) := ⟨⟨by decide +kernel, by decide +kernel⟩, List.mem_of_getElem? (i := 94) (by decide +kernel), List.mem_of_getElem? (i := 491) (by decide +kernel), List.mem_of_getElem? (i := 492) (by decide +kernel)⟩
theorem lw_p15 : lw_okq (⟨"HutBookings$Hut", "fly", "()V"⟩, 11) := ⟨⟨by decide +kernel, by decide +kernel⟩, List.mem_of_getElem? (i := 21) (by decide +kernel), List.mem_of_getElem? (i := 503) (by decide +kernel), List.mem_of_getElem? (i := 504) (by decide +kernel)⟩
def lw_privs_1 : List (MethodName × Nat) := [(⟨"HutBookings$History", "dropOldest", "()V"⟩, 2), (⟨"HutBookings$BookingText", "accepts", "(C)Z"⟩, 9), (⟨"HutBookings$BookingText", "acceptsDayBegin", "(C)Z"⟩, 9), (⟨"HutBookings$BookingText", "moveTo", "(I)Z"⟩, 9), (⟨"HutBookings$BookingText", "acceptsDayDigit", "(C)Z"⟩, 9), (⟨"HutBookings$BookingText", "acceptsNights", "(C)Z"⟩, 9), (⟨"HutBookings$BookingText", "acceptsPersons", "(C)Z"⟩, 9), (⟨"HutBookings", "errorUnlessBooked", "(I)I"⟩, 7), (⟨"HutBookings$Hut", "letGroupsLeave", "()V"⟩, 11), (⟨"HutBookings$Hut", "letLeave", "(I)V"⟩, 11), (⟨"HutBookings$Hut", "turnLateOnesAway", "()V"⟩, 11), (⟨"HutBookings$Hut", "turnAway", "(I)V"⟩, 11), (⟨"HutBookings$Hut", "letGroupsCome", "()V"⟩, 11), (⟨"HutBookings$Hut", "bring", "(I)V"⟩, 11), (⟨"HutBookings$Orders", "removeFirst", "()V"⟩, 3), (⟨"HutBookings$Hut", "fly", "()V"⟩, 11)]
theorem lw_r1 : ∀ q ∈ lw_privs_1, lw_okq q := List.forall_mem_cons.mpr ⟨lw_p0, List.forall_mem_cons.mpr ⟨lw_p1, List.forall_mem_cons.mpr ⟨lw_p2, List.forall_mem_cons.mpr ⟨lw_p3, List.forall_mem_cons.mpr ⟨lw_p4, List.forall_mem_cons.mpr ⟨lw_p5, List.forall_mem_cons.mpr ⟨lw_p6, List.forall_mem_cons.mpr ⟨lw_p7, List.forall_mem_cons.mpr ⟨lw_p8, List.forall_mem_cons.mpr ⟨lw_p9, List.forall_mem_cons.mpr ⟨lw_p10, List.forall_mem_cons.mpr ⟨lw_p11, List.forall_mem_cons.mpr ⟨lw_p12, List.forall_mem_cons.mpr ⟨lw_p13, List.forall_mem_cons.mpr ⟨lw_p14, List.forall_mem_cons.mpr ⟨lw_p15, fun _ h => absurd h List.not_mem_nil⟩⟩⟩⟩⟩⟩⟩⟩⟩⟩⟩⟩⟩⟩⟩⟩
theorem lw_p16 : lw_okq (⟨"HutBookings$Hut", "letAllEat", "()V"⟩, 11) := ⟨⟨by decide +kernel, by decide +kernel⟩, List.mem_of_getElem? (i := 21) (by decide +kernel), List.mem_of_getElem? (i := 515) (by decide +kernel), List.mem_of_getElem? (i := 516) (by decide +kernel)⟩
theorem lw_p17 : lw_okq (⟨"HutBookings$Hut", "letAllSleep", "()V"⟩, 11) := ⟨⟨by decide +kernel, by decide +kernel⟩, List.mem_of_getElem? (i := 21) (by decide +kernel), List.mem_of_getElem? (i := 524) (by decide +kernel), List.mem_of_getElem? (i := 525) (by decide +kernel)⟩
theorem lw_p18 : lw_okq (⟨"HutBookings", "mostBedsTaken", "()I"⟩, 7) := ⟨⟨by decide +kernel, by decide +kernel⟩, List.mem_of_getElem? (i := 13) (by decide +kernel), List.mem_of_getElem? (i := 536) (by decide +kernel), List.mem_of_getElem? (i := 537) (by decide +kernel)⟩
theorem lw_p19 : lw_okq (⟨"HutBookings", "passInTrial", "(I)V"⟩, 7) := ⟨⟨by decide +kernel, by decide +kernel⟩, List.mem_of_getElem? (i := 13) (by decide +kernel), List.mem_of_getElem? (i := 669) (by decide +kernel), List.mem_of_getElem? (i := 670) (by decide +kernel)⟩
theorem lw_p20 : lw_okq (⟨"HutBookingsModel", "tryToBook", "(III)I"⟩, 9) := ⟨⟨by decide +kernel, by decide +kernel⟩, List.mem_of_getElem? (i := 691) (by decide +kernel), List.mem_of_getElem? (i := 729) (by decide +kernel), List.mem_of_getElem? (i := 730) (by decide +kernel)⟩
theorem lw_p21 : lw_okq (⟨"HutBookingsModel", "fits", "(III)Z"⟩, 9) := ⟨⟨by decide +kernel, by decide +kernel⟩, List.mem_of_getElem? (i := 691) (by decide +kernel), List.mem_of_getElem? (i := 737) (by decide +kernel), List.mem_of_getElem? (i := 738) (by decide +kernel)⟩
theorem lw_p22 : lw_okq (⟨"HutBookingsModel", "taken", "(I)I"⟩, 9) := ⟨⟨by decide +kernel, by decide +kernel⟩, List.mem_of_getElem? (i := 691) (by decide +kernel), List.mem_of_getElem? (i := 741) (by decide +kernel), List.mem_of_getElem? (i := 742) (by decide +kernel)⟩
theorem lw_p23 : lw_okq (⟨"HutBookingsModel", "of", "(II)I"⟩, 9) := ⟨⟨by decide +kernel, by decide +kernel⟩, List.mem_of_getElem? (i := 691) (by decide +kernel), List.mem_of_getElem? (i := 745) (by decide +kernel), List.mem_of_getElem? (i := 746) (by decide +kernel)⟩
theorem lw_p24 : lw_okq (⟨"HutBookingsModel", "end", "(I)I"⟩, 9) := ⟨⟨by decide +kernel, by decide +kernel⟩, List.mem_of_getElem? (i := 691) (by decide +kernel), List.mem_of_getElem? (i := 749) (by decide +kernel), List.mem_of_getElem? (i := 750) (by decide +kernel)⟩
theorem lw_p25 : lw_okq (⟨"HutBookingsModel", "record", "()V"⟩, 9) := ⟨⟨by decide +kernel, by decide +kernel⟩, List.mem_of_getElem? (i := 691) (by decide +kernel), List.mem_of_getElem? (i := 755) (by decide +kernel), List.mem_of_getElem? (i := 756) (by decide +kernel)⟩
theorem lw_p26 : lw_okq (⟨"HutBookingsModel", "addBooking", "(III)I"⟩, 9) := ⟨⟨by decide +kernel, by decide +kernel⟩, List.mem_of_getElem? (i := 691) (by decide +kernel), List.mem_of_getElem? (i := 759) (by decide +kernel), List.mem_of_getElem? (i := 760) (by decide +kernel)⟩
theorem lw_p27 : lw_okq (⟨"HutBookingsModel", "put", "(III)V"⟩, 9) := ⟨⟨by decide +kernel, by decide +kernel⟩, List.mem_of_getElem? (i := 691) (by decide +kernel), List.mem_of_getElem? (i := 763) (by decide +kernel), List.mem_of_getElem? (i := 764) (by decide +kernel)⟩
theorem lw_p28 : lw_okq (⟨"HutBookingsModel", "readAll", "()I"⟩, 9) := ⟨⟨by decide +kernel, by decide +kernel⟩, List.mem_of_getElem? (i := 691) (by decide +kernel), List.mem_of_getElem? (i := 772) (by decide +kernel), List.mem_of_getElem? (i := 773) (by decide +kernel)⟩
theorem lw_p29 : lw_okq (⟨"HutBookingsModel", "readBooking", "()I"⟩, 9) := ⟨⟨by decide +kernel, by decide +kernel⟩, List.mem_of_getElem? (i := 691) (by decide +kernel), List.mem_of_getElem? (i := 776) (by decide +kernel), List.mem_of_getElem? (i := 777) (by decide +kernel)⟩
theorem lw_p30 : lw_okq (⟨"HutBookingsModel", "isNext", "(II)Z"⟩, 9) := ⟨⟨by decide +kernel, by decide +kernel⟩, List.mem_of_getElem? (i := 691) (by decide +kernel), List.mem_of_getElem? (i := 780) (by decide +kernel), List.mem_of_getElem? (i := 781) (by decide +kernel)⟩
theorem lw_p31 : lw_okq (⟨"HutBookingsModel", "lay", "()V"⟩, 9) := ⟨⟨by decide +kernel, by decide +kernel⟩, List.mem_of_getElem? (i := 691) (by decide +kernel), List.mem_of_getElem? (i := 784) (by decide +kernel), List.mem_of_getElem? (i := 785) (by decide +kernel)⟩
def lw_privs_2 : List (MethodName × Nat) := [(⟨"HutBookings$Hut", "letAllEat", "()V"⟩, 11), (⟨"HutBookings$Hut", "letAllSleep", "()V"⟩, 11), (⟨"HutBookings", "mostBedsTaken", "()I"⟩, 7), (⟨"HutBookings", "passInTrial", "(I)V"⟩, 7), (⟨"HutBookingsModel", "tryToBook", "(III)I"⟩, 9), (⟨"HutBookingsModel", "fits", "(III)Z"⟩, 9), (⟨"HutBookingsModel", "taken", "(I)I"⟩, 9), (⟨"HutBookingsModel", "of", "(II)I"⟩, 9), (⟨"HutBookingsModel", "end", "(I)I"⟩, 9), (⟨"HutBookingsModel", "record", "()V"⟩, 9), (⟨"HutBookingsModel", "addBooking", "(III)I"⟩, 9), (⟨"HutBookingsModel", "put", "(III)V"⟩, 9), (⟨"HutBookingsModel", "readAll", "()I"⟩, 9), (⟨"HutBookingsModel", "readBooking", "()I"⟩, 9), (⟨"HutBookingsModel", "isNext", "(II)Z"⟩, 9), (⟨"HutBookingsModel", "lay", "()V"⟩, 9)]
theorem lw_r2 : ∀ q ∈ lw_privs_2, lw_okq q := List.forall_mem_cons.mpr ⟨lw_p16, List.forall_mem_cons.mpr ⟨lw_p17, List.forall_mem_cons.mpr ⟨lw_p18, List.forall_mem_cons.mpr ⟨lw_p19, List.forall_mem_cons.mpr ⟨lw_p20, List.forall_mem_cons.mpr ⟨lw_p21, List.forall_mem_cons.mpr ⟨lw_p22, List.forall_mem_cons.mpr ⟨lw_p23, List.forall_mem_cons.mpr ⟨lw_p24, List.forall_mem_cons.mpr ⟨lw_p25, List.forall_mem_cons.mpr ⟨lw_p26, List.forall_mem_cons.mpr ⟨lw_p27, List.forall_mem_cons.mpr ⟨lw_p28, List.forall_mem_cons.mpr ⟨lw_p29, List.forall_mem_cons.mpr ⟨lw_p30, List.forall_mem_cons.mpr ⟨lw_p31, fun _ h => absurd h List.not_mem_nil⟩⟩⟩⟩⟩⟩⟩⟩⟩⟩⟩⟩⟩⟩⟩⟩
theorem lw_p32 : lw_okq (⟨"HutBookingsModel", "takeBack", "()V"⟩, 9) := ⟨⟨by decide +kernel, by decide +kernel⟩, List.mem_of_getElem? (i := 691) (by decide +kernel), List.mem_of_getElem? (i := 788) (by decide +kernel), List.mem_of_getElem? (i := 789) (by decide +kernel)⟩
theorem lw_p33 : lw_okq (⟨"HutBookingsModel", "isBooking", "(I)Z"⟩, 9) := ⟨⟨by decide +kernel, by decide +kernel⟩, List.mem_of_getElem? (i := 691) (by decide +kernel), List.mem_of_getElem? (i := 796) (by decide +kernel), List.mem_of_getElem? (i := 797) (by decide +kernel)⟩
theorem lw_p34 : lw_okq (⟨"HutBookingsModel", "is", "(II)Z"⟩, 9) := ⟨⟨by decide +kernel, by decide +kernel⟩, List.mem_of_getElem? (i := 691) (by decide +kernel), List.mem_of_getElem? (i := 801) (by decide +kernel), List.mem_of_getElem? (i := 802) (by decide +kernel)⟩
theorem lw_p35 : lw_okq (⟨"HutBookingsModel", "refundOf", "(I)I"⟩, 9) := ⟨⟨by decide +kernel, by decide +kernel⟩, List.mem_of_getElem? (i := 691) (by decide +kernel), List.mem_of_getElem? (i := 805) (by decide +kernel), List.mem_of_getElem? (i := 806) (by decide +kernel)⟩
theorem lw_p36 : lw_okq (⟨"HutBookingsModel", "isUpOpen", "(I)Z"⟩, 9) := ⟨⟨by decide +kernel, by decide +kernel⟩, List.mem_of_getElem? (i := 691) (by decide +kernel), List.mem_of_getElem? (i := 809) (by decide +kernel), List.mem_of_getElem? (i := 810) (by decide +kernel)⟩
theorem lw_p37 : lw_okq (⟨"HutBookingsModel", "weatherOf", "(I)I"⟩, 9) := ⟨⟨by decide +kernel, by decide +kernel⟩, List.mem_of_getElem? (i := 691) (by decide +kernel), List.mem_of_getElem? (i := 813) (by decide +kernel), List.mem_of_getElem? (i := 814) (by decide +kernel)⟩
theorem lw_p38 : lw_okq (⟨"HutBookingsModel", "dropOrder", "(I)V"⟩, 9) := ⟨⟨by decide +kernel, by decide +kernel⟩, List.mem_of_getElem? (i := 691) (by decide +kernel), List.mem_of_getElem? (i := 838) (by decide +kernel), List.mem_of_getElem? (i := 839) (by decide +kernel)⟩
theorem lw_p39 : lw_okq (⟨"HutBookingsModel", "passDay", "()V"⟩, 9) := ⟨⟨by decide +kernel, by decide +kernel⟩, List.mem_of_getElem? (i := 691) (by decide +kernel), List.mem_of_getElem? (i := 850) (by decide +kernel), List.mem_of_getElem? (i := 851) (by decide +kernel)⟩
theorem lw_p40 : lw_okq (⟨"HutBookingsModel", "isDownOpen", "(I)Z"⟩, 9) := ⟨⟨by decide +kernel, by decide +kernel⟩, List.mem_of_getElem? (i := 691) (by decide +kernel), List.mem_of_getElem? (i := 854) (by decide +kernel), List.mem_of_getElem? (i := 855) (by decide +kernel)⟩
theorem lw_p41 : lw_okq (⟨"HutBookingsModel", "leave", "(I)V"⟩, 9) := ⟨⟨by decide +kernel, by decide +kernel⟩, List.mem_of_getElem? (i := 691) (by decide +kernel), List.mem_of_getElem? (i := 858) (by decide +kernel), List.mem_of_getElem? (i := 859) (by decide +kernel)⟩
theorem lw_p42 : lw_okq (⟨"HutBookingsModel", "turnAway", "(I)V"⟩, 9) := ⟨⟨by decide +kernel, by decide +kernel⟩, List.mem_of_getElem? (i := 691) (by decide +kernel), List.mem_of_getElem? (i := 862) (by decide +kernel), List.mem_of_getElem? (i := 863) (by decide +kernel)⟩
theorem lw_p43 : lw_okq (⟨"HutBookingsModel", "come", "(II)V"⟩, 9) := ⟨⟨by decide +kernel, by decide +kernel⟩, List.mem_of_getElem? (i := 691) (by decide +kernel), List.mem_of_getElem? (i := 866) (by decide +kernel), List.mem_of_getElem? (i := 867) (by decide +kernel)⟩
theorem lw_p44 : lw_okq (⟨"HutBookingsModel", "personsThere", "()I"⟩, 9) := ⟨⟨by decide +kernel, by decide +kernel⟩, List.mem_of_getElem? (i := 691) (by decide +kernel), List.mem_of_getElem? (i := 870) (by decide +kernel), List.mem_of_getElem? (i := 871) (by decide +kernel)⟩
theorem lw_p45 : lw_okq (⟨"HutBookingsModel", "bring", "(II)V"⟩, 9) := ⟨⟨by decide +kernel, by decide +kernel⟩, List.mem_of_getElem? (i := 691) (by decide +kernel), List.mem_of_getElem? (i := 874) (by decide +kernel), List.mem_of_getElem? (i := 875) (by decide +kernel)⟩
theorem lw_p46 : lw_okq (⟨"HutBookingsModel", "isWindy", "(I)Z"⟩, 9) := ⟨⟨by decide +kernel, by decide +kernel⟩, List.mem_of_getElem? (i := 691) (by decide +kernel), List.mem_of_getElem? (i := 878) (by decide +kernel), List.mem_of_getElem? (i := 879) (by decide +kernel)⟩
theorem lw_p47 : lw_okq (⟨"HutBookingsModel", "fly", "(I)V"⟩, 9) := ⟨⟨by decide +kernel, by decide +kernel⟩, List.mem_of_getElem? (i := 691) (by decide +kernel), List.mem_of_getElem? (i := 882) (by decide +kernel), List.mem_of_getElem? (i := 883) (by decide +kernel)⟩
def lw_privs_3 : List (MethodName × Nat) := [(⟨"HutBookingsModel", "takeBack", "()V"⟩, 9), (⟨"HutBookingsModel", "isBooking", "(I)Z"⟩, 9), (⟨"HutBookingsModel", "is", "(II)Z"⟩, 9), (⟨"HutBookingsModel", "refundOf", "(I)I"⟩, 9), (⟨"HutBookingsModel", "isUpOpen", "(I)Z"⟩, 9), (⟨"HutBookingsModel", "weatherOf", "(I)I"⟩, 9), (⟨"HutBookingsModel", "dropOrder", "(I)V"⟩, 9), (⟨"HutBookingsModel", "passDay", "()V"⟩, 9), (⟨"HutBookingsModel", "isDownOpen", "(I)Z"⟩, 9), (⟨"HutBookingsModel", "leave", "(I)V"⟩, 9), (⟨"HutBookingsModel", "turnAway", "(I)V"⟩, 9), (⟨"HutBookingsModel", "come", "(II)V"⟩, 9), (⟨"HutBookingsModel", "personsThere", "()I"⟩, 9), (⟨"HutBookingsModel", "bring", "(II)V"⟩, 9), (⟨"HutBookingsModel", "isWindy", "(I)Z"⟩, 9), (⟨"HutBookingsModel", "fly", "(I)V"⟩, 9)]
theorem lw_r3 : ∀ q ∈ lw_privs_3, lw_okq q := List.forall_mem_cons.mpr ⟨lw_p32, List.forall_mem_cons.mpr ⟨lw_p33, List.forall_mem_cons.mpr ⟨lw_p34, List.forall_mem_cons.mpr ⟨lw_p35, List.forall_mem_cons.mpr ⟨lw_p36, List.forall_mem_cons.mpr ⟨lw_p37, List.forall_mem_cons.mpr ⟨lw_p38, List.forall_mem_cons.mpr ⟨lw_p39, List.forall_mem_cons.mpr ⟨lw_p40, List.forall_mem_cons.mpr ⟨lw_p41, List.forall_mem_cons.mpr ⟨lw_p42, List.forall_mem_cons.mpr ⟨lw_p43, List.forall_mem_cons.mpr ⟨lw_p44, List.forall_mem_cons.mpr ⟨lw_p45, List.forall_mem_cons.mpr ⟨lw_p46, List.forall_mem_cons.mpr ⟨lw_p47, fun _ h => absurd h List.not_mem_nil⟩⟩⟩⟩⟩⟩⟩⟩⟩⟩⟩⟩⟩⟩⟩⟩
theorem lw_p48 : lw_okq (⟨"HutBookingsModel", "eat", "()V"⟩, 9) := ⟨⟨by decide +kernel, by decide +kernel⟩, List.mem_of_getElem? (i := 691) (by decide +kernel), List.mem_of_getElem? (i := 886) (by decide +kernel), List.mem_of_getElem? (i := 887) (by decide +kernel)⟩
theorem lw_p49 : lw_okq (⟨"HutBookingsModel", "sleep", "(I)V"⟩, 9) := ⟨⟨by decide +kernel, by decide +kernel⟩, List.mem_of_getElem? (i := 691) (by decide +kernel), List.mem_of_getElem? (i := 890) (by decide +kernel), List.mem_of_getElem? (i := 891) (by decide +kernel)⟩
theorem lw_p50 : lw_okq (⟨"HutBookingsModel", "inState", "(I)I"⟩, 9) := ⟨⟨by decide +kernel, by decide +kernel⟩, List.mem_of_getElem? (i := 691) (by decide +kernel), List.mem_of_getElem? (i := 945) (by decide +kernel), List.mem_of_getElem? (i := 946) (by decide +kernel)⟩
theorem lw_p51 : lw_okq (⟨"HutBookingsModel", "freshPortions", "()I"⟩, 9) := ⟨⟨by decide +kernel, by decide +kernel⟩, List.mem_of_getElem? (i := 691) (by decide +kernel), List.mem_of_getElem? (i := 949) (by decide +kernel), List.mem_of_getElem? (i := 950) (by decide +kernel)⟩
theorem lw_p52 : lw_okq (⟨"HutBookingsModel", "waitingPortions", "()I"⟩, 9) := ⟨⟨by decide +kernel, by decide +kernel⟩, List.mem_of_getElem? (i := 691) (by decide +kernel), List.mem_of_getElem? (i := 953) (by decide +kernel), List.mem_of_getElem? (i := 954) (by decide +kernel)⟩
theorem lw_p53 : lw_okq (⟨"HutBookingsModel", "grows", "(II)I"⟩, 9) := ⟨⟨by decide +kernel, by decide +kernel⟩, List.mem_of_getElem? (i := 691) (by decide +kernel), List.mem_of_getElem? (i := 978) (by decide +kernel), List.mem_of_getElem? (i := 979) (by decide +kernel)⟩
theorem lw_p54 : lw_okq (⟨"HutBookingsModel", "takesDown", "(I)I"⟩, 9) := ⟨⟨by decide +kernel, by decide +kernel⟩, List.mem_of_getElem? (i := 691) (by decide +kernel), List.mem_of_getElem? (i := 994) (by decide +kernel), List.mem_of_getElem? (i := 995) (by decide +kernel)⟩
def lw_privs_4 : List (MethodName × Nat) := [(⟨"HutBookingsModel", "eat", "()V"⟩, 9), (⟨"HutBookingsModel", "sleep", "(I)V"⟩, 9), (⟨"HutBookingsModel", "inState", "(I)I"⟩, 9), (⟨"HutBookingsModel", "freshPortions", "()I"⟩, 9), (⟨"HutBookingsModel", "waitingPortions", "()I"⟩, 9), (⟨"HutBookingsModel", "grows", "(II)I"⟩, 9), (⟨"HutBookingsModel", "takesDown", "(I)I"⟩, 9)]
theorem lw_r4 : ∀ q ∈ lw_privs_4, lw_okq q := List.forall_mem_cons.mpr ⟨lw_p48, List.forall_mem_cons.mpr ⟨lw_p49, List.forall_mem_cons.mpr ⟨lw_p50, List.forall_mem_cons.mpr ⟨lw_p51, List.forall_mem_cons.mpr ⟨lw_p52, List.forall_mem_cons.mpr ⟨lw_p53, List.forall_mem_cons.mpr ⟨lw_p54, fun _ h => absurd h List.not_mem_nil⟩⟩⟩⟩⟩⟩⟩
def lw_privs : List (MethodName × Nat) := lw_privs_1 ++ (lw_privs_2 ++ (lw_privs_3 ++ (lw_privs_4)))
def lw_tbl : List Cond := k2_sels lw_privs ++ tables_1
theorem lw_privs_ok : ∀ q ∈ lw_privs, lw_okq q := by
  show ∀ q ∈ lw_privs_1 ++ (lw_privs_2 ++ (lw_privs_3 ++ (lw_privs_4))), lw_okq q
  exact List.forall_mem_append.mpr ⟨lw_r1, List.forall_mem_append.mpr ⟨lw_r2, List.forall_mem_append.mpr ⟨lw_r3, lw_r4⟩⟩⟩
/-- the streams that the claim lets the run draw from -/
abbrev lw_cs : List Choice := [Jvm.Choice.named "NaN.bits"]
theorem lw_bits : nanBits ∈ lw_cs := by first | decide | exact List.mem_cons_self | simp [lw_cs, nanBits]
def RX0 : String := "HutBookings$BookingText"
def TX0 : u_T := fun k => match k with
  | 0 => ("HutBookings$BookingText", "characters", "[C", true)
  | 1 => ("HutBookings$BookingText", "length", "I", false)
  | 2 => ("HutBookings$BookingText", "arrives", "[I", true)
  | 3 => ("HutBookings$BookingText", "nights", "[I", true)
  | 4 => ("HutBookings$BookingText", "persons", "[I", true)
  | 5 => ("HutBookings$BookingText", "found", "I", false)
  | 6 => ("HutBookings$BookingText", "place", "I", false)
  | 7 => ("HutBookings$BookingText", "dayRead", "I", false)
  | _ => ("HutBookings$BookingText", "nightsRead", "I", false)
def tyX0 : Nat → FieldType := fun k => match k with
  | 0 => .array .char
  | 1 => .int
  | 2 => .array .int
  | 3 => .array .int
  | 4 => .array .int
  | 5 => .int
  | 6 => .int
  | 7 => .int
  | _ => .int
abbrev wsX00 : List Cond := u_ws RX0 TX0 9
theorem nmX0 : ∀ a, a < 9 → ∀ b, b < 9 → a ≠ b → (TX0 a).2.1 ≠ (TX0 b).2.1 := by decide +kernel
theorem tyX0_ok : ∀ k, k < 9 → parseFieldDescriptor (TX0 k).2.2.1 = some (tyX0 k) := by decide +kernel
abbrev cX0_init : ByteArray := prog_2_method_1_code
def yX0_init : MethodName := ⟨RX0, "<init>", "()V"⟩
abbrev cX0_append : ByteArray := prog_2_method_2_code
def yX0_append : MethodName := ⟨RX0, "append", "(C)V"⟩
abbrev cX0_findFault : ByteArray := prog_2_method_3_code
def yX0_findFault : MethodName := ⟨RX0, "findFault", "()I"⟩
abbrev cX0_accepts : ByteArray := prog_2_method_4_code
def yX0_accepts : MethodName := ⟨RX0, "accepts", "(C)Z"⟩
abbrev cX0_moveTo : ByteArray := prog_2_method_5_code
def yX0_moveTo : MethodName := ⟨RX0, "moveTo", "(I)Z"⟩
abbrev cX0_acceptsDayBegin : ByteArray := prog_2_method_6_code
def yX0_acceptsDayBegin : MethodName := ⟨RX0, "acceptsDayBegin", "(C)Z"⟩
abbrev cX0_acceptsDayDigit : ByteArray := prog_2_method_7_code
def yX0_acceptsDayDigit : MethodName := ⟨RX0, "acceptsDayDigit", "(C)Z"⟩
abbrev cX0_acceptsNights : ByteArray := prog_2_method_8_code
def yX0_acceptsNights : MethodName := ⟨RX0, "acceptsNights", "(C)Z"⟩
abbrev cX0_acceptsPersons : ByteArray := prog_2_method_9_code
def yX0_acceptsPersons : MethodName := ⟨RX0, "acceptsPersons", "(C)Z"⟩
def RX1 : String := "HutBookings$Guests"
def TX1 : u_T := fun k => match k with
  | 0 => ("HutBookings$Guests", "how", "[I", true)
  | 1 => ("HutBookings$Guests", "arrives", "[I", true)
  | 2 => ("HutBookings$Guests", "nights", "[I", true)
  | 3 => ("HutBookings$Guests", "persons", "[I", true)
  | 4 => ("HutBookings$Guests", "slept", "[I", true)
  | 5 => ("HutBookings$Guests", "deposit", "[I", true)
  | 6 => ("HutBookings$Guests", "came", "[I", true)
  | _ => ("HutBookings$Guests", "made", "I", false)
def tyX1 : Nat → FieldType := fun k => match k with
  | 0 => .array .int
  | 1 => .array .int
  | 2 => .array .int
  | 3 => .array .int
  | 4 => .array .int
  | 5 => .array .int
  | 6 => .array .int
  | _ => .int
abbrev wsX10 : List Cond := u_ws RX1 TX1 8
theorem nmX1 : ∀ a, a < 8 → ∀ b, b < 8 → a ≠ b → (TX1 a).2.1 ≠ (TX1 b).2.1 := by decide +kernel
theorem tyX1_ok : ∀ k, k < 8 → parseFieldDescriptor (TX1 k).2.2.1 = some (tyX1 k) := by decide +kernel
abbrev cX1_init : ByteArray := prog_3_method_1_code
def yX1_init : MethodName := ⟨RX1, "<init>", "()V"⟩
abbrev cX1_copyFrom : ByteArray := prog_3_method_2_code
def yX1_copyFrom : MethodName := ⟨RX1, "copyFrom", "(LHutBookings$Guests;)V"⟩
abbrev cX1_add : ByteArray := prog_3_method_3_code
def yX1_add : MethodName := ⟨RX1, "add", "(IIII)I"⟩
abbrev cX1_knows : ByteArray := prog_3_method_4_code
def yX1_knows : MethodName := ⟨RX1, "knows", "(I)Z"⟩
abbrev cX1_end : ByteArray := prog_3_method_5_code
def yX1_end : MethodName := ⟨RX1, "end", "(I)I"⟩
abbrev cX1_holdsBeds : ByteArray := prog_3_method_6_code
def yX1_holdsBeds : MethodName := ⟨RX1, "holdsBeds", "(I)Z"⟩
abbrev cX1_isOver : ByteArray := prog_3_method_7_code
def yX1_isOver : MethodName := ⟨RX1, "isOver", "(II)Z"⟩
abbrev cX1_bedsTakenIn : ByteArray := prog_3_method_8_code
def yX1_bedsTakenIn : MethodName := ⟨RX1, "bedsTakenIn", "(I)I"⟩
abbrev cX1_bedsTakenFrom : ByteArray := prog_3_method_9_code
def yX1_bedsTakenFrom : MethodName := ⟨RX1, "bedsTakenFrom", "(II)I"⟩
abbrev cX1_fillBedsTaken : ByteArray := prog_3_method_10_code
def yX1_fillBedsTaken : MethodName := ⟨RX1, "fillBedsTaken", "([I)V"⟩
abbrev cX1_arrivingOn : ByteArray := prog_3_method_11_code
def yX1_arrivingOn : MethodName := ⟨RX1, "arrivingOn", "(I)I"⟩
abbrev cX1_endingOn : ByteArray := prog_3_method_12_code
def yX1_endingOn : MethodName := ⟨RX1, "endingOn", "(I)I"⟩
abbrev cX1_howMany : ByteArray := prog_3_method_13_code
def yX1_howMany : MethodName := ⟨RX1, "howMany", "(I)I"⟩
abbrev cX1_personsThere : ByteArray := prog_3_method_14_code
def yX1_personsThere : MethodName := ⟨RX1, "personsThere", "()I"⟩
abbrev cX1_depositsHeld : ByteArray := prog_3_method_15_code
def yX1_depositsHeld : MethodName := ⟨RX1, "depositsHeld", "()I"⟩
def RX2 : String := "HutBookings$History"
def TX2 : u_T := fun k => match k with
  | 0 => ("HutBookings$History", "states", "[LHutBookings$Hut;", true)
  | _ => ("HutBookings$History", "size", "I", false)
def tyX2 : Nat → FieldType := fun k => match k with
  | 0 => .array (.object "HutBookings$Hut")
  | _ => .int
abbrev wsX20 : List Cond := u_ws RX2 TX2 2
theorem nmX2 : ∀ a, a < 2 → ∀ b, b < 2 → a ≠ b → (TX2 a).2.1 ≠ (TX2 b).2.1 := by decide +kernel
theorem tyX2_ok : ∀ k, k < 2 → parseFieldDescriptor (TX2 k).2.2.1 = some (tyX2 k) := by decide +kernel
abbrev cX2_init : ByteArray := prog_4_method_1_code
def yX2_init : MethodName := ⟨RX2, "<init>", "()V"⟩
abbrev cX2_remember : ByteArray := prog_4_method_2_code
def yX2_remember : MethodName := ⟨RX2, "remember", "(LHutBookings$Hut;)V"⟩
abbrev cX2_dropOldest : ByteArray := prog_4_method_3_code
def yX2_dropOldest : MethodName := ⟨RX2, "dropOldest", "()V"⟩
abbrev cX2_giveBack : ByteArray := prog_4_method_4_code
def yX2_giveBack : MethodName := ⟨RX2, "giveBack", "(LHutBookings$Hut;)V"⟩
def RX3 : String := "HutBookings$Hut"
def TX3 : u_T := fun k => match k with
  | 0 => ("HutBookings$Hut", "settings", "[I", true)
  | 1 => ("HutBookings$Hut", "weatherRow", "[I", true)
  | 2 => ("HutBookings$Hut", "guests", "LHutBookings$Guests;", true)
  | 3 => ("HutBookings$Hut", "larder", "LHutBookings$Larder;", true)
  | 4 => ("HutBookings$Hut", "orders", "LHutBookings$Orders;", true)
  | 5 => ("HutBookings$Hut", "tally", "[I", true)
  | 6 => ("HutBookings$Hut", "today", "I", false)
  | 7 => ("HutBookings$Hut", "flightCalled", "Z", false)
  | 8 => ("HutBookings$Hut", "purse", "I", false)
  | 9 => ("HutBookings$Hut", "depositsKept", "I", false)
  | _ => ("HutBookings$Hut", "flightsPaid", "I", false)
def tyX3 : Nat → FieldType := fun k => match k with
  | 0 => .array .int
  | 1 => .array .int
  | 2 => .object "HutBookings$Guests"
  | 3 => .object "HutBookings$Larder"
  | 4 => .object "HutBookings$Orders"
  | 5 => .array .int
  | 6 => .int
  | 7 => .boolean
  | 8 => .int
  | 9 => .int
  | _ => .int
abbrev wsX30 : List Cond := u_ws RX3 TX3 11
theorem nmX3 : ∀ a, a < 11 → ∀ b, b < 11 → a ≠ b → (TX3 a).2.1 ≠ (TX3 b).2.1 := by decide +kernel
theorem tyX3_ok : ∀ k, k < 11 → parseFieldDescriptor (TX3 k).2.2.1 = some (tyX3 k) := by decide +kernel
abbrev cX3_init : ByteArray := prog_5_method_1_code
def yX3_init : MethodName := ⟨RX3, "<init>", "()V"⟩
abbrev cX3_copyFrom : ByteArray := prog_5_method_2_code
def yX3_copyFrom : MethodName := ⟨RX3, "copyFrom", "(LHutBookings$Hut;)V"⟩
abbrev cX3_weatherOf : ByteArray := prog_5_method_3_code
def yX3_weatherOf : MethodName := ⟨RX3, "weatherOf", "(I)I"⟩
abbrev cX3_isUpOpen : ByteArray := prog_5_method_4_code
def yX3_isUpOpen : MethodName := ⟨RX3, "isUpOpen", "(I)Z"⟩
abbrev cX3_isDownOpen : ByteArray := prog_5_method_5_code
def yX3_isDownOpen : MethodName := ⟨RX3, "isDownOpen", "()Z"⟩
abbrev cX3_isWindy : ByteArray := prog_5_method_6_code
def yX3_isWindy : MethodName := ⟨RX3, "isWindy", "()Z"⟩
abbrev cX3_daysWithOtherWeather : ByteArray := prog_5_method_7_code
def yX3_daysWithOtherWeather : MethodName := ⟨RX3, "daysWithOtherWeather", "(III)I"⟩
abbrev cX3_changeWeather : ByteArray := prog_5_method_8_code
def yX3_changeWeather : MethodName := ⟨RX3, "changeWeather", "(III)V"⟩
abbrev cX3_bookingError : ByteArray := prog_5_method_9_code
def yX3_bookingError : MethodName := ⟨RX3, "bookingError", "(III)I"⟩
abbrev cX3_addBooking : ByteArray := prog_5_method_10_code
def yX3_addBooking : MethodName := ⟨RX3, "addBooking", "(III)I"⟩
abbrev cX3_hasBeds : ByteArray := prog_5_method_11_code
def yX3_hasBeds : MethodName := ⟨RX3, "hasBeds", "(III)Z"⟩
abbrev cX3_refundOf : ByteArray := prog_5_method_12_code
def yX3_refundOf : MethodName := ⟨RX3, "refundOf", "(I)I"⟩
abbrev cX3_cancelBooking : ByteArray := prog_5_method_13_code
def yX3_cancelBooking : MethodName := ⟨RX3, "cancelBooking", "(I)I"⟩
abbrev cX3_canStayLonger : ByteArray := prog_5_method_14_code
def yX3_canStayLonger : MethodName := ⟨RX3, "canStayLonger", "(II)Z"⟩
abbrev cX3_isStrandedNow : ByteArray := prog_5_method_15_code
def yX3_isStrandedNow : MethodName := ⟨RX3, "isStrandedNow", "(I)Z"⟩
abbrev cX3_passDay : ByteArray := prog_5_method_16_code
def yX3_passDay : MethodName := ⟨RX3, "passDay", "()V"⟩
abbrev cX3_beginDay : ByteArray := prog_5_method_17_code
def yX3_beginDay : MethodName := ⟨RX3, "beginDay", "()V"⟩
abbrev cX3_endDay : ByteArray := prog_5_method_18_code
def yX3_endDay : MethodName := ⟨RX3, "endDay", "()V"⟩
abbrev cX3_letGroupsLeave : ByteArray := prog_5_method_19_code
def yX3_letGroupsLeave : MethodName := ⟨RX3, "letGroupsLeave", "()V"⟩
abbrev cX3_letLeave : ByteArray := prog_5_method_20_code
def yX3_letLeave : MethodName := ⟨RX3, "letLeave", "(I)V"⟩
abbrev cX3_turnLateOnesAway : ByteArray := prog_5_method_21_code
def yX3_turnLateOnesAway : MethodName := ⟨RX3, "turnLateOnesAway", "()V"⟩
abbrev cX3_turnAway : ByteArray := prog_5_method_22_code
def yX3_turnAway : MethodName := ⟨RX3, "turnAway", "(I)V"⟩
abbrev cX3_letGroupsCome : ByteArray := prog_5_method_23_code
def yX3_letGroupsCome : MethodName := ⟨RX3, "letGroupsCome", "()V"⟩
abbrev cX3_bring : ByteArray := prog_5_method_24_code
def yX3_bring : MethodName := ⟨RX3, "bring", "(I)V"⟩
abbrev cX3_fly : ByteArray := prog_5_method_25_code
def yX3_fly : MethodName := ⟨RX3, "fly", "()V"⟩
abbrev cX3_fillSeats : ByteArray := prog_5_method_26_code
def yX3_fillSeats : MethodName := ⟨RX3, "fillSeats", "(Z)I"⟩
abbrev cX3_letAllEat : ByteArray := prog_5_method_27_code
def yX3_letAllEat : MethodName := ⟨RX3, "letAllEat", "()V"⟩
abbrev cX3_letAllSleep : ByteArray := prog_5_method_28_code
def yX3_letAllSleep : MethodName := ⟨RX3, "letAllSleep", "()V"⟩
def RX4 : String := "HutBookings$Larder"
def TX4 : u_T := fun k => match k with
  | 0 => ("HutBookings$Larder", "fresh", "[I", true)
  | _ => ("HutBookings$Larder", "dry", "I", false)
def tyX4 : Nat → FieldType := fun k => match k with
  | 0 => .array .int
  | _ => .int
abbrev wsX40 : List Cond := u_ws RX4 TX4 2
theorem nmX4 : ∀ a, a < 2 → ∀ b, b < 2 → a ≠ b → (TX4 a).2.1 ≠ (TX4 b).2.1 := by decide +kernel
theorem tyX4_ok : ∀ k, k < 2 → parseFieldDescriptor (TX4 k).2.2.1 = some (tyX4 k) := by decide +kernel
abbrev cX4_init : ByteArray := prog_6_method_1_code
def yX4_init : MethodName := ⟨RX4, "<init>", "()V"⟩
abbrev cX4_copyFrom : ByteArray := prog_6_method_2_code
def yX4_copyFrom : MethodName := ⟨RX4, "copyFrom", "(LHutBookings$Larder;)V"⟩
abbrev cX4_slotOf : ByteArray := prog_6_method_3_code
def yX4_slotOf : MethodName := ⟨RX4, "slotOf", "(I)I"⟩
abbrev cX4_freshOf : ByteArray := prog_6_method_4_code
def yX4_freshOf : MethodName := ⟨RX4, "freshOf", "(I)I"⟩
abbrev cX4_allFresh : ByteArray := prog_6_method_5_code
def yX4_allFresh : MethodName := ⟨RX4, "allFresh", "()I"⟩
abbrev cX4_dayOfRank : ByteArray := prog_6_method_6_code
def yX4_dayOfRank : MethodName := ⟨RX4, "dayOfRank", "(II)I"⟩
abbrev cX4_throwSpoiltAway : ByteArray := prog_6_method_7_code
def yX4_throwSpoiltAway : MethodName := ⟨RX4, "throwSpoiltAway", "(II)I"⟩
abbrev cX4_store : ByteArray := prog_6_method_8_code
def yX4_store : MethodName := ⟨RX4, "store", "(III)V"⟩
abbrev cX4_eat : ByteArray := prog_6_method_9_code
def yX4_eat : MethodName := ⟨RX4, "eat", "(II)I"⟩
def RX5 : String := "HutBookings$Orders"
def TX5 : u_T := fun k => match k with
  | 0 => ("HutBookings$Orders", "kinds", "[I", true)
  | 1 => ("HutBookings$Orders", "portions", "[I", true)
  | _ => ("HutBookings$Orders", "size", "I", false)
def tyX5 : Nat → FieldType := fun k => match k with
  | 0 => .array .int
  | 1 => .array .int
  | _ => .int
abbrev wsX50 : List Cond := u_ws RX5 TX5 3
theorem nmX5 : ∀ a, a < 3 → ∀ b, b < 3 → a ≠ b → (TX5 a).2.1 ≠ (TX5 b).2.1 := by decide +kernel
theorem tyX5_ok : ∀ k, k < 3 → parseFieldDescriptor (TX5 k).2.2.1 = some (tyX5 k) := by decide +kernel
abbrev cX5_init : ByteArray := prog_7_method_1_code
def yX5_init : MethodName := ⟨RX5, "<init>", "()V"⟩
abbrev cX5_copyFrom : ByteArray := prog_7_method_2_code
def yX5_copyFrom : MethodName := ⟨RX5, "copyFrom", "(LHutBookings$Orders;)V"⟩
abbrev cX5_append : ByteArray := prog_7_method_3_code
def yX5_append : MethodName := ⟨RX5, "append", "(II)V"⟩
abbrev cX5_removeLast : ByteArray := prog_7_method_4_code
def yX5_removeLast : MethodName := ⟨RX5, "removeLast", "()I"⟩
abbrev cX5_takeFromFirst : ByteArray := prog_7_method_5_code
def yX5_takeFromFirst : MethodName := ⟨RX5, "takeFromFirst", "(I)I"⟩
abbrev cX5_removeFirst : ByteArray := prog_7_method_6_code
def yX5_removeFirst : MethodName := ⟨RX5, "removeFirst", "()V"⟩
abbrev cX5_allPortions : ByteArray := prog_7_method_7_code
def yX5_allPortions : MethodName := ⟨RX5, "allPortions", "()I"⟩
def RX6 : String := "HutBookings"
def TX6 : u_T := fun k => match k with
  | 0 => ("HutBookings", "hut", "LHutBookings$Hut;", true)
  | 1 => ("HutBookings", "trial", "LHutBookings$Hut;", true)
  | 2 => ("HutBookings", "snapshot", "LHutBookings$Hut;", true)
  | 3 => ("HutBookings", "hasSnapshot", "Z", false)
  | 4 => ("HutBookings", "history", "LHutBookings$History;", true)
  | 5 => ("HutBookings", "text", "LHutBookings$BookingText;", true)
  | _ => ("HutBookings", "bedsTaken", "[I", true)
def tyX6 : Nat → FieldType := fun k => match k with
  | 0 => .object "HutBookings$Hut"
  | 1 => .object "HutBookings$Hut"
  | 2 => .object "HutBookings$Hut"
  | 3 => .boolean
  | 4 => .object "HutBookings$History"
  | 5 => .object "HutBookings$BookingText"
  | _ => .array .int
abbrev wsX60 : List Cond := u_ws RX6 TX6 7
theorem nmX6 : ∀ a, a < 7 → ∀ b, b < 7 → a ≠ b → (TX6 a).2.1 ≠ (TX6 b).2.1 := by decide +kernel
theorem tyX6_ok : ∀ k, k < 7 → parseFieldDescriptor (TX6 k).2.2.1 = some (tyX6 k) := by decide +kernel
abbrev cX6_init : ByteArray := prog_1_method_1_code
def yX6_init : MethodName := ⟨RX6, "<init>", "()V"⟩
abbrev cX6_book : ByteArray := prog_1_method_2_code
def yX6_book : MethodName := ⟨RX6, "book", "(III)I"⟩
abbrev cX6_bookAll : ByteArray := prog_1_method_3_code
def yX6_bookAll : MethodName := ⟨RX6, "bookAll", "()I"⟩
abbrev cX6_cancel : ByteArray := prog_1_method_4_code
def yX6_cancel : MethodName := ⟨RX6, "cancel", "(I)I"⟩
abbrev cX6_extend : ByteArray := prog_1_method_5_code
def yX6_extend : MethodName := ⟨RX6, "extend", "(II)I"⟩
abbrev cX6_weather : ByteArray := prog_1_method_6_code
def yX6_weather : MethodName := ⟨RX6, "weather", "(III)I"⟩
abbrev cX6_order : ByteArray := prog_1_method_7_code
def yX6_order : MethodName := ⟨RX6, "order", "(II)I"⟩
abbrev cX6_recall : ByteArray := prog_1_method_8_code
def yX6_recall : MethodName := ⟨RX6, "recall", "()I"⟩
abbrev cX6_flight : ByteArray := prog_1_method_9_code
def yX6_flight : MethodName := ⟨RX6, "flight", "(Z)I"⟩
abbrev cX6_pass : ByteArray := prog_1_method_10_code
def yX6_pass : MethodName := ⟨RX6, "pass", "(I)I"⟩
abbrev cX6_set : ByteArray := prog_1_method_11_code
def yX6_set : MethodName := ⟨RX6, "set", "(II)I"⟩
abbrev cX6_type : ByteArray := prog_1_method_12_code
def yX6_type : MethodName := ⟨RX6, "type", "(C)I"⟩
abbrev cX6_clearText : ByteArray := prog_1_method_13_code
def yX6_clearText : MethodName := ⟨RX6, "clearText", "()I"⟩
abbrev cX6_fault : ByteArray := prog_1_method_14_code
def yX6_fault : MethodName := ⟨RX6, "fault", "()I"⟩
abbrev cX6_undo : ByteArray := prog_1_method_15_code
def yX6_undo : MethodName := ⟨RX6, "undo", "()I"⟩
abbrev cX6_keep : ByteArray := prog_1_method_16_code
def yX6_keep : MethodName := ⟨RX6, "keep", "()I"⟩
abbrev cX6_restore : ByteArray := prog_1_method_17_code
def yX6_restore : MethodName := ⟨RX6, "restore", "()I"⟩
abbrev cX6_booking : ByteArray := prog_1_method_18_code
def yX6_booking : MethodName := ⟨RX6, "booking", "(II)I"⟩
abbrev cX6_day : ByteArray := prog_1_method_19_code
def yX6_day : MethodName := ⟨RX6, "day", "(II)I"⟩
abbrev cX6_fresh : ByteArray := prog_1_method_20_code
def yX6_fresh : MethodName := ⟨RX6, "fresh", "(II)I"⟩
abbrev cX6_waiting : ByteArray := prog_1_method_21_code
def yX6_waiting : MethodName := ⟨RX6, "waiting", "(II)I"⟩
abbrev cX6_count : ByteArray := prog_1_method_22_code
def yX6_count : MethodName := ⟨RX6, "count", "(I)I"⟩
abbrev cX6_coins : ByteArray := prog_1_method_23_code
def yX6_coins : MethodName := ⟨RX6, "coins", "(I)I"⟩
abbrev cX6_use : ByteArray := prog_1_method_24_code
def yX6_use : MethodName := ⟨RX6, "use", "(II)D"⟩
abbrev cX6_refund : ByteArray := prog_1_method_25_code
def yX6_refund : MethodName := ⟨RX6, "refund", "(I)I"⟩
abbrev cX6_firstFree : ByteArray := prog_1_method_26_code
def yX6_firstFree : MethodName := ⟨RX6, "firstFree", "(II)I"⟩
abbrev cX6_hungryIn : ByteArray := prog_1_method_27_code
def yX6_hungryIn : MethodName := ⟨RX6, "hungryIn", "()I"⟩
abbrev cX6_wanting : ByteArray := prog_1_method_28_code
def yX6_wanting : MethodName := ⟨RX6, "wanting", "(I)I"⟩
abbrev cX6_goneIn : ByteArray := prog_1_method_29_code
def yX6_goneIn : MethodName := ⟨RX6, "goneIn", "(I)I"⟩
abbrev cX6_turnedAway : ByteArray := prog_1_method_30_code
def yX6_turnedAway : MethodName := ⟨RX6, "turnedAway", "(I)I"⟩
abbrev cX6_bestCall : ByteArray := prog_1_method_31_code
def yX6_bestCall : MethodName := ⟨RX6, "bestCall", "()I"⟩
abbrev cX6_fullest : ByteArray := prog_1_method_32_code
def yX6_fullest : MethodName := ⟨RX6, "fullest", "()I"⟩
abbrev cX6_errorUnlessBooked : ByteArray := prog_1_method_33_code
def yX6_errorUnlessBooked : MethodName := ⟨RX6, "errorUnlessBooked", "(I)I"⟩
abbrev cX6_mostBedsTaken : ByteArray := prog_1_method_34_code
def yX6_mostBedsTaken : MethodName := ⟨RX6, "mostBedsTaken", "()I"⟩
abbrev cX6_passInTrial : ByteArray := prog_1_method_35_code
def yX6_passInTrial : MethodName := ⟨RX6, "passInTrial", "(I)V"⟩
abbrev cX6_areNightsAndPersons : ByteArray := prog_1_method_36_code
def yX6_areNightsAndPersons : MethodName := ⟨RX6, "areNightsAndPersons", "(II)Z"⟩
def RX7 : String := "HutBookingsModel"
def TX7 : u_T := fun k => match k with
  | 0 => ("HutBookingsModel", "now", "[I", true)
  | 1 => ("HutBookingsModel", "slot", "[I", true)
  | 2 => ("HutBookingsModel", "beside", "[I", true)
  | 3 => ("HutBookingsModel", "history", "[I", true)
  | 4 => ("HutBookingsModel", "text", "[I", true)
  | 5 => ("HutBookingsModel", "place", "I", false)
  | 6 => ("HutBookingsModel", "kept", "I", false)
  | 7 => ("HutBookingsModel", "length", "I", false)
  | _ => ("HutBookingsModel", "isFilled", "Z", false)
def tyX7 : Nat → FieldType := fun k => match k with
  | 0 => .array .int
  | 1 => .array .int
  | 2 => .array .int
  | 3 => .array .int
  | 4 => .array .int
  | 5 => .int
  | 6 => .int
  | 7 => .int
  | _ => .boolean
abbrev wsX70 : List Cond := u_ws RX7 TX7 9
theorem nmX7 : ∀ a, a < 9 → ∀ b, b < 9 → a ≠ b → (TX7 a).2.1 ≠ (TX7 b).2.1 := by decide +kernel
theorem tyX7_ok : ∀ k, k < 9 → parseFieldDescriptor (TX7 k).2.2.1 = some (tyX7 k) := by decide +kernel
abbrev cX7_init : ByteArray := prog_9_method_1_code
def yX7_init : MethodName := ⟨RX7, "<init>", "()V"⟩
abbrev cX7_in : ByteArray := prog_9_method_2_code
def yX7_in : MethodName := ⟨RX7, "in", "(III)Z"⟩
abbrev cX7_record : ByteArray := prog_9_method_3_code
def yX7_record : MethodName := ⟨RX7, "record", "()V"⟩
abbrev cX7_lay : ByteArray := prog_9_method_4_code
def yX7_lay : MethodName := ⟨RX7, "lay", "()V"⟩
abbrev cX7_takeBack : ByteArray := prog_9_method_5_code
def yX7_takeBack : MethodName := ⟨RX7, "takeBack", "()V"⟩
abbrev cX7_of : ByteArray := prog_9_method_6_code
def yX7_of : MethodName := ⟨RX7, "of", "(II)I"⟩
abbrev cX7_put : ByteArray := prog_9_method_7_code
def yX7_put : MethodName := ⟨RX7, "put", "(III)V"⟩
abbrev cX7_is : ByteArray := prog_9_method_8_code
def yX7_is : MethodName := ⟨RX7, "is", "(II)Z"⟩
abbrev cX7_end : ByteArray := prog_9_method_9_code
def yX7_end : MethodName := ⟨RX7, "end", "(I)I"⟩
abbrev cX7_isBooking : ByteArray := prog_9_method_10_code
def yX7_isBooking : MethodName := ⟨RX7, "isBooking", "(I)Z"⟩
abbrev cX7_weatherOf : ByteArray := prog_9_method_11_code
def yX7_weatherOf : MethodName := ⟨RX7, "weatherOf", "(I)I"⟩
abbrev cX7_isUpOpen : ByteArray := prog_9_method_12_code
def yX7_isUpOpen : MethodName := ⟨RX7, "isUpOpen", "(I)Z"⟩
abbrev cX7_isDownOpen : ByteArray := prog_9_method_13_code
def yX7_isDownOpen : MethodName := ⟨RX7, "isDownOpen", "(I)Z"⟩
abbrev cX7_isWindy : ByteArray := prog_9_method_14_code
def yX7_isWindy : MethodName := ⟨RX7, "isWindy", "(I)Z"⟩
abbrev cX7_inState : ByteArray := prog_9_method_15_code
def yX7_inState : MethodName := ⟨RX7, "inState", "(I)I"⟩
abbrev cX7_personsThere : ByteArray := prog_9_method_16_code
def yX7_personsThere : MethodName := ⟨RX7, "personsThere", "()I"⟩
abbrev cX7_taken : ByteArray := prog_9_method_17_code
def yX7_taken : MethodName := ⟨RX7, "taken", "(I)I"⟩
abbrev cX7_fits : ByteArray := prog_9_method_18_code
def yX7_fits : MethodName := ⟨RX7, "fits", "(III)Z"⟩
abbrev cX7_leave : ByteArray := prog_9_method_19_code
def yX7_leave : MethodName := ⟨RX7, "leave", "(I)V"⟩
abbrev cX7_turnAway : ByteArray := prog_9_method_20_code
def yX7_turnAway : MethodName := ⟨RX7, "turnAway", "(I)V"⟩
abbrev cX7_come : ByteArray := prog_9_method_21_code
def yX7_come : MethodName := ⟨RX7, "come", "(II)V"⟩
abbrev cX7_dropOrder : ByteArray := prog_9_method_22_code
def yX7_dropOrder : MethodName := ⟨RX7, "dropOrder", "(I)V"⟩
abbrev cX7_bring : ByteArray := prog_9_method_23_code
def yX7_bring : MethodName := ⟨RX7, "bring", "(II)V"⟩
abbrev cX7_fly : ByteArray := prog_9_method_24_code
def yX7_fly : MethodName := ⟨RX7, "fly", "(I)V"⟩
abbrev cX7_eat : ByteArray := prog_9_method_25_code
def yX7_eat : MethodName := ⟨RX7, "eat", "()V"⟩
abbrev cX7_sleep : ByteArray := prog_9_method_26_code
def yX7_sleep : MethodName := ⟨RX7, "sleep", "(I)V"⟩
abbrev cX7_passDay : ByteArray := prog_9_method_27_code
def yX7_passDay : MethodName := ⟨RX7, "passDay", "()V"⟩
abbrev cX7_tryToBook : ByteArray := prog_9_method_28_code
def yX7_tryToBook : MethodName := ⟨RX7, "tryToBook", "(III)I"⟩
abbrev cX7_addBooking : ByteArray := prog_9_method_29_code
def yX7_addBooking : MethodName := ⟨RX7, "addBooking", "(III)I"⟩
abbrev cX7_book : ByteArray := prog_9_method_30_code
def yX7_book : MethodName := ⟨RX7, "book", "(III)I"⟩
abbrev cX7_isNext : ByteArray := prog_9_method_31_code
def yX7_isNext : MethodName := ⟨RX7, "isNext", "(II)Z"⟩
abbrev cX7_readBooking : ByteArray := prog_9_method_32_code
def yX7_readBooking : MethodName := ⟨RX7, "readBooking", "()I"⟩
abbrev cX7_readAll : ByteArray := prog_9_method_33_code
def yX7_readAll : MethodName := ⟨RX7, "readAll", "()I"⟩
abbrev cX7_bookAll : ByteArray := prog_9_method_34_code
def yX7_bookAll : MethodName := ⟨RX7, "bookAll", "()I"⟩
abbrev cX7_refundOf : ByteArray := prog_9_method_35_code
def yX7_refundOf : MethodName := ⟨RX7, "refundOf", "(I)I"⟩
abbrev cX7_refund : ByteArray := prog_9_method_36_code
def yX7_refund : MethodName := ⟨RX7, "refund", "(I)I"⟩
abbrev cX7_cancel : ByteArray := prog_9_method_37_code
def yX7_cancel : MethodName := ⟨RX7, "cancel", "(I)I"⟩
abbrev cX7_extend : ByteArray := prog_9_method_38_code
def yX7_extend : MethodName := ⟨RX7, "extend", "(II)I"⟩
abbrev cX7_weather : ByteArray := prog_9_method_39_code
def yX7_weather : MethodName := ⟨RX7, "weather", "(III)I"⟩
abbrev cX7_order : ByteArray := prog_9_method_40_code
def yX7_order : MethodName := ⟨RX7, "order", "(II)I"⟩
abbrev cX7_recall : ByteArray := prog_9_method_41_code
def yX7_recall : MethodName := ⟨RX7, "recall", "()I"⟩
abbrev cX7_flight : ByteArray := prog_9_method_42_code
def yX7_flight : MethodName := ⟨RX7, "flight", "(Z)I"⟩
abbrev cX7_pass : ByteArray := prog_9_method_43_code
def yX7_pass : MethodName := ⟨RX7, "pass", "(I)I"⟩
abbrev cX7_most : ByteArray := prog_9_method_44_code
def yX7_most : MethodName := ⟨RX7, "most", "(I)I"⟩
abbrev cX7_set : ByteArray := prog_9_method_45_code
def yX7_set : MethodName := ⟨RX7, "set", "(II)I"⟩
abbrev cX7_type : ByteArray := prog_9_method_46_code
def yX7_type : MethodName := ⟨RX7, "type", "(C)I"⟩
abbrev cX7_clearText : ByteArray := prog_9_method_47_code
def yX7_clearText : MethodName := ⟨RX7, "clearText", "()I"⟩
abbrev cX7_fault : ByteArray := prog_9_method_48_code
def yX7_fault : MethodName := ⟨RX7, "fault", "()I"⟩
abbrev cX7_undo : ByteArray := prog_9_method_49_code
def yX7_undo : MethodName := ⟨RX7, "undo", "()I"⟩
abbrev cX7_keep : ByteArray := prog_9_method_50_code
def yX7_keep : MethodName := ⟨RX7, "keep", "()I"⟩
abbrev cX7_restore : ByteArray := prog_9_method_51_code
def yX7_restore : MethodName := ⟨RX7, "restore", "()I"⟩
abbrev cX7_booking : ByteArray := prog_9_method_52_code
def yX7_booking : MethodName := ⟨RX7, "booking", "(II)I"⟩
abbrev cX7_day : ByteArray := prog_9_method_53_code
def yX7_day : MethodName := ⟨RX7, "day", "(II)I"⟩
abbrev cX7_fresh : ByteArray := prog_9_method_54_code
def yX7_fresh : MethodName := ⟨RX7, "fresh", "(II)I"⟩
abbrev cX7_waiting : ByteArray := prog_9_method_55_code
def yX7_waiting : MethodName := ⟨RX7, "waiting", "(II)I"⟩
abbrev cX7_freshPortions : ByteArray := prog_9_method_56_code
def yX7_freshPortions : MethodName := ⟨RX7, "freshPortions", "()I"⟩
abbrev cX7_waitingPortions : ByteArray := prog_9_method_57_code
def yX7_waitingPortions : MethodName := ⟨RX7, "waitingPortions", "()I"⟩
abbrev cX7_count : ByteArray := prog_9_method_58_code
def yX7_count : MethodName := ⟨RX7, "count", "(I)I"⟩
abbrev cX7_coins : ByteArray := prog_9_method_59_code
def yX7_coins : MethodName := ⟨RX7, "coins", "(I)I"⟩
abbrev cX7_use : ByteArray := prog_9_method_60_code
def yX7_use : MethodName := ⟨RX7, "use", "(II)D"⟩
abbrev cX7_firstFree : ByteArray := prog_9_method_61_code
def yX7_firstFree : MethodName := ⟨RX7, "firstFree", "(II)I"⟩
abbrev cX7_hungryIn : ByteArray := prog_9_method_62_code
def yX7_hungryIn : MethodName := ⟨RX7, "hungryIn", "()I"⟩
abbrev cX7_grows : ByteArray := prog_9_method_63_code
def yX7_grows : MethodName := ⟨RX7, "grows", "(II)I"⟩
abbrev cX7_wanting : ByteArray := prog_9_method_64_code
def yX7_wanting : MethodName := ⟨RX7, "wanting", "(I)I"⟩
abbrev cX7_goneIn : ByteArray := prog_9_method_65_code
def yX7_goneIn : MethodName := ⟨RX7, "goneIn", "(I)I"⟩
abbrev cX7_turnedAway : ByteArray := prog_9_method_66_code
def yX7_turnedAway : MethodName := ⟨RX7, "turnedAway", "(I)I"⟩
abbrev cX7_takesDown : ByteArray := prog_9_method_67_code
def yX7_takesDown : MethodName := ⟨RX7, "takesDown", "(I)I"⟩
abbrev cX7_bestCall : ByteArray := prog_9_method_68_code
def yX7_bestCall : MethodName := ⟨RX7, "bestCall", "()I"⟩
abbrev cX7_fullest : ByteArray := prog_9_method_69_code
def yX7_fullest : MethodName := ⟨RX7, "fullest", "()I"⟩
def RJ9 : String := "java/lang/Math"
def TJ9 : u_T := fun k => match k with
  | _ => ("", "", "", false)
def tyJ9 : Nat → FieldType := fun k => match k with
  | _ => .int
abbrev wsJ90 : List Cond := u_ws RJ9 TJ9 0
theorem nmJ9 : ∀ a, a < 0 → ∀ b, b < 0 → a ≠ b → (TJ9 a).2.1 ≠ (TJ9 b).2.1 := by decide +kernel
theorem tyJ9_ok : ∀ k, k < 0 → parseFieldDescriptor (TJ9 k).2.2.1 = some (tyJ9 k) := by decide +kernel
abbrev cJ9_floorMod_7cf53 : ByteArray := prog_10_method_50_code
def yJ9_floorMod_7cf53 : MethodName := ⟨RJ9, "floorMod", "(II)I"⟩
abbrev cJ9_max_7cf53 : ByteArray := prog_10_method_65_code
def yJ9_max_7cf53 : MethodName := ⟨RJ9, "max", "(II)I"⟩
abbrev cJ9_min_7cf53 : ByteArray := prog_10_method_69_code
def yJ9_min_7cf53 : MethodName := ⟨RJ9, "min", "(II)I"⟩
def RJ10 : String := "java/lang/System"
def TJ10 : u_T := fun k => match k with
  | _ => ("", "", "", false)
def tyJ10 : Nat → FieldType := fun k => match k with
  | _ => .int
abbrev wsJ100 : List Cond := u_ws RJ10 TJ10 0
theorem nmJ10 : ∀ a, a < 0 → ∀ b, b < 0 → a ≠ b → (TJ10 a).2.1 ≠ (TJ10 b).2.1 := by decide +kernel
theorem tyJ10_ok : ∀ k, k < 0 → parseFieldDescriptor (TJ10 k).2.2.1 = some (tyJ10 k) := by decide +kernel
def RJ7 : String := "java/util/Arrays"
def TJ7 : u_T := fun k => match k with
  | _ => ("", "", "", false)
def tyJ7 : Nat → FieldType := fun k => match k with
  | _ => .int
abbrev wsJ70 : List Cond := u_ws RJ7 TJ7 0
theorem nmJ7 : ∀ a, a < 0 → ∀ b, b < 0 → a ≠ b → (TJ7 a).2.1 ≠ (TJ7 b).2.1 := by decide +kernel
theorem tyJ7_ok : ∀ k, k < 0 → parseFieldDescriptor (TJ7 k).2.2.1 = some (tyJ7 k) := by decide +kernel
abbrev cJ7_fill_53178 : ByteArray := prog_12_method_103_code
def yJ7_fill_53178 : MethodName := ⟨RJ7, "fill", "([II)V"⟩
def RL : String := "HutBookingsLaw"
abbrev cL_law : ByteArray := code
def yL_law : MethodName := ⟨RL, "law", "([I)Z"⟩
abbrev vwCl : List vw_C := [(RX0, TX0, 9), (RX1, TX1, 8), (RX2, TX2, 2), (RX3, TX3, 11), (RX4, TX4, 2), (RX5, TX5, 3), (RX6, TX6, 7), (RX7, TX7, 9)]
end
section
/-- the words that a callee may be handed: those of the tables that hold behind every warming -/
def TB : List Cond := lw_tbl.filter goodWord
theorem tb_in {w : Cond} (h : w ∈ lw_tbl) (g : goodWord w = true) : w ∈ TB := List.mem_filter.mpr ⟨h, g⟩
theorem tb_sub {w : Cond} (h : w ∈ TB) : w ∈ lw_tbl := (List.mem_filter.mp h).1
theorem tb_good : ∀ w ∈ TB, goodWord w = true := fun _ h => (List.mem_filter.mp h).2
theorem q_0 : (.selects RX2 yX2_dropOldest yX2_dropOldest : Cond) ∈ TB := tb_in (List.mem_of_getElem? (i := 0) (by decide +kernel)) rfl
theorem q_1 : (.selects RX0 yX0_accepts yX0_accepts : Cond) ∈ TB := tb_in (List.mem_of_getElem? (i := 1) (by decide +kernel)) rfl
theorem q_2 : (.selects RX0 yX0_acceptsDayBegin yX0_acceptsDayBegin : Cond) ∈ TB := tb_in (List.mem_of_getElem? (i := 2) (by decide +kernel)) rfl
theorem q_3 : (.selects RX0 yX0_moveTo yX0_moveTo : Cond) ∈ TB := tb_in (List.mem_of_getElem? (i := 3) (by decide +kernel)) rfl
theorem q_4 : (.selects RX0 yX0_acceptsDayDigit yX0_acceptsDayDigit : Cond) ∈ TB := tb_in (List.mem_of_getElem? (i := 4) (by decide +kernel)) rfl
theorem q_5 : (.selects RX0 yX0_acceptsNights yX0_acceptsNights : Cond) ∈ TB := tb_in (List.mem_of_getElem? (i := 5) (by decide +kernel)) rfl
theorem q_6 : (.selects RX0 yX0_acceptsPersons yX0_acceptsPersons : Cond) ∈ TB := tb_in (List.mem_of_getElem? (i := 6) (by decide +kernel)) rfl
theorem q_7 : (.selects RX6 yX6_errorUnlessBooked yX6_errorUnlessBooked : Cond) ∈ TB := tb_in (List.mem_of_getElem? (i := 7) (by decide +kernel)) rfl
theorem q_8 : (.selects RX3 yX3_letGroupsLeave yX3_letGroupsLeave : Cond) ∈ TB := tb_in (List.mem_of_getElem? (i := 8) (by decide +kernel)) rfl
theorem q_9 : (.selects RX3 yX3_letLeave yX3_letLeave : Cond) ∈ TB := tb_in (List.mem_of_getElem? (i := 9) (by decide +kernel)) rfl
theorem q_10 : (.selects RX3 yX3_turnLateOnesAway yX3_turnLateOnesAway : Cond) ∈ TB := tb_in (List.mem_of_getElem? (i := 10) (by decide +kernel)) rfl
theorem q_11 : (.selects RX3 yX3_turnAway yX3_turnAway : Cond) ∈ TB := tb_in (List.mem_of_getElem? (i := 11) (by decide +kernel)) rfl
theorem q_12 : (.selects RX3 yX3_letGroupsCome yX3_letGroupsCome : Cond) ∈ TB := tb_in (List.mem_of_getElem? (i := 12) (by decide +kernel)) rfl
theorem q_13 : (.selects RX3 yX3_bring yX3_bring : Cond) ∈ TB := tb_in (List.mem_of_getElem? (i := 13) (by decide +kernel)) rfl
theorem q_14 : (.selects RX5 yX5_removeFirst yX5_removeFirst : Cond) ∈ TB := tb_in (List.mem_of_getElem? (i := 14) (by decide +kernel)) rfl
theorem q_15 : (.selects RX3 yX3_fly yX3_fly : Cond) ∈ TB := tb_in (List.mem_of_getElem? (i := 15) (by decide +kernel)) rfl
theorem q_16 : (.selects RX3 yX3_letAllEat yX3_letAllEat : Cond) ∈ TB := tb_in (List.mem_of_getElem? (i := 16) (by decide +kernel)) rfl
theorem q_17 : (.selects RX3 yX3_letAllSleep yX3_letAllSleep : Cond) ∈ TB := tb_in (List.mem_of_getElem? (i := 17) (by decide +kernel)) rfl
theorem q_18 : (.selects RX6 yX6_mostBedsTaken yX6_mostBedsTaken : Cond) ∈ TB := tb_in (List.mem_of_getElem? (i := 18) (by decide +kernel)) rfl
theorem q_19 : (.selects RX6 yX6_passInTrial yX6_passInTrial : Cond) ∈ TB := tb_in (List.mem_of_getElem? (i := 19) (by decide +kernel)) rfl
theorem q_20 : (.selects RX7 yX7_tryToBook yX7_tryToBook : Cond) ∈ TB := tb_in (List.mem_of_getElem? (i := 20) (by decide +kernel)) rfl
theorem q_21 : (.selects RX7 yX7_fits yX7_fits : Cond) ∈ TB := tb_in (List.mem_of_getElem? (i := 21) (by decide +kernel)) rfl
theorem q_22 : (.selects RX7 yX7_taken yX7_taken : Cond) ∈ TB := tb_in (List.mem_of_getElem? (i := 22) (by decide +kernel)) rfl
theorem q_23 : (.selects RX7 yX7_of yX7_of : Cond) ∈ TB := tb_in (List.mem_of_getElem? (i := 23) (by decide +kernel)) rfl
theorem q_24 : (.selects RX7 yX7_end yX7_end : Cond) ∈ TB := tb_in (List.mem_of_getElem? (i := 24) (by decide +kernel)) rfl
theorem q_25 : (.selects RX7 yX7_record yX7_record : Cond) ∈ TB := tb_in (List.mem_of_getElem? (i := 25) (by decide +kernel)) rfl
theorem q_26 : (.selects RX7 yX7_addBooking yX7_addBooking : Cond) ∈ TB := tb_in (List.mem_of_getElem? (i := 26) (by decide +kernel)) rfl
theorem q_27 : (.selects RX7 yX7_put yX7_put : Cond) ∈ TB := tb_in (List.mem_of_getElem? (i := 27) (by decide +kernel)) rfl
theorem q_28 : (.selects RX7 yX7_readAll yX7_readAll : Cond) ∈ TB := tb_in (List.mem_of_getElem? (i := 28) (by decide +kernel)) rfl
theorem q_29 : (.selects RX7 yX7_readBooking yX7_readBooking : Cond) ∈ TB := tb_in (List.mem_of_getElem? (i := 29) (by decide +kernel)) rfl
theorem q_30 : (.selects RX7 yX7_isNext yX7_isNext : Cond) ∈ TB := tb_in (List.mem_of_getElem? (i := 30) (by decide +kernel)) rfl
theorem q_31 : (.selects RX7 yX7_lay yX7_lay : Cond) ∈ TB := tb_in (List.mem_of_getElem? (i := 31) (by decide +kernel)) rfl
theorem q_32 : (.selects RX7 yX7_takeBack yX7_takeBack : Cond) ∈ TB := tb_in (List.mem_of_getElem? (i := 32) (by decide +kernel)) rfl
theorem q_33 : (.selects RX7 yX7_isBooking yX7_isBooking : Cond) ∈ TB := tb_in (List.mem_of_getElem? (i := 33) (by decide +kernel)) rfl
theorem q_34 : (.selects RX7 yX7_is yX7_is : Cond) ∈ TB := tb_in (List.mem_of_getElem? (i := 34) (by decide +kernel)) rfl
theorem q_35 : (.selects RX7 yX7_refundOf yX7_refundOf : Cond) ∈ TB := tb_in (List.mem_of_getElem? (i := 35) (by decide +kernel)) rfl
theorem q_36 : (.selects RX7 yX7_isUpOpen yX7_isUpOpen : Cond) ∈ TB := tb_in (List.mem_of_getElem? (i := 36) (by decide +kernel)) rfl
theorem q_37 : (.selects RX7 yX7_weatherOf yX7_weatherOf : Cond) ∈ TB := tb_in (List.mem_of_getElem? (i := 37) (by decide +kernel)) rfl
theorem q_38 : (.selects RX7 yX7_dropOrder yX7_dropOrder : Cond) ∈ TB := tb_in (List.mem_of_getElem? (i := 38) (by decide +kernel)) rfl
theorem q_39 : (.selects RX7 yX7_passDay yX7_passDay : Cond) ∈ TB := tb_in (List.mem_of_getElem? (i := 39) (by decide +kernel)) rfl
theorem q_40 : (.selects RX7 yX7_isDownOpen yX7_isDownOpen : Cond) ∈ TB := tb_in (List.mem_of_getElem? (i := 40) (by decide +kernel)) rfl
theorem q_41 : (.selects RX7 yX7_leave yX7_leave : Cond) ∈ TB := tb_in (List.mem_of_getElem? (i := 41) (by decide +kernel)) rfl
theorem q_42 : (.selects RX7 yX7_turnAway yX7_turnAway : Cond) ∈ TB := tb_in (List.mem_of_getElem? (i := 42) (by decide +kernel)) rfl
theorem q_43 : (.selects RX7 yX7_come yX7_come : Cond) ∈ TB := tb_in (List.mem_of_getElem? (i := 43) (by decide +kernel)) rfl
theorem q_44 : (.selects RX7 yX7_personsThere yX7_personsThere : Cond) ∈ TB := tb_in (List.mem_of_getElem? (i := 44) (by decide +kernel)) rfl
theorem q_45 : (.selects RX7 yX7_bring yX7_bring : Cond) ∈ TB := tb_in (List.mem_of_getElem? (i := 45) (by decide +kernel)) rfl
theorem q_46 : (.selects RX7 yX7_isWindy yX7_isWindy : Cond) ∈ TB := tb_in (List.mem_of_getElem? (i := 46) (by decide +kernel)) rfl
theorem q_47 : (.selects RX7 yX7_fly yX7_fly : Cond) ∈ TB := tb_in (List.mem_of_getElem? (i := 47) (by decide +kernel)) rfl
theorem q_48 : (.selects RX7 yX7_eat yX7_eat : Cond) ∈ TB := tb_in (List.mem_of_getElem? (i := 48) (by decide +kernel)) rfl
theorem q_49 : (.selects RX7 yX7_sleep yX7_sleep : Cond) ∈ TB := tb_in (List.mem_of_getElem? (i := 49) (by decide +kernel)) rfl
theorem q_50 : (.selects RX7 yX7_inState yX7_inState : Cond) ∈ TB := tb_in (List.mem_of_getElem? (i := 50) (by decide +kernel)) rfl
theorem q_51 : (.selects RX7 yX7_freshPortions yX7_freshPortions : Cond) ∈ TB := tb_in (List.mem_of_getElem? (i := 51) (by decide +kernel)) rfl
theorem q_52 : (.selects RX7 yX7_waitingPortions yX7_waitingPortions : Cond) ∈ TB := tb_in (List.mem_of_getElem? (i := 52) (by decide +kernel)) rfl
theorem q_53 : (.selects RX7 yX7_grows yX7_grows : Cond) ∈ TB := tb_in (List.mem_of_getElem? (i := 53) (by decide +kernel)) rfl
theorem q_54 : (.selects RX7 yX7_takesDown yX7_takesDown : Cond) ∈ TB := tb_in (List.mem_of_getElem? (i := 54) (by decide +kernel)) rfl
theorem q_55 : (.initialized RL : Cond) ∈ TB := tb_in (List.mem_of_getElem? (i := 55) (by decide +kernel)) rfl
theorem q_56 : (.initialized RX6 : Cond) ∈ TB := tb_in (List.mem_of_getElem? (i := 56) (by decide +kernel)) rfl
theorem q_57 : (.initialized RX3 : Cond) ∈ TB := tb_in (List.mem_of_getElem? (i := 57) (by decide +kernel)) rfl
theorem q_58 : (.initialized RJ10 : Cond) ∈ TB := tb_in (List.mem_of_getElem? (i := 58) (by decide +kernel)) rfl
theorem q_59 : (.initialized RX1 : Cond) ∈ TB := tb_in (List.mem_of_getElem? (i := 59) (by decide +kernel)) rfl
theorem q_60 : (.initialized RX4 : Cond) ∈ TB := tb_in (List.mem_of_getElem? (i := 60) (by decide +kernel)) rfl
theorem q_61 : (.initialized RX5 : Cond) ∈ TB := tb_in (List.mem_of_getElem? (i := 61) (by decide +kernel)) rfl
theorem q_62 : (.initialized RX2 : Cond) ∈ TB := tb_in (List.mem_of_getElem? (i := 62) (by decide +kernel)) rfl
theorem q_63 : (.initialized RX0 : Cond) ∈ TB := tb_in (List.mem_of_getElem? (i := 63) (by decide +kernel)) rfl
theorem q_64 : (.initialized RX7 : Cond) ∈ TB := tb_in (List.mem_of_getElem? (i := 64) (by decide +kernel)) rfl
theorem q_65 : (.initialized RJ9 : Cond) ∈ TB := tb_in (List.mem_of_getElem? (i := 65) (by decide +kernel)) rfl
theorem q_66 : (.initialized RJ7 : Cond) ∈ TB := tb_in (List.mem_of_getElem? (i := 66) (by decide +kernel)) rfl
theorem q_67 : (.classLink RL 7 RX6 : Cond) ∈ TB := tb_in (List.mem_of_getElem? (i := 67) (by decide +kernel)) rfl
theorem q_68 : (.instantiable RX6 7 : Cond) ∈ TB := tb_in (List.mem_of_getElem? (i := 68) (by decide +kernel)) rfl
theorem q_69 : (.methodLink RL 9 yX6_init : Cond) ∈ TB := tb_in (List.mem_of_getElem? (i := 69) (by decide +kernel)) rfl
theorem q_70 : (.instanceMethod yX6_init : Cond) ∈ TB := tb_in (List.mem_of_getElem? (i := 70) (by decide +kernel)) rfl
theorem q_71 : (.code yX6_init cX6_init 1 (Option.none : Option Jvm.ClassFile.FieldType) : Cond) ∈ TB := tb_in (List.mem_of_getElem? (i := 71) (by decide +kernel)) rfl
theorem q_72 : (.methodLink RX6 1 objectInit : Cond) ∈ TB := tb_in (List.mem_of_getElem? (i := 72) (by decide +kernel)) rfl
theorem q_73 : (.instanceMethod objectInit : Cond) ∈ TB := tb_in (List.mem_of_getElem? (i := 73) (by decide +kernel)) rfl
theorem q_74 : (.code objectInit ⟨#[0xb1]⟩ 1 (Option.none : Option Jvm.ClassFile.FieldType) : Cond) ∈ TB := tb_in (List.mem_of_getElem? (i := 74) (by decide +kernel)) rfl
theorem q_75 : (.classLink RX6 7 RX3 : Cond) ∈ TB := tb_in (List.mem_of_getElem? (i := 75) (by decide +kernel)) rfl
theorem q_76 : (.instantiable RX3 11 : Cond) ∈ TB := tb_in (List.mem_of_getElem? (i := 76) (by decide +kernel)) rfl
theorem q_77 : (.methodLink RX6 9 yX3_init : Cond) ∈ TB := tb_in (List.mem_of_getElem? (i := 77) (by decide +kernel)) rfl
theorem q_78 : (.instanceMethod yX3_init : Cond) ∈ TB := tb_in (List.mem_of_getElem? (i := 78) (by decide +kernel)) rfl
theorem q_79 : (.code yX3_init cX3_init 1 (Option.none : Option Jvm.ClassFile.FieldType) : Cond) ∈ TB := tb_in (List.mem_of_getElem? (i := 79) (by decide +kernel)) rfl
theorem q_80 : (.methodLink RX3 3 objectInit : Cond) ∈ TB := tb_in (List.mem_of_getElem? (i := 80) (by decide +kernel)) rfl
theorem q_81 : (.fieldLinkNest RX3 15 "HutBookings" "SETTING_FIRST" "[I" "HutBookings" : Cond) ∈ lw_tbl := List.mem_of_getElem? (i := 81) (by decide +kernel)
theorem q_83 : (.methodLink RX3 18 arraycopyName : Cond) ∈ TB := tb_in (List.mem_of_getElem? (i := 83) (by decide +kernel)) rfl
theorem q_84 : (.static arraycopyName : Cond) ∈ TB := tb_in (List.mem_of_getElem? (i := 84) (by decide +kernel)) rfl
theorem q_85 : (.native arraycopyName : Cond) ∈ TB := tb_in (List.mem_of_getElem? (i := 85) (by decide +kernel)) rfl
theorem q_86 : (.classLink RX3 27 RX1 : Cond) ∈ TB := tb_in (List.mem_of_getElem? (i := 86) (by decide +kernel)) rfl
theorem q_87 : (.instantiable RX1 8 : Cond) ∈ TB := tb_in (List.mem_of_getElem? (i := 87) (by decide +kernel)) rfl
theorem q_88 : (.methodLink RX3 29 yX1_init : Cond) ∈ TB := tb_in (List.mem_of_getElem? (i := 88) (by decide +kernel)) rfl
theorem q_89 : (.instanceMethod yX1_init : Cond) ∈ TB := tb_in (List.mem_of_getElem? (i := 89) (by decide +kernel)) rfl
theorem q_90 : (.code yX1_init cX1_init 1 (Option.none : Option Jvm.ClassFile.FieldType) : Cond) ∈ TB := tb_in (List.mem_of_getElem? (i := 90) (by decide +kernel)) rfl
theorem q_91 : (.methodLink RX1 3 objectInit : Cond) ∈ TB := tb_in (List.mem_of_getElem? (i := 91) (by decide +kernel)) rfl
theorem q_92 : (.fieldLink RX1 9 "HutBookings$Guests" "how" "[I" : Cond) ∈ TB := tb_in (List.mem_of_getElem? (i := 92) (by decide +kernel)) rfl
theorem q_93 : (.fieldLink RX3 122 "HutBookings$Guests" "how" "[I" : Cond) ∈ TB := tb_in (List.mem_of_getElem? (i := 93) (by decide +kernel)) rfl
theorem q_94 : (.fieldLink RX6 162 "HutBookings$Guests" "how" "[I" : Cond) ∈ TB := tb_in (List.mem_of_getElem? (i := 94) (by decide +kernel)) rfl
theorem q_95 : (.fieldLink RX1 15 "HutBookings$Guests" "arrives" "[I" : Cond) ∈ TB := tb_in (List.mem_of_getElem? (i := 95) (by decide +kernel)) rfl
theorem q_96 : (.fieldLink RX3 109 "HutBookings$Guests" "arrives" "[I" : Cond) ∈ TB := tb_in (List.mem_of_getElem? (i := 96) (by decide +kernel)) rfl
theorem q_97 : (.fieldLink RX6 165 "HutBookings$Guests" "arrives" "[I" : Cond) ∈ TB := tb_in (List.mem_of_getElem? (i := 97) (by decide +kernel)) rfl
theorem q_98 : (.fieldLink RX1 18 "HutBookings$Guests" "nights" "[I" : Cond) ∈ TB := tb_in (List.mem_of_getElem? (i := 98) (by decide +kernel)) rfl
theorem q_99 : (.fieldLink RX6 100 "HutBookings$Guests" "nights" "[I" : Cond) ∈ TB := tb_in (List.mem_of_getElem? (i := 99) (by decide +kernel)) rfl
theorem q_100 : (.fieldLink RX3 128 "HutBookings$Guests" "nights" "[I" : Cond) ∈ TB := tb_in (List.mem_of_getElem? (i := 100) (by decide +kernel)) rfl
theorem q_101 : (.fieldLink RX1 21 "HutBookings$Guests" "persons" "[I" : Cond) ∈ TB := tb_in (List.mem_of_getElem? (i := 101) (by decide +kernel)) rfl
theorem q_102 : (.fieldLink RX3 131 "HutBookings$Guests" "persons" "[I" : Cond) ∈ TB := tb_in (List.mem_of_getElem? (i := 102) (by decide +kernel)) rfl
theorem q_103 : (.fieldLink RX6 166 "HutBookings$Guests" "persons" "[I" : Cond) ∈ TB := tb_in (List.mem_of_getElem? (i := 103) (by decide +kernel)) rfl
theorem q_104 : (.fieldLink RX1 24 "HutBookings$Guests" "slept" "[I" : Cond) ∈ TB := tb_in (List.mem_of_getElem? (i := 104) (by decide +kernel)) rfl
theorem q_105 : (.fieldLink RX6 167 "HutBookings$Guests" "slept" "[I" : Cond) ∈ TB := tb_in (List.mem_of_getElem? (i := 105) (by decide +kernel)) rfl
theorem q_106 : (.fieldLink RX3 208 "HutBookings$Guests" "slept" "[I" : Cond) ∈ TB := tb_in (List.mem_of_getElem? (i := 106) (by decide +kernel)) rfl
theorem q_107 : (.fieldLink RX1 27 "HutBookings$Guests" "deposit" "[I" : Cond) ∈ TB := tb_in (List.mem_of_getElem? (i := 107) (by decide +kernel)) rfl
theorem q_108 : (.fieldLink RX3 116 "HutBookings$Guests" "deposit" "[I" : Cond) ∈ TB := tb_in (List.mem_of_getElem? (i := 108) (by decide +kernel)) rfl
theorem q_109 : (.fieldLink RX6 173 "HutBookings$Guests" "deposit" "[I" : Cond) ∈ TB := tb_in (List.mem_of_getElem? (i := 109) (by decide +kernel)) rfl
theorem q_110 : (.fieldLink RX1 30 "HutBookings$Guests" "came" "[I" : Cond) ∈ TB := tb_in (List.mem_of_getElem? (i := 110) (by decide +kernel)) rfl
theorem q_111 : (.fieldLink RX6 176 "HutBookings$Guests" "came" "[I" : Cond) ∈ TB := tb_in (List.mem_of_getElem? (i := 111) (by decide +kernel)) rfl
theorem q_112 : (.fieldLink RX3 178 "HutBookings$Guests" "came" "[I" : Cond) ∈ TB := tb_in (List.mem_of_getElem? (i := 112) (by decide +kernel)) rfl
theorem q_113 : (.fieldLink RX1 33 "HutBookings$Guests" "made" "I" : Cond) ∈ TB := tb_in (List.mem_of_getElem? (i := 113) (by decide +kernel)) rfl
theorem q_114 : (.fieldLink RX3 98 "HutBookings$Guests" "made" "I" : Cond) ∈ TB := tb_in (List.mem_of_getElem? (i := 114) (by decide +kernel)) rfl
theorem q_115 : (.fieldLink RX6 210 "HutBookings$Guests" "made" "I" : Cond) ∈ TB := tb_in (List.mem_of_getElem? (i := 115) (by decide +kernel)) rfl
theorem q_134 : (.classLink RX3 34 RX4 : Cond) ∈ TB := tb_in (List.mem_of_getElem? (i := 134) (by decide +kernel)) rfl
theorem q_135 : (.instantiable RX4 2 : Cond) ∈ TB := tb_in (List.mem_of_getElem? (i := 135) (by decide +kernel)) rfl
theorem q_136 : (.methodLink RX3 36 yX4_init : Cond) ∈ TB := tb_in (List.mem_of_getElem? (i := 136) (by decide +kernel)) rfl
theorem q_137 : (.instanceMethod yX4_init : Cond) ∈ TB := tb_in (List.mem_of_getElem? (i := 137) (by decide +kernel)) rfl
theorem q_138 : (.code yX4_init cX4_init 1 (Option.none : Option Jvm.ClassFile.FieldType) : Cond) ∈ TB := tb_in (List.mem_of_getElem? (i := 138) (by decide +kernel)) rfl
theorem q_139 : (.methodLink RX4 3 objectInit : Cond) ∈ TB := tb_in (List.mem_of_getElem? (i := 139) (by decide +kernel)) rfl
theorem q_140 : (.fieldLink RX4 9 "HutBookings$Larder" "fresh" "[I" : Cond) ∈ TB := tb_in (List.mem_of_getElem? (i := 140) (by decide +kernel)) rfl
theorem q_141 : (.fieldLink RX4 21 "HutBookings$Larder" "dry" "I" : Cond) ∈ TB := tb_in (List.mem_of_getElem? (i := 141) (by decide +kernel)) rfl
theorem q_142 : (.fieldLink RX6 227 "HutBookings$Larder" "dry" "I" : Cond) ∈ TB := tb_in (List.mem_of_getElem? (i := 142) (by decide +kernel)) rfl
theorem q_148 : (.classLink RX3 41 RX5 : Cond) ∈ TB := tb_in (List.mem_of_getElem? (i := 148) (by decide +kernel)) rfl
theorem q_149 : (.instantiable RX5 3 : Cond) ∈ TB := tb_in (List.mem_of_getElem? (i := 149) (by decide +kernel)) rfl
theorem q_150 : (.methodLink RX3 43 yX5_init : Cond) ∈ TB := tb_in (List.mem_of_getElem? (i := 150) (by decide +kernel)) rfl
theorem q_151 : (.instanceMethod yX5_init : Cond) ∈ TB := tb_in (List.mem_of_getElem? (i := 151) (by decide +kernel)) rfl
theorem q_152 : (.code yX5_init cX5_init 1 (Option.none : Option Jvm.ClassFile.FieldType) : Cond) ∈ TB := tb_in (List.mem_of_getElem? (i := 152) (by decide +kernel)) rfl
theorem q_153 : (.methodLink RX5 3 objectInit : Cond) ∈ TB := tb_in (List.mem_of_getElem? (i := 153) (by decide +kernel)) rfl
theorem q_154 : (.fieldLink RX5 9 "HutBookings$Orders" "kinds" "[I" : Cond) ∈ TB := tb_in (List.mem_of_getElem? (i := 154) (by decide +kernel)) rfl
theorem q_155 : (.fieldLink RX6 204 "HutBookings$Orders" "kinds" "[I" : Cond) ∈ TB := tb_in (List.mem_of_getElem? (i := 155) (by decide +kernel)) rfl
theorem q_156 : (.fieldLink RX3 191 "HutBookings$Orders" "kinds" "[I" : Cond) ∈ TB := tb_in (List.mem_of_getElem? (i := 156) (by decide +kernel)) rfl
theorem q_157 : (.fieldLink RX5 15 "HutBookings$Orders" "portions" "[I" : Cond) ∈ TB := tb_in (List.mem_of_getElem? (i := 157) (by decide +kernel)) rfl
theorem q_158 : (.fieldLink RX6 207 "HutBookings$Orders" "portions" "[I" : Cond) ∈ TB := tb_in (List.mem_of_getElem? (i := 158) (by decide +kernel)) rfl
theorem q_159 : (.fieldLink RX5 18 "HutBookings$Orders" "size" "I" : Cond) ∈ TB := tb_in (List.mem_of_getElem? (i := 159) (by decide +kernel)) rfl
theorem q_160 : (.fieldLink RX6 118 "HutBookings$Orders" "size" "I" : Cond) ∈ TB := tb_in (List.mem_of_getElem? (i := 160) (by decide +kernel)) rfl
theorem q_161 : (.fieldLink RX3 188 "HutBookings$Orders" "size" "I" : Cond) ∈ TB := tb_in (List.mem_of_getElem? (i := 161) (by decide +kernel)) rfl
theorem q_169 : (.fieldLink RX3 9 "HutBookings$Hut" "settings" "[I" : Cond) ∈ TB := tb_in (List.mem_of_getElem? (i := 169) (by decide +kernel)) rfl
theorem q_170 : (.fieldLink RX6 149 "HutBookings$Hut" "settings" "[I" : Cond) ∈ TB := tb_in (List.mem_of_getElem? (i := 170) (by decide +kernel)) rfl
theorem q_171 : (.fieldLink RX3 24 "HutBookings$Hut" "weatherRow" "[I" : Cond) ∈ TB := tb_in (List.mem_of_getElem? (i := 171) (by decide +kernel)) rfl
theorem q_172 : (.fieldLink RX3 30 "HutBookings$Hut" "guests" "LHutBookings$Guests;" : Cond) ∈ TB := tb_in (List.mem_of_getElem? (i := 172) (by decide +kernel)) rfl
theorem q_173 : (.fieldLink RX6 83 "HutBookings$Hut" "guests" "LHutBookings$Guests;" : Cond) ∈ TB := tb_in (List.mem_of_getElem? (i := 173) (by decide +kernel)) rfl
theorem q_174 : (.fieldLink RX3 37 "HutBookings$Hut" "larder" "LHutBookings$Larder;" : Cond) ∈ TB := tb_in (List.mem_of_getElem? (i := 174) (by decide +kernel)) rfl
theorem q_175 : (.fieldLink RX6 191 "HutBookings$Hut" "larder" "LHutBookings$Larder;" : Cond) ∈ TB := tb_in (List.mem_of_getElem? (i := 175) (by decide +kernel)) rfl
theorem q_176 : (.fieldLink RX3 44 "HutBookings$Hut" "orders" "LHutBookings$Orders;" : Cond) ∈ TB := tb_in (List.mem_of_getElem? (i := 176) (by decide +kernel)) rfl
theorem q_177 : (.fieldLink RX6 114 "HutBookings$Hut" "orders" "LHutBookings$Orders;" : Cond) ∈ TB := tb_in (List.mem_of_getElem? (i := 177) (by decide +kernel)) rfl
theorem q_178 : (.fieldLink RX3 48 "HutBookings$Hut" "tally" "[I" : Cond) ∈ TB := tb_in (List.mem_of_getElem? (i := 178) (by decide +kernel)) rfl
theorem q_179 : (.fieldLink RX6 134 "HutBookings$Hut" "tally" "[I" : Cond) ∈ TB := tb_in (List.mem_of_getElem? (i := 179) (by decide +kernel)) rfl
theorem q_180 : (.fieldLink RX3 61 "HutBookings$Hut" "today" "I" : Cond) ∈ TB := tb_in (List.mem_of_getElem? (i := 180) (by decide +kernel)) rfl
theorem q_181 : (.fieldLink RX6 104 "HutBookings$Hut" "today" "I" : Cond) ∈ TB := tb_in (List.mem_of_getElem? (i := 181) (by decide +kernel)) rfl
theorem q_182 : (.fieldLink RX3 65 "HutBookings$Hut" "flightCalled" "Z" : Cond) ∈ TB := tb_in (List.mem_of_getElem? (i := 182) (by decide +kernel)) rfl
theorem q_183 : (.fieldLink RX6 131 "HutBookings$Hut" "flightCalled" "Z" : Cond) ∈ TB := tb_in (List.mem_of_getElem? (i := 183) (by decide +kernel)) rfl
theorem q_184 : (.fieldLink RX3 69 "HutBookings$Hut" "purse" "I" : Cond) ∈ TB := tb_in (List.mem_of_getElem? (i := 184) (by decide +kernel)) rfl
theorem q_185 : (.fieldLink RX6 233 "HutBookings$Hut" "purse" "I" : Cond) ∈ TB := tb_in (List.mem_of_getElem? (i := 185) (by decide +kernel)) rfl
theorem q_186 : (.fieldLink RX3 72 "HutBookings$Hut" "depositsKept" "I" : Cond) ∈ TB := tb_in (List.mem_of_getElem? (i := 186) (by decide +kernel)) rfl
theorem q_187 : (.fieldLink RX6 239 "HutBookings$Hut" "depositsKept" "I" : Cond) ∈ TB := tb_in (List.mem_of_getElem? (i := 187) (by decide +kernel)) rfl
theorem q_188 : (.fieldLink RX3 75 "HutBookings$Hut" "flightsPaid" "I" : Cond) ∈ TB := tb_in (List.mem_of_getElem? (i := 188) (by decide +kernel)) rfl
theorem q_189 : (.fieldLink RX6 242 "HutBookings$Hut" "flightsPaid" "I" : Cond) ∈ TB := tb_in (List.mem_of_getElem? (i := 189) (by decide +kernel)) rfl
theorem q_213 : (.classLink RX6 26 RX2 : Cond) ∈ TB := tb_in (List.mem_of_getElem? (i := 213) (by decide +kernel)) rfl
theorem q_214 : (.instantiable RX2 2 : Cond) ∈ TB := tb_in (List.mem_of_getElem? (i := 214) (by decide +kernel)) rfl
theorem q_215 : (.methodLink RX6 28 yX2_init : Cond) ∈ TB := tb_in (List.mem_of_getElem? (i := 215) (by decide +kernel)) rfl
theorem q_216 : (.instanceMethod yX2_init : Cond) ∈ TB := tb_in (List.mem_of_getElem? (i := 216) (by decide +kernel)) rfl
theorem q_217 : (.code yX2_init cX2_init 2 (Option.none : Option Jvm.ClassFile.FieldType) : Cond) ∈ TB := tb_in (List.mem_of_getElem? (i := 217) (by decide +kernel)) rfl
theorem q_218 : (.methodLink RX2 3 objectInit : Cond) ∈ TB := tb_in (List.mem_of_getElem? (i := 218) (by decide +kernel)) rfl
theorem q_219 : (.classLink RX2 9 RX3 : Cond) ∈ TB := tb_in (List.mem_of_getElem? (i := 219) (by decide +kernel)) rfl
theorem q_221 : (.methodLink RX2 17 yX3_init : Cond) ∈ TB := tb_in (List.mem_of_getElem? (i := 221) (by decide +kernel)) rfl
theorem q_222 : (.fieldLink RX2 11 "HutBookings$History" "states" "[LHutBookings$Hut;" : Cond) ∈ TB := tb_in (List.mem_of_getElem? (i := 222) (by decide +kernel)) rfl
theorem q_223 : (.fieldLink RX2 18 "HutBookings$History" "size" "I" : Cond) ∈ TB := tb_in (List.mem_of_getElem? (i := 223) (by decide +kernel)) rfl
theorem q_224 : (.fieldLink RX6 158 "HutBookings$History" "size" "I" : Cond) ∈ TB := tb_in (List.mem_of_getElem? (i := 224) (by decide +kernel)) rfl
theorem q_230 : (.classLink RX6 33 RX0 : Cond) ∈ TB := tb_in (List.mem_of_getElem? (i := 230) (by decide +kernel)) rfl
theorem q_231 : (.instantiable RX0 9 : Cond) ∈ TB := tb_in (List.mem_of_getElem? (i := 231) (by decide +kernel)) rfl
theorem q_232 : (.methodLink RX6 35 yX0_init : Cond) ∈ TB := tb_in (List.mem_of_getElem? (i := 232) (by decide +kernel)) rfl
theorem q_233 : (.instanceMethod yX0_init : Cond) ∈ TB := tb_in (List.mem_of_getElem? (i := 233) (by decide +kernel)) rfl
theorem q_234 : (.code yX0_init cX0_init 1 (Option.none : Option Jvm.ClassFile.FieldType) : Cond) ∈ TB := tb_in (List.mem_of_getElem? (i := 234) (by decide +kernel)) rfl
theorem q_235 : (.methodLink RX0 3 objectInit : Cond) ∈ TB := tb_in (List.mem_of_getElem? (i := 235) (by decide +kernel)) rfl
theorem q_236 : (.fieldLink RX0 9 "HutBookings$BookingText" "characters" "[C" : Cond) ∈ TB := tb_in (List.mem_of_getElem? (i := 236) (by decide +kernel)) rfl
theorem q_237 : (.fieldLink RX0 25 "HutBookings$BookingText" "length" "I" : Cond) ∈ TB := tb_in (List.mem_of_getElem? (i := 237) (by decide +kernel)) rfl
theorem q_238 : (.fieldLink RX6 152 "HutBookings$BookingText" "length" "I" : Cond) ∈ TB := tb_in (List.mem_of_getElem? (i := 238) (by decide +kernel)) rfl
theorem q_239 : (.fieldLink RX0 15 "HutBookings$BookingText" "arrives" "[I" : Cond) ∈ TB := tb_in (List.mem_of_getElem? (i := 239) (by decide +kernel)) rfl
theorem q_240 : (.fieldLink RX6 67 "HutBookings$BookingText" "arrives" "[I" : Cond) ∈ TB := tb_in (List.mem_of_getElem? (i := 240) (by decide +kernel)) rfl
theorem q_241 : (.fieldLink RX0 19 "HutBookings$BookingText" "nights" "[I" : Cond) ∈ TB := tb_in (List.mem_of_getElem? (i := 241) (by decide +kernel)) rfl
theorem q_242 : (.fieldLink RX6 70 "HutBookings$BookingText" "nights" "[I" : Cond) ∈ TB := tb_in (List.mem_of_getElem? (i := 242) (by decide +kernel)) rfl
theorem q_243 : (.fieldLink RX0 22 "HutBookings$BookingText" "persons" "[I" : Cond) ∈ TB := tb_in (List.mem_of_getElem? (i := 243) (by decide +kernel)) rfl
theorem q_244 : (.fieldLink RX6 73 "HutBookings$BookingText" "persons" "[I" : Cond) ∈ TB := tb_in (List.mem_of_getElem? (i := 244) (by decide +kernel)) rfl
theorem q_245 : (.fieldLink RX0 29 "HutBookings$BookingText" "found" "I" : Cond) ∈ TB := tb_in (List.mem_of_getElem? (i := 245) (by decide +kernel)) rfl
theorem q_246 : (.fieldLink RX6 63 "HutBookings$BookingText" "found" "I" : Cond) ∈ TB := tb_in (List.mem_of_getElem? (i := 246) (by decide +kernel)) rfl
theorem q_247 : (.fieldLink RX0 32 "HutBookings$BookingText" "place" "I" : Cond) ∈ TB := tb_in (List.mem_of_getElem? (i := 247) (by decide +kernel)) rfl
theorem q_248 : (.fieldLink RX0 56 "HutBookings$BookingText" "dayRead" "I" : Cond) ∈ TB := tb_in (List.mem_of_getElem? (i := 248) (by decide +kernel)) rfl
theorem q_249 : (.fieldLink RX0 59 "HutBookings$BookingText" "nightsRead" "I" : Cond) ∈ TB := tb_in (List.mem_of_getElem? (i := 249) (by decide +kernel)) rfl
theorem q_270 : (.fieldLink RX6 10 "HutBookings" "hut" "LHutBookings$Hut;" : Cond) ∈ TB := tb_in (List.mem_of_getElem? (i := 270) (by decide +kernel)) rfl
theorem q_271 : (.fieldLink RX6 16 "HutBookings" "trial" "LHutBookings$Hut;" : Cond) ∈ TB := tb_in (List.mem_of_getElem? (i := 271) (by decide +kernel)) rfl
theorem q_272 : (.fieldLink RX6 19 "HutBookings" "snapshot" "LHutBookings$Hut;" : Cond) ∈ TB := tb_in (List.mem_of_getElem? (i := 272) (by decide +kernel)) rfl
theorem q_273 : (.fieldLink RX6 22 "HutBookings" "hasSnapshot" "Z" : Cond) ∈ TB := tb_in (List.mem_of_getElem? (i := 273) (by decide +kernel)) rfl
theorem q_274 : (.fieldLink RX6 29 "HutBookings" "history" "LHutBookings$History;" : Cond) ∈ TB := tb_in (List.mem_of_getElem? (i := 274) (by decide +kernel)) rfl
theorem q_275 : (.fieldLink RX6 36 "HutBookings" "text" "LHutBookings$BookingText;" : Cond) ∈ TB := tb_in (List.mem_of_getElem? (i := 275) (by decide +kernel)) rfl
theorem q_276 : (.fieldLink RX6 40 "HutBookings" "bedsTaken" "[I" : Cond) ∈ TB := tb_in (List.mem_of_getElem? (i := 276) (by decide +kernel)) rfl
theorem q_292 : (.methodLink RL 13 yX6_book : Cond) ∈ TB := tb_in (List.mem_of_getElem? (i := 292) (by decide +kernel)) rfl
theorem q_293 : (.instanceMethod yX6_book : Cond) ∈ TB := tb_in (List.mem_of_getElem? (i := 293) (by decide +kernel)) rfl
theorem q_294 : (.selects RX6 yX6_book yX6_book : Cond) ∈ TB := tb_in (List.mem_of_getElem? (i := 294) (by decide +kernel)) rfl
theorem q_295 : (.code yX6_book cX6_book 5 (Option.some Jvm.ClassFile.FieldType.int) : Cond) ∈ TB := tb_in (List.mem_of_getElem? (i := 295) (by decide +kernel)) rfl
theorem q_296 : (.methodLink RX6 44 yX3_bookingError : Cond) ∈ TB := tb_in (List.mem_of_getElem? (i := 296) (by decide +kernel)) rfl
theorem q_297 : (.instanceMethod yX3_bookingError : Cond) ∈ TB := tb_in (List.mem_of_getElem? (i := 297) (by decide +kernel)) rfl
theorem q_298 : (.selects RX3 yX3_bookingError yX3_bookingError : Cond) ∈ TB := tb_in (List.mem_of_getElem? (i := 298) (by decide +kernel)) rfl
theorem q_299 : (.code yX3_bookingError cX3_bookingError 4 (Option.some Jvm.ClassFile.FieldType.int) : Cond) ∈ TB := tb_in (List.mem_of_getElem? (i := 299) (by decide +kernel)) rfl
theorem q_300 : (.methodLinkNest RX3 88 yX6_areNightsAndPersons "HutBookings" : Cond) ∈ lw_tbl := List.mem_of_getElem? (i := 300) (by decide +kernel)
theorem q_301 : (.static yX6_areNightsAndPersons : Cond) ∈ TB := tb_in (List.mem_of_getElem? (i := 301) (by decide +kernel)) rfl
theorem q_302 : (.code yX6_areNightsAndPersons cX6_areNightsAndPersons 2 (Option.some Jvm.ClassFile.FieldType.boolean) : Cond) ∈ TB := tb_in (List.mem_of_getElem? (i := 302) (by decide +kernel)) rfl
theorem q_303 : (.constant RX3 92 (-1000002) : Cond) ∈ TB := tb_in (List.mem_of_getElem? (i := 303) (by decide +kernel)) rfl
theorem q_304 : (.methodLink RX3 93 yX3_hasBeds : Cond) ∈ TB := tb_in (List.mem_of_getElem? (i := 304) (by decide +kernel)) rfl
theorem q_305 : (.instanceMethod yX3_hasBeds : Cond) ∈ TB := tb_in (List.mem_of_getElem? (i := 305) (by decide +kernel)) rfl
theorem q_306 : (.selects RX3 yX3_hasBeds yX3_hasBeds : Cond) ∈ TB := tb_in (List.mem_of_getElem? (i := 306) (by decide +kernel)) rfl
theorem q_307 : (.code yX3_hasBeds cX3_hasBeds 5 (Option.some Jvm.ClassFile.FieldType.boolean) : Cond) ∈ TB := tb_in (List.mem_of_getElem? (i := 307) (by decide +kernel)) rfl
theorem q_308 : (.methodLink RX3 106 yX1_bedsTakenIn : Cond) ∈ TB := tb_in (List.mem_of_getElem? (i := 308) (by decide +kernel)) rfl
theorem q_309 : (.instanceMethod yX1_bedsTakenIn : Cond) ∈ TB := tb_in (List.mem_of_getElem? (i := 309) (by decide +kernel)) rfl
theorem q_310 : (.selects RX1 yX1_bedsTakenIn yX1_bedsTakenIn : Cond) ∈ TB := tb_in (List.mem_of_getElem? (i := 310) (by decide +kernel)) rfl
theorem q_311 : (.code yX1_bedsTakenIn cX1_bedsTakenIn 2 (Option.some Jvm.ClassFile.FieldType.int) : Cond) ∈ TB := tb_in (List.mem_of_getElem? (i := 311) (by decide +kernel)) rfl
theorem q_312 : (.methodLink RX1 48 yX1_bedsTakenFrom : Cond) ∈ TB := tb_in (List.mem_of_getElem? (i := 312) (by decide +kernel)) rfl
theorem q_313 : (.instanceMethod yX1_bedsTakenFrom : Cond) ∈ TB := tb_in (List.mem_of_getElem? (i := 313) (by decide +kernel)) rfl
theorem q_314 : (.selects RX1 yX1_bedsTakenFrom yX1_bedsTakenFrom : Cond) ∈ TB := tb_in (List.mem_of_getElem? (i := 314) (by decide +kernel)) rfl
theorem q_315 : (.code yX1_bedsTakenFrom cX1_bedsTakenFrom 6 (Option.some Jvm.ClassFile.FieldType.int) : Cond) ∈ TB := tb_in (List.mem_of_getElem? (i := 315) (by decide +kernel)) rfl
theorem q_316 : (.methodLink RX1 44 yX1_end : Cond) ∈ TB := tb_in (List.mem_of_getElem? (i := 316) (by decide +kernel)) rfl
theorem q_317 : (.instanceMethod yX1_end : Cond) ∈ TB := tb_in (List.mem_of_getElem? (i := 317) (by decide +kernel)) rfl
theorem q_318 : (.selects RX1 yX1_end yX1_end : Cond) ∈ TB := tb_in (List.mem_of_getElem? (i := 318) (by decide +kernel)) rfl
theorem q_319 : (.code yX1_end cX1_end 2 (Option.some Jvm.ClassFile.FieldType.int) : Cond) ∈ TB := tb_in (List.mem_of_getElem? (i := 319) (by decide +kernel)) rfl
theorem q_320 : (.methodLink RX1 52 yJ9_min_7cf53 : Cond) ∈ TB := tb_in (List.mem_of_getElem? (i := 320) (by decide +kernel)) rfl
theorem q_321 : (.static yJ9_min_7cf53 : Cond) ∈ TB := tb_in (List.mem_of_getElem? (i := 321) (by decide +kernel)) rfl
theorem q_322 : (.code yJ9_min_7cf53 cJ9_min_7cf53 2 (Option.some Jvm.ClassFile.FieldType.int) : Cond) ∈ TB := tb_in (List.mem_of_getElem? (i := 322) (by decide +kernel)) rfl
theorem q_323 : (.methodLink RX1 57 yJ9_max_7cf53 : Cond) ∈ TB := tb_in (List.mem_of_getElem? (i := 323) (by decide +kernel)) rfl
theorem q_324 : (.static yJ9_max_7cf53 : Cond) ∈ TB := tb_in (List.mem_of_getElem? (i := 324) (by decide +kernel)) rfl
theorem q_325 : (.code yJ9_max_7cf53 cJ9_max_7cf53 2 (Option.some Jvm.ClassFile.FieldType.int) : Cond) ∈ TB := tb_in (List.mem_of_getElem? (i := 325) (by decide +kernel)) rfl
theorem q_326 : (.methodLink RX1 60 yX1_holdsBeds : Cond) ∈ TB := tb_in (List.mem_of_getElem? (i := 326) (by decide +kernel)) rfl
theorem q_327 : (.instanceMethod yX1_holdsBeds : Cond) ∈ TB := tb_in (List.mem_of_getElem? (i := 327) (by decide +kernel)) rfl
theorem q_328 : (.selects RX1 yX1_holdsBeds yX1_holdsBeds : Cond) ∈ TB := tb_in (List.mem_of_getElem? (i := 328) (by decide +kernel)) rfl
theorem q_329 : (.code yX1_holdsBeds cX1_holdsBeds 2 (Option.some Jvm.ClassFile.FieldType.boolean) : Cond) ∈ TB := tb_in (List.mem_of_getElem? (i := 329) (by decide +kernel)) rfl
theorem q_330 : (.constant RX3 97 (-1000004) : Cond) ∈ TB := tb_in (List.mem_of_getElem? (i := 330) (by decide +kernel)) rfl
theorem q_331 : (.constant RX3 101 (-1000003) : Cond) ∈ TB := tb_in (List.mem_of_getElem? (i := 331) (by decide +kernel)) rfl
theorem q_332 : (.methodLink RX6 48 yX2_remember : Cond) ∈ TB := tb_in (List.mem_of_getElem? (i := 332) (by decide +kernel)) rfl
theorem q_333 : (.instanceMethod yX2_remember : Cond) ∈ TB := tb_in (List.mem_of_getElem? (i := 333) (by decide +kernel)) rfl
theorem q_334 : (.selects RX2 yX2_remember yX2_remember : Cond) ∈ TB := tb_in (List.mem_of_getElem? (i := 334) (by decide +kernel)) rfl
theorem q_335 : (.code yX2_remember cX2_remember 2 (Option.none : Option Jvm.ClassFile.FieldType) : Cond) ∈ TB := tb_in (List.mem_of_getElem? (i := 335) (by decide +kernel)) rfl
theorem q_336 : (.methodLink RX2 22 yX2_dropOldest : Cond) ∈ TB := tb_in (List.mem_of_getElem? (i := 336) (by decide +kernel)) rfl
theorem q_338 : (.instanceMethod yX2_dropOldest : Cond) ∈ TB := tb_in (List.mem_of_getElem? (i := 338) (by decide +kernel)) rfl
theorem q_339 : (.code yX2_dropOldest cX2_dropOldest 3 (Option.none : Option Jvm.ClassFile.FieldType) : Cond) ∈ TB := tb_in (List.mem_of_getElem? (i := 339) (by decide +kernel)) rfl
theorem q_340 : (.methodLink RX2 25 yX3_copyFrom : Cond) ∈ TB := tb_in (List.mem_of_getElem? (i := 340) (by decide +kernel)) rfl
theorem q_341 : (.instanceMethod yX3_copyFrom : Cond) ∈ TB := tb_in (List.mem_of_getElem? (i := 341) (by decide +kernel)) rfl
theorem q_342 : (.selects RX3 yX3_copyFrom yX3_copyFrom : Cond) ∈ TB := tb_in (List.mem_of_getElem? (i := 342) (by decide +kernel)) rfl
theorem q_343 : (.code yX3_copyFrom cX3_copyFrom 2 (Option.none : Option Jvm.ClassFile.FieldType) : Cond) ∈ TB := tb_in (List.mem_of_getElem? (i := 343) (by decide +kernel)) rfl
theorem q_344 : (.methodLink RX3 51 yX1_copyFrom : Cond) ∈ TB := tb_in (List.mem_of_getElem? (i := 344) (by decide +kernel)) rfl
theorem q_345 : (.instanceMethod yX1_copyFrom : Cond) ∈ TB := tb_in (List.mem_of_getElem? (i := 345) (by decide +kernel)) rfl
theorem q_346 : (.selects RX1 yX1_copyFrom yX1_copyFrom : Cond) ∈ TB := tb_in (List.mem_of_getElem? (i := 346) (by decide +kernel)) rfl
theorem q_347 : (.code yX1_copyFrom cX1_copyFrom 2 (Option.none : Option Jvm.ClassFile.FieldType) : Cond) ∈ TB := tb_in (List.mem_of_getElem? (i := 347) (by decide +kernel)) rfl
theorem q_348 : (.methodLink RX1 37 arraycopyName : Cond) ∈ TB := tb_in (List.mem_of_getElem? (i := 348) (by decide +kernel)) rfl
theorem q_349 : (.methodLink RX3 55 yX4_copyFrom : Cond) ∈ TB := tb_in (List.mem_of_getElem? (i := 349) (by decide +kernel)) rfl
theorem q_350 : (.instanceMethod yX4_copyFrom : Cond) ∈ TB := tb_in (List.mem_of_getElem? (i := 350) (by decide +kernel)) rfl
theorem q_351 : (.selects RX4 yX4_copyFrom yX4_copyFrom : Cond) ∈ TB := tb_in (List.mem_of_getElem? (i := 351) (by decide +kernel)) rfl
theorem q_352 : (.code yX4_copyFrom cX4_copyFrom 2 (Option.none : Option Jvm.ClassFile.FieldType) : Cond) ∈ TB := tb_in (List.mem_of_getElem? (i := 352) (by decide +kernel)) rfl
theorem q_353 : (.methodLink RX4 15 arraycopyName : Cond) ∈ TB := tb_in (List.mem_of_getElem? (i := 353) (by decide +kernel)) rfl
theorem q_354 : (.methodLink RX3 58 yX5_copyFrom : Cond) ∈ TB := tb_in (List.mem_of_getElem? (i := 354) (by decide +kernel)) rfl
theorem q_355 : (.instanceMethod yX5_copyFrom : Cond) ∈ TB := tb_in (List.mem_of_getElem? (i := 355) (by decide +kernel)) rfl
theorem q_356 : (.selects RX5 yX5_copyFrom yX5_copyFrom : Cond) ∈ TB := tb_in (List.mem_of_getElem? (i := 356) (by decide +kernel)) rfl
theorem q_357 : (.code yX5_copyFrom cX5_copyFrom 2 (Option.none : Option Jvm.ClassFile.FieldType) : Cond) ∈ TB := tb_in (List.mem_of_getElem? (i := 357) (by decide +kernel)) rfl
theorem q_358 : (.methodLink RX5 22 arraycopyName : Cond) ∈ TB := tb_in (List.mem_of_getElem? (i := 358) (by decide +kernel)) rfl
theorem q_359 : (.methodLink RX6 52 yX3_addBooking : Cond) ∈ TB := tb_in (List.mem_of_getElem? (i := 359) (by decide +kernel)) rfl
theorem q_360 : (.instanceMethod yX3_addBooking : Cond) ∈ TB := tb_in (List.mem_of_getElem? (i := 360) (by decide +kernel)) rfl
theorem q_361 : (.selects RX3 yX3_addBooking yX3_addBooking : Cond) ∈ TB := tb_in (List.mem_of_getElem? (i := 361) (by decide +kernel)) rfl
theorem q_362 : (.code yX3_addBooking cX3_addBooking 5 (Option.some Jvm.ClassFile.FieldType.int) : Cond) ∈ TB := tb_in (List.mem_of_getElem? (i := 362) (by decide +kernel)) rfl
theorem q_363 : (.methodLink RX3 102 yX1_add : Cond) ∈ TB := tb_in (List.mem_of_getElem? (i := 363) (by decide +kernel)) rfl
theorem q_364 : (.instanceMethod yX1_add : Cond) ∈ TB := tb_in (List.mem_of_getElem? (i := 364) (by decide +kernel)) rfl
theorem q_365 : (.selects RX1 yX1_add yX1_add : Cond) ∈ TB := tb_in (List.mem_of_getElem? (i := 365) (by decide +kernel)) rfl
theorem q_366 : (.code yX1_add cX1_add 5 (Option.some Jvm.ClassFile.FieldType.int) : Cond) ∈ TB := tb_in (List.mem_of_getElem? (i := 366) (by decide +kernel)) rfl
theorem q_367 : (.constant RX1 43 (-1000003) : Cond) ∈ TB := tb_in (List.mem_of_getElem? (i := 367) (by decide +kernel)) rfl
theorem q_368 : (.methodLink RL 18 yX6_bookAll : Cond) ∈ TB := tb_in (List.mem_of_getElem? (i := 368) (by decide +kernel)) rfl
theorem q_369 : (.instanceMethod yX6_bookAll : Cond) ∈ TB := tb_in (List.mem_of_getElem? (i := 369) (by decide +kernel)) rfl
theorem q_370 : (.selects RX6 yX6_bookAll yX6_bookAll : Cond) ∈ TB := tb_in (List.mem_of_getElem? (i := 370) (by decide +kernel)) rfl
theorem q_371 : (.code yX6_bookAll cX6_bookAll 4 (Option.some Jvm.ClassFile.FieldType.int) : Cond) ∈ TB := tb_in (List.mem_of_getElem? (i := 371) (by decide +kernel)) rfl
theorem q_372 : (.methodLink RX6 55 yX0_findFault : Cond) ∈ TB := tb_in (List.mem_of_getElem? (i := 372) (by decide +kernel)) rfl
theorem q_373 : (.instanceMethod yX0_findFault : Cond) ∈ TB := tb_in (List.mem_of_getElem? (i := 373) (by decide +kernel)) rfl
theorem q_374 : (.selects RX0 yX0_findFault yX0_findFault : Cond) ∈ TB := tb_in (List.mem_of_getElem? (i := 374) (by decide +kernel)) rfl
theorem q_375 : (.code yX0_findFault cX0_findFault 2 (Option.some Jvm.ClassFile.FieldType.int) : Cond) ∈ TB := tb_in (List.mem_of_getElem? (i := 375) (by decide +kernel)) rfl
theorem q_376 : (.methodLink RX0 35 yX0_accepts : Cond) ∈ TB := tb_in (List.mem_of_getElem? (i := 376) (by decide +kernel)) rfl
theorem q_378 : (.instanceMethod yX0_accepts : Cond) ∈ TB := tb_in (List.mem_of_getElem? (i := 378) (by decide +kernel)) rfl
theorem q_379 : (.code yX0_accepts cX0_accepts 2 (Option.some Jvm.ClassFile.FieldType.boolean) : Cond) ∈ TB := tb_in (List.mem_of_getElem? (i := 379) (by decide +kernel)) rfl
theorem q_380 : (.methodLink RX0 40 yX0_acceptsDayBegin : Cond) ∈ TB := tb_in (List.mem_of_getElem? (i := 380) (by decide +kernel)) rfl
theorem q_382 : (.instanceMethod yX0_acceptsDayBegin : Cond) ∈ TB := tb_in (List.mem_of_getElem? (i := 382) (by decide +kernel)) rfl
theorem q_383 : (.code yX0_acceptsDayBegin cX0_acceptsDayBegin 2 (Option.some Jvm.ClassFile.FieldType.boolean) : Cond) ∈ TB := tb_in (List.mem_of_getElem? (i := 383) (by decide +kernel)) rfl
theorem q_384 : (.methodLink RX0 43 yX0_moveTo : Cond) ∈ TB := tb_in (List.mem_of_getElem? (i := 384) (by decide +kernel)) rfl
theorem q_386 : (.instanceMethod yX0_moveTo : Cond) ∈ TB := tb_in (List.mem_of_getElem? (i := 386) (by decide +kernel)) rfl
theorem q_387 : (.code yX0_moveTo cX0_moveTo 2 (Option.some Jvm.ClassFile.FieldType.boolean) : Cond) ∈ TB := tb_in (List.mem_of_getElem? (i := 387) (by decide +kernel)) rfl
theorem q_388 : (.methodLink RX0 47 yX0_acceptsDayDigit : Cond) ∈ TB := tb_in (List.mem_of_getElem? (i := 388) (by decide +kernel)) rfl
theorem q_390 : (.instanceMethod yX0_acceptsDayDigit : Cond) ∈ TB := tb_in (List.mem_of_getElem? (i := 390) (by decide +kernel)) rfl
theorem q_391 : (.code yX0_acceptsDayDigit cX0_acceptsDayDigit 3 (Option.some Jvm.ClassFile.FieldType.boolean) : Cond) ∈ TB := tb_in (List.mem_of_getElem? (i := 391) (by decide +kernel)) rfl
theorem q_392 : (.methodLink RX0 50 yX0_acceptsNights : Cond) ∈ TB := tb_in (List.mem_of_getElem? (i := 392) (by decide +kernel)) rfl
theorem q_394 : (.instanceMethod yX0_acceptsNights : Cond) ∈ TB := tb_in (List.mem_of_getElem? (i := 394) (by decide +kernel)) rfl
theorem q_395 : (.code yX0_acceptsNights cX0_acceptsNights 2 (Option.some Jvm.ClassFile.FieldType.boolean) : Cond) ∈ TB := tb_in (List.mem_of_getElem? (i := 395) (by decide +kernel)) rfl
theorem q_396 : (.methodLink RX0 53 yX0_acceptsPersons : Cond) ∈ TB := tb_in (List.mem_of_getElem? (i := 396) (by decide +kernel)) rfl
theorem q_398 : (.instanceMethod yX0_acceptsPersons : Cond) ∈ TB := tb_in (List.mem_of_getElem? (i := 398) (by decide +kernel)) rfl
theorem q_399 : (.code yX0_acceptsPersons cX0_acceptsPersons 2 (Option.some Jvm.ClassFile.FieldType.boolean) : Cond) ∈ TB := tb_in (List.mem_of_getElem? (i := 399) (by decide +kernel)) rfl
theorem q_400 : (.constant RX0 39 (-1000005) : Cond) ∈ TB := tb_in (List.mem_of_getElem? (i := 400) (by decide +kernel)) rfl
theorem q_401 : (.constant RX6 59 (-1000005) : Cond) ∈ TB := tb_in (List.mem_of_getElem? (i := 401) (by decide +kernel)) rfl
theorem q_402 : (.methodLink RX6 60 yX3_copyFrom : Cond) ∈ TB := tb_in (List.mem_of_getElem? (i := 402) (by decide +kernel)) rfl
theorem q_403 : (.methodLink RL 23 yX6_cancel : Cond) ∈ TB := tb_in (List.mem_of_getElem? (i := 403) (by decide +kernel)) rfl
theorem q_404 : (.instanceMethod yX6_cancel : Cond) ∈ TB := tb_in (List.mem_of_getElem? (i := 404) (by decide +kernel)) rfl
theorem q_405 : (.selects RX6 yX6_cancel yX6_cancel : Cond) ∈ TB := tb_in (List.mem_of_getElem? (i := 405) (by decide +kernel)) rfl
theorem q_406 : (.code yX6_cancel cX6_cancel 3 (Option.some Jvm.ClassFile.FieldType.int) : Cond) ∈ TB := tb_in (List.mem_of_getElem? (i := 406) (by decide +kernel)) rfl
theorem q_407 : (.methodLink RX6 76 yX6_errorUnlessBooked : Cond) ∈ TB := tb_in (List.mem_of_getElem? (i := 407) (by decide +kernel)) rfl
theorem q_409 : (.instanceMethod yX6_errorUnlessBooked : Cond) ∈ TB := tb_in (List.mem_of_getElem? (i := 409) (by decide +kernel)) rfl
theorem q_410 : (.code yX6_errorUnlessBooked cX6_errorUnlessBooked 2 (Option.some Jvm.ClassFile.FieldType.int) : Cond) ∈ TB := tb_in (List.mem_of_getElem? (i := 410) (by decide +kernel)) rfl
theorem q_411 : (.methodLink RX6 87 yX1_knows : Cond) ∈ TB := tb_in (List.mem_of_getElem? (i := 411) (by decide +kernel)) rfl
theorem q_412 : (.instanceMethod yX1_knows : Cond) ∈ TB := tb_in (List.mem_of_getElem? (i := 412) (by decide +kernel)) rfl
theorem q_413 : (.selects RX1 yX1_knows yX1_knows : Cond) ∈ TB := tb_in (List.mem_of_getElem? (i := 413) (by decide +kernel)) rfl
theorem q_414 : (.code yX1_knows cX1_knows 2 (Option.some Jvm.ClassFile.FieldType.boolean) : Cond) ∈ TB := tb_in (List.mem_of_getElem? (i := 414) (by decide +kernel)) rfl
theorem q_415 : (.constant RX6 93 (-1000001) : Cond) ∈ TB := tb_in (List.mem_of_getElem? (i := 415) (by decide +kernel)) rfl
theorem q_416 : (.constant RX6 99 (-1000004) : Cond) ∈ TB := tb_in (List.mem_of_getElem? (i := 416) (by decide +kernel)) rfl
theorem q_417 : (.methodLink RX6 80 yX3_cancelBooking : Cond) ∈ TB := tb_in (List.mem_of_getElem? (i := 417) (by decide +kernel)) rfl
theorem q_418 : (.instanceMethod yX3_cancelBooking : Cond) ∈ TB := tb_in (List.mem_of_getElem? (i := 418) (by decide +kernel)) rfl
theorem q_419 : (.selects RX3 yX3_cancelBooking yX3_cancelBooking : Cond) ∈ TB := tb_in (List.mem_of_getElem? (i := 419) (by decide +kernel)) rfl
theorem q_420 : (.code yX3_cancelBooking cX3_cancelBooking 3 (Option.some Jvm.ClassFile.FieldType.int) : Cond) ∈ TB := tb_in (List.mem_of_getElem? (i := 420) (by decide +kernel)) rfl
theorem q_421 : (.methodLink RX3 119 yX3_refundOf : Cond) ∈ TB := tb_in (List.mem_of_getElem? (i := 421) (by decide +kernel)) rfl
theorem q_422 : (.instanceMethod yX3_refundOf : Cond) ∈ TB := tb_in (List.mem_of_getElem? (i := 422) (by decide +kernel)) rfl
theorem q_423 : (.selects RX3 yX3_refundOf yX3_refundOf : Cond) ∈ TB := tb_in (List.mem_of_getElem? (i := 423) (by decide +kernel)) rfl
theorem q_424 : (.code yX3_refundOf cX3_refundOf 4 (Option.some Jvm.ClassFile.FieldType.int) : Cond) ∈ TB := tb_in (List.mem_of_getElem? (i := 424) (by decide +kernel)) rfl
theorem q_425 : (.methodLink RX3 112 yX3_isUpOpen : Cond) ∈ TB := tb_in (List.mem_of_getElem? (i := 425) (by decide +kernel)) rfl
theorem q_426 : (.instanceMethod yX3_isUpOpen : Cond) ∈ TB := tb_in (List.mem_of_getElem? (i := 426) (by decide +kernel)) rfl
theorem q_427 : (.selects RX3 yX3_isUpOpen yX3_isUpOpen : Cond) ∈ TB := tb_in (List.mem_of_getElem? (i := 427) (by decide +kernel)) rfl
theorem q_428 : (.code yX3_isUpOpen cX3_isUpOpen 2 (Option.some Jvm.ClassFile.FieldType.boolean) : Cond) ∈ TB := tb_in (List.mem_of_getElem? (i := 428) (by decide +kernel)) rfl
theorem q_429 : (.methodLink RX3 78 yX3_weatherOf : Cond) ∈ TB := tb_in (List.mem_of_getElem? (i := 429) (by decide +kernel)) rfl
theorem q_430 : (.instanceMethod yX3_weatherOf : Cond) ∈ TB := tb_in (List.mem_of_getElem? (i := 430) (by decide +kernel)) rfl
theorem q_431 : (.selects RX3 yX3_weatherOf yX3_weatherOf : Cond) ∈ TB := tb_in (List.mem_of_getElem? (i := 431) (by decide +kernel)) rfl
theorem q_432 : (.code yX3_weatherOf cX3_weatherOf 2 (Option.some Jvm.ClassFile.FieldType.int) : Cond) ∈ TB := tb_in (List.mem_of_getElem? (i := 432) (by decide +kernel)) rfl
theorem q_433 : (.methodLink RL 28 yX6_extend : Cond) ∈ TB := tb_in (List.mem_of_getElem? (i := 433) (by decide +kernel)) rfl
theorem q_434 : (.instanceMethod yX6_extend : Cond) ∈ TB := tb_in (List.mem_of_getElem? (i := 434) (by decide +kernel)) rfl
theorem q_435 : (.selects RX6 yX6_extend yX6_extend : Cond) ∈ TB := tb_in (List.mem_of_getElem? (i := 435) (by decide +kernel)) rfl
theorem q_436 : (.code yX6_extend cX6_extend 3 (Option.some Jvm.ClassFile.FieldType.int) : Cond) ∈ TB := tb_in (List.mem_of_getElem? (i := 436) (by decide +kernel)) rfl
theorem q_437 : (.constant RX6 94 (-1000002) : Cond) ∈ TB := tb_in (List.mem_of_getElem? (i := 437) (by decide +kernel)) rfl
theorem q_438 : (.methodLink RX6 95 yX3_canStayLonger : Cond) ∈ TB := tb_in (List.mem_of_getElem? (i := 438) (by decide +kernel)) rfl
theorem q_439 : (.instanceMethod yX3_canStayLonger : Cond) ∈ TB := tb_in (List.mem_of_getElem? (i := 439) (by decide +kernel)) rfl
theorem q_440 : (.selects RX3 yX3_canStayLonger yX3_canStayLonger : Cond) ∈ TB := tb_in (List.mem_of_getElem? (i := 440) (by decide +kernel)) rfl
theorem q_441 : (.code yX3_canStayLonger cX3_canStayLonger 4 (Option.some Jvm.ClassFile.FieldType.boolean) : Cond) ∈ TB := tb_in (List.mem_of_getElem? (i := 441) (by decide +kernel)) rfl
theorem q_442 : (.methodLink RX3 125 yX1_end : Cond) ∈ TB := tb_in (List.mem_of_getElem? (i := 442) (by decide +kernel)) rfl
theorem q_443 : (.methodLink RX6 101 yX1_end : Cond) ∈ TB := tb_in (List.mem_of_getElem? (i := 443) (by decide +kernel)) rfl
theorem q_444 : (.methodLink RL 33 yX6_weather : Cond) ∈ TB := tb_in (List.mem_of_getElem? (i := 444) (by decide +kernel)) rfl
theorem q_445 : (.instanceMethod yX6_weather : Cond) ∈ TB := tb_in (List.mem_of_getElem? (i := 445) (by decide +kernel)) rfl
theorem q_446 : (.selects RX6 yX6_weather yX6_weather : Cond) ∈ TB := tb_in (List.mem_of_getElem? (i := 446) (by decide +kernel)) rfl
theorem q_447 : (.code yX6_weather cX6_weather 5 (Option.some Jvm.ClassFile.FieldType.int) : Cond) ∈ TB := tb_in (List.mem_of_getElem? (i := 447) (by decide +kernel)) rfl
theorem q_448 : (.methodLink RX6 107 yX3_daysWithOtherWeather : Cond) ∈ TB := tb_in (List.mem_of_getElem? (i := 448) (by decide +kernel)) rfl
theorem q_449 : (.instanceMethod yX3_daysWithOtherWeather : Cond) ∈ TB := tb_in (List.mem_of_getElem? (i := 449) (by decide +kernel)) rfl
theorem q_450 : (.selects RX3 yX3_daysWithOtherWeather yX3_daysWithOtherWeather : Cond) ∈ TB := tb_in (List.mem_of_getElem? (i := 450) (by decide +kernel)) rfl
theorem q_451 : (.code yX3_daysWithOtherWeather cX3_daysWithOtherWeather 6 (Option.some Jvm.ClassFile.FieldType.int) : Cond) ∈ TB := tb_in (List.mem_of_getElem? (i := 451) (by decide +kernel)) rfl
theorem q_452 : (.methodLink RX6 110 yX3_changeWeather : Cond) ∈ TB := tb_in (List.mem_of_getElem? (i := 452) (by decide +kernel)) rfl
theorem q_453 : (.instanceMethod yX3_changeWeather : Cond) ∈ TB := tb_in (List.mem_of_getElem? (i := 453) (by decide +kernel)) rfl
theorem q_454 : (.selects RX3 yX3_changeWeather yX3_changeWeather : Cond) ∈ TB := tb_in (List.mem_of_getElem? (i := 454) (by decide +kernel)) rfl
theorem q_455 : (.code yX3_changeWeather cX3_changeWeather 5 (Option.none : Option Jvm.ClassFile.FieldType) : Cond) ∈ TB := tb_in (List.mem_of_getElem? (i := 455) (by decide +kernel)) rfl
theorem q_456 : (.methodLink RX3 82 yJ9_max_7cf53 : Cond) ∈ TB := tb_in (List.mem_of_getElem? (i := 456) (by decide +kernel)) rfl
theorem q_457 : (.methodLink RL 37 yX6_order : Cond) ∈ TB := tb_in (List.mem_of_getElem? (i := 457) (by decide +kernel)) rfl
theorem q_458 : (.instanceMethod yX6_order : Cond) ∈ TB := tb_in (List.mem_of_getElem? (i := 458) (by decide +kernel)) rfl
theorem q_459 : (.selects RX6 yX6_order yX6_order : Cond) ∈ TB := tb_in (List.mem_of_getElem? (i := 459) (by decide +kernel)) rfl
theorem q_460 : (.code yX6_order cX6_order 3 (Option.some Jvm.ClassFile.FieldType.int) : Cond) ∈ TB := tb_in (List.mem_of_getElem? (i := 460) (by decide +kernel)) rfl
theorem q_461 : (.constant RX6 123 (-1000003) : Cond) ∈ TB := tb_in (List.mem_of_getElem? (i := 461) (by decide +kernel)) rfl
theorem q_462 : (.methodLink RX6 124 yX5_append : Cond) ∈ TB := tb_in (List.mem_of_getElem? (i := 462) (by decide +kernel)) rfl
theorem q_463 : (.instanceMethod yX5_append : Cond) ∈ TB := tb_in (List.mem_of_getElem? (i := 463) (by decide +kernel)) rfl
theorem q_464 : (.selects RX5 yX5_append yX5_append : Cond) ∈ TB := tb_in (List.mem_of_getElem? (i := 464) (by decide +kernel)) rfl
theorem q_465 : (.code yX5_append cX5_append 3 (Option.none : Option Jvm.ClassFile.FieldType) : Cond) ∈ TB := tb_in (List.mem_of_getElem? (i := 465) (by decide +kernel)) rfl
theorem q_466 : (.methodLink RL 41 yX6_recall : Cond) ∈ TB := tb_in (List.mem_of_getElem? (i := 466) (by decide +kernel)) rfl
theorem q_467 : (.instanceMethod yX6_recall : Cond) ∈ TB := tb_in (List.mem_of_getElem? (i := 467) (by decide +kernel)) rfl
theorem q_468 : (.selects RX6 yX6_recall yX6_recall : Cond) ∈ TB := tb_in (List.mem_of_getElem? (i := 468) (by decide +kernel)) rfl
theorem q_469 : (.code yX6_recall cX6_recall 1 (Option.some Jvm.ClassFile.FieldType.int) : Cond) ∈ TB := tb_in (List.mem_of_getElem? (i := 469) (by decide +kernel)) rfl
theorem q_470 : (.methodLink RX6 128 yX5_removeLast : Cond) ∈ TB := tb_in (List.mem_of_getElem? (i := 470) (by decide +kernel)) rfl
theorem q_471 : (.instanceMethod yX5_removeLast : Cond) ∈ TB := tb_in (List.mem_of_getElem? (i := 471) (by decide +kernel)) rfl
theorem q_472 : (.selects RX5 yX5_removeLast yX5_removeLast : Cond) ∈ TB := tb_in (List.mem_of_getElem? (i := 472) (by decide +kernel)) rfl
theorem q_473 : (.code yX5_removeLast cX5_removeLast 1 (Option.some Jvm.ClassFile.FieldType.int) : Cond) ∈ TB := tb_in (List.mem_of_getElem? (i := 473) (by decide +kernel)) rfl
theorem q_474 : (.methodLink RL 45 yX6_flight : Cond) ∈ TB := tb_in (List.mem_of_getElem? (i := 474) (by decide +kernel)) rfl
theorem q_475 : (.instanceMethod yX6_flight : Cond) ∈ TB := tb_in (List.mem_of_getElem? (i := 475) (by decide +kernel)) rfl
theorem q_476 : (.selects RX6 yX6_flight yX6_flight : Cond) ∈ TB := tb_in (List.mem_of_getElem? (i := 476) (by decide +kernel)) rfl
theorem q_477 : (.code yX6_flight cX6_flight 2 (Option.some Jvm.ClassFile.FieldType.int) : Cond) ∈ TB := tb_in (List.mem_of_getElem? (i := 477) (by decide +kernel)) rfl
theorem q_478 : (.methodLink RL 50 yX6_pass : Cond) ∈ TB := tb_in (List.mem_of_getElem? (i := 478) (by decide +kernel)) rfl
theorem q_479 : (.instanceMethod yX6_pass : Cond) ∈ TB := tb_in (List.mem_of_getElem? (i := 479) (by decide +kernel)) rfl
theorem q_480 : (.selects RX6 yX6_pass yX6_pass : Cond) ∈ TB := tb_in (List.mem_of_getElem? (i := 480) (by decide +kernel)) rfl
theorem q_481 : (.code yX6_pass cX6_pass 3 (Option.some Jvm.ClassFile.FieldType.int) : Cond) ∈ TB := tb_in (List.mem_of_getElem? (i := 481) (by decide +kernel)) rfl
theorem q_482 : (.methodLink RX6 137 yX3_passDay : Cond) ∈ TB := tb_in (List.mem_of_getElem? (i := 482) (by decide +kernel)) rfl
theorem q_483 : (.instanceMethod yX3_passDay : Cond) ∈ TB := tb_in (List.mem_of_getElem? (i := 483) (by decide +kernel)) rfl
theorem q_484 : (.selects RX3 yX3_passDay yX3_passDay : Cond) ∈ TB := tb_in (List.mem_of_getElem? (i := 484) (by decide +kernel)) rfl
theorem q_485 : (.code yX3_passDay cX3_passDay 1 (Option.none : Option Jvm.ClassFile.FieldType) : Cond) ∈ TB := tb_in (List.mem_of_getElem? (i := 485) (by decide +kernel)) rfl
theorem q_486 : (.methodLink RX3 141 yX3_beginDay : Cond) ∈ TB := tb_in (List.mem_of_getElem? (i := 486) (by decide +kernel)) rfl
theorem q_487 : (.instanceMethod yX3_beginDay : Cond) ∈ TB := tb_in (List.mem_of_getElem? (i := 487) (by decide +kernel)) rfl
theorem q_488 : (.selects RX3 yX3_beginDay yX3_beginDay : Cond) ∈ TB := tb_in (List.mem_of_getElem? (i := 488) (by decide +kernel)) rfl
theorem q_489 : (.code yX3_beginDay cX3_beginDay 1 (Option.none : Option Jvm.ClassFile.FieldType) : Cond) ∈ TB := tb_in (List.mem_of_getElem? (i := 489) (by decide +kernel)) rfl
theorem q_490 : (.methodLink RX3 153 yX4_throwSpoiltAway : Cond) ∈ TB := tb_in (List.mem_of_getElem? (i := 490) (by decide +kernel)) rfl
theorem q_491 : (.instanceMethod yX4_throwSpoiltAway : Cond) ∈ TB := tb_in (List.mem_of_getElem? (i := 491) (by decide +kernel)) rfl
theorem q_492 : (.selects RX4 yX4_throwSpoiltAway yX4_throwSpoiltAway : Cond) ∈ TB := tb_in (List.mem_of_getElem? (i := 492) (by decide +kernel)) rfl
theorem q_493 : (.code yX4_throwSpoiltAway cX4_throwSpoiltAway 5 (Option.some Jvm.ClassFile.FieldType.int) : Cond) ∈ TB := tb_in (List.mem_of_getElem? (i := 493) (by decide +kernel)) rfl
theorem q_494 : (.methodLink RX4 35 yX4_freshOf : Cond) ∈ TB := tb_in (List.mem_of_getElem? (i := 494) (by decide +kernel)) rfl
theorem q_495 : (.instanceMethod yX4_freshOf : Cond) ∈ TB := tb_in (List.mem_of_getElem? (i := 495) (by decide +kernel)) rfl
theorem q_496 : (.selects RX4 yX4_freshOf yX4_freshOf : Cond) ∈ TB := tb_in (List.mem_of_getElem? (i := 496) (by decide +kernel)) rfl
theorem q_497 : (.code yX4_freshOf cX4_freshOf 2 (Option.some Jvm.ClassFile.FieldType.int) : Cond) ∈ TB := tb_in (List.mem_of_getElem? (i := 497) (by decide +kernel)) rfl
theorem q_498 : (.methodLink RX4 31 yX4_slotOf : Cond) ∈ TB := tb_in (List.mem_of_getElem? (i := 498) (by decide +kernel)) rfl
theorem q_499 : (.static yX4_slotOf : Cond) ∈ TB := tb_in (List.mem_of_getElem? (i := 499) (by decide +kernel)) rfl
theorem q_500 : (.code yX4_slotOf cX4_slotOf 1 (Option.some Jvm.ClassFile.FieldType.int) : Cond) ∈ TB := tb_in (List.mem_of_getElem? (i := 500) (by decide +kernel)) rfl
theorem q_501 : (.methodLink RX4 25 yJ9_floorMod_7cf53 : Cond) ∈ TB := tb_in (List.mem_of_getElem? (i := 501) (by decide +kernel)) rfl
theorem q_502 : (.static yJ9_floorMod_7cf53 : Cond) ∈ TB := tb_in (List.mem_of_getElem? (i := 502) (by decide +kernel)) rfl
theorem q_503 : (.code yJ9_floorMod_7cf53 cJ9_floorMod_7cf53 3 (Option.some Jvm.ClassFile.FieldType.int) : Cond) ∈ TB := tb_in (List.mem_of_getElem? (i := 503) (by decide +kernel)) rfl
theorem q_504 : (.methodLink RX3 137 yX3_isDownOpen : Cond) ∈ TB := tb_in (List.mem_of_getElem? (i := 504) (by decide +kernel)) rfl
theorem q_505 : (.instanceMethod yX3_isDownOpen : Cond) ∈ TB := tb_in (List.mem_of_getElem? (i := 505) (by decide +kernel)) rfl
theorem q_506 : (.selects RX3 yX3_isDownOpen yX3_isDownOpen : Cond) ∈ TB := tb_in (List.mem_of_getElem? (i := 506) (by decide +kernel)) rfl
theorem q_507 : (.code yX3_isDownOpen cX3_isDownOpen 1 (Option.some Jvm.ClassFile.FieldType.boolean) : Cond) ∈ TB := tb_in (List.mem_of_getElem? (i := 507) (by decide +kernel)) rfl
theorem q_508 : (.methodLink RX3 156 yX3_letGroupsLeave : Cond) ∈ TB := tb_in (List.mem_of_getElem? (i := 508) (by decide +kernel)) rfl
theorem q_510 : (.instanceMethod yX3_letGroupsLeave : Cond) ∈ TB := tb_in (List.mem_of_getElem? (i := 510) (by decide +kernel)) rfl
theorem q_511 : (.code yX3_letGroupsLeave cX3_letGroupsLeave 2 (Option.none : Option Jvm.ClassFile.FieldType) : Cond) ∈ TB := tb_in (List.mem_of_getElem? (i := 511) (by decide +kernel)) rfl
theorem q_512 : (.methodLink RX3 134 yX1_isOver : Cond) ∈ TB := tb_in (List.mem_of_getElem? (i := 512) (by decide +kernel)) rfl
theorem q_513 : (.instanceMethod yX1_isOver : Cond) ∈ TB := tb_in (List.mem_of_getElem? (i := 513) (by decide +kernel)) rfl
theorem q_514 : (.selects RX1 yX1_isOver yX1_isOver : Cond) ∈ TB := tb_in (List.mem_of_getElem? (i := 514) (by decide +kernel)) rfl
theorem q_515 : (.code yX1_isOver cX1_isOver 3 (Option.some Jvm.ClassFile.FieldType.boolean) : Cond) ∈ TB := tb_in (List.mem_of_getElem? (i := 515) (by decide +kernel)) rfl
theorem q_516 : (.methodLink RX3 175 yX3_letLeave : Cond) ∈ TB := tb_in (List.mem_of_getElem? (i := 516) (by decide +kernel)) rfl
theorem q_518 : (.instanceMethod yX3_letLeave : Cond) ∈ TB := tb_in (List.mem_of_getElem? (i := 518) (by decide +kernel)) rfl
theorem q_519 : (.code yX3_letLeave cX3_letLeave 3 (Option.none : Option Jvm.ClassFile.FieldType) : Cond) ∈ TB := tb_in (List.mem_of_getElem? (i := 519) (by decide +kernel)) rfl
theorem q_520 : (.methodLink RX3 159 yX3_turnLateOnesAway : Cond) ∈ TB := tb_in (List.mem_of_getElem? (i := 520) (by decide +kernel)) rfl
theorem q_522 : (.instanceMethod yX3_turnLateOnesAway : Cond) ∈ TB := tb_in (List.mem_of_getElem? (i := 522) (by decide +kernel)) rfl
theorem q_523 : (.code yX3_turnLateOnesAway cX3_turnLateOnesAway 2 (Option.none : Option Jvm.ClassFile.FieldType) : Cond) ∈ TB := tb_in (List.mem_of_getElem? (i := 523) (by decide +kernel)) rfl
theorem q_524 : (.methodLink RX3 181 yX3_turnAway : Cond) ∈ TB := tb_in (List.mem_of_getElem? (i := 524) (by decide +kernel)) rfl
theorem q_526 : (.instanceMethod yX3_turnAway : Cond) ∈ TB := tb_in (List.mem_of_getElem? (i := 526) (by decide +kernel)) rfl
theorem q_527 : (.code yX3_turnAway cX3_turnAway 2 (Option.none : Option Jvm.ClassFile.FieldType) : Cond) ∈ TB := tb_in (List.mem_of_getElem? (i := 527) (by decide +kernel)) rfl
theorem q_528 : (.methodLink RX3 162 yX3_letGroupsCome : Cond) ∈ TB := tb_in (List.mem_of_getElem? (i := 528) (by decide +kernel)) rfl
theorem q_530 : (.instanceMethod yX3_letGroupsCome : Cond) ∈ TB := tb_in (List.mem_of_getElem? (i := 530) (by decide +kernel)) rfl
theorem q_531 : (.code yX3_letGroupsCome cX3_letGroupsCome 4 (Option.none : Option Jvm.ClassFile.FieldType) : Cond) ∈ TB := tb_in (List.mem_of_getElem? (i := 531) (by decide +kernel)) rfl
theorem q_532 : (.methodLink RX3 184 yX1_personsThere : Cond) ∈ TB := tb_in (List.mem_of_getElem? (i := 532) (by decide +kernel)) rfl
theorem q_533 : (.instanceMethod yX1_personsThere : Cond) ∈ TB := tb_in (List.mem_of_getElem? (i := 533) (by decide +kernel)) rfl
theorem q_534 : (.selects RX1 yX1_personsThere yX1_personsThere : Cond) ∈ TB := tb_in (List.mem_of_getElem? (i := 534) (by decide +kernel)) rfl
theorem q_535 : (.code yX1_personsThere cX1_personsThere 3 (Option.some Jvm.ClassFile.FieldType.int) : Cond) ∈ TB := tb_in (List.mem_of_getElem? (i := 535) (by decide +kernel)) rfl
theorem q_536 : (.methodLink RX3 165 yX3_bring : Cond) ∈ TB := tb_in (List.mem_of_getElem? (i := 536) (by decide +kernel)) rfl
theorem q_538 : (.instanceMethod yX3_bring : Cond) ∈ TB := tb_in (List.mem_of_getElem? (i := 538) (by decide +kernel)) rfl
theorem q_539 : (.code yX3_bring cX3_bring 6 (Option.none : Option Jvm.ClassFile.FieldType) : Cond) ∈ TB := tb_in (List.mem_of_getElem? (i := 539) (by decide +kernel)) rfl
theorem q_540 : (.methodLink RX3 194 yX5_takeFromFirst : Cond) ∈ TB := tb_in (List.mem_of_getElem? (i := 540) (by decide +kernel)) rfl
theorem q_541 : (.instanceMethod yX5_takeFromFirst : Cond) ∈ TB := tb_in (List.mem_of_getElem? (i := 541) (by decide +kernel)) rfl
theorem q_542 : (.selects RX5 yX5_takeFromFirst yX5_takeFromFirst : Cond) ∈ TB := tb_in (List.mem_of_getElem? (i := 542) (by decide +kernel)) rfl
theorem q_543 : (.code yX5_takeFromFirst cX5_takeFromFirst 3 (Option.some Jvm.ClassFile.FieldType.int) : Cond) ∈ TB := tb_in (List.mem_of_getElem? (i := 543) (by decide +kernel)) rfl
theorem q_544 : (.methodLink RX5 28 yJ9_min_7cf53 : Cond) ∈ TB := tb_in (List.mem_of_getElem? (i := 544) (by decide +kernel)) rfl
theorem q_545 : (.methodLink RX5 34 yX5_removeFirst : Cond) ∈ TB := tb_in (List.mem_of_getElem? (i := 545) (by decide +kernel)) rfl
theorem q_547 : (.instanceMethod yX5_removeFirst : Cond) ∈ TB := tb_in (List.mem_of_getElem? (i := 547) (by decide +kernel)) rfl
theorem q_548 : (.code yX5_removeFirst cX5_removeFirst 2 (Option.none : Option Jvm.ClassFile.FieldType) : Cond) ∈ TB := tb_in (List.mem_of_getElem? (i := 548) (by decide +kernel)) rfl
theorem q_549 : (.methodLink RX3 197 yX4_store : Cond) ∈ TB := tb_in (List.mem_of_getElem? (i := 549) (by decide +kernel)) rfl
theorem q_550 : (.instanceMethod yX4_store : Cond) ∈ TB := tb_in (List.mem_of_getElem? (i := 550) (by decide +kernel)) rfl
theorem q_551 : (.selects RX4 yX4_store yX4_store : Cond) ∈ TB := tb_in (List.mem_of_getElem? (i := 551) (by decide +kernel)) rfl
theorem q_552 : (.code yX4_store cX4_store 4 (Option.none : Option Jvm.ClassFile.FieldType) : Cond) ∈ TB := tb_in (List.mem_of_getElem? (i := 552) (by decide +kernel)) rfl
theorem q_553 : (.methodLink RX3 144 yX3_isWindy : Cond) ∈ TB := tb_in (List.mem_of_getElem? (i := 553) (by decide +kernel)) rfl
theorem q_554 : (.instanceMethod yX3_isWindy : Cond) ∈ TB := tb_in (List.mem_of_getElem? (i := 554) (by decide +kernel)) rfl
theorem q_555 : (.selects RX3 yX3_isWindy yX3_isWindy : Cond) ∈ TB := tb_in (List.mem_of_getElem? (i := 555) (by decide +kernel)) rfl
theorem q_556 : (.code yX3_isWindy cX3_isWindy 1 (Option.some Jvm.ClassFile.FieldType.boolean) : Cond) ∈ TB := tb_in (List.mem_of_getElem? (i := 556) (by decide +kernel)) rfl
theorem q_557 : (.methodLink RX3 147 yX3_fly : Cond) ∈ TB := tb_in (List.mem_of_getElem? (i := 557) (by decide +kernel)) rfl
theorem q_559 : (.instanceMethod yX3_fly : Cond) ∈ TB := tb_in (List.mem_of_getElem? (i := 559) (by decide +kernel)) rfl
theorem q_560 : (.code yX3_fly cX3_fly 1 (Option.none : Option Jvm.ClassFile.FieldType) : Cond) ∈ TB := tb_in (List.mem_of_getElem? (i := 560) (by decide +kernel)) rfl
theorem q_561 : (.methodLink RX3 201 yX3_fillSeats : Cond) ∈ TB := tb_in (List.mem_of_getElem? (i := 561) (by decide +kernel)) rfl
theorem q_562 : (.instanceMethod yX3_fillSeats : Cond) ∈ TB := tb_in (List.mem_of_getElem? (i := 562) (by decide +kernel)) rfl
theorem q_563 : (.selects RX3 yX3_fillSeats yX3_fillSeats : Cond) ∈ TB := tb_in (List.mem_of_getElem? (i := 563) (by decide +kernel)) rfl
theorem q_564 : (.code yX3_fillSeats cX3_fillSeats 4 (Option.some Jvm.ClassFile.FieldType.int) : Cond) ∈ TB := tb_in (List.mem_of_getElem? (i := 564) (by decide +kernel)) rfl
theorem q_565 : (.methodLink RX3 150 yX3_endDay : Cond) ∈ TB := tb_in (List.mem_of_getElem? (i := 565) (by decide +kernel)) rfl
theorem q_566 : (.instanceMethod yX3_endDay : Cond) ∈ TB := tb_in (List.mem_of_getElem? (i := 566) (by decide +kernel)) rfl
theorem q_567 : (.selects RX3 yX3_endDay yX3_endDay : Cond) ∈ TB := tb_in (List.mem_of_getElem? (i := 567) (by decide +kernel)) rfl
theorem q_568 : (.code yX3_endDay cX3_endDay 1 (Option.none : Option Jvm.ClassFile.FieldType) : Cond) ∈ TB := tb_in (List.mem_of_getElem? (i := 568) (by decide +kernel)) rfl
theorem q_569 : (.methodLink RX3 169 yX3_letAllEat : Cond) ∈ TB := tb_in (List.mem_of_getElem? (i := 569) (by decide +kernel)) rfl
theorem q_571 : (.instanceMethod yX3_letAllEat : Cond) ∈ TB := tb_in (List.mem_of_getElem? (i := 571) (by decide +kernel)) rfl
theorem q_572 : (.code yX3_letAllEat cX3_letAllEat 3 (Option.none : Option Jvm.ClassFile.FieldType) : Cond) ∈ TB := tb_in (List.mem_of_getElem? (i := 572) (by decide +kernel)) rfl
theorem q_573 : (.methodLink RX3 205 yX4_eat : Cond) ∈ TB := tb_in (List.mem_of_getElem? (i := 573) (by decide +kernel)) rfl
theorem q_574 : (.instanceMethod yX4_eat : Cond) ∈ TB := tb_in (List.mem_of_getElem? (i := 574) (by decide +kernel)) rfl
theorem q_575 : (.selects RX4 yX4_eat yX4_eat : Cond) ∈ TB := tb_in (List.mem_of_getElem? (i := 575) (by decide +kernel)) rfl
theorem q_576 : (.code yX4_eat cX4_eat 6 (Option.some Jvm.ClassFile.FieldType.int) : Cond) ∈ TB := tb_in (List.mem_of_getElem? (i := 576) (by decide +kernel)) rfl
theorem q_577 : (.methodLink RX4 39 yJ9_min_7cf53 : Cond) ∈ TB := tb_in (List.mem_of_getElem? (i := 577) (by decide +kernel)) rfl
theorem q_578 : (.methodLink RX3 172 yX3_letAllSleep : Cond) ∈ TB := tb_in (List.mem_of_getElem? (i := 578) (by decide +kernel)) rfl
theorem q_580 : (.instanceMethod yX3_letAllSleep : Cond) ∈ TB := tb_in (List.mem_of_getElem? (i := 580) (by decide +kernel)) rfl
theorem q_581 : (.code yX3_letAllSleep cX3_letAllSleep 2 (Option.none : Option Jvm.ClassFile.FieldType) : Cond) ∈ TB := tb_in (List.mem_of_getElem? (i := 581) (by decide +kernel)) rfl
theorem q_582 : (.methodLink RL 54 yX6_set : Cond) ∈ TB := tb_in (List.mem_of_getElem? (i := 582) (by decide +kernel)) rfl
theorem q_583 : (.instanceMethod yX6_set : Cond) ∈ TB := tb_in (List.mem_of_getElem? (i := 583) (by decide +kernel)) rfl
theorem q_584 : (.selects RX6 yX6_set yX6_set : Cond) ∈ TB := tb_in (List.mem_of_getElem? (i := 584) (by decide +kernel)) rfl
theorem q_585 : (.code yX6_set cX6_set 4 (Option.some Jvm.ClassFile.FieldType.int) : Cond) ∈ TB := tb_in (List.mem_of_getElem? (i := 585) (by decide +kernel)) rfl
theorem q_586 : (.fieldLink RX6 140 "HutBookings" "SETTING_LEAST" "[I" : Cond) ∈ TB := tb_in (List.mem_of_getElem? (i := 586) (by decide +kernel)) rfl
theorem q_588 : (.fieldLink RX6 143 "HutBookings" "SETTING_MOST" "[I" : Cond) ∈ TB := tb_in (List.mem_of_getElem? (i := 588) (by decide +kernel)) rfl
theorem q_590 : (.methodLink RX6 146 yX6_mostBedsTaken : Cond) ∈ TB := tb_in (List.mem_of_getElem? (i := 590) (by decide +kernel)) rfl
theorem q_592 : (.instanceMethod yX6_mostBedsTaken : Cond) ∈ TB := tb_in (List.mem_of_getElem? (i := 592) (by decide +kernel)) rfl
theorem q_593 : (.code yX6_mostBedsTaken cX6_mostBedsTaken 2 (Option.some Jvm.ClassFile.FieldType.int) : Cond) ∈ TB := tb_in (List.mem_of_getElem? (i := 593) (by decide +kernel)) rfl
theorem q_594 : (.methodLink RX6 281 yX6_fullest : Cond) ∈ TB := tb_in (List.mem_of_getElem? (i := 594) (by decide +kernel)) rfl
theorem q_595 : (.instanceMethod yX6_fullest : Cond) ∈ TB := tb_in (List.mem_of_getElem? (i := 595) (by decide +kernel)) rfl
theorem q_596 : (.selects RX6 yX6_fullest yX6_fullest : Cond) ∈ TB := tb_in (List.mem_of_getElem? (i := 596) (by decide +kernel)) rfl
theorem q_597 : (.code yX6_fullest cX6_fullest 4 (Option.some Jvm.ClassFile.FieldType.int) : Cond) ∈ TB := tb_in (List.mem_of_getElem? (i := 597) (by decide +kernel)) rfl
theorem q_598 : (.methodLink RX6 256 yX1_fillBedsTaken : Cond) ∈ TB := tb_in (List.mem_of_getElem? (i := 598) (by decide +kernel)) rfl
theorem q_599 : (.instanceMethod yX1_fillBedsTaken : Cond) ∈ TB := tb_in (List.mem_of_getElem? (i := 599) (by decide +kernel)) rfl
theorem q_600 : (.selects RX1 yX1_fillBedsTaken yX1_fillBedsTaken : Cond) ∈ TB := tb_in (List.mem_of_getElem? (i := 600) (by decide +kernel)) rfl
theorem q_601 : (.code yX1_fillBedsTaken cX1_fillBedsTaken 4 (Option.none : Option Jvm.ClassFile.FieldType) : Cond) ∈ TB := tb_in (List.mem_of_getElem? (i := 601) (by decide +kernel)) rfl
theorem q_602 : (.methodLink RX1 64 yJ7_fill_53178 : Cond) ∈ TB := tb_in (List.mem_of_getElem? (i := 602) (by decide +kernel)) rfl
theorem q_603 : (.static yJ7_fill_53178 : Cond) ∈ TB := tb_in (List.mem_of_getElem? (i := 603) (by decide +kernel)) rfl
theorem q_604 : (.code yJ7_fill_53178 cJ7_fill_53178 4 (Option.none : Option Jvm.ClassFile.FieldType) : Cond) ∈ TB := tb_in (List.mem_of_getElem? (i := 604) (by decide +kernel)) rfl
theorem q_605 : (.methodLink RX6 179 yX1_bedsTakenIn : Cond) ∈ TB := tb_in (List.mem_of_getElem? (i := 605) (by decide +kernel)) rfl
theorem q_606 : (.methodLink RL 58 yX6_type : Cond) ∈ TB := tb_in (List.mem_of_getElem? (i := 606) (by decide +kernel)) rfl
theorem q_607 : (.instanceMethod yX6_type : Cond) ∈ TB := tb_in (List.mem_of_getElem? (i := 607) (by decide +kernel)) rfl
theorem q_608 : (.selects RX6 yX6_type yX6_type : Cond) ∈ TB := tb_in (List.mem_of_getElem? (i := 608) (by decide +kernel)) rfl
theorem q_609 : (.code yX6_type cX6_type 2 (Option.some Jvm.ClassFile.FieldType.int) : Cond) ∈ TB := tb_in (List.mem_of_getElem? (i := 609) (by decide +kernel)) rfl
theorem q_610 : (.methodLink RX6 155 yX0_append : Cond) ∈ TB := tb_in (List.mem_of_getElem? (i := 610) (by decide +kernel)) rfl
theorem q_611 : (.instanceMethod yX0_append : Cond) ∈ TB := tb_in (List.mem_of_getElem? (i := 611) (by decide +kernel)) rfl
theorem q_612 : (.selects RX0 yX0_append yX0_append : Cond) ∈ TB := tb_in (List.mem_of_getElem? (i := 612) (by decide +kernel)) rfl
theorem q_613 : (.code yX0_append cX0_append 2 (Option.none : Option Jvm.ClassFile.FieldType) : Cond) ∈ TB := tb_in (List.mem_of_getElem? (i := 613) (by decide +kernel)) rfl
theorem q_614 : (.methodLink RL 63 yX6_clearText : Cond) ∈ TB := tb_in (List.mem_of_getElem? (i := 614) (by decide +kernel)) rfl
theorem q_615 : (.instanceMethod yX6_clearText : Cond) ∈ TB := tb_in (List.mem_of_getElem? (i := 615) (by decide +kernel)) rfl
theorem q_616 : (.selects RX6 yX6_clearText yX6_clearText : Cond) ∈ TB := tb_in (List.mem_of_getElem? (i := 616) (by decide +kernel)) rfl
theorem q_617 : (.code yX6_clearText cX6_clearText 2 (Option.some Jvm.ClassFile.FieldType.int) : Cond) ∈ TB := tb_in (List.mem_of_getElem? (i := 617) (by decide +kernel)) rfl
theorem q_618 : (.methodLink RL 67 yX6_fault : Cond) ∈ TB := tb_in (List.mem_of_getElem? (i := 618) (by decide +kernel)) rfl
theorem q_619 : (.instanceMethod yX6_fault : Cond) ∈ TB := tb_in (List.mem_of_getElem? (i := 619) (by decide +kernel)) rfl
theorem q_620 : (.selects RX6 yX6_fault yX6_fault : Cond) ∈ TB := tb_in (List.mem_of_getElem? (i := 620) (by decide +kernel)) rfl
theorem q_621 : (.code yX6_fault cX6_fault 1 (Option.some Jvm.ClassFile.FieldType.int) : Cond) ∈ TB := tb_in (List.mem_of_getElem? (i := 621) (by decide +kernel)) rfl
theorem q_622 : (.methodLink RL 71 yX6_undo : Cond) ∈ TB := tb_in (List.mem_of_getElem? (i := 622) (by decide +kernel)) rfl
theorem q_623 : (.instanceMethod yX6_undo : Cond) ∈ TB := tb_in (List.mem_of_getElem? (i := 623) (by decide +kernel)) rfl
theorem q_624 : (.selects RX6 yX6_undo yX6_undo : Cond) ∈ TB := tb_in (List.mem_of_getElem? (i := 624) (by decide +kernel)) rfl
theorem q_625 : (.code yX6_undo cX6_undo 1 (Option.some Jvm.ClassFile.FieldType.int) : Cond) ∈ TB := tb_in (List.mem_of_getElem? (i := 625) (by decide +kernel)) rfl
theorem q_626 : (.methodLink RX6 159 yX2_giveBack : Cond) ∈ TB := tb_in (List.mem_of_getElem? (i := 626) (by decide +kernel)) rfl
theorem q_627 : (.instanceMethod yX2_giveBack : Cond) ∈ TB := tb_in (List.mem_of_getElem? (i := 627) (by decide +kernel)) rfl
theorem q_628 : (.selects RX2 yX2_giveBack yX2_giveBack : Cond) ∈ TB := tb_in (List.mem_of_getElem? (i := 628) (by decide +kernel)) rfl
theorem q_629 : (.code yX2_giveBack cX2_giveBack 2 (Option.none : Option Jvm.ClassFile.FieldType) : Cond) ∈ TB := tb_in (List.mem_of_getElem? (i := 629) (by decide +kernel)) rfl
theorem q_630 : (.methodLink RL 75 yX6_keep : Cond) ∈ TB := tb_in (List.mem_of_getElem? (i := 630) (by decide +kernel)) rfl
theorem q_631 : (.instanceMethod yX6_keep : Cond) ∈ TB := tb_in (List.mem_of_getElem? (i := 631) (by decide +kernel)) rfl
theorem q_632 : (.selects RX6 yX6_keep yX6_keep : Cond) ∈ TB := tb_in (List.mem_of_getElem? (i := 632) (by decide +kernel)) rfl
theorem q_633 : (.code yX6_keep cX6_keep 1 (Option.some Jvm.ClassFile.FieldType.int) : Cond) ∈ TB := tb_in (List.mem_of_getElem? (i := 633) (by decide +kernel)) rfl
theorem q_634 : (.methodLink RL 79 yX6_restore : Cond) ∈ TB := tb_in (List.mem_of_getElem? (i := 634) (by decide +kernel)) rfl
theorem q_635 : (.instanceMethod yX6_restore : Cond) ∈ TB := tb_in (List.mem_of_getElem? (i := 635) (by decide +kernel)) rfl
theorem q_636 : (.selects RX6 yX6_restore yX6_restore : Cond) ∈ TB := tb_in (List.mem_of_getElem? (i := 636) (by decide +kernel)) rfl
theorem q_637 : (.code yX6_restore cX6_restore 1 (Option.some Jvm.ClassFile.FieldType.int) : Cond) ∈ TB := tb_in (List.mem_of_getElem? (i := 637) (by decide +kernel)) rfl
theorem q_638 : (.methodLink RL 83 yX6_booking : Cond) ∈ TB := tb_in (List.mem_of_getElem? (i := 638) (by decide +kernel)) rfl
theorem q_639 : (.instanceMethod yX6_booking : Cond) ∈ TB := tb_in (List.mem_of_getElem? (i := 639) (by decide +kernel)) rfl
theorem q_640 : (.selects RX6 yX6_booking yX6_booking : Cond) ∈ TB := tb_in (List.mem_of_getElem? (i := 640) (by decide +kernel)) rfl
theorem q_641 : (.code yX6_booking cX6_booking 4 (Option.some Jvm.ClassFile.FieldType.int) : Cond) ∈ TB := tb_in (List.mem_of_getElem? (i := 641) (by decide +kernel)) rfl
theorem q_642 : (.methodLink RX6 170 yX3_isStrandedNow : Cond) ∈ TB := tb_in (List.mem_of_getElem? (i := 642) (by decide +kernel)) rfl
theorem q_643 : (.instanceMethod yX3_isStrandedNow : Cond) ∈ TB := tb_in (List.mem_of_getElem? (i := 643) (by decide +kernel)) rfl
theorem q_644 : (.selects RX3 yX3_isStrandedNow yX3_isStrandedNow : Cond) ∈ TB := tb_in (List.mem_of_getElem? (i := 644) (by decide +kernel)) rfl
theorem q_645 : (.code yX3_isStrandedNow cX3_isStrandedNow 2 (Option.some Jvm.ClassFile.FieldType.boolean) : Cond) ∈ TB := tb_in (List.mem_of_getElem? (i := 645) (by decide +kernel)) rfl
theorem q_646 : (.methodLink RL 87 yX6_day : Cond) ∈ TB := tb_in (List.mem_of_getElem? (i := 646) (by decide +kernel)) rfl
theorem q_647 : (.instanceMethod yX6_day : Cond) ∈ TB := tb_in (List.mem_of_getElem? (i := 647) (by decide +kernel)) rfl
theorem q_648 : (.selects RX6 yX6_day yX6_day : Cond) ∈ TB := tb_in (List.mem_of_getElem? (i := 648) (by decide +kernel)) rfl
theorem q_649 : (.code yX6_day cX6_day 3 (Option.some Jvm.ClassFile.FieldType.int) : Cond) ∈ TB := tb_in (List.mem_of_getElem? (i := 649) (by decide +kernel)) rfl
theorem q_650 : (.methodLink RX6 182 yX3_weatherOf : Cond) ∈ TB := tb_in (List.mem_of_getElem? (i := 650) (by decide +kernel)) rfl
theorem q_651 : (.methodLink RX6 185 yX1_arrivingOn : Cond) ∈ TB := tb_in (List.mem_of_getElem? (i := 651) (by decide +kernel)) rfl
theorem q_652 : (.instanceMethod yX1_arrivingOn : Cond) ∈ TB := tb_in (List.mem_of_getElem? (i := 652) (by decide +kernel)) rfl
theorem q_653 : (.selects RX1 yX1_arrivingOn yX1_arrivingOn : Cond) ∈ TB := tb_in (List.mem_of_getElem? (i := 653) (by decide +kernel)) rfl
theorem q_654 : (.code yX1_arrivingOn cX1_arrivingOn 4 (Option.some Jvm.ClassFile.FieldType.int) : Cond) ∈ TB := tb_in (List.mem_of_getElem? (i := 654) (by decide +kernel)) rfl
theorem q_655 : (.methodLink RX6 188 yX1_endingOn : Cond) ∈ TB := tb_in (List.mem_of_getElem? (i := 655) (by decide +kernel)) rfl
theorem q_656 : (.instanceMethod yX1_endingOn : Cond) ∈ TB := tb_in (List.mem_of_getElem? (i := 656) (by decide +kernel)) rfl
theorem q_657 : (.selects RX1 yX1_endingOn yX1_endingOn : Cond) ∈ TB := tb_in (List.mem_of_getElem? (i := 657) (by decide +kernel)) rfl
theorem q_658 : (.code yX1_endingOn cX1_endingOn 4 (Option.some Jvm.ClassFile.FieldType.int) : Cond) ∈ TB := tb_in (List.mem_of_getElem? (i := 658) (by decide +kernel)) rfl
theorem q_659 : (.methodLink RL 91 yX6_fresh : Cond) ∈ TB := tb_in (List.mem_of_getElem? (i := 659) (by decide +kernel)) rfl
theorem q_660 : (.instanceMethod yX6_fresh : Cond) ∈ TB := tb_in (List.mem_of_getElem? (i := 660) (by decide +kernel)) rfl
theorem q_661 : (.selects RX6 yX6_fresh yX6_fresh : Cond) ∈ TB := tb_in (List.mem_of_getElem? (i := 661) (by decide +kernel)) rfl
theorem q_662 : (.code yX6_fresh cX6_fresh 4 (Option.some Jvm.ClassFile.FieldType.int) : Cond) ∈ TB := tb_in (List.mem_of_getElem? (i := 662) (by decide +kernel)) rfl
theorem q_663 : (.methodLink RX6 195 yX4_dayOfRank : Cond) ∈ TB := tb_in (List.mem_of_getElem? (i := 663) (by decide +kernel)) rfl
theorem q_664 : (.instanceMethod yX4_dayOfRank : Cond) ∈ TB := tb_in (List.mem_of_getElem? (i := 664) (by decide +kernel)) rfl
theorem q_665 : (.selects RX4 yX4_dayOfRank yX4_dayOfRank : Cond) ∈ TB := tb_in (List.mem_of_getElem? (i := 665) (by decide +kernel)) rfl
theorem q_666 : (.code yX4_dayOfRank cX4_dayOfRank 5 (Option.some Jvm.ClassFile.FieldType.int) : Cond) ∈ TB := tb_in (List.mem_of_getElem? (i := 666) (by decide +kernel)) rfl
theorem q_667 : (.constant RX4 38 (-1000005) : Cond) ∈ TB := tb_in (List.mem_of_getElem? (i := 667) (by decide +kernel)) rfl
theorem q_668 : (.methodLink RX6 201 yX4_freshOf : Cond) ∈ TB := tb_in (List.mem_of_getElem? (i := 668) (by decide +kernel)) rfl
theorem q_669 : (.methodLink RL 95 yX6_waiting : Cond) ∈ TB := tb_in (List.mem_of_getElem? (i := 669) (by decide +kernel)) rfl
theorem q_670 : (.instanceMethod yX6_waiting : Cond) ∈ TB := tb_in (List.mem_of_getElem? (i := 670) (by decide +kernel)) rfl
theorem q_671 : (.selects RX6 yX6_waiting yX6_waiting : Cond) ∈ TB := tb_in (List.mem_of_getElem? (i := 671) (by decide +kernel)) rfl
theorem q_672 : (.code yX6_waiting cX6_waiting 3 (Option.some Jvm.ClassFile.FieldType.int) : Cond) ∈ TB := tb_in (List.mem_of_getElem? (i := 672) (by decide +kernel)) rfl
theorem q_673 : (.methodLink RL 99 yX6_count : Cond) ∈ TB := tb_in (List.mem_of_getElem? (i := 673) (by decide +kernel)) rfl
theorem q_674 : (.instanceMethod yX6_count : Cond) ∈ TB := tb_in (List.mem_of_getElem? (i := 674) (by decide +kernel)) rfl
theorem q_675 : (.selects RX6 yX6_count yX6_count : Cond) ∈ TB := tb_in (List.mem_of_getElem? (i := 675) (by decide +kernel)) rfl
theorem q_676 : (.code yX6_count cX6_count 2 (Option.some Jvm.ClassFile.FieldType.int) : Cond) ∈ TB := tb_in (List.mem_of_getElem? (i := 676) (by decide +kernel)) rfl
theorem q_677 : (.methodLink RX6 213 yX1_howMany : Cond) ∈ TB := tb_in (List.mem_of_getElem? (i := 677) (by decide +kernel)) rfl
theorem q_678 : (.instanceMethod yX1_howMany : Cond) ∈ TB := tb_in (List.mem_of_getElem? (i := 678) (by decide +kernel)) rfl
theorem q_679 : (.selects RX1 yX1_howMany yX1_howMany : Cond) ∈ TB := tb_in (List.mem_of_getElem? (i := 679) (by decide +kernel)) rfl
theorem q_680 : (.code yX1_howMany cX1_howMany 4 (Option.some Jvm.ClassFile.FieldType.int) : Cond) ∈ TB := tb_in (List.mem_of_getElem? (i := 680) (by decide +kernel)) rfl
theorem q_681 : (.methodLink RX6 216 yX1_personsThere : Cond) ∈ TB := tb_in (List.mem_of_getElem? (i := 681) (by decide +kernel)) rfl
theorem q_682 : (.methodLink RX6 219 yJ9_max_7cf53 : Cond) ∈ TB := tb_in (List.mem_of_getElem? (i := 682) (by decide +kernel)) rfl
theorem q_683 : (.methodLink RX6 224 yX4_allFresh : Cond) ∈ TB := tb_in (List.mem_of_getElem? (i := 683) (by decide +kernel)) rfl
theorem q_684 : (.instanceMethod yX4_allFresh : Cond) ∈ TB := tb_in (List.mem_of_getElem? (i := 684) (by decide +kernel)) rfl
theorem q_685 : (.selects RX4 yX4_allFresh yX4_allFresh : Cond) ∈ TB := tb_in (List.mem_of_getElem? (i := 685) (by decide +kernel)) rfl
theorem q_686 : (.code yX4_allFresh cX4_allFresh 3 (Option.some Jvm.ClassFile.FieldType.int) : Cond) ∈ TB := tb_in (List.mem_of_getElem? (i := 686) (by decide +kernel)) rfl
theorem q_687 : (.methodLink RX6 230 yX5_allPortions : Cond) ∈ TB := tb_in (List.mem_of_getElem? (i := 687) (by decide +kernel)) rfl
theorem q_688 : (.instanceMethod yX5_allPortions : Cond) ∈ TB := tb_in (List.mem_of_getElem? (i := 688) (by decide +kernel)) rfl
theorem q_689 : (.selects RX5 yX5_allPortions yX5_allPortions : Cond) ∈ TB := tb_in (List.mem_of_getElem? (i := 689) (by decide +kernel)) rfl
theorem q_690 : (.code yX5_allPortions cX5_allPortions 3 (Option.some Jvm.ClassFile.FieldType.int) : Cond) ∈ TB := tb_in (List.mem_of_getElem? (i := 690) (by decide +kernel)) rfl
theorem q_691 : (.methodLink RL 103 yX6_coins : Cond) ∈ TB := tb_in (List.mem_of_getElem? (i := 691) (by decide +kernel)) rfl
theorem q_692 : (.instanceMethod yX6_coins : Cond) ∈ TB := tb_in (List.mem_of_getElem? (i := 692) (by decide +kernel)) rfl
theorem q_693 : (.selects RX6 yX6_coins yX6_coins : Cond) ∈ TB := tb_in (List.mem_of_getElem? (i := 693) (by decide +kernel)) rfl
theorem q_694 : (.code yX6_coins cX6_coins 2 (Option.some Jvm.ClassFile.FieldType.int) : Cond) ∈ TB := tb_in (List.mem_of_getElem? (i := 694) (by decide +kernel)) rfl
theorem q_695 : (.methodLink RX6 236 yX1_depositsHeld : Cond) ∈ TB := tb_in (List.mem_of_getElem? (i := 695) (by decide +kernel)) rfl
theorem q_696 : (.instanceMethod yX1_depositsHeld : Cond) ∈ TB := tb_in (List.mem_of_getElem? (i := 696) (by decide +kernel)) rfl
theorem q_697 : (.selects RX1 yX1_depositsHeld yX1_depositsHeld : Cond) ∈ TB := tb_in (List.mem_of_getElem? (i := 697) (by decide +kernel)) rfl
theorem q_698 : (.code yX1_depositsHeld cX1_depositsHeld 3 (Option.some Jvm.ClassFile.FieldType.int) : Cond) ∈ TB := tb_in (List.mem_of_getElem? (i := 698) (by decide +kernel)) rfl
theorem q_699 : (.methodLink RL 107 yX6_use : Cond) ∈ TB := tb_in (List.mem_of_getElem? (i := 699) (by decide +kernel)) rfl
theorem q_700 : (.instanceMethod yX6_use : Cond) ∈ TB := tb_in (List.mem_of_getElem? (i := 700) (by decide +kernel)) rfl
theorem q_701 : (.selects RX6 yX6_use yX6_use : Cond) ∈ TB := tb_in (List.mem_of_getElem? (i := 701) (by decide +kernel)) rfl
theorem q_702 : (.code yX6_use cX6_use 6 (Option.some Jvm.ClassFile.FieldType.double) : Cond) ∈ TB := tb_in (List.mem_of_getElem? (i := 702) (by decide +kernel)) rfl
theorem q_704 : (.methodLink RX6 247 yX1_bedsTakenFrom : Cond) ∈ TB := tb_in (List.mem_of_getElem? (i := 704) (by decide +kernel)) rfl
theorem q_705 : (.methodLink RL 112 yX6_refund : Cond) ∈ TB := tb_in (List.mem_of_getElem? (i := 705) (by decide +kernel)) rfl
theorem q_706 : (.instanceMethod yX6_refund : Cond) ∈ TB := tb_in (List.mem_of_getElem? (i := 706) (by decide +kernel)) rfl
theorem q_707 : (.selects RX6 yX6_refund yX6_refund : Cond) ∈ TB := tb_in (List.mem_of_getElem? (i := 707) (by decide +kernel)) rfl
theorem q_708 : (.code yX6_refund cX6_refund 3 (Option.some Jvm.ClassFile.FieldType.int) : Cond) ∈ TB := tb_in (List.mem_of_getElem? (i := 708) (by decide +kernel)) rfl
theorem q_709 : (.methodLink RX6 250 yX3_refundOf : Cond) ∈ TB := tb_in (List.mem_of_getElem? (i := 709) (by decide +kernel)) rfl
theorem q_710 : (.methodLink RL 116 yX6_firstFree : Cond) ∈ TB := tb_in (List.mem_of_getElem? (i := 710) (by decide +kernel)) rfl
theorem q_711 : (.instanceMethod yX6_firstFree : Cond) ∈ TB := tb_in (List.mem_of_getElem? (i := 711) (by decide +kernel)) rfl
theorem q_712 : (.selects RX6 yX6_firstFree yX6_firstFree : Cond) ∈ TB := tb_in (List.mem_of_getElem? (i := 712) (by decide +kernel)) rfl
theorem q_713 : (.code yX6_firstFree cX6_firstFree 6 (Option.some Jvm.ClassFile.FieldType.int) : Cond) ∈ TB := tb_in (List.mem_of_getElem? (i := 713) (by decide +kernel)) rfl
theorem q_714 : (.methodLink RX6 253 yX6_areNightsAndPersons : Cond) ∈ TB := tb_in (List.mem_of_getElem? (i := 714) (by decide +kernel)) rfl
theorem q_715 : (.methodLink RL 120 yX6_hungryIn : Cond) ∈ TB := tb_in (List.mem_of_getElem? (i := 715) (by decide +kernel)) rfl
theorem q_716 : (.instanceMethod yX6_hungryIn : Cond) ∈ TB := tb_in (List.mem_of_getElem? (i := 716) (by decide +kernel)) rfl
theorem q_717 : (.selects RX6 yX6_hungryIn yX6_hungryIn : Cond) ∈ TB := tb_in (List.mem_of_getElem? (i := 717) (by decide +kernel)) rfl
theorem q_718 : (.code yX6_hungryIn cX6_hungryIn 2 (Option.some Jvm.ClassFile.FieldType.int) : Cond) ∈ TB := tb_in (List.mem_of_getElem? (i := 718) (by decide +kernel)) rfl
theorem q_719 : (.methodLink RL 124 yX6_wanting : Cond) ∈ TB := tb_in (List.mem_of_getElem? (i := 719) (by decide +kernel)) rfl
theorem q_720 : (.instanceMethod yX6_wanting : Cond) ∈ TB := tb_in (List.mem_of_getElem? (i := 720) (by decide +kernel)) rfl
theorem q_721 : (.selects RX6 yX6_wanting yX6_wanting : Cond) ∈ TB := tb_in (List.mem_of_getElem? (i := 721) (by decide +kernel)) rfl
theorem q_722 : (.code yX6_wanting cX6_wanting 2 (Option.some Jvm.ClassFile.FieldType.int) : Cond) ∈ TB := tb_in (List.mem_of_getElem? (i := 722) (by decide +kernel)) rfl
theorem q_723 : (.methodLink RX6 260 yX6_passInTrial : Cond) ∈ TB := tb_in (List.mem_of_getElem? (i := 723) (by decide +kernel)) rfl
theorem q_725 : (.instanceMethod yX6_passInTrial : Cond) ∈ TB := tb_in (List.mem_of_getElem? (i := 725) (by decide +kernel)) rfl
theorem q_726 : (.code yX6_passInTrial cX6_passInTrial 3 (Option.none : Option Jvm.ClassFile.FieldType) : Cond) ∈ TB := tb_in (List.mem_of_getElem? (i := 726) (by decide +kernel)) rfl
theorem q_727 : (.methodLink RL 128 yX6_goneIn : Cond) ∈ TB := tb_in (List.mem_of_getElem? (i := 727) (by decide +kernel)) rfl
theorem q_728 : (.instanceMethod yX6_goneIn : Cond) ∈ TB := tb_in (List.mem_of_getElem? (i := 728) (by decide +kernel)) rfl
theorem q_729 : (.selects RX6 yX6_goneIn yX6_goneIn : Cond) ∈ TB := tb_in (List.mem_of_getElem? (i := 729) (by decide +kernel)) rfl
theorem q_730 : (.code yX6_goneIn cX6_goneIn 3 (Option.some Jvm.ClassFile.FieldType.int) : Cond) ∈ TB := tb_in (List.mem_of_getElem? (i := 730) (by decide +kernel)) rfl
theorem q_731 : (.methodLink RX6 264 yX1_holdsBeds : Cond) ∈ TB := tb_in (List.mem_of_getElem? (i := 731) (by decide +kernel)) rfl
theorem q_732 : (.methodLink RL 132 yX6_turnedAway : Cond) ∈ TB := tb_in (List.mem_of_getElem? (i := 732) (by decide +kernel)) rfl
theorem q_733 : (.instanceMethod yX6_turnedAway : Cond) ∈ TB := tb_in (List.mem_of_getElem? (i := 733) (by decide +kernel)) rfl
theorem q_734 : (.selects RX6 yX6_turnedAway yX6_turnedAway : Cond) ∈ TB := tb_in (List.mem_of_getElem? (i := 734) (by decide +kernel)) rfl
theorem q_735 : (.code yX6_turnedAway cX6_turnedAway 2 (Option.some Jvm.ClassFile.FieldType.int) : Cond) ∈ TB := tb_in (List.mem_of_getElem? (i := 735) (by decide +kernel)) rfl
theorem q_736 : (.methodLink RL 136 yX6_bestCall : Cond) ∈ TB := tb_in (List.mem_of_getElem? (i := 736) (by decide +kernel)) rfl
theorem q_737 : (.instanceMethod yX6_bestCall : Cond) ∈ TB := tb_in (List.mem_of_getElem? (i := 737) (by decide +kernel)) rfl
theorem q_738 : (.selects RX6 yX6_bestCall yX6_bestCall : Cond) ∈ TB := tb_in (List.mem_of_getElem? (i := 738) (by decide +kernel)) rfl
theorem q_739 : (.code yX6_bestCall cX6_bestCall 6 (Option.some Jvm.ClassFile.FieldType.int) : Cond) ∈ TB := tb_in (List.mem_of_getElem? (i := 739) (by decide +kernel)) rfl
theorem q_740 : (.methodLink RX6 267 yX3_beginDay : Cond) ∈ TB := tb_in (List.mem_of_getElem? (i := 740) (by decide +kernel)) rfl
theorem q_741 : (.methodLink RX6 270 yX3_isWindy : Cond) ∈ TB := tb_in (List.mem_of_getElem? (i := 741) (by decide +kernel)) rfl
theorem q_742 : (.methodLink RX6 274 yX3_fillSeats : Cond) ∈ TB := tb_in (List.mem_of_getElem? (i := 742) (by decide +kernel)) rfl
theorem q_743 : (.methodLink RX6 278 yX3_endDay : Cond) ∈ TB := tb_in (List.mem_of_getElem? (i := 743) (by decide +kernel)) rfl
theorem q_744 : (.methodLink RL 140 yX6_fullest : Cond) ∈ TB := tb_in (List.mem_of_getElem? (i := 744) (by decide +kernel)) rfl
theorem q_745 : (.classLink RL 10 RX7 : Cond) ∈ TB := tb_in (List.mem_of_getElem? (i := 745) (by decide +kernel)) rfl
theorem q_746 : (.instantiable RX7 9 : Cond) ∈ TB := tb_in (List.mem_of_getElem? (i := 746) (by decide +kernel)) rfl
theorem q_747 : (.methodLink RL 12 yX7_init : Cond) ∈ TB := tb_in (List.mem_of_getElem? (i := 747) (by decide +kernel)) rfl
theorem q_748 : (.instanceMethod yX7_init : Cond) ∈ TB := tb_in (List.mem_of_getElem? (i := 748) (by decide +kernel)) rfl
theorem q_749 : (.code yX7_init cX7_init 1 (Option.none : Option Jvm.ClassFile.FieldType) : Cond) ∈ TB := tb_in (List.mem_of_getElem? (i := 749) (by decide +kernel)) rfl
theorem q_750 : (.methodLink RX7 1 objectInit : Cond) ∈ TB := tb_in (List.mem_of_getElem? (i := 750) (by decide +kernel)) rfl
theorem q_751 : (.fieldLink RX7 7 "HutBookingsModel" "now" "[I" : Cond) ∈ TB := tb_in (List.mem_of_getElem? (i := 751) (by decide +kernel)) rfl
theorem q_752 : (.fieldLink RX7 13 "HutBookingsModel" "slot" "[I" : Cond) ∈ TB := tb_in (List.mem_of_getElem? (i := 752) (by decide +kernel)) rfl
theorem q_753 : (.fieldLink RX7 16 "HutBookingsModel" "beside" "[I" : Cond) ∈ TB := tb_in (List.mem_of_getElem? (i := 753) (by decide +kernel)) rfl
theorem q_754 : (.fieldLink RX7 19 "HutBookingsModel" "history" "[I" : Cond) ∈ TB := tb_in (List.mem_of_getElem? (i := 754) (by decide +kernel)) rfl
theorem q_755 : (.fieldLink RX7 22 "HutBookingsModel" "text" "[I" : Cond) ∈ TB := tb_in (List.mem_of_getElem? (i := 755) (by decide +kernel)) rfl
theorem q_756 : (.fieldLink RX7 112 "HutBookingsModel" "place" "I" : Cond) ∈ TB := tb_in (List.mem_of_getElem? (i := 756) (by decide +kernel)) rfl
theorem q_757 : (.fieldLink RX7 25 "HutBookingsModel" "kept" "I" : Cond) ∈ TB := tb_in (List.mem_of_getElem? (i := 757) (by decide +kernel)) rfl
theorem q_758 : (.fieldLink RX7 115 "HutBookingsModel" "length" "I" : Cond) ∈ TB := tb_in (List.mem_of_getElem? (i := 758) (by decide +kernel)) rfl
theorem q_759 : (.fieldLink RX7 149 "HutBookingsModel" "isFilled" "Z" : Cond) ∈ TB := tb_in (List.mem_of_getElem? (i := 759) (by decide +kernel)) rfl
theorem q_779 : (.methodLink RL 17 yX7_book : Cond) ∈ TB := tb_in (List.mem_of_getElem? (i := 779) (by decide +kernel)) rfl
theorem q_780 : (.instanceMethod yX7_book : Cond) ∈ TB := tb_in (List.mem_of_getElem? (i := 780) (by decide +kernel)) rfl
theorem q_781 : (.selects RX7 yX7_book yX7_book : Cond) ∈ TB := tb_in (List.mem_of_getElem? (i := 781) (by decide +kernel)) rfl
theorem q_782 : (.code yX7_book cX7_book 5 (Option.some Jvm.ClassFile.FieldType.int) : Cond) ∈ TB := tb_in (List.mem_of_getElem? (i := 782) (by decide +kernel)) rfl
theorem q_783 : (.methodLink RX7 102 yX7_tryToBook : Cond) ∈ TB := tb_in (List.mem_of_getElem? (i := 783) (by decide +kernel)) rfl
theorem q_785 : (.instanceMethod yX7_tryToBook : Cond) ∈ TB := tb_in (List.mem_of_getElem? (i := 785) (by decide +kernel)) rfl
theorem q_786 : (.code yX7_tryToBook cX7_tryToBook 4 (Option.some Jvm.ClassFile.FieldType.int) : Cond) ∈ TB := tb_in (List.mem_of_getElem? (i := 786) (by decide +kernel)) rfl
theorem q_787 : (.methodLink RX7 33 yX7_in : Cond) ∈ TB := tb_in (List.mem_of_getElem? (i := 787) (by decide +kernel)) rfl
theorem q_788 : (.static yX7_in : Cond) ∈ TB := tb_in (List.mem_of_getElem? (i := 788) (by decide +kernel)) rfl
theorem q_789 : (.code yX7_in cX7_in 3 (Option.some Jvm.ClassFile.FieldType.boolean) : Cond) ∈ TB := tb_in (List.mem_of_getElem? (i := 789) (by decide +kernel)) rfl
theorem q_790 : (.constant RX7 95 (-1000002) : Cond) ∈ TB := tb_in (List.mem_of_getElem? (i := 790) (by decide +kernel)) rfl
theorem q_791 : (.methodLink RX7 96 yX7_fits : Cond) ∈ TB := tb_in (List.mem_of_getElem? (i := 791) (by decide +kernel)) rfl
theorem q_793 : (.instanceMethod yX7_fits : Cond) ∈ TB := tb_in (List.mem_of_getElem? (i := 793) (by decide +kernel)) rfl
theorem q_794 : (.code yX7_fits cX7_fits 5 (Option.some Jvm.ClassFile.FieldType.boolean) : Cond) ∈ TB := tb_in (List.mem_of_getElem? (i := 794) (by decide +kernel)) rfl
theorem q_795 : (.methodLink RX7 48 yX7_taken : Cond) ∈ TB := tb_in (List.mem_of_getElem? (i := 795) (by decide +kernel)) rfl
theorem q_797 : (.instanceMethod yX7_taken : Cond) ∈ TB := tb_in (List.mem_of_getElem? (i := 797) (by decide +kernel)) rfl
theorem q_798 : (.code yX7_taken cX7_taken 5 (Option.some Jvm.ClassFile.FieldType.int) : Cond) ∈ TB := tb_in (List.mem_of_getElem? (i := 798) (by decide +kernel)) rfl
theorem q_799 : (.methodLink RX7 29 yX7_of : Cond) ∈ TB := tb_in (List.mem_of_getElem? (i := 799) (by decide +kernel)) rfl
theorem q_801 : (.instanceMethod yX7_of : Cond) ∈ TB := tb_in (List.mem_of_getElem? (i := 801) (by decide +kernel)) rfl
theorem q_802 : (.code yX7_of cX7_of 3 (Option.some Jvm.ClassFile.FieldType.int) : Cond) ∈ TB := tb_in (List.mem_of_getElem? (i := 802) (by decide +kernel)) rfl
theorem q_803 : (.methodLink RX7 45 yX7_end : Cond) ∈ TB := tb_in (List.mem_of_getElem? (i := 803) (by decide +kernel)) rfl
theorem q_805 : (.instanceMethod yX7_end : Cond) ∈ TB := tb_in (List.mem_of_getElem? (i := 805) (by decide +kernel)) rfl
theorem q_806 : (.code yX7_end cX7_end 2 (Option.some Jvm.ClassFile.FieldType.int) : Cond) ∈ TB := tb_in (List.mem_of_getElem? (i := 806) (by decide +kernel)) rfl
theorem q_807 : (.constant RX7 99 (-1000004) : Cond) ∈ TB := tb_in (List.mem_of_getElem? (i := 807) (by decide +kernel)) rfl
theorem q_808 : (.constant RX7 100 (-1000003) : Cond) ∈ TB := tb_in (List.mem_of_getElem? (i := 808) (by decide +kernel)) rfl
theorem q_809 : (.methodLink RX7 106 yX7_record : Cond) ∈ TB := tb_in (List.mem_of_getElem? (i := 809) (by decide +kernel)) rfl
theorem q_811 : (.instanceMethod yX7_record : Cond) ∈ TB := tb_in (List.mem_of_getElem? (i := 811) (by decide +kernel)) rfl
theorem q_812 : (.code yX7_record cX7_record 2 (Option.none : Option Jvm.ClassFile.FieldType) : Cond) ∈ TB := tb_in (List.mem_of_getElem? (i := 812) (by decide +kernel)) rfl
theorem q_813 : (.methodLink RX7 109 yX7_addBooking : Cond) ∈ TB := tb_in (List.mem_of_getElem? (i := 813) (by decide +kernel)) rfl
theorem q_815 : (.instanceMethod yX7_addBooking : Cond) ∈ TB := tb_in (List.mem_of_getElem? (i := 815) (by decide +kernel)) rfl
theorem q_816 : (.code yX7_addBooking cX7_addBooking 5 (Option.some Jvm.ClassFile.FieldType.int) : Cond) ∈ TB := tb_in (List.mem_of_getElem? (i := 816) (by decide +kernel)) rfl
theorem q_817 : (.methodLink RX7 51 yX7_put : Cond) ∈ TB := tb_in (List.mem_of_getElem? (i := 817) (by decide +kernel)) rfl
theorem q_819 : (.instanceMethod yX7_put : Cond) ∈ TB := tb_in (List.mem_of_getElem? (i := 819) (by decide +kernel)) rfl
theorem q_820 : (.code yX7_put cX7_put 4 (Option.none : Option Jvm.ClassFile.FieldType) : Cond) ∈ TB := tb_in (List.mem_of_getElem? (i := 820) (by decide +kernel)) rfl
theorem q_821 : (.constant RX7 101 (-1000005) : Cond) ∈ TB := tb_in (List.mem_of_getElem? (i := 821) (by decide +kernel)) rfl
theorem q_822 : (.methodLink RL 22 yX7_bookAll : Cond) ∈ TB := tb_in (List.mem_of_getElem? (i := 822) (by decide +kernel)) rfl
theorem q_823 : (.instanceMethod yX7_bookAll : Cond) ∈ TB := tb_in (List.mem_of_getElem? (i := 823) (by decide +kernel)) rfl
theorem q_824 : (.selects RX7 yX7_bookAll yX7_bookAll : Cond) ∈ TB := tb_in (List.mem_of_getElem? (i := 824) (by decide +kernel)) rfl
theorem q_825 : (.code yX7_bookAll cX7_bookAll 5 (Option.some Jvm.ClassFile.FieldType.int) : Cond) ∈ TB := tb_in (List.mem_of_getElem? (i := 825) (by decide +kernel)) rfl
theorem q_826 : (.methodLink RX7 124 yX7_readAll : Cond) ∈ TB := tb_in (List.mem_of_getElem? (i := 826) (by decide +kernel)) rfl
theorem q_828 : (.instanceMethod yX7_readAll : Cond) ∈ TB := tb_in (List.mem_of_getElem? (i := 828) (by decide +kernel)) rfl
theorem q_829 : (.code yX7_readAll cX7_readAll 4 (Option.some Jvm.ClassFile.FieldType.int) : Cond) ∈ TB := tb_in (List.mem_of_getElem? (i := 829) (by decide +kernel)) rfl
theorem q_830 : (.methodLink RX7 121 yX7_readBooking : Cond) ∈ TB := tb_in (List.mem_of_getElem? (i := 830) (by decide +kernel)) rfl
theorem q_832 : (.instanceMethod yX7_readBooking : Cond) ∈ TB := tb_in (List.mem_of_getElem? (i := 832) (by decide +kernel)) rfl
theorem q_833 : (.code yX7_readBooking cX7_readBooking 4 (Option.some Jvm.ClassFile.FieldType.int) : Cond) ∈ TB := tb_in (List.mem_of_getElem? (i := 833) (by decide +kernel)) rfl
theorem q_834 : (.methodLink RX7 118 yX7_isNext : Cond) ∈ TB := tb_in (List.mem_of_getElem? (i := 834) (by decide +kernel)) rfl
theorem q_836 : (.instanceMethod yX7_isNext : Cond) ∈ TB := tb_in (List.mem_of_getElem? (i := 836) (by decide +kernel)) rfl
theorem q_837 : (.code yX7_isNext cX7_isNext 3 (Option.some Jvm.ClassFile.FieldType.boolean) : Cond) ∈ TB := tb_in (List.mem_of_getElem? (i := 837) (by decide +kernel)) rfl
theorem q_838 : (.methodLink RX7 127 yX7_lay : Cond) ∈ TB := tb_in (List.mem_of_getElem? (i := 838) (by decide +kernel)) rfl
theorem q_840 : (.instanceMethod yX7_lay : Cond) ∈ TB := tb_in (List.mem_of_getElem? (i := 840) (by decide +kernel)) rfl
theorem q_841 : (.code yX7_lay cX7_lay 2 (Option.none : Option Jvm.ClassFile.FieldType) : Cond) ∈ TB := tb_in (List.mem_of_getElem? (i := 841) (by decide +kernel)) rfl
theorem q_842 : (.methodLink RX7 130 yX7_takeBack : Cond) ∈ TB := tb_in (List.mem_of_getElem? (i := 842) (by decide +kernel)) rfl
theorem q_844 : (.instanceMethod yX7_takeBack : Cond) ∈ TB := tb_in (List.mem_of_getElem? (i := 844) (by decide +kernel)) rfl
theorem q_845 : (.code yX7_takeBack cX7_takeBack 2 (Option.none : Option Jvm.ClassFile.FieldType) : Cond) ∈ TB := tb_in (List.mem_of_getElem? (i := 845) (by decide +kernel)) rfl
theorem q_846 : (.methodLink RL 115 yX7_refund : Cond) ∈ TB := tb_in (List.mem_of_getElem? (i := 846) (by decide +kernel)) rfl
theorem q_847 : (.instanceMethod yX7_refund : Cond) ∈ TB := tb_in (List.mem_of_getElem? (i := 847) (by decide +kernel)) rfl
theorem q_848 : (.selects RX7 yX7_refund yX7_refund : Cond) ∈ TB := tb_in (List.mem_of_getElem? (i := 848) (by decide +kernel)) rfl
theorem q_849 : (.code yX7_refund cX7_refund 2 (Option.some Jvm.ClassFile.FieldType.int) : Cond) ∈ TB := tb_in (List.mem_of_getElem? (i := 849) (by decide +kernel)) rfl
theorem q_850 : (.methodLink RX7 133 yX7_isBooking : Cond) ∈ TB := tb_in (List.mem_of_getElem? (i := 850) (by decide +kernel)) rfl
theorem q_852 : (.instanceMethod yX7_isBooking : Cond) ∈ TB := tb_in (List.mem_of_getElem? (i := 852) (by decide +kernel)) rfl
theorem q_853 : (.code yX7_isBooking cX7_isBooking 2 (Option.some Jvm.ClassFile.FieldType.boolean) : Cond) ∈ TB := tb_in (List.mem_of_getElem? (i := 853) (by decide +kernel)) rfl
theorem q_854 : (.constant RX7 136 (-1000001) : Cond) ∈ TB := tb_in (List.mem_of_getElem? (i := 854) (by decide +kernel)) rfl
theorem q_855 : (.methodLink RX7 41 yX7_is : Cond) ∈ TB := tb_in (List.mem_of_getElem? (i := 855) (by decide +kernel)) rfl
theorem q_857 : (.instanceMethod yX7_is : Cond) ∈ TB := tb_in (List.mem_of_getElem? (i := 857) (by decide +kernel)) rfl
theorem q_858 : (.code yX7_is cX7_is 3 (Option.some Jvm.ClassFile.FieldType.boolean) : Cond) ∈ TB := tb_in (List.mem_of_getElem? (i := 858) (by decide +kernel)) rfl
theorem q_859 : (.methodLink RX7 137 yX7_refundOf : Cond) ∈ TB := tb_in (List.mem_of_getElem? (i := 859) (by decide +kernel)) rfl
theorem q_861 : (.instanceMethod yX7_refundOf : Cond) ∈ TB := tb_in (List.mem_of_getElem? (i := 861) (by decide +kernel)) rfl
theorem q_862 : (.code yX7_refundOf cX7_refundOf 4 (Option.some Jvm.ClassFile.FieldType.int) : Cond) ∈ TB := tb_in (List.mem_of_getElem? (i := 862) (by decide +kernel)) rfl
theorem q_863 : (.methodLink RX7 77 yX7_isUpOpen : Cond) ∈ TB := tb_in (List.mem_of_getElem? (i := 863) (by decide +kernel)) rfl
theorem q_865 : (.instanceMethod yX7_isUpOpen : Cond) ∈ TB := tb_in (List.mem_of_getElem? (i := 865) (by decide +kernel)) rfl
theorem q_866 : (.code yX7_isUpOpen cX7_isUpOpen 2 (Option.some Jvm.ClassFile.FieldType.boolean) : Cond) ∈ TB := tb_in (List.mem_of_getElem? (i := 866) (by decide +kernel)) rfl
theorem q_867 : (.methodLink RX7 37 yX7_weatherOf : Cond) ∈ TB := tb_in (List.mem_of_getElem? (i := 867) (by decide +kernel)) rfl
theorem q_869 : (.instanceMethod yX7_weatherOf : Cond) ∈ TB := tb_in (List.mem_of_getElem? (i := 869) (by decide +kernel)) rfl
theorem q_870 : (.code yX7_weatherOf cX7_weatherOf 2 (Option.some Jvm.ClassFile.FieldType.int) : Cond) ∈ TB := tb_in (List.mem_of_getElem? (i := 870) (by decide +kernel)) rfl
theorem q_871 : (.methodLink RL 27 yX7_cancel : Cond) ∈ TB := tb_in (List.mem_of_getElem? (i := 871) (by decide +kernel)) rfl
theorem q_872 : (.instanceMethod yX7_cancel : Cond) ∈ TB := tb_in (List.mem_of_getElem? (i := 872) (by decide +kernel)) rfl
theorem q_873 : (.selects RX7 yX7_cancel yX7_cancel : Cond) ∈ TB := tb_in (List.mem_of_getElem? (i := 873) (by decide +kernel)) rfl
theorem q_874 : (.code yX7_cancel cX7_cancel 3 (Option.some Jvm.ClassFile.FieldType.int) : Cond) ∈ TB := tb_in (List.mem_of_getElem? (i := 874) (by decide +kernel)) rfl
theorem q_875 : (.methodLink RX7 140 yX7_refund : Cond) ∈ TB := tb_in (List.mem_of_getElem? (i := 875) (by decide +kernel)) rfl
theorem q_876 : (.methodLink RL 32 yX7_extend : Cond) ∈ TB := tb_in (List.mem_of_getElem? (i := 876) (by decide +kernel)) rfl
theorem q_877 : (.instanceMethod yX7_extend : Cond) ∈ TB := tb_in (List.mem_of_getElem? (i := 877) (by decide +kernel)) rfl
theorem q_878 : (.selects RX7 yX7_extend yX7_extend : Cond) ∈ TB := tb_in (List.mem_of_getElem? (i := 878) (by decide +kernel)) rfl
theorem q_879 : (.code yX7_extend cX7_extend 4 (Option.some Jvm.ClassFile.FieldType.int) : Cond) ∈ TB := tb_in (List.mem_of_getElem? (i := 879) (by decide +kernel)) rfl
theorem q_880 : (.methodLink RL 36 yX7_weather : Cond) ∈ TB := tb_in (List.mem_of_getElem? (i := 880) (by decide +kernel)) rfl
theorem q_881 : (.instanceMethod yX7_weather : Cond) ∈ TB := tb_in (List.mem_of_getElem? (i := 881) (by decide +kernel)) rfl
theorem q_882 : (.selects RX7 yX7_weather yX7_weather : Cond) ∈ TB := tb_in (List.mem_of_getElem? (i := 882) (by decide +kernel)) rfl
theorem q_883 : (.code yX7_weather cX7_weather 6 (Option.some Jvm.ClassFile.FieldType.int) : Cond) ∈ TB := tb_in (List.mem_of_getElem? (i := 883) (by decide +kernel)) rfl
theorem q_884 : (.methodLink RL 40 yX7_order : Cond) ∈ TB := tb_in (List.mem_of_getElem? (i := 884) (by decide +kernel)) rfl
theorem q_885 : (.instanceMethod yX7_order : Cond) ∈ TB := tb_in (List.mem_of_getElem? (i := 885) (by decide +kernel)) rfl
theorem q_886 : (.selects RX7 yX7_order yX7_order : Cond) ∈ TB := tb_in (List.mem_of_getElem? (i := 886) (by decide +kernel)) rfl
theorem q_887 : (.code yX7_order cX7_order 3 (Option.some Jvm.ClassFile.FieldType.int) : Cond) ∈ TB := tb_in (List.mem_of_getElem? (i := 887) (by decide +kernel)) rfl
theorem q_888 : (.methodLink RL 44 yX7_recall : Cond) ∈ TB := tb_in (List.mem_of_getElem? (i := 888) (by decide +kernel)) rfl
theorem q_889 : (.instanceMethod yX7_recall : Cond) ∈ TB := tb_in (List.mem_of_getElem? (i := 889) (by decide +kernel)) rfl
theorem q_890 : (.selects RX7 yX7_recall yX7_recall : Cond) ∈ TB := tb_in (List.mem_of_getElem? (i := 890) (by decide +kernel)) rfl
theorem q_891 : (.code yX7_recall cX7_recall 2 (Option.some Jvm.ClassFile.FieldType.int) : Cond) ∈ TB := tb_in (List.mem_of_getElem? (i := 891) (by decide +kernel)) rfl
theorem q_892 : (.methodLink RX7 63 yX7_dropOrder : Cond) ∈ TB := tb_in (List.mem_of_getElem? (i := 892) (by decide +kernel)) rfl
theorem q_894 : (.instanceMethod yX7_dropOrder : Cond) ∈ TB := tb_in (List.mem_of_getElem? (i := 894) (by decide +kernel)) rfl
theorem q_895 : (.code yX7_dropOrder cX7_dropOrder 3 (Option.none : Option Jvm.ClassFile.FieldType) : Cond) ∈ TB := tb_in (List.mem_of_getElem? (i := 895) (by decide +kernel)) rfl
theorem q_896 : (.methodLink RL 49 yX7_flight : Cond) ∈ TB := tb_in (List.mem_of_getElem? (i := 896) (by decide +kernel)) rfl
theorem q_897 : (.instanceMethod yX7_flight : Cond) ∈ TB := tb_in (List.mem_of_getElem? (i := 897) (by decide +kernel)) rfl
theorem q_898 : (.selects RX7 yX7_flight yX7_flight : Cond) ∈ TB := tb_in (List.mem_of_getElem? (i := 898) (by decide +kernel)) rfl
theorem q_899 : (.code yX7_flight cX7_flight 2 (Option.some Jvm.ClassFile.FieldType.int) : Cond) ∈ TB := tb_in (List.mem_of_getElem? (i := 899) (by decide +kernel)) rfl
theorem q_900 : (.methodLink RL 53 yX7_pass : Cond) ∈ TB := tb_in (List.mem_of_getElem? (i := 900) (by decide +kernel)) rfl
theorem q_901 : (.instanceMethod yX7_pass : Cond) ∈ TB := tb_in (List.mem_of_getElem? (i := 901) (by decide +kernel)) rfl
theorem q_902 : (.selects RX7 yX7_pass yX7_pass : Cond) ∈ TB := tb_in (List.mem_of_getElem? (i := 902) (by decide +kernel)) rfl
theorem q_903 : (.code yX7_pass cX7_pass 3 (Option.some Jvm.ClassFile.FieldType.int) : Cond) ∈ TB := tb_in (List.mem_of_getElem? (i := 903) (by decide +kernel)) rfl
theorem q_904 : (.methodLink RX7 143 yX7_passDay : Cond) ∈ TB := tb_in (List.mem_of_getElem? (i := 904) (by decide +kernel)) rfl
theorem q_906 : (.instanceMethod yX7_passDay : Cond) ∈ TB := tb_in (List.mem_of_getElem? (i := 906) (by decide +kernel)) rfl
theorem q_907 : (.code yX7_passDay cX7_passDay 3 (Option.none : Option Jvm.ClassFile.FieldType) : Cond) ∈ TB := tb_in (List.mem_of_getElem? (i := 907) (by decide +kernel)) rfl
theorem q_908 : (.methodLink RX7 73 yX7_isDownOpen : Cond) ∈ TB := tb_in (List.mem_of_getElem? (i := 908) (by decide +kernel)) rfl
theorem q_910 : (.instanceMethod yX7_isDownOpen : Cond) ∈ TB := tb_in (List.mem_of_getElem? (i := 910) (by decide +kernel)) rfl
theorem q_911 : (.code yX7_isDownOpen cX7_isDownOpen 2 (Option.some Jvm.ClassFile.FieldType.boolean) : Cond) ∈ TB := tb_in (List.mem_of_getElem? (i := 911) (by decide +kernel)) rfl
theorem q_912 : (.methodLink RX7 70 yX7_leave : Cond) ∈ TB := tb_in (List.mem_of_getElem? (i := 912) (by decide +kernel)) rfl
theorem q_914 : (.instanceMethod yX7_leave : Cond) ∈ TB := tb_in (List.mem_of_getElem? (i := 914) (by decide +kernel)) rfl
theorem q_915 : (.code yX7_leave cX7_leave 3 (Option.none : Option Jvm.ClassFile.FieldType) : Cond) ∈ TB := tb_in (List.mem_of_getElem? (i := 915) (by decide +kernel)) rfl
theorem q_916 : (.methodLink RX7 59 yX7_turnAway : Cond) ∈ TB := tb_in (List.mem_of_getElem? (i := 916) (by decide +kernel)) rfl
theorem q_918 : (.instanceMethod yX7_turnAway : Cond) ∈ TB := tb_in (List.mem_of_getElem? (i := 918) (by decide +kernel)) rfl
theorem q_919 : (.code yX7_turnAway cX7_turnAway 2 (Option.none : Option Jvm.ClassFile.FieldType) : Cond) ∈ TB := tb_in (List.mem_of_getElem? (i := 919) (by decide +kernel)) rfl
theorem q_920 : (.methodLink RX7 80 yX7_come : Cond) ∈ TB := tb_in (List.mem_of_getElem? (i := 920) (by decide +kernel)) rfl
theorem q_922 : (.instanceMethod yX7_come : Cond) ∈ TB := tb_in (List.mem_of_getElem? (i := 922) (by decide +kernel)) rfl
theorem q_923 : (.code yX7_come cX7_come 3 (Option.none : Option Jvm.ClassFile.FieldType) : Cond) ∈ TB := tb_in (List.mem_of_getElem? (i := 923) (by decide +kernel)) rfl
theorem q_924 : (.methodLink RX7 55 yX7_personsThere : Cond) ∈ TB := tb_in (List.mem_of_getElem? (i := 924) (by decide +kernel)) rfl
theorem q_926 : (.instanceMethod yX7_personsThere : Cond) ∈ TB := tb_in (List.mem_of_getElem? (i := 926) (by decide +kernel)) rfl
theorem q_927 : (.code yX7_personsThere cX7_personsThere 3 (Option.some Jvm.ClassFile.FieldType.int) : Cond) ∈ TB := tb_in (List.mem_of_getElem? (i := 927) (by decide +kernel)) rfl
theorem q_928 : (.methodLink RX7 66 yX7_bring : Cond) ∈ TB := tb_in (List.mem_of_getElem? (i := 928) (by decide +kernel)) rfl
theorem q_930 : (.instanceMethod yX7_bring : Cond) ∈ TB := tb_in (List.mem_of_getElem? (i := 930) (by decide +kernel)) rfl
theorem q_931 : (.code yX7_bring cX7_bring 5 (Option.none : Option Jvm.ClassFile.FieldType) : Cond) ∈ TB := tb_in (List.mem_of_getElem? (i := 931) (by decide +kernel)) rfl
theorem q_932 : (.methodLink RX7 83 yX7_isWindy : Cond) ∈ TB := tb_in (List.mem_of_getElem? (i := 932) (by decide +kernel)) rfl
theorem q_934 : (.instanceMethod yX7_isWindy : Cond) ∈ TB := tb_in (List.mem_of_getElem? (i := 934) (by decide +kernel)) rfl
theorem q_935 : (.code yX7_isWindy cX7_isWindy 2 (Option.some Jvm.ClassFile.FieldType.boolean) : Cond) ∈ TB := tb_in (List.mem_of_getElem? (i := 935) (by decide +kernel)) rfl
theorem q_936 : (.methodLink RX7 86 yX7_fly : Cond) ∈ TB := tb_in (List.mem_of_getElem? (i := 936) (by decide +kernel)) rfl
theorem q_938 : (.instanceMethod yX7_fly : Cond) ∈ TB := tb_in (List.mem_of_getElem? (i := 938) (by decide +kernel)) rfl
theorem q_939 : (.code yX7_fly cX7_fly 4 (Option.none : Option Jvm.ClassFile.FieldType) : Cond) ∈ TB := tb_in (List.mem_of_getElem? (i := 939) (by decide +kernel)) rfl
theorem q_940 : (.methodLink RX7 89 yX7_eat : Cond) ∈ TB := tb_in (List.mem_of_getElem? (i := 940) (by decide +kernel)) rfl
theorem q_942 : (.instanceMethod yX7_eat : Cond) ∈ TB := tb_in (List.mem_of_getElem? (i := 942) (by decide +kernel)) rfl
theorem q_943 : (.code yX7_eat cX7_eat 4 (Option.none : Option Jvm.ClassFile.FieldType) : Cond) ∈ TB := tb_in (List.mem_of_getElem? (i := 943) (by decide +kernel)) rfl
theorem q_944 : (.methodLink RX7 92 yX7_sleep : Cond) ∈ TB := tb_in (List.mem_of_getElem? (i := 944) (by decide +kernel)) rfl
theorem q_946 : (.instanceMethod yX7_sleep : Cond) ∈ TB := tb_in (List.mem_of_getElem? (i := 946) (by decide +kernel)) rfl
theorem q_947 : (.code yX7_sleep cX7_sleep 3 (Option.none : Option Jvm.ClassFile.FieldType) : Cond) ∈ TB := tb_in (List.mem_of_getElem? (i := 947) (by decide +kernel)) rfl
theorem q_948 : (.methodLink RL 57 yX7_set : Cond) ∈ TB := tb_in (List.mem_of_getElem? (i := 948) (by decide +kernel)) rfl
theorem q_949 : (.instanceMethod yX7_set : Cond) ∈ TB := tb_in (List.mem_of_getElem? (i := 949) (by decide +kernel)) rfl
theorem q_950 : (.selects RX7 yX7_set yX7_set : Cond) ∈ TB := tb_in (List.mem_of_getElem? (i := 950) (by decide +kernel)) rfl
theorem q_951 : (.code yX7_set cX7_set 5 (Option.some Jvm.ClassFile.FieldType.int) : Cond) ∈ TB := tb_in (List.mem_of_getElem? (i := 951) (by decide +kernel)) rfl
theorem q_952 : (.methodLink RX7 146 yX7_most : Cond) ∈ TB := tb_in (List.mem_of_getElem? (i := 952) (by decide +kernel)) rfl
theorem q_953 : (.static yX7_most : Cond) ∈ TB := tb_in (List.mem_of_getElem? (i := 953) (by decide +kernel)) rfl
theorem q_954 : (.code yX7_most cX7_most 1 (Option.some Jvm.ClassFile.FieldType.int) : Cond) ∈ TB := tb_in (List.mem_of_getElem? (i := 954) (by decide +kernel)) rfl
theorem q_955 : (.methodLink RL 62 yX7_type : Cond) ∈ TB := tb_in (List.mem_of_getElem? (i := 955) (by decide +kernel)) rfl
theorem q_956 : (.instanceMethod yX7_type : Cond) ∈ TB := tb_in (List.mem_of_getElem? (i := 956) (by decide +kernel)) rfl
theorem q_957 : (.selects RX7 yX7_type yX7_type : Cond) ∈ TB := tb_in (List.mem_of_getElem? (i := 957) (by decide +kernel)) rfl
theorem q_958 : (.code yX7_type cX7_type 2 (Option.some Jvm.ClassFile.FieldType.int) : Cond) ∈ TB := tb_in (List.mem_of_getElem? (i := 958) (by decide +kernel)) rfl
theorem q_959 : (.methodLink RL 66 yX7_clearText : Cond) ∈ TB := tb_in (List.mem_of_getElem? (i := 959) (by decide +kernel)) rfl
theorem q_960 : (.instanceMethod yX7_clearText : Cond) ∈ TB := tb_in (List.mem_of_getElem? (i := 960) (by decide +kernel)) rfl
theorem q_961 : (.selects RX7 yX7_clearText yX7_clearText : Cond) ∈ TB := tb_in (List.mem_of_getElem? (i := 961) (by decide +kernel)) rfl
theorem q_962 : (.code yX7_clearText cX7_clearText 2 (Option.some Jvm.ClassFile.FieldType.int) : Cond) ∈ TB := tb_in (List.mem_of_getElem? (i := 962) (by decide +kernel)) rfl
theorem q_963 : (.methodLink RL 70 yX7_fault : Cond) ∈ TB := tb_in (List.mem_of_getElem? (i := 963) (by decide +kernel)) rfl
theorem q_964 : (.instanceMethod yX7_fault : Cond) ∈ TB := tb_in (List.mem_of_getElem? (i := 964) (by decide +kernel)) rfl
theorem q_965 : (.selects RX7 yX7_fault yX7_fault : Cond) ∈ TB := tb_in (List.mem_of_getElem? (i := 965) (by decide +kernel)) rfl
theorem q_966 : (.code yX7_fault cX7_fault 2 (Option.some Jvm.ClassFile.FieldType.int) : Cond) ∈ TB := tb_in (List.mem_of_getElem? (i := 966) (by decide +kernel)) rfl
theorem q_967 : (.methodLink RL 74 yX7_undo : Cond) ∈ TB := tb_in (List.mem_of_getElem? (i := 967) (by decide +kernel)) rfl
theorem q_968 : (.instanceMethod yX7_undo : Cond) ∈ TB := tb_in (List.mem_of_getElem? (i := 968) (by decide +kernel)) rfl
theorem q_969 : (.selects RX7 yX7_undo yX7_undo : Cond) ∈ TB := tb_in (List.mem_of_getElem? (i := 969) (by decide +kernel)) rfl
theorem q_970 : (.code yX7_undo cX7_undo 2 (Option.some Jvm.ClassFile.FieldType.int) : Cond) ∈ TB := tb_in (List.mem_of_getElem? (i := 970) (by decide +kernel)) rfl
theorem q_971 : (.methodLink RL 78 yX7_keep : Cond) ∈ TB := tb_in (List.mem_of_getElem? (i := 971) (by decide +kernel)) rfl
theorem q_972 : (.instanceMethod yX7_keep : Cond) ∈ TB := tb_in (List.mem_of_getElem? (i := 972) (by decide +kernel)) rfl
theorem q_973 : (.selects RX7 yX7_keep yX7_keep : Cond) ∈ TB := tb_in (List.mem_of_getElem? (i := 973) (by decide +kernel)) rfl
theorem q_974 : (.code yX7_keep cX7_keep 2 (Option.some Jvm.ClassFile.FieldType.int) : Cond) ∈ TB := tb_in (List.mem_of_getElem? (i := 974) (by decide +kernel)) rfl
theorem q_975 : (.methodLink RL 82 yX7_restore : Cond) ∈ TB := tb_in (List.mem_of_getElem? (i := 975) (by decide +kernel)) rfl
theorem q_976 : (.instanceMethod yX7_restore : Cond) ∈ TB := tb_in (List.mem_of_getElem? (i := 976) (by decide +kernel)) rfl
theorem q_977 : (.selects RX7 yX7_restore yX7_restore : Cond) ∈ TB := tb_in (List.mem_of_getElem? (i := 977) (by decide +kernel)) rfl
theorem q_978 : (.code yX7_restore cX7_restore 2 (Option.some Jvm.ClassFile.FieldType.int) : Cond) ∈ TB := tb_in (List.mem_of_getElem? (i := 978) (by decide +kernel)) rfl
theorem q_979 : (.methodLink RL 86 yX7_booking : Cond) ∈ TB := tb_in (List.mem_of_getElem? (i := 979) (by decide +kernel)) rfl
theorem q_980 : (.instanceMethod yX7_booking : Cond) ∈ TB := tb_in (List.mem_of_getElem? (i := 980) (by decide +kernel)) rfl
theorem q_981 : (.selects RX7 yX7_booking yX7_booking : Cond) ∈ TB := tb_in (List.mem_of_getElem? (i := 981) (by decide +kernel)) rfl
theorem q_982 : (.code yX7_booking cX7_booking 3 (Option.some Jvm.ClassFile.FieldType.int) : Cond) ∈ TB := tb_in (List.mem_of_getElem? (i := 982) (by decide +kernel)) rfl
theorem q_983 : (.methodLink RL 90 yX7_day : Cond) ∈ TB := tb_in (List.mem_of_getElem? (i := 983) (by decide +kernel)) rfl
theorem q_984 : (.instanceMethod yX7_day : Cond) ∈ TB := tb_in (List.mem_of_getElem? (i := 984) (by decide +kernel)) rfl
theorem q_985 : (.selects RX7 yX7_day yX7_day : Cond) ∈ TB := tb_in (List.mem_of_getElem? (i := 985) (by decide +kernel)) rfl
theorem q_986 : (.code yX7_day cX7_day 6 (Option.some Jvm.ClassFile.FieldType.int) : Cond) ∈ TB := tb_in (List.mem_of_getElem? (i := 986) (by decide +kernel)) rfl
theorem q_987 : (.methodLink RL 94 yX7_fresh : Cond) ∈ TB := tb_in (List.mem_of_getElem? (i := 987) (by decide +kernel)) rfl
theorem q_988 : (.instanceMethod yX7_fresh : Cond) ∈ TB := tb_in (List.mem_of_getElem? (i := 988) (by decide +kernel)) rfl
theorem q_989 : (.selects RX7 yX7_fresh yX7_fresh : Cond) ∈ TB := tb_in (List.mem_of_getElem? (i := 989) (by decide +kernel)) rfl
theorem q_990 : (.code yX7_fresh cX7_fresh 5 (Option.some Jvm.ClassFile.FieldType.int) : Cond) ∈ TB := tb_in (List.mem_of_getElem? (i := 990) (by decide +kernel)) rfl
theorem q_991 : (.methodLink RL 98 yX7_waiting : Cond) ∈ TB := tb_in (List.mem_of_getElem? (i := 991) (by decide +kernel)) rfl
theorem q_992 : (.instanceMethod yX7_waiting : Cond) ∈ TB := tb_in (List.mem_of_getElem? (i := 992) (by decide +kernel)) rfl
theorem q_993 : (.selects RX7 yX7_waiting yX7_waiting : Cond) ∈ TB := tb_in (List.mem_of_getElem? (i := 993) (by decide +kernel)) rfl
theorem q_994 : (.code yX7_waiting cX7_waiting 3 (Option.some Jvm.ClassFile.FieldType.int) : Cond) ∈ TB := tb_in (List.mem_of_getElem? (i := 994) (by decide +kernel)) rfl
theorem q_995 : (.methodLink RL 102 yX7_count : Cond) ∈ TB := tb_in (List.mem_of_getElem? (i := 995) (by decide +kernel)) rfl
theorem q_996 : (.instanceMethod yX7_count : Cond) ∈ TB := tb_in (List.mem_of_getElem? (i := 996) (by decide +kernel)) rfl
theorem q_997 : (.selects RX7 yX7_count yX7_count : Cond) ∈ TB := tb_in (List.mem_of_getElem? (i := 997) (by decide +kernel)) rfl
theorem q_998 : (.code yX7_count cX7_count 3 (Option.some Jvm.ClassFile.FieldType.int) : Cond) ∈ TB := tb_in (List.mem_of_getElem? (i := 998) (by decide +kernel)) rfl
theorem q_999 : (.methodLink RX7 153 yX7_inState : Cond) ∈ TB := tb_in (List.mem_of_getElem? (i := 999) (by decide +kernel)) rfl
theorem q_1001 : (.instanceMethod yX7_inState : Cond) ∈ TB := tb_in (List.mem_of_getElem? (i := 1001) (by decide +kernel)) rfl
theorem q_1002 : (.code yX7_inState cX7_inState 4 (Option.some Jvm.ClassFile.FieldType.int) : Cond) ∈ TB := tb_in (List.mem_of_getElem? (i := 1002) (by decide +kernel)) rfl
theorem q_1003 : (.methodLink RX7 156 yX7_freshPortions : Cond) ∈ TB := tb_in (List.mem_of_getElem? (i := 1003) (by decide +kernel)) rfl
theorem q_1005 : (.instanceMethod yX7_freshPortions : Cond) ∈ TB := tb_in (List.mem_of_getElem? (i := 1005) (by decide +kernel)) rfl
theorem q_1006 : (.code yX7_freshPortions cX7_freshPortions 3 (Option.some Jvm.ClassFile.FieldType.int) : Cond) ∈ TB := tb_in (List.mem_of_getElem? (i := 1006) (by decide +kernel)) rfl
theorem q_1007 : (.methodLink RX7 159 yX7_waitingPortions : Cond) ∈ TB := tb_in (List.mem_of_getElem? (i := 1007) (by decide +kernel)) rfl
theorem q_1009 : (.instanceMethod yX7_waitingPortions : Cond) ∈ TB := tb_in (List.mem_of_getElem? (i := 1009) (by decide +kernel)) rfl
theorem q_1010 : (.code yX7_waitingPortions cX7_waitingPortions 3 (Option.some Jvm.ClassFile.FieldType.int) : Cond) ∈ TB := tb_in (List.mem_of_getElem? (i := 1010) (by decide +kernel)) rfl
theorem q_1011 : (.methodLink RL 106 yX7_coins : Cond) ∈ TB := tb_in (List.mem_of_getElem? (i := 1011) (by decide +kernel)) rfl
theorem q_1012 : (.instanceMethod yX7_coins : Cond) ∈ TB := tb_in (List.mem_of_getElem? (i := 1012) (by decide +kernel)) rfl
theorem q_1013 : (.selects RX7 yX7_coins yX7_coins : Cond) ∈ TB := tb_in (List.mem_of_getElem? (i := 1013) (by decide +kernel)) rfl
theorem q_1014 : (.code yX7_coins cX7_coins 4 (Option.some Jvm.ClassFile.FieldType.int) : Cond) ∈ TB := tb_in (List.mem_of_getElem? (i := 1014) (by decide +kernel)) rfl
theorem q_1015 : (.methodLink RL 111 yX7_use : Cond) ∈ TB := tb_in (List.mem_of_getElem? (i := 1015) (by decide +kernel)) rfl
theorem q_1016 : (.instanceMethod yX7_use : Cond) ∈ TB := tb_in (List.mem_of_getElem? (i := 1016) (by decide +kernel)) rfl
theorem q_1017 : (.selects RX7 yX7_use yX7_use : Cond) ∈ TB := tb_in (List.mem_of_getElem? (i := 1017) (by decide +kernel)) rfl
theorem q_1018 : (.code yX7_use cX7_use 5 (Option.some Jvm.ClassFile.FieldType.double) : Cond) ∈ TB := tb_in (List.mem_of_getElem? (i := 1018) (by decide +kernel)) rfl
theorem q_1020 : (.methodLink RL 119 yX7_firstFree : Cond) ∈ TB := tb_in (List.mem_of_getElem? (i := 1020) (by decide +kernel)) rfl
theorem q_1021 : (.instanceMethod yX7_firstFree : Cond) ∈ TB := tb_in (List.mem_of_getElem? (i := 1021) (by decide +kernel)) rfl
theorem q_1022 : (.selects RX7 yX7_firstFree yX7_firstFree : Cond) ∈ TB := tb_in (List.mem_of_getElem? (i := 1022) (by decide +kernel)) rfl
theorem q_1023 : (.code yX7_firstFree cX7_firstFree 4 (Option.some Jvm.ClassFile.FieldType.int) : Cond) ∈ TB := tb_in (List.mem_of_getElem? (i := 1023) (by decide +kernel)) rfl
theorem q_1024 : (.methodLink RL 123 yX7_hungryIn : Cond) ∈ TB := tb_in (List.mem_of_getElem? (i := 1024) (by decide +kernel)) rfl
theorem q_1025 : (.instanceMethod yX7_hungryIn : Cond) ∈ TB := tb_in (List.mem_of_getElem? (i := 1025) (by decide +kernel)) rfl
theorem q_1026 : (.selects RX7 yX7_hungryIn yX7_hungryIn : Cond) ∈ TB := tb_in (List.mem_of_getElem? (i := 1026) (by decide +kernel)) rfl
theorem q_1027 : (.code yX7_hungryIn cX7_hungryIn 4 (Option.some Jvm.ClassFile.FieldType.int) : Cond) ∈ TB := tb_in (List.mem_of_getElem? (i := 1027) (by decide +kernel)) rfl
theorem q_1028 : (.methodLink RL 127 yX7_wanting : Cond) ∈ TB := tb_in (List.mem_of_getElem? (i := 1028) (by decide +kernel)) rfl
theorem q_1029 : (.instanceMethod yX7_wanting : Cond) ∈ TB := tb_in (List.mem_of_getElem? (i := 1029) (by decide +kernel)) rfl
theorem q_1030 : (.selects RX7 yX7_wanting yX7_wanting : Cond) ∈ TB := tb_in (List.mem_of_getElem? (i := 1030) (by decide +kernel)) rfl
theorem q_1031 : (.code yX7_wanting cX7_wanting 2 (Option.some Jvm.ClassFile.FieldType.int) : Cond) ∈ TB := tb_in (List.mem_of_getElem? (i := 1031) (by decide +kernel)) rfl
theorem q_1032 : (.methodLink RX7 164 yX7_grows : Cond) ∈ TB := tb_in (List.mem_of_getElem? (i := 1032) (by decide +kernel)) rfl
theorem q_1034 : (.instanceMethod yX7_grows : Cond) ∈ TB := tb_in (List.mem_of_getElem? (i := 1034) (by decide +kernel)) rfl
theorem q_1035 : (.code yX7_grows cX7_grows 5 (Option.some Jvm.ClassFile.FieldType.int) : Cond) ∈ TB := tb_in (List.mem_of_getElem? (i := 1035) (by decide +kernel)) rfl
theorem q_1036 : (.methodLink RL 131 yX7_goneIn : Cond) ∈ TB := tb_in (List.mem_of_getElem? (i := 1036) (by decide +kernel)) rfl
theorem q_1037 : (.instanceMethod yX7_goneIn : Cond) ∈ TB := tb_in (List.mem_of_getElem? (i := 1037) (by decide +kernel)) rfl
theorem q_1038 : (.selects RX7 yX7_goneIn yX7_goneIn : Cond) ∈ TB := tb_in (List.mem_of_getElem? (i := 1038) (by decide +kernel)) rfl
theorem q_1039 : (.code yX7_goneIn cX7_goneIn 4 (Option.some Jvm.ClassFile.FieldType.int) : Cond) ∈ TB := tb_in (List.mem_of_getElem? (i := 1039) (by decide +kernel)) rfl
theorem q_1040 : (.methodLink RL 135 yX7_turnedAway : Cond) ∈ TB := tb_in (List.mem_of_getElem? (i := 1040) (by decide +kernel)) rfl
theorem q_1041 : (.instanceMethod yX7_turnedAway : Cond) ∈ TB := tb_in (List.mem_of_getElem? (i := 1041) (by decide +kernel)) rfl
theorem q_1042 : (.selects RX7 yX7_turnedAway yX7_turnedAway : Cond) ∈ TB := tb_in (List.mem_of_getElem? (i := 1042) (by decide +kernel)) rfl
theorem q_1043 : (.code yX7_turnedAway cX7_turnedAway 2 (Option.some Jvm.ClassFile.FieldType.int) : Cond) ∈ TB := tb_in (List.mem_of_getElem? (i := 1043) (by decide +kernel)) rfl
theorem q_1044 : (.methodLink RL 139 yX7_bestCall : Cond) ∈ TB := tb_in (List.mem_of_getElem? (i := 1044) (by decide +kernel)) rfl
theorem q_1045 : (.instanceMethod yX7_bestCall : Cond) ∈ TB := tb_in (List.mem_of_getElem? (i := 1045) (by decide +kernel)) rfl
theorem q_1046 : (.selects RX7 yX7_bestCall yX7_bestCall : Cond) ∈ TB := tb_in (List.mem_of_getElem? (i := 1046) (by decide +kernel)) rfl
theorem q_1047 : (.code yX7_bestCall cX7_bestCall 5 (Option.some Jvm.ClassFile.FieldType.int) : Cond) ∈ TB := tb_in (List.mem_of_getElem? (i := 1047) (by decide +kernel)) rfl
theorem q_1048 : (.methodLink RX7 167 yX7_takesDown : Cond) ∈ TB := tb_in (List.mem_of_getElem? (i := 1048) (by decide +kernel)) rfl
theorem q_1050 : (.instanceMethod yX7_takesDown : Cond) ∈ TB := tb_in (List.mem_of_getElem? (i := 1050) (by decide +kernel)) rfl
theorem q_1051 : (.code yX7_takesDown cX7_takesDown 5 (Option.some Jvm.ClassFile.FieldType.int) : Cond) ∈ TB := tb_in (List.mem_of_getElem? (i := 1051) (by decide +kernel)) rfl
theorem q_1052 : (.methodLink RL 143 yX7_fullest : Cond) ∈ TB := tb_in (List.mem_of_getElem? (i := 1052) (by decide +kernel)) rfl
theorem q_1053 : (.instanceMethod yX7_fullest : Cond) ∈ TB := tb_in (List.mem_of_getElem? (i := 1053) (by decide +kernel)) rfl
theorem q_1054 : (.selects RX7 yX7_fullest yX7_fullest : Cond) ∈ TB := tb_in (List.mem_of_getElem? (i := 1054) (by decide +kernel)) rfl
theorem q_1055 : (.code yX7_fullest cX7_fullest 5 (Option.some Jvm.ClassFile.FieldType.int) : Cond) ∈ TB := tb_in (List.mem_of_getElem? (i := 1055) (by decide +kernel)) rfl
set_option maxRecDepth 100000 in
theorem i_X0 : ∀ w ∈ wsX00, w ∈ TB := fun w h => tb_in ((by decide +kernel : ∀ w ∈ wsX00, w ∈ lw_tbl) w h) ((by decide +kernel : ∀ w ∈ wsX00, goodWord w = true) w h)
set_option maxRecDepth 100000 in
theorem i_X1 : ∀ w ∈ wsX10, w ∈ TB := fun w h => tb_in ((by decide +kernel : ∀ w ∈ wsX10, w ∈ lw_tbl) w h) ((by decide +kernel : ∀ w ∈ wsX10, goodWord w = true) w h)
set_option maxRecDepth 100000 in
theorem i_X2 : ∀ w ∈ wsX20, w ∈ TB := fun w h => tb_in ((by decide +kernel : ∀ w ∈ wsX20, w ∈ lw_tbl) w h) ((by decide +kernel : ∀ w ∈ wsX20, goodWord w = true) w h)
set_option maxRecDepth 100000 in
theorem i_X3 : ∀ w ∈ wsX30, w ∈ TB := fun w h => tb_in ((by decide +kernel : ∀ w ∈ wsX30, w ∈ lw_tbl) w h) ((by decide +kernel : ∀ w ∈ wsX30, goodWord w = true) w h)
set_option maxRecDepth 100000 in
theorem i_X4 : ∀ w ∈ wsX40, w ∈ TB := fun w h => tb_in ((by decide +kernel : ∀ w ∈ wsX40, w ∈ lw_tbl) w h) ((by decide +kernel : ∀ w ∈ wsX40, goodWord w = true) w h)
set_option maxRecDepth 100000 in
theorem i_X5 : ∀ w ∈ wsX50, w ∈ TB := fun w h => tb_in ((by decide +kernel : ∀ w ∈ wsX50, w ∈ lw_tbl) w h) ((by decide +kernel : ∀ w ∈ wsX50, goodWord w = true) w h)
set_option maxRecDepth 100000 in
theorem i_X6 : ∀ w ∈ wsX60, w ∈ TB := fun w h => tb_in ((by decide +kernel : ∀ w ∈ wsX60, w ∈ lw_tbl) w h) ((by decide +kernel : ∀ w ∈ wsX60, goodWord w = true) w h)
set_option maxRecDepth 100000 in
theorem i_X7 : ∀ w ∈ wsX70, w ∈ TB := fun w h => tb_in ((by decide +kernel : ∀ w ∈ wsX70, w ∈ lw_tbl) w h) ((by decide +kernel : ∀ w ∈ wsX70, goodWord w = true) w h)
end
section
theorem dJ9_floorMod_7cf53_0 : decode cJ9_floorMod_7cf53 0 = .ok (.iload_n 0, 1) := by decide +kernel
theorem dJ9_floorMod_7cf53_1 : decode cJ9_floorMod_7cf53 1 = .ok (.iload_n 1, 1) := by decide +kernel
theorem dJ9_floorMod_7cf53_2 : decode cJ9_floorMod_7cf53 2 = .ok (.irem, 1) := by decide +kernel
theorem dJ9_floorMod_7cf53_3 : decode cJ9_floorMod_7cf53 3 = .ok (.istore_n 2, 1) := by decide +kernel
theorem dJ9_floorMod_7cf53_4 : decode cJ9_floorMod_7cf53 4 = .ok (.iload_n 0, 1) := by decide +kernel
theorem dJ9_floorMod_7cf53_5 : decode cJ9_floorMod_7cf53 5 = .ok (.iload_n 1, 1) := by decide +kernel
theorem dJ9_floorMod_7cf53_6 : decode cJ9_floorMod_7cf53 6 = .ok (.ixor, 1) := by decide +kernel
theorem dJ9_floorMod_7cf53_7 : decode cJ9_floorMod_7cf53 7 = .ok (.ifCond .ge 11, 3) := by decide +kernel
theorem dJ9_floorMod_7cf53_10 : decode cJ9_floorMod_7cf53 10 = .ok (.iload_n 2, 1) := by decide +kernel
theorem dJ9_floorMod_7cf53_11 : decode cJ9_floorMod_7cf53 11 = .ok (.ifCond .eq 7, 3) := by decide +kernel
theorem dJ9_floorMod_7cf53_14 : decode cJ9_floorMod_7cf53 14 = .ok (.iload_n 2, 1) := by decide +kernel
theorem dJ9_floorMod_7cf53_15 : decode cJ9_floorMod_7cf53 15 = .ok (.iload_n 1, 1) := by decide +kernel
theorem dJ9_floorMod_7cf53_16 : decode cJ9_floorMod_7cf53 16 = .ok (.iadd, 1) := by decide +kernel
theorem dJ9_floorMod_7cf53_17 : decode cJ9_floorMod_7cf53 17 = .ok (.ireturn, 1) := by decide +kernel
theorem dJ9_floorMod_7cf53_18 : decode cJ9_floorMod_7cf53 18 = .ok (.iload_n 2, 1) := by decide +kernel
theorem dJ9_floorMod_7cf53_19 : decode cJ9_floorMod_7cf53 19 = .ok (.ireturn, 1) := by decide +kernel
theorem dJ9_max_7cf53_0 : decode cJ9_max_7cf53 0 = .ok (.iload_n 0, 1) := by decide +kernel
theorem dJ9_max_7cf53_1 : decode cJ9_max_7cf53 1 = .ok (.iload_n 1, 1) := by decide +kernel
theorem dJ9_max_7cf53_2 : decode cJ9_max_7cf53 2 = .ok (.if_icmp .lt 7, 3) := by decide +kernel
theorem dJ9_max_7cf53_5 : decode cJ9_max_7cf53 5 = .ok (.iload_n 0, 1) := by decide +kernel
theorem dJ9_max_7cf53_6 : decode cJ9_max_7cf53 6 = .ok (.goto 4, 3) := by decide +kernel
theorem dJ9_max_7cf53_9 : decode cJ9_max_7cf53 9 = .ok (.iload_n 1, 1) := by decide +kernel
theorem dJ9_max_7cf53_10 : decode cJ9_max_7cf53 10 = .ok (.ireturn, 1) := by decide +kernel
theorem dJ9_min_7cf53_0 : decode cJ9_min_7cf53 0 = .ok (.iload_n 0, 1) := by decide +kernel
theorem dJ9_min_7cf53_1 : decode cJ9_min_7cf53 1 = .ok (.iload_n 1, 1) := by decide +kernel
theorem dJ9_min_7cf53_2 : decode cJ9_min_7cf53 2 = .ok (.if_icmp .gt 7, 3) := by decide +kernel
theorem dJ9_min_7cf53_5 : decode cJ9_min_7cf53 5 = .ok (.iload_n 0, 1) := by decide +kernel
theorem dJ9_min_7cf53_6 : decode cJ9_min_7cf53 6 = .ok (.goto 4, 3) := by decide +kernel
theorem dJ9_min_7cf53_9 : decode cJ9_min_7cf53 9 = .ok (.iload_n 1, 1) := by decide +kernel
theorem dJ9_min_7cf53_10 : decode cJ9_min_7cf53 10 = .ok (.ireturn, 1) := by decide +kernel
theorem dJ7_fill_53178_0 : decode cJ7_fill_53178 0 = .ok (.iconst 0, 1) := by decide +kernel
theorem dJ7_fill_53178_1 : decode cJ7_fill_53178 1 = .ok (.istore_n 2, 1) := by decide +kernel
theorem dJ7_fill_53178_2 : decode cJ7_fill_53178 2 = .ok (.aload_n 0, 1) := by decide +kernel
theorem dJ7_fill_53178_3 : decode cJ7_fill_53178 3 = .ok (.arraylength, 1) := by decide +kernel
theorem dJ7_fill_53178_4 : decode cJ7_fill_53178 4 = .ok (.istore_n 3, 1) := by decide +kernel
theorem dJ7_fill_53178_5 : decode cJ7_fill_53178 5 = .ok (.iload_n 2, 1) := by decide +kernel
theorem dJ7_fill_53178_6 : decode cJ7_fill_53178 6 = .ok (.iload_n 3, 1) := by decide +kernel
theorem dJ7_fill_53178_7 : decode cJ7_fill_53178 7 = .ok (.if_icmp .ge 13, 3) := by decide +kernel
theorem dJ7_fill_53178_10 : decode cJ7_fill_53178 10 = .ok (.aload_n 0, 1) := by decide +kernel
theorem dJ7_fill_53178_11 : decode cJ7_fill_53178 11 = .ok (.iload_n 2, 1) := by decide +kernel
theorem dJ7_fill_53178_12 : decode cJ7_fill_53178 12 = .ok (.iload_n 1, 1) := by decide +kernel
theorem dJ7_fill_53178_13 : decode cJ7_fill_53178 13 = .ok (.iastore, 1) := by decide +kernel
theorem dJ7_fill_53178_14 : decode cJ7_fill_53178 14 = .ok (.iinc 2 1, 3) := by decide +kernel
theorem dJ7_fill_53178_17 : decode cJ7_fill_53178 17 = .ok (.goto (-12), 3) := by decide +kernel
theorem dJ7_fill_53178_20 : decode cJ7_fill_53178 20 = .ok (.return_, 1) := by decide +kernel
theorem dX0_init_0 : decode cX0_init 0 = .ok (.aload_n 0, 1) := by decide +kernel
theorem dX0_init_1 : decode cX0_init 1 = .ok (.invokespecial 3, 3) := by decide +kernel
theorem dX0_init_4 : decode cX0_init 4 = .ok (.aload_n 0, 1) := by decide +kernel
theorem dX0_init_5 : decode cX0_init 5 = .ok (.bipush 60, 2) := by decide +kernel
theorem dX0_init_7 : decode cX0_init 7 = .ok (.newarray .char, 2) := by decide +kernel
theorem dX0_init_9 : decode cX0_init 9 = .ok (.putfield 9, 3) := by decide +kernel
theorem dX0_init_12 : decode cX0_init 12 = .ok (.aload_n 0, 1) := by decide +kernel
theorem dX0_init_13 : decode cX0_init 13 = .ok (.bipush 10, 2) := by decide +kernel
theorem dX0_init_15 : decode cX0_init 15 = .ok (.newarray .int, 2) := by decide +kernel
theorem dX0_init_17 : decode cX0_init 17 = .ok (.putfield 15, 3) := by decide +kernel
theorem dX0_init_20 : decode cX0_init 20 = .ok (.aload_n 0, 1) := by decide +kernel
theorem dX0_init_21 : decode cX0_init 21 = .ok (.bipush 10, 2) := by decide +kernel
theorem dX0_init_23 : decode cX0_init 23 = .ok (.newarray .int, 2) := by decide +kernel
theorem dX0_init_25 : decode cX0_init 25 = .ok (.putfield 19, 3) := by decide +kernel
theorem dX0_init_28 : decode cX0_init 28 = .ok (.aload_n 0, 1) := by decide +kernel
theorem dX0_init_29 : decode cX0_init 29 = .ok (.bipush 10, 2) := by decide +kernel
theorem dX0_init_31 : decode cX0_init 31 = .ok (.newarray .int, 2) := by decide +kernel
theorem dX0_init_33 : decode cX0_init 33 = .ok (.putfield 22, 3) := by decide +kernel
theorem dX0_init_36 : decode cX0_init 36 = .ok (.return_, 1) := by decide +kernel
theorem dX0_append_0 : decode cX0_append 0 = .ok (.aload_n 0, 1) := by decide +kernel
theorem dX0_append_1 : decode cX0_append 1 = .ok (.getfield 25, 3) := by decide +kernel
theorem dX0_append_4 : decode cX0_append 4 = .ok (.bipush 60, 2) := by decide +kernel
theorem dX0_append_6 : decode cX0_append 6 = .ok (.if_icmp .ge 23, 3) := by decide +kernel
theorem dX0_append_9 : decode cX0_append 9 = .ok (.aload_n 0, 1) := by decide +kernel
theorem dX0_append_10 : decode cX0_append 10 = .ok (.getfield 9, 3) := by decide +kernel
theorem dX0_append_13 : decode cX0_append 13 = .ok (.aload_n 0, 1) := by decide +kernel
theorem dX0_append_14 : decode cX0_append 14 = .ok (.getfield 25, 3) := by decide +kernel
theorem dX0_append_17 : decode cX0_append 17 = .ok (.iload_n 1, 1) := by decide +kernel
theorem dX0_append_18 : decode cX0_append 18 = .ok (.castore, 1) := by decide +kernel
theorem dX0_append_19 : decode cX0_append 19 = .ok (.aload_n 0, 1) := by decide +kernel
theorem dX0_append_20 : decode cX0_append 20 = .ok (.dup, 1) := by decide +kernel
theorem dX0_append_21 : decode cX0_append 21 = .ok (.getfield 25, 3) := by decide +kernel
theorem dX0_append_24 : decode cX0_append 24 = .ok (.iconst 1, 1) := by decide +kernel
theorem dX0_append_25 : decode cX0_append 25 = .ok (.iadd, 1) := by decide +kernel
theorem dX0_append_26 : decode cX0_append 26 = .ok (.putfield 25, 3) := by decide +kernel
theorem dX0_append_29 : decode cX0_append 29 = .ok (.return_, 1) := by decide +kernel
theorem dX0_findFault_0 : decode cX0_findFault 0 = .ok (.aload_n 0, 1) := by decide +kernel
theorem dX0_findFault_1 : decode cX0_findFault 1 = .ok (.iconst 0, 1) := by decide +kernel
theorem dX0_findFault_2 : decode cX0_findFault 2 = .ok (.putfield 29, 3) := by decide +kernel
theorem dX0_findFault_5 : decode cX0_findFault 5 = .ok (.aload_n 0, 1) := by decide +kernel
theorem dX0_findFault_6 : decode cX0_findFault 6 = .ok (.iconst 0, 1) := by decide +kernel
theorem dX0_findFault_7 : decode cX0_findFault 7 = .ok (.putfield 32, 3) := by decide +kernel
theorem dX0_findFault_10 : decode cX0_findFault 10 = .ok (.iconst 0, 1) := by decide +kernel
theorem dX0_findFault_11 : decode cX0_findFault 11 = .ok (.istore_n 1, 1) := by decide +kernel
theorem dX0_findFault_12 : decode cX0_findFault 12 = .ok (.iload_n 1, 1) := by decide +kernel
theorem dX0_findFault_13 : decode cX0_findFault 13 = .ok (.aload_n 0, 1) := by decide +kernel
theorem dX0_findFault_14 : decode cX0_findFault 14 = .ok (.getfield 25, 3) := by decide +kernel
theorem dX0_findFault_17 : decode cX0_findFault 17 = .ok (.if_icmp .ge 24, 3) := by decide +kernel
theorem dX0_findFault_20 : decode cX0_findFault 20 = .ok (.aload_n 0, 1) := by decide +kernel
theorem dX0_findFault_21 : decode cX0_findFault 21 = .ok (.aload_n 0, 1) := by decide +kernel
theorem dX0_findFault_22 : decode cX0_findFault 22 = .ok (.getfield 9, 3) := by decide +kernel
theorem dX0_findFault_25 : decode cX0_findFault 25 = .ok (.iload_n 1, 1) := by decide +kernel
theorem dX0_findFault_26 : decode cX0_findFault 26 = .ok (.caload, 1) := by decide +kernel
theorem dX0_findFault_27 : decode cX0_findFault 27 = .ok (.invokevirtual 35, 3) := by decide +kernel
theorem dX0_findFault_30 : decode cX0_findFault 30 = .ok (.ifCond .ne 5, 3) := by decide +kernel
theorem dX0_findFault_33 : decode cX0_findFault 33 = .ok (.iload_n 1, 1) := by decide +kernel
theorem dX0_findFault_34 : decode cX0_findFault 34 = .ok (.ireturn, 1) := by decide +kernel
theorem dX0_findFault_35 : decode cX0_findFault 35 = .ok (.iinc 1 1, 3) := by decide +kernel
theorem dX0_findFault_38 : decode cX0_findFault 38 = .ok (.goto (-26), 3) := by decide +kernel
theorem dX0_findFault_41 : decode cX0_findFault 41 = .ok (.aload_n 0, 1) := by decide +kernel
theorem dX0_findFault_42 : decode cX0_findFault 42 = .ok (.getfield 32, 3) := by decide +kernel
theorem dX0_findFault_45 : decode cX0_findFault 45 = .ok (.iconst 5, 1) := by decide +kernel
theorem dX0_findFault_46 : decode cX0_findFault 46 = .ok (.if_icmp .ne 8, 3) := by decide +kernel
theorem dX0_findFault_49 : decode cX0_findFault 49 = .ok (.ldc 39, 2) := by decide +kernel
theorem dX0_findFault_51 : decode cX0_findFault 51 = .ok (.goto 7, 3) := by decide +kernel
theorem dX0_findFault_54 : decode cX0_findFault 54 = .ok (.aload_n 0, 1) := by decide +kernel
theorem dX0_findFault_55 : decode cX0_findFault 55 = .ok (.getfield 25, 3) := by decide +kernel
theorem dX0_findFault_58 : decode cX0_findFault 58 = .ok (.ireturn, 1) := by decide +kernel
theorem dX0_accepts_0 : decode cX0_accepts 0 = .ok (.aload_n 0, 1) := by decide +kernel
theorem dX0_accepts_1 : decode cX0_accepts 1 = .ok (.getfield 32, 3) := by decide +kernel
theorem dX0_accepts_4 : decode cX0_accepts 4 = .ok (.tableswitch 94 0 4 #[36, 42, 62, 68, 88], 36) := by decide +kernel
theorem dX0_accepts_40 : decode cX0_accepts 40 = .ok (.aload_n 0, 1) := by decide +kernel
theorem dX0_accepts_41 : decode cX0_accepts 41 = .ok (.iload_n 1, 1) := by decide +kernel
theorem dX0_accepts_42 : decode cX0_accepts 42 = .ok (.invokevirtual 40, 3) := by decide +kernel
theorem dX0_accepts_45 : decode cX0_accepts 45 = .ok (.ireturn, 1) := by decide +kernel
theorem dX0_accepts_46 : decode cX0_accepts 46 = .ok (.iload_n 1, 1) := by decide +kernel
theorem dX0_accepts_47 : decode cX0_accepts 47 = .ok (.bipush 43, 2) := by decide +kernel
theorem dX0_accepts_49 : decode cX0_accepts 49 = .ok (.if_icmp .ne 11, 3) := by decide +kernel
theorem dX0_accepts_52 : decode cX0_accepts 52 = .ok (.aload_n 0, 1) := by decide +kernel
theorem dX0_accepts_53 : decode cX0_accepts 53 = .ok (.iconst 2, 1) := by decide +kernel
theorem dX0_accepts_54 : decode cX0_accepts 54 = .ok (.invokevirtual 43, 3) := by decide +kernel
theorem dX0_accepts_57 : decode cX0_accepts 57 = .ok (.goto 8, 3) := by decide +kernel
theorem dX0_accepts_60 : decode cX0_accepts 60 = .ok (.aload_n 0, 1) := by decide +kernel
theorem dX0_accepts_61 : decode cX0_accepts 61 = .ok (.iload_n 1, 1) := by decide +kernel
theorem dX0_accepts_62 : decode cX0_accepts 62 = .ok (.invokevirtual 47, 3) := by decide +kernel
theorem dX0_accepts_65 : decode cX0_accepts 65 = .ok (.ireturn, 1) := by decide +kernel
theorem dX0_accepts_66 : decode cX0_accepts 66 = .ok (.aload_n 0, 1) := by decide +kernel
theorem dX0_accepts_67 : decode cX0_accepts 67 = .ok (.iload_n 1, 1) := by decide +kernel
theorem dX0_accepts_68 : decode cX0_accepts 68 = .ok (.invokevirtual 50, 3) := by decide +kernel
theorem dX0_accepts_71 : decode cX0_accepts 71 = .ok (.ireturn, 1) := by decide +kernel
theorem dX0_accepts_72 : decode cX0_accepts 72 = .ok (.iload_n 1, 1) := by decide +kernel
theorem dX0_accepts_73 : decode cX0_accepts 73 = .ok (.bipush 120, 2) := by decide +kernel
theorem dX0_accepts_75 : decode cX0_accepts 75 = .ok (.if_icmp .ne 15, 3) := by decide +kernel
theorem dX0_accepts_78 : decode cX0_accepts 78 = .ok (.aload_n 0, 1) := by decide +kernel
theorem dX0_accepts_79 : decode cX0_accepts 79 = .ok (.iconst 4, 1) := by decide +kernel
theorem dX0_accepts_80 : decode cX0_accepts 80 = .ok (.invokevirtual 43, 3) := by decide +kernel
theorem dX0_accepts_83 : decode cX0_accepts 83 = .ok (.ifCond .eq 7, 3) := by decide +kernel
theorem dX0_accepts_86 : decode cX0_accepts 86 = .ok (.iconst 1, 1) := by decide +kernel
theorem dX0_accepts_87 : decode cX0_accepts 87 = .ok (.goto 4, 3) := by decide +kernel
theorem dX0_accepts_90 : decode cX0_accepts 90 = .ok (.iconst 0, 1) := by decide +kernel
theorem dX0_accepts_91 : decode cX0_accepts 91 = .ok (.ireturn, 1) := by decide +kernel
theorem dX0_accepts_92 : decode cX0_accepts 92 = .ok (.aload_n 0, 1) := by decide +kernel
theorem dX0_accepts_93 : decode cX0_accepts 93 = .ok (.iload_n 1, 1) := by decide +kernel
theorem dX0_accepts_94 : decode cX0_accepts 94 = .ok (.invokevirtual 53, 3) := by decide +kernel
theorem dX0_accepts_97 : decode cX0_accepts 97 = .ok (.ireturn, 1) := by decide +kernel
theorem dX0_accepts_98 : decode cX0_accepts 98 = .ok (.iload_n 1, 1) := by decide +kernel
theorem dX0_accepts_99 : decode cX0_accepts 99 = .ok (.bipush 59, 2) := by decide +kernel
theorem dX0_accepts_101 : decode cX0_accepts 101 = .ok (.if_icmp .ne 15, 3) := by decide +kernel
theorem dX0_accepts_104 : decode cX0_accepts 104 = .ok (.aload_n 0, 1) := by decide +kernel
theorem dX0_accepts_105 : decode cX0_accepts 105 = .ok (.iconst 0, 1) := by decide +kernel
theorem dX0_accepts_106 : decode cX0_accepts 106 = .ok (.invokevirtual 43, 3) := by decide +kernel
theorem dX0_accepts_109 : decode cX0_accepts 109 = .ok (.ifCond .eq 7, 3) := by decide +kernel
theorem dX0_accepts_112 : decode cX0_accepts 112 = .ok (.iconst 1, 1) := by decide +kernel
theorem dX0_accepts_113 : decode cX0_accepts 113 = .ok (.goto 4, 3) := by decide +kernel
theorem dX0_accepts_116 : decode cX0_accepts 116 = .ok (.iconst 0, 1) := by decide +kernel
theorem dX0_accepts_117 : decode cX0_accepts 117 = .ok (.ireturn, 1) := by decide +kernel
theorem dX0_moveTo_0 : decode cX0_moveTo 0 = .ok (.aload_n 0, 1) := by decide +kernel
theorem dX0_moveTo_1 : decode cX0_moveTo 1 = .ok (.iload_n 1, 1) := by decide +kernel
theorem dX0_moveTo_2 : decode cX0_moveTo 2 = .ok (.putfield 32, 3) := by decide +kernel
theorem dX0_moveTo_5 : decode cX0_moveTo 5 = .ok (.iconst 1, 1) := by decide +kernel
theorem dX0_moveTo_6 : decode cX0_moveTo 6 = .ok (.ireturn, 1) := by decide +kernel
theorem dX0_acceptsDayBegin_0 : decode cX0_acceptsDayBegin 0 = .ok (.iload_n 1, 1) := by decide +kernel
theorem dX0_acceptsDayBegin_1 : decode cX0_acceptsDayBegin 1 = .ok (.bipush 48, 2) := by decide +kernel
theorem dX0_acceptsDayBegin_3 : decode cX0_acceptsDayBegin 3 = .ok (.if_icmp .lt 9, 3) := by decide +kernel
theorem dX0_acceptsDayBegin_6 : decode cX0_acceptsDayBegin 6 = .ok (.iload_n 1, 1) := by decide +kernel
theorem dX0_acceptsDayBegin_7 : decode cX0_acceptsDayBegin 7 = .ok (.bipush 57, 2) := by decide +kernel
theorem dX0_acceptsDayBegin_9 : decode cX0_acceptsDayBegin 9 = .ok (.if_icmp .le 5, 3) := by decide +kernel
theorem dX0_acceptsDayBegin_12 : decode cX0_acceptsDayBegin 12 = .ok (.iconst 0, 1) := by decide +kernel
theorem dX0_acceptsDayBegin_13 : decode cX0_acceptsDayBegin 13 = .ok (.ireturn, 1) := by decide +kernel
theorem dX0_acceptsDayBegin_14 : decode cX0_acceptsDayBegin 14 = .ok (.aload_n 0, 1) := by decide +kernel
theorem dX0_acceptsDayBegin_15 : decode cX0_acceptsDayBegin 15 = .ok (.iload_n 1, 1) := by decide +kernel
theorem dX0_acceptsDayBegin_16 : decode cX0_acceptsDayBegin 16 = .ok (.bipush 48, 2) := by decide +kernel
theorem dX0_acceptsDayBegin_18 : decode cX0_acceptsDayBegin 18 = .ok (.isub, 1) := by decide +kernel
theorem dX0_acceptsDayBegin_19 : decode cX0_acceptsDayBegin 19 = .ok (.putfield 56, 3) := by decide +kernel
theorem dX0_acceptsDayBegin_22 : decode cX0_acceptsDayBegin 22 = .ok (.aload_n 0, 1) := by decide +kernel
theorem dX0_acceptsDayBegin_23 : decode cX0_acceptsDayBegin 23 = .ok (.iconst 1, 1) := by decide +kernel
theorem dX0_acceptsDayBegin_24 : decode cX0_acceptsDayBegin 24 = .ok (.invokevirtual 43, 3) := by decide +kernel
theorem dX0_acceptsDayBegin_27 : decode cX0_acceptsDayBegin 27 = .ok (.ireturn, 1) := by decide +kernel
theorem dX0_acceptsDayDigit_0 : decode cX0_acceptsDayDigit 0 = .ok (.iload_n 1, 1) := by decide +kernel
theorem dX0_acceptsDayDigit_1 : decode cX0_acceptsDayDigit 1 = .ok (.bipush 48, 2) := by decide +kernel
theorem dX0_acceptsDayDigit_3 : decode cX0_acceptsDayDigit 3 = .ok (.if_icmp .lt 16, 3) := by decide +kernel
theorem dX0_acceptsDayDigit_6 : decode cX0_acceptsDayDigit 6 = .ok (.iload_n 1, 1) := by decide +kernel
theorem dX0_acceptsDayDigit_7 : decode cX0_acceptsDayDigit 7 = .ok (.bipush 57, 2) := by decide +kernel
theorem dX0_acceptsDayDigit_9 : decode cX0_acceptsDayDigit 9 = .ok (.if_icmp .gt 10, 3) := by decide +kernel
theorem dX0_acceptsDayDigit_12 : decode cX0_acceptsDayDigit 12 = .ok (.aload_n 0, 1) := by decide +kernel
theorem dX0_acceptsDayDigit_13 : decode cX0_acceptsDayDigit 13 = .ok (.getfield 56, 3) := by decide +kernel
theorem dX0_acceptsDayDigit_16 : decode cX0_acceptsDayDigit 16 = .ok (.ifCond .ne 5, 3) := by decide +kernel
theorem dX0_acceptsDayDigit_19 : decode cX0_acceptsDayDigit 19 = .ok (.iconst 0, 1) := by decide +kernel
theorem dX0_acceptsDayDigit_20 : decode cX0_acceptsDayDigit 20 = .ok (.ireturn, 1) := by decide +kernel
theorem dX0_acceptsDayDigit_21 : decode cX0_acceptsDayDigit 21 = .ok (.aload_n 0, 1) := by decide +kernel
theorem dX0_acceptsDayDigit_22 : decode cX0_acceptsDayDigit 22 = .ok (.getfield 56, 3) := by decide +kernel
theorem dX0_acceptsDayDigit_25 : decode cX0_acceptsDayDigit 25 = .ok (.bipush 10, 2) := by decide +kernel
theorem dX0_acceptsDayDigit_27 : decode cX0_acceptsDayDigit 27 = .ok (.imul, 1) := by decide +kernel
theorem dX0_acceptsDayDigit_28 : decode cX0_acceptsDayDigit 28 = .ok (.iload_n 1, 1) := by decide +kernel
theorem dX0_acceptsDayDigit_29 : decode cX0_acceptsDayDigit 29 = .ok (.bipush 48, 2) := by decide +kernel
theorem dX0_acceptsDayDigit_31 : decode cX0_acceptsDayDigit 31 = .ok (.isub, 1) := by decide +kernel
theorem dX0_acceptsDayDigit_32 : decode cX0_acceptsDayDigit 32 = .ok (.iadd, 1) := by decide +kernel
theorem dX0_acceptsDayDigit_33 : decode cX0_acceptsDayDigit 33 = .ok (.istore_n 2, 1) := by decide +kernel
theorem dX0_acceptsDayDigit_34 : decode cX0_acceptsDayDigit 34 = .ok (.iload_n 2, 1) := by decide +kernel
theorem dX0_acceptsDayDigit_35 : decode cX0_acceptsDayDigit 35 = .ok (.sipush 899, 3) := by decide +kernel
theorem dX0_acceptsDayDigit_38 : decode cX0_acceptsDayDigit 38 = .ok (.if_icmp .le 5, 3) := by decide +kernel
theorem dX0_acceptsDayDigit_41 : decode cX0_acceptsDayDigit 41 = .ok (.iconst 0, 1) := by decide +kernel
theorem dX0_acceptsDayDigit_42 : decode cX0_acceptsDayDigit 42 = .ok (.ireturn, 1) := by decide +kernel
theorem dX0_acceptsDayDigit_43 : decode cX0_acceptsDayDigit 43 = .ok (.aload_n 0, 1) := by decide +kernel
theorem dX0_acceptsDayDigit_44 : decode cX0_acceptsDayDigit 44 = .ok (.iload_n 2, 1) := by decide +kernel
theorem dX0_acceptsDayDigit_45 : decode cX0_acceptsDayDigit 45 = .ok (.putfield 56, 3) := by decide +kernel
theorem dX0_acceptsDayDigit_48 : decode cX0_acceptsDayDigit 48 = .ok (.iconst 1, 1) := by decide +kernel
theorem dX0_acceptsDayDigit_49 : decode cX0_acceptsDayDigit 49 = .ok (.ireturn, 1) := by decide +kernel
theorem dX0_acceptsNights_0 : decode cX0_acceptsNights 0 = .ok (.iload_n 1, 1) := by decide +kernel
theorem dX0_acceptsNights_1 : decode cX0_acceptsNights 1 = .ok (.bipush 49, 2) := by decide +kernel
theorem dX0_acceptsNights_3 : decode cX0_acceptsNights 3 = .ok (.if_icmp .lt 9, 3) := by decide +kernel
theorem dX0_acceptsNights_6 : decode cX0_acceptsNights 6 = .ok (.iload_n 1, 1) := by decide +kernel
theorem dX0_acceptsNights_7 : decode cX0_acceptsNights 7 = .ok (.bipush 57, 2) := by decide +kernel
theorem dX0_acceptsNights_9 : decode cX0_acceptsNights 9 = .ok (.if_icmp .le 5, 3) := by decide +kernel
theorem dX0_acceptsNights_12 : decode cX0_acceptsNights 12 = .ok (.iconst 0, 1) := by decide +kernel
theorem dX0_acceptsNights_13 : decode cX0_acceptsNights 13 = .ok (.ireturn, 1) := by decide +kernel
theorem dX0_acceptsNights_14 : decode cX0_acceptsNights 14 = .ok (.aload_n 0, 1) := by decide +kernel
theorem dX0_acceptsNights_15 : decode cX0_acceptsNights 15 = .ok (.iload_n 1, 1) := by decide +kernel
theorem dX0_acceptsNights_16 : decode cX0_acceptsNights 16 = .ok (.bipush 48, 2) := by decide +kernel
theorem dX0_acceptsNights_18 : decode cX0_acceptsNights 18 = .ok (.isub, 1) := by decide +kernel
theorem dX0_acceptsNights_19 : decode cX0_acceptsNights 19 = .ok (.putfield 59, 3) := by decide +kernel
theorem dX0_acceptsNights_22 : decode cX0_acceptsNights 22 = .ok (.aload_n 0, 1) := by decide +kernel
theorem dX0_acceptsNights_23 : decode cX0_acceptsNights 23 = .ok (.iconst 3, 1) := by decide +kernel
theorem dX0_acceptsNights_24 : decode cX0_acceptsNights 24 = .ok (.invokevirtual 43, 3) := by decide +kernel
theorem dX0_acceptsNights_27 : decode cX0_acceptsNights 27 = .ok (.ireturn, 1) := by decide +kernel
theorem dX0_acceptsPersons_0 : decode cX0_acceptsPersons 0 = .ok (.iload_n 1, 1) := by decide +kernel
theorem dX0_acceptsPersons_1 : decode cX0_acceptsPersons 1 = .ok (.bipush 49, 2) := by decide +kernel
theorem dX0_acceptsPersons_3 : decode cX0_acceptsPersons 3 = .ok (.if_icmp .lt 18, 3) := by decide +kernel
theorem dX0_acceptsPersons_6 : decode cX0_acceptsPersons 6 = .ok (.iload_n 1, 1) := by decide +kernel
theorem dX0_acceptsPersons_7 : decode cX0_acceptsPersons 7 = .ok (.bipush 57, 2) := by decide +kernel
theorem dX0_acceptsPersons_9 : decode cX0_acceptsPersons 9 = .ok (.if_icmp .gt 12, 3) := by decide +kernel
theorem dX0_acceptsPersons_12 : decode cX0_acceptsPersons 12 = .ok (.aload_n 0, 1) := by decide +kernel
theorem dX0_acceptsPersons_13 : decode cX0_acceptsPersons 13 = .ok (.getfield 29, 3) := by decide +kernel
theorem dX0_acceptsPersons_16 : decode cX0_acceptsPersons 16 = .ok (.bipush 10, 2) := by decide +kernel
theorem dX0_acceptsPersons_18 : decode cX0_acceptsPersons 18 = .ok (.if_icmp .lt 5, 3) := by decide +kernel
theorem dX0_acceptsPersons_21 : decode cX0_acceptsPersons 21 = .ok (.iconst 0, 1) := by decide +kernel
theorem dX0_acceptsPersons_22 : decode cX0_acceptsPersons 22 = .ok (.ireturn, 1) := by decide +kernel
theorem dX0_acceptsPersons_23 : decode cX0_acceptsPersons 23 = .ok (.aload_n 0, 1) := by decide +kernel
theorem dX0_acceptsPersons_24 : decode cX0_acceptsPersons 24 = .ok (.getfield 15, 3) := by decide +kernel
theorem dX0_acceptsPersons_27 : decode cX0_acceptsPersons 27 = .ok (.aload_n 0, 1) := by decide +kernel
theorem dX0_acceptsPersons_28 : decode cX0_acceptsPersons 28 = .ok (.getfield 29, 3) := by decide +kernel
theorem dX0_acceptsPersons_31 : decode cX0_acceptsPersons 31 = .ok (.aload_n 0, 1) := by decide +kernel
theorem dX0_acceptsPersons_32 : decode cX0_acceptsPersons 32 = .ok (.getfield 56, 3) := by decide +kernel
theorem dX0_acceptsPersons_35 : decode cX0_acceptsPersons 35 = .ok (.iastore, 1) := by decide +kernel
theorem dX0_acceptsPersons_36 : decode cX0_acceptsPersons 36 = .ok (.aload_n 0, 1) := by decide +kernel
theorem dX0_acceptsPersons_37 : decode cX0_acceptsPersons 37 = .ok (.getfield 19, 3) := by decide +kernel
theorem dX0_acceptsPersons_40 : decode cX0_acceptsPersons 40 = .ok (.aload_n 0, 1) := by decide +kernel
theorem dX0_acceptsPersons_41 : decode cX0_acceptsPersons 41 = .ok (.getfield 29, 3) := by decide +kernel
theorem dX0_acceptsPersons_44 : decode cX0_acceptsPersons 44 = .ok (.aload_n 0, 1) := by decide +kernel
theorem dX0_acceptsPersons_45 : decode cX0_acceptsPersons 45 = .ok (.getfield 59, 3) := by decide +kernel
theorem dX0_acceptsPersons_48 : decode cX0_acceptsPersons 48 = .ok (.iastore, 1) := by decide +kernel
theorem dX0_acceptsPersons_49 : decode cX0_acceptsPersons 49 = .ok (.aload_n 0, 1) := by decide +kernel
theorem dX0_acceptsPersons_50 : decode cX0_acceptsPersons 50 = .ok (.getfield 22, 3) := by decide +kernel
theorem dX0_acceptsPersons_53 : decode cX0_acceptsPersons 53 = .ok (.aload_n 0, 1) := by decide +kernel
theorem dX0_acceptsPersons_54 : decode cX0_acceptsPersons 54 = .ok (.getfield 29, 3) := by decide +kernel
theorem dX0_acceptsPersons_57 : decode cX0_acceptsPersons 57 = .ok (.iload_n 1, 1) := by decide +kernel
theorem dX0_acceptsPersons_58 : decode cX0_acceptsPersons 58 = .ok (.bipush 48, 2) := by decide +kernel
theorem dX0_acceptsPersons_60 : decode cX0_acceptsPersons 60 = .ok (.isub, 1) := by decide +kernel
theorem dX0_acceptsPersons_61 : decode cX0_acceptsPersons 61 = .ok (.iastore, 1) := by decide +kernel
theorem dX0_acceptsPersons_62 : decode cX0_acceptsPersons 62 = .ok (.aload_n 0, 1) := by decide +kernel
theorem dX0_acceptsPersons_63 : decode cX0_acceptsPersons 63 = .ok (.dup, 1) := by decide +kernel
theorem dX0_acceptsPersons_64 : decode cX0_acceptsPersons 64 = .ok (.getfield 29, 3) := by decide +kernel
theorem dX0_acceptsPersons_67 : decode cX0_acceptsPersons 67 = .ok (.iconst 1, 1) := by decide +kernel
theorem dX0_acceptsPersons_68 : decode cX0_acceptsPersons 68 = .ok (.iadd, 1) := by decide +kernel
theorem dX0_acceptsPersons_69 : decode cX0_acceptsPersons 69 = .ok (.putfield 29, 3) := by decide +kernel
theorem dX0_acceptsPersons_72 : decode cX0_acceptsPersons 72 = .ok (.aload_n 0, 1) := by decide +kernel
theorem dX0_acceptsPersons_73 : decode cX0_acceptsPersons 73 = .ok (.iconst 5, 1) := by decide +kernel
theorem dX0_acceptsPersons_74 : decode cX0_acceptsPersons 74 = .ok (.invokevirtual 43, 3) := by decide +kernel
theorem dX0_acceptsPersons_77 : decode cX0_acceptsPersons 77 = .ok (.ireturn, 1) := by decide +kernel
theorem dX1_init_0 : decode cX1_init 0 = .ok (.aload_n 0, 1) := by decide +kernel
theorem dX1_init_1 : decode cX1_init 1 = .ok (.invokespecial 3, 3) := by decide +kernel
theorem dX1_init_4 : decode cX1_init 4 = .ok (.aload_n 0, 1) := by decide +kernel
theorem dX1_init_5 : decode cX1_init 5 = .ok (.bipush 80, 2) := by decide +kernel
theorem dX1_init_7 : decode cX1_init 7 = .ok (.newarray .int, 2) := by decide +kernel
theorem dX1_init_9 : decode cX1_init 9 = .ok (.putfield 9, 3) := by decide +kernel
theorem dX1_init_12 : decode cX1_init 12 = .ok (.aload_n 0, 1) := by decide +kernel
theorem dX1_init_13 : decode cX1_init 13 = .ok (.bipush 80, 2) := by decide +kernel
theorem dX1_init_15 : decode cX1_init 15 = .ok (.newarray .int, 2) := by decide +kernel
theorem dX1_init_17 : decode cX1_init 17 = .ok (.putfield 15, 3) := by decide +kernel
theorem dX1_init_20 : decode cX1_init 20 = .ok (.aload_n 0, 1) := by decide +kernel
theorem dX1_init_21 : decode cX1_init 21 = .ok (.bipush 80, 2) := by decide +kernel
theorem dX1_init_23 : decode cX1_init 23 = .ok (.newarray .int, 2) := by decide +kernel
theorem dX1_init_25 : decode cX1_init 25 = .ok (.putfield 18, 3) := by decide +kernel
theorem dX1_init_28 : decode cX1_init 28 = .ok (.aload_n 0, 1) := by decide +kernel
theorem dX1_init_29 : decode cX1_init 29 = .ok (.bipush 80, 2) := by decide +kernel
theorem dX1_init_31 : decode cX1_init 31 = .ok (.newarray .int, 2) := by decide +kernel
theorem dX1_init_33 : decode cX1_init 33 = .ok (.putfield 21, 3) := by decide +kernel
theorem dX1_init_36 : decode cX1_init 36 = .ok (.aload_n 0, 1) := by decide +kernel
theorem dX1_init_37 : decode cX1_init 37 = .ok (.bipush 80, 2) := by decide +kernel
theorem dX1_init_39 : decode cX1_init 39 = .ok (.newarray .int, 2) := by decide +kernel
theorem dX1_init_41 : decode cX1_init 41 = .ok (.putfield 24, 3) := by decide +kernel
theorem dX1_init_44 : decode cX1_init 44 = .ok (.aload_n 0, 1) := by decide +kernel
theorem dX1_init_45 : decode cX1_init 45 = .ok (.bipush 80, 2) := by decide +kernel
theorem dX1_init_47 : decode cX1_init 47 = .ok (.newarray .int, 2) := by decide +kernel
theorem dX1_init_49 : decode cX1_init 49 = .ok (.putfield 27, 3) := by decide +kernel
theorem dX1_init_52 : decode cX1_init 52 = .ok (.aload_n 0, 1) := by decide +kernel
theorem dX1_init_53 : decode cX1_init 53 = .ok (.bipush 80, 2) := by decide +kernel
theorem dX1_init_55 : decode cX1_init 55 = .ok (.newarray .int, 2) := by decide +kernel
theorem dX1_init_57 : decode cX1_init 57 = .ok (.putfield 30, 3) := by decide +kernel
theorem dX1_init_60 : decode cX1_init 60 = .ok (.return_, 1) := by decide +kernel
theorem dX1_copyFrom_0 : decode cX1_copyFrom 0 = .ok (.aload_n 0, 1) := by decide +kernel
theorem dX1_copyFrom_1 : decode cX1_copyFrom 1 = .ok (.aload_n 1, 1) := by decide +kernel
theorem dX1_copyFrom_2 : decode cX1_copyFrom 2 = .ok (.getfield 33, 3) := by decide +kernel
theorem dX1_copyFrom_5 : decode cX1_copyFrom 5 = .ok (.putfield 33, 3) := by decide +kernel
theorem dX1_copyFrom_8 : decode cX1_copyFrom 8 = .ok (.aload_n 1, 1) := by decide +kernel
theorem dX1_copyFrom_9 : decode cX1_copyFrom 9 = .ok (.getfield 9, 3) := by decide +kernel
theorem dX1_copyFrom_12 : decode cX1_copyFrom 12 = .ok (.iconst 0, 1) := by decide +kernel
theorem dX1_copyFrom_13 : decode cX1_copyFrom 13 = .ok (.aload_n 0, 1) := by decide +kernel
theorem dX1_copyFrom_14 : decode cX1_copyFrom 14 = .ok (.getfield 9, 3) := by decide +kernel
theorem dX1_copyFrom_17 : decode cX1_copyFrom 17 = .ok (.iconst 0, 1) := by decide +kernel
theorem dX1_copyFrom_18 : decode cX1_copyFrom 18 = .ok (.aload_n 0, 1) := by decide +kernel
theorem dX1_copyFrom_19 : decode cX1_copyFrom 19 = .ok (.getfield 33, 3) := by decide +kernel
theorem dX1_copyFrom_22 : decode cX1_copyFrom 22 = .ok (.invokestatic 37, 3) := by decide +kernel
theorem dX1_copyFrom_25 : decode cX1_copyFrom 25 = .ok (.aload_n 1, 1) := by decide +kernel
theorem dX1_copyFrom_26 : decode cX1_copyFrom 26 = .ok (.getfield 15, 3) := by decide +kernel
theorem dX1_copyFrom_29 : decode cX1_copyFrom 29 = .ok (.iconst 0, 1) := by decide +kernel
theorem dX1_copyFrom_30 : decode cX1_copyFrom 30 = .ok (.aload_n 0, 1) := by decide +kernel
theorem dX1_copyFrom_31 : decode cX1_copyFrom 31 = .ok (.getfield 15, 3) := by decide +kernel
theorem dX1_copyFrom_34 : decode cX1_copyFrom 34 = .ok (.iconst 0, 1) := by decide +kernel
theorem dX1_copyFrom_35 : decode cX1_copyFrom 35 = .ok (.aload_n 0, 1) := by decide +kernel
theorem dX1_copyFrom_36 : decode cX1_copyFrom 36 = .ok (.getfield 33, 3) := by decide +kernel
theorem dX1_copyFrom_39 : decode cX1_copyFrom 39 = .ok (.invokestatic 37, 3) := by decide +kernel
theorem dX1_copyFrom_42 : decode cX1_copyFrom 42 = .ok (.aload_n 1, 1) := by decide +kernel
theorem dX1_copyFrom_43 : decode cX1_copyFrom 43 = .ok (.getfield 18, 3) := by decide +kernel
theorem dX1_copyFrom_46 : decode cX1_copyFrom 46 = .ok (.iconst 0, 1) := by decide +kernel
theorem dX1_copyFrom_47 : decode cX1_copyFrom 47 = .ok (.aload_n 0, 1) := by decide +kernel
theorem dX1_copyFrom_48 : decode cX1_copyFrom 48 = .ok (.getfield 18, 3) := by decide +kernel
theorem dX1_copyFrom_51 : decode cX1_copyFrom 51 = .ok (.iconst 0, 1) := by decide +kernel
theorem dX1_copyFrom_52 : decode cX1_copyFrom 52 = .ok (.aload_n 0, 1) := by decide +kernel
theorem dX1_copyFrom_53 : decode cX1_copyFrom 53 = .ok (.getfield 33, 3) := by decide +kernel
theorem dX1_copyFrom_56 : decode cX1_copyFrom 56 = .ok (.invokestatic 37, 3) := by decide +kernel
theorem dX1_copyFrom_59 : decode cX1_copyFrom 59 = .ok (.aload_n 1, 1) := by decide +kernel
theorem dX1_copyFrom_60 : decode cX1_copyFrom 60 = .ok (.getfield 21, 3) := by decide +kernel
theorem dX1_copyFrom_63 : decode cX1_copyFrom 63 = .ok (.iconst 0, 1) := by decide +kernel
theorem dX1_copyFrom_64 : decode cX1_copyFrom 64 = .ok (.aload_n 0, 1) := by decide +kernel
theorem dX1_copyFrom_65 : decode cX1_copyFrom 65 = .ok (.getfield 21, 3) := by decide +kernel
theorem dX1_copyFrom_68 : decode cX1_copyFrom 68 = .ok (.iconst 0, 1) := by decide +kernel
theorem dX1_copyFrom_69 : decode cX1_copyFrom 69 = .ok (.aload_n 0, 1) := by decide +kernel
theorem dX1_copyFrom_70 : decode cX1_copyFrom 70 = .ok (.getfield 33, 3) := by decide +kernel
theorem dX1_copyFrom_73 : decode cX1_copyFrom 73 = .ok (.invokestatic 37, 3) := by decide +kernel
theorem dX1_copyFrom_76 : decode cX1_copyFrom 76 = .ok (.aload_n 1, 1) := by decide +kernel
theorem dX1_copyFrom_77 : decode cX1_copyFrom 77 = .ok (.getfield 24, 3) := by decide +kernel
theorem dX1_copyFrom_80 : decode cX1_copyFrom 80 = .ok (.iconst 0, 1) := by decide +kernel
theorem dX1_copyFrom_81 : decode cX1_copyFrom 81 = .ok (.aload_n 0, 1) := by decide +kernel
theorem dX1_copyFrom_82 : decode cX1_copyFrom 82 = .ok (.getfield 24, 3) := by decide +kernel
theorem dX1_copyFrom_85 : decode cX1_copyFrom 85 = .ok (.iconst 0, 1) := by decide +kernel
theorem dX1_copyFrom_86 : decode cX1_copyFrom 86 = .ok (.aload_n 0, 1) := by decide +kernel
theorem dX1_copyFrom_87 : decode cX1_copyFrom 87 = .ok (.getfield 33, 3) := by decide +kernel
theorem dX1_copyFrom_90 : decode cX1_copyFrom 90 = .ok (.invokestatic 37, 3) := by decide +kernel
theorem dX1_copyFrom_93 : decode cX1_copyFrom 93 = .ok (.aload_n 1, 1) := by decide +kernel
theorem dX1_copyFrom_94 : decode cX1_copyFrom 94 = .ok (.getfield 27, 3) := by decide +kernel
theorem dX1_copyFrom_97 : decode cX1_copyFrom 97 = .ok (.iconst 0, 1) := by decide +kernel
theorem dX1_copyFrom_98 : decode cX1_copyFrom 98 = .ok (.aload_n 0, 1) := by decide +kernel
theorem dX1_copyFrom_99 : decode cX1_copyFrom 99 = .ok (.getfield 27, 3) := by decide +kernel
theorem dX1_copyFrom_102 : decode cX1_copyFrom 102 = .ok (.iconst 0, 1) := by decide +kernel
theorem dX1_copyFrom_103 : decode cX1_copyFrom 103 = .ok (.aload_n 0, 1) := by decide +kernel
theorem dX1_copyFrom_104 : decode cX1_copyFrom 104 = .ok (.getfield 33, 3) := by decide +kernel
theorem dX1_copyFrom_107 : decode cX1_copyFrom 107 = .ok (.invokestatic 37, 3) := by decide +kernel
theorem dX1_copyFrom_110 : decode cX1_copyFrom 110 = .ok (.aload_n 1, 1) := by decide +kernel
theorem dX1_copyFrom_111 : decode cX1_copyFrom 111 = .ok (.getfield 30, 3) := by decide +kernel
theorem dX1_copyFrom_114 : decode cX1_copyFrom 114 = .ok (.iconst 0, 1) := by decide +kernel
theorem dX1_copyFrom_115 : decode cX1_copyFrom 115 = .ok (.aload_n 0, 1) := by decide +kernel
theorem dX1_copyFrom_116 : decode cX1_copyFrom 116 = .ok (.getfield 30, 3) := by decide +kernel
theorem dX1_copyFrom_119 : decode cX1_copyFrom 119 = .ok (.iconst 0, 1) := by decide +kernel
theorem dX1_copyFrom_120 : decode cX1_copyFrom 120 = .ok (.aload_n 0, 1) := by decide +kernel
theorem dX1_copyFrom_121 : decode cX1_copyFrom 121 = .ok (.getfield 33, 3) := by decide +kernel
theorem dX1_copyFrom_124 : decode cX1_copyFrom 124 = .ok (.invokestatic 37, 3) := by decide +kernel
theorem dX1_copyFrom_127 : decode cX1_copyFrom 127 = .ok (.return_, 1) := by decide +kernel
theorem dX1_add_0 : decode cX1_add 0 = .ok (.aload_n 0, 1) := by decide +kernel
theorem dX1_add_1 : decode cX1_add 1 = .ok (.getfield 33, 3) := by decide +kernel
theorem dX1_add_4 : decode cX1_add 4 = .ok (.bipush 80, 2) := by decide +kernel
theorem dX1_add_6 : decode cX1_add 6 = .ok (.if_icmp .lt 6, 3) := by decide +kernel
theorem dX1_add_9 : decode cX1_add 9 = .ok (.ldc 43, 2) := by decide +kernel
theorem dX1_add_11 : decode cX1_add 11 = .ok (.ireturn, 1) := by decide +kernel
theorem dX1_add_12 : decode cX1_add 12 = .ok (.aload_n 0, 1) := by decide +kernel
theorem dX1_add_13 : decode cX1_add 13 = .ok (.getfield 9, 3) := by decide +kernel
theorem dX1_add_16 : decode cX1_add 16 = .ok (.aload_n 0, 1) := by decide +kernel
theorem dX1_add_17 : decode cX1_add 17 = .ok (.getfield 33, 3) := by decide +kernel
theorem dX1_add_20 : decode cX1_add 20 = .ok (.iconst 0, 1) := by decide +kernel
theorem dX1_add_21 : decode cX1_add 21 = .ok (.iastore, 1) := by decide +kernel
theorem dX1_add_22 : decode cX1_add 22 = .ok (.aload_n 0, 1) := by decide +kernel
theorem dX1_add_23 : decode cX1_add 23 = .ok (.getfield 15, 3) := by decide +kernel
theorem dX1_add_26 : decode cX1_add 26 = .ok (.aload_n 0, 1) := by decide +kernel
theorem dX1_add_27 : decode cX1_add 27 = .ok (.getfield 33, 3) := by decide +kernel
theorem dX1_add_30 : decode cX1_add 30 = .ok (.iload_n 1, 1) := by decide +kernel
theorem dX1_add_31 : decode cX1_add 31 = .ok (.iastore, 1) := by decide +kernel
theorem dX1_add_32 : decode cX1_add 32 = .ok (.aload_n 0, 1) := by decide +kernel
theorem dX1_add_33 : decode cX1_add 33 = .ok (.getfield 18, 3) := by decide +kernel
theorem dX1_add_36 : decode cX1_add 36 = .ok (.aload_n 0, 1) := by decide +kernel
theorem dX1_add_37 : decode cX1_add 37 = .ok (.getfield 33, 3) := by decide +kernel
theorem dX1_add_40 : decode cX1_add 40 = .ok (.iload_n 2, 1) := by decide +kernel
theorem dX1_add_41 : decode cX1_add 41 = .ok (.iastore, 1) := by decide +kernel
theorem dX1_add_42 : decode cX1_add 42 = .ok (.aload_n 0, 1) := by decide +kernel
theorem dX1_add_43 : decode cX1_add 43 = .ok (.getfield 21, 3) := by decide +kernel
theorem dX1_add_46 : decode cX1_add 46 = .ok (.aload_n 0, 1) := by decide +kernel
theorem dX1_add_47 : decode cX1_add 47 = .ok (.getfield 33, 3) := by decide +kernel
theorem dX1_add_50 : decode cX1_add 50 = .ok (.iload_n 3, 1) := by decide +kernel
theorem dX1_add_51 : decode cX1_add 51 = .ok (.iastore, 1) := by decide +kernel
theorem dX1_add_52 : decode cX1_add 52 = .ok (.aload_n 0, 1) := by decide +kernel
theorem dX1_add_53 : decode cX1_add 53 = .ok (.getfield 24, 3) := by decide +kernel
theorem dX1_add_56 : decode cX1_add 56 = .ok (.aload_n 0, 1) := by decide +kernel
theorem dX1_add_57 : decode cX1_add 57 = .ok (.getfield 33, 3) := by decide +kernel
theorem dX1_add_60 : decode cX1_add 60 = .ok (.iconst 0, 1) := by decide +kernel
theorem dX1_add_61 : decode cX1_add 61 = .ok (.iastore, 1) := by decide +kernel
theorem dX1_add_62 : decode cX1_add 62 = .ok (.aload_n 0, 1) := by decide +kernel
theorem dX1_add_63 : decode cX1_add 63 = .ok (.getfield 27, 3) := by decide +kernel
theorem dX1_add_66 : decode cX1_add 66 = .ok (.aload_n 0, 1) := by decide +kernel
theorem dX1_add_67 : decode cX1_add 67 = .ok (.getfield 33, 3) := by decide +kernel
theorem dX1_add_70 : decode cX1_add 70 = .ok (.iload 4, 2) := by decide +kernel
theorem dX1_add_72 : decode cX1_add 72 = .ok (.iastore, 1) := by decide +kernel
theorem dX1_add_73 : decode cX1_add 73 = .ok (.aload_n 0, 1) := by decide +kernel
theorem dX1_add_74 : decode cX1_add 74 = .ok (.getfield 30, 3) := by decide +kernel
theorem dX1_add_77 : decode cX1_add 77 = .ok (.aload_n 0, 1) := by decide +kernel
theorem dX1_add_78 : decode cX1_add 78 = .ok (.getfield 33, 3) := by decide +kernel
theorem dX1_add_81 : decode cX1_add 81 = .ok (.iconst (-1), 1) := by decide +kernel
theorem dX1_add_82 : decode cX1_add 82 = .ok (.iastore, 1) := by decide +kernel
theorem dX1_add_83 : decode cX1_add 83 = .ok (.aload_n 0, 1) := by decide +kernel
theorem dX1_add_84 : decode cX1_add 84 = .ok (.dup, 1) := by decide +kernel
theorem dX1_add_85 : decode cX1_add 85 = .ok (.getfield 33, 3) := by decide +kernel
theorem dX1_add_88 : decode cX1_add 88 = .ok (.iconst 1, 1) := by decide +kernel
theorem dX1_add_89 : decode cX1_add 89 = .ok (.iadd, 1) := by decide +kernel
theorem dX1_add_90 : decode cX1_add 90 = .ok (.putfield 33, 3) := by decide +kernel
theorem dX1_add_93 : decode cX1_add 93 = .ok (.aload_n 0, 1) := by decide +kernel
theorem dX1_add_94 : decode cX1_add 94 = .ok (.getfield 33, 3) := by decide +kernel
theorem dX1_add_97 : decode cX1_add 97 = .ok (.iconst 1, 1) := by decide +kernel
theorem dX1_add_98 : decode cX1_add 98 = .ok (.isub, 1) := by decide +kernel
theorem dX1_add_99 : decode cX1_add 99 = .ok (.ireturn, 1) := by decide +kernel
theorem dX1_knows_0 : decode cX1_knows 0 = .ok (.iload_n 1, 1) := by decide +kernel
theorem dX1_knows_1 : decode cX1_knows 1 = .ok (.ifCond .lt 15, 3) := by decide +kernel
theorem dX1_knows_4 : decode cX1_knows 4 = .ok (.iload_n 1, 1) := by decide +kernel
theorem dX1_knows_5 : decode cX1_knows 5 = .ok (.aload_n 0, 1) := by decide +kernel
theorem dX1_knows_6 : decode cX1_knows 6 = .ok (.getfield 33, 3) := by decide +kernel
theorem dX1_knows_9 : decode cX1_knows 9 = .ok (.if_icmp .ge 7, 3) := by decide +kernel
theorem dX1_knows_12 : decode cX1_knows 12 = .ok (.iconst 1, 1) := by decide +kernel
theorem dX1_knows_13 : decode cX1_knows 13 = .ok (.goto 4, 3) := by decide +kernel
theorem dX1_knows_16 : decode cX1_knows 16 = .ok (.iconst 0, 1) := by decide +kernel
theorem dX1_knows_17 : decode cX1_knows 17 = .ok (.ireturn, 1) := by decide +kernel
theorem dX1_end_0 : decode cX1_end 0 = .ok (.aload_n 0, 1) := by decide +kernel
theorem dX1_end_1 : decode cX1_end 1 = .ok (.getfield 15, 3) := by decide +kernel
theorem dX1_end_4 : decode cX1_end 4 = .ok (.iload_n 1, 1) := by decide +kernel
theorem dX1_end_5 : decode cX1_end 5 = .ok (.iaload, 1) := by decide +kernel
theorem dX1_end_6 : decode cX1_end 6 = .ok (.aload_n 0, 1) := by decide +kernel
theorem dX1_end_7 : decode cX1_end 7 = .ok (.getfield 18, 3) := by decide +kernel
theorem dX1_end_10 : decode cX1_end 10 = .ok (.iload_n 1, 1) := by decide +kernel
theorem dX1_end_11 : decode cX1_end 11 = .ok (.iaload, 1) := by decide +kernel
theorem dX1_end_12 : decode cX1_end 12 = .ok (.iadd, 1) := by decide +kernel
theorem dX1_end_13 : decode cX1_end 13 = .ok (.ireturn, 1) := by decide +kernel
theorem dX1_holdsBeds_0 : decode cX1_holdsBeds 0 = .ok (.aload_n 0, 1) := by decide +kernel
theorem dX1_holdsBeds_1 : decode cX1_holdsBeds 1 = .ok (.getfield 9, 3) := by decide +kernel
theorem dX1_holdsBeds_4 : decode cX1_holdsBeds 4 = .ok (.iload_n 1, 1) := by decide +kernel
theorem dX1_holdsBeds_5 : decode cX1_holdsBeds 5 = .ok (.iaload, 1) := by decide +kernel
theorem dX1_holdsBeds_6 : decode cX1_holdsBeds 6 = .ok (.ifCond .eq 13, 3) := by decide +kernel
theorem dX1_holdsBeds_9 : decode cX1_holdsBeds 9 = .ok (.aload_n 0, 1) := by decide +kernel
theorem dX1_holdsBeds_10 : decode cX1_holdsBeds 10 = .ok (.getfield 9, 3) := by decide +kernel
theorem dX1_holdsBeds_13 : decode cX1_holdsBeds 13 = .ok (.iload_n 1, 1) := by decide +kernel
theorem dX1_holdsBeds_14 : decode cX1_holdsBeds 14 = .ok (.iaload, 1) := by decide +kernel
theorem dX1_holdsBeds_15 : decode cX1_holdsBeds 15 = .ok (.iconst 1, 1) := by decide +kernel
theorem dX1_holdsBeds_16 : decode cX1_holdsBeds 16 = .ok (.if_icmp .ne 7, 3) := by decide +kernel
theorem dX1_holdsBeds_19 : decode cX1_holdsBeds 19 = .ok (.iconst 1, 1) := by decide +kernel
theorem dX1_holdsBeds_20 : decode cX1_holdsBeds 20 = .ok (.goto 4, 3) := by decide +kernel
theorem dX1_holdsBeds_23 : decode cX1_holdsBeds 23 = .ok (.iconst 0, 1) := by decide +kernel
theorem dX1_holdsBeds_24 : decode cX1_holdsBeds 24 = .ok (.ireturn, 1) := by decide +kernel
theorem dX1_isOver_0 : decode cX1_isOver 0 = .ok (.aload_n 0, 1) := by decide +kernel
theorem dX1_isOver_1 : decode cX1_isOver 1 = .ok (.getfield 9, 3) := by decide +kernel
theorem dX1_isOver_4 : decode cX1_isOver 4 = .ok (.iload_n 1, 1) := by decide +kernel
theorem dX1_isOver_5 : decode cX1_isOver 5 = .ok (.iaload, 1) := by decide +kernel
theorem dX1_isOver_6 : decode cX1_isOver 6 = .ok (.iconst 1, 1) := by decide +kernel
theorem dX1_isOver_7 : decode cX1_isOver 7 = .ok (.if_icmp .ne 16, 3) := by decide +kernel
theorem dX1_isOver_10 : decode cX1_isOver 10 = .ok (.aload_n 0, 1) := by decide +kernel
theorem dX1_isOver_11 : decode cX1_isOver 11 = .ok (.iload_n 1, 1) := by decide +kernel
theorem dX1_isOver_12 : decode cX1_isOver 12 = .ok (.invokevirtual 44, 3) := by decide +kernel
theorem dX1_isOver_15 : decode cX1_isOver 15 = .ok (.iload_n 2, 1) := by decide +kernel
theorem dX1_isOver_16 : decode cX1_isOver 16 = .ok (.if_icmp .gt 7, 3) := by decide +kernel
theorem dX1_isOver_19 : decode cX1_isOver 19 = .ok (.iconst 1, 1) := by decide +kernel
theorem dX1_isOver_20 : decode cX1_isOver 20 = .ok (.goto 4, 3) := by decide +kernel
theorem dX1_isOver_23 : decode cX1_isOver 23 = .ok (.iconst 0, 1) := by decide +kernel
theorem dX1_isOver_24 : decode cX1_isOver 24 = .ok (.ireturn, 1) := by decide +kernel
theorem dX1_bedsTakenIn_0 : decode cX1_bedsTakenIn 0 = .ok (.aload_n 0, 1) := by decide +kernel
theorem dX1_bedsTakenIn_1 : decode cX1_bedsTakenIn 1 = .ok (.iload_n 1, 1) := by decide +kernel
theorem dX1_bedsTakenIn_2 : decode cX1_bedsTakenIn 2 = .ok (.iload_n 1, 1) := by decide +kernel
theorem dX1_bedsTakenIn_3 : decode cX1_bedsTakenIn 3 = .ok (.invokevirtual 48, 3) := by decide +kernel
theorem dX1_bedsTakenIn_6 : decode cX1_bedsTakenIn 6 = .ok (.ireturn, 1) := by decide +kernel
theorem dX1_bedsTakenFrom_0 : decode cX1_bedsTakenFrom 0 = .ok (.iconst 0, 1) := by decide +kernel
theorem dX1_bedsTakenFrom_1 : decode cX1_bedsTakenFrom 1 = .ok (.istore_n 3, 1) := by decide +kernel
theorem dX1_bedsTakenFrom_2 : decode cX1_bedsTakenFrom 2 = .ok (.iconst 0, 1) := by decide +kernel
theorem dX1_bedsTakenFrom_3 : decode cX1_bedsTakenFrom 3 = .ok (.istore 4, 2) := by decide +kernel
theorem dX1_bedsTakenFrom_5 : decode cX1_bedsTakenFrom 5 = .ok (.iload 4, 2) := by decide +kernel
theorem dX1_bedsTakenFrom_7 : decode cX1_bedsTakenFrom 7 = .ok (.aload_n 0, 1) := by decide +kernel
theorem dX1_bedsTakenFrom_8 : decode cX1_bedsTakenFrom 8 = .ok (.getfield 33, 3) := by decide +kernel
theorem dX1_bedsTakenFrom_11 : decode cX1_bedsTakenFrom 11 = .ok (.if_icmp .ge 62, 3) := by decide +kernel
theorem dX1_bedsTakenFrom_14 : decode cX1_bedsTakenFrom 14 = .ok (.aload_n 0, 1) := by decide +kernel
theorem dX1_bedsTakenFrom_15 : decode cX1_bedsTakenFrom 15 = .ok (.iload 4, 2) := by decide +kernel
theorem dX1_bedsTakenFrom_17 : decode cX1_bedsTakenFrom 17 = .ok (.invokevirtual 44, 3) := by decide +kernel
theorem dX1_bedsTakenFrom_20 : decode cX1_bedsTakenFrom 20 = .ok (.iload_n 2, 1) := by decide +kernel
theorem dX1_bedsTakenFrom_21 : decode cX1_bedsTakenFrom 21 = .ok (.iconst 1, 1) := by decide +kernel
theorem dX1_bedsTakenFrom_22 : decode cX1_bedsTakenFrom 22 = .ok (.iadd, 1) := by decide +kernel
theorem dX1_bedsTakenFrom_23 : decode cX1_bedsTakenFrom 23 = .ok (.invokestatic 52, 3) := by decide +kernel
theorem dX1_bedsTakenFrom_26 : decode cX1_bedsTakenFrom 26 = .ok (.aload_n 0, 1) := by decide +kernel
theorem dX1_bedsTakenFrom_27 : decode cX1_bedsTakenFrom 27 = .ok (.getfield 15, 3) := by decide +kernel
theorem dX1_bedsTakenFrom_30 : decode cX1_bedsTakenFrom 30 = .ok (.iload 4, 2) := by decide +kernel
theorem dX1_bedsTakenFrom_32 : decode cX1_bedsTakenFrom 32 = .ok (.iaload, 1) := by decide +kernel
theorem dX1_bedsTakenFrom_33 : decode cX1_bedsTakenFrom 33 = .ok (.iload_n 1, 1) := by decide +kernel
theorem dX1_bedsTakenFrom_34 : decode cX1_bedsTakenFrom 34 = .ok (.invokestatic 57, 3) := by decide +kernel
theorem dX1_bedsTakenFrom_37 : decode cX1_bedsTakenFrom 37 = .ok (.isub, 1) := by decide +kernel
theorem dX1_bedsTakenFrom_38 : decode cX1_bedsTakenFrom 38 = .ok (.istore 5, 2) := by decide +kernel
theorem dX1_bedsTakenFrom_40 : decode cX1_bedsTakenFrom 40 = .ok (.aload_n 0, 1) := by decide +kernel
theorem dX1_bedsTakenFrom_41 : decode cX1_bedsTakenFrom 41 = .ok (.iload 4, 2) := by decide +kernel
theorem dX1_bedsTakenFrom_43 : decode cX1_bedsTakenFrom 43 = .ok (.invokevirtual 60, 3) := by decide +kernel
theorem dX1_bedsTakenFrom_46 : decode cX1_bedsTakenFrom 46 = .ok (.ifCond .eq 21, 3) := by decide +kernel
theorem dX1_bedsTakenFrom_49 : decode cX1_bedsTakenFrom 49 = .ok (.iload 5, 2) := by decide +kernel
theorem dX1_bedsTakenFrom_51 : decode cX1_bedsTakenFrom 51 = .ok (.ifCond .le 16, 3) := by decide +kernel
theorem dX1_bedsTakenFrom_54 : decode cX1_bedsTakenFrom 54 = .ok (.iload_n 3, 1) := by decide +kernel
theorem dX1_bedsTakenFrom_55 : decode cX1_bedsTakenFrom 55 = .ok (.iload 5, 2) := by decide +kernel
theorem dX1_bedsTakenFrom_57 : decode cX1_bedsTakenFrom 57 = .ok (.aload_n 0, 1) := by decide +kernel
theorem dX1_bedsTakenFrom_58 : decode cX1_bedsTakenFrom 58 = .ok (.getfield 21, 3) := by decide +kernel
theorem dX1_bedsTakenFrom_61 : decode cX1_bedsTakenFrom 61 = .ok (.iload 4, 2) := by decide +kernel
theorem dX1_bedsTakenFrom_63 : decode cX1_bedsTakenFrom 63 = .ok (.iaload, 1) := by decide +kernel
theorem dX1_bedsTakenFrom_64 : decode cX1_bedsTakenFrom 64 = .ok (.imul, 1) := by decide +kernel
theorem dX1_bedsTakenFrom_65 : decode cX1_bedsTakenFrom 65 = .ok (.iadd, 1) := by decide +kernel
theorem dX1_bedsTakenFrom_66 : decode cX1_bedsTakenFrom 66 = .ok (.istore_n 3, 1) := by decide +kernel
theorem dX1_bedsTakenFrom_67 : decode cX1_bedsTakenFrom 67 = .ok (.iinc 4 1, 3) := by decide +kernel
theorem dX1_bedsTakenFrom_70 : decode cX1_bedsTakenFrom 70 = .ok (.goto (-65), 3) := by decide +kernel
theorem dX1_bedsTakenFrom_73 : decode cX1_bedsTakenFrom 73 = .ok (.iload_n 3, 1) := by decide +kernel
theorem dX1_bedsTakenFrom_74 : decode cX1_bedsTakenFrom 74 = .ok (.ireturn, 1) := by decide +kernel
theorem dX1_fillBedsTaken_0 : decode cX1_fillBedsTaken 0 = .ok (.aload_n 1, 1) := by decide +kernel
theorem dX1_fillBedsTaken_1 : decode cX1_fillBedsTaken 1 = .ok (.iconst 0, 1) := by decide +kernel
theorem dX1_fillBedsTaken_2 : decode cX1_fillBedsTaken 2 = .ok (.invokestatic 64, 3) := by decide +kernel
theorem dX1_fillBedsTaken_5 : decode cX1_fillBedsTaken 5 = .ok (.iconst 0, 1) := by decide +kernel
theorem dX1_fillBedsTaken_6 : decode cX1_fillBedsTaken 6 = .ok (.istore_n 2, 1) := by decide +kernel
theorem dX1_fillBedsTaken_7 : decode cX1_fillBedsTaken 7 = .ok (.iload_n 2, 1) := by decide +kernel
theorem dX1_fillBedsTaken_8 : decode cX1_fillBedsTaken 8 = .ok (.aload_n 0, 1) := by decide +kernel
theorem dX1_fillBedsTaken_9 : decode cX1_fillBedsTaken 9 = .ok (.getfield 33, 3) := by decide +kernel
theorem dX1_fillBedsTaken_12 : decode cX1_fillBedsTaken 12 = .ok (.if_icmp .ge 64, 3) := by decide +kernel
theorem dX1_fillBedsTaken_15 : decode cX1_fillBedsTaken 15 = .ok (.aload_n 0, 1) := by decide +kernel
theorem dX1_fillBedsTaken_16 : decode cX1_fillBedsTaken 16 = .ok (.iload_n 2, 1) := by decide +kernel
theorem dX1_fillBedsTaken_17 : decode cX1_fillBedsTaken 17 = .ok (.invokevirtual 60, 3) := by decide +kernel
theorem dX1_fillBedsTaken_20 : decode cX1_fillBedsTaken 20 = .ok (.ifCond .ne 6, 3) := by decide +kernel
theorem dX1_fillBedsTaken_23 : decode cX1_fillBedsTaken 23 = .ok (.goto 47, 3) := by decide +kernel
theorem dX1_fillBedsTaken_26 : decode cX1_fillBedsTaken 26 = .ok (.iconst 0, 1) := by decide +kernel
theorem dX1_fillBedsTaken_27 : decode cX1_fillBedsTaken 27 = .ok (.aload_n 0, 1) := by decide +kernel
theorem dX1_fillBedsTaken_28 : decode cX1_fillBedsTaken 28 = .ok (.getfield 15, 3) := by decide +kernel
theorem dX1_fillBedsTaken_31 : decode cX1_fillBedsTaken 31 = .ok (.iload_n 2, 1) := by decide +kernel
theorem dX1_fillBedsTaken_32 : decode cX1_fillBedsTaken 32 = .ok (.iaload, 1) := by decide +kernel
theorem dX1_fillBedsTaken_33 : decode cX1_fillBedsTaken 33 = .ok (.invokestatic 57, 3) := by decide +kernel
theorem dX1_fillBedsTaken_36 : decode cX1_fillBedsTaken 36 = .ok (.istore_n 3, 1) := by decide +kernel
theorem dX1_fillBedsTaken_37 : decode cX1_fillBedsTaken 37 = .ok (.iload_n 3, 1) := by decide +kernel
theorem dX1_fillBedsTaken_38 : decode cX1_fillBedsTaken 38 = .ok (.aload_n 0, 1) := by decide +kernel
theorem dX1_fillBedsTaken_39 : decode cX1_fillBedsTaken 39 = .ok (.iload_n 2, 1) := by decide +kernel
theorem dX1_fillBedsTaken_40 : decode cX1_fillBedsTaken 40 = .ok (.invokevirtual 44, 3) := by decide +kernel
theorem dX1_fillBedsTaken_43 : decode cX1_fillBedsTaken 43 = .ok (.if_icmp .ge 27, 3) := by decide +kernel
theorem dX1_fillBedsTaken_46 : decode cX1_fillBedsTaken 46 = .ok (.iload_n 3, 1) := by decide +kernel
theorem dX1_fillBedsTaken_47 : decode cX1_fillBedsTaken 47 = .ok (.aload_n 1, 1) := by decide +kernel
theorem dX1_fillBedsTaken_48 : decode cX1_fillBedsTaken 48 = .ok (.arraylength, 1) := by decide +kernel
theorem dX1_fillBedsTaken_49 : decode cX1_fillBedsTaken 49 = .ok (.if_icmp .ge 21, 3) := by decide +kernel
theorem dX1_fillBedsTaken_52 : decode cX1_fillBedsTaken 52 = .ok (.aload_n 1, 1) := by decide +kernel
theorem dX1_fillBedsTaken_53 : decode cX1_fillBedsTaken 53 = .ok (.iload_n 3, 1) := by decide +kernel
theorem dX1_fillBedsTaken_54 : decode cX1_fillBedsTaken 54 = .ok (.dup2, 1) := by decide +kernel
theorem dX1_fillBedsTaken_55 : decode cX1_fillBedsTaken 55 = .ok (.iaload, 1) := by decide +kernel
theorem dX1_fillBedsTaken_56 : decode cX1_fillBedsTaken 56 = .ok (.aload_n 0, 1) := by decide +kernel
theorem dX1_fillBedsTaken_57 : decode cX1_fillBedsTaken 57 = .ok (.getfield 21, 3) := by decide +kernel
theorem dX1_fillBedsTaken_60 : decode cX1_fillBedsTaken 60 = .ok (.iload_n 2, 1) := by decide +kernel
theorem dX1_fillBedsTaken_61 : decode cX1_fillBedsTaken 61 = .ok (.iaload, 1) := by decide +kernel
theorem dX1_fillBedsTaken_62 : decode cX1_fillBedsTaken 62 = .ok (.iadd, 1) := by decide +kernel
theorem dX1_fillBedsTaken_63 : decode cX1_fillBedsTaken 63 = .ok (.iastore, 1) := by decide +kernel
theorem dX1_fillBedsTaken_64 : decode cX1_fillBedsTaken 64 = .ok (.iinc 3 1, 3) := by decide +kernel
theorem dX1_fillBedsTaken_67 : decode cX1_fillBedsTaken 67 = .ok (.goto (-30), 3) := by decide +kernel
theorem dX1_fillBedsTaken_70 : decode cX1_fillBedsTaken 70 = .ok (.iinc 2 1, 3) := by decide +kernel
theorem dX1_fillBedsTaken_73 : decode cX1_fillBedsTaken 73 = .ok (.goto (-66), 3) := by decide +kernel
theorem dX1_fillBedsTaken_76 : decode cX1_fillBedsTaken 76 = .ok (.return_, 1) := by decide +kernel
theorem dX1_arrivingOn_0 : decode cX1_arrivingOn 0 = .ok (.iconst 0, 1) := by decide +kernel
theorem dX1_arrivingOn_1 : decode cX1_arrivingOn 1 = .ok (.istore_n 2, 1) := by decide +kernel
theorem dX1_arrivingOn_2 : decode cX1_arrivingOn 2 = .ok (.iconst 0, 1) := by decide +kernel
theorem dX1_arrivingOn_3 : decode cX1_arrivingOn 3 = .ok (.istore_n 3, 1) := by decide +kernel
theorem dX1_arrivingOn_4 : decode cX1_arrivingOn 4 = .ok (.iload_n 3, 1) := by decide +kernel
theorem dX1_arrivingOn_5 : decode cX1_arrivingOn 5 = .ok (.aload_n 0, 1) := by decide +kernel
theorem dX1_arrivingOn_6 : decode cX1_arrivingOn 6 = .ok (.getfield 33, 3) := by decide +kernel
theorem dX1_arrivingOn_9 : decode cX1_arrivingOn 9 = .ok (.if_icmp .ge 31, 3) := by decide +kernel
theorem dX1_arrivingOn_12 : decode cX1_arrivingOn 12 = .ok (.aload_n 0, 1) := by decide +kernel
theorem dX1_arrivingOn_13 : decode cX1_arrivingOn 13 = .ok (.getfield 9, 3) := by decide +kernel
theorem dX1_arrivingOn_16 : decode cX1_arrivingOn 16 = .ok (.iload_n 3, 1) := by decide +kernel
theorem dX1_arrivingOn_17 : decode cX1_arrivingOn 17 = .ok (.iaload, 1) := by decide +kernel
theorem dX1_arrivingOn_18 : decode cX1_arrivingOn 18 = .ok (.ifCond .ne 16, 3) := by decide +kernel
theorem dX1_arrivingOn_21 : decode cX1_arrivingOn 21 = .ok (.aload_n 0, 1) := by decide +kernel
theorem dX1_arrivingOn_22 : decode cX1_arrivingOn 22 = .ok (.getfield 15, 3) := by decide +kernel
theorem dX1_arrivingOn_25 : decode cX1_arrivingOn 25 = .ok (.iload_n 3, 1) := by decide +kernel
theorem dX1_arrivingOn_26 : decode cX1_arrivingOn 26 = .ok (.iaload, 1) := by decide +kernel
theorem dX1_arrivingOn_27 : decode cX1_arrivingOn 27 = .ok (.iload_n 1, 1) := by decide +kernel
theorem dX1_arrivingOn_28 : decode cX1_arrivingOn 28 = .ok (.if_icmp .ne 6, 3) := by decide +kernel
theorem dX1_arrivingOn_31 : decode cX1_arrivingOn 31 = .ok (.iinc 2 1, 3) := by decide +kernel
theorem dX1_arrivingOn_34 : decode cX1_arrivingOn 34 = .ok (.iinc 3 1, 3) := by decide +kernel
theorem dX1_arrivingOn_37 : decode cX1_arrivingOn 37 = .ok (.goto (-33), 3) := by decide +kernel
theorem dX1_arrivingOn_40 : decode cX1_arrivingOn 40 = .ok (.iload_n 2, 1) := by decide +kernel
theorem dX1_arrivingOn_41 : decode cX1_arrivingOn 41 = .ok (.ireturn, 1) := by decide +kernel
theorem dX1_endingOn_0 : decode cX1_endingOn 0 = .ok (.iconst 0, 1) := by decide +kernel
theorem dX1_endingOn_1 : decode cX1_endingOn 1 = .ok (.istore_n 2, 1) := by decide +kernel
theorem dX1_endingOn_2 : decode cX1_endingOn 2 = .ok (.iconst 0, 1) := by decide +kernel
theorem dX1_endingOn_3 : decode cX1_endingOn 3 = .ok (.istore_n 3, 1) := by decide +kernel
theorem dX1_endingOn_4 : decode cX1_endingOn 4 = .ok (.iload_n 3, 1) := by decide +kernel
theorem dX1_endingOn_5 : decode cX1_endingOn 5 = .ok (.aload_n 0, 1) := by decide +kernel
theorem dX1_endingOn_6 : decode cX1_endingOn 6 = .ok (.getfield 33, 3) := by decide +kernel
theorem dX1_endingOn_9 : decode cX1_endingOn 9 = .ok (.if_icmp .ge 29, 3) := by decide +kernel
theorem dX1_endingOn_12 : decode cX1_endingOn 12 = .ok (.aload_n 0, 1) := by decide +kernel
theorem dX1_endingOn_13 : decode cX1_endingOn 13 = .ok (.iload_n 3, 1) := by decide +kernel
theorem dX1_endingOn_14 : decode cX1_endingOn 14 = .ok (.invokevirtual 60, 3) := by decide +kernel
theorem dX1_endingOn_17 : decode cX1_endingOn 17 = .ok (.ifCond .eq 15, 3) := by decide +kernel
theorem dX1_endingOn_20 : decode cX1_endingOn 20 = .ok (.aload_n 0, 1) := by decide +kernel
theorem dX1_endingOn_21 : decode cX1_endingOn 21 = .ok (.iload_n 3, 1) := by decide +kernel
theorem dX1_endingOn_22 : decode cX1_endingOn 22 = .ok (.invokevirtual 44, 3) := by decide +kernel
theorem dX1_endingOn_25 : decode cX1_endingOn 25 = .ok (.iload_n 1, 1) := by decide +kernel
theorem dX1_endingOn_26 : decode cX1_endingOn 26 = .ok (.if_icmp .ne 6, 3) := by decide +kernel
theorem dX1_endingOn_29 : decode cX1_endingOn 29 = .ok (.iinc 2 1, 3) := by decide +kernel
theorem dX1_endingOn_32 : decode cX1_endingOn 32 = .ok (.iinc 3 1, 3) := by decide +kernel
theorem dX1_endingOn_35 : decode cX1_endingOn 35 = .ok (.goto (-31), 3) := by decide +kernel
theorem dX1_endingOn_38 : decode cX1_endingOn 38 = .ok (.iload_n 2, 1) := by decide +kernel
theorem dX1_endingOn_39 : decode cX1_endingOn 39 = .ok (.ireturn, 1) := by decide +kernel
theorem dX1_howMany_0 : decode cX1_howMany 0 = .ok (.iconst 0, 1) := by decide +kernel
theorem dX1_howMany_1 : decode cX1_howMany 1 = .ok (.istore_n 2, 1) := by decide +kernel
theorem dX1_howMany_2 : decode cX1_howMany 2 = .ok (.iconst 0, 1) := by decide +kernel
theorem dX1_howMany_3 : decode cX1_howMany 3 = .ok (.istore_n 3, 1) := by decide +kernel
theorem dX1_howMany_4 : decode cX1_howMany 4 = .ok (.iload_n 3, 1) := by decide +kernel
theorem dX1_howMany_5 : decode cX1_howMany 5 = .ok (.aload_n 0, 1) := by decide +kernel
theorem dX1_howMany_6 : decode cX1_howMany 6 = .ok (.getfield 33, 3) := by decide +kernel
theorem dX1_howMany_9 : decode cX1_howMany 9 = .ok (.if_icmp .ge 22, 3) := by decide +kernel
theorem dX1_howMany_12 : decode cX1_howMany 12 = .ok (.aload_n 0, 1) := by decide +kernel
theorem dX1_howMany_13 : decode cX1_howMany 13 = .ok (.getfield 9, 3) := by decide +kernel
theorem dX1_howMany_16 : decode cX1_howMany 16 = .ok (.iload_n 3, 1) := by decide +kernel
theorem dX1_howMany_17 : decode cX1_howMany 17 = .ok (.iaload, 1) := by decide +kernel
theorem dX1_howMany_18 : decode cX1_howMany 18 = .ok (.iload_n 1, 1) := by decide +kernel
theorem dX1_howMany_19 : decode cX1_howMany 19 = .ok (.if_icmp .ne 6, 3) := by decide +kernel
theorem dX1_howMany_22 : decode cX1_howMany 22 = .ok (.iinc 2 1, 3) := by decide +kernel
theorem dX1_howMany_25 : decode cX1_howMany 25 = .ok (.iinc 3 1, 3) := by decide +kernel
theorem dX1_howMany_28 : decode cX1_howMany 28 = .ok (.goto (-24), 3) := by decide +kernel
theorem dX1_howMany_31 : decode cX1_howMany 31 = .ok (.iload_n 2, 1) := by decide +kernel
theorem dX1_howMany_32 : decode cX1_howMany 32 = .ok (.ireturn, 1) := by decide +kernel
theorem dX1_personsThere_0 : decode cX1_personsThere 0 = .ok (.iconst 0, 1) := by decide +kernel
theorem dX1_personsThere_1 : decode cX1_personsThere 1 = .ok (.istore_n 1, 1) := by decide +kernel
theorem dX1_personsThere_2 : decode cX1_personsThere 2 = .ok (.iconst 0, 1) := by decide +kernel
theorem dX1_personsThere_3 : decode cX1_personsThere 3 = .ok (.istore_n 2, 1) := by decide +kernel
theorem dX1_personsThere_4 : decode cX1_personsThere 4 = .ok (.iload_n 2, 1) := by decide +kernel
theorem dX1_personsThere_5 : decode cX1_personsThere 5 = .ok (.aload_n 0, 1) := by decide +kernel
theorem dX1_personsThere_6 : decode cX1_personsThere 6 = .ok (.getfield 33, 3) := by decide +kernel
theorem dX1_personsThere_9 : decode cX1_personsThere 9 = .ok (.if_icmp .ge 28, 3) := by decide +kernel
theorem dX1_personsThere_12 : decode cX1_personsThere 12 = .ok (.aload_n 0, 1) := by decide +kernel
theorem dX1_personsThere_13 : decode cX1_personsThere 13 = .ok (.getfield 9, 3) := by decide +kernel
theorem dX1_personsThere_16 : decode cX1_personsThere 16 = .ok (.iload_n 2, 1) := by decide +kernel
theorem dX1_personsThere_17 : decode cX1_personsThere 17 = .ok (.iaload, 1) := by decide +kernel
theorem dX1_personsThere_18 : decode cX1_personsThere 18 = .ok (.iconst 1, 1) := by decide +kernel
theorem dX1_personsThere_19 : decode cX1_personsThere 19 = .ok (.if_icmp .ne 12, 3) := by decide +kernel
theorem dX1_personsThere_22 : decode cX1_personsThere 22 = .ok (.iload_n 1, 1) := by decide +kernel
theorem dX1_personsThere_23 : decode cX1_personsThere 23 = .ok (.aload_n 0, 1) := by decide +kernel
theorem dX1_personsThere_24 : decode cX1_personsThere 24 = .ok (.getfield 21, 3) := by decide +kernel
theorem dX1_personsThere_27 : decode cX1_personsThere 27 = .ok (.iload_n 2, 1) := by decide +kernel
theorem dX1_personsThere_28 : decode cX1_personsThere 28 = .ok (.iaload, 1) := by decide +kernel
theorem dX1_personsThere_29 : decode cX1_personsThere 29 = .ok (.iadd, 1) := by decide +kernel
theorem dX1_personsThere_30 : decode cX1_personsThere 30 = .ok (.istore_n 1, 1) := by decide +kernel
theorem dX1_personsThere_31 : decode cX1_personsThere 31 = .ok (.iinc 2 1, 3) := by decide +kernel
theorem dX1_personsThere_34 : decode cX1_personsThere 34 = .ok (.goto (-30), 3) := by decide +kernel
theorem dX1_personsThere_37 : decode cX1_personsThere 37 = .ok (.iload_n 1, 1) := by decide +kernel
theorem dX1_personsThere_38 : decode cX1_personsThere 38 = .ok (.ireturn, 1) := by decide +kernel
theorem dX1_depositsHeld_0 : decode cX1_depositsHeld 0 = .ok (.iconst 0, 1) := by decide +kernel
theorem dX1_depositsHeld_1 : decode cX1_depositsHeld 1 = .ok (.istore_n 1, 1) := by decide +kernel
theorem dX1_depositsHeld_2 : decode cX1_depositsHeld 2 = .ok (.iconst 0, 1) := by decide +kernel
theorem dX1_depositsHeld_3 : decode cX1_depositsHeld 3 = .ok (.istore_n 2, 1) := by decide +kernel
theorem dX1_depositsHeld_4 : decode cX1_depositsHeld 4 = .ok (.iload_n 2, 1) := by decide +kernel
theorem dX1_depositsHeld_5 : decode cX1_depositsHeld 5 = .ok (.aload_n 0, 1) := by decide +kernel
theorem dX1_depositsHeld_6 : decode cX1_depositsHeld 6 = .ok (.getfield 33, 3) := by decide +kernel
theorem dX1_depositsHeld_9 : decode cX1_depositsHeld 9 = .ok (.if_icmp .ge 26, 3) := by decide +kernel
theorem dX1_depositsHeld_12 : decode cX1_depositsHeld 12 = .ok (.aload_n 0, 1) := by decide +kernel
theorem dX1_depositsHeld_13 : decode cX1_depositsHeld 13 = .ok (.iload_n 2, 1) := by decide +kernel
theorem dX1_depositsHeld_14 : decode cX1_depositsHeld 14 = .ok (.invokevirtual 60, 3) := by decide +kernel
theorem dX1_depositsHeld_17 : decode cX1_depositsHeld 17 = .ok (.ifCond .eq 12, 3) := by decide +kernel
theorem dX1_depositsHeld_20 : decode cX1_depositsHeld 20 = .ok (.iload_n 1, 1) := by decide +kernel
theorem dX1_depositsHeld_21 : decode cX1_depositsHeld 21 = .ok (.aload_n 0, 1) := by decide +kernel
theorem dX1_depositsHeld_22 : decode cX1_depositsHeld 22 = .ok (.getfield 27, 3) := by decide +kernel
theorem dX1_depositsHeld_25 : decode cX1_depositsHeld 25 = .ok (.iload_n 2, 1) := by decide +kernel
theorem dX1_depositsHeld_26 : decode cX1_depositsHeld 26 = .ok (.iaload, 1) := by decide +kernel
theorem dX1_depositsHeld_27 : decode cX1_depositsHeld 27 = .ok (.iadd, 1) := by decide +kernel
theorem dX1_depositsHeld_28 : decode cX1_depositsHeld 28 = .ok (.istore_n 1, 1) := by decide +kernel
theorem dX1_depositsHeld_29 : decode cX1_depositsHeld 29 = .ok (.iinc 2 1, 3) := by decide +kernel
theorem dX1_depositsHeld_32 : decode cX1_depositsHeld 32 = .ok (.goto (-28), 3) := by decide +kernel
theorem dX1_depositsHeld_35 : decode cX1_depositsHeld 35 = .ok (.iload_n 1, 1) := by decide +kernel
theorem dX1_depositsHeld_36 : decode cX1_depositsHeld 36 = .ok (.ireturn, 1) := by decide +kernel
theorem dX2_init_0 : decode cX2_init 0 = .ok (.aload_n 0, 1) := by decide +kernel
theorem dX2_init_1 : decode cX2_init 1 = .ok (.invokespecial 3, 3) := by decide +kernel
theorem dX2_init_4 : decode cX2_init 4 = .ok (.aload_n 0, 1) := by decide +kernel
theorem dX2_init_5 : decode cX2_init 5 = .ok (.iconst 4, 1) := by decide +kernel
theorem dX2_init_6 : decode cX2_init 6 = .ok (.anewarray 9, 3) := by decide +kernel
theorem dX2_init_9 : decode cX2_init 9 = .ok (.putfield 11, 3) := by decide +kernel
theorem dX2_init_12 : decode cX2_init 12 = .ok (.iconst 0, 1) := by decide +kernel
theorem dX2_init_13 : decode cX2_init 13 = .ok (.istore_n 1, 1) := by decide +kernel
theorem dX2_init_14 : decode cX2_init 14 = .ok (.iload_n 1, 1) := by decide +kernel
theorem dX2_init_15 : decode cX2_init 15 = .ok (.iconst 4, 1) := by decide +kernel
theorem dX2_init_16 : decode cX2_init 16 = .ok (.if_icmp .ge 22, 3) := by decide +kernel
theorem dX2_init_19 : decode cX2_init 19 = .ok (.aload_n 0, 1) := by decide +kernel
theorem dX2_init_20 : decode cX2_init 20 = .ok (.getfield 11, 3) := by decide +kernel
theorem dX2_init_23 : decode cX2_init 23 = .ok (.iload_n 1, 1) := by decide +kernel
theorem dX2_init_24 : decode cX2_init 24 = .ok (.new 9, 3) := by decide +kernel
theorem dX2_init_27 : decode cX2_init 27 = .ok (.dup, 1) := by decide +kernel
theorem dX2_init_28 : decode cX2_init 28 = .ok (.invokespecial 17, 3) := by decide +kernel
theorem dX2_init_31 : decode cX2_init 31 = .ok (.aastore, 1) := by decide +kernel
theorem dX2_init_32 : decode cX2_init 32 = .ok (.iinc 1 1, 3) := by decide +kernel
theorem dX2_init_35 : decode cX2_init 35 = .ok (.goto (-21), 3) := by decide +kernel
theorem dX2_init_38 : decode cX2_init 38 = .ok (.return_, 1) := by decide +kernel
theorem dX2_remember_0 : decode cX2_remember 0 = .ok (.aload_n 0, 1) := by decide +kernel
theorem dX2_remember_1 : decode cX2_remember 1 = .ok (.getfield 18, 3) := by decide +kernel
theorem dX2_remember_4 : decode cX2_remember 4 = .ok (.iconst 4, 1) := by decide +kernel
theorem dX2_remember_5 : decode cX2_remember 5 = .ok (.if_icmp .lt 7, 3) := by decide +kernel
theorem dX2_remember_8 : decode cX2_remember 8 = .ok (.aload_n 0, 1) := by decide +kernel
theorem dX2_remember_9 : decode cX2_remember 9 = .ok (.invokevirtual 22, 3) := by decide +kernel
theorem dX2_remember_12 : decode cX2_remember 12 = .ok (.aload_n 0, 1) := by decide +kernel
theorem dX2_remember_13 : decode cX2_remember 13 = .ok (.getfield 11, 3) := by decide +kernel
theorem dX2_remember_16 : decode cX2_remember 16 = .ok (.aload_n 0, 1) := by decide +kernel
theorem dX2_remember_17 : decode cX2_remember 17 = .ok (.getfield 18, 3) := by decide +kernel
theorem dX2_remember_20 : decode cX2_remember 20 = .ok (.aaload, 1) := by decide +kernel
theorem dX2_remember_21 : decode cX2_remember 21 = .ok (.aload_n 1, 1) := by decide +kernel
theorem dX2_remember_22 : decode cX2_remember 22 = .ok (.invokevirtual 25, 3) := by decide +kernel
theorem dX2_remember_25 : decode cX2_remember 25 = .ok (.aload_n 0, 1) := by decide +kernel
theorem dX2_remember_26 : decode cX2_remember 26 = .ok (.dup, 1) := by decide +kernel
theorem dX2_remember_27 : decode cX2_remember 27 = .ok (.getfield 18, 3) := by decide +kernel
theorem dX2_remember_30 : decode cX2_remember 30 = .ok (.iconst 1, 1) := by decide +kernel
theorem dX2_remember_31 : decode cX2_remember 31 = .ok (.iadd, 1) := by decide +kernel
theorem dX2_remember_32 : decode cX2_remember 32 = .ok (.putfield 18, 3) := by decide +kernel
theorem dX2_remember_35 : decode cX2_remember 35 = .ok (.return_, 1) := by decide +kernel
theorem dX2_dropOldest_0 : decode cX2_dropOldest 0 = .ok (.aload_n 0, 1) := by decide +kernel
theorem dX2_dropOldest_1 : decode cX2_dropOldest 1 = .ok (.getfield 11, 3) := by decide +kernel
theorem dX2_dropOldest_4 : decode cX2_dropOldest 4 = .ok (.iconst 0, 1) := by decide +kernel
theorem dX2_dropOldest_5 : decode cX2_dropOldest 5 = .ok (.aaload, 1) := by decide +kernel
theorem dX2_dropOldest_6 : decode cX2_dropOldest 6 = .ok (.astore_n 1, 1) := by decide +kernel
theorem dX2_dropOldest_7 : decode cX2_dropOldest 7 = .ok (.iconst 1, 1) := by decide +kernel
theorem dX2_dropOldest_8 : decode cX2_dropOldest 8 = .ok (.istore_n 2, 1) := by decide +kernel
theorem dX2_dropOldest_9 : decode cX2_dropOldest 9 = .ok (.iload_n 2, 1) := by decide +kernel
theorem dX2_dropOldest_10 : decode cX2_dropOldest 10 = .ok (.iconst 4, 1) := by decide +kernel
theorem dX2_dropOldest_11 : decode cX2_dropOldest 11 = .ok (.if_icmp .ge 23, 3) := by decide +kernel
theorem dX2_dropOldest_14 : decode cX2_dropOldest 14 = .ok (.aload_n 0, 1) := by decide +kernel
theorem dX2_dropOldest_15 : decode cX2_dropOldest 15 = .ok (.getfield 11, 3) := by decide +kernel
theorem dX2_dropOldest_18 : decode cX2_dropOldest 18 = .ok (.iload_n 2, 1) := by decide +kernel
theorem dX2_dropOldest_19 : decode cX2_dropOldest 19 = .ok (.iconst 1, 1) := by decide +kernel
theorem dX2_dropOldest_20 : decode cX2_dropOldest 20 = .ok (.isub, 1) := by decide +kernel
theorem dX2_dropOldest_21 : decode cX2_dropOldest 21 = .ok (.aload_n 0, 1) := by decide +kernel
theorem dX2_dropOldest_22 : decode cX2_dropOldest 22 = .ok (.getfield 11, 3) := by decide +kernel
theorem dX2_dropOldest_25 : decode cX2_dropOldest 25 = .ok (.iload_n 2, 1) := by decide +kernel
theorem dX2_dropOldest_26 : decode cX2_dropOldest 26 = .ok (.aaload, 1) := by decide +kernel
theorem dX2_dropOldest_27 : decode cX2_dropOldest 27 = .ok (.aastore, 1) := by decide +kernel
theorem dX2_dropOldest_28 : decode cX2_dropOldest 28 = .ok (.iinc 2 1, 3) := by decide +kernel
theorem dX2_dropOldest_31 : decode cX2_dropOldest 31 = .ok (.goto (-22), 3) := by decide +kernel
theorem dX2_dropOldest_34 : decode cX2_dropOldest 34 = .ok (.aload_n 0, 1) := by decide +kernel
theorem dX2_dropOldest_35 : decode cX2_dropOldest 35 = .ok (.getfield 11, 3) := by decide +kernel
theorem dX2_dropOldest_38 : decode cX2_dropOldest 38 = .ok (.iconst 3, 1) := by decide +kernel
theorem dX2_dropOldest_39 : decode cX2_dropOldest 39 = .ok (.aload_n 1, 1) := by decide +kernel
theorem dX2_dropOldest_40 : decode cX2_dropOldest 40 = .ok (.aastore, 1) := by decide +kernel
theorem dX2_dropOldest_41 : decode cX2_dropOldest 41 = .ok (.aload_n 0, 1) := by decide +kernel
theorem dX2_dropOldest_42 : decode cX2_dropOldest 42 = .ok (.iconst 3, 1) := by decide +kernel
theorem dX2_dropOldest_43 : decode cX2_dropOldest 43 = .ok (.putfield 18, 3) := by decide +kernel
theorem dX2_dropOldest_46 : decode cX2_dropOldest 46 = .ok (.return_, 1) := by decide +kernel
theorem dX2_giveBack_0 : decode cX2_giveBack 0 = .ok (.aload_n 0, 1) := by decide +kernel
theorem dX2_giveBack_1 : decode cX2_giveBack 1 = .ok (.getfield 18, 3) := by decide +kernel
theorem dX2_giveBack_4 : decode cX2_giveBack 4 = .ok (.ifCond .le 26, 3) := by decide +kernel
theorem dX2_giveBack_7 : decode cX2_giveBack 7 = .ok (.aload_n 0, 1) := by decide +kernel
theorem dX2_giveBack_8 : decode cX2_giveBack 8 = .ok (.dup, 1) := by decide +kernel
theorem dX2_giveBack_9 : decode cX2_giveBack 9 = .ok (.getfield 18, 3) := by decide +kernel
theorem dX2_giveBack_12 : decode cX2_giveBack 12 = .ok (.iconst 1, 1) := by decide +kernel
theorem dX2_giveBack_13 : decode cX2_giveBack 13 = .ok (.isub, 1) := by decide +kernel
theorem dX2_giveBack_14 : decode cX2_giveBack 14 = .ok (.putfield 18, 3) := by decide +kernel
theorem dX2_giveBack_17 : decode cX2_giveBack 17 = .ok (.aload_n 1, 1) := by decide +kernel
theorem dX2_giveBack_18 : decode cX2_giveBack 18 = .ok (.aload_n 0, 1) := by decide +kernel
theorem dX2_giveBack_19 : decode cX2_giveBack 19 = .ok (.getfield 11, 3) := by decide +kernel
theorem dX2_giveBack_22 : decode cX2_giveBack 22 = .ok (.aload_n 0, 1) := by decide +kernel
theorem dX2_giveBack_23 : decode cX2_giveBack 23 = .ok (.getfield 18, 3) := by decide +kernel
theorem dX2_giveBack_26 : decode cX2_giveBack 26 = .ok (.aaload, 1) := by decide +kernel
theorem dX2_giveBack_27 : decode cX2_giveBack 27 = .ok (.invokevirtual 25, 3) := by decide +kernel
theorem dX2_giveBack_30 : decode cX2_giveBack 30 = .ok (.return_, 1) := by decide +kernel
theorem dX3_init_0 : decode cX3_init 0 = .ok (.aload_n 0, 1) := by decide +kernel
theorem dX3_init_1 : decode cX3_init 1 = .ok (.invokespecial 3, 3) := by decide +kernel
theorem dX3_init_4 : decode cX3_init 4 = .ok (.aload_n 0, 1) := by decide +kernel
theorem dX3_init_5 : decode cX3_init 5 = .ok (.bipush 10, 2) := by decide +kernel
theorem dX3_init_7 : decode cX3_init 7 = .ok (.newarray .int, 2) := by decide +kernel
theorem dX3_init_9 : decode cX3_init 9 = .ok (.putfield 9, 3) := by decide +kernel
theorem dX3_init_12 : decode cX3_init 12 = .ok (.getstatic 15, 3) := by decide +kernel
theorem dX3_init_15 : decode cX3_init 15 = .ok (.iconst 0, 1) := by decide +kernel
theorem dX3_init_16 : decode cX3_init 16 = .ok (.aload_n 0, 1) := by decide +kernel
theorem dX3_init_17 : decode cX3_init 17 = .ok (.getfield 9, 3) := by decide +kernel
theorem dX3_init_20 : decode cX3_init 20 = .ok (.iconst 0, 1) := by decide +kernel
theorem dX3_init_21 : decode cX3_init 21 = .ok (.bipush 10, 2) := by decide +kernel
theorem dX3_init_23 : decode cX3_init 23 = .ok (.invokestatic 18, 3) := by decide +kernel
theorem dX3_init_26 : decode cX3_init 26 = .ok (.aload_n 0, 1) := by decide +kernel
theorem dX3_init_27 : decode cX3_init 27 = .ok (.sipush 1000, 3) := by decide +kernel
theorem dX3_init_30 : decode cX3_init 30 = .ok (.newarray .int, 2) := by decide +kernel
theorem dX3_init_32 : decode cX3_init 32 = .ok (.putfield 24, 3) := by decide +kernel
theorem dX3_init_35 : decode cX3_init 35 = .ok (.aload_n 0, 1) := by decide +kernel
theorem dX3_init_36 : decode cX3_init 36 = .ok (.new 27, 3) := by decide +kernel
theorem dX3_init_39 : decode cX3_init 39 = .ok (.dup, 1) := by decide +kernel
theorem dX3_init_40 : decode cX3_init 40 = .ok (.invokespecial 29, 3) := by decide +kernel
theorem dX3_init_43 : decode cX3_init 43 = .ok (.putfield 30, 3) := by decide +kernel
theorem dX3_init_46 : decode cX3_init 46 = .ok (.aload_n 0, 1) := by decide +kernel
theorem dX3_init_47 : decode cX3_init 47 = .ok (.new 34, 3) := by decide +kernel
theorem dX3_init_50 : decode cX3_init 50 = .ok (.dup, 1) := by decide +kernel
theorem dX3_init_51 : decode cX3_init 51 = .ok (.invokespecial 36, 3) := by decide +kernel
theorem dX3_init_54 : decode cX3_init 54 = .ok (.putfield 37, 3) := by decide +kernel
theorem dX3_init_57 : decode cX3_init 57 = .ok (.aload_n 0, 1) := by decide +kernel
theorem dX3_init_58 : decode cX3_init 58 = .ok (.new 41, 3) := by decide +kernel
theorem dX3_init_61 : decode cX3_init 61 = .ok (.dup, 1) := by decide +kernel
theorem dX3_init_62 : decode cX3_init 62 = .ok (.invokespecial 43, 3) := by decide +kernel
theorem dX3_init_65 : decode cX3_init 65 = .ok (.putfield 44, 3) := by decide +kernel
theorem dX3_init_68 : decode cX3_init 68 = .ok (.aload_n 0, 1) := by decide +kernel
theorem dX3_init_69 : decode cX3_init 69 = .ok (.bipush 9, 2) := by decide +kernel
theorem dX3_init_71 : decode cX3_init 71 = .ok (.newarray .int, 2) := by decide +kernel
theorem dX3_init_73 : decode cX3_init 73 = .ok (.putfield 48, 3) := by decide +kernel
theorem dX3_init_76 : decode cX3_init 76 = .ok (.return_, 1) := by decide +kernel
theorem dX3_copyFrom_0 : decode cX3_copyFrom 0 = .ok (.aload_n 1, 1) := by decide +kernel
theorem dX3_copyFrom_1 : decode cX3_copyFrom 1 = .ok (.getfield 9, 3) := by decide +kernel
theorem dX3_copyFrom_4 : decode cX3_copyFrom 4 = .ok (.iconst 0, 1) := by decide +kernel
theorem dX3_copyFrom_5 : decode cX3_copyFrom 5 = .ok (.aload_n 0, 1) := by decide +kernel
theorem dX3_copyFrom_6 : decode cX3_copyFrom 6 = .ok (.getfield 9, 3) := by decide +kernel
theorem dX3_copyFrom_9 : decode cX3_copyFrom 9 = .ok (.iconst 0, 1) := by decide +kernel
theorem dX3_copyFrom_10 : decode cX3_copyFrom 10 = .ok (.bipush 10, 2) := by decide +kernel
theorem dX3_copyFrom_12 : decode cX3_copyFrom 12 = .ok (.invokestatic 18, 3) := by decide +kernel
theorem dX3_copyFrom_15 : decode cX3_copyFrom 15 = .ok (.aload_n 1, 1) := by decide +kernel
theorem dX3_copyFrom_16 : decode cX3_copyFrom 16 = .ok (.getfield 24, 3) := by decide +kernel
theorem dX3_copyFrom_19 : decode cX3_copyFrom 19 = .ok (.iconst 0, 1) := by decide +kernel
theorem dX3_copyFrom_20 : decode cX3_copyFrom 20 = .ok (.aload_n 0, 1) := by decide +kernel
theorem dX3_copyFrom_21 : decode cX3_copyFrom 21 = .ok (.getfield 24, 3) := by decide +kernel
theorem dX3_copyFrom_24 : decode cX3_copyFrom 24 = .ok (.iconst 0, 1) := by decide +kernel
theorem dX3_copyFrom_25 : decode cX3_copyFrom 25 = .ok (.sipush 1000, 3) := by decide +kernel
theorem dX3_copyFrom_28 : decode cX3_copyFrom 28 = .ok (.invokestatic 18, 3) := by decide +kernel
theorem dX3_copyFrom_31 : decode cX3_copyFrom 31 = .ok (.aload_n 0, 1) := by decide +kernel
theorem dX3_copyFrom_32 : decode cX3_copyFrom 32 = .ok (.getfield 30, 3) := by decide +kernel
theorem dX3_copyFrom_35 : decode cX3_copyFrom 35 = .ok (.aload_n 1, 1) := by decide +kernel
theorem dX3_copyFrom_36 : decode cX3_copyFrom 36 = .ok (.getfield 30, 3) := by decide +kernel
theorem dX3_copyFrom_39 : decode cX3_copyFrom 39 = .ok (.invokevirtual 51, 3) := by decide +kernel
theorem dX3_copyFrom_42 : decode cX3_copyFrom 42 = .ok (.aload_n 0, 1) := by decide +kernel
theorem dX3_copyFrom_43 : decode cX3_copyFrom 43 = .ok (.getfield 37, 3) := by decide +kernel
theorem dX3_copyFrom_46 : decode cX3_copyFrom 46 = .ok (.aload_n 1, 1) := by decide +kernel
theorem dX3_copyFrom_47 : decode cX3_copyFrom 47 = .ok (.getfield 37, 3) := by decide +kernel
theorem dX3_copyFrom_50 : decode cX3_copyFrom 50 = .ok (.invokevirtual 55, 3) := by decide +kernel
theorem dX3_copyFrom_53 : decode cX3_copyFrom 53 = .ok (.aload_n 0, 1) := by decide +kernel
theorem dX3_copyFrom_54 : decode cX3_copyFrom 54 = .ok (.getfield 44, 3) := by decide +kernel
theorem dX3_copyFrom_57 : decode cX3_copyFrom 57 = .ok (.aload_n 1, 1) := by decide +kernel
theorem dX3_copyFrom_58 : decode cX3_copyFrom 58 = .ok (.getfield 44, 3) := by decide +kernel
theorem dX3_copyFrom_61 : decode cX3_copyFrom 61 = .ok (.invokevirtual 58, 3) := by decide +kernel
theorem dX3_copyFrom_64 : decode cX3_copyFrom 64 = .ok (.aload_n 1, 1) := by decide +kernel
theorem dX3_copyFrom_65 : decode cX3_copyFrom 65 = .ok (.getfield 48, 3) := by decide +kernel
theorem dX3_copyFrom_68 : decode cX3_copyFrom 68 = .ok (.iconst 0, 1) := by decide +kernel
theorem dX3_copyFrom_69 : decode cX3_copyFrom 69 = .ok (.aload_n 0, 1) := by decide +kernel
theorem dX3_copyFrom_70 : decode cX3_copyFrom 70 = .ok (.getfield 48, 3) := by decide +kernel
theorem dX3_copyFrom_73 : decode cX3_copyFrom 73 = .ok (.iconst 0, 1) := by decide +kernel
theorem dX3_copyFrom_74 : decode cX3_copyFrom 74 = .ok (.bipush 9, 2) := by decide +kernel
theorem dX3_copyFrom_76 : decode cX3_copyFrom 76 = .ok (.invokestatic 18, 3) := by decide +kernel
theorem dX3_copyFrom_79 : decode cX3_copyFrom 79 = .ok (.aload_n 0, 1) := by decide +kernel
theorem dX3_copyFrom_80 : decode cX3_copyFrom 80 = .ok (.aload_n 1, 1) := by decide +kernel
theorem dX3_copyFrom_81 : decode cX3_copyFrom 81 = .ok (.getfield 61, 3) := by decide +kernel
theorem dX3_copyFrom_84 : decode cX3_copyFrom 84 = .ok (.putfield 61, 3) := by decide +kernel
theorem dX3_copyFrom_87 : decode cX3_copyFrom 87 = .ok (.aload_n 0, 1) := by decide +kernel
theorem dX3_copyFrom_88 : decode cX3_copyFrom 88 = .ok (.aload_n 1, 1) := by decide +kernel
theorem dX3_copyFrom_89 : decode cX3_copyFrom 89 = .ok (.getfield 65, 3) := by decide +kernel
theorem dX3_copyFrom_92 : decode cX3_copyFrom 92 = .ok (.putfield 65, 3) := by decide +kernel
theorem dX3_copyFrom_95 : decode cX3_copyFrom 95 = .ok (.aload_n 0, 1) := by decide +kernel
theorem dX3_copyFrom_96 : decode cX3_copyFrom 96 = .ok (.aload_n 1, 1) := by decide +kernel
theorem dX3_copyFrom_97 : decode cX3_copyFrom 97 = .ok (.getfield 69, 3) := by decide +kernel
theorem dX3_copyFrom_100 : decode cX3_copyFrom 100 = .ok (.putfield 69, 3) := by decide +kernel
theorem dX3_copyFrom_103 : decode cX3_copyFrom 103 = .ok (.aload_n 0, 1) := by decide +kernel
theorem dX3_copyFrom_104 : decode cX3_copyFrom 104 = .ok (.aload_n 1, 1) := by decide +kernel
theorem dX3_copyFrom_105 : decode cX3_copyFrom 105 = .ok (.getfield 72, 3) := by decide +kernel
theorem dX3_copyFrom_108 : decode cX3_copyFrom 108 = .ok (.putfield 72, 3) := by decide +kernel
theorem dX3_copyFrom_111 : decode cX3_copyFrom 111 = .ok (.aload_n 0, 1) := by decide +kernel
theorem dX3_copyFrom_112 : decode cX3_copyFrom 112 = .ok (.aload_n 1, 1) := by decide +kernel
theorem dX3_copyFrom_113 : decode cX3_copyFrom 113 = .ok (.getfield 75, 3) := by decide +kernel
theorem dX3_copyFrom_116 : decode cX3_copyFrom 116 = .ok (.putfield 75, 3) := by decide +kernel
theorem dX3_copyFrom_119 : decode cX3_copyFrom 119 = .ok (.return_, 1) := by decide +kernel
theorem dX3_weatherOf_0 : decode cX3_weatherOf 0 = .ok (.iload_n 1, 1) := by decide +kernel
theorem dX3_weatherOf_1 : decode cX3_weatherOf 1 = .ok (.ifCond .lt 10, 3) := by decide +kernel
theorem dX3_weatherOf_4 : decode cX3_weatherOf 4 = .ok (.iload_n 1, 1) := by decide +kernel
theorem dX3_weatherOf_5 : decode cX3_weatherOf 5 = .ok (.sipush 999, 3) := by decide +kernel
theorem dX3_weatherOf_8 : decode cX3_weatherOf 8 = .ok (.if_icmp .le 7, 3) := by decide +kernel
theorem dX3_weatherOf_11 : decode cX3_weatherOf 11 = .ok (.iconst 0, 1) := by decide +kernel
theorem dX3_weatherOf_12 : decode cX3_weatherOf 12 = .ok (.goto 9, 3) := by decide +kernel
theorem dX3_weatherOf_15 : decode cX3_weatherOf 15 = .ok (.aload_n 0, 1) := by decide +kernel
theorem dX3_weatherOf_16 : decode cX3_weatherOf 16 = .ok (.getfield 24, 3) := by decide +kernel
theorem dX3_weatherOf_19 : decode cX3_weatherOf 19 = .ok (.iload_n 1, 1) := by decide +kernel
theorem dX3_weatherOf_20 : decode cX3_weatherOf 20 = .ok (.iaload, 1) := by decide +kernel
theorem dX3_weatherOf_21 : decode cX3_weatherOf 21 = .ok (.ireturn, 1) := by decide +kernel
theorem dX3_isUpOpen_0 : decode cX3_isUpOpen 0 = .ok (.aload_n 0, 1) := by decide +kernel
theorem dX3_isUpOpen_1 : decode cX3_isUpOpen 1 = .ok (.iload_n 1, 1) := by decide +kernel
theorem dX3_isUpOpen_2 : decode cX3_isUpOpen 2 = .ok (.invokevirtual 78, 3) := by decide +kernel
theorem dX3_isUpOpen_5 : decode cX3_isUpOpen 5 = .ok (.iconst 1, 1) := by decide +kernel
theorem dX3_isUpOpen_6 : decode cX3_isUpOpen 6 = .ok (.iand, 1) := by decide +kernel
theorem dX3_isUpOpen_7 : decode cX3_isUpOpen 7 = .ok (.ifCond .ne 7, 3) := by decide +kernel
theorem dX3_isUpOpen_10 : decode cX3_isUpOpen 10 = .ok (.iconst 1, 1) := by decide +kernel
theorem dX3_isUpOpen_11 : decode cX3_isUpOpen 11 = .ok (.goto 4, 3) := by decide +kernel
theorem dX3_isUpOpen_14 : decode cX3_isUpOpen 14 = .ok (.iconst 0, 1) := by decide +kernel
theorem dX3_isUpOpen_15 : decode cX3_isUpOpen 15 = .ok (.ireturn, 1) := by decide +kernel
theorem dX3_isDownOpen_0 : decode cX3_isDownOpen 0 = .ok (.aload_n 0, 1) := by decide +kernel
theorem dX3_isDownOpen_1 : decode cX3_isDownOpen 1 = .ok (.aload_n 0, 1) := by decide +kernel
theorem dX3_isDownOpen_2 : decode cX3_isDownOpen 2 = .ok (.getfield 61, 3) := by decide +kernel
theorem dX3_isDownOpen_5 : decode cX3_isDownOpen 5 = .ok (.invokevirtual 78, 3) := by decide +kernel
theorem dX3_isDownOpen_8 : decode cX3_isDownOpen 8 = .ok (.iconst 2, 1) := by decide +kernel
theorem dX3_isDownOpen_9 : decode cX3_isDownOpen 9 = .ok (.iand, 1) := by decide +kernel
theorem dX3_isDownOpen_10 : decode cX3_isDownOpen 10 = .ok (.ifCond .ne 7, 3) := by decide +kernel
theorem dX3_isDownOpen_13 : decode cX3_isDownOpen 13 = .ok (.iconst 1, 1) := by decide +kernel
theorem dX3_isDownOpen_14 : decode cX3_isDownOpen 14 = .ok (.goto 4, 3) := by decide +kernel
theorem dX3_isDownOpen_17 : decode cX3_isDownOpen 17 = .ok (.iconst 0, 1) := by decide +kernel
theorem dX3_isDownOpen_18 : decode cX3_isDownOpen 18 = .ok (.ireturn, 1) := by decide +kernel
theorem dX3_isWindy_0 : decode cX3_isWindy 0 = .ok (.aload_n 0, 1) := by decide +kernel
theorem dX3_isWindy_1 : decode cX3_isWindy 1 = .ok (.aload_n 0, 1) := by decide +kernel
theorem dX3_isWindy_2 : decode cX3_isWindy 2 = .ok (.getfield 61, 3) := by decide +kernel
theorem dX3_isWindy_5 : decode cX3_isWindy 5 = .ok (.invokevirtual 78, 3) := by decide +kernel
theorem dX3_isWindy_8 : decode cX3_isWindy 8 = .ok (.iconst 4, 1) := by decide +kernel
theorem dX3_isWindy_9 : decode cX3_isWindy 9 = .ok (.iand, 1) := by decide +kernel
theorem dX3_isWindy_10 : decode cX3_isWindy 10 = .ok (.ifCond .eq 7, 3) := by decide +kernel
theorem dX3_isWindy_13 : decode cX3_isWindy 13 = .ok (.iconst 1, 1) := by decide +kernel
theorem dX3_isWindy_14 : decode cX3_isWindy 14 = .ok (.goto 4, 3) := by decide +kernel
theorem dX3_isWindy_17 : decode cX3_isWindy 17 = .ok (.iconst 0, 1) := by decide +kernel
theorem dX3_isWindy_18 : decode cX3_isWindy 18 = .ok (.ireturn, 1) := by decide +kernel
theorem dX3_daysWithOtherWeather_0 : decode cX3_daysWithOtherWeather 0 = .ok (.iconst 0, 1) := by decide +kernel
theorem dX3_daysWithOtherWeather_1 : decode cX3_daysWithOtherWeather 1 = .ok (.istore 4, 2) := by decide +kernel
theorem dX3_daysWithOtherWeather_3 : decode cX3_daysWithOtherWeather 3 = .ok (.iload_n 1, 1) := by decide +kernel
theorem dX3_daysWithOtherWeather_4 : decode cX3_daysWithOtherWeather 4 = .ok (.istore 5, 2) := by decide +kernel
theorem dX3_daysWithOtherWeather_6 : decode cX3_daysWithOtherWeather 6 = .ok (.iload 5, 2) := by decide +kernel
theorem dX3_daysWithOtherWeather_8 : decode cX3_daysWithOtherWeather 8 = .ok (.iload_n 2, 1) := by decide +kernel
theorem dX3_daysWithOtherWeather_9 : decode cX3_daysWithOtherWeather 9 = .ok (.if_icmp .gt 22, 3) := by decide +kernel
theorem dX3_daysWithOtherWeather_12 : decode cX3_daysWithOtherWeather 12 = .ok (.aload_n 0, 1) := by decide +kernel
theorem dX3_daysWithOtherWeather_13 : decode cX3_daysWithOtherWeather 13 = .ok (.iload 5, 2) := by decide +kernel
theorem dX3_daysWithOtherWeather_15 : decode cX3_daysWithOtherWeather 15 = .ok (.invokevirtual 78, 3) := by decide +kernel
theorem dX3_daysWithOtherWeather_18 : decode cX3_daysWithOtherWeather 18 = .ok (.iload_n 3, 1) := by decide +kernel
theorem dX3_daysWithOtherWeather_19 : decode cX3_daysWithOtherWeather 19 = .ok (.if_icmp .eq 6, 3) := by decide +kernel
theorem dX3_daysWithOtherWeather_22 : decode cX3_daysWithOtherWeather 22 = .ok (.iinc 4 1, 3) := by decide +kernel
theorem dX3_daysWithOtherWeather_25 : decode cX3_daysWithOtherWeather 25 = .ok (.iinc 5 1, 3) := by decide +kernel
theorem dX3_daysWithOtherWeather_28 : decode cX3_daysWithOtherWeather 28 = .ok (.goto (-22), 3) := by decide +kernel
theorem dX3_daysWithOtherWeather_31 : decode cX3_daysWithOtherWeather 31 = .ok (.iload 4, 2) := by decide +kernel
theorem dX3_daysWithOtherWeather_33 : decode cX3_daysWithOtherWeather 33 = .ok (.ireturn, 1) := by decide +kernel
theorem dX3_changeWeather_0 : decode cX3_changeWeather 0 = .ok (.iconst 0, 1) := by decide +kernel
theorem dX3_changeWeather_1 : decode cX3_changeWeather 1 = .ok (.iload_n 1, 1) := by decide +kernel
theorem dX3_changeWeather_2 : decode cX3_changeWeather 2 = .ok (.invokestatic 82, 3) := by decide +kernel
theorem dX3_changeWeather_5 : decode cX3_changeWeather 5 = .ok (.istore 4, 2) := by decide +kernel
theorem dX3_changeWeather_7 : decode cX3_changeWeather 7 = .ok (.iload 4, 2) := by decide +kernel
theorem dX3_changeWeather_9 : decode cX3_changeWeather 9 = .ok (.iload_n 2, 1) := by decide +kernel
theorem dX3_changeWeather_10 : decode cX3_changeWeather 10 = .ok (.if_icmp .gt 25, 3) := by decide +kernel
theorem dX3_changeWeather_13 : decode cX3_changeWeather 13 = .ok (.iload 4, 2) := by decide +kernel
theorem dX3_changeWeather_15 : decode cX3_changeWeather 15 = .ok (.sipush 999, 3) := by decide +kernel
theorem dX3_changeWeather_18 : decode cX3_changeWeather 18 = .ok (.if_icmp .gt 17, 3) := by decide +kernel
theorem dX3_changeWeather_21 : decode cX3_changeWeather 21 = .ok (.aload_n 0, 1) := by decide +kernel
theorem dX3_changeWeather_22 : decode cX3_changeWeather 22 = .ok (.getfield 24, 3) := by decide +kernel
theorem dX3_changeWeather_25 : decode cX3_changeWeather 25 = .ok (.iload 4, 2) := by decide +kernel
theorem dX3_changeWeather_27 : decode cX3_changeWeather 27 = .ok (.iload_n 3, 1) := by decide +kernel
theorem dX3_changeWeather_28 : decode cX3_changeWeather 28 = .ok (.iastore, 1) := by decide +kernel
theorem dX3_changeWeather_29 : decode cX3_changeWeather 29 = .ok (.iinc 4 1, 3) := by decide +kernel
theorem dX3_changeWeather_32 : decode cX3_changeWeather 32 = .ok (.goto (-25), 3) := by decide +kernel
theorem dX3_changeWeather_35 : decode cX3_changeWeather 35 = .ok (.return_, 1) := by decide +kernel
theorem dX3_bookingError_0 : decode cX3_bookingError 0 = .ok (.iload_n 1, 1) := by decide +kernel
theorem dX3_bookingError_1 : decode cX3_bookingError 1 = .ok (.aload_n 0, 1) := by decide +kernel
theorem dX3_bookingError_2 : decode cX3_bookingError 2 = .ok (.getfield 61, 3) := by decide +kernel
theorem dX3_bookingError_5 : decode cX3_bookingError 5 = .ok (.if_icmp .lt 18, 3) := by decide +kernel
theorem dX3_bookingError_8 : decode cX3_bookingError 8 = .ok (.iload_n 1, 1) := by decide +kernel
theorem dX3_bookingError_9 : decode cX3_bookingError 9 = .ok (.sipush 899, 3) := by decide +kernel
theorem dX3_bookingError_12 : decode cX3_bookingError 12 = .ok (.if_icmp .gt 11, 3) := by decide +kernel
theorem dX3_bookingError_15 : decode cX3_bookingError 15 = .ok (.iload_n 2, 1) := by decide +kernel
theorem dX3_bookingError_16 : decode cX3_bookingError 16 = .ok (.iload_n 3, 1) := by decide +kernel
theorem dX3_bookingError_17 : decode cX3_bookingError 17 = .ok (.invokestatic 88, 3) := by decide +kernel
theorem dX3_bookingError_20 : decode cX3_bookingError 20 = .ok (.ifCond .ne 6, 3) := by decide +kernel
theorem dX3_bookingError_23 : decode cX3_bookingError 23 = .ok (.ldc 92, 2) := by decide +kernel
theorem dX3_bookingError_25 : decode cX3_bookingError 25 = .ok (.ireturn, 1) := by decide +kernel
theorem dX3_bookingError_26 : decode cX3_bookingError 26 = .ok (.aload_n 0, 1) := by decide +kernel
theorem dX3_bookingError_27 : decode cX3_bookingError 27 = .ok (.iload_n 1, 1) := by decide +kernel
theorem dX3_bookingError_28 : decode cX3_bookingError 28 = .ok (.iload_n 2, 1) := by decide +kernel
theorem dX3_bookingError_29 : decode cX3_bookingError 29 = .ok (.iload_n 3, 1) := by decide +kernel
theorem dX3_bookingError_30 : decode cX3_bookingError 30 = .ok (.invokevirtual 93, 3) := by decide +kernel
theorem dX3_bookingError_33 : decode cX3_bookingError 33 = .ok (.ifCond .ne 6, 3) := by decide +kernel
theorem dX3_bookingError_36 : decode cX3_bookingError 36 = .ok (.ldc 97, 2) := by decide +kernel
theorem dX3_bookingError_38 : decode cX3_bookingError 38 = .ok (.ireturn, 1) := by decide +kernel
theorem dX3_bookingError_39 : decode cX3_bookingError 39 = .ok (.aload_n 0, 1) := by decide +kernel
theorem dX3_bookingError_40 : decode cX3_bookingError 40 = .ok (.getfield 30, 3) := by decide +kernel
theorem dX3_bookingError_43 : decode cX3_bookingError 43 = .ok (.getfield 98, 3) := by decide +kernel
theorem dX3_bookingError_46 : decode cX3_bookingError 46 = .ok (.bipush 80, 2) := by decide +kernel
theorem dX3_bookingError_48 : decode cX3_bookingError 48 = .ok (.if_icmp .lt 8, 3) := by decide +kernel
theorem dX3_bookingError_51 : decode cX3_bookingError 51 = .ok (.ldc 101, 2) := by decide +kernel
theorem dX3_bookingError_53 : decode cX3_bookingError 53 = .ok (.goto 4, 3) := by decide +kernel
theorem dX3_bookingError_56 : decode cX3_bookingError 56 = .ok (.iconst 0, 1) := by decide +kernel
theorem dX3_bookingError_57 : decode cX3_bookingError 57 = .ok (.ireturn, 1) := by decide +kernel
theorem dX3_addBooking_0 : decode cX3_addBooking 0 = .ok (.iload_n 3, 1) := by decide +kernel
theorem dX3_addBooking_1 : decode cX3_addBooking 1 = .ok (.iload_n 2, 1) := by decide +kernel
theorem dX3_addBooking_2 : decode cX3_addBooking 2 = .ok (.imul, 1) := by decide +kernel
theorem dX3_addBooking_3 : decode cX3_addBooking 3 = .ok (.aload_n 0, 1) := by decide +kernel
theorem dX3_addBooking_4 : decode cX3_addBooking 4 = .ok (.getfield 9, 3) := by decide +kernel
theorem dX3_addBooking_7 : decode cX3_addBooking 7 = .ok (.iconst 3, 1) := by decide +kernel
theorem dX3_addBooking_8 : decode cX3_addBooking 8 = .ok (.iaload, 1) := by decide +kernel
theorem dX3_addBooking_9 : decode cX3_addBooking 9 = .ok (.imul, 1) := by decide +kernel
theorem dX3_addBooking_10 : decode cX3_addBooking 10 = .ok (.istore 4, 2) := by decide +kernel
theorem dX3_addBooking_12 : decode cX3_addBooking 12 = .ok (.aload_n 0, 1) := by decide +kernel
theorem dX3_addBooking_13 : decode cX3_addBooking 13 = .ok (.dup, 1) := by decide +kernel
theorem dX3_addBooking_14 : decode cX3_addBooking 14 = .ok (.getfield 69, 3) := by decide +kernel
theorem dX3_addBooking_17 : decode cX3_addBooking 17 = .ok (.iload 4, 2) := by decide +kernel
theorem dX3_addBooking_19 : decode cX3_addBooking 19 = .ok (.iadd, 1) := by decide +kernel
theorem dX3_addBooking_20 : decode cX3_addBooking 20 = .ok (.putfield 69, 3) := by decide +kernel
theorem dX3_addBooking_23 : decode cX3_addBooking 23 = .ok (.aload_n 0, 1) := by decide +kernel
theorem dX3_addBooking_24 : decode cX3_addBooking 24 = .ok (.getfield 30, 3) := by decide +kernel
theorem dX3_addBooking_27 : decode cX3_addBooking 27 = .ok (.iload_n 1, 1) := by decide +kernel
theorem dX3_addBooking_28 : decode cX3_addBooking 28 = .ok (.iload_n 2, 1) := by decide +kernel
theorem dX3_addBooking_29 : decode cX3_addBooking 29 = .ok (.iload_n 3, 1) := by decide +kernel
theorem dX3_addBooking_30 : decode cX3_addBooking 30 = .ok (.iload 4, 2) := by decide +kernel
theorem dX3_addBooking_32 : decode cX3_addBooking 32 = .ok (.invokevirtual 102, 3) := by decide +kernel
theorem dX3_addBooking_35 : decode cX3_addBooking 35 = .ok (.ireturn, 1) := by decide +kernel
theorem dX3_hasBeds_0 : decode cX3_hasBeds 0 = .ok (.iconst 0, 1) := by decide +kernel
theorem dX3_hasBeds_1 : decode cX3_hasBeds 1 = .ok (.istore 4, 2) := by decide +kernel
theorem dX3_hasBeds_3 : decode cX3_hasBeds 3 = .ok (.iload 4, 2) := by decide +kernel
theorem dX3_hasBeds_5 : decode cX3_hasBeds 5 = .ok (.iload_n 2, 1) := by decide +kernel
theorem dX3_hasBeds_6 : decode cX3_hasBeds 6 = .ok (.if_icmp .ge 33, 3) := by decide +kernel
theorem dX3_hasBeds_9 : decode cX3_hasBeds 9 = .ok (.aload_n 0, 1) := by decide +kernel
theorem dX3_hasBeds_10 : decode cX3_hasBeds 10 = .ok (.getfield 30, 3) := by decide +kernel
theorem dX3_hasBeds_13 : decode cX3_hasBeds 13 = .ok (.iload_n 1, 1) := by decide +kernel
theorem dX3_hasBeds_14 : decode cX3_hasBeds 14 = .ok (.iload 4, 2) := by decide +kernel
theorem dX3_hasBeds_16 : decode cX3_hasBeds 16 = .ok (.iadd, 1) := by decide +kernel
theorem dX3_hasBeds_17 : decode cX3_hasBeds 17 = .ok (.invokevirtual 106, 3) := by decide +kernel
theorem dX3_hasBeds_20 : decode cX3_hasBeds 20 = .ok (.iload_n 3, 1) := by decide +kernel
theorem dX3_hasBeds_21 : decode cX3_hasBeds 21 = .ok (.iadd, 1) := by decide +kernel
theorem dX3_hasBeds_22 : decode cX3_hasBeds 22 = .ok (.aload_n 0, 1) := by decide +kernel
theorem dX3_hasBeds_23 : decode cX3_hasBeds 23 = .ok (.getfield 9, 3) := by decide +kernel
theorem dX3_hasBeds_26 : decode cX3_hasBeds 26 = .ok (.iconst 0, 1) := by decide +kernel
theorem dX3_hasBeds_27 : decode cX3_hasBeds 27 = .ok (.iaload, 1) := by decide +kernel
theorem dX3_hasBeds_28 : decode cX3_hasBeds 28 = .ok (.if_icmp .le 5, 3) := by decide +kernel
theorem dX3_hasBeds_31 : decode cX3_hasBeds 31 = .ok (.iconst 0, 1) := by decide +kernel
theorem dX3_hasBeds_32 : decode cX3_hasBeds 32 = .ok (.ireturn, 1) := by decide +kernel
theorem dX3_hasBeds_33 : decode cX3_hasBeds 33 = .ok (.iinc 4 1, 3) := by decide +kernel
theorem dX3_hasBeds_36 : decode cX3_hasBeds 36 = .ok (.goto (-33), 3) := by decide +kernel
theorem dX3_hasBeds_39 : decode cX3_hasBeds 39 = .ok (.iconst 1, 1) := by decide +kernel
theorem dX3_hasBeds_40 : decode cX3_hasBeds 40 = .ok (.ireturn, 1) := by decide +kernel
theorem dX3_refundOf_0 : decode cX3_refundOf 0 = .ok (.aload_n 0, 1) := by decide +kernel
theorem dX3_refundOf_1 : decode cX3_refundOf 1 = .ok (.getfield 30, 3) := by decide +kernel
theorem dX3_refundOf_4 : decode cX3_refundOf 4 = .ok (.getfield 109, 3) := by decide +kernel
theorem dX3_refundOf_7 : decode cX3_refundOf 7 = .ok (.iload_n 1, 1) := by decide +kernel
theorem dX3_refundOf_8 : decode cX3_refundOf 8 = .ok (.iaload, 1) := by decide +kernel
theorem dX3_refundOf_9 : decode cX3_refundOf 9 = .ok (.istore_n 2, 1) := by decide +kernel
theorem dX3_refundOf_10 : decode cX3_refundOf 10 = .ok (.iload_n 2, 1) := by decide +kernel
theorem dX3_refundOf_11 : decode cX3_refundOf 11 = .ok (.aload_n 0, 1) := by decide +kernel
theorem dX3_refundOf_12 : decode cX3_refundOf 12 = .ok (.getfield 61, 3) := by decide +kernel
theorem dX3_refundOf_15 : decode cX3_refundOf 15 = .ok (.isub, 1) := by decide +kernel
theorem dX3_refundOf_16 : decode cX3_refundOf 16 = .ok (.aload_n 0, 1) := by decide +kernel
theorem dX3_refundOf_17 : decode cX3_refundOf 17 = .ok (.getfield 9, 3) := by decide +kernel
theorem dX3_refundOf_20 : decode cX3_refundOf 20 = .ok (.iconst 4, 1) := by decide +kernel
theorem dX3_refundOf_21 : decode cX3_refundOf 21 = .ok (.iaload, 1) := by decide +kernel
theorem dX3_refundOf_22 : decode cX3_refundOf 22 = .ok (.if_icmp .lt 7, 3) := by decide +kernel
theorem dX3_refundOf_25 : decode cX3_refundOf 25 = .ok (.iconst 1, 1) := by decide +kernel
theorem dX3_refundOf_26 : decode cX3_refundOf 26 = .ok (.goto 4, 3) := by decide +kernel
theorem dX3_refundOf_29 : decode cX3_refundOf 29 = .ok (.iconst 0, 1) := by decide +kernel
theorem dX3_refundOf_30 : decode cX3_refundOf 30 = .ok (.istore_n 3, 1) := by decide +kernel
theorem dX3_refundOf_31 : decode cX3_refundOf 31 = .ok (.iload_n 3, 1) := by decide +kernel
theorem dX3_refundOf_32 : decode cX3_refundOf 32 = .ok (.ifCond .ne 11, 3) := by decide +kernel
theorem dX3_refundOf_35 : decode cX3_refundOf 35 = .ok (.aload_n 0, 1) := by decide +kernel
theorem dX3_refundOf_36 : decode cX3_refundOf 36 = .ok (.iload_n 2, 1) := by decide +kernel
theorem dX3_refundOf_37 : decode cX3_refundOf 37 = .ok (.invokevirtual 112, 3) := by decide +kernel
theorem dX3_refundOf_40 : decode cX3_refundOf 40 = .ok (.ifCond .ne 15, 3) := by decide +kernel
theorem dX3_refundOf_43 : decode cX3_refundOf 43 = .ok (.aload_n 0, 1) := by decide +kernel
theorem dX3_refundOf_44 : decode cX3_refundOf 44 = .ok (.getfield 30, 3) := by decide +kernel
theorem dX3_refundOf_47 : decode cX3_refundOf 47 = .ok (.getfield 116, 3) := by decide +kernel
theorem dX3_refundOf_50 : decode cX3_refundOf 50 = .ok (.iload_n 1, 1) := by decide +kernel
theorem dX3_refundOf_51 : decode cX3_refundOf 51 = .ok (.iaload, 1) := by decide +kernel
theorem dX3_refundOf_52 : decode cX3_refundOf 52 = .ok (.goto 4, 3) := by decide +kernel
theorem dX3_refundOf_55 : decode cX3_refundOf 55 = .ok (.iconst 0, 1) := by decide +kernel
theorem dX3_refundOf_56 : decode cX3_refundOf 56 = .ok (.ireturn, 1) := by decide +kernel
theorem dX3_cancelBooking_0 : decode cX3_cancelBooking 0 = .ok (.aload_n 0, 1) := by decide +kernel
theorem dX3_cancelBooking_1 : decode cX3_cancelBooking 1 = .ok (.iload_n 1, 1) := by decide +kernel
theorem dX3_cancelBooking_2 : decode cX3_cancelBooking 2 = .ok (.invokevirtual 119, 3) := by decide +kernel
theorem dX3_cancelBooking_5 : decode cX3_cancelBooking 5 = .ok (.istore_n 2, 1) := by decide +kernel
theorem dX3_cancelBooking_6 : decode cX3_cancelBooking 6 = .ok (.aload_n 0, 1) := by decide +kernel
theorem dX3_cancelBooking_7 : decode cX3_cancelBooking 7 = .ok (.getfield 30, 3) := by decide +kernel
theorem dX3_cancelBooking_10 : decode cX3_cancelBooking 10 = .ok (.getfield 122, 3) := by decide +kernel
theorem dX3_cancelBooking_13 : decode cX3_cancelBooking 13 = .ok (.iload_n 1, 1) := by decide +kernel
theorem dX3_cancelBooking_14 : decode cX3_cancelBooking 14 = .ok (.iconst 3, 1) := by decide +kernel
theorem dX3_cancelBooking_15 : decode cX3_cancelBooking 15 = .ok (.iastore, 1) := by decide +kernel
theorem dX3_cancelBooking_16 : decode cX3_cancelBooking 16 = .ok (.aload_n 0, 1) := by decide +kernel
theorem dX3_cancelBooking_17 : decode cX3_cancelBooking 17 = .ok (.dup, 1) := by decide +kernel
theorem dX3_cancelBooking_18 : decode cX3_cancelBooking 18 = .ok (.getfield 69, 3) := by decide +kernel
theorem dX3_cancelBooking_21 : decode cX3_cancelBooking 21 = .ok (.iload_n 2, 1) := by decide +kernel
theorem dX3_cancelBooking_22 : decode cX3_cancelBooking 22 = .ok (.isub, 1) := by decide +kernel
theorem dX3_cancelBooking_23 : decode cX3_cancelBooking 23 = .ok (.putfield 69, 3) := by decide +kernel
theorem dX3_cancelBooking_26 : decode cX3_cancelBooking 26 = .ok (.aload_n 0, 1) := by decide +kernel
theorem dX3_cancelBooking_27 : decode cX3_cancelBooking 27 = .ok (.dup, 1) := by decide +kernel
theorem dX3_cancelBooking_28 : decode cX3_cancelBooking 28 = .ok (.getfield 72, 3) := by decide +kernel
theorem dX3_cancelBooking_31 : decode cX3_cancelBooking 31 = .ok (.aload_n 0, 1) := by decide +kernel
theorem dX3_cancelBooking_32 : decode cX3_cancelBooking 32 = .ok (.getfield 30, 3) := by decide +kernel
theorem dX3_cancelBooking_35 : decode cX3_cancelBooking 35 = .ok (.getfield 116, 3) := by decide +kernel
theorem dX3_cancelBooking_38 : decode cX3_cancelBooking 38 = .ok (.iload_n 1, 1) := by decide +kernel
theorem dX3_cancelBooking_39 : decode cX3_cancelBooking 39 = .ok (.iaload, 1) := by decide +kernel
theorem dX3_cancelBooking_40 : decode cX3_cancelBooking 40 = .ok (.iload_n 2, 1) := by decide +kernel
theorem dX3_cancelBooking_41 : decode cX3_cancelBooking 41 = .ok (.isub, 1) := by decide +kernel
theorem dX3_cancelBooking_42 : decode cX3_cancelBooking 42 = .ok (.iadd, 1) := by decide +kernel
theorem dX3_cancelBooking_43 : decode cX3_cancelBooking 43 = .ok (.putfield 72, 3) := by decide +kernel
theorem dX3_cancelBooking_46 : decode cX3_cancelBooking 46 = .ok (.iload_n 2, 1) := by decide +kernel
theorem dX3_cancelBooking_47 : decode cX3_cancelBooking 47 = .ok (.ireturn, 1) := by decide +kernel
theorem dX3_canStayLonger_0 : decode cX3_canStayLonger 0 = .ok (.aload_n 0, 1) := by decide +kernel
theorem dX3_canStayLonger_1 : decode cX3_canStayLonger 1 = .ok (.getfield 30, 3) := by decide +kernel
theorem dX3_canStayLonger_4 : decode cX3_canStayLonger 4 = .ok (.iload_n 1, 1) := by decide +kernel
theorem dX3_canStayLonger_5 : decode cX3_canStayLonger 5 = .ok (.invokevirtual 125, 3) := by decide +kernel
theorem dX3_canStayLonger_8 : decode cX3_canStayLonger 8 = .ok (.istore_n 3, 1) := by decide +kernel
theorem dX3_canStayLonger_9 : decode cX3_canStayLonger 9 = .ok (.aload_n 0, 1) := by decide +kernel
theorem dX3_canStayLonger_10 : decode cX3_canStayLonger 10 = .ok (.getfield 30, 3) := by decide +kernel
theorem dX3_canStayLonger_13 : decode cX3_canStayLonger 13 = .ok (.getfield 122, 3) := by decide +kernel
theorem dX3_canStayLonger_16 : decode cX3_canStayLonger 16 = .ok (.iload_n 1, 1) := by decide +kernel
theorem dX3_canStayLonger_17 : decode cX3_canStayLonger 17 = .ok (.iaload, 1) := by decide +kernel
theorem dX3_canStayLonger_18 : decode cX3_canStayLonger 18 = .ok (.iconst 1, 1) := by decide +kernel
theorem dX3_canStayLonger_19 : decode cX3_canStayLonger 19 = .ok (.if_icmp .ne 49, 3) := by decide +kernel
theorem dX3_canStayLonger_22 : decode cX3_canStayLonger 22 = .ok (.iload_n 3, 1) := by decide +kernel
theorem dX3_canStayLonger_23 : decode cX3_canStayLonger 23 = .ok (.aload_n 0, 1) := by decide +kernel
theorem dX3_canStayLonger_24 : decode cX3_canStayLonger 24 = .ok (.getfield 61, 3) := by decide +kernel
theorem dX3_canStayLonger_27 : decode cX3_canStayLonger 27 = .ok (.if_icmp .lt 41, 3) := by decide +kernel
theorem dX3_canStayLonger_30 : decode cX3_canStayLonger 30 = .ok (.aload_n 0, 1) := by decide +kernel
theorem dX3_canStayLonger_31 : decode cX3_canStayLonger 31 = .ok (.getfield 30, 3) := by decide +kernel
theorem dX3_canStayLonger_34 : decode cX3_canStayLonger 34 = .ok (.getfield 128, 3) := by decide +kernel
theorem dX3_canStayLonger_37 : decode cX3_canStayLonger 37 = .ok (.iload_n 1, 1) := by decide +kernel
theorem dX3_canStayLonger_38 : decode cX3_canStayLonger 38 = .ok (.iaload, 1) := by decide +kernel
theorem dX3_canStayLonger_39 : decode cX3_canStayLonger 39 = .ok (.iload_n 2, 1) := by decide +kernel
theorem dX3_canStayLonger_40 : decode cX3_canStayLonger 40 = .ok (.iadd, 1) := by decide +kernel
theorem dX3_canStayLonger_41 : decode cX3_canStayLonger 41 = .ok (.bipush 9, 2) := by decide +kernel
theorem dX3_canStayLonger_43 : decode cX3_canStayLonger 43 = .ok (.if_icmp .gt 25, 3) := by decide +kernel
theorem dX3_canStayLonger_46 : decode cX3_canStayLonger 46 = .ok (.aload_n 0, 1) := by decide +kernel
theorem dX3_canStayLonger_47 : decode cX3_canStayLonger 47 = .ok (.iload_n 3, 1) := by decide +kernel
theorem dX3_canStayLonger_48 : decode cX3_canStayLonger 48 = .ok (.iload_n 2, 1) := by decide +kernel
theorem dX3_canStayLonger_49 : decode cX3_canStayLonger 49 = .ok (.aload_n 0, 1) := by decide +kernel
theorem dX3_canStayLonger_50 : decode cX3_canStayLonger 50 = .ok (.getfield 30, 3) := by decide +kernel
theorem dX3_canStayLonger_53 : decode cX3_canStayLonger 53 = .ok (.getfield 131, 3) := by decide +kernel
theorem dX3_canStayLonger_56 : decode cX3_canStayLonger 56 = .ok (.iload_n 1, 1) := by decide +kernel
theorem dX3_canStayLonger_57 : decode cX3_canStayLonger 57 = .ok (.iaload, 1) := by decide +kernel
theorem dX3_canStayLonger_58 : decode cX3_canStayLonger 58 = .ok (.invokevirtual 93, 3) := by decide +kernel
theorem dX3_canStayLonger_61 : decode cX3_canStayLonger 61 = .ok (.ifCond .eq 7, 3) := by decide +kernel
theorem dX3_canStayLonger_64 : decode cX3_canStayLonger 64 = .ok (.iconst 1, 1) := by decide +kernel
theorem dX3_canStayLonger_65 : decode cX3_canStayLonger 65 = .ok (.goto 4, 3) := by decide +kernel
theorem dX3_canStayLonger_68 : decode cX3_canStayLonger 68 = .ok (.iconst 0, 1) := by decide +kernel
theorem dX3_canStayLonger_69 : decode cX3_canStayLonger 69 = .ok (.ireturn, 1) := by decide +kernel
theorem dX3_isStrandedNow_0 : decode cX3_isStrandedNow 0 = .ok (.aload_n 0, 1) := by decide +kernel
theorem dX3_isStrandedNow_1 : decode cX3_isStrandedNow 1 = .ok (.getfield 30, 3) := by decide +kernel
theorem dX3_isStrandedNow_4 : decode cX3_isStrandedNow 4 = .ok (.iload_n 1, 1) := by decide +kernel
theorem dX3_isStrandedNow_5 : decode cX3_isStrandedNow 5 = .ok (.aload_n 0, 1) := by decide +kernel
theorem dX3_isStrandedNow_6 : decode cX3_isStrandedNow 6 = .ok (.getfield 61, 3) := by decide +kernel
theorem dX3_isStrandedNow_9 : decode cX3_isStrandedNow 9 = .ok (.invokevirtual 134, 3) := by decide +kernel
theorem dX3_isStrandedNow_12 : decode cX3_isStrandedNow 12 = .ok (.ifCond .eq 14, 3) := by decide +kernel
theorem dX3_isStrandedNow_15 : decode cX3_isStrandedNow 15 = .ok (.aload_n 0, 1) := by decide +kernel
theorem dX3_isStrandedNow_16 : decode cX3_isStrandedNow 16 = .ok (.invokevirtual 137, 3) := by decide +kernel
theorem dX3_isStrandedNow_19 : decode cX3_isStrandedNow 19 = .ok (.ifCond .ne 7, 3) := by decide +kernel
theorem dX3_isStrandedNow_22 : decode cX3_isStrandedNow 22 = .ok (.iconst 1, 1) := by decide +kernel
theorem dX3_isStrandedNow_23 : decode cX3_isStrandedNow 23 = .ok (.goto 4, 3) := by decide +kernel
theorem dX3_isStrandedNow_26 : decode cX3_isStrandedNow 26 = .ok (.iconst 0, 1) := by decide +kernel
theorem dX3_isStrandedNow_27 : decode cX3_isStrandedNow 27 = .ok (.ireturn, 1) := by decide +kernel
theorem dX3_passDay_0 : decode cX3_passDay 0 = .ok (.aload_n 0, 1) := by decide +kernel
theorem dX3_passDay_1 : decode cX3_passDay 1 = .ok (.invokevirtual 141, 3) := by decide +kernel
theorem dX3_passDay_4 : decode cX3_passDay 4 = .ok (.aload_n 0, 1) := by decide +kernel
theorem dX3_passDay_5 : decode cX3_passDay 5 = .ok (.getfield 65, 3) := by decide +kernel
theorem dX3_passDay_8 : decode cX3_passDay 8 = .ok (.ifCond .eq 14, 3) := by decide +kernel
theorem dX3_passDay_11 : decode cX3_passDay 11 = .ok (.aload_n 0, 1) := by decide +kernel
theorem dX3_passDay_12 : decode cX3_passDay 12 = .ok (.invokevirtual 144, 3) := by decide +kernel
theorem dX3_passDay_15 : decode cX3_passDay 15 = .ok (.ifCond .ne 7, 3) := by decide +kernel
theorem dX3_passDay_18 : decode cX3_passDay 18 = .ok (.aload_n 0, 1) := by decide +kernel
theorem dX3_passDay_19 : decode cX3_passDay 19 = .ok (.invokevirtual 147, 3) := by decide +kernel
theorem dX3_passDay_22 : decode cX3_passDay 22 = .ok (.aload_n 0, 1) := by decide +kernel
theorem dX3_passDay_23 : decode cX3_passDay 23 = .ok (.invokevirtual 150, 3) := by decide +kernel
theorem dX3_passDay_26 : decode cX3_passDay 26 = .ok (.return_, 1) := by decide +kernel
theorem dX3_beginDay_0 : decode cX3_beginDay 0 = .ok (.aload_n 0, 1) := by decide +kernel
theorem dX3_beginDay_1 : decode cX3_beginDay 1 = .ok (.getfield 48, 3) := by decide +kernel
theorem dX3_beginDay_4 : decode cX3_beginDay 4 = .ok (.iconst 4, 1) := by decide +kernel
theorem dX3_beginDay_5 : decode cX3_beginDay 5 = .ok (.dup2, 1) := by decide +kernel
theorem dX3_beginDay_6 : decode cX3_beginDay 6 = .ok (.iaload, 1) := by decide +kernel
theorem dX3_beginDay_7 : decode cX3_beginDay 7 = .ok (.aload_n 0, 1) := by decide +kernel
theorem dX3_beginDay_8 : decode cX3_beginDay 8 = .ok (.getfield 37, 3) := by decide +kernel
theorem dX3_beginDay_11 : decode cX3_beginDay 11 = .ok (.aload_n 0, 1) := by decide +kernel
theorem dX3_beginDay_12 : decode cX3_beginDay 12 = .ok (.getfield 61, 3) := by decide +kernel
theorem dX3_beginDay_15 : decode cX3_beginDay 15 = .ok (.aload_n 0, 1) := by decide +kernel
theorem dX3_beginDay_16 : decode cX3_beginDay 16 = .ok (.getfield 9, 3) := by decide +kernel
theorem dX3_beginDay_19 : decode cX3_beginDay 19 = .ok (.iconst 5, 1) := by decide +kernel
theorem dX3_beginDay_20 : decode cX3_beginDay 20 = .ok (.iaload, 1) := by decide +kernel
theorem dX3_beginDay_21 : decode cX3_beginDay 21 = .ok (.invokevirtual 153, 3) := by decide +kernel
theorem dX3_beginDay_24 : decode cX3_beginDay 24 = .ok (.iadd, 1) := by decide +kernel
theorem dX3_beginDay_25 : decode cX3_beginDay 25 = .ok (.iastore, 1) := by decide +kernel
theorem dX3_beginDay_26 : decode cX3_beginDay 26 = .ok (.aload_n 0, 1) := by decide +kernel
theorem dX3_beginDay_27 : decode cX3_beginDay 27 = .ok (.invokevirtual 137, 3) := by decide +kernel
theorem dX3_beginDay_30 : decode cX3_beginDay 30 = .ok (.ifCond .eq 7, 3) := by decide +kernel
theorem dX3_beginDay_33 : decode cX3_beginDay 33 = .ok (.aload_n 0, 1) := by decide +kernel
theorem dX3_beginDay_34 : decode cX3_beginDay 34 = .ok (.invokevirtual 156, 3) := by decide +kernel
theorem dX3_beginDay_37 : decode cX3_beginDay 37 = .ok (.aload_n 0, 1) := by decide +kernel
theorem dX3_beginDay_38 : decode cX3_beginDay 38 = .ok (.invokevirtual 159, 3) := by decide +kernel
theorem dX3_beginDay_41 : decode cX3_beginDay 41 = .ok (.aload_n 0, 1) := by decide +kernel
theorem dX3_beginDay_42 : decode cX3_beginDay 42 = .ok (.aload_n 0, 1) := by decide +kernel
theorem dX3_beginDay_43 : decode cX3_beginDay 43 = .ok (.getfield 61, 3) := by decide +kernel
theorem dX3_beginDay_46 : decode cX3_beginDay 46 = .ok (.invokevirtual 112, 3) := by decide +kernel
theorem dX3_beginDay_49 : decode cX3_beginDay 49 = .ok (.ifCond .eq 18, 3) := by decide +kernel
theorem dX3_beginDay_52 : decode cX3_beginDay 52 = .ok (.aload_n 0, 1) := by decide +kernel
theorem dX3_beginDay_53 : decode cX3_beginDay 53 = .ok (.invokevirtual 162, 3) := by decide +kernel
theorem dX3_beginDay_56 : decode cX3_beginDay 56 = .ok (.aload_n 0, 1) := by decide +kernel
theorem dX3_beginDay_57 : decode cX3_beginDay 57 = .ok (.aload_n 0, 1) := by decide +kernel
theorem dX3_beginDay_58 : decode cX3_beginDay 58 = .ok (.getfield 9, 3) := by decide +kernel
theorem dX3_beginDay_61 : decode cX3_beginDay 61 = .ok (.bipush 6, 2) := by decide +kernel
theorem dX3_beginDay_63 : decode cX3_beginDay 63 = .ok (.iaload, 1) := by decide +kernel
theorem dX3_beginDay_64 : decode cX3_beginDay 64 = .ok (.invokevirtual 165, 3) := by decide +kernel
theorem dX3_beginDay_67 : decode cX3_beginDay 67 = .ok (.return_, 1) := by decide +kernel
theorem dX3_endDay_0 : decode cX3_endDay 0 = .ok (.aload_n 0, 1) := by decide +kernel
theorem dX3_endDay_1 : decode cX3_endDay 1 = .ok (.invokevirtual 169, 3) := by decide +kernel
theorem dX3_endDay_4 : decode cX3_endDay 4 = .ok (.aload_n 0, 1) := by decide +kernel
theorem dX3_endDay_5 : decode cX3_endDay 5 = .ok (.invokevirtual 172, 3) := by decide +kernel
theorem dX3_endDay_8 : decode cX3_endDay 8 = .ok (.aload_n 0, 1) := by decide +kernel
theorem dX3_endDay_9 : decode cX3_endDay 9 = .ok (.dup, 1) := by decide +kernel
theorem dX3_endDay_10 : decode cX3_endDay 10 = .ok (.getfield 61, 3) := by decide +kernel
theorem dX3_endDay_13 : decode cX3_endDay 13 = .ok (.iconst 1, 1) := by decide +kernel
theorem dX3_endDay_14 : decode cX3_endDay 14 = .ok (.iadd, 1) := by decide +kernel
theorem dX3_endDay_15 : decode cX3_endDay 15 = .ok (.putfield 61, 3) := by decide +kernel
theorem dX3_endDay_18 : decode cX3_endDay 18 = .ok (.return_, 1) := by decide +kernel
theorem dX3_letGroupsLeave_0 : decode cX3_letGroupsLeave 0 = .ok (.iconst 0, 1) := by decide +kernel
theorem dX3_letGroupsLeave_1 : decode cX3_letGroupsLeave 1 = .ok (.istore_n 1, 1) := by decide +kernel
theorem dX3_letGroupsLeave_2 : decode cX3_letGroupsLeave 2 = .ok (.iload_n 1, 1) := by decide +kernel
theorem dX3_letGroupsLeave_3 : decode cX3_letGroupsLeave 3 = .ok (.aload_n 0, 1) := by decide +kernel
theorem dX3_letGroupsLeave_4 : decode cX3_letGroupsLeave 4 = .ok (.getfield 30, 3) := by decide +kernel
theorem dX3_letGroupsLeave_7 : decode cX3_letGroupsLeave 7 = .ok (.getfield 98, 3) := by decide +kernel
theorem dX3_letGroupsLeave_10 : decode cX3_letGroupsLeave 10 = .ok (.if_icmp .ge 29, 3) := by decide +kernel
theorem dX3_letGroupsLeave_13 : decode cX3_letGroupsLeave 13 = .ok (.aload_n 0, 1) := by decide +kernel
theorem dX3_letGroupsLeave_14 : decode cX3_letGroupsLeave 14 = .ok (.getfield 30, 3) := by decide +kernel
theorem dX3_letGroupsLeave_17 : decode cX3_letGroupsLeave 17 = .ok (.iload_n 1, 1) := by decide +kernel
theorem dX3_letGroupsLeave_18 : decode cX3_letGroupsLeave 18 = .ok (.aload_n 0, 1) := by decide +kernel
theorem dX3_letGroupsLeave_19 : decode cX3_letGroupsLeave 19 = .ok (.getfield 61, 3) := by decide +kernel
theorem dX3_letGroupsLeave_22 : decode cX3_letGroupsLeave 22 = .ok (.invokevirtual 134, 3) := by decide +kernel
theorem dX3_letGroupsLeave_25 : decode cX3_letGroupsLeave 25 = .ok (.ifCond .eq 8, 3) := by decide +kernel
theorem dX3_letGroupsLeave_28 : decode cX3_letGroupsLeave 28 = .ok (.aload_n 0, 1) := by decide +kernel
theorem dX3_letGroupsLeave_29 : decode cX3_letGroupsLeave 29 = .ok (.iload_n 1, 1) := by decide +kernel
theorem dX3_letGroupsLeave_30 : decode cX3_letGroupsLeave 30 = .ok (.invokevirtual 175, 3) := by decide +kernel
theorem dX3_letGroupsLeave_33 : decode cX3_letGroupsLeave 33 = .ok (.iinc 1 1, 3) := by decide +kernel
theorem dX3_letGroupsLeave_36 : decode cX3_letGroupsLeave 36 = .ok (.goto (-34), 3) := by decide +kernel
theorem dX3_letGroupsLeave_39 : decode cX3_letGroupsLeave 39 = .ok (.return_, 1) := by decide +kernel
theorem dX3_letLeave_0 : decode cX3_letLeave 0 = .ok (.aload_n 0, 1) := by decide +kernel
theorem dX3_letLeave_1 : decode cX3_letLeave 1 = .ok (.getfield 30, 3) := by decide +kernel
theorem dX3_letLeave_4 : decode cX3_letLeave 4 = .ok (.iload_n 1, 1) := by decide +kernel
theorem dX3_letLeave_5 : decode cX3_letLeave 5 = .ok (.invokevirtual 125, 3) := by decide +kernel
theorem dX3_letLeave_8 : decode cX3_letLeave 8 = .ok (.aload_n 0, 1) := by decide +kernel
theorem dX3_letLeave_9 : decode cX3_letLeave 9 = .ok (.getfield 30, 3) := by decide +kernel
theorem dX3_letLeave_12 : decode cX3_letLeave 12 = .ok (.getfield 178, 3) := by decide +kernel
theorem dX3_letLeave_15 : decode cX3_letLeave 15 = .ok (.iload_n 1, 1) := by decide +kernel
theorem dX3_letLeave_16 : decode cX3_letLeave 16 = .ok (.iaload, 1) := by decide +kernel
theorem dX3_letLeave_17 : decode cX3_letLeave 17 = .ok (.isub, 1) := by decide +kernel
theorem dX3_letLeave_18 : decode cX3_letLeave 18 = .ok (.istore_n 2, 1) := by decide +kernel
theorem dX3_letLeave_19 : decode cX3_letLeave 19 = .ok (.aload_n 0, 1) := by decide +kernel
theorem dX3_letLeave_20 : decode cX3_letLeave 20 = .ok (.dup, 1) := by decide +kernel
theorem dX3_letLeave_21 : decode cX3_letLeave 21 = .ok (.getfield 69, 3) := by decide +kernel
theorem dX3_letLeave_24 : decode cX3_letLeave 24 = .ok (.aload_n 0, 1) := by decide +kernel
theorem dX3_letLeave_25 : decode cX3_letLeave 25 = .ok (.getfield 9, 3) := by decide +kernel
theorem dX3_letLeave_28 : decode cX3_letLeave 28 = .ok (.iconst 2, 1) := by decide +kernel
theorem dX3_letLeave_29 : decode cX3_letLeave 29 = .ok (.iaload, 1) := by decide +kernel
theorem dX3_letLeave_30 : decode cX3_letLeave 30 = .ok (.aload_n 0, 1) := by decide +kernel
theorem dX3_letLeave_31 : decode cX3_letLeave 31 = .ok (.getfield 30, 3) := by decide +kernel
theorem dX3_letLeave_34 : decode cX3_letLeave 34 = .ok (.getfield 131, 3) := by decide +kernel
theorem dX3_letLeave_37 : decode cX3_letLeave 37 = .ok (.iload_n 1, 1) := by decide +kernel
theorem dX3_letLeave_38 : decode cX3_letLeave 38 = .ok (.iaload, 1) := by decide +kernel
theorem dX3_letLeave_39 : decode cX3_letLeave 39 = .ok (.imul, 1) := by decide +kernel
theorem dX3_letLeave_40 : decode cX3_letLeave 40 = .ok (.iload_n 2, 1) := by decide +kernel
theorem dX3_letLeave_41 : decode cX3_letLeave 41 = .ok (.imul, 1) := by decide +kernel
theorem dX3_letLeave_42 : decode cX3_letLeave 42 = .ok (.aload_n 0, 1) := by decide +kernel
theorem dX3_letLeave_43 : decode cX3_letLeave 43 = .ok (.getfield 30, 3) := by decide +kernel
theorem dX3_letLeave_46 : decode cX3_letLeave 46 = .ok (.getfield 116, 3) := by decide +kernel
theorem dX3_letLeave_49 : decode cX3_letLeave 49 = .ok (.iload_n 1, 1) := by decide +kernel
theorem dX3_letLeave_50 : decode cX3_letLeave 50 = .ok (.iaload, 1) := by decide +kernel
theorem dX3_letLeave_51 : decode cX3_letLeave 51 = .ok (.isub, 1) := by decide +kernel
theorem dX3_letLeave_52 : decode cX3_letLeave 52 = .ok (.iadd, 1) := by decide +kernel
theorem dX3_letLeave_53 : decode cX3_letLeave 53 = .ok (.putfield 69, 3) := by decide +kernel
theorem dX3_letLeave_56 : decode cX3_letLeave 56 = .ok (.aload_n 0, 1) := by decide +kernel
theorem dX3_letLeave_57 : decode cX3_letLeave 57 = .ok (.getfield 30, 3) := by decide +kernel
theorem dX3_letLeave_60 : decode cX3_letLeave 60 = .ok (.getfield 122, 3) := by decide +kernel
theorem dX3_letLeave_63 : decode cX3_letLeave 63 = .ok (.iload_n 1, 1) := by decide +kernel
theorem dX3_letLeave_64 : decode cX3_letLeave 64 = .ok (.iconst 2, 1) := by decide +kernel
theorem dX3_letLeave_65 : decode cX3_letLeave 65 = .ok (.iastore, 1) := by decide +kernel
theorem dX3_letLeave_66 : decode cX3_letLeave 66 = .ok (.return_, 1) := by decide +kernel
theorem dX3_turnLateOnesAway_0 : decode cX3_turnLateOnesAway 0 = .ok (.iconst 0, 1) := by decide +kernel
theorem dX3_turnLateOnesAway_1 : decode cX3_turnLateOnesAway 1 = .ok (.istore_n 1, 1) := by decide +kernel
theorem dX3_turnLateOnesAway_2 : decode cX3_turnLateOnesAway 2 = .ok (.iload_n 1, 1) := by decide +kernel
theorem dX3_turnLateOnesAway_3 : decode cX3_turnLateOnesAway 3 = .ok (.aload_n 0, 1) := by decide +kernel
theorem dX3_turnLateOnesAway_4 : decode cX3_turnLateOnesAway 4 = .ok (.getfield 30, 3) := by decide +kernel
theorem dX3_turnLateOnesAway_7 : decode cX3_turnLateOnesAway 7 = .ok (.getfield 98, 3) := by decide +kernel
theorem dX3_turnLateOnesAway_10 : decode cX3_turnLateOnesAway 10 = .ok (.if_icmp .ge 41, 3) := by decide +kernel
theorem dX3_turnLateOnesAway_13 : decode cX3_turnLateOnesAway 13 = .ok (.aload_n 0, 1) := by decide +kernel
theorem dX3_turnLateOnesAway_14 : decode cX3_turnLateOnesAway 14 = .ok (.getfield 30, 3) := by decide +kernel
theorem dX3_turnLateOnesAway_17 : decode cX3_turnLateOnesAway 17 = .ok (.getfield 122, 3) := by decide +kernel
theorem dX3_turnLateOnesAway_20 : decode cX3_turnLateOnesAway 20 = .ok (.iload_n 1, 1) := by decide +kernel
theorem dX3_turnLateOnesAway_21 : decode cX3_turnLateOnesAway 21 = .ok (.iaload, 1) := by decide +kernel
theorem dX3_turnLateOnesAway_22 : decode cX3_turnLateOnesAway 22 = .ok (.ifCond .ne 23, 3) := by decide +kernel
theorem dX3_turnLateOnesAway_25 : decode cX3_turnLateOnesAway 25 = .ok (.aload_n 0, 1) := by decide +kernel
theorem dX3_turnLateOnesAway_26 : decode cX3_turnLateOnesAway 26 = .ok (.getfield 30, 3) := by decide +kernel
theorem dX3_turnLateOnesAway_29 : decode cX3_turnLateOnesAway 29 = .ok (.iload_n 1, 1) := by decide +kernel
theorem dX3_turnLateOnesAway_30 : decode cX3_turnLateOnesAway 30 = .ok (.invokevirtual 125, 3) := by decide +kernel
theorem dX3_turnLateOnesAway_33 : decode cX3_turnLateOnesAway 33 = .ok (.aload_n 0, 1) := by decide +kernel
theorem dX3_turnLateOnesAway_34 : decode cX3_turnLateOnesAway 34 = .ok (.getfield 61, 3) := by decide +kernel
theorem dX3_turnLateOnesAway_37 : decode cX3_turnLateOnesAway 37 = .ok (.if_icmp .gt 8, 3) := by decide +kernel
theorem dX3_turnLateOnesAway_40 : decode cX3_turnLateOnesAway 40 = .ok (.aload_n 0, 1) := by decide +kernel
theorem dX3_turnLateOnesAway_41 : decode cX3_turnLateOnesAway 41 = .ok (.iload_n 1, 1) := by decide +kernel
theorem dX3_turnLateOnesAway_42 : decode cX3_turnLateOnesAway 42 = .ok (.invokevirtual 181, 3) := by decide +kernel
theorem dX3_turnLateOnesAway_45 : decode cX3_turnLateOnesAway 45 = .ok (.iinc 1 1, 3) := by decide +kernel
theorem dX3_turnLateOnesAway_48 : decode cX3_turnLateOnesAway 48 = .ok (.goto (-46), 3) := by decide +kernel
theorem dX3_turnLateOnesAway_51 : decode cX3_turnLateOnesAway 51 = .ok (.return_, 1) := by decide +kernel
theorem dX3_turnAway_0 : decode cX3_turnAway 0 = .ok (.aload_n 0, 1) := by decide +kernel
theorem dX3_turnAway_1 : decode cX3_turnAway 1 = .ok (.getfield 30, 3) := by decide +kernel
theorem dX3_turnAway_4 : decode cX3_turnAway 4 = .ok (.getfield 122, 3) := by decide +kernel
theorem dX3_turnAway_7 : decode cX3_turnAway 7 = .ok (.iload_n 1, 1) := by decide +kernel
theorem dX3_turnAway_8 : decode cX3_turnAway 8 = .ok (.iconst 4, 1) := by decide +kernel
theorem dX3_turnAway_9 : decode cX3_turnAway 9 = .ok (.iastore, 1) := by decide +kernel
theorem dX3_turnAway_10 : decode cX3_turnAway 10 = .ok (.aload_n 0, 1) := by decide +kernel
theorem dX3_turnAway_11 : decode cX3_turnAway 11 = .ok (.dup, 1) := by decide +kernel
theorem dX3_turnAway_12 : decode cX3_turnAway 12 = .ok (.getfield 69, 3) := by decide +kernel
theorem dX3_turnAway_15 : decode cX3_turnAway 15 = .ok (.aload_n 0, 1) := by decide +kernel
theorem dX3_turnAway_16 : decode cX3_turnAway 16 = .ok (.getfield 30, 3) := by decide +kernel
theorem dX3_turnAway_19 : decode cX3_turnAway 19 = .ok (.getfield 116, 3) := by decide +kernel
theorem dX3_turnAway_22 : decode cX3_turnAway 22 = .ok (.iload_n 1, 1) := by decide +kernel
theorem dX3_turnAway_23 : decode cX3_turnAway 23 = .ok (.iaload, 1) := by decide +kernel
theorem dX3_turnAway_24 : decode cX3_turnAway 24 = .ok (.isub, 1) := by decide +kernel
theorem dX3_turnAway_25 : decode cX3_turnAway 25 = .ok (.putfield 69, 3) := by decide +kernel
theorem dX3_turnAway_28 : decode cX3_turnAway 28 = .ok (.aload_n 0, 1) := by decide +kernel
theorem dX3_turnAway_29 : decode cX3_turnAway 29 = .ok (.getfield 48, 3) := by decide +kernel
theorem dX3_turnAway_32 : decode cX3_turnAway 32 = .ok (.bipush 8, 2) := by decide +kernel
theorem dX3_turnAway_34 : decode cX3_turnAway 34 = .ok (.dup2, 1) := by decide +kernel
theorem dX3_turnAway_35 : decode cX3_turnAway 35 = .ok (.iaload, 1) := by decide +kernel
theorem dX3_turnAway_36 : decode cX3_turnAway 36 = .ok (.aload_n 0, 1) := by decide +kernel
theorem dX3_turnAway_37 : decode cX3_turnAway 37 = .ok (.getfield 30, 3) := by decide +kernel
theorem dX3_turnAway_40 : decode cX3_turnAway 40 = .ok (.getfield 131, 3) := by decide +kernel
theorem dX3_turnAway_43 : decode cX3_turnAway 43 = .ok (.iload_n 1, 1) := by decide +kernel
theorem dX3_turnAway_44 : decode cX3_turnAway 44 = .ok (.iaload, 1) := by decide +kernel
theorem dX3_turnAway_45 : decode cX3_turnAway 45 = .ok (.iadd, 1) := by decide +kernel
theorem dX3_turnAway_46 : decode cX3_turnAway 46 = .ok (.iastore, 1) := by decide +kernel
theorem dX3_turnAway_47 : decode cX3_turnAway 47 = .ok (.return_, 1) := by decide +kernel
theorem dX3_letGroupsCome_0 : decode cX3_letGroupsCome 0 = .ok (.aload_n 0, 1) := by decide +kernel
theorem dX3_letGroupsCome_1 : decode cX3_letGroupsCome 1 = .ok (.getfield 9, 3) := by decide +kernel
theorem dX3_letGroupsCome_4 : decode cX3_letGroupsCome 4 = .ok (.iconst 0, 1) := by decide +kernel
theorem dX3_letGroupsCome_5 : decode cX3_letGroupsCome 5 = .ok (.iaload, 1) := by decide +kernel
theorem dX3_letGroupsCome_6 : decode cX3_letGroupsCome 6 = .ok (.aload_n 0, 1) := by decide +kernel
theorem dX3_letGroupsCome_7 : decode cX3_letGroupsCome 7 = .ok (.getfield 9, 3) := by decide +kernel
theorem dX3_letGroupsCome_10 : decode cX3_letGroupsCome 10 = .ok (.iconst 1, 1) := by decide +kernel
theorem dX3_letGroupsCome_11 : decode cX3_letGroupsCome 11 = .ok (.iaload, 1) := by decide +kernel
theorem dX3_letGroupsCome_12 : decode cX3_letGroupsCome 12 = .ok (.iadd, 1) := by decide +kernel
theorem dX3_letGroupsCome_13 : decode cX3_letGroupsCome 13 = .ok (.istore_n 1, 1) := by decide +kernel
theorem dX3_letGroupsCome_14 : decode cX3_letGroupsCome 14 = .ok (.aload_n 0, 1) := by decide +kernel
theorem dX3_letGroupsCome_15 : decode cX3_letGroupsCome 15 = .ok (.getfield 30, 3) := by decide +kernel
theorem dX3_letGroupsCome_18 : decode cX3_letGroupsCome 18 = .ok (.invokevirtual 184, 3) := by decide +kernel
theorem dX3_letGroupsCome_21 : decode cX3_letGroupsCome 21 = .ok (.istore_n 2, 1) := by decide +kernel
theorem dX3_letGroupsCome_22 : decode cX3_letGroupsCome 22 = .ok (.iconst 0, 1) := by decide +kernel
theorem dX3_letGroupsCome_23 : decode cX3_letGroupsCome 23 = .ok (.istore_n 3, 1) := by decide +kernel
theorem dX3_letGroupsCome_24 : decode cX3_letGroupsCome 24 = .ok (.iload_n 3, 1) := by decide +kernel
theorem dX3_letGroupsCome_25 : decode cX3_letGroupsCome 25 = .ok (.aload_n 0, 1) := by decide +kernel
theorem dX3_letGroupsCome_26 : decode cX3_letGroupsCome 26 = .ok (.getfield 30, 3) := by decide +kernel
theorem dX3_letGroupsCome_29 : decode cX3_letGroupsCome 29 = .ok (.getfield 98, 3) := by decide +kernel
theorem dX3_letGroupsCome_32 : decode cX3_letGroupsCome 32 = .ok (.if_icmp .ge 98, 3) := by decide +kernel
theorem dX3_letGroupsCome_35 : decode cX3_letGroupsCome 35 = .ok (.aload_n 0, 1) := by decide +kernel
theorem dX3_letGroupsCome_36 : decode cX3_letGroupsCome 36 = .ok (.getfield 30, 3) := by decide +kernel
theorem dX3_letGroupsCome_39 : decode cX3_letGroupsCome 39 = .ok (.getfield 122, 3) := by decide +kernel
theorem dX3_letGroupsCome_42 : decode cX3_letGroupsCome 42 = .ok (.iload_n 3, 1) := by decide +kernel
theorem dX3_letGroupsCome_43 : decode cX3_letGroupsCome 43 = .ok (.iaload, 1) := by decide +kernel
theorem dX3_letGroupsCome_44 : decode cX3_letGroupsCome 44 = .ok (.ifCond .ne 80, 3) := by decide +kernel
theorem dX3_letGroupsCome_47 : decode cX3_letGroupsCome 47 = .ok (.aload_n 0, 1) := by decide +kernel
theorem dX3_letGroupsCome_48 : decode cX3_letGroupsCome 48 = .ok (.getfield 30, 3) := by decide +kernel
theorem dX3_letGroupsCome_51 : decode cX3_letGroupsCome 51 = .ok (.getfield 109, 3) := by decide +kernel
theorem dX3_letGroupsCome_54 : decode cX3_letGroupsCome 54 = .ok (.iload_n 3, 1) := by decide +kernel
theorem dX3_letGroupsCome_55 : decode cX3_letGroupsCome 55 = .ok (.iaload, 1) := by decide +kernel
theorem dX3_letGroupsCome_56 : decode cX3_letGroupsCome 56 = .ok (.aload_n 0, 1) := by decide +kernel
theorem dX3_letGroupsCome_57 : decode cX3_letGroupsCome 57 = .ok (.getfield 61, 3) := by decide +kernel
theorem dX3_letGroupsCome_60 : decode cX3_letGroupsCome 60 = .ok (.if_icmp .le 6, 3) := by decide +kernel
theorem dX3_letGroupsCome_63 : decode cX3_letGroupsCome 63 = .ok (.goto 61, 3) := by decide +kernel
theorem dX3_letGroupsCome_66 : decode cX3_letGroupsCome 66 = .ok (.iload_n 2, 1) := by decide +kernel
theorem dX3_letGroupsCome_67 : decode cX3_letGroupsCome 67 = .ok (.aload_n 0, 1) := by decide +kernel
theorem dX3_letGroupsCome_68 : decode cX3_letGroupsCome 68 = .ok (.getfield 30, 3) := by decide +kernel
theorem dX3_letGroupsCome_71 : decode cX3_letGroupsCome 71 = .ok (.getfield 131, 3) := by decide +kernel
theorem dX3_letGroupsCome_74 : decode cX3_letGroupsCome 74 = .ok (.iload_n 3, 1) := by decide +kernel
theorem dX3_letGroupsCome_75 : decode cX3_letGroupsCome 75 = .ok (.iaload, 1) := by decide +kernel
theorem dX3_letGroupsCome_76 : decode cX3_letGroupsCome 76 = .ok (.iadd, 1) := by decide +kernel
theorem dX3_letGroupsCome_77 : decode cX3_letGroupsCome 77 = .ok (.iload_n 1, 1) := by decide +kernel
theorem dX3_letGroupsCome_78 : decode cX3_letGroupsCome 78 = .ok (.if_icmp .gt 41, 3) := by decide +kernel
theorem dX3_letGroupsCome_81 : decode cX3_letGroupsCome 81 = .ok (.aload_n 0, 1) := by decide +kernel
theorem dX3_letGroupsCome_82 : decode cX3_letGroupsCome 82 = .ok (.getfield 30, 3) := by decide +kernel
theorem dX3_letGroupsCome_85 : decode cX3_letGroupsCome 85 = .ok (.getfield 122, 3) := by decide +kernel
theorem dX3_letGroupsCome_88 : decode cX3_letGroupsCome 88 = .ok (.iload_n 3, 1) := by decide +kernel
theorem dX3_letGroupsCome_89 : decode cX3_letGroupsCome 89 = .ok (.iconst 1, 1) := by decide +kernel
theorem dX3_letGroupsCome_90 : decode cX3_letGroupsCome 90 = .ok (.iastore, 1) := by decide +kernel
theorem dX3_letGroupsCome_91 : decode cX3_letGroupsCome 91 = .ok (.aload_n 0, 1) := by decide +kernel
theorem dX3_letGroupsCome_92 : decode cX3_letGroupsCome 92 = .ok (.getfield 30, 3) := by decide +kernel
theorem dX3_letGroupsCome_95 : decode cX3_letGroupsCome 95 = .ok (.getfield 178, 3) := by decide +kernel
theorem dX3_letGroupsCome_98 : decode cX3_letGroupsCome 98 = .ok (.iload_n 3, 1) := by decide +kernel
theorem dX3_letGroupsCome_99 : decode cX3_letGroupsCome 99 = .ok (.aload_n 0, 1) := by decide +kernel
theorem dX3_letGroupsCome_100 : decode cX3_letGroupsCome 100 = .ok (.getfield 61, 3) := by decide +kernel
theorem dX3_letGroupsCome_103 : decode cX3_letGroupsCome 103 = .ok (.iastore, 1) := by decide +kernel
theorem dX3_letGroupsCome_104 : decode cX3_letGroupsCome 104 = .ok (.iload_n 2, 1) := by decide +kernel
theorem dX3_letGroupsCome_105 : decode cX3_letGroupsCome 105 = .ok (.aload_n 0, 1) := by decide +kernel
theorem dX3_letGroupsCome_106 : decode cX3_letGroupsCome 106 = .ok (.getfield 30, 3) := by decide +kernel
theorem dX3_letGroupsCome_109 : decode cX3_letGroupsCome 109 = .ok (.getfield 131, 3) := by decide +kernel
theorem dX3_letGroupsCome_112 : decode cX3_letGroupsCome 112 = .ok (.iload_n 3, 1) := by decide +kernel
theorem dX3_letGroupsCome_113 : decode cX3_letGroupsCome 113 = .ok (.iaload, 1) := by decide +kernel
theorem dX3_letGroupsCome_114 : decode cX3_letGroupsCome 114 = .ok (.iadd, 1) := by decide +kernel
theorem dX3_letGroupsCome_115 : decode cX3_letGroupsCome 115 = .ok (.istore_n 2, 1) := by decide +kernel
theorem dX3_letGroupsCome_116 : decode cX3_letGroupsCome 116 = .ok (.goto 8, 3) := by decide +kernel
theorem dX3_letGroupsCome_119 : decode cX3_letGroupsCome 119 = .ok (.aload_n 0, 1) := by decide +kernel
theorem dX3_letGroupsCome_120 : decode cX3_letGroupsCome 120 = .ok (.iload_n 3, 1) := by decide +kernel
theorem dX3_letGroupsCome_121 : decode cX3_letGroupsCome 121 = .ok (.invokevirtual 181, 3) := by decide +kernel
theorem dX3_letGroupsCome_124 : decode cX3_letGroupsCome 124 = .ok (.iinc 3 1, 3) := by decide +kernel
theorem dX3_letGroupsCome_127 : decode cX3_letGroupsCome 127 = .ok (.goto (-103), 3) := by decide +kernel
theorem dX3_letGroupsCome_130 : decode cX3_letGroupsCome 130 = .ok (.return_, 1) := by decide +kernel
theorem dX3_bring_0 : decode cX3_bring 0 = .ok (.iload_n 1, 1) := by decide +kernel
theorem dX3_bring_1 : decode cX3_bring 1 = .ok (.istore_n 2, 1) := by decide +kernel
theorem dX3_bring_2 : decode cX3_bring 2 = .ok (.iconst 0, 1) := by decide +kernel
theorem dX3_bring_3 : decode cX3_bring 3 = .ok (.istore_n 3, 1) := by decide +kernel
theorem dX3_bring_4 : decode cX3_bring 4 = .ok (.iload_n 3, 1) := by decide +kernel
theorem dX3_bring_5 : decode cX3_bring 5 = .ok (.bipush 12, 2) := by decide +kernel
theorem dX3_bring_7 : decode cX3_bring 7 = .ok (.if_icmp .ge 75, 3) := by decide +kernel
theorem dX3_bring_10 : decode cX3_bring 10 = .ok (.iload_n 2, 1) := by decide +kernel
theorem dX3_bring_11 : decode cX3_bring 11 = .ok (.ifCond .le 71, 3) := by decide +kernel
theorem dX3_bring_14 : decode cX3_bring 14 = .ok (.aload_n 0, 1) := by decide +kernel
theorem dX3_bring_15 : decode cX3_bring 15 = .ok (.getfield 44, 3) := by decide +kernel
theorem dX3_bring_18 : decode cX3_bring 18 = .ok (.getfield 188, 3) := by decide +kernel
theorem dX3_bring_21 : decode cX3_bring 21 = .ok (.ifCond .le 61, 3) := by decide +kernel
theorem dX3_bring_24 : decode cX3_bring 24 = .ok (.aload_n 0, 1) := by decide +kernel
theorem dX3_bring_25 : decode cX3_bring 25 = .ok (.getfield 44, 3) := by decide +kernel
theorem dX3_bring_28 : decode cX3_bring 28 = .ok (.getfield 191, 3) := by decide +kernel
theorem dX3_bring_31 : decode cX3_bring 31 = .ok (.iconst 0, 1) := by decide +kernel
theorem dX3_bring_32 : decode cX3_bring 32 = .ok (.iaload, 1) := by decide +kernel
theorem dX3_bring_33 : decode cX3_bring 33 = .ok (.istore 4, 2) := by decide +kernel
theorem dX3_bring_35 : decode cX3_bring 35 = .ok (.aload_n 0, 1) := by decide +kernel
theorem dX3_bring_36 : decode cX3_bring 36 = .ok (.getfield 44, 3) := by decide +kernel
theorem dX3_bring_39 : decode cX3_bring 39 = .ok (.iload_n 2, 1) := by decide +kernel
theorem dX3_bring_40 : decode cX3_bring 40 = .ok (.invokevirtual 194, 3) := by decide +kernel
theorem dX3_bring_43 : decode cX3_bring 43 = .ok (.istore 5, 2) := by decide +kernel
theorem dX3_bring_45 : decode cX3_bring 45 = .ok (.aload_n 0, 1) := by decide +kernel
theorem dX3_bring_46 : decode cX3_bring 46 = .ok (.getfield 37, 3) := by decide +kernel
theorem dX3_bring_49 : decode cX3_bring 49 = .ok (.iload 4, 2) := by decide +kernel
theorem dX3_bring_51 : decode cX3_bring 51 = .ok (.iload 5, 2) := by decide +kernel
theorem dX3_bring_53 : decode cX3_bring 53 = .ok (.aload_n 0, 1) := by decide +kernel
theorem dX3_bring_54 : decode cX3_bring 54 = .ok (.getfield 61, 3) := by decide +kernel
theorem dX3_bring_57 : decode cX3_bring 57 = .ok (.invokevirtual 197, 3) := by decide +kernel
theorem dX3_bring_60 : decode cX3_bring 60 = .ok (.aload_n 0, 1) := by decide +kernel
theorem dX3_bring_61 : decode cX3_bring 61 = .ok (.getfield 48, 3) := by decide +kernel
theorem dX3_bring_64 : decode cX3_bring 64 = .ok (.iconst 2, 1) := by decide +kernel
theorem dX3_bring_65 : decode cX3_bring 65 = .ok (.dup2, 1) := by decide +kernel
theorem dX3_bring_66 : decode cX3_bring 66 = .ok (.iaload, 1) := by decide +kernel
theorem dX3_bring_67 : decode cX3_bring 67 = .ok (.iload 5, 2) := by decide +kernel
theorem dX3_bring_69 : decode cX3_bring 69 = .ok (.iadd, 1) := by decide +kernel
theorem dX3_bring_70 : decode cX3_bring 70 = .ok (.iastore, 1) := by decide +kernel
theorem dX3_bring_71 : decode cX3_bring 71 = .ok (.iload_n 2, 1) := by decide +kernel
theorem dX3_bring_72 : decode cX3_bring 72 = .ok (.iload 5, 2) := by decide +kernel
theorem dX3_bring_74 : decode cX3_bring 74 = .ok (.isub, 1) := by decide +kernel
theorem dX3_bring_75 : decode cX3_bring 75 = .ok (.istore_n 2, 1) := by decide +kernel
theorem dX3_bring_76 : decode cX3_bring 76 = .ok (.iinc 3 1, 3) := by decide +kernel
theorem dX3_bring_79 : decode cX3_bring 79 = .ok (.goto (-75), 3) := by decide +kernel
theorem dX3_bring_82 : decode cX3_bring 82 = .ok (.return_, 1) := by decide +kernel
theorem dX3_fly_0 : decode cX3_fly 0 = .ok (.aload_n 0, 1) := by decide +kernel
theorem dX3_fly_1 : decode cX3_fly 1 = .ok (.aload_n 0, 1) := by decide +kernel
theorem dX3_fly_2 : decode cX3_fly 2 = .ok (.getfield 9, 3) := by decide +kernel
theorem dX3_fly_5 : decode cX3_fly 5 = .ok (.bipush 7, 2) := by decide +kernel
theorem dX3_fly_7 : decode cX3_fly 7 = .ok (.iaload, 1) := by decide +kernel
theorem dX3_fly_8 : decode cX3_fly 8 = .ok (.invokevirtual 165, 3) := by decide +kernel
theorem dX3_fly_11 : decode cX3_fly 11 = .ok (.aload_n 0, 1) := by decide +kernel
theorem dX3_fly_12 : decode cX3_fly 12 = .ok (.getfield 48, 3) := by decide +kernel
theorem dX3_fly_15 : decode cX3_fly 15 = .ok (.iconst 1, 1) := by decide +kernel
theorem dX3_fly_16 : decode cX3_fly 16 = .ok (.dup2, 1) := by decide +kernel
theorem dX3_fly_17 : decode cX3_fly 17 = .ok (.iaload, 1) := by decide +kernel
theorem dX3_fly_18 : decode cX3_fly 18 = .ok (.aload_n 0, 1) := by decide +kernel
theorem dX3_fly_19 : decode cX3_fly 19 = .ok (.iconst 1, 1) := by decide +kernel
theorem dX3_fly_20 : decode cX3_fly 20 = .ok (.invokevirtual 201, 3) := by decide +kernel
theorem dX3_fly_23 : decode cX3_fly 23 = .ok (.iadd, 1) := by decide +kernel
theorem dX3_fly_24 : decode cX3_fly 24 = .ok (.iastore, 1) := by decide +kernel
theorem dX3_fly_25 : decode cX3_fly 25 = .ok (.aload_n 0, 1) := by decide +kernel
theorem dX3_fly_26 : decode cX3_fly 26 = .ok (.getfield 48, 3) := by decide +kernel
theorem dX3_fly_29 : decode cX3_fly 29 = .ok (.iconst 0, 1) := by decide +kernel
theorem dX3_fly_30 : decode cX3_fly 30 = .ok (.dup2, 1) := by decide +kernel
theorem dX3_fly_31 : decode cX3_fly 31 = .ok (.iaload, 1) := by decide +kernel
theorem dX3_fly_32 : decode cX3_fly 32 = .ok (.iconst 1, 1) := by decide +kernel
theorem dX3_fly_33 : decode cX3_fly 33 = .ok (.iadd, 1) := by decide +kernel
theorem dX3_fly_34 : decode cX3_fly 34 = .ok (.iastore, 1) := by decide +kernel
theorem dX3_fly_35 : decode cX3_fly 35 = .ok (.aload_n 0, 1) := by decide +kernel
theorem dX3_fly_36 : decode cX3_fly 36 = .ok (.dup, 1) := by decide +kernel
theorem dX3_fly_37 : decode cX3_fly 37 = .ok (.getfield 69, 3) := by decide +kernel
theorem dX3_fly_40 : decode cX3_fly 40 = .ok (.aload_n 0, 1) := by decide +kernel
theorem dX3_fly_41 : decode cX3_fly 41 = .ok (.getfield 9, 3) := by decide +kernel
theorem dX3_fly_44 : decode cX3_fly 44 = .ok (.bipush 9, 2) := by decide +kernel
theorem dX3_fly_46 : decode cX3_fly 46 = .ok (.iaload, 1) := by decide +kernel
theorem dX3_fly_47 : decode cX3_fly 47 = .ok (.isub, 1) := by decide +kernel
theorem dX3_fly_48 : decode cX3_fly 48 = .ok (.putfield 69, 3) := by decide +kernel
theorem dX3_fly_51 : decode cX3_fly 51 = .ok (.aload_n 0, 1) := by decide +kernel
theorem dX3_fly_52 : decode cX3_fly 52 = .ok (.dup, 1) := by decide +kernel
theorem dX3_fly_53 : decode cX3_fly 53 = .ok (.getfield 75, 3) := by decide +kernel
theorem dX3_fly_56 : decode cX3_fly 56 = .ok (.aload_n 0, 1) := by decide +kernel
theorem dX3_fly_57 : decode cX3_fly 57 = .ok (.getfield 9, 3) := by decide +kernel
theorem dX3_fly_60 : decode cX3_fly 60 = .ok (.bipush 9, 2) := by decide +kernel
theorem dX3_fly_62 : decode cX3_fly 62 = .ok (.iaload, 1) := by decide +kernel
theorem dX3_fly_63 : decode cX3_fly 63 = .ok (.iadd, 1) := by decide +kernel
theorem dX3_fly_64 : decode cX3_fly 64 = .ok (.putfield 75, 3) := by decide +kernel
theorem dX3_fly_67 : decode cX3_fly 67 = .ok (.aload_n 0, 1) := by decide +kernel
theorem dX3_fly_68 : decode cX3_fly 68 = .ok (.iconst 0, 1) := by decide +kernel
theorem dX3_fly_69 : decode cX3_fly 69 = .ok (.putfield 65, 3) := by decide +kernel
theorem dX3_fly_72 : decode cX3_fly 72 = .ok (.return_, 1) := by decide +kernel
theorem dX3_fillSeats_0 : decode cX3_fillSeats 0 = .ok (.iconst 0, 1) := by decide +kernel
theorem dX3_fillSeats_1 : decode cX3_fillSeats 1 = .ok (.istore_n 2, 1) := by decide +kernel
theorem dX3_fillSeats_2 : decode cX3_fillSeats 2 = .ok (.iconst 0, 1) := by decide +kernel
theorem dX3_fillSeats_3 : decode cX3_fillSeats 3 = .ok (.istore_n 3, 1) := by decide +kernel
theorem dX3_fillSeats_4 : decode cX3_fillSeats 4 = .ok (.iload_n 3, 1) := by decide +kernel
theorem dX3_fillSeats_5 : decode cX3_fillSeats 5 = .ok (.aload_n 0, 1) := by decide +kernel
theorem dX3_fillSeats_6 : decode cX3_fillSeats 6 = .ok (.getfield 30, 3) := by decide +kernel
theorem dX3_fillSeats_9 : decode cX3_fillSeats 9 = .ok (.getfield 98, 3) := by decide +kernel
theorem dX3_fillSeats_12 : decode cX3_fillSeats 12 = .ok (.if_icmp .ge 66, 3) := by decide +kernel
theorem dX3_fillSeats_15 : decode cX3_fillSeats 15 = .ok (.aload_n 0, 1) := by decide +kernel
theorem dX3_fillSeats_16 : decode cX3_fillSeats 16 = .ok (.getfield 30, 3) := by decide +kernel
theorem dX3_fillSeats_19 : decode cX3_fillSeats 19 = .ok (.iload_n 3, 1) := by decide +kernel
theorem dX3_fillSeats_20 : decode cX3_fillSeats 20 = .ok (.aload_n 0, 1) := by decide +kernel
theorem dX3_fillSeats_21 : decode cX3_fillSeats 21 = .ok (.getfield 61, 3) := by decide +kernel
theorem dX3_fillSeats_24 : decode cX3_fillSeats 24 = .ok (.invokevirtual 134, 3) := by decide +kernel
theorem dX3_fillSeats_27 : decode cX3_fillSeats 27 = .ok (.ifCond .eq 45, 3) := by decide +kernel
theorem dX3_fillSeats_30 : decode cX3_fillSeats 30 = .ok (.iload_n 2, 1) := by decide +kernel
theorem dX3_fillSeats_31 : decode cX3_fillSeats 31 = .ok (.aload_n 0, 1) := by decide +kernel
theorem dX3_fillSeats_32 : decode cX3_fillSeats 32 = .ok (.getfield 30, 3) := by decide +kernel
theorem dX3_fillSeats_35 : decode cX3_fillSeats 35 = .ok (.getfield 131, 3) := by decide +kernel
theorem dX3_fillSeats_38 : decode cX3_fillSeats 38 = .ok (.iload_n 3, 1) := by decide +kernel
theorem dX3_fillSeats_39 : decode cX3_fillSeats 39 = .ok (.iaload, 1) := by decide +kernel
theorem dX3_fillSeats_40 : decode cX3_fillSeats 40 = .ok (.iadd, 1) := by decide +kernel
theorem dX3_fillSeats_41 : decode cX3_fillSeats 41 = .ok (.aload_n 0, 1) := by decide +kernel
theorem dX3_fillSeats_42 : decode cX3_fillSeats 42 = .ok (.getfield 9, 3) := by decide +kernel
theorem dX3_fillSeats_45 : decode cX3_fillSeats 45 = .ok (.bipush 8, 2) := by decide +kernel
theorem dX3_fillSeats_47 : decode cX3_fillSeats 47 = .ok (.iaload, 1) := by decide +kernel
theorem dX3_fillSeats_48 : decode cX3_fillSeats 48 = .ok (.if_icmp .gt 24, 3) := by decide +kernel
theorem dX3_fillSeats_51 : decode cX3_fillSeats 51 = .ok (.iload_n 2, 1) := by decide +kernel
theorem dX3_fillSeats_52 : decode cX3_fillSeats 52 = .ok (.aload_n 0, 1) := by decide +kernel
theorem dX3_fillSeats_53 : decode cX3_fillSeats 53 = .ok (.getfield 30, 3) := by decide +kernel
theorem dX3_fillSeats_56 : decode cX3_fillSeats 56 = .ok (.getfield 131, 3) := by decide +kernel
theorem dX3_fillSeats_59 : decode cX3_fillSeats 59 = .ok (.iload_n 3, 1) := by decide +kernel
theorem dX3_fillSeats_60 : decode cX3_fillSeats 60 = .ok (.iaload, 1) := by decide +kernel
theorem dX3_fillSeats_61 : decode cX3_fillSeats 61 = .ok (.iadd, 1) := by decide +kernel
theorem dX3_fillSeats_62 : decode cX3_fillSeats 62 = .ok (.istore_n 2, 1) := by decide +kernel
theorem dX3_fillSeats_63 : decode cX3_fillSeats 63 = .ok (.iload_n 1, 1) := by decide +kernel
theorem dX3_fillSeats_64 : decode cX3_fillSeats 64 = .ok (.ifCond .eq 8, 3) := by decide +kernel
theorem dX3_fillSeats_67 : decode cX3_fillSeats 67 = .ok (.aload_n 0, 1) := by decide +kernel
theorem dX3_fillSeats_68 : decode cX3_fillSeats 68 = .ok (.iload_n 3, 1) := by decide +kernel
theorem dX3_fillSeats_69 : decode cX3_fillSeats 69 = .ok (.invokevirtual 175, 3) := by decide +kernel
theorem dX3_fillSeats_72 : decode cX3_fillSeats 72 = .ok (.iinc 3 1, 3) := by decide +kernel
theorem dX3_fillSeats_75 : decode cX3_fillSeats 75 = .ok (.goto (-71), 3) := by decide +kernel
theorem dX3_fillSeats_78 : decode cX3_fillSeats 78 = .ok (.iload_n 2, 1) := by decide +kernel
theorem dX3_fillSeats_79 : decode cX3_fillSeats 79 = .ok (.ireturn, 1) := by decide +kernel
theorem dX3_letAllEat_0 : decode cX3_letAllEat 0 = .ok (.aload_n 0, 1) := by decide +kernel
theorem dX3_letAllEat_1 : decode cX3_letAllEat 1 = .ok (.getfield 30, 3) := by decide +kernel
theorem dX3_letAllEat_4 : decode cX3_letAllEat 4 = .ok (.invokevirtual 184, 3) := by decide +kernel
theorem dX3_letAllEat_7 : decode cX3_letAllEat 7 = .ok (.istore_n 1, 1) := by decide +kernel
theorem dX3_letAllEat_8 : decode cX3_letAllEat 8 = .ok (.aload_n 0, 1) := by decide +kernel
theorem dX3_letAllEat_9 : decode cX3_letAllEat 9 = .ok (.getfield 37, 3) := by decide +kernel
theorem dX3_letAllEat_12 : decode cX3_letAllEat 12 = .ok (.iload_n 1, 1) := by decide +kernel
theorem dX3_letAllEat_13 : decode cX3_letAllEat 13 = .ok (.aload_n 0, 1) := by decide +kernel
theorem dX3_letAllEat_14 : decode cX3_letAllEat 14 = .ok (.getfield 61, 3) := by decide +kernel
theorem dX3_letAllEat_17 : decode cX3_letAllEat 17 = .ok (.invokevirtual 205, 3) := by decide +kernel
theorem dX3_letAllEat_20 : decode cX3_letAllEat 20 = .ok (.istore_n 2, 1) := by decide +kernel
theorem dX3_letAllEat_21 : decode cX3_letAllEat 21 = .ok (.aload_n 0, 1) := by decide +kernel
theorem dX3_letAllEat_22 : decode cX3_letAllEat 22 = .ok (.getfield 48, 3) := by decide +kernel
theorem dX3_letAllEat_25 : decode cX3_letAllEat 25 = .ok (.iconst 3, 1) := by decide +kernel
theorem dX3_letAllEat_26 : decode cX3_letAllEat 26 = .ok (.dup2, 1) := by decide +kernel
theorem dX3_letAllEat_27 : decode cX3_letAllEat 27 = .ok (.iaload, 1) := by decide +kernel
theorem dX3_letAllEat_28 : decode cX3_letAllEat 28 = .ok (.iload_n 2, 1) := by decide +kernel
theorem dX3_letAllEat_29 : decode cX3_letAllEat 29 = .ok (.iadd, 1) := by decide +kernel
theorem dX3_letAllEat_30 : decode cX3_letAllEat 30 = .ok (.iastore, 1) := by decide +kernel
theorem dX3_letAllEat_31 : decode cX3_letAllEat 31 = .ok (.aload_n 0, 1) := by decide +kernel
theorem dX3_letAllEat_32 : decode cX3_letAllEat 32 = .ok (.getfield 48, 3) := by decide +kernel
theorem dX3_letAllEat_35 : decode cX3_letAllEat 35 = .ok (.iconst 5, 1) := by decide +kernel
theorem dX3_letAllEat_36 : decode cX3_letAllEat 36 = .ok (.dup2, 1) := by decide +kernel
theorem dX3_letAllEat_37 : decode cX3_letAllEat 37 = .ok (.iaload, 1) := by decide +kernel
theorem dX3_letAllEat_38 : decode cX3_letAllEat 38 = .ok (.iload_n 1, 1) := by decide +kernel
theorem dX3_letAllEat_39 : decode cX3_letAllEat 39 = .ok (.iload_n 2, 1) := by decide +kernel
theorem dX3_letAllEat_40 : decode cX3_letAllEat 40 = .ok (.isub, 1) := by decide +kernel
theorem dX3_letAllEat_41 : decode cX3_letAllEat 41 = .ok (.iadd, 1) := by decide +kernel
theorem dX3_letAllEat_42 : decode cX3_letAllEat 42 = .ok (.iastore, 1) := by decide +kernel
theorem dX3_letAllEat_43 : decode cX3_letAllEat 43 = .ok (.return_, 1) := by decide +kernel
theorem dX3_letAllSleep_0 : decode cX3_letAllSleep 0 = .ok (.iconst 0, 1) := by decide +kernel
theorem dX3_letAllSleep_1 : decode cX3_letAllSleep 1 = .ok (.istore_n 1, 1) := by decide +kernel
theorem dX3_letAllSleep_2 : decode cX3_letAllSleep 2 = .ok (.iload_n 1, 1) := by decide +kernel
theorem dX3_letAllSleep_3 : decode cX3_letAllSleep 3 = .ok (.aload_n 0, 1) := by decide +kernel
theorem dX3_letAllSleep_4 : decode cX3_letAllSleep 4 = .ok (.getfield 30, 3) := by decide +kernel
theorem dX3_letAllSleep_7 : decode cX3_letAllSleep 7 = .ok (.getfield 98, 3) := by decide +kernel
theorem dX3_letAllSleep_10 : decode cX3_letAllSleep 10 = .ok (.if_icmp .ge 88, 3) := by decide +kernel
theorem dX3_letAllSleep_13 : decode cX3_letAllSleep 13 = .ok (.aload_n 0, 1) := by decide +kernel
theorem dX3_letAllSleep_14 : decode cX3_letAllSleep 14 = .ok (.getfield 30, 3) := by decide +kernel
theorem dX3_letAllSleep_17 : decode cX3_letAllSleep 17 = .ok (.getfield 122, 3) := by decide +kernel
theorem dX3_letAllSleep_20 : decode cX3_letAllSleep 20 = .ok (.iload_n 1, 1) := by decide +kernel
theorem dX3_letAllSleep_21 : decode cX3_letAllSleep 21 = .ok (.iaload, 1) := by decide +kernel
theorem dX3_letAllSleep_22 : decode cX3_letAllSleep 22 = .ok (.iconst 1, 1) := by decide +kernel
theorem dX3_letAllSleep_23 : decode cX3_letAllSleep 23 = .ok (.if_icmp .ne 35, 3) := by decide +kernel
theorem dX3_letAllSleep_26 : decode cX3_letAllSleep 26 = .ok (.aload_n 0, 1) := by decide +kernel
theorem dX3_letAllSleep_27 : decode cX3_letAllSleep 27 = .ok (.getfield 30, 3) := by decide +kernel
theorem dX3_letAllSleep_30 : decode cX3_letAllSleep 30 = .ok (.getfield 208, 3) := by decide +kernel
theorem dX3_letAllSleep_33 : decode cX3_letAllSleep 33 = .ok (.iload_n 1, 1) := by decide +kernel
theorem dX3_letAllSleep_34 : decode cX3_letAllSleep 34 = .ok (.dup2, 1) := by decide +kernel
theorem dX3_letAllSleep_35 : decode cX3_letAllSleep 35 = .ok (.iaload, 1) := by decide +kernel
theorem dX3_letAllSleep_36 : decode cX3_letAllSleep 36 = .ok (.iconst 1, 1) := by decide +kernel
theorem dX3_letAllSleep_37 : decode cX3_letAllSleep 37 = .ok (.iadd, 1) := by decide +kernel
theorem dX3_letAllSleep_38 : decode cX3_letAllSleep 38 = .ok (.iastore, 1) := by decide +kernel
theorem dX3_letAllSleep_39 : decode cX3_letAllSleep 39 = .ok (.aload_n 0, 1) := by decide +kernel
theorem dX3_letAllSleep_40 : decode cX3_letAllSleep 40 = .ok (.getfield 48, 3) := by decide +kernel
theorem dX3_letAllSleep_43 : decode cX3_letAllSleep 43 = .ok (.bipush 7, 2) := by decide +kernel
theorem dX3_letAllSleep_45 : decode cX3_letAllSleep 45 = .ok (.dup2, 1) := by decide +kernel
theorem dX3_letAllSleep_46 : decode cX3_letAllSleep 46 = .ok (.iaload, 1) := by decide +kernel
theorem dX3_letAllSleep_47 : decode cX3_letAllSleep 47 = .ok (.aload_n 0, 1) := by decide +kernel
theorem dX3_letAllSleep_48 : decode cX3_letAllSleep 48 = .ok (.getfield 30, 3) := by decide +kernel
theorem dX3_letAllSleep_51 : decode cX3_letAllSleep 51 = .ok (.getfield 131, 3) := by decide +kernel
theorem dX3_letAllSleep_54 : decode cX3_letAllSleep 54 = .ok (.iload_n 1, 1) := by decide +kernel
theorem dX3_letAllSleep_55 : decode cX3_letAllSleep 55 = .ok (.iaload, 1) := by decide +kernel
theorem dX3_letAllSleep_56 : decode cX3_letAllSleep 56 = .ok (.iadd, 1) := by decide +kernel
theorem dX3_letAllSleep_57 : decode cX3_letAllSleep 57 = .ok (.iastore, 1) := by decide +kernel
theorem dX3_letAllSleep_58 : decode cX3_letAllSleep 58 = .ok (.aload_n 0, 1) := by decide +kernel
theorem dX3_letAllSleep_59 : decode cX3_letAllSleep 59 = .ok (.getfield 30, 3) := by decide +kernel
theorem dX3_letAllSleep_62 : decode cX3_letAllSleep 62 = .ok (.iload_n 1, 1) := by decide +kernel
theorem dX3_letAllSleep_63 : decode cX3_letAllSleep 63 = .ok (.aload_n 0, 1) := by decide +kernel
theorem dX3_letAllSleep_64 : decode cX3_letAllSleep 64 = .ok (.getfield 61, 3) := by decide +kernel
theorem dX3_letAllSleep_67 : decode cX3_letAllSleep 67 = .ok (.invokevirtual 134, 3) := by decide +kernel
theorem dX3_letAllSleep_70 : decode cX3_letAllSleep 70 = .ok (.ifCond .eq 22, 3) := by decide +kernel
theorem dX3_letAllSleep_73 : decode cX3_letAllSleep 73 = .ok (.aload_n 0, 1) := by decide +kernel
theorem dX3_letAllSleep_74 : decode cX3_letAllSleep 74 = .ok (.getfield 48, 3) := by decide +kernel
theorem dX3_letAllSleep_77 : decode cX3_letAllSleep 77 = .ok (.bipush 6, 2) := by decide +kernel
theorem dX3_letAllSleep_79 : decode cX3_letAllSleep 79 = .ok (.dup2, 1) := by decide +kernel
theorem dX3_letAllSleep_80 : decode cX3_letAllSleep 80 = .ok (.iaload, 1) := by decide +kernel
theorem dX3_letAllSleep_81 : decode cX3_letAllSleep 81 = .ok (.aload_n 0, 1) := by decide +kernel
theorem dX3_letAllSleep_82 : decode cX3_letAllSleep 82 = .ok (.getfield 30, 3) := by decide +kernel
theorem dX3_letAllSleep_85 : decode cX3_letAllSleep 85 = .ok (.getfield 131, 3) := by decide +kernel
theorem dX3_letAllSleep_88 : decode cX3_letAllSleep 88 = .ok (.iload_n 1, 1) := by decide +kernel
theorem dX3_letAllSleep_89 : decode cX3_letAllSleep 89 = .ok (.iaload, 1) := by decide +kernel
theorem dX3_letAllSleep_90 : decode cX3_letAllSleep 90 = .ok (.iadd, 1) := by decide +kernel
theorem dX3_letAllSleep_91 : decode cX3_letAllSleep 91 = .ok (.iastore, 1) := by decide +kernel
theorem dX3_letAllSleep_92 : decode cX3_letAllSleep 92 = .ok (.iinc 1 1, 3) := by decide +kernel
theorem dX3_letAllSleep_95 : decode cX3_letAllSleep 95 = .ok (.goto (-93), 3) := by decide +kernel
theorem dX3_letAllSleep_98 : decode cX3_letAllSleep 98 = .ok (.return_, 1) := by decide +kernel
theorem dX4_init_0 : decode cX4_init 0 = .ok (.aload_n 0, 1) := by decide +kernel
theorem dX4_init_1 : decode cX4_init 1 = .ok (.invokespecial 3, 3) := by decide +kernel
theorem dX4_init_4 : decode cX4_init 4 = .ok (.aload_n 0, 1) := by decide +kernel
theorem dX4_init_5 : decode cX4_init 5 = .ok (.bipush 30, 2) := by decide +kernel
theorem dX4_init_7 : decode cX4_init 7 = .ok (.newarray .int, 2) := by decide +kernel
theorem dX4_init_9 : decode cX4_init 9 = .ok (.putfield 9, 3) := by decide +kernel
theorem dX4_init_12 : decode cX4_init 12 = .ok (.return_, 1) := by decide +kernel
theorem dX4_copyFrom_0 : decode cX4_copyFrom 0 = .ok (.aload_n 1, 1) := by decide +kernel
theorem dX4_copyFrom_1 : decode cX4_copyFrom 1 = .ok (.getfield 9, 3) := by decide +kernel
theorem dX4_copyFrom_4 : decode cX4_copyFrom 4 = .ok (.iconst 0, 1) := by decide +kernel
theorem dX4_copyFrom_5 : decode cX4_copyFrom 5 = .ok (.aload_n 0, 1) := by decide +kernel
theorem dX4_copyFrom_6 : decode cX4_copyFrom 6 = .ok (.getfield 9, 3) := by decide +kernel
theorem dX4_copyFrom_9 : decode cX4_copyFrom 9 = .ok (.iconst 0, 1) := by decide +kernel
theorem dX4_copyFrom_10 : decode cX4_copyFrom 10 = .ok (.bipush 30, 2) := by decide +kernel
theorem dX4_copyFrom_12 : decode cX4_copyFrom 12 = .ok (.invokestatic 15, 3) := by decide +kernel
theorem dX4_copyFrom_15 : decode cX4_copyFrom 15 = .ok (.aload_n 0, 1) := by decide +kernel
theorem dX4_copyFrom_16 : decode cX4_copyFrom 16 = .ok (.aload_n 1, 1) := by decide +kernel
theorem dX4_copyFrom_17 : decode cX4_copyFrom 17 = .ok (.getfield 21, 3) := by decide +kernel
theorem dX4_copyFrom_20 : decode cX4_copyFrom 20 = .ok (.putfield 21, 3) := by decide +kernel
theorem dX4_copyFrom_23 : decode cX4_copyFrom 23 = .ok (.return_, 1) := by decide +kernel
theorem dX4_slotOf_0 : decode cX4_slotOf 0 = .ok (.iload_n 0, 1) := by decide +kernel
theorem dX4_slotOf_1 : decode cX4_slotOf 1 = .ok (.bipush 30, 2) := by decide +kernel
theorem dX4_slotOf_3 : decode cX4_slotOf 3 = .ok (.invokestatic 25, 3) := by decide +kernel
theorem dX4_slotOf_6 : decode cX4_slotOf 6 = .ok (.ireturn, 1) := by decide +kernel
theorem dX4_freshOf_0 : decode cX4_freshOf 0 = .ok (.aload_n 0, 1) := by decide +kernel
theorem dX4_freshOf_1 : decode cX4_freshOf 1 = .ok (.getfield 9, 3) := by decide +kernel
theorem dX4_freshOf_4 : decode cX4_freshOf 4 = .ok (.iload_n 1, 1) := by decide +kernel
theorem dX4_freshOf_5 : decode cX4_freshOf 5 = .ok (.invokestatic 31, 3) := by decide +kernel
theorem dX4_freshOf_8 : decode cX4_freshOf 8 = .ok (.iaload, 1) := by decide +kernel
theorem dX4_freshOf_9 : decode cX4_freshOf 9 = .ok (.ireturn, 1) := by decide +kernel
theorem dX4_allFresh_0 : decode cX4_allFresh 0 = .ok (.iconst 0, 1) := by decide +kernel
theorem dX4_allFresh_1 : decode cX4_allFresh 1 = .ok (.istore_n 1, 1) := by decide +kernel
theorem dX4_allFresh_2 : decode cX4_allFresh 2 = .ok (.iconst 0, 1) := by decide +kernel
theorem dX4_allFresh_3 : decode cX4_allFresh 3 = .ok (.istore_n 2, 1) := by decide +kernel
theorem dX4_allFresh_4 : decode cX4_allFresh 4 = .ok (.iload_n 2, 1) := by decide +kernel
theorem dX4_allFresh_5 : decode cX4_allFresh 5 = .ok (.bipush 30, 2) := by decide +kernel
theorem dX4_allFresh_7 : decode cX4_allFresh 7 = .ok (.if_icmp .ge 18, 3) := by decide +kernel
theorem dX4_allFresh_10 : decode cX4_allFresh 10 = .ok (.iload_n 1, 1) := by decide +kernel
theorem dX4_allFresh_11 : decode cX4_allFresh 11 = .ok (.aload_n 0, 1) := by decide +kernel
theorem dX4_allFresh_12 : decode cX4_allFresh 12 = .ok (.getfield 9, 3) := by decide +kernel
theorem dX4_allFresh_15 : decode cX4_allFresh 15 = .ok (.iload_n 2, 1) := by decide +kernel
theorem dX4_allFresh_16 : decode cX4_allFresh 16 = .ok (.iaload, 1) := by decide +kernel
theorem dX4_allFresh_17 : decode cX4_allFresh 17 = .ok (.iadd, 1) := by decide +kernel
theorem dX4_allFresh_18 : decode cX4_allFresh 18 = .ok (.istore_n 1, 1) := by decide +kernel
theorem dX4_allFresh_19 : decode cX4_allFresh 19 = .ok (.iinc 2 1, 3) := by decide +kernel
theorem dX4_allFresh_22 : decode cX4_allFresh 22 = .ok (.goto (-18), 3) := by decide +kernel
theorem dX4_allFresh_25 : decode cX4_allFresh 25 = .ok (.iload_n 1, 1) := by decide +kernel
theorem dX4_allFresh_26 : decode cX4_allFresh 26 = .ok (.ireturn, 1) := by decide +kernel
theorem dX4_dayOfRank_0 : decode cX4_dayOfRank 0 = .ok (.iconst 0, 1) := by decide +kernel
theorem dX4_dayOfRank_1 : decode cX4_dayOfRank 1 = .ok (.istore_n 3, 1) := by decide +kernel
theorem dX4_dayOfRank_2 : decode cX4_dayOfRank 2 = .ok (.iload_n 1, 1) := by decide +kernel
theorem dX4_dayOfRank_3 : decode cX4_dayOfRank 3 = .ok (.bipush 30, 2) := by decide +kernel
theorem dX4_dayOfRank_5 : decode cX4_dayOfRank 5 = .ok (.isub, 1) := by decide +kernel
theorem dX4_dayOfRank_6 : decode cX4_dayOfRank 6 = .ok (.istore 4, 2) := by decide +kernel
theorem dX4_dayOfRank_8 : decode cX4_dayOfRank 8 = .ok (.iload 4, 2) := by decide +kernel
theorem dX4_dayOfRank_10 : decode cX4_dayOfRank 10 = .ok (.iload_n 1, 1) := by decide +kernel
theorem dX4_dayOfRank_11 : decode cX4_dayOfRank 11 = .ok (.if_icmp .ge 32, 3) := by decide +kernel
theorem dX4_dayOfRank_14 : decode cX4_dayOfRank 14 = .ok (.aload_n 0, 1) := by decide +kernel
theorem dX4_dayOfRank_15 : decode cX4_dayOfRank 15 = .ok (.iload 4, 2) := by decide +kernel
theorem dX4_dayOfRank_17 : decode cX4_dayOfRank 17 = .ok (.invokevirtual 35, 3) := by decide +kernel
theorem dX4_dayOfRank_20 : decode cX4_dayOfRank 20 = .ok (.ifCond .ne 6, 3) := by decide +kernel
theorem dX4_dayOfRank_23 : decode cX4_dayOfRank 23 = .ok (.goto 14, 3) := by decide +kernel
theorem dX4_dayOfRank_26 : decode cX4_dayOfRank 26 = .ok (.iload_n 3, 1) := by decide +kernel
theorem dX4_dayOfRank_27 : decode cX4_dayOfRank 27 = .ok (.iload_n 2, 1) := by decide +kernel
theorem dX4_dayOfRank_28 : decode cX4_dayOfRank 28 = .ok (.if_icmp .ne 6, 3) := by decide +kernel
theorem dX4_dayOfRank_31 : decode cX4_dayOfRank 31 = .ok (.iload 4, 2) := by decide +kernel
theorem dX4_dayOfRank_33 : decode cX4_dayOfRank 33 = .ok (.ireturn, 1) := by decide +kernel
theorem dX4_dayOfRank_34 : decode cX4_dayOfRank 34 = .ok (.iinc 3 1, 3) := by decide +kernel
theorem dX4_dayOfRank_37 : decode cX4_dayOfRank 37 = .ok (.iinc 4 1, 3) := by decide +kernel
theorem dX4_dayOfRank_40 : decode cX4_dayOfRank 40 = .ok (.goto (-32), 3) := by decide +kernel
theorem dX4_dayOfRank_43 : decode cX4_dayOfRank 43 = .ok (.ldc 38, 2) := by decide +kernel
theorem dX4_dayOfRank_45 : decode cX4_dayOfRank 45 = .ok (.ireturn, 1) := by decide +kernel
theorem dX4_throwSpoiltAway_0 : decode cX4_throwSpoiltAway 0 = .ok (.iconst 0, 1) := by decide +kernel
theorem dX4_throwSpoiltAway_1 : decode cX4_throwSpoiltAway 1 = .ok (.istore_n 3, 1) := by decide +kernel
theorem dX4_throwSpoiltAway_2 : decode cX4_throwSpoiltAway 2 = .ok (.iload_n 1, 1) := by decide +kernel
theorem dX4_throwSpoiltAway_3 : decode cX4_throwSpoiltAway 3 = .ok (.bipush 30, 2) := by decide +kernel
theorem dX4_throwSpoiltAway_5 : decode cX4_throwSpoiltAway 5 = .ok (.isub, 1) := by decide +kernel
theorem dX4_throwSpoiltAway_6 : decode cX4_throwSpoiltAway 6 = .ok (.istore 4, 2) := by decide +kernel
theorem dX4_throwSpoiltAway_8 : decode cX4_throwSpoiltAway 8 = .ok (.iload 4, 2) := by decide +kernel
theorem dX4_throwSpoiltAway_10 : decode cX4_throwSpoiltAway 10 = .ok (.iload_n 1, 1) := by decide +kernel
theorem dX4_throwSpoiltAway_11 : decode cX4_throwSpoiltAway 11 = .ok (.iload_n 2, 1) := by decide +kernel
end
section
theorem dX4_throwSpoiltAway_12 : decode cX4_throwSpoiltAway 12 = .ok (.isub, 1) := by decide +kernel
theorem dX4_throwSpoiltAway_13 : decode cX4_throwSpoiltAway 13 = .ok (.if_icmp .gt 29, 3) := by decide +kernel
theorem dX4_throwSpoiltAway_16 : decode cX4_throwSpoiltAway 16 = .ok (.iload_n 3, 1) := by decide +kernel
theorem dX4_throwSpoiltAway_17 : decode cX4_throwSpoiltAway 17 = .ok (.aload_n 0, 1) := by decide +kernel
theorem dX4_throwSpoiltAway_18 : decode cX4_throwSpoiltAway 18 = .ok (.iload 4, 2) := by decide +kernel
theorem dX4_throwSpoiltAway_20 : decode cX4_throwSpoiltAway 20 = .ok (.invokevirtual 35, 3) := by decide +kernel
theorem dX4_throwSpoiltAway_23 : decode cX4_throwSpoiltAway 23 = .ok (.iadd, 1) := by decide +kernel
theorem dX4_throwSpoiltAway_24 : decode cX4_throwSpoiltAway 24 = .ok (.istore_n 3, 1) := by decide +kernel
theorem dX4_throwSpoiltAway_25 : decode cX4_throwSpoiltAway 25 = .ok (.aload_n 0, 1) := by decide +kernel
theorem dX4_throwSpoiltAway_26 : decode cX4_throwSpoiltAway 26 = .ok (.getfield 9, 3) := by decide +kernel
theorem dX4_throwSpoiltAway_29 : decode cX4_throwSpoiltAway 29 = .ok (.iload 4, 2) := by decide +kernel
theorem dX4_throwSpoiltAway_31 : decode cX4_throwSpoiltAway 31 = .ok (.invokestatic 31, 3) := by decide +kernel
theorem dX4_throwSpoiltAway_34 : decode cX4_throwSpoiltAway 34 = .ok (.iconst 0, 1) := by decide +kernel
theorem dX4_throwSpoiltAway_35 : decode cX4_throwSpoiltAway 35 = .ok (.iastore, 1) := by decide +kernel
theorem dX4_throwSpoiltAway_36 : decode cX4_throwSpoiltAway 36 = .ok (.iinc 4 1, 3) := by decide +kernel
theorem dX4_throwSpoiltAway_39 : decode cX4_throwSpoiltAway 39 = .ok (.goto (-31), 3) := by decide +kernel
theorem dX4_throwSpoiltAway_42 : decode cX4_throwSpoiltAway 42 = .ok (.iload_n 3, 1) := by decide +kernel
theorem dX4_throwSpoiltAway_43 : decode cX4_throwSpoiltAway 43 = .ok (.ireturn, 1) := by decide +kernel
theorem dX4_store_0 : decode cX4_store 0 = .ok (.iload_n 1, 1) := by decide +kernel
theorem dX4_store_1 : decode cX4_store 1 = .ok (.ifCond .ne 19, 3) := by decide +kernel
theorem dX4_store_4 : decode cX4_store 4 = .ok (.aload_n 0, 1) := by decide +kernel
theorem dX4_store_5 : decode cX4_store 5 = .ok (.getfield 9, 3) := by decide +kernel
theorem dX4_store_8 : decode cX4_store 8 = .ok (.iload_n 3, 1) := by decide +kernel
theorem dX4_store_9 : decode cX4_store 9 = .ok (.invokestatic 31, 3) := by decide +kernel
theorem dX4_store_12 : decode cX4_store 12 = .ok (.dup2, 1) := by decide +kernel
theorem dX4_store_13 : decode cX4_store 13 = .ok (.iaload, 1) := by decide +kernel
theorem dX4_store_14 : decode cX4_store 14 = .ok (.iload_n 2, 1) := by decide +kernel
theorem dX4_store_15 : decode cX4_store 15 = .ok (.iadd, 1) := by decide +kernel
theorem dX4_store_16 : decode cX4_store 16 = .ok (.iastore, 1) := by decide +kernel
theorem dX4_store_17 : decode cX4_store 17 = .ok (.goto 13, 3) := by decide +kernel
theorem dX4_store_20 : decode cX4_store 20 = .ok (.aload_n 0, 1) := by decide +kernel
theorem dX4_store_21 : decode cX4_store 21 = .ok (.dup, 1) := by decide +kernel
theorem dX4_store_22 : decode cX4_store 22 = .ok (.getfield 21, 3) := by decide +kernel
theorem dX4_store_25 : decode cX4_store 25 = .ok (.iload_n 2, 1) := by decide +kernel
theorem dX4_store_26 : decode cX4_store 26 = .ok (.iadd, 1) := by decide +kernel
theorem dX4_store_27 : decode cX4_store 27 = .ok (.putfield 21, 3) := by decide +kernel
theorem dX4_store_30 : decode cX4_store 30 = .ok (.return_, 1) := by decide +kernel
theorem dX4_eat_0 : decode cX4_eat 0 = .ok (.iconst 0, 1) := by decide +kernel
theorem dX4_eat_1 : decode cX4_eat 1 = .ok (.istore_n 3, 1) := by decide +kernel
theorem dX4_eat_2 : decode cX4_eat 2 = .ok (.iload_n 2, 1) := by decide +kernel
theorem dX4_eat_3 : decode cX4_eat 3 = .ok (.bipush 30, 2) := by decide +kernel
theorem dX4_eat_5 : decode cX4_eat 5 = .ok (.isub, 1) := by decide +kernel
theorem dX4_eat_6 : decode cX4_eat 6 = .ok (.iconst 1, 1) := by decide +kernel
theorem dX4_eat_7 : decode cX4_eat 7 = .ok (.iadd, 1) := by decide +kernel
theorem dX4_eat_8 : decode cX4_eat 8 = .ok (.istore 4, 2) := by decide +kernel
theorem dX4_eat_10 : decode cX4_eat 10 = .ok (.iload 4, 2) := by decide +kernel
theorem dX4_eat_12 : decode cX4_eat 12 = .ok (.iload_n 2, 1) := by decide +kernel
theorem dX4_eat_13 : decode cX4_eat 13 = .ok (.if_icmp .gt 43, 3) := by decide +kernel
theorem dX4_eat_16 : decode cX4_eat 16 = .ok (.iload_n 1, 1) := by decide +kernel
theorem dX4_eat_17 : decode cX4_eat 17 = .ok (.iload_n 3, 1) := by decide +kernel
theorem dX4_eat_18 : decode cX4_eat 18 = .ok (.isub, 1) := by decide +kernel
theorem dX4_eat_19 : decode cX4_eat 19 = .ok (.aload_n 0, 1) := by decide +kernel
theorem dX4_eat_20 : decode cX4_eat 20 = .ok (.iload 4, 2) := by decide +kernel
theorem dX4_eat_22 : decode cX4_eat 22 = .ok (.invokevirtual 35, 3) := by decide +kernel
theorem dX4_eat_25 : decode cX4_eat 25 = .ok (.invokestatic 39, 3) := by decide +kernel
theorem dX4_eat_28 : decode cX4_eat 28 = .ok (.istore 5, 2) := by decide +kernel
theorem dX4_eat_30 : decode cX4_eat 30 = .ok (.aload_n 0, 1) := by decide +kernel
theorem dX4_eat_31 : decode cX4_eat 31 = .ok (.getfield 9, 3) := by decide +kernel
theorem dX4_eat_34 : decode cX4_eat 34 = .ok (.iload 4, 2) := by decide +kernel
theorem dX4_eat_36 : decode cX4_eat 36 = .ok (.invokestatic 31, 3) := by decide +kernel
theorem dX4_eat_39 : decode cX4_eat 39 = .ok (.dup2, 1) := by decide +kernel
theorem dX4_eat_40 : decode cX4_eat 40 = .ok (.iaload, 1) := by decide +kernel
theorem dX4_eat_41 : decode cX4_eat 41 = .ok (.iload 5, 2) := by decide +kernel
theorem dX4_eat_43 : decode cX4_eat 43 = .ok (.isub, 1) := by decide +kernel
theorem dX4_eat_44 : decode cX4_eat 44 = .ok (.iastore, 1) := by decide +kernel
theorem dX4_eat_45 : decode cX4_eat 45 = .ok (.iload_n 3, 1) := by decide +kernel
theorem dX4_eat_46 : decode cX4_eat 46 = .ok (.iload 5, 2) := by decide +kernel
theorem dX4_eat_48 : decode cX4_eat 48 = .ok (.iadd, 1) := by decide +kernel
theorem dX4_eat_49 : decode cX4_eat 49 = .ok (.istore_n 3, 1) := by decide +kernel
theorem dX4_eat_50 : decode cX4_eat 50 = .ok (.iinc 4 1, 3) := by decide +kernel
theorem dX4_eat_53 : decode cX4_eat 53 = .ok (.goto (-43), 3) := by decide +kernel
theorem dX4_eat_56 : decode cX4_eat 56 = .ok (.iload_n 1, 1) := by decide +kernel
theorem dX4_eat_57 : decode cX4_eat 57 = .ok (.iload_n 3, 1) := by decide +kernel
theorem dX4_eat_58 : decode cX4_eat 58 = .ok (.isub, 1) := by decide +kernel
theorem dX4_eat_59 : decode cX4_eat 59 = .ok (.aload_n 0, 1) := by decide +kernel
theorem dX4_eat_60 : decode cX4_eat 60 = .ok (.getfield 21, 3) := by decide +kernel
theorem dX4_eat_63 : decode cX4_eat 63 = .ok (.invokestatic 39, 3) := by decide +kernel
theorem dX4_eat_66 : decode cX4_eat 66 = .ok (.istore 4, 2) := by decide +kernel
theorem dX4_eat_68 : decode cX4_eat 68 = .ok (.aload_n 0, 1) := by decide +kernel
theorem dX4_eat_69 : decode cX4_eat 69 = .ok (.dup, 1) := by decide +kernel
theorem dX4_eat_70 : decode cX4_eat 70 = .ok (.getfield 21, 3) := by decide +kernel
theorem dX4_eat_73 : decode cX4_eat 73 = .ok (.iload 4, 2) := by decide +kernel
theorem dX4_eat_75 : decode cX4_eat 75 = .ok (.isub, 1) := by decide +kernel
theorem dX4_eat_76 : decode cX4_eat 76 = .ok (.putfield 21, 3) := by decide +kernel
theorem dX4_eat_79 : decode cX4_eat 79 = .ok (.iload_n 3, 1) := by decide +kernel
theorem dX4_eat_80 : decode cX4_eat 80 = .ok (.iload 4, 2) := by decide +kernel
theorem dX4_eat_82 : decode cX4_eat 82 = .ok (.iadd, 1) := by decide +kernel
theorem dX4_eat_83 : decode cX4_eat 83 = .ok (.ireturn, 1) := by decide +kernel
theorem dX5_init_0 : decode cX5_init 0 = .ok (.aload_n 0, 1) := by decide +kernel
theorem dX5_init_1 : decode cX5_init 1 = .ok (.invokespecial 3, 3) := by decide +kernel
theorem dX5_init_4 : decode cX5_init 4 = .ok (.aload_n 0, 1) := by decide +kernel
theorem dX5_init_5 : decode cX5_init 5 = .ok (.bipush 12, 2) := by decide +kernel
theorem dX5_init_7 : decode cX5_init 7 = .ok (.newarray .int, 2) := by decide +kernel
theorem dX5_init_9 : decode cX5_init 9 = .ok (.putfield 9, 3) := by decide +kernel
theorem dX5_init_12 : decode cX5_init 12 = .ok (.aload_n 0, 1) := by decide +kernel
theorem dX5_init_13 : decode cX5_init 13 = .ok (.bipush 12, 2) := by decide +kernel
theorem dX5_init_15 : decode cX5_init 15 = .ok (.newarray .int, 2) := by decide +kernel
theorem dX5_init_17 : decode cX5_init 17 = .ok (.putfield 15, 3) := by decide +kernel
theorem dX5_init_20 : decode cX5_init 20 = .ok (.return_, 1) := by decide +kernel
theorem dX5_copyFrom_0 : decode cX5_copyFrom 0 = .ok (.aload_n 0, 1) := by decide +kernel
theorem dX5_copyFrom_1 : decode cX5_copyFrom 1 = .ok (.aload_n 1, 1) := by decide +kernel
theorem dX5_copyFrom_2 : decode cX5_copyFrom 2 = .ok (.getfield 18, 3) := by decide +kernel
theorem dX5_copyFrom_5 : decode cX5_copyFrom 5 = .ok (.putfield 18, 3) := by decide +kernel
theorem dX5_copyFrom_8 : decode cX5_copyFrom 8 = .ok (.aload_n 1, 1) := by decide +kernel
theorem dX5_copyFrom_9 : decode cX5_copyFrom 9 = .ok (.getfield 9, 3) := by decide +kernel
theorem dX5_copyFrom_12 : decode cX5_copyFrom 12 = .ok (.iconst 0, 1) := by decide +kernel
theorem dX5_copyFrom_13 : decode cX5_copyFrom 13 = .ok (.aload_n 0, 1) := by decide +kernel
theorem dX5_copyFrom_14 : decode cX5_copyFrom 14 = .ok (.getfield 9, 3) := by decide +kernel
theorem dX5_copyFrom_17 : decode cX5_copyFrom 17 = .ok (.iconst 0, 1) := by decide +kernel
theorem dX5_copyFrom_18 : decode cX5_copyFrom 18 = .ok (.aload_n 0, 1) := by decide +kernel
theorem dX5_copyFrom_19 : decode cX5_copyFrom 19 = .ok (.getfield 18, 3) := by decide +kernel
theorem dX5_copyFrom_22 : decode cX5_copyFrom 22 = .ok (.invokestatic 22, 3) := by decide +kernel
theorem dX5_copyFrom_25 : decode cX5_copyFrom 25 = .ok (.aload_n 1, 1) := by decide +kernel
theorem dX5_copyFrom_26 : decode cX5_copyFrom 26 = .ok (.getfield 15, 3) := by decide +kernel
theorem dX5_copyFrom_29 : decode cX5_copyFrom 29 = .ok (.iconst 0, 1) := by decide +kernel
theorem dX5_copyFrom_30 : decode cX5_copyFrom 30 = .ok (.aload_n 0, 1) := by decide +kernel
theorem dX5_copyFrom_31 : decode cX5_copyFrom 31 = .ok (.getfield 15, 3) := by decide +kernel
theorem dX5_copyFrom_34 : decode cX5_copyFrom 34 = .ok (.iconst 0, 1) := by decide +kernel
theorem dX5_copyFrom_35 : decode cX5_copyFrom 35 = .ok (.aload_n 0, 1) := by decide +kernel
theorem dX5_copyFrom_36 : decode cX5_copyFrom 36 = .ok (.getfield 18, 3) := by decide +kernel
theorem dX5_copyFrom_39 : decode cX5_copyFrom 39 = .ok (.invokestatic 22, 3) := by decide +kernel
theorem dX5_copyFrom_42 : decode cX5_copyFrom 42 = .ok (.return_, 1) := by decide +kernel
theorem dX5_append_0 : decode cX5_append 0 = .ok (.aload_n 0, 1) := by decide +kernel
theorem dX5_append_1 : decode cX5_append 1 = .ok (.getfield 18, 3) := by decide +kernel
theorem dX5_append_4 : decode cX5_append 4 = .ok (.bipush 12, 2) := by decide +kernel
theorem dX5_append_6 : decode cX5_append 6 = .ok (.if_icmp .ge 33, 3) := by decide +kernel
theorem dX5_append_9 : decode cX5_append 9 = .ok (.aload_n 0, 1) := by decide +kernel
theorem dX5_append_10 : decode cX5_append 10 = .ok (.getfield 9, 3) := by decide +kernel
theorem dX5_append_13 : decode cX5_append 13 = .ok (.aload_n 0, 1) := by decide +kernel
theorem dX5_append_14 : decode cX5_append 14 = .ok (.getfield 18, 3) := by decide +kernel
theorem dX5_append_17 : decode cX5_append 17 = .ok (.iload_n 1, 1) := by decide +kernel
theorem dX5_append_18 : decode cX5_append 18 = .ok (.iastore, 1) := by decide +kernel
theorem dX5_append_19 : decode cX5_append 19 = .ok (.aload_n 0, 1) := by decide +kernel
theorem dX5_append_20 : decode cX5_append 20 = .ok (.getfield 15, 3) := by decide +kernel
theorem dX5_append_23 : decode cX5_append 23 = .ok (.aload_n 0, 1) := by decide +kernel
theorem dX5_append_24 : decode cX5_append 24 = .ok (.getfield 18, 3) := by decide +kernel
theorem dX5_append_27 : decode cX5_append 27 = .ok (.iload_n 2, 1) := by decide +kernel
theorem dX5_append_28 : decode cX5_append 28 = .ok (.iastore, 1) := by decide +kernel
theorem dX5_append_29 : decode cX5_append 29 = .ok (.aload_n 0, 1) := by decide +kernel
theorem dX5_append_30 : decode cX5_append 30 = .ok (.dup, 1) := by decide +kernel
theorem dX5_append_31 : decode cX5_append 31 = .ok (.getfield 18, 3) := by decide +kernel
theorem dX5_append_34 : decode cX5_append 34 = .ok (.iconst 1, 1) := by decide +kernel
theorem dX5_append_35 : decode cX5_append 35 = .ok (.iadd, 1) := by decide +kernel
theorem dX5_append_36 : decode cX5_append 36 = .ok (.putfield 18, 3) := by decide +kernel
theorem dX5_append_39 : decode cX5_append 39 = .ok (.return_, 1) := by decide +kernel
theorem dX5_removeLast_0 : decode cX5_removeLast 0 = .ok (.aload_n 0, 1) := by decide +kernel
theorem dX5_removeLast_1 : decode cX5_removeLast 1 = .ok (.getfield 18, 3) := by decide +kernel
theorem dX5_removeLast_4 : decode cX5_removeLast 4 = .ok (.iconst 1, 1) := by decide +kernel
theorem dX5_removeLast_5 : decode cX5_removeLast 5 = .ok (.if_icmp .ge 5, 3) := by decide +kernel
theorem dX5_removeLast_8 : decode cX5_removeLast 8 = .ok (.iconst 0, 1) := by decide +kernel
theorem dX5_removeLast_9 : decode cX5_removeLast 9 = .ok (.ireturn, 1) := by decide +kernel
theorem dX5_removeLast_10 : decode cX5_removeLast 10 = .ok (.aload_n 0, 1) := by decide +kernel
theorem dX5_removeLast_11 : decode cX5_removeLast 11 = .ok (.dup, 1) := by decide +kernel
theorem dX5_removeLast_12 : decode cX5_removeLast 12 = .ok (.getfield 18, 3) := by decide +kernel
theorem dX5_removeLast_15 : decode cX5_removeLast 15 = .ok (.iconst 1, 1) := by decide +kernel
theorem dX5_removeLast_16 : decode cX5_removeLast 16 = .ok (.isub, 1) := by decide +kernel
theorem dX5_removeLast_17 : decode cX5_removeLast 17 = .ok (.putfield 18, 3) := by decide +kernel
theorem dX5_removeLast_20 : decode cX5_removeLast 20 = .ok (.aload_n 0, 1) := by decide +kernel
theorem dX5_removeLast_21 : decode cX5_removeLast 21 = .ok (.getfield 15, 3) := by decide +kernel
theorem dX5_removeLast_24 : decode cX5_removeLast 24 = .ok (.aload_n 0, 1) := by decide +kernel
theorem dX5_removeLast_25 : decode cX5_removeLast 25 = .ok (.getfield 18, 3) := by decide +kernel
theorem dX5_removeLast_28 : decode cX5_removeLast 28 = .ok (.iaload, 1) := by decide +kernel
theorem dX5_removeLast_29 : decode cX5_removeLast 29 = .ok (.ireturn, 1) := by decide +kernel
theorem dX5_takeFromFirst_0 : decode cX5_takeFromFirst 0 = .ok (.aload_n 0, 1) := by decide +kernel
theorem dX5_takeFromFirst_1 : decode cX5_takeFromFirst 1 = .ok (.getfield 18, 3) := by decide +kernel
theorem dX5_takeFromFirst_4 : decode cX5_takeFromFirst 4 = .ok (.iconst 1, 1) := by decide +kernel
theorem dX5_takeFromFirst_5 : decode cX5_takeFromFirst 5 = .ok (.if_icmp .ge 5, 3) := by decide +kernel
theorem dX5_takeFromFirst_8 : decode cX5_takeFromFirst 8 = .ok (.iconst 0, 1) := by decide +kernel
theorem dX5_takeFromFirst_9 : decode cX5_takeFromFirst 9 = .ok (.ireturn, 1) := by decide +kernel
theorem dX5_takeFromFirst_10 : decode cX5_takeFromFirst 10 = .ok (.iload_n 1, 1) := by decide +kernel
theorem dX5_takeFromFirst_11 : decode cX5_takeFromFirst 11 = .ok (.aload_n 0, 1) := by decide +kernel
theorem dX5_takeFromFirst_12 : decode cX5_takeFromFirst 12 = .ok (.getfield 15, 3) := by decide +kernel
theorem dX5_takeFromFirst_15 : decode cX5_takeFromFirst 15 = .ok (.iconst 0, 1) := by decide +kernel
theorem dX5_takeFromFirst_16 : decode cX5_takeFromFirst 16 = .ok (.iaload, 1) := by decide +kernel
theorem dX5_takeFromFirst_17 : decode cX5_takeFromFirst 17 = .ok (.invokestatic 28, 3) := by decide +kernel
theorem dX5_takeFromFirst_20 : decode cX5_takeFromFirst 20 = .ok (.istore_n 2, 1) := by decide +kernel
theorem dX5_takeFromFirst_21 : decode cX5_takeFromFirst 21 = .ok (.aload_n 0, 1) := by decide +kernel
theorem dX5_takeFromFirst_22 : decode cX5_takeFromFirst 22 = .ok (.getfield 15, 3) := by decide +kernel
theorem dX5_takeFromFirst_25 : decode cX5_takeFromFirst 25 = .ok (.iconst 0, 1) := by decide +kernel
theorem dX5_takeFromFirst_26 : decode cX5_takeFromFirst 26 = .ok (.dup2, 1) := by decide +kernel
theorem dX5_takeFromFirst_27 : decode cX5_takeFromFirst 27 = .ok (.iaload, 1) := by decide +kernel
theorem dX5_takeFromFirst_28 : decode cX5_takeFromFirst 28 = .ok (.iload_n 2, 1) := by decide +kernel
theorem dX5_takeFromFirst_29 : decode cX5_takeFromFirst 29 = .ok (.isub, 1) := by decide +kernel
theorem dX5_takeFromFirst_30 : decode cX5_takeFromFirst 30 = .ok (.iastore, 1) := by decide +kernel
theorem dX5_takeFromFirst_31 : decode cX5_takeFromFirst 31 = .ok (.aload_n 0, 1) := by decide +kernel
theorem dX5_takeFromFirst_32 : decode cX5_takeFromFirst 32 = .ok (.getfield 15, 3) := by decide +kernel
theorem dX5_takeFromFirst_35 : decode cX5_takeFromFirst 35 = .ok (.iconst 0, 1) := by decide +kernel
theorem dX5_takeFromFirst_36 : decode cX5_takeFromFirst 36 = .ok (.iaload, 1) := by decide +kernel
theorem dX5_takeFromFirst_37 : decode cX5_takeFromFirst 37 = .ok (.ifCond .ne 7, 3) := by decide +kernel
theorem dX5_takeFromFirst_40 : decode cX5_takeFromFirst 40 = .ok (.aload_n 0, 1) := by decide +kernel
theorem dX5_takeFromFirst_41 : decode cX5_takeFromFirst 41 = .ok (.invokevirtual 34, 3) := by decide +kernel
theorem dX5_takeFromFirst_44 : decode cX5_takeFromFirst 44 = .ok (.iload_n 2, 1) := by decide +kernel
theorem dX5_takeFromFirst_45 : decode cX5_takeFromFirst 45 = .ok (.ireturn, 1) := by decide +kernel
theorem dX5_removeFirst_0 : decode cX5_removeFirst 0 = .ok (.iconst 1, 1) := by decide +kernel
theorem dX5_removeFirst_1 : decode cX5_removeFirst 1 = .ok (.istore_n 1, 1) := by decide +kernel
theorem dX5_removeFirst_2 : decode cX5_removeFirst 2 = .ok (.iload_n 1, 1) := by decide +kernel
theorem dX5_removeFirst_3 : decode cX5_removeFirst 3 = .ok (.aload_n 0, 1) := by decide +kernel
theorem dX5_removeFirst_4 : decode cX5_removeFirst 4 = .ok (.getfield 18, 3) := by decide +kernel
theorem dX5_removeFirst_7 : decode cX5_removeFirst 7 = .ok (.if_icmp .ge 37, 3) := by decide +kernel
theorem dX5_removeFirst_10 : decode cX5_removeFirst 10 = .ok (.aload_n 0, 1) := by decide +kernel
theorem dX5_removeFirst_11 : decode cX5_removeFirst 11 = .ok (.getfield 9, 3) := by decide +kernel
theorem dX5_removeFirst_14 : decode cX5_removeFirst 14 = .ok (.iload_n 1, 1) := by decide +kernel
theorem dX5_removeFirst_15 : decode cX5_removeFirst 15 = .ok (.iconst 1, 1) := by decide +kernel
theorem dX5_removeFirst_16 : decode cX5_removeFirst 16 = .ok (.isub, 1) := by decide +kernel
theorem dX5_removeFirst_17 : decode cX5_removeFirst 17 = .ok (.aload_n 0, 1) := by decide +kernel
theorem dX5_removeFirst_18 : decode cX5_removeFirst 18 = .ok (.getfield 9, 3) := by decide +kernel
theorem dX5_removeFirst_21 : decode cX5_removeFirst 21 = .ok (.iload_n 1, 1) := by decide +kernel
theorem dX5_removeFirst_22 : decode cX5_removeFirst 22 = .ok (.iaload, 1) := by decide +kernel
theorem dX5_removeFirst_23 : decode cX5_removeFirst 23 = .ok (.iastore, 1) := by decide +kernel
theorem dX5_removeFirst_24 : decode cX5_removeFirst 24 = .ok (.aload_n 0, 1) := by decide +kernel
theorem dX5_removeFirst_25 : decode cX5_removeFirst 25 = .ok (.getfield 15, 3) := by decide +kernel
theorem dX5_removeFirst_28 : decode cX5_removeFirst 28 = .ok (.iload_n 1, 1) := by decide +kernel
theorem dX5_removeFirst_29 : decode cX5_removeFirst 29 = .ok (.iconst 1, 1) := by decide +kernel
theorem dX5_removeFirst_30 : decode cX5_removeFirst 30 = .ok (.isub, 1) := by decide +kernel
theorem dX5_removeFirst_31 : decode cX5_removeFirst 31 = .ok (.aload_n 0, 1) := by decide +kernel
theorem dX5_removeFirst_32 : decode cX5_removeFirst 32 = .ok (.getfield 15, 3) := by decide +kernel
theorem dX5_removeFirst_35 : decode cX5_removeFirst 35 = .ok (.iload_n 1, 1) := by decide +kernel
theorem dX5_removeFirst_36 : decode cX5_removeFirst 36 = .ok (.iaload, 1) := by decide +kernel
theorem dX5_removeFirst_37 : decode cX5_removeFirst 37 = .ok (.iastore, 1) := by decide +kernel
theorem dX5_removeFirst_38 : decode cX5_removeFirst 38 = .ok (.iinc 1 1, 3) := by decide +kernel
theorem dX5_removeFirst_41 : decode cX5_removeFirst 41 = .ok (.goto (-39), 3) := by decide +kernel
theorem dX5_removeFirst_44 : decode cX5_removeFirst 44 = .ok (.aload_n 0, 1) := by decide +kernel
theorem dX5_removeFirst_45 : decode cX5_removeFirst 45 = .ok (.dup, 1) := by decide +kernel
theorem dX5_removeFirst_46 : decode cX5_removeFirst 46 = .ok (.getfield 18, 3) := by decide +kernel
theorem dX5_removeFirst_49 : decode cX5_removeFirst 49 = .ok (.iconst 1, 1) := by decide +kernel
theorem dX5_removeFirst_50 : decode cX5_removeFirst 50 = .ok (.isub, 1) := by decide +kernel
theorem dX5_removeFirst_51 : decode cX5_removeFirst 51 = .ok (.putfield 18, 3) := by decide +kernel
theorem dX5_removeFirst_54 : decode cX5_removeFirst 54 = .ok (.return_, 1) := by decide +kernel
theorem dX5_allPortions_0 : decode cX5_allPortions 0 = .ok (.iconst 0, 1) := by decide +kernel
theorem dX5_allPortions_1 : decode cX5_allPortions 1 = .ok (.istore_n 1, 1) := by decide +kernel
theorem dX5_allPortions_2 : decode cX5_allPortions 2 = .ok (.iconst 0, 1) := by decide +kernel
theorem dX5_allPortions_3 : decode cX5_allPortions 3 = .ok (.istore_n 2, 1) := by decide +kernel
theorem dX5_allPortions_4 : decode cX5_allPortions 4 = .ok (.iload_n 2, 1) := by decide +kernel
theorem dX5_allPortions_5 : decode cX5_allPortions 5 = .ok (.aload_n 0, 1) := by decide +kernel
theorem dX5_allPortions_6 : decode cX5_allPortions 6 = .ok (.getfield 18, 3) := by decide +kernel
theorem dX5_allPortions_9 : decode cX5_allPortions 9 = .ok (.if_icmp .ge 18, 3) := by decide +kernel
theorem dX5_allPortions_12 : decode cX5_allPortions 12 = .ok (.iload_n 1, 1) := by decide +kernel
theorem dX5_allPortions_13 : decode cX5_allPortions 13 = .ok (.aload_n 0, 1) := by decide +kernel
theorem dX5_allPortions_14 : decode cX5_allPortions 14 = .ok (.getfield 15, 3) := by decide +kernel
theorem dX5_allPortions_17 : decode cX5_allPortions 17 = .ok (.iload_n 2, 1) := by decide +kernel
theorem dX5_allPortions_18 : decode cX5_allPortions 18 = .ok (.iaload, 1) := by decide +kernel
theorem dX5_allPortions_19 : decode cX5_allPortions 19 = .ok (.iadd, 1) := by decide +kernel
theorem dX5_allPortions_20 : decode cX5_allPortions 20 = .ok (.istore_n 1, 1) := by decide +kernel
theorem dX5_allPortions_21 : decode cX5_allPortions 21 = .ok (.iinc 2 1, 3) := by decide +kernel
theorem dX5_allPortions_24 : decode cX5_allPortions 24 = .ok (.goto (-20), 3) := by decide +kernel
theorem dX5_allPortions_27 : decode cX5_allPortions 27 = .ok (.iload_n 1, 1) := by decide +kernel
theorem dX5_allPortions_28 : decode cX5_allPortions 28 = .ok (.ireturn, 1) := by decide +kernel
theorem dX6_init_0 : decode cX6_init 0 = .ok (.aload_n 0, 1) := by decide +kernel
theorem dX6_init_1 : decode cX6_init 1 = .ok (.invokespecial 1, 3) := by decide +kernel
theorem dX6_init_4 : decode cX6_init 4 = .ok (.aload_n 0, 1) := by decide +kernel
theorem dX6_init_5 : decode cX6_init 5 = .ok (.new 7, 3) := by decide +kernel
theorem dX6_init_8 : decode cX6_init 8 = .ok (.dup, 1) := by decide +kernel
theorem dX6_init_9 : decode cX6_init 9 = .ok (.invokespecial 9, 3) := by decide +kernel
theorem dX6_init_12 : decode cX6_init 12 = .ok (.putfield 10, 3) := by decide +kernel
theorem dX6_init_15 : decode cX6_init 15 = .ok (.aload_n 0, 1) := by decide +kernel
theorem dX6_init_16 : decode cX6_init 16 = .ok (.new 7, 3) := by decide +kernel
theorem dX6_init_19 : decode cX6_init 19 = .ok (.dup, 1) := by decide +kernel
theorem dX6_init_20 : decode cX6_init 20 = .ok (.invokespecial 9, 3) := by decide +kernel
theorem dX6_init_23 : decode cX6_init 23 = .ok (.putfield 16, 3) := by decide +kernel
theorem dX6_init_26 : decode cX6_init 26 = .ok (.aload_n 0, 1) := by decide +kernel
theorem dX6_init_27 : decode cX6_init 27 = .ok (.new 7, 3) := by decide +kernel
theorem dX6_init_30 : decode cX6_init 30 = .ok (.dup, 1) := by decide +kernel
theorem dX6_init_31 : decode cX6_init 31 = .ok (.invokespecial 9, 3) := by decide +kernel
theorem dX6_init_34 : decode cX6_init 34 = .ok (.putfield 19, 3) := by decide +kernel
theorem dX6_init_37 : decode cX6_init 37 = .ok (.aload_n 0, 1) := by decide +kernel
theorem dX6_init_38 : decode cX6_init 38 = .ok (.iconst 0, 1) := by decide +kernel
theorem dX6_init_39 : decode cX6_init 39 = .ok (.putfield 22, 3) := by decide +kernel
theorem dX6_init_42 : decode cX6_init 42 = .ok (.aload_n 0, 1) := by decide +kernel
theorem dX6_init_43 : decode cX6_init 43 = .ok (.new 26, 3) := by decide +kernel
theorem dX6_init_46 : decode cX6_init 46 = .ok (.dup, 1) := by decide +kernel
theorem dX6_init_47 : decode cX6_init 47 = .ok (.invokespecial 28, 3) := by decide +kernel
theorem dX6_init_50 : decode cX6_init 50 = .ok (.putfield 29, 3) := by decide +kernel
theorem dX6_init_53 : decode cX6_init 53 = .ok (.aload_n 0, 1) := by decide +kernel
theorem dX6_init_54 : decode cX6_init 54 = .ok (.new 33, 3) := by decide +kernel
theorem dX6_init_57 : decode cX6_init 57 = .ok (.dup, 1) := by decide +kernel
theorem dX6_init_58 : decode cX6_init 58 = .ok (.invokespecial 35, 3) := by decide +kernel
theorem dX6_init_61 : decode cX6_init 61 = .ok (.putfield 36, 3) := by decide +kernel
theorem dX6_init_64 : decode cX6_init 64 = .ok (.aload_n 0, 1) := by decide +kernel
theorem dX6_init_65 : decode cX6_init 65 = .ok (.sipush 1000, 3) := by decide +kernel
theorem dX6_init_68 : decode cX6_init 68 = .ok (.newarray .int, 2) := by decide +kernel
theorem dX6_init_70 : decode cX6_init 70 = .ok (.putfield 40, 3) := by decide +kernel
theorem dX6_init_73 : decode cX6_init 73 = .ok (.return_, 1) := by decide +kernel
theorem dX6_book_0 : decode cX6_book 0 = .ok (.aload_n 0, 1) := by decide +kernel
theorem dX6_book_1 : decode cX6_book 1 = .ok (.getfield 10, 3) := by decide +kernel
theorem dX6_book_4 : decode cX6_book 4 = .ok (.iload_n 1, 1) := by decide +kernel
theorem dX6_book_5 : decode cX6_book 5 = .ok (.iload_n 2, 1) := by decide +kernel
theorem dX6_book_6 : decode cX6_book 6 = .ok (.iload_n 3, 1) := by decide +kernel
theorem dX6_book_7 : decode cX6_book 7 = .ok (.invokevirtual 44, 3) := by decide +kernel
theorem dX6_book_10 : decode cX6_book 10 = .ok (.istore 4, 2) := by decide +kernel
theorem dX6_book_12 : decode cX6_book 12 = .ok (.iload 4, 2) := by decide +kernel
theorem dX6_book_14 : decode cX6_book 14 = .ok (.ifCond .eq 6, 3) := by decide +kernel
theorem dX6_book_17 : decode cX6_book 17 = .ok (.iload 4, 2) := by decide +kernel
theorem dX6_book_19 : decode cX6_book 19 = .ok (.ireturn, 1) := by decide +kernel
theorem dX6_book_20 : decode cX6_book 20 = .ok (.aload_n 0, 1) := by decide +kernel
theorem dX6_book_21 : decode cX6_book 21 = .ok (.getfield 29, 3) := by decide +kernel
theorem dX6_book_24 : decode cX6_book 24 = .ok (.aload_n 0, 1) := by decide +kernel
theorem dX6_book_25 : decode cX6_book 25 = .ok (.getfield 10, 3) := by decide +kernel
theorem dX6_book_28 : decode cX6_book 28 = .ok (.invokevirtual 48, 3) := by decide +kernel
theorem dX6_book_31 : decode cX6_book 31 = .ok (.aload_n 0, 1) := by decide +kernel
theorem dX6_book_32 : decode cX6_book 32 = .ok (.getfield 10, 3) := by decide +kernel
theorem dX6_book_35 : decode cX6_book 35 = .ok (.iload_n 1, 1) := by decide +kernel
theorem dX6_book_36 : decode cX6_book 36 = .ok (.iload_n 2, 1) := by decide +kernel
theorem dX6_book_37 : decode cX6_book 37 = .ok (.iload_n 3, 1) := by decide +kernel
theorem dX6_book_38 : decode cX6_book 38 = .ok (.invokevirtual 52, 3) := by decide +kernel
theorem dX6_book_41 : decode cX6_book 41 = .ok (.ireturn, 1) := by decide +kernel
theorem dX6_bookAll_0 : decode cX6_bookAll 0 = .ok (.aload_n 0, 1) := by decide +kernel
theorem dX6_bookAll_1 : decode cX6_bookAll 1 = .ok (.getfield 36, 3) := by decide +kernel
theorem dX6_bookAll_4 : decode cX6_bookAll 4 = .ok (.invokevirtual 55, 3) := by decide +kernel
theorem dX6_bookAll_7 : decode cX6_bookAll 7 = .ok (.istore_n 1, 1) := by decide +kernel
theorem dX6_bookAll_8 : decode cX6_bookAll 8 = .ok (.iload_n 1, 1) := by decide +kernel
theorem dX6_bookAll_9 : decode cX6_bookAll 9 = .ok (.ldc 59, 2) := by decide +kernel
theorem dX6_bookAll_11 : decode cX6_bookAll 11 = .ok (.if_icmp .eq 8, 3) := by decide +kernel
theorem dX6_bookAll_14 : decode cX6_bookAll 14 = .ok (.bipush (-100), 2) := by decide +kernel
theorem dX6_bookAll_16 : decode cX6_bookAll 16 = .ok (.iload_n 1, 1) := by decide +kernel
theorem dX6_bookAll_17 : decode cX6_bookAll 17 = .ok (.isub, 1) := by decide +kernel
theorem dX6_bookAll_18 : decode cX6_bookAll 18 = .ok (.ireturn, 1) := by decide +kernel
theorem dX6_bookAll_19 : decode cX6_bookAll 19 = .ok (.aload_n 0, 1) := by decide +kernel
theorem dX6_bookAll_20 : decode cX6_bookAll 20 = .ok (.getfield 16, 3) := by decide +kernel
theorem dX6_bookAll_23 : decode cX6_bookAll 23 = .ok (.aload_n 0, 1) := by decide +kernel
theorem dX6_bookAll_24 : decode cX6_bookAll 24 = .ok (.getfield 10, 3) := by decide +kernel
theorem dX6_bookAll_27 : decode cX6_bookAll 27 = .ok (.invokevirtual 60, 3) := by decide +kernel
theorem dX6_bookAll_30 : decode cX6_bookAll 30 = .ok (.iconst 0, 1) := by decide +kernel
theorem dX6_bookAll_31 : decode cX6_bookAll 31 = .ok (.istore_n 2, 1) := by decide +kernel
theorem dX6_bookAll_32 : decode cX6_bookAll 32 = .ok (.iload_n 2, 1) := by decide +kernel
theorem dX6_bookAll_33 : decode cX6_bookAll 33 = .ok (.aload_n 0, 1) := by decide +kernel
theorem dX6_bookAll_34 : decode cX6_bookAll 34 = .ok (.getfield 36, 3) := by decide +kernel
theorem dX6_bookAll_37 : decode cX6_bookAll 37 = .ok (.getfield 63, 3) := by decide +kernel
theorem dX6_bookAll_40 : decode cX6_bookAll 40 = .ok (.if_icmp .ge 85, 3) := by decide +kernel
theorem dX6_bookAll_43 : decode cX6_bookAll 43 = .ok (.aload_n 0, 1) := by decide +kernel
theorem dX6_bookAll_44 : decode cX6_bookAll 44 = .ok (.getfield 16, 3) := by decide +kernel
theorem dX6_bookAll_47 : decode cX6_bookAll 47 = .ok (.aload_n 0, 1) := by decide +kernel
theorem dX6_bookAll_48 : decode cX6_bookAll 48 = .ok (.getfield 36, 3) := by decide +kernel
theorem dX6_bookAll_51 : decode cX6_bookAll 51 = .ok (.getfield 67, 3) := by decide +kernel
theorem dX6_bookAll_54 : decode cX6_bookAll 54 = .ok (.iload_n 2, 1) := by decide +kernel
theorem dX6_bookAll_55 : decode cX6_bookAll 55 = .ok (.iaload, 1) := by decide +kernel
theorem dX6_bookAll_56 : decode cX6_bookAll 56 = .ok (.aload_n 0, 1) := by decide +kernel
theorem dX6_bookAll_57 : decode cX6_bookAll 57 = .ok (.getfield 36, 3) := by decide +kernel
theorem dX6_bookAll_60 : decode cX6_bookAll 60 = .ok (.getfield 70, 3) := by decide +kernel
theorem dX6_bookAll_63 : decode cX6_bookAll 63 = .ok (.iload_n 2, 1) := by decide +kernel
theorem dX6_bookAll_64 : decode cX6_bookAll 64 = .ok (.iaload, 1) := by decide +kernel
theorem dX6_bookAll_65 : decode cX6_bookAll 65 = .ok (.aload_n 0, 1) := by decide +kernel
theorem dX6_bookAll_66 : decode cX6_bookAll 66 = .ok (.getfield 36, 3) := by decide +kernel
theorem dX6_bookAll_69 : decode cX6_bookAll 69 = .ok (.getfield 73, 3) := by decide +kernel
theorem dX6_bookAll_72 : decode cX6_bookAll 72 = .ok (.iload_n 2, 1) := by decide +kernel
theorem dX6_bookAll_73 : decode cX6_bookAll 73 = .ok (.iaload, 1) := by decide +kernel
theorem dX6_bookAll_74 : decode cX6_bookAll 74 = .ok (.invokevirtual 44, 3) := by decide +kernel
theorem dX6_bookAll_77 : decode cX6_bookAll 77 = .ok (.istore_n 3, 1) := by decide +kernel
theorem dX6_bookAll_78 : decode cX6_bookAll 78 = .ok (.iload_n 3, 1) := by decide +kernel
theorem dX6_bookAll_79 : decode cX6_bookAll 79 = .ok (.ifCond .eq 5, 3) := by decide +kernel
theorem dX6_bookAll_82 : decode cX6_bookAll 82 = .ok (.iload_n 3, 1) := by decide +kernel
theorem dX6_bookAll_83 : decode cX6_bookAll 83 = .ok (.ireturn, 1) := by decide +kernel
theorem dX6_bookAll_84 : decode cX6_bookAll 84 = .ok (.aload_n 0, 1) := by decide +kernel
theorem dX6_bookAll_85 : decode cX6_bookAll 85 = .ok (.getfield 16, 3) := by decide +kernel
theorem dX6_bookAll_88 : decode cX6_bookAll 88 = .ok (.aload_n 0, 1) := by decide +kernel
theorem dX6_bookAll_89 : decode cX6_bookAll 89 = .ok (.getfield 36, 3) := by decide +kernel
theorem dX6_bookAll_92 : decode cX6_bookAll 92 = .ok (.getfield 67, 3) := by decide +kernel
theorem dX6_bookAll_95 : decode cX6_bookAll 95 = .ok (.iload_n 2, 1) := by decide +kernel
theorem dX6_bookAll_96 : decode cX6_bookAll 96 = .ok (.iaload, 1) := by decide +kernel
theorem dX6_bookAll_97 : decode cX6_bookAll 97 = .ok (.aload_n 0, 1) := by decide +kernel
theorem dX6_bookAll_98 : decode cX6_bookAll 98 = .ok (.getfield 36, 3) := by decide +kernel
theorem dX6_bookAll_101 : decode cX6_bookAll 101 = .ok (.getfield 70, 3) := by decide +kernel
theorem dX6_bookAll_104 : decode cX6_bookAll 104 = .ok (.iload_n 2, 1) := by decide +kernel
theorem dX6_bookAll_105 : decode cX6_bookAll 105 = .ok (.iaload, 1) := by decide +kernel
theorem dX6_bookAll_106 : decode cX6_bookAll 106 = .ok (.aload_n 0, 1) := by decide +kernel
theorem dX6_bookAll_107 : decode cX6_bookAll 107 = .ok (.getfield 36, 3) := by decide +kernel
theorem dX6_bookAll_110 : decode cX6_bookAll 110 = .ok (.getfield 73, 3) := by decide +kernel
theorem dX6_bookAll_113 : decode cX6_bookAll 113 = .ok (.iload_n 2, 1) := by decide +kernel
theorem dX6_bookAll_114 : decode cX6_bookAll 114 = .ok (.iaload, 1) := by decide +kernel
theorem dX6_bookAll_115 : decode cX6_bookAll 115 = .ok (.invokevirtual 52, 3) := by decide +kernel
theorem dX6_bookAll_118 : decode cX6_bookAll 118 = .ok (.pop, 1) := by decide +kernel
theorem dX6_bookAll_119 : decode cX6_bookAll 119 = .ok (.iinc 2 1, 3) := by decide +kernel
theorem dX6_bookAll_122 : decode cX6_bookAll 122 = .ok (.goto (-90), 3) := by decide +kernel
theorem dX6_bookAll_125 : decode cX6_bookAll 125 = .ok (.aload_n 0, 1) := by decide +kernel
theorem dX6_bookAll_126 : decode cX6_bookAll 126 = .ok (.getfield 29, 3) := by decide +kernel
theorem dX6_bookAll_129 : decode cX6_bookAll 129 = .ok (.aload_n 0, 1) := by decide +kernel
theorem dX6_bookAll_130 : decode cX6_bookAll 130 = .ok (.getfield 10, 3) := by decide +kernel
theorem dX6_bookAll_133 : decode cX6_bookAll 133 = .ok (.invokevirtual 48, 3) := by decide +kernel
theorem dX6_bookAll_136 : decode cX6_bookAll 136 = .ok (.aload_n 0, 1) := by decide +kernel
theorem dX6_bookAll_137 : decode cX6_bookAll 137 = .ok (.getfield 10, 3) := by decide +kernel
theorem dX6_bookAll_140 : decode cX6_bookAll 140 = .ok (.aload_n 0, 1) := by decide +kernel
theorem dX6_bookAll_141 : decode cX6_bookAll 141 = .ok (.getfield 16, 3) := by decide +kernel
theorem dX6_bookAll_144 : decode cX6_bookAll 144 = .ok (.invokevirtual 60, 3) := by decide +kernel
theorem dX6_bookAll_147 : decode cX6_bookAll 147 = .ok (.aload_n 0, 1) := by decide +kernel
theorem dX6_bookAll_148 : decode cX6_bookAll 148 = .ok (.getfield 36, 3) := by decide +kernel
theorem dX6_bookAll_151 : decode cX6_bookAll 151 = .ok (.getfield 63, 3) := by decide +kernel
theorem dX6_bookAll_154 : decode cX6_bookAll 154 = .ok (.ireturn, 1) := by decide +kernel
theorem dX6_cancel_0 : decode cX6_cancel 0 = .ok (.aload_n 0, 1) := by decide +kernel
theorem dX6_cancel_1 : decode cX6_cancel 1 = .ok (.iload_n 1, 1) := by decide +kernel
theorem dX6_cancel_2 : decode cX6_cancel 2 = .ok (.invokevirtual 76, 3) := by decide +kernel
theorem dX6_cancel_5 : decode cX6_cancel 5 = .ok (.istore_n 2, 1) := by decide +kernel
theorem dX6_cancel_6 : decode cX6_cancel 6 = .ok (.iload_n 2, 1) := by decide +kernel
theorem dX6_cancel_7 : decode cX6_cancel 7 = .ok (.ifCond .eq 5, 3) := by decide +kernel
theorem dX6_cancel_10 : decode cX6_cancel 10 = .ok (.iload_n 2, 1) := by decide +kernel
theorem dX6_cancel_11 : decode cX6_cancel 11 = .ok (.ireturn, 1) := by decide +kernel
theorem dX6_cancel_12 : decode cX6_cancel 12 = .ok (.aload_n 0, 1) := by decide +kernel
theorem dX6_cancel_13 : decode cX6_cancel 13 = .ok (.getfield 29, 3) := by decide +kernel
theorem dX6_cancel_16 : decode cX6_cancel 16 = .ok (.aload_n 0, 1) := by decide +kernel
theorem dX6_cancel_17 : decode cX6_cancel 17 = .ok (.getfield 10, 3) := by decide +kernel
theorem dX6_cancel_20 : decode cX6_cancel 20 = .ok (.invokevirtual 48, 3) := by decide +kernel
theorem dX6_cancel_23 : decode cX6_cancel 23 = .ok (.aload_n 0, 1) := by decide +kernel
theorem dX6_cancel_24 : decode cX6_cancel 24 = .ok (.getfield 10, 3) := by decide +kernel
theorem dX6_cancel_27 : decode cX6_cancel 27 = .ok (.iload_n 1, 1) := by decide +kernel
theorem dX6_cancel_28 : decode cX6_cancel 28 = .ok (.invokevirtual 80, 3) := by decide +kernel
theorem dX6_cancel_31 : decode cX6_cancel 31 = .ok (.ireturn, 1) := by decide +kernel
theorem dX6_extend_0 : decode cX6_extend 0 = .ok (.aload_n 0, 1) := by decide +kernel
theorem dX6_extend_1 : decode cX6_extend 1 = .ok (.getfield 10, 3) := by decide +kernel
theorem dX6_extend_4 : decode cX6_extend 4 = .ok (.getfield 83, 3) := by decide +kernel
theorem dX6_extend_7 : decode cX6_extend 7 = .ok (.iload_n 1, 1) := by decide +kernel
theorem dX6_extend_8 : decode cX6_extend 8 = .ok (.invokevirtual 87, 3) := by decide +kernel
theorem dX6_extend_11 : decode cX6_extend 11 = .ok (.ifCond .ne 6, 3) := by decide +kernel
theorem dX6_extend_14 : decode cX6_extend 14 = .ok (.ldc 93, 2) := by decide +kernel
theorem dX6_extend_16 : decode cX6_extend 16 = .ok (.ireturn, 1) := by decide +kernel
theorem dX6_extend_17 : decode cX6_extend 17 = .ok (.iload_n 2, 1) := by decide +kernel
theorem dX6_extend_18 : decode cX6_extend 18 = .ok (.iconst 1, 1) := by decide +kernel
theorem dX6_extend_19 : decode cX6_extend 19 = .ok (.if_icmp .lt 9, 3) := by decide +kernel
theorem dX6_extend_22 : decode cX6_extend 22 = .ok (.iload_n 2, 1) := by decide +kernel
theorem dX6_extend_23 : decode cX6_extend 23 = .ok (.bipush 9, 2) := by decide +kernel
theorem dX6_extend_25 : decode cX6_extend 25 = .ok (.if_icmp .le 6, 3) := by decide +kernel
theorem dX6_extend_28 : decode cX6_extend 28 = .ok (.ldc 94, 2) := by decide +kernel
theorem dX6_extend_30 : decode cX6_extend 30 = .ok (.ireturn, 1) := by decide +kernel
theorem dX6_extend_31 : decode cX6_extend 31 = .ok (.aload_n 0, 1) := by decide +kernel
theorem dX6_extend_32 : decode cX6_extend 32 = .ok (.getfield 10, 3) := by decide +kernel
theorem dX6_extend_35 : decode cX6_extend 35 = .ok (.iload_n 1, 1) := by decide +kernel
theorem dX6_extend_36 : decode cX6_extend 36 = .ok (.iload_n 2, 1) := by decide +kernel
theorem dX6_extend_37 : decode cX6_extend 37 = .ok (.invokevirtual 95, 3) := by decide +kernel
theorem dX6_extend_40 : decode cX6_extend 40 = .ok (.ifCond .ne 6, 3) := by decide +kernel
theorem dX6_extend_43 : decode cX6_extend 43 = .ok (.ldc 99, 2) := by decide +kernel
theorem dX6_extend_45 : decode cX6_extend 45 = .ok (.ireturn, 1) := by decide +kernel
theorem dX6_extend_46 : decode cX6_extend 46 = .ok (.aload_n 0, 1) := by decide +kernel
theorem dX6_extend_47 : decode cX6_extend 47 = .ok (.getfield 29, 3) := by decide +kernel
theorem dX6_extend_50 : decode cX6_extend 50 = .ok (.aload_n 0, 1) := by decide +kernel
theorem dX6_extend_51 : decode cX6_extend 51 = .ok (.getfield 10, 3) := by decide +kernel
theorem dX6_extend_54 : decode cX6_extend 54 = .ok (.invokevirtual 48, 3) := by decide +kernel
theorem dX6_extend_57 : decode cX6_extend 57 = .ok (.aload_n 0, 1) := by decide +kernel
theorem dX6_extend_58 : decode cX6_extend 58 = .ok (.getfield 10, 3) := by decide +kernel
theorem dX6_extend_61 : decode cX6_extend 61 = .ok (.getfield 83, 3) := by decide +kernel
theorem dX6_extend_64 : decode cX6_extend 64 = .ok (.getfield 100, 3) := by decide +kernel
theorem dX6_extend_67 : decode cX6_extend 67 = .ok (.iload_n 1, 1) := by decide +kernel
theorem dX6_extend_68 : decode cX6_extend 68 = .ok (.dup2, 1) := by decide +kernel
theorem dX6_extend_69 : decode cX6_extend 69 = .ok (.iaload, 1) := by decide +kernel
theorem dX6_extend_70 : decode cX6_extend 70 = .ok (.iload_n 2, 1) := by decide +kernel
theorem dX6_extend_71 : decode cX6_extend 71 = .ok (.iadd, 1) := by decide +kernel
theorem dX6_extend_72 : decode cX6_extend 72 = .ok (.iastore, 1) := by decide +kernel
theorem dX6_extend_73 : decode cX6_extend 73 = .ok (.aload_n 0, 1) := by decide +kernel
theorem dX6_extend_74 : decode cX6_extend 74 = .ok (.getfield 10, 3) := by decide +kernel
theorem dX6_extend_77 : decode cX6_extend 77 = .ok (.getfield 83, 3) := by decide +kernel
theorem dX6_extend_80 : decode cX6_extend 80 = .ok (.iload_n 1, 1) := by decide +kernel
theorem dX6_extend_81 : decode cX6_extend 81 = .ok (.invokevirtual 101, 3) := by decide +kernel
theorem dX6_extend_84 : decode cX6_extend 84 = .ok (.ireturn, 1) := by decide +kernel
theorem dX6_weather_0 : decode cX6_weather 0 = .ok (.iload_n 1, 1) := by decide +kernel
theorem dX6_weather_1 : decode cX6_weather 1 = .ok (.aload_n 0, 1) := by decide +kernel
theorem dX6_weather_2 : decode cX6_weather 2 = .ok (.getfield 10, 3) := by decide +kernel
theorem dX6_weather_5 : decode cX6_weather 5 = .ok (.getfield 104, 3) := by decide +kernel
theorem dX6_weather_8 : decode cX6_weather 8 = .ok (.if_icmp .lt 25, 3) := by decide +kernel
theorem dX6_weather_11 : decode cX6_weather 11 = .ok (.iload_n 2, 1) := by decide +kernel
theorem dX6_weather_12 : decode cX6_weather 12 = .ok (.iload_n 1, 1) := by decide +kernel
theorem dX6_weather_13 : decode cX6_weather 13 = .ok (.if_icmp .lt 20, 3) := by decide +kernel
theorem dX6_weather_16 : decode cX6_weather 16 = .ok (.iload_n 2, 1) := by decide +kernel
theorem dX6_weather_17 : decode cX6_weather 17 = .ok (.sipush 999, 3) := by decide +kernel
theorem dX6_weather_20 : decode cX6_weather 20 = .ok (.if_icmp .gt 13, 3) := by decide +kernel
theorem dX6_weather_23 : decode cX6_weather 23 = .ok (.iload_n 3, 1) := by decide +kernel
theorem dX6_weather_24 : decode cX6_weather 24 = .ok (.ifCond .lt 9, 3) := by decide +kernel
theorem dX6_weather_27 : decode cX6_weather 27 = .ok (.iload_n 3, 1) := by decide +kernel
theorem dX6_weather_28 : decode cX6_weather 28 = .ok (.bipush 7, 2) := by decide +kernel
theorem dX6_weather_30 : decode cX6_weather 30 = .ok (.if_icmp .le 6, 3) := by decide +kernel
theorem dX6_weather_33 : decode cX6_weather 33 = .ok (.ldc 94, 2) := by decide +kernel
theorem dX6_weather_35 : decode cX6_weather 35 = .ok (.ireturn, 1) := by decide +kernel
theorem dX6_weather_36 : decode cX6_weather 36 = .ok (.aload_n 0, 1) := by decide +kernel
theorem dX6_weather_37 : decode cX6_weather 37 = .ok (.getfield 10, 3) := by decide +kernel
theorem dX6_weather_40 : decode cX6_weather 40 = .ok (.iload_n 1, 1) := by decide +kernel
theorem dX6_weather_41 : decode cX6_weather 41 = .ok (.iload_n 2, 1) := by decide +kernel
theorem dX6_weather_42 : decode cX6_weather 42 = .ok (.iload_n 3, 1) := by decide +kernel
theorem dX6_weather_43 : decode cX6_weather 43 = .ok (.invokevirtual 107, 3) := by decide +kernel
theorem dX6_weather_46 : decode cX6_weather 46 = .ok (.istore 4, 2) := by decide +kernel
theorem dX6_weather_48 : decode cX6_weather 48 = .ok (.iload 4, 2) := by decide +kernel
theorem dX6_weather_50 : decode cX6_weather 50 = .ok (.ifCond .ne 6, 3) := by decide +kernel
theorem dX6_weather_53 : decode cX6_weather 53 = .ok (.ldc 59, 2) := by decide +kernel
theorem dX6_weather_55 : decode cX6_weather 55 = .ok (.ireturn, 1) := by decide +kernel
theorem dX6_weather_56 : decode cX6_weather 56 = .ok (.aload_n 0, 1) := by decide +kernel
theorem dX6_weather_57 : decode cX6_weather 57 = .ok (.getfield 29, 3) := by decide +kernel
theorem dX6_weather_60 : decode cX6_weather 60 = .ok (.aload_n 0, 1) := by decide +kernel
theorem dX6_weather_61 : decode cX6_weather 61 = .ok (.getfield 10, 3) := by decide +kernel
theorem dX6_weather_64 : decode cX6_weather 64 = .ok (.invokevirtual 48, 3) := by decide +kernel
theorem dX6_weather_67 : decode cX6_weather 67 = .ok (.aload_n 0, 1) := by decide +kernel
theorem dX6_weather_68 : decode cX6_weather 68 = .ok (.getfield 10, 3) := by decide +kernel
theorem dX6_weather_71 : decode cX6_weather 71 = .ok (.iload_n 1, 1) := by decide +kernel
theorem dX6_weather_72 : decode cX6_weather 72 = .ok (.iload_n 2, 1) := by decide +kernel
theorem dX6_weather_73 : decode cX6_weather 73 = .ok (.iload_n 3, 1) := by decide +kernel
theorem dX6_weather_74 : decode cX6_weather 74 = .ok (.invokevirtual 110, 3) := by decide +kernel
theorem dX6_weather_77 : decode cX6_weather 77 = .ok (.iload 4, 2) := by decide +kernel
theorem dX6_weather_79 : decode cX6_weather 79 = .ok (.ireturn, 1) := by decide +kernel
theorem dX6_order_0 : decode cX6_order 0 = .ok (.iload_n 1, 1) := by decide +kernel
theorem dX6_order_1 : decode cX6_order 1 = .ok (.ifCond .lt 19, 3) := by decide +kernel
theorem dX6_order_4 : decode cX6_order 4 = .ok (.iload_n 1, 1) := by decide +kernel
theorem dX6_order_5 : decode cX6_order 5 = .ok (.iconst 1, 1) := by decide +kernel
theorem dX6_order_6 : decode cX6_order 6 = .ok (.if_icmp .gt 14, 3) := by decide +kernel
theorem dX6_order_9 : decode cX6_order 9 = .ok (.iload_n 2, 1) := by decide +kernel
theorem dX6_order_10 : decode cX6_order 10 = .ok (.iconst 1, 1) := by decide +kernel
theorem dX6_order_11 : decode cX6_order 11 = .ok (.if_icmp .lt 9, 3) := by decide +kernel
theorem dX6_order_14 : decode cX6_order 14 = .ok (.iload_n 2, 1) := by decide +kernel
theorem dX6_order_15 : decode cX6_order 15 = .ok (.bipush 99, 2) := by decide +kernel
theorem dX6_order_17 : decode cX6_order 17 = .ok (.if_icmp .le 6, 3) := by decide +kernel
theorem dX6_order_20 : decode cX6_order 20 = .ok (.ldc 94, 2) := by decide +kernel
theorem dX6_order_22 : decode cX6_order 22 = .ok (.ireturn, 1) := by decide +kernel
theorem dX6_order_23 : decode cX6_order 23 = .ok (.aload_n 0, 1) := by decide +kernel
theorem dX6_order_24 : decode cX6_order 24 = .ok (.getfield 10, 3) := by decide +kernel
theorem dX6_order_27 : decode cX6_order 27 = .ok (.getfield 114, 3) := by decide +kernel
theorem dX6_order_30 : decode cX6_order 30 = .ok (.getfield 118, 3) := by decide +kernel
theorem dX6_order_33 : decode cX6_order 33 = .ok (.bipush 12, 2) := by decide +kernel
theorem dX6_order_35 : decode cX6_order 35 = .ok (.if_icmp .lt 6, 3) := by decide +kernel
theorem dX6_order_38 : decode cX6_order 38 = .ok (.ldc 123, 2) := by decide +kernel
theorem dX6_order_40 : decode cX6_order 40 = .ok (.ireturn, 1) := by decide +kernel
theorem dX6_order_41 : decode cX6_order 41 = .ok (.aload_n 0, 1) := by decide +kernel
theorem dX6_order_42 : decode cX6_order 42 = .ok (.getfield 29, 3) := by decide +kernel
theorem dX6_order_45 : decode cX6_order 45 = .ok (.aload_n 0, 1) := by decide +kernel
theorem dX6_order_46 : decode cX6_order 46 = .ok (.getfield 10, 3) := by decide +kernel
theorem dX6_order_49 : decode cX6_order 49 = .ok (.invokevirtual 48, 3) := by decide +kernel
theorem dX6_order_52 : decode cX6_order 52 = .ok (.aload_n 0, 1) := by decide +kernel
theorem dX6_order_53 : decode cX6_order 53 = .ok (.getfield 10, 3) := by decide +kernel
theorem dX6_order_56 : decode cX6_order 56 = .ok (.getfield 114, 3) := by decide +kernel
theorem dX6_order_59 : decode cX6_order 59 = .ok (.iload_n 1, 1) := by decide +kernel
theorem dX6_order_60 : decode cX6_order 60 = .ok (.iload_n 2, 1) := by decide +kernel
theorem dX6_order_61 : decode cX6_order 61 = .ok (.invokevirtual 124, 3) := by decide +kernel
theorem dX6_order_64 : decode cX6_order 64 = .ok (.aload_n 0, 1) := by decide +kernel
theorem dX6_order_65 : decode cX6_order 65 = .ok (.getfield 10, 3) := by decide +kernel
theorem dX6_order_68 : decode cX6_order 68 = .ok (.getfield 114, 3) := by decide +kernel
theorem dX6_order_71 : decode cX6_order 71 = .ok (.getfield 118, 3) := by decide +kernel
theorem dX6_order_74 : decode cX6_order 74 = .ok (.ireturn, 1) := by decide +kernel
theorem dX6_recall_0 : decode cX6_recall 0 = .ok (.aload_n 0, 1) := by decide +kernel
theorem dX6_recall_1 : decode cX6_recall 1 = .ok (.getfield 10, 3) := by decide +kernel
theorem dX6_recall_4 : decode cX6_recall 4 = .ok (.getfield 114, 3) := by decide +kernel
theorem dX6_recall_7 : decode cX6_recall 7 = .ok (.getfield 118, 3) := by decide +kernel
theorem dX6_recall_10 : decode cX6_recall 10 = .ok (.iconst 1, 1) := by decide +kernel
theorem dX6_recall_11 : decode cX6_recall 11 = .ok (.if_icmp .ge 6, 3) := by decide +kernel
theorem dX6_recall_14 : decode cX6_recall 14 = .ok (.ldc 59, 2) := by decide +kernel
theorem dX6_recall_16 : decode cX6_recall 16 = .ok (.ireturn, 1) := by decide +kernel
theorem dX6_recall_17 : decode cX6_recall 17 = .ok (.aload_n 0, 1) := by decide +kernel
theorem dX6_recall_18 : decode cX6_recall 18 = .ok (.getfield 29, 3) := by decide +kernel
theorem dX6_recall_21 : decode cX6_recall 21 = .ok (.aload_n 0, 1) := by decide +kernel
theorem dX6_recall_22 : decode cX6_recall 22 = .ok (.getfield 10, 3) := by decide +kernel
theorem dX6_recall_25 : decode cX6_recall 25 = .ok (.invokevirtual 48, 3) := by decide +kernel
theorem dX6_recall_28 : decode cX6_recall 28 = .ok (.aload_n 0, 1) := by decide +kernel
theorem dX6_recall_29 : decode cX6_recall 29 = .ok (.getfield 10, 3) := by decide +kernel
theorem dX6_recall_32 : decode cX6_recall 32 = .ok (.getfield 114, 3) := by decide +kernel
theorem dX6_recall_35 : decode cX6_recall 35 = .ok (.invokevirtual 128, 3) := by decide +kernel
theorem dX6_recall_38 : decode cX6_recall 38 = .ok (.ireturn, 1) := by decide +kernel
theorem dX6_flight_0 : decode cX6_flight 0 = .ok (.aload_n 0, 1) := by decide +kernel
theorem dX6_flight_1 : decode cX6_flight 1 = .ok (.getfield 10, 3) := by decide +kernel
theorem dX6_flight_4 : decode cX6_flight 4 = .ok (.getfield 131, 3) := by decide +kernel
theorem dX6_flight_7 : decode cX6_flight 7 = .ok (.iload_n 1, 1) := by decide +kernel
theorem dX6_flight_8 : decode cX6_flight 8 = .ok (.if_icmp .ne 6, 3) := by decide +kernel
theorem dX6_flight_11 : decode cX6_flight 11 = .ok (.ldc 59, 2) := by decide +kernel
theorem dX6_flight_13 : decode cX6_flight 13 = .ok (.ireturn, 1) := by decide +kernel
theorem dX6_flight_14 : decode cX6_flight 14 = .ok (.aload_n 0, 1) := by decide +kernel
theorem dX6_flight_15 : decode cX6_flight 15 = .ok (.getfield 29, 3) := by decide +kernel
theorem dX6_flight_18 : decode cX6_flight 18 = .ok (.aload_n 0, 1) := by decide +kernel
theorem dX6_flight_19 : decode cX6_flight 19 = .ok (.getfield 10, 3) := by decide +kernel
theorem dX6_flight_22 : decode cX6_flight 22 = .ok (.invokevirtual 48, 3) := by decide +kernel
theorem dX6_flight_25 : decode cX6_flight 25 = .ok (.aload_n 0, 1) := by decide +kernel
theorem dX6_flight_26 : decode cX6_flight 26 = .ok (.getfield 10, 3) := by decide +kernel
theorem dX6_flight_29 : decode cX6_flight 29 = .ok (.iload_n 1, 1) := by decide +kernel
theorem dX6_flight_30 : decode cX6_flight 30 = .ok (.putfield 131, 3) := by decide +kernel
theorem dX6_flight_33 : decode cX6_flight 33 = .ok (.aload_n 0, 1) := by decide +kernel
theorem dX6_flight_34 : decode cX6_flight 34 = .ok (.getfield 10, 3) := by decide +kernel
theorem dX6_flight_37 : decode cX6_flight 37 = .ok (.getfield 134, 3) := by decide +kernel
theorem dX6_flight_40 : decode cX6_flight 40 = .ok (.iconst 0, 1) := by decide +kernel
theorem dX6_flight_41 : decode cX6_flight 41 = .ok (.iaload, 1) := by decide +kernel
theorem dX6_flight_42 : decode cX6_flight 42 = .ok (.ireturn, 1) := by decide +kernel
theorem dX6_pass_0 : decode cX6_pass 0 = .ok (.iload_n 1, 1) := by decide +kernel
theorem dX6_pass_1 : decode cX6_pass 1 = .ok (.iconst 1, 1) := by decide +kernel
theorem dX6_pass_2 : decode cX6_pass 2 = .ok (.if_icmp .lt 9, 3) := by decide +kernel
theorem dX6_pass_5 : decode cX6_pass 5 = .ok (.iload_n 1, 1) := by decide +kernel
theorem dX6_pass_6 : decode cX6_pass 6 = .ok (.bipush 30, 2) := by decide +kernel
theorem dX6_pass_8 : decode cX6_pass 8 = .ok (.if_icmp .le 6, 3) := by decide +kernel
theorem dX6_pass_11 : decode cX6_pass 11 = .ok (.ldc 94, 2) := by decide +kernel
theorem dX6_pass_13 : decode cX6_pass 13 = .ok (.ireturn, 1) := by decide +kernel
theorem dX6_pass_14 : decode cX6_pass 14 = .ok (.aload_n 0, 1) := by decide +kernel
theorem dX6_pass_15 : decode cX6_pass 15 = .ok (.getfield 10, 3) := by decide +kernel
theorem dX6_pass_18 : decode cX6_pass 18 = .ok (.getfield 104, 3) := by decide +kernel
theorem dX6_pass_21 : decode cX6_pass 21 = .ok (.iload_n 1, 1) := by decide +kernel
theorem dX6_pass_22 : decode cX6_pass 22 = .ok (.iadd, 1) := by decide +kernel
theorem dX6_pass_23 : decode cX6_pass 23 = .ok (.sipush 999, 3) := by decide +kernel
theorem dX6_pass_26 : decode cX6_pass 26 = .ok (.if_icmp .le 6, 3) := by decide +kernel
theorem dX6_pass_29 : decode cX6_pass 29 = .ok (.ldc 123, 2) := by decide +kernel
theorem dX6_pass_31 : decode cX6_pass 31 = .ok (.ireturn, 1) := by decide +kernel
theorem dX6_pass_32 : decode cX6_pass 32 = .ok (.aload_n 0, 1) := by decide +kernel
theorem dX6_pass_33 : decode cX6_pass 33 = .ok (.getfield 29, 3) := by decide +kernel
theorem dX6_pass_36 : decode cX6_pass 36 = .ok (.aload_n 0, 1) := by decide +kernel
theorem dX6_pass_37 : decode cX6_pass 37 = .ok (.getfield 10, 3) := by decide +kernel
theorem dX6_pass_40 : decode cX6_pass 40 = .ok (.invokevirtual 48, 3) := by decide +kernel
theorem dX6_pass_43 : decode cX6_pass 43 = .ok (.iconst 0, 1) := by decide +kernel
theorem dX6_pass_44 : decode cX6_pass 44 = .ok (.istore_n 2, 1) := by decide +kernel
theorem dX6_pass_45 : decode cX6_pass 45 = .ok (.iload_n 2, 1) := by decide +kernel
theorem dX6_pass_46 : decode cX6_pass 46 = .ok (.iload_n 1, 1) := by decide +kernel
theorem dX6_pass_47 : decode cX6_pass 47 = .ok (.if_icmp .ge 16, 3) := by decide +kernel
theorem dX6_pass_50 : decode cX6_pass 50 = .ok (.aload_n 0, 1) := by decide +kernel
theorem dX6_pass_51 : decode cX6_pass 51 = .ok (.getfield 10, 3) := by decide +kernel
theorem dX6_pass_54 : decode cX6_pass 54 = .ok (.invokevirtual 137, 3) := by decide +kernel
theorem dX6_pass_57 : decode cX6_pass 57 = .ok (.iinc 2 1, 3) := by decide +kernel
theorem dX6_pass_60 : decode cX6_pass 60 = .ok (.goto (-15), 3) := by decide +kernel
theorem dX6_pass_63 : decode cX6_pass 63 = .ok (.aload_n 0, 1) := by decide +kernel
theorem dX6_pass_64 : decode cX6_pass 64 = .ok (.getfield 10, 3) := by decide +kernel
theorem dX6_pass_67 : decode cX6_pass 67 = .ok (.getfield 104, 3) := by decide +kernel
theorem dX6_pass_70 : decode cX6_pass 70 = .ok (.ireturn, 1) := by decide +kernel
theorem dX6_set_0 : decode cX6_set 0 = .ok (.iload_n 1, 1) := by decide +kernel
theorem dX6_set_1 : decode cX6_set 1 = .ok (.ifCond .lt 9, 3) := by decide +kernel
theorem dX6_set_4 : decode cX6_set 4 = .ok (.iload_n 1, 1) := by decide +kernel
theorem dX6_set_5 : decode cX6_set 5 = .ok (.bipush 10, 2) := by decide +kernel
theorem dX6_set_7 : decode cX6_set 7 = .ok (.if_icmp .lt 6, 3) := by decide +kernel
theorem dX6_set_10 : decode cX6_set 10 = .ok (.ldc 94, 2) := by decide +kernel
theorem dX6_set_12 : decode cX6_set 12 = .ok (.ireturn, 1) := by decide +kernel
theorem dX6_set_13 : decode cX6_set 13 = .ok (.iload_n 2, 1) := by decide +kernel
theorem dX6_set_14 : decode cX6_set 14 = .ok (.getstatic 140, 3) := by decide +kernel
theorem dX6_set_17 : decode cX6_set 17 = .ok (.iload_n 1, 1) := by decide +kernel
theorem dX6_set_18 : decode cX6_set 18 = .ok (.iaload, 1) := by decide +kernel
theorem dX6_set_19 : decode cX6_set 19 = .ok (.if_icmp .lt 12, 3) := by decide +kernel
theorem dX6_set_22 : decode cX6_set 22 = .ok (.iload_n 2, 1) := by decide +kernel
theorem dX6_set_23 : decode cX6_set 23 = .ok (.getstatic 143, 3) := by decide +kernel
theorem dX6_set_26 : decode cX6_set 26 = .ok (.iload_n 1, 1) := by decide +kernel
theorem dX6_set_27 : decode cX6_set 27 = .ok (.iaload, 1) := by decide +kernel
theorem dX6_set_28 : decode cX6_set 28 = .ok (.if_icmp .le 6, 3) := by decide +kernel
theorem dX6_set_31 : decode cX6_set 31 = .ok (.ldc 94, 2) := by decide +kernel
theorem dX6_set_33 : decode cX6_set 33 = .ok (.ireturn, 1) := by decide +kernel
theorem dX6_set_34 : decode cX6_set 34 = .ok (.iload_n 1, 1) := by decide +kernel
theorem dX6_set_35 : decode cX6_set 35 = .ok (.ifCond .ne 14, 3) := by decide +kernel
theorem dX6_set_38 : decode cX6_set 38 = .ok (.aload_n 0, 1) := by decide +kernel
theorem dX6_set_39 : decode cX6_set 39 = .ok (.invokevirtual 146, 3) := by decide +kernel
theorem dX6_set_42 : decode cX6_set 42 = .ok (.iload_n 2, 1) := by decide +kernel
theorem dX6_set_43 : decode cX6_set 43 = .ok (.if_icmp .le 6, 3) := by decide +kernel
theorem dX6_set_46 : decode cX6_set 46 = .ok (.ldc 99, 2) := by decide +kernel
theorem dX6_set_48 : decode cX6_set 48 = .ok (.ireturn, 1) := by decide +kernel
theorem dX6_set_49 : decode cX6_set 49 = .ok (.aload_n 0, 1) := by decide +kernel
theorem dX6_set_50 : decode cX6_set 50 = .ok (.getfield 10, 3) := by decide +kernel
theorem dX6_set_53 : decode cX6_set 53 = .ok (.getfield 149, 3) := by decide +kernel
theorem dX6_set_56 : decode cX6_set 56 = .ok (.iload_n 1, 1) := by decide +kernel
theorem dX6_set_57 : decode cX6_set 57 = .ok (.iaload, 1) := by decide +kernel
theorem dX6_set_58 : decode cX6_set 58 = .ok (.istore_n 3, 1) := by decide +kernel
theorem dX6_set_59 : decode cX6_set 59 = .ok (.iload_n 3, 1) := by decide +kernel
theorem dX6_set_60 : decode cX6_set 60 = .ok (.iload_n 2, 1) := by decide +kernel
theorem dX6_set_61 : decode cX6_set 61 = .ok (.if_icmp .ne 6, 3) := by decide +kernel
theorem dX6_set_64 : decode cX6_set 64 = .ok (.ldc 59, 2) := by decide +kernel
theorem dX6_set_66 : decode cX6_set 66 = .ok (.ireturn, 1) := by decide +kernel
theorem dX6_set_67 : decode cX6_set 67 = .ok (.aload_n 0, 1) := by decide +kernel
theorem dX6_set_68 : decode cX6_set 68 = .ok (.getfield 29, 3) := by decide +kernel
theorem dX6_set_71 : decode cX6_set 71 = .ok (.aload_n 0, 1) := by decide +kernel
theorem dX6_set_72 : decode cX6_set 72 = .ok (.getfield 10, 3) := by decide +kernel
theorem dX6_set_75 : decode cX6_set 75 = .ok (.invokevirtual 48, 3) := by decide +kernel
theorem dX6_set_78 : decode cX6_set 78 = .ok (.aload_n 0, 1) := by decide +kernel
theorem dX6_set_79 : decode cX6_set 79 = .ok (.getfield 10, 3) := by decide +kernel
theorem dX6_set_82 : decode cX6_set 82 = .ok (.getfield 149, 3) := by decide +kernel
theorem dX6_set_85 : decode cX6_set 85 = .ok (.iload_n 1, 1) := by decide +kernel
theorem dX6_set_86 : decode cX6_set 86 = .ok (.iload_n 2, 1) := by decide +kernel
theorem dX6_set_87 : decode cX6_set 87 = .ok (.iastore, 1) := by decide +kernel
theorem dX6_set_88 : decode cX6_set 88 = .ok (.iload_n 3, 1) := by decide +kernel
theorem dX6_set_89 : decode cX6_set 89 = .ok (.ireturn, 1) := by decide +kernel
theorem dX6_type_0 : decode cX6_type 0 = .ok (.aload_n 0, 1) := by decide +kernel
theorem dX6_type_1 : decode cX6_type 1 = .ok (.getfield 36, 3) := by decide +kernel
theorem dX6_type_4 : decode cX6_type 4 = .ok (.getfield 152, 3) := by decide +kernel
theorem dX6_type_7 : decode cX6_type 7 = .ok (.bipush 60, 2) := by decide +kernel
theorem dX6_type_9 : decode cX6_type 9 = .ok (.if_icmp .lt 6, 3) := by decide +kernel
theorem dX6_type_12 : decode cX6_type 12 = .ok (.ldc 123, 2) := by decide +kernel
theorem dX6_type_14 : decode cX6_type 14 = .ok (.ireturn, 1) := by decide +kernel
theorem dX6_type_15 : decode cX6_type 15 = .ok (.aload_n 0, 1) := by decide +kernel
theorem dX6_type_16 : decode cX6_type 16 = .ok (.getfield 36, 3) := by decide +kernel
theorem dX6_type_19 : decode cX6_type 19 = .ok (.iload_n 1, 1) := by decide +kernel
theorem dX6_type_20 : decode cX6_type 20 = .ok (.invokevirtual 155, 3) := by decide +kernel
theorem dX6_type_23 : decode cX6_type 23 = .ok (.aload_n 0, 1) := by decide +kernel
theorem dX6_type_24 : decode cX6_type 24 = .ok (.getfield 36, 3) := by decide +kernel
theorem dX6_type_27 : decode cX6_type 27 = .ok (.getfield 152, 3) := by decide +kernel
theorem dX6_type_30 : decode cX6_type 30 = .ok (.ireturn, 1) := by decide +kernel
theorem dX6_clearText_0 : decode cX6_clearText 0 = .ok (.aload_n 0, 1) := by decide +kernel
theorem dX6_clearText_1 : decode cX6_clearText 1 = .ok (.getfield 36, 3) := by decide +kernel
theorem dX6_clearText_4 : decode cX6_clearText 4 = .ok (.getfield 152, 3) := by decide +kernel
theorem dX6_clearText_7 : decode cX6_clearText 7 = .ok (.istore_n 1, 1) := by decide +kernel
theorem dX6_clearText_8 : decode cX6_clearText 8 = .ok (.aload_n 0, 1) := by decide +kernel
theorem dX6_clearText_9 : decode cX6_clearText 9 = .ok (.getfield 36, 3) := by decide +kernel
theorem dX6_clearText_12 : decode cX6_clearText 12 = .ok (.iconst 0, 1) := by decide +kernel
theorem dX6_clearText_13 : decode cX6_clearText 13 = .ok (.putfield 152, 3) := by decide +kernel
theorem dX6_clearText_16 : decode cX6_clearText 16 = .ok (.iload_n 1, 1) := by decide +kernel
theorem dX6_clearText_17 : decode cX6_clearText 17 = .ok (.ireturn, 1) := by decide +kernel
theorem dX6_fault_0 : decode cX6_fault 0 = .ok (.aload_n 0, 1) := by decide +kernel
theorem dX6_fault_1 : decode cX6_fault 1 = .ok (.getfield 36, 3) := by decide +kernel
theorem dX6_fault_4 : decode cX6_fault 4 = .ok (.invokevirtual 55, 3) := by decide +kernel
theorem dX6_fault_7 : decode cX6_fault 7 = .ok (.ireturn, 1) := by decide +kernel
theorem dX6_undo_0 : decode cX6_undo 0 = .ok (.aload_n 0, 1) := by decide +kernel
theorem dX6_undo_1 : decode cX6_undo 1 = .ok (.getfield 29, 3) := by decide +kernel
theorem dX6_undo_4 : decode cX6_undo 4 = .ok (.getfield 158, 3) := by decide +kernel
theorem dX6_undo_7 : decode cX6_undo 7 = .ok (.iconst 1, 1) := by decide +kernel
theorem dX6_undo_8 : decode cX6_undo 8 = .ok (.if_icmp .ge 6, 3) := by decide +kernel
theorem dX6_undo_11 : decode cX6_undo 11 = .ok (.ldc 59, 2) := by decide +kernel
theorem dX6_undo_13 : decode cX6_undo 13 = .ok (.ireturn, 1) := by decide +kernel
theorem dX6_undo_14 : decode cX6_undo 14 = .ok (.aload_n 0, 1) := by decide +kernel
theorem dX6_undo_15 : decode cX6_undo 15 = .ok (.getfield 29, 3) := by decide +kernel
theorem dX6_undo_18 : decode cX6_undo 18 = .ok (.aload_n 0, 1) := by decide +kernel
theorem dX6_undo_19 : decode cX6_undo 19 = .ok (.getfield 10, 3) := by decide +kernel
theorem dX6_undo_22 : decode cX6_undo 22 = .ok (.invokevirtual 159, 3) := by decide +kernel
theorem dX6_undo_25 : decode cX6_undo 25 = .ok (.aload_n 0, 1) := by decide +kernel
theorem dX6_undo_26 : decode cX6_undo 26 = .ok (.getfield 29, 3) := by decide +kernel
theorem dX6_undo_29 : decode cX6_undo 29 = .ok (.getfield 158, 3) := by decide +kernel
theorem dX6_undo_32 : decode cX6_undo 32 = .ok (.ireturn, 1) := by decide +kernel
theorem dX6_keep_0 : decode cX6_keep 0 = .ok (.aload_n 0, 1) := by decide +kernel
theorem dX6_keep_1 : decode cX6_keep 1 = .ok (.getfield 19, 3) := by decide +kernel
theorem dX6_keep_4 : decode cX6_keep 4 = .ok (.aload_n 0, 1) := by decide +kernel
theorem dX6_keep_5 : decode cX6_keep 5 = .ok (.getfield 10, 3) := by decide +kernel
theorem dX6_keep_8 : decode cX6_keep 8 = .ok (.invokevirtual 60, 3) := by decide +kernel
theorem dX6_keep_11 : decode cX6_keep 11 = .ok (.aload_n 0, 1) := by decide +kernel
theorem dX6_keep_12 : decode cX6_keep 12 = .ok (.iconst 1, 1) := by decide +kernel
theorem dX6_keep_13 : decode cX6_keep 13 = .ok (.putfield 22, 3) := by decide +kernel
theorem dX6_keep_16 : decode cX6_keep 16 = .ok (.aload_n 0, 1) := by decide +kernel
theorem dX6_keep_17 : decode cX6_keep 17 = .ok (.getfield 10, 3) := by decide +kernel
theorem dX6_keep_20 : decode cX6_keep 20 = .ok (.getfield 104, 3) := by decide +kernel
theorem dX6_keep_23 : decode cX6_keep 23 = .ok (.ireturn, 1) := by decide +kernel
theorem dX6_restore_0 : decode cX6_restore 0 = .ok (.aload_n 0, 1) := by decide +kernel
theorem dX6_restore_1 : decode cX6_restore 1 = .ok (.getfield 22, 3) := by decide +kernel
theorem dX6_restore_4 : decode cX6_restore 4 = .ok (.ifCond .ne 6, 3) := by decide +kernel
theorem dX6_restore_7 : decode cX6_restore 7 = .ok (.ldc 59, 2) := by decide +kernel
theorem dX6_restore_9 : decode cX6_restore 9 = .ok (.ireturn, 1) := by decide +kernel
theorem dX6_restore_10 : decode cX6_restore 10 = .ok (.aload_n 0, 1) := by decide +kernel
theorem dX6_restore_11 : decode cX6_restore 11 = .ok (.getfield 29, 3) := by decide +kernel
theorem dX6_restore_14 : decode cX6_restore 14 = .ok (.aload_n 0, 1) := by decide +kernel
theorem dX6_restore_15 : decode cX6_restore 15 = .ok (.getfield 10, 3) := by decide +kernel
theorem dX6_restore_18 : decode cX6_restore 18 = .ok (.invokevirtual 48, 3) := by decide +kernel
theorem dX6_restore_21 : decode cX6_restore 21 = .ok (.aload_n 0, 1) := by decide +kernel
theorem dX6_restore_22 : decode cX6_restore 22 = .ok (.getfield 10, 3) := by decide +kernel
theorem dX6_restore_25 : decode cX6_restore 25 = .ok (.aload_n 0, 1) := by decide +kernel
theorem dX6_restore_26 : decode cX6_restore 26 = .ok (.getfield 19, 3) := by decide +kernel
theorem dX6_restore_29 : decode cX6_restore 29 = .ok (.invokevirtual 60, 3) := by decide +kernel
theorem dX6_restore_32 : decode cX6_restore 32 = .ok (.aload_n 0, 1) := by decide +kernel
theorem dX6_restore_33 : decode cX6_restore 33 = .ok (.getfield 10, 3) := by decide +kernel
theorem dX6_restore_36 : decode cX6_restore 36 = .ok (.getfield 104, 3) := by decide +kernel
theorem dX6_restore_39 : decode cX6_restore 39 = .ok (.ireturn, 1) := by decide +kernel
theorem dX6_booking_0 : decode cX6_booking 0 = .ok (.aload_n 0, 1) := by decide +kernel
theorem dX6_booking_1 : decode cX6_booking 1 = .ok (.getfield 10, 3) := by decide +kernel
theorem dX6_booking_4 : decode cX6_booking 4 = .ok (.getfield 83, 3) := by decide +kernel
theorem dX6_booking_7 : decode cX6_booking 7 = .ok (.astore_n 3, 1) := by decide +kernel
theorem dX6_booking_8 : decode cX6_booking 8 = .ok (.aload_n 3, 1) := by decide +kernel
theorem dX6_booking_9 : decode cX6_booking 9 = .ok (.iload_n 1, 1) := by decide +kernel
theorem dX6_booking_10 : decode cX6_booking 10 = .ok (.invokevirtual 87, 3) := by decide +kernel
theorem dX6_booking_13 : decode cX6_booking 13 = .ok (.ifCond .ne 6, 3) := by decide +kernel
theorem dX6_booking_16 : decode cX6_booking 16 = .ok (.ldc 93, 2) := by decide +kernel
theorem dX6_booking_18 : decode cX6_booking 18 = .ok (.ireturn, 1) := by decide +kernel
theorem dX6_booking_19 : decode cX6_booking 19 = .ok (.iload_n 2, 1) := by decide +kernel
theorem dX6_booking_20 : decode cX6_booking 20 = .ok (.tableswitch 139 0 8 #[52, 59, 66, 73, 80, 86, 93, 110, 117], 52) := by decide +kernel
theorem dX6_booking_72 : decode cX6_booking 72 = .ok (.aload_n 3, 1) := by decide +kernel
theorem dX6_booking_73 : decode cX6_booking 73 = .ok (.getfield 162, 3) := by decide +kernel
theorem dX6_booking_76 : decode cX6_booking 76 = .ok (.iload_n 1, 1) := by decide +kernel
theorem dX6_booking_77 : decode cX6_booking 77 = .ok (.iaload, 1) := by decide +kernel
theorem dX6_booking_78 : decode cX6_booking 78 = .ok (.ireturn, 1) := by decide +kernel
theorem dX6_booking_79 : decode cX6_booking 79 = .ok (.aload_n 3, 1) := by decide +kernel
theorem dX6_booking_80 : decode cX6_booking 80 = .ok (.getfield 165, 3) := by decide +kernel
theorem dX6_booking_83 : decode cX6_booking 83 = .ok (.iload_n 1, 1) := by decide +kernel
theorem dX6_booking_84 : decode cX6_booking 84 = .ok (.iaload, 1) := by decide +kernel
theorem dX6_booking_85 : decode cX6_booking 85 = .ok (.ireturn, 1) := by decide +kernel
theorem dX6_booking_86 : decode cX6_booking 86 = .ok (.aload_n 3, 1) := by decide +kernel
theorem dX6_booking_87 : decode cX6_booking 87 = .ok (.getfield 100, 3) := by decide +kernel
theorem dX6_booking_90 : decode cX6_booking 90 = .ok (.iload_n 1, 1) := by decide +kernel
theorem dX6_booking_91 : decode cX6_booking 91 = .ok (.iaload, 1) := by decide +kernel
theorem dX6_booking_92 : decode cX6_booking 92 = .ok (.ireturn, 1) := by decide +kernel
theorem dX6_booking_93 : decode cX6_booking 93 = .ok (.aload_n 3, 1) := by decide +kernel
theorem dX6_booking_94 : decode cX6_booking 94 = .ok (.getfield 166, 3) := by decide +kernel
theorem dX6_booking_97 : decode cX6_booking 97 = .ok (.iload_n 1, 1) := by decide +kernel
theorem dX6_booking_98 : decode cX6_booking 98 = .ok (.iaload, 1) := by decide +kernel
theorem dX6_booking_99 : decode cX6_booking 99 = .ok (.ireturn, 1) := by decide +kernel
theorem dX6_booking_100 : decode cX6_booking 100 = .ok (.aload_n 3, 1) := by decide +kernel
theorem dX6_booking_101 : decode cX6_booking 101 = .ok (.iload_n 1, 1) := by decide +kernel
theorem dX6_booking_102 : decode cX6_booking 102 = .ok (.invokevirtual 101, 3) := by decide +kernel
theorem dX6_booking_105 : decode cX6_booking 105 = .ok (.ireturn, 1) := by decide +kernel
theorem dX6_booking_106 : decode cX6_booking 106 = .ok (.aload_n 3, 1) := by decide +kernel
theorem dX6_booking_107 : decode cX6_booking 107 = .ok (.getfield 167, 3) := by decide +kernel
theorem dX6_booking_110 : decode cX6_booking 110 = .ok (.iload_n 1, 1) := by decide +kernel
theorem dX6_booking_111 : decode cX6_booking 111 = .ok (.iaload, 1) := by decide +kernel
theorem dX6_booking_112 : decode cX6_booking 112 = .ok (.ireturn, 1) := by decide +kernel
theorem dX6_booking_113 : decode cX6_booking 113 = .ok (.aload_n 0, 1) := by decide +kernel
theorem dX6_booking_114 : decode cX6_booking 114 = .ok (.getfield 10, 3) := by decide +kernel
theorem dX6_booking_117 : decode cX6_booking 117 = .ok (.iload_n 1, 1) := by decide +kernel
theorem dX6_booking_118 : decode cX6_booking 118 = .ok (.invokevirtual 170, 3) := by decide +kernel
theorem dX6_booking_121 : decode cX6_booking 121 = .ok (.ifCond .eq 7, 3) := by decide +kernel
theorem dX6_booking_124 : decode cX6_booking 124 = .ok (.iconst 1, 1) := by decide +kernel
theorem dX6_booking_125 : decode cX6_booking 125 = .ok (.goto 4, 3) := by decide +kernel
theorem dX6_booking_128 : decode cX6_booking 128 = .ok (.iconst 0, 1) := by decide +kernel
theorem dX6_booking_129 : decode cX6_booking 129 = .ok (.ireturn, 1) := by decide +kernel
theorem dX6_booking_130 : decode cX6_booking 130 = .ok (.aload_n 3, 1) := by decide +kernel
theorem dX6_booking_131 : decode cX6_booking 131 = .ok (.getfield 173, 3) := by decide +kernel
theorem dX6_booking_134 : decode cX6_booking 134 = .ok (.iload_n 1, 1) := by decide +kernel
theorem dX6_booking_135 : decode cX6_booking 135 = .ok (.iaload, 1) := by decide +kernel
theorem dX6_booking_136 : decode cX6_booking 136 = .ok (.ireturn, 1) := by decide +kernel
theorem dX6_booking_137 : decode cX6_booking 137 = .ok (.aload_n 3, 1) := by decide +kernel
theorem dX6_booking_138 : decode cX6_booking 138 = .ok (.getfield 176, 3) := by decide +kernel
theorem dX6_booking_141 : decode cX6_booking 141 = .ok (.iload_n 1, 1) := by decide +kernel
theorem dX6_booking_142 : decode cX6_booking 142 = .ok (.iaload, 1) := by decide +kernel
theorem dX6_booking_143 : decode cX6_booking 143 = .ok (.iconst (-1), 1) := by decide +kernel
theorem dX6_booking_144 : decode cX6_booking 144 = .ok (.if_icmp .ne 8, 3) := by decide +kernel
theorem dX6_booking_147 : decode cX6_booking 147 = .ok (.ldc 59, 2) := by decide +kernel
theorem dX6_booking_149 : decode cX6_booking 149 = .ok (.goto 9, 3) := by decide +kernel
theorem dX6_booking_152 : decode cX6_booking 152 = .ok (.aload_n 3, 1) := by decide +kernel
theorem dX6_booking_153 : decode cX6_booking 153 = .ok (.getfield 176, 3) := by decide +kernel
theorem dX6_booking_156 : decode cX6_booking 156 = .ok (.iload_n 1, 1) := by decide +kernel
theorem dX6_booking_157 : decode cX6_booking 157 = .ok (.iaload, 1) := by decide +kernel
theorem dX6_booking_158 : decode cX6_booking 158 = .ok (.ireturn, 1) := by decide +kernel
theorem dX6_booking_159 : decode cX6_booking 159 = .ok (.ldc 94, 2) := by decide +kernel
theorem dX6_booking_161 : decode cX6_booking 161 = .ok (.ireturn, 1) := by decide +kernel
theorem dX6_day_0 : decode cX6_day 0 = .ok (.iload_n 1, 1) := by decide +kernel
theorem dX6_day_1 : decode cX6_day 1 = .ok (.ifCond .lt 10, 3) := by decide +kernel
theorem dX6_day_4 : decode cX6_day 4 = .ok (.iload_n 1, 1) := by decide +kernel
theorem dX6_day_5 : decode cX6_day 5 = .ok (.sipush 999, 3) := by decide +kernel
theorem dX6_day_8 : decode cX6_day 8 = .ok (.if_icmp .le 6, 3) := by decide +kernel
theorem dX6_day_11 : decode cX6_day 11 = .ok (.ldc 94, 2) := by decide +kernel
theorem dX6_day_13 : decode cX6_day 13 = .ok (.ireturn, 1) := by decide +kernel
theorem dX6_day_14 : decode cX6_day 14 = .ok (.iload_n 2, 1) := by decide +kernel
theorem dX6_day_15 : decode cX6_day 15 = .ok (.tableswitch 100 0 4 #[33, 45, 67, 76, 88], 33) := by decide +kernel
theorem dX6_day_48 : decode cX6_day 48 = .ok (.aload_n 0, 1) := by decide +kernel
theorem dX6_day_49 : decode cX6_day 49 = .ok (.getfield 10, 3) := by decide +kernel
theorem dX6_day_52 : decode cX6_day 52 = .ok (.getfield 83, 3) := by decide +kernel
theorem dX6_day_55 : decode cX6_day 55 = .ok (.iload_n 1, 1) := by decide +kernel
theorem dX6_day_56 : decode cX6_day 56 = .ok (.invokevirtual 179, 3) := by decide +kernel
theorem dX6_day_59 : decode cX6_day 59 = .ok (.ireturn, 1) := by decide +kernel
theorem dX6_day_60 : decode cX6_day 60 = .ok (.aload_n 0, 1) := by decide +kernel
theorem dX6_day_61 : decode cX6_day 61 = .ok (.getfield 10, 3) := by decide +kernel
theorem dX6_day_64 : decode cX6_day 64 = .ok (.getfield 149, 3) := by decide +kernel
theorem dX6_day_67 : decode cX6_day 67 = .ok (.iconst 0, 1) := by decide +kernel
theorem dX6_day_68 : decode cX6_day 68 = .ok (.iaload, 1) := by decide +kernel
theorem dX6_day_69 : decode cX6_day 69 = .ok (.aload_n 0, 1) := by decide +kernel
theorem dX6_day_70 : decode cX6_day 70 = .ok (.getfield 10, 3) := by decide +kernel
theorem dX6_day_73 : decode cX6_day 73 = .ok (.getfield 83, 3) := by decide +kernel
theorem dX6_day_76 : decode cX6_day 76 = .ok (.iload_n 1, 1) := by decide +kernel
theorem dX6_day_77 : decode cX6_day 77 = .ok (.invokevirtual 179, 3) := by decide +kernel
theorem dX6_day_80 : decode cX6_day 80 = .ok (.isub, 1) := by decide +kernel
theorem dX6_day_81 : decode cX6_day 81 = .ok (.ireturn, 1) := by decide +kernel
theorem dX6_day_82 : decode cX6_day 82 = .ok (.aload_n 0, 1) := by decide +kernel
theorem dX6_day_83 : decode cX6_day 83 = .ok (.getfield 10, 3) := by decide +kernel
theorem dX6_day_86 : decode cX6_day 86 = .ok (.iload_n 1, 1) := by decide +kernel
theorem dX6_day_87 : decode cX6_day 87 = .ok (.invokevirtual 182, 3) := by decide +kernel
theorem dX6_day_90 : decode cX6_day 90 = .ok (.ireturn, 1) := by decide +kernel
theorem dX6_day_91 : decode cX6_day 91 = .ok (.aload_n 0, 1) := by decide +kernel
theorem dX6_day_92 : decode cX6_day 92 = .ok (.getfield 10, 3) := by decide +kernel
theorem dX6_day_95 : decode cX6_day 95 = .ok (.getfield 83, 3) := by decide +kernel
theorem dX6_day_98 : decode cX6_day 98 = .ok (.iload_n 1, 1) := by decide +kernel
theorem dX6_day_99 : decode cX6_day 99 = .ok (.invokevirtual 185, 3) := by decide +kernel
theorem dX6_day_102 : decode cX6_day 102 = .ok (.ireturn, 1) := by decide +kernel
theorem dX6_day_103 : decode cX6_day 103 = .ok (.aload_n 0, 1) := by decide +kernel
theorem dX6_day_104 : decode cX6_day 104 = .ok (.getfield 10, 3) := by decide +kernel
theorem dX6_day_107 : decode cX6_day 107 = .ok (.getfield 83, 3) := by decide +kernel
theorem dX6_day_110 : decode cX6_day 110 = .ok (.iload_n 1, 1) := by decide +kernel
theorem dX6_day_111 : decode cX6_day 111 = .ok (.invokevirtual 188, 3) := by decide +kernel
theorem dX6_day_114 : decode cX6_day 114 = .ok (.ireturn, 1) := by decide +kernel
theorem dX6_day_115 : decode cX6_day 115 = .ok (.ldc 94, 2) := by decide +kernel
theorem dX6_day_117 : decode cX6_day 117 = .ok (.ireturn, 1) := by decide +kernel
theorem dX6_fresh_0 : decode cX6_fresh 0 = .ok (.iload_n 1, 1) := by decide +kernel
theorem dX6_fresh_1 : decode cX6_fresh 1 = .ok (.ifCond .lt 12, 3) := by decide +kernel
theorem dX6_fresh_4 : decode cX6_fresh 4 = .ok (.iload_n 2, 1) := by decide +kernel
theorem dX6_fresh_5 : decode cX6_fresh 5 = .ok (.ifCond .lt 8, 3) := by decide +kernel
theorem dX6_fresh_8 : decode cX6_fresh 8 = .ok (.iload_n 2, 1) := by decide +kernel
theorem dX6_fresh_9 : decode cX6_fresh 9 = .ok (.iconst 1, 1) := by decide +kernel
theorem dX6_fresh_10 : decode cX6_fresh 10 = .ok (.if_icmp .le 6, 3) := by decide +kernel
theorem dX6_fresh_13 : decode cX6_fresh 13 = .ok (.ldc 94, 2) := by decide +kernel
theorem dX6_fresh_15 : decode cX6_fresh 15 = .ok (.ireturn, 1) := by decide +kernel
theorem dX6_fresh_16 : decode cX6_fresh 16 = .ok (.aload_n 0, 1) := by decide +kernel
theorem dX6_fresh_17 : decode cX6_fresh 17 = .ok (.getfield 10, 3) := by decide +kernel
theorem dX6_fresh_20 : decode cX6_fresh 20 = .ok (.getfield 191, 3) := by decide +kernel
theorem dX6_fresh_23 : decode cX6_fresh 23 = .ok (.aload_n 0, 1) := by decide +kernel
theorem dX6_fresh_24 : decode cX6_fresh 24 = .ok (.getfield 10, 3) := by decide +kernel
theorem dX6_fresh_27 : decode cX6_fresh 27 = .ok (.getfield 104, 3) := by decide +kernel
theorem dX6_fresh_30 : decode cX6_fresh 30 = .ok (.iload_n 1, 1) := by decide +kernel
theorem dX6_fresh_31 : decode cX6_fresh 31 = .ok (.invokevirtual 195, 3) := by decide +kernel
theorem dX6_fresh_34 : decode cX6_fresh 34 = .ok (.istore_n 3, 1) := by decide +kernel
theorem dX6_fresh_35 : decode cX6_fresh 35 = .ok (.iload_n 3, 1) := by decide +kernel
theorem dX6_fresh_36 : decode cX6_fresh 36 = .ok (.ldc 59, 2) := by decide +kernel
theorem dX6_fresh_38 : decode cX6_fresh 38 = .ok (.if_icmp .ne 6, 3) := by decide +kernel
theorem dX6_fresh_41 : decode cX6_fresh 41 = .ok (.ldc 59, 2) := by decide +kernel
theorem dX6_fresh_43 : decode cX6_fresh 43 = .ok (.ireturn, 1) := by decide +kernel
theorem dX6_fresh_44 : decode cX6_fresh 44 = .ok (.iload_n 2, 1) := by decide +kernel
theorem dX6_fresh_45 : decode cX6_fresh 45 = .ok (.ifCond .ne 7, 3) := by decide +kernel
theorem dX6_fresh_48 : decode cX6_fresh 48 = .ok (.iload_n 3, 1) := by decide +kernel
theorem dX6_fresh_49 : decode cX6_fresh 49 = .ok (.goto 14, 3) := by decide +kernel
theorem dX6_fresh_52 : decode cX6_fresh 52 = .ok (.aload_n 0, 1) := by decide +kernel
theorem dX6_fresh_53 : decode cX6_fresh 53 = .ok (.getfield 10, 3) := by decide +kernel
theorem dX6_fresh_56 : decode cX6_fresh 56 = .ok (.getfield 191, 3) := by decide +kernel
theorem dX6_fresh_59 : decode cX6_fresh 59 = .ok (.iload_n 3, 1) := by decide +kernel
theorem dX6_fresh_60 : decode cX6_fresh 60 = .ok (.invokevirtual 201, 3) := by decide +kernel
theorem dX6_fresh_63 : decode cX6_fresh 63 = .ok (.ireturn, 1) := by decide +kernel
theorem dX6_waiting_0 : decode cX6_waiting 0 = .ok (.iload_n 1, 1) := by decide +kernel
theorem dX6_waiting_1 : decode cX6_waiting 1 = .ok (.ifCond .lt 12, 3) := by decide +kernel
theorem dX6_waiting_4 : decode cX6_waiting 4 = .ok (.iload_n 2, 1) := by decide +kernel
theorem dX6_waiting_5 : decode cX6_waiting 5 = .ok (.ifCond .lt 8, 3) := by decide +kernel
theorem dX6_waiting_8 : decode cX6_waiting 8 = .ok (.iload_n 2, 1) := by decide +kernel
theorem dX6_waiting_9 : decode cX6_waiting 9 = .ok (.iconst 1, 1) := by decide +kernel
theorem dX6_waiting_10 : decode cX6_waiting 10 = .ok (.if_icmp .le 6, 3) := by decide +kernel
theorem dX6_waiting_13 : decode cX6_waiting 13 = .ok (.ldc 94, 2) := by decide +kernel
theorem dX6_waiting_15 : decode cX6_waiting 15 = .ok (.ireturn, 1) := by decide +kernel
theorem dX6_waiting_16 : decode cX6_waiting 16 = .ok (.iload_n 1, 1) := by decide +kernel
theorem dX6_waiting_17 : decode cX6_waiting 17 = .ok (.aload_n 0, 1) := by decide +kernel
theorem dX6_waiting_18 : decode cX6_waiting 18 = .ok (.getfield 10, 3) := by decide +kernel
theorem dX6_waiting_21 : decode cX6_waiting 21 = .ok (.getfield 114, 3) := by decide +kernel
theorem dX6_waiting_24 : decode cX6_waiting 24 = .ok (.getfield 118, 3) := by decide +kernel
theorem dX6_waiting_27 : decode cX6_waiting 27 = .ok (.if_icmp .lt 6, 3) := by decide +kernel
theorem dX6_waiting_30 : decode cX6_waiting 30 = .ok (.ldc 59, 2) := by decide +kernel
theorem dX6_waiting_32 : decode cX6_waiting 32 = .ok (.ireturn, 1) := by decide +kernel
theorem dX6_waiting_33 : decode cX6_waiting 33 = .ok (.iload_n 2, 1) := by decide +kernel
theorem dX6_waiting_34 : decode cX6_waiting 34 = .ok (.ifCond .ne 18, 3) := by decide +kernel
theorem dX6_waiting_37 : decode cX6_waiting 37 = .ok (.aload_n 0, 1) := by decide +kernel
theorem dX6_waiting_38 : decode cX6_waiting 38 = .ok (.getfield 10, 3) := by decide +kernel
theorem dX6_waiting_41 : decode cX6_waiting 41 = .ok (.getfield 114, 3) := by decide +kernel
theorem dX6_waiting_44 : decode cX6_waiting 44 = .ok (.getfield 204, 3) := by decide +kernel
theorem dX6_waiting_47 : decode cX6_waiting 47 = .ok (.iload_n 1, 1) := by decide +kernel
theorem dX6_waiting_48 : decode cX6_waiting 48 = .ok (.iaload, 1) := by decide +kernel
theorem dX6_waiting_49 : decode cX6_waiting 49 = .ok (.goto 15, 3) := by decide +kernel
theorem dX6_waiting_52 : decode cX6_waiting 52 = .ok (.aload_n 0, 1) := by decide +kernel
theorem dX6_waiting_53 : decode cX6_waiting 53 = .ok (.getfield 10, 3) := by decide +kernel
theorem dX6_waiting_56 : decode cX6_waiting 56 = .ok (.getfield 114, 3) := by decide +kernel
theorem dX6_waiting_59 : decode cX6_waiting 59 = .ok (.getfield 207, 3) := by decide +kernel
theorem dX6_waiting_62 : decode cX6_waiting 62 = .ok (.iload_n 1, 1) := by decide +kernel
theorem dX6_waiting_63 : decode cX6_waiting 63 = .ok (.iaload, 1) := by decide +kernel
theorem dX6_waiting_64 : decode cX6_waiting 64 = .ok (.ireturn, 1) := by decide +kernel
theorem dX6_count_0 : decode cX6_count 0 = .ok (.iload_n 1, 1) := by decide +kernel
theorem dX6_count_1 : decode cX6_count 1 = .ok (.bipush 14, 2) := by decide +kernel
theorem dX6_count_3 : decode cX6_count 3 = .ok (.if_icmp .lt 22, 3) := by decide +kernel
theorem dX6_count_6 : decode cX6_count 6 = .ok (.iload_n 1, 1) := by decide +kernel
theorem dX6_count_7 : decode cX6_count 7 = .ok (.bipush 23, 2) := by decide +kernel
theorem dX6_count_9 : decode cX6_count 9 = .ok (.if_icmp .ge 16, 3) := by decide +kernel
theorem dX6_count_12 : decode cX6_count 12 = .ok (.aload_n 0, 1) := by decide +kernel
theorem dX6_count_13 : decode cX6_count 13 = .ok (.getfield 10, 3) := by decide +kernel
theorem dX6_count_16 : decode cX6_count 16 = .ok (.getfield 134, 3) := by decide +kernel
theorem dX6_count_19 : decode cX6_count 19 = .ok (.iload_n 1, 1) := by decide +kernel
theorem dX6_count_20 : decode cX6_count 20 = .ok (.bipush 14, 2) := by decide +kernel
theorem dX6_count_22 : decode cX6_count 22 = .ok (.isub, 1) := by decide +kernel
theorem dX6_count_23 : decode cX6_count 23 = .ok (.iaload, 1) := by decide +kernel
theorem dX6_count_24 : decode cX6_count 24 = .ok (.ireturn, 1) := by decide +kernel
theorem dX6_count_25 : decode cX6_count 25 = .ok (.iload_n 1, 1) := by decide +kernel
theorem dX6_count_26 : decode cX6_count 26 = .ok (.bipush 25, 2) := by decide +kernel
theorem dX6_count_28 : decode cX6_count 28 = .ok (.if_icmp .lt 22, 3) := by decide +kernel
theorem dX6_count_31 : decode cX6_count 31 = .ok (.iload_n 1, 1) := by decide +kernel
theorem dX6_count_32 : decode cX6_count 32 = .ok (.bipush 35, 2) := by decide +kernel
theorem dX6_count_34 : decode cX6_count 34 = .ok (.if_icmp .ge 16, 3) := by decide +kernel
theorem dX6_count_37 : decode cX6_count 37 = .ok (.aload_n 0, 1) := by decide +kernel
theorem dX6_count_38 : decode cX6_count 38 = .ok (.getfield 10, 3) := by decide +kernel
theorem dX6_count_41 : decode cX6_count 41 = .ok (.getfield 149, 3) := by decide +kernel
theorem dX6_count_44 : decode cX6_count 44 = .ok (.iload_n 1, 1) := by decide +kernel
theorem dX6_count_45 : decode cX6_count 45 = .ok (.bipush 25, 2) := by decide +kernel
theorem dX6_count_47 : decode cX6_count 47 = .ok (.isub, 1) := by decide +kernel
theorem dX6_count_48 : decode cX6_count 48 = .ok (.iaload, 1) := by decide +kernel
theorem dX6_count_49 : decode cX6_count 49 = .ok (.ireturn, 1) := by decide +kernel
theorem dX6_count_50 : decode cX6_count 50 = .ok (.iload_n 1, 1) := by decide +kernel
theorem dX6_count_51 : decode cX6_count 51 = .ok (.tableswitch 304 0 24 #[113, 121, 132, 144, 156, 168, 180, 192, 203, 228, 239, 250, 261, 272, 304, 304, 304, 304, 304, 304, 304, 304, 304, 288, 296], 113) := by decide +kernel
theorem dX6_count_164 : decode cX6_count 164 = .ok (.aload_n 0, 1) := by decide +kernel
theorem dX6_count_165 : decode cX6_count 165 = .ok (.getfield 10, 3) := by decide +kernel
theorem dX6_count_168 : decode cX6_count 168 = .ok (.getfield 104, 3) := by decide +kernel
theorem dX6_count_171 : decode cX6_count 171 = .ok (.ireturn, 1) := by decide +kernel
theorem dX6_count_172 : decode cX6_count 172 = .ok (.aload_n 0, 1) := by decide +kernel
theorem dX6_count_173 : decode cX6_count 173 = .ok (.getfield 10, 3) := by decide +kernel
theorem dX6_count_176 : decode cX6_count 176 = .ok (.getfield 83, 3) := by decide +kernel
theorem dX6_count_179 : decode cX6_count 179 = .ok (.getfield 210, 3) := by decide +kernel
theorem dX6_count_182 : decode cX6_count 182 = .ok (.ireturn, 1) := by decide +kernel
theorem dX6_count_183 : decode cX6_count 183 = .ok (.aload_n 0, 1) := by decide +kernel
theorem dX6_count_184 : decode cX6_count 184 = .ok (.getfield 10, 3) := by decide +kernel
theorem dX6_count_187 : decode cX6_count 187 = .ok (.getfield 83, 3) := by decide +kernel
theorem dX6_count_190 : decode cX6_count 190 = .ok (.iconst 0, 1) := by decide +kernel
theorem dX6_count_191 : decode cX6_count 191 = .ok (.invokevirtual 213, 3) := by decide +kernel
theorem dX6_count_194 : decode cX6_count 194 = .ok (.ireturn, 1) := by decide +kernel
theorem dX6_count_195 : decode cX6_count 195 = .ok (.aload_n 0, 1) := by decide +kernel
theorem dX6_count_196 : decode cX6_count 196 = .ok (.getfield 10, 3) := by decide +kernel
theorem dX6_count_199 : decode cX6_count 199 = .ok (.getfield 83, 3) := by decide +kernel
theorem dX6_count_202 : decode cX6_count 202 = .ok (.iconst 1, 1) := by decide +kernel
theorem dX6_count_203 : decode cX6_count 203 = .ok (.invokevirtual 213, 3) := by decide +kernel
theorem dX6_count_206 : decode cX6_count 206 = .ok (.ireturn, 1) := by decide +kernel
theorem dX6_count_207 : decode cX6_count 207 = .ok (.aload_n 0, 1) := by decide +kernel
theorem dX6_count_208 : decode cX6_count 208 = .ok (.getfield 10, 3) := by decide +kernel
theorem dX6_count_211 : decode cX6_count 211 = .ok (.getfield 83, 3) := by decide +kernel
theorem dX6_count_214 : decode cX6_count 214 = .ok (.iconst 2, 1) := by decide +kernel
theorem dX6_count_215 : decode cX6_count 215 = .ok (.invokevirtual 213, 3) := by decide +kernel
theorem dX6_count_218 : decode cX6_count 218 = .ok (.ireturn, 1) := by decide +kernel
theorem dX6_count_219 : decode cX6_count 219 = .ok (.aload_n 0, 1) := by decide +kernel
theorem dX6_count_220 : decode cX6_count 220 = .ok (.getfield 10, 3) := by decide +kernel
theorem dX6_count_223 : decode cX6_count 223 = .ok (.getfield 83, 3) := by decide +kernel
theorem dX6_count_226 : decode cX6_count 226 = .ok (.iconst 3, 1) := by decide +kernel
theorem dX6_count_227 : decode cX6_count 227 = .ok (.invokevirtual 213, 3) := by decide +kernel
theorem dX6_count_230 : decode cX6_count 230 = .ok (.ireturn, 1) := by decide +kernel
theorem dX6_count_231 : decode cX6_count 231 = .ok (.aload_n 0, 1) := by decide +kernel
theorem dX6_count_232 : decode cX6_count 232 = .ok (.getfield 10, 3) := by decide +kernel
theorem dX6_count_235 : decode cX6_count 235 = .ok (.getfield 83, 3) := by decide +kernel
theorem dX6_count_238 : decode cX6_count 238 = .ok (.iconst 4, 1) := by decide +kernel
theorem dX6_count_239 : decode cX6_count 239 = .ok (.invokevirtual 213, 3) := by decide +kernel
theorem dX6_count_242 : decode cX6_count 242 = .ok (.ireturn, 1) := by decide +kernel
theorem dX6_count_243 : decode cX6_count 243 = .ok (.aload_n 0, 1) := by decide +kernel
theorem dX6_count_244 : decode cX6_count 244 = .ok (.getfield 10, 3) := by decide +kernel
theorem dX6_count_247 : decode cX6_count 247 = .ok (.getfield 83, 3) := by decide +kernel
theorem dX6_count_250 : decode cX6_count 250 = .ok (.invokevirtual 216, 3) := by decide +kernel
theorem dX6_count_253 : decode cX6_count 253 = .ok (.ireturn, 1) := by decide +kernel
theorem dX6_count_254 : decode cX6_count 254 = .ok (.iconst 0, 1) := by decide +kernel
theorem dX6_count_255 : decode cX6_count 255 = .ok (.aload_n 0, 1) := by decide +kernel
theorem dX6_count_256 : decode cX6_count 256 = .ok (.getfield 10, 3) := by decide +kernel
theorem dX6_count_259 : decode cX6_count 259 = .ok (.getfield 83, 3) := by decide +kernel
theorem dX6_count_262 : decode cX6_count 262 = .ok (.invokevirtual 216, 3) := by decide +kernel
theorem dX6_count_265 : decode cX6_count 265 = .ok (.aload_n 0, 1) := by decide +kernel
theorem dX6_count_266 : decode cX6_count 266 = .ok (.getfield 10, 3) := by decide +kernel
theorem dX6_count_269 : decode cX6_count 269 = .ok (.getfield 149, 3) := by decide +kernel
theorem dX6_count_272 : decode cX6_count 272 = .ok (.iconst 0, 1) := by decide +kernel
theorem dX6_count_273 : decode cX6_count 273 = .ok (.iaload, 1) := by decide +kernel
theorem dX6_count_274 : decode cX6_count 274 = .ok (.isub, 1) := by decide +kernel
theorem dX6_count_275 : decode cX6_count 275 = .ok (.invokestatic 219, 3) := by decide +kernel
theorem dX6_count_278 : decode cX6_count 278 = .ok (.ireturn, 1) := by decide +kernel
theorem dX6_count_279 : decode cX6_count 279 = .ok (.aload_n 0, 1) := by decide +kernel
theorem dX6_count_280 : decode cX6_count 280 = .ok (.getfield 10, 3) := by decide +kernel
theorem dX6_count_283 : decode cX6_count 283 = .ok (.getfield 191, 3) := by decide +kernel
theorem dX6_count_286 : decode cX6_count 286 = .ok (.invokevirtual 224, 3) := by decide +kernel
theorem dX6_count_289 : decode cX6_count 289 = .ok (.ireturn, 1) := by decide +kernel
theorem dX6_count_290 : decode cX6_count 290 = .ok (.aload_n 0, 1) := by decide +kernel
theorem dX6_count_291 : decode cX6_count 291 = .ok (.getfield 10, 3) := by decide +kernel
theorem dX6_count_294 : decode cX6_count 294 = .ok (.getfield 191, 3) := by decide +kernel
theorem dX6_count_297 : decode cX6_count 297 = .ok (.getfield 227, 3) := by decide +kernel
theorem dX6_count_300 : decode cX6_count 300 = .ok (.ireturn, 1) := by decide +kernel
theorem dX6_count_301 : decode cX6_count 301 = .ok (.aload_n 0, 1) := by decide +kernel
theorem dX6_count_302 : decode cX6_count 302 = .ok (.getfield 10, 3) := by decide +kernel
theorem dX6_count_305 : decode cX6_count 305 = .ok (.getfield 114, 3) := by decide +kernel
theorem dX6_count_308 : decode cX6_count 308 = .ok (.getfield 118, 3) := by decide +kernel
theorem dX6_count_311 : decode cX6_count 311 = .ok (.ireturn, 1) := by decide +kernel
theorem dX6_count_312 : decode cX6_count 312 = .ok (.aload_n 0, 1) := by decide +kernel
theorem dX6_count_313 : decode cX6_count 313 = .ok (.getfield 10, 3) := by decide +kernel
theorem dX6_count_316 : decode cX6_count 316 = .ok (.getfield 114, 3) := by decide +kernel
theorem dX6_count_319 : decode cX6_count 319 = .ok (.invokevirtual 230, 3) := by decide +kernel
theorem dX6_count_322 : decode cX6_count 322 = .ok (.ireturn, 1) := by decide +kernel
theorem dX6_count_323 : decode cX6_count 323 = .ok (.aload_n 0, 1) := by decide +kernel
theorem dX6_count_324 : decode cX6_count 324 = .ok (.getfield 10, 3) := by decide +kernel
theorem dX6_count_327 : decode cX6_count 327 = .ok (.getfield 131, 3) := by decide +kernel
theorem dX6_count_330 : decode cX6_count 330 = .ok (.ifCond .eq 7, 3) := by decide +kernel
theorem dX6_count_333 : decode cX6_count 333 = .ok (.iconst 1, 1) := by decide +kernel
theorem dX6_count_334 : decode cX6_count 334 = .ok (.goto 4, 3) := by decide +kernel
theorem dX6_count_337 : decode cX6_count 337 = .ok (.iconst 0, 1) := by decide +kernel
theorem dX6_count_338 : decode cX6_count 338 = .ok (.ireturn, 1) := by decide +kernel
theorem dX6_count_339 : decode cX6_count 339 = .ok (.aload_n 0, 1) := by decide +kernel
theorem dX6_count_340 : decode cX6_count 340 = .ok (.getfield 29, 3) := by decide +kernel
theorem dX6_count_343 : decode cX6_count 343 = .ok (.getfield 158, 3) := by decide +kernel
theorem dX6_count_346 : decode cX6_count 346 = .ok (.ireturn, 1) := by decide +kernel
theorem dX6_count_347 : decode cX6_count 347 = .ok (.aload_n 0, 1) := by decide +kernel
theorem dX6_count_348 : decode cX6_count 348 = .ok (.getfield 36, 3) := by decide +kernel
theorem dX6_count_351 : decode cX6_count 351 = .ok (.getfield 152, 3) := by decide +kernel
theorem dX6_count_354 : decode cX6_count 354 = .ok (.ireturn, 1) := by decide +kernel
theorem dX6_count_355 : decode cX6_count 355 = .ok (.ldc 94, 2) := by decide +kernel
theorem dX6_count_357 : decode cX6_count 357 = .ok (.ireturn, 1) := by decide +kernel
theorem dX6_coins_0 : decode cX6_coins 0 = .ok (.iload_n 1, 1) := by decide +kernel
theorem dX6_coins_1 : decode cX6_coins 1 = .ok (.tableswitch 66 0 3 #[31, 39, 50, 58], 31) := by decide +kernel
theorem dX6_coins_32 : decode cX6_coins 32 = .ok (.aload_n 0, 1) := by decide +kernel
theorem dX6_coins_33 : decode cX6_coins 33 = .ok (.getfield 10, 3) := by decide +kernel
theorem dX6_coins_36 : decode cX6_coins 36 = .ok (.getfield 233, 3) := by decide +kernel
theorem dX6_coins_39 : decode cX6_coins 39 = .ok (.ireturn, 1) := by decide +kernel
theorem dX6_coins_40 : decode cX6_coins 40 = .ok (.aload_n 0, 1) := by decide +kernel
theorem dX6_coins_41 : decode cX6_coins 41 = .ok (.getfield 10, 3) := by decide +kernel
theorem dX6_coins_44 : decode cX6_coins 44 = .ok (.getfield 83, 3) := by decide +kernel
theorem dX6_coins_47 : decode cX6_coins 47 = .ok (.invokevirtual 236, 3) := by decide +kernel
theorem dX6_coins_50 : decode cX6_coins 50 = .ok (.ireturn, 1) := by decide +kernel
theorem dX6_coins_51 : decode cX6_coins 51 = .ok (.aload_n 0, 1) := by decide +kernel
theorem dX6_coins_52 : decode cX6_coins 52 = .ok (.getfield 10, 3) := by decide +kernel
theorem dX6_coins_55 : decode cX6_coins 55 = .ok (.getfield 239, 3) := by decide +kernel
theorem dX6_coins_58 : decode cX6_coins 58 = .ok (.ireturn, 1) := by decide +kernel
theorem dX6_coins_59 : decode cX6_coins 59 = .ok (.aload_n 0, 1) := by decide +kernel
theorem dX6_coins_60 : decode cX6_coins 60 = .ok (.getfield 10, 3) := by decide +kernel
theorem dX6_coins_63 : decode cX6_coins 63 = .ok (.getfield 242, 3) := by decide +kernel
theorem dX6_coins_66 : decode cX6_coins 66 = .ok (.ireturn, 1) := by decide +kernel
theorem dX6_coins_67 : decode cX6_coins 67 = .ok (.ldc 94, 2) := by decide +kernel
theorem dX6_coins_69 : decode cX6_coins 69 = .ok (.ireturn, 1) := by decide +kernel
theorem dX6_use_0 : decode cX6_use 0 = .ok (.aload_n 0, 1) := by decide +kernel
theorem dX6_use_1 : decode cX6_use 1 = .ok (.getfield 10, 3) := by decide +kernel
theorem dX6_use_4 : decode cX6_use 4 = .ok (.getfield 149, 3) := by decide +kernel
theorem dX6_use_7 : decode cX6_use 7 = .ok (.iconst 0, 1) := by decide +kernel
theorem dX6_use_8 : decode cX6_use 8 = .ok (.iaload, 1) := by decide +kernel
theorem dX6_use_9 : decode cX6_use 9 = .ok (.istore_n 3, 1) := by decide +kernel
theorem dX6_use_10 : decode cX6_use 10 = .ok (.iload_n 1, 1) := by decide +kernel
theorem dX6_use_11 : decode cX6_use 11 = .ok (.ifCond .lt 20, 3) := by decide +kernel
theorem dX6_use_14 : decode cX6_use 14 = .ok (.iload_n 2, 1) := by decide +kernel
theorem dX6_use_15 : decode cX6_use 15 = .ok (.iload_n 1, 1) := by decide +kernel
theorem dX6_use_16 : decode cX6_use 16 = .ok (.if_icmp .lt 15, 3) := by decide +kernel
theorem dX6_use_19 : decode cX6_use 19 = .ok (.iload_n 2, 1) := by decide +kernel
theorem dX6_use_20 : decode cX6_use 20 = .ok (.sipush 999, 3) := by decide +kernel
theorem dX6_use_23 : decode cX6_use 23 = .ok (.if_icmp .gt 8, 3) := by decide +kernel
theorem dX6_use_26 : decode cX6_use 26 = .ok (.iload_n 3, 1) := by decide +kernel
theorem dX6_use_27 : decode cX6_use 27 = .ok (.iconst 1, 1) := by decide +kernel
theorem dX6_use_28 : decode cX6_use 28 = .ok (.if_icmp .ge 7, 3) := by decide +kernel
theorem dX6_use_31 : decode cX6_use 31 = .ok (.ldc2_w 245, 3) := by decide +kernel
theorem dX6_use_34 : decode cX6_use 34 = .ok (.dreturn, 1) := by decide +kernel
theorem dX6_use_35 : decode cX6_use 35 = .ok (.aload_n 0, 1) := by decide +kernel
theorem dX6_use_36 : decode cX6_use 36 = .ok (.getfield 10, 3) := by decide +kernel
theorem dX6_use_39 : decode cX6_use 39 = .ok (.getfield 83, 3) := by decide +kernel
theorem dX6_use_42 : decode cX6_use 42 = .ok (.iload_n 1, 1) := by decide +kernel
theorem dX6_use_43 : decode cX6_use 43 = .ok (.iload_n 2, 1) := by decide +kernel
theorem dX6_use_44 : decode cX6_use 44 = .ok (.invokevirtual 247, 3) := by decide +kernel
theorem dX6_use_47 : decode cX6_use 47 = .ok (.i2d, 1) := by decide +kernel
theorem dX6_use_48 : decode cX6_use 48 = .ok (.dstore 4, 2) := by decide +kernel
theorem dX6_use_50 : decode cX6_use 50 = .ok (.dload 4, 2) := by decide +kernel
theorem dX6_use_52 : decode cX6_use 52 = .ok (.iload_n 2, 1) := by decide +kernel
theorem dX6_use_53 : decode cX6_use 53 = .ok (.iload_n 1, 1) := by decide +kernel
theorem dX6_use_54 : decode cX6_use 54 = .ok (.isub, 1) := by decide +kernel
theorem dX6_use_55 : decode cX6_use 55 = .ok (.iconst 1, 1) := by decide +kernel
theorem dX6_use_56 : decode cX6_use 56 = .ok (.iadd, 1) := by decide +kernel
theorem dX6_use_57 : decode cX6_use 57 = .ok (.iload_n 3, 1) := by decide +kernel
theorem dX6_use_58 : decode cX6_use 58 = .ok (.imul, 1) := by decide +kernel
theorem dX6_use_59 : decode cX6_use 59 = .ok (.i2d, 1) := by decide +kernel
theorem dX6_use_60 : decode cX6_use 60 = .ok (.ddiv, 1) := by decide +kernel
theorem dX6_use_61 : decode cX6_use 61 = .ok (.dreturn, 1) := by decide +kernel
theorem dX6_refund_0 : decode cX6_refund 0 = .ok (.aload_n 0, 1) := by decide +kernel
theorem dX6_refund_1 : decode cX6_refund 1 = .ok (.iload_n 1, 1) := by decide +kernel
theorem dX6_refund_2 : decode cX6_refund 2 = .ok (.invokevirtual 76, 3) := by decide +kernel
theorem dX6_refund_5 : decode cX6_refund 5 = .ok (.istore_n 2, 1) := by decide +kernel
theorem dX6_refund_6 : decode cX6_refund 6 = .ok (.iload_n 2, 1) := by decide +kernel
theorem dX6_refund_7 : decode cX6_refund 7 = .ok (.ifCond .eq 7, 3) := by decide +kernel
theorem dX6_refund_10 : decode cX6_refund 10 = .ok (.iload_n 2, 1) := by decide +kernel
theorem dX6_refund_11 : decode cX6_refund 11 = .ok (.goto 11, 3) := by decide +kernel
theorem dX6_refund_14 : decode cX6_refund 14 = .ok (.aload_n 0, 1) := by decide +kernel
theorem dX6_refund_15 : decode cX6_refund 15 = .ok (.getfield 10, 3) := by decide +kernel
theorem dX6_refund_18 : decode cX6_refund 18 = .ok (.iload_n 1, 1) := by decide +kernel
theorem dX6_refund_19 : decode cX6_refund 19 = .ok (.invokevirtual 250, 3) := by decide +kernel
theorem dX6_refund_22 : decode cX6_refund 22 = .ok (.ireturn, 1) := by decide +kernel
theorem dX6_firstFree_0 : decode cX6_firstFree 0 = .ok (.iload_n 1, 1) := by decide +kernel
theorem dX6_firstFree_1 : decode cX6_firstFree 1 = .ok (.iload_n 2, 1) := by decide +kernel
theorem dX6_firstFree_2 : decode cX6_firstFree 2 = .ok (.invokestatic 253, 3) := by decide +kernel
theorem dX6_firstFree_5 : decode cX6_firstFree 5 = .ok (.ifCond .ne 6, 3) := by decide +kernel
theorem dX6_firstFree_8 : decode cX6_firstFree 8 = .ok (.ldc 94, 2) := by decide +kernel
theorem dX6_firstFree_10 : decode cX6_firstFree 10 = .ok (.ireturn, 1) := by decide +kernel
theorem dX6_firstFree_11 : decode cX6_firstFree 11 = .ok (.aload_n 0, 1) := by decide +kernel
theorem dX6_firstFree_12 : decode cX6_firstFree 12 = .ok (.getfield 10, 3) := by decide +kernel
theorem dX6_firstFree_15 : decode cX6_firstFree 15 = .ok (.getfield 83, 3) := by decide +kernel
theorem dX6_firstFree_18 : decode cX6_firstFree 18 = .ok (.aload_n 0, 1) := by decide +kernel
theorem dX6_firstFree_19 : decode cX6_firstFree 19 = .ok (.getfield 40, 3) := by decide +kernel
theorem dX6_firstFree_22 : decode cX6_firstFree 22 = .ok (.invokevirtual 256, 3) := by decide +kernel
theorem dX6_firstFree_25 : decode cX6_firstFree 25 = .ok (.iconst 0, 1) := by decide +kernel
theorem dX6_firstFree_26 : decode cX6_firstFree 26 = .ok (.istore_n 3, 1) := by decide +kernel
theorem dX6_firstFree_27 : decode cX6_firstFree 27 = .ok (.aload_n 0, 1) := by decide +kernel
theorem dX6_firstFree_28 : decode cX6_firstFree 28 = .ok (.getfield 10, 3) := by decide +kernel
theorem dX6_firstFree_31 : decode cX6_firstFree 31 = .ok (.getfield 104, 3) := by decide +kernel
theorem dX6_firstFree_34 : decode cX6_firstFree 34 = .ok (.istore 4, 2) := by decide +kernel
theorem dX6_firstFree_36 : decode cX6_firstFree 36 = .ok (.iload 4, 2) := by decide +kernel
theorem dX6_firstFree_38 : decode cX6_firstFree 38 = .ok (.sipush 899, 3) := by decide +kernel
theorem dX6_firstFree_41 : decode cX6_firstFree 41 = .ok (.iload_n 1, 1) := by decide +kernel
theorem dX6_firstFree_42 : decode cX6_firstFree 42 = .ok (.iadd, 1) := by decide +kernel
theorem dX6_firstFree_43 : decode cX6_firstFree 43 = .ok (.if_icmp .ge 72, 3) := by decide +kernel
theorem dX6_firstFree_46 : decode cX6_firstFree 46 = .ok (.iload 4, 2) := by decide +kernel
theorem dX6_firstFree_48 : decode cX6_firstFree 48 = .ok (.aload_n 0, 1) := by decide +kernel
theorem dX6_firstFree_49 : decode cX6_firstFree 49 = .ok (.getfield 40, 3) := by decide +kernel
theorem dX6_firstFree_52 : decode cX6_firstFree 52 = .ok (.arraylength, 1) := by decide +kernel
theorem dX6_firstFree_53 : decode cX6_firstFree 53 = .ok (.if_icmp .ge 62, 3) := by decide +kernel
theorem dX6_firstFree_56 : decode cX6_firstFree 56 = .ok (.aload_n 0, 1) := by decide +kernel
theorem dX6_firstFree_57 : decode cX6_firstFree 57 = .ok (.getfield 40, 3) := by decide +kernel
theorem dX6_firstFree_60 : decode cX6_firstFree 60 = .ok (.iload 4, 2) := by decide +kernel
theorem dX6_firstFree_62 : decode cX6_firstFree 62 = .ok (.iaload, 1) := by decide +kernel
theorem dX6_firstFree_63 : decode cX6_firstFree 63 = .ok (.iload_n 2, 1) := by decide +kernel
theorem dX6_firstFree_64 : decode cX6_firstFree 64 = .ok (.iadd, 1) := by decide +kernel
theorem dX6_firstFree_65 : decode cX6_firstFree 65 = .ok (.aload_n 0, 1) := by decide +kernel
theorem dX6_firstFree_66 : decode cX6_firstFree 66 = .ok (.getfield 10, 3) := by decide +kernel
theorem dX6_firstFree_69 : decode cX6_firstFree 69 = .ok (.getfield 149, 3) := by decide +kernel
theorem dX6_firstFree_72 : decode cX6_firstFree 72 = .ok (.iconst 0, 1) := by decide +kernel
theorem dX6_firstFree_73 : decode cX6_firstFree 73 = .ok (.iaload, 1) := by decide +kernel
theorem dX6_firstFree_74 : decode cX6_firstFree 74 = .ok (.if_icmp .gt 7, 3) := by decide +kernel
theorem dX6_firstFree_77 : decode cX6_firstFree 77 = .ok (.iconst 1, 1) := by decide +kernel
theorem dX6_firstFree_78 : decode cX6_firstFree 78 = .ok (.goto 4, 3) := by decide +kernel
theorem dX6_firstFree_81 : decode cX6_firstFree 81 = .ok (.iconst 0, 1) := by decide +kernel
theorem dX6_firstFree_82 : decode cX6_firstFree 82 = .ok (.istore 5, 2) := by decide +kernel
theorem dX6_firstFree_84 : decode cX6_firstFree 84 = .ok (.iload 5, 2) := by decide +kernel
theorem dX6_firstFree_86 : decode cX6_firstFree 86 = .ok (.ifCond .eq 9, 3) := by decide +kernel
theorem dX6_firstFree_89 : decode cX6_firstFree 89 = .ok (.iload_n 3, 1) := by decide +kernel
theorem dX6_firstFree_90 : decode cX6_firstFree 90 = .ok (.iconst 1, 1) := by decide +kernel
theorem dX6_firstFree_91 : decode cX6_firstFree 91 = .ok (.iadd, 1) := by decide +kernel
theorem dX6_firstFree_92 : decode cX6_firstFree 92 = .ok (.goto 4, 3) := by decide +kernel
theorem dX6_firstFree_95 : decode cX6_firstFree 95 = .ok (.iconst 0, 1) := by decide +kernel
theorem dX6_firstFree_96 : decode cX6_firstFree 96 = .ok (.istore_n 3, 1) := by decide +kernel
theorem dX6_firstFree_97 : decode cX6_firstFree 97 = .ok (.iload_n 3, 1) := by decide +kernel
theorem dX6_firstFree_98 : decode cX6_firstFree 98 = .ok (.iload_n 1, 1) := by decide +kernel
theorem dX6_firstFree_99 : decode cX6_firstFree 99 = .ok (.if_icmp .ne 10, 3) := by decide +kernel
theorem dX6_firstFree_102 : decode cX6_firstFree 102 = .ok (.iload 4, 2) := by decide +kernel
theorem dX6_firstFree_104 : decode cX6_firstFree 104 = .ok (.iload_n 1, 1) := by decide +kernel
theorem dX6_firstFree_105 : decode cX6_firstFree 105 = .ok (.isub, 1) := by decide +kernel
theorem dX6_firstFree_106 : decode cX6_firstFree 106 = .ok (.iconst 1, 1) := by decide +kernel
theorem dX6_firstFree_107 : decode cX6_firstFree 107 = .ok (.iadd, 1) := by decide +kernel
theorem dX6_firstFree_108 : decode cX6_firstFree 108 = .ok (.ireturn, 1) := by decide +kernel
theorem dX6_firstFree_109 : decode cX6_firstFree 109 = .ok (.iinc 4 1, 3) := by decide +kernel
theorem dX6_firstFree_112 : decode cX6_firstFree 112 = .ok (.goto (-76), 3) := by decide +kernel
theorem dX6_firstFree_115 : decode cX6_firstFree 115 = .ok (.ldc 59, 2) := by decide +kernel
theorem dX6_firstFree_117 : decode cX6_firstFree 117 = .ok (.ireturn, 1) := by decide +kernel
theorem dX6_hungryIn_0 : decode cX6_hungryIn 0 = .ok (.aload_n 0, 1) := by decide +kernel
theorem dX6_hungryIn_1 : decode cX6_hungryIn 1 = .ok (.getfield 16, 3) := by decide +kernel
theorem dX6_hungryIn_4 : decode cX6_hungryIn 4 = .ok (.aload_n 0, 1) := by decide +kernel
theorem dX6_hungryIn_5 : decode cX6_hungryIn 5 = .ok (.getfield 10, 3) := by decide +kernel
theorem dX6_hungryIn_8 : decode cX6_hungryIn 8 = .ok (.invokevirtual 60, 3) := by decide +kernel
theorem dX6_hungryIn_11 : decode cX6_hungryIn 11 = .ok (.iconst 1, 1) := by decide +kernel
theorem dX6_hungryIn_12 : decode cX6_hungryIn 12 = .ok (.istore_n 1, 1) := by decide +kernel
theorem dX6_hungryIn_13 : decode cX6_hungryIn 13 = .ok (.iload_n 1, 1) := by decide +kernel
theorem dX6_hungryIn_14 : decode cX6_hungryIn 14 = .ok (.bipush 60, 2) := by decide +kernel
theorem dX6_hungryIn_16 : decode cX6_hungryIn 16 = .ok (.if_icmp .gt 39, 3) := by decide +kernel
theorem dX6_hungryIn_19 : decode cX6_hungryIn 19 = .ok (.aload_n 0, 1) := by decide +kernel
theorem dX6_hungryIn_20 : decode cX6_hungryIn 20 = .ok (.getfield 16, 3) := by decide +kernel
theorem dX6_hungryIn_23 : decode cX6_hungryIn 23 = .ok (.invokevirtual 137, 3) := by decide +kernel
theorem dX6_hungryIn_26 : decode cX6_hungryIn 26 = .ok (.aload_n 0, 1) := by decide +kernel
theorem dX6_hungryIn_27 : decode cX6_hungryIn 27 = .ok (.getfield 16, 3) := by decide +kernel
theorem dX6_hungryIn_30 : decode cX6_hungryIn 30 = .ok (.getfield 134, 3) := by decide +kernel
theorem dX6_hungryIn_33 : decode cX6_hungryIn 33 = .ok (.iconst 5, 1) := by decide +kernel
theorem dX6_hungryIn_34 : decode cX6_hungryIn 34 = .ok (.iaload, 1) := by decide +kernel
theorem dX6_hungryIn_35 : decode cX6_hungryIn 35 = .ok (.aload_n 0, 1) := by decide +kernel
theorem dX6_hungryIn_36 : decode cX6_hungryIn 36 = .ok (.getfield 10, 3) := by decide +kernel
theorem dX6_hungryIn_39 : decode cX6_hungryIn 39 = .ok (.getfield 134, 3) := by decide +kernel
theorem dX6_hungryIn_42 : decode cX6_hungryIn 42 = .ok (.iconst 5, 1) := by decide +kernel
theorem dX6_hungryIn_43 : decode cX6_hungryIn 43 = .ok (.iaload, 1) := by decide +kernel
theorem dX6_hungryIn_44 : decode cX6_hungryIn 44 = .ok (.if_icmp .le 5, 3) := by decide +kernel
theorem dX6_hungryIn_47 : decode cX6_hungryIn 47 = .ok (.iload_n 1, 1) := by decide +kernel
theorem dX6_hungryIn_48 : decode cX6_hungryIn 48 = .ok (.ireturn, 1) := by decide +kernel
theorem dX6_hungryIn_49 : decode cX6_hungryIn 49 = .ok (.iinc 1 1, 3) := by decide +kernel
theorem dX6_hungryIn_52 : decode cX6_hungryIn 52 = .ok (.goto (-39), 3) := by decide +kernel
theorem dX6_hungryIn_55 : decode cX6_hungryIn 55 = .ok (.ldc 59, 2) := by decide +kernel
theorem dX6_hungryIn_57 : decode cX6_hungryIn 57 = .ok (.ireturn, 1) := by decide +kernel
theorem dX6_wanting_0 : decode cX6_wanting 0 = .ok (.iload_n 1, 1) := by decide +kernel
theorem dX6_wanting_1 : decode cX6_wanting 1 = .ok (.iconst 1, 1) := by decide +kernel
theorem dX6_wanting_2 : decode cX6_wanting 2 = .ok (.if_icmp .lt 9, 3) := by decide +kernel
theorem dX6_wanting_5 : decode cX6_wanting 5 = .ok (.iload_n 1, 1) := by decide +kernel
theorem dX6_wanting_6 : decode cX6_wanting 6 = .ok (.bipush 60, 2) := by decide +kernel
theorem dX6_wanting_8 : decode cX6_wanting 8 = .ok (.if_icmp .le 6, 3) := by decide +kernel
theorem dX6_wanting_11 : decode cX6_wanting 11 = .ok (.ldc 94, 2) := by decide +kernel
theorem dX6_wanting_13 : decode cX6_wanting 13 = .ok (.ireturn, 1) := by decide +kernel
theorem dX6_wanting_14 : decode cX6_wanting 14 = .ok (.aload_n 0, 1) := by decide +kernel
theorem dX6_wanting_15 : decode cX6_wanting 15 = .ok (.iload_n 1, 1) := by decide +kernel
theorem dX6_wanting_16 : decode cX6_wanting 16 = .ok (.invokevirtual 260, 3) := by decide +kernel
theorem dX6_wanting_19 : decode cX6_wanting 19 = .ok (.aload_n 0, 1) := by decide +kernel
theorem dX6_wanting_20 : decode cX6_wanting 20 = .ok (.getfield 16, 3) := by decide +kernel
theorem dX6_wanting_23 : decode cX6_wanting 23 = .ok (.getfield 134, 3) := by decide +kernel
theorem dX6_wanting_26 : decode cX6_wanting 26 = .ok (.iconst 5, 1) := by decide +kernel
theorem dX6_wanting_27 : decode cX6_wanting 27 = .ok (.iaload, 1) := by decide +kernel
theorem dX6_wanting_28 : decode cX6_wanting 28 = .ok (.aload_n 0, 1) := by decide +kernel
theorem dX6_wanting_29 : decode cX6_wanting 29 = .ok (.getfield 10, 3) := by decide +kernel
theorem dX6_wanting_32 : decode cX6_wanting 32 = .ok (.getfield 134, 3) := by decide +kernel
theorem dX6_wanting_35 : decode cX6_wanting 35 = .ok (.iconst 5, 1) := by decide +kernel
theorem dX6_wanting_36 : decode cX6_wanting 36 = .ok (.iaload, 1) := by decide +kernel
theorem dX6_wanting_37 : decode cX6_wanting 37 = .ok (.isub, 1) := by decide +kernel
theorem dX6_wanting_38 : decode cX6_wanting 38 = .ok (.ireturn, 1) := by decide +kernel
theorem dX6_goneIn_0 : decode cX6_goneIn 0 = .ok (.aload_n 0, 1) := by decide +kernel
theorem dX6_goneIn_1 : decode cX6_goneIn 1 = .ok (.getfield 10, 3) := by decide +kernel
theorem dX6_goneIn_4 : decode cX6_goneIn 4 = .ok (.getfield 83, 3) := by decide +kernel
theorem dX6_goneIn_7 : decode cX6_goneIn 7 = .ok (.iload_n 1, 1) := by decide +kernel
theorem dX6_goneIn_8 : decode cX6_goneIn 8 = .ok (.invokevirtual 87, 3) := by decide +kernel
theorem dX6_goneIn_11 : decode cX6_goneIn 11 = .ok (.ifCond .ne 6, 3) := by decide +kernel
theorem dX6_goneIn_14 : decode cX6_goneIn 14 = .ok (.ldc 93, 2) := by decide +kernel
theorem dX6_goneIn_16 : decode cX6_goneIn 16 = .ok (.ireturn, 1) := by decide +kernel
theorem dX6_goneIn_17 : decode cX6_goneIn 17 = .ok (.aload_n 0, 1) := by decide +kernel
theorem dX6_goneIn_18 : decode cX6_goneIn 18 = .ok (.getfield 10, 3) := by decide +kernel
theorem dX6_goneIn_21 : decode cX6_goneIn 21 = .ok (.getfield 83, 3) := by decide +kernel
theorem dX6_goneIn_24 : decode cX6_goneIn 24 = .ok (.iload_n 1, 1) := by decide +kernel
theorem dX6_goneIn_25 : decode cX6_goneIn 25 = .ok (.invokevirtual 264, 3) := by decide +kernel
theorem dX6_goneIn_28 : decode cX6_goneIn 28 = .ok (.ifCond .ne 6, 3) := by decide +kernel
theorem dX6_goneIn_31 : decode cX6_goneIn 31 = .ok (.ldc 99, 2) := by decide +kernel
theorem dX6_goneIn_33 : decode cX6_goneIn 33 = .ok (.ireturn, 1) := by decide +kernel
theorem dX6_goneIn_34 : decode cX6_goneIn 34 = .ok (.aload_n 0, 1) := by decide +kernel
theorem dX6_goneIn_35 : decode cX6_goneIn 35 = .ok (.getfield 16, 3) := by decide +kernel
theorem dX6_goneIn_38 : decode cX6_goneIn 38 = .ok (.aload_n 0, 1) := by decide +kernel
theorem dX6_goneIn_39 : decode cX6_goneIn 39 = .ok (.getfield 10, 3) := by decide +kernel
theorem dX6_goneIn_42 : decode cX6_goneIn 42 = .ok (.invokevirtual 60, 3) := by decide +kernel
theorem dX6_goneIn_45 : decode cX6_goneIn 45 = .ok (.iconst 1, 1) := by decide +kernel
theorem dX6_goneIn_46 : decode cX6_goneIn 46 = .ok (.istore_n 2, 1) := by decide +kernel
theorem dX6_goneIn_47 : decode cX6_goneIn 47 = .ok (.iload_n 2, 1) := by decide +kernel
theorem dX6_goneIn_48 : decode cX6_goneIn 48 = .ok (.bipush 60, 2) := by decide +kernel
theorem dX6_goneIn_50 : decode cX6_goneIn 50 = .ok (.if_icmp .gt 34, 3) := by decide +kernel
theorem dX6_goneIn_53 : decode cX6_goneIn 53 = .ok (.aload_n 0, 1) := by decide +kernel
theorem dX6_goneIn_54 : decode cX6_goneIn 54 = .ok (.getfield 16, 3) := by decide +kernel
theorem dX6_goneIn_57 : decode cX6_goneIn 57 = .ok (.invokevirtual 137, 3) := by decide +kernel
theorem dX6_goneIn_60 : decode cX6_goneIn 60 = .ok (.aload_n 0, 1) := by decide +kernel
theorem dX6_goneIn_61 : decode cX6_goneIn 61 = .ok (.getfield 16, 3) := by decide +kernel
theorem dX6_goneIn_64 : decode cX6_goneIn 64 = .ok (.getfield 83, 3) := by decide +kernel
theorem dX6_goneIn_67 : decode cX6_goneIn 67 = .ok (.getfield 162, 3) := by decide +kernel
theorem dX6_goneIn_70 : decode cX6_goneIn 70 = .ok (.iload_n 1, 1) := by decide +kernel
theorem dX6_goneIn_71 : decode cX6_goneIn 71 = .ok (.iaload, 1) := by decide +kernel
theorem dX6_goneIn_72 : decode cX6_goneIn 72 = .ok (.iconst 2, 1) := by decide +kernel
theorem dX6_goneIn_73 : decode cX6_goneIn 73 = .ok (.if_icmp .ne 5, 3) := by decide +kernel
theorem dX6_goneIn_76 : decode cX6_goneIn 76 = .ok (.iload_n 2, 1) := by decide +kernel
theorem dX6_goneIn_77 : decode cX6_goneIn 77 = .ok (.ireturn, 1) := by decide +kernel
theorem dX6_goneIn_78 : decode cX6_goneIn 78 = .ok (.iinc 2 1, 3) := by decide +kernel
theorem dX6_goneIn_81 : decode cX6_goneIn 81 = .ok (.goto (-34), 3) := by decide +kernel
theorem dX6_goneIn_84 : decode cX6_goneIn 84 = .ok (.ldc 59, 2) := by decide +kernel
theorem dX6_goneIn_86 : decode cX6_goneIn 86 = .ok (.ireturn, 1) := by decide +kernel
theorem dX6_turnedAway_0 : decode cX6_turnedAway 0 = .ok (.iload_n 1, 1) := by decide +kernel
theorem dX6_turnedAway_1 : decode cX6_turnedAway 1 = .ok (.iconst 1, 1) := by decide +kernel
theorem dX6_turnedAway_2 : decode cX6_turnedAway 2 = .ok (.if_icmp .lt 9, 3) := by decide +kernel
theorem dX6_turnedAway_5 : decode cX6_turnedAway 5 = .ok (.iload_n 1, 1) := by decide +kernel
theorem dX6_turnedAway_6 : decode cX6_turnedAway 6 = .ok (.bipush 60, 2) := by decide +kernel
theorem dX6_turnedAway_8 : decode cX6_turnedAway 8 = .ok (.if_icmp .le 6, 3) := by decide +kernel
theorem dX6_turnedAway_11 : decode cX6_turnedAway 11 = .ok (.ldc 94, 2) := by decide +kernel
theorem dX6_turnedAway_13 : decode cX6_turnedAway 13 = .ok (.ireturn, 1) := by decide +kernel
theorem dX6_turnedAway_14 : decode cX6_turnedAway 14 = .ok (.aload_n 0, 1) := by decide +kernel
theorem dX6_turnedAway_15 : decode cX6_turnedAway 15 = .ok (.iload_n 1, 1) := by decide +kernel
theorem dX6_turnedAway_16 : decode cX6_turnedAway 16 = .ok (.invokevirtual 260, 3) := by decide +kernel
theorem dX6_turnedAway_19 : decode cX6_turnedAway 19 = .ok (.aload_n 0, 1) := by decide +kernel
theorem dX6_turnedAway_20 : decode cX6_turnedAway 20 = .ok (.getfield 16, 3) := by decide +kernel
theorem dX6_turnedAway_23 : decode cX6_turnedAway 23 = .ok (.getfield 134, 3) := by decide +kernel
theorem dX6_turnedAway_26 : decode cX6_turnedAway 26 = .ok (.bipush 8, 2) := by decide +kernel
theorem dX6_turnedAway_28 : decode cX6_turnedAway 28 = .ok (.iaload, 1) := by decide +kernel
theorem dX6_turnedAway_29 : decode cX6_turnedAway 29 = .ok (.aload_n 0, 1) := by decide +kernel
theorem dX6_turnedAway_30 : decode cX6_turnedAway 30 = .ok (.getfield 10, 3) := by decide +kernel
theorem dX6_turnedAway_33 : decode cX6_turnedAway 33 = .ok (.getfield 134, 3) := by decide +kernel
theorem dX6_turnedAway_36 : decode cX6_turnedAway 36 = .ok (.bipush 8, 2) := by decide +kernel
theorem dX6_turnedAway_38 : decode cX6_turnedAway 38 = .ok (.iaload, 1) := by decide +kernel
theorem dX6_turnedAway_39 : decode cX6_turnedAway 39 = .ok (.isub, 1) := by decide +kernel
theorem dX6_turnedAway_40 : decode cX6_turnedAway 40 = .ok (.ireturn, 1) := by decide +kernel
theorem dX6_bestCall_0 : decode cX6_bestCall 0 = .ok (.aload_n 0, 1) := by decide +kernel
theorem dX6_bestCall_1 : decode cX6_bestCall 1 = .ok (.getfield 10, 3) := by decide +kernel
theorem dX6_bestCall_4 : decode cX6_bestCall 4 = .ok (.getfield 131, 3) := by decide +kernel
theorem dX6_bestCall_7 : decode cX6_bestCall 7 = .ok (.ifCond .eq 6, 3) := by decide +kernel
theorem dX6_bestCall_10 : decode cX6_bestCall 10 = .ok (.ldc 59, 2) := by decide +kernel
theorem dX6_bestCall_12 : decode cX6_bestCall 12 = .ok (.ireturn, 1) := by decide +kernel
theorem dX6_bestCall_13 : decode cX6_bestCall 13 = .ok (.aload_n 0, 1) := by decide +kernel
theorem dX6_bestCall_14 : decode cX6_bestCall 14 = .ok (.getfield 16, 3) := by decide +kernel
theorem dX6_bestCall_17 : decode cX6_bestCall 17 = .ok (.aload_n 0, 1) := by decide +kernel
theorem dX6_bestCall_18 : decode cX6_bestCall 18 = .ok (.getfield 10, 3) := by decide +kernel
theorem dX6_bestCall_21 : decode cX6_bestCall 21 = .ok (.invokevirtual 60, 3) := by decide +kernel
theorem dX6_bestCall_24 : decode cX6_bestCall 24 = .ok (.ldc 59, 2) := by decide +kernel
theorem dX6_bestCall_26 : decode cX6_bestCall 26 = .ok (.istore_n 1, 1) := by decide +kernel
theorem dX6_bestCall_27 : decode cX6_bestCall 27 = .ok (.iconst 0, 1) := by decide +kernel
theorem dX6_bestCall_28 : decode cX6_bestCall 28 = .ok (.istore_n 2, 1) := by decide +kernel
theorem dX6_bestCall_29 : decode cX6_bestCall 29 = .ok (.iconst 0, 1) := by decide +kernel
theorem dX6_bestCall_30 : decode cX6_bestCall 30 = .ok (.istore_n 3, 1) := by decide +kernel
theorem dX6_bestCall_31 : decode cX6_bestCall 31 = .ok (.iconst 0, 1) := by decide +kernel
theorem dX6_bestCall_32 : decode cX6_bestCall 32 = .ok (.istore 4, 2) := by decide +kernel
theorem dX6_bestCall_34 : decode cX6_bestCall 34 = .ok (.iload 4, 2) := by decide +kernel
theorem dX6_bestCall_36 : decode cX6_bestCall 36 = .ok (.bipush 60, 2) := by decide +kernel
theorem dX6_bestCall_38 : decode cX6_bestCall 38 = .ok (.if_icmp .ge 65, 3) := by decide +kernel
theorem dX6_bestCall_41 : decode cX6_bestCall 41 = .ok (.iload_n 3, 1) := by decide +kernel
theorem dX6_bestCall_42 : decode cX6_bestCall 42 = .ok (.bipush 30, 2) := by decide +kernel
theorem dX6_bestCall_44 : decode cX6_bestCall 44 = .ok (.if_icmp .gt 59, 3) := by decide +kernel
theorem dX6_bestCall_47 : decode cX6_bestCall 47 = .ok (.aload_n 0, 1) := by decide +kernel
theorem dX6_bestCall_48 : decode cX6_bestCall 48 = .ok (.getfield 16, 3) := by decide +kernel
theorem dX6_bestCall_51 : decode cX6_bestCall 51 = .ok (.invokevirtual 267, 3) := by decide +kernel
theorem dX6_bestCall_54 : decode cX6_bestCall 54 = .ok (.aload_n 0, 1) := by decide +kernel
theorem dX6_bestCall_55 : decode cX6_bestCall 55 = .ok (.getfield 16, 3) := by decide +kernel
theorem dX6_bestCall_58 : decode cX6_bestCall 58 = .ok (.invokevirtual 270, 3) := by decide +kernel
theorem dX6_bestCall_61 : decode cX6_bestCall 61 = .ok (.ifCond .ne 29, 3) := by decide +kernel
theorem dX6_bestCall_64 : decode cX6_bestCall 64 = .ok (.aload_n 0, 1) := by decide +kernel
theorem dX6_bestCall_65 : decode cX6_bestCall 65 = .ok (.getfield 16, 3) := by decide +kernel
theorem dX6_bestCall_68 : decode cX6_bestCall 68 = .ok (.iconst 0, 1) := by decide +kernel
theorem dX6_bestCall_69 : decode cX6_bestCall 69 = .ok (.invokevirtual 274, 3) := by decide +kernel
theorem dX6_bestCall_72 : decode cX6_bestCall 72 = .ok (.istore 5, 2) := by decide +kernel
theorem dX6_bestCall_74 : decode cX6_bestCall 74 = .ok (.iload 5, 2) := by decide +kernel
theorem dX6_bestCall_76 : decode cX6_bestCall 76 = .ok (.iload_n 2, 1) := by decide +kernel
theorem dX6_bestCall_77 : decode cX6_bestCall 77 = .ok (.if_icmp .le 8, 3) := by decide +kernel
theorem dX6_bestCall_80 : decode cX6_bestCall 80 = .ok (.iload 5, 2) := by decide +kernel
theorem dX6_bestCall_82 : decode cX6_bestCall 82 = .ok (.istore_n 2, 1) := by decide +kernel
theorem dX6_bestCall_83 : decode cX6_bestCall 83 = .ok (.iload_n 3, 1) := by decide +kernel
theorem dX6_bestCall_84 : decode cX6_bestCall 84 = .ok (.istore_n 1, 1) := by decide +kernel
theorem dX6_bestCall_85 : decode cX6_bestCall 85 = .ok (.iload 4, 2) := by decide +kernel
theorem dX6_bestCall_87 : decode cX6_bestCall 87 = .ok (.iconst 1, 1) := by decide +kernel
theorem dX6_bestCall_88 : decode cX6_bestCall 88 = .ok (.iadd, 1) := by decide +kernel
theorem dX6_bestCall_89 : decode cX6_bestCall 89 = .ok (.istore_n 3, 1) := by decide +kernel
theorem dX6_bestCall_90 : decode cX6_bestCall 90 = .ok (.aload_n 0, 1) := by decide +kernel
theorem dX6_bestCall_91 : decode cX6_bestCall 91 = .ok (.getfield 16, 3) := by decide +kernel
theorem dX6_bestCall_94 : decode cX6_bestCall 94 = .ok (.invokevirtual 278, 3) := by decide +kernel
theorem dX6_bestCall_97 : decode cX6_bestCall 97 = .ok (.iinc 4 1, 3) := by decide +kernel
theorem dX6_bestCall_100 : decode cX6_bestCall 100 = .ok (.goto (-66), 3) := by decide +kernel
theorem dX6_bestCall_103 : decode cX6_bestCall 103 = .ok (.iload_n 1, 1) := by decide +kernel
theorem dX6_bestCall_104 : decode cX6_bestCall 104 = .ok (.ireturn, 1) := by decide +kernel
theorem dX6_fullest_0 : decode cX6_fullest 0 = .ok (.aload_n 0, 1) := by decide +kernel
theorem dX6_fullest_1 : decode cX6_fullest 1 = .ok (.getfield 10, 3) := by decide +kernel
theorem dX6_fullest_4 : decode cX6_fullest 4 = .ok (.getfield 83, 3) := by decide +kernel
theorem dX6_fullest_7 : decode cX6_fullest 7 = .ok (.aload_n 0, 1) := by decide +kernel
theorem dX6_fullest_8 : decode cX6_fullest 8 = .ok (.getfield 40, 3) := by decide +kernel
theorem dX6_fullest_11 : decode cX6_fullest 11 = .ok (.invokevirtual 256, 3) := by decide +kernel
theorem dX6_fullest_14 : decode cX6_fullest 14 = .ok (.ldc 59, 2) := by decide +kernel
theorem dX6_fullest_16 : decode cX6_fullest 16 = .ok (.istore_n 1, 1) := by decide +kernel
theorem dX6_fullest_17 : decode cX6_fullest 17 = .ok (.iconst 0, 1) := by decide +kernel
theorem dX6_fullest_18 : decode cX6_fullest 18 = .ok (.istore_n 2, 1) := by decide +kernel
theorem dX6_fullest_19 : decode cX6_fullest 19 = .ok (.aload_n 0, 1) := by decide +kernel
theorem dX6_fullest_20 : decode cX6_fullest 20 = .ok (.getfield 10, 3) := by decide +kernel
theorem dX6_fullest_23 : decode cX6_fullest 23 = .ok (.getfield 104, 3) := by decide +kernel
theorem dX6_fullest_26 : decode cX6_fullest 26 = .ok (.istore_n 3, 1) := by decide +kernel
theorem dX6_fullest_27 : decode cX6_fullest 27 = .ok (.iload_n 3, 1) := by decide +kernel
theorem dX6_fullest_28 : decode cX6_fullest 28 = .ok (.aload_n 0, 1) := by decide +kernel
theorem dX6_fullest_29 : decode cX6_fullest 29 = .ok (.getfield 40, 3) := by decide +kernel
theorem dX6_fullest_32 : decode cX6_fullest 32 = .ok (.arraylength, 1) := by decide +kernel
theorem dX6_fullest_33 : decode cX6_fullest 33 = .ok (.if_icmp .ge 28, 3) := by decide +kernel
theorem dX6_fullest_36 : decode cX6_fullest 36 = .ok (.aload_n 0, 1) := by decide +kernel
theorem dX6_fullest_37 : decode cX6_fullest 37 = .ok (.getfield 40, 3) := by decide +kernel
theorem dX6_fullest_40 : decode cX6_fullest 40 = .ok (.iload_n 3, 1) := by decide +kernel
theorem dX6_fullest_41 : decode cX6_fullest 41 = .ok (.iaload, 1) := by decide +kernel
theorem dX6_fullest_42 : decode cX6_fullest 42 = .ok (.iload_n 2, 1) := by decide +kernel
theorem dX6_fullest_43 : decode cX6_fullest 43 = .ok (.if_icmp .le 12, 3) := by decide +kernel
theorem dX6_fullest_46 : decode cX6_fullest 46 = .ok (.aload_n 0, 1) := by decide +kernel
theorem dX6_fullest_47 : decode cX6_fullest 47 = .ok (.getfield 40, 3) := by decide +kernel
theorem dX6_fullest_50 : decode cX6_fullest 50 = .ok (.iload_n 3, 1) := by decide +kernel
theorem dX6_fullest_51 : decode cX6_fullest 51 = .ok (.iaload, 1) := by decide +kernel
theorem dX6_fullest_52 : decode cX6_fullest 52 = .ok (.istore_n 2, 1) := by decide +kernel
theorem dX6_fullest_53 : decode cX6_fullest 53 = .ok (.iload_n 3, 1) := by decide +kernel
theorem dX6_fullest_54 : decode cX6_fullest 54 = .ok (.istore_n 1, 1) := by decide +kernel
theorem dX6_fullest_55 : decode cX6_fullest 55 = .ok (.iinc 3 1, 3) := by decide +kernel
theorem dX6_fullest_58 : decode cX6_fullest 58 = .ok (.goto (-31), 3) := by decide +kernel
theorem dX6_fullest_61 : decode cX6_fullest 61 = .ok (.iload_n 1, 1) := by decide +kernel
theorem dX6_fullest_62 : decode cX6_fullest 62 = .ok (.ireturn, 1) := by decide +kernel
theorem dX6_errorUnlessBooked_0 : decode cX6_errorUnlessBooked 0 = .ok (.aload_n 0, 1) := by decide +kernel
theorem dX6_errorUnlessBooked_1 : decode cX6_errorUnlessBooked 1 = .ok (.getfield 10, 3) := by decide +kernel
theorem dX6_errorUnlessBooked_4 : decode cX6_errorUnlessBooked 4 = .ok (.getfield 83, 3) := by decide +kernel
theorem dX6_errorUnlessBooked_7 : decode cX6_errorUnlessBooked 7 = .ok (.iload_n 1, 1) := by decide +kernel
theorem dX6_errorUnlessBooked_8 : decode cX6_errorUnlessBooked 8 = .ok (.invokevirtual 87, 3) := by decide +kernel
theorem dX6_errorUnlessBooked_11 : decode cX6_errorUnlessBooked 11 = .ok (.ifCond .ne 6, 3) := by decide +kernel
theorem dX6_errorUnlessBooked_14 : decode cX6_errorUnlessBooked 14 = .ok (.ldc 93, 2) := by decide +kernel
theorem dX6_errorUnlessBooked_16 : decode cX6_errorUnlessBooked 16 = .ok (.ireturn, 1) := by decide +kernel
theorem dX6_errorUnlessBooked_17 : decode cX6_errorUnlessBooked 17 = .ok (.aload_n 0, 1) := by decide +kernel
theorem dX6_errorUnlessBooked_18 : decode cX6_errorUnlessBooked 18 = .ok (.getfield 10, 3) := by decide +kernel
theorem dX6_errorUnlessBooked_21 : decode cX6_errorUnlessBooked 21 = .ok (.getfield 83, 3) := by decide +kernel
theorem dX6_errorUnlessBooked_24 : decode cX6_errorUnlessBooked 24 = .ok (.getfield 162, 3) := by decide +kernel
theorem dX6_errorUnlessBooked_27 : decode cX6_errorUnlessBooked 27 = .ok (.iload_n 1, 1) := by decide +kernel
theorem dX6_errorUnlessBooked_28 : decode cX6_errorUnlessBooked 28 = .ok (.iaload, 1) := by decide +kernel
theorem dX6_errorUnlessBooked_29 : decode cX6_errorUnlessBooked 29 = .ok (.ifCond .ne 7, 3) := by decide +kernel
theorem dX6_errorUnlessBooked_32 : decode cX6_errorUnlessBooked 32 = .ok (.iconst 0, 1) := by decide +kernel
theorem dX6_errorUnlessBooked_33 : decode cX6_errorUnlessBooked 33 = .ok (.goto 5, 3) := by decide +kernel
theorem dX6_errorUnlessBooked_36 : decode cX6_errorUnlessBooked 36 = .ok (.ldc 99, 2) := by decide +kernel
theorem dX6_errorUnlessBooked_38 : decode cX6_errorUnlessBooked 38 = .ok (.ireturn, 1) := by decide +kernel
theorem dX6_mostBedsTaken_0 : decode cX6_mostBedsTaken 0 = .ok (.aload_n 0, 1) := by decide +kernel
theorem dX6_mostBedsTaken_1 : decode cX6_mostBedsTaken 1 = .ok (.invokevirtual 281, 3) := by decide +kernel
theorem dX6_mostBedsTaken_4 : decode cX6_mostBedsTaken 4 = .ok (.istore_n 1, 1) := by decide +kernel
theorem dX6_mostBedsTaken_5 : decode cX6_mostBedsTaken 5 = .ok (.iload_n 1, 1) := by decide +kernel
theorem dX6_mostBedsTaken_6 : decode cX6_mostBedsTaken 6 = .ok (.ldc 59, 2) := by decide +kernel
theorem dX6_mostBedsTaken_8 : decode cX6_mostBedsTaken 8 = .ok (.if_icmp .ne 7, 3) := by decide +kernel
theorem dX6_mostBedsTaken_11 : decode cX6_mostBedsTaken 11 = .ok (.iconst 0, 1) := by decide +kernel
theorem dX6_mostBedsTaken_12 : decode cX6_mostBedsTaken 12 = .ok (.goto 14, 3) := by decide +kernel
theorem dX6_mostBedsTaken_15 : decode cX6_mostBedsTaken 15 = .ok (.aload_n 0, 1) := by decide +kernel
theorem dX6_mostBedsTaken_16 : decode cX6_mostBedsTaken 16 = .ok (.getfield 10, 3) := by decide +kernel
theorem dX6_mostBedsTaken_19 : decode cX6_mostBedsTaken 19 = .ok (.getfield 83, 3) := by decide +kernel
theorem dX6_mostBedsTaken_22 : decode cX6_mostBedsTaken 22 = .ok (.iload_n 1, 1) := by decide +kernel
theorem dX6_mostBedsTaken_23 : decode cX6_mostBedsTaken 23 = .ok (.invokevirtual 179, 3) := by decide +kernel
theorem dX6_mostBedsTaken_26 : decode cX6_mostBedsTaken 26 = .ok (.ireturn, 1) := by decide +kernel
theorem dX6_passInTrial_0 : decode cX6_passInTrial 0 = .ok (.aload_n 0, 1) := by decide +kernel
theorem dX6_passInTrial_1 : decode cX6_passInTrial 1 = .ok (.getfield 16, 3) := by decide +kernel
theorem dX6_passInTrial_4 : decode cX6_passInTrial 4 = .ok (.aload_n 0, 1) := by decide +kernel
theorem dX6_passInTrial_5 : decode cX6_passInTrial 5 = .ok (.getfield 10, 3) := by decide +kernel
theorem dX6_passInTrial_8 : decode cX6_passInTrial 8 = .ok (.invokevirtual 60, 3) := by decide +kernel
theorem dX6_passInTrial_11 : decode cX6_passInTrial 11 = .ok (.iconst 0, 1) := by decide +kernel
theorem dX6_passInTrial_12 : decode cX6_passInTrial 12 = .ok (.istore_n 2, 1) := by decide +kernel
theorem dX6_passInTrial_13 : decode cX6_passInTrial 13 = .ok (.iload_n 2, 1) := by decide +kernel
theorem dX6_passInTrial_14 : decode cX6_passInTrial 14 = .ok (.iload_n 1, 1) := by decide +kernel
theorem dX6_passInTrial_15 : decode cX6_passInTrial 15 = .ok (.if_icmp .ge 16, 3) := by decide +kernel
theorem dX6_passInTrial_18 : decode cX6_passInTrial 18 = .ok (.aload_n 0, 1) := by decide +kernel
theorem dX6_passInTrial_19 : decode cX6_passInTrial 19 = .ok (.getfield 16, 3) := by decide +kernel
theorem dX6_passInTrial_22 : decode cX6_passInTrial 22 = .ok (.invokevirtual 137, 3) := by decide +kernel
theorem dX6_passInTrial_25 : decode cX6_passInTrial 25 = .ok (.iinc 2 1, 3) := by decide +kernel
theorem dX6_passInTrial_28 : decode cX6_passInTrial 28 = .ok (.goto (-15), 3) := by decide +kernel
theorem dX6_passInTrial_31 : decode cX6_passInTrial 31 = .ok (.return_, 1) := by decide +kernel
theorem dX6_areNightsAndPersons_0 : decode cX6_areNightsAndPersons 0 = .ok (.iload_n 0, 1) := by decide +kernel
theorem dX6_areNightsAndPersons_1 : decode cX6_areNightsAndPersons 1 = .ok (.iconst 1, 1) := by decide +kernel
theorem dX6_areNightsAndPersons_2 : decode cX6_areNightsAndPersons 2 = .ok (.if_icmp .lt 24, 3) := by decide +kernel
theorem dX6_areNightsAndPersons_5 : decode cX6_areNightsAndPersons 5 = .ok (.iload_n 0, 1) := by decide +kernel
theorem dX6_areNightsAndPersons_6 : decode cX6_areNightsAndPersons 6 = .ok (.bipush 9, 2) := by decide +kernel
theorem dX6_areNightsAndPersons_8 : decode cX6_areNightsAndPersons 8 = .ok (.if_icmp .gt 18, 3) := by decide +kernel
theorem dX6_areNightsAndPersons_11 : decode cX6_areNightsAndPersons 11 = .ok (.iload_n 1, 1) := by decide +kernel
theorem dX6_areNightsAndPersons_12 : decode cX6_areNightsAndPersons 12 = .ok (.iconst 1, 1) := by decide +kernel
theorem dX6_areNightsAndPersons_13 : decode cX6_areNightsAndPersons 13 = .ok (.if_icmp .lt 13, 3) := by decide +kernel
theorem dX6_areNightsAndPersons_16 : decode cX6_areNightsAndPersons 16 = .ok (.iload_n 1, 1) := by decide +kernel
theorem dX6_areNightsAndPersons_17 : decode cX6_areNightsAndPersons 17 = .ok (.bipush 9, 2) := by decide +kernel
theorem dX6_areNightsAndPersons_19 : decode cX6_areNightsAndPersons 19 = .ok (.if_icmp .gt 7, 3) := by decide +kernel
theorem dX6_areNightsAndPersons_22 : decode cX6_areNightsAndPersons 22 = .ok (.iconst 1, 1) := by decide +kernel
theorem dX6_areNightsAndPersons_23 : decode cX6_areNightsAndPersons 23 = .ok (.goto 4, 3) := by decide +kernel
theorem dX6_areNightsAndPersons_26 : decode cX6_areNightsAndPersons 26 = .ok (.iconst 0, 1) := by decide +kernel
theorem dX6_areNightsAndPersons_27 : decode cX6_areNightsAndPersons 27 = .ok (.ireturn, 1) := by decide +kernel
theorem dX7_init_0 : decode cX7_init 0 = .ok (.aload_n 0, 1) := by decide +kernel
theorem dX7_init_1 : decode cX7_init 1 = .ok (.invokespecial 1, 3) := by decide +kernel
theorem dX7_init_4 : decode cX7_init 4 = .ok (.aload_n 0, 1) := by decide +kernel
theorem dX7_init_5 : decode cX7_init 5 = .ok (.sipush 2739, 3) := by decide +kernel
theorem dX7_init_8 : decode cX7_init 8 = .ok (.newarray .int, 2) := by decide +kernel
theorem dX7_init_10 : decode cX7_init 10 = .ok (.putfield 7, 3) := by decide +kernel
theorem dX7_init_13 : decode cX7_init 13 = .ok (.aload_n 0, 1) := by decide +kernel
theorem dX7_init_14 : decode cX7_init 14 = .ok (.sipush 2739, 3) := by decide +kernel
theorem dX7_init_17 : decode cX7_init 17 = .ok (.newarray .int, 2) := by decide +kernel
theorem dX7_init_19 : decode cX7_init 19 = .ok (.putfield 13, 3) := by decide +kernel
theorem dX7_init_22 : decode cX7_init 22 = .ok (.aload_n 0, 1) := by decide +kernel
theorem dX7_init_23 : decode cX7_init 23 = .ok (.sipush 2739, 3) := by decide +kernel
theorem dX7_init_26 : decode cX7_init 26 = .ok (.newarray .int, 2) := by decide +kernel
theorem dX7_init_28 : decode cX7_init 28 = .ok (.putfield 16, 3) := by decide +kernel
theorem dX7_init_31 : decode cX7_init 31 = .ok (.aload_n 0, 1) := by decide +kernel
theorem dX7_init_32 : decode cX7_init 32 = .ok (.sipush 10956, 3) := by decide +kernel
theorem dX7_init_35 : decode cX7_init 35 = .ok (.newarray .int, 2) := by decide +kernel
theorem dX7_init_37 : decode cX7_init 37 = .ok (.putfield 19, 3) := by decide +kernel
theorem dX7_init_40 : decode cX7_init 40 = .ok (.aload_n 0, 1) := by decide +kernel
theorem dX7_init_41 : decode cX7_init 41 = .ok (.bipush 60, 2) := by decide +kernel
theorem dX7_init_43 : decode cX7_init 43 = .ok (.newarray .int, 2) := by decide +kernel
theorem dX7_init_45 : decode cX7_init 45 = .ok (.putfield 22, 3) := by decide +kernel
theorem dX7_init_48 : decode cX7_init 48 = .ok (.aload_n 0, 1) := by decide +kernel
theorem dX7_init_49 : decode cX7_init 49 = .ok (.getfield 7, 3) := by decide +kernel
theorem dX7_init_52 : decode cX7_init 52 = .ok (.bipush 17, 2) := by decide +kernel
theorem dX7_init_54 : decode cX7_init 54 = .ok (.bipush 10, 2) := by decide +kernel
theorem dX7_init_56 : decode cX7_init 56 = .ok (.iastore, 1) := by decide +kernel
theorem dX7_init_57 : decode cX7_init 57 = .ok (.aload_n 0, 1) := by decide +kernel
theorem dX7_init_58 : decode cX7_init 58 = .ok (.getfield 7, 3) := by decide +kernel
theorem dX7_init_61 : decode cX7_init 61 = .ok (.bipush 18, 2) := by decide +kernel
theorem dX7_init_63 : decode cX7_init 63 = .ok (.iconst 4, 1) := by decide +kernel
theorem dX7_init_64 : decode cX7_init 64 = .ok (.iastore, 1) := by decide +kernel
theorem dX7_init_65 : decode cX7_init 65 = .ok (.aload_n 0, 1) := by decide +kernel
theorem dX7_init_66 : decode cX7_init 66 = .ok (.getfield 7, 3) := by decide +kernel
theorem dX7_init_69 : decode cX7_init 69 = .ok (.bipush 19, 2) := by decide +kernel
theorem dX7_init_71 : decode cX7_init 71 = .ok (.bipush 20, 2) := by decide +kernel
theorem dX7_init_73 : decode cX7_init 73 = .ok (.iastore, 1) := by decide +kernel
theorem dX7_init_74 : decode cX7_init 74 = .ok (.aload_n 0, 1) := by decide +kernel
theorem dX7_init_75 : decode cX7_init 75 = .ok (.getfield 7, 3) := by decide +kernel
theorem dX7_init_78 : decode cX7_init 78 = .ok (.bipush 20, 2) := by decide +kernel
theorem dX7_init_80 : decode cX7_init 80 = .ok (.iconst 5, 1) := by decide +kernel
theorem dX7_init_81 : decode cX7_init 81 = .ok (.iastore, 1) := by decide +kernel
theorem dX7_init_82 : decode cX7_init 82 = .ok (.aload_n 0, 1) := by decide +kernel
theorem dX7_init_83 : decode cX7_init 83 = .ok (.getfield 7, 3) := by decide +kernel
theorem dX7_init_86 : decode cX7_init 86 = .ok (.bipush 21, 2) := by decide +kernel
theorem dX7_init_88 : decode cX7_init 88 = .ok (.iconst 3, 1) := by decide +kernel
theorem dX7_init_89 : decode cX7_init 89 = .ok (.iastore, 1) := by decide +kernel
theorem dX7_init_90 : decode cX7_init 90 = .ok (.aload_n 0, 1) := by decide +kernel
theorem dX7_init_91 : decode cX7_init 91 = .ok (.getfield 7, 3) := by decide +kernel
theorem dX7_init_94 : decode cX7_init 94 = .ok (.bipush 22, 2) := by decide +kernel
theorem dX7_init_96 : decode cX7_init 96 = .ok (.iconst 4, 1) := by decide +kernel
theorem dX7_init_97 : decode cX7_init 97 = .ok (.iastore, 1) := by decide +kernel
theorem dX7_init_98 : decode cX7_init 98 = .ok (.aload_n 0, 1) := by decide +kernel
theorem dX7_init_99 : decode cX7_init 99 = .ok (.getfield 7, 3) := by decide +kernel
theorem dX7_init_102 : decode cX7_init 102 = .ok (.bipush 23, 2) := by decide +kernel
theorem dX7_init_104 : decode cX7_init 104 = .ok (.bipush 12, 2) := by decide +kernel
theorem dX7_init_106 : decode cX7_init 106 = .ok (.iastore, 1) := by decide +kernel
theorem dX7_init_107 : decode cX7_init 107 = .ok (.aload_n 0, 1) := by decide +kernel
theorem dX7_init_108 : decode cX7_init 108 = .ok (.getfield 7, 3) := by decide +kernel
theorem dX7_init_111 : decode cX7_init 111 = .ok (.bipush 24, 2) := by decide +kernel
theorem dX7_init_113 : decode cX7_init 113 = .ok (.bipush 20, 2) := by decide +kernel
theorem dX7_init_115 : decode cX7_init 115 = .ok (.iastore, 1) := by decide +kernel
theorem dX7_init_116 : decode cX7_init 116 = .ok (.aload_n 0, 1) := by decide +kernel
theorem dX7_init_117 : decode cX7_init 117 = .ok (.getfield 7, 3) := by decide +kernel
theorem dX7_init_120 : decode cX7_init 120 = .ok (.bipush 25, 2) := by decide +kernel
theorem dX7_init_122 : decode cX7_init 122 = .ok (.iconst 3, 1) := by decide +kernel
theorem dX7_init_123 : decode cX7_init 123 = .ok (.iastore, 1) := by decide +kernel
theorem dX7_init_124 : decode cX7_init 124 = .ok (.aload_n 0, 1) := by decide +kernel
theorem dX7_init_125 : decode cX7_init 125 = .ok (.getfield 7, 3) := by decide +kernel
theorem dX7_init_128 : decode cX7_init 128 = .ok (.bipush 26, 2) := by decide +kernel
theorem dX7_init_130 : decode cX7_init 130 = .ok (.bipush 100, 2) := by decide +kernel
theorem dX7_init_132 : decode cX7_init 132 = .ok (.iastore, 1) := by decide +kernel
theorem dX7_init_133 : decode cX7_init 133 = .ok (.return_, 1) := by decide +kernel
theorem dX7_in_0 : decode cX7_in 0 = .ok (.iload_n 0, 1) := by decide +kernel
theorem dX7_in_1 : decode cX7_in 1 = .ok (.iload_n 1, 1) := by decide +kernel
theorem dX7_in_2 : decode cX7_in 2 = .ok (.if_icmp .lt 12, 3) := by decide +kernel
theorem dX7_in_5 : decode cX7_in 5 = .ok (.iload_n 0, 1) := by decide +kernel
theorem dX7_in_6 : decode cX7_in 6 = .ok (.iload_n 2, 1) := by decide +kernel
theorem dX7_in_7 : decode cX7_in 7 = .ok (.if_icmp .gt 7, 3) := by decide +kernel
theorem dX7_in_10 : decode cX7_in 10 = .ok (.iconst 1, 1) := by decide +kernel
theorem dX7_in_11 : decode cX7_in 11 = .ok (.goto 4, 3) := by decide +kernel
theorem dX7_in_14 : decode cX7_in 14 = .ok (.iconst 0, 1) := by decide +kernel
theorem dX7_in_15 : decode cX7_in 15 = .ok (.ireturn, 1) := by decide +kernel
theorem dX7_record_0 : decode cX7_record 0 = .ok (.aload_n 0, 1) := by decide +kernel
theorem dX7_record_1 : decode cX7_record 1 = .ok (.getfield 25, 3) := by decide +kernel
theorem dX7_record_4 : decode cX7_record 4 = .ok (.iconst 4, 1) := by decide +kernel
theorem dX7_record_5 : decode cX7_record 5 = .ok (.if_icmp .ne 44, 3) := by decide +kernel
theorem dX7_record_8 : decode cX7_record 8 = .ok (.iconst 0, 1) := by decide +kernel
theorem dX7_record_9 : decode cX7_record 9 = .ok (.istore_n 1, 1) := by decide +kernel
theorem dX7_record_10 : decode cX7_record 10 = .ok (.iload_n 1, 1) := by decide +kernel
theorem dX7_record_11 : decode cX7_record 11 = .ok (.sipush 8217, 3) := by decide +kernel
theorem dX7_record_14 : decode cX7_record 14 = .ok (.if_icmp .ge 25, 3) := by decide +kernel
theorem dX7_record_17 : decode cX7_record 17 = .ok (.aload_n 0, 1) := by decide +kernel
theorem dX7_record_18 : decode cX7_record 18 = .ok (.getfield 19, 3) := by decide +kernel
theorem dX7_record_21 : decode cX7_record 21 = .ok (.iload_n 1, 1) := by decide +kernel
theorem dX7_record_22 : decode cX7_record 22 = .ok (.aload_n 0, 1) := by decide +kernel
theorem dX7_record_23 : decode cX7_record 23 = .ok (.getfield 19, 3) := by decide +kernel
theorem dX7_record_26 : decode cX7_record 26 = .ok (.iload_n 1, 1) := by decide +kernel
theorem dX7_record_27 : decode cX7_record 27 = .ok (.sipush 2739, 3) := by decide +kernel
theorem dX7_record_30 : decode cX7_record 30 = .ok (.iadd, 1) := by decide +kernel
theorem dX7_record_31 : decode cX7_record 31 = .ok (.iaload, 1) := by decide +kernel
theorem dX7_record_32 : decode cX7_record 32 = .ok (.iastore, 1) := by decide +kernel
theorem dX7_record_33 : decode cX7_record 33 = .ok (.iinc 1 1, 3) := by decide +kernel
theorem dX7_record_36 : decode cX7_record 36 = .ok (.goto (-26), 3) := by decide +kernel
theorem dX7_record_39 : decode cX7_record 39 = .ok (.aload_n 0, 1) := by decide +kernel
theorem dX7_record_40 : decode cX7_record 40 = .ok (.dup, 1) := by decide +kernel
theorem dX7_record_41 : decode cX7_record 41 = .ok (.getfield 25, 3) := by decide +kernel
theorem dX7_record_44 : decode cX7_record 44 = .ok (.iconst 1, 1) := by decide +kernel
theorem dX7_record_45 : decode cX7_record 45 = .ok (.isub, 1) := by decide +kernel
theorem dX7_record_46 : decode cX7_record 46 = .ok (.putfield 25, 3) := by decide +kernel
theorem dX7_record_49 : decode cX7_record 49 = .ok (.iconst 0, 1) := by decide +kernel
theorem dX7_record_50 : decode cX7_record 50 = .ok (.istore_n 1, 1) := by decide +kernel
theorem dX7_record_51 : decode cX7_record 51 = .ok (.iload_n 1, 1) := by decide +kernel
theorem dX7_record_52 : decode cX7_record 52 = .ok (.sipush 2739, 3) := by decide +kernel
theorem dX7_record_55 : decode cX7_record 55 = .ok (.if_icmp .ge 30, 3) := by decide +kernel
theorem dX7_record_58 : decode cX7_record 58 = .ok (.aload_n 0, 1) := by decide +kernel
theorem dX7_record_59 : decode cX7_record 59 = .ok (.getfield 19, 3) := by decide +kernel
theorem dX7_record_62 : decode cX7_record 62 = .ok (.sipush 2739, 3) := by decide +kernel
theorem dX7_record_65 : decode cX7_record 65 = .ok (.aload_n 0, 1) := by decide +kernel
theorem dX7_record_66 : decode cX7_record 66 = .ok (.getfield 25, 3) := by decide +kernel
theorem dX7_record_69 : decode cX7_record 69 = .ok (.imul, 1) := by decide +kernel
theorem dX7_record_70 : decode cX7_record 70 = .ok (.iload_n 1, 1) := by decide +kernel
theorem dX7_record_71 : decode cX7_record 71 = .ok (.iadd, 1) := by decide +kernel
theorem dX7_record_72 : decode cX7_record 72 = .ok (.aload_n 0, 1) := by decide +kernel
theorem dX7_record_73 : decode cX7_record 73 = .ok (.getfield 7, 3) := by decide +kernel
theorem dX7_record_76 : decode cX7_record 76 = .ok (.iload_n 1, 1) := by decide +kernel
theorem dX7_record_77 : decode cX7_record 77 = .ok (.iaload, 1) := by decide +kernel
theorem dX7_record_78 : decode cX7_record 78 = .ok (.iastore, 1) := by decide +kernel
theorem dX7_record_79 : decode cX7_record 79 = .ok (.iinc 1 1, 3) := by decide +kernel
theorem dX7_record_82 : decode cX7_record 82 = .ok (.goto (-31), 3) := by decide +kernel
theorem dX7_record_85 : decode cX7_record 85 = .ok (.aload_n 0, 1) := by decide +kernel
theorem dX7_record_86 : decode cX7_record 86 = .ok (.dup, 1) := by decide +kernel
theorem dX7_record_87 : decode cX7_record 87 = .ok (.getfield 25, 3) := by decide +kernel
theorem dX7_record_90 : decode cX7_record 90 = .ok (.iconst 1, 1) := by decide +kernel
theorem dX7_record_91 : decode cX7_record 91 = .ok (.iadd, 1) := by decide +kernel
theorem dX7_record_92 : decode cX7_record 92 = .ok (.putfield 25, 3) := by decide +kernel
theorem dX7_record_95 : decode cX7_record 95 = .ok (.return_, 1) := by decide +kernel
theorem dX7_lay_0 : decode cX7_lay 0 = .ok (.iconst 0, 1) := by decide +kernel
theorem dX7_lay_1 : decode cX7_lay 1 = .ok (.istore_n 1, 1) := by decide +kernel
theorem dX7_lay_2 : decode cX7_lay 2 = .ok (.iload_n 1, 1) := by decide +kernel
theorem dX7_lay_3 : decode cX7_lay 3 = .ok (.sipush 2739, 3) := by decide +kernel
theorem dX7_lay_6 : decode cX7_lay 6 = .ok (.if_icmp .ge 21, 3) := by decide +kernel
theorem dX7_lay_9 : decode cX7_lay 9 = .ok (.aload_n 0, 1) := by decide +kernel
theorem dX7_lay_10 : decode cX7_lay 10 = .ok (.getfield 16, 3) := by decide +kernel
theorem dX7_lay_13 : decode cX7_lay 13 = .ok (.iload_n 1, 1) := by decide +kernel
theorem dX7_lay_14 : decode cX7_lay 14 = .ok (.aload_n 0, 1) := by decide +kernel
theorem dX7_lay_15 : decode cX7_lay 15 = .ok (.getfield 7, 3) := by decide +kernel
theorem dX7_lay_18 : decode cX7_lay 18 = .ok (.iload_n 1, 1) := by decide +kernel
theorem dX7_lay_19 : decode cX7_lay 19 = .ok (.iaload, 1) := by decide +kernel
theorem dX7_lay_20 : decode cX7_lay 20 = .ok (.iastore, 1) := by decide +kernel
theorem dX7_lay_21 : decode cX7_lay 21 = .ok (.iinc 1 1, 3) := by decide +kernel
theorem dX7_lay_24 : decode cX7_lay 24 = .ok (.goto (-22), 3) := by decide +kernel
theorem dX7_lay_27 : decode cX7_lay 27 = .ok (.return_, 1) := by decide +kernel
theorem dX7_takeBack_0 : decode cX7_takeBack 0 = .ok (.iconst 0, 1) := by decide +kernel
theorem dX7_takeBack_1 : decode cX7_takeBack 1 = .ok (.istore_n 1, 1) := by decide +kernel
theorem dX7_takeBack_2 : decode cX7_takeBack 2 = .ok (.iload_n 1, 1) := by decide +kernel
theorem dX7_takeBack_3 : decode cX7_takeBack 3 = .ok (.sipush 2739, 3) := by decide +kernel
theorem dX7_takeBack_6 : decode cX7_takeBack 6 = .ok (.if_icmp .ge 21, 3) := by decide +kernel
theorem dX7_takeBack_9 : decode cX7_takeBack 9 = .ok (.aload_n 0, 1) := by decide +kernel
theorem dX7_takeBack_10 : decode cX7_takeBack 10 = .ok (.getfield 7, 3) := by decide +kernel
theorem dX7_takeBack_13 : decode cX7_takeBack 13 = .ok (.iload_n 1, 1) := by decide +kernel
theorem dX7_takeBack_14 : decode cX7_takeBack 14 = .ok (.aload_n 0, 1) := by decide +kernel
theorem dX7_takeBack_15 : decode cX7_takeBack 15 = .ok (.getfield 16, 3) := by decide +kernel
theorem dX7_takeBack_18 : decode cX7_takeBack 18 = .ok (.iload_n 1, 1) := by decide +kernel
theorem dX7_takeBack_19 : decode cX7_takeBack 19 = .ok (.iaload, 1) := by decide +kernel
theorem dX7_takeBack_20 : decode cX7_takeBack 20 = .ok (.iastore, 1) := by decide +kernel
theorem dX7_takeBack_21 : decode cX7_takeBack 21 = .ok (.iinc 1 1, 3) := by decide +kernel
theorem dX7_takeBack_24 : decode cX7_takeBack 24 = .ok (.goto (-22), 3) := by decide +kernel
theorem dX7_takeBack_27 : decode cX7_takeBack 27 = .ok (.return_, 1) := by decide +kernel
theorem dX7_of_0 : decode cX7_of 0 = .ok (.aload_n 0, 1) := by decide +kernel
theorem dX7_of_1 : decode cX7_of 1 = .ok (.getfield 7, 3) := by decide +kernel
theorem dX7_of_4 : decode cX7_of 4 = .ok (.bipush 51, 2) := by decide +kernel
theorem dX7_of_6 : decode cX7_of 6 = .ok (.bipush 7, 2) := by decide +kernel
theorem dX7_of_8 : decode cX7_of 8 = .ok (.iload_n 1, 1) := by decide +kernel
theorem dX7_of_9 : decode cX7_of 9 = .ok (.imul, 1) := by decide +kernel
theorem dX7_of_10 : decode cX7_of 10 = .ok (.iadd, 1) := by decide +kernel
theorem dX7_of_11 : decode cX7_of 11 = .ok (.iload_n 2, 1) := by decide +kernel
theorem dX7_of_12 : decode cX7_of 12 = .ok (.iadd, 1) := by decide +kernel
theorem dX7_of_13 : decode cX7_of 13 = .ok (.iaload, 1) := by decide +kernel
theorem dX7_of_14 : decode cX7_of 14 = .ok (.ireturn, 1) := by decide +kernel
theorem dX7_put_0 : decode cX7_put 0 = .ok (.aload_n 0, 1) := by decide +kernel
theorem dX7_put_1 : decode cX7_put 1 = .ok (.getfield 7, 3) := by decide +kernel
theorem dX7_put_4 : decode cX7_put 4 = .ok (.bipush 51, 2) := by decide +kernel
theorem dX7_put_6 : decode cX7_put 6 = .ok (.bipush 7, 2) := by decide +kernel
theorem dX7_put_8 : decode cX7_put 8 = .ok (.iload_n 1, 1) := by decide +kernel
theorem dX7_put_9 : decode cX7_put 9 = .ok (.imul, 1) := by decide +kernel
theorem dX7_put_10 : decode cX7_put 10 = .ok (.iadd, 1) := by decide +kernel
theorem dX7_put_11 : decode cX7_put 11 = .ok (.iload_n 2, 1) := by decide +kernel
theorem dX7_put_12 : decode cX7_put 12 = .ok (.iadd, 1) := by decide +kernel
theorem dX7_put_13 : decode cX7_put 13 = .ok (.iload_n 3, 1) := by decide +kernel
theorem dX7_put_14 : decode cX7_put 14 = .ok (.iastore, 1) := by decide +kernel
theorem dX7_put_15 : decode cX7_put 15 = .ok (.return_, 1) := by decide +kernel
theorem dX7_is_0 : decode cX7_is 0 = .ok (.aload_n 0, 1) := by decide +kernel
theorem dX7_is_1 : decode cX7_is 1 = .ok (.iload_n 1, 1) := by decide +kernel
theorem dX7_is_2 : decode cX7_is 2 = .ok (.iconst 0, 1) := by decide +kernel
theorem dX7_is_3 : decode cX7_is 3 = .ok (.invokevirtual 29, 3) := by decide +kernel
theorem dX7_is_6 : decode cX7_is 6 = .ok (.iload_n 2, 1) := by decide +kernel
theorem dX7_is_7 : decode cX7_is 7 = .ok (.if_icmp .ne 7, 3) := by decide +kernel
theorem dX7_is_10 : decode cX7_is 10 = .ok (.iconst 1, 1) := by decide +kernel
theorem dX7_is_11 : decode cX7_is 11 = .ok (.goto 4, 3) := by decide +kernel
theorem dX7_is_14 : decode cX7_is 14 = .ok (.iconst 0, 1) := by decide +kernel
theorem dX7_is_15 : decode cX7_is 15 = .ok (.ireturn, 1) := by decide +kernel
theorem dX7_end_0 : decode cX7_end 0 = .ok (.aload_n 0, 1) := by decide +kernel
theorem dX7_end_1 : decode cX7_end 1 = .ok (.iload_n 1, 1) := by decide +kernel
theorem dX7_end_2 : decode cX7_end 2 = .ok (.iconst 1, 1) := by decide +kernel
theorem dX7_end_3 : decode cX7_end 3 = .ok (.invokevirtual 29, 3) := by decide +kernel
theorem dX7_end_6 : decode cX7_end 6 = .ok (.aload_n 0, 1) := by decide +kernel
theorem dX7_end_7 : decode cX7_end 7 = .ok (.iload_n 1, 1) := by decide +kernel
theorem dX7_end_8 : decode cX7_end 8 = .ok (.iconst 2, 1) := by decide +kernel
theorem dX7_end_9 : decode cX7_end 9 = .ok (.invokevirtual 29, 3) := by decide +kernel
theorem dX7_end_12 : decode cX7_end 12 = .ok (.iadd, 1) := by decide +kernel
theorem dX7_end_13 : decode cX7_end 13 = .ok (.ireturn, 1) := by decide +kernel
theorem dX7_isBooking_0 : decode cX7_isBooking 0 = .ok (.iload_n 1, 1) := by decide +kernel
theorem dX7_isBooking_1 : decode cX7_isBooking 1 = .ok (.iconst 0, 1) := by decide +kernel
theorem dX7_isBooking_2 : decode cX7_isBooking 2 = .ok (.aload_n 0, 1) := by decide +kernel
theorem dX7_isBooking_3 : decode cX7_isBooking 3 = .ok (.getfield 7, 3) := by decide +kernel
theorem dX7_isBooking_6 : decode cX7_isBooking 6 = .ok (.iconst 1, 1) := by decide +kernel
theorem dX7_isBooking_7 : decode cX7_isBooking 7 = .ok (.iaload, 1) := by decide +kernel
theorem dX7_isBooking_8 : decode cX7_isBooking 8 = .ok (.iconst 1, 1) := by decide +kernel
theorem dX7_isBooking_9 : decode cX7_isBooking 9 = .ok (.isub, 1) := by decide +kernel
theorem dX7_isBooking_10 : decode cX7_isBooking 10 = .ok (.invokestatic 33, 3) := by decide +kernel
theorem dX7_isBooking_13 : decode cX7_isBooking 13 = .ok (.ireturn, 1) := by decide +kernel
theorem dX7_weatherOf_0 : decode cX7_weatherOf 0 = .ok (.aload_n 0, 1) := by decide +kernel
theorem dX7_weatherOf_1 : decode cX7_weatherOf 1 = .ok (.getfield 7, 3) := by decide +kernel
theorem dX7_weatherOf_4 : decode cX7_weatherOf 4 = .ok (.sipush 611, 3) := by decide +kernel
theorem dX7_weatherOf_7 : decode cX7_weatherOf 7 = .ok (.iload_n 1, 1) := by decide +kernel
theorem dX7_weatherOf_8 : decode cX7_weatherOf 8 = .ok (.iadd, 1) := by decide +kernel
theorem dX7_weatherOf_9 : decode cX7_weatherOf 9 = .ok (.iaload, 1) := by decide +kernel
theorem dX7_weatherOf_10 : decode cX7_weatherOf 10 = .ok (.ireturn, 1) := by decide +kernel
theorem dX7_isUpOpen_0 : decode cX7_isUpOpen 0 = .ok (.aload_n 0, 1) := by decide +kernel
theorem dX7_isUpOpen_1 : decode cX7_isUpOpen 1 = .ok (.iload_n 1, 1) := by decide +kernel
theorem dX7_isUpOpen_2 : decode cX7_isUpOpen 2 = .ok (.invokevirtual 37, 3) := by decide +kernel
theorem dX7_isUpOpen_5 : decode cX7_isUpOpen 5 = .ok (.iconst 2, 1) := by decide +kernel
theorem dX7_isUpOpen_6 : decode cX7_isUpOpen 6 = .ok (.irem, 1) := by decide +kernel
theorem dX7_isUpOpen_7 : decode cX7_isUpOpen 7 = .ok (.ifCond .ne 7, 3) := by decide +kernel
theorem dX7_isUpOpen_10 : decode cX7_isUpOpen 10 = .ok (.iconst 1, 1) := by decide +kernel
theorem dX7_isUpOpen_11 : decode cX7_isUpOpen 11 = .ok (.goto 4, 3) := by decide +kernel
theorem dX7_isUpOpen_14 : decode cX7_isUpOpen 14 = .ok (.iconst 0, 1) := by decide +kernel
theorem dX7_isUpOpen_15 : decode cX7_isUpOpen 15 = .ok (.ireturn, 1) := by decide +kernel
theorem dX7_isDownOpen_0 : decode cX7_isDownOpen 0 = .ok (.aload_n 0, 1) := by decide +kernel
theorem dX7_isDownOpen_1 : decode cX7_isDownOpen 1 = .ok (.iload_n 1, 1) := by decide +kernel
theorem dX7_isDownOpen_2 : decode cX7_isDownOpen 2 = .ok (.invokevirtual 37, 3) := by decide +kernel
theorem dX7_isDownOpen_5 : decode cX7_isDownOpen 5 = .ok (.iconst 2, 1) := by decide +kernel
theorem dX7_isDownOpen_6 : decode cX7_isDownOpen 6 = .ok (.idiv, 1) := by decide +kernel
theorem dX7_isDownOpen_7 : decode cX7_isDownOpen 7 = .ok (.iconst 2, 1) := by decide +kernel
theorem dX7_isDownOpen_8 : decode cX7_isDownOpen 8 = .ok (.irem, 1) := by decide +kernel
theorem dX7_isDownOpen_9 : decode cX7_isDownOpen 9 = .ok (.ifCond .ne 7, 3) := by decide +kernel
theorem dX7_isDownOpen_12 : decode cX7_isDownOpen 12 = .ok (.iconst 1, 1) := by decide +kernel
theorem dX7_isDownOpen_13 : decode cX7_isDownOpen 13 = .ok (.goto 4, 3) := by decide +kernel
theorem dX7_isDownOpen_16 : decode cX7_isDownOpen 16 = .ok (.iconst 0, 1) := by decide +kernel
end
section
theorem dX7_isDownOpen_17 : decode cX7_isDownOpen 17 = .ok (.ireturn, 1) := by decide +kernel
theorem dX7_isWindy_0 : decode cX7_isWindy 0 = .ok (.aload_n 0, 1) := by decide +kernel
theorem dX7_isWindy_1 : decode cX7_isWindy 1 = .ok (.iload_n 1, 1) := by decide +kernel
theorem dX7_isWindy_2 : decode cX7_isWindy 2 = .ok (.invokevirtual 37, 3) := by decide +kernel
theorem dX7_isWindy_5 : decode cX7_isWindy 5 = .ok (.iconst 4, 1) := by decide +kernel
theorem dX7_isWindy_6 : decode cX7_isWindy 6 = .ok (.if_icmp .lt 7, 3) := by decide +kernel
theorem dX7_isWindy_9 : decode cX7_isWindy 9 = .ok (.iconst 1, 1) := by decide +kernel
theorem dX7_isWindy_10 : decode cX7_isWindy 10 = .ok (.goto 4, 3) := by decide +kernel
theorem dX7_isWindy_13 : decode cX7_isWindy 13 = .ok (.iconst 0, 1) := by decide +kernel
theorem dX7_isWindy_14 : decode cX7_isWindy 14 = .ok (.ireturn, 1) := by decide +kernel
theorem dX7_inState_0 : decode cX7_inState 0 = .ok (.iconst 0, 1) := by decide +kernel
theorem dX7_inState_1 : decode cX7_inState 1 = .ok (.istore_n 2, 1) := by decide +kernel
theorem dX7_inState_2 : decode cX7_inState 2 = .ok (.iconst 0, 1) := by decide +kernel
theorem dX7_inState_3 : decode cX7_inState 3 = .ok (.istore_n 3, 1) := by decide +kernel
theorem dX7_inState_4 : decode cX7_inState 4 = .ok (.iload_n 3, 1) := by decide +kernel
theorem dX7_inState_5 : decode cX7_inState 5 = .ok (.aload_n 0, 1) := by decide +kernel
theorem dX7_inState_6 : decode cX7_inState 6 = .ok (.getfield 7, 3) := by decide +kernel
theorem dX7_inState_9 : decode cX7_inState 9 = .ok (.iconst 1, 1) := by decide +kernel
theorem dX7_inState_10 : decode cX7_inState 10 = .ok (.iaload, 1) := by decide +kernel
theorem dX7_inState_11 : decode cX7_inState 11 = .ok (.if_icmp .ge 26, 3) := by decide +kernel
theorem dX7_inState_14 : decode cX7_inState 14 = .ok (.iload_n 2, 1) := by decide +kernel
theorem dX7_inState_15 : decode cX7_inState 15 = .ok (.aload_n 0, 1) := by decide +kernel
theorem dX7_inState_16 : decode cX7_inState 16 = .ok (.iload_n 3, 1) := by decide +kernel
theorem dX7_inState_17 : decode cX7_inState 17 = .ok (.iload_n 1, 1) := by decide +kernel
theorem dX7_inState_18 : decode cX7_inState 18 = .ok (.invokevirtual 41, 3) := by decide +kernel
theorem dX7_inState_21 : decode cX7_inState 21 = .ok (.ifCond .eq 7, 3) := by decide +kernel
theorem dX7_inState_24 : decode cX7_inState 24 = .ok (.iconst 1, 1) := by decide +kernel
theorem dX7_inState_25 : decode cX7_inState 25 = .ok (.goto 4, 3) := by decide +kernel
theorem dX7_inState_28 : decode cX7_inState 28 = .ok (.iconst 0, 1) := by decide +kernel
theorem dX7_inState_29 : decode cX7_inState 29 = .ok (.iadd, 1) := by decide +kernel
theorem dX7_inState_30 : decode cX7_inState 30 = .ok (.istore_n 2, 1) := by decide +kernel
theorem dX7_inState_31 : decode cX7_inState 31 = .ok (.iinc 3 1, 3) := by decide +kernel
theorem dX7_inState_34 : decode cX7_inState 34 = .ok (.goto (-30), 3) := by decide +kernel
theorem dX7_inState_37 : decode cX7_inState 37 = .ok (.iload_n 2, 1) := by decide +kernel
theorem dX7_inState_38 : decode cX7_inState 38 = .ok (.ireturn, 1) := by decide +kernel
theorem dX7_personsThere_0 : decode cX7_personsThere 0 = .ok (.iconst 0, 1) := by decide +kernel
theorem dX7_personsThere_1 : decode cX7_personsThere 1 = .ok (.istore_n 1, 1) := by decide +kernel
theorem dX7_personsThere_2 : decode cX7_personsThere 2 = .ok (.iconst 0, 1) := by decide +kernel
theorem dX7_personsThere_3 : decode cX7_personsThere 3 = .ok (.istore_n 2, 1) := by decide +kernel
theorem dX7_personsThere_4 : decode cX7_personsThere 4 = .ok (.iload_n 2, 1) := by decide +kernel
theorem dX7_personsThere_5 : decode cX7_personsThere 5 = .ok (.aload_n 0, 1) := by decide +kernel
theorem dX7_personsThere_6 : decode cX7_personsThere 6 = .ok (.getfield 7, 3) := by decide +kernel
theorem dX7_personsThere_9 : decode cX7_personsThere 9 = .ok (.iconst 1, 1) := by decide +kernel
theorem dX7_personsThere_10 : decode cX7_personsThere 10 = .ok (.iaload, 1) := by decide +kernel
theorem dX7_personsThere_11 : decode cX7_personsThere 11 = .ok (.if_icmp .ge 31, 3) := by decide +kernel
theorem dX7_personsThere_14 : decode cX7_personsThere 14 = .ok (.iload_n 1, 1) := by decide +kernel
theorem dX7_personsThere_15 : decode cX7_personsThere 15 = .ok (.aload_n 0, 1) := by decide +kernel
theorem dX7_personsThere_16 : decode cX7_personsThere 16 = .ok (.iload_n 2, 1) := by decide +kernel
theorem dX7_personsThere_17 : decode cX7_personsThere 17 = .ok (.iconst 1, 1) := by decide +kernel
theorem dX7_personsThere_18 : decode cX7_personsThere 18 = .ok (.invokevirtual 41, 3) := by decide +kernel
theorem dX7_personsThere_21 : decode cX7_personsThere 21 = .ok (.ifCond .eq 12, 3) := by decide +kernel
theorem dX7_personsThere_24 : decode cX7_personsThere 24 = .ok (.aload_n 0, 1) := by decide +kernel
theorem dX7_personsThere_25 : decode cX7_personsThere 25 = .ok (.iload_n 2, 1) := by decide +kernel
theorem dX7_personsThere_26 : decode cX7_personsThere 26 = .ok (.iconst 3, 1) := by decide +kernel
theorem dX7_personsThere_27 : decode cX7_personsThere 27 = .ok (.invokevirtual 29, 3) := by decide +kernel
theorem dX7_personsThere_30 : decode cX7_personsThere 30 = .ok (.goto 4, 3) := by decide +kernel
theorem dX7_personsThere_33 : decode cX7_personsThere 33 = .ok (.iconst 0, 1) := by decide +kernel
theorem dX7_personsThere_34 : decode cX7_personsThere 34 = .ok (.iadd, 1) := by decide +kernel
theorem dX7_personsThere_35 : decode cX7_personsThere 35 = .ok (.istore_n 1, 1) := by decide +kernel
theorem dX7_personsThere_36 : decode cX7_personsThere 36 = .ok (.iinc 2 1, 3) := by decide +kernel
theorem dX7_personsThere_39 : decode cX7_personsThere 39 = .ok (.goto (-35), 3) := by decide +kernel
theorem dX7_personsThere_42 : decode cX7_personsThere 42 = .ok (.iload_n 1, 1) := by decide +kernel
theorem dX7_personsThere_43 : decode cX7_personsThere 43 = .ok (.ireturn, 1) := by decide +kernel
theorem dX7_taken_0 : decode cX7_taken 0 = .ok (.iconst 0, 1) := by decide +kernel
theorem dX7_taken_1 : decode cX7_taken 1 = .ok (.istore_n 2, 1) := by decide +kernel
theorem dX7_taken_2 : decode cX7_taken 2 = .ok (.iconst 0, 1) := by decide +kernel
theorem dX7_taken_3 : decode cX7_taken 3 = .ok (.istore_n 3, 1) := by decide +kernel
theorem dX7_taken_4 : decode cX7_taken 4 = .ok (.iload_n 3, 1) := by decide +kernel
theorem dX7_taken_5 : decode cX7_taken 5 = .ok (.aload_n 0, 1) := by decide +kernel
theorem dX7_taken_6 : decode cX7_taken 6 = .ok (.getfield 7, 3) := by decide +kernel
theorem dX7_taken_9 : decode cX7_taken 9 = .ok (.iconst 1, 1) := by decide +kernel
theorem dX7_taken_10 : decode cX7_taken 10 = .ok (.iaload, 1) := by decide +kernel
theorem dX7_taken_11 : decode cX7_taken 11 = .ok (.if_icmp .ge 64, 3) := by decide +kernel
theorem dX7_taken_14 : decode cX7_taken 14 = .ok (.aload_n 0, 1) := by decide +kernel
theorem dX7_taken_15 : decode cX7_taken 15 = .ok (.iload_n 3, 1) := by decide +kernel
theorem dX7_taken_16 : decode cX7_taken 16 = .ok (.iconst 0, 1) := by decide +kernel
theorem dX7_taken_17 : decode cX7_taken 17 = .ok (.invokevirtual 29, 3) := by decide +kernel
theorem dX7_taken_20 : decode cX7_taken 20 = .ok (.iconst 1, 1) := by decide +kernel
theorem dX7_taken_21 : decode cX7_taken 21 = .ok (.if_icmp .gt 27, 3) := by decide +kernel
theorem dX7_taken_24 : decode cX7_taken 24 = .ok (.iload_n 1, 1) := by decide +kernel
theorem dX7_taken_25 : decode cX7_taken 25 = .ok (.aload_n 0, 1) := by decide +kernel
theorem dX7_taken_26 : decode cX7_taken 26 = .ok (.iload_n 3, 1) := by decide +kernel
theorem dX7_taken_27 : decode cX7_taken 27 = .ok (.iconst 1, 1) := by decide +kernel
theorem dX7_taken_28 : decode cX7_taken 28 = .ok (.invokevirtual 29, 3) := by decide +kernel
theorem dX7_taken_31 : decode cX7_taken 31 = .ok (.aload_n 0, 1) := by decide +kernel
theorem dX7_taken_32 : decode cX7_taken 32 = .ok (.iload_n 3, 1) := by decide +kernel
theorem dX7_taken_33 : decode cX7_taken 33 = .ok (.invokevirtual 45, 3) := by decide +kernel
theorem dX7_taken_36 : decode cX7_taken 36 = .ok (.iconst 1, 1) := by decide +kernel
theorem dX7_taken_37 : decode cX7_taken 37 = .ok (.isub, 1) := by decide +kernel
theorem dX7_taken_38 : decode cX7_taken 38 = .ok (.invokestatic 33, 3) := by decide +kernel
theorem dX7_taken_41 : decode cX7_taken 41 = .ok (.ifCond .eq 7, 3) := by decide +kernel
theorem dX7_taken_44 : decode cX7_taken 44 = .ok (.iconst 1, 1) := by decide +kernel
theorem dX7_taken_45 : decode cX7_taken 45 = .ok (.goto 4, 3) := by decide +kernel
theorem dX7_taken_48 : decode cX7_taken 48 = .ok (.iconst 0, 1) := by decide +kernel
theorem dX7_taken_49 : decode cX7_taken 49 = .ok (.istore 4, 2) := by decide +kernel
theorem dX7_taken_51 : decode cX7_taken 51 = .ok (.iload_n 2, 1) := by decide +kernel
theorem dX7_taken_52 : decode cX7_taken 52 = .ok (.iload 4, 2) := by decide +kernel
theorem dX7_taken_54 : decode cX7_taken 54 = .ok (.ifCond .eq 12, 3) := by decide +kernel
theorem dX7_taken_57 : decode cX7_taken 57 = .ok (.aload_n 0, 1) := by decide +kernel
theorem dX7_taken_58 : decode cX7_taken 58 = .ok (.iload_n 3, 1) := by decide +kernel
theorem dX7_taken_59 : decode cX7_taken 59 = .ok (.iconst 3, 1) := by decide +kernel
theorem dX7_taken_60 : decode cX7_taken 60 = .ok (.invokevirtual 29, 3) := by decide +kernel
theorem dX7_taken_63 : decode cX7_taken 63 = .ok (.goto 4, 3) := by decide +kernel
theorem dX7_taken_66 : decode cX7_taken 66 = .ok (.iconst 0, 1) := by decide +kernel
theorem dX7_taken_67 : decode cX7_taken 67 = .ok (.iadd, 1) := by decide +kernel
theorem dX7_taken_68 : decode cX7_taken 68 = .ok (.istore_n 2, 1) := by decide +kernel
theorem dX7_taken_69 : decode cX7_taken 69 = .ok (.iinc 3 1, 3) := by decide +kernel
theorem dX7_taken_72 : decode cX7_taken 72 = .ok (.goto (-68), 3) := by decide +kernel
theorem dX7_taken_75 : decode cX7_taken 75 = .ok (.iload_n 2, 1) := by decide +kernel
theorem dX7_taken_76 : decode cX7_taken 76 = .ok (.ireturn, 1) := by decide +kernel
theorem dX7_fits_0 : decode cX7_fits 0 = .ok (.iload_n 1, 1) := by decide +kernel
theorem dX7_fits_1 : decode cX7_fits 1 = .ok (.istore 4, 2) := by decide +kernel
theorem dX7_fits_3 : decode cX7_fits 3 = .ok (.iload 4, 2) := by decide +kernel
theorem dX7_fits_5 : decode cX7_fits 5 = .ok (.iload_n 2, 1) := by decide +kernel
theorem dX7_fits_6 : decode cX7_fits 6 = .ok (.if_icmp .ge 29, 3) := by decide +kernel
theorem dX7_fits_9 : decode cX7_fits 9 = .ok (.aload_n 0, 1) := by decide +kernel
theorem dX7_fits_10 : decode cX7_fits 10 = .ok (.iload 4, 2) := by decide +kernel
theorem dX7_fits_12 : decode cX7_fits 12 = .ok (.invokevirtual 48, 3) := by decide +kernel
theorem dX7_fits_15 : decode cX7_fits 15 = .ok (.iload_n 3, 1) := by decide +kernel
theorem dX7_fits_16 : decode cX7_fits 16 = .ok (.iadd, 1) := by decide +kernel
theorem dX7_fits_17 : decode cX7_fits 17 = .ok (.aload_n 0, 1) := by decide +kernel
theorem dX7_fits_18 : decode cX7_fits 18 = .ok (.getfield 7, 3) := by decide +kernel
theorem dX7_fits_21 : decode cX7_fits 21 = .ok (.bipush 17, 2) := by decide +kernel
theorem dX7_fits_23 : decode cX7_fits 23 = .ok (.iaload, 1) := by decide +kernel
theorem dX7_fits_24 : decode cX7_fits 24 = .ok (.if_icmp .le 5, 3) := by decide +kernel
theorem dX7_fits_27 : decode cX7_fits 27 = .ok (.iconst 0, 1) := by decide +kernel
theorem dX7_fits_28 : decode cX7_fits 28 = .ok (.ireturn, 1) := by decide +kernel
theorem dX7_fits_29 : decode cX7_fits 29 = .ok (.iinc 4 1, 3) := by decide +kernel
theorem dX7_fits_32 : decode cX7_fits 32 = .ok (.goto (-29), 3) := by decide +kernel
theorem dX7_fits_35 : decode cX7_fits 35 = .ok (.iconst 1, 1) := by decide +kernel
theorem dX7_fits_36 : decode cX7_fits 36 = .ok (.ireturn, 1) := by decide +kernel
theorem dX7_leave_0 : decode cX7_leave 0 = .ok (.aload_n 0, 1) := by decide +kernel
theorem dX7_leave_1 : decode cX7_leave 1 = .ok (.iload_n 1, 1) := by decide +kernel
theorem dX7_leave_2 : decode cX7_leave 2 = .ok (.invokevirtual 45, 3) := by decide +kernel
theorem dX7_leave_5 : decode cX7_leave 5 = .ok (.aload_n 0, 1) := by decide +kernel
theorem dX7_leave_6 : decode cX7_leave 6 = .ok (.iload_n 1, 1) := by decide +kernel
theorem dX7_leave_7 : decode cX7_leave 7 = .ok (.bipush 6, 2) := by decide +kernel
theorem dX7_leave_9 : decode cX7_leave 9 = .ok (.invokevirtual 29, 3) := by decide +kernel
theorem dX7_leave_12 : decode cX7_leave 12 = .ok (.isub, 1) := by decide +kernel
theorem dX7_leave_13 : decode cX7_leave 13 = .ok (.istore_n 2, 1) := by decide +kernel
theorem dX7_leave_14 : decode cX7_leave 14 = .ok (.aload_n 0, 1) := by decide +kernel
theorem dX7_leave_15 : decode cX7_leave 15 = .ok (.getfield 7, 3) := by decide +kernel
theorem dX7_leave_18 : decode cX7_leave 18 = .ok (.bipush 14, 2) := by decide +kernel
theorem dX7_leave_20 : decode cX7_leave 20 = .ok (.dup2, 1) := by decide +kernel
theorem dX7_leave_21 : decode cX7_leave 21 = .ok (.iaload, 1) := by decide +kernel
theorem dX7_leave_22 : decode cX7_leave 22 = .ok (.aload_n 0, 1) := by decide +kernel
theorem dX7_leave_23 : decode cX7_leave 23 = .ok (.getfield 7, 3) := by decide +kernel
theorem dX7_leave_26 : decode cX7_leave 26 = .ok (.bipush 19, 2) := by decide +kernel
theorem dX7_leave_28 : decode cX7_leave 28 = .ok (.iaload, 1) := by decide +kernel
theorem dX7_leave_29 : decode cX7_leave 29 = .ok (.aload_n 0, 1) := by decide +kernel
theorem dX7_leave_30 : decode cX7_leave 30 = .ok (.iload_n 1, 1) := by decide +kernel
theorem dX7_leave_31 : decode cX7_leave 31 = .ok (.iconst 3, 1) := by decide +kernel
theorem dX7_leave_32 : decode cX7_leave 32 = .ok (.invokevirtual 29, 3) := by decide +kernel
theorem dX7_leave_35 : decode cX7_leave 35 = .ok (.imul, 1) := by decide +kernel
theorem dX7_leave_36 : decode cX7_leave 36 = .ok (.iload_n 2, 1) := by decide +kernel
theorem dX7_leave_37 : decode cX7_leave 37 = .ok (.imul, 1) := by decide +kernel
theorem dX7_leave_38 : decode cX7_leave 38 = .ok (.aload_n 0, 1) := by decide +kernel
theorem dX7_leave_39 : decode cX7_leave 39 = .ok (.iload_n 1, 1) := by decide +kernel
theorem dX7_leave_40 : decode cX7_leave 40 = .ok (.iconst 5, 1) := by decide +kernel
theorem dX7_leave_41 : decode cX7_leave 41 = .ok (.invokevirtual 29, 3) := by decide +kernel
theorem dX7_leave_44 : decode cX7_leave 44 = .ok (.isub, 1) := by decide +kernel
theorem dX7_leave_45 : decode cX7_leave 45 = .ok (.iadd, 1) := by decide +kernel
theorem dX7_leave_46 : decode cX7_leave 46 = .ok (.iastore, 1) := by decide +kernel
theorem dX7_leave_47 : decode cX7_leave 47 = .ok (.aload_n 0, 1) := by decide +kernel
theorem dX7_leave_48 : decode cX7_leave 48 = .ok (.iload_n 1, 1) := by decide +kernel
theorem dX7_leave_49 : decode cX7_leave 49 = .ok (.iconst 0, 1) := by decide +kernel
theorem dX7_leave_50 : decode cX7_leave 50 = .ok (.iconst 2, 1) := by decide +kernel
theorem dX7_leave_51 : decode cX7_leave 51 = .ok (.invokevirtual 51, 3) := by decide +kernel
theorem dX7_leave_54 : decode cX7_leave 54 = .ok (.return_, 1) := by decide +kernel
theorem dX7_turnAway_0 : decode cX7_turnAway 0 = .ok (.aload_n 0, 1) := by decide +kernel
theorem dX7_turnAway_1 : decode cX7_turnAway 1 = .ok (.iload_n 1, 1) := by decide +kernel
theorem dX7_turnAway_2 : decode cX7_turnAway 2 = .ok (.iconst 0, 1) := by decide +kernel
theorem dX7_turnAway_3 : decode cX7_turnAway 3 = .ok (.iconst 4, 1) := by decide +kernel
theorem dX7_turnAway_4 : decode cX7_turnAway 4 = .ok (.invokevirtual 51, 3) := by decide +kernel
theorem dX7_turnAway_7 : decode cX7_turnAway 7 = .ok (.aload_n 0, 1) := by decide +kernel
theorem dX7_turnAway_8 : decode cX7_turnAway 8 = .ok (.getfield 7, 3) := by decide +kernel
theorem dX7_turnAway_11 : decode cX7_turnAway 11 = .ok (.bipush 14, 2) := by decide +kernel
theorem dX7_turnAway_13 : decode cX7_turnAway 13 = .ok (.dup2, 1) := by decide +kernel
theorem dX7_turnAway_14 : decode cX7_turnAway 14 = .ok (.iaload, 1) := by decide +kernel
theorem dX7_turnAway_15 : decode cX7_turnAway 15 = .ok (.aload_n 0, 1) := by decide +kernel
theorem dX7_turnAway_16 : decode cX7_turnAway 16 = .ok (.iload_n 1, 1) := by decide +kernel
theorem dX7_turnAway_17 : decode cX7_turnAway 17 = .ok (.iconst 5, 1) := by decide +kernel
theorem dX7_turnAway_18 : decode cX7_turnAway 18 = .ok (.invokevirtual 29, 3) := by decide +kernel
theorem dX7_turnAway_21 : decode cX7_turnAway 21 = .ok (.isub, 1) := by decide +kernel
theorem dX7_turnAway_22 : decode cX7_turnAway 22 = .ok (.iastore, 1) := by decide +kernel
theorem dX7_turnAway_23 : decode cX7_turnAway 23 = .ok (.aload_n 0, 1) := by decide +kernel
theorem dX7_turnAway_24 : decode cX7_turnAway 24 = .ok (.getfield 7, 3) := by decide +kernel
theorem dX7_turnAway_27 : decode cX7_turnAway 27 = .ok (.bipush 13, 2) := by decide +kernel
theorem dX7_turnAway_29 : decode cX7_turnAway 29 = .ok (.dup2, 1) := by decide +kernel
theorem dX7_turnAway_30 : decode cX7_turnAway 30 = .ok (.iaload, 1) := by decide +kernel
theorem dX7_turnAway_31 : decode cX7_turnAway 31 = .ok (.aload_n 0, 1) := by decide +kernel
theorem dX7_turnAway_32 : decode cX7_turnAway 32 = .ok (.iload_n 1, 1) := by decide +kernel
theorem dX7_turnAway_33 : decode cX7_turnAway 33 = .ok (.iconst 3, 1) := by decide +kernel
theorem dX7_turnAway_34 : decode cX7_turnAway 34 = .ok (.invokevirtual 29, 3) := by decide +kernel
theorem dX7_turnAway_37 : decode cX7_turnAway 37 = .ok (.iadd, 1) := by decide +kernel
theorem dX7_turnAway_38 : decode cX7_turnAway 38 = .ok (.iastore, 1) := by decide +kernel
theorem dX7_turnAway_39 : decode cX7_turnAway 39 = .ok (.return_, 1) := by decide +kernel
theorem dX7_come_0 : decode cX7_come 0 = .ok (.aload_n 0, 1) := by decide +kernel
theorem dX7_come_1 : decode cX7_come 1 = .ok (.invokevirtual 55, 3) := by decide +kernel
theorem dX7_come_4 : decode cX7_come 4 = .ok (.aload_n 0, 1) := by decide +kernel
theorem dX7_come_5 : decode cX7_come 5 = .ok (.iload_n 1, 1) := by decide +kernel
theorem dX7_come_6 : decode cX7_come 6 = .ok (.iconst 3, 1) := by decide +kernel
theorem dX7_come_7 : decode cX7_come 7 = .ok (.invokevirtual 29, 3) := by decide +kernel
theorem dX7_come_10 : decode cX7_come 10 = .ok (.iadd, 1) := by decide +kernel
theorem dX7_come_11 : decode cX7_come 11 = .ok (.aload_n 0, 1) := by decide +kernel
theorem dX7_come_12 : decode cX7_come 12 = .ok (.getfield 7, 3) := by decide +kernel
theorem dX7_come_15 : decode cX7_come 15 = .ok (.bipush 17, 2) := by decide +kernel
theorem dX7_come_17 : decode cX7_come 17 = .ok (.iaload, 1) := by decide +kernel
theorem dX7_come_18 : decode cX7_come 18 = .ok (.aload_n 0, 1) := by decide +kernel
theorem dX7_come_19 : decode cX7_come 19 = .ok (.getfield 7, 3) := by decide +kernel
theorem dX7_come_22 : decode cX7_come 22 = .ok (.bipush 18, 2) := by decide +kernel
theorem dX7_come_24 : decode cX7_come 24 = .ok (.iaload, 1) := by decide +kernel
theorem dX7_come_25 : decode cX7_come 25 = .ok (.iadd, 1) := by decide +kernel
theorem dX7_come_26 : decode cX7_come 26 = .ok (.if_icmp .le 9, 3) := by decide +kernel
theorem dX7_come_29 : decode cX7_come 29 = .ok (.aload_n 0, 1) := by decide +kernel
theorem dX7_come_30 : decode cX7_come 30 = .ok (.iload_n 1, 1) := by decide +kernel
theorem dX7_come_31 : decode cX7_come 31 = .ok (.invokevirtual 59, 3) := by decide +kernel
theorem dX7_come_34 : decode cX7_come 34 = .ok (.return_, 1) := by decide +kernel
theorem dX7_come_35 : decode cX7_come 35 = .ok (.aload_n 0, 1) := by decide +kernel
theorem dX7_come_36 : decode cX7_come 36 = .ok (.iload_n 1, 1) := by decide +kernel
theorem dX7_come_37 : decode cX7_come 37 = .ok (.iconst 0, 1) := by decide +kernel
theorem dX7_come_38 : decode cX7_come 38 = .ok (.iconst 1, 1) := by decide +kernel
theorem dX7_come_39 : decode cX7_come 39 = .ok (.invokevirtual 51, 3) := by decide +kernel
theorem dX7_come_42 : decode cX7_come 42 = .ok (.aload_n 0, 1) := by decide +kernel
theorem dX7_come_43 : decode cX7_come 43 = .ok (.iload_n 1, 1) := by decide +kernel
theorem dX7_come_44 : decode cX7_come 44 = .ok (.bipush 6, 2) := by decide +kernel
theorem dX7_come_46 : decode cX7_come 46 = .ok (.iload_n 2, 1) := by decide +kernel
theorem dX7_come_47 : decode cX7_come 47 = .ok (.invokevirtual 51, 3) := by decide +kernel
theorem dX7_come_50 : decode cX7_come 50 = .ok (.return_, 1) := by decide +kernel
theorem dX7_dropOrder_0 : decode cX7_dropOrder 0 = .ok (.aload_n 0, 1) := by decide +kernel
theorem dX7_dropOrder_1 : decode cX7_dropOrder 1 = .ok (.getfield 7, 3) := by decide +kernel
theorem dX7_dropOrder_4 : decode cX7_dropOrder 4 = .ok (.iconst 3, 1) := by decide +kernel
theorem dX7_dropOrder_5 : decode cX7_dropOrder 5 = .ok (.dup2, 1) := by decide +kernel
theorem dX7_dropOrder_6 : decode cX7_dropOrder 6 = .ok (.iaload, 1) := by decide +kernel
theorem dX7_dropOrder_7 : decode cX7_dropOrder 7 = .ok (.iconst 1, 1) := by decide +kernel
theorem dX7_dropOrder_8 : decode cX7_dropOrder 8 = .ok (.isub, 1) := by decide +kernel
theorem dX7_dropOrder_9 : decode cX7_dropOrder 9 = .ok (.iastore, 1) := by decide +kernel
theorem dX7_dropOrder_10 : decode cX7_dropOrder 10 = .ok (.iload_n 1, 1) := by decide +kernel
theorem dX7_dropOrder_11 : decode cX7_dropOrder 11 = .ok (.istore_n 2, 1) := by decide +kernel
theorem dX7_dropOrder_12 : decode cX7_dropOrder 12 = .ok (.iload_n 2, 1) := by decide +kernel
theorem dX7_dropOrder_13 : decode cX7_dropOrder 13 = .ok (.aload_n 0, 1) := by decide +kernel
theorem dX7_dropOrder_14 : decode cX7_dropOrder 14 = .ok (.getfield 7, 3) := by decide +kernel
theorem dX7_dropOrder_17 : decode cX7_dropOrder 17 = .ok (.iconst 3, 1) := by decide +kernel
theorem dX7_dropOrder_18 : decode cX7_dropOrder 18 = .ok (.iaload, 1) := by decide +kernel
theorem dX7_dropOrder_19 : decode cX7_dropOrder 19 = .ok (.if_icmp .ge 49, 3) := by decide +kernel
theorem dX7_dropOrder_22 : decode cX7_dropOrder 22 = .ok (.aload_n 0, 1) := by decide +kernel
theorem dX7_dropOrder_23 : decode cX7_dropOrder 23 = .ok (.getfield 7, 3) := by decide +kernel
theorem dX7_dropOrder_26 : decode cX7_dropOrder 26 = .ok (.bipush 27, 2) := by decide +kernel
theorem dX7_dropOrder_28 : decode cX7_dropOrder 28 = .ok (.iload_n 2, 1) := by decide +kernel
theorem dX7_dropOrder_29 : decode cX7_dropOrder 29 = .ok (.iadd, 1) := by decide +kernel
theorem dX7_dropOrder_30 : decode cX7_dropOrder 30 = .ok (.aload_n 0, 1) := by decide +kernel
theorem dX7_dropOrder_31 : decode cX7_dropOrder 31 = .ok (.getfield 7, 3) := by decide +kernel
theorem dX7_dropOrder_34 : decode cX7_dropOrder 34 = .ok (.bipush 27, 2) := by decide +kernel
theorem dX7_dropOrder_36 : decode cX7_dropOrder 36 = .ok (.iload_n 2, 1) := by decide +kernel
theorem dX7_dropOrder_37 : decode cX7_dropOrder 37 = .ok (.iadd, 1) := by decide +kernel
theorem dX7_dropOrder_38 : decode cX7_dropOrder 38 = .ok (.iconst 1, 1) := by decide +kernel
theorem dX7_dropOrder_39 : decode cX7_dropOrder 39 = .ok (.iadd, 1) := by decide +kernel
theorem dX7_dropOrder_40 : decode cX7_dropOrder 40 = .ok (.iaload, 1) := by decide +kernel
theorem dX7_dropOrder_41 : decode cX7_dropOrder 41 = .ok (.iastore, 1) := by decide +kernel
theorem dX7_dropOrder_42 : decode cX7_dropOrder 42 = .ok (.aload_n 0, 1) := by decide +kernel
theorem dX7_dropOrder_43 : decode cX7_dropOrder 43 = .ok (.getfield 7, 3) := by decide +kernel
theorem dX7_dropOrder_46 : decode cX7_dropOrder 46 = .ok (.bipush 39, 2) := by decide +kernel
theorem dX7_dropOrder_48 : decode cX7_dropOrder 48 = .ok (.iload_n 2, 1) := by decide +kernel
theorem dX7_dropOrder_49 : decode cX7_dropOrder 49 = .ok (.iadd, 1) := by decide +kernel
theorem dX7_dropOrder_50 : decode cX7_dropOrder 50 = .ok (.aload_n 0, 1) := by decide +kernel
theorem dX7_dropOrder_51 : decode cX7_dropOrder 51 = .ok (.getfield 7, 3) := by decide +kernel
theorem dX7_dropOrder_54 : decode cX7_dropOrder 54 = .ok (.bipush 39, 2) := by decide +kernel
theorem dX7_dropOrder_56 : decode cX7_dropOrder 56 = .ok (.iload_n 2, 1) := by decide +kernel
theorem dX7_dropOrder_57 : decode cX7_dropOrder 57 = .ok (.iadd, 1) := by decide +kernel
theorem dX7_dropOrder_58 : decode cX7_dropOrder 58 = .ok (.iconst 1, 1) := by decide +kernel
theorem dX7_dropOrder_59 : decode cX7_dropOrder 59 = .ok (.iadd, 1) := by decide +kernel
theorem dX7_dropOrder_60 : decode cX7_dropOrder 60 = .ok (.iaload, 1) := by decide +kernel
theorem dX7_dropOrder_61 : decode cX7_dropOrder 61 = .ok (.iastore, 1) := by decide +kernel
theorem dX7_dropOrder_62 : decode cX7_dropOrder 62 = .ok (.iinc 2 1, 3) := by decide +kernel
theorem dX7_dropOrder_65 : decode cX7_dropOrder 65 = .ok (.goto (-53), 3) := by decide +kernel
theorem dX7_dropOrder_68 : decode cX7_dropOrder 68 = .ok (.aload_n 0, 1) := by decide +kernel
theorem dX7_dropOrder_69 : decode cX7_dropOrder 69 = .ok (.getfield 7, 3) := by decide +kernel
theorem dX7_dropOrder_72 : decode cX7_dropOrder 72 = .ok (.bipush 27, 2) := by decide +kernel
theorem dX7_dropOrder_74 : decode cX7_dropOrder 74 = .ok (.aload_n 0, 1) := by decide +kernel
theorem dX7_dropOrder_75 : decode cX7_dropOrder 75 = .ok (.getfield 7, 3) := by decide +kernel
theorem dX7_dropOrder_78 : decode cX7_dropOrder 78 = .ok (.iconst 3, 1) := by decide +kernel
theorem dX7_dropOrder_79 : decode cX7_dropOrder 79 = .ok (.iaload, 1) := by decide +kernel
theorem dX7_dropOrder_80 : decode cX7_dropOrder 80 = .ok (.iadd, 1) := by decide +kernel
theorem dX7_dropOrder_81 : decode cX7_dropOrder 81 = .ok (.iconst 0, 1) := by decide +kernel
theorem dX7_dropOrder_82 : decode cX7_dropOrder 82 = .ok (.iastore, 1) := by decide +kernel
theorem dX7_dropOrder_83 : decode cX7_dropOrder 83 = .ok (.aload_n 0, 1) := by decide +kernel
theorem dX7_dropOrder_84 : decode cX7_dropOrder 84 = .ok (.getfield 7, 3) := by decide +kernel
theorem dX7_dropOrder_87 : decode cX7_dropOrder 87 = .ok (.bipush 39, 2) := by decide +kernel
theorem dX7_dropOrder_89 : decode cX7_dropOrder 89 = .ok (.aload_n 0, 1) := by decide +kernel
theorem dX7_dropOrder_90 : decode cX7_dropOrder 90 = .ok (.getfield 7, 3) := by decide +kernel
theorem dX7_dropOrder_93 : decode cX7_dropOrder 93 = .ok (.iconst 3, 1) := by decide +kernel
theorem dX7_dropOrder_94 : decode cX7_dropOrder 94 = .ok (.iaload, 1) := by decide +kernel
theorem dX7_dropOrder_95 : decode cX7_dropOrder 95 = .ok (.iadd, 1) := by decide +kernel
theorem dX7_dropOrder_96 : decode cX7_dropOrder 96 = .ok (.iconst 0, 1) := by decide +kernel
theorem dX7_dropOrder_97 : decode cX7_dropOrder 97 = .ok (.iastore, 1) := by decide +kernel
theorem dX7_dropOrder_98 : decode cX7_dropOrder 98 = .ok (.return_, 1) := by decide +kernel
theorem dX7_bring_0 : decode cX7_bring 0 = .ok (.iload_n 1, 1) := by decide +kernel
theorem dX7_bring_1 : decode cX7_bring 1 = .ok (.istore_n 3, 1) := by decide +kernel
theorem dX7_bring_2 : decode cX7_bring 2 = .ok (.iload_n 3, 1) := by decide +kernel
theorem dX7_bring_3 : decode cX7_bring 3 = .ok (.ifCond .le 122, 3) := by decide +kernel
theorem dX7_bring_6 : decode cX7_bring 6 = .ok (.aload_n 0, 1) := by decide +kernel
theorem dX7_bring_7 : decode cX7_bring 7 = .ok (.getfield 7, 3) := by decide +kernel
theorem dX7_bring_10 : decode cX7_bring 10 = .ok (.iconst 3, 1) := by decide +kernel
theorem dX7_bring_11 : decode cX7_bring 11 = .ok (.iaload, 1) := by decide +kernel
theorem dX7_bring_12 : decode cX7_bring 12 = .ok (.ifCond .le 113, 3) := by decide +kernel
theorem dX7_bring_15 : decode cX7_bring 15 = .ok (.aload_n 0, 1) := by decide +kernel
theorem dX7_bring_16 : decode cX7_bring 16 = .ok (.getfield 7, 3) := by decide +kernel
theorem dX7_bring_19 : decode cX7_bring 19 = .ok (.bipush 39, 2) := by decide +kernel
theorem dX7_bring_21 : decode cX7_bring 21 = .ok (.iaload, 1) := by decide +kernel
theorem dX7_bring_22 : decode cX7_bring 22 = .ok (.iload_n 3, 1) := by decide +kernel
theorem dX7_bring_23 : decode cX7_bring 23 = .ok (.if_icmp .ge 13, 3) := by decide +kernel
theorem dX7_bring_26 : decode cX7_bring 26 = .ok (.aload_n 0, 1) := by decide +kernel
theorem dX7_bring_27 : decode cX7_bring 27 = .ok (.getfield 7, 3) := by decide +kernel
theorem dX7_bring_30 : decode cX7_bring 30 = .ok (.bipush 39, 2) := by decide +kernel
theorem dX7_bring_32 : decode cX7_bring 32 = .ok (.iaload, 1) := by decide +kernel
theorem dX7_bring_33 : decode cX7_bring 33 = .ok (.goto 4, 3) := by decide +kernel
theorem dX7_bring_36 : decode cX7_bring 36 = .ok (.iload_n 3, 1) := by decide +kernel
theorem dX7_bring_37 : decode cX7_bring 37 = .ok (.istore 4, 2) := by decide +kernel
theorem dX7_bring_39 : decode cX7_bring 39 = .ok (.aload_n 0, 1) := by decide +kernel
theorem dX7_bring_40 : decode cX7_bring 40 = .ok (.getfield 7, 3) := by decide +kernel
theorem dX7_bring_43 : decode cX7_bring 43 = .ok (.bipush 27, 2) := by decide +kernel
theorem dX7_bring_45 : decode cX7_bring 45 = .ok (.iaload, 1) := by decide +kernel
theorem dX7_bring_46 : decode cX7_bring 46 = .ok (.ifCond .ne 21, 3) := by decide +kernel
theorem dX7_bring_49 : decode cX7_bring 49 = .ok (.aload_n 0, 1) := by decide +kernel
theorem dX7_bring_50 : decode cX7_bring 50 = .ok (.getfield 7, 3) := by decide +kernel
theorem dX7_bring_53 : decode cX7_bring 53 = .ok (.sipush 1675, 3) := by decide +kernel
theorem dX7_bring_56 : decode cX7_bring 56 = .ok (.iload_n 2, 1) := by decide +kernel
theorem dX7_bring_57 : decode cX7_bring 57 = .ok (.iadd, 1) := by decide +kernel
theorem dX7_bring_58 : decode cX7_bring 58 = .ok (.dup2, 1) := by decide +kernel
theorem dX7_bring_59 : decode cX7_bring 59 = .ok (.iaload, 1) := by decide +kernel
theorem dX7_bring_60 : decode cX7_bring 60 = .ok (.iload 4, 2) := by decide +kernel
theorem dX7_bring_62 : decode cX7_bring 62 = .ok (.iadd, 1) := by decide +kernel
theorem dX7_bring_63 : decode cX7_bring 63 = .ok (.iastore, 1) := by decide +kernel
theorem dX7_bring_64 : decode cX7_bring 64 = .ok (.goto 14, 3) := by decide +kernel
theorem dX7_bring_67 : decode cX7_bring 67 = .ok (.aload_n 0, 1) := by decide +kernel
theorem dX7_bring_68 : decode cX7_bring 68 = .ok (.getfield 7, 3) := by decide +kernel
theorem dX7_bring_71 : decode cX7_bring 71 = .ok (.iconst 2, 1) := by decide +kernel
theorem dX7_bring_72 : decode cX7_bring 72 = .ok (.dup2, 1) := by decide +kernel
theorem dX7_bring_73 : decode cX7_bring 73 = .ok (.iaload, 1) := by decide +kernel
theorem dX7_bring_74 : decode cX7_bring 74 = .ok (.iload 4, 2) := by decide +kernel
theorem dX7_bring_76 : decode cX7_bring 76 = .ok (.iadd, 1) := by decide +kernel
theorem dX7_bring_77 : decode cX7_bring 77 = .ok (.iastore, 1) := by decide +kernel
theorem dX7_bring_78 : decode cX7_bring 78 = .ok (.aload_n 0, 1) := by decide +kernel
theorem dX7_bring_79 : decode cX7_bring 79 = .ok (.getfield 7, 3) := by decide +kernel
theorem dX7_bring_82 : decode cX7_bring 82 = .ok (.bipush 39, 2) := by decide +kernel
theorem dX7_bring_84 : decode cX7_bring 84 = .ok (.dup2, 1) := by decide +kernel
theorem dX7_bring_85 : decode cX7_bring 85 = .ok (.iaload, 1) := by decide +kernel
theorem dX7_bring_86 : decode cX7_bring 86 = .ok (.iload 4, 2) := by decide +kernel
theorem dX7_bring_88 : decode cX7_bring 88 = .ok (.isub, 1) := by decide +kernel
theorem dX7_bring_89 : decode cX7_bring 89 = .ok (.iastore, 1) := by decide +kernel
theorem dX7_bring_90 : decode cX7_bring 90 = .ok (.aload_n 0, 1) := by decide +kernel
theorem dX7_bring_91 : decode cX7_bring 91 = .ok (.getfield 7, 3) := by decide +kernel
theorem dX7_bring_94 : decode cX7_bring 94 = .ok (.bipush 7, 2) := by decide +kernel
theorem dX7_bring_96 : decode cX7_bring 96 = .ok (.dup2, 1) := by decide +kernel
theorem dX7_bring_97 : decode cX7_bring 97 = .ok (.iaload, 1) := by decide +kernel
theorem dX7_bring_98 : decode cX7_bring 98 = .ok (.iload 4, 2) := by decide +kernel
theorem dX7_bring_100 : decode cX7_bring 100 = .ok (.iadd, 1) := by decide +kernel
theorem dX7_bring_101 : decode cX7_bring 101 = .ok (.iastore, 1) := by decide +kernel
theorem dX7_bring_102 : decode cX7_bring 102 = .ok (.iload_n 3, 1) := by decide +kernel
theorem dX7_bring_103 : decode cX7_bring 103 = .ok (.iload 4, 2) := by decide +kernel
theorem dX7_bring_105 : decode cX7_bring 105 = .ok (.isub, 1) := by decide +kernel
theorem dX7_bring_106 : decode cX7_bring 106 = .ok (.istore_n 3, 1) := by decide +kernel
theorem dX7_bring_107 : decode cX7_bring 107 = .ok (.aload_n 0, 1) := by decide +kernel
theorem dX7_bring_108 : decode cX7_bring 108 = .ok (.getfield 7, 3) := by decide +kernel
theorem dX7_bring_111 : decode cX7_bring 111 = .ok (.bipush 39, 2) := by decide +kernel
theorem dX7_bring_113 : decode cX7_bring 113 = .ok (.iaload, 1) := by decide +kernel
theorem dX7_bring_114 : decode cX7_bring 114 = .ok (.ifCond .ne 8, 3) := by decide +kernel
theorem dX7_bring_117 : decode cX7_bring 117 = .ok (.aload_n 0, 1) := by decide +kernel
theorem dX7_bring_118 : decode cX7_bring 118 = .ok (.iconst 0, 1) := by decide +kernel
theorem dX7_bring_119 : decode cX7_bring 119 = .ok (.invokevirtual 63, 3) := by decide +kernel
theorem dX7_bring_122 : decode cX7_bring 122 = .ok (.goto (-120), 3) := by decide +kernel
theorem dX7_bring_125 : decode cX7_bring 125 = .ok (.return_, 1) := by decide +kernel
theorem dX7_fly_0 : decode cX7_fly 0 = .ok (.aload_n 0, 1) := by decide +kernel
theorem dX7_fly_1 : decode cX7_fly 1 = .ok (.aload_n 0, 1) := by decide +kernel
theorem dX7_fly_2 : decode cX7_fly 2 = .ok (.getfield 7, 3) := by decide +kernel
theorem dX7_fly_5 : decode cX7_fly 5 = .ok (.bipush 24, 2) := by decide +kernel
theorem dX7_fly_7 : decode cX7_fly 7 = .ok (.iaload, 1) := by decide +kernel
theorem dX7_fly_8 : decode cX7_fly 8 = .ok (.iload_n 1, 1) := by decide +kernel
theorem dX7_fly_9 : decode cX7_fly 9 = .ok (.invokevirtual 66, 3) := by decide +kernel
theorem dX7_fly_12 : decode cX7_fly 12 = .ok (.aload_n 0, 1) := by decide +kernel
theorem dX7_fly_13 : decode cX7_fly 13 = .ok (.getfield 7, 3) := by decide +kernel
theorem dX7_fly_16 : decode cX7_fly 16 = .ok (.bipush 25, 2) := by decide +kernel
theorem dX7_fly_18 : decode cX7_fly 18 = .ok (.iaload, 1) := by decide +kernel
theorem dX7_fly_19 : decode cX7_fly 19 = .ok (.istore_n 2, 1) := by decide +kernel
theorem dX7_fly_20 : decode cX7_fly 20 = .ok (.iconst 0, 1) := by decide +kernel
theorem dX7_fly_21 : decode cX7_fly 21 = .ok (.istore_n 3, 1) := by decide +kernel
theorem dX7_fly_22 : decode cX7_fly 22 = .ok (.iload_n 3, 1) := by decide +kernel
theorem dX7_fly_23 : decode cX7_fly 23 = .ok (.aload_n 0, 1) := by decide +kernel
theorem dX7_fly_24 : decode cX7_fly 24 = .ok (.getfield 7, 3) := by decide +kernel
theorem dX7_fly_27 : decode cX7_fly 27 = .ok (.iconst 1, 1) := by decide +kernel
theorem dX7_fly_28 : decode cX7_fly 28 = .ok (.iaload, 1) := by decide +kernel
theorem dX7_fly_29 : decode cX7_fly 29 = .ok (.if_icmp .ge 67, 3) := by decide +kernel
theorem dX7_fly_32 : decode cX7_fly 32 = .ok (.aload_n 0, 1) := by decide +kernel
theorem dX7_fly_33 : decode cX7_fly 33 = .ok (.iload_n 3, 1) := by decide +kernel
theorem dX7_fly_34 : decode cX7_fly 34 = .ok (.iconst 1, 1) := by decide +kernel
theorem dX7_fly_35 : decode cX7_fly 35 = .ok (.invokevirtual 41, 3) := by decide +kernel
theorem dX7_fly_38 : decode cX7_fly 38 = .ok (.ifCond .eq 52, 3) := by decide +kernel
theorem dX7_fly_41 : decode cX7_fly 41 = .ok (.aload_n 0, 1) := by decide +kernel
theorem dX7_fly_42 : decode cX7_fly 42 = .ok (.iload_n 3, 1) := by decide +kernel
theorem dX7_fly_43 : decode cX7_fly 43 = .ok (.invokevirtual 45, 3) := by decide +kernel
theorem dX7_fly_46 : decode cX7_fly 46 = .ok (.iload_n 1, 1) := by decide +kernel
theorem dX7_fly_47 : decode cX7_fly 47 = .ok (.if_icmp .gt 43, 3) := by decide +kernel
theorem dX7_fly_50 : decode cX7_fly 50 = .ok (.aload_n 0, 1) := by decide +kernel
theorem dX7_fly_51 : decode cX7_fly 51 = .ok (.iload_n 3, 1) := by decide +kernel
theorem dX7_fly_52 : decode cX7_fly 52 = .ok (.iconst 3, 1) := by decide +kernel
theorem dX7_fly_53 : decode cX7_fly 53 = .ok (.invokevirtual 29, 3) := by decide +kernel
theorem dX7_fly_56 : decode cX7_fly 56 = .ok (.iload_n 2, 1) := by decide +kernel
theorem dX7_fly_57 : decode cX7_fly 57 = .ok (.if_icmp .gt 33, 3) := by decide +kernel
theorem dX7_fly_60 : decode cX7_fly 60 = .ok (.iload_n 2, 1) := by decide +kernel
theorem dX7_fly_61 : decode cX7_fly 61 = .ok (.aload_n 0, 1) := by decide +kernel
theorem dX7_fly_62 : decode cX7_fly 62 = .ok (.iload_n 3, 1) := by decide +kernel
theorem dX7_fly_63 : decode cX7_fly 63 = .ok (.iconst 3, 1) := by decide +kernel
theorem dX7_fly_64 : decode cX7_fly 64 = .ok (.invokevirtual 29, 3) := by decide +kernel
theorem dX7_fly_67 : decode cX7_fly 67 = .ok (.isub, 1) := by decide +kernel
theorem dX7_fly_68 : decode cX7_fly 68 = .ok (.istore_n 2, 1) := by decide +kernel
theorem dX7_fly_69 : decode cX7_fly 69 = .ok (.aload_n 0, 1) := by decide +kernel
theorem dX7_fly_70 : decode cX7_fly 70 = .ok (.getfield 7, 3) := by decide +kernel
theorem dX7_fly_73 : decode cX7_fly 73 = .ok (.bipush 6, 2) := by decide +kernel
theorem dX7_fly_75 : decode cX7_fly 75 = .ok (.dup2, 1) := by decide +kernel
theorem dX7_fly_76 : decode cX7_fly 76 = .ok (.iaload, 1) := by decide +kernel
theorem dX7_fly_77 : decode cX7_fly 77 = .ok (.aload_n 0, 1) := by decide +kernel
theorem dX7_fly_78 : decode cX7_fly 78 = .ok (.iload_n 3, 1) := by decide +kernel
theorem dX7_fly_79 : decode cX7_fly 79 = .ok (.iconst 3, 1) := by decide +kernel
theorem dX7_fly_80 : decode cX7_fly 80 = .ok (.invokevirtual 29, 3) := by decide +kernel
theorem dX7_fly_83 : decode cX7_fly 83 = .ok (.iadd, 1) := by decide +kernel
theorem dX7_fly_84 : decode cX7_fly 84 = .ok (.iastore, 1) := by decide +kernel
theorem dX7_fly_85 : decode cX7_fly 85 = .ok (.aload_n 0, 1) := by decide +kernel
theorem dX7_fly_86 : decode cX7_fly 86 = .ok (.iload_n 3, 1) := by decide +kernel
theorem dX7_fly_87 : decode cX7_fly 87 = .ok (.invokevirtual 70, 3) := by decide +kernel
theorem dX7_fly_90 : decode cX7_fly 90 = .ok (.iinc 3 1, 3) := by decide +kernel
theorem dX7_fly_93 : decode cX7_fly 93 = .ok (.goto (-71), 3) := by decide +kernel
theorem dX7_fly_96 : decode cX7_fly 96 = .ok (.aload_n 0, 1) := by decide +kernel
theorem dX7_fly_97 : decode cX7_fly 97 = .ok (.getfield 7, 3) := by decide +kernel
theorem dX7_fly_100 : decode cX7_fly 100 = .ok (.bipush 14, 2) := by decide +kernel
theorem dX7_fly_102 : decode cX7_fly 102 = .ok (.dup2, 1) := by decide +kernel
theorem dX7_fly_103 : decode cX7_fly 103 = .ok (.iaload, 1) := by decide +kernel
theorem dX7_fly_104 : decode cX7_fly 104 = .ok (.aload_n 0, 1) := by decide +kernel
theorem dX7_fly_105 : decode cX7_fly 105 = .ok (.getfield 7, 3) := by decide +kernel
theorem dX7_fly_108 : decode cX7_fly 108 = .ok (.bipush 26, 2) := by decide +kernel
theorem dX7_fly_110 : decode cX7_fly 110 = .ok (.iaload, 1) := by decide +kernel
theorem dX7_fly_111 : decode cX7_fly 111 = .ok (.isub, 1) := by decide +kernel
theorem dX7_fly_112 : decode cX7_fly 112 = .ok (.iastore, 1) := by decide +kernel
theorem dX7_fly_113 : decode cX7_fly 113 = .ok (.aload_n 0, 1) := by decide +kernel
theorem dX7_fly_114 : decode cX7_fly 114 = .ok (.getfield 7, 3) := by decide +kernel
theorem dX7_fly_117 : decode cX7_fly 117 = .ok (.bipush 16, 2) := by decide +kernel
theorem dX7_fly_119 : decode cX7_fly 119 = .ok (.dup2, 1) := by decide +kernel
theorem dX7_fly_120 : decode cX7_fly 120 = .ok (.iaload, 1) := by decide +kernel
theorem dX7_fly_121 : decode cX7_fly 121 = .ok (.aload_n 0, 1) := by decide +kernel
theorem dX7_fly_122 : decode cX7_fly 122 = .ok (.getfield 7, 3) := by decide +kernel
theorem dX7_fly_125 : decode cX7_fly 125 = .ok (.bipush 26, 2) := by decide +kernel
theorem dX7_fly_127 : decode cX7_fly 127 = .ok (.iaload, 1) := by decide +kernel
theorem dX7_fly_128 : decode cX7_fly 128 = .ok (.iadd, 1) := by decide +kernel
theorem dX7_fly_129 : decode cX7_fly 129 = .ok (.iastore, 1) := by decide +kernel
theorem dX7_fly_130 : decode cX7_fly 130 = .ok (.aload_n 0, 1) := by decide +kernel
theorem dX7_fly_131 : decode cX7_fly 131 = .ok (.getfield 7, 3) := by decide +kernel
theorem dX7_fly_134 : decode cX7_fly 134 = .ok (.iconst 4, 1) := by decide +kernel
theorem dX7_fly_135 : decode cX7_fly 135 = .ok (.iconst 0, 1) := by decide +kernel
theorem dX7_fly_136 : decode cX7_fly 136 = .ok (.iastore, 1) := by decide +kernel
theorem dX7_fly_137 : decode cX7_fly 137 = .ok (.aload_n 0, 1) := by decide +kernel
theorem dX7_fly_138 : decode cX7_fly 138 = .ok (.getfield 7, 3) := by decide +kernel
theorem dX7_fly_141 : decode cX7_fly 141 = .ok (.iconst 5, 1) := by decide +kernel
theorem dX7_fly_142 : decode cX7_fly 142 = .ok (.dup2, 1) := by decide +kernel
theorem dX7_fly_143 : decode cX7_fly 143 = .ok (.iaload, 1) := by decide +kernel
theorem dX7_fly_144 : decode cX7_fly 144 = .ok (.iconst 1, 1) := by decide +kernel
theorem dX7_fly_145 : decode cX7_fly 145 = .ok (.iadd, 1) := by decide +kernel
theorem dX7_fly_146 : decode cX7_fly 146 = .ok (.iastore, 1) := by decide +kernel
theorem dX7_fly_147 : decode cX7_fly 147 = .ok (.return_, 1) := by decide +kernel
theorem dX7_eat_0 : decode cX7_eat 0 = .ok (.aload_n 0, 1) := by decide +kernel
theorem dX7_eat_1 : decode cX7_eat 1 = .ok (.invokevirtual 55, 3) := by decide +kernel
theorem dX7_eat_4 : decode cX7_eat 4 = .ok (.istore_n 1, 1) := by decide +kernel
theorem dX7_eat_5 : decode cX7_eat 5 = .ok (.iconst 0, 1) := by decide +kernel
theorem dX7_eat_6 : decode cX7_eat 6 = .ok (.istore_n 2, 1) := by decide +kernel
theorem dX7_eat_7 : decode cX7_eat 7 = .ok (.iload_n 2, 1) := by decide +kernel
theorem dX7_eat_8 : decode cX7_eat 8 = .ok (.sipush 1064, 3) := by decide +kernel
theorem dX7_eat_11 : decode cX7_eat 11 = .ok (.if_icmp .ge 71, 3) := by decide +kernel
theorem dX7_eat_14 : decode cX7_eat 14 = .ok (.iload_n 1, 1) := by decide +kernel
theorem dX7_eat_15 : decode cX7_eat 15 = .ok (.ifCond .le 67, 3) := by decide +kernel
theorem dX7_eat_18 : decode cX7_eat 18 = .ok (.aload_n 0, 1) := by decide +kernel
theorem dX7_eat_19 : decode cX7_eat 19 = .ok (.getfield 7, 3) := by decide +kernel
theorem dX7_eat_22 : decode cX7_eat 22 = .ok (.sipush 1675, 3) := by decide +kernel
theorem dX7_eat_25 : decode cX7_eat 25 = .ok (.iload_n 2, 1) := by decide +kernel
theorem dX7_eat_26 : decode cX7_eat 26 = .ok (.iadd, 1) := by decide +kernel
theorem dX7_eat_27 : decode cX7_eat 27 = .ok (.iaload, 1) := by decide +kernel
theorem dX7_eat_28 : decode cX7_eat 28 = .ok (.iload_n 1, 1) := by decide +kernel
theorem dX7_eat_29 : decode cX7_eat 29 = .ok (.if_icmp .ge 16, 3) := by decide +kernel
theorem dX7_eat_32 : decode cX7_eat 32 = .ok (.aload_n 0, 1) := by decide +kernel
theorem dX7_eat_33 : decode cX7_eat 33 = .ok (.getfield 7, 3) := by decide +kernel
theorem dX7_eat_36 : decode cX7_eat 36 = .ok (.sipush 1675, 3) := by decide +kernel
theorem dX7_eat_39 : decode cX7_eat 39 = .ok (.iload_n 2, 1) := by decide +kernel
theorem dX7_eat_40 : decode cX7_eat 40 = .ok (.iadd, 1) := by decide +kernel
theorem dX7_eat_41 : decode cX7_eat 41 = .ok (.iaload, 1) := by decide +kernel
theorem dX7_eat_42 : decode cX7_eat 42 = .ok (.goto 4, 3) := by decide +kernel
theorem dX7_eat_45 : decode cX7_eat 45 = .ok (.iload_n 1, 1) := by decide +kernel
theorem dX7_eat_46 : decode cX7_eat 46 = .ok (.istore_n 3, 1) := by decide +kernel
theorem dX7_eat_47 : decode cX7_eat 47 = .ok (.aload_n 0, 1) := by decide +kernel
theorem dX7_eat_48 : decode cX7_eat 48 = .ok (.getfield 7, 3) := by decide +kernel
theorem dX7_eat_51 : decode cX7_eat 51 = .ok (.sipush 1675, 3) := by decide +kernel
theorem dX7_eat_54 : decode cX7_eat 54 = .ok (.iload_n 2, 1) := by decide +kernel
theorem dX7_eat_55 : decode cX7_eat 55 = .ok (.iadd, 1) := by decide +kernel
theorem dX7_eat_56 : decode cX7_eat 56 = .ok (.dup2, 1) := by decide +kernel
theorem dX7_eat_57 : decode cX7_eat 57 = .ok (.iaload, 1) := by decide +kernel
theorem dX7_eat_58 : decode cX7_eat 58 = .ok (.iload_n 3, 1) := by decide +kernel
theorem dX7_eat_59 : decode cX7_eat 59 = .ok (.isub, 1) := by decide +kernel
theorem dX7_eat_60 : decode cX7_eat 60 = .ok (.iastore, 1) := by decide +kernel
theorem dX7_eat_61 : decode cX7_eat 61 = .ok (.aload_n 0, 1) := by decide +kernel
theorem dX7_eat_62 : decode cX7_eat 62 = .ok (.getfield 7, 3) := by decide +kernel
theorem dX7_eat_65 : decode cX7_eat 65 = .ok (.bipush 8, 2) := by decide +kernel
theorem dX7_eat_67 : decode cX7_eat 67 = .ok (.dup2, 1) := by decide +kernel
theorem dX7_eat_68 : decode cX7_eat 68 = .ok (.iaload, 1) := by decide +kernel
theorem dX7_eat_69 : decode cX7_eat 69 = .ok (.iload_n 3, 1) := by decide +kernel
theorem dX7_eat_70 : decode cX7_eat 70 = .ok (.iadd, 1) := by decide +kernel
theorem dX7_eat_71 : decode cX7_eat 71 = .ok (.iastore, 1) := by decide +kernel
theorem dX7_eat_72 : decode cX7_eat 72 = .ok (.iload_n 1, 1) := by decide +kernel
theorem dX7_eat_73 : decode cX7_eat 73 = .ok (.iload_n 3, 1) := by decide +kernel
theorem dX7_eat_74 : decode cX7_eat 74 = .ok (.isub, 1) := by decide +kernel
theorem dX7_eat_75 : decode cX7_eat 75 = .ok (.istore_n 1, 1) := by decide +kernel
theorem dX7_eat_76 : decode cX7_eat 76 = .ok (.iinc 2 1, 3) := by decide +kernel
theorem dX7_eat_79 : decode cX7_eat 79 = .ok (.goto (-72), 3) := by decide +kernel
theorem dX7_eat_82 : decode cX7_eat 82 = .ok (.aload_n 0, 1) := by decide +kernel
theorem dX7_eat_83 : decode cX7_eat 83 = .ok (.getfield 7, 3) := by decide +kernel
theorem dX7_eat_86 : decode cX7_eat 86 = .ok (.iconst 2, 1) := by decide +kernel
theorem dX7_eat_87 : decode cX7_eat 87 = .ok (.iaload, 1) := by decide +kernel
theorem dX7_eat_88 : decode cX7_eat 88 = .ok (.iload_n 1, 1) := by decide +kernel
theorem dX7_eat_89 : decode cX7_eat 89 = .ok (.if_icmp .ge 12, 3) := by decide +kernel
theorem dX7_eat_92 : decode cX7_eat 92 = .ok (.aload_n 0, 1) := by decide +kernel
theorem dX7_eat_93 : decode cX7_eat 93 = .ok (.getfield 7, 3) := by decide +kernel
theorem dX7_eat_96 : decode cX7_eat 96 = .ok (.iconst 2, 1) := by decide +kernel
theorem dX7_eat_97 : decode cX7_eat 97 = .ok (.iaload, 1) := by decide +kernel
theorem dX7_eat_98 : decode cX7_eat 98 = .ok (.goto 4, 3) := by decide +kernel
theorem dX7_eat_101 : decode cX7_eat 101 = .ok (.iload_n 1, 1) := by decide +kernel
theorem dX7_eat_102 : decode cX7_eat 102 = .ok (.istore_n 2, 1) := by decide +kernel
theorem dX7_eat_103 : decode cX7_eat 103 = .ok (.aload_n 0, 1) := by decide +kernel
theorem dX7_eat_104 : decode cX7_eat 104 = .ok (.getfield 7, 3) := by decide +kernel
theorem dX7_eat_107 : decode cX7_eat 107 = .ok (.iconst 2, 1) := by decide +kernel
theorem dX7_eat_108 : decode cX7_eat 108 = .ok (.dup2, 1) := by decide +kernel
theorem dX7_eat_109 : decode cX7_eat 109 = .ok (.iaload, 1) := by decide +kernel
theorem dX7_eat_110 : decode cX7_eat 110 = .ok (.iload_n 2, 1) := by decide +kernel
theorem dX7_eat_111 : decode cX7_eat 111 = .ok (.isub, 1) := by decide +kernel
theorem dX7_eat_112 : decode cX7_eat 112 = .ok (.iastore, 1) := by decide +kernel
theorem dX7_eat_113 : decode cX7_eat 113 = .ok (.aload_n 0, 1) := by decide +kernel
theorem dX7_eat_114 : decode cX7_eat 114 = .ok (.getfield 7, 3) := by decide +kernel
theorem dX7_eat_117 : decode cX7_eat 117 = .ok (.bipush 8, 2) := by decide +kernel
theorem dX7_eat_119 : decode cX7_eat 119 = .ok (.dup2, 1) := by decide +kernel
theorem dX7_eat_120 : decode cX7_eat 120 = .ok (.iaload, 1) := by decide +kernel
theorem dX7_eat_121 : decode cX7_eat 121 = .ok (.iload_n 2, 1) := by decide +kernel
theorem dX7_eat_122 : decode cX7_eat 122 = .ok (.iadd, 1) := by decide +kernel
theorem dX7_eat_123 : decode cX7_eat 123 = .ok (.iastore, 1) := by decide +kernel
theorem dX7_eat_124 : decode cX7_eat 124 = .ok (.aload_n 0, 1) := by decide +kernel
theorem dX7_eat_125 : decode cX7_eat 125 = .ok (.getfield 7, 3) := by decide +kernel
theorem dX7_eat_128 : decode cX7_eat 128 = .ok (.bipush 10, 2) := by decide +kernel
theorem dX7_eat_130 : decode cX7_eat 130 = .ok (.dup2, 1) := by decide +kernel
theorem dX7_eat_131 : decode cX7_eat 131 = .ok (.iaload, 1) := by decide +kernel
theorem dX7_eat_132 : decode cX7_eat 132 = .ok (.iload_n 1, 1) := by decide +kernel
theorem dX7_eat_133 : decode cX7_eat 133 = .ok (.iload_n 2, 1) := by decide +kernel
theorem dX7_eat_134 : decode cX7_eat 134 = .ok (.isub, 1) := by decide +kernel
theorem dX7_eat_135 : decode cX7_eat 135 = .ok (.iadd, 1) := by decide +kernel
theorem dX7_eat_136 : decode cX7_eat 136 = .ok (.iastore, 1) := by decide +kernel
theorem dX7_eat_137 : decode cX7_eat 137 = .ok (.return_, 1) := by decide +kernel
theorem dX7_sleep_0 : decode cX7_sleep 0 = .ok (.iconst 0, 1) := by decide +kernel
theorem dX7_sleep_1 : decode cX7_sleep 1 = .ok (.istore_n 2, 1) := by decide +kernel
theorem dX7_sleep_2 : decode cX7_sleep 2 = .ok (.iload_n 2, 1) := by decide +kernel
theorem dX7_sleep_3 : decode cX7_sleep 3 = .ok (.aload_n 0, 1) := by decide +kernel
theorem dX7_sleep_4 : decode cX7_sleep 4 = .ok (.getfield 7, 3) := by decide +kernel
theorem dX7_sleep_7 : decode cX7_sleep 7 = .ok (.iconst 1, 1) := by decide +kernel
theorem dX7_sleep_8 : decode cX7_sleep 8 = .ok (.iaload, 1) := by decide +kernel
theorem dX7_sleep_9 : decode cX7_sleep 9 = .ok (.if_icmp .ge 77, 3) := by decide +kernel
theorem dX7_sleep_12 : decode cX7_sleep 12 = .ok (.aload_n 0, 1) := by decide +kernel
theorem dX7_sleep_13 : decode cX7_sleep 13 = .ok (.iload_n 2, 1) := by decide +kernel
theorem dX7_sleep_14 : decode cX7_sleep 14 = .ok (.iconst 1, 1) := by decide +kernel
theorem dX7_sleep_15 : decode cX7_sleep 15 = .ok (.invokevirtual 41, 3) := by decide +kernel
theorem dX7_sleep_18 : decode cX7_sleep 18 = .ok (.ifCond .eq 62, 3) := by decide +kernel
theorem dX7_sleep_21 : decode cX7_sleep 21 = .ok (.aload_n 0, 1) := by decide +kernel
theorem dX7_sleep_22 : decode cX7_sleep 22 = .ok (.iload_n 2, 1) := by decide +kernel
theorem dX7_sleep_23 : decode cX7_sleep 23 = .ok (.iconst 4, 1) := by decide +kernel
theorem dX7_sleep_24 : decode cX7_sleep 24 = .ok (.aload_n 0, 1) := by decide +kernel
theorem dX7_sleep_25 : decode cX7_sleep 25 = .ok (.iload_n 2, 1) := by decide +kernel
theorem dX7_sleep_26 : decode cX7_sleep 26 = .ok (.iconst 4, 1) := by decide +kernel
theorem dX7_sleep_27 : decode cX7_sleep 27 = .ok (.invokevirtual 29, 3) := by decide +kernel
theorem dX7_sleep_30 : decode cX7_sleep 30 = .ok (.iconst 1, 1) := by decide +kernel
theorem dX7_sleep_31 : decode cX7_sleep 31 = .ok (.iadd, 1) := by decide +kernel
theorem dX7_sleep_32 : decode cX7_sleep 32 = .ok (.invokevirtual 51, 3) := by decide +kernel
theorem dX7_sleep_35 : decode cX7_sleep 35 = .ok (.aload_n 0, 1) := by decide +kernel
theorem dX7_sleep_36 : decode cX7_sleep 36 = .ok (.getfield 7, 3) := by decide +kernel
theorem dX7_sleep_39 : decode cX7_sleep 39 = .ok (.bipush 12, 2) := by decide +kernel
theorem dX7_sleep_41 : decode cX7_sleep 41 = .ok (.dup2, 1) := by decide +kernel
theorem dX7_sleep_42 : decode cX7_sleep 42 = .ok (.iaload, 1) := by decide +kernel
theorem dX7_sleep_43 : decode cX7_sleep 43 = .ok (.aload_n 0, 1) := by decide +kernel
theorem dX7_sleep_44 : decode cX7_sleep 44 = .ok (.iload_n 2, 1) := by decide +kernel
theorem dX7_sleep_45 : decode cX7_sleep 45 = .ok (.iconst 3, 1) := by decide +kernel
theorem dX7_sleep_46 : decode cX7_sleep 46 = .ok (.invokevirtual 29, 3) := by decide +kernel
theorem dX7_sleep_49 : decode cX7_sleep 49 = .ok (.iadd, 1) := by decide +kernel
theorem dX7_sleep_50 : decode cX7_sleep 50 = .ok (.iastore, 1) := by decide +kernel
theorem dX7_sleep_51 : decode cX7_sleep 51 = .ok (.aload_n 0, 1) := by decide +kernel
theorem dX7_sleep_52 : decode cX7_sleep 52 = .ok (.getfield 7, 3) := by decide +kernel
theorem dX7_sleep_55 : decode cX7_sleep 55 = .ok (.bipush 11, 2) := by decide +kernel
theorem dX7_sleep_57 : decode cX7_sleep 57 = .ok (.dup2, 1) := by decide +kernel
theorem dX7_sleep_58 : decode cX7_sleep 58 = .ok (.iaload, 1) := by decide +kernel
theorem dX7_sleep_59 : decode cX7_sleep 59 = .ok (.aload_n 0, 1) := by decide +kernel
theorem dX7_sleep_60 : decode cX7_sleep 60 = .ok (.iload_n 2, 1) := by decide +kernel
theorem dX7_sleep_61 : decode cX7_sleep 61 = .ok (.invokevirtual 45, 3) := by decide +kernel
theorem dX7_sleep_64 : decode cX7_sleep 64 = .ok (.iload_n 1, 1) := by decide +kernel
theorem dX7_sleep_65 : decode cX7_sleep 65 = .ok (.if_icmp .gt 12, 3) := by decide +kernel
theorem dX7_sleep_68 : decode cX7_sleep 68 = .ok (.aload_n 0, 1) := by decide +kernel
theorem dX7_sleep_69 : decode cX7_sleep 69 = .ok (.iload_n 2, 1) := by decide +kernel
theorem dX7_sleep_70 : decode cX7_sleep 70 = .ok (.iconst 3, 1) := by decide +kernel
theorem dX7_sleep_71 : decode cX7_sleep 71 = .ok (.invokevirtual 29, 3) := by decide +kernel
theorem dX7_sleep_74 : decode cX7_sleep 74 = .ok (.goto 4, 3) := by decide +kernel
theorem dX7_sleep_77 : decode cX7_sleep 77 = .ok (.iconst 0, 1) := by decide +kernel
theorem dX7_sleep_78 : decode cX7_sleep 78 = .ok (.iadd, 1) := by decide +kernel
theorem dX7_sleep_79 : decode cX7_sleep 79 = .ok (.iastore, 1) := by decide +kernel
theorem dX7_sleep_80 : decode cX7_sleep 80 = .ok (.iinc 2 1, 3) := by decide +kernel
theorem dX7_sleep_83 : decode cX7_sleep 83 = .ok (.goto (-81), 3) := by decide +kernel
theorem dX7_sleep_86 : decode cX7_sleep 86 = .ok (.return_, 1) := by decide +kernel
theorem dX7_passDay_0 : decode cX7_passDay 0 = .ok (.aload_n 0, 1) := by decide +kernel
theorem dX7_passDay_1 : decode cX7_passDay 1 = .ok (.getfield 7, 3) := by decide +kernel
theorem dX7_passDay_4 : decode cX7_passDay 4 = .ok (.iconst 0, 1) := by decide +kernel
theorem dX7_passDay_5 : decode cX7_passDay 5 = .ok (.iaload, 1) := by decide +kernel
theorem dX7_passDay_6 : decode cX7_passDay 6 = .ok (.istore_n 1, 1) := by decide +kernel
theorem dX7_passDay_7 : decode cX7_passDay 7 = .ok (.iconst 0, 1) := by decide +kernel
theorem dX7_passDay_8 : decode cX7_passDay 8 = .ok (.istore_n 2, 1) := by decide +kernel
theorem dX7_passDay_9 : decode cX7_passDay 9 = .ok (.iload_n 2, 1) := by decide +kernel
theorem dX7_passDay_10 : decode cX7_passDay 10 = .ok (.iload_n 1, 1) := by decide +kernel
theorem dX7_passDay_11 : decode cX7_passDay 11 = .ok (.aload_n 0, 1) := by decide +kernel
theorem dX7_passDay_12 : decode cX7_passDay 12 = .ok (.getfield 7, 3) := by decide +kernel
theorem dX7_passDay_15 : decode cX7_passDay 15 = .ok (.bipush 22, 2) := by decide +kernel
theorem dX7_passDay_17 : decode cX7_passDay 17 = .ok (.iaload, 1) := by decide +kernel
theorem dX7_passDay_18 : decode cX7_passDay 18 = .ok (.isub, 1) := by decide +kernel
theorem dX7_passDay_19 : decode cX7_passDay 19 = .ok (.if_icmp .gt 40, 3) := by decide +kernel
theorem dX7_passDay_22 : decode cX7_passDay 22 = .ok (.aload_n 0, 1) := by decide +kernel
theorem dX7_passDay_23 : decode cX7_passDay 23 = .ok (.getfield 7, 3) := by decide +kernel
theorem dX7_passDay_26 : decode cX7_passDay 26 = .ok (.bipush 9, 2) := by decide +kernel
theorem dX7_passDay_28 : decode cX7_passDay 28 = .ok (.dup2, 1) := by decide +kernel
theorem dX7_passDay_29 : decode cX7_passDay 29 = .ok (.iaload, 1) := by decide +kernel
theorem dX7_passDay_30 : decode cX7_passDay 30 = .ok (.aload_n 0, 1) := by decide +kernel
theorem dX7_passDay_31 : decode cX7_passDay 31 = .ok (.getfield 7, 3) := by decide +kernel
theorem dX7_passDay_34 : decode cX7_passDay 34 = .ok (.sipush 1675, 3) := by decide +kernel
theorem dX7_passDay_37 : decode cX7_passDay 37 = .ok (.iload_n 2, 1) := by decide +kernel
theorem dX7_passDay_38 : decode cX7_passDay 38 = .ok (.iadd, 1) := by decide +kernel
theorem dX7_passDay_39 : decode cX7_passDay 39 = .ok (.iaload, 1) := by decide +kernel
theorem dX7_passDay_40 : decode cX7_passDay 40 = .ok (.iadd, 1) := by decide +kernel
theorem dX7_passDay_41 : decode cX7_passDay 41 = .ok (.iastore, 1) := by decide +kernel
theorem dX7_passDay_42 : decode cX7_passDay 42 = .ok (.aload_n 0, 1) := by decide +kernel
theorem dX7_passDay_43 : decode cX7_passDay 43 = .ok (.getfield 7, 3) := by decide +kernel
theorem dX7_passDay_46 : decode cX7_passDay 46 = .ok (.sipush 1675, 3) := by decide +kernel
theorem dX7_passDay_49 : decode cX7_passDay 49 = .ok (.iload_n 2, 1) := by decide +kernel
theorem dX7_passDay_50 : decode cX7_passDay 50 = .ok (.iadd, 1) := by decide +kernel
theorem dX7_passDay_51 : decode cX7_passDay 51 = .ok (.iconst 0, 1) := by decide +kernel
theorem dX7_passDay_52 : decode cX7_passDay 52 = .ok (.iastore, 1) := by decide +kernel
theorem dX7_passDay_53 : decode cX7_passDay 53 = .ok (.iinc 2 1, 3) := by decide +kernel
theorem dX7_passDay_56 : decode cX7_passDay 56 = .ok (.goto (-47), 3) := by decide +kernel
theorem dX7_passDay_59 : decode cX7_passDay 59 = .ok (.iconst 0, 1) := by decide +kernel
theorem dX7_passDay_60 : decode cX7_passDay 60 = .ok (.istore_n 2, 1) := by decide +kernel
theorem dX7_passDay_61 : decode cX7_passDay 61 = .ok (.iload_n 2, 1) := by decide +kernel
theorem dX7_passDay_62 : decode cX7_passDay 62 = .ok (.aload_n 0, 1) := by decide +kernel
theorem dX7_passDay_63 : decode cX7_passDay 63 = .ok (.getfield 7, 3) := by decide +kernel
theorem dX7_passDay_66 : decode cX7_passDay 66 = .ok (.iconst 1, 1) := by decide +kernel
theorem dX7_passDay_67 : decode cX7_passDay 67 = .ok (.iaload, 1) := by decide +kernel
theorem dX7_passDay_68 : decode cX7_passDay 68 = .ok (.if_icmp .ge 40, 3) := by decide +kernel
theorem dX7_passDay_71 : decode cX7_passDay 71 = .ok (.aload_n 0, 1) := by decide +kernel
theorem dX7_passDay_72 : decode cX7_passDay 72 = .ok (.iload_n 2, 1) := by decide +kernel
theorem dX7_passDay_73 : decode cX7_passDay 73 = .ok (.iconst 1, 1) := by decide +kernel
theorem dX7_passDay_74 : decode cX7_passDay 74 = .ok (.invokevirtual 41, 3) := by decide +kernel
theorem dX7_passDay_77 : decode cX7_passDay 77 = .ok (.ifCond .eq 25, 3) := by decide +kernel
theorem dX7_passDay_80 : decode cX7_passDay 80 = .ok (.aload_n 0, 1) := by decide +kernel
theorem dX7_passDay_81 : decode cX7_passDay 81 = .ok (.iload_n 2, 1) := by decide +kernel
theorem dX7_passDay_82 : decode cX7_passDay 82 = .ok (.invokevirtual 45, 3) := by decide +kernel
theorem dX7_passDay_85 : decode cX7_passDay 85 = .ok (.iload_n 1, 1) := by decide +kernel
theorem dX7_passDay_86 : decode cX7_passDay 86 = .ok (.if_icmp .gt 16, 3) := by decide +kernel
theorem dX7_passDay_89 : decode cX7_passDay 89 = .ok (.aload_n 0, 1) := by decide +kernel
theorem dX7_passDay_90 : decode cX7_passDay 90 = .ok (.iload_n 1, 1) := by decide +kernel
theorem dX7_passDay_91 : decode cX7_passDay 91 = .ok (.invokevirtual 73, 3) := by decide +kernel
theorem dX7_passDay_94 : decode cX7_passDay 94 = .ok (.ifCond .eq 8, 3) := by decide +kernel
theorem dX7_passDay_97 : decode cX7_passDay 97 = .ok (.aload_n 0, 1) := by decide +kernel
theorem dX7_passDay_98 : decode cX7_passDay 98 = .ok (.iload_n 2, 1) := by decide +kernel
theorem dX7_passDay_99 : decode cX7_passDay 99 = .ok (.invokevirtual 70, 3) := by decide +kernel
theorem dX7_passDay_102 : decode cX7_passDay 102 = .ok (.iinc 2 1, 3) := by decide +kernel
theorem dX7_passDay_105 : decode cX7_passDay 105 = .ok (.goto (-44), 3) := by decide +kernel
theorem dX7_passDay_108 : decode cX7_passDay 108 = .ok (.iconst 0, 1) := by decide +kernel
theorem dX7_passDay_109 : decode cX7_passDay 109 = .ok (.istore_n 2, 1) := by decide +kernel
theorem dX7_passDay_110 : decode cX7_passDay 110 = .ok (.iload_n 2, 1) := by decide +kernel
theorem dX7_passDay_111 : decode cX7_passDay 111 = .ok (.aload_n 0, 1) := by decide +kernel
theorem dX7_passDay_112 : decode cX7_passDay 112 = .ok (.getfield 7, 3) := by decide +kernel
theorem dX7_passDay_115 : decode cX7_passDay 115 = .ok (.iconst 1, 1) := by decide +kernel
theorem dX7_passDay_116 : decode cX7_passDay 116 = .ok (.iaload, 1) := by decide +kernel
theorem dX7_passDay_117 : decode cX7_passDay 117 = .ok (.if_icmp .ge 32, 3) := by decide +kernel
theorem dX7_passDay_120 : decode cX7_passDay 120 = .ok (.aload_n 0, 1) := by decide +kernel
theorem dX7_passDay_121 : decode cX7_passDay 121 = .ok (.iload_n 2, 1) := by decide +kernel
theorem dX7_passDay_122 : decode cX7_passDay 122 = .ok (.iconst 0, 1) := by decide +kernel
theorem dX7_passDay_123 : decode cX7_passDay 123 = .ok (.invokevirtual 41, 3) := by decide +kernel
theorem dX7_passDay_126 : decode cX7_passDay 126 = .ok (.ifCond .eq 17, 3) := by decide +kernel
theorem dX7_passDay_129 : decode cX7_passDay 129 = .ok (.aload_n 0, 1) := by decide +kernel
theorem dX7_passDay_130 : decode cX7_passDay 130 = .ok (.iload_n 2, 1) := by decide +kernel
theorem dX7_passDay_131 : decode cX7_passDay 131 = .ok (.invokevirtual 45, 3) := by decide +kernel
theorem dX7_passDay_134 : decode cX7_passDay 134 = .ok (.iload_n 1, 1) := by decide +kernel
theorem dX7_passDay_135 : decode cX7_passDay 135 = .ok (.if_icmp .gt 8, 3) := by decide +kernel
theorem dX7_passDay_138 : decode cX7_passDay 138 = .ok (.aload_n 0, 1) := by decide +kernel
theorem dX7_passDay_139 : decode cX7_passDay 139 = .ok (.iload_n 2, 1) := by decide +kernel
theorem dX7_passDay_140 : decode cX7_passDay 140 = .ok (.invokevirtual 59, 3) := by decide +kernel
theorem dX7_passDay_143 : decode cX7_passDay 143 = .ok (.iinc 2 1, 3) := by decide +kernel
theorem dX7_passDay_146 : decode cX7_passDay 146 = .ok (.goto (-36), 3) := by decide +kernel
theorem dX7_passDay_149 : decode cX7_passDay 149 = .ok (.aload_n 0, 1) := by decide +kernel
theorem dX7_passDay_150 : decode cX7_passDay 150 = .ok (.iload_n 1, 1) := by decide +kernel
theorem dX7_passDay_151 : decode cX7_passDay 151 = .ok (.invokevirtual 77, 3) := by decide +kernel
theorem dX7_passDay_154 : decode cX7_passDay 154 = .ok (.ifCond .eq 58, 3) := by decide +kernel
theorem dX7_passDay_157 : decode cX7_passDay 157 = .ok (.iconst 0, 1) := by decide +kernel
theorem dX7_passDay_158 : decode cX7_passDay 158 = .ok (.istore_n 2, 1) := by decide +kernel
theorem dX7_passDay_159 : decode cX7_passDay 159 = .ok (.iload_n 2, 1) := by decide +kernel
theorem dX7_passDay_160 : decode cX7_passDay 160 = .ok (.aload_n 0, 1) := by decide +kernel
theorem dX7_passDay_161 : decode cX7_passDay 161 = .ok (.getfield 7, 3) := by decide +kernel
theorem dX7_passDay_164 : decode cX7_passDay 164 = .ok (.iconst 1, 1) := by decide +kernel
theorem dX7_passDay_165 : decode cX7_passDay 165 = .ok (.iaload, 1) := by decide +kernel
theorem dX7_passDay_166 : decode cX7_passDay 166 = .ok (.if_icmp .ge 34, 3) := by decide +kernel
theorem dX7_passDay_169 : decode cX7_passDay 169 = .ok (.aload_n 0, 1) := by decide +kernel
theorem dX7_passDay_170 : decode cX7_passDay 170 = .ok (.iload_n 2, 1) := by decide +kernel
theorem dX7_passDay_171 : decode cX7_passDay 171 = .ok (.iconst 0, 1) := by decide +kernel
theorem dX7_passDay_172 : decode cX7_passDay 172 = .ok (.invokevirtual 41, 3) := by decide +kernel
theorem dX7_passDay_175 : decode cX7_passDay 175 = .ok (.ifCond .eq 19, 3) := by decide +kernel
theorem dX7_passDay_178 : decode cX7_passDay 178 = .ok (.aload_n 0, 1) := by decide +kernel
theorem dX7_passDay_179 : decode cX7_passDay 179 = .ok (.iload_n 2, 1) := by decide +kernel
theorem dX7_passDay_180 : decode cX7_passDay 180 = .ok (.iconst 1, 1) := by decide +kernel
theorem dX7_passDay_181 : decode cX7_passDay 181 = .ok (.invokevirtual 29, 3) := by decide +kernel
theorem dX7_passDay_184 : decode cX7_passDay 184 = .ok (.iload_n 1, 1) := by decide +kernel
theorem dX7_passDay_185 : decode cX7_passDay 185 = .ok (.if_icmp .gt 9, 3) := by decide +kernel
theorem dX7_passDay_188 : decode cX7_passDay 188 = .ok (.aload_n 0, 1) := by decide +kernel
theorem dX7_passDay_189 : decode cX7_passDay 189 = .ok (.iload_n 2, 1) := by decide +kernel
theorem dX7_passDay_190 : decode cX7_passDay 190 = .ok (.iload_n 1, 1) := by decide +kernel
theorem dX7_passDay_191 : decode cX7_passDay 191 = .ok (.invokevirtual 80, 3) := by decide +kernel
theorem dX7_passDay_194 : decode cX7_passDay 194 = .ok (.iinc 2 1, 3) := by decide +kernel
theorem dX7_passDay_197 : decode cX7_passDay 197 = .ok (.goto (-38), 3) := by decide +kernel
theorem dX7_passDay_200 : decode cX7_passDay 200 = .ok (.aload_n 0, 1) := by decide +kernel
theorem dX7_passDay_201 : decode cX7_passDay 201 = .ok (.aload_n 0, 1) := by decide +kernel
theorem dX7_passDay_202 : decode cX7_passDay 202 = .ok (.getfield 7, 3) := by decide +kernel
theorem dX7_passDay_205 : decode cX7_passDay 205 = .ok (.bipush 23, 2) := by decide +kernel
theorem dX7_passDay_207 : decode cX7_passDay 207 = .ok (.iaload, 1) := by decide +kernel
theorem dX7_passDay_208 : decode cX7_passDay 208 = .ok (.iload_n 1, 1) := by decide +kernel
theorem dX7_passDay_209 : decode cX7_passDay 209 = .ok (.invokevirtual 66, 3) := by decide +kernel
theorem dX7_passDay_212 : decode cX7_passDay 212 = .ok (.aload_n 0, 1) := by decide +kernel
theorem dX7_passDay_213 : decode cX7_passDay 213 = .ok (.getfield 7, 3) := by decide +kernel
theorem dX7_passDay_216 : decode cX7_passDay 216 = .ok (.iconst 4, 1) := by decide +kernel
theorem dX7_passDay_217 : decode cX7_passDay 217 = .ok (.iaload, 1) := by decide +kernel
theorem dX7_passDay_218 : decode cX7_passDay 218 = .ok (.iconst 1, 1) := by decide +kernel
theorem dX7_passDay_219 : decode cX7_passDay 219 = .ok (.if_icmp .ne 16, 3) := by decide +kernel
theorem dX7_passDay_222 : decode cX7_passDay 222 = .ok (.aload_n 0, 1) := by decide +kernel
theorem dX7_passDay_223 : decode cX7_passDay 223 = .ok (.iload_n 1, 1) := by decide +kernel
theorem dX7_passDay_224 : decode cX7_passDay 224 = .ok (.invokevirtual 83, 3) := by decide +kernel
theorem dX7_passDay_227 : decode cX7_passDay 227 = .ok (.ifCond .ne 8, 3) := by decide +kernel
theorem dX7_passDay_230 : decode cX7_passDay 230 = .ok (.aload_n 0, 1) := by decide +kernel
theorem dX7_passDay_231 : decode cX7_passDay 231 = .ok (.iload_n 1, 1) := by decide +kernel
theorem dX7_passDay_232 : decode cX7_passDay 232 = .ok (.invokevirtual 86, 3) := by decide +kernel
theorem dX7_passDay_235 : decode cX7_passDay 235 = .ok (.aload_n 0, 1) := by decide +kernel
theorem dX7_passDay_236 : decode cX7_passDay 236 = .ok (.invokevirtual 89, 3) := by decide +kernel
theorem dX7_passDay_239 : decode cX7_passDay 239 = .ok (.aload_n 0, 1) := by decide +kernel
theorem dX7_passDay_240 : decode cX7_passDay 240 = .ok (.iload_n 1, 1) := by decide +kernel
theorem dX7_passDay_241 : decode cX7_passDay 241 = .ok (.invokevirtual 92, 3) := by decide +kernel
theorem dX7_passDay_244 : decode cX7_passDay 244 = .ok (.aload_n 0, 1) := by decide +kernel
theorem dX7_passDay_245 : decode cX7_passDay 245 = .ok (.getfield 7, 3) := by decide +kernel
theorem dX7_passDay_248 : decode cX7_passDay 248 = .ok (.iconst 0, 1) := by decide +kernel
theorem dX7_passDay_249 : decode cX7_passDay 249 = .ok (.dup2, 1) := by decide +kernel
theorem dX7_passDay_250 : decode cX7_passDay 250 = .ok (.iaload, 1) := by decide +kernel
theorem dX7_passDay_251 : decode cX7_passDay 251 = .ok (.iconst 1, 1) := by decide +kernel
theorem dX7_passDay_252 : decode cX7_passDay 252 = .ok (.iadd, 1) := by decide +kernel
theorem dX7_passDay_253 : decode cX7_passDay 253 = .ok (.iastore, 1) := by decide +kernel
theorem dX7_passDay_254 : decode cX7_passDay 254 = .ok (.return_, 1) := by decide +kernel
theorem dX7_tryToBook_0 : decode cX7_tryToBook 0 = .ok (.iload_n 1, 1) := by decide +kernel
theorem dX7_tryToBook_1 : decode cX7_tryToBook 1 = .ok (.aload_n 0, 1) := by decide +kernel
theorem dX7_tryToBook_2 : decode cX7_tryToBook 2 = .ok (.getfield 7, 3) := by decide +kernel
theorem dX7_tryToBook_5 : decode cX7_tryToBook 5 = .ok (.iconst 0, 1) := by decide +kernel
theorem dX7_tryToBook_6 : decode cX7_tryToBook 6 = .ok (.iaload, 1) := by decide +kernel
theorem dX7_tryToBook_7 : decode cX7_tryToBook 7 = .ok (.sipush 899, 3) := by decide +kernel
theorem dX7_tryToBook_10 : decode cX7_tryToBook 10 = .ok (.invokestatic 33, 3) := by decide +kernel
theorem dX7_tryToBook_13 : decode cX7_tryToBook 13 = .ok (.ifCond .eq 23, 3) := by decide +kernel
theorem dX7_tryToBook_16 : decode cX7_tryToBook 16 = .ok (.iload_n 2, 1) := by decide +kernel
theorem dX7_tryToBook_17 : decode cX7_tryToBook 17 = .ok (.iconst 1, 1) := by decide +kernel
theorem dX7_tryToBook_18 : decode cX7_tryToBook 18 = .ok (.bipush 9, 2) := by decide +kernel
theorem dX7_tryToBook_20 : decode cX7_tryToBook 20 = .ok (.invokestatic 33, 3) := by decide +kernel
theorem dX7_tryToBook_23 : decode cX7_tryToBook 23 = .ok (.ifCond .eq 13, 3) := by decide +kernel
theorem dX7_tryToBook_26 : decode cX7_tryToBook 26 = .ok (.iload_n 3, 1) := by decide +kernel
theorem dX7_tryToBook_27 : decode cX7_tryToBook 27 = .ok (.iconst 1, 1) := by decide +kernel
theorem dX7_tryToBook_28 : decode cX7_tryToBook 28 = .ok (.bipush 9, 2) := by decide +kernel
theorem dX7_tryToBook_30 : decode cX7_tryToBook 30 = .ok (.invokestatic 33, 3) := by decide +kernel
theorem dX7_tryToBook_33 : decode cX7_tryToBook 33 = .ok (.ifCond .ne 6, 3) := by decide +kernel
theorem dX7_tryToBook_36 : decode cX7_tryToBook 36 = .ok (.ldc 95, 2) := by decide +kernel
theorem dX7_tryToBook_38 : decode cX7_tryToBook 38 = .ok (.ireturn, 1) := by decide +kernel
theorem dX7_tryToBook_39 : decode cX7_tryToBook 39 = .ok (.aload_n 0, 1) := by decide +kernel
theorem dX7_tryToBook_40 : decode cX7_tryToBook 40 = .ok (.iload_n 1, 1) := by decide +kernel
theorem dX7_tryToBook_41 : decode cX7_tryToBook 41 = .ok (.iload_n 1, 1) := by decide +kernel
theorem dX7_tryToBook_42 : decode cX7_tryToBook 42 = .ok (.iload_n 2, 1) := by decide +kernel
theorem dX7_tryToBook_43 : decode cX7_tryToBook 43 = .ok (.iadd, 1) := by decide +kernel
theorem dX7_tryToBook_44 : decode cX7_tryToBook 44 = .ok (.iload_n 3, 1) := by decide +kernel
theorem dX7_tryToBook_45 : decode cX7_tryToBook 45 = .ok (.invokevirtual 96, 3) := by decide +kernel
theorem dX7_tryToBook_48 : decode cX7_tryToBook 48 = .ok (.ifCond .ne 6, 3) := by decide +kernel
theorem dX7_tryToBook_51 : decode cX7_tryToBook 51 = .ok (.ldc 99, 2) := by decide +kernel
theorem dX7_tryToBook_53 : decode cX7_tryToBook 53 = .ok (.ireturn, 1) := by decide +kernel
theorem dX7_tryToBook_54 : decode cX7_tryToBook 54 = .ok (.aload_n 0, 1) := by decide +kernel
theorem dX7_tryToBook_55 : decode cX7_tryToBook 55 = .ok (.getfield 7, 3) := by decide +kernel
theorem dX7_tryToBook_58 : decode cX7_tryToBook 58 = .ok (.iconst 1, 1) := by decide +kernel
theorem dX7_tryToBook_59 : decode cX7_tryToBook 59 = .ok (.iaload, 1) := by decide +kernel
theorem dX7_tryToBook_60 : decode cX7_tryToBook 60 = .ok (.bipush 80, 2) := by decide +kernel
theorem dX7_tryToBook_62 : decode cX7_tryToBook 62 = .ok (.if_icmp .ne 8, 3) := by decide +kernel
theorem dX7_tryToBook_65 : decode cX7_tryToBook 65 = .ok (.ldc 100, 2) := by decide +kernel
theorem dX7_tryToBook_67 : decode cX7_tryToBook 67 = .ok (.goto 4, 3) := by decide +kernel
theorem dX7_tryToBook_70 : decode cX7_tryToBook 70 = .ok (.iconst 0, 1) := by decide +kernel
theorem dX7_tryToBook_71 : decode cX7_tryToBook 71 = .ok (.ireturn, 1) := by decide +kernel
theorem dX7_addBooking_0 : decode cX7_addBooking 0 = .ok (.aload_n 0, 1) := by decide +kernel
theorem dX7_addBooking_1 : decode cX7_addBooking 1 = .ok (.getfield 7, 3) := by decide +kernel
theorem dX7_addBooking_4 : decode cX7_addBooking 4 = .ok (.iconst 1, 1) := by decide +kernel
theorem dX7_addBooking_5 : decode cX7_addBooking 5 = .ok (.iaload, 1) := by decide +kernel
theorem dX7_addBooking_6 : decode cX7_addBooking 6 = .ok (.istore 4, 2) := by decide +kernel
theorem dX7_addBooking_8 : decode cX7_addBooking 8 = .ok (.aload_n 0, 1) := by decide +kernel
theorem dX7_addBooking_9 : decode cX7_addBooking 9 = .ok (.getfield 7, 3) := by decide +kernel
theorem dX7_addBooking_12 : decode cX7_addBooking 12 = .ok (.iconst 1, 1) := by decide +kernel
theorem dX7_addBooking_13 : decode cX7_addBooking 13 = .ok (.dup2, 1) := by decide +kernel
theorem dX7_addBooking_14 : decode cX7_addBooking 14 = .ok (.iaload, 1) := by decide +kernel
theorem dX7_addBooking_15 : decode cX7_addBooking 15 = .ok (.iconst 1, 1) := by decide +kernel
theorem dX7_addBooking_16 : decode cX7_addBooking 16 = .ok (.iadd, 1) := by decide +kernel
theorem dX7_addBooking_17 : decode cX7_addBooking 17 = .ok (.iastore, 1) := by decide +kernel
theorem dX7_addBooking_18 : decode cX7_addBooking 18 = .ok (.aload_n 0, 1) := by decide +kernel
theorem dX7_addBooking_19 : decode cX7_addBooking 19 = .ok (.iload 4, 2) := by decide +kernel
theorem dX7_addBooking_21 : decode cX7_addBooking 21 = .ok (.iconst 0, 1) := by decide +kernel
theorem dX7_addBooking_22 : decode cX7_addBooking 22 = .ok (.iconst 0, 1) := by decide +kernel
theorem dX7_addBooking_23 : decode cX7_addBooking 23 = .ok (.invokevirtual 51, 3) := by decide +kernel
theorem dX7_addBooking_26 : decode cX7_addBooking 26 = .ok (.aload_n 0, 1) := by decide +kernel
theorem dX7_addBooking_27 : decode cX7_addBooking 27 = .ok (.iload 4, 2) := by decide +kernel
theorem dX7_addBooking_29 : decode cX7_addBooking 29 = .ok (.iconst 1, 1) := by decide +kernel
theorem dX7_addBooking_30 : decode cX7_addBooking 30 = .ok (.iload_n 1, 1) := by decide +kernel
theorem dX7_addBooking_31 : decode cX7_addBooking 31 = .ok (.invokevirtual 51, 3) := by decide +kernel
theorem dX7_addBooking_34 : decode cX7_addBooking 34 = .ok (.aload_n 0, 1) := by decide +kernel
theorem dX7_addBooking_35 : decode cX7_addBooking 35 = .ok (.iload 4, 2) := by decide +kernel
theorem dX7_addBooking_37 : decode cX7_addBooking 37 = .ok (.iconst 2, 1) := by decide +kernel
theorem dX7_addBooking_38 : decode cX7_addBooking 38 = .ok (.iload_n 2, 1) := by decide +kernel
theorem dX7_addBooking_39 : decode cX7_addBooking 39 = .ok (.invokevirtual 51, 3) := by decide +kernel
theorem dX7_addBooking_42 : decode cX7_addBooking 42 = .ok (.aload_n 0, 1) := by decide +kernel
theorem dX7_addBooking_43 : decode cX7_addBooking 43 = .ok (.iload 4, 2) := by decide +kernel
theorem dX7_addBooking_45 : decode cX7_addBooking 45 = .ok (.iconst 3, 1) := by decide +kernel
theorem dX7_addBooking_46 : decode cX7_addBooking 46 = .ok (.iload_n 3, 1) := by decide +kernel
theorem dX7_addBooking_47 : decode cX7_addBooking 47 = .ok (.invokevirtual 51, 3) := by decide +kernel
theorem dX7_addBooking_50 : decode cX7_addBooking 50 = .ok (.aload_n 0, 1) := by decide +kernel
theorem dX7_addBooking_51 : decode cX7_addBooking 51 = .ok (.iload 4, 2) := by decide +kernel
theorem dX7_addBooking_53 : decode cX7_addBooking 53 = .ok (.iconst 4, 1) := by decide +kernel
theorem dX7_addBooking_54 : decode cX7_addBooking 54 = .ok (.iconst 0, 1) := by decide +kernel
theorem dX7_addBooking_55 : decode cX7_addBooking 55 = .ok (.invokevirtual 51, 3) := by decide +kernel
theorem dX7_addBooking_58 : decode cX7_addBooking 58 = .ok (.aload_n 0, 1) := by decide +kernel
theorem dX7_addBooking_59 : decode cX7_addBooking 59 = .ok (.iload 4, 2) := by decide +kernel
theorem dX7_addBooking_61 : decode cX7_addBooking 61 = .ok (.iconst 5, 1) := by decide +kernel
theorem dX7_addBooking_62 : decode cX7_addBooking 62 = .ok (.iload_n 3, 1) := by decide +kernel
theorem dX7_addBooking_63 : decode cX7_addBooking 63 = .ok (.iload_n 2, 1) := by decide +kernel
theorem dX7_addBooking_64 : decode cX7_addBooking 64 = .ok (.imul, 1) := by decide +kernel
theorem dX7_addBooking_65 : decode cX7_addBooking 65 = .ok (.aload_n 0, 1) := by decide +kernel
theorem dX7_addBooking_66 : decode cX7_addBooking 66 = .ok (.getfield 7, 3) := by decide +kernel
theorem dX7_addBooking_69 : decode cX7_addBooking 69 = .ok (.bipush 20, 2) := by decide +kernel
theorem dX7_addBooking_71 : decode cX7_addBooking 71 = .ok (.iaload, 1) := by decide +kernel
theorem dX7_addBooking_72 : decode cX7_addBooking 72 = .ok (.imul, 1) := by decide +kernel
theorem dX7_addBooking_73 : decode cX7_addBooking 73 = .ok (.invokevirtual 51, 3) := by decide +kernel
theorem dX7_addBooking_76 : decode cX7_addBooking 76 = .ok (.aload_n 0, 1) := by decide +kernel
theorem dX7_addBooking_77 : decode cX7_addBooking 77 = .ok (.iload 4, 2) := by decide +kernel
theorem dX7_addBooking_79 : decode cX7_addBooking 79 = .ok (.bipush 6, 2) := by decide +kernel
theorem dX7_addBooking_81 : decode cX7_addBooking 81 = .ok (.ldc 101, 2) := by decide +kernel
theorem dX7_addBooking_83 : decode cX7_addBooking 83 = .ok (.invokevirtual 51, 3) := by decide +kernel
theorem dX7_addBooking_86 : decode cX7_addBooking 86 = .ok (.aload_n 0, 1) := by decide +kernel
theorem dX7_addBooking_87 : decode cX7_addBooking 87 = .ok (.getfield 7, 3) := by decide +kernel
theorem dX7_addBooking_90 : decode cX7_addBooking 90 = .ok (.bipush 14, 2) := by decide +kernel
theorem dX7_addBooking_92 : decode cX7_addBooking 92 = .ok (.dup2, 1) := by decide +kernel
theorem dX7_addBooking_93 : decode cX7_addBooking 93 = .ok (.iaload, 1) := by decide +kernel
theorem dX7_addBooking_94 : decode cX7_addBooking 94 = .ok (.aload_n 0, 1) := by decide +kernel
theorem dX7_addBooking_95 : decode cX7_addBooking 95 = .ok (.iload 4, 2) := by decide +kernel
theorem dX7_addBooking_97 : decode cX7_addBooking 97 = .ok (.iconst 5, 1) := by decide +kernel
theorem dX7_addBooking_98 : decode cX7_addBooking 98 = .ok (.invokevirtual 29, 3) := by decide +kernel
theorem dX7_addBooking_101 : decode cX7_addBooking 101 = .ok (.iadd, 1) := by decide +kernel
theorem dX7_addBooking_102 : decode cX7_addBooking 102 = .ok (.iastore, 1) := by decide +kernel
theorem dX7_addBooking_103 : decode cX7_addBooking 103 = .ok (.iload 4, 2) := by decide +kernel
theorem dX7_addBooking_105 : decode cX7_addBooking 105 = .ok (.ireturn, 1) := by decide +kernel
theorem dX7_book_0 : decode cX7_book 0 = .ok (.aload_n 0, 1) := by decide +kernel
theorem dX7_book_1 : decode cX7_book 1 = .ok (.iload_n 1, 1) := by decide +kernel
theorem dX7_book_2 : decode cX7_book 2 = .ok (.iload_n 2, 1) := by decide +kernel
theorem dX7_book_3 : decode cX7_book 3 = .ok (.iload_n 3, 1) := by decide +kernel
theorem dX7_book_4 : decode cX7_book 4 = .ok (.invokevirtual 102, 3) := by decide +kernel
theorem dX7_book_7 : decode cX7_book 7 = .ok (.istore 4, 2) := by decide +kernel
theorem dX7_book_9 : decode cX7_book 9 = .ok (.iload 4, 2) := by decide +kernel
theorem dX7_book_11 : decode cX7_book 11 = .ok (.ifCond .ge 6, 3) := by decide +kernel
theorem dX7_book_14 : decode cX7_book 14 = .ok (.iload 4, 2) := by decide +kernel
theorem dX7_book_16 : decode cX7_book 16 = .ok (.ireturn, 1) := by decide +kernel
theorem dX7_book_17 : decode cX7_book 17 = .ok (.aload_n 0, 1) := by decide +kernel
theorem dX7_book_18 : decode cX7_book 18 = .ok (.invokevirtual 106, 3) := by decide +kernel
theorem dX7_book_21 : decode cX7_book 21 = .ok (.aload_n 0, 1) := by decide +kernel
theorem dX7_book_22 : decode cX7_book 22 = .ok (.iload_n 1, 1) := by decide +kernel
theorem dX7_book_23 : decode cX7_book 23 = .ok (.iload_n 2, 1) := by decide +kernel
theorem dX7_book_24 : decode cX7_book 24 = .ok (.iload_n 3, 1) := by decide +kernel
theorem dX7_book_25 : decode cX7_book 25 = .ok (.invokevirtual 109, 3) := by decide +kernel
theorem dX7_book_28 : decode cX7_book 28 = .ok (.ireturn, 1) := by decide +kernel
theorem dX7_isNext_0 : decode cX7_isNext 0 = .ok (.aload_n 0, 1) := by decide +kernel
theorem dX7_isNext_1 : decode cX7_isNext 1 = .ok (.getfield 112, 3) := by decide +kernel
theorem dX7_isNext_4 : decode cX7_isNext 4 = .ok (.aload_n 0, 1) := by decide +kernel
theorem dX7_isNext_5 : decode cX7_isNext 5 = .ok (.getfield 115, 3) := by decide +kernel
theorem dX7_isNext_8 : decode cX7_isNext 8 = .ok (.if_icmp .ge 24, 3) := by decide +kernel
theorem dX7_isNext_11 : decode cX7_isNext 11 = .ok (.aload_n 0, 1) := by decide +kernel
theorem dX7_isNext_12 : decode cX7_isNext 12 = .ok (.getfield 22, 3) := by decide +kernel
theorem dX7_isNext_15 : decode cX7_isNext 15 = .ok (.aload_n 0, 1) := by decide +kernel
theorem dX7_isNext_16 : decode cX7_isNext 16 = .ok (.getfield 112, 3) := by decide +kernel
theorem dX7_isNext_19 : decode cX7_isNext 19 = .ok (.iaload, 1) := by decide +kernel
theorem dX7_isNext_20 : decode cX7_isNext 20 = .ok (.iload_n 1, 1) := by decide +kernel
theorem dX7_isNext_21 : decode cX7_isNext 21 = .ok (.iload_n 2, 1) := by decide +kernel
theorem dX7_isNext_22 : decode cX7_isNext 22 = .ok (.invokestatic 33, 3) := by decide +kernel
theorem dX7_isNext_25 : decode cX7_isNext 25 = .ok (.ifCond .eq 7, 3) := by decide +kernel
theorem dX7_isNext_28 : decode cX7_isNext 28 = .ok (.iconst 1, 1) := by decide +kernel
theorem dX7_isNext_29 : decode cX7_isNext 29 = .ok (.goto 4, 3) := by decide +kernel
theorem dX7_isNext_32 : decode cX7_isNext 32 = .ok (.iconst 0, 1) := by decide +kernel
theorem dX7_isNext_33 : decode cX7_isNext 33 = .ok (.ireturn, 1) := by decide +kernel
theorem dX7_readBooking_0 : decode cX7_readBooking 0 = .ok (.aload_n 0, 1) := by decide +kernel
theorem dX7_readBooking_1 : decode cX7_readBooking 1 = .ok (.bipush 48, 2) := by decide +kernel
theorem dX7_readBooking_3 : decode cX7_readBooking 3 = .ok (.bipush 57, 2) := by decide +kernel
theorem dX7_readBooking_5 : decode cX7_readBooking 5 = .ok (.invokevirtual 118, 3) := by decide +kernel
theorem dX7_readBooking_8 : decode cX7_readBooking 8 = .ok (.ifCond .ne 11, 3) := by decide +kernel
theorem dX7_readBooking_11 : decode cX7_readBooking 11 = .ok (.bipush (-100), 2) := by decide +kernel
theorem dX7_readBooking_13 : decode cX7_readBooking 13 = .ok (.aload_n 0, 1) := by decide +kernel
theorem dX7_readBooking_14 : decode cX7_readBooking 14 = .ok (.getfield 112, 3) := by decide +kernel
theorem dX7_readBooking_17 : decode cX7_readBooking 17 = .ok (.isub, 1) := by decide +kernel
theorem dX7_readBooking_18 : decode cX7_readBooking 18 = .ok (.ireturn, 1) := by decide +kernel
theorem dX7_readBooking_19 : decode cX7_readBooking 19 = .ok (.aload_n 0, 1) := by decide +kernel
theorem dX7_readBooking_20 : decode cX7_readBooking 20 = .ok (.getfield 22, 3) := by decide +kernel
theorem dX7_readBooking_23 : decode cX7_readBooking 23 = .ok (.aload_n 0, 1) := by decide +kernel
theorem dX7_readBooking_24 : decode cX7_readBooking 24 = .ok (.getfield 112, 3) := by decide +kernel
theorem dX7_readBooking_27 : decode cX7_readBooking 27 = .ok (.iaload, 1) := by decide +kernel
theorem dX7_readBooking_28 : decode cX7_readBooking 28 = .ok (.bipush 48, 2) := by decide +kernel
theorem dX7_readBooking_30 : decode cX7_readBooking 30 = .ok (.isub, 1) := by decide +kernel
theorem dX7_readBooking_31 : decode cX7_readBooking 31 = .ok (.istore_n 1, 1) := by decide +kernel
theorem dX7_readBooking_32 : decode cX7_readBooking 32 = .ok (.aload_n 0, 1) := by decide +kernel
theorem dX7_readBooking_33 : decode cX7_readBooking 33 = .ok (.dup, 1) := by decide +kernel
theorem dX7_readBooking_34 : decode cX7_readBooking 34 = .ok (.getfield 112, 3) := by decide +kernel
theorem dX7_readBooking_37 : decode cX7_readBooking 37 = .ok (.iconst 1, 1) := by decide +kernel
theorem dX7_readBooking_38 : decode cX7_readBooking 38 = .ok (.iadd, 1) := by decide +kernel
theorem dX7_readBooking_39 : decode cX7_readBooking 39 = .ok (.putfield 112, 3) := by decide +kernel
theorem dX7_readBooking_42 : decode cX7_readBooking 42 = .ok (.iload_n 1, 1) := by decide +kernel
theorem dX7_readBooking_43 : decode cX7_readBooking 43 = .ok (.ifCond .le 68, 3) := by decide +kernel
theorem dX7_readBooking_46 : decode cX7_readBooking 46 = .ok (.aload_n 0, 1) := by decide +kernel
theorem dX7_readBooking_47 : decode cX7_readBooking 47 = .ok (.bipush 48, 2) := by decide +kernel
theorem dX7_readBooking_49 : decode cX7_readBooking 49 = .ok (.bipush 57, 2) := by decide +kernel
theorem dX7_readBooking_51 : decode cX7_readBooking 51 = .ok (.invokevirtual 118, 3) := by decide +kernel
theorem dX7_readBooking_54 : decode cX7_readBooking 54 = .ok (.ifCond .eq 57, 3) := by decide +kernel
theorem dX7_readBooking_57 : decode cX7_readBooking 57 = .ok (.bipush 10, 2) := by decide +kernel
theorem dX7_readBooking_59 : decode cX7_readBooking 59 = .ok (.iload_n 1, 1) := by decide +kernel
theorem dX7_readBooking_60 : decode cX7_readBooking 60 = .ok (.imul, 1) := by decide +kernel
theorem dX7_readBooking_61 : decode cX7_readBooking 61 = .ok (.aload_n 0, 1) := by decide +kernel
theorem dX7_readBooking_62 : decode cX7_readBooking 62 = .ok (.getfield 22, 3) := by decide +kernel
theorem dX7_readBooking_65 : decode cX7_readBooking 65 = .ok (.aload_n 0, 1) := by decide +kernel
theorem dX7_readBooking_66 : decode cX7_readBooking 66 = .ok (.getfield 112, 3) := by decide +kernel
theorem dX7_readBooking_69 : decode cX7_readBooking 69 = .ok (.iaload, 1) := by decide +kernel
theorem dX7_readBooking_70 : decode cX7_readBooking 70 = .ok (.iadd, 1) := by decide +kernel
theorem dX7_readBooking_71 : decode cX7_readBooking 71 = .ok (.bipush 48, 2) := by decide +kernel
theorem dX7_readBooking_73 : decode cX7_readBooking 73 = .ok (.isub, 1) := by decide +kernel
theorem dX7_readBooking_74 : decode cX7_readBooking 74 = .ok (.sipush 899, 3) := by decide +kernel
theorem dX7_readBooking_77 : decode cX7_readBooking 77 = .ok (.if_icmp .gt 34, 3) := by decide +kernel
theorem dX7_readBooking_80 : decode cX7_readBooking 80 = .ok (.bipush 10, 2) := by decide +kernel
theorem dX7_readBooking_82 : decode cX7_readBooking 82 = .ok (.iload_n 1, 1) := by decide +kernel
theorem dX7_readBooking_83 : decode cX7_readBooking 83 = .ok (.imul, 1) := by decide +kernel
theorem dX7_readBooking_84 : decode cX7_readBooking 84 = .ok (.aload_n 0, 1) := by decide +kernel
theorem dX7_readBooking_85 : decode cX7_readBooking 85 = .ok (.getfield 22, 3) := by decide +kernel
theorem dX7_readBooking_88 : decode cX7_readBooking 88 = .ok (.aload_n 0, 1) := by decide +kernel
theorem dX7_readBooking_89 : decode cX7_readBooking 89 = .ok (.getfield 112, 3) := by decide +kernel
theorem dX7_readBooking_92 : decode cX7_readBooking 92 = .ok (.iaload, 1) := by decide +kernel
theorem dX7_readBooking_93 : decode cX7_readBooking 93 = .ok (.iadd, 1) := by decide +kernel
theorem dX7_readBooking_94 : decode cX7_readBooking 94 = .ok (.bipush 48, 2) := by decide +kernel
theorem dX7_readBooking_96 : decode cX7_readBooking 96 = .ok (.isub, 1) := by decide +kernel
theorem dX7_readBooking_97 : decode cX7_readBooking 97 = .ok (.istore_n 1, 1) := by decide +kernel
theorem dX7_readBooking_98 : decode cX7_readBooking 98 = .ok (.aload_n 0, 1) := by decide +kernel
theorem dX7_readBooking_99 : decode cX7_readBooking 99 = .ok (.dup, 1) := by decide +kernel
theorem dX7_readBooking_100 : decode cX7_readBooking 100 = .ok (.getfield 112, 3) := by decide +kernel
theorem dX7_readBooking_103 : decode cX7_readBooking 103 = .ok (.iconst 1, 1) := by decide +kernel
theorem dX7_readBooking_104 : decode cX7_readBooking 104 = .ok (.iadd, 1) := by decide +kernel
theorem dX7_readBooking_105 : decode cX7_readBooking 105 = .ok (.putfield 112, 3) := by decide +kernel
theorem dX7_readBooking_108 : decode cX7_readBooking 108 = .ok (.goto (-66), 3) := by decide +kernel
theorem dX7_readBooking_111 : decode cX7_readBooking 111 = .ok (.aload_n 0, 1) := by decide +kernel
theorem dX7_readBooking_112 : decode cX7_readBooking 112 = .ok (.bipush 43, 2) := by decide +kernel
theorem dX7_readBooking_114 : decode cX7_readBooking 114 = .ok (.bipush 43, 2) := by decide +kernel
theorem dX7_readBooking_116 : decode cX7_readBooking 116 = .ok (.invokevirtual 118, 3) := by decide +kernel
theorem dX7_readBooking_119 : decode cX7_readBooking 119 = .ok (.ifCond .ne 11, 3) := by decide +kernel
theorem dX7_readBooking_122 : decode cX7_readBooking 122 = .ok (.bipush (-100), 2) := by decide +kernel
theorem dX7_readBooking_124 : decode cX7_readBooking 124 = .ok (.aload_n 0, 1) := by decide +kernel
theorem dX7_readBooking_125 : decode cX7_readBooking 125 = .ok (.getfield 112, 3) := by decide +kernel
theorem dX7_readBooking_128 : decode cX7_readBooking 128 = .ok (.isub, 1) := by decide +kernel
theorem dX7_readBooking_129 : decode cX7_readBooking 129 = .ok (.ireturn, 1) := by decide +kernel
theorem dX7_readBooking_130 : decode cX7_readBooking 130 = .ok (.aload_n 0, 1) := by decide +kernel
theorem dX7_readBooking_131 : decode cX7_readBooking 131 = .ok (.dup, 1) := by decide +kernel
theorem dX7_readBooking_132 : decode cX7_readBooking 132 = .ok (.getfield 112, 3) := by decide +kernel
theorem dX7_readBooking_135 : decode cX7_readBooking 135 = .ok (.iconst 1, 1) := by decide +kernel
theorem dX7_readBooking_136 : decode cX7_readBooking 136 = .ok (.iadd, 1) := by decide +kernel
theorem dX7_readBooking_137 : decode cX7_readBooking 137 = .ok (.putfield 112, 3) := by decide +kernel
theorem dX7_readBooking_140 : decode cX7_readBooking 140 = .ok (.aload_n 0, 1) := by decide +kernel
theorem dX7_readBooking_141 : decode cX7_readBooking 141 = .ok (.bipush 49, 2) := by decide +kernel
theorem dX7_readBooking_143 : decode cX7_readBooking 143 = .ok (.bipush 57, 2) := by decide +kernel
theorem dX7_readBooking_145 : decode cX7_readBooking 145 = .ok (.invokevirtual 118, 3) := by decide +kernel
theorem dX7_readBooking_148 : decode cX7_readBooking 148 = .ok (.ifCond .ne 11, 3) := by decide +kernel
theorem dX7_readBooking_151 : decode cX7_readBooking 151 = .ok (.bipush (-100), 2) := by decide +kernel
theorem dX7_readBooking_153 : decode cX7_readBooking 153 = .ok (.aload_n 0, 1) := by decide +kernel
theorem dX7_readBooking_154 : decode cX7_readBooking 154 = .ok (.getfield 112, 3) := by decide +kernel
theorem dX7_readBooking_157 : decode cX7_readBooking 157 = .ok (.isub, 1) := by decide +kernel
theorem dX7_readBooking_158 : decode cX7_readBooking 158 = .ok (.ireturn, 1) := by decide +kernel
theorem dX7_readBooking_159 : decode cX7_readBooking 159 = .ok (.aload_n 0, 1) := by decide +kernel
theorem dX7_readBooking_160 : decode cX7_readBooking 160 = .ok (.getfield 22, 3) := by decide +kernel
theorem dX7_readBooking_163 : decode cX7_readBooking 163 = .ok (.aload_n 0, 1) := by decide +kernel
theorem dX7_readBooking_164 : decode cX7_readBooking 164 = .ok (.getfield 112, 3) := by decide +kernel
theorem dX7_readBooking_167 : decode cX7_readBooking 167 = .ok (.iaload, 1) := by decide +kernel
theorem dX7_readBooking_168 : decode cX7_readBooking 168 = .ok (.bipush 48, 2) := by decide +kernel
theorem dX7_readBooking_170 : decode cX7_readBooking 170 = .ok (.isub, 1) := by decide +kernel
theorem dX7_readBooking_171 : decode cX7_readBooking 171 = .ok (.istore_n 2, 1) := by decide +kernel
theorem dX7_readBooking_172 : decode cX7_readBooking 172 = .ok (.aload_n 0, 1) := by decide +kernel
theorem dX7_readBooking_173 : decode cX7_readBooking 173 = .ok (.dup, 1) := by decide +kernel
theorem dX7_readBooking_174 : decode cX7_readBooking 174 = .ok (.getfield 112, 3) := by decide +kernel
theorem dX7_readBooking_177 : decode cX7_readBooking 177 = .ok (.iconst 1, 1) := by decide +kernel
theorem dX7_readBooking_178 : decode cX7_readBooking 178 = .ok (.iadd, 1) := by decide +kernel
theorem dX7_readBooking_179 : decode cX7_readBooking 179 = .ok (.putfield 112, 3) := by decide +kernel
theorem dX7_readBooking_182 : decode cX7_readBooking 182 = .ok (.aload_n 0, 1) := by decide +kernel
theorem dX7_readBooking_183 : decode cX7_readBooking 183 = .ok (.bipush 120, 2) := by decide +kernel
theorem dX7_readBooking_185 : decode cX7_readBooking 185 = .ok (.bipush 120, 2) := by decide +kernel
theorem dX7_readBooking_187 : decode cX7_readBooking 187 = .ok (.invokevirtual 118, 3) := by decide +kernel
theorem dX7_readBooking_190 : decode cX7_readBooking 190 = .ok (.ifCond .ne 11, 3) := by decide +kernel
theorem dX7_readBooking_193 : decode cX7_readBooking 193 = .ok (.bipush (-100), 2) := by decide +kernel
theorem dX7_readBooking_195 : decode cX7_readBooking 195 = .ok (.aload_n 0, 1) := by decide +kernel
theorem dX7_readBooking_196 : decode cX7_readBooking 196 = .ok (.getfield 112, 3) := by decide +kernel
theorem dX7_readBooking_199 : decode cX7_readBooking 199 = .ok (.isub, 1) := by decide +kernel
theorem dX7_readBooking_200 : decode cX7_readBooking 200 = .ok (.ireturn, 1) := by decide +kernel
theorem dX7_readBooking_201 : decode cX7_readBooking 201 = .ok (.aload_n 0, 1) := by decide +kernel
theorem dX7_readBooking_202 : decode cX7_readBooking 202 = .ok (.dup, 1) := by decide +kernel
theorem dX7_readBooking_203 : decode cX7_readBooking 203 = .ok (.getfield 112, 3) := by decide +kernel
theorem dX7_readBooking_206 : decode cX7_readBooking 206 = .ok (.iconst 1, 1) := by decide +kernel
theorem dX7_readBooking_207 : decode cX7_readBooking 207 = .ok (.iadd, 1) := by decide +kernel
theorem dX7_readBooking_208 : decode cX7_readBooking 208 = .ok (.putfield 112, 3) := by decide +kernel
theorem dX7_readBooking_211 : decode cX7_readBooking 211 = .ok (.aload_n 0, 1) := by decide +kernel
theorem dX7_readBooking_212 : decode cX7_readBooking 212 = .ok (.bipush 49, 2) := by decide +kernel
theorem dX7_readBooking_214 : decode cX7_readBooking 214 = .ok (.bipush 57, 2) := by decide +kernel
theorem dX7_readBooking_216 : decode cX7_readBooking 216 = .ok (.invokevirtual 118, 3) := by decide +kernel
theorem dX7_readBooking_219 : decode cX7_readBooking 219 = .ok (.ifCond .ne 11, 3) := by decide +kernel
theorem dX7_readBooking_222 : decode cX7_readBooking 222 = .ok (.bipush (-100), 2) := by decide +kernel
theorem dX7_readBooking_224 : decode cX7_readBooking 224 = .ok (.aload_n 0, 1) := by decide +kernel
theorem dX7_readBooking_225 : decode cX7_readBooking 225 = .ok (.getfield 112, 3) := by decide +kernel
theorem dX7_readBooking_228 : decode cX7_readBooking 228 = .ok (.isub, 1) := by decide +kernel
theorem dX7_readBooking_229 : decode cX7_readBooking 229 = .ok (.ireturn, 1) := by decide +kernel
theorem dX7_readBooking_230 : decode cX7_readBooking 230 = .ok (.aload_n 0, 1) := by decide +kernel
theorem dX7_readBooking_231 : decode cX7_readBooking 231 = .ok (.getfield 22, 3) := by decide +kernel
theorem dX7_readBooking_234 : decode cX7_readBooking 234 = .ok (.aload_n 0, 1) := by decide +kernel
theorem dX7_readBooking_235 : decode cX7_readBooking 235 = .ok (.getfield 112, 3) := by decide +kernel
theorem dX7_readBooking_238 : decode cX7_readBooking 238 = .ok (.iaload, 1) := by decide +kernel
theorem dX7_readBooking_239 : decode cX7_readBooking 239 = .ok (.bipush 48, 2) := by decide +kernel
theorem dX7_readBooking_241 : decode cX7_readBooking 241 = .ok (.isub, 1) := by decide +kernel
theorem dX7_readBooking_242 : decode cX7_readBooking 242 = .ok (.istore_n 3, 1) := by decide +kernel
theorem dX7_readBooking_243 : decode cX7_readBooking 243 = .ok (.aload_n 0, 1) := by decide +kernel
theorem dX7_readBooking_244 : decode cX7_readBooking 244 = .ok (.dup, 1) := by decide +kernel
theorem dX7_readBooking_245 : decode cX7_readBooking 245 = .ok (.getfield 112, 3) := by decide +kernel
theorem dX7_readBooking_248 : decode cX7_readBooking 248 = .ok (.iconst 1, 1) := by decide +kernel
theorem dX7_readBooking_249 : decode cX7_readBooking 249 = .ok (.iadd, 1) := by decide +kernel
theorem dX7_readBooking_250 : decode cX7_readBooking 250 = .ok (.putfield 112, 3) := by decide +kernel
theorem dX7_readBooking_253 : decode cX7_readBooking 253 = .ok (.bipush 100, 2) := by decide +kernel
theorem dX7_readBooking_255 : decode cX7_readBooking 255 = .ok (.iload_n 1, 1) := by decide +kernel
theorem dX7_readBooking_256 : decode cX7_readBooking 256 = .ok (.imul, 1) := by decide +kernel
theorem dX7_readBooking_257 : decode cX7_readBooking 257 = .ok (.bipush 10, 2) := by decide +kernel
theorem dX7_readBooking_259 : decode cX7_readBooking 259 = .ok (.iload_n 2, 1) := by decide +kernel
theorem dX7_readBooking_260 : decode cX7_readBooking 260 = .ok (.imul, 1) := by decide +kernel
theorem dX7_readBooking_261 : decode cX7_readBooking 261 = .ok (.iadd, 1) := by decide +kernel
theorem dX7_readBooking_262 : decode cX7_readBooking 262 = .ok (.iload_n 3, 1) := by decide +kernel
theorem dX7_readBooking_263 : decode cX7_readBooking 263 = .ok (.iadd, 1) := by decide +kernel
theorem dX7_readBooking_264 : decode cX7_readBooking 264 = .ok (.ireturn, 1) := by decide +kernel
theorem dX7_readAll_0 : decode cX7_readAll 0 = .ok (.aload_n 0, 1) := by decide +kernel
theorem dX7_readAll_1 : decode cX7_readAll 1 = .ok (.iconst 0, 1) := by decide +kernel
theorem dX7_readAll_2 : decode cX7_readAll 2 = .ok (.putfield 112, 3) := by decide +kernel
theorem dX7_readAll_5 : decode cX7_readAll 5 = .ok (.iconst 0, 1) := by decide +kernel
theorem dX7_readAll_6 : decode cX7_readAll 6 = .ok (.istore_n 1, 1) := by decide +kernel
theorem dX7_readAll_7 : decode cX7_readAll 7 = .ok (.iconst 1, 1) := by decide +kernel
theorem dX7_readAll_8 : decode cX7_readAll 8 = .ok (.istore_n 2, 1) := by decide +kernel
theorem dX7_readAll_9 : decode cX7_readAll 9 = .ok (.iload_n 2, 1) := by decide +kernel
theorem dX7_readAll_10 : decode cX7_readAll 10 = .ok (.ifCond .eq 47, 3) := by decide +kernel
theorem dX7_readAll_13 : decode cX7_readAll 13 = .ok (.aload_n 0, 1) := by decide +kernel
theorem dX7_readAll_14 : decode cX7_readAll 14 = .ok (.invokevirtual 121, 3) := by decide +kernel
theorem dX7_readAll_17 : decode cX7_readAll 17 = .ok (.istore_n 3, 1) := by decide +kernel
theorem dX7_readAll_18 : decode cX7_readAll 18 = .ok (.iload_n 3, 1) := by decide +kernel
theorem dX7_readAll_19 : decode cX7_readAll 19 = .ok (.ifCond .ge 5, 3) := by decide +kernel
theorem dX7_readAll_22 : decode cX7_readAll 22 = .ok (.iload_n 3, 1) := by decide +kernel
theorem dX7_readAll_23 : decode cX7_readAll 23 = .ok (.ireturn, 1) := by decide +kernel
theorem dX7_readAll_24 : decode cX7_readAll 24 = .ok (.iinc 1 1, 3) := by decide +kernel
theorem dX7_readAll_27 : decode cX7_readAll 27 = .ok (.aload_n 0, 1) := by decide +kernel
theorem dX7_readAll_28 : decode cX7_readAll 28 = .ok (.bipush 59, 2) := by decide +kernel
theorem dX7_readAll_30 : decode cX7_readAll 30 = .ok (.bipush 59, 2) := by decide +kernel
theorem dX7_readAll_32 : decode cX7_readAll 32 = .ok (.invokevirtual 118, 3) := by decide +kernel
theorem dX7_readAll_35 : decode cX7_readAll 35 = .ok (.istore_n 2, 1) := by decide +kernel
theorem dX7_readAll_36 : decode cX7_readAll 36 = .ok (.aload_n 0, 1) := by decide +kernel
theorem dX7_readAll_37 : decode cX7_readAll 37 = .ok (.dup, 1) := by decide +kernel
theorem dX7_readAll_38 : decode cX7_readAll 38 = .ok (.getfield 112, 3) := by decide +kernel
theorem dX7_readAll_41 : decode cX7_readAll 41 = .ok (.iload_n 2, 1) := by decide +kernel
theorem dX7_readAll_42 : decode cX7_readAll 42 = .ok (.ifCond .eq 7, 3) := by decide +kernel
theorem dX7_readAll_45 : decode cX7_readAll 45 = .ok (.iconst 1, 1) := by decide +kernel
theorem dX7_readAll_46 : decode cX7_readAll 46 = .ok (.goto 4, 3) := by decide +kernel
theorem dX7_readAll_49 : decode cX7_readAll 49 = .ok (.iconst 0, 1) := by decide +kernel
theorem dX7_readAll_50 : decode cX7_readAll 50 = .ok (.iadd, 1) := by decide +kernel
theorem dX7_readAll_51 : decode cX7_readAll 51 = .ok (.putfield 112, 3) := by decide +kernel
theorem dX7_readAll_54 : decode cX7_readAll 54 = .ok (.goto (-45), 3) := by decide +kernel
theorem dX7_readAll_57 : decode cX7_readAll 57 = .ok (.aload_n 0, 1) := by decide +kernel
theorem dX7_readAll_58 : decode cX7_readAll 58 = .ok (.getfield 112, 3) := by decide +kernel
theorem dX7_readAll_61 : decode cX7_readAll 61 = .ok (.aload_n 0, 1) := by decide +kernel
theorem dX7_readAll_62 : decode cX7_readAll 62 = .ok (.getfield 115, 3) := by decide +kernel
theorem dX7_readAll_65 : decode cX7_readAll 65 = .ok (.if_icmp .ge 13, 3) := by decide +kernel
theorem dX7_readAll_68 : decode cX7_readAll 68 = .ok (.bipush (-100), 2) := by decide +kernel
theorem dX7_readAll_70 : decode cX7_readAll 70 = .ok (.aload_n 0, 1) := by decide +kernel
theorem dX7_readAll_71 : decode cX7_readAll 71 = .ok (.getfield 112, 3) := by decide +kernel
theorem dX7_readAll_74 : decode cX7_readAll 74 = .ok (.isub, 1) := by decide +kernel
theorem dX7_readAll_75 : decode cX7_readAll 75 = .ok (.goto 4, 3) := by decide +kernel
theorem dX7_readAll_78 : decode cX7_readAll 78 = .ok (.iload_n 1, 1) := by decide +kernel
theorem dX7_readAll_79 : decode cX7_readAll 79 = .ok (.ireturn, 1) := by decide +kernel
theorem dX7_bookAll_0 : decode cX7_bookAll 0 = .ok (.aload_n 0, 1) := by decide +kernel
theorem dX7_bookAll_1 : decode cX7_bookAll 1 = .ok (.invokevirtual 124, 3) := by decide +kernel
theorem dX7_bookAll_4 : decode cX7_bookAll 4 = .ok (.istore_n 1, 1) := by decide +kernel
theorem dX7_bookAll_5 : decode cX7_bookAll 5 = .ok (.iload_n 1, 1) := by decide +kernel
theorem dX7_bookAll_6 : decode cX7_bookAll 6 = .ok (.ifCond .ge 5, 3) := by decide +kernel
theorem dX7_bookAll_9 : decode cX7_bookAll 9 = .ok (.iload_n 1, 1) := by decide +kernel
theorem dX7_bookAll_10 : decode cX7_bookAll 10 = .ok (.ireturn, 1) := by decide +kernel
theorem dX7_bookAll_11 : decode cX7_bookAll 11 = .ok (.aload_n 0, 1) := by decide +kernel
theorem dX7_bookAll_12 : decode cX7_bookAll 12 = .ok (.invokevirtual 127, 3) := by decide +kernel
theorem dX7_bookAll_15 : decode cX7_bookAll 15 = .ok (.aload_n 0, 1) := by decide +kernel
theorem dX7_bookAll_16 : decode cX7_bookAll 16 = .ok (.iconst 0, 1) := by decide +kernel
theorem dX7_bookAll_17 : decode cX7_bookAll 17 = .ok (.putfield 112, 3) := by decide +kernel
theorem dX7_bookAll_20 : decode cX7_bookAll 20 = .ok (.iconst 0, 1) := by decide +kernel
theorem dX7_bookAll_21 : decode cX7_bookAll 21 = .ok (.istore_n 2, 1) := by decide +kernel
theorem dX7_bookAll_22 : decode cX7_bookAll 22 = .ok (.iload_n 2, 1) := by decide +kernel
theorem dX7_bookAll_23 : decode cX7_bookAll 23 = .ok (.iload_n 1, 1) := by decide +kernel
theorem dX7_bookAll_24 : decode cX7_bookAll 24 = .ok (.if_icmp .ge 77, 3) := by decide +kernel
theorem dX7_bookAll_27 : decode cX7_bookAll 27 = .ok (.aload_n 0, 1) := by decide +kernel
theorem dX7_bookAll_28 : decode cX7_bookAll 28 = .ok (.invokevirtual 121, 3) := by decide +kernel
theorem dX7_bookAll_31 : decode cX7_bookAll 31 = .ok (.istore_n 3, 1) := by decide +kernel
theorem dX7_bookAll_32 : decode cX7_bookAll 32 = .ok (.aload_n 0, 1) := by decide +kernel
theorem dX7_bookAll_33 : decode cX7_bookAll 33 = .ok (.iload_n 3, 1) := by decide +kernel
theorem dX7_bookAll_34 : decode cX7_bookAll 34 = .ok (.bipush 100, 2) := by decide +kernel
theorem dX7_bookAll_36 : decode cX7_bookAll 36 = .ok (.idiv, 1) := by decide +kernel
theorem dX7_bookAll_37 : decode cX7_bookAll 37 = .ok (.iload_n 3, 1) := by decide +kernel
theorem dX7_bookAll_38 : decode cX7_bookAll 38 = .ok (.bipush 10, 2) := by decide +kernel
theorem dX7_bookAll_40 : decode cX7_bookAll 40 = .ok (.idiv, 1) := by decide +kernel
theorem dX7_bookAll_41 : decode cX7_bookAll 41 = .ok (.bipush 10, 2) := by decide +kernel
theorem dX7_bookAll_43 : decode cX7_bookAll 43 = .ok (.irem, 1) := by decide +kernel
theorem dX7_bookAll_44 : decode cX7_bookAll 44 = .ok (.iload_n 3, 1) := by decide +kernel
theorem dX7_bookAll_45 : decode cX7_bookAll 45 = .ok (.bipush 10, 2) := by decide +kernel
theorem dX7_bookAll_47 : decode cX7_bookAll 47 = .ok (.irem, 1) := by decide +kernel
theorem dX7_bookAll_48 : decode cX7_bookAll 48 = .ok (.invokevirtual 102, 3) := by decide +kernel
theorem dX7_bookAll_51 : decode cX7_bookAll 51 = .ok (.istore 4, 2) := by decide +kernel
theorem dX7_bookAll_53 : decode cX7_bookAll 53 = .ok (.iload 4, 2) := by decide +kernel
theorem dX7_bookAll_55 : decode cX7_bookAll 55 = .ok (.ifCond .ge 10, 3) := by decide +kernel
theorem dX7_bookAll_58 : decode cX7_bookAll 58 = .ok (.aload_n 0, 1) := by decide +kernel
theorem dX7_bookAll_59 : decode cX7_bookAll 59 = .ok (.invokevirtual 130, 3) := by decide +kernel
theorem dX7_bookAll_62 : decode cX7_bookAll 62 = .ok (.iload 4, 2) := by decide +kernel
theorem dX7_bookAll_64 : decode cX7_bookAll 64 = .ok (.ireturn, 1) := by decide +kernel
theorem dX7_bookAll_65 : decode cX7_bookAll 65 = .ok (.aload_n 0, 1) := by decide +kernel
theorem dX7_bookAll_66 : decode cX7_bookAll 66 = .ok (.iload_n 3, 1) := by decide +kernel
theorem dX7_bookAll_67 : decode cX7_bookAll 67 = .ok (.bipush 100, 2) := by decide +kernel
theorem dX7_bookAll_69 : decode cX7_bookAll 69 = .ok (.idiv, 1) := by decide +kernel
theorem dX7_bookAll_70 : decode cX7_bookAll 70 = .ok (.iload_n 3, 1) := by decide +kernel
theorem dX7_bookAll_71 : decode cX7_bookAll 71 = .ok (.bipush 10, 2) := by decide +kernel
theorem dX7_bookAll_73 : decode cX7_bookAll 73 = .ok (.idiv, 1) := by decide +kernel
theorem dX7_bookAll_74 : decode cX7_bookAll 74 = .ok (.bipush 10, 2) := by decide +kernel
theorem dX7_bookAll_76 : decode cX7_bookAll 76 = .ok (.irem, 1) := by decide +kernel
theorem dX7_bookAll_77 : decode cX7_bookAll 77 = .ok (.iload_n 3, 1) := by decide +kernel
theorem dX7_bookAll_78 : decode cX7_bookAll 78 = .ok (.bipush 10, 2) := by decide +kernel
theorem dX7_bookAll_80 : decode cX7_bookAll 80 = .ok (.irem, 1) := by decide +kernel
theorem dX7_bookAll_81 : decode cX7_bookAll 81 = .ok (.invokevirtual 109, 3) := by decide +kernel
theorem dX7_bookAll_84 : decode cX7_bookAll 84 = .ok (.pop, 1) := by decide +kernel
theorem dX7_bookAll_85 : decode cX7_bookAll 85 = .ok (.aload_n 0, 1) := by decide +kernel
theorem dX7_bookAll_86 : decode cX7_bookAll 86 = .ok (.dup, 1) := by decide +kernel
theorem dX7_bookAll_87 : decode cX7_bookAll 87 = .ok (.getfield 112, 3) := by decide +kernel
theorem dX7_bookAll_90 : decode cX7_bookAll 90 = .ok (.iconst 1, 1) := by decide +kernel
theorem dX7_bookAll_91 : decode cX7_bookAll 91 = .ok (.iadd, 1) := by decide +kernel
theorem dX7_bookAll_92 : decode cX7_bookAll 92 = .ok (.putfield 112, 3) := by decide +kernel
theorem dX7_bookAll_95 : decode cX7_bookAll 95 = .ok (.iinc 2 1, 3) := by decide +kernel
theorem dX7_bookAll_98 : decode cX7_bookAll 98 = .ok (.goto (-76), 3) := by decide +kernel
theorem dX7_bookAll_101 : decode cX7_bookAll 101 = .ok (.aload_n 0, 1) := by decide +kernel
theorem dX7_bookAll_102 : decode cX7_bookAll 102 = .ok (.invokevirtual 130, 3) := by decide +kernel
theorem dX7_bookAll_105 : decode cX7_bookAll 105 = .ok (.aload_n 0, 1) := by decide +kernel
theorem dX7_bookAll_106 : decode cX7_bookAll 106 = .ok (.invokevirtual 106, 3) := by decide +kernel
theorem dX7_bookAll_109 : decode cX7_bookAll 109 = .ok (.aload_n 0, 1) := by decide +kernel
theorem dX7_bookAll_110 : decode cX7_bookAll 110 = .ok (.iconst 0, 1) := by decide +kernel
theorem dX7_bookAll_111 : decode cX7_bookAll 111 = .ok (.putfield 112, 3) := by decide +kernel
theorem dX7_bookAll_114 : decode cX7_bookAll 114 = .ok (.iconst 0, 1) := by decide +kernel
theorem dX7_bookAll_115 : decode cX7_bookAll 115 = .ok (.istore_n 2, 1) := by decide +kernel
theorem dX7_bookAll_116 : decode cX7_bookAll 116 = .ok (.iload_n 2, 1) := by decide +kernel
theorem dX7_bookAll_117 : decode cX7_bookAll 117 = .ok (.iload_n 1, 1) := by decide +kernel
theorem dX7_bookAll_118 : decode cX7_bookAll 118 = .ok (.if_icmp .ge 44, 3) := by decide +kernel
theorem dX7_bookAll_121 : decode cX7_bookAll 121 = .ok (.aload_n 0, 1) := by decide +kernel
theorem dX7_bookAll_122 : decode cX7_bookAll 122 = .ok (.invokevirtual 121, 3) := by decide +kernel
theorem dX7_bookAll_125 : decode cX7_bookAll 125 = .ok (.istore_n 3, 1) := by decide +kernel
theorem dX7_bookAll_126 : decode cX7_bookAll 126 = .ok (.aload_n 0, 1) := by decide +kernel
theorem dX7_bookAll_127 : decode cX7_bookAll 127 = .ok (.iload_n 3, 1) := by decide +kernel
theorem dX7_bookAll_128 : decode cX7_bookAll 128 = .ok (.bipush 100, 2) := by decide +kernel
theorem dX7_bookAll_130 : decode cX7_bookAll 130 = .ok (.idiv, 1) := by decide +kernel
theorem dX7_bookAll_131 : decode cX7_bookAll 131 = .ok (.iload_n 3, 1) := by decide +kernel
theorem dX7_bookAll_132 : decode cX7_bookAll 132 = .ok (.bipush 10, 2) := by decide +kernel
theorem dX7_bookAll_134 : decode cX7_bookAll 134 = .ok (.idiv, 1) := by decide +kernel
theorem dX7_bookAll_135 : decode cX7_bookAll 135 = .ok (.bipush 10, 2) := by decide +kernel
theorem dX7_bookAll_137 : decode cX7_bookAll 137 = .ok (.irem, 1) := by decide +kernel
theorem dX7_bookAll_138 : decode cX7_bookAll 138 = .ok (.iload_n 3, 1) := by decide +kernel
theorem dX7_bookAll_139 : decode cX7_bookAll 139 = .ok (.bipush 10, 2) := by decide +kernel
theorem dX7_bookAll_141 : decode cX7_bookAll 141 = .ok (.irem, 1) := by decide +kernel
theorem dX7_bookAll_142 : decode cX7_bookAll 142 = .ok (.invokevirtual 109, 3) := by decide +kernel
theorem dX7_bookAll_145 : decode cX7_bookAll 145 = .ok (.pop, 1) := by decide +kernel
theorem dX7_bookAll_146 : decode cX7_bookAll 146 = .ok (.aload_n 0, 1) := by decide +kernel
theorem dX7_bookAll_147 : decode cX7_bookAll 147 = .ok (.dup, 1) := by decide +kernel
theorem dX7_bookAll_148 : decode cX7_bookAll 148 = .ok (.getfield 112, 3) := by decide +kernel
theorem dX7_bookAll_151 : decode cX7_bookAll 151 = .ok (.iconst 1, 1) := by decide +kernel
theorem dX7_bookAll_152 : decode cX7_bookAll 152 = .ok (.iadd, 1) := by decide +kernel
theorem dX7_bookAll_153 : decode cX7_bookAll 153 = .ok (.putfield 112, 3) := by decide +kernel
theorem dX7_bookAll_156 : decode cX7_bookAll 156 = .ok (.iinc 2 1, 3) := by decide +kernel
theorem dX7_bookAll_159 : decode cX7_bookAll 159 = .ok (.goto (-43), 3) := by decide +kernel
theorem dX7_bookAll_162 : decode cX7_bookAll 162 = .ok (.iload_n 1, 1) := by decide +kernel
theorem dX7_bookAll_163 : decode cX7_bookAll 163 = .ok (.ireturn, 1) := by decide +kernel
theorem dX7_refundOf_0 : decode cX7_refundOf 0 = .ok (.aload_n 0, 1) := by decide +kernel
theorem dX7_refundOf_1 : decode cX7_refundOf 1 = .ok (.iload_n 1, 1) := by decide +kernel
theorem dX7_refundOf_2 : decode cX7_refundOf 2 = .ok (.iconst 1, 1) := by decide +kernel
theorem dX7_refundOf_3 : decode cX7_refundOf 3 = .ok (.invokevirtual 29, 3) := by decide +kernel
theorem dX7_refundOf_6 : decode cX7_refundOf 6 = .ok (.istore_n 2, 1) := by decide +kernel
theorem dX7_refundOf_7 : decode cX7_refundOf 7 = .ok (.iload_n 2, 1) := by decide +kernel
theorem dX7_refundOf_8 : decode cX7_refundOf 8 = .ok (.aload_n 0, 1) := by decide +kernel
theorem dX7_refundOf_9 : decode cX7_refundOf 9 = .ok (.getfield 7, 3) := by decide +kernel
theorem dX7_refundOf_12 : decode cX7_refundOf 12 = .ok (.iconst 0, 1) := by decide +kernel
theorem dX7_refundOf_13 : decode cX7_refundOf 13 = .ok (.iaload, 1) := by decide +kernel
theorem dX7_refundOf_14 : decode cX7_refundOf 14 = .ok (.isub, 1) := by decide +kernel
theorem dX7_refundOf_15 : decode cX7_refundOf 15 = .ok (.aload_n 0, 1) := by decide +kernel
theorem dX7_refundOf_16 : decode cX7_refundOf 16 = .ok (.getfield 7, 3) := by decide +kernel
theorem dX7_refundOf_19 : decode cX7_refundOf 19 = .ok (.bipush 21, 2) := by decide +kernel
theorem dX7_refundOf_21 : decode cX7_refundOf 21 = .ok (.iaload, 1) := by decide +kernel
theorem dX7_refundOf_22 : decode cX7_refundOf 22 = .ok (.if_icmp .ge 11, 3) := by decide +kernel
theorem dX7_refundOf_25 : decode cX7_refundOf 25 = .ok (.aload_n 0, 1) := by decide +kernel
theorem dX7_refundOf_26 : decode cX7_refundOf 26 = .ok (.iload_n 2, 1) := by decide +kernel
theorem dX7_refundOf_27 : decode cX7_refundOf 27 = .ok (.invokevirtual 77, 3) := by decide +kernel
theorem dX7_refundOf_30 : decode cX7_refundOf 30 = .ok (.ifCond .ne 7, 3) := by decide +kernel
theorem dX7_refundOf_33 : decode cX7_refundOf 33 = .ok (.iconst 1, 1) := by decide +kernel
theorem dX7_refundOf_34 : decode cX7_refundOf 34 = .ok (.goto 4, 3) := by decide +kernel
theorem dX7_refundOf_37 : decode cX7_refundOf 37 = .ok (.iconst 0, 1) := by decide +kernel
theorem dX7_refundOf_38 : decode cX7_refundOf 38 = .ok (.istore_n 3, 1) := by decide +kernel
theorem dX7_refundOf_39 : decode cX7_refundOf 39 = .ok (.iload_n 3, 1) := by decide +kernel
theorem dX7_refundOf_40 : decode cX7_refundOf 40 = .ok (.ifCond .eq 12, 3) := by decide +kernel
theorem dX7_refundOf_43 : decode cX7_refundOf 43 = .ok (.aload_n 0, 1) := by decide +kernel
theorem dX7_refundOf_44 : decode cX7_refundOf 44 = .ok (.iload_n 1, 1) := by decide +kernel
theorem dX7_refundOf_45 : decode cX7_refundOf 45 = .ok (.iconst 5, 1) := by decide +kernel
theorem dX7_refundOf_46 : decode cX7_refundOf 46 = .ok (.invokevirtual 29, 3) := by decide +kernel
theorem dX7_refundOf_49 : decode cX7_refundOf 49 = .ok (.goto 4, 3) := by decide +kernel
theorem dX7_refundOf_52 : decode cX7_refundOf 52 = .ok (.iconst 0, 1) := by decide +kernel
theorem dX7_refundOf_53 : decode cX7_refundOf 53 = .ok (.ireturn, 1) := by decide +kernel
theorem dX7_refund_0 : decode cX7_refund 0 = .ok (.aload_n 0, 1) := by decide +kernel
theorem dX7_refund_1 : decode cX7_refund 1 = .ok (.iload_n 1, 1) := by decide +kernel
theorem dX7_refund_2 : decode cX7_refund 2 = .ok (.invokevirtual 133, 3) := by decide +kernel
theorem dX7_refund_5 : decode cX7_refund 5 = .ok (.ifCond .ne 6, 3) := by decide +kernel
theorem dX7_refund_8 : decode cX7_refund 8 = .ok (.ldc 136, 2) := by decide +kernel
theorem dX7_refund_10 : decode cX7_refund 10 = .ok (.ireturn, 1) := by decide +kernel
theorem dX7_refund_11 : decode cX7_refund 11 = .ok (.aload_n 0, 1) := by decide +kernel
theorem dX7_refund_12 : decode cX7_refund 12 = .ok (.iload_n 1, 1) := by decide +kernel
theorem dX7_refund_13 : decode cX7_refund 13 = .ok (.iconst 0, 1) := by decide +kernel
theorem dX7_refund_14 : decode cX7_refund 14 = .ok (.invokevirtual 41, 3) := by decide +kernel
theorem dX7_refund_17 : decode cX7_refund 17 = .ok (.ifCond .eq 11, 3) := by decide +kernel
theorem dX7_refund_20 : decode cX7_refund 20 = .ok (.aload_n 0, 1) := by decide +kernel
theorem dX7_refund_21 : decode cX7_refund 21 = .ok (.iload_n 1, 1) := by decide +kernel
theorem dX7_refund_22 : decode cX7_refund 22 = .ok (.invokevirtual 137, 3) := by decide +kernel
theorem dX7_refund_25 : decode cX7_refund 25 = .ok (.goto 5, 3) := by decide +kernel
theorem dX7_refund_28 : decode cX7_refund 28 = .ok (.ldc 99, 2) := by decide +kernel
theorem dX7_refund_30 : decode cX7_refund 30 = .ok (.ireturn, 1) := by decide +kernel
theorem dX7_cancel_0 : decode cX7_cancel 0 = .ok (.aload_n 0, 1) := by decide +kernel
theorem dX7_cancel_1 : decode cX7_cancel 1 = .ok (.iload_n 1, 1) := by decide +kernel
theorem dX7_cancel_2 : decode cX7_cancel 2 = .ok (.invokevirtual 140, 3) := by decide +kernel
theorem dX7_cancel_5 : decode cX7_cancel 5 = .ok (.istore_n 2, 1) := by decide +kernel
theorem dX7_cancel_6 : decode cX7_cancel 6 = .ok (.iload_n 2, 1) := by decide +kernel
theorem dX7_cancel_7 : decode cX7_cancel 7 = .ok (.ifCond .ge 5, 3) := by decide +kernel
theorem dX7_cancel_10 : decode cX7_cancel 10 = .ok (.iload_n 2, 1) := by decide +kernel
theorem dX7_cancel_11 : decode cX7_cancel 11 = .ok (.ireturn, 1) := by decide +kernel
theorem dX7_cancel_12 : decode cX7_cancel 12 = .ok (.aload_n 0, 1) := by decide +kernel
theorem dX7_cancel_13 : decode cX7_cancel 13 = .ok (.invokevirtual 106, 3) := by decide +kernel
theorem dX7_cancel_16 : decode cX7_cancel 16 = .ok (.aload_n 0, 1) := by decide +kernel
theorem dX7_cancel_17 : decode cX7_cancel 17 = .ok (.iload_n 1, 1) := by decide +kernel
theorem dX7_cancel_18 : decode cX7_cancel 18 = .ok (.iconst 0, 1) := by decide +kernel
theorem dX7_cancel_19 : decode cX7_cancel 19 = .ok (.iconst 3, 1) := by decide +kernel
theorem dX7_cancel_20 : decode cX7_cancel 20 = .ok (.invokevirtual 51, 3) := by decide +kernel
theorem dX7_cancel_23 : decode cX7_cancel 23 = .ok (.aload_n 0, 1) := by decide +kernel
theorem dX7_cancel_24 : decode cX7_cancel 24 = .ok (.getfield 7, 3) := by decide +kernel
theorem dX7_cancel_27 : decode cX7_cancel 27 = .ok (.bipush 14, 2) := by decide +kernel
theorem dX7_cancel_29 : decode cX7_cancel 29 = .ok (.dup2, 1) := by decide +kernel
theorem dX7_cancel_30 : decode cX7_cancel 30 = .ok (.iaload, 1) := by decide +kernel
theorem dX7_cancel_31 : decode cX7_cancel 31 = .ok (.iload_n 2, 1) := by decide +kernel
theorem dX7_cancel_32 : decode cX7_cancel 32 = .ok (.isub, 1) := by decide +kernel
theorem dX7_cancel_33 : decode cX7_cancel 33 = .ok (.iastore, 1) := by decide +kernel
theorem dX7_cancel_34 : decode cX7_cancel 34 = .ok (.aload_n 0, 1) := by decide +kernel
theorem dX7_cancel_35 : decode cX7_cancel 35 = .ok (.getfield 7, 3) := by decide +kernel
theorem dX7_cancel_38 : decode cX7_cancel 38 = .ok (.bipush 15, 2) := by decide +kernel
theorem dX7_cancel_40 : decode cX7_cancel 40 = .ok (.dup2, 1) := by decide +kernel
theorem dX7_cancel_41 : decode cX7_cancel 41 = .ok (.iaload, 1) := by decide +kernel
theorem dX7_cancel_42 : decode cX7_cancel 42 = .ok (.aload_n 0, 1) := by decide +kernel
theorem dX7_cancel_43 : decode cX7_cancel 43 = .ok (.iload_n 1, 1) := by decide +kernel
theorem dX7_cancel_44 : decode cX7_cancel 44 = .ok (.iconst 5, 1) := by decide +kernel
theorem dX7_cancel_45 : decode cX7_cancel 45 = .ok (.invokevirtual 29, 3) := by decide +kernel
theorem dX7_cancel_48 : decode cX7_cancel 48 = .ok (.iload_n 2, 1) := by decide +kernel
theorem dX7_cancel_49 : decode cX7_cancel 49 = .ok (.isub, 1) := by decide +kernel
theorem dX7_cancel_50 : decode cX7_cancel 50 = .ok (.iadd, 1) := by decide +kernel
theorem dX7_cancel_51 : decode cX7_cancel 51 = .ok (.iastore, 1) := by decide +kernel
theorem dX7_cancel_52 : decode cX7_cancel 52 = .ok (.iload_n 2, 1) := by decide +kernel
theorem dX7_cancel_53 : decode cX7_cancel 53 = .ok (.ireturn, 1) := by decide +kernel
theorem dX7_extend_0 : decode cX7_extend 0 = .ok (.aload_n 0, 1) := by decide +kernel
theorem dX7_extend_1 : decode cX7_extend 1 = .ok (.iload_n 1, 1) := by decide +kernel
theorem dX7_extend_2 : decode cX7_extend 2 = .ok (.invokevirtual 133, 3) := by decide +kernel
theorem dX7_extend_5 : decode cX7_extend 5 = .ok (.ifCond .ne 6, 3) := by decide +kernel
theorem dX7_extend_8 : decode cX7_extend 8 = .ok (.ldc 136, 2) := by decide +kernel
theorem dX7_extend_10 : decode cX7_extend 10 = .ok (.ireturn, 1) := by decide +kernel
theorem dX7_extend_11 : decode cX7_extend 11 = .ok (.iload_n 2, 1) := by decide +kernel
theorem dX7_extend_12 : decode cX7_extend 12 = .ok (.iconst 1, 1) := by decide +kernel
theorem dX7_extend_13 : decode cX7_extend 13 = .ok (.bipush 9, 2) := by decide +kernel
theorem dX7_extend_15 : decode cX7_extend 15 = .ok (.invokestatic 33, 3) := by decide +kernel
theorem dX7_extend_18 : decode cX7_extend 18 = .ok (.ifCond .ne 6, 3) := by decide +kernel
theorem dX7_extend_21 : decode cX7_extend 21 = .ok (.ldc 95, 2) := by decide +kernel
theorem dX7_extend_23 : decode cX7_extend 23 = .ok (.ireturn, 1) := by decide +kernel
theorem dX7_extend_24 : decode cX7_extend 24 = .ok (.aload_n 0, 1) := by decide +kernel
theorem dX7_extend_25 : decode cX7_extend 25 = .ok (.iload_n 1, 1) := by decide +kernel
theorem dX7_extend_26 : decode cX7_extend 26 = .ok (.invokevirtual 45, 3) := by decide +kernel
theorem dX7_extend_29 : decode cX7_extend 29 = .ok (.istore_n 3, 1) := by decide +kernel
theorem dX7_extend_30 : decode cX7_extend 30 = .ok (.aload_n 0, 1) := by decide +kernel
theorem dX7_extend_31 : decode cX7_extend 31 = .ok (.iload_n 1, 1) := by decide +kernel
theorem dX7_extend_32 : decode cX7_extend 32 = .ok (.iconst 1, 1) := by decide +kernel
theorem dX7_extend_33 : decode cX7_extend 33 = .ok (.invokevirtual 41, 3) := by decide +kernel
theorem dX7_extend_36 : decode cX7_extend 36 = .ok (.ifCond .eq 43, 3) := by decide +kernel
theorem dX7_extend_39 : decode cX7_extend 39 = .ok (.iload_n 3, 1) := by decide +kernel
theorem dX7_extend_40 : decode cX7_extend 40 = .ok (.aload_n 0, 1) := by decide +kernel
theorem dX7_extend_41 : decode cX7_extend 41 = .ok (.getfield 7, 3) := by decide +kernel
theorem dX7_extend_44 : decode cX7_extend 44 = .ok (.iconst 0, 1) := by decide +kernel
theorem dX7_extend_45 : decode cX7_extend 45 = .ok (.iaload, 1) := by decide +kernel
theorem dX7_extend_46 : decode cX7_extend 46 = .ok (.if_icmp .lt 33, 3) := by decide +kernel
theorem dX7_extend_49 : decode cX7_extend 49 = .ok (.aload_n 0, 1) := by decide +kernel
theorem dX7_extend_50 : decode cX7_extend 50 = .ok (.iload_n 1, 1) := by decide +kernel
theorem dX7_extend_51 : decode cX7_extend 51 = .ok (.iconst 2, 1) := by decide +kernel
theorem dX7_extend_52 : decode cX7_extend 52 = .ok (.invokevirtual 29, 3) := by decide +kernel
theorem dX7_extend_55 : decode cX7_extend 55 = .ok (.iload_n 2, 1) := by decide +kernel
theorem dX7_extend_56 : decode cX7_extend 56 = .ok (.iadd, 1) := by decide +kernel
theorem dX7_extend_57 : decode cX7_extend 57 = .ok (.bipush 9, 2) := by decide +kernel
theorem dX7_extend_59 : decode cX7_extend 59 = .ok (.if_icmp .gt 20, 3) := by decide +kernel
theorem dX7_extend_62 : decode cX7_extend 62 = .ok (.aload_n 0, 1) := by decide +kernel
theorem dX7_extend_63 : decode cX7_extend 63 = .ok (.iload_n 3, 1) := by decide +kernel
theorem dX7_extend_64 : decode cX7_extend 64 = .ok (.iload_n 3, 1) := by decide +kernel
theorem dX7_extend_65 : decode cX7_extend 65 = .ok (.iload_n 2, 1) := by decide +kernel
theorem dX7_extend_66 : decode cX7_extend 66 = .ok (.iadd, 1) := by decide +kernel
theorem dX7_extend_67 : decode cX7_extend 67 = .ok (.aload_n 0, 1) := by decide +kernel
theorem dX7_extend_68 : decode cX7_extend 68 = .ok (.iload_n 1, 1) := by decide +kernel
theorem dX7_extend_69 : decode cX7_extend 69 = .ok (.iconst 3, 1) := by decide +kernel
theorem dX7_extend_70 : decode cX7_extend 70 = .ok (.invokevirtual 29, 3) := by decide +kernel
theorem dX7_extend_73 : decode cX7_extend 73 = .ok (.invokevirtual 96, 3) := by decide +kernel
theorem dX7_extend_76 : decode cX7_extend 76 = .ok (.ifCond .ne 6, 3) := by decide +kernel
theorem dX7_extend_79 : decode cX7_extend 79 = .ok (.ldc 99, 2) := by decide +kernel
theorem dX7_extend_81 : decode cX7_extend 81 = .ok (.ireturn, 1) := by decide +kernel
theorem dX7_extend_82 : decode cX7_extend 82 = .ok (.aload_n 0, 1) := by decide +kernel
theorem dX7_extend_83 : decode cX7_extend 83 = .ok (.invokevirtual 106, 3) := by decide +kernel
theorem dX7_extend_86 : decode cX7_extend 86 = .ok (.aload_n 0, 1) := by decide +kernel
theorem dX7_extend_87 : decode cX7_extend 87 = .ok (.iload_n 1, 1) := by decide +kernel
theorem dX7_extend_88 : decode cX7_extend 88 = .ok (.iconst 2, 1) := by decide +kernel
theorem dX7_extend_89 : decode cX7_extend 89 = .ok (.aload_n 0, 1) := by decide +kernel
theorem dX7_extend_90 : decode cX7_extend 90 = .ok (.iload_n 1, 1) := by decide +kernel
theorem dX7_extend_91 : decode cX7_extend 91 = .ok (.iconst 2, 1) := by decide +kernel
theorem dX7_extend_92 : decode cX7_extend 92 = .ok (.invokevirtual 29, 3) := by decide +kernel
theorem dX7_extend_95 : decode cX7_extend 95 = .ok (.iload_n 2, 1) := by decide +kernel
theorem dX7_extend_96 : decode cX7_extend 96 = .ok (.iadd, 1) := by decide +kernel
theorem dX7_extend_97 : decode cX7_extend 97 = .ok (.invokevirtual 51, 3) := by decide +kernel
theorem dX7_extend_100 : decode cX7_extend 100 = .ok (.iload_n 3, 1) := by decide +kernel
theorem dX7_extend_101 : decode cX7_extend 101 = .ok (.iload_n 2, 1) := by decide +kernel
theorem dX7_extend_102 : decode cX7_extend 102 = .ok (.iadd, 1) := by decide +kernel
theorem dX7_extend_103 : decode cX7_extend 103 = .ok (.ireturn, 1) := by decide +kernel
theorem dX7_weather_0 : decode cX7_weather 0 = .ok (.iload_n 1, 1) := by decide +kernel
theorem dX7_weather_1 : decode cX7_weather 1 = .ok (.aload_n 0, 1) := by decide +kernel
theorem dX7_weather_2 : decode cX7_weather 2 = .ok (.getfield 7, 3) := by decide +kernel
theorem dX7_weather_5 : decode cX7_weather 5 = .ok (.iconst 0, 1) := by decide +kernel
theorem dX7_weather_6 : decode cX7_weather 6 = .ok (.iaload, 1) := by decide +kernel
theorem dX7_weather_7 : decode cX7_weather 7 = .ok (.sipush 999, 3) := by decide +kernel
theorem dX7_weather_10 : decode cX7_weather 10 = .ok (.invokestatic 33, 3) := by decide +kernel
theorem dX7_weather_13 : decode cX7_weather 13 = .ok (.ifCond .eq 24, 3) := by decide +kernel
theorem dX7_weather_16 : decode cX7_weather 16 = .ok (.iload_n 2, 1) := by decide +kernel
theorem dX7_weather_17 : decode cX7_weather 17 = .ok (.iload_n 1, 1) := by decide +kernel
theorem dX7_weather_18 : decode cX7_weather 18 = .ok (.sipush 999, 3) := by decide +kernel
theorem dX7_weather_21 : decode cX7_weather 21 = .ok (.invokestatic 33, 3) := by decide +kernel
theorem dX7_weather_24 : decode cX7_weather 24 = .ok (.ifCond .eq 13, 3) := by decide +kernel
theorem dX7_weather_27 : decode cX7_weather 27 = .ok (.iload_n 3, 1) := by decide +kernel
theorem dX7_weather_28 : decode cX7_weather 28 = .ok (.iconst 0, 1) := by decide +kernel
theorem dX7_weather_29 : decode cX7_weather 29 = .ok (.bipush 7, 2) := by decide +kernel
theorem dX7_weather_31 : decode cX7_weather 31 = .ok (.invokestatic 33, 3) := by decide +kernel
theorem dX7_weather_34 : decode cX7_weather 34 = .ok (.ifCond .ne 6, 3) := by decide +kernel
theorem dX7_weather_37 : decode cX7_weather 37 = .ok (.ldc 95, 2) := by decide +kernel
theorem dX7_weather_39 : decode cX7_weather 39 = .ok (.ireturn, 1) := by decide +kernel
theorem dX7_weather_40 : decode cX7_weather 40 = .ok (.iconst 0, 1) := by decide +kernel
theorem dX7_weather_41 : decode cX7_weather 41 = .ok (.istore 4, 2) := by decide +kernel
theorem dX7_weather_43 : decode cX7_weather 43 = .ok (.iload_n 1, 1) := by decide +kernel
theorem dX7_weather_44 : decode cX7_weather 44 = .ok (.istore 5, 2) := by decide +kernel
theorem dX7_weather_46 : decode cX7_weather 46 = .ok (.iload 5, 2) := by decide +kernel
theorem dX7_weather_48 : decode cX7_weather 48 = .ok (.iload_n 2, 1) := by decide +kernel
theorem dX7_weather_49 : decode cX7_weather 49 = .ok (.if_icmp .gt 29, 3) := by decide +kernel
theorem dX7_weather_52 : decode cX7_weather 52 = .ok (.iload 4, 2) := by decide +kernel
theorem dX7_weather_54 : decode cX7_weather 54 = .ok (.aload_n 0, 1) := by decide +kernel
theorem dX7_weather_55 : decode cX7_weather 55 = .ok (.iload 5, 2) := by decide +kernel
theorem dX7_weather_57 : decode cX7_weather 57 = .ok (.invokevirtual 37, 3) := by decide +kernel
theorem dX7_weather_60 : decode cX7_weather 60 = .ok (.iload_n 3, 1) := by decide +kernel
theorem dX7_weather_61 : decode cX7_weather 61 = .ok (.if_icmp .ne 7, 3) := by decide +kernel
theorem dX7_weather_64 : decode cX7_weather 64 = .ok (.iconst 0, 1) := by decide +kernel
theorem dX7_weather_65 : decode cX7_weather 65 = .ok (.goto 4, 3) := by decide +kernel
theorem dX7_weather_68 : decode cX7_weather 68 = .ok (.iconst 1, 1) := by decide +kernel
theorem dX7_weather_69 : decode cX7_weather 69 = .ok (.iadd, 1) := by decide +kernel
theorem dX7_weather_70 : decode cX7_weather 70 = .ok (.istore 4, 2) := by decide +kernel
theorem dX7_weather_72 : decode cX7_weather 72 = .ok (.iinc 5 1, 3) := by decide +kernel
theorem dX7_weather_75 : decode cX7_weather 75 = .ok (.goto (-29), 3) := by decide +kernel
theorem dX7_weather_78 : decode cX7_weather 78 = .ok (.iload 4, 2) := by decide +kernel
theorem dX7_weather_80 : decode cX7_weather 80 = .ok (.ifCond .ne 6, 3) := by decide +kernel
theorem dX7_weather_83 : decode cX7_weather 83 = .ok (.ldc 101, 2) := by decide +kernel
theorem dX7_weather_85 : decode cX7_weather 85 = .ok (.ireturn, 1) := by decide +kernel
theorem dX7_weather_86 : decode cX7_weather 86 = .ok (.aload_n 0, 1) := by decide +kernel
theorem dX7_weather_87 : decode cX7_weather 87 = .ok (.invokevirtual 106, 3) := by decide +kernel
theorem dX7_weather_90 : decode cX7_weather 90 = .ok (.iload_n 1, 1) := by decide +kernel
theorem dX7_weather_91 : decode cX7_weather 91 = .ok (.istore 5, 2) := by decide +kernel
theorem dX7_weather_93 : decode cX7_weather 93 = .ok (.iload 5, 2) := by decide +kernel
theorem dX7_weather_95 : decode cX7_weather 95 = .ok (.iload_n 2, 1) := by decide +kernel
theorem dX7_weather_96 : decode cX7_weather 96 = .ok (.if_icmp .gt 21, 3) := by decide +kernel
theorem dX7_weather_99 : decode cX7_weather 99 = .ok (.aload_n 0, 1) := by decide +kernel
theorem dX7_weather_100 : decode cX7_weather 100 = .ok (.getfield 7, 3) := by decide +kernel
theorem dX7_weather_103 : decode cX7_weather 103 = .ok (.sipush 611, 3) := by decide +kernel
theorem dX7_weather_106 : decode cX7_weather 106 = .ok (.iload 5, 2) := by decide +kernel
theorem dX7_weather_108 : decode cX7_weather 108 = .ok (.iadd, 1) := by decide +kernel
theorem dX7_weather_109 : decode cX7_weather 109 = .ok (.iload_n 3, 1) := by decide +kernel
theorem dX7_weather_110 : decode cX7_weather 110 = .ok (.iastore, 1) := by decide +kernel
theorem dX7_weather_111 : decode cX7_weather 111 = .ok (.iinc 5 1, 3) := by decide +kernel
theorem dX7_weather_114 : decode cX7_weather 114 = .ok (.goto (-21), 3) := by decide +kernel
theorem dX7_weather_117 : decode cX7_weather 117 = .ok (.iload 4, 2) := by decide +kernel
theorem dX7_weather_119 : decode cX7_weather 119 = .ok (.ireturn, 1) := by decide +kernel
theorem dX7_order_0 : decode cX7_order 0 = .ok (.iload_n 1, 1) := by decide +kernel
theorem dX7_order_1 : decode cX7_order 1 = .ok (.iconst 0, 1) := by decide +kernel
theorem dX7_order_2 : decode cX7_order 2 = .ok (.iconst 1, 1) := by decide +kernel
theorem dX7_order_3 : decode cX7_order 3 = .ok (.invokestatic 33, 3) := by decide +kernel
theorem dX7_order_6 : decode cX7_order 6 = .ok (.ifCond .eq 13, 3) := by decide +kernel
theorem dX7_order_9 : decode cX7_order 9 = .ok (.iload_n 2, 1) := by decide +kernel
theorem dX7_order_10 : decode cX7_order 10 = .ok (.iconst 1, 1) := by decide +kernel
theorem dX7_order_11 : decode cX7_order 11 = .ok (.bipush 99, 2) := by decide +kernel
theorem dX7_order_13 : decode cX7_order 13 = .ok (.invokestatic 33, 3) := by decide +kernel
theorem dX7_order_16 : decode cX7_order 16 = .ok (.ifCond .ne 6, 3) := by decide +kernel
theorem dX7_order_19 : decode cX7_order 19 = .ok (.ldc 95, 2) := by decide +kernel
theorem dX7_order_21 : decode cX7_order 21 = .ok (.ireturn, 1) := by decide +kernel
theorem dX7_order_22 : decode cX7_order 22 = .ok (.aload_n 0, 1) := by decide +kernel
theorem dX7_order_23 : decode cX7_order 23 = .ok (.getfield 7, 3) := by decide +kernel
theorem dX7_order_26 : decode cX7_order 26 = .ok (.iconst 3, 1) := by decide +kernel
theorem dX7_order_27 : decode cX7_order 27 = .ok (.iaload, 1) := by decide +kernel
theorem dX7_order_28 : decode cX7_order 28 = .ok (.bipush 12, 2) := by decide +kernel
theorem dX7_order_30 : decode cX7_order 30 = .ok (.if_icmp .ne 6, 3) := by decide +kernel
theorem dX7_order_33 : decode cX7_order 33 = .ok (.ldc 100, 2) := by decide +kernel
theorem dX7_order_35 : decode cX7_order 35 = .ok (.ireturn, 1) := by decide +kernel
theorem dX7_order_36 : decode cX7_order 36 = .ok (.aload_n 0, 1) := by decide +kernel
theorem dX7_order_37 : decode cX7_order 37 = .ok (.invokevirtual 106, 3) := by decide +kernel
theorem dX7_order_40 : decode cX7_order 40 = .ok (.aload_n 0, 1) := by decide +kernel
theorem dX7_order_41 : decode cX7_order 41 = .ok (.getfield 7, 3) := by decide +kernel
theorem dX7_order_44 : decode cX7_order 44 = .ok (.bipush 27, 2) := by decide +kernel
theorem dX7_order_46 : decode cX7_order 46 = .ok (.aload_n 0, 1) := by decide +kernel
theorem dX7_order_47 : decode cX7_order 47 = .ok (.getfield 7, 3) := by decide +kernel
theorem dX7_order_50 : decode cX7_order 50 = .ok (.iconst 3, 1) := by decide +kernel
theorem dX7_order_51 : decode cX7_order 51 = .ok (.iaload, 1) := by decide +kernel
theorem dX7_order_52 : decode cX7_order 52 = .ok (.iadd, 1) := by decide +kernel
theorem dX7_order_53 : decode cX7_order 53 = .ok (.iload_n 1, 1) := by decide +kernel
theorem dX7_order_54 : decode cX7_order 54 = .ok (.iastore, 1) := by decide +kernel
theorem dX7_order_55 : decode cX7_order 55 = .ok (.aload_n 0, 1) := by decide +kernel
theorem dX7_order_56 : decode cX7_order 56 = .ok (.getfield 7, 3) := by decide +kernel
theorem dX7_order_59 : decode cX7_order 59 = .ok (.bipush 39, 2) := by decide +kernel
theorem dX7_order_61 : decode cX7_order 61 = .ok (.aload_n 0, 1) := by decide +kernel
theorem dX7_order_62 : decode cX7_order 62 = .ok (.getfield 7, 3) := by decide +kernel
theorem dX7_order_65 : decode cX7_order 65 = .ok (.iconst 3, 1) := by decide +kernel
theorem dX7_order_66 : decode cX7_order 66 = .ok (.iaload, 1) := by decide +kernel
theorem dX7_order_67 : decode cX7_order 67 = .ok (.iadd, 1) := by decide +kernel
theorem dX7_order_68 : decode cX7_order 68 = .ok (.iload_n 2, 1) := by decide +kernel
theorem dX7_order_69 : decode cX7_order 69 = .ok (.iastore, 1) := by decide +kernel
theorem dX7_order_70 : decode cX7_order 70 = .ok (.aload_n 0, 1) := by decide +kernel
theorem dX7_order_71 : decode cX7_order 71 = .ok (.getfield 7, 3) := by decide +kernel
theorem dX7_order_74 : decode cX7_order 74 = .ok (.iconst 3, 1) := by decide +kernel
theorem dX7_order_75 : decode cX7_order 75 = .ok (.dup2, 1) := by decide +kernel
theorem dX7_order_76 : decode cX7_order 76 = .ok (.iaload, 1) := by decide +kernel
theorem dX7_order_77 : decode cX7_order 77 = .ok (.iconst 1, 1) := by decide +kernel
theorem dX7_order_78 : decode cX7_order 78 = .ok (.iadd, 1) := by decide +kernel
theorem dX7_order_79 : decode cX7_order 79 = .ok (.iastore, 1) := by decide +kernel
theorem dX7_order_80 : decode cX7_order 80 = .ok (.aload_n 0, 1) := by decide +kernel
theorem dX7_order_81 : decode cX7_order 81 = .ok (.getfield 7, 3) := by decide +kernel
theorem dX7_order_84 : decode cX7_order 84 = .ok (.iconst 3, 1) := by decide +kernel
theorem dX7_order_85 : decode cX7_order 85 = .ok (.iaload, 1) := by decide +kernel
theorem dX7_order_86 : decode cX7_order 86 = .ok (.ireturn, 1) := by decide +kernel
theorem dX7_recall_0 : decode cX7_recall 0 = .ok (.aload_n 0, 1) := by decide +kernel
theorem dX7_recall_1 : decode cX7_recall 1 = .ok (.getfield 7, 3) := by decide +kernel
theorem dX7_recall_4 : decode cX7_recall 4 = .ok (.iconst 3, 1) := by decide +kernel
theorem dX7_recall_5 : decode cX7_recall 5 = .ok (.iaload, 1) := by decide +kernel
theorem dX7_recall_6 : decode cX7_recall 6 = .ok (.ifCond .ne 6, 3) := by decide +kernel
theorem dX7_recall_9 : decode cX7_recall 9 = .ok (.ldc 101, 2) := by decide +kernel
theorem dX7_recall_11 : decode cX7_recall 11 = .ok (.ireturn, 1) := by decide +kernel
theorem dX7_recall_12 : decode cX7_recall 12 = .ok (.aload_n 0, 1) := by decide +kernel
theorem dX7_recall_13 : decode cX7_recall 13 = .ok (.getfield 7, 3) := by decide +kernel
theorem dX7_recall_16 : decode cX7_recall 16 = .ok (.bipush 39, 2) := by decide +kernel
theorem dX7_recall_18 : decode cX7_recall 18 = .ok (.aload_n 0, 1) := by decide +kernel
theorem dX7_recall_19 : decode cX7_recall 19 = .ok (.getfield 7, 3) := by decide +kernel
theorem dX7_recall_22 : decode cX7_recall 22 = .ok (.iconst 3, 1) := by decide +kernel
theorem dX7_recall_23 : decode cX7_recall 23 = .ok (.iaload, 1) := by decide +kernel
theorem dX7_recall_24 : decode cX7_recall 24 = .ok (.iadd, 1) := by decide +kernel
theorem dX7_recall_25 : decode cX7_recall 25 = .ok (.iconst 1, 1) := by decide +kernel
theorem dX7_recall_26 : decode cX7_recall 26 = .ok (.isub, 1) := by decide +kernel
theorem dX7_recall_27 : decode cX7_recall 27 = .ok (.iaload, 1) := by decide +kernel
theorem dX7_recall_28 : decode cX7_recall 28 = .ok (.istore_n 1, 1) := by decide +kernel
theorem dX7_recall_29 : decode cX7_recall 29 = .ok (.aload_n 0, 1) := by decide +kernel
theorem dX7_recall_30 : decode cX7_recall 30 = .ok (.invokevirtual 106, 3) := by decide +kernel
theorem dX7_recall_33 : decode cX7_recall 33 = .ok (.aload_n 0, 1) := by decide +kernel
theorem dX7_recall_34 : decode cX7_recall 34 = .ok (.aload_n 0, 1) := by decide +kernel
theorem dX7_recall_35 : decode cX7_recall 35 = .ok (.getfield 7, 3) := by decide +kernel
theorem dX7_recall_38 : decode cX7_recall 38 = .ok (.iconst 3, 1) := by decide +kernel
theorem dX7_recall_39 : decode cX7_recall 39 = .ok (.iaload, 1) := by decide +kernel
theorem dX7_recall_40 : decode cX7_recall 40 = .ok (.iconst 1, 1) := by decide +kernel
theorem dX7_recall_41 : decode cX7_recall 41 = .ok (.isub, 1) := by decide +kernel
theorem dX7_recall_42 : decode cX7_recall 42 = .ok (.invokevirtual 63, 3) := by decide +kernel
theorem dX7_recall_45 : decode cX7_recall 45 = .ok (.iload_n 1, 1) := by decide +kernel
theorem dX7_recall_46 : decode cX7_recall 46 = .ok (.ireturn, 1) := by decide +kernel
theorem dX7_flight_0 : decode cX7_flight 0 = .ok (.aload_n 0, 1) := by decide +kernel
theorem dX7_flight_1 : decode cX7_flight 1 = .ok (.getfield 7, 3) := by decide +kernel
theorem dX7_flight_4 : decode cX7_flight 4 = .ok (.iconst 4, 1) := by decide +kernel
theorem dX7_flight_5 : decode cX7_flight 5 = .ok (.iaload, 1) := by decide +kernel
theorem dX7_flight_6 : decode cX7_flight 6 = .ok (.iconst 1, 1) := by decide +kernel
theorem dX7_flight_7 : decode cX7_flight 7 = .ok (.if_icmp .ne 7, 3) := by decide +kernel
theorem dX7_flight_10 : decode cX7_flight 10 = .ok (.iconst 1, 1) := by decide +kernel
theorem dX7_flight_11 : decode cX7_flight 11 = .ok (.goto 4, 3) := by decide +kernel
theorem dX7_flight_14 : decode cX7_flight 14 = .ok (.iconst 0, 1) := by decide +kernel
theorem dX7_flight_15 : decode cX7_flight 15 = .ok (.iload_n 1, 1) := by decide +kernel
theorem dX7_flight_16 : decode cX7_flight 16 = .ok (.if_icmp .ne 6, 3) := by decide +kernel
theorem dX7_flight_19 : decode cX7_flight 19 = .ok (.ldc 101, 2) := by decide +kernel
theorem dX7_flight_21 : decode cX7_flight 21 = .ok (.ireturn, 1) := by decide +kernel
theorem dX7_flight_22 : decode cX7_flight 22 = .ok (.aload_n 0, 1) := by decide +kernel
theorem dX7_flight_23 : decode cX7_flight 23 = .ok (.invokevirtual 106, 3) := by decide +kernel
theorem dX7_flight_26 : decode cX7_flight 26 = .ok (.aload_n 0, 1) := by decide +kernel
theorem dX7_flight_27 : decode cX7_flight 27 = .ok (.getfield 7, 3) := by decide +kernel
theorem dX7_flight_30 : decode cX7_flight 30 = .ok (.iconst 4, 1) := by decide +kernel
theorem dX7_flight_31 : decode cX7_flight 31 = .ok (.iload_n 1, 1) := by decide +kernel
theorem dX7_flight_32 : decode cX7_flight 32 = .ok (.ifCond .eq 7, 3) := by decide +kernel
theorem dX7_flight_35 : decode cX7_flight 35 = .ok (.iconst 1, 1) := by decide +kernel
theorem dX7_flight_36 : decode cX7_flight 36 = .ok (.goto 4, 3) := by decide +kernel
theorem dX7_flight_39 : decode cX7_flight 39 = .ok (.iconst 0, 1) := by decide +kernel
theorem dX7_flight_40 : decode cX7_flight 40 = .ok (.iastore, 1) := by decide +kernel
theorem dX7_flight_41 : decode cX7_flight 41 = .ok (.aload_n 0, 1) := by decide +kernel
theorem dX7_flight_42 : decode cX7_flight 42 = .ok (.getfield 7, 3) := by decide +kernel
theorem dX7_flight_45 : decode cX7_flight 45 = .ok (.iconst 5, 1) := by decide +kernel
theorem dX7_flight_46 : decode cX7_flight 46 = .ok (.iaload, 1) := by decide +kernel
theorem dX7_flight_47 : decode cX7_flight 47 = .ok (.ireturn, 1) := by decide +kernel
theorem dX7_pass_0 : decode cX7_pass 0 = .ok (.iload_n 1, 1) := by decide +kernel
theorem dX7_pass_1 : decode cX7_pass 1 = .ok (.iconst 1, 1) := by decide +kernel
theorem dX7_pass_2 : decode cX7_pass 2 = .ok (.bipush 30, 2) := by decide +kernel
theorem dX7_pass_4 : decode cX7_pass 4 = .ok (.invokestatic 33, 3) := by decide +kernel
theorem dX7_pass_7 : decode cX7_pass 7 = .ok (.ifCond .ne 6, 3) := by decide +kernel
theorem dX7_pass_10 : decode cX7_pass 10 = .ok (.ldc 95, 2) := by decide +kernel
theorem dX7_pass_12 : decode cX7_pass 12 = .ok (.ireturn, 1) := by decide +kernel
theorem dX7_pass_13 : decode cX7_pass 13 = .ok (.aload_n 0, 1) := by decide +kernel
theorem dX7_pass_14 : decode cX7_pass 14 = .ok (.getfield 7, 3) := by decide +kernel
theorem dX7_pass_17 : decode cX7_pass 17 = .ok (.iconst 0, 1) := by decide +kernel
theorem dX7_pass_18 : decode cX7_pass 18 = .ok (.iaload, 1) := by decide +kernel
theorem dX7_pass_19 : decode cX7_pass 19 = .ok (.iload_n 1, 1) := by decide +kernel
theorem dX7_pass_20 : decode cX7_pass 20 = .ok (.iadd, 1) := by decide +kernel
theorem dX7_pass_21 : decode cX7_pass 21 = .ok (.sipush 999, 3) := by decide +kernel
theorem dX7_pass_24 : decode cX7_pass 24 = .ok (.if_icmp .le 6, 3) := by decide +kernel
theorem dX7_pass_27 : decode cX7_pass 27 = .ok (.ldc 100, 2) := by decide +kernel
theorem dX7_pass_29 : decode cX7_pass 29 = .ok (.ireturn, 1) := by decide +kernel
theorem dX7_pass_30 : decode cX7_pass 30 = .ok (.aload_n 0, 1) := by decide +kernel
theorem dX7_pass_31 : decode cX7_pass 31 = .ok (.invokevirtual 106, 3) := by decide +kernel
theorem dX7_pass_34 : decode cX7_pass 34 = .ok (.iconst 0, 1) := by decide +kernel
theorem dX7_pass_35 : decode cX7_pass 35 = .ok (.istore_n 2, 1) := by decide +kernel
theorem dX7_pass_36 : decode cX7_pass 36 = .ok (.iload_n 2, 1) := by decide +kernel
theorem dX7_pass_37 : decode cX7_pass 37 = .ok (.iload_n 1, 1) := by decide +kernel
theorem dX7_pass_38 : decode cX7_pass 38 = .ok (.if_icmp .ge 13, 3) := by decide +kernel
theorem dX7_pass_41 : decode cX7_pass 41 = .ok (.aload_n 0, 1) := by decide +kernel
theorem dX7_pass_42 : decode cX7_pass 42 = .ok (.invokevirtual 143, 3) := by decide +kernel
theorem dX7_pass_45 : decode cX7_pass 45 = .ok (.iinc 2 1, 3) := by decide +kernel
theorem dX7_pass_48 : decode cX7_pass 48 = .ok (.goto (-12), 3) := by decide +kernel
theorem dX7_pass_51 : decode cX7_pass 51 = .ok (.aload_n 0, 1) := by decide +kernel
theorem dX7_pass_52 : decode cX7_pass 52 = .ok (.getfield 7, 3) := by decide +kernel
theorem dX7_pass_55 : decode cX7_pass 55 = .ok (.iconst 0, 1) := by decide +kernel
theorem dX7_pass_56 : decode cX7_pass 56 = .ok (.iaload, 1) := by decide +kernel
theorem dX7_pass_57 : decode cX7_pass 57 = .ok (.ireturn, 1) := by decide +kernel
theorem dX7_most_0 : decode cX7_most 0 = .ok (.iload_n 0, 1) := by decide +kernel
theorem dX7_most_1 : decode cX7_most 1 = .ok (.tableswitch 71 0 9 #[55, 58, 71, 71, 61, 61, 64, 71, 58, 67], 55) := by decide +kernel
theorem dX7_most_56 : decode cX7_most 56 = .ok (.bipush 40, 2) := by decide +kernel
theorem dX7_most_58 : decode cX7_most 58 = .ok (.ireturn, 1) := by decide +kernel
theorem dX7_most_59 : decode cX7_most 59 = .ok (.bipush 20, 2) := by decide +kernel
theorem dX7_most_61 : decode cX7_most 61 = .ok (.ireturn, 1) := by decide +kernel
theorem dX7_most_62 : decode cX7_most 62 = .ok (.bipush 30, 2) := by decide +kernel
theorem dX7_most_64 : decode cX7_most 64 = .ok (.ireturn, 1) := by decide +kernel
theorem dX7_most_65 : decode cX7_most 65 = .ok (.bipush 50, 2) := by decide +kernel
theorem dX7_most_67 : decode cX7_most 67 = .ok (.ireturn, 1) := by decide +kernel
theorem dX7_most_68 : decode cX7_most 68 = .ok (.sipush 999, 3) := by decide +kernel
theorem dX7_most_71 : decode cX7_most 71 = .ok (.ireturn, 1) := by decide +kernel
theorem dX7_most_72 : decode cX7_most 72 = .ok (.bipush 99, 2) := by decide +kernel
theorem dX7_most_74 : decode cX7_most 74 = .ok (.ireturn, 1) := by decide +kernel
theorem dX7_set_0 : decode cX7_set 0 = .ok (.iload_n 1, 1) := by decide +kernel
theorem dX7_set_1 : decode cX7_set 1 = .ok (.iconst 0, 1) := by decide +kernel
theorem dX7_set_2 : decode cX7_set 2 = .ok (.bipush 9, 2) := by decide +kernel
theorem dX7_set_4 : decode cX7_set 4 = .ok (.invokestatic 33, 3) := by decide +kernel
theorem dX7_set_7 : decode cX7_set 7 = .ok (.ifCond .eq 28, 3) := by decide +kernel
theorem dX7_set_10 : decode cX7_set 10 = .ok (.iload_n 2, 1) := by decide +kernel
theorem dX7_set_11 : decode cX7_set 11 = .ok (.iload_n 1, 1) := by decide +kernel
theorem dX7_set_12 : decode cX7_set 12 = .ok (.ifCond .eq 8, 3) := by decide +kernel
theorem dX7_set_15 : decode cX7_set 15 = .ok (.iload_n 1, 1) := by decide +kernel
theorem dX7_set_16 : decode cX7_set 16 = .ok (.iconst 5, 1) := by decide +kernel
theorem dX7_set_17 : decode cX7_set 17 = .ok (.if_icmp .ne 7, 3) := by decide +kernel
theorem dX7_set_20 : decode cX7_set 20 = .ok (.iconst 1, 1) := by decide +kernel
theorem dX7_set_21 : decode cX7_set 21 = .ok (.goto 4, 3) := by decide +kernel
theorem dX7_set_24 : decode cX7_set 24 = .ok (.iconst 0, 1) := by decide +kernel
theorem dX7_set_25 : decode cX7_set 25 = .ok (.iload_n 1, 1) := by decide +kernel
theorem dX7_set_26 : decode cX7_set 26 = .ok (.invokestatic 146, 3) := by decide +kernel
theorem dX7_set_29 : decode cX7_set 29 = .ok (.invokestatic 33, 3) := by decide +kernel
theorem dX7_set_32 : decode cX7_set 32 = .ok (.ifCond .ne 6, 3) := by decide +kernel
theorem dX7_set_35 : decode cX7_set 35 = .ok (.ldc 95, 2) := by decide +kernel
theorem dX7_set_37 : decode cX7_set 37 = .ok (.ireturn, 1) := by decide +kernel
theorem dX7_set_38 : decode cX7_set 38 = .ok (.aload_n 0, 1) := by decide +kernel
theorem dX7_set_39 : decode cX7_set 39 = .ok (.getfield 7, 3) := by decide +kernel
theorem dX7_set_42 : decode cX7_set 42 = .ok (.bipush 17, 2) := by decide +kernel
theorem dX7_set_44 : decode cX7_set 44 = .ok (.iload_n 1, 1) := by decide +kernel
theorem dX7_set_45 : decode cX7_set 45 = .ok (.iadd, 1) := by decide +kernel
theorem dX7_set_46 : decode cX7_set 46 = .ok (.iaload, 1) := by decide +kernel
theorem dX7_set_47 : decode cX7_set 47 = .ok (.istore_n 3, 1) := by decide +kernel
theorem dX7_set_48 : decode cX7_set 48 = .ok (.iload_n 3, 1) := by decide +kernel
theorem dX7_set_49 : decode cX7_set 49 = .ok (.iload_n 2, 1) := by decide +kernel
theorem dX7_set_50 : decode cX7_set 50 = .ok (.if_icmp .ne 6, 3) := by decide +kernel
theorem dX7_set_53 : decode cX7_set 53 = .ok (.ldc 101, 2) := by decide +kernel
theorem dX7_set_55 : decode cX7_set 55 = .ok (.ireturn, 1) := by decide +kernel
theorem dX7_set_56 : decode cX7_set 56 = .ok (.aload_n 0, 1) := by decide +kernel
theorem dX7_set_57 : decode cX7_set 57 = .ok (.getfield 7, 3) := by decide +kernel
theorem dX7_set_60 : decode cX7_set 60 = .ok (.iconst 0, 1) := by decide +kernel
theorem dX7_set_61 : decode cX7_set 61 = .ok (.iaload, 1) := by decide +kernel
theorem dX7_set_62 : decode cX7_set 62 = .ok (.istore 4, 2) := by decide +kernel
theorem dX7_set_64 : decode cX7_set 64 = .ok (.iload 4, 2) := by decide +kernel
theorem dX7_set_66 : decode cX7_set 66 = .ok (.sipush 999, 3) := by decide +kernel
theorem dX7_set_69 : decode cX7_set 69 = .ok (.if_icmp .gt 26, 3) := by decide +kernel
theorem dX7_set_72 : decode cX7_set 72 = .ok (.iload_n 1, 1) := by decide +kernel
theorem dX7_set_73 : decode cX7_set 73 = .ok (.ifCond .ne 22, 3) := by decide +kernel
theorem dX7_set_76 : decode cX7_set 76 = .ok (.aload_n 0, 1) := by decide +kernel
theorem dX7_set_77 : decode cX7_set 77 = .ok (.iload 4, 2) := by decide +kernel
theorem dX7_set_79 : decode cX7_set 79 = .ok (.invokevirtual 48, 3) := by decide +kernel
theorem dX7_set_82 : decode cX7_set 82 = .ok (.iload_n 2, 1) := by decide +kernel
theorem dX7_set_83 : decode cX7_set 83 = .ok (.if_icmp .le 6, 3) := by decide +kernel
theorem dX7_set_86 : decode cX7_set 86 = .ok (.ldc 99, 2) := by decide +kernel
theorem dX7_set_88 : decode cX7_set 88 = .ok (.ireturn, 1) := by decide +kernel
theorem dX7_set_89 : decode cX7_set 89 = .ok (.iinc 4 1, 3) := by decide +kernel
theorem dX7_set_92 : decode cX7_set 92 = .ok (.goto (-28), 3) := by decide +kernel
theorem dX7_set_95 : decode cX7_set 95 = .ok (.aload_n 0, 1) := by decide +kernel
theorem dX7_set_96 : decode cX7_set 96 = .ok (.invokevirtual 106, 3) := by decide +kernel
theorem dX7_set_99 : decode cX7_set 99 = .ok (.aload_n 0, 1) := by decide +kernel
theorem dX7_set_100 : decode cX7_set 100 = .ok (.getfield 7, 3) := by decide +kernel
theorem dX7_set_103 : decode cX7_set 103 = .ok (.bipush 17, 2) := by decide +kernel
theorem dX7_set_105 : decode cX7_set 105 = .ok (.iload_n 1, 1) := by decide +kernel
theorem dX7_set_106 : decode cX7_set 106 = .ok (.iadd, 1) := by decide +kernel
theorem dX7_set_107 : decode cX7_set 107 = .ok (.iload_n 2, 1) := by decide +kernel
theorem dX7_set_108 : decode cX7_set 108 = .ok (.iastore, 1) := by decide +kernel
theorem dX7_set_109 : decode cX7_set 109 = .ok (.iload_n 3, 1) := by decide +kernel
theorem dX7_set_110 : decode cX7_set 110 = .ok (.ireturn, 1) := by decide +kernel
theorem dX7_type_0 : decode cX7_type 0 = .ok (.aload_n 0, 1) := by decide +kernel
theorem dX7_type_1 : decode cX7_type 1 = .ok (.getfield 115, 3) := by decide +kernel
theorem dX7_type_4 : decode cX7_type 4 = .ok (.bipush 60, 2) := by decide +kernel
theorem dX7_type_6 : decode cX7_type 6 = .ok (.if_icmp .ne 6, 3) := by decide +kernel
theorem dX7_type_9 : decode cX7_type 9 = .ok (.ldc 100, 2) := by decide +kernel
theorem dX7_type_11 : decode cX7_type 11 = .ok (.ireturn, 1) := by decide +kernel
theorem dX7_type_12 : decode cX7_type 12 = .ok (.aload_n 0, 1) := by decide +kernel
theorem dX7_type_13 : decode cX7_type 13 = .ok (.getfield 22, 3) := by decide +kernel
theorem dX7_type_16 : decode cX7_type 16 = .ok (.aload_n 0, 1) := by decide +kernel
theorem dX7_type_17 : decode cX7_type 17 = .ok (.getfield 115, 3) := by decide +kernel
theorem dX7_type_20 : decode cX7_type 20 = .ok (.iload_n 1, 1) := by decide +kernel
theorem dX7_type_21 : decode cX7_type 21 = .ok (.iastore, 1) := by decide +kernel
theorem dX7_type_22 : decode cX7_type 22 = .ok (.aload_n 0, 1) := by decide +kernel
theorem dX7_type_23 : decode cX7_type 23 = .ok (.dup, 1) := by decide +kernel
theorem dX7_type_24 : decode cX7_type 24 = .ok (.getfield 115, 3) := by decide +kernel
theorem dX7_type_27 : decode cX7_type 27 = .ok (.iconst 1, 1) := by decide +kernel
theorem dX7_type_28 : decode cX7_type 28 = .ok (.iadd, 1) := by decide +kernel
theorem dX7_type_29 : decode cX7_type 29 = .ok (.putfield 115, 3) := by decide +kernel
theorem dX7_type_32 : decode cX7_type 32 = .ok (.aload_n 0, 1) := by decide +kernel
theorem dX7_type_33 : decode cX7_type 33 = .ok (.getfield 115, 3) := by decide +kernel
theorem dX7_type_36 : decode cX7_type 36 = .ok (.ireturn, 1) := by decide +kernel
theorem dX7_clearText_0 : decode cX7_clearText 0 = .ok (.aload_n 0, 1) := by decide +kernel
theorem dX7_clearText_1 : decode cX7_clearText 1 = .ok (.getfield 115, 3) := by decide +kernel
theorem dX7_clearText_4 : decode cX7_clearText 4 = .ok (.istore_n 1, 1) := by decide +kernel
theorem dX7_clearText_5 : decode cX7_clearText 5 = .ok (.aload_n 0, 1) := by decide +kernel
theorem dX7_clearText_6 : decode cX7_clearText 6 = .ok (.iconst 0, 1) := by decide +kernel
theorem dX7_clearText_7 : decode cX7_clearText 7 = .ok (.putfield 115, 3) := by decide +kernel
theorem dX7_clearText_10 : decode cX7_clearText 10 = .ok (.iload_n 1, 1) := by decide +kernel
theorem dX7_clearText_11 : decode cX7_clearText 11 = .ok (.ireturn, 1) := by decide +kernel
theorem dX7_fault_0 : decode cX7_fault 0 = .ok (.aload_n 0, 1) := by decide +kernel
theorem dX7_fault_1 : decode cX7_fault 1 = .ok (.invokevirtual 124, 3) := by decide +kernel
theorem dX7_fault_4 : decode cX7_fault 4 = .ok (.istore_n 1, 1) := by decide +kernel
theorem dX7_fault_5 : decode cX7_fault 5 = .ok (.iload_n 1, 1) := by decide +kernel
theorem dX7_fault_6 : decode cX7_fault 6 = .ok (.ifCond .ge 10, 3) := by decide +kernel
theorem dX7_fault_9 : decode cX7_fault 9 = .ok (.bipush (-100), 2) := by decide +kernel
theorem dX7_fault_11 : decode cX7_fault 11 = .ok (.iload_n 1, 1) := by decide +kernel
theorem dX7_fault_12 : decode cX7_fault 12 = .ok (.isub, 1) := by decide +kernel
theorem dX7_fault_13 : decode cX7_fault 13 = .ok (.goto 5, 3) := by decide +kernel
theorem dX7_fault_16 : decode cX7_fault 16 = .ok (.ldc 101, 2) := by decide +kernel
theorem dX7_fault_18 : decode cX7_fault 18 = .ok (.ireturn, 1) := by decide +kernel
theorem dX7_undo_0 : decode cX7_undo 0 = .ok (.aload_n 0, 1) := by decide +kernel
theorem dX7_undo_1 : decode cX7_undo 1 = .ok (.getfield 25, 3) := by decide +kernel
theorem dX7_undo_4 : decode cX7_undo 4 = .ok (.ifCond .ne 6, 3) := by decide +kernel
theorem dX7_undo_7 : decode cX7_undo 7 = .ok (.ldc 101, 2) := by decide +kernel
theorem dX7_undo_9 : decode cX7_undo 9 = .ok (.ireturn, 1) := by decide +kernel
theorem dX7_undo_10 : decode cX7_undo 10 = .ok (.aload_n 0, 1) := by decide +kernel
theorem dX7_undo_11 : decode cX7_undo 11 = .ok (.dup, 1) := by decide +kernel
theorem dX7_undo_12 : decode cX7_undo 12 = .ok (.getfield 25, 3) := by decide +kernel
theorem dX7_undo_15 : decode cX7_undo 15 = .ok (.iconst 1, 1) := by decide +kernel
theorem dX7_undo_16 : decode cX7_undo 16 = .ok (.isub, 1) := by decide +kernel
theorem dX7_undo_17 : decode cX7_undo 17 = .ok (.putfield 25, 3) := by decide +kernel
theorem dX7_undo_20 : decode cX7_undo 20 = .ok (.iconst 0, 1) := by decide +kernel
theorem dX7_undo_21 : decode cX7_undo 21 = .ok (.istore_n 1, 1) := by decide +kernel
theorem dX7_undo_22 : decode cX7_undo 22 = .ok (.iload_n 1, 1) := by decide +kernel
theorem dX7_undo_23 : decode cX7_undo 23 = .ok (.sipush 2739, 3) := by decide +kernel
end
section
theorem dX7_undo_26 : decode cX7_undo 26 = .ok (.if_icmp .ge 30, 3) := by decide +kernel
theorem dX7_undo_29 : decode cX7_undo 29 = .ok (.aload_n 0, 1) := by decide +kernel
theorem dX7_undo_30 : decode cX7_undo 30 = .ok (.getfield 7, 3) := by decide +kernel
theorem dX7_undo_33 : decode cX7_undo 33 = .ok (.iload_n 1, 1) := by decide +kernel
theorem dX7_undo_34 : decode cX7_undo 34 = .ok (.aload_n 0, 1) := by decide +kernel
theorem dX7_undo_35 : decode cX7_undo 35 = .ok (.getfield 19, 3) := by decide +kernel
theorem dX7_undo_38 : decode cX7_undo 38 = .ok (.sipush 2739, 3) := by decide +kernel
theorem dX7_undo_41 : decode cX7_undo 41 = .ok (.aload_n 0, 1) := by decide +kernel
theorem dX7_undo_42 : decode cX7_undo 42 = .ok (.getfield 25, 3) := by decide +kernel
theorem dX7_undo_45 : decode cX7_undo 45 = .ok (.imul, 1) := by decide +kernel
theorem dX7_undo_46 : decode cX7_undo 46 = .ok (.iload_n 1, 1) := by decide +kernel
theorem dX7_undo_47 : decode cX7_undo 47 = .ok (.iadd, 1) := by decide +kernel
theorem dX7_undo_48 : decode cX7_undo 48 = .ok (.iaload, 1) := by decide +kernel
theorem dX7_undo_49 : decode cX7_undo 49 = .ok (.iastore, 1) := by decide +kernel
theorem dX7_undo_50 : decode cX7_undo 50 = .ok (.iinc 1 1, 3) := by decide +kernel
theorem dX7_undo_53 : decode cX7_undo 53 = .ok (.goto (-31), 3) := by decide +kernel
theorem dX7_undo_56 : decode cX7_undo 56 = .ok (.aload_n 0, 1) := by decide +kernel
theorem dX7_undo_57 : decode cX7_undo 57 = .ok (.getfield 25, 3) := by decide +kernel
theorem dX7_undo_60 : decode cX7_undo 60 = .ok (.ireturn, 1) := by decide +kernel
theorem dX7_keep_0 : decode cX7_keep 0 = .ok (.iconst 0, 1) := by decide +kernel
theorem dX7_keep_1 : decode cX7_keep 1 = .ok (.istore_n 1, 1) := by decide +kernel
theorem dX7_keep_2 : decode cX7_keep 2 = .ok (.iload_n 1, 1) := by decide +kernel
theorem dX7_keep_3 : decode cX7_keep 3 = .ok (.sipush 2739, 3) := by decide +kernel
theorem dX7_keep_6 : decode cX7_keep 6 = .ok (.if_icmp .ge 21, 3) := by decide +kernel
theorem dX7_keep_9 : decode cX7_keep 9 = .ok (.aload_n 0, 1) := by decide +kernel
theorem dX7_keep_10 : decode cX7_keep 10 = .ok (.getfield 13, 3) := by decide +kernel
theorem dX7_keep_13 : decode cX7_keep 13 = .ok (.iload_n 1, 1) := by decide +kernel
theorem dX7_keep_14 : decode cX7_keep 14 = .ok (.aload_n 0, 1) := by decide +kernel
theorem dX7_keep_15 : decode cX7_keep 15 = .ok (.getfield 7, 3) := by decide +kernel
theorem dX7_keep_18 : decode cX7_keep 18 = .ok (.iload_n 1, 1) := by decide +kernel
theorem dX7_keep_19 : decode cX7_keep 19 = .ok (.iaload, 1) := by decide +kernel
theorem dX7_keep_20 : decode cX7_keep 20 = .ok (.iastore, 1) := by decide +kernel
theorem dX7_keep_21 : decode cX7_keep 21 = .ok (.iinc 1 1, 3) := by decide +kernel
theorem dX7_keep_24 : decode cX7_keep 24 = .ok (.goto (-22), 3) := by decide +kernel
theorem dX7_keep_27 : decode cX7_keep 27 = .ok (.aload_n 0, 1) := by decide +kernel
theorem dX7_keep_28 : decode cX7_keep 28 = .ok (.iconst 1, 1) := by decide +kernel
theorem dX7_keep_29 : decode cX7_keep 29 = .ok (.putfield 149, 3) := by decide +kernel
theorem dX7_keep_32 : decode cX7_keep 32 = .ok (.aload_n 0, 1) := by decide +kernel
theorem dX7_keep_33 : decode cX7_keep 33 = .ok (.getfield 7, 3) := by decide +kernel
theorem dX7_keep_36 : decode cX7_keep 36 = .ok (.iconst 0, 1) := by decide +kernel
theorem dX7_keep_37 : decode cX7_keep 37 = .ok (.iaload, 1) := by decide +kernel
theorem dX7_keep_38 : decode cX7_keep 38 = .ok (.ireturn, 1) := by decide +kernel
theorem dX7_restore_0 : decode cX7_restore 0 = .ok (.aload_n 0, 1) := by decide +kernel
theorem dX7_restore_1 : decode cX7_restore 1 = .ok (.getfield 149, 3) := by decide +kernel
theorem dX7_restore_4 : decode cX7_restore 4 = .ok (.ifCond .ne 6, 3) := by decide +kernel
theorem dX7_restore_7 : decode cX7_restore 7 = .ok (.ldc 101, 2) := by decide +kernel
theorem dX7_restore_9 : decode cX7_restore 9 = .ok (.ireturn, 1) := by decide +kernel
theorem dX7_restore_10 : decode cX7_restore 10 = .ok (.aload_n 0, 1) := by decide +kernel
theorem dX7_restore_11 : decode cX7_restore 11 = .ok (.invokevirtual 106, 3) := by decide +kernel
theorem dX7_restore_14 : decode cX7_restore 14 = .ok (.iconst 0, 1) := by decide +kernel
theorem dX7_restore_15 : decode cX7_restore 15 = .ok (.istore_n 1, 1) := by decide +kernel
theorem dX7_restore_16 : decode cX7_restore 16 = .ok (.iload_n 1, 1) := by decide +kernel
theorem dX7_restore_17 : decode cX7_restore 17 = .ok (.sipush 2739, 3) := by decide +kernel
theorem dX7_restore_20 : decode cX7_restore 20 = .ok (.if_icmp .ge 21, 3) := by decide +kernel
theorem dX7_restore_23 : decode cX7_restore 23 = .ok (.aload_n 0, 1) := by decide +kernel
theorem dX7_restore_24 : decode cX7_restore 24 = .ok (.getfield 7, 3) := by decide +kernel
theorem dX7_restore_27 : decode cX7_restore 27 = .ok (.iload_n 1, 1) := by decide +kernel
theorem dX7_restore_28 : decode cX7_restore 28 = .ok (.aload_n 0, 1) := by decide +kernel
theorem dX7_restore_29 : decode cX7_restore 29 = .ok (.getfield 13, 3) := by decide +kernel
theorem dX7_restore_32 : decode cX7_restore 32 = .ok (.iload_n 1, 1) := by decide +kernel
theorem dX7_restore_33 : decode cX7_restore 33 = .ok (.iaload, 1) := by decide +kernel
theorem dX7_restore_34 : decode cX7_restore 34 = .ok (.iastore, 1) := by decide +kernel
theorem dX7_restore_35 : decode cX7_restore 35 = .ok (.iinc 1 1, 3) := by decide +kernel
theorem dX7_restore_38 : decode cX7_restore 38 = .ok (.goto (-22), 3) := by decide +kernel
theorem dX7_restore_41 : decode cX7_restore 41 = .ok (.aload_n 0, 1) := by decide +kernel
theorem dX7_restore_42 : decode cX7_restore 42 = .ok (.getfield 7, 3) := by decide +kernel
theorem dX7_restore_45 : decode cX7_restore 45 = .ok (.iconst 0, 1) := by decide +kernel
theorem dX7_restore_46 : decode cX7_restore 46 = .ok (.iaload, 1) := by decide +kernel
theorem dX7_restore_47 : decode cX7_restore 47 = .ok (.ireturn, 1) := by decide +kernel
theorem dX7_booking_0 : decode cX7_booking 0 = .ok (.aload_n 0, 1) := by decide +kernel
theorem dX7_booking_1 : decode cX7_booking 1 = .ok (.iload_n 1, 1) := by decide +kernel
theorem dX7_booking_2 : decode cX7_booking 2 = .ok (.invokevirtual 133, 3) := by decide +kernel
theorem dX7_booking_5 : decode cX7_booking 5 = .ok (.ifCond .ne 6, 3) := by decide +kernel
theorem dX7_booking_8 : decode cX7_booking 8 = .ok (.ldc 136, 2) := by decide +kernel
theorem dX7_booking_10 : decode cX7_booking 10 = .ok (.ireturn, 1) := by decide +kernel
theorem dX7_booking_11 : decode cX7_booking 11 = .ok (.iload_n 2, 1) := by decide +kernel
theorem dX7_booking_12 : decode cX7_booking 12 = .ok (.tableswitch 150 0 8 #[52, 59, 66, 73, 80, 86, 93, 135, 142], 52) := by decide +kernel
theorem dX7_booking_64 : decode cX7_booking 64 = .ok (.aload_n 0, 1) := by decide +kernel
theorem dX7_booking_65 : decode cX7_booking 65 = .ok (.iload_n 1, 1) := by decide +kernel
theorem dX7_booking_66 : decode cX7_booking 66 = .ok (.iconst 0, 1) := by decide +kernel
theorem dX7_booking_67 : decode cX7_booking 67 = .ok (.invokevirtual 29, 3) := by decide +kernel
theorem dX7_booking_70 : decode cX7_booking 70 = .ok (.ireturn, 1) := by decide +kernel
theorem dX7_booking_71 : decode cX7_booking 71 = .ok (.aload_n 0, 1) := by decide +kernel
theorem dX7_booking_72 : decode cX7_booking 72 = .ok (.iload_n 1, 1) := by decide +kernel
theorem dX7_booking_73 : decode cX7_booking 73 = .ok (.iconst 1, 1) := by decide +kernel
theorem dX7_booking_74 : decode cX7_booking 74 = .ok (.invokevirtual 29, 3) := by decide +kernel
theorem dX7_booking_77 : decode cX7_booking 77 = .ok (.ireturn, 1) := by decide +kernel
theorem dX7_booking_78 : decode cX7_booking 78 = .ok (.aload_n 0, 1) := by decide +kernel
theorem dX7_booking_79 : decode cX7_booking 79 = .ok (.iload_n 1, 1) := by decide +kernel
theorem dX7_booking_80 : decode cX7_booking 80 = .ok (.iconst 2, 1) := by decide +kernel
theorem dX7_booking_81 : decode cX7_booking 81 = .ok (.invokevirtual 29, 3) := by decide +kernel
theorem dX7_booking_84 : decode cX7_booking 84 = .ok (.ireturn, 1) := by decide +kernel
theorem dX7_booking_85 : decode cX7_booking 85 = .ok (.aload_n 0, 1) := by decide +kernel
theorem dX7_booking_86 : decode cX7_booking 86 = .ok (.iload_n 1, 1) := by decide +kernel
theorem dX7_booking_87 : decode cX7_booking 87 = .ok (.iconst 3, 1) := by decide +kernel
theorem dX7_booking_88 : decode cX7_booking 88 = .ok (.invokevirtual 29, 3) := by decide +kernel
theorem dX7_booking_91 : decode cX7_booking 91 = .ok (.ireturn, 1) := by decide +kernel
theorem dX7_booking_92 : decode cX7_booking 92 = .ok (.aload_n 0, 1) := by decide +kernel
theorem dX7_booking_93 : decode cX7_booking 93 = .ok (.iload_n 1, 1) := by decide +kernel
theorem dX7_booking_94 : decode cX7_booking 94 = .ok (.invokevirtual 45, 3) := by decide +kernel
theorem dX7_booking_97 : decode cX7_booking 97 = .ok (.ireturn, 1) := by decide +kernel
theorem dX7_booking_98 : decode cX7_booking 98 = .ok (.aload_n 0, 1) := by decide +kernel
theorem dX7_booking_99 : decode cX7_booking 99 = .ok (.iload_n 1, 1) := by decide +kernel
theorem dX7_booking_100 : decode cX7_booking 100 = .ok (.iconst 4, 1) := by decide +kernel
theorem dX7_booking_101 : decode cX7_booking 101 = .ok (.invokevirtual 29, 3) := by decide +kernel
theorem dX7_booking_104 : decode cX7_booking 104 = .ok (.ireturn, 1) := by decide +kernel
theorem dX7_booking_105 : decode cX7_booking 105 = .ok (.aload_n 0, 1) := by decide +kernel
theorem dX7_booking_106 : decode cX7_booking 106 = .ok (.iload_n 1, 1) := by decide +kernel
theorem dX7_booking_107 : decode cX7_booking 107 = .ok (.iconst 1, 1) := by decide +kernel
theorem dX7_booking_108 : decode cX7_booking 108 = .ok (.invokevirtual 41, 3) := by decide +kernel
theorem dX7_booking_111 : decode cX7_booking 111 = .ok (.ifCond .eq 34, 3) := by decide +kernel
theorem dX7_booking_114 : decode cX7_booking 114 = .ok (.aload_n 0, 1) := by decide +kernel
theorem dX7_booking_115 : decode cX7_booking 115 = .ok (.iload_n 1, 1) := by decide +kernel
theorem dX7_booking_116 : decode cX7_booking 116 = .ok (.invokevirtual 45, 3) := by decide +kernel
theorem dX7_booking_119 : decode cX7_booking 119 = .ok (.aload_n 0, 1) := by decide +kernel
theorem dX7_booking_120 : decode cX7_booking 120 = .ok (.getfield 7, 3) := by decide +kernel
theorem dX7_booking_123 : decode cX7_booking 123 = .ok (.iconst 0, 1) := by decide +kernel
theorem dX7_booking_124 : decode cX7_booking 124 = .ok (.iaload, 1) := by decide +kernel
theorem dX7_booking_125 : decode cX7_booking 125 = .ok (.if_icmp .gt 20, 3) := by decide +kernel
theorem dX7_booking_128 : decode cX7_booking 128 = .ok (.aload_n 0, 1) := by decide +kernel
theorem dX7_booking_129 : decode cX7_booking 129 = .ok (.aload_n 0, 1) := by decide +kernel
theorem dX7_booking_130 : decode cX7_booking 130 = .ok (.getfield 7, 3) := by decide +kernel
theorem dX7_booking_133 : decode cX7_booking 133 = .ok (.iconst 0, 1) := by decide +kernel
theorem dX7_booking_134 : decode cX7_booking 134 = .ok (.iaload, 1) := by decide +kernel
theorem dX7_booking_135 : decode cX7_booking 135 = .ok (.invokevirtual 73, 3) := by decide +kernel
theorem dX7_booking_138 : decode cX7_booking 138 = .ok (.ifCond .ne 7, 3) := by decide +kernel
theorem dX7_booking_141 : decode cX7_booking 141 = .ok (.iconst 1, 1) := by decide +kernel
theorem dX7_booking_142 : decode cX7_booking 142 = .ok (.goto 4, 3) := by decide +kernel
theorem dX7_booking_145 : decode cX7_booking 145 = .ok (.iconst 0, 1) := by decide +kernel
theorem dX7_booking_146 : decode cX7_booking 146 = .ok (.ireturn, 1) := by decide +kernel
theorem dX7_booking_147 : decode cX7_booking 147 = .ok (.aload_n 0, 1) := by decide +kernel
theorem dX7_booking_148 : decode cX7_booking 148 = .ok (.iload_n 1, 1) := by decide +kernel
theorem dX7_booking_149 : decode cX7_booking 149 = .ok (.iconst 5, 1) := by decide +kernel
theorem dX7_booking_150 : decode cX7_booking 150 = .ok (.invokevirtual 29, 3) := by decide +kernel
theorem dX7_booking_153 : decode cX7_booking 153 = .ok (.ireturn, 1) := by decide +kernel
theorem dX7_booking_154 : decode cX7_booking 154 = .ok (.aload_n 0, 1) := by decide +kernel
theorem dX7_booking_155 : decode cX7_booking 155 = .ok (.iload_n 1, 1) := by decide +kernel
theorem dX7_booking_156 : decode cX7_booking 156 = .ok (.bipush 6, 2) := by decide +kernel
theorem dX7_booking_158 : decode cX7_booking 158 = .ok (.invokevirtual 29, 3) := by decide +kernel
theorem dX7_booking_161 : decode cX7_booking 161 = .ok (.ireturn, 1) := by decide +kernel
theorem dX7_booking_162 : decode cX7_booking 162 = .ok (.ldc 95, 2) := by decide +kernel
theorem dX7_booking_164 : decode cX7_booking 164 = .ok (.ireturn, 1) := by decide +kernel
theorem dX7_day_0 : decode cX7_day 0 = .ok (.iload_n 1, 1) := by decide +kernel
theorem dX7_day_1 : decode cX7_day 1 = .ok (.iconst 0, 1) := by decide +kernel
theorem dX7_day_2 : decode cX7_day 2 = .ok (.sipush 999, 3) := by decide +kernel
theorem dX7_day_5 : decode cX7_day 5 = .ok (.invokestatic 33, 3) := by decide +kernel
theorem dX7_day_8 : decode cX7_day 8 = .ok (.ifCond .eq 12, 3) := by decide +kernel
theorem dX7_day_11 : decode cX7_day 11 = .ok (.iload_n 2, 1) := by decide +kernel
theorem dX7_day_12 : decode cX7_day 12 = .ok (.iconst 0, 1) := by decide +kernel
theorem dX7_day_13 : decode cX7_day 13 = .ok (.iconst 4, 1) := by decide +kernel
theorem dX7_day_14 : decode cX7_day 14 = .ok (.invokestatic 33, 3) := by decide +kernel
theorem dX7_day_17 : decode cX7_day 17 = .ok (.ifCond .ne 6, 3) := by decide +kernel
theorem dX7_day_20 : decode cX7_day 20 = .ok (.ldc 95, 2) := by decide +kernel
theorem dX7_day_22 : decode cX7_day 22 = .ok (.ireturn, 1) := by decide +kernel
theorem dX7_day_23 : decode cX7_day 23 = .ok (.iload_n 2, 1) := by decide +kernel
theorem dX7_day_24 : decode cX7_day 24 = .ok (.iconst 2, 1) := by decide +kernel
theorem dX7_day_25 : decode cX7_day 25 = .ok (.if_icmp .ge 29, 3) := by decide +kernel
theorem dX7_day_28 : decode cX7_day 28 = .ok (.iload_n 2, 1) := by decide +kernel
theorem dX7_day_29 : decode cX7_day 29 = .ok (.ifCond .ne 11, 3) := by decide +kernel
theorem dX7_day_32 : decode cX7_day 32 = .ok (.aload_n 0, 1) := by decide +kernel
theorem dX7_day_33 : decode cX7_day 33 = .ok (.iload_n 1, 1) := by decide +kernel
theorem dX7_day_34 : decode cX7_day 34 = .ok (.invokevirtual 48, 3) := by decide +kernel
theorem dX7_day_37 : decode cX7_day 37 = .ok (.goto 16, 3) := by decide +kernel
theorem dX7_day_40 : decode cX7_day 40 = .ok (.aload_n 0, 1) := by decide +kernel
theorem dX7_day_41 : decode cX7_day 41 = .ok (.getfield 7, 3) := by decide +kernel
theorem dX7_day_44 : decode cX7_day 44 = .ok (.bipush 17, 2) := by decide +kernel
theorem dX7_day_46 : decode cX7_day 46 = .ok (.iaload, 1) := by decide +kernel
theorem dX7_day_47 : decode cX7_day 47 = .ok (.aload_n 0, 1) := by decide +kernel
theorem dX7_day_48 : decode cX7_day 48 = .ok (.iload_n 1, 1) := by decide +kernel
theorem dX7_day_49 : decode cX7_day 49 = .ok (.invokevirtual 48, 3) := by decide +kernel
theorem dX7_day_52 : decode cX7_day 52 = .ok (.isub, 1) := by decide +kernel
theorem dX7_day_53 : decode cX7_day 53 = .ok (.ireturn, 1) := by decide +kernel
theorem dX7_day_54 : decode cX7_day 54 = .ok (.iload_n 2, 1) := by decide +kernel
theorem dX7_day_55 : decode cX7_day 55 = .ok (.iconst 2, 1) := by decide +kernel
theorem dX7_day_56 : decode cX7_day 56 = .ok (.if_icmp .ne 9, 3) := by decide +kernel
theorem dX7_day_59 : decode cX7_day 59 = .ok (.aload_n 0, 1) := by decide +kernel
theorem dX7_day_60 : decode cX7_day 60 = .ok (.iload_n 1, 1) := by decide +kernel
theorem dX7_day_61 : decode cX7_day 61 = .ok (.invokevirtual 37, 3) := by decide +kernel
theorem dX7_day_64 : decode cX7_day 64 = .ok (.ireturn, 1) := by decide +kernel
theorem dX7_day_65 : decode cX7_day 65 = .ok (.iconst 0, 1) := by decide +kernel
theorem dX7_day_66 : decode cX7_day 66 = .ok (.istore_n 3, 1) := by decide +kernel
theorem dX7_day_67 : decode cX7_day 67 = .ok (.iconst 0, 1) := by decide +kernel
theorem dX7_day_68 : decode cX7_day 68 = .ok (.istore 4, 2) := by decide +kernel
theorem dX7_day_70 : decode cX7_day 70 = .ok (.iload 4, 2) := by decide +kernel
theorem dX7_day_72 : decode cX7_day 72 = .ok (.aload_n 0, 1) := by decide +kernel
theorem dX7_day_73 : decode cX7_day 73 = .ok (.getfield 7, 3) := by decide +kernel
theorem dX7_day_76 : decode cX7_day 76 = .ok (.iconst 1, 1) := by decide +kernel
theorem dX7_day_77 : decode cX7_day 77 = .ok (.iaload, 1) := by decide +kernel
theorem dX7_day_78 : decode cX7_day 78 = .ok (.if_icmp .ge 84, 3) := by decide +kernel
theorem dX7_day_81 : decode cX7_day 81 = .ok (.iload_n 2, 1) := by decide +kernel
theorem dX7_day_82 : decode cX7_day 82 = .ok (.iconst 3, 1) := by decide +kernel
theorem dX7_day_83 : decode cX7_day 83 = .ok (.if_icmp .ne 32, 3) := by decide +kernel
theorem dX7_day_86 : decode cX7_day 86 = .ok (.aload_n 0, 1) := by decide +kernel
theorem dX7_day_87 : decode cX7_day 87 = .ok (.iload 4, 2) := by decide +kernel
theorem dX7_day_89 : decode cX7_day 89 = .ok (.iconst 0, 1) := by decide +kernel
theorem dX7_day_90 : decode cX7_day 90 = .ok (.invokevirtual 41, 3) := by decide +kernel
theorem dX7_day_93 : decode cX7_day 93 = .ok (.ifCond .eq 18, 3) := by decide +kernel
theorem dX7_day_96 : decode cX7_day 96 = .ok (.aload_n 0, 1) := by decide +kernel
theorem dX7_day_97 : decode cX7_day 97 = .ok (.iload 4, 2) := by decide +kernel
theorem dX7_day_99 : decode cX7_day 99 = .ok (.iconst 1, 1) := by decide +kernel
theorem dX7_day_100 : decode cX7_day 100 = .ok (.invokevirtual 29, 3) := by decide +kernel
theorem dX7_day_103 : decode cX7_day 103 = .ok (.iload_n 1, 1) := by decide +kernel
theorem dX7_day_104 : decode cX7_day 104 = .ok (.if_icmp .ne 7, 3) := by decide +kernel
theorem dX7_day_107 : decode cX7_day 107 = .ok (.iconst 1, 1) := by decide +kernel
theorem dX7_day_108 : decode cX7_day 108 = .ok (.goto 33, 3) := by decide +kernel
theorem dX7_day_111 : decode cX7_day 111 = .ok (.iconst 0, 1) := by decide +kernel
theorem dX7_day_112 : decode cX7_day 112 = .ok (.goto 29, 3) := by decide +kernel
theorem dX7_day_115 : decode cX7_day 115 = .ok (.aload_n 0, 1) := by decide +kernel
theorem dX7_day_116 : decode cX7_day 116 = .ok (.iload 4, 2) := by decide +kernel
theorem dX7_day_118 : decode cX7_day 118 = .ok (.iconst 0, 1) := by decide +kernel
theorem dX7_day_119 : decode cX7_day 119 = .ok (.invokevirtual 29, 3) := by decide +kernel
theorem dX7_day_122 : decode cX7_day 122 = .ok (.iconst 1, 1) := by decide +kernel
theorem dX7_day_123 : decode cX7_day 123 = .ok (.if_icmp .gt 17, 3) := by decide +kernel
theorem dX7_day_126 : decode cX7_day 126 = .ok (.aload_n 0, 1) := by decide +kernel
theorem dX7_day_127 : decode cX7_day 127 = .ok (.iload 4, 2) := by decide +kernel
theorem dX7_day_129 : decode cX7_day 129 = .ok (.invokevirtual 45, 3) := by decide +kernel
theorem dX7_day_132 : decode cX7_day 132 = .ok (.iload_n 1, 1) := by decide +kernel
theorem dX7_day_133 : decode cX7_day 133 = .ok (.if_icmp .ne 7, 3) := by decide +kernel
theorem dX7_day_136 : decode cX7_day 136 = .ok (.iconst 1, 1) := by decide +kernel
theorem dX7_day_137 : decode cX7_day 137 = .ok (.goto 4, 3) := by decide +kernel
theorem dX7_day_140 : decode cX7_day 140 = .ok (.iconst 0, 1) := by decide +kernel
theorem dX7_day_141 : decode cX7_day 141 = .ok (.istore 5, 2) := by decide +kernel
theorem dX7_day_143 : decode cX7_day 143 = .ok (.iload_n 3, 1) := by decide +kernel
theorem dX7_day_144 : decode cX7_day 144 = .ok (.iload 5, 2) := by decide +kernel
theorem dX7_day_146 : decode cX7_day 146 = .ok (.ifCond .eq 7, 3) := by decide +kernel
theorem dX7_day_149 : decode cX7_day 149 = .ok (.iconst 1, 1) := by decide +kernel
theorem dX7_day_150 : decode cX7_day 150 = .ok (.goto 4, 3) := by decide +kernel
theorem dX7_day_153 : decode cX7_day 153 = .ok (.iconst 0, 1) := by decide +kernel
theorem dX7_day_154 : decode cX7_day 154 = .ok (.iadd, 1) := by decide +kernel
theorem dX7_day_155 : decode cX7_day 155 = .ok (.istore_n 3, 1) := by decide +kernel
theorem dX7_day_156 : decode cX7_day 156 = .ok (.iinc 4 1, 3) := by decide +kernel
theorem dX7_day_159 : decode cX7_day 159 = .ok (.goto (-89), 3) := by decide +kernel
theorem dX7_day_162 : decode cX7_day 162 = .ok (.iload_n 3, 1) := by decide +kernel
theorem dX7_day_163 : decode cX7_day 163 = .ok (.ireturn, 1) := by decide +kernel
theorem dX7_fresh_0 : decode cX7_fresh 0 = .ok (.iload_n 1, 1) := by decide +kernel
theorem dX7_fresh_1 : decode cX7_fresh 1 = .ok (.ifCond .lt 12, 3) := by decide +kernel
theorem dX7_fresh_4 : decode cX7_fresh 4 = .ok (.iload_n 2, 1) := by decide +kernel
theorem dX7_fresh_5 : decode cX7_fresh 5 = .ok (.iconst 0, 1) := by decide +kernel
theorem dX7_fresh_6 : decode cX7_fresh 6 = .ok (.iconst 1, 1) := by decide +kernel
theorem dX7_fresh_7 : decode cX7_fresh 7 = .ok (.invokestatic 33, 3) := by decide +kernel
theorem dX7_fresh_10 : decode cX7_fresh 10 = .ok (.ifCond .ne 6, 3) := by decide +kernel
theorem dX7_fresh_13 : decode cX7_fresh 13 = .ok (.ldc 95, 2) := by decide +kernel
theorem dX7_fresh_15 : decode cX7_fresh 15 = .ok (.ireturn, 1) := by decide +kernel
theorem dX7_fresh_16 : decode cX7_fresh 16 = .ok (.iload_n 1, 1) := by decide +kernel
theorem dX7_fresh_17 : decode cX7_fresh 17 = .ok (.istore_n 3, 1) := by decide +kernel
theorem dX7_fresh_18 : decode cX7_fresh 18 = .ok (.iconst 0, 1) := by decide +kernel
theorem dX7_fresh_19 : decode cX7_fresh 19 = .ok (.istore 4, 2) := by decide +kernel
theorem dX7_fresh_21 : decode cX7_fresh 21 = .ok (.iload 4, 2) := by decide +kernel
theorem dX7_fresh_23 : decode cX7_fresh 23 = .ok (.sipush 1064, 3) := by decide +kernel
theorem dX7_fresh_26 : decode cX7_fresh 26 = .ok (.if_icmp .ge 51, 3) := by decide +kernel
theorem dX7_fresh_29 : decode cX7_fresh 29 = .ok (.aload_n 0, 1) := by decide +kernel
theorem dX7_fresh_30 : decode cX7_fresh 30 = .ok (.getfield 7, 3) := by decide +kernel
theorem dX7_fresh_33 : decode cX7_fresh 33 = .ok (.sipush 1675, 3) := by decide +kernel
theorem dX7_fresh_36 : decode cX7_fresh 36 = .ok (.iload 4, 2) := by decide +kernel
theorem dX7_fresh_38 : decode cX7_fresh 38 = .ok (.iadd, 1) := by decide +kernel
theorem dX7_fresh_39 : decode cX7_fresh 39 = .ok (.iaload, 1) := by decide +kernel
theorem dX7_fresh_40 : decode cX7_fresh 40 = .ok (.ifCond .le 31, 3) := by decide +kernel
theorem dX7_fresh_43 : decode cX7_fresh 43 = .ok (.iload_n 3, 1) := by decide +kernel
theorem dX7_fresh_44 : decode cX7_fresh 44 = .ok (.ifCond .ne 24, 3) := by decide +kernel
theorem dX7_fresh_47 : decode cX7_fresh 47 = .ok (.iload_n 2, 1) := by decide +kernel
theorem dX7_fresh_48 : decode cX7_fresh 48 = .ok (.ifCond .ne 8, 3) := by decide +kernel
theorem dX7_fresh_51 : decode cX7_fresh 51 = .ok (.iload 4, 2) := by decide +kernel
theorem dX7_fresh_53 : decode cX7_fresh 53 = .ok (.goto 14, 3) := by decide +kernel
theorem dX7_fresh_56 : decode cX7_fresh 56 = .ok (.aload_n 0, 1) := by decide +kernel
theorem dX7_fresh_57 : decode cX7_fresh 57 = .ok (.getfield 7, 3) := by decide +kernel
theorem dX7_fresh_60 : decode cX7_fresh 60 = .ok (.sipush 1675, 3) := by decide +kernel
theorem dX7_fresh_63 : decode cX7_fresh 63 = .ok (.iload 4, 2) := by decide +kernel
theorem dX7_fresh_65 : decode cX7_fresh 65 = .ok (.iadd, 1) := by decide +kernel
theorem dX7_fresh_66 : decode cX7_fresh 66 = .ok (.iaload, 1) := by decide +kernel
theorem dX7_fresh_67 : decode cX7_fresh 67 = .ok (.ireturn, 1) := by decide +kernel
theorem dX7_fresh_68 : decode cX7_fresh 68 = .ok (.iinc 3 (-1), 3) := by decide +kernel
theorem dX7_fresh_71 : decode cX7_fresh 71 = .ok (.iinc 4 1, 3) := by decide +kernel
theorem dX7_fresh_74 : decode cX7_fresh 74 = .ok (.goto (-53), 3) := by decide +kernel
theorem dX7_fresh_77 : decode cX7_fresh 77 = .ok (.ldc 101, 2) := by decide +kernel
theorem dX7_fresh_79 : decode cX7_fresh 79 = .ok (.ireturn, 1) := by decide +kernel
theorem dX7_waiting_0 : decode cX7_waiting 0 = .ok (.iload_n 1, 1) := by decide +kernel
theorem dX7_waiting_1 : decode cX7_waiting 1 = .ok (.ifCond .lt 12, 3) := by decide +kernel
theorem dX7_waiting_4 : decode cX7_waiting 4 = .ok (.iload_n 2, 1) := by decide +kernel
theorem dX7_waiting_5 : decode cX7_waiting 5 = .ok (.iconst 0, 1) := by decide +kernel
theorem dX7_waiting_6 : decode cX7_waiting 6 = .ok (.iconst 1, 1) := by decide +kernel
theorem dX7_waiting_7 : decode cX7_waiting 7 = .ok (.invokestatic 33, 3) := by decide +kernel
theorem dX7_waiting_10 : decode cX7_waiting 10 = .ok (.ifCond .ne 6, 3) := by decide +kernel
theorem dX7_waiting_13 : decode cX7_waiting 13 = .ok (.ldc 95, 2) := by decide +kernel
theorem dX7_waiting_15 : decode cX7_waiting 15 = .ok (.ireturn, 1) := by decide +kernel
theorem dX7_waiting_16 : decode cX7_waiting 16 = .ok (.iload_n 1, 1) := by decide +kernel
theorem dX7_waiting_17 : decode cX7_waiting 17 = .ok (.aload_n 0, 1) := by decide +kernel
theorem dX7_waiting_18 : decode cX7_waiting 18 = .ok (.getfield 7, 3) := by decide +kernel
theorem dX7_waiting_21 : decode cX7_waiting 21 = .ok (.iconst 3, 1) := by decide +kernel
theorem dX7_waiting_22 : decode cX7_waiting 22 = .ok (.iaload, 1) := by decide +kernel
theorem dX7_waiting_23 : decode cX7_waiting 23 = .ok (.if_icmp .ge 24, 3) := by decide +kernel
theorem dX7_waiting_26 : decode cX7_waiting 26 = .ok (.aload_n 0, 1) := by decide +kernel
theorem dX7_waiting_27 : decode cX7_waiting 27 = .ok (.getfield 7, 3) := by decide +kernel
theorem dX7_waiting_30 : decode cX7_waiting 30 = .ok (.iload_n 2, 1) := by decide +kernel
theorem dX7_waiting_31 : decode cX7_waiting 31 = .ok (.ifCond .ne 8, 3) := by decide +kernel
theorem dX7_waiting_34 : decode cX7_waiting 34 = .ok (.bipush 27, 2) := by decide +kernel
theorem dX7_waiting_36 : decode cX7_waiting 36 = .ok (.goto 5, 3) := by decide +kernel
theorem dX7_waiting_39 : decode cX7_waiting 39 = .ok (.bipush 39, 2) := by decide +kernel
theorem dX7_waiting_41 : decode cX7_waiting 41 = .ok (.iload_n 1, 1) := by decide +kernel
theorem dX7_waiting_42 : decode cX7_waiting 42 = .ok (.iadd, 1) := by decide +kernel
theorem dX7_waiting_43 : decode cX7_waiting 43 = .ok (.iaload, 1) := by decide +kernel
theorem dX7_waiting_44 : decode cX7_waiting 44 = .ok (.goto 5, 3) := by decide +kernel
theorem dX7_waiting_47 : decode cX7_waiting 47 = .ok (.ldc 101, 2) := by decide +kernel
theorem dX7_waiting_49 : decode cX7_waiting 49 = .ok (.ireturn, 1) := by decide +kernel
theorem dX7_freshPortions_0 : decode cX7_freshPortions 0 = .ok (.iconst 0, 1) := by decide +kernel
theorem dX7_freshPortions_1 : decode cX7_freshPortions 1 = .ok (.istore_n 1, 1) := by decide +kernel
theorem dX7_freshPortions_2 : decode cX7_freshPortions 2 = .ok (.iconst 0, 1) := by decide +kernel
theorem dX7_freshPortions_3 : decode cX7_freshPortions 3 = .ok (.istore_n 2, 1) := by decide +kernel
theorem dX7_freshPortions_4 : decode cX7_freshPortions 4 = .ok (.iload_n 2, 1) := by decide +kernel
theorem dX7_freshPortions_5 : decode cX7_freshPortions 5 = .ok (.sipush 1064, 3) := by decide +kernel
theorem dX7_freshPortions_8 : decode cX7_freshPortions 8 = .ok (.if_icmp .ge 22, 3) := by decide +kernel
theorem dX7_freshPortions_11 : decode cX7_freshPortions 11 = .ok (.iload_n 1, 1) := by decide +kernel
theorem dX7_freshPortions_12 : decode cX7_freshPortions 12 = .ok (.aload_n 0, 1) := by decide +kernel
theorem dX7_freshPortions_13 : decode cX7_freshPortions 13 = .ok (.getfield 7, 3) := by decide +kernel
theorem dX7_freshPortions_16 : decode cX7_freshPortions 16 = .ok (.sipush 1675, 3) := by decide +kernel
theorem dX7_freshPortions_19 : decode cX7_freshPortions 19 = .ok (.iload_n 2, 1) := by decide +kernel
theorem dX7_freshPortions_20 : decode cX7_freshPortions 20 = .ok (.iadd, 1) := by decide +kernel
theorem dX7_freshPortions_21 : decode cX7_freshPortions 21 = .ok (.iaload, 1) := by decide +kernel
theorem dX7_freshPortions_22 : decode cX7_freshPortions 22 = .ok (.iadd, 1) := by decide +kernel
theorem dX7_freshPortions_23 : decode cX7_freshPortions 23 = .ok (.istore_n 1, 1) := by decide +kernel
theorem dX7_freshPortions_24 : decode cX7_freshPortions 24 = .ok (.iinc 2 1, 3) := by decide +kernel
theorem dX7_freshPortions_27 : decode cX7_freshPortions 27 = .ok (.goto (-23), 3) := by decide +kernel
theorem dX7_freshPortions_30 : decode cX7_freshPortions 30 = .ok (.iload_n 1, 1) := by decide +kernel
theorem dX7_freshPortions_31 : decode cX7_freshPortions 31 = .ok (.ireturn, 1) := by decide +kernel
theorem dX7_waitingPortions_0 : decode cX7_waitingPortions 0 = .ok (.iconst 0, 1) := by decide +kernel
theorem dX7_waitingPortions_1 : decode cX7_waitingPortions 1 = .ok (.istore_n 1, 1) := by decide +kernel
theorem dX7_waitingPortions_2 : decode cX7_waitingPortions 2 = .ok (.iconst 0, 1) := by decide +kernel
theorem dX7_waitingPortions_3 : decode cX7_waitingPortions 3 = .ok (.istore_n 2, 1) := by decide +kernel
theorem dX7_waitingPortions_4 : decode cX7_waitingPortions 4 = .ok (.iload_n 2, 1) := by decide +kernel
theorem dX7_waitingPortions_5 : decode cX7_waitingPortions 5 = .ok (.aload_n 0, 1) := by decide +kernel
theorem dX7_waitingPortions_6 : decode cX7_waitingPortions 6 = .ok (.getfield 7, 3) := by decide +kernel
theorem dX7_waitingPortions_9 : decode cX7_waitingPortions 9 = .ok (.iconst 3, 1) := by decide +kernel
theorem dX7_waitingPortions_10 : decode cX7_waitingPortions 10 = .ok (.iaload, 1) := by decide +kernel
theorem dX7_waitingPortions_11 : decode cX7_waitingPortions 11 = .ok (.if_icmp .ge 21, 3) := by decide +kernel
theorem dX7_waitingPortions_14 : decode cX7_waitingPortions 14 = .ok (.iload_n 1, 1) := by decide +kernel
theorem dX7_waitingPortions_15 : decode cX7_waitingPortions 15 = .ok (.aload_n 0, 1) := by decide +kernel
theorem dX7_waitingPortions_16 : decode cX7_waitingPortions 16 = .ok (.getfield 7, 3) := by decide +kernel
theorem dX7_waitingPortions_19 : decode cX7_waitingPortions 19 = .ok (.bipush 39, 2) := by decide +kernel
theorem dX7_waitingPortions_21 : decode cX7_waitingPortions 21 = .ok (.iload_n 2, 1) := by decide +kernel
theorem dX7_waitingPortions_22 : decode cX7_waitingPortions 22 = .ok (.iadd, 1) := by decide +kernel
theorem dX7_waitingPortions_23 : decode cX7_waitingPortions 23 = .ok (.iaload, 1) := by decide +kernel
theorem dX7_waitingPortions_24 : decode cX7_waitingPortions 24 = .ok (.iadd, 1) := by decide +kernel
theorem dX7_waitingPortions_25 : decode cX7_waitingPortions 25 = .ok (.istore_n 1, 1) := by decide +kernel
theorem dX7_waitingPortions_26 : decode cX7_waitingPortions 26 = .ok (.iinc 2 1, 3) := by decide +kernel
theorem dX7_waitingPortions_29 : decode cX7_waitingPortions 29 = .ok (.goto (-25), 3) := by decide +kernel
theorem dX7_waitingPortions_32 : decode cX7_waitingPortions 32 = .ok (.iload_n 1, 1) := by decide +kernel
theorem dX7_waitingPortions_33 : decode cX7_waitingPortions 33 = .ok (.ireturn, 1) := by decide +kernel
theorem dX7_count_0 : decode cX7_count 0 = .ok (.iload_n 1, 1) := by decide +kernel
theorem dX7_count_1 : decode cX7_count 1 = .ok (.iconst 2, 1) := by decide +kernel
theorem dX7_count_2 : decode cX7_count 2 = .ok (.bipush 6, 2) := by decide +kernel
theorem dX7_count_4 : decode cX7_count 4 = .ok (.invokestatic 33, 3) := by decide +kernel
theorem dX7_count_7 : decode cX7_count 7 = .ok (.ifCond .eq 11, 3) := by decide +kernel
theorem dX7_count_10 : decode cX7_count 10 = .ok (.aload_n 0, 1) := by decide +kernel
theorem dX7_count_11 : decode cX7_count 11 = .ok (.iload_n 1, 1) := by decide +kernel
theorem dX7_count_12 : decode cX7_count 12 = .ok (.iconst 2, 1) := by decide +kernel
theorem dX7_count_13 : decode cX7_count 13 = .ok (.isub, 1) := by decide +kernel
theorem dX7_count_14 : decode cX7_count 14 = .ok (.invokevirtual 153, 3) := by decide +kernel
theorem dX7_count_17 : decode cX7_count 17 = .ok (.ireturn, 1) := by decide +kernel
theorem dX7_count_18 : decode cX7_count 18 = .ok (.iload_n 1, 1) := by decide +kernel
theorem dX7_count_19 : decode cX7_count 19 = .ok (.bipush 25, 2) := by decide +kernel
theorem dX7_count_21 : decode cX7_count 21 = .ok (.bipush 34, 2) := by decide +kernel
theorem dX7_count_23 : decode cX7_count 23 = .ok (.invokestatic 33, 3) := by decide +kernel
theorem dX7_count_26 : decode cX7_count 26 = .ok (.ifCond .eq 16, 3) := by decide +kernel
theorem dX7_count_29 : decode cX7_count 29 = .ok (.aload_n 0, 1) := by decide +kernel
theorem dX7_count_30 : decode cX7_count 30 = .ok (.getfield 7, 3) := by decide +kernel
theorem dX7_count_33 : decode cX7_count 33 = .ok (.bipush 17, 2) := by decide +kernel
theorem dX7_count_35 : decode cX7_count 35 = .ok (.iload_n 1, 1) := by decide +kernel
theorem dX7_count_36 : decode cX7_count 36 = .ok (.iadd, 1) := by decide +kernel
theorem dX7_count_37 : decode cX7_count 37 = .ok (.bipush 25, 2) := by decide +kernel
theorem dX7_count_39 : decode cX7_count 39 = .ok (.isub, 1) := by decide +kernel
theorem dX7_count_40 : decode cX7_count 40 = .ok (.iaload, 1) := by decide +kernel
theorem dX7_count_41 : decode cX7_count 41 = .ok (.ireturn, 1) := by decide +kernel
theorem dX7_count_42 : decode cX7_count 42 = .ok (.aload_n 0, 1) := by decide +kernel
theorem dX7_count_43 : decode cX7_count 43 = .ok (.invokevirtual 55, 3) := by decide +kernel
theorem dX7_count_46 : decode cX7_count 46 = .ok (.istore_n 2, 1) := by decide +kernel
theorem dX7_count_47 : decode cX7_count 47 = .ok (.iload_n 1, 1) := by decide +kernel
theorem dX7_count_48 : decode cX7_count 48 = .ok (.tableswitch 269 0 24 #[116, 123, 269, 269, 269, 269, 269, 130, 132, 157, 162, 169, 176, 181, 188, 195, 203, 211, 219, 227, 235, 243, 251, 259, 264], 116) := by decide +kernel
theorem dX7_count_164 : decode cX7_count 164 = .ok (.aload_n 0, 1) := by decide +kernel
theorem dX7_count_165 : decode cX7_count 165 = .ok (.getfield 7, 3) := by decide +kernel
theorem dX7_count_168 : decode cX7_count 168 = .ok (.iconst 0, 1) := by decide +kernel
theorem dX7_count_169 : decode cX7_count 169 = .ok (.iaload, 1) := by decide +kernel
theorem dX7_count_170 : decode cX7_count 170 = .ok (.ireturn, 1) := by decide +kernel
theorem dX7_count_171 : decode cX7_count 171 = .ok (.aload_n 0, 1) := by decide +kernel
theorem dX7_count_172 : decode cX7_count 172 = .ok (.getfield 7, 3) := by decide +kernel
theorem dX7_count_175 : decode cX7_count 175 = .ok (.iconst 1, 1) := by decide +kernel
theorem dX7_count_176 : decode cX7_count 176 = .ok (.iaload, 1) := by decide +kernel
theorem dX7_count_177 : decode cX7_count 177 = .ok (.ireturn, 1) := by decide +kernel
theorem dX7_count_178 : decode cX7_count 178 = .ok (.iload_n 2, 1) := by decide +kernel
theorem dX7_count_179 : decode cX7_count 179 = .ok (.ireturn, 1) := by decide +kernel
theorem dX7_count_180 : decode cX7_count 180 = .ok (.iload_n 2, 1) := by decide +kernel
theorem dX7_count_181 : decode cX7_count 181 = .ok (.aload_n 0, 1) := by decide +kernel
theorem dX7_count_182 : decode cX7_count 182 = .ok (.getfield 7, 3) := by decide +kernel
theorem dX7_count_185 : decode cX7_count 185 = .ok (.bipush 17, 2) := by decide +kernel
theorem dX7_count_187 : decode cX7_count 187 = .ok (.iaload, 1) := by decide +kernel
theorem dX7_count_188 : decode cX7_count 188 = .ok (.if_icmp .le 15, 3) := by decide +kernel
theorem dX7_count_191 : decode cX7_count 191 = .ok (.iload_n 2, 1) := by decide +kernel
theorem dX7_count_192 : decode cX7_count 192 = .ok (.aload_n 0, 1) := by decide +kernel
theorem dX7_count_193 : decode cX7_count 193 = .ok (.getfield 7, 3) := by decide +kernel
theorem dX7_count_196 : decode cX7_count 196 = .ok (.bipush 17, 2) := by decide +kernel
theorem dX7_count_198 : decode cX7_count 198 = .ok (.iaload, 1) := by decide +kernel
theorem dX7_count_199 : decode cX7_count 199 = .ok (.isub, 1) := by decide +kernel
theorem dX7_count_200 : decode cX7_count 200 = .ok (.goto 4, 3) := by decide +kernel
theorem dX7_count_203 : decode cX7_count 203 = .ok (.iconst 0, 1) := by decide +kernel
theorem dX7_count_204 : decode cX7_count 204 = .ok (.ireturn, 1) := by decide +kernel
theorem dX7_count_205 : decode cX7_count 205 = .ok (.aload_n 0, 1) := by decide +kernel
theorem dX7_count_206 : decode cX7_count 206 = .ok (.invokevirtual 156, 3) := by decide +kernel
theorem dX7_count_209 : decode cX7_count 209 = .ok (.ireturn, 1) := by decide +kernel
theorem dX7_count_210 : decode cX7_count 210 = .ok (.aload_n 0, 1) := by decide +kernel
theorem dX7_count_211 : decode cX7_count 211 = .ok (.getfield 7, 3) := by decide +kernel
theorem dX7_count_214 : decode cX7_count 214 = .ok (.iconst 2, 1) := by decide +kernel
theorem dX7_count_215 : decode cX7_count 215 = .ok (.iaload, 1) := by decide +kernel
theorem dX7_count_216 : decode cX7_count 216 = .ok (.ireturn, 1) := by decide +kernel
theorem dX7_count_217 : decode cX7_count 217 = .ok (.aload_n 0, 1) := by decide +kernel
theorem dX7_count_218 : decode cX7_count 218 = .ok (.getfield 7, 3) := by decide +kernel
theorem dX7_count_221 : decode cX7_count 221 = .ok (.iconst 3, 1) := by decide +kernel
theorem dX7_count_222 : decode cX7_count 222 = .ok (.iaload, 1) := by decide +kernel
theorem dX7_count_223 : decode cX7_count 223 = .ok (.ireturn, 1) := by decide +kernel
theorem dX7_count_224 : decode cX7_count 224 = .ok (.aload_n 0, 1) := by decide +kernel
theorem dX7_count_225 : decode cX7_count 225 = .ok (.invokevirtual 159, 3) := by decide +kernel
theorem dX7_count_228 : decode cX7_count 228 = .ok (.ireturn, 1) := by decide +kernel
theorem dX7_count_229 : decode cX7_count 229 = .ok (.aload_n 0, 1) := by decide +kernel
theorem dX7_count_230 : decode cX7_count 230 = .ok (.getfield 7, 3) := by decide +kernel
theorem dX7_count_233 : decode cX7_count 233 = .ok (.iconst 4, 1) := by decide +kernel
theorem dX7_count_234 : decode cX7_count 234 = .ok (.iaload, 1) := by decide +kernel
theorem dX7_count_235 : decode cX7_count 235 = .ok (.ireturn, 1) := by decide +kernel
theorem dX7_count_236 : decode cX7_count 236 = .ok (.aload_n 0, 1) := by decide +kernel
theorem dX7_count_237 : decode cX7_count 237 = .ok (.getfield 7, 3) := by decide +kernel
theorem dX7_count_240 : decode cX7_count 240 = .ok (.iconst 5, 1) := by decide +kernel
theorem dX7_count_241 : decode cX7_count 241 = .ok (.iaload, 1) := by decide +kernel
theorem dX7_count_242 : decode cX7_count 242 = .ok (.ireturn, 1) := by decide +kernel
theorem dX7_count_243 : decode cX7_count 243 = .ok (.aload_n 0, 1) := by decide +kernel
theorem dX7_count_244 : decode cX7_count 244 = .ok (.getfield 7, 3) := by decide +kernel
theorem dX7_count_247 : decode cX7_count 247 = .ok (.bipush 6, 2) := by decide +kernel
theorem dX7_count_249 : decode cX7_count 249 = .ok (.iaload, 1) := by decide +kernel
theorem dX7_count_250 : decode cX7_count 250 = .ok (.ireturn, 1) := by decide +kernel
theorem dX7_count_251 : decode cX7_count 251 = .ok (.aload_n 0, 1) := by decide +kernel
theorem dX7_count_252 : decode cX7_count 252 = .ok (.getfield 7, 3) := by decide +kernel
theorem dX7_count_255 : decode cX7_count 255 = .ok (.bipush 7, 2) := by decide +kernel
theorem dX7_count_257 : decode cX7_count 257 = .ok (.iaload, 1) := by decide +kernel
theorem dX7_count_258 : decode cX7_count 258 = .ok (.ireturn, 1) := by decide +kernel
theorem dX7_count_259 : decode cX7_count 259 = .ok (.aload_n 0, 1) := by decide +kernel
theorem dX7_count_260 : decode cX7_count 260 = .ok (.getfield 7, 3) := by decide +kernel
theorem dX7_count_263 : decode cX7_count 263 = .ok (.bipush 8, 2) := by decide +kernel
theorem dX7_count_265 : decode cX7_count 265 = .ok (.iaload, 1) := by decide +kernel
theorem dX7_count_266 : decode cX7_count 266 = .ok (.ireturn, 1) := by decide +kernel
theorem dX7_count_267 : decode cX7_count 267 = .ok (.aload_n 0, 1) := by decide +kernel
theorem dX7_count_268 : decode cX7_count 268 = .ok (.getfield 7, 3) := by decide +kernel
theorem dX7_count_271 : decode cX7_count 271 = .ok (.bipush 9, 2) := by decide +kernel
theorem dX7_count_273 : decode cX7_count 273 = .ok (.iaload, 1) := by decide +kernel
theorem dX7_count_274 : decode cX7_count 274 = .ok (.ireturn, 1) := by decide +kernel
theorem dX7_count_275 : decode cX7_count 275 = .ok (.aload_n 0, 1) := by decide +kernel
theorem dX7_count_276 : decode cX7_count 276 = .ok (.getfield 7, 3) := by decide +kernel
theorem dX7_count_279 : decode cX7_count 279 = .ok (.bipush 10, 2) := by decide +kernel
theorem dX7_count_281 : decode cX7_count 281 = .ok (.iaload, 1) := by decide +kernel
theorem dX7_count_282 : decode cX7_count 282 = .ok (.ireturn, 1) := by decide +kernel
theorem dX7_count_283 : decode cX7_count 283 = .ok (.aload_n 0, 1) := by decide +kernel
theorem dX7_count_284 : decode cX7_count 284 = .ok (.getfield 7, 3) := by decide +kernel
theorem dX7_count_287 : decode cX7_count 287 = .ok (.bipush 11, 2) := by decide +kernel
theorem dX7_count_289 : decode cX7_count 289 = .ok (.iaload, 1) := by decide +kernel
theorem dX7_count_290 : decode cX7_count 290 = .ok (.ireturn, 1) := by decide +kernel
theorem dX7_count_291 : decode cX7_count 291 = .ok (.aload_n 0, 1) := by decide +kernel
theorem dX7_count_292 : decode cX7_count 292 = .ok (.getfield 7, 3) := by decide +kernel
theorem dX7_count_295 : decode cX7_count 295 = .ok (.bipush 12, 2) := by decide +kernel
theorem dX7_count_297 : decode cX7_count 297 = .ok (.iaload, 1) := by decide +kernel
theorem dX7_count_298 : decode cX7_count 298 = .ok (.ireturn, 1) := by decide +kernel
theorem dX7_count_299 : decode cX7_count 299 = .ok (.aload_n 0, 1) := by decide +kernel
theorem dX7_count_300 : decode cX7_count 300 = .ok (.getfield 7, 3) := by decide +kernel
theorem dX7_count_303 : decode cX7_count 303 = .ok (.bipush 13, 2) := by decide +kernel
theorem dX7_count_305 : decode cX7_count 305 = .ok (.iaload, 1) := by decide +kernel
theorem dX7_count_306 : decode cX7_count 306 = .ok (.ireturn, 1) := by decide +kernel
theorem dX7_count_307 : decode cX7_count 307 = .ok (.aload_n 0, 1) := by decide +kernel
theorem dX7_count_308 : decode cX7_count 308 = .ok (.getfield 25, 3) := by decide +kernel
theorem dX7_count_311 : decode cX7_count 311 = .ok (.ireturn, 1) := by decide +kernel
theorem dX7_count_312 : decode cX7_count 312 = .ok (.aload_n 0, 1) := by decide +kernel
theorem dX7_count_313 : decode cX7_count 313 = .ok (.getfield 115, 3) := by decide +kernel
theorem dX7_count_316 : decode cX7_count 316 = .ok (.ireturn, 1) := by decide +kernel
theorem dX7_count_317 : decode cX7_count 317 = .ok (.ldc 95, 2) := by decide +kernel
theorem dX7_count_319 : decode cX7_count 319 = .ok (.ireturn, 1) := by decide +kernel
theorem dX7_coins_0 : decode cX7_coins 0 = .ok (.iload_n 1, 1) := by decide +kernel
theorem dX7_coins_1 : decode cX7_coins 1 = .ok (.iconst 0, 1) := by decide +kernel
theorem dX7_coins_2 : decode cX7_coins 2 = .ok (.iconst 3, 1) := by decide +kernel
theorem dX7_coins_3 : decode cX7_coins 3 = .ok (.invokestatic 33, 3) := by decide +kernel
theorem dX7_coins_6 : decode cX7_coins 6 = .ok (.ifCond .ne 6, 3) := by decide +kernel
theorem dX7_coins_9 : decode cX7_coins 9 = .ok (.ldc 95, 2) := by decide +kernel
theorem dX7_coins_11 : decode cX7_coins 11 = .ok (.ireturn, 1) := by decide +kernel
theorem dX7_coins_12 : decode cX7_coins 12 = .ok (.iload_n 1, 1) := by decide +kernel
theorem dX7_coins_13 : decode cX7_coins 13 = .ok (.ifCond .ne 11, 3) := by decide +kernel
theorem dX7_coins_16 : decode cX7_coins 16 = .ok (.aload_n 0, 1) := by decide +kernel
theorem dX7_coins_17 : decode cX7_coins 17 = .ok (.getfield 7, 3) := by decide +kernel
theorem dX7_coins_20 : decode cX7_coins 20 = .ok (.bipush 14, 2) := by decide +kernel
theorem dX7_coins_22 : decode cX7_coins 22 = .ok (.iaload, 1) := by decide +kernel
theorem dX7_coins_23 : decode cX7_coins 23 = .ok (.ireturn, 1) := by decide +kernel
theorem dX7_coins_24 : decode cX7_coins 24 = .ok (.iload_n 1, 1) := by decide +kernel
theorem dX7_coins_25 : decode cX7_coins 25 = .ok (.iconst 2, 1) := by decide +kernel
theorem dX7_coins_26 : decode cX7_coins 26 = .ok (.if_icmp .ne 11, 3) := by decide +kernel
theorem dX7_coins_29 : decode cX7_coins 29 = .ok (.aload_n 0, 1) := by decide +kernel
theorem dX7_coins_30 : decode cX7_coins 30 = .ok (.getfield 7, 3) := by decide +kernel
theorem dX7_coins_33 : decode cX7_coins 33 = .ok (.bipush 15, 2) := by decide +kernel
theorem dX7_coins_35 : decode cX7_coins 35 = .ok (.iaload, 1) := by decide +kernel
theorem dX7_coins_36 : decode cX7_coins 36 = .ok (.ireturn, 1) := by decide +kernel
theorem dX7_coins_37 : decode cX7_coins 37 = .ok (.iload_n 1, 1) := by decide +kernel
theorem dX7_coins_38 : decode cX7_coins 38 = .ok (.iconst 3, 1) := by decide +kernel
theorem dX7_coins_39 : decode cX7_coins 39 = .ok (.if_icmp .ne 11, 3) := by decide +kernel
theorem dX7_coins_42 : decode cX7_coins 42 = .ok (.aload_n 0, 1) := by decide +kernel
theorem dX7_coins_43 : decode cX7_coins 43 = .ok (.getfield 7, 3) := by decide +kernel
theorem dX7_coins_46 : decode cX7_coins 46 = .ok (.bipush 16, 2) := by decide +kernel
theorem dX7_coins_48 : decode cX7_coins 48 = .ok (.iaload, 1) := by decide +kernel
theorem dX7_coins_49 : decode cX7_coins 49 = .ok (.ireturn, 1) := by decide +kernel
theorem dX7_coins_50 : decode cX7_coins 50 = .ok (.iconst 0, 1) := by decide +kernel
theorem dX7_coins_51 : decode cX7_coins 51 = .ok (.istore_n 2, 1) := by decide +kernel
theorem dX7_coins_52 : decode cX7_coins 52 = .ok (.iconst 0, 1) := by decide +kernel
theorem dX7_coins_53 : decode cX7_coins 53 = .ok (.istore_n 3, 1) := by decide +kernel
theorem dX7_coins_54 : decode cX7_coins 54 = .ok (.iload_n 3, 1) := by decide +kernel
theorem dX7_coins_55 : decode cX7_coins 55 = .ok (.aload_n 0, 1) := by decide +kernel
theorem dX7_coins_56 : decode cX7_coins 56 = .ok (.getfield 7, 3) := by decide +kernel
theorem dX7_coins_59 : decode cX7_coins 59 = .ok (.iconst 1, 1) := by decide +kernel
theorem dX7_coins_60 : decode cX7_coins 60 = .ok (.iaload, 1) := by decide +kernel
theorem dX7_coins_61 : decode cX7_coins 61 = .ok (.if_icmp .ge 32, 3) := by decide +kernel
theorem dX7_coins_64 : decode cX7_coins 64 = .ok (.iload_n 2, 1) := by decide +kernel
theorem dX7_coins_65 : decode cX7_coins 65 = .ok (.aload_n 0, 1) := by decide +kernel
theorem dX7_coins_66 : decode cX7_coins 66 = .ok (.iload_n 3, 1) := by decide +kernel
theorem dX7_coins_67 : decode cX7_coins 67 = .ok (.iconst 0, 1) := by decide +kernel
theorem dX7_coins_68 : decode cX7_coins 68 = .ok (.invokevirtual 29, 3) := by decide +kernel
theorem dX7_coins_71 : decode cX7_coins 71 = .ok (.iconst 1, 1) := by decide +kernel
theorem dX7_coins_72 : decode cX7_coins 72 = .ok (.if_icmp .gt 12, 3) := by decide +kernel
theorem dX7_coins_75 : decode cX7_coins 75 = .ok (.aload_n 0, 1) := by decide +kernel
theorem dX7_coins_76 : decode cX7_coins 76 = .ok (.iload_n 3, 1) := by decide +kernel
theorem dX7_coins_77 : decode cX7_coins 77 = .ok (.iconst 5, 1) := by decide +kernel
theorem dX7_coins_78 : decode cX7_coins 78 = .ok (.invokevirtual 29, 3) := by decide +kernel
theorem dX7_coins_81 : decode cX7_coins 81 = .ok (.goto 4, 3) := by decide +kernel
theorem dX7_coins_84 : decode cX7_coins 84 = .ok (.iconst 0, 1) := by decide +kernel
theorem dX7_coins_85 : decode cX7_coins 85 = .ok (.iadd, 1) := by decide +kernel
theorem dX7_coins_86 : decode cX7_coins 86 = .ok (.istore_n 2, 1) := by decide +kernel
theorem dX7_coins_87 : decode cX7_coins 87 = .ok (.iinc 3 1, 3) := by decide +kernel
theorem dX7_coins_90 : decode cX7_coins 90 = .ok (.goto (-36), 3) := by decide +kernel
theorem dX7_coins_93 : decode cX7_coins 93 = .ok (.iload_n 2, 1) := by decide +kernel
theorem dX7_coins_94 : decode cX7_coins 94 = .ok (.ireturn, 1) := by decide +kernel
theorem dX7_use_0 : decode cX7_use 0 = .ok (.iload_n 1, 1) := by decide +kernel
theorem dX7_use_1 : decode cX7_use 1 = .ok (.iconst 0, 1) := by decide +kernel
theorem dX7_use_2 : decode cX7_use 2 = .ok (.sipush 999, 3) := by decide +kernel
theorem dX7_use_5 : decode cX7_use 5 = .ok (.invokestatic 33, 3) := by decide +kernel
theorem dX7_use_8 : decode cX7_use 8 = .ok (.ifCond .eq 14, 3) := by decide +kernel
theorem dX7_use_11 : decode cX7_use 11 = .ok (.iload_n 2, 1) := by decide +kernel
theorem dX7_use_12 : decode cX7_use 12 = .ok (.iload_n 1, 1) := by decide +kernel
theorem dX7_use_13 : decode cX7_use 13 = .ok (.sipush 999, 3) := by decide +kernel
theorem dX7_use_16 : decode cX7_use 16 = .ok (.invokestatic 33, 3) := by decide +kernel
theorem dX7_use_19 : decode cX7_use 19 = .ok (.ifCond .ne 7, 3) := by decide +kernel
theorem dX7_use_22 : decode cX7_use 22 = .ok (.ldc2_w 162, 3) := by decide +kernel
theorem dX7_use_25 : decode cX7_use 25 = .ok (.dreturn, 1) := by decide +kernel
theorem dX7_use_26 : decode cX7_use 26 = .ok (.iconst 0, 1) := by decide +kernel
theorem dX7_use_27 : decode cX7_use 27 = .ok (.istore_n 3, 1) := by decide +kernel
theorem dX7_use_28 : decode cX7_use 28 = .ok (.iload_n 1, 1) := by decide +kernel
theorem dX7_use_29 : decode cX7_use 29 = .ok (.istore 4, 2) := by decide +kernel
theorem dX7_use_31 : decode cX7_use 31 = .ok (.iload 4, 2) := by decide +kernel
theorem dX7_use_33 : decode cX7_use 33 = .ok (.iload_n 2, 1) := by decide +kernel
theorem dX7_use_34 : decode cX7_use 34 = .ok (.if_icmp .gt 18, 3) := by decide +kernel
theorem dX7_use_37 : decode cX7_use 37 = .ok (.iload_n 3, 1) := by decide +kernel
theorem dX7_use_38 : decode cX7_use 38 = .ok (.aload_n 0, 1) := by decide +kernel
theorem dX7_use_39 : decode cX7_use 39 = .ok (.iload 4, 2) := by decide +kernel
theorem dX7_use_41 : decode cX7_use 41 = .ok (.invokevirtual 48, 3) := by decide +kernel
theorem dX7_use_44 : decode cX7_use 44 = .ok (.iadd, 1) := by decide +kernel
theorem dX7_use_45 : decode cX7_use 45 = .ok (.istore_n 3, 1) := by decide +kernel
theorem dX7_use_46 : decode cX7_use 46 = .ok (.iinc 4 1, 3) := by decide +kernel
theorem dX7_use_49 : decode cX7_use 49 = .ok (.goto (-18), 3) := by decide +kernel
theorem dX7_use_52 : decode cX7_use 52 = .ok (.iload_n 3, 1) := by decide +kernel
theorem dX7_use_53 : decode cX7_use 53 = .ok (.i2d, 1) := by decide +kernel
theorem dX7_use_54 : decode cX7_use 54 = .ok (.iload_n 2, 1) := by decide +kernel
theorem dX7_use_55 : decode cX7_use 55 = .ok (.iload_n 1, 1) := by decide +kernel
theorem dX7_use_56 : decode cX7_use 56 = .ok (.isub, 1) := by decide +kernel
theorem dX7_use_57 : decode cX7_use 57 = .ok (.iconst 1, 1) := by decide +kernel
theorem dX7_use_58 : decode cX7_use 58 = .ok (.iadd, 1) := by decide +kernel
theorem dX7_use_59 : decode cX7_use 59 = .ok (.aload_n 0, 1) := by decide +kernel
theorem dX7_use_60 : decode cX7_use 60 = .ok (.getfield 7, 3) := by decide +kernel
theorem dX7_use_63 : decode cX7_use 63 = .ok (.bipush 17, 2) := by decide +kernel
theorem dX7_use_65 : decode cX7_use 65 = .ok (.iaload, 1) := by decide +kernel
theorem dX7_use_66 : decode cX7_use 66 = .ok (.imul, 1) := by decide +kernel
theorem dX7_use_67 : decode cX7_use 67 = .ok (.i2d, 1) := by decide +kernel
theorem dX7_use_68 : decode cX7_use 68 = .ok (.ddiv, 1) := by decide +kernel
theorem dX7_use_69 : decode cX7_use 69 = .ok (.dreturn, 1) := by decide +kernel
theorem dX7_firstFree_0 : decode cX7_firstFree 0 = .ok (.iload_n 1, 1) := by decide +kernel
theorem dX7_firstFree_1 : decode cX7_firstFree 1 = .ok (.iconst 1, 1) := by decide +kernel
theorem dX7_firstFree_2 : decode cX7_firstFree 2 = .ok (.bipush 9, 2) := by decide +kernel
theorem dX7_firstFree_4 : decode cX7_firstFree 4 = .ok (.invokestatic 33, 3) := by decide +kernel
theorem dX7_firstFree_7 : decode cX7_firstFree 7 = .ok (.ifCond .eq 13, 3) := by decide +kernel
theorem dX7_firstFree_10 : decode cX7_firstFree 10 = .ok (.iload_n 2, 1) := by decide +kernel
theorem dX7_firstFree_11 : decode cX7_firstFree 11 = .ok (.iconst 1, 1) := by decide +kernel
theorem dX7_firstFree_12 : decode cX7_firstFree 12 = .ok (.bipush 9, 2) := by decide +kernel
theorem dX7_firstFree_14 : decode cX7_firstFree 14 = .ok (.invokestatic 33, 3) := by decide +kernel
theorem dX7_firstFree_17 : decode cX7_firstFree 17 = .ok (.ifCond .ne 6, 3) := by decide +kernel
theorem dX7_firstFree_20 : decode cX7_firstFree 20 = .ok (.ldc 95, 2) := by decide +kernel
theorem dX7_firstFree_22 : decode cX7_firstFree 22 = .ok (.ireturn, 1) := by decide +kernel
theorem dX7_firstFree_23 : decode cX7_firstFree 23 = .ok (.aload_n 0, 1) := by decide +kernel
theorem dX7_firstFree_24 : decode cX7_firstFree 24 = .ok (.getfield 7, 3) := by decide +kernel
theorem dX7_firstFree_27 : decode cX7_firstFree 27 = .ok (.iconst 0, 1) := by decide +kernel
theorem dX7_firstFree_28 : decode cX7_firstFree 28 = .ok (.iaload, 1) := by decide +kernel
theorem dX7_firstFree_29 : decode cX7_firstFree 29 = .ok (.istore_n 3, 1) := by decide +kernel
theorem dX7_firstFree_30 : decode cX7_firstFree 30 = .ok (.iload_n 3, 1) := by decide +kernel
theorem dX7_firstFree_31 : decode cX7_firstFree 31 = .ok (.sipush 899, 3) := by decide +kernel
theorem dX7_firstFree_34 : decode cX7_firstFree 34 = .ok (.if_icmp .gt 23, 3) := by decide +kernel
theorem dX7_firstFree_37 : decode cX7_firstFree 37 = .ok (.aload_n 0, 1) := by decide +kernel
theorem dX7_firstFree_38 : decode cX7_firstFree 38 = .ok (.iload_n 3, 1) := by decide +kernel
theorem dX7_firstFree_39 : decode cX7_firstFree 39 = .ok (.iload_n 3, 1) := by decide +kernel
theorem dX7_firstFree_40 : decode cX7_firstFree 40 = .ok (.iload_n 1, 1) := by decide +kernel
theorem dX7_firstFree_41 : decode cX7_firstFree 41 = .ok (.iadd, 1) := by decide +kernel
theorem dX7_firstFree_42 : decode cX7_firstFree 42 = .ok (.iload_n 2, 1) := by decide +kernel
theorem dX7_firstFree_43 : decode cX7_firstFree 43 = .ok (.invokevirtual 96, 3) := by decide +kernel
theorem dX7_firstFree_46 : decode cX7_firstFree 46 = .ok (.ifCond .eq 5, 3) := by decide +kernel
theorem dX7_firstFree_49 : decode cX7_firstFree 49 = .ok (.iload_n 3, 1) := by decide +kernel
theorem dX7_firstFree_50 : decode cX7_firstFree 50 = .ok (.ireturn, 1) := by decide +kernel
theorem dX7_firstFree_51 : decode cX7_firstFree 51 = .ok (.iinc 3 1, 3) := by decide +kernel
theorem dX7_firstFree_54 : decode cX7_firstFree 54 = .ok (.goto (-24), 3) := by decide +kernel
theorem dX7_firstFree_57 : decode cX7_firstFree 57 = .ok (.ldc 101, 2) := by decide +kernel
theorem dX7_firstFree_59 : decode cX7_firstFree 59 = .ok (.ireturn, 1) := by decide +kernel
theorem dX7_hungryIn_0 : decode cX7_hungryIn 0 = .ok (.aload_n 0, 1) := by decide +kernel
theorem dX7_hungryIn_1 : decode cX7_hungryIn 1 = .ok (.invokevirtual 127, 3) := by decide +kernel
theorem dX7_hungryIn_4 : decode cX7_hungryIn 4 = .ok (.aload_n 0, 1) := by decide +kernel
theorem dX7_hungryIn_5 : decode cX7_hungryIn 5 = .ok (.getfield 7, 3) := by decide +kernel
theorem dX7_hungryIn_8 : decode cX7_hungryIn 8 = .ok (.bipush 10, 2) := by decide +kernel
theorem dX7_hungryIn_10 : decode cX7_hungryIn 10 = .ok (.iaload, 1) := by decide +kernel
theorem dX7_hungryIn_11 : decode cX7_hungryIn 11 = .ok (.istore_n 1, 1) := by decide +kernel
theorem dX7_hungryIn_12 : decode cX7_hungryIn 12 = .ok (.iconst 0, 1) := by decide +kernel
theorem dX7_hungryIn_13 : decode cX7_hungryIn 13 = .ok (.istore_n 2, 1) := by decide +kernel
theorem dX7_hungryIn_14 : decode cX7_hungryIn 14 = .ok (.iload_n 2, 1) := by decide +kernel
theorem dX7_hungryIn_15 : decode cX7_hungryIn 15 = .ok (.bipush 60, 2) := by decide +kernel
theorem dX7_hungryIn_17 : decode cX7_hungryIn 17 = .ok (.if_icmp .ge 24, 3) := by decide +kernel
theorem dX7_hungryIn_20 : decode cX7_hungryIn 20 = .ok (.aload_n 0, 1) := by decide +kernel
theorem dX7_hungryIn_21 : decode cX7_hungryIn 21 = .ok (.getfield 7, 3) := by decide +kernel
theorem dX7_hungryIn_24 : decode cX7_hungryIn 24 = .ok (.bipush 10, 2) := by decide +kernel
theorem dX7_hungryIn_26 : decode cX7_hungryIn 26 = .ok (.iaload, 1) := by decide +kernel
theorem dX7_hungryIn_27 : decode cX7_hungryIn 27 = .ok (.iload_n 1, 1) := by decide +kernel
theorem dX7_hungryIn_28 : decode cX7_hungryIn 28 = .ok (.if_icmp .ne 13, 3) := by decide +kernel
theorem dX7_hungryIn_31 : decode cX7_hungryIn 31 = .ok (.aload_n 0, 1) := by decide +kernel
theorem dX7_hungryIn_32 : decode cX7_hungryIn 32 = .ok (.invokevirtual 143, 3) := by decide +kernel
theorem dX7_hungryIn_35 : decode cX7_hungryIn 35 = .ok (.iinc 2 1, 3) := by decide +kernel
theorem dX7_hungryIn_38 : decode cX7_hungryIn 38 = .ok (.goto (-24), 3) := by decide +kernel
theorem dX7_hungryIn_41 : decode cX7_hungryIn 41 = .ok (.aload_n 0, 1) := by decide +kernel
theorem dX7_hungryIn_42 : decode cX7_hungryIn 42 = .ok (.getfield 7, 3) := by decide +kernel
theorem dX7_hungryIn_45 : decode cX7_hungryIn 45 = .ok (.bipush 10, 2) := by decide +kernel
theorem dX7_hungryIn_47 : decode cX7_hungryIn 47 = .ok (.iaload, 1) := by decide +kernel
theorem dX7_hungryIn_48 : decode cX7_hungryIn 48 = .ok (.iload_n 1, 1) := by decide +kernel
theorem dX7_hungryIn_49 : decode cX7_hungryIn 49 = .ok (.if_icmp .le 7, 3) := by decide +kernel
theorem dX7_hungryIn_52 : decode cX7_hungryIn 52 = .ok (.iconst 1, 1) := by decide +kernel
theorem dX7_hungryIn_53 : decode cX7_hungryIn 53 = .ok (.goto 4, 3) := by decide +kernel
theorem dX7_hungryIn_56 : decode cX7_hungryIn 56 = .ok (.iconst 0, 1) := by decide +kernel
theorem dX7_hungryIn_57 : decode cX7_hungryIn 57 = .ok (.istore_n 3, 1) := by decide +kernel
theorem dX7_hungryIn_58 : decode cX7_hungryIn 58 = .ok (.aload_n 0, 1) := by decide +kernel
theorem dX7_hungryIn_59 : decode cX7_hungryIn 59 = .ok (.invokevirtual 130, 3) := by decide +kernel
theorem dX7_hungryIn_62 : decode cX7_hungryIn 62 = .ok (.iload_n 3, 1) := by decide +kernel
theorem dX7_hungryIn_63 : decode cX7_hungryIn 63 = .ok (.ifCond .eq 7, 3) := by decide +kernel
theorem dX7_hungryIn_66 : decode cX7_hungryIn 66 = .ok (.iload_n 2, 1) := by decide +kernel
theorem dX7_hungryIn_67 : decode cX7_hungryIn 67 = .ok (.goto 5, 3) := by decide +kernel
theorem dX7_hungryIn_70 : decode cX7_hungryIn 70 = .ok (.ldc 101, 2) := by decide +kernel
theorem dX7_hungryIn_72 : decode cX7_hungryIn 72 = .ok (.ireturn, 1) := by decide +kernel
theorem dX7_grows_0 : decode cX7_grows 0 = .ok (.aload_n 0, 1) := by decide +kernel
theorem dX7_grows_1 : decode cX7_grows 1 = .ok (.invokevirtual 127, 3) := by decide +kernel
theorem dX7_grows_4 : decode cX7_grows 4 = .ok (.aload_n 0, 1) := by decide +kernel
theorem dX7_grows_5 : decode cX7_grows 5 = .ok (.getfield 7, 3) := by decide +kernel
theorem dX7_grows_8 : decode cX7_grows 8 = .ok (.iload_n 1, 1) := by decide +kernel
theorem dX7_grows_9 : decode cX7_grows 9 = .ok (.iaload, 1) := by decide +kernel
theorem dX7_grows_10 : decode cX7_grows 10 = .ok (.istore_n 3, 1) := by decide +kernel
theorem dX7_grows_11 : decode cX7_grows 11 = .ok (.iconst 0, 1) := by decide +kernel
theorem dX7_grows_12 : decode cX7_grows 12 = .ok (.istore 4, 2) := by decide +kernel
theorem dX7_grows_14 : decode cX7_grows 14 = .ok (.iload 4, 2) := by decide +kernel
theorem dX7_grows_16 : decode cX7_grows 16 = .ok (.iload_n 2, 1) := by decide +kernel
theorem dX7_grows_17 : decode cX7_grows 17 = .ok (.if_icmp .ge 13, 3) := by decide +kernel
theorem dX7_grows_20 : decode cX7_grows 20 = .ok (.aload_n 0, 1) := by decide +kernel
theorem dX7_grows_21 : decode cX7_grows 21 = .ok (.invokevirtual 143, 3) := by decide +kernel
theorem dX7_grows_24 : decode cX7_grows 24 = .ok (.iinc 4 1, 3) := by decide +kernel
theorem dX7_grows_27 : decode cX7_grows 27 = .ok (.goto (-13), 3) := by decide +kernel
theorem dX7_grows_30 : decode cX7_grows 30 = .ok (.aload_n 0, 1) := by decide +kernel
theorem dX7_grows_31 : decode cX7_grows 31 = .ok (.getfield 7, 3) := by decide +kernel
theorem dX7_grows_34 : decode cX7_grows 34 = .ok (.iload_n 1, 1) := by decide +kernel
theorem dX7_grows_35 : decode cX7_grows 35 = .ok (.iaload, 1) := by decide +kernel
theorem dX7_grows_36 : decode cX7_grows 36 = .ok (.iload_n 3, 1) := by decide +kernel
theorem dX7_grows_37 : decode cX7_grows 37 = .ok (.isub, 1) := by decide +kernel
theorem dX7_grows_38 : decode cX7_grows 38 = .ok (.istore 4, 2) := by decide +kernel
theorem dX7_grows_40 : decode cX7_grows 40 = .ok (.aload_n 0, 1) := by decide +kernel
theorem dX7_grows_41 : decode cX7_grows 41 = .ok (.invokevirtual 130, 3) := by decide +kernel
theorem dX7_grows_44 : decode cX7_grows 44 = .ok (.iload 4, 2) := by decide +kernel
theorem dX7_grows_46 : decode cX7_grows 46 = .ok (.ireturn, 1) := by decide +kernel
theorem dX7_wanting_0 : decode cX7_wanting 0 = .ok (.iload_n 1, 1) := by decide +kernel
theorem dX7_wanting_1 : decode cX7_wanting 1 = .ok (.iconst 1, 1) := by decide +kernel
theorem dX7_wanting_2 : decode cX7_wanting 2 = .ok (.bipush 60, 2) := by decide +kernel
theorem dX7_wanting_4 : decode cX7_wanting 4 = .ok (.invokestatic 33, 3) := by decide +kernel
theorem dX7_wanting_7 : decode cX7_wanting 7 = .ok (.ifCond .eq 13, 3) := by decide +kernel
theorem dX7_wanting_10 : decode cX7_wanting 10 = .ok (.aload_n 0, 1) := by decide +kernel
theorem dX7_wanting_11 : decode cX7_wanting 11 = .ok (.bipush 10, 2) := by decide +kernel
theorem dX7_wanting_13 : decode cX7_wanting 13 = .ok (.iload_n 1, 1) := by decide +kernel
theorem dX7_wanting_14 : decode cX7_wanting 14 = .ok (.invokevirtual 164, 3) := by decide +kernel
theorem dX7_wanting_17 : decode cX7_wanting 17 = .ok (.goto 5, 3) := by decide +kernel
theorem dX7_wanting_20 : decode cX7_wanting 20 = .ok (.ldc 95, 2) := by decide +kernel
theorem dX7_wanting_22 : decode cX7_wanting 22 = .ok (.ireturn, 1) := by decide +kernel
theorem dX7_goneIn_0 : decode cX7_goneIn 0 = .ok (.aload_n 0, 1) := by decide +kernel
theorem dX7_goneIn_1 : decode cX7_goneIn 1 = .ok (.iload_n 1, 1) := by decide +kernel
theorem dX7_goneIn_2 : decode cX7_goneIn 2 = .ok (.invokevirtual 133, 3) := by decide +kernel
theorem dX7_goneIn_5 : decode cX7_goneIn 5 = .ok (.ifCond .ne 6, 3) := by decide +kernel
theorem dX7_goneIn_8 : decode cX7_goneIn 8 = .ok (.ldc 136, 2) := by decide +kernel
theorem dX7_goneIn_10 : decode cX7_goneIn 10 = .ok (.ireturn, 1) := by decide +kernel
theorem dX7_goneIn_11 : decode cX7_goneIn 11 = .ok (.aload_n 0, 1) := by decide +kernel
theorem dX7_goneIn_12 : decode cX7_goneIn 12 = .ok (.iload_n 1, 1) := by decide +kernel
theorem dX7_goneIn_13 : decode cX7_goneIn 13 = .ok (.iconst 0, 1) := by decide +kernel
theorem dX7_goneIn_14 : decode cX7_goneIn 14 = .ok (.invokevirtual 29, 3) := by decide +kernel
theorem dX7_goneIn_17 : decode cX7_goneIn 17 = .ok (.iconst 1, 1) := by decide +kernel
theorem dX7_goneIn_18 : decode cX7_goneIn 18 = .ok (.if_icmp .le 6, 3) := by decide +kernel
theorem dX7_goneIn_21 : decode cX7_goneIn 21 = .ok (.ldc 99, 2) := by decide +kernel
theorem dX7_goneIn_23 : decode cX7_goneIn 23 = .ok (.ireturn, 1) := by decide +kernel
theorem dX7_goneIn_24 : decode cX7_goneIn 24 = .ok (.aload_n 0, 1) := by decide +kernel
theorem dX7_goneIn_25 : decode cX7_goneIn 25 = .ok (.invokevirtual 127, 3) := by decide +kernel
theorem dX7_goneIn_28 : decode cX7_goneIn 28 = .ok (.iconst 0, 1) := by decide +kernel
theorem dX7_goneIn_29 : decode cX7_goneIn 29 = .ok (.istore_n 2, 1) := by decide +kernel
theorem dX7_goneIn_30 : decode cX7_goneIn 30 = .ok (.iload_n 2, 1) := by decide +kernel
theorem dX7_goneIn_31 : decode cX7_goneIn 31 = .ok (.bipush 60, 2) := by decide +kernel
theorem dX7_goneIn_33 : decode cX7_goneIn 33 = .ok (.if_icmp .ge 23, 3) := by decide +kernel
theorem dX7_goneIn_36 : decode cX7_goneIn 36 = .ok (.aload_n 0, 1) := by decide +kernel
theorem dX7_goneIn_37 : decode cX7_goneIn 37 = .ok (.iload_n 1, 1) := by decide +kernel
theorem dX7_goneIn_38 : decode cX7_goneIn 38 = .ok (.iconst 0, 1) := by decide +kernel
theorem dX7_goneIn_39 : decode cX7_goneIn 39 = .ok (.invokevirtual 29, 3) := by decide +kernel
theorem dX7_goneIn_42 : decode cX7_goneIn 42 = .ok (.iconst 1, 1) := by decide +kernel
theorem dX7_goneIn_43 : decode cX7_goneIn 43 = .ok (.if_icmp .gt 13, 3) := by decide +kernel
theorem dX7_goneIn_46 : decode cX7_goneIn 46 = .ok (.aload_n 0, 1) := by decide +kernel
theorem dX7_goneIn_47 : decode cX7_goneIn 47 = .ok (.invokevirtual 143, 3) := by decide +kernel
theorem dX7_goneIn_50 : decode cX7_goneIn 50 = .ok (.iinc 2 1, 3) := by decide +kernel
theorem dX7_goneIn_53 : decode cX7_goneIn 53 = .ok (.goto (-23), 3) := by decide +kernel
theorem dX7_goneIn_56 : decode cX7_goneIn 56 = .ok (.aload_n 0, 1) := by decide +kernel
theorem dX7_goneIn_57 : decode cX7_goneIn 57 = .ok (.iload_n 1, 1) := by decide +kernel
theorem dX7_goneIn_58 : decode cX7_goneIn 58 = .ok (.iconst 2, 1) := by decide +kernel
theorem dX7_goneIn_59 : decode cX7_goneIn 59 = .ok (.invokevirtual 41, 3) := by decide +kernel
theorem dX7_goneIn_62 : decode cX7_goneIn 62 = .ok (.istore_n 3, 1) := by decide +kernel
theorem dX7_goneIn_63 : decode cX7_goneIn 63 = .ok (.aload_n 0, 1) := by decide +kernel
theorem dX7_goneIn_64 : decode cX7_goneIn 64 = .ok (.invokevirtual 130, 3) := by decide +kernel
theorem dX7_goneIn_67 : decode cX7_goneIn 67 = .ok (.iload_n 3, 1) := by decide +kernel
theorem dX7_goneIn_68 : decode cX7_goneIn 68 = .ok (.ifCond .eq 7, 3) := by decide +kernel
theorem dX7_goneIn_71 : decode cX7_goneIn 71 = .ok (.iload_n 2, 1) := by decide +kernel
theorem dX7_goneIn_72 : decode cX7_goneIn 72 = .ok (.goto 5, 3) := by decide +kernel
theorem dX7_goneIn_75 : decode cX7_goneIn 75 = .ok (.ldc 101, 2) := by decide +kernel
theorem dX7_goneIn_77 : decode cX7_goneIn 77 = .ok (.ireturn, 1) := by decide +kernel
theorem dX7_turnedAway_0 : decode cX7_turnedAway 0 = .ok (.iload_n 1, 1) := by decide +kernel
theorem dX7_turnedAway_1 : decode cX7_turnedAway 1 = .ok (.iconst 1, 1) := by decide +kernel
theorem dX7_turnedAway_2 : decode cX7_turnedAway 2 = .ok (.bipush 60, 2) := by decide +kernel
theorem dX7_turnedAway_4 : decode cX7_turnedAway 4 = .ok (.invokestatic 33, 3) := by decide +kernel
theorem dX7_turnedAway_7 : decode cX7_turnedAway 7 = .ok (.ifCond .eq 13, 3) := by decide +kernel
theorem dX7_turnedAway_10 : decode cX7_turnedAway 10 = .ok (.aload_n 0, 1) := by decide +kernel
theorem dX7_turnedAway_11 : decode cX7_turnedAway 11 = .ok (.bipush 13, 2) := by decide +kernel
theorem dX7_turnedAway_13 : decode cX7_turnedAway 13 = .ok (.iload_n 1, 1) := by decide +kernel
theorem dX7_turnedAway_14 : decode cX7_turnedAway 14 = .ok (.invokevirtual 164, 3) := by decide +kernel
theorem dX7_turnedAway_17 : decode cX7_turnedAway 17 = .ok (.goto 5, 3) := by decide +kernel
theorem dX7_turnedAway_20 : decode cX7_turnedAway 20 = .ok (.ldc 95, 2) := by decide +kernel
theorem dX7_turnedAway_22 : decode cX7_turnedAway 22 = .ok (.ireturn, 1) := by decide +kernel
theorem dX7_takesDown_0 : decode cX7_takesDown 0 = .ok (.aload_n 0, 1) := by decide +kernel
theorem dX7_takesDown_1 : decode cX7_takesDown 1 = .ok (.invokevirtual 127, 3) := by decide +kernel
theorem dX7_takesDown_4 : decode cX7_takesDown 4 = .ok (.aload_n 0, 1) := by decide +kernel
theorem dX7_takesDown_5 : decode cX7_takesDown 5 = .ok (.getfield 7, 3) := by decide +kernel
theorem dX7_takesDown_8 : decode cX7_takesDown 8 = .ok (.bipush 6, 2) := by decide +kernel
theorem dX7_takesDown_10 : decode cX7_takesDown 10 = .ok (.iaload, 1) := by decide +kernel
theorem dX7_takesDown_11 : decode cX7_takesDown 11 = .ok (.istore_n 2, 1) := by decide +kernel
theorem dX7_takesDown_12 : decode cX7_takesDown 12 = .ok (.aload_n 0, 1) := by decide +kernel
theorem dX7_takesDown_13 : decode cX7_takesDown 13 = .ok (.getfield 7, 3) := by decide +kernel
theorem dX7_takesDown_16 : decode cX7_takesDown 16 = .ok (.iconst 5, 1) := by decide +kernel
theorem dX7_takesDown_17 : decode cX7_takesDown 17 = .ok (.iaload, 1) := by decide +kernel
theorem dX7_takesDown_18 : decode cX7_takesDown 18 = .ok (.istore_n 3, 1) := by decide +kernel
theorem dX7_takesDown_19 : decode cX7_takesDown 19 = .ok (.iconst 0, 1) := by decide +kernel
theorem dX7_takesDown_20 : decode cX7_takesDown 20 = .ok (.istore 4, 2) := by decide +kernel
theorem dX7_takesDown_22 : decode cX7_takesDown 22 = .ok (.iload 4, 2) := by decide +kernel
theorem dX7_takesDown_24 : decode cX7_takesDown 24 = .ok (.bipush 60, 2) := by decide +kernel
theorem dX7_takesDown_26 : decode cX7_takesDown 26 = .ok (.if_icmp .ge 40, 3) := by decide +kernel
theorem dX7_takesDown_29 : decode cX7_takesDown 29 = .ok (.aload_n 0, 1) := by decide +kernel
theorem dX7_takesDown_30 : decode cX7_takesDown 30 = .ok (.getfield 7, 3) := by decide +kernel
theorem dX7_takesDown_33 : decode cX7_takesDown 33 = .ok (.iconst 5, 1) := by decide +kernel
theorem dX7_takesDown_34 : decode cX7_takesDown 34 = .ok (.iaload, 1) := by decide +kernel
theorem dX7_takesDown_35 : decode cX7_takesDown 35 = .ok (.iload_n 3, 1) := by decide +kernel
theorem dX7_takesDown_36 : decode cX7_takesDown 36 = .ok (.if_icmp .ne 30, 3) := by decide +kernel
theorem dX7_takesDown_39 : decode cX7_takesDown 39 = .ok (.aload_n 0, 1) := by decide +kernel
theorem dX7_takesDown_40 : decode cX7_takesDown 40 = .ok (.getfield 7, 3) := by decide +kernel
theorem dX7_takesDown_43 : decode cX7_takesDown 43 = .ok (.iconst 4, 1) := by decide +kernel
theorem dX7_takesDown_44 : decode cX7_takesDown 44 = .ok (.iload 4, 2) := by decide +kernel
theorem dX7_takesDown_46 : decode cX7_takesDown 46 = .ok (.iload_n 1, 1) := by decide +kernel
theorem dX7_takesDown_47 : decode cX7_takesDown 47 = .ok (.if_icmp .lt 7, 3) := by decide +kernel
theorem dX7_takesDown_50 : decode cX7_takesDown 50 = .ok (.iconst 1, 1) := by decide +kernel
theorem dX7_takesDown_51 : decode cX7_takesDown 51 = .ok (.goto 4, 3) := by decide +kernel
theorem dX7_takesDown_54 : decode cX7_takesDown 54 = .ok (.iconst 0, 1) := by decide +kernel
theorem dX7_takesDown_55 : decode cX7_takesDown 55 = .ok (.iastore, 1) := by decide +kernel
theorem dX7_takesDown_56 : decode cX7_takesDown 56 = .ok (.aload_n 0, 1) := by decide +kernel
theorem dX7_takesDown_57 : decode cX7_takesDown 57 = .ok (.invokevirtual 143, 3) := by decide +kernel
theorem dX7_takesDown_60 : decode cX7_takesDown 60 = .ok (.iinc 4 1, 3) := by decide +kernel
theorem dX7_takesDown_63 : decode cX7_takesDown 63 = .ok (.goto (-41), 3) := by decide +kernel
theorem dX7_takesDown_66 : decode cX7_takesDown 66 = .ok (.aload_n 0, 1) := by decide +kernel
theorem dX7_takesDown_67 : decode cX7_takesDown 67 = .ok (.getfield 7, 3) := by decide +kernel
theorem dX7_takesDown_70 : decode cX7_takesDown 70 = .ok (.bipush 6, 2) := by decide +kernel
theorem dX7_takesDown_72 : decode cX7_takesDown 72 = .ok (.iaload, 1) := by decide +kernel
theorem dX7_takesDown_73 : decode cX7_takesDown 73 = .ok (.iload_n 2, 1) := by decide +kernel
theorem dX7_takesDown_74 : decode cX7_takesDown 74 = .ok (.isub, 1) := by decide +kernel
theorem dX7_takesDown_75 : decode cX7_takesDown 75 = .ok (.istore 4, 2) := by decide +kernel
theorem dX7_takesDown_77 : decode cX7_takesDown 77 = .ok (.aload_n 0, 1) := by decide +kernel
theorem dX7_takesDown_78 : decode cX7_takesDown 78 = .ok (.invokevirtual 130, 3) := by decide +kernel
theorem dX7_takesDown_81 : decode cX7_takesDown 81 = .ok (.iload 4, 2) := by decide +kernel
theorem dX7_takesDown_83 : decode cX7_takesDown 83 = .ok (.ireturn, 1) := by decide +kernel
theorem dX7_bestCall_0 : decode cX7_bestCall 0 = .ok (.aload_n 0, 1) := by decide +kernel
theorem dX7_bestCall_1 : decode cX7_bestCall 1 = .ok (.getfield 7, 3) := by decide +kernel
theorem dX7_bestCall_4 : decode cX7_bestCall 4 = .ok (.iconst 4, 1) := by decide +kernel
theorem dX7_bestCall_5 : decode cX7_bestCall 5 = .ok (.iaload, 1) := by decide +kernel
theorem dX7_bestCall_6 : decode cX7_bestCall 6 = .ok (.iconst 1, 1) := by decide +kernel
theorem dX7_bestCall_7 : decode cX7_bestCall 7 = .ok (.if_icmp .ne 6, 3) := by decide +kernel
theorem dX7_bestCall_10 : decode cX7_bestCall 10 = .ok (.ldc 101, 2) := by decide +kernel
theorem dX7_bestCall_12 : decode cX7_bestCall 12 = .ok (.ireturn, 1) := by decide +kernel
theorem dX7_bestCall_13 : decode cX7_bestCall 13 = .ok (.ldc 101, 2) := by decide +kernel
theorem dX7_bestCall_15 : decode cX7_bestCall 15 = .ok (.istore_n 1, 1) := by decide +kernel
theorem dX7_bestCall_16 : decode cX7_bestCall 16 = .ok (.iconst 0, 1) := by decide +kernel
theorem dX7_bestCall_17 : decode cX7_bestCall 17 = .ok (.istore_n 2, 1) := by decide +kernel
theorem dX7_bestCall_18 : decode cX7_bestCall 18 = .ok (.iconst 0, 1) := by decide +kernel
theorem dX7_bestCall_19 : decode cX7_bestCall 19 = .ok (.istore_n 3, 1) := by decide +kernel
theorem dX7_bestCall_20 : decode cX7_bestCall 20 = .ok (.iload_n 3, 1) := by decide +kernel
theorem dX7_bestCall_21 : decode cX7_bestCall 21 = .ok (.bipush 30, 2) := by decide +kernel
theorem dX7_bestCall_23 : decode cX7_bestCall 23 = .ok (.if_icmp .gt 27, 3) := by decide +kernel
theorem dX7_bestCall_26 : decode cX7_bestCall 26 = .ok (.aload_n 0, 1) := by decide +kernel
theorem dX7_bestCall_27 : decode cX7_bestCall 27 = .ok (.iload_n 3, 1) := by decide +kernel
theorem dX7_bestCall_28 : decode cX7_bestCall 28 = .ok (.invokevirtual 167, 3) := by decide +kernel
theorem dX7_bestCall_31 : decode cX7_bestCall 31 = .ok (.istore 4, 2) := by decide +kernel
theorem dX7_bestCall_33 : decode cX7_bestCall 33 = .ok (.iload 4, 2) := by decide +kernel
theorem dX7_bestCall_35 : decode cX7_bestCall 35 = .ok (.iload_n 2, 1) := by decide +kernel
theorem dX7_bestCall_36 : decode cX7_bestCall 36 = .ok (.if_icmp .le 8, 3) := by decide +kernel
theorem dX7_bestCall_39 : decode cX7_bestCall 39 = .ok (.iload_n 3, 1) := by decide +kernel
theorem dX7_bestCall_40 : decode cX7_bestCall 40 = .ok (.istore_n 1, 1) := by decide +kernel
theorem dX7_bestCall_41 : decode cX7_bestCall 41 = .ok (.iload 4, 2) := by decide +kernel
theorem dX7_bestCall_43 : decode cX7_bestCall 43 = .ok (.istore_n 2, 1) := by decide +kernel
theorem dX7_bestCall_44 : decode cX7_bestCall 44 = .ok (.iinc 3 1, 3) := by decide +kernel
theorem dX7_bestCall_47 : decode cX7_bestCall 47 = .ok (.goto (-27), 3) := by decide +kernel
theorem dX7_bestCall_50 : decode cX7_bestCall 50 = .ok (.iload_n 1, 1) := by decide +kernel
theorem dX7_bestCall_51 : decode cX7_bestCall 51 = .ok (.ireturn, 1) := by decide +kernel
theorem dX7_fullest_0 : decode cX7_fullest 0 = .ok (.ldc 101, 2) := by decide +kernel
theorem dX7_fullest_2 : decode cX7_fullest 2 = .ok (.istore_n 1, 1) := by decide +kernel
theorem dX7_fullest_3 : decode cX7_fullest 3 = .ok (.iconst 0, 1) := by decide +kernel
theorem dX7_fullest_4 : decode cX7_fullest 4 = .ok (.istore_n 2, 1) := by decide +kernel
theorem dX7_fullest_5 : decode cX7_fullest 5 = .ok (.aload_n 0, 1) := by decide +kernel
theorem dX7_fullest_6 : decode cX7_fullest 6 = .ok (.getfield 7, 3) := by decide +kernel
theorem dX7_fullest_9 : decode cX7_fullest 9 = .ok (.iconst 0, 1) := by decide +kernel
theorem dX7_fullest_10 : decode cX7_fullest 10 = .ok (.iaload, 1) := by decide +kernel
theorem dX7_fullest_11 : decode cX7_fullest 11 = .ok (.istore_n 3, 1) := by decide +kernel
theorem dX7_fullest_12 : decode cX7_fullest 12 = .ok (.iload_n 3, 1) := by decide +kernel
theorem dX7_fullest_13 : decode cX7_fullest 13 = .ok (.sipush 999, 3) := by decide +kernel
theorem dX7_fullest_16 : decode cX7_fullest 16 = .ok (.if_icmp .gt 27, 3) := by decide +kernel
theorem dX7_fullest_19 : decode cX7_fullest 19 = .ok (.aload_n 0, 1) := by decide +kernel
theorem dX7_fullest_20 : decode cX7_fullest 20 = .ok (.iload_n 3, 1) := by decide +kernel
theorem dX7_fullest_21 : decode cX7_fullest 21 = .ok (.invokevirtual 48, 3) := by decide +kernel
theorem dX7_fullest_24 : decode cX7_fullest 24 = .ok (.istore 4, 2) := by decide +kernel
theorem dX7_fullest_26 : decode cX7_fullest 26 = .ok (.iload 4, 2) := by decide +kernel
theorem dX7_fullest_28 : decode cX7_fullest 28 = .ok (.iload_n 2, 1) := by decide +kernel
theorem dX7_fullest_29 : decode cX7_fullest 29 = .ok (.if_icmp .le 8, 3) := by decide +kernel
theorem dX7_fullest_32 : decode cX7_fullest 32 = .ok (.iload_n 3, 1) := by decide +kernel
theorem dX7_fullest_33 : decode cX7_fullest 33 = .ok (.istore_n 1, 1) := by decide +kernel
theorem dX7_fullest_34 : decode cX7_fullest 34 = .ok (.iload 4, 2) := by decide +kernel
theorem dX7_fullest_36 : decode cX7_fullest 36 = .ok (.istore_n 2, 1) := by decide +kernel
theorem dX7_fullest_37 : decode cX7_fullest 37 = .ok (.iinc 3 1, 3) := by decide +kernel
theorem dX7_fullest_40 : decode cX7_fullest 40 = .ok (.goto (-28), 3) := by decide +kernel
theorem dX7_fullest_43 : decode cX7_fullest 43 = .ok (.iload_n 1, 1) := by decide +kernel
theorem dX7_fullest_44 : decode cX7_fullest 44 = .ok (.ireturn, 1) := by decide +kernel
theorem dL_law_0 : decode cL_law 0 = .ok (.new 7, 3) := by decide +kernel
theorem dL_law_3 : decode cL_law 3 = .ok (.dup, 1) := by decide +kernel
theorem dL_law_4 : decode cL_law 4 = .ok (.invokespecial 9, 3) := by decide +kernel
theorem dL_law_7 : decode cL_law 7 = .ok (.astore_n 1, 1) := by decide +kernel
theorem dL_law_8 : decode cL_law 8 = .ok (.new 10, 3) := by decide +kernel
theorem dL_law_11 : decode cL_law 11 = .ok (.dup, 1) := by decide +kernel
theorem dL_law_12 : decode cL_law 12 = .ok (.invokespecial 12, 3) := by decide +kernel
theorem dL_law_15 : decode cL_law 15 = .ok (.astore_n 2, 1) := by decide +kernel
theorem dL_law_16 : decode cL_law 16 = .ok (.iconst 0, 1) := by decide +kernel
theorem dL_law_17 : decode cL_law 17 = .ok (.istore_n 3, 1) := by decide +kernel
theorem dL_law_18 : decode cL_law 18 = .ok (.iload_n 3, 1) := by decide +kernel
theorem dL_law_19 : decode cL_law 19 = .ok (.aload_n 0, 1) := by decide +kernel
theorem dL_law_20 : decode cL_law 20 = .ok (.arraylength, 1) := by decide +kernel
theorem dL_law_21 : decode cL_law 21 = .ok (.iconst 4, 1) := by decide +kernel
theorem dL_law_22 : decode cL_law 22 = .ok (.isub, 1) := by decide +kernel
theorem dL_law_23 : decode cL_law 23 = .ok (.if_icmp .gt 944, 3) := by decide +kernel
theorem dL_law_26 : decode cL_law 26 = .ok (.aload_n 0, 1) := by decide +kernel
theorem dL_law_27 : decode cL_law 27 = .ok (.iload_n 3, 1) := by decide +kernel
theorem dL_law_28 : decode cL_law 28 = .ok (.iaload, 1) := by decide +kernel
theorem dL_law_29 : decode cL_law 29 = .ok (.bipush 31, 2) := by decide +kernel
theorem dL_law_31 : decode cL_law 31 = .ok (.iand, 1) := by decide +kernel
theorem dL_law_32 : decode cL_law 32 = .ok (.tableswitch 929 0 30 #[140, 183, 196, 219, 252, 295, 328, 341, 380, 403, 436, 461, 474, 487, 500, 513, 526, 559, 592, 625, 658, 681, 704, 765, 788, 821, 834, 857, 880, 903, 916], 140) := by decide +kernel
theorem dL_law_172 : decode cL_law 172 = .ok (.aload_n 1, 1) := by decide +kernel
theorem dL_law_173 : decode cL_law 173 = .ok (.aload_n 0, 1) := by decide +kernel
theorem dL_law_174 : decode cL_law 174 = .ok (.iload_n 3, 1) := by decide +kernel
theorem dL_law_175 : decode cL_law 175 = .ok (.iconst 1, 1) := by decide +kernel
theorem dL_law_176 : decode cL_law 176 = .ok (.iadd, 1) := by decide +kernel
theorem dL_law_177 : decode cL_law 177 = .ok (.iaload, 1) := by decide +kernel
theorem dL_law_178 : decode cL_law 178 = .ok (.aload_n 0, 1) := by decide +kernel
theorem dL_law_179 : decode cL_law 179 = .ok (.iload_n 3, 1) := by decide +kernel
theorem dL_law_180 : decode cL_law 180 = .ok (.iconst 2, 1) := by decide +kernel
theorem dL_law_181 : decode cL_law 181 = .ok (.iadd, 1) := by decide +kernel
theorem dL_law_182 : decode cL_law 182 = .ok (.iaload, 1) := by decide +kernel
theorem dL_law_183 : decode cL_law 183 = .ok (.aload_n 0, 1) := by decide +kernel
theorem dL_law_184 : decode cL_law 184 = .ok (.iload_n 3, 1) := by decide +kernel
theorem dL_law_185 : decode cL_law 185 = .ok (.iconst 3, 1) := by decide +kernel
theorem dL_law_186 : decode cL_law 186 = .ok (.iadd, 1) := by decide +kernel
theorem dL_law_187 : decode cL_law 187 = .ok (.iaload, 1) := by decide +kernel
theorem dL_law_188 : decode cL_law 188 = .ok (.invokevirtual 13, 3) := by decide +kernel
theorem dL_law_191 : decode cL_law 191 = .ok (.aload_n 2, 1) := by decide +kernel
theorem dL_law_192 : decode cL_law 192 = .ok (.aload_n 0, 1) := by decide +kernel
theorem dL_law_193 : decode cL_law 193 = .ok (.iload_n 3, 1) := by decide +kernel
theorem dL_law_194 : decode cL_law 194 = .ok (.iconst 1, 1) := by decide +kernel
theorem dL_law_195 : decode cL_law 195 = .ok (.iadd, 1) := by decide +kernel
theorem dL_law_196 : decode cL_law 196 = .ok (.iaload, 1) := by decide +kernel
theorem dL_law_197 : decode cL_law 197 = .ok (.aload_n 0, 1) := by decide +kernel
theorem dL_law_198 : decode cL_law 198 = .ok (.iload_n 3, 1) := by decide +kernel
theorem dL_law_199 : decode cL_law 199 = .ok (.iconst 2, 1) := by decide +kernel
theorem dL_law_200 : decode cL_law 200 = .ok (.iadd, 1) := by decide +kernel
theorem dL_law_201 : decode cL_law 201 = .ok (.iaload, 1) := by decide +kernel
theorem dL_law_202 : decode cL_law 202 = .ok (.aload_n 0, 1) := by decide +kernel
theorem dL_law_203 : decode cL_law 203 = .ok (.iload_n 3, 1) := by decide +kernel
theorem dL_law_204 : decode cL_law 204 = .ok (.iconst 3, 1) := by decide +kernel
theorem dL_law_205 : decode cL_law 205 = .ok (.iadd, 1) := by decide +kernel
theorem dL_law_206 : decode cL_law 206 = .ok (.iaload, 1) := by decide +kernel
theorem dL_law_207 : decode cL_law 207 = .ok (.invokevirtual 17, 3) := by decide +kernel
theorem dL_law_210 : decode cL_law 210 = .ok (.if_icmp .eq 751, 3) := by decide +kernel
theorem dL_law_213 : decode cL_law 213 = .ok (.iconst 0, 1) := by decide +kernel
theorem dL_law_214 : decode cL_law 214 = .ok (.ireturn, 1) := by decide +kernel
theorem dL_law_215 : decode cL_law 215 = .ok (.aload_n 1, 1) := by decide +kernel
theorem dL_law_216 : decode cL_law 216 = .ok (.invokevirtual 18, 3) := by decide +kernel
theorem dL_law_219 : decode cL_law 219 = .ok (.aload_n 2, 1) := by decide +kernel
theorem dL_law_220 : decode cL_law 220 = .ok (.invokevirtual 22, 3) := by decide +kernel
theorem dL_law_223 : decode cL_law 223 = .ok (.if_icmp .eq 738, 3) := by decide +kernel
theorem dL_law_226 : decode cL_law 226 = .ok (.iconst 0, 1) := by decide +kernel
theorem dL_law_227 : decode cL_law 227 = .ok (.ireturn, 1) := by decide +kernel
theorem dL_law_228 : decode cL_law 228 = .ok (.aload_n 1, 1) := by decide +kernel
theorem dL_law_229 : decode cL_law 229 = .ok (.aload_n 0, 1) := by decide +kernel
theorem dL_law_230 : decode cL_law 230 = .ok (.iload_n 3, 1) := by decide +kernel
theorem dL_law_231 : decode cL_law 231 = .ok (.iconst 1, 1) := by decide +kernel
theorem dL_law_232 : decode cL_law 232 = .ok (.iadd, 1) := by decide +kernel
theorem dL_law_233 : decode cL_law 233 = .ok (.iaload, 1) := by decide +kernel
theorem dL_law_234 : decode cL_law 234 = .ok (.invokevirtual 23, 3) := by decide +kernel
theorem dL_law_237 : decode cL_law 237 = .ok (.aload_n 2, 1) := by decide +kernel
theorem dL_law_238 : decode cL_law 238 = .ok (.aload_n 0, 1) := by decide +kernel
theorem dL_law_239 : decode cL_law 239 = .ok (.iload_n 3, 1) := by decide +kernel
theorem dL_law_240 : decode cL_law 240 = .ok (.iconst 1, 1) := by decide +kernel
theorem dL_law_241 : decode cL_law 241 = .ok (.iadd, 1) := by decide +kernel
theorem dL_law_242 : decode cL_law 242 = .ok (.iaload, 1) := by decide +kernel
theorem dL_law_243 : decode cL_law 243 = .ok (.invokevirtual 27, 3) := by decide +kernel
theorem dL_law_246 : decode cL_law 246 = .ok (.if_icmp .eq 715, 3) := by decide +kernel
theorem dL_law_249 : decode cL_law 249 = .ok (.iconst 0, 1) := by decide +kernel
theorem dL_law_250 : decode cL_law 250 = .ok (.ireturn, 1) := by decide +kernel
theorem dL_law_251 : decode cL_law 251 = .ok (.aload_n 1, 1) := by decide +kernel
theorem dL_law_252 : decode cL_law 252 = .ok (.aload_n 0, 1) := by decide +kernel
theorem dL_law_253 : decode cL_law 253 = .ok (.iload_n 3, 1) := by decide +kernel
theorem dL_law_254 : decode cL_law 254 = .ok (.iconst 1, 1) := by decide +kernel
theorem dL_law_255 : decode cL_law 255 = .ok (.iadd, 1) := by decide +kernel
theorem dL_law_256 : decode cL_law 256 = .ok (.iaload, 1) := by decide +kernel
theorem dL_law_257 : decode cL_law 257 = .ok (.aload_n 0, 1) := by decide +kernel
theorem dL_law_258 : decode cL_law 258 = .ok (.iload_n 3, 1) := by decide +kernel
theorem dL_law_259 : decode cL_law 259 = .ok (.iconst 2, 1) := by decide +kernel
theorem dL_law_260 : decode cL_law 260 = .ok (.iadd, 1) := by decide +kernel
theorem dL_law_261 : decode cL_law 261 = .ok (.iaload, 1) := by decide +kernel
theorem dL_law_262 : decode cL_law 262 = .ok (.invokevirtual 28, 3) := by decide +kernel
theorem dL_law_265 : decode cL_law 265 = .ok (.aload_n 2, 1) := by decide +kernel
theorem dL_law_266 : decode cL_law 266 = .ok (.aload_n 0, 1) := by decide +kernel
theorem dL_law_267 : decode cL_law 267 = .ok (.iload_n 3, 1) := by decide +kernel
theorem dL_law_268 : decode cL_law 268 = .ok (.iconst 1, 1) := by decide +kernel
theorem dL_law_269 : decode cL_law 269 = .ok (.iadd, 1) := by decide +kernel
theorem dL_law_270 : decode cL_law 270 = .ok (.iaload, 1) := by decide +kernel
theorem dL_law_271 : decode cL_law 271 = .ok (.aload_n 0, 1) := by decide +kernel
theorem dL_law_272 : decode cL_law 272 = .ok (.iload_n 3, 1) := by decide +kernel
theorem dL_law_273 : decode cL_law 273 = .ok (.iconst 2, 1) := by decide +kernel
theorem dL_law_274 : decode cL_law 274 = .ok (.iadd, 1) := by decide +kernel
theorem dL_law_275 : decode cL_law 275 = .ok (.iaload, 1) := by decide +kernel
theorem dL_law_276 : decode cL_law 276 = .ok (.invokevirtual 32, 3) := by decide +kernel
theorem dL_law_279 : decode cL_law 279 = .ok (.if_icmp .eq 682, 3) := by decide +kernel
theorem dL_law_282 : decode cL_law 282 = .ok (.iconst 0, 1) := by decide +kernel
theorem dL_law_283 : decode cL_law 283 = .ok (.ireturn, 1) := by decide +kernel
theorem dL_law_284 : decode cL_law 284 = .ok (.aload_n 1, 1) := by decide +kernel
theorem dL_law_285 : decode cL_law 285 = .ok (.aload_n 0, 1) := by decide +kernel
theorem dL_law_286 : decode cL_law 286 = .ok (.iload_n 3, 1) := by decide +kernel
theorem dL_law_287 : decode cL_law 287 = .ok (.iconst 1, 1) := by decide +kernel
theorem dL_law_288 : decode cL_law 288 = .ok (.iadd, 1) := by decide +kernel
theorem dL_law_289 : decode cL_law 289 = .ok (.iaload, 1) := by decide +kernel
theorem dL_law_290 : decode cL_law 290 = .ok (.aload_n 0, 1) := by decide +kernel
theorem dL_law_291 : decode cL_law 291 = .ok (.iload_n 3, 1) := by decide +kernel
theorem dL_law_292 : decode cL_law 292 = .ok (.iconst 2, 1) := by decide +kernel
theorem dL_law_293 : decode cL_law 293 = .ok (.iadd, 1) := by decide +kernel
theorem dL_law_294 : decode cL_law 294 = .ok (.iaload, 1) := by decide +kernel
theorem dL_law_295 : decode cL_law 295 = .ok (.aload_n 0, 1) := by decide +kernel
theorem dL_law_296 : decode cL_law 296 = .ok (.iload_n 3, 1) := by decide +kernel
theorem dL_law_297 : decode cL_law 297 = .ok (.iconst 3, 1) := by decide +kernel
theorem dL_law_298 : decode cL_law 298 = .ok (.iadd, 1) := by decide +kernel
theorem dL_law_299 : decode cL_law 299 = .ok (.iaload, 1) := by decide +kernel
theorem dL_law_300 : decode cL_law 300 = .ok (.invokevirtual 33, 3) := by decide +kernel
theorem dL_law_303 : decode cL_law 303 = .ok (.aload_n 2, 1) := by decide +kernel
theorem dL_law_304 : decode cL_law 304 = .ok (.aload_n 0, 1) := by decide +kernel
theorem dL_law_305 : decode cL_law 305 = .ok (.iload_n 3, 1) := by decide +kernel
theorem dL_law_306 : decode cL_law 306 = .ok (.iconst 1, 1) := by decide +kernel
theorem dL_law_307 : decode cL_law 307 = .ok (.iadd, 1) := by decide +kernel
theorem dL_law_308 : decode cL_law 308 = .ok (.iaload, 1) := by decide +kernel
theorem dL_law_309 : decode cL_law 309 = .ok (.aload_n 0, 1) := by decide +kernel
theorem dL_law_310 : decode cL_law 310 = .ok (.iload_n 3, 1) := by decide +kernel
theorem dL_law_311 : decode cL_law 311 = .ok (.iconst 2, 1) := by decide +kernel
theorem dL_law_312 : decode cL_law 312 = .ok (.iadd, 1) := by decide +kernel
theorem dL_law_313 : decode cL_law 313 = .ok (.iaload, 1) := by decide +kernel
theorem dL_law_314 : decode cL_law 314 = .ok (.aload_n 0, 1) := by decide +kernel
theorem dL_law_315 : decode cL_law 315 = .ok (.iload_n 3, 1) := by decide +kernel
theorem dL_law_316 : decode cL_law 316 = .ok (.iconst 3, 1) := by decide +kernel
theorem dL_law_317 : decode cL_law 317 = .ok (.iadd, 1) := by decide +kernel
theorem dL_law_318 : decode cL_law 318 = .ok (.iaload, 1) := by decide +kernel
theorem dL_law_319 : decode cL_law 319 = .ok (.invokevirtual 36, 3) := by decide +kernel
theorem dL_law_322 : decode cL_law 322 = .ok (.if_icmp .eq 639, 3) := by decide +kernel
theorem dL_law_325 : decode cL_law 325 = .ok (.iconst 0, 1) := by decide +kernel
theorem dL_law_326 : decode cL_law 326 = .ok (.ireturn, 1) := by decide +kernel
theorem dL_law_327 : decode cL_law 327 = .ok (.aload_n 1, 1) := by decide +kernel
theorem dL_law_328 : decode cL_law 328 = .ok (.aload_n 0, 1) := by decide +kernel
theorem dL_law_329 : decode cL_law 329 = .ok (.iload_n 3, 1) := by decide +kernel
theorem dL_law_330 : decode cL_law 330 = .ok (.iconst 1, 1) := by decide +kernel
theorem dL_law_331 : decode cL_law 331 = .ok (.iadd, 1) := by decide +kernel
theorem dL_law_332 : decode cL_law 332 = .ok (.iaload, 1) := by decide +kernel
theorem dL_law_333 : decode cL_law 333 = .ok (.aload_n 0, 1) := by decide +kernel
theorem dL_law_334 : decode cL_law 334 = .ok (.iload_n 3, 1) := by decide +kernel
theorem dL_law_335 : decode cL_law 335 = .ok (.iconst 2, 1) := by decide +kernel
theorem dL_law_336 : decode cL_law 336 = .ok (.iadd, 1) := by decide +kernel
theorem dL_law_337 : decode cL_law 337 = .ok (.iaload, 1) := by decide +kernel
theorem dL_law_338 : decode cL_law 338 = .ok (.invokevirtual 37, 3) := by decide +kernel
theorem dL_law_341 : decode cL_law 341 = .ok (.aload_n 2, 1) := by decide +kernel
theorem dL_law_342 : decode cL_law 342 = .ok (.aload_n 0, 1) := by decide +kernel
theorem dL_law_343 : decode cL_law 343 = .ok (.iload_n 3, 1) := by decide +kernel
theorem dL_law_344 : decode cL_law 344 = .ok (.iconst 1, 1) := by decide +kernel
theorem dL_law_345 : decode cL_law 345 = .ok (.iadd, 1) := by decide +kernel
theorem dL_law_346 : decode cL_law 346 = .ok (.iaload, 1) := by decide +kernel
theorem dL_law_347 : decode cL_law 347 = .ok (.aload_n 0, 1) := by decide +kernel
theorem dL_law_348 : decode cL_law 348 = .ok (.iload_n 3, 1) := by decide +kernel
theorem dL_law_349 : decode cL_law 349 = .ok (.iconst 2, 1) := by decide +kernel
theorem dL_law_350 : decode cL_law 350 = .ok (.iadd, 1) := by decide +kernel
theorem dL_law_351 : decode cL_law 351 = .ok (.iaload, 1) := by decide +kernel
theorem dL_law_352 : decode cL_law 352 = .ok (.invokevirtual 40, 3) := by decide +kernel
theorem dL_law_355 : decode cL_law 355 = .ok (.if_icmp .eq 606, 3) := by decide +kernel
theorem dL_law_358 : decode cL_law 358 = .ok (.iconst 0, 1) := by decide +kernel
theorem dL_law_359 : decode cL_law 359 = .ok (.ireturn, 1) := by decide +kernel
theorem dL_law_360 : decode cL_law 360 = .ok (.aload_n 1, 1) := by decide +kernel
theorem dL_law_361 : decode cL_law 361 = .ok (.invokevirtual 41, 3) := by decide +kernel
theorem dL_law_364 : decode cL_law 364 = .ok (.aload_n 2, 1) := by decide +kernel
theorem dL_law_365 : decode cL_law 365 = .ok (.invokevirtual 44, 3) := by decide +kernel
theorem dL_law_368 : decode cL_law 368 = .ok (.if_icmp .eq 593, 3) := by decide +kernel
theorem dL_law_371 : decode cL_law 371 = .ok (.iconst 0, 1) := by decide +kernel
theorem dL_law_372 : decode cL_law 372 = .ok (.ireturn, 1) := by decide +kernel
theorem dL_law_373 : decode cL_law 373 = .ok (.aload_n 1, 1) := by decide +kernel
theorem dL_law_374 : decode cL_law 374 = .ok (.aload_n 0, 1) := by decide +kernel
theorem dL_law_375 : decode cL_law 375 = .ok (.iload_n 3, 1) := by decide +kernel
theorem dL_law_376 : decode cL_law 376 = .ok (.iconst 1, 1) := by decide +kernel
theorem dL_law_377 : decode cL_law 377 = .ok (.iadd, 1) := by decide +kernel
theorem dL_law_378 : decode cL_law 378 = .ok (.iaload, 1) := by decide +kernel
theorem dL_law_379 : decode cL_law 379 = .ok (.ifCond .eq 7, 3) := by decide +kernel
theorem dL_law_382 : decode cL_law 382 = .ok (.iconst 1, 1) := by decide +kernel
theorem dL_law_383 : decode cL_law 383 = .ok (.goto 4, 3) := by decide +kernel
theorem dL_law_386 : decode cL_law 386 = .ok (.iconst 0, 1) := by decide +kernel
theorem dL_law_387 : decode cL_law 387 = .ok (.invokevirtual 45, 3) := by decide +kernel
theorem dL_law_390 : decode cL_law 390 = .ok (.aload_n 2, 1) := by decide +kernel
theorem dL_law_391 : decode cL_law 391 = .ok (.aload_n 0, 1) := by decide +kernel
theorem dL_law_392 : decode cL_law 392 = .ok (.iload_n 3, 1) := by decide +kernel
theorem dL_law_393 : decode cL_law 393 = .ok (.iconst 1, 1) := by decide +kernel
theorem dL_law_394 : decode cL_law 394 = .ok (.iadd, 1) := by decide +kernel
theorem dL_law_395 : decode cL_law 395 = .ok (.iaload, 1) := by decide +kernel
theorem dL_law_396 : decode cL_law 396 = .ok (.ifCond .eq 7, 3) := by decide +kernel
theorem dL_law_399 : decode cL_law 399 = .ok (.iconst 1, 1) := by decide +kernel
theorem dL_law_400 : decode cL_law 400 = .ok (.goto 4, 3) := by decide +kernel
theorem dL_law_403 : decode cL_law 403 = .ok (.iconst 0, 1) := by decide +kernel
theorem dL_law_404 : decode cL_law 404 = .ok (.invokevirtual 49, 3) := by decide +kernel
theorem dL_law_407 : decode cL_law 407 = .ok (.if_icmp .eq 554, 3) := by decide +kernel
theorem dL_law_410 : decode cL_law 410 = .ok (.iconst 0, 1) := by decide +kernel
theorem dL_law_411 : decode cL_law 411 = .ok (.ireturn, 1) := by decide +kernel
theorem dL_law_412 : decode cL_law 412 = .ok (.aload_n 1, 1) := by decide +kernel
theorem dL_law_413 : decode cL_law 413 = .ok (.aload_n 0, 1) := by decide +kernel
theorem dL_law_414 : decode cL_law 414 = .ok (.iload_n 3, 1) := by decide +kernel
theorem dL_law_415 : decode cL_law 415 = .ok (.iconst 1, 1) := by decide +kernel
theorem dL_law_416 : decode cL_law 416 = .ok (.iadd, 1) := by decide +kernel
theorem dL_law_417 : decode cL_law 417 = .ok (.iaload, 1) := by decide +kernel
theorem dL_law_418 : decode cL_law 418 = .ok (.invokevirtual 50, 3) := by decide +kernel
theorem dL_law_421 : decode cL_law 421 = .ok (.aload_n 2, 1) := by decide +kernel
theorem dL_law_422 : decode cL_law 422 = .ok (.aload_n 0, 1) := by decide +kernel
theorem dL_law_423 : decode cL_law 423 = .ok (.iload_n 3, 1) := by decide +kernel
theorem dL_law_424 : decode cL_law 424 = .ok (.iconst 1, 1) := by decide +kernel
theorem dL_law_425 : decode cL_law 425 = .ok (.iadd, 1) := by decide +kernel
theorem dL_law_426 : decode cL_law 426 = .ok (.iaload, 1) := by decide +kernel
theorem dL_law_427 : decode cL_law 427 = .ok (.invokevirtual 53, 3) := by decide +kernel
theorem dL_law_430 : decode cL_law 430 = .ok (.if_icmp .eq 531, 3) := by decide +kernel
theorem dL_law_433 : decode cL_law 433 = .ok (.iconst 0, 1) := by decide +kernel
theorem dL_law_434 : decode cL_law 434 = .ok (.ireturn, 1) := by decide +kernel
theorem dL_law_435 : decode cL_law 435 = .ok (.aload_n 1, 1) := by decide +kernel
theorem dL_law_436 : decode cL_law 436 = .ok (.aload_n 0, 1) := by decide +kernel
theorem dL_law_437 : decode cL_law 437 = .ok (.iload_n 3, 1) := by decide +kernel
theorem dL_law_438 : decode cL_law 438 = .ok (.iconst 1, 1) := by decide +kernel
theorem dL_law_439 : decode cL_law 439 = .ok (.iadd, 1) := by decide +kernel
theorem dL_law_440 : decode cL_law 440 = .ok (.iaload, 1) := by decide +kernel
theorem dL_law_441 : decode cL_law 441 = .ok (.aload_n 0, 1) := by decide +kernel
theorem dL_law_442 : decode cL_law 442 = .ok (.iload_n 3, 1) := by decide +kernel
theorem dL_law_443 : decode cL_law 443 = .ok (.iconst 2, 1) := by decide +kernel
theorem dL_law_444 : decode cL_law 444 = .ok (.iadd, 1) := by decide +kernel
theorem dL_law_445 : decode cL_law 445 = .ok (.iaload, 1) := by decide +kernel
theorem dL_law_446 : decode cL_law 446 = .ok (.invokevirtual 54, 3) := by decide +kernel
theorem dL_law_449 : decode cL_law 449 = .ok (.aload_n 2, 1) := by decide +kernel
theorem dL_law_450 : decode cL_law 450 = .ok (.aload_n 0, 1) := by decide +kernel
theorem dL_law_451 : decode cL_law 451 = .ok (.iload_n 3, 1) := by decide +kernel
theorem dL_law_452 : decode cL_law 452 = .ok (.iconst 1, 1) := by decide +kernel
theorem dL_law_453 : decode cL_law 453 = .ok (.iadd, 1) := by decide +kernel
theorem dL_law_454 : decode cL_law 454 = .ok (.iaload, 1) := by decide +kernel
theorem dL_law_455 : decode cL_law 455 = .ok (.aload_n 0, 1) := by decide +kernel
theorem dL_law_456 : decode cL_law 456 = .ok (.iload_n 3, 1) := by decide +kernel
theorem dL_law_457 : decode cL_law 457 = .ok (.iconst 2, 1) := by decide +kernel
theorem dL_law_458 : decode cL_law 458 = .ok (.iadd, 1) := by decide +kernel
theorem dL_law_459 : decode cL_law 459 = .ok (.iaload, 1) := by decide +kernel
theorem dL_law_460 : decode cL_law 460 = .ok (.invokevirtual 57, 3) := by decide +kernel
theorem dL_law_463 : decode cL_law 463 = .ok (.if_icmp .eq 498, 3) := by decide +kernel
theorem dL_law_466 : decode cL_law 466 = .ok (.iconst 0, 1) := by decide +kernel
theorem dL_law_467 : decode cL_law 467 = .ok (.ireturn, 1) := by decide +kernel
theorem dL_law_468 : decode cL_law 468 = .ok (.aload_n 1, 1) := by decide +kernel
theorem dL_law_469 : decode cL_law 469 = .ok (.aload_n 0, 1) := by decide +kernel
theorem dL_law_470 : decode cL_law 470 = .ok (.iload_n 3, 1) := by decide +kernel
theorem dL_law_471 : decode cL_law 471 = .ok (.iconst 1, 1) := by decide +kernel
theorem dL_law_472 : decode cL_law 472 = .ok (.iadd, 1) := by decide +kernel
theorem dL_law_473 : decode cL_law 473 = .ok (.iaload, 1) := by decide +kernel
theorem dL_law_474 : decode cL_law 474 = .ok (.i2c, 1) := by decide +kernel
theorem dL_law_475 : decode cL_law 475 = .ok (.invokevirtual 58, 3) := by decide +kernel
theorem dL_law_478 : decode cL_law 478 = .ok (.aload_n 2, 1) := by decide +kernel
theorem dL_law_479 : decode cL_law 479 = .ok (.aload_n 0, 1) := by decide +kernel
theorem dL_law_480 : decode cL_law 480 = .ok (.iload_n 3, 1) := by decide +kernel
theorem dL_law_481 : decode cL_law 481 = .ok (.iconst 1, 1) := by decide +kernel
theorem dL_law_482 : decode cL_law 482 = .ok (.iadd, 1) := by decide +kernel
theorem dL_law_483 : decode cL_law 483 = .ok (.iaload, 1) := by decide +kernel
theorem dL_law_484 : decode cL_law 484 = .ok (.i2c, 1) := by decide +kernel
theorem dL_law_485 : decode cL_law 485 = .ok (.invokevirtual 62, 3) := by decide +kernel
theorem dL_law_488 : decode cL_law 488 = .ok (.if_icmp .eq 473, 3) := by decide +kernel
theorem dL_law_491 : decode cL_law 491 = .ok (.iconst 0, 1) := by decide +kernel
theorem dL_law_492 : decode cL_law 492 = .ok (.ireturn, 1) := by decide +kernel
theorem dL_law_493 : decode cL_law 493 = .ok (.aload_n 1, 1) := by decide +kernel
theorem dL_law_494 : decode cL_law 494 = .ok (.invokevirtual 63, 3) := by decide +kernel
theorem dL_law_497 : decode cL_law 497 = .ok (.aload_n 2, 1) := by decide +kernel
theorem dL_law_498 : decode cL_law 498 = .ok (.invokevirtual 66, 3) := by decide +kernel
theorem dL_law_501 : decode cL_law 501 = .ok (.if_icmp .eq 460, 3) := by decide +kernel
theorem dL_law_504 : decode cL_law 504 = .ok (.iconst 0, 1) := by decide +kernel
theorem dL_law_505 : decode cL_law 505 = .ok (.ireturn, 1) := by decide +kernel
theorem dL_law_506 : decode cL_law 506 = .ok (.aload_n 1, 1) := by decide +kernel
theorem dL_law_507 : decode cL_law 507 = .ok (.invokevirtual 67, 3) := by decide +kernel
theorem dL_law_510 : decode cL_law 510 = .ok (.aload_n 2, 1) := by decide +kernel
theorem dL_law_511 : decode cL_law 511 = .ok (.invokevirtual 70, 3) := by decide +kernel
theorem dL_law_514 : decode cL_law 514 = .ok (.if_icmp .eq 447, 3) := by decide +kernel
theorem dL_law_517 : decode cL_law 517 = .ok (.iconst 0, 1) := by decide +kernel
theorem dL_law_518 : decode cL_law 518 = .ok (.ireturn, 1) := by decide +kernel
theorem dL_law_519 : decode cL_law 519 = .ok (.aload_n 1, 1) := by decide +kernel
theorem dL_law_520 : decode cL_law 520 = .ok (.invokevirtual 71, 3) := by decide +kernel
theorem dL_law_523 : decode cL_law 523 = .ok (.aload_n 2, 1) := by decide +kernel
theorem dL_law_524 : decode cL_law 524 = .ok (.invokevirtual 74, 3) := by decide +kernel
theorem dL_law_527 : decode cL_law 527 = .ok (.if_icmp .eq 434, 3) := by decide +kernel
theorem dL_law_530 : decode cL_law 530 = .ok (.iconst 0, 1) := by decide +kernel
theorem dL_law_531 : decode cL_law 531 = .ok (.ireturn, 1) := by decide +kernel
theorem dL_law_532 : decode cL_law 532 = .ok (.aload_n 1, 1) := by decide +kernel
theorem dL_law_533 : decode cL_law 533 = .ok (.invokevirtual 75, 3) := by decide +kernel
theorem dL_law_536 : decode cL_law 536 = .ok (.aload_n 2, 1) := by decide +kernel
theorem dL_law_537 : decode cL_law 537 = .ok (.invokevirtual 78, 3) := by decide +kernel
theorem dL_law_540 : decode cL_law 540 = .ok (.if_icmp .eq 421, 3) := by decide +kernel
theorem dL_law_543 : decode cL_law 543 = .ok (.iconst 0, 1) := by decide +kernel
theorem dL_law_544 : decode cL_law 544 = .ok (.ireturn, 1) := by decide +kernel
theorem dL_law_545 : decode cL_law 545 = .ok (.aload_n 1, 1) := by decide +kernel
theorem dL_law_546 : decode cL_law 546 = .ok (.invokevirtual 79, 3) := by decide +kernel
theorem dL_law_549 : decode cL_law 549 = .ok (.aload_n 2, 1) := by decide +kernel
theorem dL_law_550 : decode cL_law 550 = .ok (.invokevirtual 82, 3) := by decide +kernel
theorem dL_law_553 : decode cL_law 553 = .ok (.if_icmp .eq 408, 3) := by decide +kernel
theorem dL_law_556 : decode cL_law 556 = .ok (.iconst 0, 1) := by decide +kernel
theorem dL_law_557 : decode cL_law 557 = .ok (.ireturn, 1) := by decide +kernel
theorem dL_law_558 : decode cL_law 558 = .ok (.aload_n 1, 1) := by decide +kernel
theorem dL_law_559 : decode cL_law 559 = .ok (.aload_n 0, 1) := by decide +kernel
theorem dL_law_560 : decode cL_law 560 = .ok (.iload_n 3, 1) := by decide +kernel
theorem dL_law_561 : decode cL_law 561 = .ok (.iconst 1, 1) := by decide +kernel
theorem dL_law_562 : decode cL_law 562 = .ok (.iadd, 1) := by decide +kernel
theorem dL_law_563 : decode cL_law 563 = .ok (.iaload, 1) := by decide +kernel
theorem dL_law_564 : decode cL_law 564 = .ok (.aload_n 0, 1) := by decide +kernel
theorem dL_law_565 : decode cL_law 565 = .ok (.iload_n 3, 1) := by decide +kernel
theorem dL_law_566 : decode cL_law 566 = .ok (.iconst 2, 1) := by decide +kernel
theorem dL_law_567 : decode cL_law 567 = .ok (.iadd, 1) := by decide +kernel
theorem dL_law_568 : decode cL_law 568 = .ok (.iaload, 1) := by decide +kernel
theorem dL_law_569 : decode cL_law 569 = .ok (.invokevirtual 83, 3) := by decide +kernel
theorem dL_law_572 : decode cL_law 572 = .ok (.aload_n 2, 1) := by decide +kernel
theorem dL_law_573 : decode cL_law 573 = .ok (.aload_n 0, 1) := by decide +kernel
theorem dL_law_574 : decode cL_law 574 = .ok (.iload_n 3, 1) := by decide +kernel
theorem dL_law_575 : decode cL_law 575 = .ok (.iconst 1, 1) := by decide +kernel
theorem dL_law_576 : decode cL_law 576 = .ok (.iadd, 1) := by decide +kernel
theorem dL_law_577 : decode cL_law 577 = .ok (.iaload, 1) := by decide +kernel
theorem dL_law_578 : decode cL_law 578 = .ok (.aload_n 0, 1) := by decide +kernel
theorem dL_law_579 : decode cL_law 579 = .ok (.iload_n 3, 1) := by decide +kernel
theorem dL_law_580 : decode cL_law 580 = .ok (.iconst 2, 1) := by decide +kernel
theorem dL_law_581 : decode cL_law 581 = .ok (.iadd, 1) := by decide +kernel
theorem dL_law_582 : decode cL_law 582 = .ok (.iaload, 1) := by decide +kernel
theorem dL_law_583 : decode cL_law 583 = .ok (.invokevirtual 86, 3) := by decide +kernel
theorem dL_law_586 : decode cL_law 586 = .ok (.if_icmp .eq 375, 3) := by decide +kernel
theorem dL_law_589 : decode cL_law 589 = .ok (.iconst 0, 1) := by decide +kernel
theorem dL_law_590 : decode cL_law 590 = .ok (.ireturn, 1) := by decide +kernel
theorem dL_law_591 : decode cL_law 591 = .ok (.aload_n 1, 1) := by decide +kernel
theorem dL_law_592 : decode cL_law 592 = .ok (.aload_n 0, 1) := by decide +kernel
theorem dL_law_593 : decode cL_law 593 = .ok (.iload_n 3, 1) := by decide +kernel
theorem dL_law_594 : decode cL_law 594 = .ok (.iconst 1, 1) := by decide +kernel
theorem dL_law_595 : decode cL_law 595 = .ok (.iadd, 1) := by decide +kernel
theorem dL_law_596 : decode cL_law 596 = .ok (.iaload, 1) := by decide +kernel
theorem dL_law_597 : decode cL_law 597 = .ok (.aload_n 0, 1) := by decide +kernel
theorem dL_law_598 : decode cL_law 598 = .ok (.iload_n 3, 1) := by decide +kernel
theorem dL_law_599 : decode cL_law 599 = .ok (.iconst 2, 1) := by decide +kernel
theorem dL_law_600 : decode cL_law 600 = .ok (.iadd, 1) := by decide +kernel
theorem dL_law_601 : decode cL_law 601 = .ok (.iaload, 1) := by decide +kernel
theorem dL_law_602 : decode cL_law 602 = .ok (.invokevirtual 87, 3) := by decide +kernel
theorem dL_law_605 : decode cL_law 605 = .ok (.aload_n 2, 1) := by decide +kernel
theorem dL_law_606 : decode cL_law 606 = .ok (.aload_n 0, 1) := by decide +kernel
theorem dL_law_607 : decode cL_law 607 = .ok (.iload_n 3, 1) := by decide +kernel
theorem dL_law_608 : decode cL_law 608 = .ok (.iconst 1, 1) := by decide +kernel
theorem dL_law_609 : decode cL_law 609 = .ok (.iadd, 1) := by decide +kernel
theorem dL_law_610 : decode cL_law 610 = .ok (.iaload, 1) := by decide +kernel
theorem dL_law_611 : decode cL_law 611 = .ok (.aload_n 0, 1) := by decide +kernel
theorem dL_law_612 : decode cL_law 612 = .ok (.iload_n 3, 1) := by decide +kernel
theorem dL_law_613 : decode cL_law 613 = .ok (.iconst 2, 1) := by decide +kernel
theorem dL_law_614 : decode cL_law 614 = .ok (.iadd, 1) := by decide +kernel
theorem dL_law_615 : decode cL_law 615 = .ok (.iaload, 1) := by decide +kernel
theorem dL_law_616 : decode cL_law 616 = .ok (.invokevirtual 90, 3) := by decide +kernel
theorem dL_law_619 : decode cL_law 619 = .ok (.if_icmp .eq 342, 3) := by decide +kernel
theorem dL_law_622 : decode cL_law 622 = .ok (.iconst 0, 1) := by decide +kernel
theorem dL_law_623 : decode cL_law 623 = .ok (.ireturn, 1) := by decide +kernel
theorem dL_law_624 : decode cL_law 624 = .ok (.aload_n 1, 1) := by decide +kernel
theorem dL_law_625 : decode cL_law 625 = .ok (.aload_n 0, 1) := by decide +kernel
theorem dL_law_626 : decode cL_law 626 = .ok (.iload_n 3, 1) := by decide +kernel
theorem dL_law_627 : decode cL_law 627 = .ok (.iconst 1, 1) := by decide +kernel
theorem dL_law_628 : decode cL_law 628 = .ok (.iadd, 1) := by decide +kernel
theorem dL_law_629 : decode cL_law 629 = .ok (.iaload, 1) := by decide +kernel
theorem dL_law_630 : decode cL_law 630 = .ok (.aload_n 0, 1) := by decide +kernel
theorem dL_law_631 : decode cL_law 631 = .ok (.iload_n 3, 1) := by decide +kernel
theorem dL_law_632 : decode cL_law 632 = .ok (.iconst 2, 1) := by decide +kernel
theorem dL_law_633 : decode cL_law 633 = .ok (.iadd, 1) := by decide +kernel
theorem dL_law_634 : decode cL_law 634 = .ok (.iaload, 1) := by decide +kernel
theorem dL_law_635 : decode cL_law 635 = .ok (.invokevirtual 91, 3) := by decide +kernel
theorem dL_law_638 : decode cL_law 638 = .ok (.aload_n 2, 1) := by decide +kernel
theorem dL_law_639 : decode cL_law 639 = .ok (.aload_n 0, 1) := by decide +kernel
theorem dL_law_640 : decode cL_law 640 = .ok (.iload_n 3, 1) := by decide +kernel
theorem dL_law_641 : decode cL_law 641 = .ok (.iconst 1, 1) := by decide +kernel
theorem dL_law_642 : decode cL_law 642 = .ok (.iadd, 1) := by decide +kernel
theorem dL_law_643 : decode cL_law 643 = .ok (.iaload, 1) := by decide +kernel
theorem dL_law_644 : decode cL_law 644 = .ok (.aload_n 0, 1) := by decide +kernel
theorem dL_law_645 : decode cL_law 645 = .ok (.iload_n 3, 1) := by decide +kernel
theorem dL_law_646 : decode cL_law 646 = .ok (.iconst 2, 1) := by decide +kernel
theorem dL_law_647 : decode cL_law 647 = .ok (.iadd, 1) := by decide +kernel
theorem dL_law_648 : decode cL_law 648 = .ok (.iaload, 1) := by decide +kernel
theorem dL_law_649 : decode cL_law 649 = .ok (.invokevirtual 94, 3) := by decide +kernel
theorem dL_law_652 : decode cL_law 652 = .ok (.if_icmp .eq 309, 3) := by decide +kernel
theorem dL_law_655 : decode cL_law 655 = .ok (.iconst 0, 1) := by decide +kernel
theorem dL_law_656 : decode cL_law 656 = .ok (.ireturn, 1) := by decide +kernel
theorem dL_law_657 : decode cL_law 657 = .ok (.aload_n 1, 1) := by decide +kernel
theorem dL_law_658 : decode cL_law 658 = .ok (.aload_n 0, 1) := by decide +kernel
theorem dL_law_659 : decode cL_law 659 = .ok (.iload_n 3, 1) := by decide +kernel
theorem dL_law_660 : decode cL_law 660 = .ok (.iconst 1, 1) := by decide +kernel
theorem dL_law_661 : decode cL_law 661 = .ok (.iadd, 1) := by decide +kernel
theorem dL_law_662 : decode cL_law 662 = .ok (.iaload, 1) := by decide +kernel
theorem dL_law_663 : decode cL_law 663 = .ok (.aload_n 0, 1) := by decide +kernel
theorem dL_law_664 : decode cL_law 664 = .ok (.iload_n 3, 1) := by decide +kernel
theorem dL_law_665 : decode cL_law 665 = .ok (.iconst 2, 1) := by decide +kernel
theorem dL_law_666 : decode cL_law 666 = .ok (.iadd, 1) := by decide +kernel
theorem dL_law_667 : decode cL_law 667 = .ok (.iaload, 1) := by decide +kernel
theorem dL_law_668 : decode cL_law 668 = .ok (.invokevirtual 95, 3) := by decide +kernel
theorem dL_law_671 : decode cL_law 671 = .ok (.aload_n 2, 1) := by decide +kernel
theorem dL_law_672 : decode cL_law 672 = .ok (.aload_n 0, 1) := by decide +kernel
theorem dL_law_673 : decode cL_law 673 = .ok (.iload_n 3, 1) := by decide +kernel
theorem dL_law_674 : decode cL_law 674 = .ok (.iconst 1, 1) := by decide +kernel
theorem dL_law_675 : decode cL_law 675 = .ok (.iadd, 1) := by decide +kernel
theorem dL_law_676 : decode cL_law 676 = .ok (.iaload, 1) := by decide +kernel
theorem dL_law_677 : decode cL_law 677 = .ok (.aload_n 0, 1) := by decide +kernel
theorem dL_law_678 : decode cL_law 678 = .ok (.iload_n 3, 1) := by decide +kernel
theorem dL_law_679 : decode cL_law 679 = .ok (.iconst 2, 1) := by decide +kernel
theorem dL_law_680 : decode cL_law 680 = .ok (.iadd, 1) := by decide +kernel
theorem dL_law_681 : decode cL_law 681 = .ok (.iaload, 1) := by decide +kernel
theorem dL_law_682 : decode cL_law 682 = .ok (.invokevirtual 98, 3) := by decide +kernel
theorem dL_law_685 : decode cL_law 685 = .ok (.if_icmp .eq 276, 3) := by decide +kernel
theorem dL_law_688 : decode cL_law 688 = .ok (.iconst 0, 1) := by decide +kernel
theorem dL_law_689 : decode cL_law 689 = .ok (.ireturn, 1) := by decide +kernel
theorem dL_law_690 : decode cL_law 690 = .ok (.aload_n 1, 1) := by decide +kernel
theorem dL_law_691 : decode cL_law 691 = .ok (.aload_n 0, 1) := by decide +kernel
theorem dL_law_692 : decode cL_law 692 = .ok (.iload_n 3, 1) := by decide +kernel
theorem dL_law_693 : decode cL_law 693 = .ok (.iconst 1, 1) := by decide +kernel
theorem dL_law_694 : decode cL_law 694 = .ok (.iadd, 1) := by decide +kernel
theorem dL_law_695 : decode cL_law 695 = .ok (.iaload, 1) := by decide +kernel
theorem dL_law_696 : decode cL_law 696 = .ok (.invokevirtual 99, 3) := by decide +kernel
theorem dL_law_699 : decode cL_law 699 = .ok (.aload_n 2, 1) := by decide +kernel
theorem dL_law_700 : decode cL_law 700 = .ok (.aload_n 0, 1) := by decide +kernel
theorem dL_law_701 : decode cL_law 701 = .ok (.iload_n 3, 1) := by decide +kernel
theorem dL_law_702 : decode cL_law 702 = .ok (.iconst 1, 1) := by decide +kernel
theorem dL_law_703 : decode cL_law 703 = .ok (.iadd, 1) := by decide +kernel
theorem dL_law_704 : decode cL_law 704 = .ok (.iaload, 1) := by decide +kernel
theorem dL_law_705 : decode cL_law 705 = .ok (.invokevirtual 102, 3) := by decide +kernel
theorem dL_law_708 : decode cL_law 708 = .ok (.if_icmp .eq 253, 3) := by decide +kernel
theorem dL_law_711 : decode cL_law 711 = .ok (.iconst 0, 1) := by decide +kernel
theorem dL_law_712 : decode cL_law 712 = .ok (.ireturn, 1) := by decide +kernel
theorem dL_law_713 : decode cL_law 713 = .ok (.aload_n 1, 1) := by decide +kernel
theorem dL_law_714 : decode cL_law 714 = .ok (.aload_n 0, 1) := by decide +kernel
theorem dL_law_715 : decode cL_law 715 = .ok (.iload_n 3, 1) := by decide +kernel
theorem dL_law_716 : decode cL_law 716 = .ok (.iconst 1, 1) := by decide +kernel
theorem dL_law_717 : decode cL_law 717 = .ok (.iadd, 1) := by decide +kernel
theorem dL_law_718 : decode cL_law 718 = .ok (.iaload, 1) := by decide +kernel
theorem dL_law_719 : decode cL_law 719 = .ok (.invokevirtual 103, 3) := by decide +kernel
theorem dL_law_722 : decode cL_law 722 = .ok (.aload_n 2, 1) := by decide +kernel
theorem dL_law_723 : decode cL_law 723 = .ok (.aload_n 0, 1) := by decide +kernel
theorem dL_law_724 : decode cL_law 724 = .ok (.iload_n 3, 1) := by decide +kernel
theorem dL_law_725 : decode cL_law 725 = .ok (.iconst 1, 1) := by decide +kernel
theorem dL_law_726 : decode cL_law 726 = .ok (.iadd, 1) := by decide +kernel
theorem dL_law_727 : decode cL_law 727 = .ok (.iaload, 1) := by decide +kernel
theorem dL_law_728 : decode cL_law 728 = .ok (.invokevirtual 106, 3) := by decide +kernel
theorem dL_law_731 : decode cL_law 731 = .ok (.if_icmp .eq 230, 3) := by decide +kernel
theorem dL_law_734 : decode cL_law 734 = .ok (.iconst 0, 1) := by decide +kernel
theorem dL_law_735 : decode cL_law 735 = .ok (.ireturn, 1) := by decide +kernel
theorem dL_law_736 : decode cL_law 736 = .ok (.aload_n 1, 1) := by decide +kernel
theorem dL_law_737 : decode cL_law 737 = .ok (.aload_n 0, 1) := by decide +kernel
theorem dL_law_738 : decode cL_law 738 = .ok (.iload_n 3, 1) := by decide +kernel
theorem dL_law_739 : decode cL_law 739 = .ok (.iconst 1, 1) := by decide +kernel
theorem dL_law_740 : decode cL_law 740 = .ok (.iadd, 1) := by decide +kernel
theorem dL_law_741 : decode cL_law 741 = .ok (.iaload, 1) := by decide +kernel
theorem dL_law_742 : decode cL_law 742 = .ok (.aload_n 0, 1) := by decide +kernel
theorem dL_law_743 : decode cL_law 743 = .ok (.iload_n 3, 1) := by decide +kernel
theorem dL_law_744 : decode cL_law 744 = .ok (.iconst 2, 1) := by decide +kernel
theorem dL_law_745 : decode cL_law 745 = .ok (.iadd, 1) := by decide +kernel
theorem dL_law_746 : decode cL_law 746 = .ok (.iaload, 1) := by decide +kernel
theorem dL_law_747 : decode cL_law 747 = .ok (.invokevirtual 107, 3) := by decide +kernel
theorem dL_law_750 : decode cL_law 750 = .ok (.dstore 4, 2) := by decide +kernel
theorem dL_law_752 : decode cL_law 752 = .ok (.aload_n 2, 1) := by decide +kernel
theorem dL_law_753 : decode cL_law 753 = .ok (.aload_n 0, 1) := by decide +kernel
theorem dL_law_754 : decode cL_law 754 = .ok (.iload_n 3, 1) := by decide +kernel
theorem dL_law_755 : decode cL_law 755 = .ok (.iconst 1, 1) := by decide +kernel
theorem dL_law_756 : decode cL_law 756 = .ok (.iadd, 1) := by decide +kernel
theorem dL_law_757 : decode cL_law 757 = .ok (.iaload, 1) := by decide +kernel
theorem dL_law_758 : decode cL_law 758 = .ok (.aload_n 0, 1) := by decide +kernel
theorem dL_law_759 : decode cL_law 759 = .ok (.iload_n 3, 1) := by decide +kernel
theorem dL_law_760 : decode cL_law 760 = .ok (.iconst 2, 1) := by decide +kernel
theorem dL_law_761 : decode cL_law 761 = .ok (.iadd, 1) := by decide +kernel
theorem dL_law_762 : decode cL_law 762 = .ok (.iaload, 1) := by decide +kernel
theorem dL_law_763 : decode cL_law 763 = .ok (.invokevirtual 111, 3) := by decide +kernel
theorem dL_law_766 : decode cL_law 766 = .ok (.dstore 6, 2) := by decide +kernel
theorem dL_law_768 : decode cL_law 768 = .ok (.dload 4, 2) := by decide +kernel
theorem dL_law_770 : decode cL_law 770 = .ok (.dload 6, 2) := by decide +kernel
theorem dL_law_772 : decode cL_law 772 = .ok (.dcmp .l, 1) := by decide +kernel
theorem dL_law_773 : decode cL_law 773 = .ok (.ifCond .eq 21, 3) := by decide +kernel
theorem dL_law_776 : decode cL_law 776 = .ok (.dload 4, 2) := by decide +kernel
theorem dL_law_778 : decode cL_law 778 = .ok (.dload 4, 2) := by decide +kernel
theorem dL_law_780 : decode cL_law 780 = .ok (.dcmp .l, 1) := by decide +kernel
theorem dL_law_781 : decode cL_law 781 = .ok (.ifCond .eq 11, 3) := by decide +kernel
theorem dL_law_784 : decode cL_law 784 = .ok (.dload 6, 2) := by decide +kernel
theorem dL_law_786 : decode cL_law 786 = .ok (.dload 6, 2) := by decide +kernel
theorem dL_law_788 : decode cL_law 788 = .ok (.dcmp .l, 1) := by decide +kernel
theorem dL_law_789 : decode cL_law 789 = .ok (.ifCond .ne 5, 3) := by decide +kernel
theorem dL_law_792 : decode cL_law 792 = .ok (.iconst 0, 1) := by decide +kernel
theorem dL_law_793 : decode cL_law 793 = .ok (.ireturn, 1) := by decide +kernel
theorem dL_law_794 : decode cL_law 794 = .ok (.goto 167, 3) := by decide +kernel
theorem dL_law_797 : decode cL_law 797 = .ok (.aload_n 1, 1) := by decide +kernel
theorem dL_law_798 : decode cL_law 798 = .ok (.aload_n 0, 1) := by decide +kernel
theorem dL_law_799 : decode cL_law 799 = .ok (.iload_n 3, 1) := by decide +kernel
theorem dL_law_800 : decode cL_law 800 = .ok (.iconst 1, 1) := by decide +kernel
theorem dL_law_801 : decode cL_law 801 = .ok (.iadd, 1) := by decide +kernel
theorem dL_law_802 : decode cL_law 802 = .ok (.iaload, 1) := by decide +kernel
theorem dL_law_803 : decode cL_law 803 = .ok (.invokevirtual 112, 3) := by decide +kernel
theorem dL_law_806 : decode cL_law 806 = .ok (.aload_n 2, 1) := by decide +kernel
theorem dL_law_807 : decode cL_law 807 = .ok (.aload_n 0, 1) := by decide +kernel
theorem dL_law_808 : decode cL_law 808 = .ok (.iload_n 3, 1) := by decide +kernel
theorem dL_law_809 : decode cL_law 809 = .ok (.iconst 1, 1) := by decide +kernel
theorem dL_law_810 : decode cL_law 810 = .ok (.iadd, 1) := by decide +kernel
theorem dL_law_811 : decode cL_law 811 = .ok (.iaload, 1) := by decide +kernel
theorem dL_law_812 : decode cL_law 812 = .ok (.invokevirtual 115, 3) := by decide +kernel
theorem dL_law_815 : decode cL_law 815 = .ok (.if_icmp .eq 146, 3) := by decide +kernel
theorem dL_law_818 : decode cL_law 818 = .ok (.iconst 0, 1) := by decide +kernel
theorem dL_law_819 : decode cL_law 819 = .ok (.ireturn, 1) := by decide +kernel
theorem dL_law_820 : decode cL_law 820 = .ok (.aload_n 1, 1) := by decide +kernel
theorem dL_law_821 : decode cL_law 821 = .ok (.aload_n 0, 1) := by decide +kernel
theorem dL_law_822 : decode cL_law 822 = .ok (.iload_n 3, 1) := by decide +kernel
theorem dL_law_823 : decode cL_law 823 = .ok (.iconst 1, 1) := by decide +kernel
theorem dL_law_824 : decode cL_law 824 = .ok (.iadd, 1) := by decide +kernel
theorem dL_law_825 : decode cL_law 825 = .ok (.iaload, 1) := by decide +kernel
theorem dL_law_826 : decode cL_law 826 = .ok (.aload_n 0, 1) := by decide +kernel
theorem dL_law_827 : decode cL_law 827 = .ok (.iload_n 3, 1) := by decide +kernel
theorem dL_law_828 : decode cL_law 828 = .ok (.iconst 2, 1) := by decide +kernel
theorem dL_law_829 : decode cL_law 829 = .ok (.iadd, 1) := by decide +kernel
theorem dL_law_830 : decode cL_law 830 = .ok (.iaload, 1) := by decide +kernel
theorem dL_law_831 : decode cL_law 831 = .ok (.invokevirtual 116, 3) := by decide +kernel
theorem dL_law_834 : decode cL_law 834 = .ok (.aload_n 2, 1) := by decide +kernel
theorem dL_law_835 : decode cL_law 835 = .ok (.aload_n 0, 1) := by decide +kernel
theorem dL_law_836 : decode cL_law 836 = .ok (.iload_n 3, 1) := by decide +kernel
theorem dL_law_837 : decode cL_law 837 = .ok (.iconst 1, 1) := by decide +kernel
theorem dL_law_838 : decode cL_law 838 = .ok (.iadd, 1) := by decide +kernel
theorem dL_law_839 : decode cL_law 839 = .ok (.iaload, 1) := by decide +kernel
theorem dL_law_840 : decode cL_law 840 = .ok (.aload_n 0, 1) := by decide +kernel
theorem dL_law_841 : decode cL_law 841 = .ok (.iload_n 3, 1) := by decide +kernel
theorem dL_law_842 : decode cL_law 842 = .ok (.iconst 2, 1) := by decide +kernel
theorem dL_law_843 : decode cL_law 843 = .ok (.iadd, 1) := by decide +kernel
theorem dL_law_844 : decode cL_law 844 = .ok (.iaload, 1) := by decide +kernel
theorem dL_law_845 : decode cL_law 845 = .ok (.invokevirtual 119, 3) := by decide +kernel
theorem dL_law_848 : decode cL_law 848 = .ok (.if_icmp .eq 113, 3) := by decide +kernel
theorem dL_law_851 : decode cL_law 851 = .ok (.iconst 0, 1) := by decide +kernel
theorem dL_law_852 : decode cL_law 852 = .ok (.ireturn, 1) := by decide +kernel
theorem dL_law_853 : decode cL_law 853 = .ok (.aload_n 1, 1) := by decide +kernel
theorem dL_law_854 : decode cL_law 854 = .ok (.invokevirtual 120, 3) := by decide +kernel
theorem dL_law_857 : decode cL_law 857 = .ok (.aload_n 2, 1) := by decide +kernel
theorem dL_law_858 : decode cL_law 858 = .ok (.invokevirtual 123, 3) := by decide +kernel
theorem dL_law_861 : decode cL_law 861 = .ok (.if_icmp .eq 100, 3) := by decide +kernel
theorem dL_law_864 : decode cL_law 864 = .ok (.iconst 0, 1) := by decide +kernel
theorem dL_law_865 : decode cL_law 865 = .ok (.ireturn, 1) := by decide +kernel
theorem dL_law_866 : decode cL_law 866 = .ok (.aload_n 1, 1) := by decide +kernel
theorem dL_law_867 : decode cL_law 867 = .ok (.aload_n 0, 1) := by decide +kernel
theorem dL_law_868 : decode cL_law 868 = .ok (.iload_n 3, 1) := by decide +kernel
theorem dL_law_869 : decode cL_law 869 = .ok (.iconst 1, 1) := by decide +kernel
theorem dL_law_870 : decode cL_law 870 = .ok (.iadd, 1) := by decide +kernel
theorem dL_law_871 : decode cL_law 871 = .ok (.iaload, 1) := by decide +kernel
theorem dL_law_872 : decode cL_law 872 = .ok (.invokevirtual 124, 3) := by decide +kernel
theorem dL_law_875 : decode cL_law 875 = .ok (.aload_n 2, 1) := by decide +kernel
theorem dL_law_876 : decode cL_law 876 = .ok (.aload_n 0, 1) := by decide +kernel
theorem dL_law_877 : decode cL_law 877 = .ok (.iload_n 3, 1) := by decide +kernel
theorem dL_law_878 : decode cL_law 878 = .ok (.iconst 1, 1) := by decide +kernel
theorem dL_law_879 : decode cL_law 879 = .ok (.iadd, 1) := by decide +kernel
theorem dL_law_880 : decode cL_law 880 = .ok (.iaload, 1) := by decide +kernel
theorem dL_law_881 : decode cL_law 881 = .ok (.invokevirtual 127, 3) := by decide +kernel
theorem dL_law_884 : decode cL_law 884 = .ok (.if_icmp .eq 77, 3) := by decide +kernel
theorem dL_law_887 : decode cL_law 887 = .ok (.iconst 0, 1) := by decide +kernel
theorem dL_law_888 : decode cL_law 888 = .ok (.ireturn, 1) := by decide +kernel
theorem dL_law_889 : decode cL_law 889 = .ok (.aload_n 1, 1) := by decide +kernel
theorem dL_law_890 : decode cL_law 890 = .ok (.aload_n 0, 1) := by decide +kernel
theorem dL_law_891 : decode cL_law 891 = .ok (.iload_n 3, 1) := by decide +kernel
theorem dL_law_892 : decode cL_law 892 = .ok (.iconst 1, 1) := by decide +kernel
theorem dL_law_893 : decode cL_law 893 = .ok (.iadd, 1) := by decide +kernel
theorem dL_law_894 : decode cL_law 894 = .ok (.iaload, 1) := by decide +kernel
theorem dL_law_895 : decode cL_law 895 = .ok (.invokevirtual 128, 3) := by decide +kernel
theorem dL_law_898 : decode cL_law 898 = .ok (.aload_n 2, 1) := by decide +kernel
theorem dL_law_899 : decode cL_law 899 = .ok (.aload_n 0, 1) := by decide +kernel
theorem dL_law_900 : decode cL_law 900 = .ok (.iload_n 3, 1) := by decide +kernel
theorem dL_law_901 : decode cL_law 901 = .ok (.iconst 1, 1) := by decide +kernel
theorem dL_law_902 : decode cL_law 902 = .ok (.iadd, 1) := by decide +kernel
theorem dL_law_903 : decode cL_law 903 = .ok (.iaload, 1) := by decide +kernel
theorem dL_law_904 : decode cL_law 904 = .ok (.invokevirtual 131, 3) := by decide +kernel
theorem dL_law_907 : decode cL_law 907 = .ok (.if_icmp .eq 54, 3) := by decide +kernel
theorem dL_law_910 : decode cL_law 910 = .ok (.iconst 0, 1) := by decide +kernel
theorem dL_law_911 : decode cL_law 911 = .ok (.ireturn, 1) := by decide +kernel
theorem dL_law_912 : decode cL_law 912 = .ok (.aload_n 1, 1) := by decide +kernel
theorem dL_law_913 : decode cL_law 913 = .ok (.aload_n 0, 1) := by decide +kernel
theorem dL_law_914 : decode cL_law 914 = .ok (.iload_n 3, 1) := by decide +kernel
theorem dL_law_915 : decode cL_law 915 = .ok (.iconst 1, 1) := by decide +kernel
theorem dL_law_916 : decode cL_law 916 = .ok (.iadd, 1) := by decide +kernel
theorem dL_law_917 : decode cL_law 917 = .ok (.iaload, 1) := by decide +kernel
theorem dL_law_918 : decode cL_law 918 = .ok (.invokevirtual 132, 3) := by decide +kernel
theorem dL_law_921 : decode cL_law 921 = .ok (.aload_n 2, 1) := by decide +kernel
theorem dL_law_922 : decode cL_law 922 = .ok (.aload_n 0, 1) := by decide +kernel
theorem dL_law_923 : decode cL_law 923 = .ok (.iload_n 3, 1) := by decide +kernel
theorem dL_law_924 : decode cL_law 924 = .ok (.iconst 1, 1) := by decide +kernel
theorem dL_law_925 : decode cL_law 925 = .ok (.iadd, 1) := by decide +kernel
theorem dL_law_926 : decode cL_law 926 = .ok (.iaload, 1) := by decide +kernel
theorem dL_law_927 : decode cL_law 927 = .ok (.invokevirtual 135, 3) := by decide +kernel
theorem dL_law_930 : decode cL_law 930 = .ok (.if_icmp .eq 31, 3) := by decide +kernel
theorem dL_law_933 : decode cL_law 933 = .ok (.iconst 0, 1) := by decide +kernel
theorem dL_law_934 : decode cL_law 934 = .ok (.ireturn, 1) := by decide +kernel
theorem dL_law_935 : decode cL_law 935 = .ok (.aload_n 1, 1) := by decide +kernel
theorem dL_law_936 : decode cL_law 936 = .ok (.invokevirtual 136, 3) := by decide +kernel
theorem dL_law_939 : decode cL_law 939 = .ok (.aload_n 2, 1) := by decide +kernel
theorem dL_law_940 : decode cL_law 940 = .ok (.invokevirtual 139, 3) := by decide +kernel
theorem dL_law_943 : decode cL_law 943 = .ok (.if_icmp .eq 18, 3) := by decide +kernel
theorem dL_law_946 : decode cL_law 946 = .ok (.iconst 0, 1) := by decide +kernel
theorem dL_law_947 : decode cL_law 947 = .ok (.ireturn, 1) := by decide +kernel
theorem dL_law_948 : decode cL_law 948 = .ok (.aload_n 1, 1) := by decide +kernel
theorem dL_law_949 : decode cL_law 949 = .ok (.invokevirtual 140, 3) := by decide +kernel
theorem dL_law_952 : decode cL_law 952 = .ok (.aload_n 2, 1) := by decide +kernel
theorem dL_law_953 : decode cL_law 953 = .ok (.invokevirtual 143, 3) := by decide +kernel
theorem dL_law_956 : decode cL_law 956 = .ok (.if_icmp .eq 5, 3) := by decide +kernel
theorem dL_law_959 : decode cL_law 959 = .ok (.iconst 0, 1) := by decide +kernel
theorem dL_law_960 : decode cL_law 960 = .ok (.ireturn, 1) := by decide +kernel
theorem dL_law_961 : decode cL_law 961 = .ok (.iinc 3 4, 3) := by decide +kernel
theorem dL_law_964 : decode cL_law 964 = .ok (.goto (-946), 3) := by decide +kernel
theorem dL_law_967 : decode cL_law 967 = .ok (.iconst 1, 1) := by decide +kernel
theorem dL_law_968 : decode cL_law 968 = .ok (.ireturn, 1) := by decide +kernel
end
section
/-! THE WORLD: 134 cells at addresses that never change: seven huts of 17 cells (hut j, cell c: place 17 j + c), 9 cells of the object beside them (place 119 + c), 6 of the reference (place 128 + c). -/
abbrev HE : Type := va_G × (Nat → Nat) × (Nat → ClassId) × (Nat → Nat)
abbrev HV : Type := Nat → Int → Int
def AI (f : Int → Int) : Nat → Int32 := fun i => Int32.ofInt (f (i : Int))
def up1 (f : Int → Int) (i v : Int) : Int → Int := fun k => if k = i then v else f k
def upr (h : HV) (c : Nat) (f : Int → Int) : HV := fun k => if k = c then f else h k
def putH (hs : Nat → HV) (j : Nat) (h : HV) : Nat → HV := fun k => if k = j then h else hs k
def hA (E : HE) (j c : Nat) : Nat := E.2.1 (17 * j + c)
def tA (E : HE) (c : Nat) : Nat := E.2.1 (119 + c)
def mA (E : HE) (c : Nat) : Nat := E.2.1 (128 + c)
abbrev vI (x : Int) : Value := .int (Int32.ofInt x)
def hutE (E : HE) (j : Nat) (h : HV) (c : Nat) : va_E := match c with
  | 0 => .inr (3, [.ref (hA E j 1), .ref (hA E j 2), .ref (hA E j 3), .ref (hA E j 11), .ref (hA E j 13), .ref (hA E j 16), vI (h 0 6), vI (h 0 7), vI (h 0 8), vI (h 0 9), vI (h 0 10)])
  | 1 => .inl (E.2.2.1 0, 10, .inl (AI (h 1)))
  | 2 => .inl (E.2.2.1 0, 1000, .inl (AI (h 2)))
  | 3 => .inr (1, [.ref (hA E j 4), .ref (hA E j 5), .ref (hA E j 6), .ref (hA E j 7), .ref (hA E j 8), .ref (hA E j 9), .ref (hA E j 10), vI (h 3 7)])
  | 4 => .inl (E.2.2.1 0, 80, .inl (AI (h 4)))
  | 5 => .inl (E.2.2.1 0, 80, .inl (AI (h 5)))
  | 6 => .inl (E.2.2.1 0, 80, .inl (AI (h 6)))
  | 7 => .inl (E.2.2.1 0, 80, .inl (AI (h 7)))
  | 8 => .inl (E.2.2.1 0, 80, .inl (AI (h 8)))
  | 9 => .inl (E.2.2.1 0, 80, .inl (AI (h 9)))
  | 10 => .inl (E.2.2.1 0, 80, .inl (AI (h 10)))
  | 11 => .inr (4, [.ref (hA E j 12), vI (h 11 1)])
  | 12 => .inl (E.2.2.1 0, 30, .inl (AI (h 12)))
  | 13 => .inr (5, [.ref (hA E j 14), .ref (hA E j 15), vI (h 13 2)])
  | 14 => .inl (E.2.2.1 0, 12, .inl (AI (h 14)))
  | 15 => .inl (E.2.2.1 0, 12, .inl (AI (h 15)))
  | _ => .inl (E.2.2.1 0, 9, .inl (AI (h 16)))
def topE (E : HE) (tp : HV) (c : Nat) : va_E := match c with
  | 0 => .inr (6, [.ref (hA E 0 0), .ref (hA E 1 0), .ref (hA E 2 0), vI (tp 0 3), .ref (tA E 2), .ref (tA E 4), .ref (tA E 1)])
  | 1 => .inl (E.2.2.1 0, 1000, .inl (AI (tp 1)))
  | 2 => .inr (2, [.ref (tA E 3), vI (tp 2 1)])
  | 3 => .inl (E.2.2.1 2, 4, .inr (.inr (.inr (.inr (fun i => some (hA E (tp 3 (i : Int)).toNat 0))))))
  | 4 => .inr (0, [.ref (tA E 5), vI (tp 4 1), .ref (tA E 6), .ref (tA E 7), .ref (tA E 8), vI (tp 4 5), vI (tp 4 6), vI (tp 4 7), vI (tp 4 8)])
  | 5 => .inl (E.2.2.1 1, 60, .inl (AI (tp 5)))
  | 6 => .inl (E.2.2.1 0, 10, .inl (AI (tp 6)))
  | 7 => .inl (E.2.2.1 0, 10, .inl (AI (tp 7)))
  | _ => .inl (E.2.2.1 0, 10, .inl (AI (tp 8)))
def modE (E : HE) (md : HV) (c : Nat) : va_E := match c with
  | 0 => .inr (7, [.ref (mA E 1), .ref (mA E 2), .ref (mA E 3), .ref (mA E 4), .ref (mA E 5), vI (md 0 5), vI (md 0 6), vI (md 0 7), vI (md 0 8)])
  | 1 => .inl (E.2.2.1 0, 2739, .inl (AI (md 1)))
  | 2 => .inl (E.2.2.1 0, 2739, .inl (AI (md 2)))
  | 3 => .inl (E.2.2.1 0, 2739, .inl (AI (md 3)))
  | 4 => .inl (E.2.2.1 0, 10956, .inl (AI (md 4)))
  | _ => .inl (E.2.2.1 0, 60, .inl (AI (md 5)))
def cellE (E : HE) (hs : Nat → HV) (tp md : HV) (k : Nat) : va_E := if k < 119 then hutE E (k / 17) (hs (k / 17)) (k % 17) else if k < 128 then topE E tp (k - 119) else modE E md (k - 128)
def wl (E : HE) (hs : Nat → HV) (tp md : HV) : va_W := (List.range 134).map fun k => (E.2.1 k, cellE E hs tp md k)
def AA (E : HE) : Nat → Prop := fun q => ∃ k, k < 134 ∧ q = E.2.1 k
def HI (E : HE) : Prop := ∀ i j, i < 134 → j < 134 → E.2.1 i = E.2.1 j → i = j
abbrev tysE (E : HE) : List (ClassId × FieldType) := [(E.2.2.1 0, .int), (E.2.2.1 1, .char), (E.2.2.1 2, .object "HutBookings$Hut")]
theorem wl_at {E : HE} {hs : Nat → HV} {tp md : HV} {k : Nat} (hk : k < 134) : (wl E hs tp md)[k]? = some (E.2.1 k, cellE E hs tp md k) := by
  unfold wl; rw [List.getElem?_map, List.getElem?_range hk]; rfl
theorem wl_of {E : HE} {hs : Nat → HV} {tp md : HV} {k : Nat} {q : Nat × va_E} (h : (wl E hs tp md)[k]? = some q) : k < 134 ∧ q = (E.2.1 k, cellE E hs tp md k) := by
  have hk : k < 134 := by
    have := (List.getElem?_eq_some_iff.mp h).1
    unfold wl at this; rwa [List.length_map, List.length_range] at this
  rw [wl_at hk] at h
  exact ⟨hk, (Option.some.inj h).symm⟩
theorem wl_D {E : HE} (h : HI E) (hs : Nat → HV) (tp md : HV) : va_D (AA E) (wl E hs tp md) := by
  refine ⟨fun i j p q hi hj e => ?_, fun k q hk => ?_⟩
  · obtain ⟨a, rfl⟩ := wl_of hi
    obtain ⟨b, rfl⟩ := wl_of hj
    exact h i j a b e
  · obtain ⟨a, rfl⟩ := wl_of hk
    exact ⟨k, a, rfl⟩
theorem wl_set {E : HE} {hs hs' : Nat → HV} {tp md tp' md' : HV} {k : Nat} {e : va_E} (hk : k < 134) (h1 : cellE E hs' tp' md' k = e) (h2 : ∀ i, i < 134 → i ≠ k → cellE E hs' tp' md' i = cellE E hs tp md i) : (wl E hs tp md).set k (E.2.1 k, e) = wl E hs' tp' md' := by
  apply List.ext_getElem?
  intro i
  by_cases hi : i < 134
  · by_cases hik : i = k
    · subst hik
      rw [List.getElem?_set_self (by unfold wl; rw [List.length_map, List.length_range]; exact hk), wl_at hk, h1]
    · rw [List.getElem?_set_ne (Ne.symm hik), wl_at hi, wl_at hi, h2 i hi hik]
  · rw [List.getElem?_eq_none, List.getElem?_eq_none]
    · unfold wl; rw [List.length_map, List.length_range]; omega
    · rw [List.length_set]; unfold wl; rw [List.length_map, List.length_range]; omega
theorem cellE_h {E : HE} {hs : Nat → HV} {tp md : HV} {j c : Nat} (hj : j < 7) (hc : c < 17) : cellE E hs tp md (17 * j + c) = hutE E j (hs j) c := by
  unfold cellE
  rw [if_pos (by omega), show (17 * j + c) / 17 = j by omega, show (17 * j + c) % 17 = c by omega]
theorem cellE_t {E : HE} {hs : Nat → HV} {tp md : HV} {c : Nat} (hc : c < 9) : cellE E hs tp md (119 + c) = topE E tp c := by
  unfold cellE
  rw [if_neg (by omega), if_pos (by omega), show 119 + c - 119 = c by omega]
theorem cellE_m {E : HE} {hs : Nat → HV} {tp md : HV} {c : Nat} (hc : c < 6) : cellE E hs tp md (128 + c) = modE E md c := by
  unfold cellE
  rw [if_neg (by omega), if_neg (by omega), show 128 + c - 128 = c by omega]
theorem wl_h {E : HE} {hs : Nat → HV} {tp md : HV} {j : Nat} (hj : j < 7) {h : HV} (hh : hs j = h) (c : Nat) (hc : c < 17) : (wl E hs tp md)[17 * j + c]? = some (hA E j c, hutE E j h c) := by
  rw [wl_at (by omega), cellE_h hj hc, hh]; rfl
theorem wl_t {E : HE} {hs : Nat → HV} {tp md : HV} (c : Nat) (hc : c < 9) : (wl E hs tp md)[119 + c]? = some (tA E c, topE E tp c) := by
  rw [wl_at (by omega), cellE_t hc]; rfl
theorem wl_m {E : HE} {hs : Nat → HV} {tp md : HV} (c : Nat) (hc : c < 6) : (wl E hs tp md)[128 + c]? = some (mA E c, modE E md c) := by
  rw [wl_at (by omega), cellE_m hc]; rfl
theorem upr_same {h : HV} {c : Nat} {f : Int → Int} : upr h c f c = f := if_pos rfl
theorem upr_ne {h : HV} {c k : Nat} {f : Int → Int} (n : k ≠ c) : upr h c f k = h k := if_neg n
theorem upr_upr {h : HV} {c : Nat} {f g : Int → Int} : upr (upr h c f) c g = upr h c g := by funext k; unfold upr; split <;> rfl
theorem upr_id {h : HV} {c : Nat} : upr h c (h c) = h := by funext k; unfold upr; split <;> simp_all
theorem up1_same {f : Int → Int} {i v : Int} : up1 f i v i = v := if_pos rfl
theorem up1_ne {f : Int → Int} {i k v : Int} (n : k ≠ i) : up1 f i v k = f k := if_neg n
theorem up1_id {f : Int → Int} {i : Int} : up1 f i (f i) = f := by funext k; unfold up1; split <;> simp_all
theorem up1_up1 {f : Int → Int} {i v w : Int} : up1 (up1 f i v) i w = up1 f i w := by funext k; unfold up1; split <;> rfl
theorem putH_same {hs : Nat → HV} {j : Nat} {h : HV} : putH hs j h j = h := if_pos rfl
theorem putH_ne {hs : Nat → HV} {j k : Nat} {h : HV} (n : k ≠ j) : putH hs j h k = hs k := if_neg n
theorem putH_put {hs : Nat → HV} {j : Nat} {h h' : HV} : putH (putH hs j h) j h' = putH hs j h' := by funext k; unfold putH; split <;> rfl
theorem putH_id {hs : Nat → HV} {j : Nat} : putH hs j (hs j) = hs := by funext k; unfold putH; split <;> simp_all
theorem putH_of {hs : Nat → HV} {j : Nat} {h : HV} (e : hs j = h) : putH hs j h = hs := by rw [← e]; exact putH_id
theorem putH_comm {hs : Nat → HV} {j k : Nat} {h h' : HV} (n : j ≠ k) : putH (putH hs j h) k h' = putH (putH hs k h') j h := by
  funext q; unfold putH; split <;> split <;> simp_all
/-- a cell's own entry is read off its own row alone -/
theorem hutE_own {E : HE} {j : Nat} {h h' : HV} {c : Nat} (hc : c < 17) (e : h' c = h c) : hutE E j h' c = hutE E j h c := by
  have k : c = 0 ∨ c = 1 ∨ c = 2 ∨ c = 3 ∨ c = 4 ∨ c = 5 ∨ c = 6 ∨ c = 7 ∨ c = 8 ∨ c = 9 ∨ c = 10 ∨ c = 11 ∨ c = 12 ∨ c = 13 ∨ c = 14 ∨ c = 15 ∨ c = 16 := by omega
  rcases k with rfl | rfl | rfl | rfl | rfl | rfl | rfl | rfl | rfl | rfl | rfl | rfl | rfl | rfl | rfl | rfl | rfl <;> simp only [hutE, e]
theorem topE_own {E : HE} {h h' : HV} {c : Nat} (hc : c < 9) (e : h' c = h c) : topE E h' c = topE E h c := by
  have k : c = 0 ∨ c = 1 ∨ c = 2 ∨ c = 3 ∨ c = 4 ∨ c = 5 ∨ c = 6 ∨ c = 7 ∨ c = 8 := by omega
  rcases k with rfl | rfl | rfl | rfl | rfl | rfl | rfl | rfl | rfl <;> simp only [topE, e]
theorem modE_own {E : HE} {h h' : HV} {c : Nat} (hc : c < 6) (e : h' c = h c) : modE E h' c = modE E h c := by
  have k : c = 0 ∨ c = 1 ∨ c = 2 ∨ c = 3 ∨ c = 4 ∨ c = 5 := by omega
  rcases k with rfl | rfl | rfl | rfl | rfl | rfl <;> simp only [modE, e]
theorem set_h {E : HE} {hs : Nat → HV} {tp md : HV} {j : Nat} (hj : j < 7) {h : HV} (hh : hs j = h) (c : Nat) (hc : c < 17) (f : Int → Int) {e : va_E} (he : hutE E j (upr h c f) c = e) : (wl E hs tp md).set (17 * j + c) (hA E j c, e) = wl E (putH hs j (upr h c f)) tp md := by
  refine wl_set (by omega) (by rw [cellE_h hj hc, putH_same]; exact he) fun i hi hik => ?_
  unfold cellE
  by_cases h1 : i < 119
  · rw [if_pos h1, if_pos h1]
    by_cases h2 : i / 17 = j
    · rw [h2, putH_same, hh]
      exact hutE_own (by omega) (upr_ne (by omega))
    · rw [putH_ne h2]
  · rw [if_neg h1, if_neg h1]
theorem set_t {E : HE} {hs : Nat → HV} {tp md : HV} (c : Nat) (hc : c < 9) (f : Int → Int) {e : va_E} (he : topE E (upr tp c f) c = e) : (wl E hs tp md).set (119 + c) (tA E c, e) = wl E hs (upr tp c f) md := by
  refine wl_set (by omega) (by rw [cellE_t hc]; exact he) fun i hi hik => ?_
  unfold cellE
  by_cases h1 : i < 119
  · rw [if_pos h1, if_pos h1]
  · rw [if_neg h1, if_neg h1]
    by_cases h2 : i < 128
    · rw [if_pos h2, if_pos h2]
      exact topE_own (by omega) (upr_ne (by omega))
    · rw [if_neg h2, if_neg h2]
theorem set_m {E : HE} {hs : Nat → HV} {tp md : HV} (c : Nat) (hc : c < 6) (f : Int → Int) {e : va_E} (he : modE E (upr md c f) c = e) : (wl E hs tp md).set (128 + c) (mA E c, e) = wl E hs tp (upr md c f) := by
  refine wl_set (by omega) (by rw [cellE_m hc]; exact he) fun i hi hik => ?_
  unfold cellE
  by_cases h1 : i < 119
  · rw [if_pos h1, if_pos h1]
  · rw [if_neg h1, if_neg h1]
    by_cases h2 : i < 128
    · rw [if_pos h2, if_pos h2]
    · rw [if_neg h2, if_neg h2]
      exact modE_own (by omega) (upr_ne (by omega))
theorem AI_up {f : Int → Int} {i v : Int} (h0 : 0 ≤ i) {n : Nat} (hn : n = i.toNat) : AI (up1 f i v) = upd (AI f) n (Int32.ofInt v) := by
  subst hn
  funext k
  unfold AI up1 upd
  by_cases hk : (k : Int) = i
  · rw [if_pos hk, if_pos (by omega)]
  · rw [if_neg hk, if_neg (by omega)]
/-! numbers -/
abbrev IR (a : Int) : Prop := -2147483648 ≤ a ∧ a ≤ 2147483647
theorem oI_toInt {a : Int} (h : IR a) : (Int32.ofInt a).toInt = a := Int32.toInt_ofInt_of_le (by simpa using h.1) (by have := h.2; simp; omega)
theorem oI_lt {a b : Int} (ha : IR a) (hb : IR b) : Int32.ofInt a < Int32.ofInt b ↔ a < b := by rw [Int32.lt_iff_toInt_lt, oI_toInt ha, oI_toInt hb]
theorem oI_le {a b : Int} (ha : IR a) (hb : IR b) : Int32.ofInt a ≤ Int32.ofInt b ↔ a ≤ b := by rw [Int32.le_iff_toInt_le, oI_toInt ha, oI_toInt hb]
theorem oI_eq {a b : Int} (ha : IR a) (hb : IR b) : Int32.ofInt a = Int32.ofInt b ↔ a = b := by rw [← Int32.toInt_inj, oI_toInt ha, oI_toInt hb]
theorem oI_add (a b : Int) : Int32.ofInt a + Int32.ofInt b = Int32.ofInt (a + b) := (Int32.ofInt_add a b).symm
theorem oI_sub (a b : Int) : Int32.ofInt a - Int32.ofInt b = Int32.ofInt (a - b) := (Int32.ofInt_sub a b).symm
theorem oI_mul (a b : Int) : Int32.ofInt a * Int32.ofInt b = Int32.ofInt (a * b) := (Int32.ofInt_mul a b).symm
theorem oI_self (x : Int32) : Int32.ofInt x.toInt = x := Int32.ofInt_toInt x
theorem oI_IR (x : Int32) : IR x.toInt := ⟨by have := Int32.le_toInt x; simpa using this, by have := Int32.toInt_lt x; simp at this; omega⟩
theorem oI_clamp {a : Int} (h : IR a) : (Int32.ofInt a).toNatClampNeg = a.toNat := by
  show (Int32.ofInt a).toInt.toNat = _; rw [oI_toInt h]
theorem oI_in {a : Int} {n : Nat} (h0 : 0 ≤ a) (h1 : a < n) (hn : n < 20000) : vp_in (Int32.ofInt a) n := by
  have hR : IR a := ⟨by omega, by omega⟩
  rw [vp_in_iff, oI_toInt hR]; omega
theorem AI_at {f : Int → Int} {a : Int} {n : Nat} (h0 : 0 ≤ a) (h1 : a < n) (hn : n < 20000) : AI f (Int32.ofInt a).toNatClampNeg = Int32.ofInt (f a) := by
  rw [oI_clamp ⟨by omega, by omega⟩]; unfold AI; rw [Int.toNat_of_nonneg h0]
theorem oI_div {a b : Int} (ha : IR a) (hb : IR b) (h0 : 0 ≤ a) (h1 : 0 < b) : Int32.ofInt a / Int32.ofInt b = Int32.ofInt (a / b) := by
  have hle : a / b ≤ a := Int.ediv_le_self _ h0
  have hge : 0 ≤ a / b := Int.ediv_nonneg h0 (by omega)
  rw [← Int32.toInt_inj, Int32.toInt_div, oI_toInt ha, oI_toInt hb, oI_toInt ⟨by omega, by have := ha.2; omega⟩, Int.tdiv_eq_ediv_of_nonneg h0]
  exact Int.bmod_eq_of_le (by omega) (by have := ha.2; omega)
end
section
/-! THE ROWS: one instruction each, over the world. F: where the walk stands; G: from there on it comes to its end. -/
abbrev FC : Type := Program × Launch × Env × Room × State × MethodId × Array Value × List Frame × Method × Code × Nat × Nat × (State → Prop)
def LH (ls : Array Slot) (nL : Nat) (L : List (Option Value)) : Prop := ls.size = nL ∧ lv_wf ls ∧ ∀ (i : Nat) (v : Value), L[i]? = some (some v) → ls[i]? = some (.val v) ∧ v.category = 1
theorem LH.at {ls : Array Slot} {nL : Nat} {L : List (Option Value)} (h : LH ls nL L) {i : Nat} {v : Value} (e : L[i]? = some (some v)) : ls[i]? = some (.val v) := (h.2.2 i v e).1
theorem LH.has {ls : Array Slot} {nL : Nat} {L : List (Option Value)} (h : LH ls nL L) : lv_has ls nL (L.zipIdx.filterMap fun q => q.1.map fun v => (q.2, v)) := by
  refine ⟨h.1, h.2.1, fun q hq => ?_⟩
  obtain ⟨⟨o, i⟩, h1, h2⟩ := List.mem_filterMap.mp hq
  cases o with
  | none => simp at h2
  | some v =>
    simp only [Option.map_some, Option.some.injEq] at h2
    subst h2
    have h3 := List.mem_zipIdx_iff_getElem?.mp h1
    exact (h.2.2 i v h3).1
theorem LH.st {ls ls' : Array Slot} {nL i : Nat} {L : List (Option Value)} {v : Value} (h : LH ls nL L) (hc : v.category = 1) (h' : lv_has ls' nL ((i, v) :: (L.zipIdx.filterMap fun q => q.1.map fun v => (q.2, v)).filter (fun q => !(q.1 == i) && !(q.1 + 1 == i && q.2.category == 2)))) : LH ls' nL (L.set i (some v)) := by
  refine ⟨h'.1, h'.2.1, fun k w hk => ?_⟩
  by_cases e : k = i
  · subst e
    by_cases hl : k < L.length
    · rw [List.getElem?_set_self hl] at hk
      cases hk
      exact ⟨h'.2.2 _ List.mem_cons_self, hc⟩
    · rw [List.getElem?_eq_none (by rw [List.length_set]; omega)] at hk
      cases hk
  · rw [List.getElem?_set_ne (Ne.symm e)] at hk
    have hw := (h.2.2 k w hk).2
    refine ⟨h'.2.2 (k, w) (List.mem_cons_of_mem _ (List.mem_filter.mpr ⟨List.mem_filterMap.mpr ⟨(some w, k), List.mem_zipIdx_iff_getElem?.mpr hk, rfl⟩, ?_⟩)), hw⟩
    simp [e, hw]
/-- the static rows of the object's class: the least and the most of the settings, and their first values -/
def stN : Nat → String := fun i => match i with
  | 0 => "SETTING_FIRST"
  | 1 => "SETTING_LEAST"
  | _ => "SETTING_MOST"
def stV : Nat → Nat → Int := fun i k => match i with
  | 0 => [10, 4, 20, 5, 3, 4, 12, 20, 3, 100].getD k 0
  | 1 => [1, 0, 0, 0, 0, 1, 0, 0, 0, 0].getD k 0
  | _ => [40, 20, 99, 99, 30, 30, 50, 99, 20, 999].getD k 0
def ZS (A : Nat → Prop) (b : Nat → Nat) (U : State) (H : Heap) : Prop := (∀ i, i < 3 → va_Z "HutBookings" (stN i) "[I" (.ref (b i)) A U H ∧ va_X (b i) 10 (fun k => Int32.ofInt (stV i k)) U H ∧ b i < H.size ∧ ¬ A (b i)) ∧ va_Nw (.methodLinkNest RX3 88 yX6_areNightsAndPersons "HutBookings") U
def Wd (E : HE) (hs : Nat → HV) (tp md : HV) (U : State) : Prop := va_P E.1 vwCl (wl E hs tp md) U.heap ∧ va_K E.1 vwCl (tysE E) U ∧ ZS (AA E) E.2.2.2 U U.heap
def Cs : FC → String → ByteArray → Nat → Nat → HE → Prop := fun (p, _, _, R, s, m, args, _, meth, c, cells, slots, _) own cc nL k E =>
  p.tables.exec = Jvm.exec ∧ c.code = cc ∧ c.maxLocals = nL ∧ s.vm.findClass own = some m.cls ∧ (∀ w ∈ TB, w.before args s = true) ∧ va_K E.1 vwCl (tysE E) s ∧ HI E ∧ ZS (AA E) E.2.2.2 s s.heap ∧ cells ≤ R.cells ∧ slots ≤ R.slots ∧ k ≤ R.frames ∧ 30 * k ≤ R.locals ∧ meth.locks = false
def G : FC → HE → (Nat → HV) → HV → HV → Nat → List (Option Value) → List Value → Prop := fun (p, l, e, R, s, m, args, below, meth, c, cells, slots, Q) E hs tp md pc L st =>
  ∀ (H : Heap) (locs : List Loc) (ls : Array Slot), va_P E.1 vwCl (wl E hs tp md) H → va_S (AA E) s.heap H locs → LH ls c.maxLocals L → W p l e R s m args below meth c H locs cells slots Q (F0 m pc ls st)
section ROWS
variable {F : FC} {own : String} {cc : ByteArray} {nL kf : Nat} {E : HE} {hs : Nat → HV} {tp md : HV} {pc : Nat} {L : List (Option Value)} {st : List Value} {a b : Int}
theorem G.of {hs' : Nat → HV} {tp' md' : HV} {L' : List (Option Value)} (h : G F E hs' tp' md' pc L' st) (h1 : hs = hs') (h2 : tp = tp') (h3 : md = md') (h4 : L = L') : G F E hs tp md pc L st := by subst h1; subst h2; subst h3; subst h4; exact h
theorem G.eqL {L' : List (Option Value)} (h : G F E hs tp md pc L' st) (h4 : L = L') : G F E hs tp md pc L st := by subst h4; exact h
theorem G.eqS {st' : List Value} (h : G F E hs tp md pc L st') (h4 : st = st') : G F E hs tp md pc L st := by subst h4; exact h
theorem x_const {n : Int} (C : Cs F own cc nL kf E) (d : decode cc pc = .ok (.iconst n, 1)) (k : G F E hs tp md (pc + 1) L (vI n :: st)) : G F E hs tp md pc L st := by
  obtain ⟨p, l, e, R, s, m, args, below, meth, c, cells, slots, Q⟩ := F
  intro H locs ls hP hS hL
  exact lv_iconst C.1 C.2.1 d rfl (k H locs ls hP hS hL)
theorem x_bipush {n : Int} (C : Cs F own cc nL kf E) (d : decode cc pc = .ok (.bipush n, 2)) (hv : (Int8.ofInt n).toInt32 = Int32.ofInt n) (k : G F E hs tp md (pc + 2) L (vI n :: st)) : G F E hs tp md pc L st := by
  obtain ⟨p, l, e, R, s, m, args, below, meth, c, cells, slots, Q⟩ := F
  intro H locs ls hP hS hL
  exact lv_bipush C.1 C.2.1 d hv (k H locs ls hP hS hL)
theorem x_sipush {n : Int} (C : Cs F own cc nL kf E) (d : decode cc pc = .ok (.sipush n, 3)) (hv : (Int16.ofInt n).toInt32 = Int32.ofInt n) (k : G F E hs tp md (pc + 3) L (vI n :: st)) : G F E hs tp md pc L st := by
  obtain ⟨p, l, e, R, s, m, args, below, meth, c, cells, slots, Q⟩ := F
  intro H locs ls hP hS hL
  exact lv_sipush C.1 C.2.1 d hv (k H locs ls hP hS hL)
theorem x_ldc {n : Int} {index : Nat} {v : Int32} (C : Cs F own cc nL kf E) (hw : Cond.constant own index v ∈ TB) (d : decode cc pc = .ok (.ldc index, 2)) (hv : v = Int32.ofInt n) (k : G F E hs tp md (pc + 2) L (vI n :: st)) : G F E hs tp md pc L st := by
  obtain ⟨p, l, e, R, s, m, args, below, meth, c, cells, slots, Q⟩ := F
  subst hv
  intro H locs ls hP hS hL
  exact lv_ldc C.1 C.2.1 C.2.2.2.1 (C.2.2.2.2.1 _ hw) d (k H locs ls hP hS hL)
theorem x_iload {i : Nat} {x : Int32} (C : Cs F own cc nL kf E) (d : decode cc pc = .ok (.iload i, 2)) (h : L[i]? = some (some (.int x))) (k : G F E hs tp md (pc + 2) L (.int x :: st)) : G F E hs tp md pc L st := by
  obtain ⟨p, l, e, R, s, m, args, below, meth, c, cells, slots, Q⟩ := F
  intro H locs ls hP hS hL
  exact lv_iload C.1 C.2.1 d (hL.at h) (k H locs ls hP hS hL)
theorem x_iload_n {i : Fin 4} {x : Int32} (C : Cs F own cc nL kf E) (d : decode cc pc = .ok (.iload_n i, 1)) (h : L[(i : Nat)]? = some (some (.int x))) (k : G F E hs tp md (pc + 1) L (.int x :: st)) : G F E hs tp md pc L st := by
  obtain ⟨p, l, e, R, s, m, args, below, meth, c, cells, slots, Q⟩ := F
  intro H locs ls hP hS hL
  exact lv_iload_n C.1 C.2.1 d rfl (hL.at h) (k H locs ls hP hS hL)
theorem x_aload {i : Nat} {x : Nat} (C : Cs F own cc nL kf E) (d : decode cc pc = .ok (.aload i, 2)) (h : L[i]? = some (some (.ref x))) (k : G F E hs tp md (pc + 2) L (.ref x :: st)) : G F E hs tp md pc L st := by
  obtain ⟨p, l, e, R, s, m, args, below, meth, c, cells, slots, Q⟩ := F
  intro H locs ls hP hS hL
  exact lv_aload C.1 C.2.1 d (hL.at h) (k H locs ls hP hS hL)
theorem x_aload_n {i : Fin 4} {x : Nat} (C : Cs F own cc nL kf E) (d : decode cc pc = .ok (.aload_n i, 1)) (h : L[(i : Nat)]? = some (some (.ref x))) (k : G F E hs tp md (pc + 1) L (.ref x :: st)) : G F E hs tp md pc L st := by
  obtain ⟨p, l, e, R, s, m, args, below, meth, c, cells, slots, Q⟩ := F
  intro H locs ls hP hS hL
  exact lv_aload_n C.1 C.2.1 d rfl (hL.at h) (k H locs ls hP hS hL)
theorem x_istore {i : Nat} {x : Int32} {L' : List (Option Value)} (C : Cs F own cc nL kf E) (d : decode cc pc = .ok (.istore i, 2)) (hi : i < nL) (eL : L.set i (some (.int x)) = L') (k : G F E hs tp md (pc + 2) L' st) : G F E hs tp md pc L (.int x :: st) := by
  obtain ⟨p, l, e, R, s, m, args, below, meth, c, cells, slots, Q⟩ := F
  subst eL
  intro H locs ls hP hS hL
  exact lv_istore C.1 C.2.1 d hL.has (by rw [C.2.2.1]; exact hi) rfl fun ls' h' => k H locs ls' hP hS (hL.st rfl h')
theorem x_istore_n {i : Fin 4} {x : Int32} {L' : List (Option Value)} (C : Cs F own cc nL kf E) (d : decode cc pc = .ok (.istore_n i, 1)) (hi : (i : Nat) < nL) (eL : L.set (i : Nat) (some (.int x)) = L') (k : G F E hs tp md (pc + 1) L' st) : G F E hs tp md pc L (.int x :: st) := by
  obtain ⟨p, l, e, R, s, m, args, below, meth, c, cells, slots, Q⟩ := F
  subst eL
  intro H locs ls hP hS hL
  exact lv_istore_n C.1 C.2.1 d rfl hL.has (by rw [C.2.2.1]; exact hi) rfl fun ls' h' => k H locs ls' hP hS (hL.st rfl h')
theorem x_astore_n {i : Fin 4} {x : Nat} {L' : List (Option Value)} (C : Cs F own cc nL kf E) (d : decode cc pc = .ok (.astore_n i, 1)) (hi : (i : Nat) < nL) (eL : L.set (i : Nat) (some (.ref x)) = L') (k : G F E hs tp md (pc + 1) L' st) : G F E hs tp md pc L (.ref x :: st) := by
  obtain ⟨p, l, e, R, s, m, args, below, meth, c, cells, slots, Q⟩ := F
  subst eL
  intro H locs ls hP hS hL
  exact lv_astore_n C.1 C.2.1 d rfl hL.has (by rw [C.2.2.1]; exact hi) rfl fun ls' h' => k H locs ls' hP hS (hL.st rfl h')
theorem has_at {ls : Array Slot} {nL i : Nat} {L : List (Option Value)} {v : Value} (h : L[i]? = some (some v)) : ∃ k : Nat, (L.zipIdx.filterMap fun q => q.1.map fun v => (q.2, v))[k]? = some (i, v) :=
  List.getElem?_of_mem (List.mem_filterMap.mpr ⟨(some v, i), List.mem_zipIdx_iff_getElem?.mpr h, rfl⟩)
theorem x_iinc {i : Nat} {n : Int} {L' : List (Option Value)} (C : Cs F own cc nL kf E) (d : decode cc pc = .ok (.iinc i n, 3)) (h : L[i]? = some (some (vI a))) (hi : i < nL) (eL : L.set i (some (vI (a + n))) = L') (k : G F E hs tp md (pc + 3) L' st) : G F E hs tp md pc L st := by
  obtain ⟨p, l, e, R, s, m, args, below, meth, c, cells, slots, Q⟩ := F
  subst eL
  intro H locs ls hP hS hL
  obtain ⟨kk, hk⟩ := has_at (ls := ls) (nL := nL) h
  exact lv_iinc C.1 C.2.1 d hL.has hk (oI_add a n) (by rw [C.2.2.1]; exact hi) rfl fun ls' h' => k H locs ls' hP hS (hL.st rfl h')
theorem x_iadd (C : Cs F own cc nL kf E) (d : decode cc pc = .ok (.iadd, 1)) (k : G F E hs tp md (pc + 1) L (vI (a + b) :: st)) : G F E hs tp md pc L (vI b :: vI a :: st) := by
  obtain ⟨p, l, e, R, s, m, args, below, meth, c, cells, slots, Q⟩ := F
  intro H locs ls hP hS hL
  refine lv_iadd C.1 C.2.1 d ?_
  rw [oI_add]; exact k H locs ls hP hS hL
theorem x_isub (C : Cs F own cc nL kf E) (d : decode cc pc = .ok (.isub, 1)) (k : G F E hs tp md (pc + 1) L (vI (a - b) :: st)) : G F E hs tp md pc L (vI b :: vI a :: st) := by
  obtain ⟨p, l, e, R, s, m, args, below, meth, c, cells, slots, Q⟩ := F
  intro H locs ls hP hS hL
  refine lv_isub C.1 C.2.1 d ?_
  rw [oI_sub]; exact k H locs ls hP hS hL
theorem x_imul (C : Cs F own cc nL kf E) (d : decode cc pc = .ok (.imul, 1)) (k : G F E hs tp md (pc + 1) L (vI (a * b) :: st)) : G F E hs tp md pc L (vI b :: vI a :: st) := by
  obtain ⟨p, l, e, R, s, m, args, below, meth, c, cells, slots, Q⟩ := F
  intro H locs ls hP hS hL
  refine lv_imul C.1 C.2.1 d ?_
  rw [oI_mul]; exact k H locs ls hP hS hL
theorem x_idiv (C : Cs F own cc nL kf E) (d : decode cc pc = .ok (.idiv, 1)) (ha : IR a) (hb : IR b) (h0 : 0 ≤ a) (h1 : 0 < b) (k : G F E hs tp md (pc + 1) L (vI (a / b) :: st)) : G F E hs tp md pc L (vI b :: vI a :: st) := by
  obtain ⟨p, l, e, R, s, m, args, below, meth, c, cells, slots, Q⟩ := F
  intro H locs ls hP hS hL
  refine lv_idiv C.1 C.2.1 d (fun q => ?_) ?_
  · have := (oI_eq hb (by constructor <;> omega : IR 0)).mp q
    omega
  · rw [oI_div ha hb h0 h1]; exact k H locs ls hP hS hL
theorem x_irem (C : Cs F own cc nL kf E) (d : decode cc pc = .ok (.irem, 1)) (ha : IR a) (hb : IR b) (h0 : 0 ≤ a) (h1 : 0 < b) (k : G F E hs tp md (pc + 1) L (vI (a % b) :: st)) : G F E hs tp md pc L (vI b :: vI a :: st) := by
  obtain ⟨p, l, e, R, s, m, args, below, meth, c, cells, slots, Q⟩ := F
  intro H locs ls hP hS hL
  refine lv_irem C.1 C.2.1 d (fun q => ?_) ?_
  · have := (oI_eq hb (by constructor <;> omega : IR 0)).mp q
    omega
  · rw [oI_div ha hb h0 h1, oI_mul, oI_sub, show a - a / b * b = a % b by rw [Int.mul_comm]; have := Int.emod_add_mul_ediv a b; omega]; exact k H locs ls hP hS hL
theorem x_iand {r : Int} (C : Cs F own cc nL kf E) (d : decode cc pc = .ok (.iand, 1)) (h : Int32.ofInt a &&& Int32.ofInt b = Int32.ofInt r) (k : G F E hs tp md (pc + 1) L (vI r :: st)) : G F E hs tp md pc L (vI b :: vI a :: st) := by
  obtain ⟨p, l, e, R, s, m, args, below, meth, c, cells, slots, Q⟩ := F
  intro H locs ls hP hS hL
  refine lv_iand C.1 C.2.1 d ?_
  rw [h]; exact k H locs ls hP hS hL
theorem x_dup {v : Value} (C : Cs F own cc nL kf E) (d : decode cc pc = .ok (.dup, 1)) (hv : v.category = 1) (k : G F E hs tp md (pc + 1) L (v :: v :: st)) : G F E hs tp md pc L (v :: st) := by
  obtain ⟨p, l, e, R, s, m, args, below, meth, c, cells, slots, Q⟩ := F
  intro H locs ls hP hS hL
  exact lv_dup C.1 C.2.1 d hv (k H locs ls hP hS hL)
theorem x_pop {v : Value} (C : Cs F own cc nL kf E) (d : decode cc pc = .ok (.pop, 1)) (hv : v.category = 1) (k : G F E hs tp md (pc + 1) L st) : G F E hs tp md pc L (v :: st) := by
  obtain ⟨p, l, e, R, s, m, args, below, meth, c, cells, slots, Q⟩ := F
  intro H locs ls hP hS hL
  exact lv_pop C.1 C.2.1 d hv (k H locs ls hP hS hL)
theorem x_goto {off : Int} (tgt : Nat) (C : Cs F own cc nL kf E) (d : decode cc pc = .ok (.goto off, 3)) (ht : (pc : Int) + off = (tgt : Int)) (k : G F E hs tp md tgt L st) : G F E hs tp md pc L st := by
  obtain ⟨p, l, e, R, s, m, args, below, meth, c, cells, slots, Q⟩ := F
  intro H locs ls hP hS hL
  exact lv_goto C.1 C.2.1 d ht (k H locs ls hP hS hL)
theorem x_icmp_lt {off : Int} (tgt : Nat) (C : Cs F own cc nL kf E) (d : decode cc pc = .ok (.if_icmp .lt off, 3)) (ht : (pc : Int) + off = (tgt : Int)) (ha : IR a) (hb : IR b) (kt : a < b → G F E hs tp md tgt L st) (kf : b ≤ a → G F E hs tp md (pc + 3) L st) : G F E hs tp md pc L (vI b :: vI a :: st) := by
  obtain ⟨p, l, e, R, s, m, args, below, meth, c, cells, slots, Q⟩ := F
  intro H locs ls hP hS hL
  exact lv_icmp_lt C.1 C.2.1 d ht (fun h => kt ((oI_lt ha hb).mp h) H locs ls hP hS hL) (fun h => kf (by have := mt (oI_lt ha hb).mpr h; omega) H locs ls hP hS hL)
theorem x_icmp_ge {off : Int} (tgt : Nat) (C : Cs F own cc nL kf E) (d : decode cc pc = .ok (.if_icmp .ge off, 3)) (ht : (pc : Int) + off = (tgt : Int)) (ha : IR a) (hb : IR b) (kt : b ≤ a → G F E hs tp md tgt L st) (kf : a < b → G F E hs tp md (pc + 3) L st) : G F E hs tp md pc L (vI b :: vI a :: st) := by
  obtain ⟨p, l, e, R, s, m, args, below, meth, c, cells, slots, Q⟩ := F
  intro H locs ls hP hS hL
  exact lv_icmp_ge C.1 C.2.1 d ht (fun h => kt ((oI_le hb ha).mp h) H locs ls hP hS hL) (fun h => kf (by have := mt (oI_le hb ha).mpr h; omega) H locs ls hP hS hL)
theorem x_icmp_gt {off : Int} (tgt : Nat) (C : Cs F own cc nL kf E) (d : decode cc pc = .ok (.if_icmp .gt off, 3)) (ht : (pc : Int) + off = (tgt : Int)) (ha : IR a) (hb : IR b) (kt : b < a → G F E hs tp md tgt L st) (kf : a ≤ b → G F E hs tp md (pc + 3) L st) : G F E hs tp md pc L (vI b :: vI a :: st) := by
  obtain ⟨p, l, e, R, s, m, args, below, meth, c, cells, slots, Q⟩ := F
  intro H locs ls hP hS hL
  exact lv_icmp_gt C.1 C.2.1 d ht (fun h => kt ((oI_lt hb ha).mp h) H locs ls hP hS hL) (fun h => kf (by have := mt (oI_lt hb ha).mpr h; omega) H locs ls hP hS hL)
theorem x_icmp_le {off : Int} (tgt : Nat) (C : Cs F own cc nL kf E) (d : decode cc pc = .ok (.if_icmp .le off, 3)) (ht : (pc : Int) + off = (tgt : Int)) (ha : IR a) (hb : IR b) (kt : a ≤ b → G F E hs tp md tgt L st) (kf : b < a → G F E hs tp md (pc + 3) L st) : G F E hs tp md pc L (vI b :: vI a :: st) := by
  obtain ⟨p, l, e, R, s, m, args, below, meth, c, cells, slots, Q⟩ := F
  intro H locs ls hP hS hL
  exact lv_icmp_le C.1 C.2.1 d ht (fun h => kt ((oI_le ha hb).mp h) H locs ls hP hS hL) (fun h => kf (by have := mt (oI_le ha hb).mpr h; omega) H locs ls hP hS hL)
theorem x_icmp_eq {off : Int} (tgt : Nat) (C : Cs F own cc nL kf E) (d : decode cc pc = .ok (.if_icmp .eq off, 3)) (ht : (pc : Int) + off = (tgt : Int)) (ha : IR a) (hb : IR b) (kt : a = b → G F E hs tp md tgt L st) (kf : a ≠ b → G F E hs tp md (pc + 3) L st) : G F E hs tp md pc L (vI b :: vI a :: st) := by
  obtain ⟨p, l, e, R, s, m, args, below, meth, c, cells, slots, Q⟩ := F
  intro H locs ls hP hS hL
  exact lv_icmp_eq C.1 C.2.1 d ht (fun h => kt ((oI_eq ha hb).mp h) H locs ls hP hS hL) (fun h => kf (mt (oI_eq ha hb).mpr h) H locs ls hP hS hL)
theorem x_icmp_ne {off : Int} (tgt : Nat) (C : Cs F own cc nL kf E) (d : decode cc pc = .ok (.if_icmp .ne off, 3)) (ht : (pc : Int) + off = (tgt : Int)) (ha : IR a) (hb : IR b) (kt : a ≠ b → G F E hs tp md tgt L st) (kf : a = b → G F E hs tp md (pc + 3) L st) : G F E hs tp md pc L (vI b :: vI a :: st) := by
  obtain ⟨p, l, e, R, s, m, args, below, meth, c, cells, slots, Q⟩ := F
  intro H locs ls hP hS hL
  exact lv_icmp_ne C.1 C.2.1 d ht (fun h => kt (mt (oI_eq ha hb).mpr h) H locs ls hP hS hL) (fun h => kf ((oI_eq ha hb).mp (by simpa using h)) H locs ls hP hS hL)
theorem IR0 : IR 0 := ⟨by decide, by decide⟩
theorem oI_0 : (0 : Int32) = Int32.ofInt 0 := rfl
theorem x_if_eq {off : Int} (tgt : Nat) (C : Cs F own cc nL kf E) (d : decode cc pc = .ok (.ifCond .eq off, 3)) (ht : (pc : Int) + off = (tgt : Int)) (ha : IR a) (kt : a = 0 → G F E hs tp md tgt L st) (kf : a ≠ 0 → G F E hs tp md (pc + 3) L st) : G F E hs tp md pc L (vI a :: st) := by
  obtain ⟨p, l, e, R, s, m, args, below, meth, c, cells, slots, Q⟩ := F
  intro H locs ls hP hS hL
  exact lv_if_eq C.1 C.2.1 d ht (fun h => kt ((oI_eq ha IR0).mp h) H locs ls hP hS hL) (fun h => kf (mt (oI_eq ha IR0).mpr h) H locs ls hP hS hL)
theorem x_if_ne {off : Int} (tgt : Nat) (C : Cs F own cc nL kf E) (d : decode cc pc = .ok (.ifCond .ne off, 3)) (ht : (pc : Int) + off = (tgt : Int)) (ha : IR a) (kt : a ≠ 0 → G F E hs tp md tgt L st) (kf : a = 0 → G F E hs tp md (pc + 3) L st) : G F E hs tp md pc L (vI a :: st) := by
  obtain ⟨p, l, e, R, s, m, args, below, meth, c, cells, slots, Q⟩ := F
  intro H locs ls hP hS hL
  exact lv_if_ne C.1 C.2.1 d ht (fun h => kt (mt (oI_eq ha IR0).mpr h) H locs ls hP hS hL) (fun h => kf ((oI_eq ha IR0).mp (by simpa using h)) H locs ls hP hS hL)
theorem x_if_lt {off : Int} (tgt : Nat) (C : Cs F own cc nL kf E) (d : decode cc pc = .ok (.ifCond .lt off, 3)) (ht : (pc : Int) + off = (tgt : Int)) (ha : IR a) (kt : a < 0 → G F E hs tp md tgt L st) (kf : 0 ≤ a → G F E hs tp md (pc + 3) L st) : G F E hs tp md pc L (vI a :: st) := by
  obtain ⟨p, l, e, R, s, m, args, below, meth, c, cells, slots, Q⟩ := F
  intro H locs ls hP hS hL
  exact lv_if_lt C.1 C.2.1 d ht (fun h => kt ((oI_lt ha IR0).mp h) H locs ls hP hS hL) (fun h => kf (by have := mt (oI_lt ha IR0).mpr h; omega) H locs ls hP hS hL)
theorem x_if_ge {off : Int} (tgt : Nat) (C : Cs F own cc nL kf E) (d : decode cc pc = .ok (.ifCond .ge off, 3)) (ht : (pc : Int) + off = (tgt : Int)) (ha : IR a) (kt : 0 ≤ a → G F E hs tp md tgt L st) (kf : a < 0 → G F E hs tp md (pc + 3) L st) : G F E hs tp md pc L (vI a :: st) := by
  obtain ⟨p, l, e, R, s, m, args, below, meth, c, cells, slots, Q⟩ := F
  intro H locs ls hP hS hL
  exact lv_if_ge C.1 C.2.1 d ht (fun h => kt ((oI_le IR0 ha).mp h) H locs ls hP hS hL) (fun h => kf (by have := mt (oI_le IR0 ha).mpr h; omega) H locs ls hP hS hL)
theorem x_if_le {off : Int} (tgt : Nat) (C : Cs F own cc nL kf E) (d : decode cc pc = .ok (.ifCond .le off, 3)) (ht : (pc : Int) + off = (tgt : Int)) (ha : IR a) (kt : a ≤ 0 → G F E hs tp md tgt L st) (kf : 0 < a → G F E hs tp md (pc + 3) L st) : G F E hs tp md pc L (vI a :: st) := by
  obtain ⟨p, l, e, R, s, m, args, below, meth, c, cells, slots, Q⟩ := F
  intro H locs ls hP hS hL
  exact lv_if_le C.1 C.2.1 d ht (fun h => kt ((oI_le ha IR0).mp h) H locs ls hP hS hL) (fun h => kf (by have := mt (oI_le ha IR0).mpr h; omega) H locs ls hP hS hL)
theorem x_dup2 {v w : Value} (C : Cs F own cc nL kf E) (d : decode cc pc = .ok (.dup2, 1)) (hv : v.category = 1) (hw : w.category = 1) (k : G F E hs tp md (pc + 1) L (v :: w :: v :: w :: st)) : G F E hs tp md pc L (v :: w :: st) := by
  obtain ⟨p, l, e, R, s, m, args, below, meth, c, cells, slots, Q⟩ := F
  intro H locs ls hP hS hL
  exact lv_dup2_11 C.1 C.2.1 d hv hw (k H locs ls hP hS hL)
theorem x_tabIn {dflt lo hi : Int} {offs : Array Int} {len : Nat} {off : Int} (tgt : Nat) (C : Cs F own cc nL kf E) (d : decode cc pc = .ok (.tableswitch dflt lo hi offs, len)) (ha : IR a) (h1 : lo ≤ a) (h2 : a ≤ hi) (ho : offs[(a - lo).toNat]? = some off) (ht : (pc : Int) + off = (tgt : Int)) (k : G F E hs tp md tgt L st) : G F E hs tp md pc L (vI a :: st) := by
  obtain ⟨p, l, e, R, s, m, args, below, meth, c, cells, slots, Q⟩ := F
  intro H locs ls hP hS hL
  exact lv_tableIn C.1 C.2.1 d (by rw [oI_toInt ha]; omega) (by rw [oI_toInt ha]; omega) (by rw [oI_toInt ha]; exact ho) ht (k H locs ls hP hS hL)
theorem x_tabOut {dflt lo hi : Int} {offs : Array Int} {len : Nat} (tgt : Nat) (C : Cs F own cc nL kf E) (d : decode cc pc = .ok (.tableswitch dflt lo hi offs, len)) (ha : IR a) (h : a < lo ∨ hi < a) (ht : (pc : Int) + dflt = (tgt : Int)) (k : G F E hs tp md tgt L st) : G F E hs tp md pc L (vI a :: st) := by
  obtain ⟨p, l, e, R, s, m, args, below, meth, c, cells, slots, Q⟩ := F
  intro H locs ls hP hS hL
  exact lv_tableOut C.1 C.2.1 d (by rw [oI_toInt ha]; exact h) ht (k H locs ls hP hS hL)
end ROWS
end
section
/-! rows that read and write cells, call and return -/
section CELLS
variable {F : FC} {own : String} {cc : ByteArray} {nL kf : Nat} {E : HE} {hs : Nat → HV} {tp md : HV} {pc : Nat} {L : List (Option Value)} {st : List Value} {a b : Int} {hs' : Nat → HV} {tp' md' : HV}
theorem x_get {index q0 ci N A : Nat} {fs : List Value} {v : Value} {Cn : String} {T : u_T} (C : Cs F own cc nL kf E) (hw : (wl E hs tp md)[q0]? = some (A, .inr (ci, fs))) (hc : vwCl[ci]? = some (Cn, T, N)) (hin : ∀ w ∈ u_ws Cn T N, w ∈ TB) (k : Nat) (hk : k < N) (hl : Cond.fieldLink own index (T k).1 (T k).2.1 (T k).2.2.1 ∈ TB) (hv : fs[k]? = some v) (d : decode cc pc = .ok (.getfield index, 3)) (n : G F E hs tp md (pc + 3) L (v :: st)) : G F E hs tp md pc L (.ref A :: st) := by
  obtain ⟨p, l, e, R, s, m, args, below, meth, c, cells, slots, Q⟩ := F
  obtain ⟨hx, hb, hml, hown, hts, hK, -⟩ := C
  intro H locs ls hP hS hL
  exact va_get hx hb hts hin hown hK hP q0 hw hc k hk (hts _ hl) (fun _ h => h) hv d (n H locs ls hP hS hL)
theorem x_put {index q0 ci N A : Nat} {fs : List Value} {v : Value} {Cn : String} {T : u_T} {ty0 : Nat → FieldType} (C : Cs F own cc nL kf E) (hw : (wl E hs tp md)[q0]? = some (A, .inr (ci, fs))) (hc : vwCl[ci]? = some (Cn, T, N)) (hin : ∀ w ∈ u_ws Cn T N, w ∈ TB) (hty : ∀ k, k < N → parseFieldDescriptor (T k).2.2.1 = some (ty0 k)) (hnm : ∀ a, a < N → ∀ b, b < N → a ≠ b → (T a).2.1 ≠ (T b).2.1) (k : Nat) (hk : k < N) (hl : Cond.fieldLink own index (T k).1 (T k).2.1 (T k).2.2.1 ∈ TB) (hfin : (T k).2.2.2 = false) (hn : narrow (ty0 k) v = v) (hfit : fits (ty0 k) v = true) (hlen : k < fs.length) (hset : (wl E hs tp md).set q0 (A, .inr (ci, fs.set k v)) = wl E hs' tp' md') (d : decode cc pc = .ok (.putfield index, 3)) (n : G F E hs' tp' md' (pc + 3) L st) : G F E hs tp md pc L (v :: .ref A :: st) := by
  obtain ⟨p, l, e, R, s, m, args, below, meth, c, cells, slots, Q⟩ := F
  obtain ⟨hx, hb, hml, hown, hts, hK, hE, -⟩ := C
  intro H locs ls hP hS hL
  exact va_put hx hb hts hin ty0 hty hnm hown hK hP (wl_D hE hs tp md) hS q0 hw hc k hk (hts _ hl) (fun _ h => h) hfin (hty k hk) hn hfit hlen d fun H1 locs1 hP1 _ hS1 => n H1 locs1 ls (by rw [hset] at hP1; exact hP1) hS1 hL
theorem x_iald {q0 A : Nat} {N : Nat} {f : Int → Int} (C : Cs F own cc nL kf E) (hw : (wl E hs tp md)[q0]? = some (A, .inl (E.2.2.1 0, N, .inl (AI f)))) (hN : N < 20000) (h0 : 0 ≤ a) (h1 : a < N) (d : decode cc pc = .ok (.iaload, 1)) (n : G F E hs tp md (pc + 1) L (vI (f a) :: st)) : G F E hs tp md pc L (vI a :: .ref A :: st) := by
  obtain ⟨p, l, e, R, s, m, args, below, meth, c, cells, slots, Q⟩ := F
  obtain ⟨hx, hb, hml, hown, hts, hK, -⟩ := C
  intro H locs ls hP hS hL
  refine va_iald hx hb hK hP q0 0 hw rfl (oI_in h0 h1 hN) d ?_
  rw [AI_at h0 h1 hN]
  exact n H locs ls hP hS hL
theorem x_cald {q0 A : Nat} {N : Nat} {f : Int → Int} (C : Cs F own cc nL kf E) (hw : (wl E hs tp md)[q0]? = some (A, .inl (E.2.2.1 1, N, .inl (AI f)))) (hN : N < 20000) (h0 : 0 ≤ a) (h1 : a < N) (d : decode cc pc = .ok (.caload, 1)) (n : G F E hs tp md (pc + 1) L (vI (f a) :: st)) : G F E hs tp md pc L (vI a :: .ref A :: st) := by
  obtain ⟨p, l, e, R, s, m, args, below, meth, c, cells, slots, Q⟩ := F
  obtain ⟨hx, hb, hml, hown, hts, hK, -⟩ := C
  intro H locs ls hP hS hL
  refine va_cald hx hb hK hP q0 1 hw rfl (oI_in h0 h1 hN) d ?_
  rw [AI_at h0 h1 hN]
  exact n H locs ls hP hS hL
theorem x_iast {q0 A : Nat} {N : Nat} {f : Int → Int} (C : Cs F own cc nL kf E) (hw : (wl E hs tp md)[q0]? = some (A, .inl (E.2.2.1 0, N, .inl (AI f)))) (hN : N < 20000) (h0 : 0 ≤ a) (h1 : a < N) (hset : (wl E hs tp md).set q0 (A, .inl (E.2.2.1 0, N, .inl (AI (up1 f a b)))) = wl E hs' tp' md') (d : decode cc pc = .ok (.iastore, 1)) (n : G F E hs' tp' md' (pc + 1) L st) : G F E hs tp md pc L (vI b :: vI a :: .ref A :: st) := by
  obtain ⟨p, l, e, R, s, m, args, below, meth, c, cells, slots, Q⟩ := F
  obtain ⟨hx, hb, hml, hown, hts, hK, hE, -⟩ := C
  intro H locs ls hP hS hL
  refine va_iast hx hb hK hP (wl_D hE hs tp md) hS q0 0 hw rfl (oI_in h0 h1 hN) d fun H1 locs1 hP1 _ hS1 => n H1 locs1 ls ?_ hS1 hL
  rw [← AI_up (v := b) h0 (oI_clamp ⟨by omega, by omega⟩), hset] at hP1
  exact hP1
theorem x_cast {q0 A : Nat} {N : Nat} {f : Int → Int} (C : Cs F own cc nL kf E) (hw : (wl E hs tp md)[q0]? = some (A, .inl (E.2.2.1 1, N, .inl (AI f)))) (hN : N < 20000) (h0 : 0 ≤ a) (h1 : a < N) (hb0 : vp_nar .char (Int32.ofInt b) = Int32.ofInt b) (hset : (wl E hs tp md).set q0 (A, .inl (E.2.2.1 1, N, .inl (AI (up1 f a b)))) = wl E hs' tp' md') (d : decode cc pc = .ok (.castore, 1)) (n : G F E hs' tp' md' (pc + 1) L st) : G F E hs tp md pc L (vI b :: vI a :: .ref A :: st) := by
  obtain ⟨p, l, e, R, s, m, args, below, meth, c, cells, slots, Q⟩ := F
  obtain ⟨hx, hb, hml, hown, hts, hK, hE, -⟩ := C
  intro H locs ls hP hS hL
  refine va_cast hx hb hK hP (wl_D hE hs tp md) hS q0 1 hw rfl (oI_in h0 h1 hN) d fun H1 locs1 hP1 _ hS1 => n H1 locs1 ls ?_ hS1 hL
  rw [hb0, ← AI_up (v := b) h0 (oI_clamp ⟨by omega, by omega⟩), hset] at hP1
  exact hP1
theorem x_alen {q0 A : Nat} {N : Nat} {f : Int → Int} (C : Cs F own cc nL kf E) (hw : (wl E hs tp md)[q0]? = some (A, .inl (E.2.2.1 0, N, .inl (AI f)))) (d : decode cc pc = .ok (.arraylength, 1)) (n : G F E hs tp md (pc + 1) L (vI (N : Int) :: st)) : G F E hs tp md pc L (.ref A :: st) := by
  obtain ⟨p, l, e, R, s, m, args, below, meth, c, cells, slots, Q⟩ := F
  obtain ⟨hx, hb, hml, hown, hts, hK, -⟩ := C
  intro H locs ls hP hS hL
  exact va_alen hx hb hK hP q0 0 hw rfl (Int32.ofInt_eq_ofNat).symm d (n H locs ls hP hS hL)
/-! the statics stay -/
theorem va_X.at {b L : Nat} {xs : Nat → Int32} {U U' : State} {H H' : Heap} (h : va_X b L xs U H) (hvm : U.vm.Alike U'.vm) (hq : H'[b]? = H[b]?) : va_X b L xs U' H' := (h.moved hvm).kept hq
theorem ZS.to {A : Nat → Prop} {bb : Nat → Nat} {s U : State} {H : Heap} {locs : List Loc} (h : ZS A bb s s.heap) (hS : va_S A s.heap H locs) (hW : s.WarmedH U.vm) : ZS A bb U H := by
  refine ⟨fun i hi => ?_, h.2.warmM hW⟩
  obtain ⟨h1, h2, h3, h4⟩ := h.1 i hi
  exact ⟨(h1.kept fun a ha hn => hS.2.1 a ha hn).moved hW.alike, h2.at hW.alike (hS.2.1 _ h3 h4), Nat.lt_of_lt_of_le h3 hS.1, h4⟩
theorem ZS.same {A : Nat → Prop} {bb : Nat → Nat} {s U : State} {H : Heap} (h : ZS A bb s H) (hW : s.vm = U.vm) : ZS A bb U H := by
  have hal : s.vm.Alike U.vm := hW ▸ Vm.Alike.refl _
  exact ⟨fun i hi => ⟨(h.1 i hi).1.moved hal, (h.1 i hi).2.1.moved hal, (h.1 i hi).2.2⟩, h.2.same rfl hW⟩
/-! contracts -/
abbrev RM (k : Nat) : Room := { frames := k, cells := 0, slots := 0, locals := 30 * k }
def QR (E : HE) (v : Option Value) (hs : Nat → HV) (tp md : HV) : Array Value → State → Outcome → State → Prop := fun _ s o t => (o = .returned v ∧ Wd E hs tp md t) ∧ va_F (AA E) s t
/-- the method y, from the world hs tp md with these arguments: it returns v, and the world is hs' tp' md' -/
def Mt (y : MethodName) (cy : ByteArray) (ny : Nat) (ret : Option FieldType) (k : Nat) (E : HE) (args : List Value) (hs : Nat → HV) (tp md : HV) (v : Option Value) (hs' : Nat → HV) (tp' md' : HV) : Prop :=
  ∀ l : Launch, Met l y (.code y cy ny ret :: TB) (RM k) (va_Pc args (Wd E hs tp md)) (QR E v hs' tp' md') 0 0 (AA E)
/-- where a walk ends -/
def Ce : FC → Option FieldType → HE → Option Value → (Nat → HV) → HV → HV → Prop := fun (_, _, _, _, s, _, args, below, meth, _, cells, slots, Q) ret E v hs tp md =>
  cells = 0 ∧ slots = 0 ∧ meth.sig.returnType = ret ∧ Q = MQ below (QR E v hs tp md) args s 0 0 (AA E)
theorem LH_entry {vs : List Value} {n : Nat} (h : vs.length ≤ n) (hc : ∀ v ∈ vs, v.category = 1) : LH ((lg_sl vs ++ List.replicate (n - (lg_sl vs).length) Slot.unset).toArray) n (vs.map some ++ List.replicate (n - vs.length) none) := by
  have e1 : lg_sl vs = vs.map Slot.val := by
    induction vs with
    | nil => rfl
    | cons v l ih =>
      have hv := hc v List.mem_cons_self
      have ih' := ih (by simp at h; omega) (fun w hw => hc w (List.mem_cons_of_mem _ hw))
      show (if v.category = 2 then _ else _) ++ lg_sl l = _
      rw [ih', if_neg (by omega)]
      rfl
  have hl : (lg_sl vs).length = vs.length := by rw [e1, List.length_map]
  obtain ⟨h1, h2, -⟩ := lv_entry vs (n := n) (by omega)
  refine ⟨h1, h2, fun i v hi => ?_⟩
  by_cases hlt : i < vs.length
  · rw [List.getElem?_append_left (by rw [List.length_map]; exact hlt), List.getElem?_map] at hi
    obtain ⟨w0, hw, e⟩ := Option.map_eq_some_iff.mp hi
    have e' : w0 = v := Option.some.inj e
    subst e'
    refine ⟨?_, hc w0 (List.mem_of_getElem? hw)⟩
    rw [e1, List.getElem?_toArray, List.getElem?_append_left (by rw [List.length_map]; exact hlt), List.getElem?_map, hw]
    rfl
  · rw [List.getElem?_append_right (by rw [List.length_map]; omega), List.getElem?_replicate] at hi
    split at hi <;> cases hi
/-- a contract out of a walk, for a class or a method that no row of the natives runs instead -/
theorem ofWF {l : Launch} {y : MethodName} {ws ws' : List Cond} {rm : Room} {Pc : Array Value → State → Prop} {Qc : Array Value → State → Outcome → State → Prop} {mc ms : Nat} {free : Addr → Prop} {cy : ByteArray} {maxL : Nat} {ret : Option FieldType} (hy : plainFor y = true) (hw : ws = Cond.code y cy maxL ret :: ws')
    (body : ∀ p e s m args below meth c s₁, BodyLoose p l y (headSpec ws rm) cy maxL ret e s m args below meth c s₁ → c.maxLocals = maxL → Pc args s → W p l e (headSpec ws rm).room s m args below meth c s.heap [] 0 0 (MQ below Qc args s mc ms free) (entryFrame m args maxL)) : Met l y ws rm Pc Qc mc ms free := by
  refine MetFree.of_bodySF (code := cy) (maxLocals := maxL) (ret := ret) hy ?_ ?_
  · intro args s m h hn
    obtain ⟨meth, c, h1, h2, h3, h4, h5, h6, -, -⟩ := Cond.code_spec hn (atoms_spec (ws := ws) h _ (by rw [hw]; exact List.mem_cons_self))
    exact ⟨meth, c, h1, h2, h3, h4, h5, h6⟩
  · intro p e s m args below meth c s₁ B hml hP _
    have hh0 : s₁.heap = s.heap := by rw [B.state]; rfl
    obtain ⟨t, a1, o, b1, b2, b3⟩ := body p e s m args below meth c s₁ B hml hP s₁ hh0 (Stand.of_body B)
    exact ⟨t, o, a1, b1, b2, ⟨b3.1, b3.2⟩⟩
theorem mk_Mt {y : MethodName} {cy : ByteArray} {ny k : Nat} {ret : Option FieldType} {args : List Value} {v : Option Value} {L0 : List (Option Value)} (hE : HI E) (hy : plainFor y = true) (hlen : args.length ≤ ny) (hc : ∀ w ∈ args, w.category = 1) (hL0 : args.map some ++ List.replicate (ny - args.length) none = L0)
    (body : ∀ F : FC, Cs F y.cls cy ny k E → Ce F ret E v hs' tp' md' → G F E hs tp md 0 L0 []) : Mt y cy ny ret k E args hs tp md v hs' tp' md' := by
  intro l
  refine ofWF (cy := cy) (maxL := ny) (ret := ret) hy rfl ?_
  intro p e s m av below meth c s₁ B hml hv
  obtain ⟨rfl, hP, hK, hZ⟩ := hv
  have hts := atoms_spec (ws := .code y cy ny ret :: TB) B.pre
  have C : Cs (p, l, e, (headSpec (.code y cy ny ret :: TB) (RM k)).room, s, m, args.toArray, below, meth, c, 0, 0, MQ below (QR E v hs' tp' md') args.toArray s 0 0 (AA E)) y.cls cy ny k E :=
    ⟨B.exec, B.bytes, hml, findClass_of_methodNamed B.named, fun w hw => hts w (List.mem_cons_of_mem _ hw), hK, hE, hZ, Nat.zero_le _, Nat.zero_le _, Nat.le_refl _, Nat.le_refl _, B.notSynchronized⟩
  rw [lg_entry_eq]
  exact body _ C ⟨rfl, rfl, B.returns, rfl⟩ s.heap [] _ hP va_S.rf (by rw [hml, ← hL0]; exact LH_entry hlen hc)
theorem Wd.of {s t : State} {H : Heap} {locs : List Loc} (hP : va_P E.1 vwCl (wl E hs tp md) H) (hK : va_K E.1 vwCl (tysE E) s) (hZ : ZS (AA E) E.2.2.2 s s.heap) (hS : va_S (AA E) s.heap H locs) (ht : t.heap = H) (hW : s.WarmedH t.vm) : Wd E hs tp md t :=
  ⟨by rw [ht]; exact hP, hK.moved hW.alike, by rw [ht]; exact hZ.to hS hW⟩
theorem x_iret {r : Int} {ty : FieldType} (C : Cs F own cc nL kf E) (D : Ce F (some ty) E (some (vI r)) hs' tp' md') (hn : narrow ty (vI r) = vI r) (d : decode cc pc = .ok (.ireturn, 1)) (e0 : a = r) (e1 : hs = hs') (e2 : tp = tp') (e3 : md = md') : G F E hs tp md pc L [vI a] := by
  obtain ⟨p, l, e, R, s, m, args, below, meth, c, cells, slots, Q⟩ := F
  obtain ⟨hx, hb, hml, hown, hts, hK, hE, hZ, -, -, -, -, hlk⟩ := C
  obtain ⟨z1, z2, hr, hQ⟩ := D
  subst e0; subst e1; subst e2; subst e3; subst z1; subst z2; subst hQ
  intro H locs ls hP hS hL
  exact W.zret hx hb hr hn (fun t ht hW => ⟨⟨rfl, Wd.of hP hK hZ hS ht hW⟩, hS.F ht⟩) (fun q hq => hS.2.2 q hq) d hlk
theorem x_vret (C : Cs F own cc nL kf E) (D : Ce F none E none hs' tp' md') (d : decode cc pc = .ok (.return_, 1)) (e1 : hs = hs') (e2 : tp = tp') (e3 : md = md') : G F E hs tp md pc L [] := by
  obtain ⟨p, l, e, R, s, m, args, below, meth, c, cells, slots, Q⟩ := F
  obtain ⟨hx, hb, hml, hown, hts, hK, hE, hZ, -, -, -, -, hlk⟩ := C
  obtain ⟨z1, z2, hr, hQ⟩ := D
  subst e1; subst e2; subst e3; subst z1; subst z2; subst hQ
  intro H locs ls hP hS hL
  exact W.vret hx hb hr (fun t ht hW => ⟨⟨rfl, Wd.of hP hK hZ hS ht hW⟩, hS.F ht⟩) (fun q hq => hS.2.2 q hq) d hlk
theorem blind {args : List Value} : FrameBlind (va_Pc args (Wd E hs tp md)) := fun a U g mk q => by
  obtain ⟨q0, qP, qK, qZ⟩ := q
  exact ⟨q0, qP, va_K.moved (u := U) (U := U.calling g mk a) (Vm.Alike.refl U.vm) qK, qZ.same rfl⟩
theorem goodTB {y : MethodName} {cy : ByteArray} {ny : Nat} {ret : Option FieldType} (h : Cond.code y cy ny ret ∈ TB) : GoodIn TB (.code y cy ny ret :: TB) := fun w hw => by
  rcases List.mem_cons.mp hw with rfl | hw
  · exact ⟨h, good_of_word (tb_good _ h)⟩
  · exact ⟨hw, good_of_word (tb_good _ hw)⟩
theorem x_back {p : Program} {l : Launch} {e : Env} {R : Room} {s : State} {m : MethodId} {args : Array Value} {below : List Frame} {meth : Method} {c : Code} {cells slots : Nat} {Q : State → Prop} {H : Heap} {locs : List Loc} {ls : Array Slot} {st0 rest : List Value} {av : Array Value} {v : Option Value}
    (hr : va_Run p l e R s m args below meth c H locs cells slots 0 0 (F0 m pc ls st0) rest (QR E v hs' tp' md' av) (AA E)) (hS : va_S (AA E) s.heap H locs) (hL : LH ls c.maxLocals L) (n : G (p, l, e, R, s, m, args, below, meth, c, cells, slots, Q) E hs' tp' md' (pc + 3) L (v.toList ++ rest)) : W p l e R s m args below meth c H locs cells slots Q (F0 m pc ls st0) := by
  intro T hT X
  obtain ⟨v0, st₀, t, T', L', h0, X', hL', e1, e2, ⟨⟨hv, hW⟩, hz, hk⟩, stp⟩ := hr T hT X
  cases hv
  rw [h0] at hz hk
  obtain ⟨t2, a1, b1⟩ := n T'.heap (locs ++ L') ls (by rw [e1]; exact hW.1)
    ⟨Nat.le_trans hS.1 (by rw [e1]; exact hz), fun q h1 h2 => by rw [e1, hk q (Nat.lt_of_lt_of_le h1 hS.1) h2]; exact hS.2.1 q h1 h2, fun q hq => by
      rcases List.mem_append.mp hq with h | h
      · exact hS.2.2 q h
      · exact hL' q h⟩ hL T' rfl X'
  exact ⟨t2, stp t2 a1, b1⟩
theorem x_callV {index q0 ci N A nA ny k : Nat} {fs : List Value} {Cn : String} {T : u_T} {y : MethodName} {cy : ByteArray} {ret : Option FieldType} {As rest : List Value} {v : Option Value} (C : Cs F own cc nL kf E) (hM : Mt y cy ny ret k E (.ref A :: As) hs tp md v hs' tp' md')
    (w1 : Cond.methodLink own index y ∈ TB) (w2 : Cond.instanceMethod y ∈ TB) (w3 : Cond.selects Cn y y ∈ TB) (w4 : Cond.initialized Cn ∈ TB) (w5 : Cond.code y cy ny ret ∈ TB) (hd : y.cls = Cn ∧ y.cls ≠ "java/lang/invoke/MethodHandle" ∧ y.cls ≠ "java/lang/invoke/VarHandle" ∧ (parseMethodDescriptor y.desc).map (fun d => d.parameters.length) = some nA)
    (hw : (wl E hs tp md)[q0]? = some (A, .inr (ci, fs))) (hc : vwCl[ci]? = some (Cn, T, N)) (hn : As.length = nA) (hk : k + 1 ≤ kf) (hm : 19 + ny + 30 * k ≤ 30 * kf) (hcat : (rest.map fun v => v.category).sum ≤ 8) (d : decode cc pc = .ok (.invokevirtual index, 3)) (hst : As.reverse ++ .ref A :: rest = st)
    (n : G F E hs' tp' md' (pc + 3) L (v.toList ++ rest)) : G F E hs tp md pc L st := by
  obtain ⟨p, l, e, R, s, m, args, below, meth, c, cells, slots, Q⟩ := F
  obtain ⟨hx, hb, hml, hown, hts, hK, hE, hZ, hce, hsl, hfr, hlo, hlk⟩ := C
  subst hst
  intro H locs ls hP hS hL
  have hG : GoodIn TB (wsV own index Cn y (.code y cy ny ret :: TB)) := fun w hw => by
    rcases List.mem_append.mp hw with h | h
    · have h' : w ∈ TB := by
        simp only [List.mem_cons, List.not_mem_nil, or_false] at h
        rcases h with rfl | rfl | rfl | rfl <;> assumption
      exact ⟨h', good_of_word (tb_good _ h')⟩
    · exact goodTB w5 w h
  have cw : CallW R s args own Cn index y cy ny ret (.code y cy ny ret :: TB) (RM k) 0 0 nA := cwV nA hts hG rfl rfl rfl hd ⟨by show k + 1 ≤ _; omega, by show 8 + (ny + 11) + 30 * k ≤ _; omega⟩
  refine x_back (va_runV (As := As) (rest := rest) ⟨hx, hb, hml, hown, hts⟩ (hM l) cw ⟨blind, va_recv hK hP hc hw, fun U hU hW => ⟨rfl, Wd.of hP hK hZ hS hU hW⟩⟩ rfl hn (hL.1.trans hml) rfl (lv_room hcat) d ⟨hce, hsl⟩) hS hL n
theorem x_callS {index nA ny k : Nat} {y : MethodName} {cy : ByteArray} {ret : Option FieldType} {As rest : List Value} {v : Option Value} (C : Cs F own cc nL kf E) (hM : Mt y cy ny ret k E As hs tp md v hs' tp' md')
    (w1 : Cond.methodLink own index y ∈ TB) (w2 : Cond.static y ∈ TB) (w4 : Cond.initialized y.cls ∈ TB) (w5 : Cond.code y cy ny ret ∈ TB) (hd : y.cls ≠ "java/lang/invoke/MethodHandle" ∧ y.cls ≠ "java/lang/invoke/VarHandle" ∧ (parseMethodDescriptor y.desc).map (fun d => d.parameters.length) = some nA)
    (hn : As.length = nA) (hk : k + 1 ≤ kf) (hm : 19 + ny + 30 * k ≤ 30 * kf) (hcat : (rest.map fun v => v.category).sum ≤ 8) (d : decode cc pc = .ok (.invokestatic index, 3)) (hst : As.reverse ++ rest = st)
    (n : G F E hs' tp' md' (pc + 3) L (v.toList ++ rest)) : G F E hs tp md pc L st := by
  obtain ⟨p, l, e, R, s, m, args, below, meth, c, cells, slots, Q⟩ := F
  obtain ⟨hx, hb, hml, hown, hts, hK, hE, hZ, hce, hsl, hfr, hlo, hlk⟩ := C
  subst hst
  intro H locs ls hP hS hL
  have cb := callB_of (own := own) (index := index) (R := R) (rm := RM k) (mc := 0) (ms := 0) nA hts (goodTB w5) rfl rfl rfl (hts _ w4) (hts _ w1) hd ⟨by show k + 1 ≤ _; omega, by show 8 + (ny + 11) + 30 * k ≤ _; omega⟩
  refine x_back (va_runS (As := As) (rest := rest) ⟨hx, hb, hml, hown, hts⟩ (hM l) ⟨cb, hts _ w2⟩ ⟨blind, fun U hU hW => ⟨rfl, Wd.of hP hK hZ hS hU hW⟩⟩ rfl hn (hL.1.trans hml) rfl (lv_room hcat) d ⟨hce, hsl⟩) hS hL n
theorem x_callSN {index nA ny k : Nat} {host : String} {y : MethodName} {cy : ByteArray} {ret : Option FieldType} {As rest : List Value} {v : Option Value} (C : Cs F own cc nL kf E) (hM : Mt y cy ny ret k E As hs tp md v hs' tp' md') (ho : Cond.methodLinkNest own index y host = .methodLinkNest RX3 88 yX6_areNightsAndPersons "HutBookings")
    (w2 : Cond.static y ∈ TB) (w4 : Cond.initialized y.cls ∈ TB) (w5 : Cond.code y cy ny ret ∈ TB) (hd : y.cls ≠ "java/lang/invoke/MethodHandle" ∧ y.cls ≠ "java/lang/invoke/VarHandle" ∧ (parseMethodDescriptor y.desc).map (fun d => d.parameters.length) = some nA)
    (hn : As.length = nA) (hk : k + 1 ≤ kf) (hm : 19 + ny + 30 * k ≤ 30 * kf) (hcat : (rest.map fun v => v.category).sum ≤ 8) (d : decode cc pc = .ok (.invokestatic index, 3)) (hst : As.reverse ++ rest = st)
    (n : G F E hs' tp' md' (pc + 3) L (v.toList ++ rest)) : G F E hs tp md pc L st := by
  obtain ⟨p, l, e, R, s, m, args, below, meth, c, cells, slots, Q⟩ := F
  obtain ⟨hx, hb, hml, hown, hts, hK, hE, hZ, hce, hsl, hfr, hlo, hlk⟩ := C
  subst hst
  intro H locs ls hP hS hL
  have cb := va_cnB (own := own) (index := index) (host := host) (R := R) (rm := RM k) (mc := 0) (ms := 0) nA hts (goodTB w5) rfl rfl rfl (by rw [ho]; exact hZ.2) (hts _ w4) hd ⟨by show k + 1 ≤ _; omega, by show 8 + (ny + 11) + 30 * k ≤ _; omega⟩
  refine x_back (va_runSN (As := As) (rest := rest) ⟨hx, hb, hml, hown, hts⟩ (hM l) ⟨cb, hts _ w2, trivial⟩ ⟨blind, fun U hU hW => ⟨rfl, Wd.of hP hK hZ hS hU hW⟩⟩ rfl hn (hL.1.trans hml) rfl (lv_room hcat) d ⟨hce, hsl⟩) hS hL n
/-- the first n places of f over those of g -/
def cpI (f g : Int → Int) (n : Int) : Int → Int := fun i => if 0 ≤ i ∧ i < n then f i else g i
theorem AI_cp {f g : Int → Int} {n : Int} (h0 : 0 ≤ n) : va_cpy (AI f) (AI g) 0 0 n.toNat = AI (cpI f g n) := by
  funext k
  unfold va_cpy AI cpI
  by_cases hk : k < n.toNat
  · rw [if_pos ⟨Nat.zero_le _, by omega⟩, if_pos ⟨by omega, by omega⟩, Nat.sub_zero, Nat.zero_add]
  · rw [if_neg (by omega), if_neg (by omega)]
theorem x_copy {index q0 q1 A0 A1 N N1 : Nat} {f g : Int → Int} (C : Cs F own cc nL kf E) (w1 : Cond.methodLink own index arraycopyName ∈ TB) (hw0 : (wl E hs tp md)[q0]? = some (A0, .inl (E.2.2.1 0, N, .inl (AI f)))) (hw1 : (wl E hs tp md)[q1]? = some (A1, .inl (E.2.2.1 0, N1, .inl (AI g)))) (h0 : 0 ≤ a) (h1 : a ≤ N) (h2 : a ≤ N1) (hN : N < 20000) (hset : (wl E hs tp md).set q1 (A1, .inl (E.2.2.1 0, N1, .inl (AI (cpI f g a)))) = wl E hs' tp' md') (hk : 2 ≤ kf) (hcat : (st.map fun v => v.category).sum ≤ 8) (d : decode cc pc = .ok (.invokestatic index, 3)) (n : G F E hs' tp' md' (pc + 3) L st) : G F E hs tp md pc L (vI a :: vI 0 :: .ref A1 :: vI 0 :: .ref A0 :: st) := by
  obtain ⟨p, l, e, R, s, m, args, below, meth, c, cells, slots, Q⟩ := F
  obtain ⟨hx, hb, hml, hown, hts, hK, hE, hZ, hce, hsl, hfr, hlo, hlk⟩ := C
  intro H locs ls hP hS hL
  have e0 : (Int32.ofInt 0).toNatClampNeg = 0 := by decide
  have e1 : (Int32.ofInt a).toNatClampNeg = a.toNat := oI_clamp ⟨by omega, by omega⟩
  have ew : nativeFrameWords "java/lang/System" "arraycopy" 5 = 7 := by decide
  refine va_copyi hx hb hL.1.symm hown (hts _ w1) (hts _ q_85) (hts _ q_84) (hts _ (q_58 : Cond.initialized "java/lang/System" ∈ TB)) hK hP (wl_D hE hs tp md) hS q0 q1 0 0 hw0 hw1 rfl rfl rfl (by decide) (by decide) ?_ ?_ ?_ (fun _ _ => rfl) (by omega) (by rw [ew]; omega) d fun H1 locs1 hP1 _ hS1 => n H1 locs1 ls ?_ hS1 hL
  · intro q
    have q' := (oI_lt (a := a) (b := 0) ⟨by omega, by omega⟩ ⟨by decide, by decide⟩).mp q
    omega
  · rw [e0, e1]; omega
  · rw [e0, e1]; omega
  · rw [e0, e1, AI_cp h0, hset] at hP1
    exact hP1
/-- the sign of an exclusive or -/
def xr (a b : Int) : Int := (Int32.ofInt a ^^^ Int32.ofInt b).toInt
theorem xr_IR {a b : Int} : IR (xr a b) := oI_IR _
theorem xr_neg {a b : Int} (ha : IR a) (hb : IR b) (h0 : 0 ≤ b) : xr a b < 0 ↔ a < 0 := by
  have k : ∀ z : Int32, z.toInt < 0 ↔ z.toBitVec.msb = true := fun z => by
    show z.toBitVec.toInt < 0 ↔ _
    rw [BitVec.toInt_neg_iff, BitVec.msb_eq_decide]; simp; omega
  have kb : (Int32.ofInt b).toBitVec.msb = false := by
    have h1 := not_congr (k (Int32.ofInt b))
    rw [oI_toInt hb] at h1
    have := h1.mp (by omega)
    simpa using this
  unfold xr
  rw [k, Int32.toBitVec_xor, BitVec.msb_xor, kb, Bool.xor_false, ← k, oI_toInt ha]
theorem x_ixor (C : Cs F own cc nL kf E) (d : decode cc pc = .ok (.ixor, 1)) (k : G F E hs tp md (pc + 1) L (vI (xr a b) :: st)) : G F E hs tp md pc L (vI b :: vI a :: st) := by
  obtain ⟨p, l, e, R, s, m, args, below, meth, c, cells, slots, Q⟩ := F
  intro H locs ls hP hS hL
  refine lv_ixor C.1 C.2.1 d ?_
  have h := k H locs ls hP hS hL
  have e9 : vI (xr a b) = .int (Int32.ofInt a ^^^ Int32.ofInt b) := congrArg Value.int (oI_self _)
  rw [e9] at h
  exact h
theorem x_iremT (C : Cs F own cc nL kf E) (d : decode cc pc = .ok (.irem, 1)) (ha : IR a) (hb : IR b) (h1 : 1 < b) (k : G F E hs tp md (pc + 1) L (vI (Int.tmod a b) :: st)) : G F E hs tp md pc L (vI b :: vI a :: st) := by
  obtain ⟨p, l, e, R, s, m, args, below, meth, c, cells, slots, Q⟩ := F
  intro H locs ls hP hS hL
  refine lv_irem C.1 C.2.1 d (fun q => ?_) ?_
  · have := (oI_eq hb (by constructor <;> omega : IR 0)).mp q
    omega
  · have hq : (Int32.ofInt a / Int32.ofInt b) = Int32.ofInt (a.tdiv b) := by
      have hle : (a.tdiv b).natAbs ≤ a.natAbs := by rw [Int.natAbs_tdiv]; exact Nat.div_le_self _ _
      have h2 : a.tdiv b ≠ 2147483648 := by
        intro q
        have h3 : (a.tdiv b).natAbs = a.natAbs / b.natAbs := Int.natAbs_tdiv a b
        have h4 : a.natAbs / b.natAbs ≤ a.natAbs / 2 := Nat.div_le_div_left (by omega) (by decide)
        omega
      have hr : IR (a.tdiv b) := by constructor <;> omega
      rw [← Int32.toInt_inj, Int32.toInt_div, oI_toInt ha, oI_toInt hb, oI_toInt hr]
      exact Int.bmod_eq_of_le (by omega) (by omega)
    rw [hq, oI_mul, oI_sub, show a - a.tdiv b * b = a.tmod b by have := Int.tmod_add_mul_tdiv a b; rw [Int.mul_comm]; omega]
    exact k H locs ls hP hS hL
theorem x_min {index : Nat} (C : Cs F own cc nL kf E) (w1 : Cond.methodLink own index Lib.Math.min.name ∈ TB) (w2 : Cond.static Lib.Math.min.name ∈ TB) (w3 : Cond.initialized "java/lang/Math" ∈ TB) (w4 : Cond.code Lib.Math.min.name Lib.Math.min.code 2 (some .int) ∈ TB) (hk : 1 ≤ kf) (hcat : (st.map fun v => v.category).sum ≤ 8) (ha : IR a) (hb : IR b) (d : decode cc pc = .ok (.invokestatic index, 3)) (n : G F E hs tp md (pc + 3) L (vI (if a ≤ b then a else b) :: st)) : G F E hs tp md pc L (vI b :: vI a :: st) := by
  obtain ⟨p, l, e, R, s, m, args, below, meth, c, cells, slots, Q⟩ := F
  obtain ⟨hx, hbb, hml, hown, hts, hK, hE, hZ, hce, hsl, hfr, hlo, hlk⟩ := C
  intro H locs ls hP hS hL
  refine va_mmin hx hbb hL.1.symm hown (hts _ w1) (hts _ w2) (hts _ w3) (hts _ w4) (by omega) (by omega) hce hsl d ?_
  have e1 : (if Int32.ofInt b < Int32.ofInt a then Int32.ofInt b else Int32.ofInt a) = Int32.ofInt (if a ≤ b then a else b) := by
    by_cases h : a ≤ b
    · rw [if_pos h, if_neg (by rw [oI_lt hb ha]; omega)]
    · rw [if_neg h, if_pos (by rw [oI_lt hb ha]; omega)]
  rw [e1]
  exact n H locs ls hP hS hL
theorem x_max {index : Nat} (C : Cs F own cc nL kf E) (w1 : Cond.methodLink own index Lib.Math.max.name ∈ TB) (w2 : Cond.static Lib.Math.max.name ∈ TB) (w3 : Cond.initialized "java/lang/Math" ∈ TB) (w4 : Cond.code Lib.Math.max.name Lib.Math.max.code 2 (some .int) ∈ TB) (hk : 1 ≤ kf) (hcat : (st.map fun v => v.category).sum ≤ 8) (ha : IR a) (hb : IR b) (d : decode cc pc = .ok (.invokestatic index, 3)) (n : G F E hs tp md (pc + 3) L (vI (if a < b then b else a) :: st)) : G F E hs tp md pc L (vI b :: vI a :: st) := by
  obtain ⟨p, l, e, R, s, m, args, below, meth, c, cells, slots, Q⟩ := F
  obtain ⟨hx, hbb, hml, hown, hts, hK, hE, hZ, hce, hsl, hfr, hlo, hlk⟩ := C
  intro H locs ls hP hS hL
  refine va_mmax hx hbb hL.1.symm hown (hts _ w1) (hts _ w2) (hts _ w3) (hts _ w4) (by omega) (by omega) hce hsl d ?_
  have e1 : (if Int32.ofInt a < Int32.ofInt b then Int32.ofInt b else Int32.ofInt a) = Int32.ofInt (if a < b then b else a) := by
    by_cases h : a < b
    · rw [if_pos h, if_pos (by rw [oI_lt ha hb]; omega)]
    · rw [if_neg h, if_neg (by rw [oI_lt ha hb]; omega)]
  rw [e1]
  exact n H locs ls hP hS hL
end CELLS
end
section
section FIELDS
variable {F : FC} {own : String} {cc : ByteArray} {nL kf : Nat} {E : HE} {hs : Nat → HV} {tp md : HV} {pc : Nat} {L : List (Option Value)} {st : List Value} {a b : Int} {j : Nat} {h : HV} {index : Nat}

theorem gh_0_0 (C : Cs F own cc nL kf E) (hj : j < 7) (hh : hs j = h) (hl : Cond.fieldLink own index "HutBookings$Hut" "settings" "[I" ∈ TB) (d : decode cc pc = .ok (.getfield index, 3)) (n : G F E hs tp md (pc + 3) L (.ref (hA E j 1) :: st)) : G F E hs tp md pc L (.ref (hA E j 0) :: st) :=
  x_get C (wl_h hj hh 0 (by decide)) rfl i_X3 0 (by decide) hl rfl d n
theorem gh_0_1 (C : Cs F own cc nL kf E) (hj : j < 7) (hh : hs j = h) (hl : Cond.fieldLink own index "HutBookings$Hut" "weatherRow" "[I" ∈ TB) (d : decode cc pc = .ok (.getfield index, 3)) (n : G F E hs tp md (pc + 3) L (.ref (hA E j 2) :: st)) : G F E hs tp md pc L (.ref (hA E j 0) :: st) :=
  x_get C (wl_h hj hh 0 (by decide)) rfl i_X3 1 (by decide) hl rfl d n
theorem gh_0_2 (C : Cs F own cc nL kf E) (hj : j < 7) (hh : hs j = h) (hl : Cond.fieldLink own index "HutBookings$Hut" "guests" "LHutBookings$Guests;" ∈ TB) (d : decode cc pc = .ok (.getfield index, 3)) (n : G F E hs tp md (pc + 3) L (.ref (hA E j 3) :: st)) : G F E hs tp md pc L (.ref (hA E j 0) :: st) :=
  x_get C (wl_h hj hh 0 (by decide)) rfl i_X3 2 (by decide) hl rfl d n
theorem gh_0_3 (C : Cs F own cc nL kf E) (hj : j < 7) (hh : hs j = h) (hl : Cond.fieldLink own index "HutBookings$Hut" "larder" "LHutBookings$Larder;" ∈ TB) (d : decode cc pc = .ok (.getfield index, 3)) (n : G F E hs tp md (pc + 3) L (.ref (hA E j 11) :: st)) : G F E hs tp md pc L (.ref (hA E j 0) :: st) :=
  x_get C (wl_h hj hh 0 (by decide)) rfl i_X3 3 (by decide) hl rfl d n
theorem gh_0_4 (C : Cs F own cc nL kf E) (hj : j < 7) (hh : hs j = h) (hl : Cond.fieldLink own index "HutBookings$Hut" "orders" "LHutBookings$Orders;" ∈ TB) (d : decode cc pc = .ok (.getfield index, 3)) (n : G F E hs tp md (pc + 3) L (.ref (hA E j 13) :: st)) : G F E hs tp md pc L (.ref (hA E j 0) :: st) :=
  x_get C (wl_h hj hh 0 (by decide)) rfl i_X3 4 (by decide) hl rfl d n
theorem gh_0_5 (C : Cs F own cc nL kf E) (hj : j < 7) (hh : hs j = h) (hl : Cond.fieldLink own index "HutBookings$Hut" "tally" "[I" ∈ TB) (d : decode cc pc = .ok (.getfield index, 3)) (n : G F E hs tp md (pc + 3) L (.ref (hA E j 16) :: st)) : G F E hs tp md pc L (.ref (hA E j 0) :: st) :=
  x_get C (wl_h hj hh 0 (by decide)) rfl i_X3 5 (by decide) hl rfl d n
theorem gh_0_6 (C : Cs F own cc nL kf E) (hj : j < 7) (hh : hs j = h) (hl : Cond.fieldLink own index "HutBookings$Hut" "today" "I" ∈ TB) (d : decode cc pc = .ok (.getfield index, 3)) {v9 : Int} (hv : h 0 6 = v9) (n : G F E hs tp md (pc + 3) L (vI v9 :: st)) : G F E hs tp md pc L (.ref (hA E j 0) :: st) :=
  by subst hv; exact x_get C (wl_h hj hh 0 (by decide)) rfl i_X3 6 (by decide) hl rfl d n
theorem ph_0_6 (C : Cs F own cc nL kf E) (hj : j < 7) (hh : hs j = h) (hl : Cond.fieldLink own index "HutBookings$Hut" "today" "I" ∈ TB) (d : decode cc pc = .ok (.putfield index, 3)) {hs9 : Nat → HV} (he : putH hs j (upr h 0 (up1 (h 0) 6 a)) = hs9) (n : G F E hs9 tp md (pc + 3) L st) : G F E hs tp md pc L (vI a :: .ref (hA E j 0) :: st) :=
  by subst he; exact x_put C (wl_h hj hh 0 (by decide)) rfl i_X3 tyX3_ok nmX3 6 (by decide) hl rfl rfl rfl (Nat.le_of_ble_eq_true rfl) (set_h hj hh 0 (by decide) _ rfl) d n
theorem gh_0_7 (C : Cs F own cc nL kf E) (hj : j < 7) (hh : hs j = h) (hl : Cond.fieldLink own index "HutBookings$Hut" "flightCalled" "Z" ∈ TB) (d : decode cc pc = .ok (.getfield index, 3)) {v9 : Int} (hv : h 0 7 = v9) (n : G F E hs tp md (pc + 3) L (vI v9 :: st)) : G F E hs tp md pc L (.ref (hA E j 0) :: st) :=
  by subst hv; exact x_get C (wl_h hj hh 0 (by decide)) rfl i_X3 7 (by decide) hl rfl d n
theorem ph_0_7 (C : Cs F own cc nL kf E) (hj : j < 7) (hh : hs j = h) (ha : a = 0 ∨ a = 1) (hl : Cond.fieldLink own index "HutBookings$Hut" "flightCalled" "Z" ∈ TB) (d : decode cc pc = .ok (.putfield index, 3)) {hs9 : Nat → HV} (he : putH hs j (upr h 0 (up1 (h 0) 7 a)) = hs9) (n : G F E hs9 tp md (pc + 3) L st) : G F E hs tp md pc L (vI a :: .ref (hA E j 0) :: st) :=
  by subst he; exact x_put C (wl_h hj hh 0 (by decide)) rfl i_X3 tyX3_ok nmX3 7 (by decide) hl rfl (by rcases ha with rfl | rfl <;> rfl) (by rcases ha with rfl | rfl <;> rfl) (Nat.le_of_ble_eq_true rfl) (set_h hj hh 0 (by decide) _ rfl) d n
theorem gh_0_8 (C : Cs F own cc nL kf E) (hj : j < 7) (hh : hs j = h) (hl : Cond.fieldLink own index "HutBookings$Hut" "purse" "I" ∈ TB) (d : decode cc pc = .ok (.getfield index, 3)) {v9 : Int} (hv : h 0 8 = v9) (n : G F E hs tp md (pc + 3) L (vI v9 :: st)) : G F E hs tp md pc L (.ref (hA E j 0) :: st) :=
  by subst hv; exact x_get C (wl_h hj hh 0 (by decide)) rfl i_X3 8 (by decide) hl rfl d n
theorem ph_0_8 (C : Cs F own cc nL kf E) (hj : j < 7) (hh : hs j = h) (hl : Cond.fieldLink own index "HutBookings$Hut" "purse" "I" ∈ TB) (d : decode cc pc = .ok (.putfield index, 3)) {hs9 : Nat → HV} (he : putH hs j (upr h 0 (up1 (h 0) 8 a)) = hs9) (n : G F E hs9 tp md (pc + 3) L st) : G F E hs tp md pc L (vI a :: .ref (hA E j 0) :: st) :=
  by subst he; exact x_put C (wl_h hj hh 0 (by decide)) rfl i_X3 tyX3_ok nmX3 8 (by decide) hl rfl rfl rfl (Nat.le_of_ble_eq_true rfl) (set_h hj hh 0 (by decide) _ rfl) d n
theorem gh_0_9 (C : Cs F own cc nL kf E) (hj : j < 7) (hh : hs j = h) (hl : Cond.fieldLink own index "HutBookings$Hut" "depositsKept" "I" ∈ TB) (d : decode cc pc = .ok (.getfield index, 3)) {v9 : Int} (hv : h 0 9 = v9) (n : G F E hs tp md (pc + 3) L (vI v9 :: st)) : G F E hs tp md pc L (.ref (hA E j 0) :: st) :=
  by subst hv; exact x_get C (wl_h hj hh 0 (by decide)) rfl i_X3 9 (by decide) hl rfl d n
theorem ph_0_9 (C : Cs F own cc nL kf E) (hj : j < 7) (hh : hs j = h) (hl : Cond.fieldLink own index "HutBookings$Hut" "depositsKept" "I" ∈ TB) (d : decode cc pc = .ok (.putfield index, 3)) {hs9 : Nat → HV} (he : putH hs j (upr h 0 (up1 (h 0) 9 a)) = hs9) (n : G F E hs9 tp md (pc + 3) L st) : G F E hs tp md pc L (vI a :: .ref (hA E j 0) :: st) :=
  by subst he; exact x_put C (wl_h hj hh 0 (by decide)) rfl i_X3 tyX3_ok nmX3 9 (by decide) hl rfl rfl rfl (Nat.le_of_ble_eq_true rfl) (set_h hj hh 0 (by decide) _ rfl) d n
theorem gh_0_10 (C : Cs F own cc nL kf E) (hj : j < 7) (hh : hs j = h) (hl : Cond.fieldLink own index "HutBookings$Hut" "flightsPaid" "I" ∈ TB) (d : decode cc pc = .ok (.getfield index, 3)) {v9 : Int} (hv : h 0 10 = v9) (n : G F E hs tp md (pc + 3) L (vI v9 :: st)) : G F E hs tp md pc L (.ref (hA E j 0) :: st) :=
  by subst hv; exact x_get C (wl_h hj hh 0 (by decide)) rfl i_X3 10 (by decide) hl rfl d n
theorem ph_0_10 (C : Cs F own cc nL kf E) (hj : j < 7) (hh : hs j = h) (hl : Cond.fieldLink own index "HutBookings$Hut" "flightsPaid" "I" ∈ TB) (d : decode cc pc = .ok (.putfield index, 3)) {hs9 : Nat → HV} (he : putH hs j (upr h 0 (up1 (h 0) 10 a)) = hs9) (n : G F E hs9 tp md (pc + 3) L st) : G F E hs tp md pc L (vI a :: .ref (hA E j 0) :: st) :=
  by subst he; exact x_put C (wl_h hj hh 0 (by decide)) rfl i_X3 tyX3_ok nmX3 10 (by decide) hl rfl rfl rfl (Nat.le_of_ble_eq_true rfl) (set_h hj hh 0 (by decide) _ rfl) d n
theorem gh_3_0 (C : Cs F own cc nL kf E) (hj : j < 7) (hh : hs j = h) (hl : Cond.fieldLink own index "HutBookings$Guests" "how" "[I" ∈ TB) (d : decode cc pc = .ok (.getfield index, 3)) (n : G F E hs tp md (pc + 3) L (.ref (hA E j 4) :: st)) : G F E hs tp md pc L (.ref (hA E j 3) :: st) :=
  x_get C (wl_h hj hh 3 (by decide)) rfl i_X1 0 (by decide) hl rfl d n
theorem gh_3_1 (C : Cs F own cc nL kf E) (hj : j < 7) (hh : hs j = h) (hl : Cond.fieldLink own index "HutBookings$Guests" "arrives" "[I" ∈ TB) (d : decode cc pc = .ok (.getfield index, 3)) (n : G F E hs tp md (pc + 3) L (.ref (hA E j 5) :: st)) : G F E hs tp md pc L (.ref (hA E j 3) :: st) :=
  x_get C (wl_h hj hh 3 (by decide)) rfl i_X1 1 (by decide) hl rfl d n
theorem gh_3_2 (C : Cs F own cc nL kf E) (hj : j < 7) (hh : hs j = h) (hl : Cond.fieldLink own index "HutBookings$Guests" "nights" "[I" ∈ TB) (d : decode cc pc = .ok (.getfield index, 3)) (n : G F E hs tp md (pc + 3) L (.ref (hA E j 6) :: st)) : G F E hs tp md pc L (.ref (hA E j 3) :: st) :=
  x_get C (wl_h hj hh 3 (by decide)) rfl i_X1 2 (by decide) hl rfl d n
theorem gh_3_3 (C : Cs F own cc nL kf E) (hj : j < 7) (hh : hs j = h) (hl : Cond.fieldLink own index "HutBookings$Guests" "persons" "[I" ∈ TB) (d : decode cc pc = .ok (.getfield index, 3)) (n : G F E hs tp md (pc + 3) L (.ref (hA E j 7) :: st)) : G F E hs tp md pc L (.ref (hA E j 3) :: st) :=
  x_get C (wl_h hj hh 3 (by decide)) rfl i_X1 3 (by decide) hl rfl d n
theorem gh_3_4 (C : Cs F own cc nL kf E) (hj : j < 7) (hh : hs j = h) (hl : Cond.fieldLink own index "HutBookings$Guests" "slept" "[I" ∈ TB) (d : decode cc pc = .ok (.getfield index, 3)) (n : G F E hs tp md (pc + 3) L (.ref (hA E j 8) :: st)) : G F E hs tp md pc L (.ref (hA E j 3) :: st) :=
  x_get C (wl_h hj hh 3 (by decide)) rfl i_X1 4 (by decide) hl rfl d n
theorem gh_3_5 (C : Cs F own cc nL kf E) (hj : j < 7) (hh : hs j = h) (hl : Cond.fieldLink own index "HutBookings$Guests" "deposit" "[I" ∈ TB) (d : decode cc pc = .ok (.getfield index, 3)) (n : G F E hs tp md (pc + 3) L (.ref (hA E j 9) :: st)) : G F E hs tp md pc L (.ref (hA E j 3) :: st) :=
  x_get C (wl_h hj hh 3 (by decide)) rfl i_X1 5 (by decide) hl rfl d n
theorem gh_3_6 (C : Cs F own cc nL kf E) (hj : j < 7) (hh : hs j = h) (hl : Cond.fieldLink own index "HutBookings$Guests" "came" "[I" ∈ TB) (d : decode cc pc = .ok (.getfield index, 3)) (n : G F E hs tp md (pc + 3) L (.ref (hA E j 10) :: st)) : G F E hs tp md pc L (.ref (hA E j 3) :: st) :=
  x_get C (wl_h hj hh 3 (by decide)) rfl i_X1 6 (by decide) hl rfl d n
theorem gh_3_7 (C : Cs F own cc nL kf E) (hj : j < 7) (hh : hs j = h) (hl : Cond.fieldLink own index "HutBookings$Guests" "made" "I" ∈ TB) (d : decode cc pc = .ok (.getfield index, 3)) {v9 : Int} (hv : h 3 7 = v9) (n : G F E hs tp md (pc + 3) L (vI v9 :: st)) : G F E hs tp md pc L (.ref (hA E j 3) :: st) :=
  by subst hv; exact x_get C (wl_h hj hh 3 (by decide)) rfl i_X1 7 (by decide) hl rfl d n
theorem ph_3_7 (C : Cs F own cc nL kf E) (hj : j < 7) (hh : hs j = h) (hl : Cond.fieldLink own index "HutBookings$Guests" "made" "I" ∈ TB) (d : decode cc pc = .ok (.putfield index, 3)) {hs9 : Nat → HV} (he : putH hs j (upr h 3 (up1 (h 3) 7 a)) = hs9) (n : G F E hs9 tp md (pc + 3) L st) : G F E hs tp md pc L (vI a :: .ref (hA E j 3) :: st) :=
  by subst he; exact x_put C (wl_h hj hh 3 (by decide)) rfl i_X1 tyX1_ok nmX1 7 (by decide) hl rfl rfl rfl (Nat.le_of_ble_eq_true rfl) (set_h hj hh 3 (by decide) _ rfl) d n
theorem gh_11_0 (C : Cs F own cc nL kf E) (hj : j < 7) (hh : hs j = h) (hl : Cond.fieldLink own index "HutBookings$Larder" "fresh" "[I" ∈ TB) (d : decode cc pc = .ok (.getfield index, 3)) (n : G F E hs tp md (pc + 3) L (.ref (hA E j 12) :: st)) : G F E hs tp md pc L (.ref (hA E j 11) :: st) :=
  x_get C (wl_h hj hh 11 (by decide)) rfl i_X4 0 (by decide) hl rfl d n
theorem gh_11_1 (C : Cs F own cc nL kf E) (hj : j < 7) (hh : hs j = h) (hl : Cond.fieldLink own index "HutBookings$Larder" "dry" "I" ∈ TB) (d : decode cc pc = .ok (.getfield index, 3)) {v9 : Int} (hv : h 11 1 = v9) (n : G F E hs tp md (pc + 3) L (vI v9 :: st)) : G F E hs tp md pc L (.ref (hA E j 11) :: st) :=
  by subst hv; exact x_get C (wl_h hj hh 11 (by decide)) rfl i_X4 1 (by decide) hl rfl d n
theorem ph_11_1 (C : Cs F own cc nL kf E) (hj : j < 7) (hh : hs j = h) (hl : Cond.fieldLink own index "HutBookings$Larder" "dry" "I" ∈ TB) (d : decode cc pc = .ok (.putfield index, 3)) {hs9 : Nat → HV} (he : putH hs j (upr h 11 (up1 (h 11) 1 a)) = hs9) (n : G F E hs9 tp md (pc + 3) L st) : G F E hs tp md pc L (vI a :: .ref (hA E j 11) :: st) :=
  by subst he; exact x_put C (wl_h hj hh 11 (by decide)) rfl i_X4 tyX4_ok nmX4 1 (by decide) hl rfl rfl rfl (Nat.le_of_ble_eq_true rfl) (set_h hj hh 11 (by decide) _ rfl) d n
theorem gh_13_0 (C : Cs F own cc nL kf E) (hj : j < 7) (hh : hs j = h) (hl : Cond.fieldLink own index "HutBookings$Orders" "kinds" "[I" ∈ TB) (d : decode cc pc = .ok (.getfield index, 3)) (n : G F E hs tp md (pc + 3) L (.ref (hA E j 14) :: st)) : G F E hs tp md pc L (.ref (hA E j 13) :: st) :=
  x_get C (wl_h hj hh 13 (by decide)) rfl i_X5 0 (by decide) hl rfl d n
theorem gh_13_1 (C : Cs F own cc nL kf E) (hj : j < 7) (hh : hs j = h) (hl : Cond.fieldLink own index "HutBookings$Orders" "portions" "[I" ∈ TB) (d : decode cc pc = .ok (.getfield index, 3)) (n : G F E hs tp md (pc + 3) L (.ref (hA E j 15) :: st)) : G F E hs tp md pc L (.ref (hA E j 13) :: st) :=
  x_get C (wl_h hj hh 13 (by decide)) rfl i_X5 1 (by decide) hl rfl d n
theorem gh_13_2 (C : Cs F own cc nL kf E) (hj : j < 7) (hh : hs j = h) (hl : Cond.fieldLink own index "HutBookings$Orders" "size" "I" ∈ TB) (d : decode cc pc = .ok (.getfield index, 3)) {v9 : Int} (hv : h 13 2 = v9) (n : G F E hs tp md (pc + 3) L (vI v9 :: st)) : G F E hs tp md pc L (.ref (hA E j 13) :: st) :=
  by subst hv; exact x_get C (wl_h hj hh 13 (by decide)) rfl i_X5 2 (by decide) hl rfl d n
theorem ph_13_2 (C : Cs F own cc nL kf E) (hj : j < 7) (hh : hs j = h) (hl : Cond.fieldLink own index "HutBookings$Orders" "size" "I" ∈ TB) (d : decode cc pc = .ok (.putfield index, 3)) {hs9 : Nat → HV} (he : putH hs j (upr h 13 (up1 (h 13) 2 a)) = hs9) (n : G F E hs9 tp md (pc + 3) L st) : G F E hs tp md pc L (vI a :: .ref (hA E j 13) :: st) :=
  by subst he; exact x_put C (wl_h hj hh 13 (by decide)) rfl i_X5 tyX5_ok nmX5 2 (by decide) hl rfl rfl rfl (Nat.le_of_ble_eq_true rfl) (set_h hj hh 13 (by decide) _ rfl) d n
theorem lh_1 (C : Cs F own cc nL kf E) (hj : j < 7) (hh : hs j = h) (h0 : 0 ≤ a) (h1 : a < 10) (d : decode cc pc = .ok (.iaload, 1)) {v9 : Int} (hv : h 1 a = v9) (n : G F E hs tp md (pc + 1) L (vI v9 :: st)) : G F E hs tp md pc L (vI a :: .ref (hA E j 1) :: st) :=
  by subst hv; exact x_iald C (wl_h hj hh 1 (by decide)) (by decide) h0 h1 d n
theorem sh_1 (C : Cs F own cc nL kf E) (hj : j < 7) (hh : hs j = h) (h0 : 0 ≤ a) (h1 : a < 10) (d : decode cc pc = .ok (.iastore, 1)) {hs9 : Nat → HV} (he : putH hs j (upr h 1 (up1 (h 1) a b)) = hs9) (n : G F E hs9 tp md (pc + 1) L st) : G F E hs tp md pc L (vI b :: vI a :: .ref (hA E j 1) :: st) :=
  by subst he; exact x_iast C (wl_h hj hh 1 (by decide)) (by decide) h0 h1 (set_h hj hh 1 (by decide) _ rfl) d n
theorem nh_1 (C : Cs F own cc nL kf E) (hj : j < 7) (hh : hs j = h) (d : decode cc pc = .ok (.arraylength, 1)) (n : G F E hs tp md (pc + 1) L (vI 10 :: st)) : G F E hs tp md pc L (.ref (hA E j 1) :: st) :=
  x_alen C (wl_h hj hh 1 (by decide)) d n
theorem lh_2 (C : Cs F own cc nL kf E) (hj : j < 7) (hh : hs j = h) (h0 : 0 ≤ a) (h1 : a < 1000) (d : decode cc pc = .ok (.iaload, 1)) {v9 : Int} (hv : h 2 a = v9) (n : G F E hs tp md (pc + 1) L (vI v9 :: st)) : G F E hs tp md pc L (vI a :: .ref (hA E j 2) :: st) :=
  by subst hv; exact x_iald C (wl_h hj hh 2 (by decide)) (by decide) h0 h1 d n
theorem sh_2 (C : Cs F own cc nL kf E) (hj : j < 7) (hh : hs j = h) (h0 : 0 ≤ a) (h1 : a < 1000) (d : decode cc pc = .ok (.iastore, 1)) {hs9 : Nat → HV} (he : putH hs j (upr h 2 (up1 (h 2) a b)) = hs9) (n : G F E hs9 tp md (pc + 1) L st) : G F E hs tp md pc L (vI b :: vI a :: .ref (hA E j 2) :: st) :=
  by subst he; exact x_iast C (wl_h hj hh 2 (by decide)) (by decide) h0 h1 (set_h hj hh 2 (by decide) _ rfl) d n
theorem nh_2 (C : Cs F own cc nL kf E) (hj : j < 7) (hh : hs j = h) (d : decode cc pc = .ok (.arraylength, 1)) (n : G F E hs tp md (pc + 1) L (vI 1000 :: st)) : G F E hs tp md pc L (.ref (hA E j 2) :: st) :=
  x_alen C (wl_h hj hh 2 (by decide)) d n
theorem lh_4 (C : Cs F own cc nL kf E) (hj : j < 7) (hh : hs j = h) (h0 : 0 ≤ a) (h1 : a < 80) (d : decode cc pc = .ok (.iaload, 1)) {v9 : Int} (hv : h 4 a = v9) (n : G F E hs tp md (pc + 1) L (vI v9 :: st)) : G F E hs tp md pc L (vI a :: .ref (hA E j 4) :: st) :=
  by subst hv; exact x_iald C (wl_h hj hh 4 (by decide)) (by decide) h0 h1 d n
theorem sh_4 (C : Cs F own cc nL kf E) (hj : j < 7) (hh : hs j = h) (h0 : 0 ≤ a) (h1 : a < 80) (d : decode cc pc = .ok (.iastore, 1)) {hs9 : Nat → HV} (he : putH hs j (upr h 4 (up1 (h 4) a b)) = hs9) (n : G F E hs9 tp md (pc + 1) L st) : G F E hs tp md pc L (vI b :: vI a :: .ref (hA E j 4) :: st) :=
  by subst he; exact x_iast C (wl_h hj hh 4 (by decide)) (by decide) h0 h1 (set_h hj hh 4 (by decide) _ rfl) d n
theorem nh_4 (C : Cs F own cc nL kf E) (hj : j < 7) (hh : hs j = h) (d : decode cc pc = .ok (.arraylength, 1)) (n : G F E hs tp md (pc + 1) L (vI 80 :: st)) : G F E hs tp md pc L (.ref (hA E j 4) :: st) :=
  x_alen C (wl_h hj hh 4 (by decide)) d n
theorem lh_5 (C : Cs F own cc nL kf E) (hj : j < 7) (hh : hs j = h) (h0 : 0 ≤ a) (h1 : a < 80) (d : decode cc pc = .ok (.iaload, 1)) {v9 : Int} (hv : h 5 a = v9) (n : G F E hs tp md (pc + 1) L (vI v9 :: st)) : G F E hs tp md pc L (vI a :: .ref (hA E j 5) :: st) :=
  by subst hv; exact x_iald C (wl_h hj hh 5 (by decide)) (by decide) h0 h1 d n
theorem sh_5 (C : Cs F own cc nL kf E) (hj : j < 7) (hh : hs j = h) (h0 : 0 ≤ a) (h1 : a < 80) (d : decode cc pc = .ok (.iastore, 1)) {hs9 : Nat → HV} (he : putH hs j (upr h 5 (up1 (h 5) a b)) = hs9) (n : G F E hs9 tp md (pc + 1) L st) : G F E hs tp md pc L (vI b :: vI a :: .ref (hA E j 5) :: st) :=
  by subst he; exact x_iast C (wl_h hj hh 5 (by decide)) (by decide) h0 h1 (set_h hj hh 5 (by decide) _ rfl) d n
theorem nh_5 (C : Cs F own cc nL kf E) (hj : j < 7) (hh : hs j = h) (d : decode cc pc = .ok (.arraylength, 1)) (n : G F E hs tp md (pc + 1) L (vI 80 :: st)) : G F E hs tp md pc L (.ref (hA E j 5) :: st) :=
  x_alen C (wl_h hj hh 5 (by decide)) d n
theorem lh_6 (C : Cs F own cc nL kf E) (hj : j < 7) (hh : hs j = h) (h0 : 0 ≤ a) (h1 : a < 80) (d : decode cc pc = .ok (.iaload, 1)) {v9 : Int} (hv : h 6 a = v9) (n : G F E hs tp md (pc + 1) L (vI v9 :: st)) : G F E hs tp md pc L (vI a :: .ref (hA E j 6) :: st) :=
  by subst hv; exact x_iald C (wl_h hj hh 6 (by decide)) (by decide) h0 h1 d n
theorem sh_6 (C : Cs F own cc nL kf E) (hj : j < 7) (hh : hs j = h) (h0 : 0 ≤ a) (h1 : a < 80) (d : decode cc pc = .ok (.iastore, 1)) {hs9 : Nat → HV} (he : putH hs j (upr h 6 (up1 (h 6) a b)) = hs9) (n : G F E hs9 tp md (pc + 1) L st) : G F E hs tp md pc L (vI b :: vI a :: .ref (hA E j 6) :: st) :=
  by subst he; exact x_iast C (wl_h hj hh 6 (by decide)) (by decide) h0 h1 (set_h hj hh 6 (by decide) _ rfl) d n
theorem nh_6 (C : Cs F own cc nL kf E) (hj : j < 7) (hh : hs j = h) (d : decode cc pc = .ok (.arraylength, 1)) (n : G F E hs tp md (pc + 1) L (vI 80 :: st)) : G F E hs tp md pc L (.ref (hA E j 6) :: st) :=
  x_alen C (wl_h hj hh 6 (by decide)) d n
theorem lh_7 (C : Cs F own cc nL kf E) (hj : j < 7) (hh : hs j = h) (h0 : 0 ≤ a) (h1 : a < 80) (d : decode cc pc = .ok (.iaload, 1)) {v9 : Int} (hv : h 7 a = v9) (n : G F E hs tp md (pc + 1) L (vI v9 :: st)) : G F E hs tp md pc L (vI a :: .ref (hA E j 7) :: st) :=
  by subst hv; exact x_iald C (wl_h hj hh 7 (by decide)) (by decide) h0 h1 d n
theorem sh_7 (C : Cs F own cc nL kf E) (hj : j < 7) (hh : hs j = h) (h0 : 0 ≤ a) (h1 : a < 80) (d : decode cc pc = .ok (.iastore, 1)) {hs9 : Nat → HV} (he : putH hs j (upr h 7 (up1 (h 7) a b)) = hs9) (n : G F E hs9 tp md (pc + 1) L st) : G F E hs tp md pc L (vI b :: vI a :: .ref (hA E j 7) :: st) :=
  by subst he; exact x_iast C (wl_h hj hh 7 (by decide)) (by decide) h0 h1 (set_h hj hh 7 (by decide) _ rfl) d n
theorem nh_7 (C : Cs F own cc nL kf E) (hj : j < 7) (hh : hs j = h) (d : decode cc pc = .ok (.arraylength, 1)) (n : G F E hs tp md (pc + 1) L (vI 80 :: st)) : G F E hs tp md pc L (.ref (hA E j 7) :: st) :=
  x_alen C (wl_h hj hh 7 (by decide)) d n
theorem lh_8 (C : Cs F own cc nL kf E) (hj : j < 7) (hh : hs j = h) (h0 : 0 ≤ a) (h1 : a < 80) (d : decode cc pc = .ok (.iaload, 1)) {v9 : Int} (hv : h 8 a = v9) (n : G F E hs tp md (pc + 1) L (vI v9 :: st)) : G F E hs tp md pc L (vI a :: .ref (hA E j 8) :: st) :=
  by subst hv; exact x_iald C (wl_h hj hh 8 (by decide)) (by decide) h0 h1 d n
theorem sh_8 (C : Cs F own cc nL kf E) (hj : j < 7) (hh : hs j = h) (h0 : 0 ≤ a) (h1 : a < 80) (d : decode cc pc = .ok (.iastore, 1)) {hs9 : Nat → HV} (he : putH hs j (upr h 8 (up1 (h 8) a b)) = hs9) (n : G F E hs9 tp md (pc + 1) L st) : G F E hs tp md pc L (vI b :: vI a :: .ref (hA E j 8) :: st) :=
  by subst he; exact x_iast C (wl_h hj hh 8 (by decide)) (by decide) h0 h1 (set_h hj hh 8 (by decide) _ rfl) d n
theorem nh_8 (C : Cs F own cc nL kf E) (hj : j < 7) (hh : hs j = h) (d : decode cc pc = .ok (.arraylength, 1)) (n : G F E hs tp md (pc + 1) L (vI 80 :: st)) : G F E hs tp md pc L (.ref (hA E j 8) :: st) :=
  x_alen C (wl_h hj hh 8 (by decide)) d n
theorem lh_9 (C : Cs F own cc nL kf E) (hj : j < 7) (hh : hs j = h) (h0 : 0 ≤ a) (h1 : a < 80) (d : decode cc pc = .ok (.iaload, 1)) {v9 : Int} (hv : h 9 a = v9) (n : G F E hs tp md (pc + 1) L (vI v9 :: st)) : G F E hs tp md pc L (vI a :: .ref (hA E j 9) :: st) :=
  by subst hv; exact x_iald C (wl_h hj hh 9 (by decide)) (by decide) h0 h1 d n
theorem sh_9 (C : Cs F own cc nL kf E) (hj : j < 7) (hh : hs j = h) (h0 : 0 ≤ a) (h1 : a < 80) (d : decode cc pc = .ok (.iastore, 1)) {hs9 : Nat → HV} (he : putH hs j (upr h 9 (up1 (h 9) a b)) = hs9) (n : G F E hs9 tp md (pc + 1) L st) : G F E hs tp md pc L (vI b :: vI a :: .ref (hA E j 9) :: st) :=
  by subst he; exact x_iast C (wl_h hj hh 9 (by decide)) (by decide) h0 h1 (set_h hj hh 9 (by decide) _ rfl) d n
theorem nh_9 (C : Cs F own cc nL kf E) (hj : j < 7) (hh : hs j = h) (d : decode cc pc = .ok (.arraylength, 1)) (n : G F E hs tp md (pc + 1) L (vI 80 :: st)) : G F E hs tp md pc L (.ref (hA E j 9) :: st) :=
  x_alen C (wl_h hj hh 9 (by decide)) d n
theorem lh_10 (C : Cs F own cc nL kf E) (hj : j < 7) (hh : hs j = h) (h0 : 0 ≤ a) (h1 : a < 80) (d : decode cc pc = .ok (.iaload, 1)) {v9 : Int} (hv : h 10 a = v9) (n : G F E hs tp md (pc + 1) L (vI v9 :: st)) : G F E hs tp md pc L (vI a :: .ref (hA E j 10) :: st) :=
  by subst hv; exact x_iald C (wl_h hj hh 10 (by decide)) (by decide) h0 h1 d n
theorem sh_10 (C : Cs F own cc nL kf E) (hj : j < 7) (hh : hs j = h) (h0 : 0 ≤ a) (h1 : a < 80) (d : decode cc pc = .ok (.iastore, 1)) {hs9 : Nat → HV} (he : putH hs j (upr h 10 (up1 (h 10) a b)) = hs9) (n : G F E hs9 tp md (pc + 1) L st) : G F E hs tp md pc L (vI b :: vI a :: .ref (hA E j 10) :: st) :=
  by subst he; exact x_iast C (wl_h hj hh 10 (by decide)) (by decide) h0 h1 (set_h hj hh 10 (by decide) _ rfl) d n
theorem nh_10 (C : Cs F own cc nL kf E) (hj : j < 7) (hh : hs j = h) (d : decode cc pc = .ok (.arraylength, 1)) (n : G F E hs tp md (pc + 1) L (vI 80 :: st)) : G F E hs tp md pc L (.ref (hA E j 10) :: st) :=
  x_alen C (wl_h hj hh 10 (by decide)) d n
theorem lh_12 (C : Cs F own cc nL kf E) (hj : j < 7) (hh : hs j = h) (h0 : 0 ≤ a) (h1 : a < 30) (d : decode cc pc = .ok (.iaload, 1)) {v9 : Int} (hv : h 12 a = v9) (n : G F E hs tp md (pc + 1) L (vI v9 :: st)) : G F E hs tp md pc L (vI a :: .ref (hA E j 12) :: st) :=
  by subst hv; exact x_iald C (wl_h hj hh 12 (by decide)) (by decide) h0 h1 d n
theorem sh_12 (C : Cs F own cc nL kf E) (hj : j < 7) (hh : hs j = h) (h0 : 0 ≤ a) (h1 : a < 30) (d : decode cc pc = .ok (.iastore, 1)) {hs9 : Nat → HV} (he : putH hs j (upr h 12 (up1 (h 12) a b)) = hs9) (n : G F E hs9 tp md (pc + 1) L st) : G F E hs tp md pc L (vI b :: vI a :: .ref (hA E j 12) :: st) :=
  by subst he; exact x_iast C (wl_h hj hh 12 (by decide)) (by decide) h0 h1 (set_h hj hh 12 (by decide) _ rfl) d n
theorem nh_12 (C : Cs F own cc nL kf E) (hj : j < 7) (hh : hs j = h) (d : decode cc pc = .ok (.arraylength, 1)) (n : G F E hs tp md (pc + 1) L (vI 30 :: st)) : G F E hs tp md pc L (.ref (hA E j 12) :: st) :=
  x_alen C (wl_h hj hh 12 (by decide)) d n
theorem lh_14 (C : Cs F own cc nL kf E) (hj : j < 7) (hh : hs j = h) (h0 : 0 ≤ a) (h1 : a < 12) (d : decode cc pc = .ok (.iaload, 1)) {v9 : Int} (hv : h 14 a = v9) (n : G F E hs tp md (pc + 1) L (vI v9 :: st)) : G F E hs tp md pc L (vI a :: .ref (hA E j 14) :: st) :=
  by subst hv; exact x_iald C (wl_h hj hh 14 (by decide)) (by decide) h0 h1 d n
theorem sh_14 (C : Cs F own cc nL kf E) (hj : j < 7) (hh : hs j = h) (h0 : 0 ≤ a) (h1 : a < 12) (d : decode cc pc = .ok (.iastore, 1)) {hs9 : Nat → HV} (he : putH hs j (upr h 14 (up1 (h 14) a b)) = hs9) (n : G F E hs9 tp md (pc + 1) L st) : G F E hs tp md pc L (vI b :: vI a :: .ref (hA E j 14) :: st) :=
  by subst he; exact x_iast C (wl_h hj hh 14 (by decide)) (by decide) h0 h1 (set_h hj hh 14 (by decide) _ rfl) d n
theorem nh_14 (C : Cs F own cc nL kf E) (hj : j < 7) (hh : hs j = h) (d : decode cc pc = .ok (.arraylength, 1)) (n : G F E hs tp md (pc + 1) L (vI 12 :: st)) : G F E hs tp md pc L (.ref (hA E j 14) :: st) :=
  x_alen C (wl_h hj hh 14 (by decide)) d n
theorem lh_15 (C : Cs F own cc nL kf E) (hj : j < 7) (hh : hs j = h) (h0 : 0 ≤ a) (h1 : a < 12) (d : decode cc pc = .ok (.iaload, 1)) {v9 : Int} (hv : h 15 a = v9) (n : G F E hs tp md (pc + 1) L (vI v9 :: st)) : G F E hs tp md pc L (vI a :: .ref (hA E j 15) :: st) :=
  by subst hv; exact x_iald C (wl_h hj hh 15 (by decide)) (by decide) h0 h1 d n
theorem sh_15 (C : Cs F own cc nL kf E) (hj : j < 7) (hh : hs j = h) (h0 : 0 ≤ a) (h1 : a < 12) (d : decode cc pc = .ok (.iastore, 1)) {hs9 : Nat → HV} (he : putH hs j (upr h 15 (up1 (h 15) a b)) = hs9) (n : G F E hs9 tp md (pc + 1) L st) : G F E hs tp md pc L (vI b :: vI a :: .ref (hA E j 15) :: st) :=
  by subst he; exact x_iast C (wl_h hj hh 15 (by decide)) (by decide) h0 h1 (set_h hj hh 15 (by decide) _ rfl) d n
theorem nh_15 (C : Cs F own cc nL kf E) (hj : j < 7) (hh : hs j = h) (d : decode cc pc = .ok (.arraylength, 1)) (n : G F E hs tp md (pc + 1) L (vI 12 :: st)) : G F E hs tp md pc L (.ref (hA E j 15) :: st) :=
  x_alen C (wl_h hj hh 15 (by decide)) d n
theorem lh_16 (C : Cs F own cc nL kf E) (hj : j < 7) (hh : hs j = h) (h0 : 0 ≤ a) (h1 : a < 9) (d : decode cc pc = .ok (.iaload, 1)) {v9 : Int} (hv : h 16 a = v9) (n : G F E hs tp md (pc + 1) L (vI v9 :: st)) : G F E hs tp md pc L (vI a :: .ref (hA E j 16) :: st) :=
  by subst hv; exact x_iald C (wl_h hj hh 16 (by decide)) (by decide) h0 h1 d n
theorem sh_16 (C : Cs F own cc nL kf E) (hj : j < 7) (hh : hs j = h) (h0 : 0 ≤ a) (h1 : a < 9) (d : decode cc pc = .ok (.iastore, 1)) {hs9 : Nat → HV} (he : putH hs j (upr h 16 (up1 (h 16) a b)) = hs9) (n : G F E hs9 tp md (pc + 1) L st) : G F E hs tp md pc L (vI b :: vI a :: .ref (hA E j 16) :: st) :=
  by subst he; exact x_iast C (wl_h hj hh 16 (by decide)) (by decide) h0 h1 (set_h hj hh 16 (by decide) _ rfl) d n
theorem nh_16 (C : Cs F own cc nL kf E) (hj : j < 7) (hh : hs j = h) (d : decode cc pc = .ok (.arraylength, 1)) (n : G F E hs tp md (pc + 1) L (vI 9 :: st)) : G F E hs tp md pc L (.ref (hA E j 16) :: st) :=
  x_alen C (wl_h hj hh 16 (by decide)) d n
theorem gt_0_0 (C : Cs F own cc nL kf E) (hl : Cond.fieldLink own index "HutBookings" "hut" "LHutBookings$Hut;" ∈ TB) (d : decode cc pc = .ok (.getfield index, 3)) (n : G F E hs tp md (pc + 3) L (.ref (hA E 0 0) :: st)) : G F E hs tp md pc L (.ref (tA E 0) :: st) :=
  x_get C (wl_t 0 (by decide)) rfl i_X6 0 (by decide) hl rfl d n
theorem gt_0_1 (C : Cs F own cc nL kf E) (hl : Cond.fieldLink own index "HutBookings" "trial" "LHutBookings$Hut;" ∈ TB) (d : decode cc pc = .ok (.getfield index, 3)) (n : G F E hs tp md (pc + 3) L (.ref (hA E 1 0) :: st)) : G F E hs tp md pc L (.ref (tA E 0) :: st) :=
  x_get C (wl_t 0 (by decide)) rfl i_X6 1 (by decide) hl rfl d n
theorem gt_0_2 (C : Cs F own cc nL kf E) (hl : Cond.fieldLink own index "HutBookings" "snapshot" "LHutBookings$Hut;" ∈ TB) (d : decode cc pc = .ok (.getfield index, 3)) (n : G F E hs tp md (pc + 3) L (.ref (hA E 2 0) :: st)) : G F E hs tp md pc L (.ref (tA E 0) :: st) :=
  x_get C (wl_t 0 (by decide)) rfl i_X6 2 (by decide) hl rfl d n
theorem gt_0_3 (C : Cs F own cc nL kf E) (hl : Cond.fieldLink own index "HutBookings" "hasSnapshot" "Z" ∈ TB) (d : decode cc pc = .ok (.getfield index, 3)) {v9 : Int} (hv : tp 0 3 = v9) (n : G F E hs tp md (pc + 3) L (vI v9 :: st)) : G F E hs tp md pc L (.ref (tA E 0) :: st) :=
  by subst hv; exact x_get C (wl_t 0 (by decide)) rfl i_X6 3 (by decide) hl rfl d n
theorem pt_0_3 (C : Cs F own cc nL kf E) (ha : a = 0 ∨ a = 1) (hl : Cond.fieldLink own index "HutBookings" "hasSnapshot" "Z" ∈ TB) (d : decode cc pc = .ok (.putfield index, 3)) {h9 : HV} (he : upr tp 0 (up1 (tp 0) 3 a) = h9) (n : G F E hs h9 md (pc + 3) L st) : G F E hs tp md pc L (vI a :: .ref (tA E 0) :: st) :=
  by subst he; exact x_put C (wl_t 0 (by decide)) rfl i_X6 tyX6_ok nmX6 3 (by decide) hl rfl (by rcases ha with rfl | rfl <;> rfl) (by rcases ha with rfl | rfl <;> rfl) (Nat.le_of_ble_eq_true rfl) (set_t 0 (by decide) _ rfl) d n
theorem gt_0_4 (C : Cs F own cc nL kf E) (hl : Cond.fieldLink own index "HutBookings" "history" "LHutBookings$History;" ∈ TB) (d : decode cc pc = .ok (.getfield index, 3)) (n : G F E hs tp md (pc + 3) L (.ref (tA E 2) :: st)) : G F E hs tp md pc L (.ref (tA E 0) :: st) :=
  x_get C (wl_t 0 (by decide)) rfl i_X6 4 (by decide) hl rfl d n
theorem gt_0_5 (C : Cs F own cc nL kf E) (hl : Cond.fieldLink own index "HutBookings" "text" "LHutBookings$BookingText;" ∈ TB) (d : decode cc pc = .ok (.getfield index, 3)) (n : G F E hs tp md (pc + 3) L (.ref (tA E 4) :: st)) : G F E hs tp md pc L (.ref (tA E 0) :: st) :=
  x_get C (wl_t 0 (by decide)) rfl i_X6 5 (by decide) hl rfl d n
theorem gt_0_6 (C : Cs F own cc nL kf E) (hl : Cond.fieldLink own index "HutBookings" "bedsTaken" "[I" ∈ TB) (d : decode cc pc = .ok (.getfield index, 3)) (n : G F E hs tp md (pc + 3) L (.ref (tA E 1) :: st)) : G F E hs tp md pc L (.ref (tA E 0) :: st) :=
  x_get C (wl_t 0 (by decide)) rfl i_X6 6 (by decide) hl rfl d n
theorem gt_2_0 (C : Cs F own cc nL kf E) (hl : Cond.fieldLink own index "HutBookings$History" "states" "[LHutBookings$Hut;" ∈ TB) (d : decode cc pc = .ok (.getfield index, 3)) (n : G F E hs tp md (pc + 3) L (.ref (tA E 3) :: st)) : G F E hs tp md pc L (.ref (tA E 2) :: st) :=
  x_get C (wl_t 2 (by decide)) rfl i_X2 0 (by decide) hl rfl d n
theorem gt_2_1 (C : Cs F own cc nL kf E) (hl : Cond.fieldLink own index "HutBookings$History" "size" "I" ∈ TB) (d : decode cc pc = .ok (.getfield index, 3)) {v9 : Int} (hv : tp 2 1 = v9) (n : G F E hs tp md (pc + 3) L (vI v9 :: st)) : G F E hs tp md pc L (.ref (tA E 2) :: st) :=
  by subst hv; exact x_get C (wl_t 2 (by decide)) rfl i_X2 1 (by decide) hl rfl d n
theorem pt_2_1 (C : Cs F own cc nL kf E) (hl : Cond.fieldLink own index "HutBookings$History" "size" "I" ∈ TB) (d : decode cc pc = .ok (.putfield index, 3)) {h9 : HV} (he : upr tp 2 (up1 (tp 2) 1 a) = h9) (n : G F E hs h9 md (pc + 3) L st) : G F E hs tp md pc L (vI a :: .ref (tA E 2) :: st) :=
  by subst he; exact x_put C (wl_t 2 (by decide)) rfl i_X2 tyX2_ok nmX2 1 (by decide) hl rfl rfl rfl (Nat.le_of_ble_eq_true rfl) (set_t 2 (by decide) _ rfl) d n
theorem gt_4_0 (C : Cs F own cc nL kf E) (hl : Cond.fieldLink own index "HutBookings$BookingText" "characters" "[C" ∈ TB) (d : decode cc pc = .ok (.getfield index, 3)) (n : G F E hs tp md (pc + 3) L (.ref (tA E 5) :: st)) : G F E hs tp md pc L (.ref (tA E 4) :: st) :=
  x_get C (wl_t 4 (by decide)) rfl i_X0 0 (by decide) hl rfl d n
theorem gt_4_1 (C : Cs F own cc nL kf E) (hl : Cond.fieldLink own index "HutBookings$BookingText" "length" "I" ∈ TB) (d : decode cc pc = .ok (.getfield index, 3)) {v9 : Int} (hv : tp 4 1 = v9) (n : G F E hs tp md (pc + 3) L (vI v9 :: st)) : G F E hs tp md pc L (.ref (tA E 4) :: st) :=
  by subst hv; exact x_get C (wl_t 4 (by decide)) rfl i_X0 1 (by decide) hl rfl d n
theorem pt_4_1 (C : Cs F own cc nL kf E) (hl : Cond.fieldLink own index "HutBookings$BookingText" "length" "I" ∈ TB) (d : decode cc pc = .ok (.putfield index, 3)) {h9 : HV} (he : upr tp 4 (up1 (tp 4) 1 a) = h9) (n : G F E hs h9 md (pc + 3) L st) : G F E hs tp md pc L (vI a :: .ref (tA E 4) :: st) :=
  by subst he; exact x_put C (wl_t 4 (by decide)) rfl i_X0 tyX0_ok nmX0 1 (by decide) hl rfl rfl rfl (Nat.le_of_ble_eq_true rfl) (set_t 4 (by decide) _ rfl) d n
theorem gt_4_2 (C : Cs F own cc nL kf E) (hl : Cond.fieldLink own index "HutBookings$BookingText" "arrives" "[I" ∈ TB) (d : decode cc pc = .ok (.getfield index, 3)) (n : G F E hs tp md (pc + 3) L (.ref (tA E 6) :: st)) : G F E hs tp md pc L (.ref (tA E 4) :: st) :=
  x_get C (wl_t 4 (by decide)) rfl i_X0 2 (by decide) hl rfl d n
theorem gt_4_3 (C : Cs F own cc nL kf E) (hl : Cond.fieldLink own index "HutBookings$BookingText" "nights" "[I" ∈ TB) (d : decode cc pc = .ok (.getfield index, 3)) (n : G F E hs tp md (pc + 3) L (.ref (tA E 7) :: st)) : G F E hs tp md pc L (.ref (tA E 4) :: st) :=
  x_get C (wl_t 4 (by decide)) rfl i_X0 3 (by decide) hl rfl d n
theorem gt_4_4 (C : Cs F own cc nL kf E) (hl : Cond.fieldLink own index "HutBookings$BookingText" "persons" "[I" ∈ TB) (d : decode cc pc = .ok (.getfield index, 3)) (n : G F E hs tp md (pc + 3) L (.ref (tA E 8) :: st)) : G F E hs tp md pc L (.ref (tA E 4) :: st) :=
  x_get C (wl_t 4 (by decide)) rfl i_X0 4 (by decide) hl rfl d n
theorem gt_4_5 (C : Cs F own cc nL kf E) (hl : Cond.fieldLink own index "HutBookings$BookingText" "found" "I" ∈ TB) (d : decode cc pc = .ok (.getfield index, 3)) {v9 : Int} (hv : tp 4 5 = v9) (n : G F E hs tp md (pc + 3) L (vI v9 :: st)) : G F E hs tp md pc L (.ref (tA E 4) :: st) :=
  by subst hv; exact x_get C (wl_t 4 (by decide)) rfl i_X0 5 (by decide) hl rfl d n
theorem pt_4_5 (C : Cs F own cc nL kf E) (hl : Cond.fieldLink own index "HutBookings$BookingText" "found" "I" ∈ TB) (d : decode cc pc = .ok (.putfield index, 3)) {h9 : HV} (he : upr tp 4 (up1 (tp 4) 5 a) = h9) (n : G F E hs h9 md (pc + 3) L st) : G F E hs tp md pc L (vI a :: .ref (tA E 4) :: st) :=
  by subst he; exact x_put C (wl_t 4 (by decide)) rfl i_X0 tyX0_ok nmX0 5 (by decide) hl rfl rfl rfl (Nat.le_of_ble_eq_true rfl) (set_t 4 (by decide) _ rfl) d n
theorem gt_4_6 (C : Cs F own cc nL kf E) (hl : Cond.fieldLink own index "HutBookings$BookingText" "place" "I" ∈ TB) (d : decode cc pc = .ok (.getfield index, 3)) {v9 : Int} (hv : tp 4 6 = v9) (n : G F E hs tp md (pc + 3) L (vI v9 :: st)) : G F E hs tp md pc L (.ref (tA E 4) :: st) :=
  by subst hv; exact x_get C (wl_t 4 (by decide)) rfl i_X0 6 (by decide) hl rfl d n
theorem pt_4_6 (C : Cs F own cc nL kf E) (hl : Cond.fieldLink own index "HutBookings$BookingText" "place" "I" ∈ TB) (d : decode cc pc = .ok (.putfield index, 3)) {h9 : HV} (he : upr tp 4 (up1 (tp 4) 6 a) = h9) (n : G F E hs h9 md (pc + 3) L st) : G F E hs tp md pc L (vI a :: .ref (tA E 4) :: st) :=
  by subst he; exact x_put C (wl_t 4 (by decide)) rfl i_X0 tyX0_ok nmX0 6 (by decide) hl rfl rfl rfl (Nat.le_of_ble_eq_true rfl) (set_t 4 (by decide) _ rfl) d n
theorem gt_4_7 (C : Cs F own cc nL kf E) (hl : Cond.fieldLink own index "HutBookings$BookingText" "dayRead" "I" ∈ TB) (d : decode cc pc = .ok (.getfield index, 3)) {v9 : Int} (hv : tp 4 7 = v9) (n : G F E hs tp md (pc + 3) L (vI v9 :: st)) : G F E hs tp md pc L (.ref (tA E 4) :: st) :=
  by subst hv; exact x_get C (wl_t 4 (by decide)) rfl i_X0 7 (by decide) hl rfl d n
theorem pt_4_7 (C : Cs F own cc nL kf E) (hl : Cond.fieldLink own index "HutBookings$BookingText" "dayRead" "I" ∈ TB) (d : decode cc pc = .ok (.putfield index, 3)) {h9 : HV} (he : upr tp 4 (up1 (tp 4) 7 a) = h9) (n : G F E hs h9 md (pc + 3) L st) : G F E hs tp md pc L (vI a :: .ref (tA E 4) :: st) :=
  by subst he; exact x_put C (wl_t 4 (by decide)) rfl i_X0 tyX0_ok nmX0 7 (by decide) hl rfl rfl rfl (Nat.le_of_ble_eq_true rfl) (set_t 4 (by decide) _ rfl) d n
theorem gt_4_8 (C : Cs F own cc nL kf E) (hl : Cond.fieldLink own index "HutBookings$BookingText" "nightsRead" "I" ∈ TB) (d : decode cc pc = .ok (.getfield index, 3)) {v9 : Int} (hv : tp 4 8 = v9) (n : G F E hs tp md (pc + 3) L (vI v9 :: st)) : G F E hs tp md pc L (.ref (tA E 4) :: st) :=
  by subst hv; exact x_get C (wl_t 4 (by decide)) rfl i_X0 8 (by decide) hl rfl d n
theorem pt_4_8 (C : Cs F own cc nL kf E) (hl : Cond.fieldLink own index "HutBookings$BookingText" "nightsRead" "I" ∈ TB) (d : decode cc pc = .ok (.putfield index, 3)) {h9 : HV} (he : upr tp 4 (up1 (tp 4) 8 a) = h9) (n : G F E hs h9 md (pc + 3) L st) : G F E hs tp md pc L (vI a :: .ref (tA E 4) :: st) :=
  by subst he; exact x_put C (wl_t 4 (by decide)) rfl i_X0 tyX0_ok nmX0 8 (by decide) hl rfl rfl rfl (Nat.le_of_ble_eq_true rfl) (set_t 4 (by decide) _ rfl) d n
theorem lt_1 (C : Cs F own cc nL kf E) (h0 : 0 ≤ a) (h1 : a < 1000) (d : decode cc pc = .ok (.iaload, 1)) {v9 : Int} (hv : tp 1 a = v9) (n : G F E hs tp md (pc + 1) L (vI v9 :: st)) : G F E hs tp md pc L (vI a :: .ref (tA E 1) :: st) :=
  by subst hv; exact x_iald C (wl_t 1 (by decide)) (by decide) h0 h1 d n
theorem st_1 (C : Cs F own cc nL kf E) (h0 : 0 ≤ a) (h1 : a < 1000) (d : decode cc pc = .ok (.iastore, 1)) {h9 : HV} (he : upr tp 1 (up1 (tp 1) a b) = h9) (n : G F E hs h9 md (pc + 1) L st) : G F E hs tp md pc L (vI b :: vI a :: .ref (tA E 1) :: st) :=
  by subst he; exact x_iast C (wl_t 1 (by decide)) (by decide) h0 h1 (set_t 1 (by decide) _ rfl) d n
theorem nt_1 (C : Cs F own cc nL kf E) (d : decode cc pc = .ok (.arraylength, 1)) (n : G F E hs tp md (pc + 1) L (vI 1000 :: st)) : G F E hs tp md pc L (.ref (tA E 1) :: st) :=
  x_alen C (wl_t 1 (by decide)) d n
theorem lt_6 (C : Cs F own cc nL kf E) (h0 : 0 ≤ a) (h1 : a < 10) (d : decode cc pc = .ok (.iaload, 1)) {v9 : Int} (hv : tp 6 a = v9) (n : G F E hs tp md (pc + 1) L (vI v9 :: st)) : G F E hs tp md pc L (vI a :: .ref (tA E 6) :: st) :=
  by subst hv; exact x_iald C (wl_t 6 (by decide)) (by decide) h0 h1 d n
theorem st_6 (C : Cs F own cc nL kf E) (h0 : 0 ≤ a) (h1 : a < 10) (d : decode cc pc = .ok (.iastore, 1)) {h9 : HV} (he : upr tp 6 (up1 (tp 6) a b) = h9) (n : G F E hs h9 md (pc + 1) L st) : G F E hs tp md pc L (vI b :: vI a :: .ref (tA E 6) :: st) :=
  by subst he; exact x_iast C (wl_t 6 (by decide)) (by decide) h0 h1 (set_t 6 (by decide) _ rfl) d n
theorem nt_6 (C : Cs F own cc nL kf E) (d : decode cc pc = .ok (.arraylength, 1)) (n : G F E hs tp md (pc + 1) L (vI 10 :: st)) : G F E hs tp md pc L (.ref (tA E 6) :: st) :=
  x_alen C (wl_t 6 (by decide)) d n
theorem lt_7 (C : Cs F own cc nL kf E) (h0 : 0 ≤ a) (h1 : a < 10) (d : decode cc pc = .ok (.iaload, 1)) {v9 : Int} (hv : tp 7 a = v9) (n : G F E hs tp md (pc + 1) L (vI v9 :: st)) : G F E hs tp md pc L (vI a :: .ref (tA E 7) :: st) :=
  by subst hv; exact x_iald C (wl_t 7 (by decide)) (by decide) h0 h1 d n
theorem st_7 (C : Cs F own cc nL kf E) (h0 : 0 ≤ a) (h1 : a < 10) (d : decode cc pc = .ok (.iastore, 1)) {h9 : HV} (he : upr tp 7 (up1 (tp 7) a b) = h9) (n : G F E hs h9 md (pc + 1) L st) : G F E hs tp md pc L (vI b :: vI a :: .ref (tA E 7) :: st) :=
  by subst he; exact x_iast C (wl_t 7 (by decide)) (by decide) h0 h1 (set_t 7 (by decide) _ rfl) d n
theorem nt_7 (C : Cs F own cc nL kf E) (d : decode cc pc = .ok (.arraylength, 1)) (n : G F E hs tp md (pc + 1) L (vI 10 :: st)) : G F E hs tp md pc L (.ref (tA E 7) :: st) :=
  x_alen C (wl_t 7 (by decide)) d n
theorem lt_8 (C : Cs F own cc nL kf E) (h0 : 0 ≤ a) (h1 : a < 10) (d : decode cc pc = .ok (.iaload, 1)) {v9 : Int} (hv : tp 8 a = v9) (n : G F E hs tp md (pc + 1) L (vI v9 :: st)) : G F E hs tp md pc L (vI a :: .ref (tA E 8) :: st) :=
  by subst hv; exact x_iald C (wl_t 8 (by decide)) (by decide) h0 h1 d n
theorem st_8 (C : Cs F own cc nL kf E) (h0 : 0 ≤ a) (h1 : a < 10) (d : decode cc pc = .ok (.iastore, 1)) {h9 : HV} (he : upr tp 8 (up1 (tp 8) a b) = h9) (n : G F E hs h9 md (pc + 1) L st) : G F E hs tp md pc L (vI b :: vI a :: .ref (tA E 8) :: st) :=
  by subst he; exact x_iast C (wl_t 8 (by decide)) (by decide) h0 h1 (set_t 8 (by decide) _ rfl) d n
theorem nt_8 (C : Cs F own cc nL kf E) (d : decode cc pc = .ok (.arraylength, 1)) (n : G F E hs tp md (pc + 1) L (vI 10 :: st)) : G F E hs tp md pc L (.ref (tA E 8) :: st) :=
  x_alen C (wl_t 8 (by decide)) d n
theorem gm_0_0 (C : Cs F own cc nL kf E) (hl : Cond.fieldLink own index "HutBookingsModel" "now" "[I" ∈ TB) (d : decode cc pc = .ok (.getfield index, 3)) (n : G F E hs tp md (pc + 3) L (.ref (mA E 1) :: st)) : G F E hs tp md pc L (.ref (mA E 0) :: st) :=
  x_get C (wl_m 0 (by decide)) rfl i_X7 0 (by decide) hl rfl d n
theorem gm_0_1 (C : Cs F own cc nL kf E) (hl : Cond.fieldLink own index "HutBookingsModel" "slot" "[I" ∈ TB) (d : decode cc pc = .ok (.getfield index, 3)) (n : G F E hs tp md (pc + 3) L (.ref (mA E 2) :: st)) : G F E hs tp md pc L (.ref (mA E 0) :: st) :=
  x_get C (wl_m 0 (by decide)) rfl i_X7 1 (by decide) hl rfl d n
theorem gm_0_2 (C : Cs F own cc nL kf E) (hl : Cond.fieldLink own index "HutBookingsModel" "beside" "[I" ∈ TB) (d : decode cc pc = .ok (.getfield index, 3)) (n : G F E hs tp md (pc + 3) L (.ref (mA E 3) :: st)) : G F E hs tp md pc L (.ref (mA E 0) :: st) :=
  x_get C (wl_m 0 (by decide)) rfl i_X7 2 (by decide) hl rfl d n
theorem gm_0_3 (C : Cs F own cc nL kf E) (hl : Cond.fieldLink own index "HutBookingsModel" "history" "[I" ∈ TB) (d : decode cc pc = .ok (.getfield index, 3)) (n : G F E hs tp md (pc + 3) L (.ref (mA E 4) :: st)) : G F E hs tp md pc L (.ref (mA E 0) :: st) :=
  x_get C (wl_m 0 (by decide)) rfl i_X7 3 (by decide) hl rfl d n
theorem gm_0_4 (C : Cs F own cc nL kf E) (hl : Cond.fieldLink own index "HutBookingsModel" "text" "[I" ∈ TB) (d : decode cc pc = .ok (.getfield index, 3)) (n : G F E hs tp md (pc + 3) L (.ref (mA E 5) :: st)) : G F E hs tp md pc L (.ref (mA E 0) :: st) :=
  x_get C (wl_m 0 (by decide)) rfl i_X7 4 (by decide) hl rfl d n
theorem gm_0_5 (C : Cs F own cc nL kf E) (hl : Cond.fieldLink own index "HutBookingsModel" "place" "I" ∈ TB) (d : decode cc pc = .ok (.getfield index, 3)) {v9 : Int} (hv : md 0 5 = v9) (n : G F E hs tp md (pc + 3) L (vI v9 :: st)) : G F E hs tp md pc L (.ref (mA E 0) :: st) :=
  by subst hv; exact x_get C (wl_m 0 (by decide)) rfl i_X7 5 (by decide) hl rfl d n
theorem pm_0_5 (C : Cs F own cc nL kf E) (hl : Cond.fieldLink own index "HutBookingsModel" "place" "I" ∈ TB) (d : decode cc pc = .ok (.putfield index, 3)) {h9 : HV} (he : upr md 0 (up1 (md 0) 5 a) = h9) (n : G F E hs tp h9 (pc + 3) L st) : G F E hs tp md pc L (vI a :: .ref (mA E 0) :: st) :=
  by subst he; exact x_put C (wl_m 0 (by decide)) rfl i_X7 tyX7_ok nmX7 5 (by decide) hl rfl rfl rfl (Nat.le_of_ble_eq_true rfl) (set_m 0 (by decide) _ rfl) d n
theorem gm_0_6 (C : Cs F own cc nL kf E) (hl : Cond.fieldLink own index "HutBookingsModel" "kept" "I" ∈ TB) (d : decode cc pc = .ok (.getfield index, 3)) {v9 : Int} (hv : md 0 6 = v9) (n : G F E hs tp md (pc + 3) L (vI v9 :: st)) : G F E hs tp md pc L (.ref (mA E 0) :: st) :=
  by subst hv; exact x_get C (wl_m 0 (by decide)) rfl i_X7 6 (by decide) hl rfl d n
theorem pm_0_6 (C : Cs F own cc nL kf E) (hl : Cond.fieldLink own index "HutBookingsModel" "kept" "I" ∈ TB) (d : decode cc pc = .ok (.putfield index, 3)) {h9 : HV} (he : upr md 0 (up1 (md 0) 6 a) = h9) (n : G F E hs tp h9 (pc + 3) L st) : G F E hs tp md pc L (vI a :: .ref (mA E 0) :: st) :=
  by subst he; exact x_put C (wl_m 0 (by decide)) rfl i_X7 tyX7_ok nmX7 6 (by decide) hl rfl rfl rfl (Nat.le_of_ble_eq_true rfl) (set_m 0 (by decide) _ rfl) d n
theorem gm_0_7 (C : Cs F own cc nL kf E) (hl : Cond.fieldLink own index "HutBookingsModel" "length" "I" ∈ TB) (d : decode cc pc = .ok (.getfield index, 3)) {v9 : Int} (hv : md 0 7 = v9) (n : G F E hs tp md (pc + 3) L (vI v9 :: st)) : G F E hs tp md pc L (.ref (mA E 0) :: st) :=
  by subst hv; exact x_get C (wl_m 0 (by decide)) rfl i_X7 7 (by decide) hl rfl d n
theorem pm_0_7 (C : Cs F own cc nL kf E) (hl : Cond.fieldLink own index "HutBookingsModel" "length" "I" ∈ TB) (d : decode cc pc = .ok (.putfield index, 3)) {h9 : HV} (he : upr md 0 (up1 (md 0) 7 a) = h9) (n : G F E hs tp h9 (pc + 3) L st) : G F E hs tp md pc L (vI a :: .ref (mA E 0) :: st) :=
  by subst he; exact x_put C (wl_m 0 (by decide)) rfl i_X7 tyX7_ok nmX7 7 (by decide) hl rfl rfl rfl (Nat.le_of_ble_eq_true rfl) (set_m 0 (by decide) _ rfl) d n
theorem gm_0_8 (C : Cs F own cc nL kf E) (hl : Cond.fieldLink own index "HutBookingsModel" "isFilled" "Z" ∈ TB) (d : decode cc pc = .ok (.getfield index, 3)) {v9 : Int} (hv : md 0 8 = v9) (n : G F E hs tp md (pc + 3) L (vI v9 :: st)) : G F E hs tp md pc L (.ref (mA E 0) :: st) :=
  by subst hv; exact x_get C (wl_m 0 (by decide)) rfl i_X7 8 (by decide) hl rfl d n
theorem pm_0_8 (C : Cs F own cc nL kf E) (ha : a = 0 ∨ a = 1) (hl : Cond.fieldLink own index "HutBookingsModel" "isFilled" "Z" ∈ TB) (d : decode cc pc = .ok (.putfield index, 3)) {h9 : HV} (he : upr md 0 (up1 (md 0) 8 a) = h9) (n : G F E hs tp h9 (pc + 3) L st) : G F E hs tp md pc L (vI a :: .ref (mA E 0) :: st) :=
  by subst he; exact x_put C (wl_m 0 (by decide)) rfl i_X7 tyX7_ok nmX7 8 (by decide) hl rfl (by rcases ha with rfl | rfl <;> rfl) (by rcases ha with rfl | rfl <;> rfl) (Nat.le_of_ble_eq_true rfl) (set_m 0 (by decide) _ rfl) d n
theorem lm_1 (C : Cs F own cc nL kf E) (h0 : 0 ≤ a) (h1 : a < 2739) (d : decode cc pc = .ok (.iaload, 1)) {v9 : Int} (hv : md 1 a = v9) (n : G F E hs tp md (pc + 1) L (vI v9 :: st)) : G F E hs tp md pc L (vI a :: .ref (mA E 1) :: st) :=
  by subst hv; exact x_iald C (wl_m 1 (by decide)) (by decide) h0 h1 d n
theorem sm_1 (C : Cs F own cc nL kf E) (h0 : 0 ≤ a) (h1 : a < 2739) (d : decode cc pc = .ok (.iastore, 1)) {h9 : HV} (he : upr md 1 (up1 (md 1) a b) = h9) (n : G F E hs tp h9 (pc + 1) L st) : G F E hs tp md pc L (vI b :: vI a :: .ref (mA E 1) :: st) :=
  by subst he; exact x_iast C (wl_m 1 (by decide)) (by decide) h0 h1 (set_m 1 (by decide) _ rfl) d n
theorem nm_1 (C : Cs F own cc nL kf E) (d : decode cc pc = .ok (.arraylength, 1)) (n : G F E hs tp md (pc + 1) L (vI 2739 :: st)) : G F E hs tp md pc L (.ref (mA E 1) :: st) :=
  x_alen C (wl_m 1 (by decide)) d n
theorem lm_2 (C : Cs F own cc nL kf E) (h0 : 0 ≤ a) (h1 : a < 2739) (d : decode cc pc = .ok (.iaload, 1)) {v9 : Int} (hv : md 2 a = v9) (n : G F E hs tp md (pc + 1) L (vI v9 :: st)) : G F E hs tp md pc L (vI a :: .ref (mA E 2) :: st) :=
  by subst hv; exact x_iald C (wl_m 2 (by decide)) (by decide) h0 h1 d n
theorem sm_2 (C : Cs F own cc nL kf E) (h0 : 0 ≤ a) (h1 : a < 2739) (d : decode cc pc = .ok (.iastore, 1)) {h9 : HV} (he : upr md 2 (up1 (md 2) a b) = h9) (n : G F E hs tp h9 (pc + 1) L st) : G F E hs tp md pc L (vI b :: vI a :: .ref (mA E 2) :: st) :=
  by subst he; exact x_iast C (wl_m 2 (by decide)) (by decide) h0 h1 (set_m 2 (by decide) _ rfl) d n
theorem nm_2 (C : Cs F own cc nL kf E) (d : decode cc pc = .ok (.arraylength, 1)) (n : G F E hs tp md (pc + 1) L (vI 2739 :: st)) : G F E hs tp md pc L (.ref (mA E 2) :: st) :=
  x_alen C (wl_m 2 (by decide)) d n
theorem lm_3 (C : Cs F own cc nL kf E) (h0 : 0 ≤ a) (h1 : a < 2739) (d : decode cc pc = .ok (.iaload, 1)) {v9 : Int} (hv : md 3 a = v9) (n : G F E hs tp md (pc + 1) L (vI v9 :: st)) : G F E hs tp md pc L (vI a :: .ref (mA E 3) :: st) :=
  by subst hv; exact x_iald C (wl_m 3 (by decide)) (by decide) h0 h1 d n
theorem sm_3 (C : Cs F own cc nL kf E) (h0 : 0 ≤ a) (h1 : a < 2739) (d : decode cc pc = .ok (.iastore, 1)) {h9 : HV} (he : upr md 3 (up1 (md 3) a b) = h9) (n : G F E hs tp h9 (pc + 1) L st) : G F E hs tp md pc L (vI b :: vI a :: .ref (mA E 3) :: st) :=
  by subst he; exact x_iast C (wl_m 3 (by decide)) (by decide) h0 h1 (set_m 3 (by decide) _ rfl) d n
theorem nm_3 (C : Cs F own cc nL kf E) (d : decode cc pc = .ok (.arraylength, 1)) (n : G F E hs tp md (pc + 1) L (vI 2739 :: st)) : G F E hs tp md pc L (.ref (mA E 3) :: st) :=
  x_alen C (wl_m 3 (by decide)) d n
theorem lm_4 (C : Cs F own cc nL kf E) (h0 : 0 ≤ a) (h1 : a < 10956) (d : decode cc pc = .ok (.iaload, 1)) {v9 : Int} (hv : md 4 a = v9) (n : G F E hs tp md (pc + 1) L (vI v9 :: st)) : G F E hs tp md pc L (vI a :: .ref (mA E 4) :: st) :=
  by subst hv; exact x_iald C (wl_m 4 (by decide)) (by decide) h0 h1 d n
theorem sm_4 (C : Cs F own cc nL kf E) (h0 : 0 ≤ a) (h1 : a < 10956) (d : decode cc pc = .ok (.iastore, 1)) {h9 : HV} (he : upr md 4 (up1 (md 4) a b) = h9) (n : G F E hs tp h9 (pc + 1) L st) : G F E hs tp md pc L (vI b :: vI a :: .ref (mA E 4) :: st) :=
  by subst he; exact x_iast C (wl_m 4 (by decide)) (by decide) h0 h1 (set_m 4 (by decide) _ rfl) d n
theorem nm_4 (C : Cs F own cc nL kf E) (d : decode cc pc = .ok (.arraylength, 1)) (n : G F E hs tp md (pc + 1) L (vI 10956 :: st)) : G F E hs tp md pc L (.ref (mA E 4) :: st) :=
  x_alen C (wl_m 4 (by decide)) d n
theorem lm_5 (C : Cs F own cc nL kf E) (h0 : 0 ≤ a) (h1 : a < 60) (d : decode cc pc = .ok (.iaload, 1)) {v9 : Int} (hv : md 5 a = v9) (n : G F E hs tp md (pc + 1) L (vI v9 :: st)) : G F E hs tp md pc L (vI a :: .ref (mA E 5) :: st) :=
  by subst hv; exact x_iald C (wl_m 5 (by decide)) (by decide) h0 h1 d n
theorem sm_5 (C : Cs F own cc nL kf E) (h0 : 0 ≤ a) (h1 : a < 60) (d : decode cc pc = .ok (.iastore, 1)) {h9 : HV} (he : upr md 5 (up1 (md 5) a b) = h9) (n : G F E hs tp h9 (pc + 1) L st) : G F E hs tp md pc L (vI b :: vI a :: .ref (mA E 5) :: st) :=
  by subst he; exact x_iast C (wl_m 5 (by decide)) (by decide) h0 h1 (set_m 5 (by decide) _ rfl) d n
theorem nm_5 (C : Cs F own cc nL kf E) (d : decode cc pc = .ok (.arraylength, 1)) (n : G F E hs tp md (pc + 1) L (vI 60 :: st)) : G F E hs tp md pc L (.ref (mA E 5) :: st) :=
  x_alen C (wl_m 5 (by decide)) d n
theorem lt_5 (C : Cs F own cc nL kf E) (h0 : 0 ≤ a) (h1 : a < 60) (d : decode cc pc = .ok (.caload, 1)) {v9 : Int} (hv : tp 5 a = v9) (n : G F E hs tp md (pc + 1) L (vI v9 :: st)) : G F E hs tp md pc L (vI a :: .ref (tA E 5) :: st)   :=
  by subst hv; exact x_cald C (wl_t 5 (by decide)) (by decide) h0 h1 d n
theorem st_5 (C : Cs F own cc nL kf E) (h0 : 0 ≤ a) (h1 : a < 60) (hb : vp_nar .char (Int32.ofInt b) = Int32.ofInt b) (d : decode cc pc = .ok (.castore, 1)) {h9 : HV} (he : upr tp 5 (up1 (tp 5) a b) = h9) (n : G F E hs h9 md (pc + 1) L st) : G F E hs tp md pc L (vI b :: vI a :: .ref (tA E 5) :: st) :=
  by subst he; exact x_cast C (wl_t 5 (by decide)) (by decide) h0 h1 hb (set_t 5 (by decide) _ rfl) d n
theorem ch_1 {j2 : Nat} {h2 : HV} (C : Cs F own cc nL kf E) (hj : j < 7) (hh : hs j = h) (hj2 : j2 < 7) (hh2 : hs j2 = h2) (n0 : 0 ≤ a) (n1 : a ≤ 10) (hl : Cond.methodLink own index arraycopyName ∈ TB) (hk : 2 ≤ kf) (hcat : (st.map fun v => v.category).sum ≤ 8) (d : decode cc pc = .ok (.invokestatic index, 3)) {hs9 : Nat → HV} (he : putH hs j (upr h 1 (cpI (h2 1) (h 1) a)) = hs9) (n : G F E hs9 tp md (pc + 3) L st) : G F E hs tp md pc L (vI a :: vI 0 :: .ref (hA E j 1) :: vI 0 :: .ref (hA E j2 1) :: st) :=
  by subst he; exact x_copy C hl (wl_h hj2 hh2 1 (by decide)) (wl_h hj hh 1 (by decide)) n0 n1 n1 (by decide) (set_h hj hh 1 (by decide) _ rfl) hk hcat d n
theorem ch_2 {j2 : Nat} {h2 : HV} (C : Cs F own cc nL kf E) (hj : j < 7) (hh : hs j = h) (hj2 : j2 < 7) (hh2 : hs j2 = h2) (n0 : 0 ≤ a) (n1 : a ≤ 1000) (hl : Cond.methodLink own index arraycopyName ∈ TB) (hk : 2 ≤ kf) (hcat : (st.map fun v => v.category).sum ≤ 8) (d : decode cc pc = .ok (.invokestatic index, 3)) {hs9 : Nat → HV} (he : putH hs j (upr h 2 (cpI (h2 2) (h 2) a)) = hs9) (n : G F E hs9 tp md (pc + 3) L st) : G F E hs tp md pc L (vI a :: vI 0 :: .ref (hA E j 2) :: vI 0 :: .ref (hA E j2 2) :: st) :=
  by subst he; exact x_copy C hl (wl_h hj2 hh2 2 (by decide)) (wl_h hj hh 2 (by decide)) n0 n1 n1 (by decide) (set_h hj hh 2 (by decide) _ rfl) hk hcat d n
theorem ch_4 {j2 : Nat} {h2 : HV} (C : Cs F own cc nL kf E) (hj : j < 7) (hh : hs j = h) (hj2 : j2 < 7) (hh2 : hs j2 = h2) (n0 : 0 ≤ a) (n1 : a ≤ 80) (hl : Cond.methodLink own index arraycopyName ∈ TB) (hk : 2 ≤ kf) (hcat : (st.map fun v => v.category).sum ≤ 8) (d : decode cc pc = .ok (.invokestatic index, 3)) {hs9 : Nat → HV} (he : putH hs j (upr h 4 (cpI (h2 4) (h 4) a)) = hs9) (n : G F E hs9 tp md (pc + 3) L st) : G F E hs tp md pc L (vI a :: vI 0 :: .ref (hA E j 4) :: vI 0 :: .ref (hA E j2 4) :: st) :=
  by subst he; exact x_copy C hl (wl_h hj2 hh2 4 (by decide)) (wl_h hj hh 4 (by decide)) n0 n1 n1 (by decide) (set_h hj hh 4 (by decide) _ rfl) hk hcat d n
theorem ch_5 {j2 : Nat} {h2 : HV} (C : Cs F own cc nL kf E) (hj : j < 7) (hh : hs j = h) (hj2 : j2 < 7) (hh2 : hs j2 = h2) (n0 : 0 ≤ a) (n1 : a ≤ 80) (hl : Cond.methodLink own index arraycopyName ∈ TB) (hk : 2 ≤ kf) (hcat : (st.map fun v => v.category).sum ≤ 8) (d : decode cc pc = .ok (.invokestatic index, 3)) {hs9 : Nat → HV} (he : putH hs j (upr h 5 (cpI (h2 5) (h 5) a)) = hs9) (n : G F E hs9 tp md (pc + 3) L st) : G F E hs tp md pc L (vI a :: vI 0 :: .ref (hA E j 5) :: vI 0 :: .ref (hA E j2 5) :: st) :=
  by subst he; exact x_copy C hl (wl_h hj2 hh2 5 (by decide)) (wl_h hj hh 5 (by decide)) n0 n1 n1 (by decide) (set_h hj hh 5 (by decide) _ rfl) hk hcat d n
theorem ch_6 {j2 : Nat} {h2 : HV} (C : Cs F own cc nL kf E) (hj : j < 7) (hh : hs j = h) (hj2 : j2 < 7) (hh2 : hs j2 = h2) (n0 : 0 ≤ a) (n1 : a ≤ 80) (hl : Cond.methodLink own index arraycopyName ∈ TB) (hk : 2 ≤ kf) (hcat : (st.map fun v => v.category).sum ≤ 8) (d : decode cc pc = .ok (.invokestatic index, 3)) {hs9 : Nat → HV} (he : putH hs j (upr h 6 (cpI (h2 6) (h 6) a)) = hs9) (n : G F E hs9 tp md (pc + 3) L st) : G F E hs tp md pc L (vI a :: vI 0 :: .ref (hA E j 6) :: vI 0 :: .ref (hA E j2 6) :: st) :=
  by subst he; exact x_copy C hl (wl_h hj2 hh2 6 (by decide)) (wl_h hj hh 6 (by decide)) n0 n1 n1 (by decide) (set_h hj hh 6 (by decide) _ rfl) hk hcat d n
theorem ch_7 {j2 : Nat} {h2 : HV} (C : Cs F own cc nL kf E) (hj : j < 7) (hh : hs j = h) (hj2 : j2 < 7) (hh2 : hs j2 = h2) (n0 : 0 ≤ a) (n1 : a ≤ 80) (hl : Cond.methodLink own index arraycopyName ∈ TB) (hk : 2 ≤ kf) (hcat : (st.map fun v => v.category).sum ≤ 8) (d : decode cc pc = .ok (.invokestatic index, 3)) {hs9 : Nat → HV} (he : putH hs j (upr h 7 (cpI (h2 7) (h 7) a)) = hs9) (n : G F E hs9 tp md (pc + 3) L st) : G F E hs tp md pc L (vI a :: vI 0 :: .ref (hA E j 7) :: vI 0 :: .ref (hA E j2 7) :: st) :=
  by subst he; exact x_copy C hl (wl_h hj2 hh2 7 (by decide)) (wl_h hj hh 7 (by decide)) n0 n1 n1 (by decide) (set_h hj hh 7 (by decide) _ rfl) hk hcat d n
theorem ch_8 {j2 : Nat} {h2 : HV} (C : Cs F own cc nL kf E) (hj : j < 7) (hh : hs j = h) (hj2 : j2 < 7) (hh2 : hs j2 = h2) (n0 : 0 ≤ a) (n1 : a ≤ 80) (hl : Cond.methodLink own index arraycopyName ∈ TB) (hk : 2 ≤ kf) (hcat : (st.map fun v => v.category).sum ≤ 8) (d : decode cc pc = .ok (.invokestatic index, 3)) {hs9 : Nat → HV} (he : putH hs j (upr h 8 (cpI (h2 8) (h 8) a)) = hs9) (n : G F E hs9 tp md (pc + 3) L st) : G F E hs tp md pc L (vI a :: vI 0 :: .ref (hA E j 8) :: vI 0 :: .ref (hA E j2 8) :: st) :=
  by subst he; exact x_copy C hl (wl_h hj2 hh2 8 (by decide)) (wl_h hj hh 8 (by decide)) n0 n1 n1 (by decide) (set_h hj hh 8 (by decide) _ rfl) hk hcat d n
theorem ch_9 {j2 : Nat} {h2 : HV} (C : Cs F own cc nL kf E) (hj : j < 7) (hh : hs j = h) (hj2 : j2 < 7) (hh2 : hs j2 = h2) (n0 : 0 ≤ a) (n1 : a ≤ 80) (hl : Cond.methodLink own index arraycopyName ∈ TB) (hk : 2 ≤ kf) (hcat : (st.map fun v => v.category).sum ≤ 8) (d : decode cc pc = .ok (.invokestatic index, 3)) {hs9 : Nat → HV} (he : putH hs j (upr h 9 (cpI (h2 9) (h 9) a)) = hs9) (n : G F E hs9 tp md (pc + 3) L st) : G F E hs tp md pc L (vI a :: vI 0 :: .ref (hA E j 9) :: vI 0 :: .ref (hA E j2 9) :: st) :=
  by subst he; exact x_copy C hl (wl_h hj2 hh2 9 (by decide)) (wl_h hj hh 9 (by decide)) n0 n1 n1 (by decide) (set_h hj hh 9 (by decide) _ rfl) hk hcat d n
theorem ch_10 {j2 : Nat} {h2 : HV} (C : Cs F own cc nL kf E) (hj : j < 7) (hh : hs j = h) (hj2 : j2 < 7) (hh2 : hs j2 = h2) (n0 : 0 ≤ a) (n1 : a ≤ 80) (hl : Cond.methodLink own index arraycopyName ∈ TB) (hk : 2 ≤ kf) (hcat : (st.map fun v => v.category).sum ≤ 8) (d : decode cc pc = .ok (.invokestatic index, 3)) {hs9 : Nat → HV} (he : putH hs j (upr h 10 (cpI (h2 10) (h 10) a)) = hs9) (n : G F E hs9 tp md (pc + 3) L st) : G F E hs tp md pc L (vI a :: vI 0 :: .ref (hA E j 10) :: vI 0 :: .ref (hA E j2 10) :: st) :=
  by subst he; exact x_copy C hl (wl_h hj2 hh2 10 (by decide)) (wl_h hj hh 10 (by decide)) n0 n1 n1 (by decide) (set_h hj hh 10 (by decide) _ rfl) hk hcat d n
theorem ch_12 {j2 : Nat} {h2 : HV} (C : Cs F own cc nL kf E) (hj : j < 7) (hh : hs j = h) (hj2 : j2 < 7) (hh2 : hs j2 = h2) (n0 : 0 ≤ a) (n1 : a ≤ 30) (hl : Cond.methodLink own index arraycopyName ∈ TB) (hk : 2 ≤ kf) (hcat : (st.map fun v => v.category).sum ≤ 8) (d : decode cc pc = .ok (.invokestatic index, 3)) {hs9 : Nat → HV} (he : putH hs j (upr h 12 (cpI (h2 12) (h 12) a)) = hs9) (n : G F E hs9 tp md (pc + 3) L st) : G F E hs tp md pc L (vI a :: vI 0 :: .ref (hA E j 12) :: vI 0 :: .ref (hA E j2 12) :: st) :=
  by subst he; exact x_copy C hl (wl_h hj2 hh2 12 (by decide)) (wl_h hj hh 12 (by decide)) n0 n1 n1 (by decide) (set_h hj hh 12 (by decide) _ rfl) hk hcat d n
theorem ch_14 {j2 : Nat} {h2 : HV} (C : Cs F own cc nL kf E) (hj : j < 7) (hh : hs j = h) (hj2 : j2 < 7) (hh2 : hs j2 = h2) (n0 : 0 ≤ a) (n1 : a ≤ 12) (hl : Cond.methodLink own index arraycopyName ∈ TB) (hk : 2 ≤ kf) (hcat : (st.map fun v => v.category).sum ≤ 8) (d : decode cc pc = .ok (.invokestatic index, 3)) {hs9 : Nat → HV} (he : putH hs j (upr h 14 (cpI (h2 14) (h 14) a)) = hs9) (n : G F E hs9 tp md (pc + 3) L st) : G F E hs tp md pc L (vI a :: vI 0 :: .ref (hA E j 14) :: vI 0 :: .ref (hA E j2 14) :: st) :=
  by subst he; exact x_copy C hl (wl_h hj2 hh2 14 (by decide)) (wl_h hj hh 14 (by decide)) n0 n1 n1 (by decide) (set_h hj hh 14 (by decide) _ rfl) hk hcat d n
theorem ch_15 {j2 : Nat} {h2 : HV} (C : Cs F own cc nL kf E) (hj : j < 7) (hh : hs j = h) (hj2 : j2 < 7) (hh2 : hs j2 = h2) (n0 : 0 ≤ a) (n1 : a ≤ 12) (hl : Cond.methodLink own index arraycopyName ∈ TB) (hk : 2 ≤ kf) (hcat : (st.map fun v => v.category).sum ≤ 8) (d : decode cc pc = .ok (.invokestatic index, 3)) {hs9 : Nat → HV} (he : putH hs j (upr h 15 (cpI (h2 15) (h 15) a)) = hs9) (n : G F E hs9 tp md (pc + 3) L st) : G F E hs tp md pc L (vI a :: vI 0 :: .ref (hA E j 15) :: vI 0 :: .ref (hA E j2 15) :: st) :=
  by subst he; exact x_copy C hl (wl_h hj2 hh2 15 (by decide)) (wl_h hj hh 15 (by decide)) n0 n1 n1 (by decide) (set_h hj hh 15 (by decide) _ rfl) hk hcat d n
theorem ch_16 {j2 : Nat} {h2 : HV} (C : Cs F own cc nL kf E) (hj : j < 7) (hh : hs j = h) (hj2 : j2 < 7) (hh2 : hs j2 = h2) (n0 : 0 ≤ a) (n1 : a ≤ 9) (hl : Cond.methodLink own index arraycopyName ∈ TB) (hk : 2 ≤ kf) (hcat : (st.map fun v => v.category).sum ≤ 8) (d : decode cc pc = .ok (.invokestatic index, 3)) {hs9 : Nat → HV} (he : putH hs j (upr h 16 (cpI (h2 16) (h 16) a)) = hs9) (n : G F E hs9 tp md (pc + 3) L st) : G F E hs tp md pc L (vI a :: vI 0 :: .ref (hA E j 16) :: vI 0 :: .ref (hA E j2 16) :: st) :=
  by subst he; exact x_copy C hl (wl_h hj2 hh2 16 (by decide)) (wl_h hj hh 16 (by decide)) n0 n1 n1 (by decide) (set_h hj hh 16 (by decide) _ rfl) hk hcat d n
end FIELDS
end
section
/-! plain words: truth as a number, sums, folds -/
def bI (c : Prop) [Decidable c] : Int := if c then 1 else 0
theorem bI_t {c : Prop} [Decidable c] (h : c) : bI c = 1 := if_pos h
theorem bI_f {c : Prop} [Decidable c] (h : ¬ c) : bI c = 0 := if_neg h
theorem bI_IR {c : Prop} [Decidable c] : IR (bI c) := by unfold bI; constructor <;> split <;> decide
theorem bI_01 {c : Prop} [Decidable c] : bI c = 0 ∨ bI c = 1 := by unfold bI; split <;> simp
theorem bI_eq0 {c : Prop} [Decidable c] (h : bI c = 0) : ¬ c := fun hc => by rw [bI_t hc] at h; cases h
theorem bI_ne0 {c : Prop} [Decidable c] (h : bI c ≠ 0) : c := Decidable.byContradiction fun hc => h (bI_f hc)
theorem bI_iff {c d : Prop} [Decidable c] [Decidable d] (h : c ↔ d) : bI c = bI d := by unfold bI; by_cases hc : c <;> simp [hc, ← h]
theorem e1_bI {c : Prop} [Decidable c] (h : c) : (1 : Int) = bI c := (bI_t h).symm
theorem e0_bI {c : Prop} [Decidable c] (h : ¬ c) : (0 : Int) = bI c := (bI_f h).symm
theorem nar_b {c : Prop} [Decidable c] : narrow .boolean (vI (bI c)) = vI (bI c) := by unfold bI; split <;> rfl
def sumN (f : Int → Int) : Nat → Int
  | 0 => 0
  | n + 1 => sumN f n + f n
def sumI (f : Int → Int) (i : Int) : Int := sumN f i.toNat
theorem sumI_0 {f : Int → Int} : sumI f 0 = 0 := rfl
theorem sumI_s {f : Int → Int} {i : Int} (h : 0 ≤ i) : sumI f (i + 1) = sumI f i + f i := by
  unfold sumI
  have e1 : (i + 1).toNat = i.toNat + 1 := by omega
  have e2 : (i.toNat : Int) = i := Int.toNat_of_nonneg h
  rw [e1, sumN, e2]
theorem sumN_le {f : Int → Int} {lo hi : Int} : ∀ (n : Nat), (∀ k : Int, 0 ≤ k → k < n → lo ≤ f k ∧ f k ≤ hi) → lo * n ≤ sumN f n ∧ sumN f n ≤ hi * n
  | 0, _ => by simp [sumN]
  | n + 1, h => by
    have h1 := sumN_le n fun k a b => h k a (by omega)
    have h2 := h n (by omega) (by omega)
    simp only [sumN]
    have e1 : lo * ((n + 1 : Nat) : Int) = lo * n + lo := by rw [Int.natCast_add, Int.mul_add]; simp
    have e2 : hi * ((n + 1 : Nat) : Int) = hi * n + hi := by rw [Int.natCast_add, Int.mul_add]; simp
    omega
theorem sumI_le {f : Int → Int} {lo hi i : Int} (h0 : 0 ≤ i) (h : ∀ k : Int, 0 ≤ k → k < i → lo ≤ f k ∧ f k ≤ hi) : lo * i ≤ sumI f i ∧ sumI f i ≤ hi * i := by
  have e2 : (i.toNat : Int) = i := Int.toNat_of_nonneg h0
  have h1 := sumN_le (f := f) (lo := lo) (hi := hi) i.toNat fun k a b => h k a (by omega)
  rw [e2] at h1
  exact h1
theorem sumN_sign {f : Int → Int} : ∀ (n : Nat), (∀ k : Int, 0 ≤ k → k < n → 0 ≤ f k) → 0 ≤ sumN f n
  | 0, _ => by simp [sumN]
  | n + 1, h => by
    have h1 := sumN_sign n fun k a b => h k a (by omega)
    have h2 := h n (by omega) (by omega)
    simp only [sumN]; omega
theorem sumI_sign {f : Int → Int} {i : Int} (h0 : 0 ≤ i) (h : ∀ k : Int, 0 ≤ k → k < i → 0 ≤ f k) : 0 ≤ sumI f i :=
  sumN_sign _ fun k a b => h k a (by omega)
theorem sumN_cg {f g : Int → Int} : ∀ (n : Nat), (∀ k : Int, 0 ≤ k → k < n → f k = g k) → sumN f n = sumN g n
  | 0, _ => rfl
  | n + 1, h => by simp only [sumN]; rw [sumN_cg n fun k a b => h k a (by omega), h n (by omega) (by omega)]
theorem sumI_cg {f g : Int → Int} {i : Int} (h : ∀ k : Int, 0 ≤ k → k < i → f k = g k) : sumI f i = sumI g i := by
  unfold sumI
  by_cases h0 : 0 ≤ i
  · have e2 : (i.toNat : Int) = i := Int.toNat_of_nonneg h0
    exact sumN_cg _ fun k a b => h k a (by omega)
  · have e2 : i.toNat = 0 := by omega
    rw [e2]; rfl
/-- a state folded over 0 .. i-1 -/
def foldN {α : Type} (f : Int → α → α) (x : α) : Nat → α
  | 0 => x
  | n + 1 => f n (foldN f x n)
def foldI {α : Type} (f : Int → α → α) (x : α) (i : Int) : α := foldN f x i.toNat
theorem foldI_0 {α : Type} {f : Int → α → α} {x : α} : foldI f x 0 = x := rfl
theorem foldI_s {α : Type} {f : Int → α → α} {x : α} {i : Int} (h : 0 ≤ i) : foldI f x (i + 1) = f i (foldI f x i) := by
  unfold foldI
  have e1 : (i + 1).toNat = i.toNat + 1 := by omega
  have e2 : (i.toNat : Int) = i := Int.toNat_of_nonneg h
  rw [e1, foldN, e2]
theorem foldN_iv {α : Type} {f : Int → α → α} {x : α} (P : Int → α → Prop) (h0 : P 0 x) : ∀ (n : Nat), (∀ (k : Int) (y : α), 0 ≤ k → k < n → P k y → P (k + 1) (f k y)) → P n (foldN f x n)
  | 0, _ => h0
  | n + 1, h => by
    have := h n (foldN f x n) (by omega) (by omega) (foldN_iv P h0 n fun k y a b c => h k y a (by omega) c)
    exact this
theorem foldI_iv {α : Type} {f : Int → α → α} {x : α} {i : Int} (hi : 0 ≤ i) (P : Int → α → Prop) (h0 : P 0 x) (h : ∀ (k : Int) (y : α), 0 ≤ k → k < i → P k y → P (k + 1) (f k y)) : P i (foldI f x i) := by
  have e2 : (i.toNat : Int) = i := Int.toNat_of_nonneg hi
  have h1 := foldN_iv (f := f) (x := x) P h0 i.toNat fun k y a b c => h k y a (by omega) c
  rw [e2] at h1
  exact h1
/-- the locals that the first list knows, the second knows as well -/
def leL : List (Option Value) → List (Option Value) → Prop
  | [], _ => True
  | none :: l1, [] => leL l1 []
  | none :: l1, _ :: l2 => leL l1 l2
  | some _ :: _, [] => False
  | some v :: l1, o :: l2 => o = some v ∧ leL l1 l2
theorem leL_at : ∀ (l1 l2 : List (Option Value)), leL l1 l2 → ∀ (i : Nat) (v : Value), l1[i]? = some (some v) → l2[i]? = some (some v)
  | [], _, _, i, v, hi => by simp at hi
  | none :: l1, [], h, 0, v, hi => by simp at hi
  | none :: l1, [], h, i + 1, v, hi => by
    have := leL_at l1 [] h i v (by simpa using hi)
    simp at this
  | none :: l1, o :: l2, h, 0, v, hi => by simp at hi
  | none :: l1, o :: l2, h, i + 1, v, hi => by
    have := leL_at l1 l2 h i v (by simpa using hi)
    simpa using this
  | some w :: l1, [], h, i, v, hi => h.elim
  | some w :: l1, o :: l2, h, 0, v, hi => by
    simp at hi
    simp [h.1, hi]
  | some w :: l1, o :: l2, h, i + 1, v, hi => by
    have := leL_at l1 l2 h.2 i v (by simpa using hi)
    simpa using this
theorem G.wk {F : FC} {E : HE} {hs : Nat → HV} {tp md : HV} {pc : Nat} {L L' : List (Option Value)} {st : List Value} (k : G F E hs tp md pc L' st) (h : leL L' L) : G F E hs tp md pc L st := by
  obtain ⟨p, l, e, R, s, m, args, below, meth, c, cells, slots, Q⟩ := F
  intro H locs ls hP hS hL
  exact k H locs ls hP hS ⟨hL.1, hL.2.1, fun i v hi => hL.2.2 i v (leL_at _ _ h i v hi)⟩
section BROWS
variable {F : FC} {own : String} {cc : ByteArray} {nL kf : Nat} {E : HE} {hs : Nat → HV} {tp md : HV} {pc : Nat} {L : List (Option Value)} {st : List Value}
theorem x_bz_eq {q : Prop} [Decidable q] {off : Int} (tgt : Nat) (C : Cs F own cc nL kf E) (d : decode cc pc = .ok (.ifCond .eq off, 3)) (ht : (pc : Int) + off = (tgt : Int)) (kt : ¬ q → G F E hs tp md tgt L st) (kf : q → G F E hs tp md (pc + 3) L st) : G F E hs tp md pc L (vI (bI q) :: st) :=
  x_if_eq tgt C d ht bI_IR (fun h => kt (bI_eq0 h)) (fun h => kf (bI_ne0 h))
theorem x_bz_ne {q : Prop} [Decidable q] {off : Int} (tgt : Nat) (C : Cs F own cc nL kf E) (d : decode cc pc = .ok (.ifCond .ne off, 3)) (ht : (pc : Int) + off = (tgt : Int)) (kt : q → G F E hs tp md tgt L st) (kf : ¬ q → G F E hs tp md (pc + 3) L st) : G F E hs tp md pc L (vI (bI q) :: st) :=
  x_if_ne tgt C d ht bI_IR (fun h => kt (bI_ne0 h)) (fun h => kf (bI_eq0 h))
end BROWS
/-- what a hut's numbers keep to; K: how much food at most -/
def RG (K : Int) (h : HV) : Prop :=
  (∀ i, 0 ≤ i → i < 10 → stV 1 i.toNat ≤ h 1 i ∧ h 1 i ≤ stV 2 i.toNat) ∧ (∀ i, 0 ≤ i → i < 1000 → 0 ≤ h 2 i ∧ h 2 i ≤ 7) ∧ (0 ≤ h 3 7 ∧ h 3 7 ≤ 80) ∧
  (∀ b, 0 ≤ b → b < 80 → (0 ≤ h 4 b ∧ h 4 b ≤ 4) ∧ (0 ≤ h 5 b ∧ h 5 b ≤ 899) ∧ (0 ≤ h 6 b ∧ h 6 b ≤ 9) ∧ (0 ≤ h 7 b ∧ h 7 b ≤ 9) ∧ (-1 ≤ h 10 b ∧ h 10 b ≤ 1060)) ∧
  (0 ≤ h 11 1 ∧ h 11 1 ≤ K) ∧ (∀ i, 0 ≤ i → i < 30 → 0 ≤ h 12 i ∧ h 12 i ≤ K) ∧ (0 ≤ h 13 2 ∧ h 13 2 ≤ 12) ∧ (∀ i, 0 ≤ i → i < 12 → (0 ≤ h 14 i ∧ h 14 i ≤ 1) ∧ (0 ≤ h 15 i ∧ h 15 i ≤ 99)) ∧
  (0 ≤ h 0 6 ∧ h 0 6 ≤ 1060) ∧ (h 0 7 = 0 ∨ h 0 7 = 1)
theorem RG.set {K : Int} {h : HV} (R : RG K h) {i : Int} (h0 : 0 ≤ i) (h1 : i < 10) : stV 1 i.toNat ≤ h 1 i ∧ h 1 i ≤ stV 2 i.toNat := R.1 i h0 h1
theorem RG.set' {K : Int} {h : HV} (R : RG K h) {i : Int} (h0 : 0 ≤ i) (h1 : i < 10) : 0 ≤ h 1 i ∧ h 1 i ≤ 999 := by
  have h2 := R.1 i h0 h1
  have k : i = 0 ∨ i = 1 ∨ i = 2 ∨ i = 3 ∨ i = 4 ∨ i = 5 ∨ i = 6 ∨ i = 7 ∨ i = 8 ∨ i = 9 := by omega
  rcases k with rfl | rfl | rfl | rfl | rfl | rfl | rfl | rfl | rfl | rfl <;> simp [stV] at h2 <;> omega
theorem RG.wea {K : Int} {h : HV} (R : RG K h) {i : Int} (h0 : 0 ≤ i) (h1 : i < 1000) : 0 ≤ h 2 i ∧ h 2 i ≤ 7 := R.2.1 i h0 h1
theorem RG.made {K : Int} {h : HV} (R : RG K h) : 0 ≤ h 3 7 ∧ h 3 7 ≤ 80 := R.2.2.1
theorem RG.how {K : Int} {h : HV} (R : RG K h) {b : Int} (h0 : 0 ≤ b) (h1 : b < 80) : 0 ≤ h 4 b ∧ h 4 b ≤ 4 := (R.2.2.2.1 b h0 h1).1
theorem RG.arr {K : Int} {h : HV} (R : RG K h) {b : Int} (h0 : 0 ≤ b) (h1 : b < 80) : 0 ≤ h 5 b ∧ h 5 b ≤ 899 := (R.2.2.2.1 b h0 h1).2.1
theorem RG.nig {K : Int} {h : HV} (R : RG K h) {b : Int} (h0 : 0 ≤ b) (h1 : b < 80) : 0 ≤ h 6 b ∧ h 6 b ≤ 9 := (R.2.2.2.1 b h0 h1).2.2.1
theorem RG.per {K : Int} {h : HV} (R : RG K h) {b : Int} (h0 : 0 ≤ b) (h1 : b < 80) : 0 ≤ h 7 b ∧ h 7 b ≤ 9 := (R.2.2.2.1 b h0 h1).2.2.2.1
theorem RG.cam {K : Int} {h : HV} (R : RG K h) {b : Int} (h0 : 0 ≤ b) (h1 : b < 80) : -1 ≤ h 10 b ∧ h 10 b ≤ 1060 := (R.2.2.2.1 b h0 h1).2.2.2.2
theorem RG.dry {K : Int} {h : HV} (R : RG K h) : 0 ≤ h 11 1 ∧ h 11 1 ≤ K := R.2.2.2.2.1
theorem RG.fre {K : Int} {h : HV} (R : RG K h) {i : Int} (h0 : 0 ≤ i) (h1 : i < 30) : 0 ≤ h 12 i ∧ h 12 i ≤ K := R.2.2.2.2.2.1 i h0 h1
theorem RG.siz {K : Int} {h : HV} (R : RG K h) : 0 ≤ h 13 2 ∧ h 13 2 ≤ 12 := R.2.2.2.2.2.2.1
theorem RG.kin {K : Int} {h : HV} (R : RG K h) {i : Int} (h0 : 0 ≤ i) (h1 : i < 12) : 0 ≤ h 14 i ∧ h 14 i ≤ 1 := (R.2.2.2.2.2.2.2.1 i h0 h1).1
theorem RG.por {K : Int} {h : HV} (R : RG K h) {i : Int} (h0 : 0 ≤ i) (h1 : i < 12) : 0 ≤ h 15 i ∧ h 15 i ≤ 99 := (R.2.2.2.2.2.2.2.1 i h0 h1).2
theorem RG.day {K : Int} {h : HV} (R : RG K h) : 0 ≤ h 0 6 ∧ h 0 6 ≤ 1060 := R.2.2.2.2.2.2.2.2.1
theorem RG.cal {K : Int} {h : HV} (R : RG K h) : h 0 7 = 0 ∨ h 0 7 = 1 := R.2.2.2.2.2.2.2.2.2
end
section
/-! the guests -/
abbrev gEnd (h : HV) (b : Int) : Int := h 5 b + h 6 b
abbrev gHold (h : HV) (b : Int) : Prop := h 4 b = 0 ∨ h 4 b = 1
abbrev gOver (h : HV) (b t : Int) : Prop := h 4 b = 1 ∧ h 5 b + h 6 b ≤ t
abbrev gMany (h : HV) (w : Int) : Int → Int := fun b => if h 4 b = w then 1 else 0
abbrev gThere (h : HV) : Int → Int := fun b => if h 4 b = 1 then h 7 b else 0
abbrev gHeld (h : HV) : Int → Int := fun b => if gHold h b then h 9 b else 0
abbrev gArr (h : HV) (d : Int) : Int → Int := fun b => if h 4 b = 0 ∧ h 5 b = d then 1 else 0
abbrev gEnds (h : HV) (d : Int) : Int → Int := fun b => if gHold h b ∧ h 5 b + h 6 b = d then 1 else 0
abbrev gShared (h : HV) (x y b : Int) : Int := (if h 5 b + h 6 b ≤ y + 1 then h 5 b + h 6 b else y + 1) - (if h 5 b < x then x else h 5 b)
abbrev gBeds (h : HV) (x y : Int) : Int → Int := fun b => if gHold h b ∧ 0 < gShared h x y b then gShared h x y b * h 7 b else 0
abbrev nThere (h : HV) : Int := sumI (gThere h) (h 3 7)
abbrev nBeds (h : HV) (x y : Int) : Int := sumI (gBeds h x y) (h 3 7)
set_option maxRecDepth 100000 in
set_option maxHeartbeats 4000000 in
theorem m_X1_knows {hs : Nat → HV} {tp md : HV} {E : HE} {j : Nat} {h : HV} (hE : HI E) (hj : j < 7) (hh : hs j = h) {K : Int} (R : RG K h) {b : Int} (b0 : IR b) : Mt yX1_knows cX1_knows 2 (some .boolean) 1 E [.ref (hA E j 3), vI b] hs tp md (some (vI (bI (0 ≤ b ∧ b < h 3 7)))) hs tp md := by
  refine mk_Mt hE (plainFor_of_name (by decide)) (Nat.le_of_ble_eq_true rfl) (by intro w0 hw0; simp only [List.mem_cons, List.not_mem_nil, or_false] at hw0; rcases hw0 with rfl | rfl <;> rfl) (rfl : _ = [_, _]) ?_
  intro F C D
  refine x_iload_n C dX1_knows_0 rfl ?_
  refine x_if_lt 16 C dX1_knows_1 (by decide) ⟨by omega, by omega⟩ (fun c_1 => ?_) (fun c_1 => ?_)
  · refine x_const C dX1_knows_16 ?_
    exact x_iret C D nar_b dX1_knows_17 (e0_bI (by omega)) rfl rfl rfl
  · refine x_iload_n C dX1_knows_4 rfl ?_
    refine x_aload_n C dX1_knows_5 rfl ?_
    refine gh_3_7 C hj hh q_113 dX1_knows_6 rfl ?_
    have r_2 := RG.made R
    refine x_icmp_ge 16 C dX1_knows_9 (by decide) ⟨by omega, by omega⟩ ⟨by omega, by omega⟩ (fun c_3 => ?_) (fun c_3 => ?_)
    · refine x_const C dX1_knows_16 ?_
      exact x_iret C D nar_b dX1_knows_17 (e0_bI (by omega)) rfl rfl rfl
    · refine x_const C dX1_knows_12 ?_
      refine x_goto 17 C dX1_knows_13 (by decide) ?_
      exact x_iret C D nar_b dX1_knows_17 (e1_bI (by omega)) rfl rfl rfl
set_option maxRecDepth 100000 in
set_option maxHeartbeats 4000000 in
theorem m_X1_end {hs : Nat → HV} {tp md : HV} {E : HE} {j : Nat} {h : HV} (hE : HI E) (hj : j < 7) (hh : hs j = h) {b : Int} (b0 : 0 ≤ b) (b1 : b < 80) : Mt yX1_end cX1_end 2 (some .int) 1 E [.ref (hA E j 3), vI b] hs tp md (some (vI (h 5 b + h 6 b))) hs tp md := by
  refine mk_Mt hE (plainFor_of_name (by decide)) (Nat.le_of_ble_eq_true rfl) (by intro w0 hw0; simp only [List.mem_cons, List.not_mem_nil, or_false] at hw0; rcases hw0 with rfl | rfl <;> rfl) (rfl : _ = [_, _]) ?_
  intro F C D
  refine x_aload_n C dX1_end_0 rfl ?_
  refine gh_3_1 C hj hh q_95 dX1_end_1 ?_
  refine x_iload_n C dX1_end_4 rfl ?_
  refine lh_5 C hj hh (by omega) (by omega) dX1_end_5 rfl ?_
  refine x_aload_n C dX1_end_6 rfl ?_
  refine gh_3_2 C hj hh q_98 dX1_end_7 ?_
  refine x_iload_n C dX1_end_10 rfl ?_
  refine lh_6 C hj hh (by omega) (by omega) dX1_end_11 rfl ?_
  refine x_iadd C dX1_end_12 ?_
  exact x_iret C D rfl dX1_end_13 rfl rfl rfl rfl
set_option maxRecDepth 100000 in
set_option maxHeartbeats 4000000 in
theorem m_X1_holdsBeds {hs : Nat → HV} {tp md : HV} {E : HE} {j : Nat} {h : HV} (hE : HI E) (hj : j < 7) (hh : hs j = h) {K : Int} (R : RG K h) {b : Int} (b0 : 0 ≤ b) (b1 : b < 80) : Mt yX1_holdsBeds cX1_holdsBeds 2 (some .boolean) 1 E [.ref (hA E j 3), vI b] hs tp md (some (vI (bI (gHold h b)))) hs tp md := by
  refine mk_Mt hE (plainFor_of_name (by decide)) (Nat.le_of_ble_eq_true rfl) (by intro w0 hw0; simp only [List.mem_cons, List.not_mem_nil, or_false] at hw0; rcases hw0 with rfl | rfl <;> rfl) (rfl : _ = [_, _]) ?_
  intro F C D
  refine x_aload_n C dX1_holdsBeds_0 rfl ?_
  refine gh_3_0 C hj hh q_92 dX1_holdsBeds_1 ?_
  refine x_iload_n C dX1_holdsBeds_4 rfl ?_
  refine lh_4 C hj hh (by omega) (by omega) dX1_holdsBeds_5 rfl ?_
  have r_1 := RG.how R (b := b) (by omega) (by omega)
  refine x_if_eq 19 C dX1_holdsBeds_6 (by decide) ⟨by omega, by omega⟩ (fun c_2 => ?_) (fun c_2 => ?_)
  · refine x_const C dX1_holdsBeds_19 ?_
    refine x_goto 24 C dX1_holdsBeds_20 (by decide) ?_
    exact x_iret C D nar_b dX1_holdsBeds_24 (e1_bI (by omega)) rfl rfl rfl
  · refine x_aload_n C dX1_holdsBeds_9 rfl ?_
    refine gh_3_0 C hj hh q_92 dX1_holdsBeds_10 ?_
    refine x_iload_n C dX1_holdsBeds_13 rfl ?_
    refine lh_4 C hj hh (by omega) (by omega) dX1_holdsBeds_14 rfl ?_
    have r_3 := RG.how R (b := b) (by omega) (by omega)
    refine x_const C dX1_holdsBeds_15 ?_
    refine x_icmp_ne 23 C dX1_holdsBeds_16 (by decide) ⟨by omega, by omega⟩ ⟨by omega, by omega⟩ (fun c_4 => ?_) (fun c_4 => ?_)
    · refine x_const C dX1_holdsBeds_23 ?_
      exact x_iret C D nar_b dX1_holdsBeds_24 (e0_bI (by omega)) rfl rfl rfl
    · refine x_const C dX1_holdsBeds_19 ?_
      refine x_goto 24 C dX1_holdsBeds_20 (by decide) ?_
      exact x_iret C D nar_b dX1_holdsBeds_24 (e1_bI (by omega)) rfl rfl rfl
set_option maxRecDepth 100000 in
set_option maxHeartbeats 4000000 in
theorem m_X1_isOver {hs : Nat → HV} {tp md : HV} {E : HE} {j : Nat} {h : HV} (hE : HI E) (hj : j < 7) (hh : hs j = h) {K : Int} (R : RG K h) {b : Int} (b0 : 0 ≤ b) (b1 : b < 80) {t : Int} (t0 : IR t) : Mt yX1_isOver cX1_isOver 3 (some .boolean) 2 E [.ref (hA E j 3), vI b, vI t] hs tp md (some (vI (bI (gOver h b t)))) hs tp md := by
  refine mk_Mt hE (plainFor_of_name (by decide)) (Nat.le_of_ble_eq_true rfl) (by intro w0 hw0; simp only [List.mem_cons, List.not_mem_nil, or_false] at hw0; rcases hw0 with rfl | rfl | rfl <;> rfl) (rfl : _ = [_, _, _]) ?_
  intro F C D
  have ra := RG.arr R b0 b1
  have rn := RG.nig R b0 b1
  refine x_aload_n C dX1_isOver_0 rfl ?_
  refine gh_3_0 C hj hh q_92 dX1_isOver_1 ?_
  refine x_iload_n C dX1_isOver_4 rfl ?_
  refine lh_4 C hj hh (by omega) (by omega) dX1_isOver_5 rfl ?_
  have r_1 := RG.how R (b := b) (by omega) (by omega)
  refine x_const C dX1_isOver_6 ?_
  refine x_icmp_ne 23 C dX1_isOver_7 (by decide) ⟨by omega, by omega⟩ ⟨by omega, by omega⟩ (fun c_2 => ?_) (fun c_2 => ?_)
  · refine x_const C dX1_isOver_23 ?_
    exact x_iret C D nar_b dX1_isOver_24 (e0_bI (by omega)) rfl rfl rfl
  · refine x_aload_n C dX1_isOver_10 rfl ?_
    refine x_iload_n C dX1_isOver_11 rfl ?_
    refine x_callV (nA := 1) (As := [vI b]) (rest := []) C (m_X1_end hE hj hh (by omega) (by omega)) q_316 q_317 q_318 q_59 q_319 (by decide +kernel) (wl_h hj hh 3 (by decide)) rfl rfl (by decide) (by decide) (Nat.le_of_ble_eq_true rfl) dX1_isOver_12 rfl ?_
    refine x_iload_n C dX1_isOver_15 rfl ?_
    refine x_icmp_gt 23 C dX1_isOver_16 (by decide) ⟨by omega, by omega⟩ ⟨by omega, by omega⟩ (fun c_3 => ?_) (fun c_3 => ?_)
    · refine x_const C dX1_isOver_23 ?_
      exact x_iret C D nar_b dX1_isOver_24 (e0_bI (by omega)) rfl rfl rfl
    · refine x_const C dX1_isOver_19 ?_
      refine x_goto 24 C dX1_isOver_20 (by decide) ?_
      exact x_iret C D nar_b dX1_isOver_24 (e1_bI (by omega)) rfl rfl rfl
set_option maxRecDepth 100000 in
set_option maxHeartbeats 4000000 in
theorem m_X1_howMany {hs : Nat → HV} {tp md : HV} {E : HE} {j : Nat} {h : HV} (hE : HI E) (hj : j < 7) (hh : hs j = h) {K : Int} (R : RG K h) {w : Int} (w0 : IR w) : Mt yX1_howMany cX1_howMany 4 (some .int) 1 E [.ref (hA E j 3), vI w] hs tp md (some (vI (sumI (gMany h w) (h 3 7)))) hs tp md := by
  refine mk_Mt hE (plainFor_of_name (by decide)) (Nat.le_of_ble_eq_true rfl) (by intro w0 hw0; simp only [List.mem_cons, List.not_mem_nil, or_false] at hw0; rcases hw0 with rfl | rfl <;> rfl) (rfl : _ = [_, _, _, _]) ?_
  intro F C D
  have rm := RG.made R
  refine x_const C dX1_howMany_0 ?_
  refine x_istore_n C dX1_howMany_1 (by decide) (rfl : _ = [_, _, _, _]) ?_
  refine x_const C dX1_howMany_2 ?_
  refine x_istore_n C dX1_howMany_3 (by decide) (rfl : _ = [_, _, _, _]) ?_
  have K4 : ∀ (nn : Nat) (i : Int), 0 ≤ i → i ≤ h 3 7 → h 3 7 - i < nn →  G F E hs tp md 4 [some (.ref (hA E j 3)), some (vI w), some (vI (sumI (gMany h w) i)), some (vI i)] [] := by
    intro nn
    induction nn with
    | zero => intro i i0 i1 hz; exact absurd hz (by omega)
    | succ nn ih =>
      intro i i0 i1 hz
      refine x_iload_n C dX1_howMany_4 rfl ?_
      refine x_aload_n C dX1_howMany_5 rfl ?_
      refine gh_3_7 C hj hh q_113 dX1_howMany_6 rfl ?_
      have r_1 := RG.made R
      refine x_icmp_ge 31 C dX1_howMany_9 (by decide) ⟨by omega, by omega⟩ ⟨by omega, by omega⟩ (fun c_2 => ?_) (fun c_2 => ?_)
      · refine x_iload_n C dX1_howMany_31 rfl ?_
        exact x_iret C D rfl dX1_howMany_32 (by rw [show i = h 3 7 by omega]) rfl rfl rfl
      · refine x_aload_n C dX1_howMany_12 rfl ?_
        refine gh_3_0 C hj hh q_92 dX1_howMany_13 ?_
        refine x_iload_n C dX1_howMany_16 rfl ?_
        refine lh_4 C hj hh (by omega) (by omega) dX1_howMany_17 rfl ?_
        have r_3 := RG.how R (b := i) (by omega) (by omega)
        refine x_iload_n C dX1_howMany_18 rfl ?_
        refine x_icmp_ne 25 C dX1_howMany_19 (by decide) ⟨by omega, by omega⟩ ⟨by omega, by omega⟩ (fun c_4 => ?_) (fun c_4 => ?_)
        · refine x_iinc C dX1_howMany_25 rfl (by decide) (rfl : _ = [_, _, _, _]) ?_
          refine x_goto 4 C dX1_howMany_28 (by decide) ?_
          refine G.wk (ih (i + 1) (by omega) (by omega) (by omega)) ?_
          simp [leL, sumI_s i0, gMany, c_2, c_4]
        · refine x_iinc C dX1_howMany_22 rfl (by decide) (rfl : _ = [_, _, _, _]) ?_
          refine x_iinc C dX1_howMany_25 rfl (by decide) (rfl : _ = [_, _, _, _]) ?_
          refine x_goto 4 C dX1_howMany_28 (by decide) ?_
          refine G.wk (ih (i + 1) (by omega) (by omega) (by omega)) ?_
          simp [leL, sumI_s i0, gMany, c_2, c_4]
  exact K4 ((h 3 7 : Int) + 1).toNat 0 (by omega) (by omega) (by omega)
set_option maxRecDepth 100000 in
set_option maxHeartbeats 4000000 in
theorem m_X1_personsThere {hs : Nat → HV} {tp md : HV} {E : HE} {j : Nat} {h : HV} (hE : HI E) (hj : j < 7) (hh : hs j = h) {K : Int} (R : RG K h) : Mt yX1_personsThere cX1_personsThere 3 (some .int) 1 E [.ref (hA E j 3)] hs tp md (some (vI (nThere h))) hs tp md := by
  refine mk_Mt hE (plainFor_of_name (by decide)) (Nat.le_of_ble_eq_true rfl) (by intro w0 hw0; simp only [List.mem_cons, List.not_mem_nil, or_false] at hw0; rcases hw0 with rfl <;> rfl) (rfl : _ = [_, _, _]) ?_
  intro F C D
  have rm := RG.made R
  refine x_const C dX1_personsThere_0 ?_
  refine x_istore_n C dX1_personsThere_1 (by decide) (rfl : _ = [_, _, _]) ?_
  refine x_const C dX1_personsThere_2 ?_
  refine x_istore_n C dX1_personsThere_3 (by decide) (rfl : _ = [_, _, _]) ?_
  have K4 : ∀ (nn : Nat) (i : Int), 0 ≤ i → i ≤ h 3 7 → h 3 7 - i < nn →  G F E hs tp md 4 [some (.ref (hA E j 3)), some (vI (sumI (gThere h) i)), some (vI i)] [] := by
    intro nn
    induction nn with
    | zero => intro i i0 i1 hz; exact absurd hz (by omega)
    | succ nn ih =>
      intro i i0 i1 hz
      refine x_iload_n C dX1_personsThere_4 rfl ?_
      refine x_aload_n C dX1_personsThere_5 rfl ?_
      refine gh_3_7 C hj hh q_113 dX1_personsThere_6 rfl ?_
      have r_1 := RG.made R
      refine x_icmp_ge 37 C dX1_personsThere_9 (by decide) ⟨by omega, by omega⟩ ⟨by omega, by omega⟩ (fun c_2 => ?_) (fun c_2 => ?_)
      · refine x_iload_n C dX1_personsThere_37 rfl ?_
        exact x_iret C D rfl dX1_personsThere_38 (by rw [show i = h 3 7 by omega]) rfl rfl rfl
      · refine x_aload_n C dX1_personsThere_12 rfl ?_
        refine gh_3_0 C hj hh q_92 dX1_personsThere_13 ?_
        refine x_iload_n C dX1_personsThere_16 rfl ?_
        refine lh_4 C hj hh (by omega) (by omega) dX1_personsThere_17 rfl ?_
        have r_3 := RG.how R (b := i) (by omega) (by omega)
        refine x_const C dX1_personsThere_18 ?_
        refine x_icmp_ne 31 C dX1_personsThere_19 (by decide) ⟨by omega, by omega⟩ ⟨by omega, by omega⟩ (fun c_4 => ?_) (fun c_4 => ?_)
        · refine x_iinc C dX1_personsThere_31 rfl (by decide) (rfl : _ = [_, _, _]) ?_
          refine x_goto 4 C dX1_personsThere_34 (by decide) ?_
          refine G.wk (ih (i + 1) (by omega) (by omega) (by omega)) ?_
          simp [leL, sumI_s i0, gThere, c_2, c_4]
        · refine x_iload_n C dX1_personsThere_22 rfl ?_
          refine x_aload_n C dX1_personsThere_23 rfl ?_
          refine gh_3_3 C hj hh q_101 dX1_personsThere_24 ?_
          refine x_iload_n C dX1_personsThere_27 rfl ?_
          refine lh_7 C hj hh (by omega) (by omega) dX1_personsThere_28 rfl ?_
          have r_5 := RG.per R (b := i) (by omega) (by omega)
          refine x_iadd C dX1_personsThere_29 ?_
          refine x_istore_n C dX1_personsThere_30 (by decide) (rfl : _ = [_, _, _]) ?_
          refine x_iinc C dX1_personsThere_31 rfl (by decide) (rfl : _ = [_, _, _]) ?_
          refine x_goto 4 C dX1_personsThere_34 (by decide) ?_
          refine G.wk (ih (i + 1) (by omega) (by omega) (by omega)) ?_
          simp [leL, sumI_s i0, gThere, c_2, c_4]
  exact K4 ((h 3 7 : Int) + 1).toNat 0 (by omega) (by omega) (by omega)
set_option maxRecDepth 100000 in
set_option maxHeartbeats 4000000 in
theorem m_X1_depositsHeld {hs : Nat → HV} {tp md : HV} {E : HE} {j : Nat} {h : HV} (hE : HI E) (hj : j < 7) (hh : hs j = h) {K : Int} (R : RG K h) : Mt yX1_depositsHeld cX1_depositsHeld 3 (some .int) 2 E [.ref (hA E j 3)] hs tp md (some (vI (sumI (gHeld h) (h 3 7)))) hs tp md := by
  refine mk_Mt hE (plainFor_of_name (by decide)) (Nat.le_of_ble_eq_true rfl) (by intro w0 hw0; simp only [List.mem_cons, List.not_mem_nil, or_false] at hw0; rcases hw0 with rfl <;> rfl) (rfl : _ = [_, _, _]) ?_
  intro F C D
  have rm := RG.made R
  refine x_const C dX1_depositsHeld_0 ?_
  refine x_istore_n C dX1_depositsHeld_1 (by decide) (rfl : _ = [_, _, _]) ?_
  refine x_const C dX1_depositsHeld_2 ?_
  refine x_istore_n C dX1_depositsHeld_3 (by decide) (rfl : _ = [_, _, _]) ?_
  have K4 : ∀ (nn : Nat) (i : Int), 0 ≤ i → i ≤ h 3 7 → h 3 7 - i < nn →  G F E hs tp md 4 [some (.ref (hA E j 3)), some (vI (sumI (gHeld h) i)), some (vI i)] [] := by
    intro nn
    induction nn with
    | zero => intro i i0 i1 hz; exact absurd hz (by omega)
    | succ nn ih =>
      intro i i0 i1 hz
      refine x_iload_n C dX1_depositsHeld_4 rfl ?_
      refine x_aload_n C dX1_depositsHeld_5 rfl ?_
      refine gh_3_7 C hj hh q_113 dX1_depositsHeld_6 rfl ?_
      have r_1 := RG.made R
      refine x_icmp_ge 35 C dX1_depositsHeld_9 (by decide) ⟨by omega, by omega⟩ ⟨by omega, by omega⟩ (fun c_2 => ?_) (fun c_2 => ?_)
      · refine x_iload_n C dX1_depositsHeld_35 rfl ?_
        exact x_iret C D rfl dX1_depositsHeld_36 (by rw [show i = h 3 7 by omega]) rfl rfl rfl
      · refine x_aload_n C dX1_depositsHeld_12 rfl ?_
        refine x_iload_n C dX1_depositsHeld_13 rfl ?_
        refine x_callV (nA := 1) (As := [vI i]) (rest := []) C (m_X1_holdsBeds hE hj hh R (by omega) (by omega)) q_326 q_327 q_328 q_59 q_329 (by decide +kernel) (wl_h hj hh 3 (by decide)) rfl rfl (by decide) (by decide) (Nat.le_of_ble_eq_true rfl) dX1_depositsHeld_14 rfl ?_
        refine x_bz_eq 29 C dX1_depositsHeld_17 (by decide) (fun c_3 => ?_) (fun c_3 => ?_)
        · refine x_iinc C dX1_depositsHeld_29 rfl (by decide) (rfl : _ = [_, _, _]) ?_
          refine x_goto 4 C dX1_depositsHeld_32 (by decide) ?_
          refine G.wk (ih (i + 1) (by omega) (by omega) (by omega)) ?_
          simp [leL, sumI_s i0, gHeld, gHold, c_2, c_3]
        · refine x_iload_n C dX1_depositsHeld_20 rfl ?_
          refine x_aload_n C dX1_depositsHeld_21 rfl ?_
          refine gh_3_5 C hj hh q_107 dX1_depositsHeld_22 ?_
          refine x_iload_n C dX1_depositsHeld_25 rfl ?_
          refine lh_9 C hj hh (by omega) (by omega) dX1_depositsHeld_26 rfl ?_
          refine x_iadd C dX1_depositsHeld_27 ?_
          refine x_istore_n C dX1_depositsHeld_28 (by decide) (rfl : _ = [_, _, _]) ?_
          refine x_iinc C dX1_depositsHeld_29 rfl (by decide) (rfl : _ = [_, _, _]) ?_
          refine x_goto 4 C dX1_depositsHeld_32 (by decide) ?_
          refine G.wk (ih (i + 1) (by omega) (by omega) (by omega)) ?_
          simp [leL, sumI_s i0, gHeld, gHold, c_2, c_3]
  exact K4 ((h 3 7 : Int) + 1).toNat 0 (by omega) (by omega) (by omega)
set_option maxRecDepth 100000 in
set_option maxHeartbeats 4000000 in
theorem m_X1_arrivingOn {hs : Nat → HV} {tp md : HV} {E : HE} {j : Nat} {h : HV} (hE : HI E) (hj : j < 7) (hh : hs j = h) {K : Int} (R : RG K h) {d : Int} (d0 : IR d) : Mt yX1_arrivingOn cX1_arrivingOn 4 (some .int) 1 E [.ref (hA E j 3), vI d] hs tp md (some (vI (sumI (gArr h d) (h 3 7)))) hs tp md := by
  refine mk_Mt hE (plainFor_of_name (by decide)) (Nat.le_of_ble_eq_true rfl) (by intro w0 hw0; simp only [List.mem_cons, List.not_mem_nil, or_false] at hw0; rcases hw0 with rfl | rfl <;> rfl) (rfl : _ = [_, _, _, _]) ?_
  intro F C D
  have rm := RG.made R
  refine x_const C dX1_arrivingOn_0 ?_
  refine x_istore_n C dX1_arrivingOn_1 (by decide) (rfl : _ = [_, _, _, _]) ?_
  refine x_const C dX1_arrivingOn_2 ?_
  refine x_istore_n C dX1_arrivingOn_3 (by decide) (rfl : _ = [_, _, _, _]) ?_
  have K4 : ∀ (nn : Nat) (i : Int), 0 ≤ i → i ≤ h 3 7 → h 3 7 - i < nn →  G F E hs tp md 4 [some (.ref (hA E j 3)), some (vI d), some (vI (sumI (gArr h d) i)), some (vI i)] [] := by
    intro nn
    induction nn with
    | zero => intro i i0 i1 hz; exact absurd hz (by omega)
    | succ nn ih =>
      intro i i0 i1 hz
      refine x_iload_n C dX1_arrivingOn_4 rfl ?_
      refine x_aload_n C dX1_arrivingOn_5 rfl ?_
      refine gh_3_7 C hj hh q_113 dX1_arrivingOn_6 rfl ?_
      have r_1 := RG.made R
      refine x_icmp_ge 40 C dX1_arrivingOn_9 (by decide) ⟨by omega, by omega⟩ ⟨by omega, by omega⟩ (fun c_2 => ?_) (fun c_2 => ?_)
      · refine x_iload_n C dX1_arrivingOn_40 rfl ?_
        exact x_iret C D rfl dX1_arrivingOn_41 (by rw [show i = h 3 7 by omega]) rfl rfl rfl
      · refine x_aload_n C dX1_arrivingOn_12 rfl ?_
        refine gh_3_0 C hj hh q_92 dX1_arrivingOn_13 ?_
        refine x_iload_n C dX1_arrivingOn_16 rfl ?_
        refine lh_4 C hj hh (by omega) (by omega) dX1_arrivingOn_17 rfl ?_
        have r_3 := RG.how R (b := i) (by omega) (by omega)
        refine x_if_ne 34 C dX1_arrivingOn_18 (by decide) ⟨by omega, by omega⟩ (fun c_4 => ?_) (fun c_4 => ?_)
        · refine x_iinc C dX1_arrivingOn_34 rfl (by decide) (rfl : _ = [_, _, _, _]) ?_
          refine x_goto 4 C dX1_arrivingOn_37 (by decide) ?_
          refine G.wk (ih (i + 1) (by omega) (by omega) (by omega)) ?_
          simp [leL, sumI_s i0, gArr, c_2, c_4]
        · refine x_aload_n C dX1_arrivingOn_21 rfl ?_
          refine gh_3_1 C hj hh q_95 dX1_arrivingOn_22 ?_
          refine x_iload_n C dX1_arrivingOn_25 rfl ?_
          refine lh_5 C hj hh (by omega) (by omega) dX1_arrivingOn_26 rfl ?_
          have r_5 := RG.arr R (b := i) (by omega) (by omega)
          refine x_iload_n C dX1_arrivingOn_27 rfl ?_
          refine x_icmp_ne 34 C dX1_arrivingOn_28 (by decide) ⟨by omega, by omega⟩ ⟨by omega, by omega⟩ (fun c_6 => ?_) (fun c_6 => ?_)
          · refine x_iinc C dX1_arrivingOn_34 rfl (by decide) (rfl : _ = [_, _, _, _]) ?_
            refine x_goto 4 C dX1_arrivingOn_37 (by decide) ?_
            refine G.wk (ih (i + 1) (by omega) (by omega) (by omega)) ?_
            simp [leL, sumI_s i0, gArr, c_2, c_4, c_6]
          · refine x_iinc C dX1_arrivingOn_31 rfl (by decide) (rfl : _ = [_, _, _, _]) ?_
            refine x_iinc C dX1_arrivingOn_34 rfl (by decide) (rfl : _ = [_, _, _, _]) ?_
            refine x_goto 4 C dX1_arrivingOn_37 (by decide) ?_
            refine G.wk (ih (i + 1) (by omega) (by omega) (by omega)) ?_
            simp [leL, sumI_s i0, gArr, c_2, c_4, c_6]
  exact K4 ((h 3 7 : Int) + 1).toNat 0 (by omega) (by omega) (by omega)
set_option maxRecDepth 100000 in
set_option maxHeartbeats 4000000 in
theorem m_X1_endingOn {hs : Nat → HV} {tp md : HV} {E : HE} {j : Nat} {h : HV} (hE : HI E) (hj : j < 7) (hh : hs j = h) {K : Int} (R : RG K h) {d : Int} (d0 : IR d) : Mt yX1_endingOn cX1_endingOn 4 (some .int) 2 E [.ref (hA E j 3), vI d] hs tp md (some (vI (sumI (gEnds h d) (h 3 7)))) hs tp md := by
  refine mk_Mt hE (plainFor_of_name (by decide)) (Nat.le_of_ble_eq_true rfl) (by intro w0 hw0; simp only [List.mem_cons, List.not_mem_nil, or_false] at hw0; rcases hw0 with rfl | rfl <;> rfl) (rfl : _ = [_, _, _, _]) ?_
  intro F C D
  have rm := RG.made R
  refine x_const C dX1_endingOn_0 ?_
  refine x_istore_n C dX1_endingOn_1 (by decide) (rfl : _ = [_, _, _, _]) ?_
  refine x_const C dX1_endingOn_2 ?_
  refine x_istore_n C dX1_endingOn_3 (by decide) (rfl : _ = [_, _, _, _]) ?_
  have K4 : ∀ (nn : Nat) (i : Int), 0 ≤ i → i ≤ h 3 7 → h 3 7 - i < nn →  G F E hs tp md 4 [some (.ref (hA E j 3)), some (vI d), some (vI (sumI (gEnds h d) i)), some (vI i)] [] := by
    intro nn
    induction nn with
    | zero => intro i i0 i1 hz; exact absurd hz (by omega)
    | succ nn ih =>
      intro i i0 i1 hz
      refine x_iload_n C dX1_endingOn_4 rfl ?_
      refine x_aload_n C dX1_endingOn_5 rfl ?_
      refine gh_3_7 C hj hh q_113 dX1_endingOn_6 rfl ?_
      have r_1 := RG.made R
      refine x_icmp_ge 38 C dX1_endingOn_9 (by decide) ⟨by omega, by omega⟩ ⟨by omega, by omega⟩ (fun c_2 => ?_) (fun c_2 => ?_)
      · refine x_iload_n C dX1_endingOn_38 rfl ?_
        exact x_iret C D rfl dX1_endingOn_39 (by rw [show i = h 3 7 by omega]) rfl rfl rfl
      · refine x_aload_n C dX1_endingOn_12 rfl ?_
        refine x_iload_n C dX1_endingOn_13 rfl ?_
        refine x_callV (nA := 1) (As := [vI i]) (rest := []) C (m_X1_holdsBeds hE hj hh R (by omega) (by omega)) q_326 q_327 q_328 q_59 q_329 (by decide +kernel) (wl_h hj hh 3 (by decide)) rfl rfl (by decide) (by decide) (Nat.le_of_ble_eq_true rfl) dX1_endingOn_14 rfl ?_
        refine x_bz_eq 32 C dX1_endingOn_17 (by decide) (fun c_3 => ?_) (fun c_3 => ?_)
        · refine x_iinc C dX1_endingOn_32 rfl (by decide) (rfl : _ = [_, _, _, _]) ?_
          refine x_goto 4 C dX1_endingOn_35 (by decide) ?_
          refine G.wk (ih (i + 1) (by omega) (by omega) (by omega)) ?_
          simp [leL, sumI_s i0, gEnds, gHold, gEnd, c_2, c_3]
        · refine x_aload_n C dX1_endingOn_20 rfl ?_
          refine x_iload_n C dX1_endingOn_21 rfl ?_
          have ra := RG.arr R i0 (by omega)
          have rn := RG.nig R i0 (by omega)
          refine x_callV (nA := 1) (As := [vI i]) (rest := []) C (m_X1_end hE hj hh (by omega) (by omega)) q_316 q_317 q_318 q_59 q_319 (by decide +kernel) (wl_h hj hh 3 (by decide)) rfl rfl (by decide) (by decide) (Nat.le_of_ble_eq_true rfl) dX1_endingOn_22 rfl ?_
          refine x_iload_n C dX1_endingOn_25 rfl ?_
          refine x_icmp_ne 32 C dX1_endingOn_26 (by decide) ⟨by omega, by omega⟩ ⟨by omega, by omega⟩ (fun c_4 => ?_) (fun c_4 => ?_)
          · refine x_iinc C dX1_endingOn_32 rfl (by decide) (rfl : _ = [_, _, _, _]) ?_
            refine x_goto 4 C dX1_endingOn_35 (by decide) ?_
            refine G.wk (ih (i + 1) (by omega) (by omega) (by omega)) ?_
            simp [leL, sumI_s i0, gEnds, gHold, gEnd, c_2, c_3, c_4]
          · refine x_iinc C dX1_endingOn_29 rfl (by decide) (rfl : _ = [_, _, _, _]) ?_
            refine x_iinc C dX1_endingOn_32 rfl (by decide) (rfl : _ = [_, _, _, _]) ?_
            refine x_goto 4 C dX1_endingOn_35 (by decide) ?_
            refine G.wk (ih (i + 1) (by omega) (by omega) (by omega)) ?_
            simp [leL, sumI_s i0, gEnds, gHold, gEnd, c_2, c_3, c_4]
  exact K4 ((h 3 7 : Int) + 1).toNat 0 (by omega) (by omega) (by omega)
set_option maxRecDepth 100000 in
set_option maxHeartbeats 4000000 in
theorem m_X1_bedsTakenFrom {hs : Nat → HV} {tp md : HV} {E : HE} {j : Nat} {h : HV} (hE : HI E) (hj : j < 7) (hh : hs j = h) {K : Int} (R : RG K h) {x y : Int} (x0 : -100000 ≤ x ∧ x ≤ 100000) (y0 : -100000 ≤ y ∧ y ≤ 100000) : Mt yX1_bedsTakenFrom cX1_bedsTakenFrom 6 (some .int) 2 E [.ref (hA E j 3), vI x, vI y] hs tp md (some (vI (nBeds h x y))) hs tp md := by
  refine mk_Mt hE (plainFor_of_name (by decide)) (Nat.le_of_ble_eq_true rfl) (by intro w0 hw0; simp only [List.mem_cons, List.not_mem_nil, or_false] at hw0; rcases hw0 with rfl | rfl | rfl <;> rfl) (rfl : _ = [_, _, _, _, _, _]) ?_
  intro F C D
  have rm := RG.made R
  refine x_const C dX1_bedsTakenFrom_0 ?_
  refine x_istore_n C dX1_bedsTakenFrom_1 (by decide) (rfl : _ = [_, _, _, _, _, _]) ?_
  refine x_const C dX1_bedsTakenFrom_2 ?_
  refine x_istore C dX1_bedsTakenFrom_3 (by decide) (rfl : _ = [_, _, _, _, _, _]) ?_
  have K5 : ∀ (nn : Nat) (i : Int), 0 ≤ i → i ≤ h 3 7 → h 3 7 - i < nn →  G F E hs tp md 5 [some (.ref (hA E j 3)), some (vI x), some (vI y), some (vI (sumI (gBeds h x y) i)), some (vI i), none] [] := by
    intro nn
    induction nn with
    | zero => intro i i0 i1 hz; exact absurd hz (by omega)
    | succ nn ih =>
      intro i i0 i1 hz
      refine x_iload C dX1_bedsTakenFrom_5 rfl ?_
      refine x_aload_n C dX1_bedsTakenFrom_7 rfl ?_
      refine gh_3_7 C hj hh q_113 dX1_bedsTakenFrom_8 rfl ?_
      have r_1 := RG.made R
      refine x_icmp_ge 73 C dX1_bedsTakenFrom_11 (by decide) ⟨by omega, by omega⟩ ⟨by omega, by omega⟩ (fun c_2 => ?_) (fun c_2 => ?_)
      · refine x_iload_n C dX1_bedsTakenFrom_73 rfl ?_
        exact x_iret C D rfl dX1_bedsTakenFrom_74 (by rw [show i = h 3 7 by omega]) rfl rfl rfl
      · refine x_aload_n C dX1_bedsTakenFrom_14 rfl ?_
        refine x_iload C dX1_bedsTakenFrom_15 rfl ?_
        have ra := RG.arr R i0 (by omega)
        have rn := RG.nig R i0 (by omega)
        refine x_callV (nA := 1) (As := [vI i]) (rest := []) C (m_X1_end hE hj hh (by omega) (by omega)) q_316 q_317 q_318 q_59 q_319 (by decide +kernel) (wl_h hj hh 3 (by decide)) rfl rfl (by decide) (by decide) (Nat.le_of_ble_eq_true rfl) dX1_bedsTakenFrom_17 rfl ?_
        refine x_iload_n C dX1_bedsTakenFrom_20 rfl ?_
        refine x_const C dX1_bedsTakenFrom_21 ?_
        refine x_iadd C dX1_bedsTakenFrom_22 ?_
        refine x_min C q_320 q_321 q_65 q_322 (by decide) (Nat.le_of_ble_eq_true rfl) ⟨by omega, by omega⟩ ⟨by omega, by omega⟩ dX1_bedsTakenFrom_23 ?_
        refine x_aload_n C dX1_bedsTakenFrom_26 rfl ?_
        refine gh_3_1 C hj hh q_95 dX1_bedsTakenFrom_27 ?_
        refine x_iload C dX1_bedsTakenFrom_30 rfl ?_
        refine lh_5 C hj hh (by omega) (by omega) dX1_bedsTakenFrom_32 rfl ?_
        have r_3 := RG.arr R (b := i) (by omega) (by omega)
        refine x_iload_n C dX1_bedsTakenFrom_33 rfl ?_
        refine x_max C q_323 q_324 q_65 q_325 (by decide) (Nat.le_of_ble_eq_true rfl) ⟨by omega, by omega⟩ ⟨by omega, by omega⟩ dX1_bedsTakenFrom_34 ?_
        refine x_isub C dX1_bedsTakenFrom_37 ?_
        refine x_istore C dX1_bedsTakenFrom_38 (by decide) (rfl : _ = [_, _, _, _, _, _]) ?_
        refine x_aload_n C dX1_bedsTakenFrom_40 rfl ?_
        refine x_iload C dX1_bedsTakenFrom_41 rfl ?_
        refine x_callV (nA := 1) (As := [vI i]) (rest := []) C (m_X1_holdsBeds hE hj hh R (by omega) (by omega)) q_326 q_327 q_328 q_59 q_329 (by decide +kernel) (wl_h hj hh 3 (by decide)) rfl rfl (by decide) (by decide) (Nat.le_of_ble_eq_true rfl) dX1_bedsTakenFrom_43 rfl ?_
        refine x_bz_eq 67 C dX1_bedsTakenFrom_46 (by decide) (fun c_4 => ?_) (fun c_4 => ?_)
        · refine x_iinc C dX1_bedsTakenFrom_67 rfl (by decide) (rfl : _ = [_, _, _, _, _, _]) ?_
          refine x_goto 5 C dX1_bedsTakenFrom_70 (by decide) ?_
          refine G.wk (ih (i + 1) (by omega) (by omega) (by omega)) ?_
          have e9 : gBeds h x y i = (0 : Int) := if_neg (fun q => absurd q.1 c_4)
          simp only [leL, sumI_s i0, e9, Int.add_zero, and_self]
        · refine x_iload C dX1_bedsTakenFrom_49 rfl ?_
          refine x_if_le 67 C dX1_bedsTakenFrom_51 (by decide) ⟨by split <;> split <;> omega, by split <;> split <;> omega⟩ (fun c_5 => ?_) (fun c_5 => ?_)
          · refine x_iinc C dX1_bedsTakenFrom_67 rfl (by decide) (rfl : _ = [_, _, _, _, _, _]) ?_
            refine x_goto 5 C dX1_bedsTakenFrom_70 (by decide) ?_
            refine G.wk (ih (i + 1) (by omega) (by omega) (by omega)) ?_
            have e9 : gBeds h x y i = (0 : Int) := if_neg (fun q => absurd q.2 (Int.not_lt.mpr c_5))
            simp only [leL, sumI_s i0, e9, Int.add_zero, and_self]
          · refine x_iload_n C dX1_bedsTakenFrom_54 rfl ?_
            refine x_iload C dX1_bedsTakenFrom_55 rfl ?_
            refine x_aload_n C dX1_bedsTakenFrom_57 rfl ?_
            refine gh_3_3 C hj hh q_101 dX1_bedsTakenFrom_58 ?_
            refine x_iload C dX1_bedsTakenFrom_61 rfl ?_
            refine lh_7 C hj hh (by omega) (by omega) dX1_bedsTakenFrom_63 rfl ?_
            have r_6 := RG.per R (b := i) (by omega) (by omega)
            refine x_imul C dX1_bedsTakenFrom_64 ?_
            refine x_iadd C dX1_bedsTakenFrom_65 ?_
            refine x_istore_n C dX1_bedsTakenFrom_66 (by decide) (rfl : _ = [_, _, _, _, _, _]) ?_
            refine x_iinc C dX1_bedsTakenFrom_67 rfl (by decide) (rfl : _ = [_, _, _, _, _, _]) ?_
            refine x_goto 5 C dX1_bedsTakenFrom_70 (by decide) ?_
            refine G.wk (ih (i + 1) (by omega) (by omega) (by omega)) ?_
            have e9 : gBeds h x y i = gShared h x y i * h 7 i := if_pos ⟨c_4, c_5⟩
            simp only [leL, sumI_s i0, e9, Int.add_zero, and_self]
  exact K5 ((h 3 7 : Int) + 1).toNat 0 (by omega) (by omega) (by omega)
set_option maxRecDepth 100000 in
set_option maxHeartbeats 4000000 in
theorem m_X1_bedsTakenIn {hs : Nat → HV} {tp md : HV} {E : HE} {j : Nat} {h : HV} (hE : HI E) (hj : j < 7) (hh : hs j = h) {K : Int} (R : RG K h) {x : Int} (x0 : -100000 ≤ x ∧ x ≤ 100000) : Mt yX1_bedsTakenIn cX1_bedsTakenIn 2 (some .int) 3 E [.ref (hA E j 3), vI x] hs tp md (some (vI (nBeds h x x))) hs tp md := by
  refine mk_Mt hE (plainFor_of_name (by decide)) (Nat.le_of_ble_eq_true rfl) (by intro w0 hw0; simp only [List.mem_cons, List.not_mem_nil, or_false] at hw0; rcases hw0 with rfl | rfl <;> rfl) (rfl : _ = [_, _]) ?_
  intro F C D
  refine x_aload_n C dX1_bedsTakenIn_0 rfl ?_
  refine x_iload_n C dX1_bedsTakenIn_1 rfl ?_
  refine x_iload_n C dX1_bedsTakenIn_2 rfl ?_
  refine x_callV (nA := 2) (As := [vI x, vI x]) (rest := []) C (m_X1_bedsTakenFrom hE hj hh R ⟨by omega, by omega⟩ ⟨by omega, by omega⟩) q_312 q_313 q_314 q_59 q_315 (by decide +kernel) (wl_h hj hh 3 (by decide)) rfl rfl (by decide) (by decide) (Nat.le_of_ble_eq_true rfl) dX1_bedsTakenIn_3 rfl ?_
  exact x_iret C D rfl dX1_bedsTakenIn_6 rfl rfl rfl rfl
end
section
/-! the larder -/
def thr (f : Int → Int) (t n : Int) : Int → Int := fun s => if 0 ≤ s ∧ s < 30 ∧ (s - t) % 30 < n then 0 else f s
theorem thr_0 {f : Int → Int} {t : Int} : thr f t 0 = f := by funext s; unfold thr; rw [if_neg (by omega)]
theorem thr_s {f : Int → Int} {t n : Int} (h0 : 0 ≤ n) (h1 : n < 30) : up1 (thr f t n) ((t - 30 + n) % 30) 0 = thr f t (n + 1) := by
  funext s
  unfold up1 thr
  by_cases e : s = (t - 30 + n) % 30
  · rw [if_pos e, if_pos (by omega)]
  · rw [if_neg e]
    by_cases q : 0 ≤ s ∧ s < 30 ∧ (s - t) % 30 < n
    · rw [if_pos q, if_pos (by omega)]
    · rw [if_neg q, if_neg (by omega)]
theorem thr_at {f : Int → Int} {t n : Int} (h0 : 0 ≤ n) (h1 : n < 30) : thr f t n ((t - 30 + n) % 30) = f ((t - 30 + n) % 30) := by unfold thr; rw [if_neg (by omega)]
abbrev nSp (f : Int → Int) (t n : Int) : Int := sumI (fun q => f ((t - 30 + q) % 30)) n
abbrev lThr (h : HV) (t k : Int) : HV := upr h 12 (thr (h 12) t (31 - k))
abbrev lStore (h : HV) (k p t : Int) : HV := if k = 0 then upr h 12 (up1 (h 12) (t % 30) (h 12 (t % 30) + p)) else upr h 11 (up1 (h 11) 1 (h 11 1 + p))
def eatS (f : Int → Int) (t n : Int) : Int := sumI (fun q => f ((t - 30 + 1 + q) % 30)) n
def eatE (f : Int → Int) (t p n : Int) : Int := if p ≤ eatS f t n then p else eatS f t n
def eatR (f : Int → Int) (t p n : Int) : Int → Int := fun s => if 0 ≤ s ∧ s < 30 ∧ (s - t - 1) % 30 < n then f s - (eatE f t p ((s - t - 1) % 30 + 1) - eatE f t p ((s - t - 1) % 30)) else f s
theorem eatS_s {f : Int → Int} {t n : Int} (h0 : 0 ≤ n) : eatS f t (n + 1) = eatS f t n + f ((t - 30 + 1 + n) % 30) := by unfold eatS; rw [sumI_s h0]
theorem eatE_0 {f : Int → Int} {t p : Int} (hp : 0 ≤ p) : eatE f t p 0 = 0 := by unfold eatE; rw [show eatS f t 0 = 0 from rfl]; split <;> omega
theorem eatE_s {f : Int → Int} {t p n : Int} (h0 : 0 ≤ n) (hf : 0 ≤ f ((t - 30 + 1 + n) % 30)) : (if p - eatE f t p n ≤ f ((t - 30 + 1 + n) % 30) then p - eatE f t p n else f ((t - 30 + 1 + n) % 30)) = eatE f t p (n + 1) - eatE f t p n := by
  unfold eatE; rw [eatS_s h0]; split <;> split <;> split <;> omega
theorem eatR_0 {f : Int → Int} {t p : Int} : eatR f t p 0 = f := by funext s; unfold eatR; rw [if_neg (by omega)]
theorem eatR_at {f : Int → Int} {t p n : Int} (h0 : 0 ≤ n) (h1 : n < 30) : eatR f t p n ((t - 30 + 1 + n) % 30) = f ((t - 30 + 1 + n) % 30) := by unfold eatR; rw [if_neg (by omega)]
theorem eatR_s {f : Int → Int} {t p n : Int} (h0 : 0 ≤ n) (h1 : n < 30) : up1 (eatR f t p n) ((t - 30 + 1 + n) % 30) (f ((t - 30 + 1 + n) % 30) - (eatE f t p (n + 1) - eatE f t p n)) = eatR f t p (n + 1) := by
  funext s
  unfold up1 eatR
  by_cases e : s = (t - 30 + 1 + n) % 30
  · have e2 : (s - t - 1) % 30 = n := by omega
    rw [if_pos e, if_pos (by omega), e2, ← e]
  · rw [if_neg e]
    by_cases q : 0 ≤ s ∧ s < 30 ∧ (s - t - 1) % 30 < n
    · rw [if_pos q, if_pos (by omega)]
    · rw [if_neg q, if_neg (by omega)]
theorem eatE_le {f : Int → Int} {t p n : Int} : eatE f t p n ≤ p := by unfold eatE; split <;> omega
theorem eatE_ge {f : Int → Int} {t p n : Int} (hp : 0 ≤ p) (h0 : 0 ≤ n) (hf : ∀ s, 0 ≤ s → s < 30 → 0 ≤ f s) : 0 ≤ eatE f t p n := by
  have h1 : 0 ≤ eatS f t n := by
    have h2 := sumI_sign (f := fun q => f ((t - 30 + 1 + q) % 30)) h0 fun k _ _ => hf _ (by omega) (by omega)
    exact h2
  unfold eatE; split <;> omega
abbrev eatD (h : HV) (p t : Int) : Int := if p - eatE (h 12) t p 30 ≤ h 11 1 then p - eatE (h 12) t p 30 else h 11 1
abbrev lEat (h : HV) (p t : Int) : HV := upr (upr h 12 (eatR (h 12) t p 30)) 11 (up1 (h 11) 1 (h 11 1 - eatD h p t))
abbrev nEat (h : HV) (p t : Int) : Int := eatE (h 12) t p 30 + eatD h p t
def srch (g : Int → Int) (no : Int) : Nat → Int → Int → Int
  | 0, _, _ => no
  | n + 1, k, l => if g k = 0 then srch g no n (k + 1) l else if l = 0 then k else srch g no n (k + 1) (l - 1)
def srchI (g : Int → Int) (no n k l : Int) : Int := srch g no n.toNat k l
theorem srchI_0 {g : Int → Int} {no n k l : Int} (h : n ≤ 0) : srchI g no n k l = no := by unfold srchI; rw [show n.toNat = 0 by omega]; rfl
theorem srchI_s {g : Int → Int} {no n k l : Int} (h : 0 < n) : srchI g no n k l = if g k = 0 then srchI g no (n - 1) (k + 1) l else if l = 0 then k else srchI g no (n - 1) (k + 1) (l - 1) := by
  unfold srchI; rw [show n.toNat = (n - 1).toNat + 1 by omega]; rfl
abbrev lRank (h : HV) (t r : Int) : Int := srchI (fun d => h 12 (d % 30)) (-1000005) 30 (t - 30) r
/-! the orders -/
def shC (f : Int → Int) (n : Int) : Int → Int := fun k => if 0 ≤ k ∧ k < n then f (k + 1) else f k
theorem shC_0 {f : Int → Int} : shC f 0 = f := by funext s; unfold shC; rw [if_neg (by omega)]
theorem shC_s {f : Int → Int} {n : Int} (h0 : 0 ≤ n) : up1 (shC f n) (n + 1 - 1) (shC f n (n + 1)) = shC f (n + 1) := by
  funext s
  unfold up1 shC
  by_cases e : s = n + 1 - 1
  · rw [if_pos e, if_neg (by omega), if_pos (by omega)]
    exact congrArg f (by omega)
  · rw [if_neg e]
    by_cases q : 0 ≤ s ∧ s < n
    · rw [if_pos q, if_pos (by omega)]
    · rw [if_neg q, if_neg (by omega)]
abbrev oApp (h : HV) (k w : Int) : HV := upr (upr (upr h 14 (up1 (h 14) (h 13 2) k)) 15 (up1 (h 15) (h 13 2) w)) 13 (up1 (h 13) 2 (h 13 2 + 1))
abbrev oLast (h : HV) : HV := upr h 13 (up1 (h 13) 2 (h 13 2 - 1))
abbrev oRF (h : HV) : HV := upr (upr (upr h 14 (shC (h 14) (h 13 2 - 1))) 15 (shC (h 15) (h 13 2 - 1))) 13 (up1 (h 13) 2 (h 13 2 - 1))
abbrev oTak (h : HV) (m : Int) : Int := if m ≤ h 15 0 then m else h 15 0
abbrev oTF (h : HV) (m : Int) : HV := if h 15 0 - oTak h m = 0 then oRF (upr h 15 (up1 (h 15) 0 (h 15 0 - oTak h m))) else upr h 15 (up1 (h 15) 0 (h 15 0 - oTak h m))
set_option maxRecDepth 100000 in
set_option maxHeartbeats 4000000 in
theorem m_J9_floorMod_7cf53 {hs : Nat → HV} {tp md : HV} {E : HE} (hE : HI E) {d : Int} (d0 : -1000000 ≤ d ∧ d ≤ 1000000) : Mt yJ9_floorMod_7cf53 cJ9_floorMod_7cf53 3 (some .int) 1 E [vI d, vI 30] hs tp md (some (vI (d % 30))) hs tp md := by
  refine mk_Mt hE (by decide +kernel) (Nat.le_of_ble_eq_true rfl) (by intro w0 hw0; simp only [List.mem_cons, List.not_mem_nil, or_false] at hw0; rcases hw0 with rfl | rfl <;> rfl) (rfl : _ = [_, _, _]) ?_
  intro F C D
  have e8 := Int.emod_nonneg d (by decide : (30 : Int) ≠ 0)
  have e7 := xr_neg (a := d) (b := 30) ⟨by omega, by omega⟩ ⟨by decide, by decide⟩ (by decide)
  have e5 : d.tmod 30 = if 0 ≤ d ∨ (30 : Int) ∣ d then d % 30 else d % 30 - 30 := by rw [Int.tmod_eq_emod]; split <;> simp
  have e6 : -30 < d.tmod 30 ∧ d.tmod 30 < 30 := by rw [e5]; split <;> omega
  refine x_iload_n C dJ9_floorMod_7cf53_0 rfl ?_
  refine x_iload_n C dJ9_floorMod_7cf53_1 rfl ?_
  refine x_iremT C dJ9_floorMod_7cf53_2 ⟨(by omega), (by omega)⟩ ⟨by omega, by omega⟩ (by omega) ?_
  refine x_istore_n C dJ9_floorMod_7cf53_3 (by decide) (rfl : _ = [_, _, _]) ?_
  refine x_iload_n C dJ9_floorMod_7cf53_4 rfl ?_
  refine x_iload_n C dJ9_floorMod_7cf53_5 rfl ?_
  refine x_ixor C dJ9_floorMod_7cf53_6 ?_
  refine x_if_ge 18 C dJ9_floorMod_7cf53_7 (by decide) xr_IR (fun c_1 => ?_) (fun c_1 => ?_)
  · refine x_iload_n C dJ9_floorMod_7cf53_18 rfl ?_
    exact x_iret C D rfl dJ9_floorMod_7cf53_19 (by rw [e5] at *; split at * <;> omega) rfl rfl rfl
  · refine x_iload_n C dJ9_floorMod_7cf53_10 rfl ?_
    refine x_if_eq 18 C dJ9_floorMod_7cf53_11 (by decide) ⟨by omega, by omega⟩ (fun c_2 => ?_) (fun c_2 => ?_)
    · refine x_iload_n C dJ9_floorMod_7cf53_18 rfl ?_
      exact x_iret C D rfl dJ9_floorMod_7cf53_19 (by rw [e5] at *; split at * <;> omega) rfl rfl rfl
    · refine x_iload_n C dJ9_floorMod_7cf53_14 rfl ?_
      refine x_iload_n C dJ9_floorMod_7cf53_15 rfl ?_
      refine x_iadd C dJ9_floorMod_7cf53_16 ?_
      exact x_iret C D rfl dJ9_floorMod_7cf53_17 (by rw [e5] at *; split at * <;> omega) rfl rfl rfl
set_option maxRecDepth 100000 in
set_option maxHeartbeats 4000000 in
theorem m_X4_slotOf {hs : Nat → HV} {tp md : HV} {E : HE} (hE : HI E) {d : Int} (d0 : -1000000 ≤ d ∧ d ≤ 1000000) : Mt yX4_slotOf cX4_slotOf 1 (some .int) 2 E [vI d] hs tp md (some (vI (d % 30))) hs tp md := by
  refine mk_Mt hE (plainFor_of_name (by decide)) (Nat.le_of_ble_eq_true rfl) (by intro w0 hw0; simp only [List.mem_cons, List.not_mem_nil, or_false] at hw0; rcases hw0 with rfl <;> rfl) (rfl : _ = [_]) ?_
  intro F C D
  refine x_iload_n C dX4_slotOf_0 rfl ?_
  refine x_bipush C dX4_slotOf_1 (by decide) ?_
  refine x_callS (nA := 2) (As := [vI d, vI 30]) (rest := []) C (m_J9_floorMod_7cf53 hE (d := d) ⟨by omega, by omega⟩) q_501 q_502 q_65 q_503 (by decide +kernel) rfl (by decide) (by decide) (Nat.le_of_ble_eq_true rfl) dX4_slotOf_3 rfl ?_
  exact x_iret C D rfl dX4_slotOf_6 rfl rfl rfl rfl
set_option maxRecDepth 100000 in
set_option maxHeartbeats 4000000 in
theorem m_X4_freshOf {hs : Nat → HV} {tp md : HV} {E : HE} {j : Nat} {h : HV} (hE : HI E) (hj : j < 7) (hh : hs j = h) {d v9 : Int} (d0 : -1000000 ≤ d ∧ d ≤ 1000000) (hv : h 12 (d % 30) = v9) : Mt yX4_freshOf cX4_freshOf 2 (some .int) 3 E [.ref (hA E j 11), vI d] hs tp md (some (vI v9)) hs tp md := by
  refine mk_Mt hE (plainFor_of_name (by decide)) (Nat.le_of_ble_eq_true rfl) (by intro w0 hw0; simp only [List.mem_cons, List.not_mem_nil, or_false] at hw0; rcases hw0 with rfl | rfl <;> rfl) (rfl : _ = [_, _]) ?_
  intro F C D
  refine x_aload_n C dX4_freshOf_0 rfl ?_
  refine gh_11_0 C hj hh q_140 dX4_freshOf_1 ?_
  refine x_iload_n C dX4_freshOf_4 rfl ?_
  refine x_callS (nA := 1) (As := [vI d]) (rest := [.ref (hA E j 12)]) C (m_X4_slotOf hE (d := d) ⟨by omega, by omega⟩) q_498 q_499 q_60 q_500 (by decide +kernel) rfl (by decide) (by decide) (Nat.le_of_ble_eq_true rfl) dX4_freshOf_5 rfl ?_
  refine lh_12 C hj hh (by omega) (by omega) dX4_freshOf_8 rfl ?_
  exact x_iret C D rfl dX4_freshOf_9 hv rfl rfl rfl
set_option maxRecDepth 100000 in
set_option maxHeartbeats 4000000 in
theorem m_X4_allFresh {hs : Nat → HV} {tp md : HV} {E : HE} {j : Nat} {h : HV} (hE : HI E) (hj : j < 7) (hh : hs j = h) {K : Int} (R : RG K h) : Mt yX4_allFresh cX4_allFresh 3 (some .int) 1 E [.ref (hA E j 11)] hs tp md (some (vI (sumI (h 12) 30))) hs tp md := by
  refine mk_Mt hE (plainFor_of_name (by decide)) (Nat.le_of_ble_eq_true rfl) (by intro w0 hw0; simp only [List.mem_cons, List.not_mem_nil, or_false] at hw0; rcases hw0 with rfl <;> rfl) (rfl : _ = [_, _, _]) ?_
  intro F C D
  refine x_const C dX4_allFresh_0 ?_
  refine x_istore_n C dX4_allFresh_1 (by decide) (rfl : _ = [_, _, _]) ?_
  refine x_const C dX4_allFresh_2 ?_
  refine x_istore_n C dX4_allFresh_3 (by decide) (rfl : _ = [_, _, _]) ?_
  have K4 : ∀ (nn : Nat) (i : Int), 0 ≤ i → i ≤ 30 → 30 - i < nn →  G F E hs tp md 4 [some (.ref (hA E j 11)), some (vI (sumI (h 12) i)), some (vI i)] [] := by
    intro nn
    induction nn with
    | zero => intro i i0 i1 hz; exact absurd hz (by omega)
    | succ nn ih =>
      intro i i0 i1 hz
      refine x_iload_n C dX4_allFresh_4 rfl ?_
      refine x_bipush C dX4_allFresh_5 (by decide) ?_
      refine x_icmp_ge 25 C dX4_allFresh_7 (by decide) ⟨by omega, by omega⟩ ⟨by omega, by omega⟩ (fun c_1 => ?_) (fun c_1 => ?_)
      · refine x_iload_n C dX4_allFresh_25 rfl ?_
        exact x_iret C D rfl dX4_allFresh_26 (by rw [show i = 30 by omega]) rfl rfl rfl
      · refine x_iload_n C dX4_allFresh_10 rfl ?_
        refine x_aload_n C dX4_allFresh_11 rfl ?_
        refine gh_11_0 C hj hh q_140 dX4_allFresh_12 ?_
        refine x_iload_n C dX4_allFresh_15 rfl ?_
        refine lh_12 C hj hh (by omega) (by omega) dX4_allFresh_16 rfl ?_
        refine x_iadd C dX4_allFresh_17 ?_
        refine x_istore_n C dX4_allFresh_18 (by decide) (rfl : _ = [_, _, _]) ?_
        refine x_iinc C dX4_allFresh_19 rfl (by decide) (rfl : _ = [_, _, _]) ?_
        refine x_goto 4 C dX4_allFresh_22 (by decide) ?_
        refine G.wk (ih (i + 1) (by omega) (by omega) (by omega)) ?_
        simp only [leL, sumI_s i0, and_self]
  exact K4 ((30 : Int) + 1).toNat 0 (by omega) (by omega) (by omega)
set_option maxRecDepth 100000 in
set_option maxHeartbeats 4000000 in
theorem m_X4_throwSpoiltAway {hs : Nat → HV} {tp md : HV} {E : HE} {j : Nat} {h : HV} (hE : HI E) (hj : j < 7) (hh : hs j = h) {t : Int} (t0 : 0 ≤ t ∧ t ≤ 1100) {k : Int} (k0 : 1 ≤ k ∧ k ≤ 30) {hs9 : Nat → HV} (he : putH hs j (lThr h t k) = hs9) : Mt yX4_throwSpoiltAway cX4_throwSpoiltAway 5 (some .int) 4 E [.ref (hA E j 11), vI t, vI k] hs tp md (some (vI (nSp (h 12) t (31 - k)))) hs9 tp md := by
  subst he
  refine mk_Mt hE (plainFor_of_name (by decide)) (Nat.le_of_ble_eq_true rfl) (by intro w0 hw0; simp only [List.mem_cons, List.not_mem_nil, or_false] at hw0; rcases hw0 with rfl | rfl | rfl <;> rfl) (rfl : _ = [_, _, _, _, _]) ?_
  intro F C D
  refine x_const C dX4_throwSpoiltAway_0 ?_
  refine x_istore_n C dX4_throwSpoiltAway_1 (by decide) (rfl : _ = [_, _, _, _, _]) ?_
  refine x_iload_n C dX4_throwSpoiltAway_2 rfl ?_
  refine x_bipush C dX4_throwSpoiltAway_3 (by decide) ?_
  refine x_isub C dX4_throwSpoiltAway_5 ?_
  refine x_istore C dX4_throwSpoiltAway_6 (by decide) (rfl : _ = [_, _, _, _, _]) ?_
  have K8 : ∀ (nn : Nat) (n : Int), 0 ≤ n → n ≤ 31 - k → 40 - n < nn →  G F E (putH hs j (upr h 12 (thr (h 12) t n))) tp md 8 [some (.ref (hA E j 11)), some (vI t), some (vI k), some (vI (nSp (h 12) t n)), some (vI (t - 30 + n))] [] := by
    intro nn
    induction nn with
    | zero => intro n n0 n1 hz; exact absurd hz (by omega)
    | succ nn ih =>
      intro n n0 n1 hz
      refine x_iload C dX4_throwSpoiltAway_8 rfl ?_
      refine x_iload_n C dX4_throwSpoiltAway_10 rfl ?_
      refine x_iload_n C dX4_throwSpoiltAway_11 rfl ?_
      refine x_isub C dX4_throwSpoiltAway_12 ?_
      refine x_icmp_gt 42 C dX4_throwSpoiltAway_13 (by decide) ⟨by omega, by omega⟩ ⟨by omega, by omega⟩ (fun c_1 => ?_) (fun c_1 => ?_)
      · refine x_iload_n C dX4_throwSpoiltAway_42 rfl ?_
        exact x_iret C D rfl dX4_throwSpoiltAway_43 (by rw [show n = 31 - k by omega]) (by rw [show n = 31 - k by omega]) rfl rfl
      · refine x_iload_n C dX4_throwSpoiltAway_16 rfl ?_
        refine x_aload_n C dX4_throwSpoiltAway_17 rfl ?_
        refine x_iload C dX4_throwSpoiltAway_18 rfl ?_
        refine x_callV (nA := 1) (As := [vI (t - 30 + n)]) (rest := [vI (nSp (h 12) t n)]) C (m_X4_freshOf hE hj putH_same (d := t - 30 + n) ⟨by omega, by omega⟩ (v9 := h 12 ((t - 30 + n) % 30)) (thr_at n0 (by omega))) q_494 q_495 q_496 q_60 q_497 (by decide +kernel) (wl_h hj putH_same 11 (by decide)) rfl rfl (by decide) (by decide) (Nat.le_of_ble_eq_true rfl) dX4_throwSpoiltAway_20 rfl ?_
        refine x_iadd C dX4_throwSpoiltAway_23 ?_
        refine x_istore_n C dX4_throwSpoiltAway_24 (by decide) (rfl : _ = [_, _, _, _, _]) ?_
        refine x_aload_n C dX4_throwSpoiltAway_25 rfl ?_
        refine gh_11_0 C hj putH_same q_140 dX4_throwSpoiltAway_26 ?_
        refine x_iload C dX4_throwSpoiltAway_29 rfl ?_
        refine x_callS (nA := 1) (As := [vI (t - 30 + n)]) (rest := [.ref (hA E j 12)]) C (m_X4_slotOf hE (d := t - 30 + n) ⟨by omega, by omega⟩) q_498 q_499 q_60 q_500 (by decide +kernel) rfl (by decide) (by decide) (Nat.le_of_ble_eq_true rfl) dX4_throwSpoiltAway_31 rfl ?_
        refine x_const C dX4_throwSpoiltAway_34 ?_
        refine sh_12 C hj putH_same (by omega) (by omega) dX4_throwSpoiltAway_35 putH_put ?_
        refine x_iinc C dX4_throwSpoiltAway_36 rfl (by decide) (rfl : _ = [_, _, _, _, _]) ?_
        refine x_goto 8 C dX4_throwSpoiltAway_39 (by decide) ?_
        refine G.of (G.wk (ih (n + 1) (by omega) (by omega) (by omega)) ?_) ?_ rfl rfl rfl
        · simp only [leL, sumI_s n0, Int.add_assoc, and_self]
        · rw [← thr_s n0 (by omega)]; exact congrArg (putH hs j) upr_upr
  refine G.of (G.wk (K8 41 0 (by omega) (by omega) (by omega)) ?_) ?_ rfl rfl rfl
  · simp only [leL, Int.add_zero, and_self]; trivial
  · rw [thr_0, upr_id, putH_of hh]
set_option maxRecDepth 100000 in
set_option maxHeartbeats 4000000 in
theorem m_X4_store {hs : Nat → HV} {tp md : HV} {E : HE} {j : Nat} {h : HV} (hE : HI E) (hj : j < 7) (hh : hs j = h) {k p t : Int} (k0 : 0 ≤ k ∧ k ≤ 1) (t0 : 0 ≤ t ∧ t ≤ 1100) {hs9 : Nat → HV} (he : putH hs j (lStore h k p t) = hs9) : Mt yX4_store cX4_store 4 none 3 E [.ref (hA E j 11), vI k, vI p, vI t] hs tp md none hs9 tp md := by
  subst he
  refine mk_Mt hE (plainFor_of_name (by decide)) (Nat.le_of_ble_eq_true rfl) (by intro w0 hw0; simp only [List.mem_cons, List.not_mem_nil, or_false] at hw0; rcases hw0 with rfl | rfl | rfl | rfl <;> rfl) (rfl : _ = [_, _, _, _]) ?_
  intro F C D
  refine x_iload_n C dX4_store_0 rfl ?_
  refine x_if_ne 20 C dX4_store_1 (by decide) ⟨by omega, by omega⟩ (fun c_1 => ?_) (fun c_1 => ?_)
  · refine x_aload_n C dX4_store_20 rfl ?_
    refine x_dup C dX4_store_21 rfl ?_
    refine gh_11_1 C hj hh q_141 dX4_store_22 rfl ?_
    refine x_iload_n C dX4_store_25 rfl ?_
    refine x_iadd C dX4_store_26 ?_
    refine ph_11_1 C hj hh q_141 dX4_store_27 rfl ?_
    exact x_vret C D dX4_store_30 (by unfold lStore; rw [if_neg c_1]) rfl rfl
  · refine x_aload_n C dX4_store_4 rfl ?_
    refine gh_11_0 C hj hh q_140 dX4_store_5 ?_
    refine x_iload_n C dX4_store_8 rfl ?_
    refine x_callS (nA := 1) (As := [vI t]) (rest := [.ref (hA E j 12)]) C (m_X4_slotOf hE (d := t) ⟨by omega, by omega⟩) q_498 q_499 q_60 q_500 (by decide +kernel) rfl (by decide) (by decide) (Nat.le_of_ble_eq_true rfl) dX4_store_9 rfl ?_
    refine x_dup2 C dX4_store_12 rfl rfl ?_
    refine lh_12 C hj hh (by omega) (by omega) dX4_store_13 rfl ?_
    refine x_iload_n C dX4_store_14 rfl ?_
    refine x_iadd C dX4_store_15 ?_
    refine sh_12 C hj hh (by omega) (by omega) dX4_store_16 rfl ?_
    refine x_goto 30 C dX4_store_17 (by decide) ?_
    exact x_vret C D dX4_store_30 (by unfold lStore; rw [if_pos c_1]) rfl rfl
set_option maxRecDepth 100000 in
set_option maxHeartbeats 4000000 in
theorem m_X4_eat {hs : Nat → HV} {tp md : HV} {E : HE} {j : Nat} {h : HV} (hE : HI E) (hj : j < 7) (hh : hs j = h) {K : Int} (R : RG K h) (hK : K ≤ 1000000) {p t : Int} (p0 : 0 ≤ p ∧ p ≤ 100000) (t0 : 0 ≤ t ∧ t ≤ 1100) {hs9 : Nat → HV} (he : putH hs j (lEat h p t) = hs9) : Mt yX4_eat cX4_eat 6 (some .int) 4 E [.ref (hA E j 11), vI p, vI t] hs tp md (some (vI (nEat h p t))) hs9 tp md := by
  subst he
  refine mk_Mt hE (plainFor_of_name (by decide)) (Nat.le_of_ble_eq_true rfl) (by intro w0 hw0; simp only [List.mem_cons, List.not_mem_nil, or_false] at hw0; rcases hw0 with rfl | rfl | rfl <;> rfl) (rfl : _ = [_, _, _, _, _, _]) ?_
  intro F C D
  have rd := RG.dry R
  have hf : ∀ s, 0 ≤ s → s < 30 → 0 ≤ h 12 s ∧ h 12 s ≤ K := fun s a b => RG.fre R a b
  refine x_const C dX4_eat_0 ?_
  refine x_istore_n C dX4_eat_1 (by decide) (rfl : _ = [_, _, _, _, _, _]) ?_
  refine x_iload_n C dX4_eat_2 rfl ?_
  refine x_bipush C dX4_eat_3 (by decide) ?_
  refine x_isub C dX4_eat_5 ?_
  refine x_const C dX4_eat_6 ?_
  refine x_iadd C dX4_eat_7 ?_
  refine x_istore C dX4_eat_8 (by decide) (rfl : _ = [_, _, _, _, _, _]) ?_
  have K10 : ∀ (nn : Nat) (n : Int), 0 ≤ n → n ≤ 30 → 40 - n < nn →  G F E (putH hs j (upr h 12 (eatR (h 12) t p n))) tp md 10 [some (.ref (hA E j 11)), some (vI p), some (vI t), some (vI (eatE (h 12) t p n)), some (vI (t - 30 + 1 + n)), none] [] := by
    intro nn
    induction nn with
    | zero => intro n n0 n1 hz; exact absurd hz (by omega)
    | succ nn ih =>
      intro n n0 n1 hz
      refine x_iload C dX4_eat_10 rfl ?_
      refine x_iload_n C dX4_eat_12 rfl ?_
      refine x_icmp_gt 56 C dX4_eat_13 (by decide) ⟨by omega, by omega⟩ ⟨by omega, by omega⟩ (fun c_1 => ?_) (fun c_1 => ?_)
      · have hn9 : n = 30 := by omega
        subst hn9
        have he0 := eatE_le (f := h 12) (t := t) (p := p) (n := 30)
        have he1 := eatE_ge (f := h 12) (t := t) (p := p) (n := 30) p0.1 (by decide) (fun s a b => (hf s a b).1)
        refine x_iload_n C dX4_eat_56 rfl ?_
        refine x_iload_n C dX4_eat_57 rfl ?_
        refine x_isub C dX4_eat_58 ?_
        refine x_aload_n C dX4_eat_59 rfl ?_
        refine gh_11_1 C hj putH_same q_141 dX4_eat_60 (show _ = h 11 1 from rfl) ?_
        refine x_min C q_577 q_321 q_65 q_322 (by decide) (Nat.le_of_ble_eq_true rfl) ⟨by omega, by omega⟩ ⟨by omega, by omega⟩ dX4_eat_63 ?_
        refine x_istore C dX4_eat_66 (by decide) (rfl : _ = [_, _, _, _, _, _]) ?_
        refine x_aload_n C dX4_eat_68 rfl ?_
        refine x_dup C dX4_eat_69 rfl ?_
        refine gh_11_1 C hj putH_same q_141 dX4_eat_70 (show _ = h 11 1 from rfl) ?_
        refine x_iload C dX4_eat_73 rfl ?_
        refine x_isub C dX4_eat_75 ?_
        refine ph_11_1 C hj putH_same q_141 dX4_eat_76 putH_put ?_
        refine x_iload_n C dX4_eat_79 rfl ?_
        refine x_iload C dX4_eat_80 rfl ?_
        refine x_iadd C dX4_eat_82 ?_
        exact x_iret C D rfl dX4_eat_83 rfl rfl rfl rfl
      · have hz := hf ((t - 30 + 1 + n) % 30) (by omega) (by omega)
        have he0 := eatE_le (f := h 12) (t := t) (p := p) (n := n)
        have he1 := eatE_ge (f := h 12) (t := t) (p := p) (n := n) p0.1 n0 (fun s a b => (hf s a b).1)
        refine x_iload_n C dX4_eat_16 rfl ?_
        refine x_iload_n C dX4_eat_17 rfl ?_
        refine x_isub C dX4_eat_18 ?_
        refine x_aload_n C dX4_eat_19 rfl ?_
        refine x_iload C dX4_eat_20 rfl ?_
        refine x_callV (nA := 1) (As := [vI (t - 30 + 1 + n)]) (rest := [vI (p - (eatE (h 12) t p n))]) C (m_X4_freshOf hE hj putH_same (d := t - 30 + 1 + n) ⟨by omega, by omega⟩ (v9 := h 12 ((t - 30 + 1 + n) % 30)) (eatR_at n0 (by omega))) q_494 q_495 q_496 q_60 q_497 (by decide +kernel) (wl_h hj putH_same 11 (by decide)) rfl rfl (by decide) (by decide) (Nat.le_of_ble_eq_true rfl) dX4_eat_22 rfl ?_
        refine x_min C q_577 q_321 q_65 q_322 (by decide) (Nat.le_of_ble_eq_true rfl) ⟨by omega, by omega⟩ ⟨by omega, by omega⟩ dX4_eat_25 ?_
        refine G.eqS ?_ (congrArg (fun z => [vI z]) (eatE_s n0 hz.1))
        refine x_istore C dX4_eat_28 (by decide) (rfl : _ = [_, _, _, _, _, _]) ?_
        refine x_aload_n C dX4_eat_30 rfl ?_
        refine gh_11_0 C hj putH_same q_140 dX4_eat_31 ?_
        refine x_iload C dX4_eat_34 rfl ?_
        refine x_callS (nA := 1) (As := [vI (t - 30 + 1 + n)]) (rest := [.ref (hA E j 12)]) C (m_X4_slotOf hE (d := t - 30 + 1 + n) ⟨by omega, by omega⟩) q_498 q_499 q_60 q_500 (by decide +kernel) rfl (by decide) (by decide) (Nat.le_of_ble_eq_true rfl) dX4_eat_36 rfl ?_
        refine x_dup2 C dX4_eat_39 rfl rfl ?_
        refine lh_12 C hj putH_same (by omega) (by omega) dX4_eat_40 (show _ = (eatR (h 12) t p n) ((t - 30 + 1 + n) % 30) from rfl) ?_
        refine x_iload C dX4_eat_41 rfl ?_
        refine x_isub C dX4_eat_43 ?_
        refine sh_12 C hj putH_same (by omega) (by omega) dX4_eat_44 putH_put ?_
        refine x_iload_n C dX4_eat_45 rfl ?_
        refine x_iload C dX4_eat_46 rfl ?_
        refine x_iadd C dX4_eat_48 ?_
        refine x_istore_n C dX4_eat_49 (by decide) (rfl : _ = [_, _, _, _, _, _]) ?_
        refine x_iinc C dX4_eat_50 rfl (by decide) (rfl : _ = [_, _, _, _, _, _]) ?_
        refine x_goto 10 C dX4_eat_53 (by decide) ?_
        refine G.of (G.wk (ih (n + 1) (by omega) (by omega) (by omega)) ?_) ?_ rfl rfl rfl
        · simp only [leL, Int.add_assoc, and_self, and_true, true_and]; exact congrArg (fun z => some (vI z)) (by omega)
        · rw [← eatR_s n0 (by omega)]; refine (congrArg (putH hs j) upr_upr).trans ?_; rw [upr_same, eatR_at n0 (by omega)]
  refine G.of (G.wk (K10 41 0 (by omega) (by omega) (by omega)) ?_) ?_ rfl rfl rfl
  · simp only [leL, Int.add_zero, eatE_0 p0.1, and_self]
  · rw [eatR_0, upr_id, putH_of hh]
set_option maxRecDepth 100000 in
set_option maxHeartbeats 4000000 in
theorem m_X4_dayOfRank {hs : Nat → HV} {tp md : HV} {E : HE} {j : Nat} {h : HV} (hE : HI E) (hj : j < 7) (hh : hs j = h) {K : Int} (R : RG K h) (hK : K ≤ 1000000) {t r : Int} (t0 : 0 ≤ t ∧ t ≤ 1100) (r0 : 0 ≤ r ∧ r ≤ 2147483647) : Mt yX4_dayOfRank cX4_dayOfRank 5 (some .int) 4 E [.ref (hA E j 11), vI t, vI r] hs tp md (some (vI (lRank h t r))) hs tp md := by
  refine mk_Mt hE (plainFor_of_name (by decide)) (Nat.le_of_ble_eq_true rfl) (by intro w0 hw0; simp only [List.mem_cons, List.not_mem_nil, or_false] at hw0; rcases hw0 with rfl | rfl | rfl <;> rfl) (rfl : _ = [_, _, _, _, _]) ?_
  intro F C D
  refine x_const C dX4_dayOfRank_0 ?_
  refine x_istore_n C dX4_dayOfRank_1 (by decide) (rfl : _ = [_, _, _, _, _]) ?_
  refine x_iload_n C dX4_dayOfRank_2 rfl ?_
  refine x_bipush C dX4_dayOfRank_3 (by decide) ?_
  refine x_isub C dX4_dayOfRank_5 ?_
  refine x_istore C dX4_dayOfRank_6 (by decide) (rfl : _ = [_, _, _, _, _]) ?_
  have K8 : ∀ (nn : Nat) (n e : Int), 0 ≤ n → n ≤ 30 → 0 ≤ e → e ≤ n → lRank h t r = srchI (fun d => h 12 (d % 30)) (-1000005) (30 - n) (t - 30 + n) (r - e) → 40 - n < nn →  G F E hs tp md 8 [some (.ref (hA E j 11)), some (vI t), some (vI r), some (vI e), some (vI (t - 30 + n))] [] := by
    intro nn
    induction nn with
    | zero => intro n e n0 n1 z0 z1 hq hz; exact absurd hz (by omega)
    | succ nn ih =>
      intro n e n0 n1 z0 z1 hq hz
      refine x_iload C dX4_dayOfRank_8 rfl ?_
      refine x_iload_n C dX4_dayOfRank_10 rfl ?_
      refine x_icmp_ge 43 C dX4_dayOfRank_11 (by decide) ⟨by omega, by omega⟩ ⟨by omega, by omega⟩ (fun c_1 => ?_) (fun c_1 => ?_)
      · refine x_ldc (n := (-1000005)) C q_667 dX4_dayOfRank_43 rfl ?_
        exact x_iret C D rfl dX4_dayOfRank_45 (by rw [hq, srchI_0 (by omega)]) rfl rfl rfl
      · refine x_aload_n C dX4_dayOfRank_14 rfl ?_
        refine x_iload C dX4_dayOfRank_15 rfl ?_
        refine x_callV (nA := 1) (As := [vI (t - 30 + n)]) (rest := []) C (m_X4_freshOf hE hj hh (d := t - 30 + n) ⟨by omega, by omega⟩ (v9 := h 12 ((t - 30 + n) % 30)) rfl) q_494 q_495 q_496 q_60 q_497 (by decide +kernel) (wl_h hj hh 11 (by decide)) rfl rfl (by decide) (by decide) (Nat.le_of_ble_eq_true rfl) dX4_dayOfRank_17 rfl ?_
        have hz := RG.fre R (i := (t - 30 + n) % 30) (by omega) (by omega)
        refine x_if_ne 26 C dX4_dayOfRank_20 (by decide) ⟨by omega, by omega⟩ (fun c_2 => ?_) (fun c_2 => ?_)
        · refine x_iload_n C dX4_dayOfRank_26 rfl ?_
          refine x_iload_n C dX4_dayOfRank_27 rfl ?_
          refine x_icmp_ne 34 C dX4_dayOfRank_28 (by decide) ⟨by omega, by omega⟩ ⟨by omega, by omega⟩ (fun c_3 => ?_) (fun c_3 => ?_)
          · refine x_iinc C dX4_dayOfRank_34 rfl (by decide) (rfl : _ = [_, _, _, _, _]) ?_
            refine x_iinc C dX4_dayOfRank_37 rfl (by decide) (rfl : _ = [_, _, _, _, _]) ?_
            refine x_goto 8 C dX4_dayOfRank_40 (by decide) ?_
            refine G.wk (ih (n + 1) (e + 1) (by omega) (by omega) (by omega) (by omega) (by rw [hq, srchI_s (by omega), if_neg c_2, if_neg (by omega)]; congr 1 <;> omega) (by omega)) ?_
            simp only [leL, Int.add_assoc, and_self]
          · refine x_iload C dX4_dayOfRank_31 rfl ?_
            exact x_iret C D rfl dX4_dayOfRank_33 (by rw [hq, srchI_s (by omega), if_neg c_2, if_pos (by omega)]) rfl rfl rfl
        · refine x_goto 37 C dX4_dayOfRank_23 (by decide) ?_
          refine x_iinc C dX4_dayOfRank_37 rfl (by decide) (rfl : _ = [_, _, _, _, _]) ?_
          refine x_goto 8 C dX4_dayOfRank_40 (by decide) ?_
          refine G.wk (ih (n + 1) e (by omega) (by omega) (by omega) (by omega) (by rw [hq, srchI_s (by omega), if_pos c_2]; congr 1 <;> omega) (by omega)) ?_
          simp only [leL, Int.add_assoc, and_self]
  refine G.wk (K8 41 0 0 (by omega) (by omega) (by omega) (by omega) (by simp) (by omega)) ?_
  simp only [leL, Int.add_zero, and_self]
set_option maxRecDepth 100000 in
set_option maxHeartbeats 4000000 in
theorem m_X5_append {hs : Nat → HV} {tp md : HV} {E : HE} {j : Nat} {h : HV} (hE : HI E) (hj : j < 7) (hh : hs j = h) (s0 : 0 ≤ h 13 2) (s1 : h 13 2 < 12) {k w : Int} {hs9 : Nat → HV} (he : putH hs j (oApp h k w) = hs9) : Mt yX5_append cX5_append 3 none 1 E [.ref (hA E j 13), vI k, vI w] hs tp md none hs9 tp md := by
  subst he
  refine mk_Mt hE (plainFor_of_name (by decide)) (Nat.le_of_ble_eq_true rfl) (by intro w0 hw0; simp only [List.mem_cons, List.not_mem_nil, or_false] at hw0; rcases hw0 with rfl | rfl | rfl <;> rfl) (rfl : _ = [_, _, _]) ?_
  intro F C D
  refine x_aload_n C dX5_append_0 rfl ?_
  refine gh_13_2 C hj hh q_159 dX5_append_1 rfl ?_
  refine x_bipush C dX5_append_4 (by decide) ?_
  refine x_icmp_ge 39 C dX5_append_6 (by decide) ⟨by omega, by omega⟩ ⟨by omega, by omega⟩ (fun c_1 => ?_) (fun c_1 => ?_)
  · exact absurd c_1 (by omega)
  · refine x_aload_n C dX5_append_9 rfl ?_
    refine gh_13_0 C hj hh q_154 dX5_append_10 ?_
    refine x_aload_n C dX5_append_13 rfl ?_
    refine gh_13_2 C hj hh q_159 dX5_append_14 rfl ?_
    refine x_iload_n C dX5_append_17 rfl ?_
    refine sh_14 C hj hh (by omega) (by omega) dX5_append_18 rfl ?_
    refine x_aload_n C dX5_append_19 rfl ?_
    refine gh_13_1 C hj putH_same q_157 dX5_append_20 ?_
    refine x_aload_n C dX5_append_23 rfl ?_
    refine gh_13_2 C hj putH_same q_159 dX5_append_24 (show _ = h 13 2 from rfl) ?_
    refine x_iload_n C dX5_append_27 rfl ?_
    refine sh_15 C hj putH_same (by omega) (by omega) dX5_append_28 putH_put ?_
    refine x_aload_n C dX5_append_29 rfl ?_
    refine x_dup C dX5_append_30 rfl ?_
    refine gh_13_2 C hj putH_same q_159 dX5_append_31 (show _ = h 13 2 from rfl) ?_
    refine x_const C dX5_append_34 ?_
    refine x_iadd C dX5_append_35 ?_
    refine ph_13_2 C hj putH_same q_159 dX5_append_36 putH_put ?_
    exact x_vret C D dX5_append_39 rfl rfl rfl
set_option maxRecDepth 100000 in
set_option maxHeartbeats 4000000 in
theorem m_X5_removeLast {hs : Nat → HV} {tp md : HV} {E : HE} {j : Nat} {h : HV} (hE : HI E) (hj : j < 7) (hh : hs j = h) (s0 : 1 ≤ h 13 2) (s1 : h 13 2 ≤ 12) {hs9 : Nat → HV} (he : putH hs j (oLast h) = hs9) : Mt yX5_removeLast cX5_removeLast 1 (some .int) 1 E [.ref (hA E j 13)] hs tp md (some (vI (h 15 (h 13 2 - 1)))) hs9 tp md := by
  subst he
  refine mk_Mt hE (plainFor_of_name (by decide)) (Nat.le_of_ble_eq_true rfl) (by intro w0 hw0; simp only [List.mem_cons, List.not_mem_nil, or_false] at hw0; rcases hw0 with rfl <;> rfl) (rfl : _ = [_]) ?_
  intro F C D
  refine x_aload_n C dX5_removeLast_0 rfl ?_
  refine gh_13_2 C hj hh q_159 dX5_removeLast_1 rfl ?_
  refine x_const C dX5_removeLast_4 ?_
  refine x_icmp_ge 10 C dX5_removeLast_5 (by decide) ⟨by omega, by omega⟩ ⟨by omega, by omega⟩ (fun c_1 => ?_) (fun c_1 => ?_)
  · refine x_aload_n C dX5_removeLast_10 rfl ?_
    refine x_dup C dX5_removeLast_11 rfl ?_
    refine gh_13_2 C hj hh q_159 dX5_removeLast_12 rfl ?_
    refine x_const C dX5_removeLast_15 ?_
    refine x_isub C dX5_removeLast_16 ?_
    refine ph_13_2 C hj hh q_159 dX5_removeLast_17 rfl ?_
    refine x_aload_n C dX5_removeLast_20 rfl ?_
    refine gh_13_1 C hj putH_same q_157 dX5_removeLast_21 ?_
    refine x_aload_n C dX5_removeLast_24 rfl ?_
    refine gh_13_2 C hj putH_same q_159 dX5_removeLast_25 (show _ = (h 13 2) - 1 from rfl) ?_
    refine lh_15 C hj putH_same (by omega) (by omega) dX5_removeLast_28 (show _ = h 15 ((h 13 2) - 1) from rfl) ?_
    exact x_iret C D rfl dX5_removeLast_29 rfl rfl rfl rfl
  · exact absurd c_1 (by omega)
set_option maxRecDepth 100000 in
set_option maxHeartbeats 4000000 in
theorem m_X5_removeFirst {hs : Nat → HV} {tp md : HV} {E : HE} {j : Nat} {h : HV} (hE : HI E) (hj : j < 7) (hh : hs j = h) (s0 : 1 ≤ h 13 2) (s1 : h 13 2 ≤ 12) {hs9 : Nat → HV} (he : putH hs j (oRF h) = hs9) : Mt yX5_removeFirst cX5_removeFirst 2 none 1 E [.ref (hA E j 13)] hs tp md none hs9 tp md := by
  subst he
  refine mk_Mt hE (plainFor_of_name (by decide)) (Nat.le_of_ble_eq_true rfl) (by intro w0 hw0; simp only [List.mem_cons, List.not_mem_nil, or_false] at hw0; rcases hw0 with rfl <;> rfl) (rfl : _ = [_, _]) ?_
  intro F C D
  refine x_const C dX5_removeFirst_0 ?_
  refine x_istore_n C dX5_removeFirst_1 (by decide) (rfl : _ = [_, _]) ?_
  have K2 : ∀ (nn : Nat) (n : Int), 0 ≤ n → n ≤ h 13 2 - 1 → 40 - n < nn →  G F E (putH hs j (upr (upr h 14 (shC (h 14) n)) 15 (shC (h 15) n))) tp md 2 [some (.ref (hA E j 13)), some (vI (n + 1))] [] := by
    intro nn
    induction nn with
    | zero => intro n n0 n1 hz; exact absurd hz (by omega)
    | succ nn ih =>
      intro n n0 n1 hz
      refine x_iload_n C dX5_removeFirst_2 rfl ?_
      refine x_aload_n C dX5_removeFirst_3 rfl ?_
      refine gh_13_2 C hj putH_same q_159 dX5_removeFirst_4 (show _ = h 13 2 from rfl) ?_
      refine x_icmp_ge 44 C dX5_removeFirst_7 (by decide) ⟨by omega, by omega⟩ ⟨by omega, by omega⟩ (fun c_1 => ?_) (fun c_1 => ?_)
      · refine x_aload_n C dX5_removeFirst_44 rfl ?_
        refine x_dup C dX5_removeFirst_45 rfl ?_
        refine gh_13_2 C hj putH_same q_159 dX5_removeFirst_46 (show _ = h 13 2 from rfl) ?_
        refine x_const C dX5_removeFirst_49 ?_
        refine x_isub C dX5_removeFirst_50 ?_
        refine ph_13_2 C hj putH_same q_159 dX5_removeFirst_51 putH_put ?_
        exact x_vret C D dX5_removeFirst_54 (by rw [show n = h 13 2 - 1 by omega]; rfl) rfl rfl
      · refine x_aload_n C dX5_removeFirst_10 rfl ?_
        refine gh_13_0 C hj putH_same q_154 dX5_removeFirst_11 ?_
        refine x_iload_n C dX5_removeFirst_14 rfl ?_
        refine x_const C dX5_removeFirst_15 ?_
        refine x_isub C dX5_removeFirst_16 ?_
        refine x_aload_n C dX5_removeFirst_17 rfl ?_
        refine gh_13_0 C hj putH_same q_154 dX5_removeFirst_18 ?_
        refine x_iload_n C dX5_removeFirst_21 rfl ?_
        refine lh_14 C hj putH_same (by omega) (by omega) dX5_removeFirst_22 (show _ = (shC (h 14) n) (n + 1) from rfl) ?_
        refine sh_14 C hj putH_same (by omega) (by omega) dX5_removeFirst_23 putH_put ?_
        refine x_aload_n C dX5_removeFirst_24 rfl ?_
        refine gh_13_1 C hj putH_same q_157 dX5_removeFirst_25 ?_
        refine x_iload_n C dX5_removeFirst_28 rfl ?_
        refine x_const C dX5_removeFirst_29 ?_
        refine x_isub C dX5_removeFirst_30 ?_
        refine x_aload_n C dX5_removeFirst_31 rfl ?_
        refine gh_13_1 C hj putH_same q_157 dX5_removeFirst_32 ?_
        refine x_iload_n C dX5_removeFirst_35 rfl ?_
        refine lh_15 C hj putH_same (by omega) (by omega) dX5_removeFirst_36 (show _ = (shC (h 15) n) (n + 1) from rfl) ?_
        refine sh_15 C hj putH_same (by omega) (by omega) dX5_removeFirst_37 putH_put ?_
        refine x_iinc C dX5_removeFirst_38 rfl (by decide) (rfl : _ = [_, _]) ?_
        refine x_goto 2 C dX5_removeFirst_41 (by decide) ?_
        refine G.of (G.wk (ih (n + 1) (by omega) (by omega) (by omega)) ?_) ?_ rfl rfl rfl
        · simp only [leL, and_self]
        · rw [← shC_s n0, ← shC_s n0]; refine congrArg (putH hs j) ?_; funext q; unfold upr; split <;> (try split) <;> simp_all
  refine G.of (G.wk (K2 41 0 (by omega) (by omega) (by omega)) ?_) ?_ rfl rfl rfl
  · simp only [leL, Int.zero_add, and_self]
  · rw [shC_0, shC_0, upr_id]; rw [show upr h 15 (h 15) = h from upr_id, putH_of hh]
set_option maxRecDepth 100000 in
set_option maxHeartbeats 4000000 in
theorem m_X5_takeFromFirst {hs : Nat → HV} {tp md : HV} {E : HE} {j : Nat} {h : HV} (hE : HI E) (hj : j < 7) (hh : hs j = h) {K : Int} (R : RG K h) (s0 : 1 ≤ h 13 2) (s1 : h 13 2 ≤ 12) {m : Int} (m0 : 0 ≤ m ∧ m ≤ 1000) {hs9 : Nat → HV} (he : putH hs j (oTF h m) = hs9) : Mt yX5_takeFromFirst cX5_takeFromFirst 3 (some .int) 2 E [.ref (hA E j 13), vI m] hs tp md (some (vI (oTak h m))) hs9 tp md := by
  subst he
  refine mk_Mt hE (plainFor_of_name (by decide)) (Nat.le_of_ble_eq_true rfl) (by intro w0 hw0; simp only [List.mem_cons, List.not_mem_nil, or_false] at hw0; rcases hw0 with rfl | rfl <;> rfl) (rfl : _ = [_, _, _]) ?_
  intro F C D
  refine x_aload_n C dX5_takeFromFirst_0 rfl ?_
  refine gh_13_2 C hj hh q_159 dX5_takeFromFirst_1 rfl ?_
  have r_1 := RG.siz R
  refine x_const C dX5_takeFromFirst_4 ?_
  refine x_icmp_ge 10 C dX5_takeFromFirst_5 (by decide) ⟨by omega, by omega⟩ ⟨by omega, by omega⟩ (fun c_2 => ?_) (fun c_2 => ?_)
  · refine x_iload_n C dX5_takeFromFirst_10 rfl ?_
    refine x_aload_n C dX5_takeFromFirst_11 rfl ?_
    refine gh_13_1 C hj hh q_157 dX5_takeFromFirst_12 ?_
    refine x_const C dX5_takeFromFirst_15 ?_
    refine lh_15 C hj hh (by omega) (by omega) dX5_takeFromFirst_16 rfl ?_
    have r_3 := RG.por R (i := 0) (by omega) (by omega)
    refine x_min C q_544 q_321 q_65 q_322 (by decide) (Nat.le_of_ble_eq_true rfl) ⟨by omega, by omega⟩ ⟨by omega, by omega⟩ dX5_takeFromFirst_17 ?_
    refine x_istore_n C dX5_takeFromFirst_20 (by decide) (rfl : _ = [_, _, _]) ?_
    refine x_aload_n C dX5_takeFromFirst_21 rfl ?_
    refine gh_13_1 C hj hh q_157 dX5_takeFromFirst_22 ?_
    refine x_const C dX5_takeFromFirst_25 ?_
    refine x_dup2 C dX5_takeFromFirst_26 rfl rfl ?_
    refine lh_15 C hj hh (by omega) (by omega) dX5_takeFromFirst_27 rfl ?_
    have r_4 := RG.por R (i := 0) (by omega) (by omega)
    refine x_iload_n C dX5_takeFromFirst_28 rfl ?_
    refine x_isub C dX5_takeFromFirst_29 ?_
    refine sh_15 C hj hh (by omega) (by omega) dX5_takeFromFirst_30 rfl ?_
    refine x_aload_n C dX5_takeFromFirst_31 rfl ?_
    refine gh_13_1 C hj putH_same q_157 dX5_takeFromFirst_32 ?_
    refine x_const C dX5_takeFromFirst_35 ?_
    refine lh_15 C hj putH_same (by omega) (by omega) dX5_takeFromFirst_36 (show _ = (h 15 0) - (if m ≤ h 15 0 then m else h 15 0) from rfl) ?_
    refine x_if_ne 44 C dX5_takeFromFirst_37 (by decide) ⟨by split <;> omega, by split <;> omega⟩ (fun c_5 => ?_) (fun c_5 => ?_)
    · refine x_iload_n C dX5_takeFromFirst_44 rfl ?_
      exact x_iret C D rfl dX5_takeFromFirst_45 rfl (by unfold oTF; rw [if_neg c_5]) rfl rfl
    · refine x_aload_n C dX5_takeFromFirst_40 rfl ?_
      refine x_callV (nA := 0) (As := []) (rest := []) C (m_X5_removeFirst (h := (upr h 15 (up1 (h 15) 0 ((h 15 0) - (if m ≤ h 15 0 then m else h 15 0))))) hE hj putH_same s0 s1 putH_put) q_545 q_547 q_14 q_61 q_548 (by decide +kernel) (wl_h hj putH_same 13 (by decide)) rfl rfl (by decide) (by decide) (Nat.le_of_ble_eq_true rfl) dX5_takeFromFirst_41 rfl ?_
      refine x_iload_n C dX5_takeFromFirst_44 rfl ?_
      exact x_iret C D rfl dX5_takeFromFirst_45 rfl (by unfold oTF; rw [if_pos c_5]) rfl rfl
  · exact absurd c_2 (by omega)
set_option maxRecDepth 100000 in
set_option maxHeartbeats 4000000 in
theorem m_X5_allPortions {hs : Nat → HV} {tp md : HV} {E : HE} {j : Nat} {h : HV} (hE : HI E) (hj : j < 7) (hh : hs j = h) {K : Int} (R : RG K h) : Mt yX5_allPortions cX5_allPortions 3 (some .int) 1 E [.ref (hA E j 13)] hs tp md (some (vI (sumI (h 15) (h 13 2)))) hs tp md := by
  refine mk_Mt hE (plainFor_of_name (by decide)) (Nat.le_of_ble_eq_true rfl) (by intro w0 hw0; simp only [List.mem_cons, List.not_mem_nil, or_false] at hw0; rcases hw0 with rfl <;> rfl) (rfl : _ = [_, _, _]) ?_
  intro F C D
  have rs := RG.siz R
  refine x_const C dX5_allPortions_0 ?_
  refine x_istore_n C dX5_allPortions_1 (by decide) (rfl : _ = [_, _, _]) ?_
  refine x_const C dX5_allPortions_2 ?_
  refine x_istore_n C dX5_allPortions_3 (by decide) (rfl : _ = [_, _, _]) ?_
  have K4 : ∀ (nn : Nat) (i : Int), 0 ≤ i → i ≤ h 13 2 → h 13 2 - i < nn →  G F E hs tp md 4 [some (.ref (hA E j 13)), some (vI (sumI (h 15) i)), some (vI i)] [] := by
    intro nn
    induction nn with
    | zero => intro i i0 i1 hz; exact absurd hz (by omega)
    | succ nn ih =>
      intro i i0 i1 hz
      refine x_iload_n C dX5_allPortions_4 rfl ?_
      refine x_aload_n C dX5_allPortions_5 rfl ?_
      refine gh_13_2 C hj hh q_159 dX5_allPortions_6 rfl ?_
      have r_1 := RG.siz R
      refine x_icmp_ge 27 C dX5_allPortions_9 (by decide) ⟨by omega, by omega⟩ ⟨by omega, by omega⟩ (fun c_2 => ?_) (fun c_2 => ?_)
      · refine x_iload_n C dX5_allPortions_27 rfl ?_
        exact x_iret C D rfl dX5_allPortions_28 (by rw [show i = h 13 2 by omega]) rfl rfl rfl
      · refine x_iload_n C dX5_allPortions_12 rfl ?_
        refine x_aload_n C dX5_allPortions_13 rfl ?_
        refine gh_13_1 C hj hh q_157 dX5_allPortions_14 ?_
        refine x_iload_n C dX5_allPortions_17 rfl ?_
        refine lh_15 C hj hh (by omega) (by omega) dX5_allPortions_18 rfl ?_
        have r_3 := RG.por R (i := i) (by omega) (by omega)
        refine x_iadd C dX5_allPortions_19 ?_
        refine x_istore_n C dX5_allPortions_20 (by decide) (rfl : _ = [_, _, _]) ?_
        refine x_iinc C dX5_allPortions_21 rfl (by decide) (rfl : _ = [_, _, _]) ?_
        refine x_goto 4 C dX5_allPortions_24 (by decide) ?_
        refine G.wk (ih (i + 1) (by omega) (by omega) (by omega)) ?_
        simp only [leL, sumI_s i0, and_self]
  exact K4 ((h 13 2 : Int) + 1).toNat 0 (by omega) (by omega) (by omega)
end
section
/-! WHAT A HUT's METHODS DO TO ITS NUMBERS, and that they keep to their bounds -/
theorem RG.w0 {K : Int} {h : HV} (R : RG K h) {k v : Int} (n6 : (6 : Int) ≠ k) (n7 : (7 : Int) ≠ k) : RG K (upr h 0 (up1 (h 0) k v)) :=
  ⟨R.1, R.2.1, R.2.2.1, R.2.2.2.1, R.2.2.2.2.1, R.2.2.2.2.2.1, R.2.2.2.2.2.2.1, R.2.2.2.2.2.2.2.1, by
    show 0 ≤ up1 (h 0) k v 6 ∧ up1 (h 0) k v 6 ≤ 1060
    rw [up1_ne n6]; exact R.day, by
    show up1 (h 0) k v 7 = 0 ∨ up1 (h 0) k v 7 = 1
    rw [up1_ne n7]; exact R.cal⟩
theorem RG.w06 {K : Int} {h : HV} (R : RG K h) {v : Int} (v0 : 0 ≤ v) (v1 : v ≤ 1060) : RG K (upr h 0 (up1 (h 0) 6 v)) :=
  ⟨R.1, R.2.1, R.2.2.1, R.2.2.2.1, R.2.2.2.2.1, R.2.2.2.2.2.1, R.2.2.2.2.2.2.1, R.2.2.2.2.2.2.2.1, by
    show 0 ≤ up1 (h 0) 6 v 6 ∧ up1 (h 0) 6 v 6 ≤ 1060
    rw [up1_same]; exact ⟨v0, v1⟩, by
    show up1 (h 0) 6 v 7 = 0 ∨ up1 (h 0) 6 v 7 = 1
    rw [up1_ne (by decide)]; exact R.cal⟩
theorem RG.w07 {K : Int} {h : HV} (R : RG K h) {v : Int} (v0 : v = 0 ∨ v = 1) : RG K (upr h 0 (up1 (h 0) 7 v)) :=
  ⟨R.1, R.2.1, R.2.2.1, R.2.2.2.1, R.2.2.2.2.1, R.2.2.2.2.2.1, R.2.2.2.2.2.2.1, R.2.2.2.2.2.2.2.1, by
    show 0 ≤ up1 (h 0) 7 v 6 ∧ up1 (h 0) 7 v 6 ≤ 1060
    rw [up1_ne (by decide)]; exact R.day, by
    show up1 (h 0) 7 v 7 = 0 ∨ up1 (h 0) 7 v 7 = 1
    rw [up1_same]; exact v0⟩
theorem RG.w4 {K : Int} {h : HV} (R : RG K h) {k v : Int} (v0 : 0 ≤ v ∧ v ≤ 4) : RG K (upr h 4 (up1 (h 4) k v)) :=
  ⟨R.1, R.2.1, R.2.2.1, fun b b0 b1 => ⟨by
    show 0 ≤ up1 (h 4) k v b ∧ up1 (h 4) k v b ≤ 4
    unfold up1; split
    · exact v0
    · exact R.how b0 b1, (R.2.2.2.1 b b0 b1).2⟩, R.2.2.2.2.1, R.2.2.2.2.2.1, R.2.2.2.2.2.2.1, R.2.2.2.2.2.2.2.1, R.day, R.cal⟩
theorem RG.w6 {K : Int} {h : HV} (R : RG K h) {k v : Int} (v0 : 0 ≤ v ∧ v ≤ 9) : RG K (upr h 6 (up1 (h 6) k v)) :=
  ⟨R.1, R.2.1, R.2.2.1, fun b b0 b1 => ⟨R.how b0 b1, R.arr b0 b1, by
    show 0 ≤ up1 (h 6) k v b ∧ up1 (h 6) k v b ≤ 9
    unfold up1; split
    · exact v0
    · exact R.nig b0 b1, R.per b0 b1, R.cam b0 b1⟩, R.2.2.2.2.1, R.2.2.2.2.2.1, R.2.2.2.2.2.2.1, R.2.2.2.2.2.2.2.1, R.day, R.cal⟩
theorem RG.w10 {K : Int} {h : HV} (R : RG K h) {k v : Int} (v0 : -1 ≤ v ∧ v ≤ 1060) : RG K (upr h 10 (up1 (h 10) k v)) :=
  ⟨R.1, R.2.1, R.2.2.1, fun b b0 b1 => ⟨R.how b0 b1, R.arr b0 b1, R.nig b0 b1, R.per b0 b1, by
    show -1 ≤ up1 (h 10) k v b ∧ up1 (h 10) k v b ≤ 1060
    unfold up1; split
    · exact v0
    · exact R.cam b0 b1⟩, R.2.2.2.2.1, R.2.2.2.2.2.1, R.2.2.2.2.2.2.1, R.2.2.2.2.2.2.2.1, R.day, R.cal⟩
theorem RG.w8 {K : Int} {h : HV} (R : RG K h) {f : Int → Int} : RG K (upr h 8 f) := R
theorem RG.w9 {K : Int} {h : HV} (R : RG K h) {f : Int → Int} : RG K (upr h 9 f) := R
theorem RG.w16 {K : Int} {h : HV} (R : RG K h) {f : Int → Int} : RG K (upr h 16 f) := R
theorem RG.w12 {K K' : Int} {h : HV} (R : RG K h) (hK : K ≤ K') {f : Int → Int} (hf : ∀ i, 0 ≤ i → i < 30 → 0 ≤ f i ∧ f i ≤ K') : RG K' (upr h 12 f) :=
  ⟨R.1, R.2.1, R.2.2.1, R.2.2.2.1, ⟨R.dry.1, Int.le_trans R.dry.2 hK⟩, hf, R.2.2.2.2.2.2.1, R.2.2.2.2.2.2.2.1, R.day, R.cal⟩
theorem RG.w11 {K K' : Int} {h : HV} (R : RG K h) (hK : K ≤ K') {v : Int} (v0 : 0 ≤ v ∧ v ≤ K') : RG K' (upr h 11 (up1 (h 11) 1 v)) :=
  ⟨R.1, R.2.1, R.2.2.1, R.2.2.2.1, by
    show 0 ≤ up1 (h 11) 1 v 1 ∧ up1 (h 11) 1 v 1 ≤ K'
    rw [up1_same]; exact v0, fun i a b => ⟨(R.fre a b).1, Int.le_trans (R.fre a b).2 hK⟩, R.2.2.2.2.2.2.1, R.2.2.2.2.2.2.2.1, R.day, R.cal⟩
theorem RG.mono {K K' : Int} {h : HV} (R : RG K h) (hK : K ≤ K') : RG K' h :=
  ⟨R.1, R.2.1, R.2.2.1, R.2.2.2.1, ⟨R.dry.1, Int.le_trans R.dry.2 hK⟩, fun i a b => ⟨(R.fre a b).1, Int.le_trans (R.fre a b).2 hK⟩, R.2.2.2.2.2.2.1, R.2.2.2.2.2.2.2.1, R.day, R.cal⟩
theorem RG.w13 {K : Int} {h : HV} (R : RG K h) {v : Int} (v0 : 0 ≤ v ∧ v ≤ 12) : RG K (upr h 13 (up1 (h 13) 2 v)) :=
  ⟨R.1, R.2.1, R.2.2.1, R.2.2.2.1, R.dry, R.2.2.2.2.2.1, by
    show 0 ≤ up1 (h 13) 2 v 2 ∧ up1 (h 13) 2 v 2 ≤ 12
    rw [up1_same]; exact v0, R.2.2.2.2.2.2.2.1, R.day, R.cal⟩
theorem RG.w14 {K : Int} {h : HV} (R : RG K h) {f : Int → Int} (hf : ∀ i, 0 ≤ i → i < 12 → 0 ≤ f i ∧ f i ≤ 1) : RG K (upr h 14 f) :=
  ⟨R.1, R.2.1, R.2.2.1, R.2.2.2.1, R.dry, R.2.2.2.2.2.1, R.siz, fun i a b => ⟨hf i a b, R.por a b⟩, R.day, R.cal⟩
theorem RG.w15 {K : Int} {h : HV} (R : RG K h) {f : Int → Int} (hf : ∀ i, 0 ≤ i → i < 12 → 0 ≤ f i ∧ f i ≤ 99) : RG K (upr h 15 f) :=
  ⟨R.1, R.2.1, R.2.2.1, R.2.2.2.1, R.dry, R.2.2.2.2.2.1, R.siz, fun i a b => ⟨R.kin a b, hf i a b⟩, R.day, R.cal⟩
theorem RG.w2 {K : Int} {h : HV} (R : RG K h) {f : Int → Int} (hf : ∀ i, 0 ≤ i → i < 1000 → 0 ≤ f i ∧ f i ≤ 7) : RG K (upr h 2 f) :=
  ⟨R.1, hf, R.2.2.1, R.2.2.2.1, R.dry, R.2.2.2.2.2.1, R.siz, R.2.2.2.2.2.2.2.1, R.day, R.cal⟩
/-! the weather -/
def wOf (h : HV) (d : Int) : Int := if d < 0 ∨ 999 < d then 0 else h 2 d
theorem wOf_r {K : Int} {h : HV} (R : RG K h) (d : Int) : 0 ≤ wOf h d ∧ wOf h d ≤ 7 := by
  unfold wOf; split
  · omega
  · exact R.wea (by omega) (by omega)
theorem and_1 {w : Int} (hw : 0 ≤ w ∧ w ≤ 7) : Int32.ofInt w &&& Int32.ofInt 1 = Int32.ofInt (w % 2) := by
  have k : w = 0 ∨ w = 1 ∨ w = 2 ∨ w = 3 ∨ w = 4 ∨ w = 5 ∨ w = 6 ∨ w = 7 := by omega
  rcases k with rfl | rfl | rfl | rfl | rfl | rfl | rfl | rfl <;> decide
theorem and_2 {w : Int} (hw : 0 ≤ w ∧ w ≤ 7) : Int32.ofInt w &&& Int32.ofInt 2 = Int32.ofInt (w / 2 % 2 * 2) := by
  have k : w = 0 ∨ w = 1 ∨ w = 2 ∨ w = 3 ∨ w = 4 ∨ w = 5 ∨ w = 6 ∨ w = 7 := by omega
  rcases k with rfl | rfl | rfl | rfl | rfl | rfl | rfl | rfl <;> decide
theorem and_4 {w : Int} (hw : 0 ≤ w ∧ w ≤ 7) : Int32.ofInt w &&& Int32.ofInt 4 = Int32.ofInt (w / 4 * 4) := by
  have k : w = 0 ∨ w = 1 ∨ w = 2 ∨ w = 3 ∨ w = 4 ∨ w = 5 ∨ w = 6 ∨ w = 7 := by omega
  rcases k with rfl | rfl | rfl | rfl | rfl | rfl | rfl | rfl <;> decide
abbrev upO (h : HV) (d : Int) : Prop := wOf h d % 2 = 0
abbrev dnO (h : HV) : Prop := wOf h (h 0 6) / 2 % 2 = 0
abbrev windy (h : HV) : Prop := 4 ≤ wOf h (h 0 6)
abbrev wOther (h : HV) (w : Int) : Int → Int := fun d => if wOf h d = w then 0 else 1
def wSet (f : Int → Int) (x y w : Int) : Int → Int := fun d => if x ≤ d ∧ d < y then w else f d
/-! booking -/
abbrev beO (h : HV) (a n p : Int) (i : Int) : Prop := nBeds h (a + i) (a + i) + p ≤ h 1 0
abbrev hasB (h : HV) (a n p : Int) : Prop := ∀ i, 0 ≤ i → i < n → nBeds h (a + i) (a + i) + p ≤ h 1 0
abbrev bErr (h : HV) (a n p : Int) (hb : Bool) : Int := if a < h 0 6 ∨ 899 < a ∨ ¬ (1 ≤ n ∧ n ≤ 9 ∧ 1 ≤ p ∧ p ≤ 9) then -1000002 else if hb = false then -1000004 else if 80 ≤ h 3 7 then -1000003 else 0
abbrev gAdd (h : HV) (a n p d : Int) : HV := upr (upr (upr (upr (upr (upr (upr (upr h 4 (up1 (h 4) (h 3 7) 0)) 5 (up1 (h 5) (h 3 7) a)) 6 (up1 (h 6) (h 3 7) n)) 7 (up1 (h 7) (h 3 7) p)) 8 (up1 (h 8) (h 3 7) 0)) 9 (up1 (h 9) (h 3 7) d)) 10 (up1 (h 10) (h 3 7) (-1))) 3 (up1 (h 3) 7 (h 3 7 + 1))
abbrev hAdd (h : HV) (a n p : Int) : HV := gAdd (upr h 0 (up1 (h 0) 8 (h 0 8 + p * n * h 1 3))) a n p (p * n * h 1 3)
abbrev hRef (h : HV) (b : Int) : Int := if h 1 4 ≤ h 5 b - h 0 6 ∨ ¬ upO h (h 5 b) then h 9 b else 0
abbrev hCan (h : HV) (b : Int) : HV := upr (upr h 4 (up1 (h 4) b 3)) 0 (up1 (up1 (h 0) 8 (h 0 8 - hRef h b)) 9 (h 0 9 + (h 9 b - hRef h b)))
/-! a day -/
def dLv (h : HV) (b : Int) : HV := upr (upr h 0 (up1 (h 0) 8 (h 0 8 + (h 1 2 * h 7 b * (h 5 b + h 6 b - h 10 b) - h 9 b)))) 4 (up1 (h 4) b 2)
def dAw (h : HV) (b : Int) : HV := upr (upr (upr h 4 (up1 (h 4) b 4)) 0 (up1 (h 0) 8 (h 0 8 - h 9 b))) 16 (up1 (h 16) 8 (h 16 8 + h 7 b))
def dIn (h : HV) (b : Int) : HV := upr (upr h 4 (up1 (h 4) b 1)) 10 (up1 (h 10) b (h 0 6))
def sLv (b : Int) (h : HV) : HV := if gOver h b (h 0 6) then dLv h b else h
def sLt (b : Int) (h : HV) : HV := if h 4 b = 0 ∧ h 5 b + h 6 b ≤ h 0 6 then dAw h b else h
def sCm (b : Int) (q : HV × Int) : HV × Int := if q.1 4 b = 0 ∧ q.1 5 b ≤ q.1 0 6 then (if q.2 + q.1 7 b ≤ q.1 1 0 + q.1 1 1 then (dIn q.1 b, q.2 + q.1 7 b) else (dAw q.1 b, q.2)) else q
def sFl (x b : Int) (q : HV × Int) : HV × Int := if gOver q.1 b (q.1 0 6) ∧ q.2 + q.1 7 b ≤ q.1 1 8 then (if x = 0 then q.1 else dLv q.1 b, q.2 + q.1 7 b) else q
def sSl1 (b : Int) (h : HV) : HV := if h 4 b = 1 then upr (upr h 8 (up1 (h 8) b (h 8 b + 1))) 16 (up1 (h 16) 7 (h 16 7 + h 7 b)) else h
def sSl (b : Int) (h : HV) : HV := if gOver (sSl1 b h) b (sSl1 b h 0 6) then upr (sSl1 b h) 16 (up1 (sSl1 b h 16) 6 (sSl1 b h 16 6 + sSl1 b h 7 b)) else sSl1 b h
def dLeave (h : HV) : HV := foldI sLv h (h 3 7)
def dLate (h : HV) : HV := foldI sLt h (h 3 7)
def dCome (h : HV) : HV := (foldI sCm (h, nThere h) (h 3 7)).1
def dFill (h : HV) (x : Int) : HV × Int := foldI (sFl x) (h, 0) (h 3 7)
def dSleep (h : HV) : HV := foldI sSl h (h 3 7)
def sBr (h : HV) (l : Int) : HV := upr (lStore (oTF h l) (h 14 0) (oTak h l) (oTF h l 0 6)) 16 (up1 (lStore (oTF h l) (h 14 0) (oTak h l) (oTF h l 0 6) 16) 2 (lStore (oTF h l) (h 14 0) (oTak h l) (oTF h l 0 6) 16 2 + oTak h l))
def dBr : Nat → HV → Int → HV
  | 0, h, _ => h
  | n + 1, h, l => if 0 < l ∧ 0 < h 13 2 then dBr n (sBr h l) (l - oTak h l) else h
abbrev dBring (h : HV) (m : Int) : HV := dBr 12 h m
def dSpoil (h : HV) : HV := upr (lThr h (h 0 6) (h 1 5)) 16 (up1 (h 16) 4 (h 16 4 + nSp (h 12) (h 0 6) (31 - h 1 5)))
def dBeg1 (h : HV) : HV := dLate (if dnO (dSpoil h) then dLeave (dSpoil h) else dSpoil h)
def dBegin (h : HV) : HV := if upO (dBeg1 h) (dBeg1 h 0 6) then dBring (dCome (dBeg1 h)) (dCome (dBeg1 h) 1 6) else dBeg1 h
def dFly1 (h : HV) : HV := (dFill (dBring h (h 1 7)) 1).1
def dFly (h : HV) : HV := upr (upr (dFly1 h) 16 (up1 (up1 (dFly1 h 16) 1 (dBring h (h 1 7) 16 1 + (dFill (dBring h (h 1 7)) 1).2)) 0 (dFly1 h 16 0 + 1))) 0 (up1 (up1 (up1 (dFly1 h 0) 8 (dFly1 h 0 8 - dFly1 h 1 9)) 10 (dFly1 h 0 10 + dFly1 h 1 9)) 7 0)
def dEat (h : HV) : HV := upr (lEat h (nThere h) (h 0 6)) 16 (up1 (up1 (h 16) 3 (h 16 3 + nEat h (nThere h) (h 0 6))) 5 (h 16 5 + (nThere h - nEat h (nThere h) (h 0 6))))
def dEnd (h : HV) : HV := upr (dSleep (dEat h)) 0 (up1 (dSleep (dEat h) 0) 6 (dSleep (dEat h) 0 6 + 1))
def dPass (h : HV) : HV := dEnd (if dBegin h 0 7 ≠ 0 ∧ ¬ windy (dBegin h) then dFly (dBegin h) else dBegin h)
/-! the bounds are kept, and what else stays: rows 1, 3, 5, 6, 7 and the day -/
def RS (K : Int) (h g : HV) : Prop := RG K g ∧ g 1 = h 1 ∧ g 2 = h 2 ∧ g 3 = h 3 ∧ g 5 = h 5 ∧ g 6 = h 6 ∧ g 7 = h 7 ∧ g 0 6 = h 0 6
theorem RS.of {K : Int} {h : HV} (R : RG K h) : RS K h h := ⟨R, rfl, rfl, rfl, rfl, rfl, rfl, rfl⟩
theorem RS.tr {K K' : Int} {h g f : HV} (a : RS K h g) (b : RS K' g f) : RS K' h f := ⟨b.1, b.2.1.trans a.2.1, b.2.2.1.trans a.2.2.1, b.2.2.2.1.trans a.2.2.2.1, b.2.2.2.2.1.trans a.2.2.2.2.1, b.2.2.2.2.2.1.trans a.2.2.2.2.2.1, b.2.2.2.2.2.2.1.trans a.2.2.2.2.2.2.1, b.2.2.2.2.2.2.2.trans a.2.2.2.2.2.2.2⟩
theorem RS_dLv {K : Int} {h : HV} (R : RG K h) (b : Int) : RS K h (dLv h b) := ⟨(R.w0 (k := 8) (by decide) (by decide)).w4 (by decide), rfl, rfl, rfl, rfl, rfl, rfl, rfl⟩
theorem RS_dAw {K : Int} {h : HV} (R : RG K h) (b : Int) : RS K h (dAw h b) := ⟨((R.w4 (by decide)).w0 (k := 8) (by decide) (by decide)).w16, rfl, rfl, rfl, rfl, rfl, rfl, rfl⟩
theorem RS_dIn {K : Int} {h : HV} (R : RG K h) (b : Int) : RS K h (dIn h b) := ⟨(R.w4 (by decide)).w10 ⟨by have := R.day; omega, R.day.2⟩, rfl, rfl, rfl, rfl, rfl, rfl, rfl⟩
theorem RS_sLv {K : Int} {h : HV} (R : RG K h) (b : Int) : RS K h (sLv b h) := by
  unfold sLv; split
  · exact RS_dLv R b
  · exact RS.of R
theorem RS_sLt {K : Int} {h : HV} (R : RG K h) (b : Int) : RS K h (sLt b h) := by
  unfold sLt; split
  · exact RS_dAw R b
  · exact RS.of R
theorem RS_sCm {K : Int} {q : HV × Int} (R : RG K q.1) (b : Int) : RS K q.1 (sCm b q).1 := by
  unfold sCm; split
  · split
    · exact RS_dIn R b
    · exact RS_dAw R b
  · exact RS.of R
theorem RS_sFl {K : Int} {q : HV × Int} (R : RG K q.1) (x b : Int) : RS K q.1 (sFl x b q).1 := by
  unfold sFl; split
  · show RS K q.1 (if x = 0 then q.1 else dLv q.1 b)
    split
    · exact RS.of R
    · exact RS_dLv R b
  · exact RS.of R
theorem RS_sSl {K : Int} {h : HV} (R : RG K h) (b : Int) : RS K h (sSl b h) := by
  have h1 : RS K h (sSl1 b h) := by
    unfold sSl1; split
    · exact ⟨R, rfl, rfl, rfl, rfl, rfl, rfl, rfl⟩
    · exact RS.of R
  unfold sSl; split
  · exact h1.tr ⟨h1.1.w16, rfl, rfl, rfl, rfl, rfl, rfl, rfl⟩
  · exact h1
theorem RS_fold {K : Int} {h : HV} (R : RG K h) {f : Int → HV → HV} (hf : ∀ b g, RG K g → RS K g (f b g)) {i : Int} (hi : 0 ≤ i) : RS K h (foldI f h i) :=
  foldI_iv hi (fun _ g => RS K h g) (RS.of R) fun k y _ _ hy => hy.tr (hf k y hy.1)
theorem RS_foldp {K : Int} {q : HV × Int} (R : RG K q.1) {f : Int → HV × Int → HV × Int} (hf : ∀ b g, RG K g.1 → RS K g.1 (f b g).1) {i : Int} (hi : 0 ≤ i) : RS K q.1 (foldI f q i).1 :=
  foldI_iv hi (fun _ g => RS K q.1 g.1) (RS.of R) fun k y _ _ hy => hy.tr (hf k y hy.1)
theorem RS_leaveI {K : Int} {h : HV} (R : RG K h) {i : Int} (hi : 0 ≤ i) : RS K h (foldI sLv h i) := RS_fold R (fun b _ r => RS_sLv r b) hi
theorem RS_lateI {K : Int} {h : HV} (R : RG K h) {i : Int} (hi : 0 ≤ i) : RS K h (foldI sLt h i) := RS_fold R (fun b _ r => RS_sLt r b) hi
theorem RS_sleepI {K : Int} {h : HV} (R : RG K h) {i : Int} (hi : 0 ≤ i) : RS K h (foldI sSl h i) := RS_fold R (fun b _ r => RS_sSl r b) hi
theorem RS_comeI {K : Int} {h : HV} (R : RG K h) {i n : Int} (hi : 0 ≤ i) : RS K h (foldI sCm (h, n) i).1 := RS_foldp (q := (h, n)) R (fun b _ r => RS_sCm r b) hi
theorem RS_fillI {K : Int} {h : HV} (R : RG K h) {x i n : Int} (hi : 0 ≤ i) : RS K h (foldI (sFl x) (h, n) i).1 := RS_foldp (q := (h, n)) R (fun b _ r => RS_sFl r x b) hi
theorem RS_leave {K : Int} {h : HV} (R : RG K h) : RS K h (dLeave h) := RS_leaveI R R.made.1
theorem RS_late {K : Int} {h : HV} (R : RG K h) : RS K h (dLate h) := RS_lateI R R.made.1
theorem RS_sleep {K : Int} {h : HV} (R : RG K h) : RS K h (dSleep h) := RS_sleepI R R.made.1
theorem RS_come {K : Int} {h : HV} (R : RG K h) : RS K h (dCome h) := RS_comeI R R.made.1
theorem RS_fill {K : Int} {h : HV} (R : RG K h) {x : Int} : RS K h (dFill h x).1 := RS_fillI R R.made.1
theorem RS_thr {K : Int} {h : HV} (R : RG K h) (t k : Int) : RG K (lThr h t k) := R.w12 (Int.le_refl _) fun i a b => by
  unfold thr; split
  · have := R.dry; omega
  · exact R.fre a b
theorem RS_spoil {K : Int} {h : HV} (R : RG K h) : RS K h (dSpoil h) := ⟨(RS_thr R _ _).w16, rfl, rfl, rfl, rfl, rfl, rfl, rfl⟩
theorem RG_oRF {K : Int} {h : HV} (R : RG K h) (s0 : 1 ≤ h 13 2) : RG K (oRF h) := by
  have rs := R.siz
  refine ((R.w14 (f := shC (h 14) (h 13 2 - 1)) fun i a b => ?_).w15 (f := shC (h 15) (h 13 2 - 1)) fun i a b => ?_).w13 (v := h 13 2 - 1) ⟨by omega, by omega⟩
  · unfold shC; split
    · exact R.kin (by omega) (by omega)
    · exact R.kin a b
  · unfold shC; split
    · exact R.por (by omega) (by omega)
    · exact R.por a b
theorem oTak_r {K : Int} {h : HV} (R : RG K h) {m : Int} (m0 : 0 ≤ m) : 0 ≤ oTak h m ∧ oTak h m ≤ m ∧ oTak h m ≤ h 15 0 := by
  have := R.por (i := 0) (by decide) (by decide)
  unfold oTak; split <;> omega
theorem RS_oTF {K : Int} {h : HV} (R : RG K h) (s0 : 1 ≤ h 13 2) {m : Int} (m0 : 0 ≤ m) : RS K h (oTF h m) := by
  have rp := R.por (i := 0) (by decide) (by decide)
  have rt := oTak_r R m0
  have h1 : RS K h (upr h 15 (up1 (h 15) 0 (h 15 0 - oTak h m))) := ⟨R.w15 fun i a b => by
    unfold up1; split
    · omega
    · exact R.por a b, rfl, rfl, rfl, rfl, rfl, rfl, rfl⟩
  unfold oTF; split
  · exact h1.tr ⟨RG_oRF h1.1 s0, rfl, rfl, rfl, rfl, rfl, rfl, rfl⟩
  · exact h1
theorem RS_store {K : Int} {h : HV} (R : RG K h) {k p t : Int} (p0 : 0 ≤ p) : RS (K + p) h (lStore h k p t) := by
  have rd := R.dry
  unfold lStore; split
  · refine ⟨R.w12 (by omega) fun i a b => ?_, rfl, rfl, rfl, rfl, rfl, rfl, rfl⟩
    have rf := R.fre a b
    have rf2 := R.fre (i := t % 30) (by omega) (by omega)
    unfold up1; split <;> omega
  · exact ⟨R.w11 (by omega) (by omega), rfl, rfl, rfl, rfl, rfl, rfl, rfl⟩
theorem RS_sBr {K : Int} {h : HV} (R : RG K h) (s0 : 1 ≤ h 13 2) {l : Int} (l0 : 0 ≤ l) : RS (K + oTak h l) h (sBr h l) := by
  have a := RS_oTF R s0 l0
  have b := RS_store a.1 (k := h 14 0) (t := oTF h l 0 6) (oTak_r R l0).1
  exact a.tr (b.tr ⟨b.1.w16, rfl, rfl, rfl, rfl, rfl, rfl, rfl⟩)
theorem RS_dBr {K : Int} : ∀ (n : Nat) {h : HV} {l K0 : Int}, RG K0 h → 0 ≤ l → K0 + l ≤ K → RS K h (dBr n h l)
  | 0, h, l, K0, R, l0, hk => RS.of (R.mono (by omega))
  | n + 1, h, l, K0, R, l0, hk => by
    unfold dBr; split
    · have a := RS_sBr R (by omega) l0
      have t := oTak_r R l0
      exact a.tr (RS_dBr n a.1 (by omega) (by omega))
    · exact RS.of (R.mono (by omega))
theorem RS_bring {K : Int} {h : HV} (R : RG K h) {m : Int} (m0 : 0 ≤ m) : RS (K + m) h (dBring h m) := RS_dBr 12 R m0 (Int.le_refl _)
theorem nThere_r {K : Int} {h : HV} (R : RG K h) : 0 ≤ nThere h ∧ nThere h ≤ 720 := by
  have rm := R.made
  have := sumI_le (f := gThere h) (lo := 0) (hi := 9) rm.1 fun k a b => by
    have rp := R.per (b := k) a (by omega)
    unfold gThere; split <;> omega
  unfold nThere; omega
theorem gShared_1 {h : HV} {x b : Int} (q : 0 < gShared h x x b) : gShared h x x b = 1 := by
  unfold gShared at *
  by_cases h1 : h 5 b + h 6 b ≤ x + 1 <;> by_cases h2 : h 5 b < x <;> simp only [h1, h2, if_true, if_false] at q ⊢ <;> omega
theorem gShared_le {h : HV} {x y b : Int} (hxy : y ≤ x + 1000) : gShared h x y b ≤ 1001 := by unfold gShared; split <;> split <;> omega
theorem nBeds_r {K : Int} {h : HV} (R : RG K h) {x : Int} : 0 ≤ nBeds h x x ∧ nBeds h x x ≤ 720 := by
  have rm := R.made
  have := sumI_le (f := gBeds h x x) (lo := 0) (hi := 9) rm.1 fun k a b => by
    have rp := R.per (b := k) a (by omega)
    unfold gBeds; split
    · next q =>
      rw [gShared_1 q.2]; omega
    · omega
  unfold nBeds; omega
theorem RS_eat {K : Int} {h : HV} (R : RG K h) : RS K h (dEat h) := by
  have rt := nThere_r R
  have rd := R.dry
  have hge : ∀ n, 0 ≤ n → 0 ≤ eatE (h 12) (h 0 6) (nThere h) n := fun n a => eatE_ge rt.1 a fun s a b => (R.fre a b).1
  have hle := eatE_le (f := h 12) (t := h 0 6) (p := nThere h) (n := 30)
  have h1 : RG K (upr h 12 (eatR (h 12) (h 0 6) (nThere h) 30)) := R.w12 (Int.le_refl _) fun i a b => by
    have rf := R.fre a b
    unfold eatR; split
    · next q =>
      have q1 := eatE_s (f := h 12) (t := h 0 6) (p := nThere h) (n := (i - h 0 6 - 1) % 30) (by omega) (by rw [show (h 0 6 - 30 + 1 + (i - h 0 6 - 1) % 30) % 30 = i by omega]; exact rf.1)
      rw [show (h 0 6 - 30 + 1 + (i - h 0 6 - 1) % 30) % 30 = i by omega] at q1
      have q2 := eatE_le (f := h 12) (t := h 0 6) (p := nThere h) (n := (i - h 0 6 - 1) % 30)
      split at q1 <;> omega
    · exact rf
  have hg := hge 30 (by decide)
  refine ⟨(h1.w11 (v := h 11 1 - eatD h (nThere h) (h 0 6)) (Int.le_refl _) ?_).w16, rfl, rfl, rfl, rfl, rfl, rfl, rfl⟩
  unfold eatD; split <;> omega
end
section
theorem zz_t : True := trivial
end
