/-- the words that a callee may be handed: those of the tables that hold behind every warming -/
def TB : List Cond := lw_tbl.filter goodWord
theorem tb_in {w : Cond} (h : w ∈ lw_tbl) (g : goodWord w = true) : w ∈ TB := List.mem_filter.mpr ⟨h, g⟩
theorem tb_sub {w : Cond} (h : w ∈ TB) : w ∈ lw_tbl := (List.mem_filter.mp h).1
theorem tb_good : ∀ w ∈ TB, goodWord w = true := fun _ h => (List.mem_filter.mp h).2
theorem q_0 : (.selects RX2 yX2_dropOldest yX2_dropOldest : Cond) ∈ TB := tb_in (List.mem_of_getElem? (i := 0) (by decide +kernel)) rfl
theorem q_1 : (.selects RX0 yX0_accepts yX0_accepts : Cond) ∈ TB := tb_in (List.mem_of_getElem? (i := 1) (by decide +kernel)) rfl
theorem q_2 : (.selects RX0 yX0_acceptsDayBegin yX0_acceptsDayBegin : Cond) ∈ TB := tb_in (List.mem_of_getElem? (i := 2) (by decide +kernel)) rfl
theorem q_3 : (.selects RX0 yX0_moveTo yX0_moveTo : Cond) ∈ TB := tb_in (List.mem_of_getElem? (i := 3) (by decide +kernel)) rfl
theorem q_4 : (.selects RX0 yX0_acceptsDayDigit yX0_acceptsDayDigit : Cond) ∈ TB := tb_in (List.mem_of_getElem? (i := 4) (by decide +kernel)) rfl
theorem q_5 : (.selects RX0 yX0_acceptsNights yX0_acceptsNights : Cond) ∈ TB := tb_in (List.mem_of_getElem? (i := 5) (by decide +kernel)) rfl
theorem q_6 : (.selects RX0 yX0_acceptsPersons yX0_acceptsPersons : Cond) ∈ TB := tb_in (List.mem_of_getElem? (i := 6) (by decide +kernel)) rfl
theorem q_7 : (.selects RX6 yX6_errorUnlessBooked yX6_errorUnlessBooked : Cond) ∈ TB := tb_in (List.mem_of_getElem? (i := 7) (by decide +kernel)) rfl
theorem q_8 : (.selects RX3 yX3_letGroupsLeave yX3_letGroupsLeave : Cond) ∈ TB := tb_in (List.mem_of_getElem? (i := 8) (by decide +kernel)) rfl
theorem q_9 : (.selects RX3 yX3_letLeave yX3_letLeave : Cond) ∈ TB := tb_in (List.mem_of_getElem? (i := 9) (by decide +kernel)) rfl
theorem q_10 : (.selects RX3 yX3_turnLateOnesAway yX3_turnLateOnesAway : Cond) ∈ TB := tb_in (List.mem_of_getElem? (i := 10) (by decide +kernel)) rfl
theorem q_11 : (.selects RX3 yX3_turnAway yX3_turnAway : Cond) ∈ TB := tb_in (List.mem_of_getElem? (i := 11) (by decide +kernel)) rfl
theorem q_12 : (.selects RX3 yX3_letGroupsCome yX3_letGroupsCome : Cond) ∈ TB := tb_in (List.mem_of_getElem? (i := 12) (by decide +kernel)) rfl
theorem q_13 : (.selects RX3 yX3_bring yX3_bring : Cond) ∈ TB := tb_in (List.mem_of_getElem? (i := 13) (by decide +kernel)) rfl
theorem q_14 : (.selects RX5 yX5_removeFirst yX5_removeFirst : Cond) ∈ TB := tb_in (List.mem_of_getElem? (i := 14) (by decide +kernel)) rfl
theorem q_15 : (.selects RX3 yX3_fly yX3_fly : Cond) ∈ TB := tb_in (List.mem_of_getElem? (i := 15) (by decide +kernel)) rfl
theorem q_16 : (.selects RX3 yX3_letAllEat yX3_letAllEat : Cond) ∈ TB := tb_in (List.mem_of_getElem? (i := 16) (by decide +kernel)) rfl
theorem q_17 : (.selects RX3 yX3_letAllSleep yX3_letAllSleep : Cond) ∈ TB := tb_in (List.mem_of_getElem? (i := 17) (by decide +kernel)) rfl
theorem q_18 : (.selects RX6 yX6_mostBedsTaken yX6_mostBedsTaken : Cond) ∈ TB := tb_in (List.mem_of_getElem? (i := 18) (by decide +kernel)) rfl
theorem q_19 : (.selects RX6 yX6_passInTrial yX6_passInTrial : Cond) ∈ TB := tb_in (List.mem_of_getElem? (i := 19) (by decide +kernel)) rfl
theorem q_20 : (.selects RX7 yX7_tryToBook yX7_tryToBook : Cond) ∈ TB := tb_in (List.mem_of_getElem? (i := 20) (by decide +kernel)) rfl
theorem q_21 : (.selects RX7 yX7_fits yX7_fits : Cond) ∈ TB := tb_in (List.mem_of_getElem? (i := 21) (by decide +kernel)) rfl
theorem q_22 : (.selects RX7 yX7_taken yX7_taken : Cond) ∈ TB := tb_in (List.mem_of_getElem? (i := 22) (by decide +kernel)) rfl
theorem q_23 : (.selects RX7 yX7_of yX7_of : Cond) ∈ TB := tb_in (List.mem_of_getElem? (i := 23) (by decide +kernel)) rfl
theorem q_24 : (.selects RX7 yX7_end yX7_end : Cond) ∈ TB := tb_in (List.mem_of_getElem? (i := 24) (by decide +kernel)) rfl
theorem q_25 : (.selects RX7 yX7_record yX7_record : Cond) ∈ TB := tb_in (List.mem_of_getElem? (i := 25) (by decide +kernel)) rfl
theorem q_26 : (.selects RX7 yX7_addBooking yX7_addBooking : Cond) ∈ TB := tb_in (List.mem_of_getElem? (i := 26) (by decide +kernel)) rfl
theorem q_27 : (.selects RX7 yX7_put yX7_put : Cond) ∈ TB := tb_in (List.mem_of_getElem? (i := 27) (by decide +kernel)) rfl
theorem q_28 : (.selects RX7 yX7_readAll yX7_readAll : Cond) ∈ TB := tb_in (List.mem_of_getElem? (i := 28) (by decide +kernel)) rfl
theorem q_29 : (.selects RX7 yX7_readBooking yX7_readBooking : Cond) ∈ TB := tb_in (List.mem_of_getElem? (i := 29) (by decide +kernel)) rfl
theorem q_30 : (.selects RX7 yX7_isNext yX7_isNext : Cond) ∈ TB := tb_in (List.mem_of_getElem? (i := 30) (by decide +kernel)) rfl
theorem q_31 : (.selects RX7 yX7_lay yX7_lay : Cond) ∈ TB := tb_in (List.mem_of_getElem? (i := 31) (by decide +kernel)) rfl
theorem q_32 : (.selects RX7 yX7_takeBack yX7_takeBack : Cond) ∈ TB := tb_in (List.mem_of_getElem? (i := 32) (by decide +kernel)) rfl
theorem q_33 : (.selects RX7 yX7_isBooking yX7_isBooking : Cond) ∈ TB := tb_in (List.mem_of_getElem? (i := 33) (by decide +kernel)) rfl
theorem q_34 : (.selects RX7 yX7_is yX7_is : Cond) ∈ TB := tb_in (List.mem_of_getElem? (i := 34) (by decide +kernel)) rfl
theorem q_35 : (.selects RX7 yX7_refundOf yX7_refundOf : Cond) ∈ TB := tb_in (List.mem_of_getElem? (i := 35) (by decide +kernel)) rfl
theorem q_36 : (.selects RX7 yX7_isUpOpen yX7_isUpOpen : Cond) ∈ TB := tb_in (List.mem_of_getElem? (i := 36) (by decide +kernel)) rfl
theorem q_37 : (.selects RX7 yX7_weatherOf yX7_weatherOf : Cond) ∈ TB := tb_in (List.mem_of_getElem? (i := 37) (by decide +kernel)) rfl
theorem q_38 : (.selects RX7 yX7_dropOrder yX7_dropOrder : Cond) ∈ TB := tb_in (List.mem_of_getElem? (i := 38) (by decide +kernel)) rfl
theorem q_39 : (.selects RX7 yX7_passDay yX7_passDay : Cond) ∈ TB := tb_in (List.mem_of_getElem? (i := 39) (by decide +kernel)) rfl
theorem q_40 : (.selects RX7 yX7_isDownOpen yX7_isDownOpen : Cond) ∈ TB := tb_in (List.mem_of_getElem? (i := 40) (by decide +kernel)) rfl
theorem q_41 : (.selects RX7 yX7_leave yX7_leave : Cond) ∈ TB := tb_in (List.mem_of_getElem? (i := 41) (by decide +kernel)) rfl
theorem q_42 : (.selects RX7 yX7_turnAway yX7_turnAway : Cond) ∈ TB := tb_in (List.mem_of_getElem? (i := 42) (by decide +kernel)) rfl
theorem q_43 : (.selects RX7 yX7_come yX7_come : Cond) ∈ TB := tb_in (List.mem_of_getElem? (i := 43) (by decide +kernel)) rfl
theorem q_44 : (.selects RX7 yX7_personsThere yX7_personsThere : Cond) ∈ TB := tb_in (List.mem_of_getElem? (i := 44) (by decide +kernel)) rfl
theorem q_45 : (.selects RX7 yX7_bring yX7_bring : Cond) ∈ TB := tb_in (List.mem_of_getElem? (i := 45) (by decide +kernel)) rfl
theorem q_46 : (.selects RX7 yX7_isWindy yX7_isWindy : Cond) ∈ TB := tb_in (List.mem_of_getElem? (i := 46) (by decide +kernel)) rfl
theorem q_47 : (.selects RX7 yX7_fly yX7_fly : Cond) ∈ TB := tb_in (List.mem_of_getElem? (i := 47) (by decide +kernel)) rfl
theorem q_48 : (.selects RX7 yX7_eat yX7_eat : Cond) ∈ TB := tb_in (List.mem_of_getElem? (i := 48) (by decide +kernel)) rfl
theorem q_49 : (.selects RX7 yX7_sleep yX7_sleep : Cond) ∈ TB := tb_in (List.mem_of_getElem? (i := 49) (by decide +kernel)) rfl
theorem q_50 : (.selects RX7 yX7_inState yX7_inState : Cond) ∈ TB := tb_in (List.mem_of_getElem? (i := 50) (by decide +kernel)) rfl
theorem q_51 : (.selects RX7 yX7_freshPortions yX7_freshPortions : Cond) ∈ TB := tb_in (List.mem_of_getElem? (i := 51) (by decide +kernel)) rfl
theorem q_52 : (.selects RX7 yX7_waitingPortions yX7_waitingPortions : Cond) ∈ TB := tb_in (List.mem_of_getElem? (i := 52) (by decide +kernel)) rfl
theorem q_53 : (.selects RX7 yX7_grows yX7_grows : Cond) ∈ TB := tb_in (List.mem_of_getElem? (i := 53) (by decide +kernel)) rfl
theorem q_54 : (.selects RX7 yX7_takesDown yX7_takesDown : Cond) ∈ TB := tb_in (List.mem_of_getElem? (i := 54) (by decide +kernel)) rfl
theorem q_55 : (.initialized RL : Cond) ∈ TB := tb_in (List.mem_of_getElem? (i := 55) (by decide +kernel)) rfl
theorem q_56 : (.initialized RX6 : Cond) ∈ TB := tb_in (List.mem_of_getElem? (i := 56) (by decide +kernel)) rfl
theorem q_57 : (.initialized RX3 : Cond) ∈ TB := tb_in (List.mem_of_getElem? (i := 57) (by decide +kernel)) rfl
theorem q_58 : (.initialized RJ10 : Cond) ∈ TB := tb_in (List.mem_of_getElem? (i := 58) (by decide +kernel)) rfl
theorem q_59 : (.initialized RX1 : Cond) ∈ TB := tb_in (List.mem_of_getElem? (i := 59) (by decide +kernel)) rfl
theorem q_60 : (.initialized RX4 : Cond) ∈ TB := tb_in (List.mem_of_getElem? (i := 60) (by decide +kernel)) rfl
theorem q_61 : (.initialized RX5 : Cond) ∈ TB := tb_in (List.mem_of_getElem? (i := 61) (by decide +kernel)) rfl
theorem q_62 : (.initialized RX2 : Cond) ∈ TB := tb_in (List.mem_of_getElem? (i := 62) (by decide +kernel)) rfl
theorem q_63 : (.initialized RX0 : Cond) ∈ TB := tb_in (List.mem_of_getElem? (i := 63) (by decide +kernel)) rfl
theorem q_64 : (.initialized RX7 : Cond) ∈ TB := tb_in (List.mem_of_getElem? (i := 64) (by decide +kernel)) rfl
theorem q_65 : (.initialized RJ9 : Cond) ∈ TB := tb_in (List.mem_of_getElem? (i := 65) (by decide +kernel)) rfl
theorem q_66 : (.initialized RJ7 : Cond) ∈ TB := tb_in (List.mem_of_getElem? (i := 66) (by decide +kernel)) rfl
theorem q_67 : (.classLink RL 7 RX6 : Cond) ∈ TB := tb_in (List.mem_of_getElem? (i := 67) (by decide +kernel)) rfl
theorem q_68 : (.instantiable RX6 7 : Cond) ∈ TB := tb_in (List.mem_of_getElem? (i := 68) (by decide +kernel)) rfl
theorem q_69 : (.methodLink RL 9 yX6_init : Cond) ∈ TB := tb_in (List.mem_of_getElem? (i := 69) (by decide +kernel)) rfl
theorem q_70 : (.instanceMethod yX6_init : Cond) ∈ TB := tb_in (List.mem_of_getElem? (i := 70) (by decide +kernel)) rfl
theorem q_71 : (.code yX6_init cX6_init 1 (Option.none : Option Jvm.ClassFile.FieldType) : Cond) ∈ TB := tb_in (List.mem_of_getElem? (i := 71) (by decide +kernel)) rfl
theorem q_72 : (.methodLink RX6 1 objectInit : Cond) ∈ TB := tb_in (List.mem_of_getElem? (i := 72) (by decide +kernel)) rfl
theorem q_73 : (.instanceMethod objectInit : Cond) ∈ TB := tb_in (List.mem_of_getElem? (i := 73) (by decide +kernel)) rfl
theorem q_74 : (.code objectInit ⟨#[0xb1]⟩ 1 (Option.none : Option Jvm.ClassFile.FieldType) : Cond) ∈ TB := tb_in (List.mem_of_getElem? (i := 74) (by decide +kernel)) rfl
theorem q_75 : (.classLink RX6 7 RX3 : Cond) ∈ TB := tb_in (List.mem_of_getElem? (i := 75) (by decide +kernel)) rfl
theorem q_76 : (.instantiable RX3 11 : Cond) ∈ TB := tb_in (List.mem_of_getElem? (i := 76) (by decide +kernel)) rfl
theorem q_77 : (.methodLink RX6 9 yX3_init : Cond) ∈ TB := tb_in (List.mem_of_getElem? (i := 77) (by decide +kernel)) rfl
theorem q_78 : (.instanceMethod yX3_init : Cond) ∈ TB := tb_in (List.mem_of_getElem? (i := 78) (by decide +kernel)) rfl
theorem q_79 : (.code yX3_init cX3_init 1 (Option.none : Option Jvm.ClassFile.FieldType) : Cond) ∈ TB := tb_in (List.mem_of_getElem? (i := 79) (by decide +kernel)) rfl
theorem q_80 : (.methodLink RX3 3 objectInit : Cond) ∈ TB := tb_in (List.mem_of_getElem? (i := 80) (by decide +kernel)) rfl
theorem q_81 : (.fieldLinkNest RX3 15 "HutBookings" "SETTING_FIRST" "[I" "HutBookings" : Cond) ∈ lw_tbl := List.mem_of_getElem? (i := 81) (by decide +kernel)
theorem q_83 : (.methodLink RX3 18 arraycopyName : Cond) ∈ TB := tb_in (List.mem_of_getElem? (i := 83) (by decide +kernel)) rfl
theorem q_84 : (.static arraycopyName : Cond) ∈ TB := tb_in (List.mem_of_getElem? (i := 84) (by decide +kernel)) rfl
theorem q_85 : (.native arraycopyName : Cond) ∈ TB := tb_in (List.mem_of_getElem? (i := 85) (by decide +kernel)) rfl
theorem q_86 : (.classLink RX3 27 RX1 : Cond) ∈ TB := tb_in (List.mem_of_getElem? (i := 86) (by decide +kernel)) rfl
theorem q_87 : (.instantiable RX1 8 : Cond) ∈ TB := tb_in (List.mem_of_getElem? (i := 87) (by decide +kernel)) rfl
theorem q_88 : (.methodLink RX3 29 yX1_init : Cond) ∈ TB := tb_in (List.mem_of_getElem? (i := 88) (by decide +kernel)) rfl
theorem q_89 : (.instanceMethod yX1_init : Cond) ∈ TB := tb_in (List.mem_of_getElem? (i := 89) (by decide +kernel)) rfl
theorem q_90 : (.code yX1_init cX1_init 1 (Option.none : Option Jvm.ClassFile.FieldType) : Cond) ∈ TB := tb_in (List.mem_of_getElem? (i := 90) (by decide +kernel)) rfl
theorem q_91 : (.methodLink RX1 3 objectInit : Cond) ∈ TB := tb_in (List.mem_of_getElem? (i := 91) (by decide +kernel)) rfl
theorem q_92 : (.fieldLink RX1 9 "HutBookings$Guests" "how" "[I" : Cond) ∈ TB := tb_in (List.mem_of_getElem? (i := 92) (by decide +kernel)) rfl
theorem q_93 : (.fieldLink RX3 122 "HutBookings$Guests" "how" "[I" : Cond) ∈ TB := tb_in (List.mem_of_getElem? (i := 93) (by decide +kernel)) rfl
theorem q_94 : (.fieldLink RX6 162 "HutBookings$Guests" "how" "[I" : Cond) ∈ TB := tb_in (List.mem_of_getElem? (i := 94) (by decide +kernel)) rfl
theorem q_95 : (.fieldLink RX1 15 "HutBookings$Guests" "arrives" "[I" : Cond) ∈ TB := tb_in (List.mem_of_getElem? (i := 95) (by decide +kernel)) rfl
theorem q_96 : (.fieldLink RX3 109 "HutBookings$Guests" "arrives" "[I" : Cond) ∈ TB := tb_in (List.mem_of_getElem? (i := 96) (by decide +kernel)) rfl
theorem q_97 : (.fieldLink RX6 165 "HutBookings$Guests" "arrives" "[I" : Cond) ∈ TB := tb_in (List.mem_of_getElem? (i := 97) (by decide +kernel)) rfl
theorem q_98 : (.fieldLink RX1 18 "HutBookings$Guests" "nights" "[I" : Cond) ∈ TB := tb_in (List.mem_of_getElem? (i := 98) (by decide +kernel)) rfl
theorem q_99 : (.fieldLink RX6 100 "HutBookings$Guests" "nights" "[I" : Cond) ∈ TB := tb_in (List.mem_of_getElem? (i := 99) (by decide +kernel)) rfl
theorem q_100 : (.fieldLink RX3 128 "HutBookings$Guests" "nights" "[I" : Cond) ∈ TB := tb_in (List.mem_of_getElem? (i := 100) (by decide +kernel)) rfl
theorem q_101 : (.fieldLink RX1 21 "HutBookings$Guests" "persons" "[I" : Cond) ∈ TB := tb_in (List.mem_of_getElem? (i := 101) (by decide +kernel)) rfl
theorem q_102 : (.fieldLink RX3 131 "HutBookings$Guests" "persons" "[I" : Cond) ∈ TB := tb_in (List.mem_of_getElem? (i := 102) (by decide +kernel)) rfl
theorem q_103 : (.fieldLink RX6 166 "HutBookings$Guests" "persons" "[I" : Cond) ∈ TB := tb_in (List.mem_of_getElem? (i := 103) (by decide +kernel)) rfl
theorem q_104 : (.fieldLink RX1 24 "HutBookings$Guests" "slept" "[I" : Cond) ∈ TB := tb_in (List.mem_of_getElem? (i := 104) (by decide +kernel)) rfl
theorem q_105 : (.fieldLink RX6 167 "HutBookings$Guests" "slept" "[I" : Cond) ∈ TB := tb_in (List.mem_of_getElem? (i := 105) (by decide +kernel)) rfl
theorem q_106 : (.fieldLink RX3 208 "HutBookings$Guests" "slept" "[I" : Cond) ∈ TB := tb_in (List.mem_of_getElem? (i := 106) (by decide +kernel)) rfl
theorem q_107 : (.fieldLink RX1 27 "HutBookings$Guests" "deposit" "[I" : Cond) ∈ TB := tb_in (List.mem_of_getElem? (i := 107) (by decide +kernel)) rfl
theorem q_108 : (.fieldLink RX3 116 "HutBookings$Guests" "deposit" "[I" : Cond) ∈ TB := tb_in (List.mem_of_getElem? (i := 108) (by decide +kernel)) rfl
theorem q_109 : (.fieldLink RX6 173 "HutBookings$Guests" "deposit" "[I" : Cond) ∈ TB := tb_in (List.mem_of_getElem? (i := 109) (by decide +kernel)) rfl
theorem q_110 : (.fieldLink RX1 30 "HutBookings$Guests" "came" "[I" : Cond) ∈ TB := tb_in (List.mem_of_getElem? (i := 110) (by decide +kernel)) rfl
theorem q_111 : (.fieldLink RX6 176 "HutBookings$Guests" "came" "[I" : Cond) ∈ TB := tb_in (List.mem_of_getElem? (i := 111) (by decide +kernel)) rfl
theorem q_112 : (.fieldLink RX3 178 "HutBookings$Guests" "came" "[I" : Cond) ∈ TB := tb_in (List.mem_of_getElem? (i := 112) (by decide +kernel)) rfl
theorem q_113 : (.fieldLink RX1 33 "HutBookings$Guests" "made" "I" : Cond) ∈ TB := tb_in (List.mem_of_getElem? (i := 113) (by decide +kernel)) rfl
theorem q_114 : (.fieldLink RX3 98 "HutBookings$Guests" "made" "I" : Cond) ∈ TB := tb_in (List.mem_of_getElem? (i := 114) (by decide +kernel)) rfl
theorem q_115 : (.fieldLink RX6 210 "HutBookings$Guests" "made" "I" : Cond) ∈ TB := tb_in (List.mem_of_getElem? (i := 115) (by decide +kernel)) rfl
theorem q_134 : (.classLink RX3 34 RX4 : Cond) ∈ TB := tb_in (List.mem_of_getElem? (i := 134) (by decide +kernel)) rfl
theorem q_135 : (.instantiable RX4 2 : Cond) ∈ TB := tb_in (List.mem_of_getElem? (i := 135) (by decide +kernel)) rfl
theorem q_136 : (.methodLink RX3 36 yX4_init : Cond) ∈ TB := tb_in (List.mem_of_getElem? (i := 136) (by decide +kernel)) rfl
theorem q_137 : (.instanceMethod yX4_init : Cond) ∈ TB := tb_in (List.mem_of_getElem? (i := 137) (by decide +kernel)) rfl
theorem q_138 : (.code yX4_init cX4_init 1 (Option.none : Option Jvm.ClassFile.FieldType) : Cond) ∈ TB := tb_in (List.mem_of_getElem? (i := 138) (by decide +kernel)) rfl
theorem q_139 : (.methodLink RX4 3 objectInit : Cond) ∈ TB := tb_in (List.mem_of_getElem? (i := 139) (by decide +kernel)) rfl
theorem q_140 : (.fieldLink RX4 9 "HutBookings$Larder" "fresh" "[I" : Cond) ∈ TB := tb_in (List.mem_of_getElem? (i := 140) (by decide +kernel)) rfl
theorem q_141 : (.fieldLink RX4 21 "HutBookings$Larder" "dry" "I" : Cond) ∈ TB := tb_in (List.mem_of_getElem? (i := 141) (by decide +kernel)) rfl
theorem q_142 : (.fieldLink RX6 227 "HutBookings$Larder" "dry" "I" : Cond) ∈ TB := tb_in (List.mem_of_getElem? (i := 142) (by decide +kernel)) rfl
theorem q_148 : (.classLink RX3 41 RX5 : Cond) ∈ TB := tb_in (List.mem_of_getElem? (i := 148) (by decide +kernel)) rfl
theorem q_149 : (.instantiable RX5 3 : Cond) ∈ TB := tb_in (List.mem_of_getElem? (i := 149) (by decide +kernel)) rfl
theorem q_150 : (.methodLink RX3 43 yX5_init : Cond) ∈ TB := tb_in (List.mem_of_getElem? (i := 150) (by decide +kernel)) rfl
theorem q_151 : (.instanceMethod yX5_init : Cond) ∈ TB := tb_in (List.mem_of_getElem? (i := 151) (by decide +kernel)) rfl
theorem q_152 : (.code yX5_init cX5_init 1 (Option.none : Option Jvm.ClassFile.FieldType) : Cond) ∈ TB := tb_in (List.mem_of_getElem? (i := 152) (by decide +kernel)) rfl
theorem q_153 : (.methodLink RX5 3 objectInit : Cond) ∈ TB := tb_in (List.mem_of_getElem? (i := 153) (by decide +kernel)) rfl
theorem q_154 : (.fieldLink RX5 9 "HutBookings$Orders" "kinds" "[I" : Cond) ∈ TB := tb_in (List.mem_of_getElem? (i := 154) (by decide +kernel)) rfl
theorem q_155 : (.fieldLink RX6 204 "HutBookings$Orders" "kinds" "[I" : Cond) ∈ TB := tb_in (List.mem_of_getElem? (i := 155) (by decide +kernel)) rfl
theorem q_156 : (.fieldLink RX3 191 "HutBookings$Orders" "kinds" "[I" : Cond) ∈ TB := tb_in (List.mem_of_getElem? (i := 156) (by decide +kernel)) rfl
theorem q_157 : (.fieldLink RX5 15 "HutBookings$Orders" "portions" "[I" : Cond) ∈ TB := tb_in (List.mem_of_getElem? (i := 157) (by decide +kernel)) rfl
theorem q_158 : (.fieldLink RX6 207 "HutBookings$Orders" "portions" "[I" : Cond) ∈ TB := tb_in (List.mem_of_getElem? (i := 158) (by decide +kernel)) rfl
theorem q_159 : (.fieldLink RX5 18 "HutBookings$Orders" "size" "I" : Cond) ∈ TB := tb_in (List.mem_of_getElem? (i := 159) (by decide +kernel)) rfl
theorem q_160 : (.fieldLink RX6 118 "HutBookings$Orders" "size" "I" : Cond) ∈ TB := tb_in (List.mem_of_getElem? (i := 160) (by decide +kernel)) rfl
theorem q_161 : (.fieldLink RX3 188 "HutBookings$Orders" "size" "I" : Cond) ∈ TB := tb_in (List.mem_of_getElem? (i := 161) (by decide +kernel)) rfl
theorem q_169 : (.fieldLink RX3 9 "HutBookings$Hut" "settings" "[I" : Cond) ∈ TB := tb_in (List.mem_of_getElem? (i := 169) (by decide +kernel)) rfl
theorem q_170 : (.fieldLink RX6 149 "HutBookings$Hut" "settings" "[I" : Cond) ∈ TB := tb_in (List.mem_of_getElem? (i := 170) (by decide +kernel)) rfl
theorem q_171 : (.fieldLink RX3 24 "HutBookings$Hut" "weatherRow" "[I" : Cond) ∈ TB := tb_in (List.mem_of_getElem? (i := 171) (by decide +kernel)) rfl
theorem q_172 : (.fieldLink RX3 30 "HutBookings$Hut" "guests" "LHutBookings$Guests;" : Cond) ∈ TB := tb_in (List.mem_of_getElem? (i := 172) (by decide +kernel)) rfl
theorem q_173 : (.fieldLink RX6 83 "HutBookings$Hut" "guests" "LHutBookings$Guests;" : Cond) ∈ TB := tb_in (List.mem_of_getElem? (i := 173) (by decide +kernel)) rfl
theorem q_174 : (.fieldLink RX3 37 "HutBookings$Hut" "larder" "LHutBookings$Larder;" : Cond) ∈ TB := tb_in (List.mem_of_getElem? (i := 174) (by decide +kernel)) rfl
theorem q_175 : (.fieldLink RX6 191 "HutBookings$Hut" "larder" "LHutBookings$Larder;" : Cond) ∈ TB := tb_in (List.mem_of_getElem? (i := 175) (by decide +kernel)) rfl
theorem q_176 : (.fieldLink RX3 44 "HutBookings$Hut" "orders" "LHutBookings$Orders;" : Cond) ∈ TB := tb_in (List.mem_of_getElem? (i := 176) (by decide +kernel)) rfl
theorem q_177 : (.fieldLink RX6 114 "HutBookings$Hut" "orders" "LHutBookings$Orders;" : Cond) ∈ TB := tb_in (List.mem_of_getElem? (i := 177) (by decide +kernel)) rfl
theorem q_178 : (.fieldLink RX3 48 "HutBookings$Hut" "tally" "[I" : Cond) ∈ TB := tb_in (List.mem_of_getElem? (i := 178) (by decide +kernel)) rfl
theorem q_179 : (.fieldLink RX6 134 "HutBookings$Hut" "tally" "[I" : Cond) ∈ TB := tb_in (List.mem_of_getElem? (i := 179) (by decide +kernel)) rfl
theorem q_180 : (.fieldLink RX3 61 "HutBookings$Hut" "today" "I" : Cond) ∈ TB := tb_in (List.mem_of_getElem? (i := 180) (by decide +kernel)) rfl
theorem q_181 : (.fieldLink RX6 104 "HutBookings$Hut" "today" "I" : Cond) ∈ TB := tb_in (List.mem_of_getElem? (i := 181) (by decide +kernel)) rfl
theorem q_182 : (.fieldLink RX3 65 "HutBookings$Hut" "flightCalled" "Z" : Cond) ∈ TB := tb_in (List.mem_of_getElem? (i := 182) (by decide +kernel)) rfl
theorem q_183 : (.fieldLink RX6 131 "HutBookings$Hut" "flightCalled" "Z" : Cond) ∈ TB := tb_in (List.mem_of_getElem? (i := 183) (by decide +kernel)) rfl
theorem q_184 : (.fieldLink RX3 69 "HutBookings$Hut" "purse" "I" : Cond) ∈ TB := tb_in (List.mem_of_getElem? (i := 184) (by decide +kernel)) rfl
theorem q_185 : (.fieldLink RX6 233 "HutBookings$Hut" "purse" "I" : Cond) ∈ TB := tb_in (List.mem_of_getElem? (i := 185) (by decide +kernel)) rfl
theorem q_186 : (.fieldLink RX3 72 "HutBookings$Hut" "depositsKept" "I" : Cond) ∈ TB := tb_in (List.mem_of_getElem? (i := 186) (by decide +kernel)) rfl
theorem q_187 : (.fieldLink RX6 239 "HutBookings$Hut" "depositsKept" "I" : Cond) ∈ TB := tb_in (List.mem_of_getElem? (i := 187) (by decide +kernel)) rfl
theorem q_188 : (.fieldLink RX3 75 "HutBookings$Hut" "flightsPaid" "I" : Cond) ∈ TB := tb_in (List.mem_of_getElem? (i := 188) (by decide +kernel)) rfl
theorem q_189 : (.fieldLink RX6 242 "HutBookings$Hut" "flightsPaid" "I" : Cond) ∈ TB := tb_in (List.mem_of_getElem? (i := 189) (by decide +kernel)) rfl
theorem q_213 : (.classLink RX6 26 RX2 : Cond) ∈ TB := tb_in (List.mem_of_getElem? (i := 213) (by decide +kernel)) rfl
theorem q_214 : (.instantiable RX2 2 : Cond) ∈ TB := tb_in (List.mem_of_getElem? (i := 214) (by decide +kernel)) rfl
theorem q_215 : (.methodLink RX6 28 yX2_init : Cond) ∈ TB := tb_in (List.mem_of_getElem? (i := 215) (by decide +kernel)) rfl
theorem q_216 : (.instanceMethod yX2_init : Cond) ∈ TB := tb_in (List.mem_of_getElem? (i := 216) (by decide +kernel)) rfl
theorem q_217 : (.code yX2_init cX2_init 2 (Option.none : Option Jvm.ClassFile.FieldType) : Cond) ∈ TB := tb_in (List.mem_of_getElem? (i := 217) (by decide +kernel)) rfl
theorem q_218 : (.methodLink RX2 3 objectInit : Cond) ∈ TB := tb_in (List.mem_of_getElem? (i := 218) (by decide +kernel)) rfl
theorem q_219 : (.classLink RX2 9 RX3 : Cond) ∈ TB := tb_in (List.mem_of_getElem? (i := 219) (by decide +kernel)) rfl
theorem q_221 : (.methodLink RX2 17 yX3_init : Cond) ∈ TB := tb_in (List.mem_of_getElem? (i := 221) (by decide +kernel)) rfl
theorem q_222 : (.fieldLink RX2 11 "HutBookings$History" "states" "[LHutBookings$Hut;" : Cond) ∈ TB := tb_in (List.mem_of_getElem? (i := 222) (by decide +kernel)) rfl
theorem q_223 : (.fieldLink RX2 18 "HutBookings$History" "size" "I" : Cond) ∈ TB := tb_in (List.mem_of_getElem? (i := 223) (by decide +kernel)) rfl
theorem q_224 : (.fieldLink RX6 158 "HutBookings$History" "size" "I" : Cond) ∈ TB := tb_in (List.mem_of_getElem? (i := 224) (by decide +kernel)) rfl
theorem q_230 : (.classLink RX6 33 RX0 : Cond) ∈ TB := tb_in (List.mem_of_getElem? (i := 230) (by decide +kernel)) rfl
theorem q_231 : (.instantiable RX0 9 : Cond) ∈ TB := tb_in (List.mem_of_getElem? (i := 231) (by decide +kernel)) rfl
theorem q_232 : (.methodLink RX6 35 yX0_init : Cond) ∈ TB := tb_in (List.mem_of_getElem? (i := 232) (by decide +kernel)) rfl
theorem q_233 : (.instanceMethod yX0_init : Cond) ∈ TB := tb_in (List.mem_of_getElem? (i := 233) (by decide +kernel)) rfl
theorem q_234 : (.code yX0_init cX0_init 1 (Option.none : Option Jvm.ClassFile.FieldType) : Cond) ∈ TB := tb_in (List.mem_of_getElem? (i := 234) (by decide +kernel)) rfl
theorem q_235 : (.methodLink RX0 3 objectInit : Cond) ∈ TB := tb_in (List.mem_of_getElem? (i := 235) (by decide +kernel)) rfl
theorem q_236 : (.fieldLink RX0 9 "HutBookings$BookingText" "characters" "[C" : Cond) ∈ TB := tb_in (List.mem_of_getElem? (i := 236) (by decide +kernel)) rfl
theorem q_237 : (.fieldLink RX0 25 "HutBookings$BookingText" "length" "I" : Cond) ∈ TB := tb_in (List.mem_of_getElem? (i := 237) (by decide +kernel)) rfl
theorem q_238 : (.fieldLink RX6 152 "HutBookings$BookingText" "length" "I" : Cond) ∈ TB := tb_in (List.mem_of_getElem? (i := 238) (by decide +kernel)) rfl
theorem q_239 : (.fieldLink RX0 15 "HutBookings$BookingText" "arrives" "[I" : Cond) ∈ TB := tb_in (List.mem_of_getElem? (i := 239) (by decide +kernel)) rfl
theorem q_240 : (.fieldLink RX6 67 "HutBookings$BookingText" "arrives" "[I" : Cond) ∈ TB := tb_in (List.mem_of_getElem? (i := 240) (by decide +kernel)) rfl
theorem q_241 : (.fieldLink RX0 19 "HutBookings$BookingText" "nights" "[I" : Cond) ∈ TB := tb_in (List.mem_of_getElem? (i := 241) (by decide +kernel)) rfl
theorem q_242 : (.fieldLink RX6 70 "HutBookings$BookingText" "nights" "[I" : Cond) ∈ TB := tb_in (List.mem_of_getElem? (i := 242) (by decide +kernel)) rfl
theorem q_243 : (.fieldLink RX0 22 "HutBookings$BookingText" "persons" "[I" : Cond) ∈ TB := tb_in (List.mem_of_getElem? (i := 243) (by decide +kernel)) rfl
theorem q_244 : (.fieldLink RX6 73 "HutBookings$BookingText" "persons" "[I" : Cond) ∈ TB := tb_in (List.mem_of_getElem? (i := 244) (by decide +kernel)) rfl
theorem q_245 : (.fieldLink RX0 29 "HutBookings$BookingText" "found" "I" : Cond) ∈ TB := tb_in (List.mem_of_getElem? (i := 245) (by decide +kernel)) rfl
theorem q_246 : (.fieldLink RX6 63 "HutBookings$BookingText" "found" "I" : Cond) ∈ TB := tb_in (List.mem_of_getElem? (i := 246) (by decide +kernel)) rfl
theorem q_247 : (.fieldLink RX0 32 "HutBookings$BookingText" "place" "I" : Cond) ∈ TB := tb_in (List.mem_of_getElem? (i := 247) (by decide +kernel)) rfl
theorem q_248 : (.fieldLink RX0 56 "HutBookings$BookingText" "dayRead" "I" : Cond) ∈ TB := tb_in (List.mem_of_getElem? (i := 248) (by decide +kernel)) rfl
theorem q_249 : (.fieldLink RX0 59 "HutBookings$BookingText" "nightsRead" "I" : Cond) ∈ TB := tb_in (List.mem_of_getElem? (i := 249) (by decide +kernel)) rfl
theorem q_270 : (.fieldLink RX6 10 "HutBookings" "hut" "LHutBookings$Hut;" : Cond) ∈ TB := tb_in (List.mem_of_getElem? (i := 270) (by decide +kernel)) rfl
theorem q_271 : (.fieldLink RX6 16 "HutBookings" "trial" "LHutBookings$Hut;" : Cond) ∈ TB := tb_in (List.mem_of_getElem? (i := 271) (by decide +kernel)) rfl
theorem q_272 : (.fieldLink RX6 19 "HutBookings" "snapshot" "LHutBookings$Hut;" : Cond) ∈ TB := tb_in (List.mem_of_getElem? (i := 272) (by decide +kernel)) rfl
theorem q_273 : (.fieldLink RX6 22 "HutBookings" "hasSnapshot" "Z" : Cond) ∈ TB := tb_in (List.mem_of_getElem? (i := 273) (by decide +kernel)) rfl
theorem q_274 : (.fieldLink RX6 29 "HutBookings" "history" "LHutBookings$History;" : Cond) ∈ TB := tb_in (List.mem_of_getElem? (i := 274) (by decide +kernel)) rfl
theorem q_275 : (.fieldLink RX6 36 "HutBookings" "text" "LHutBookings$BookingText;" : Cond) ∈ TB := tb_in (List.mem_of_getElem? (i := 275) (by decide +kernel)) rfl
theorem q_276 : (.fieldLink RX6 40 "HutBookings" "bedsTaken" "[I" : Cond) ∈ TB := tb_in (List.mem_of_getElem? (i := 276) (by decide +kernel)) rfl
theorem q_292 : (.methodLink RL 13 yX6_book : Cond) ∈ TB := tb_in (List.mem_of_getElem? (i := 292) (by decide +kernel)) rfl
theorem q_293 : (.instanceMethod yX6_book : Cond) ∈ TB := tb_in (List.mem_of_getElem? (i := 293) (by decide +kernel)) rfl
theorem q_294 : (.selects RX6 yX6_book yX6_book : Cond) ∈ TB := tb_in (List.mem_of_getElem? (i := 294) (by decide +kernel)) rfl
theorem q_295 : (.code yX6_book cX6_book 5 (Option.some Jvm.ClassFile.FieldType.int) : Cond) ∈ TB := tb_in (List.mem_of_getElem? (i := 295) (by decide +kernel)) rfl
theorem q_296 : (.methodLink RX6 44 yX3_bookingError : Cond) ∈ TB := tb_in (List.mem_of_getElem? (i := 296) (by decide +kernel)) rfl
theorem q_297 : (.instanceMethod yX3_bookingError : Cond) ∈ TB := tb_in (List.mem_of_getElem? (i := 297) (by decide +kernel)) rfl
theorem q_298 : (.selects RX3 yX3_bookingError yX3_bookingError : Cond) ∈ TB := tb_in (List.mem_of_getElem? (i := 298) (by decide +kernel)) rfl
theorem q_299 : (.code yX3_bookingError cX3_bookingError 4 (Option.some Jvm.ClassFile.FieldType.int) : Cond) ∈ TB := tb_in (List.mem_of_getElem? (i := 299) (by decide +kernel)) rfl
theorem q_300 : (.methodLinkNest RX3 88 yX6_areNightsAndPersons "HutBookings" : Cond) ∈ lw_tbl := List.mem_of_getElem? (i := 300) (by decide +kernel)
theorem q_301 : (.static yX6_areNightsAndPersons : Cond) ∈ TB := tb_in (List.mem_of_getElem? (i := 301) (by decide +kernel)) rfl
theorem q_302 : (.code yX6_areNightsAndPersons cX6_areNightsAndPersons 2 (Option.some Jvm.ClassFile.FieldType.boolean) : Cond) ∈ TB := tb_in (List.mem_of_getElem? (i := 302) (by decide +kernel)) rfl
theorem q_303 : (.constant RX3 92 (-1000002) : Cond) ∈ TB := tb_in (List.mem_of_getElem? (i := 303) (by decide +kernel)) rfl
theorem q_304 : (.methodLink RX3 93 yX3_hasBeds : Cond) ∈ TB := tb_in (List.mem_of_getElem? (i := 304) (by decide +kernel)) rfl
theorem q_305 : (.instanceMethod yX3_hasBeds : Cond) ∈ TB := tb_in (List.mem_of_getElem? (i := 305) (by decide +kernel)) rfl
theorem q_306 : (.selects RX3 yX3_hasBeds yX3_hasBeds : Cond) ∈ TB := tb_in (List.mem_of_getElem? (i := 306) (by decide +kernel)) rfl
theorem q_307 : (.code yX3_hasBeds cX3_hasBeds 5 (Option.some Jvm.ClassFile.FieldType.boolean) : Cond) ∈ TB := tb_in (List.mem_of_getElem? (i := 307) (by decide +kernel)) rfl
theorem q_308 : (.methodLink RX3 106 yX1_bedsTakenIn : Cond) ∈ TB := tb_in (List.mem_of_getElem? (i := 308) (by decide +kernel)) rfl
theorem q_309 : (.instanceMethod yX1_bedsTakenIn : Cond) ∈ TB := tb_in (List.mem_of_getElem? (i := 309) (by decide +kernel)) rfl
theorem q_310 : (.selects RX1 yX1_bedsTakenIn yX1_bedsTakenIn : Cond) ∈ TB := tb_in (List.mem_of_getElem? (i := 310) (by decide +kernel)) rfl
theorem q_311 : (.code yX1_bedsTakenIn cX1_bedsTakenIn 2 (Option.some Jvm.ClassFile.FieldType.int) : Cond) ∈ TB := tb_in (List.mem_of_getElem? (i := 311) (by decide +kernel)) rfl
theorem q_312 : (.methodLink RX1 48 yX1_bedsTakenFrom : Cond) ∈ TB := tb_in (List.mem_of_getElem? (i := 312) (by decide +kernel)) rfl
theorem q_313 : (.instanceMethod yX1_bedsTakenFrom : Cond) ∈ TB := tb_in (List.mem_of_getElem? (i := 313) (by decide +kernel)) rfl
theorem q_314 : (.selects RX1 yX1_bedsTakenFrom yX1_bedsTakenFrom : Cond) ∈ TB := tb_in (List.mem_of_getElem? (i := 314) (by decide +kernel)) rfl
theorem q_315 : (.code yX1_bedsTakenFrom cX1_bedsTakenFrom 6 (Option.some Jvm.ClassFile.FieldType.int) : Cond) ∈ TB := tb_in (List.mem_of_getElem? (i := 315) (by decide +kernel)) rfl
theorem q_316 : (.methodLink RX1 44 yX1_end : Cond) ∈ TB := tb_in (List.mem_of_getElem? (i := 316) (by decide +kernel)) rfl
theorem q_317 : (.instanceMethod yX1_end : Cond) ∈ TB := tb_in (List.mem_of_getElem? (i := 317) (by decide +kernel)) rfl
theorem q_318 : (.selects RX1 yX1_end yX1_end : Cond) ∈ TB := tb_in (List.mem_of_getElem? (i := 318) (by decide +kernel)) rfl
theorem q_319 : (.code yX1_end cX1_end 2 (Option.some Jvm.ClassFile.FieldType.int) : Cond) ∈ TB := tb_in (List.mem_of_getElem? (i := 319) (by decide +kernel)) rfl
theorem q_320 : (.methodLink RX1 52 yJ9_min_7cf53 : Cond) ∈ TB := tb_in (List.mem_of_getElem? (i := 320) (by decide +kernel)) rfl
theorem q_321 : (.static yJ9_min_7cf53 : Cond) ∈ TB := tb_in (List.mem_of_getElem? (i := 321) (by decide +kernel)) rfl
theorem q_322 : (.code yJ9_min_7cf53 cJ9_min_7cf53 2 (Option.some Jvm.ClassFile.FieldType.int) : Cond) ∈ TB := tb_in (List.mem_of_getElem? (i := 322) (by decide +kernel)) rfl
theorem q_323 : (.methodLink RX1 57 yJ9_max_7cf53 : Cond) ∈ TB := tb_in (List.mem_of_getElem? (i := 323) (by decide +kernel)) rfl
theorem q_324 : (.static yJ9_max_7cf53 : Cond) ∈ TB := tb_in (List.mem_of_getElem? (i := 324) (by decide +kernel)) rfl
theorem q_325 : (.code yJ9_max_7cf53 cJ9_max_7cf53 2 (Option.some Jvm.ClassFile.FieldType.int) : Cond) ∈ TB := tb_in (List.mem_of_getElem? (i := 325) (by decide +kernel)) rfl
theorem q_326 : (.methodLink RX1 60 yX1_holdsBeds : Cond) ∈ TB := tb_in (List.mem_of_getElem? (i := 326) (by decide +kernel)) rfl
theorem q_327 : (.instanceMethod yX1_holdsBeds : Cond) ∈ TB := tb_in (List.mem_of_getElem? (i := 327) (by decide +kernel)) rfl
theorem q_328 : (.selects RX1 yX1_holdsBeds yX1_holdsBeds : Cond) ∈ TB := tb_in (List.mem_of_getElem? (i := 328) (by decide +kernel)) rfl
theorem q_329 : (.code yX1_holdsBeds cX1_holdsBeds 2 (Option.some Jvm.ClassFile.FieldType.boolean) : Cond) ∈ TB := tb_in (List.mem_of_getElem? (i := 329) (by decide +kernel)) rfl
theorem q_330 : (.constant RX3 97 (-1000004) : Cond) ∈ TB := tb_in (List.mem_of_getElem? (i := 330) (by decide +kernel)) rfl
theorem q_331 : (.constant RX3 101 (-1000003) : Cond) ∈ TB := tb_in (List.mem_of_getElem? (i := 331) (by decide +kernel)) rfl
theorem q_332 : (.methodLink RX6 48 yX2_remember : Cond) ∈ TB := tb_in (List.mem_of_getElem? (i := 332) (by decide +kernel)) rfl
theorem q_333 : (.instanceMethod yX2_remember : Cond) ∈ TB := tb_in (List.mem_of_getElem? (i := 333) (by decide +kernel)) rfl
theorem q_334 : (.selects RX2 yX2_remember yX2_remember : Cond) ∈ TB := tb_in (List.mem_of_getElem? (i := 334) (by decide +kernel)) rfl
theorem q_335 : (.code yX2_remember cX2_remember 2 (Option.none : Option Jvm.ClassFile.FieldType) : Cond) ∈ TB := tb_in (List.mem_of_getElem? (i := 335) (by decide +kernel)) rfl
theorem q_336 : (.methodLink RX2 22 yX2_dropOldest : Cond) ∈ TB := tb_in (List.mem_of_getElem? (i := 336) (by decide +kernel)) rfl
theorem q_338 : (.instanceMethod yX2_dropOldest : Cond) ∈ TB := tb_in (List.mem_of_getElem? (i := 338) (by decide +kernel)) rfl
theorem q_339 : (.code yX2_dropOldest cX2_dropOldest 3 (Option.none : Option Jvm.ClassFile.FieldType) : Cond) ∈ TB := tb_in (List.mem_of_getElem? (i := 339) (by decide +kernel)) rfl
theorem q_340 : (.methodLink RX2 25 yX3_copyFrom : Cond) ∈ TB := tb_in (List.mem_of_getElem? (i := 340) (by decide +kernel)) rfl
theorem q_341 : (.instanceMethod yX3_copyFrom : Cond) ∈ TB := tb_in (List.mem_of_getElem? (i := 341) (by decide +kernel)) rfl
theorem q_342 : (.selects RX3 yX3_copyFrom yX3_copyFrom : Cond) ∈ TB := tb_in (List.mem_of_getElem? (i := 342) (by decide +kernel)) rfl
theorem q_343 : (.code yX3_copyFrom cX3_copyFrom 2 (Option.none : Option Jvm.ClassFile.FieldType) : Cond) ∈ TB := tb_in (List.mem_of_getElem? (i := 343) (by decide +kernel)) rfl
theorem q_344 : (.methodLink RX3 51 yX1_copyFrom : Cond) ∈ TB := tb_in (List.mem_of_getElem? (i := 344) (by decide +kernel)) rfl
theorem q_345 : (.instanceMethod yX1_copyFrom : Cond) ∈ TB := tb_in (List.mem_of_getElem? (i := 345) (by decide +kernel)) rfl
theorem q_346 : (.selects RX1 yX1_copyFrom yX1_copyFrom : Cond) ∈ TB := tb_in (List.mem_of_getElem? (i := 346) (by decide +kernel)) rfl
theorem q_347 : (.code yX1_copyFrom cX1_copyFrom 2 (Option.none : Option Jvm.ClassFile.FieldType) : Cond) ∈ TB := tb_in (List.mem_of_getElem? (i := 347) (by decide +kernel)) rfl
theorem q_348 : (.methodLink RX1 37 arraycopyName : Cond) ∈ TB := tb_in (List.mem_of_getElem? (i := 348) (by decide +kernel)) rfl
theorem q_349 : (.methodLink RX3 55 yX4_copyFrom : Cond) ∈ TB := tb_in (List.mem_of_getElem? (i := 349) (by decide +kernel)) rfl
theorem q_350 : (.instanceMethod yX4_copyFrom : Cond) ∈ TB := tb_in (List.mem_of_getElem? (i := 350) (by decide +kernel)) rfl
theorem q_351 : (.selects RX4 yX4_copyFrom yX4_copyFrom : Cond) ∈ TB := tb_in (List.mem_of_getElem? (i := 351) (by decide +kernel)) rfl
theorem q_352 : (.code yX4_copyFrom cX4_copyFrom 2 (Option.none : Option Jvm.ClassFile.FieldType) : Cond) ∈ TB := tb_in (List.mem_of_getElem? (i := 352) (by decide +kernel)) rfl
theorem q_353 : (.methodLink RX4 15 arraycopyName : Cond) ∈ TB := tb_in (List.mem_of_getElem? (i := 353) (by decide +kernel)) rfl
theorem q_354 : (.methodLink RX3 58 yX5_copyFrom : Cond) ∈ TB := tb_in (List.mem_of_getElem? (i := 354) (by decide +kernel)) rfl
theorem q_355 : (.instanceMethod yX5_copyFrom : Cond) ∈ TB := tb_in (List.mem_of_getElem? (i := 355) (by decide +kernel)) rfl
theorem q_356 : (.selects RX5 yX5_copyFrom yX5_copyFrom : Cond) ∈ TB := tb_in (List.mem_of_getElem? (i := 356) (by decide +kernel)) rfl
theorem q_357 : (.code yX5_copyFrom cX5_copyFrom 2 (Option.none : Option Jvm.ClassFile.FieldType) : Cond) ∈ TB := tb_in (List.mem_of_getElem? (i := 357) (by decide +kernel)) rfl
theorem q_358 : (.methodLink RX5 22 arraycopyName : Cond) ∈ TB := tb_in (List.mem_of_getElem? (i := 358) (by decide +kernel)) rfl
theorem q_359 : (.methodLink RX6 52 yX3_addBooking : Cond) ∈ TB := tb_in (List.mem_of_getElem? (i := 359) (by decide +kernel)) rfl
theorem q_360 : (.instanceMethod yX3_addBooking : Cond) ∈ TB := tb_in (List.mem_of_getElem? (i := 360) (by decide +kernel)) rfl
theorem q_361 : (.selects RX3 yX3_addBooking yX3_addBooking : Cond) ∈ TB := tb_in (List.mem_of_getElem? (i := 361) (by decide +kernel)) rfl
theorem q_362 : (.code yX3_addBooking cX3_addBooking 5 (Option.some Jvm.ClassFile.FieldType.int) : Cond) ∈ TB := tb_in (List.mem_of_getElem? (i := 362) (by decide +kernel)) rfl
theorem q_363 : (.methodLink RX3 102 yX1_add : Cond) ∈ TB := tb_in (List.mem_of_getElem? (i := 363) (by decide +kernel)) rfl
theorem q_364 : (.instanceMethod yX1_add : Cond) ∈ TB := tb_in (List.mem_of_getElem? (i := 364) (by decide +kernel)) rfl
theorem q_365 : (.selects RX1 yX1_add yX1_add : Cond) ∈ TB := tb_in (List.mem_of_getElem? (i := 365) (by decide +kernel)) rfl
theorem q_366 : (.code yX1_add cX1_add 5 (Option.some Jvm.ClassFile.FieldType.int) : Cond) ∈ TB := tb_in (List.mem_of_getElem? (i := 366) (by decide +kernel)) rfl
theorem q_367 : (.constant RX1 43 (-1000003) : Cond) ∈ TB := tb_in (List.mem_of_getElem? (i := 367) (by decide +kernel)) rfl
theorem q_368 : (.methodLink RL 18 yX6_bookAll : Cond) ∈ TB := tb_in (List.mem_of_getElem? (i := 368) (by decide +kernel)) rfl
theorem q_369 : (.instanceMethod yX6_bookAll : Cond) ∈ TB := tb_in (List.mem_of_getElem? (i := 369) (by decide +kernel)) rfl
theorem q_370 : (.selects RX6 yX6_bookAll yX6_bookAll : Cond) ∈ TB := tb_in (List.mem_of_getElem? (i := 370) (by decide +kernel)) rfl
theorem q_371 : (.code yX6_bookAll cX6_bookAll 4 (Option.some Jvm.ClassFile.FieldType.int) : Cond) ∈ TB := tb_in (List.mem_of_getElem? (i := 371) (by decide +kernel)) rfl
theorem q_372 : (.methodLink RX6 55 yX0_findFault : Cond) ∈ TB := tb_in (List.mem_of_getElem? (i := 372) (by decide +kernel)) rfl
theorem q_373 : (.instanceMethod yX0_findFault : Cond) ∈ TB := tb_in (List.mem_of_getElem? (i := 373) (by decide +kernel)) rfl
theorem q_374 : (.selects RX0 yX0_findFault yX0_findFault : Cond) ∈ TB := tb_in (List.mem_of_getElem? (i := 374) (by decide +kernel)) rfl
theorem q_375 : (.code yX0_findFault cX0_findFault 2 (Option.some Jvm.ClassFile.FieldType.int) : Cond) ∈ TB := tb_in (List.mem_of_getElem? (i := 375) (by decide +kernel)) rfl
theorem q_376 : (.methodLink RX0 35 yX0_accepts : Cond) ∈ TB := tb_in (List.mem_of_getElem? (i := 376) (by decide +kernel)) rfl
theorem q_378 : (.instanceMethod yX0_accepts : Cond) ∈ TB := tb_in (List.mem_of_getElem? (i := 378) (by decide +kernel)) rfl
theorem q_379 : (.code yX0_accepts cX0_accepts 2 (Option.some Jvm.ClassFile.FieldType.boolean) : Cond) ∈ TB := tb_in (List.mem_of_getElem? (i := 379) (by decide +kernel)) rfl
theorem q_380 : (.methodLink RX0 40 yX0_acceptsDayBegin : Cond) ∈ TB := tb_in (List.mem_of_getElem? (i := 380) (by decide +kernel)) rfl
theorem q_382 : (.instanceMethod yX0_acceptsDayBegin : Cond) ∈ TB := tb_in (List.mem_of_getElem? (i := 382) (by decide +kernel)) rfl
theorem q_383 : (.code yX0_acceptsDayBegin cX0_acceptsDayBegin 2 (Option.some Jvm.ClassFile.FieldType.boolean) : Cond) ∈ TB := tb_in (List.mem_of_getElem? (i := 383) (by decide +kernel)) rfl
theorem q_384 : (.methodLink RX0 43 yX0_moveTo : Cond) ∈ TB := tb_in (List.mem_of_getElem? (i := 384) (by decide +kernel)) rfl
theorem q_386 : (.instanceMethod yX0_moveTo : Cond) ∈ TB := tb_in (List.mem_of_getElem? (i := 386) (by decide +kernel)) rfl
theorem q_387 : (.code yX0_moveTo cX0_moveTo 2 (Option.some Jvm.ClassFile.FieldType.boolean) : Cond) ∈ TB := tb_in (List.mem_of_getElem? (i := 387) (by decide +kernel)) rfl
theorem q_388 : (.methodLink RX0 47 yX0_acceptsDayDigit : Cond) ∈ TB := tb_in (List.mem_of_getElem? (i := 388) (by decide +kernel)) rfl
theorem q_390 : (.instanceMethod yX0_acceptsDayDigit : Cond) ∈ TB := tb_in (List.mem_of_getElem? (i := 390) (by decide +kernel)) rfl
theorem q_391 : (.code yX0_acceptsDayDigit cX0_acceptsDayDigit 3 (Option.some Jvm.ClassFile.FieldType.boolean) : Cond) ∈ TB := tb_in (List.mem_of_getElem? (i := 391) (by decide +kernel)) rfl
theorem q_392 : (.methodLink RX0 50 yX0_acceptsNights : Cond) ∈ TB := tb_in (List.mem_of_getElem? (i := 392) (by decide +kernel)) rfl
theorem q_394 : (.instanceMethod yX0_acceptsNights : Cond) ∈ TB := tb_in (List.mem_of_getElem? (i := 394) (by decide +kernel)) rfl
theorem q_395 : (.code yX0_acceptsNights cX0_acceptsNights 2 (Option.some Jvm.ClassFile.FieldType.boolean) : Cond) ∈ TB := tb_in (List.mem_of_getElem? (i := 395) (by decide +kernel)) rfl
theorem q_396 : (.methodLink RX0 53 yX0_acceptsPersons : Cond) ∈ TB := tb_in (List.mem_of_getElem? (i := 396) (by decide +kernel)) rfl
theorem q_398 : (.instanceMethod yX0_acceptsPersons : Cond) ∈ TB := tb_in (List.mem_of_getElem? (i := 398) (by decide +kernel)) rfl
theorem q_399 : (.code yX0_acceptsPersons cX0_acceptsPersons 2 (Option.some Jvm.ClassFile.FieldType.boolean) : Cond) ∈ TB := tb_in (List.mem_of_getElem? (i := 399) (by decide +kernel)) rfl
theorem q_400 : (.constant RX0 39 (-1000005) : Cond) ∈ TB := tb_in (List.mem_of_getElem? (i := 400) (by decide +kernel)) rfl
theorem q_401 : (.constant RX6 59 (-1000005) : Cond) ∈ TB := tb_in (List.mem_of_getElem? (i := 401) (by decide +kernel)) rfl
theorem q_402 : (.methodLink RX6 60 yX3_copyFrom : Cond) ∈ TB := tb_in (List.mem_of_getElem? (i := 402) (by decide +kernel)) rfl
theorem q_403 : (.methodLink RL 23 yX6_cancel : Cond) ∈ TB := tb_in (List.mem_of_getElem? (i := 403) (by decide +kernel)) rfl
theorem q_404 : (.instanceMethod yX6_cancel : Cond) ∈ TB := tb_in (List.mem_of_getElem? (i := 404) (by decide +kernel)) rfl
theorem q_405 : (.selects RX6 yX6_cancel yX6_cancel : Cond) ∈ TB := tb_in (List.mem_of_getElem? (i := 405) (by decide +kernel)) rfl
theorem q_406 : (.code yX6_cancel cX6_cancel 3 (Option.some Jvm.ClassFile.FieldType.int) : Cond) ∈ TB := tb_in (List.mem_of_getElem? (i := 406) (by decide +kernel)) rfl
theorem q_407 : (.methodLink RX6 76 yX6_errorUnlessBooked : Cond) ∈ TB := tb_in (List.mem_of_getElem? (i := 407) (by decide +kernel)) rfl
theorem q_409 : (.instanceMethod yX6_errorUnlessBooked : Cond) ∈ TB := tb_in (List.mem_of_getElem? (i := 409) (by decide +kernel)) rfl
theorem q_410 : (.code yX6_errorUnlessBooked cX6_errorUnlessBooked 2 (Option.some Jvm.ClassFile.FieldType.int) : Cond) ∈ TB := tb_in (List.mem_of_getElem? (i := 410) (by decide +kernel)) rfl
theorem q_411 : (.methodLink RX6 87 yX1_knows : Cond) ∈ TB := tb_in (List.mem_of_getElem? (i := 411) (by decide +kernel)) rfl
theorem q_412 : (.instanceMethod yX1_knows : Cond) ∈ TB := tb_in (List.mem_of_getElem? (i := 412) (by decide +kernel)) rfl
theorem q_413 : (.selects RX1 yX1_knows yX1_knows : Cond) ∈ TB := tb_in (List.mem_of_getElem? (i := 413) (by decide +kernel)) rfl
theorem q_414 : (.code yX1_knows cX1_knows 2 (Option.some Jvm.ClassFile.FieldType.boolean) : Cond) ∈ TB := tb_in (List.mem_of_getElem? (i := 414) (by decide +kernel)) rfl
theorem q_415 : (.constant RX6 93 (-1000001) : Cond) ∈ TB := tb_in (List.mem_of_getElem? (i := 415) (by decide +kernel)) rfl
theorem q_416 : (.constant RX6 99 (-1000004) : Cond) ∈ TB := tb_in (List.mem_of_getElem? (i := 416) (by decide +kernel)) rfl
theorem q_417 : (.methodLink RX6 80 yX3_cancelBooking : Cond) ∈ TB := tb_in (List.mem_of_getElem? (i := 417) (by decide +kernel)) rfl
theorem q_418 : (.instanceMethod yX3_cancelBooking : Cond) ∈ TB := tb_in (List.mem_of_getElem? (i := 418) (by decide +kernel)) rfl
theorem q_419 : (.selects RX3 yX3_cancelBooking yX3_cancelBooking : Cond) ∈ TB := tb_in (List.mem_of_getElem? (i := 419) (by decide +kernel)) rfl
theorem q_420 : (.code yX3_cancelBooking cX3_cancelBooking 3 (Option.some Jvm.ClassFile.FieldType.int) : Cond) ∈ TB := tb_in (List.mem_of_getElem? (i := 420) (by decide +kernel)) rfl
theorem q_421 : (.methodLink RX3 119 yX3_refundOf : Cond) ∈ TB := tb_in (List.mem_of_getElem? (i := 421) (by decide +kernel)) rfl
theorem q_422 : (.instanceMethod yX3_refundOf : Cond) ∈ TB := tb_in (List.mem_of_getElem? (i := 422) (by decide +kernel)) rfl
theorem q_423 : (.selects RX3 yX3_refundOf yX3_refundOf : Cond) ∈ TB := tb_in (List.mem_of_getElem? (i := 423) (by decide +kernel)) rfl
theorem q_424 : (.code yX3_refundOf cX3_refundOf 4 (Option.some Jvm.ClassFile.FieldType.int) : Cond) ∈ TB := tb_in (List.mem_of_getElem? (i := 424) (by decide +kernel)) rfl
theorem q_425 : (.methodLink RX3 112 yX3_isUpOpen : Cond) ∈ TB := tb_in (List.mem_of_getElem? (i := 425) (by decide +kernel)) rfl
theorem q_426 : (.instanceMethod yX3_isUpOpen : Cond) ∈ TB := tb_in (List.mem_of_getElem? (i := 426) (by decide +kernel)) rfl
theorem q_427 : (.selects RX3 yX3_isUpOpen yX3_isUpOpen : Cond) ∈ TB := tb_in (List.mem_of_getElem? (i := 427) (by decide +kernel)) rfl
theorem q_428 : (.code yX3_isUpOpen cX3_isUpOpen 2 (Option.some Jvm.ClassFile.FieldType.boolean) : Cond) ∈ TB := tb_in (List.mem_of_getElem? (i := 428) (by decide +kernel)) rfl
theorem q_429 : (.methodLink RX3 78 yX3_weatherOf : Cond) ∈ TB := tb_in (List.mem_of_getElem? (i := 429) (by decide +kernel)) rfl
theorem q_430 : (.instanceMethod yX3_weatherOf : Cond) ∈ TB := tb_in (List.mem_of_getElem? (i := 430) (by decide +kernel)) rfl
theorem q_431 : (.selects RX3 yX3_weatherOf yX3_weatherOf : Cond) ∈ TB := tb_in (List.mem_of_getElem? (i := 431) (by decide +kernel)) rfl
theorem q_432 : (.code yX3_weatherOf cX3_weatherOf 2 (Option.some Jvm.ClassFile.FieldType.int) : Cond) ∈ TB := tb_in (List.mem_of_getElem? (i := 432) (by decide +kernel)) rfl
theorem q_433 : (.methodLink RL 28 yX6_extend : Cond) ∈ TB := tb_in (List.mem_of_getElem? (i := 433) (by decide +kernel)) rfl
theorem q_434 : (.instanceMethod yX6_extend : Cond) ∈ TB := tb_in (List.mem_of_getElem? (i := 434) (by decide +kernel)) rfl
theorem q_435 : (.selects RX6 yX6_extend yX6_extend : Cond) ∈ TB := tb_in (List.mem_of_getElem? (i := 435) (by decide +kernel)) rfl
theorem q_436 : (.code yX6_extend cX6_extend 3 (Option.some Jvm.ClassFile.FieldType.int) : Cond) ∈ TB := tb_in (List.mem_of_getElem? (i := 436) (by decide +kernel)) rfl
theorem q_437 : (.constant RX6 94 (-1000002) : Cond) ∈ TB := tb_in (List.mem_of_getElem? (i := 437) (by decide +kernel)) rfl
theorem q_438 : (.methodLink RX6 95 yX3_canStayLonger : Cond) ∈ TB := tb_in (List.mem_of_getElem? (i := 438) (by decide +kernel)) rfl
theorem q_439 : (.instanceMethod yX3_canStayLonger : Cond) ∈ TB := tb_in (List.mem_of_getElem? (i := 439) (by decide +kernel)) rfl
theorem q_440 : (.selects RX3 yX3_canStayLonger yX3_canStayLonger : Cond) ∈ TB := tb_in (List.mem_of_getElem? (i := 440) (by decide +kernel)) rfl
theorem q_441 : (.code yX3_canStayLonger cX3_canStayLonger 4 (Option.some Jvm.ClassFile.FieldType.boolean) : Cond) ∈ TB := tb_in (List.mem_of_getElem? (i := 441) (by decide +kernel)) rfl
theorem q_442 : (.methodLink RX3 125 yX1_end : Cond) ∈ TB := tb_in (List.mem_of_getElem? (i := 442) (by decide +kernel)) rfl
theorem q_443 : (.methodLink RX6 101 yX1_end : Cond) ∈ TB := tb_in (List.mem_of_getElem? (i := 443) (by decide +kernel)) rfl
theorem q_444 : (.methodLink RL 33 yX6_weather : Cond) ∈ TB := tb_in (List.mem_of_getElem? (i := 444) (by decide +kernel)) rfl
theorem q_445 : (.instanceMethod yX6_weather : Cond) ∈ TB := tb_in (List.mem_of_getElem? (i := 445) (by decide +kernel)) rfl
theorem q_446 : (.selects RX6 yX6_weather yX6_weather : Cond) ∈ TB := tb_in (List.mem_of_getElem? (i := 446) (by decide +kernel)) rfl
theorem q_447 : (.code yX6_weather cX6_weather 5 (Option.some Jvm.ClassFile.FieldType.int) : Cond) ∈ TB := tb_in (List.mem_of_getElem? (i := 447) (by decide +kernel)) rfl
theorem q_448 : (.methodLink RX6 107 yX3_daysWithOtherWeather : Cond) ∈ TB := tb_in (List.mem_of_getElem? (i := 448) (by decide +kernel)) rfl
theorem q_449 : (.instanceMethod yX3_daysWithOtherWeather : Cond) ∈ TB := tb_in (List.mem_of_getElem? (i := 449) (by decide +kernel)) rfl
theorem q_450 : (.selects RX3 yX3_daysWithOtherWeather yX3_daysWithOtherWeather : Cond) ∈ TB := tb_in (List.mem_of_getElem? (i := 450) (by decide +kernel)) rfl
theorem q_451 : (.code yX3_daysWithOtherWeather cX3_daysWithOtherWeather 6 (Option.some Jvm.ClassFile.FieldType.int) : Cond) ∈ TB := tb_in (List.mem_of_getElem? (i := 451) (by decide +kernel)) rfl
theorem q_452 : (.methodLink RX6 110 yX3_changeWeather : Cond) ∈ TB := tb_in (List.mem_of_getElem? (i := 452) (by decide +kernel)) rfl
theorem q_453 : (.instanceMethod yX3_changeWeather : Cond) ∈ TB := tb_in (List.mem_of_getElem? (i := 453) (by decide +kernel)) rfl
theorem q_454 : (.selects RX3 yX3_changeWeather yX3_changeWeather : Cond) ∈ TB := tb_in (List.mem_of_getElem? (i := 454) (by decide +kernel)) rfl
theorem q_455 : (.code yX3_changeWeather cX3_changeWeather 5 (Option.none : Option Jvm.ClassFile.FieldType) : Cond) ∈ TB := tb_in (List.mem_of_getElem? (i := 455) (by decide +kernel)) rfl
theorem q_456 : (.methodLink RX3 82 yJ9_max_7cf53 : Cond) ∈ TB := tb_in (List.mem_of_getElem? (i := 456) (by decide +kernel)) rfl
theorem q_457 : (.methodLink RL 37 yX6_order : Cond) ∈ TB := tb_in (List.mem_of_getElem? (i := 457) (by decide +kernel)) rfl
theorem q_458 : (.instanceMethod yX6_order : Cond) ∈ TB := tb_in (List.mem_of_getElem? (i := 458) (by decide +kernel)) rfl
theorem q_459 : (.selects RX6 yX6_order yX6_order : Cond) ∈ TB := tb_in (List.mem_of_getElem? (i := 459) (by decide +kernel)) rfl
theorem q_460 : (.code yX6_order cX6_order 3 (Option.some Jvm.ClassFile.FieldType.int) : Cond) ∈ TB := tb_in (List.mem_of_getElem? (i := 460) (by decide +kernel)) rfl
theorem q_461 : (.constant RX6 123 (-1000003) : Cond) ∈ TB := tb_in (List.mem_of_getElem? (i := 461) (by decide +kernel)) rfl
theorem q_462 : (.methodLink RX6 124 yX5_append : Cond) ∈ TB := tb_in (List.mem_of_getElem? (i := 462) (by decide +kernel)) rfl
theorem q_463 : (.instanceMethod yX5_append : Cond) ∈ TB := tb_in (List.mem_of_getElem? (i := 463) (by decide +kernel)) rfl
theorem q_464 : (.selects RX5 yX5_append yX5_append : Cond) ∈ TB := tb_in (List.mem_of_getElem? (i := 464) (by decide +kernel)) rfl
theorem q_465 : (.code yX5_append cX5_append 3 (Option.none : Option Jvm.ClassFile.FieldType) : Cond) ∈ TB := tb_in (List.mem_of_getElem? (i := 465) (by decide +kernel)) rfl
theorem q_466 : (.methodLink RL 41 yX6_recall : Cond) ∈ TB := tb_in (List.mem_of_getElem? (i := 466) (by decide +kernel)) rfl
theorem q_467 : (.instanceMethod yX6_recall : Cond) ∈ TB := tb_in (List.mem_of_getElem? (i := 467) (by decide +kernel)) rfl
theorem q_468 : (.selects RX6 yX6_recall yX6_recall : Cond) ∈ TB := tb_in (List.mem_of_getElem? (i := 468) (by decide +kernel)) rfl
theorem q_469 : (.code yX6_recall cX6_recall 1 (Option.some Jvm.ClassFile.FieldType.int) : Cond) ∈ TB := tb_in (List.mem_of_getElem? (i := 469) (by decide +kernel)) rfl
theorem q_470 : (.methodLink RX6 128 yX5_removeLast : Cond) ∈ TB := tb_in (List.mem_of_getElem? (i := 470) (by decide +kernel)) rfl
theorem q_471 : (.instanceMethod yX5_removeLast : Cond) ∈ TB := tb_in (List.mem_of_getElem? (i := 471) (by decide +kernel)) rfl
theorem q_472 : (.selects RX5 yX5_removeLast yX5_removeLast : Cond) ∈ TB := tb_in (List.mem_of_getElem? (i := 472) (by decide +kernel)) rfl
theorem q_473 : (.code yX5_removeLast cX5_removeLast 1 (Option.some Jvm.ClassFile.FieldType.int) : Cond) ∈ TB := tb_in (List.mem_of_getElem? (i := 473) (by decide +kernel)) rfl
theorem q_474 : (.methodLink RL 45 yX6_flight : Cond) ∈ TB := tb_in (List.mem_of_getElem? (i := 474) (by decide +kernel)) rfl
theorem q_475 : (.instanceMethod yX6_flight : Cond) ∈ TB := tb_in (List.mem_of_getElem? (i := 475) (by decide +kernel)) rfl
theorem q_476 : (.selects RX6 yX6_flight yX6_flight : Cond) ∈ TB := tb_in (List.mem_of_getElem? (i := 476) (by decide +kernel)) rfl
theorem q_477 : (.code yX6_flight cX6_flight 2 (Option.some Jvm.ClassFile.FieldType.int) : Cond) ∈ TB := tb_in (List.mem_of_getElem? (i := 477) (by decide +kernel)) rfl
theorem q_478 : (.methodLink RL 50 yX6_pass : Cond) ∈ TB := tb_in (List.mem_of_getElem? (i := 478) (by decide +kernel)) rfl
theorem q_479 : (.instanceMethod yX6_pass : Cond) ∈ TB := tb_in (List.mem_of_getElem? (i := 479) (by decide +kernel)) rfl
theorem q_480 : (.selects RX6 yX6_pass yX6_pass : Cond) ∈ TB := tb_in (List.mem_of_getElem? (i := 480) (by decide +kernel)) rfl
theorem q_481 : (.code yX6_pass cX6_pass 3 (Option.some Jvm.ClassFile.FieldType.int) : Cond) ∈ TB := tb_in (List.mem_of_getElem? (i := 481) (by decide +kernel)) rfl
theorem q_482 : (.methodLink RX6 137 yX3_passDay : Cond) ∈ TB := tb_in (List.mem_of_getElem? (i := 482) (by decide +kernel)) rfl
theorem q_483 : (.instanceMethod yX3_passDay : Cond) ∈ TB := tb_in (List.mem_of_getElem? (i := 483) (by decide +kernel)) rfl
theorem q_484 : (.selects RX3 yX3_passDay yX3_passDay : Cond) ∈ TB := tb_in (List.mem_of_getElem? (i := 484) (by decide +kernel)) rfl
theorem q_485 : (.code yX3_passDay cX3_passDay 1 (Option.none : Option Jvm.ClassFile.FieldType) : Cond) ∈ TB := tb_in (List.mem_of_getElem? (i := 485) (by decide +kernel)) rfl
theorem q_486 : (.methodLink RX3 141 yX3_beginDay : Cond) ∈ TB := tb_in (List.mem_of_getElem? (i := 486) (by decide +kernel)) rfl
theorem q_487 : (.instanceMethod yX3_beginDay : Cond) ∈ TB := tb_in (List.mem_of_getElem? (i := 487) (by decide +kernel)) rfl
theorem q_488 : (.selects RX3 yX3_beginDay yX3_beginDay : Cond) ∈ TB := tb_in (List.mem_of_getElem? (i := 488) (by decide +kernel)) rfl
theorem q_489 : (.code yX3_beginDay cX3_beginDay 1 (Option.none : Option Jvm.ClassFile.FieldType) : Cond) ∈ TB := tb_in (List.mem_of_getElem? (i := 489) (by decide +kernel)) rfl
theorem q_490 : (.methodLink RX3 153 yX4_throwSpoiltAway : Cond) ∈ TB := tb_in (List.mem_of_getElem? (i := 490) (by decide +kernel)) rfl
theorem q_491 : (.instanceMethod yX4_throwSpoiltAway : Cond) ∈ TB := tb_in (List.mem_of_getElem? (i := 491) (by decide +kernel)) rfl
theorem q_492 : (.selects RX4 yX4_throwSpoiltAway yX4_throwSpoiltAway : Cond) ∈ TB := tb_in (List.mem_of_getElem? (i := 492) (by decide +kernel)) rfl
theorem q_493 : (.code yX4_throwSpoiltAway cX4_throwSpoiltAway 6 (Option.some Jvm.ClassFile.FieldType.int) : Cond) ∈ TB := tb_in (List.mem_of_getElem? (i := 493) (by decide +kernel)) rfl
theorem q_494 : (.methodLink RX4 31 yX4_slotOf : Cond) ∈ TB := tb_in (List.mem_of_getElem? (i := 494) (by decide +kernel)) rfl
theorem q_495 : (.static yX4_slotOf : Cond) ∈ TB := tb_in (List.mem_of_getElem? (i := 495) (by decide +kernel)) rfl
theorem q_496 : (.code yX4_slotOf cX4_slotOf 1 (Option.some Jvm.ClassFile.FieldType.int) : Cond) ∈ TB := tb_in (List.mem_of_getElem? (i := 496) (by decide +kernel)) rfl
theorem q_497 : (.methodLink RX4 25 yJ9_floorMod_7cf53 : Cond) ∈ TB := tb_in (List.mem_of_getElem? (i := 497) (by decide +kernel)) rfl
theorem q_498 : (.static yJ9_floorMod_7cf53 : Cond) ∈ TB := tb_in (List.mem_of_getElem? (i := 498) (by decide +kernel)) rfl
theorem q_499 : (.code yJ9_floorMod_7cf53 cJ9_floorMod_7cf53 3 (Option.some Jvm.ClassFile.FieldType.int) : Cond) ∈ TB := tb_in (List.mem_of_getElem? (i := 499) (by decide +kernel)) rfl
theorem q_500 : (.methodLink RX3 137 yX3_isDownOpen : Cond) ∈ TB := tb_in (List.mem_of_getElem? (i := 500) (by decide +kernel)) rfl
theorem q_501 : (.instanceMethod yX3_isDownOpen : Cond) ∈ TB := tb_in (List.mem_of_getElem? (i := 501) (by decide +kernel)) rfl
theorem q_502 : (.selects RX3 yX3_isDownOpen yX3_isDownOpen : Cond) ∈ TB := tb_in (List.mem_of_getElem? (i := 502) (by decide +kernel)) rfl
theorem q_503 : (.code yX3_isDownOpen cX3_isDownOpen 1 (Option.some Jvm.ClassFile.FieldType.boolean) : Cond) ∈ TB := tb_in (List.mem_of_getElem? (i := 503) (by decide +kernel)) rfl
theorem q_504 : (.methodLink RX3 156 yX3_letGroupsLeave : Cond) ∈ TB := tb_in (List.mem_of_getElem? (i := 504) (by decide +kernel)) rfl
theorem q_506 : (.instanceMethod yX3_letGroupsLeave : Cond) ∈ TB := tb_in (List.mem_of_getElem? (i := 506) (by decide +kernel)) rfl
theorem q_507 : (.code yX3_letGroupsLeave cX3_letGroupsLeave 2 (Option.none : Option Jvm.ClassFile.FieldType) : Cond) ∈ TB := tb_in (List.mem_of_getElem? (i := 507) (by decide +kernel)) rfl
theorem q_508 : (.methodLink RX3 134 yX1_isOver : Cond) ∈ TB := tb_in (List.mem_of_getElem? (i := 508) (by decide +kernel)) rfl
theorem q_509 : (.instanceMethod yX1_isOver : Cond) ∈ TB := tb_in (List.mem_of_getElem? (i := 509) (by decide +kernel)) rfl
theorem q_510 : (.selects RX1 yX1_isOver yX1_isOver : Cond) ∈ TB := tb_in (List.mem_of_getElem? (i := 510) (by decide +kernel)) rfl
theorem q_511 : (.code yX1_isOver cX1_isOver 3 (Option.some Jvm.ClassFile.FieldType.boolean) : Cond) ∈ TB := tb_in (List.mem_of_getElem? (i := 511) (by decide +kernel)) rfl
theorem q_512 : (.methodLink RX3 175 yX3_letLeave : Cond) ∈ TB := tb_in (List.mem_of_getElem? (i := 512) (by decide +kernel)) rfl
theorem q_514 : (.instanceMethod yX3_letLeave : Cond) ∈ TB := tb_in (List.mem_of_getElem? (i := 514) (by decide +kernel)) rfl
theorem q_515 : (.code yX3_letLeave cX3_letLeave 3 (Option.none : Option Jvm.ClassFile.FieldType) : Cond) ∈ TB := tb_in (List.mem_of_getElem? (i := 515) (by decide +kernel)) rfl
theorem q_516 : (.methodLink RX3 159 yX3_turnLateOnesAway : Cond) ∈ TB := tb_in (List.mem_of_getElem? (i := 516) (by decide +kernel)) rfl
theorem q_518 : (.instanceMethod yX3_turnLateOnesAway : Cond) ∈ TB := tb_in (List.mem_of_getElem? (i := 518) (by decide +kernel)) rfl
theorem q_519 : (.code yX3_turnLateOnesAway cX3_turnLateOnesAway 2 (Option.none : Option Jvm.ClassFile.FieldType) : Cond) ∈ TB := tb_in (List.mem_of_getElem? (i := 519) (by decide +kernel)) rfl
theorem q_520 : (.methodLink RX3 181 yX3_turnAway : Cond) ∈ TB := tb_in (List.mem_of_getElem? (i := 520) (by decide +kernel)) rfl
theorem q_522 : (.instanceMethod yX3_turnAway : Cond) ∈ TB := tb_in (List.mem_of_getElem? (i := 522) (by decide +kernel)) rfl
theorem q_523 : (.code yX3_turnAway cX3_turnAway 2 (Option.none : Option Jvm.ClassFile.FieldType) : Cond) ∈ TB := tb_in (List.mem_of_getElem? (i := 523) (by decide +kernel)) rfl
theorem q_524 : (.methodLink RX3 162 yX3_letGroupsCome : Cond) ∈ TB := tb_in (List.mem_of_getElem? (i := 524) (by decide +kernel)) rfl
theorem q_526 : (.instanceMethod yX3_letGroupsCome : Cond) ∈ TB := tb_in (List.mem_of_getElem? (i := 526) (by decide +kernel)) rfl
theorem q_527 : (.code yX3_letGroupsCome cX3_letGroupsCome 4 (Option.none : Option Jvm.ClassFile.FieldType) : Cond) ∈ TB := tb_in (List.mem_of_getElem? (i := 527) (by decide +kernel)) rfl
theorem q_528 : (.methodLink RX3 184 yX1_personsThere : Cond) ∈ TB := tb_in (List.mem_of_getElem? (i := 528) (by decide +kernel)) rfl
theorem q_529 : (.instanceMethod yX1_personsThere : Cond) ∈ TB := tb_in (List.mem_of_getElem? (i := 529) (by decide +kernel)) rfl
theorem q_530 : (.selects RX1 yX1_personsThere yX1_personsThere : Cond) ∈ TB := tb_in (List.mem_of_getElem? (i := 530) (by decide +kernel)) rfl
theorem q_531 : (.code yX1_personsThere cX1_personsThere 3 (Option.some Jvm.ClassFile.FieldType.int) : Cond) ∈ TB := tb_in (List.mem_of_getElem? (i := 531) (by decide +kernel)) rfl
theorem q_532 : (.methodLink RX3 165 yX3_bring : Cond) ∈ TB := tb_in (List.mem_of_getElem? (i := 532) (by decide +kernel)) rfl
theorem q_534 : (.instanceMethod yX3_bring : Cond) ∈ TB := tb_in (List.mem_of_getElem? (i := 534) (by decide +kernel)) rfl
theorem q_535 : (.code yX3_bring cX3_bring 6 (Option.none : Option Jvm.ClassFile.FieldType) : Cond) ∈ TB := tb_in (List.mem_of_getElem? (i := 535) (by decide +kernel)) rfl
theorem q_536 : (.methodLink RX3 194 yX5_takeFromFirst : Cond) ∈ TB := tb_in (List.mem_of_getElem? (i := 536) (by decide +kernel)) rfl
theorem q_537 : (.instanceMethod yX5_takeFromFirst : Cond) ∈ TB := tb_in (List.mem_of_getElem? (i := 537) (by decide +kernel)) rfl
theorem q_538 : (.selects RX5 yX5_takeFromFirst yX5_takeFromFirst : Cond) ∈ TB := tb_in (List.mem_of_getElem? (i := 538) (by decide +kernel)) rfl
theorem q_539 : (.code yX5_takeFromFirst cX5_takeFromFirst 3 (Option.some Jvm.ClassFile.FieldType.int) : Cond) ∈ TB := tb_in (List.mem_of_getElem? (i := 539) (by decide +kernel)) rfl
theorem q_540 : (.methodLink RX5 28 yJ9_min_7cf53 : Cond) ∈ TB := tb_in (List.mem_of_getElem? (i := 540) (by decide +kernel)) rfl
theorem q_541 : (.methodLink RX5 34 yX5_removeFirst : Cond) ∈ TB := tb_in (List.mem_of_getElem? (i := 541) (by decide +kernel)) rfl
theorem q_543 : (.instanceMethod yX5_removeFirst : Cond) ∈ TB := tb_in (List.mem_of_getElem? (i := 543) (by decide +kernel)) rfl
theorem q_544 : (.code yX5_removeFirst cX5_removeFirst 2 (Option.none : Option Jvm.ClassFile.FieldType) : Cond) ∈ TB := tb_in (List.mem_of_getElem? (i := 544) (by decide +kernel)) rfl
theorem q_545 : (.methodLink RX3 197 yX4_store : Cond) ∈ TB := tb_in (List.mem_of_getElem? (i := 545) (by decide +kernel)) rfl
theorem q_546 : (.instanceMethod yX4_store : Cond) ∈ TB := tb_in (List.mem_of_getElem? (i := 546) (by decide +kernel)) rfl
theorem q_547 : (.selects RX4 yX4_store yX4_store : Cond) ∈ TB := tb_in (List.mem_of_getElem? (i := 547) (by decide +kernel)) rfl
theorem q_548 : (.code yX4_store cX4_store 4 (Option.none : Option Jvm.ClassFile.FieldType) : Cond) ∈ TB := tb_in (List.mem_of_getElem? (i := 548) (by decide +kernel)) rfl
theorem q_549 : (.methodLink RX3 144 yX3_isWindy : Cond) ∈ TB := tb_in (List.mem_of_getElem? (i := 549) (by decide +kernel)) rfl
theorem q_550 : (.instanceMethod yX3_isWindy : Cond) ∈ TB := tb_in (List.mem_of_getElem? (i := 550) (by decide +kernel)) rfl
theorem q_551 : (.selects RX3 yX3_isWindy yX3_isWindy : Cond) ∈ TB := tb_in (List.mem_of_getElem? (i := 551) (by decide +kernel)) rfl
theorem q_552 : (.code yX3_isWindy cX3_isWindy 1 (Option.some Jvm.ClassFile.FieldType.boolean) : Cond) ∈ TB := tb_in (List.mem_of_getElem? (i := 552) (by decide +kernel)) rfl
theorem q_553 : (.methodLink RX3 147 yX3_fly : Cond) ∈ TB := tb_in (List.mem_of_getElem? (i := 553) (by decide +kernel)) rfl
theorem q_555 : (.instanceMethod yX3_fly : Cond) ∈ TB := tb_in (List.mem_of_getElem? (i := 555) (by decide +kernel)) rfl
theorem q_556 : (.code yX3_fly cX3_fly 1 (Option.none : Option Jvm.ClassFile.FieldType) : Cond) ∈ TB := tb_in (List.mem_of_getElem? (i := 556) (by decide +kernel)) rfl
theorem q_557 : (.methodLink RX3 201 yX3_fillSeats : Cond) ∈ TB := tb_in (List.mem_of_getElem? (i := 557) (by decide +kernel)) rfl
theorem q_558 : (.instanceMethod yX3_fillSeats : Cond) ∈ TB := tb_in (List.mem_of_getElem? (i := 558) (by decide +kernel)) rfl
theorem q_559 : (.selects RX3 yX3_fillSeats yX3_fillSeats : Cond) ∈ TB := tb_in (List.mem_of_getElem? (i := 559) (by decide +kernel)) rfl
theorem q_560 : (.code yX3_fillSeats cX3_fillSeats 4 (Option.some Jvm.ClassFile.FieldType.int) : Cond) ∈ TB := tb_in (List.mem_of_getElem? (i := 560) (by decide +kernel)) rfl
theorem q_561 : (.methodLink RX3 150 yX3_endDay : Cond) ∈ TB := tb_in (List.mem_of_getElem? (i := 561) (by decide +kernel)) rfl
theorem q_562 : (.instanceMethod yX3_endDay : Cond) ∈ TB := tb_in (List.mem_of_getElem? (i := 562) (by decide +kernel)) rfl
theorem q_563 : (.selects RX3 yX3_endDay yX3_endDay : Cond) ∈ TB := tb_in (List.mem_of_getElem? (i := 563) (by decide +kernel)) rfl
theorem q_564 : (.code yX3_endDay cX3_endDay 1 (Option.none : Option Jvm.ClassFile.FieldType) : Cond) ∈ TB := tb_in (List.mem_of_getElem? (i := 564) (by decide +kernel)) rfl
theorem q_565 : (.methodLink RX3 169 yX3_letAllEat : Cond) ∈ TB := tb_in (List.mem_of_getElem? (i := 565) (by decide +kernel)) rfl
theorem q_567 : (.instanceMethod yX3_letAllEat : Cond) ∈ TB := tb_in (List.mem_of_getElem? (i := 567) (by decide +kernel)) rfl
theorem q_568 : (.code yX3_letAllEat cX3_letAllEat 3 (Option.none : Option Jvm.ClassFile.FieldType) : Cond) ∈ TB := tb_in (List.mem_of_getElem? (i := 568) (by decide +kernel)) rfl
theorem q_569 : (.methodLink RX3 205 yX4_eat : Cond) ∈ TB := tb_in (List.mem_of_getElem? (i := 569) (by decide +kernel)) rfl
theorem q_570 : (.instanceMethod yX4_eat : Cond) ∈ TB := tb_in (List.mem_of_getElem? (i := 570) (by decide +kernel)) rfl
theorem q_571 : (.selects RX4 yX4_eat yX4_eat : Cond) ∈ TB := tb_in (List.mem_of_getElem? (i := 571) (by decide +kernel)) rfl
theorem q_572 : (.code yX4_eat cX4_eat 7 (Option.some Jvm.ClassFile.FieldType.int) : Cond) ∈ TB := tb_in (List.mem_of_getElem? (i := 572) (by decide +kernel)) rfl
theorem q_573 : (.methodLink RX4 39 yJ9_min_7cf53 : Cond) ∈ TB := tb_in (List.mem_of_getElem? (i := 573) (by decide +kernel)) rfl
theorem q_574 : (.methodLink RX3 172 yX3_letAllSleep : Cond) ∈ TB := tb_in (List.mem_of_getElem? (i := 574) (by decide +kernel)) rfl
theorem q_576 : (.instanceMethod yX3_letAllSleep : Cond) ∈ TB := tb_in (List.mem_of_getElem? (i := 576) (by decide +kernel)) rfl
theorem q_577 : (.code yX3_letAllSleep cX3_letAllSleep 2 (Option.none : Option Jvm.ClassFile.FieldType) : Cond) ∈ TB := tb_in (List.mem_of_getElem? (i := 577) (by decide +kernel)) rfl
theorem q_578 : (.methodLink RL 54 yX6_set : Cond) ∈ TB := tb_in (List.mem_of_getElem? (i := 578) (by decide +kernel)) rfl
theorem q_579 : (.instanceMethod yX6_set : Cond) ∈ TB := tb_in (List.mem_of_getElem? (i := 579) (by decide +kernel)) rfl
theorem q_580 : (.selects RX6 yX6_set yX6_set : Cond) ∈ TB := tb_in (List.mem_of_getElem? (i := 580) (by decide +kernel)) rfl
theorem q_581 : (.code yX6_set cX6_set 4 (Option.some Jvm.ClassFile.FieldType.int) : Cond) ∈ TB := tb_in (List.mem_of_getElem? (i := 581) (by decide +kernel)) rfl
theorem q_582 : (.fieldLink RX6 140 "HutBookings" "SETTING_LEAST" "[I" : Cond) ∈ TB := tb_in (List.mem_of_getElem? (i := 582) (by decide +kernel)) rfl
theorem q_584 : (.fieldLink RX6 143 "HutBookings" "SETTING_MOST" "[I" : Cond) ∈ TB := tb_in (List.mem_of_getElem? (i := 584) (by decide +kernel)) rfl
theorem q_586 : (.methodLink RX6 146 yX6_mostBedsTaken : Cond) ∈ TB := tb_in (List.mem_of_getElem? (i := 586) (by decide +kernel)) rfl
theorem q_588 : (.instanceMethod yX6_mostBedsTaken : Cond) ∈ TB := tb_in (List.mem_of_getElem? (i := 588) (by decide +kernel)) rfl
theorem q_589 : (.code yX6_mostBedsTaken cX6_mostBedsTaken 2 (Option.some Jvm.ClassFile.FieldType.int) : Cond) ∈ TB := tb_in (List.mem_of_getElem? (i := 589) (by decide +kernel)) rfl
theorem q_590 : (.methodLink RX6 281 yX6_fullest : Cond) ∈ TB := tb_in (List.mem_of_getElem? (i := 590) (by decide +kernel)) rfl
theorem q_591 : (.instanceMethod yX6_fullest : Cond) ∈ TB := tb_in (List.mem_of_getElem? (i := 591) (by decide +kernel)) rfl
theorem q_592 : (.selects RX6 yX6_fullest yX6_fullest : Cond) ∈ TB := tb_in (List.mem_of_getElem? (i := 592) (by decide +kernel)) rfl
theorem q_593 : (.code yX6_fullest cX6_fullest 4 (Option.some Jvm.ClassFile.FieldType.int) : Cond) ∈ TB := tb_in (List.mem_of_getElem? (i := 593) (by decide +kernel)) rfl
theorem q_594 : (.methodLink RX6 256 yX1_fillBedsTaken : Cond) ∈ TB := tb_in (List.mem_of_getElem? (i := 594) (by decide +kernel)) rfl
theorem q_595 : (.instanceMethod yX1_fillBedsTaken : Cond) ∈ TB := tb_in (List.mem_of_getElem? (i := 595) (by decide +kernel)) rfl
theorem q_596 : (.selects RX1 yX1_fillBedsTaken yX1_fillBedsTaken : Cond) ∈ TB := tb_in (List.mem_of_getElem? (i := 596) (by decide +kernel)) rfl
theorem q_597 : (.code yX1_fillBedsTaken cX1_fillBedsTaken 4 (Option.none : Option Jvm.ClassFile.FieldType) : Cond) ∈ TB := tb_in (List.mem_of_getElem? (i := 597) (by decide +kernel)) rfl
theorem q_598 : (.methodLink RX1 64 yJ7_fill_53178 : Cond) ∈ TB := tb_in (List.mem_of_getElem? (i := 598) (by decide +kernel)) rfl
theorem q_599 : (.static yJ7_fill_53178 : Cond) ∈ TB := tb_in (List.mem_of_getElem? (i := 599) (by decide +kernel)) rfl
theorem q_600 : (.code yJ7_fill_53178 cJ7_fill_53178 4 (Option.none : Option Jvm.ClassFile.FieldType) : Cond) ∈ TB := tb_in (List.mem_of_getElem? (i := 600) (by decide +kernel)) rfl
theorem q_601 : (.methodLink RX6 179 yX1_bedsTakenIn : Cond) ∈ TB := tb_in (List.mem_of_getElem? (i := 601) (by decide +kernel)) rfl
theorem q_602 : (.methodLink RL 58 yX6_type : Cond) ∈ TB := tb_in (List.mem_of_getElem? (i := 602) (by decide +kernel)) rfl
theorem q_603 : (.instanceMethod yX6_type : Cond) ∈ TB := tb_in (List.mem_of_getElem? (i := 603) (by decide +kernel)) rfl
theorem q_604 : (.selects RX6 yX6_type yX6_type : Cond) ∈ TB := tb_in (List.mem_of_getElem? (i := 604) (by decide +kernel)) rfl
theorem q_605 : (.code yX6_type cX6_type 2 (Option.some Jvm.ClassFile.FieldType.int) : Cond) ∈ TB := tb_in (List.mem_of_getElem? (i := 605) (by decide +kernel)) rfl
theorem q_606 : (.methodLink RX6 155 yX0_append : Cond) ∈ TB := tb_in (List.mem_of_getElem? (i := 606) (by decide +kernel)) rfl
theorem q_607 : (.instanceMethod yX0_append : Cond) ∈ TB := tb_in (List.mem_of_getElem? (i := 607) (by decide +kernel)) rfl
theorem q_608 : (.selects RX0 yX0_append yX0_append : Cond) ∈ TB := tb_in (List.mem_of_getElem? (i := 608) (by decide +kernel)) rfl
theorem q_609 : (.code yX0_append cX0_append 2 (Option.none : Option Jvm.ClassFile.FieldType) : Cond) ∈ TB := tb_in (List.mem_of_getElem? (i := 609) (by decide +kernel)) rfl
theorem q_610 : (.methodLink RL 63 yX6_clearText : Cond) ∈ TB := tb_in (List.mem_of_getElem? (i := 610) (by decide +kernel)) rfl
theorem q_611 : (.instanceMethod yX6_clearText : Cond) ∈ TB := tb_in (List.mem_of_getElem? (i := 611) (by decide +kernel)) rfl
theorem q_612 : (.selects RX6 yX6_clearText yX6_clearText : Cond) ∈ TB := tb_in (List.mem_of_getElem? (i := 612) (by decide +kernel)) rfl
theorem q_613 : (.code yX6_clearText cX6_clearText 2 (Option.some Jvm.ClassFile.FieldType.int) : Cond) ∈ TB := tb_in (List.mem_of_getElem? (i := 613) (by decide +kernel)) rfl
theorem q_614 : (.methodLink RL 67 yX6_fault : Cond) ∈ TB := tb_in (List.mem_of_getElem? (i := 614) (by decide +kernel)) rfl
theorem q_615 : (.instanceMethod yX6_fault : Cond) ∈ TB := tb_in (List.mem_of_getElem? (i := 615) (by decide +kernel)) rfl
theorem q_616 : (.selects RX6 yX6_fault yX6_fault : Cond) ∈ TB := tb_in (List.mem_of_getElem? (i := 616) (by decide +kernel)) rfl
theorem q_617 : (.code yX6_fault cX6_fault 1 (Option.some Jvm.ClassFile.FieldType.int) : Cond) ∈ TB := tb_in (List.mem_of_getElem? (i := 617) (by decide +kernel)) rfl
theorem q_618 : (.methodLink RL 71 yX6_undo : Cond) ∈ TB := tb_in (List.mem_of_getElem? (i := 618) (by decide +kernel)) rfl
theorem q_619 : (.instanceMethod yX6_undo : Cond) ∈ TB := tb_in (List.mem_of_getElem? (i := 619) (by decide +kernel)) rfl
theorem q_620 : (.selects RX6 yX6_undo yX6_undo : Cond) ∈ TB := tb_in (List.mem_of_getElem? (i := 620) (by decide +kernel)) rfl
theorem q_621 : (.code yX6_undo cX6_undo 1 (Option.some Jvm.ClassFile.FieldType.int) : Cond) ∈ TB := tb_in (List.mem_of_getElem? (i := 621) (by decide +kernel)) rfl
theorem q_622 : (.methodLink RX6 159 yX2_giveBack : Cond) ∈ TB := tb_in (List.mem_of_getElem? (i := 622) (by decide +kernel)) rfl
theorem q_623 : (.instanceMethod yX2_giveBack : Cond) ∈ TB := tb_in (List.mem_of_getElem? (i := 623) (by decide +kernel)) rfl
theorem q_624 : (.selects RX2 yX2_giveBack yX2_giveBack : Cond) ∈ TB := tb_in (List.mem_of_getElem? (i := 624) (by decide +kernel)) rfl
theorem q_625 : (.code yX2_giveBack cX2_giveBack 2 (Option.none : Option Jvm.ClassFile.FieldType) : Cond) ∈ TB := tb_in (List.mem_of_getElem? (i := 625) (by decide +kernel)) rfl
theorem q_626 : (.methodLink RL 75 yX6_keep : Cond) ∈ TB := tb_in (List.mem_of_getElem? (i := 626) (by decide +kernel)) rfl
theorem q_627 : (.instanceMethod yX6_keep : Cond) ∈ TB := tb_in (List.mem_of_getElem? (i := 627) (by decide +kernel)) rfl
theorem q_628 : (.selects RX6 yX6_keep yX6_keep : Cond) ∈ TB := tb_in (List.mem_of_getElem? (i := 628) (by decide +kernel)) rfl
theorem q_629 : (.code yX6_keep cX6_keep 1 (Option.some Jvm.ClassFile.FieldType.int) : Cond) ∈ TB := tb_in (List.mem_of_getElem? (i := 629) (by decide +kernel)) rfl
theorem q_630 : (.methodLink RL 79 yX6_restore : Cond) ∈ TB := tb_in (List.mem_of_getElem? (i := 630) (by decide +kernel)) rfl
theorem q_631 : (.instanceMethod yX6_restore : Cond) ∈ TB := tb_in (List.mem_of_getElem? (i := 631) (by decide +kernel)) rfl
theorem q_632 : (.selects RX6 yX6_restore yX6_restore : Cond) ∈ TB := tb_in (List.mem_of_getElem? (i := 632) (by decide +kernel)) rfl
theorem q_633 : (.code yX6_restore cX6_restore 1 (Option.some Jvm.ClassFile.FieldType.int) : Cond) ∈ TB := tb_in (List.mem_of_getElem? (i := 633) (by decide +kernel)) rfl
theorem q_634 : (.methodLink RL 83 yX6_booking : Cond) ∈ TB := tb_in (List.mem_of_getElem? (i := 634) (by decide +kernel)) rfl
theorem q_635 : (.instanceMethod yX6_booking : Cond) ∈ TB := tb_in (List.mem_of_getElem? (i := 635) (by decide +kernel)) rfl
theorem q_636 : (.selects RX6 yX6_booking yX6_booking : Cond) ∈ TB := tb_in (List.mem_of_getElem? (i := 636) (by decide +kernel)) rfl
theorem q_637 : (.code yX6_booking cX6_booking 4 (Option.some Jvm.ClassFile.FieldType.int) : Cond) ∈ TB := tb_in (List.mem_of_getElem? (i := 637) (by decide +kernel)) rfl
theorem q_638 : (.methodLink RX6 170 yX3_isStrandedNow : Cond) ∈ TB := tb_in (List.mem_of_getElem? (i := 638) (by decide +kernel)) rfl
theorem q_639 : (.instanceMethod yX3_isStrandedNow : Cond) ∈ TB := tb_in (List.mem_of_getElem? (i := 639) (by decide +kernel)) rfl
theorem q_640 : (.selects RX3 yX3_isStrandedNow yX3_isStrandedNow : Cond) ∈ TB := tb_in (List.mem_of_getElem? (i := 640) (by decide +kernel)) rfl
theorem q_641 : (.code yX3_isStrandedNow cX3_isStrandedNow 2 (Option.some Jvm.ClassFile.FieldType.boolean) : Cond) ∈ TB := tb_in (List.mem_of_getElem? (i := 641) (by decide +kernel)) rfl
theorem q_642 : (.methodLink RL 87 yX6_day : Cond) ∈ TB := tb_in (List.mem_of_getElem? (i := 642) (by decide +kernel)) rfl
theorem q_643 : (.instanceMethod yX6_day : Cond) ∈ TB := tb_in (List.mem_of_getElem? (i := 643) (by decide +kernel)) rfl
theorem q_644 : (.selects RX6 yX6_day yX6_day : Cond) ∈ TB := tb_in (List.mem_of_getElem? (i := 644) (by decide +kernel)) rfl
theorem q_645 : (.code yX6_day cX6_day 3 (Option.some Jvm.ClassFile.FieldType.int) : Cond) ∈ TB := tb_in (List.mem_of_getElem? (i := 645) (by decide +kernel)) rfl
theorem q_646 : (.methodLink RX6 182 yX3_weatherOf : Cond) ∈ TB := tb_in (List.mem_of_getElem? (i := 646) (by decide +kernel)) rfl
theorem q_647 : (.methodLink RX6 185 yX1_arrivingOn : Cond) ∈ TB := tb_in (List.mem_of_getElem? (i := 647) (by decide +kernel)) rfl
theorem q_648 : (.instanceMethod yX1_arrivingOn : Cond) ∈ TB := tb_in (List.mem_of_getElem? (i := 648) (by decide +kernel)) rfl
theorem q_649 : (.selects RX1 yX1_arrivingOn yX1_arrivingOn : Cond) ∈ TB := tb_in (List.mem_of_getElem? (i := 649) (by decide +kernel)) rfl
theorem q_650 : (.code yX1_arrivingOn cX1_arrivingOn 4 (Option.some Jvm.ClassFile.FieldType.int) : Cond) ∈ TB := tb_in (List.mem_of_getElem? (i := 650) (by decide +kernel)) rfl
theorem q_651 : (.methodLink RX6 188 yX1_endingOn : Cond) ∈ TB := tb_in (List.mem_of_getElem? (i := 651) (by decide +kernel)) rfl
theorem q_652 : (.instanceMethod yX1_endingOn : Cond) ∈ TB := tb_in (List.mem_of_getElem? (i := 652) (by decide +kernel)) rfl
theorem q_653 : (.selects RX1 yX1_endingOn yX1_endingOn : Cond) ∈ TB := tb_in (List.mem_of_getElem? (i := 653) (by decide +kernel)) rfl
theorem q_654 : (.code yX1_endingOn cX1_endingOn 4 (Option.some Jvm.ClassFile.FieldType.int) : Cond) ∈ TB := tb_in (List.mem_of_getElem? (i := 654) (by decide +kernel)) rfl
theorem q_655 : (.methodLink RL 91 yX6_fresh : Cond) ∈ TB := tb_in (List.mem_of_getElem? (i := 655) (by decide +kernel)) rfl
theorem q_656 : (.instanceMethod yX6_fresh : Cond) ∈ TB := tb_in (List.mem_of_getElem? (i := 656) (by decide +kernel)) rfl
theorem q_657 : (.selects RX6 yX6_fresh yX6_fresh : Cond) ∈ TB := tb_in (List.mem_of_getElem? (i := 657) (by decide +kernel)) rfl
theorem q_658 : (.code yX6_fresh cX6_fresh 4 (Option.some Jvm.ClassFile.FieldType.int) : Cond) ∈ TB := tb_in (List.mem_of_getElem? (i := 658) (by decide +kernel)) rfl
theorem q_659 : (.methodLink RX6 195 yX4_dayOfRank : Cond) ∈ TB := tb_in (List.mem_of_getElem? (i := 659) (by decide +kernel)) rfl
theorem q_660 : (.instanceMethod yX4_dayOfRank : Cond) ∈ TB := tb_in (List.mem_of_getElem? (i := 660) (by decide +kernel)) rfl
theorem q_661 : (.selects RX4 yX4_dayOfRank yX4_dayOfRank : Cond) ∈ TB := tb_in (List.mem_of_getElem? (i := 661) (by decide +kernel)) rfl
theorem q_662 : (.code yX4_dayOfRank cX4_dayOfRank 5 (Option.some Jvm.ClassFile.FieldType.int) : Cond) ∈ TB := tb_in (List.mem_of_getElem? (i := 662) (by decide +kernel)) rfl
theorem q_663 : (.methodLink RX4 35 yX4_freshOf : Cond) ∈ TB := tb_in (List.mem_of_getElem? (i := 663) (by decide +kernel)) rfl
theorem q_664 : (.instanceMethod yX4_freshOf : Cond) ∈ TB := tb_in (List.mem_of_getElem? (i := 664) (by decide +kernel)) rfl
theorem q_665 : (.selects RX4 yX4_freshOf yX4_freshOf : Cond) ∈ TB := tb_in (List.mem_of_getElem? (i := 665) (by decide +kernel)) rfl
theorem q_666 : (.code yX4_freshOf cX4_freshOf 2 (Option.some Jvm.ClassFile.FieldType.int) : Cond) ∈ TB := tb_in (List.mem_of_getElem? (i := 666) (by decide +kernel)) rfl
theorem q_667 : (.constant RX4 38 (-1000005) : Cond) ∈ TB := tb_in (List.mem_of_getElem? (i := 667) (by decide +kernel)) rfl
theorem q_668 : (.methodLink RX6 201 yX4_freshOf : Cond) ∈ TB := tb_in (List.mem_of_getElem? (i := 668) (by decide +kernel)) rfl
theorem q_669 : (.methodLink RL 95 yX6_waiting : Cond) ∈ TB := tb_in (List.mem_of_getElem? (i := 669) (by decide +kernel)) rfl
theorem q_670 : (.instanceMethod yX6_waiting : Cond) ∈ TB := tb_in (List.mem_of_getElem? (i := 670) (by decide +kernel)) rfl
theorem q_671 : (.selects RX6 yX6_waiting yX6_waiting : Cond) ∈ TB := tb_in (List.mem_of_getElem? (i := 671) (by decide +kernel)) rfl
theorem q_672 : (.code yX6_waiting cX6_waiting 3 (Option.some Jvm.ClassFile.FieldType.int) : Cond) ∈ TB := tb_in (List.mem_of_getElem? (i := 672) (by decide +kernel)) rfl
theorem q_673 : (.methodLink RL 99 yX6_count : Cond) ∈ TB := tb_in (List.mem_of_getElem? (i := 673) (by decide +kernel)) rfl
theorem q_674 : (.instanceMethod yX6_count : Cond) ∈ TB := tb_in (List.mem_of_getElem? (i := 674) (by decide +kernel)) rfl
theorem q_675 : (.selects RX6 yX6_count yX6_count : Cond) ∈ TB := tb_in (List.mem_of_getElem? (i := 675) (by decide +kernel)) rfl
theorem q_676 : (.code yX6_count cX6_count 2 (Option.some Jvm.ClassFile.FieldType.int) : Cond) ∈ TB := tb_in (List.mem_of_getElem? (i := 676) (by decide +kernel)) rfl
theorem q_677 : (.methodLink RX6 213 yX1_howMany : Cond) ∈ TB := tb_in (List.mem_of_getElem? (i := 677) (by decide +kernel)) rfl
theorem q_678 : (.instanceMethod yX1_howMany : Cond) ∈ TB := tb_in (List.mem_of_getElem? (i := 678) (by decide +kernel)) rfl
theorem q_679 : (.selects RX1 yX1_howMany yX1_howMany : Cond) ∈ TB := tb_in (List.mem_of_getElem? (i := 679) (by decide +kernel)) rfl
theorem q_680 : (.code yX1_howMany cX1_howMany 4 (Option.some Jvm.ClassFile.FieldType.int) : Cond) ∈ TB := tb_in (List.mem_of_getElem? (i := 680) (by decide +kernel)) rfl
theorem q_681 : (.methodLink RX6 216 yX1_personsThere : Cond) ∈ TB := tb_in (List.mem_of_getElem? (i := 681) (by decide +kernel)) rfl
theorem q_682 : (.methodLink RX6 219 yJ9_max_7cf53 : Cond) ∈ TB := tb_in (List.mem_of_getElem? (i := 682) (by decide +kernel)) rfl
theorem q_683 : (.methodLink RX6 224 yX4_allFresh : Cond) ∈ TB := tb_in (List.mem_of_getElem? (i := 683) (by decide +kernel)) rfl
theorem q_684 : (.instanceMethod yX4_allFresh : Cond) ∈ TB := tb_in (List.mem_of_getElem? (i := 684) (by decide +kernel)) rfl
theorem q_685 : (.selects RX4 yX4_allFresh yX4_allFresh : Cond) ∈ TB := tb_in (List.mem_of_getElem? (i := 685) (by decide +kernel)) rfl
theorem q_686 : (.code yX4_allFresh cX4_allFresh 3 (Option.some Jvm.ClassFile.FieldType.int) : Cond) ∈ TB := tb_in (List.mem_of_getElem? (i := 686) (by decide +kernel)) rfl
theorem q_687 : (.methodLink RX6 230 yX5_allPortions : Cond) ∈ TB := tb_in (List.mem_of_getElem? (i := 687) (by decide +kernel)) rfl
theorem q_688 : (.instanceMethod yX5_allPortions : Cond) ∈ TB := tb_in (List.mem_of_getElem? (i := 688) (by decide +kernel)) rfl
theorem q_689 : (.selects RX5 yX5_allPortions yX5_allPortions : Cond) ∈ TB := tb_in (List.mem_of_getElem? (i := 689) (by decide +kernel)) rfl
theorem q_690 : (.code yX5_allPortions cX5_allPortions 3 (Option.some Jvm.ClassFile.FieldType.int) : Cond) ∈ TB := tb_in (List.mem_of_getElem? (i := 690) (by decide +kernel)) rfl
theorem q_691 : (.methodLink RL 103 yX6_coins : Cond) ∈ TB := tb_in (List.mem_of_getElem? (i := 691) (by decide +kernel)) rfl
theorem q_692 : (.instanceMethod yX6_coins : Cond) ∈ TB := tb_in (List.mem_of_getElem? (i := 692) (by decide +kernel)) rfl
theorem q_693 : (.selects RX6 yX6_coins yX6_coins : Cond) ∈ TB := tb_in (List.mem_of_getElem? (i := 693) (by decide +kernel)) rfl
theorem q_694 : (.code yX6_coins cX6_coins 2 (Option.some Jvm.ClassFile.FieldType.int) : Cond) ∈ TB := tb_in (List.mem_of_getElem? (i := 694) (by decide +kernel)) rfl
theorem q_695 : (.methodLink RX6 236 yX1_depositsHeld : Cond) ∈ TB := tb_in (List.mem_of_getElem? (i := 695) (by decide +kernel)) rfl
theorem q_696 : (.instanceMethod yX1_depositsHeld : Cond) ∈ TB := tb_in (List.mem_of_getElem? (i := 696) (by decide +kernel)) rfl
theorem q_697 : (.selects RX1 yX1_depositsHeld yX1_depositsHeld : Cond) ∈ TB := tb_in (List.mem_of_getElem? (i := 697) (by decide +kernel)) rfl
theorem q_698 : (.code yX1_depositsHeld cX1_depositsHeld 3 (Option.some Jvm.ClassFile.FieldType.int) : Cond) ∈ TB := tb_in (List.mem_of_getElem? (i := 698) (by decide +kernel)) rfl
theorem q_699 : (.methodLink RL 107 yX6_use : Cond) ∈ TB := tb_in (List.mem_of_getElem? (i := 699) (by decide +kernel)) rfl
theorem q_700 : (.instanceMethod yX6_use : Cond) ∈ TB := tb_in (List.mem_of_getElem? (i := 700) (by decide +kernel)) rfl
theorem q_701 : (.selects RX6 yX6_use yX6_use : Cond) ∈ TB := tb_in (List.mem_of_getElem? (i := 701) (by decide +kernel)) rfl
theorem q_702 : (.code yX6_use cX6_use 6 (Option.some Jvm.ClassFile.FieldType.double) : Cond) ∈ TB := tb_in (List.mem_of_getElem? (i := 702) (by decide +kernel)) rfl
theorem q_704 : (.methodLink RX6 247 yX1_bedsTakenFrom : Cond) ∈ TB := tb_in (List.mem_of_getElem? (i := 704) (by decide +kernel)) rfl
theorem q_705 : (.methodLink RL 112 yX6_refund : Cond) ∈ TB := tb_in (List.mem_of_getElem? (i := 705) (by decide +kernel)) rfl
theorem q_706 : (.instanceMethod yX6_refund : Cond) ∈ TB := tb_in (List.mem_of_getElem? (i := 706) (by decide +kernel)) rfl
theorem q_707 : (.selects RX6 yX6_refund yX6_refund : Cond) ∈ TB := tb_in (List.mem_of_getElem? (i := 707) (by decide +kernel)) rfl
theorem q_708 : (.code yX6_refund cX6_refund 3 (Option.some Jvm.ClassFile.FieldType.int) : Cond) ∈ TB := tb_in (List.mem_of_getElem? (i := 708) (by decide +kernel)) rfl
theorem q_709 : (.methodLink RX6 250 yX3_refundOf : Cond) ∈ TB := tb_in (List.mem_of_getElem? (i := 709) (by decide +kernel)) rfl
theorem q_710 : (.methodLink RL 116 yX6_firstFree : Cond) ∈ TB := tb_in (List.mem_of_getElem? (i := 710) (by decide +kernel)) rfl
theorem q_711 : (.instanceMethod yX6_firstFree : Cond) ∈ TB := tb_in (List.mem_of_getElem? (i := 711) (by decide +kernel)) rfl
theorem q_712 : (.selects RX6 yX6_firstFree yX6_firstFree : Cond) ∈ TB := tb_in (List.mem_of_getElem? (i := 712) (by decide +kernel)) rfl
theorem q_713 : (.code yX6_firstFree cX6_firstFree 6 (Option.some Jvm.ClassFile.FieldType.int) : Cond) ∈ TB := tb_in (List.mem_of_getElem? (i := 713) (by decide +kernel)) rfl
theorem q_714 : (.methodLink RX6 253 yX6_areNightsAndPersons : Cond) ∈ TB := tb_in (List.mem_of_getElem? (i := 714) (by decide +kernel)) rfl
theorem q_715 : (.methodLink RL 120 yX6_hungryIn : Cond) ∈ TB := tb_in (List.mem_of_getElem? (i := 715) (by decide +kernel)) rfl
theorem q_716 : (.instanceMethod yX6_hungryIn : Cond) ∈ TB := tb_in (List.mem_of_getElem? (i := 716) (by decide +kernel)) rfl
theorem q_717 : (.selects RX6 yX6_hungryIn yX6_hungryIn : Cond) ∈ TB := tb_in (List.mem_of_getElem? (i := 717) (by decide +kernel)) rfl
theorem q_718 : (.code yX6_hungryIn cX6_hungryIn 2 (Option.some Jvm.ClassFile.FieldType.int) : Cond) ∈ TB := tb_in (List.mem_of_getElem? (i := 718) (by decide +kernel)) rfl
theorem q_719 : (.methodLink RL 124 yX6_wanting : Cond) ∈ TB := tb_in (List.mem_of_getElem? (i := 719) (by decide +kernel)) rfl
theorem q_720 : (.instanceMethod yX6_wanting : Cond) ∈ TB := tb_in (List.mem_of_getElem? (i := 720) (by decide +kernel)) rfl
theorem q_721 : (.selects RX6 yX6_wanting yX6_wanting : Cond) ∈ TB := tb_in (List.mem_of_getElem? (i := 721) (by decide +kernel)) rfl
theorem q_722 : (.code yX6_wanting cX6_wanting 2 (Option.some Jvm.ClassFile.FieldType.int) : Cond) ∈ TB := tb_in (List.mem_of_getElem? (i := 722) (by decide +kernel)) rfl
theorem q_723 : (.methodLink RX6 260 yX6_passInTrial : Cond) ∈ TB := tb_in (List.mem_of_getElem? (i := 723) (by decide +kernel)) rfl
theorem q_725 : (.instanceMethod yX6_passInTrial : Cond) ∈ TB := tb_in (List.mem_of_getElem? (i := 725) (by decide +kernel)) rfl
theorem q_726 : (.code yX6_passInTrial cX6_passInTrial 3 (Option.none : Option Jvm.ClassFile.FieldType) : Cond) ∈ TB := tb_in (List.mem_of_getElem? (i := 726) (by decide +kernel)) rfl
theorem q_727 : (.methodLink RL 128 yX6_goneIn : Cond) ∈ TB := tb_in (List.mem_of_getElem? (i := 727) (by decide +kernel)) rfl
theorem q_728 : (.instanceMethod yX6_goneIn : Cond) ∈ TB := tb_in (List.mem_of_getElem? (i := 728) (by decide +kernel)) rfl
theorem q_729 : (.selects RX6 yX6_goneIn yX6_goneIn : Cond) ∈ TB := tb_in (List.mem_of_getElem? (i := 729) (by decide +kernel)) rfl
theorem q_730 : (.code yX6_goneIn cX6_goneIn 3 (Option.some Jvm.ClassFile.FieldType.int) : Cond) ∈ TB := tb_in (List.mem_of_getElem? (i := 730) (by decide +kernel)) rfl
theorem q_731 : (.methodLink RX6 264 yX1_holdsBeds : Cond) ∈ TB := tb_in (List.mem_of_getElem? (i := 731) (by decide +kernel)) rfl
theorem q_732 : (.methodLink RL 132 yX6_turnedAway : Cond) ∈ TB := tb_in (List.mem_of_getElem? (i := 732) (by decide +kernel)) rfl
theorem q_733 : (.instanceMethod yX6_turnedAway : Cond) ∈ TB := tb_in (List.mem_of_getElem? (i := 733) (by decide +kernel)) rfl
theorem q_734 : (.selects RX6 yX6_turnedAway yX6_turnedAway : Cond) ∈ TB := tb_in (List.mem_of_getElem? (i := 734) (by decide +kernel)) rfl
theorem q_735 : (.code yX6_turnedAway cX6_turnedAway 2 (Option.some Jvm.ClassFile.FieldType.int) : Cond) ∈ TB := tb_in (List.mem_of_getElem? (i := 735) (by decide +kernel)) rfl
theorem q_736 : (.methodLink RL 136 yX6_bestCall : Cond) ∈ TB := tb_in (List.mem_of_getElem? (i := 736) (by decide +kernel)) rfl
theorem q_737 : (.instanceMethod yX6_bestCall : Cond) ∈ TB := tb_in (List.mem_of_getElem? (i := 737) (by decide +kernel)) rfl
theorem q_738 : (.selects RX6 yX6_bestCall yX6_bestCall : Cond) ∈ TB := tb_in (List.mem_of_getElem? (i := 738) (by decide +kernel)) rfl
theorem q_739 : (.code yX6_bestCall cX6_bestCall 6 (Option.some Jvm.ClassFile.FieldType.int) : Cond) ∈ TB := tb_in (List.mem_of_getElem? (i := 739) (by decide +kernel)) rfl
theorem q_740 : (.methodLink RX6 267 yX3_beginDay : Cond) ∈ TB := tb_in (List.mem_of_getElem? (i := 740) (by decide +kernel)) rfl
theorem q_741 : (.methodLink RX6 270 yX3_isWindy : Cond) ∈ TB := tb_in (List.mem_of_getElem? (i := 741) (by decide +kernel)) rfl
theorem q_742 : (.methodLink RX6 274 yX3_fillSeats : Cond) ∈ TB := tb_in (List.mem_of_getElem? (i := 742) (by decide +kernel)) rfl
theorem q_743 : (.methodLink RX6 278 yX3_endDay : Cond) ∈ TB := tb_in (List.mem_of_getElem? (i := 743) (by decide +kernel)) rfl
theorem q_744 : (.methodLink RL 140 yX6_fullest : Cond) ∈ TB := tb_in (List.mem_of_getElem? (i := 744) (by decide +kernel)) rfl
theorem q_745 : (.classLink RL 10 RX7 : Cond) ∈ TB := tb_in (List.mem_of_getElem? (i := 745) (by decide +kernel)) rfl
theorem q_746 : (.instantiable RX7 9 : Cond) ∈ TB := tb_in (List.mem_of_getElem? (i := 746) (by decide +kernel)) rfl
theorem q_747 : (.methodLink RL 12 yX7_init : Cond) ∈ TB := tb_in (List.mem_of_getElem? (i := 747) (by decide +kernel)) rfl
theorem q_748 : (.instanceMethod yX7_init : Cond) ∈ TB := tb_in (List.mem_of_getElem? (i := 748) (by decide +kernel)) rfl
theorem q_749 : (.code yX7_init cX7_init 1 (Option.none : Option Jvm.ClassFile.FieldType) : Cond) ∈ TB := tb_in (List.mem_of_getElem? (i := 749) (by decide +kernel)) rfl
theorem q_750 : (.methodLink RX7 1 objectInit : Cond) ∈ TB := tb_in (List.mem_of_getElem? (i := 750) (by decide +kernel)) rfl
theorem q_751 : (.fieldLink RX7 7 "HutBookingsModel" "now" "[I" : Cond) ∈ TB := tb_in (List.mem_of_getElem? (i := 751) (by decide +kernel)) rfl
theorem q_752 : (.fieldLink RX7 13 "HutBookingsModel" "slot" "[I" : Cond) ∈ TB := tb_in (List.mem_of_getElem? (i := 752) (by decide +kernel)) rfl
theorem q_753 : (.fieldLink RX7 16 "HutBookingsModel" "beside" "[I" : Cond) ∈ TB := tb_in (List.mem_of_getElem? (i := 753) (by decide +kernel)) rfl
theorem q_754 : (.fieldLink RX7 19 "HutBookingsModel" "history" "[I" : Cond) ∈ TB := tb_in (List.mem_of_getElem? (i := 754) (by decide +kernel)) rfl
theorem q_755 : (.fieldLink RX7 22 "HutBookingsModel" "text" "[I" : Cond) ∈ TB := tb_in (List.mem_of_getElem? (i := 755) (by decide +kernel)) rfl
theorem q_756 : (.fieldLink RX7 112 "HutBookingsModel" "place" "I" : Cond) ∈ TB := tb_in (List.mem_of_getElem? (i := 756) (by decide +kernel)) rfl
theorem q_757 : (.fieldLink RX7 25 "HutBookingsModel" "kept" "I" : Cond) ∈ TB := tb_in (List.mem_of_getElem? (i := 757) (by decide +kernel)) rfl
theorem q_758 : (.fieldLink RX7 115 "HutBookingsModel" "length" "I" : Cond) ∈ TB := tb_in (List.mem_of_getElem? (i := 758) (by decide +kernel)) rfl
theorem q_759 : (.fieldLink RX7 149 "HutBookingsModel" "isFilled" "Z" : Cond) ∈ TB := tb_in (List.mem_of_getElem? (i := 759) (by decide +kernel)) rfl
theorem q_779 : (.methodLink RL 17 yX7_book : Cond) ∈ TB := tb_in (List.mem_of_getElem? (i := 779) (by decide +kernel)) rfl
theorem q_780 : (.instanceMethod yX7_book : Cond) ∈ TB := tb_in (List.mem_of_getElem? (i := 780) (by decide +kernel)) rfl
theorem q_781 : (.selects RX7 yX7_book yX7_book : Cond) ∈ TB := tb_in (List.mem_of_getElem? (i := 781) (by decide +kernel)) rfl
theorem q_782 : (.code yX7_book cX7_book 5 (Option.some Jvm.ClassFile.FieldType.int) : Cond) ∈ TB := tb_in (List.mem_of_getElem? (i := 782) (by decide +kernel)) rfl
theorem q_783 : (.methodLink RX7 102 yX7_tryToBook : Cond) ∈ TB := tb_in (List.mem_of_getElem? (i := 783) (by decide +kernel)) rfl
theorem q_785 : (.instanceMethod yX7_tryToBook : Cond) ∈ TB := tb_in (List.mem_of_getElem? (i := 785) (by decide +kernel)) rfl
theorem q_786 : (.code yX7_tryToBook cX7_tryToBook 4 (Option.some Jvm.ClassFile.FieldType.int) : Cond) ∈ TB := tb_in (List.mem_of_getElem? (i := 786) (by decide +kernel)) rfl
theorem q_787 : (.methodLink RX7 33 yX7_in : Cond) ∈ TB := tb_in (List.mem_of_getElem? (i := 787) (by decide +kernel)) rfl
theorem q_788 : (.static yX7_in : Cond) ∈ TB := tb_in (List.mem_of_getElem? (i := 788) (by decide +kernel)) rfl
theorem q_789 : (.code yX7_in cX7_in 3 (Option.some Jvm.ClassFile.FieldType.boolean) : Cond) ∈ TB := tb_in (List.mem_of_getElem? (i := 789) (by decide +kernel)) rfl
theorem q_790 : (.constant RX7 95 (-1000002) : Cond) ∈ TB := tb_in (List.mem_of_getElem? (i := 790) (by decide +kernel)) rfl
theorem q_791 : (.methodLink RX7 96 yX7_fits : Cond) ∈ TB := tb_in (List.mem_of_getElem? (i := 791) (by decide +kernel)) rfl
theorem q_793 : (.instanceMethod yX7_fits : Cond) ∈ TB := tb_in (List.mem_of_getElem? (i := 793) (by decide +kernel)) rfl
theorem q_794 : (.code yX7_fits cX7_fits 5 (Option.some Jvm.ClassFile.FieldType.boolean) : Cond) ∈ TB := tb_in (List.mem_of_getElem? (i := 794) (by decide +kernel)) rfl
theorem q_795 : (.methodLink RX7 48 yX7_taken : Cond) ∈ TB := tb_in (List.mem_of_getElem? (i := 795) (by decide +kernel)) rfl
theorem q_797 : (.instanceMethod yX7_taken : Cond) ∈ TB := tb_in (List.mem_of_getElem? (i := 797) (by decide +kernel)) rfl
theorem q_798 : (.code yX7_taken cX7_taken 5 (Option.some Jvm.ClassFile.FieldType.int) : Cond) ∈ TB := tb_in (List.mem_of_getElem? (i := 798) (by decide +kernel)) rfl
theorem q_799 : (.methodLink RX7 29 yX7_of : Cond) ∈ TB := tb_in (List.mem_of_getElem? (i := 799) (by decide +kernel)) rfl
theorem q_801 : (.instanceMethod yX7_of : Cond) ∈ TB := tb_in (List.mem_of_getElem? (i := 801) (by decide +kernel)) rfl
theorem q_802 : (.code yX7_of cX7_of 3 (Option.some Jvm.ClassFile.FieldType.int) : Cond) ∈ TB := tb_in (List.mem_of_getElem? (i := 802) (by decide +kernel)) rfl
theorem q_803 : (.methodLink RX7 45 yX7_end : Cond) ∈ TB := tb_in (List.mem_of_getElem? (i := 803) (by decide +kernel)) rfl
theorem q_805 : (.instanceMethod yX7_end : Cond) ∈ TB := tb_in (List.mem_of_getElem? (i := 805) (by decide +kernel)) rfl
theorem q_806 : (.code yX7_end cX7_end 2 (Option.some Jvm.ClassFile.FieldType.int) : Cond) ∈ TB := tb_in (List.mem_of_getElem? (i := 806) (by decide +kernel)) rfl
theorem q_807 : (.constant RX7 99 (-1000004) : Cond) ∈ TB := tb_in (List.mem_of_getElem? (i := 807) (by decide +kernel)) rfl
theorem q_808 : (.constant RX7 100 (-1000003) : Cond) ∈ TB := tb_in (List.mem_of_getElem? (i := 808) (by decide +kernel)) rfl
theorem q_809 : (.methodLink RX7 106 yX7_record : Cond) ∈ TB := tb_in (List.mem_of_getElem? (i := 809) (by decide +kernel)) rfl
theorem q_811 : (.instanceMethod yX7_record : Cond) ∈ TB := tb_in (List.mem_of_getElem? (i := 811) (by decide +kernel)) rfl
theorem q_812 : (.code yX7_record cX7_record 2 (Option.none : Option Jvm.ClassFile.FieldType) : Cond) ∈ TB := tb_in (List.mem_of_getElem? (i := 812) (by decide +kernel)) rfl
theorem q_813 : (.methodLink RX7 109 yX7_addBooking : Cond) ∈ TB := tb_in (List.mem_of_getElem? (i := 813) (by decide +kernel)) rfl
theorem q_815 : (.instanceMethod yX7_addBooking : Cond) ∈ TB := tb_in (List.mem_of_getElem? (i := 815) (by decide +kernel)) rfl
theorem q_816 : (.code yX7_addBooking cX7_addBooking 5 (Option.some Jvm.ClassFile.FieldType.int) : Cond) ∈ TB := tb_in (List.mem_of_getElem? (i := 816) (by decide +kernel)) rfl
theorem q_817 : (.methodLink RX7 51 yX7_put : Cond) ∈ TB := tb_in (List.mem_of_getElem? (i := 817) (by decide +kernel)) rfl
theorem q_819 : (.instanceMethod yX7_put : Cond) ∈ TB := tb_in (List.mem_of_getElem? (i := 819) (by decide +kernel)) rfl
theorem q_820 : (.code yX7_put cX7_put 4 (Option.none : Option Jvm.ClassFile.FieldType) : Cond) ∈ TB := tb_in (List.mem_of_getElem? (i := 820) (by decide +kernel)) rfl
theorem q_821 : (.constant RX7 101 (-1000005) : Cond) ∈ TB := tb_in (List.mem_of_getElem? (i := 821) (by decide +kernel)) rfl
theorem q_822 : (.methodLink RL 22 yX7_bookAll : Cond) ∈ TB := tb_in (List.mem_of_getElem? (i := 822) (by decide +kernel)) rfl
theorem q_823 : (.instanceMethod yX7_bookAll : Cond) ∈ TB := tb_in (List.mem_of_getElem? (i := 823) (by decide +kernel)) rfl
theorem q_824 : (.selects RX7 yX7_bookAll yX7_bookAll : Cond) ∈ TB := tb_in (List.mem_of_getElem? (i := 824) (by decide +kernel)) rfl
theorem q_825 : (.code yX7_bookAll cX7_bookAll 5 (Option.some Jvm.ClassFile.FieldType.int) : Cond) ∈ TB := tb_in (List.mem_of_getElem? (i := 825) (by decide +kernel)) rfl
theorem q_826 : (.methodLink RX7 124 yX7_readAll : Cond) ∈ TB := tb_in (List.mem_of_getElem? (i := 826) (by decide +kernel)) rfl
theorem q_828 : (.instanceMethod yX7_readAll : Cond) ∈ TB := tb_in (List.mem_of_getElem? (i := 828) (by decide +kernel)) rfl
theorem q_829 : (.code yX7_readAll cX7_readAll 4 (Option.some Jvm.ClassFile.FieldType.int) : Cond) ∈ TB := tb_in (List.mem_of_getElem? (i := 829) (by decide +kernel)) rfl
theorem q_830 : (.methodLink RX7 121 yX7_readBooking : Cond) ∈ TB := tb_in (List.mem_of_getElem? (i := 830) (by decide +kernel)) rfl
theorem q_832 : (.instanceMethod yX7_readBooking : Cond) ∈ TB := tb_in (List.mem_of_getElem? (i := 832) (by decide +kernel)) rfl
theorem q_833 : (.code yX7_readBooking cX7_readBooking 4 (Option.some Jvm.ClassFile.FieldType.int) : Cond) ∈ TB := tb_in (List.mem_of_getElem? (i := 833) (by decide +kernel)) rfl
theorem q_834 : (.methodLink RX7 118 yX7_isNext : Cond) ∈ TB := tb_in (List.mem_of_getElem? (i := 834) (by decide +kernel)) rfl
theorem q_836 : (.instanceMethod yX7_isNext : Cond) ∈ TB := tb_in (List.mem_of_getElem? (i := 836) (by decide +kernel)) rfl
theorem q_837 : (.code yX7_isNext cX7_isNext 3 (Option.some Jvm.ClassFile.FieldType.boolean) : Cond) ∈ TB := tb_in (List.mem_of_getElem? (i := 837) (by decide +kernel)) rfl
theorem q_838 : (.methodLink RX7 127 yX7_lay : Cond) ∈ TB := tb_in (List.mem_of_getElem? (i := 838) (by decide +kernel)) rfl
theorem q_840 : (.instanceMethod yX7_lay : Cond) ∈ TB := tb_in (List.mem_of_getElem? (i := 840) (by decide +kernel)) rfl
theorem q_841 : (.code yX7_lay cX7_lay 2 (Option.none : Option Jvm.ClassFile.FieldType) : Cond) ∈ TB := tb_in (List.mem_of_getElem? (i := 841) (by decide +kernel)) rfl
theorem q_842 : (.methodLink RX7 130 yX7_takeBack : Cond) ∈ TB := tb_in (List.mem_of_getElem? (i := 842) (by decide +kernel)) rfl
theorem q_844 : (.instanceMethod yX7_takeBack : Cond) ∈ TB := tb_in (List.mem_of_getElem? (i := 844) (by decide +kernel)) rfl
theorem q_845 : (.code yX7_takeBack cX7_takeBack 2 (Option.none : Option Jvm.ClassFile.FieldType) : Cond) ∈ TB := tb_in (List.mem_of_getElem? (i := 845) (by decide +kernel)) rfl
theorem q_846 : (.methodLink RL 115 yX7_refund : Cond) ∈ TB := tb_in (List.mem_of_getElem? (i := 846) (by decide +kernel)) rfl
theorem q_847 : (.instanceMethod yX7_refund : Cond) ∈ TB := tb_in (List.mem_of_getElem? (i := 847) (by decide +kernel)) rfl
theorem q_848 : (.selects RX7 yX7_refund yX7_refund : Cond) ∈ TB := tb_in (List.mem_of_getElem? (i := 848) (by decide +kernel)) rfl
theorem q_849 : (.code yX7_refund cX7_refund 2 (Option.some Jvm.ClassFile.FieldType.int) : Cond) ∈ TB := tb_in (List.mem_of_getElem? (i := 849) (by decide +kernel)) rfl
theorem q_850 : (.methodLink RX7 133 yX7_isBooking : Cond) ∈ TB := tb_in (List.mem_of_getElem? (i := 850) (by decide +kernel)) rfl
theorem q_852 : (.instanceMethod yX7_isBooking : Cond) ∈ TB := tb_in (List.mem_of_getElem? (i := 852) (by decide +kernel)) rfl
theorem q_853 : (.code yX7_isBooking cX7_isBooking 2 (Option.some Jvm.ClassFile.FieldType.boolean) : Cond) ∈ TB := tb_in (List.mem_of_getElem? (i := 853) (by decide +kernel)) rfl
theorem q_854 : (.constant RX7 136 (-1000001) : Cond) ∈ TB := tb_in (List.mem_of_getElem? (i := 854) (by decide +kernel)) rfl
theorem q_855 : (.methodLink RX7 41 yX7_is : Cond) ∈ TB := tb_in (List.mem_of_getElem? (i := 855) (by decide +kernel)) rfl
theorem q_857 : (.instanceMethod yX7_is : Cond) ∈ TB := tb_in (List.mem_of_getElem? (i := 857) (by decide +kernel)) rfl
theorem q_858 : (.code yX7_is cX7_is 3 (Option.some Jvm.ClassFile.FieldType.boolean) : Cond) ∈ TB := tb_in (List.mem_of_getElem? (i := 858) (by decide +kernel)) rfl
theorem q_859 : (.methodLink RX7 137 yX7_refundOf : Cond) ∈ TB := tb_in (List.mem_of_getElem? (i := 859) (by decide +kernel)) rfl
theorem q_861 : (.instanceMethod yX7_refundOf : Cond) ∈ TB := tb_in (List.mem_of_getElem? (i := 861) (by decide +kernel)) rfl
theorem q_862 : (.code yX7_refundOf cX7_refundOf 4 (Option.some Jvm.ClassFile.FieldType.int) : Cond) ∈ TB := tb_in (List.mem_of_getElem? (i := 862) (by decide +kernel)) rfl
theorem q_863 : (.methodLink RX7 77 yX7_isUpOpen : Cond) ∈ TB := tb_in (List.mem_of_getElem? (i := 863) (by decide +kernel)) rfl
theorem q_865 : (.instanceMethod yX7_isUpOpen : Cond) ∈ TB := tb_in (List.mem_of_getElem? (i := 865) (by decide +kernel)) rfl
theorem q_866 : (.code yX7_isUpOpen cX7_isUpOpen 2 (Option.some Jvm.ClassFile.FieldType.boolean) : Cond) ∈ TB := tb_in (List.mem_of_getElem? (i := 866) (by decide +kernel)) rfl
theorem q_867 : (.methodLink RX7 37 yX7_weatherOf : Cond) ∈ TB := tb_in (List.mem_of_getElem? (i := 867) (by decide +kernel)) rfl
theorem q_869 : (.instanceMethod yX7_weatherOf : Cond) ∈ TB := tb_in (List.mem_of_getElem? (i := 869) (by decide +kernel)) rfl
theorem q_870 : (.code yX7_weatherOf cX7_weatherOf 2 (Option.some Jvm.ClassFile.FieldType.int) : Cond) ∈ TB := tb_in (List.mem_of_getElem? (i := 870) (by decide +kernel)) rfl
theorem q_871 : (.methodLink RL 27 yX7_cancel : Cond) ∈ TB := tb_in (List.mem_of_getElem? (i := 871) (by decide +kernel)) rfl
theorem q_872 : (.instanceMethod yX7_cancel : Cond) ∈ TB := tb_in (List.mem_of_getElem? (i := 872) (by decide +kernel)) rfl
theorem q_873 : (.selects RX7 yX7_cancel yX7_cancel : Cond) ∈ TB := tb_in (List.mem_of_getElem? (i := 873) (by decide +kernel)) rfl
theorem q_874 : (.code yX7_cancel cX7_cancel 3 (Option.some Jvm.ClassFile.FieldType.int) : Cond) ∈ TB := tb_in (List.mem_of_getElem? (i := 874) (by decide +kernel)) rfl
theorem q_875 : (.methodLink RX7 140 yX7_refund : Cond) ∈ TB := tb_in (List.mem_of_getElem? (i := 875) (by decide +kernel)) rfl
theorem q_876 : (.methodLink RL 32 yX7_extend : Cond) ∈ TB := tb_in (List.mem_of_getElem? (i := 876) (by decide +kernel)) rfl
theorem q_877 : (.instanceMethod yX7_extend : Cond) ∈ TB := tb_in (List.mem_of_getElem? (i := 877) (by decide +kernel)) rfl
theorem q_878 : (.selects RX7 yX7_extend yX7_extend : Cond) ∈ TB := tb_in (List.mem_of_getElem? (i := 878) (by decide +kernel)) rfl
theorem q_879 : (.code yX7_extend cX7_extend 4 (Option.some Jvm.ClassFile.FieldType.int) : Cond) ∈ TB := tb_in (List.mem_of_getElem? (i := 879) (by decide +kernel)) rfl
theorem q_880 : (.methodLink RL 36 yX7_weather : Cond) ∈ TB := tb_in (List.mem_of_getElem? (i := 880) (by decide +kernel)) rfl
theorem q_881 : (.instanceMethod yX7_weather : Cond) ∈ TB := tb_in (List.mem_of_getElem? (i := 881) (by decide +kernel)) rfl
theorem q_882 : (.selects RX7 yX7_weather yX7_weather : Cond) ∈ TB := tb_in (List.mem_of_getElem? (i := 882) (by decide +kernel)) rfl
theorem q_883 : (.code yX7_weather cX7_weather 6 (Option.some Jvm.ClassFile.FieldType.int) : Cond) ∈ TB := tb_in (List.mem_of_getElem? (i := 883) (by decide +kernel)) rfl
theorem q_884 : (.methodLink RL 40 yX7_order : Cond) ∈ TB := tb_in (List.mem_of_getElem? (i := 884) (by decide +kernel)) rfl
theorem q_885 : (.instanceMethod yX7_order : Cond) ∈ TB := tb_in (List.mem_of_getElem? (i := 885) (by decide +kernel)) rfl
theorem q_886 : (.selects RX7 yX7_order yX7_order : Cond) ∈ TB := tb_in (List.mem_of_getElem? (i := 886) (by decide +kernel)) rfl
theorem q_887 : (.code yX7_order cX7_order 3 (Option.some Jvm.ClassFile.FieldType.int) : Cond) ∈ TB := tb_in (List.mem_of_getElem? (i := 887) (by decide +kernel)) rfl
theorem q_888 : (.methodLink RL 44 yX7_recall : Cond) ∈ TB := tb_in (List.mem_of_getElem? (i := 888) (by decide +kernel)) rfl
theorem q_889 : (.instanceMethod yX7_recall : Cond) ∈ TB := tb_in (List.mem_of_getElem? (i := 889) (by decide +kernel)) rfl
theorem q_890 : (.selects RX7 yX7_recall yX7_recall : Cond) ∈ TB := tb_in (List.mem_of_getElem? (i := 890) (by decide +kernel)) rfl
theorem q_891 : (.code yX7_recall cX7_recall 2 (Option.some Jvm.ClassFile.FieldType.int) : Cond) ∈ TB := tb_in (List.mem_of_getElem? (i := 891) (by decide +kernel)) rfl
theorem q_892 : (.methodLink RX7 63 yX7_dropOrder : Cond) ∈ TB := tb_in (List.mem_of_getElem? (i := 892) (by decide +kernel)) rfl
theorem q_894 : (.instanceMethod yX7_dropOrder : Cond) ∈ TB := tb_in (List.mem_of_getElem? (i := 894) (by decide +kernel)) rfl
theorem q_895 : (.code yX7_dropOrder cX7_dropOrder 3 (Option.none : Option Jvm.ClassFile.FieldType) : Cond) ∈ TB := tb_in (List.mem_of_getElem? (i := 895) (by decide +kernel)) rfl
theorem q_896 : (.methodLink RL 49 yX7_flight : Cond) ∈ TB := tb_in (List.mem_of_getElem? (i := 896) (by decide +kernel)) rfl
theorem q_897 : (.instanceMethod yX7_flight : Cond) ∈ TB := tb_in (List.mem_of_getElem? (i := 897) (by decide +kernel)) rfl
theorem q_898 : (.selects RX7 yX7_flight yX7_flight : Cond) ∈ TB := tb_in (List.mem_of_getElem? (i := 898) (by decide +kernel)) rfl
theorem q_899 : (.code yX7_flight cX7_flight 2 (Option.some Jvm.ClassFile.FieldType.int) : Cond) ∈ TB := tb_in (List.mem_of_getElem? (i := 899) (by decide +kernel)) rfl
theorem q_900 : (.methodLink RL 53 yX7_pass : Cond) ∈ TB := tb_in (List.mem_of_getElem? (i := 900) (by decide +kernel)) rfl
theorem q_901 : (.instanceMethod yX7_pass : Cond) ∈ TB := tb_in (List.mem_of_getElem? (i := 901) (by decide +kernel)) rfl
theorem q_902 : (.selects RX7 yX7_pass yX7_pass : Cond) ∈ TB := tb_in (List.mem_of_getElem? (i := 902) (by decide +kernel)) rfl
theorem q_903 : (.code yX7_pass cX7_pass 3 (Option.some Jvm.ClassFile.FieldType.int) : Cond) ∈ TB := tb_in (List.mem_of_getElem? (i := 903) (by decide +kernel)) rfl
theorem q_904 : (.methodLink RX7 143 yX7_passDay : Cond) ∈ TB := tb_in (List.mem_of_getElem? (i := 904) (by decide +kernel)) rfl
theorem q_906 : (.instanceMethod yX7_passDay : Cond) ∈ TB := tb_in (List.mem_of_getElem? (i := 906) (by decide +kernel)) rfl
theorem q_907 : (.code yX7_passDay cX7_passDay 3 (Option.none : Option Jvm.ClassFile.FieldType) : Cond) ∈ TB := tb_in (List.mem_of_getElem? (i := 907) (by decide +kernel)) rfl
theorem q_908 : (.methodLink RX7 73 yX7_isDownOpen : Cond) ∈ TB := tb_in (List.mem_of_getElem? (i := 908) (by decide +kernel)) rfl
theorem q_910 : (.instanceMethod yX7_isDownOpen : Cond) ∈ TB := tb_in (List.mem_of_getElem? (i := 910) (by decide +kernel)) rfl
theorem q_911 : (.code yX7_isDownOpen cX7_isDownOpen 2 (Option.some Jvm.ClassFile.FieldType.boolean) : Cond) ∈ TB := tb_in (List.mem_of_getElem? (i := 911) (by decide +kernel)) rfl
theorem q_912 : (.methodLink RX7 70 yX7_leave : Cond) ∈ TB := tb_in (List.mem_of_getElem? (i := 912) (by decide +kernel)) rfl
theorem q_914 : (.instanceMethod yX7_leave : Cond) ∈ TB := tb_in (List.mem_of_getElem? (i := 914) (by decide +kernel)) rfl
theorem q_915 : (.code yX7_leave cX7_leave 3 (Option.none : Option Jvm.ClassFile.FieldType) : Cond) ∈ TB := tb_in (List.mem_of_getElem? (i := 915) (by decide +kernel)) rfl
theorem q_916 : (.methodLink RX7 59 yX7_turnAway : Cond) ∈ TB := tb_in (List.mem_of_getElem? (i := 916) (by decide +kernel)) rfl
theorem q_918 : (.instanceMethod yX7_turnAway : Cond) ∈ TB := tb_in (List.mem_of_getElem? (i := 918) (by decide +kernel)) rfl
theorem q_919 : (.code yX7_turnAway cX7_turnAway 2 (Option.none : Option Jvm.ClassFile.FieldType) : Cond) ∈ TB := tb_in (List.mem_of_getElem? (i := 919) (by decide +kernel)) rfl
theorem q_920 : (.methodLink RX7 80 yX7_come : Cond) ∈ TB := tb_in (List.mem_of_getElem? (i := 920) (by decide +kernel)) rfl
theorem q_922 : (.instanceMethod yX7_come : Cond) ∈ TB := tb_in (List.mem_of_getElem? (i := 922) (by decide +kernel)) rfl
theorem q_923 : (.code yX7_come cX7_come 3 (Option.none : Option Jvm.ClassFile.FieldType) : Cond) ∈ TB := tb_in (List.mem_of_getElem? (i := 923) (by decide +kernel)) rfl
theorem q_924 : (.methodLink RX7 55 yX7_personsThere : Cond) ∈ TB := tb_in (List.mem_of_getElem? (i := 924) (by decide +kernel)) rfl
theorem q_926 : (.instanceMethod yX7_personsThere : Cond) ∈ TB := tb_in (List.mem_of_getElem? (i := 926) (by decide +kernel)) rfl
theorem q_927 : (.code yX7_personsThere cX7_personsThere 3 (Option.some Jvm.ClassFile.FieldType.int) : Cond) ∈ TB := tb_in (List.mem_of_getElem? (i := 927) (by decide +kernel)) rfl
theorem q_928 : (.methodLink RX7 66 yX7_bring : Cond) ∈ TB := tb_in (List.mem_of_getElem? (i := 928) (by decide +kernel)) rfl
theorem q_930 : (.instanceMethod yX7_bring : Cond) ∈ TB := tb_in (List.mem_of_getElem? (i := 930) (by decide +kernel)) rfl
theorem q_931 : (.code yX7_bring cX7_bring 5 (Option.none : Option Jvm.ClassFile.FieldType) : Cond) ∈ TB := tb_in (List.mem_of_getElem? (i := 931) (by decide +kernel)) rfl
theorem q_932 : (.methodLink RX7 83 yX7_isWindy : Cond) ∈ TB := tb_in (List.mem_of_getElem? (i := 932) (by decide +kernel)) rfl
theorem q_934 : (.instanceMethod yX7_isWindy : Cond) ∈ TB := tb_in (List.mem_of_getElem? (i := 934) (by decide +kernel)) rfl
theorem q_935 : (.code yX7_isWindy cX7_isWindy 2 (Option.some Jvm.ClassFile.FieldType.boolean) : Cond) ∈ TB := tb_in (List.mem_of_getElem? (i := 935) (by decide +kernel)) rfl
theorem q_936 : (.methodLink RX7 86 yX7_fly : Cond) ∈ TB := tb_in (List.mem_of_getElem? (i := 936) (by decide +kernel)) rfl
theorem q_938 : (.instanceMethod yX7_fly : Cond) ∈ TB := tb_in (List.mem_of_getElem? (i := 938) (by decide +kernel)) rfl
theorem q_939 : (.code yX7_fly cX7_fly 4 (Option.none : Option Jvm.ClassFile.FieldType) : Cond) ∈ TB := tb_in (List.mem_of_getElem? (i := 939) (by decide +kernel)) rfl
theorem q_940 : (.methodLink RX7 89 yX7_eat : Cond) ∈ TB := tb_in (List.mem_of_getElem? (i := 940) (by decide +kernel)) rfl
theorem q_942 : (.instanceMethod yX7_eat : Cond) ∈ TB := tb_in (List.mem_of_getElem? (i := 942) (by decide +kernel)) rfl
theorem q_943 : (.code yX7_eat cX7_eat 4 (Option.none : Option Jvm.ClassFile.FieldType) : Cond) ∈ TB := tb_in (List.mem_of_getElem? (i := 943) (by decide +kernel)) rfl
theorem q_944 : (.methodLink RX7 92 yX7_sleep : Cond) ∈ TB := tb_in (List.mem_of_getElem? (i := 944) (by decide +kernel)) rfl
theorem q_946 : (.instanceMethod yX7_sleep : Cond) ∈ TB := tb_in (List.mem_of_getElem? (i := 946) (by decide +kernel)) rfl
theorem q_947 : (.code yX7_sleep cX7_sleep 3 (Option.none : Option Jvm.ClassFile.FieldType) : Cond) ∈ TB := tb_in (List.mem_of_getElem? (i := 947) (by decide +kernel)) rfl
theorem q_948 : (.methodLink RL 57 yX7_set : Cond) ∈ TB := tb_in (List.mem_of_getElem? (i := 948) (by decide +kernel)) rfl
theorem q_949 : (.instanceMethod yX7_set : Cond) ∈ TB := tb_in (List.mem_of_getElem? (i := 949) (by decide +kernel)) rfl
theorem q_950 : (.selects RX7 yX7_set yX7_set : Cond) ∈ TB := tb_in (List.mem_of_getElem? (i := 950) (by decide +kernel)) rfl
theorem q_951 : (.code yX7_set cX7_set 5 (Option.some Jvm.ClassFile.FieldType.int) : Cond) ∈ TB := tb_in (List.mem_of_getElem? (i := 951) (by decide +kernel)) rfl
theorem q_952 : (.methodLink RX7 146 yX7_most : Cond) ∈ TB := tb_in (List.mem_of_getElem? (i := 952) (by decide +kernel)) rfl
theorem q_953 : (.static yX7_most : Cond) ∈ TB := tb_in (List.mem_of_getElem? (i := 953) (by decide +kernel)) rfl
theorem q_954 : (.code yX7_most cX7_most 1 (Option.some Jvm.ClassFile.FieldType.int) : Cond) ∈ TB := tb_in (List.mem_of_getElem? (i := 954) (by decide +kernel)) rfl
theorem q_955 : (.methodLink RL 62 yX7_type : Cond) ∈ TB := tb_in (List.mem_of_getElem? (i := 955) (by decide +kernel)) rfl
theorem q_956 : (.instanceMethod yX7_type : Cond) ∈ TB := tb_in (List.mem_of_getElem? (i := 956) (by decide +kernel)) rfl
theorem q_957 : (.selects RX7 yX7_type yX7_type : Cond) ∈ TB := tb_in (List.mem_of_getElem? (i := 957) (by decide +kernel)) rfl
theorem q_958 : (.code yX7_type cX7_type 2 (Option.some Jvm.ClassFile.FieldType.int) : Cond) ∈ TB := tb_in (List.mem_of_getElem? (i := 958) (by decide +kernel)) rfl
theorem q_959 : (.methodLink RL 66 yX7_clearText : Cond) ∈ TB := tb_in (List.mem_of_getElem? (i := 959) (by decide +kernel)) rfl
theorem q_960 : (.instanceMethod yX7_clearText : Cond) ∈ TB := tb_in (List.mem_of_getElem? (i := 960) (by decide +kernel)) rfl
theorem q_961 : (.selects RX7 yX7_clearText yX7_clearText : Cond) ∈ TB := tb_in (List.mem_of_getElem? (i := 961) (by decide +kernel)) rfl
theorem q_962 : (.code yX7_clearText cX7_clearText 2 (Option.some Jvm.ClassFile.FieldType.int) : Cond) ∈ TB := tb_in (List.mem_of_getElem? (i := 962) (by decide +kernel)) rfl
theorem q_963 : (.methodLink RL 70 yX7_fault : Cond) ∈ TB := tb_in (List.mem_of_getElem? (i := 963) (by decide +kernel)) rfl
theorem q_964 : (.instanceMethod yX7_fault : Cond) ∈ TB := tb_in (List.mem_of_getElem? (i := 964) (by decide +kernel)) rfl
theorem q_965 : (.selects RX7 yX7_fault yX7_fault : Cond) ∈ TB := tb_in (List.mem_of_getElem? (i := 965) (by decide +kernel)) rfl
theorem q_966 : (.code yX7_fault cX7_fault 2 (Option.some Jvm.ClassFile.FieldType.int) : Cond) ∈ TB := tb_in (List.mem_of_getElem? (i := 966) (by decide +kernel)) rfl
theorem q_967 : (.methodLink RL 74 yX7_undo : Cond) ∈ TB := tb_in (List.mem_of_getElem? (i := 967) (by decide +kernel)) rfl
theorem q_968 : (.instanceMethod yX7_undo : Cond) ∈ TB := tb_in (List.mem_of_getElem? (i := 968) (by decide +kernel)) rfl
theorem q_969 : (.selects RX7 yX7_undo yX7_undo : Cond) ∈ TB := tb_in (List.mem_of_getElem? (i := 969) (by decide +kernel)) rfl
theorem q_970 : (.code yX7_undo cX7_undo 2 (Option.some Jvm.ClassFile.FieldType.int) : Cond) ∈ TB := tb_in (List.mem_of_getElem? (i := 970) (by decide +kernel)) rfl
theorem q_971 : (.methodLink RL 78 yX7_keep : Cond) ∈ TB := tb_in (List.mem_of_getElem? (i := 971) (by decide +kernel)) rfl
theorem q_972 : (.instanceMethod yX7_keep : Cond) ∈ TB := tb_in (List.mem_of_getElem? (i := 972) (by decide +kernel)) rfl
theorem q_973 : (.selects RX7 yX7_keep yX7_keep : Cond) ∈ TB := tb_in (List.mem_of_getElem? (i := 973) (by decide +kernel)) rfl
theorem q_974 : (.code yX7_keep cX7_keep 2 (Option.some Jvm.ClassFile.FieldType.int) : Cond) ∈ TB := tb_in (List.mem_of_getElem? (i := 974) (by decide +kernel)) rfl
theorem q_975 : (.methodLink RL 82 yX7_restore : Cond) ∈ TB := tb_in (List.mem_of_getElem? (i := 975) (by decide +kernel)) rfl
theorem q_976 : (.instanceMethod yX7_restore : Cond) ∈ TB := tb_in (List.mem_of_getElem? (i := 976) (by decide +kernel)) rfl
theorem q_977 : (.selects RX7 yX7_restore yX7_restore : Cond) ∈ TB := tb_in (List.mem_of_getElem? (i := 977) (by decide +kernel)) rfl
theorem q_978 : (.code yX7_restore cX7_restore 2 (Option.some Jvm.ClassFile.FieldType.int) : Cond) ∈ TB := tb_in (List.mem_of_getElem? (i := 978) (by decide +kernel)) rfl
theorem q_979 : (.methodLink RL 86 yX7_booking : Cond) ∈ TB := tb_in (List.mem_of_getElem? (i := 979) (by decide +kernel)) rfl
theorem q_980 : (.instanceMethod yX7_booking : Cond) ∈ TB := tb_in (List.mem_of_getElem? (i := 980) (by decide +kernel)) rfl
theorem q_981 : (.selects RX7 yX7_booking yX7_booking : Cond) ∈ TB := tb_in (List.mem_of_getElem? (i := 981) (by decide +kernel)) rfl
theorem q_982 : (.code yX7_booking cX7_booking 3 (Option.some Jvm.ClassFile.FieldType.int) : Cond) ∈ TB := tb_in (List.mem_of_getElem? (i := 982) (by decide +kernel)) rfl
theorem q_983 : (.methodLink RL 90 yX7_day : Cond) ∈ TB := tb_in (List.mem_of_getElem? (i := 983) (by decide +kernel)) rfl
theorem q_984 : (.instanceMethod yX7_day : Cond) ∈ TB := tb_in (List.mem_of_getElem? (i := 984) (by decide +kernel)) rfl
theorem q_985 : (.selects RX7 yX7_day yX7_day : Cond) ∈ TB := tb_in (List.mem_of_getElem? (i := 985) (by decide +kernel)) rfl
theorem q_986 : (.code yX7_day cX7_day 6 (Option.some Jvm.ClassFile.FieldType.int) : Cond) ∈ TB := tb_in (List.mem_of_getElem? (i := 986) (by decide +kernel)) rfl
theorem q_987 : (.methodLink RL 94 yX7_fresh : Cond) ∈ TB := tb_in (List.mem_of_getElem? (i := 987) (by decide +kernel)) rfl
theorem q_988 : (.instanceMethod yX7_fresh : Cond) ∈ TB := tb_in (List.mem_of_getElem? (i := 988) (by decide +kernel)) rfl
theorem q_989 : (.selects RX7 yX7_fresh yX7_fresh : Cond) ∈ TB := tb_in (List.mem_of_getElem? (i := 989) (by decide +kernel)) rfl
theorem q_990 : (.code yX7_fresh cX7_fresh 5 (Option.some Jvm.ClassFile.FieldType.int) : Cond) ∈ TB := tb_in (List.mem_of_getElem? (i := 990) (by decide +kernel)) rfl
theorem q_991 : (.methodLink RL 98 yX7_waiting : Cond) ∈ TB := tb_in (List.mem_of_getElem? (i := 991) (by decide +kernel)) rfl
theorem q_992 : (.instanceMethod yX7_waiting : Cond) ∈ TB := tb_in (List.mem_of_getElem? (i := 992) (by decide +kernel)) rfl
theorem q_993 : (.selects RX7 yX7_waiting yX7_waiting : Cond) ∈ TB := tb_in (List.mem_of_getElem? (i := 993) (by decide +kernel)) rfl
theorem q_994 : (.code yX7_waiting cX7_waiting 3 (Option.some Jvm.ClassFile.FieldType.int) : Cond) ∈ TB := tb_in (List.mem_of_getElem? (i := 994) (by decide +kernel)) rfl
theorem q_995 : (.methodLink RL 102 yX7_count : Cond) ∈ TB := tb_in (List.mem_of_getElem? (i := 995) (by decide +kernel)) rfl
theorem q_996 : (.instanceMethod yX7_count : Cond) ∈ TB := tb_in (List.mem_of_getElem? (i := 996) (by decide +kernel)) rfl
theorem q_997 : (.selects RX7 yX7_count yX7_count : Cond) ∈ TB := tb_in (List.mem_of_getElem? (i := 997) (by decide +kernel)) rfl
theorem q_998 : (.code yX7_count cX7_count 3 (Option.some Jvm.ClassFile.FieldType.int) : Cond) ∈ TB := tb_in (List.mem_of_getElem? (i := 998) (by decide +kernel)) rfl
theorem q_999 : (.methodLink RX7 153 yX7_inState : Cond) ∈ TB := tb_in (List.mem_of_getElem? (i := 999) (by decide +kernel)) rfl
theorem q_1001 : (.instanceMethod yX7_inState : Cond) ∈ TB := tb_in (List.mem_of_getElem? (i := 1001) (by decide +kernel)) rfl
theorem q_1002 : (.code yX7_inState cX7_inState 4 (Option.some Jvm.ClassFile.FieldType.int) : Cond) ∈ TB := tb_in (List.mem_of_getElem? (i := 1002) (by decide +kernel)) rfl
theorem q_1003 : (.methodLink RX7 156 yX7_freshPortions : Cond) ∈ TB := tb_in (List.mem_of_getElem? (i := 1003) (by decide +kernel)) rfl
theorem q_1005 : (.instanceMethod yX7_freshPortions : Cond) ∈ TB := tb_in (List.mem_of_getElem? (i := 1005) (by decide +kernel)) rfl
theorem q_1006 : (.code yX7_freshPortions cX7_freshPortions 3 (Option.some Jvm.ClassFile.FieldType.int) : Cond) ∈ TB := tb_in (List.mem_of_getElem? (i := 1006) (by decide +kernel)) rfl
theorem q_1007 : (.methodLink RX7 159 yX7_waitingPortions : Cond) ∈ TB := tb_in (List.mem_of_getElem? (i := 1007) (by decide +kernel)) rfl
theorem q_1009 : (.instanceMethod yX7_waitingPortions : Cond) ∈ TB := tb_in (List.mem_of_getElem? (i := 1009) (by decide +kernel)) rfl
theorem q_1010 : (.code yX7_waitingPortions cX7_waitingPortions 3 (Option.some Jvm.ClassFile.FieldType.int) : Cond) ∈ TB := tb_in (List.mem_of_getElem? (i := 1010) (by decide +kernel)) rfl
theorem q_1011 : (.methodLink RL 106 yX7_coins : Cond) ∈ TB := tb_in (List.mem_of_getElem? (i := 1011) (by decide +kernel)) rfl
theorem q_1012 : (.instanceMethod yX7_coins : Cond) ∈ TB := tb_in (List.mem_of_getElem? (i := 1012) (by decide +kernel)) rfl
theorem q_1013 : (.selects RX7 yX7_coins yX7_coins : Cond) ∈ TB := tb_in (List.mem_of_getElem? (i := 1013) (by decide +kernel)) rfl
theorem q_1014 : (.code yX7_coins cX7_coins 4 (Option.some Jvm.ClassFile.FieldType.int) : Cond) ∈ TB := tb_in (List.mem_of_getElem? (i := 1014) (by decide +kernel)) rfl
theorem q_1015 : (.methodLink RL 111 yX7_use : Cond) ∈ TB := tb_in (List.mem_of_getElem? (i := 1015) (by decide +kernel)) rfl
theorem q_1016 : (.instanceMethod yX7_use : Cond) ∈ TB := tb_in (List.mem_of_getElem? (i := 1016) (by decide +kernel)) rfl
theorem q_1017 : (.selects RX7 yX7_use yX7_use : Cond) ∈ TB := tb_in (List.mem_of_getElem? (i := 1017) (by decide +kernel)) rfl
theorem q_1018 : (.code yX7_use cX7_use 5 (Option.some Jvm.ClassFile.FieldType.double) : Cond) ∈ TB := tb_in (List.mem_of_getElem? (i := 1018) (by decide +kernel)) rfl
theorem q_1020 : (.methodLink RL 119 yX7_firstFree : Cond) ∈ TB := tb_in (List.mem_of_getElem? (i := 1020) (by decide +kernel)) rfl
theorem q_1021 : (.instanceMethod yX7_firstFree : Cond) ∈ TB := tb_in (List.mem_of_getElem? (i := 1021) (by decide +kernel)) rfl
theorem q_1022 : (.selects RX7 yX7_firstFree yX7_firstFree : Cond) ∈ TB := tb_in (List.mem_of_getElem? (i := 1022) (by decide +kernel)) rfl
theorem q_1023 : (.code yX7_firstFree cX7_firstFree 4 (Option.some Jvm.ClassFile.FieldType.int) : Cond) ∈ TB := tb_in (List.mem_of_getElem? (i := 1023) (by decide +kernel)) rfl
theorem q_1024 : (.methodLink RL 123 yX7_hungryIn : Cond) ∈ TB := tb_in (List.mem_of_getElem? (i := 1024) (by decide +kernel)) rfl
theorem q_1025 : (.instanceMethod yX7_hungryIn : Cond) ∈ TB := tb_in (List.mem_of_getElem? (i := 1025) (by decide +kernel)) rfl
theorem q_1026 : (.selects RX7 yX7_hungryIn yX7_hungryIn : Cond) ∈ TB := tb_in (List.mem_of_getElem? (i := 1026) (by decide +kernel)) rfl
theorem q_1027 : (.code yX7_hungryIn cX7_hungryIn 4 (Option.some Jvm.ClassFile.FieldType.int) : Cond) ∈ TB := tb_in (List.mem_of_getElem? (i := 1027) (by decide +kernel)) rfl
theorem q_1028 : (.methodLink RL 127 yX7_wanting : Cond) ∈ TB := tb_in (List.mem_of_getElem? (i := 1028) (by decide +kernel)) rfl
theorem q_1029 : (.instanceMethod yX7_wanting : Cond) ∈ TB := tb_in (List.mem_of_getElem? (i := 1029) (by decide +kernel)) rfl
theorem q_1030 : (.selects RX7 yX7_wanting yX7_wanting : Cond) ∈ TB := tb_in (List.mem_of_getElem? (i := 1030) (by decide +kernel)) rfl
theorem q_1031 : (.code yX7_wanting cX7_wanting 2 (Option.some Jvm.ClassFile.FieldType.int) : Cond) ∈ TB := tb_in (List.mem_of_getElem? (i := 1031) (by decide +kernel)) rfl
theorem q_1032 : (.methodLink RX7 164 yX7_grows : Cond) ∈ TB := tb_in (List.mem_of_getElem? (i := 1032) (by decide +kernel)) rfl
theorem q_1034 : (.instanceMethod yX7_grows : Cond) ∈ TB := tb_in (List.mem_of_getElem? (i := 1034) (by decide +kernel)) rfl
theorem q_1035 : (.code yX7_grows cX7_grows 5 (Option.some Jvm.ClassFile.FieldType.int) : Cond) ∈ TB := tb_in (List.mem_of_getElem? (i := 1035) (by decide +kernel)) rfl
theorem q_1036 : (.methodLink RL 131 yX7_goneIn : Cond) ∈ TB := tb_in (List.mem_of_getElem? (i := 1036) (by decide +kernel)) rfl
theorem q_1037 : (.instanceMethod yX7_goneIn : Cond) ∈ TB := tb_in (List.mem_of_getElem? (i := 1037) (by decide +kernel)) rfl
theorem q_1038 : (.selects RX7 yX7_goneIn yX7_goneIn : Cond) ∈ TB := tb_in (List.mem_of_getElem? (i := 1038) (by decide +kernel)) rfl
theorem q_1039 : (.code yX7_goneIn cX7_goneIn 4 (Option.some Jvm.ClassFile.FieldType.int) : Cond) ∈ TB := tb_in (List.mem_of_getElem? (i := 1039) (by decide +kernel)) rfl
theorem q_1040 : (.methodLink RL 135 yX7_turnedAway : Cond) ∈ TB := tb_in (List.mem_of_getElem? (i := 1040) (by decide +kernel)) rfl
theorem q_1041 : (.instanceMethod yX7_turnedAway : Cond) ∈ TB := tb_in (List.mem_of_getElem? (i := 1041) (by decide +kernel)) rfl
theorem q_1042 : (.selects RX7 yX7_turnedAway yX7_turnedAway : Cond) ∈ TB := tb_in (List.mem_of_getElem? (i := 1042) (by decide +kernel)) rfl
theorem q_1043 : (.code yX7_turnedAway cX7_turnedAway 2 (Option.some Jvm.ClassFile.FieldType.int) : Cond) ∈ TB := tb_in (List.mem_of_getElem? (i := 1043) (by decide +kernel)) rfl
theorem q_1044 : (.methodLink RL 139 yX7_bestCall : Cond) ∈ TB := tb_in (List.mem_of_getElem? (i := 1044) (by decide +kernel)) rfl
theorem q_1045 : (.instanceMethod yX7_bestCall : Cond) ∈ TB := tb_in (List.mem_of_getElem? (i := 1045) (by decide +kernel)) rfl
theorem q_1046 : (.selects RX7 yX7_bestCall yX7_bestCall : Cond) ∈ TB := tb_in (List.mem_of_getElem? (i := 1046) (by decide +kernel)) rfl
theorem q_1047 : (.code yX7_bestCall cX7_bestCall 5 (Option.some Jvm.ClassFile.FieldType.int) : Cond) ∈ TB := tb_in (List.mem_of_getElem? (i := 1047) (by decide +kernel)) rfl
theorem q_1048 : (.methodLink RX7 167 yX7_takesDown : Cond) ∈ TB := tb_in (List.mem_of_getElem? (i := 1048) (by decide +kernel)) rfl
theorem q_1050 : (.instanceMethod yX7_takesDown : Cond) ∈ TB := tb_in (List.mem_of_getElem? (i := 1050) (by decide +kernel)) rfl
theorem q_1051 : (.code yX7_takesDown cX7_takesDown 5 (Option.some Jvm.ClassFile.FieldType.int) : Cond) ∈ TB := tb_in (List.mem_of_getElem? (i := 1051) (by decide +kernel)) rfl
theorem q_1052 : (.methodLink RL 143 yX7_fullest : Cond) ∈ TB := tb_in (List.mem_of_getElem? (i := 1052) (by decide +kernel)) rfl
theorem q_1053 : (.instanceMethod yX7_fullest : Cond) ∈ TB := tb_in (List.mem_of_getElem? (i := 1053) (by decide +kernel)) rfl
theorem q_1054 : (.selects RX7 yX7_fullest yX7_fullest : Cond) ∈ TB := tb_in (List.mem_of_getElem? (i := 1054) (by decide +kernel)) rfl
theorem q_1055 : (.code yX7_fullest cX7_fullest 5 (Option.some Jvm.ClassFile.FieldType.int) : Cond) ∈ TB := tb_in (List.mem_of_getElem? (i := 1055) (by decide +kernel)) rfl
set_option maxRecDepth 100000 in
theorem i_X0 : ∀ w ∈ wsX00, w ∈ TB := fun w h => tb_in ((by decide +kernel : ∀ w ∈ wsX00, w ∈ lw_tbl) w h) ((by decide +kernel : ∀ w ∈ wsX00, goodWord w = true) w h)
set_option maxRecDepth 100000 in
theorem i_X1 : ∀ w ∈ wsX10, w ∈ TB := fun w h => tb_in ((by decide +kernel : ∀ w ∈ wsX10, w ∈ lw_tbl) w h) ((by decide +kernel : ∀ w ∈ wsX10, goodWord w = true) w h)
set_option maxRecDepth 100000 in
theorem i_X2 : ∀ w ∈ wsX20, w ∈ TB := fun w h => tb_in ((by decide +kernel : ∀ w ∈ wsX20, w ∈ lw_tbl) w h) ((by decide +kernel : ∀ w ∈ wsX20, goodWord w = true) w h)
set_option maxRecDepth 100000 in
theorem i_X3 : ∀ w ∈ wsX30, w ∈ TB := fun w h => tb_in ((by decide +kernel : ∀ w ∈ wsX30, w ∈ lw_tbl) w h) ((by decide +kernel : ∀ w ∈ wsX30, goodWord w = true) w h)
set_option maxRecDepth 100000 in
theorem i_X4 : ∀ w ∈ wsX40, w ∈ TB := fun w h => tb_in ((by decide +kernel : ∀ w ∈ wsX40, w ∈ lw_tbl) w h) ((by decide +kernel : ∀ w ∈ wsX40, goodWord w = true) w h)
set_option maxRecDepth 100000 in
theorem i_X5 : ∀ w ∈ wsX50, w ∈ TB := fun w h => tb_in ((by decide +kernel : ∀ w ∈ wsX50, w ∈ lw_tbl) w h) ((by decide +kernel : ∀ w ∈ wsX50, goodWord w = true) w h)
set_option maxRecDepth 100000 in
theorem i_X6 : ∀ w ∈ wsX60, w ∈ TB := fun w h => tb_in ((by decide +kernel : ∀ w ∈ wsX60, w ∈ lw_tbl) w h) ((by decide +kernel : ∀ w ∈ wsX60, goodWord w = true) w h)
set_option maxRecDepth 100000 in
theorem i_X7 : ∀ w ∈ wsX70, w ∈ TB := fun w h => tb_in ((by decide +kernel : ∀ w ∈ wsX70, w ∈ lw_tbl) w h) ((by decide +kernel : ∀ w ∈ wsX70, goodWord w = true) w h)
