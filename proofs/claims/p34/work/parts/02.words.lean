/-- the words that a callee may be handed: those of the tables that hold behind every warming -/
def TB : List Cond := lw_tbl.filter goodWord
theorem tb_in {w : Cond} (h : w ∈ lw_tbl) (g : goodWord w = true) : w ∈ TB := List.mem_filter.mpr ⟨h, g⟩
theorem tb_sub {w : Cond} (h : w ∈ TB) : w ∈ lw_tbl := (List.mem_filter.mp h).1
theorem tb_good : ∀ w ∈ TB, goodWord w = true := fun _ h => (List.mem_filter.mp h).2
theorem q_0 : (.selects RX6 yX6_errorUnlessBooked yX6_errorUnlessBooked : Cond) ∈ TB := tb_in (List.mem_of_getElem? (i := 0) (by decide +kernel)) rfl
theorem q_1 : (.selects RX2 yX2_dropOldest yX2_dropOldest : Cond) ∈ TB := tb_in (List.mem_of_getElem? (i := 1) (by decide +kernel)) rfl
theorem q_2 : (.selects RX3 yX3_letGroupsLeave yX3_letGroupsLeave : Cond) ∈ TB := tb_in (List.mem_of_getElem? (i := 2) (by decide +kernel)) rfl
theorem q_3 : (.selects RX3 yX3_letLeave yX3_letLeave : Cond) ∈ TB := tb_in (List.mem_of_getElem? (i := 3) (by decide +kernel)) rfl
theorem q_4 : (.selects RX3 yX3_turnLateOnesAway yX3_turnLateOnesAway : Cond) ∈ TB := tb_in (List.mem_of_getElem? (i := 4) (by decide +kernel)) rfl
theorem q_5 : (.selects RX3 yX3_turnAway yX3_turnAway : Cond) ∈ TB := tb_in (List.mem_of_getElem? (i := 5) (by decide +kernel)) rfl
theorem q_6 : (.selects RX3 yX3_letGroupsCome yX3_letGroupsCome : Cond) ∈ TB := tb_in (List.mem_of_getElem? (i := 6) (by decide +kernel)) rfl
theorem q_7 : (.selects RX3 yX3_bring yX3_bring : Cond) ∈ TB := tb_in (List.mem_of_getElem? (i := 7) (by decide +kernel)) rfl
theorem q_8 : (.selects RX5 yX5_removeFirst yX5_removeFirst : Cond) ∈ TB := tb_in (List.mem_of_getElem? (i := 8) (by decide +kernel)) rfl
theorem q_9 : (.selects RX3 yX3_fly yX3_fly : Cond) ∈ TB := tb_in (List.mem_of_getElem? (i := 9) (by decide +kernel)) rfl
theorem q_10 : (.selects RX3 yX3_letAllEat yX3_letAllEat : Cond) ∈ TB := tb_in (List.mem_of_getElem? (i := 10) (by decide +kernel)) rfl
theorem q_11 : (.selects RX3 yX3_letAllSleep yX3_letAllSleep : Cond) ∈ TB := tb_in (List.mem_of_getElem? (i := 11) (by decide +kernel)) rfl
theorem q_12 : (.selects RX6 yX6_passInTrial yX6_passInTrial : Cond) ∈ TB := tb_in (List.mem_of_getElem? (i := 12) (by decide +kernel)) rfl
theorem q_13 : (.selects RX6 yX6_mostBedsTaken yX6_mostBedsTaken : Cond) ∈ TB := tb_in (List.mem_of_getElem? (i := 13) (by decide +kernel)) rfl
theorem q_14 : (.selects RX0 yX0_accepts yX0_accepts : Cond) ∈ TB := tb_in (List.mem_of_getElem? (i := 14) (by decide +kernel)) rfl
theorem q_15 : (.selects RX0 yX0_acceptsDayBegin yX0_acceptsDayBegin : Cond) ∈ TB := tb_in (List.mem_of_getElem? (i := 15) (by decide +kernel)) rfl
theorem q_16 : (.selects RX0 yX0_moveTo yX0_moveTo : Cond) ∈ TB := tb_in (List.mem_of_getElem? (i := 16) (by decide +kernel)) rfl
theorem q_17 : (.selects RX0 yX0_acceptsDayDigit yX0_acceptsDayDigit : Cond) ∈ TB := tb_in (List.mem_of_getElem? (i := 17) (by decide +kernel)) rfl
theorem q_18 : (.selects RX0 yX0_acceptsNights yX0_acceptsNights : Cond) ∈ TB := tb_in (List.mem_of_getElem? (i := 18) (by decide +kernel)) rfl
theorem q_19 : (.selects RX0 yX0_acceptsPersons yX0_acceptsPersons : Cond) ∈ TB := tb_in (List.mem_of_getElem? (i := 19) (by decide +kernel)) rfl
theorem q_20 : (.initialized RL : Cond) ∈ TB := tb_in (List.mem_of_getElem? (i := 20) (by decide +kernel)) rfl
theorem q_21 : (.initialized RX6 : Cond) ∈ TB := tb_in (List.mem_of_getElem? (i := 21) (by decide +kernel)) rfl
theorem q_22 : (.initialized RX3 : Cond) ∈ TB := tb_in (List.mem_of_getElem? (i := 22) (by decide +kernel)) rfl
theorem q_23 : (.initialized RJ10 : Cond) ∈ TB := tb_in (List.mem_of_getElem? (i := 23) (by decide +kernel)) rfl
theorem q_24 : (.initialized RX1 : Cond) ∈ TB := tb_in (List.mem_of_getElem? (i := 24) (by decide +kernel)) rfl
theorem q_25 : (.initialized RX4 : Cond) ∈ TB := tb_in (List.mem_of_getElem? (i := 25) (by decide +kernel)) rfl
theorem q_26 : (.initialized RX5 : Cond) ∈ TB := tb_in (List.mem_of_getElem? (i := 26) (by decide +kernel)) rfl
theorem q_27 : (.initialized RX2 : Cond) ∈ TB := tb_in (List.mem_of_getElem? (i := 27) (by decide +kernel)) rfl
theorem q_28 : (.initialized RX0 : Cond) ∈ TB := tb_in (List.mem_of_getElem? (i := 28) (by decide +kernel)) rfl
theorem q_29 : (.initialized RJ9 : Cond) ∈ TB := tb_in (List.mem_of_getElem? (i := 29) (by decide +kernel)) rfl
theorem q_30 : (.initialized RJ7 : Cond) ∈ TB := tb_in (List.mem_of_getElem? (i := 30) (by decide +kernel)) rfl
theorem q_31 : (.classLink RL 10 RX6 : Cond) ∈ TB := tb_in (List.mem_of_getElem? (i := 31) (by decide +kernel)) rfl
theorem q_32 : (.instantiable RX6 7 : Cond) ∈ TB := tb_in (List.mem_of_getElem? (i := 32) (by decide +kernel)) rfl
theorem q_33 : (.methodLink RL 105 yX6_init : Cond) ∈ TB := tb_in (List.mem_of_getElem? (i := 33) (by decide +kernel)) rfl
theorem q_34 : (.instanceMethod yX6_init : Cond) ∈ TB := tb_in (List.mem_of_getElem? (i := 34) (by decide +kernel)) rfl
theorem q_35 : (.code yX6_init cX6_init 1 (Option.none : Option Jvm.ClassFile.FieldType) : Cond) ∈ TB := tb_in (List.mem_of_getElem? (i := 35) (by decide +kernel)) rfl
theorem q_36 : (.methodLink RX6 1 objectInit : Cond) ∈ TB := tb_in (List.mem_of_getElem? (i := 36) (by decide +kernel)) rfl
theorem q_37 : (.instanceMethod objectInit : Cond) ∈ TB := tb_in (List.mem_of_getElem? (i := 37) (by decide +kernel)) rfl
theorem q_38 : (.code objectInit ⟨#[0xb1]⟩ 1 (Option.none : Option Jvm.ClassFile.FieldType) : Cond) ∈ TB := tb_in (List.mem_of_getElem? (i := 38) (by decide +kernel)) rfl
theorem q_39 : (.classLink RX6 7 RX3 : Cond) ∈ TB := tb_in (List.mem_of_getElem? (i := 39) (by decide +kernel)) rfl
theorem q_40 : (.instantiable RX3 11 : Cond) ∈ TB := tb_in (List.mem_of_getElem? (i := 40) (by decide +kernel)) rfl
theorem q_41 : (.methodLink RX6 9 yX3_init : Cond) ∈ TB := tb_in (List.mem_of_getElem? (i := 41) (by decide +kernel)) rfl
theorem q_42 : (.instanceMethod yX3_init : Cond) ∈ TB := tb_in (List.mem_of_getElem? (i := 42) (by decide +kernel)) rfl
theorem q_43 : (.code yX3_init cX3_init 1 (Option.none : Option Jvm.ClassFile.FieldType) : Cond) ∈ TB := tb_in (List.mem_of_getElem? (i := 43) (by decide +kernel)) rfl
theorem q_44 : (.methodLink RX3 3 objectInit : Cond) ∈ TB := tb_in (List.mem_of_getElem? (i := 44) (by decide +kernel)) rfl
theorem q_45 : (.fieldLinkNest RX3 15 "HutBookings" "SETTING_FIRST" "[I" "HutBookings" : Cond) ∈ lw_tbl := List.mem_of_getElem? (i := 45) (by decide +kernel)
theorem q_47 : (.methodLink RX3 18 arraycopyName : Cond) ∈ TB := tb_in (List.mem_of_getElem? (i := 47) (by decide +kernel)) rfl
theorem q_48 : (.static arraycopyName : Cond) ∈ TB := tb_in (List.mem_of_getElem? (i := 48) (by decide +kernel)) rfl
theorem q_49 : (.native arraycopyName : Cond) ∈ TB := tb_in (List.mem_of_getElem? (i := 49) (by decide +kernel)) rfl
theorem q_50 : (.classLink RX3 27 RX1 : Cond) ∈ TB := tb_in (List.mem_of_getElem? (i := 50) (by decide +kernel)) rfl
theorem q_51 : (.instantiable RX1 8 : Cond) ∈ TB := tb_in (List.mem_of_getElem? (i := 51) (by decide +kernel)) rfl
theorem q_52 : (.methodLink RX3 29 yX1_init : Cond) ∈ TB := tb_in (List.mem_of_getElem? (i := 52) (by decide +kernel)) rfl
theorem q_53 : (.instanceMethod yX1_init : Cond) ∈ TB := tb_in (List.mem_of_getElem? (i := 53) (by decide +kernel)) rfl
theorem q_54 : (.code yX1_init cX1_init 1 (Option.none : Option Jvm.ClassFile.FieldType) : Cond) ∈ TB := tb_in (List.mem_of_getElem? (i := 54) (by decide +kernel)) rfl
theorem q_55 : (.methodLink RX1 3 objectInit : Cond) ∈ TB := tb_in (List.mem_of_getElem? (i := 55) (by decide +kernel)) rfl
theorem q_56 : (.fieldLink RX1 9 "HutBookings$Guests" "how" "[I" : Cond) ∈ TB := tb_in (List.mem_of_getElem? (i := 56) (by decide +kernel)) rfl
theorem q_57 : (.fieldLink RX3 122 "HutBookings$Guests" "how" "[I" : Cond) ∈ TB := tb_in (List.mem_of_getElem? (i := 57) (by decide +kernel)) rfl
theorem q_58 : (.fieldLink RX6 162 "HutBookings$Guests" "how" "[I" : Cond) ∈ TB := tb_in (List.mem_of_getElem? (i := 58) (by decide +kernel)) rfl
theorem q_59 : (.fieldLink RX1 15 "HutBookings$Guests" "arrives" "[I" : Cond) ∈ TB := tb_in (List.mem_of_getElem? (i := 59) (by decide +kernel)) rfl
theorem q_60 : (.fieldLink RX3 109 "HutBookings$Guests" "arrives" "[I" : Cond) ∈ TB := tb_in (List.mem_of_getElem? (i := 60) (by decide +kernel)) rfl
theorem q_61 : (.fieldLink RX6 165 "HutBookings$Guests" "arrives" "[I" : Cond) ∈ TB := tb_in (List.mem_of_getElem? (i := 61) (by decide +kernel)) rfl
theorem q_62 : (.fieldLink RX1 18 "HutBookings$Guests" "nights" "[I" : Cond) ∈ TB := tb_in (List.mem_of_getElem? (i := 62) (by decide +kernel)) rfl
theorem q_63 : (.fieldLink RX6 100 "HutBookings$Guests" "nights" "[I" : Cond) ∈ TB := tb_in (List.mem_of_getElem? (i := 63) (by decide +kernel)) rfl
theorem q_64 : (.fieldLink RX3 128 "HutBookings$Guests" "nights" "[I" : Cond) ∈ TB := tb_in (List.mem_of_getElem? (i := 64) (by decide +kernel)) rfl
theorem q_65 : (.fieldLink RX1 21 "HutBookings$Guests" "persons" "[I" : Cond) ∈ TB := tb_in (List.mem_of_getElem? (i := 65) (by decide +kernel)) rfl
theorem q_66 : (.fieldLink RX3 131 "HutBookings$Guests" "persons" "[I" : Cond) ∈ TB := tb_in (List.mem_of_getElem? (i := 66) (by decide +kernel)) rfl
theorem q_67 : (.fieldLink RX6 166 "HutBookings$Guests" "persons" "[I" : Cond) ∈ TB := tb_in (List.mem_of_getElem? (i := 67) (by decide +kernel)) rfl
theorem q_68 : (.fieldLink RX1 24 "HutBookings$Guests" "slept" "[I" : Cond) ∈ TB := tb_in (List.mem_of_getElem? (i := 68) (by decide +kernel)) rfl
theorem q_69 : (.fieldLink RX6 167 "HutBookings$Guests" "slept" "[I" : Cond) ∈ TB := tb_in (List.mem_of_getElem? (i := 69) (by decide +kernel)) rfl
theorem q_70 : (.fieldLink RX3 208 "HutBookings$Guests" "slept" "[I" : Cond) ∈ TB := tb_in (List.mem_of_getElem? (i := 70) (by decide +kernel)) rfl
theorem q_71 : (.fieldLink RX1 27 "HutBookings$Guests" "deposit" "[I" : Cond) ∈ TB := tb_in (List.mem_of_getElem? (i := 71) (by decide +kernel)) rfl
theorem q_72 : (.fieldLink RX3 116 "HutBookings$Guests" "deposit" "[I" : Cond) ∈ TB := tb_in (List.mem_of_getElem? (i := 72) (by decide +kernel)) rfl
theorem q_73 : (.fieldLink RX6 173 "HutBookings$Guests" "deposit" "[I" : Cond) ∈ TB := tb_in (List.mem_of_getElem? (i := 73) (by decide +kernel)) rfl
theorem q_74 : (.fieldLink RX1 30 "HutBookings$Guests" "came" "[I" : Cond) ∈ TB := tb_in (List.mem_of_getElem? (i := 74) (by decide +kernel)) rfl
theorem q_75 : (.fieldLink RX6 176 "HutBookings$Guests" "came" "[I" : Cond) ∈ TB := tb_in (List.mem_of_getElem? (i := 75) (by decide +kernel)) rfl
theorem q_76 : (.fieldLink RX3 178 "HutBookings$Guests" "came" "[I" : Cond) ∈ TB := tb_in (List.mem_of_getElem? (i := 76) (by decide +kernel)) rfl
theorem q_77 : (.fieldLink RX1 33 "HutBookings$Guests" "made" "I" : Cond) ∈ TB := tb_in (List.mem_of_getElem? (i := 77) (by decide +kernel)) rfl
theorem q_78 : (.fieldLink RX3 98 "HutBookings$Guests" "made" "I" : Cond) ∈ TB := tb_in (List.mem_of_getElem? (i := 78) (by decide +kernel)) rfl
theorem q_79 : (.fieldLink RX6 210 "HutBookings$Guests" "made" "I" : Cond) ∈ TB := tb_in (List.mem_of_getElem? (i := 79) (by decide +kernel)) rfl
theorem q_98 : (.classLink RX3 34 RX4 : Cond) ∈ TB := tb_in (List.mem_of_getElem? (i := 98) (by decide +kernel)) rfl
theorem q_99 : (.instantiable RX4 2 : Cond) ∈ TB := tb_in (List.mem_of_getElem? (i := 99) (by decide +kernel)) rfl
theorem q_100 : (.methodLink RX3 36 yX4_init : Cond) ∈ TB := tb_in (List.mem_of_getElem? (i := 100) (by decide +kernel)) rfl
theorem q_101 : (.instanceMethod yX4_init : Cond) ∈ TB := tb_in (List.mem_of_getElem? (i := 101) (by decide +kernel)) rfl
theorem q_102 : (.code yX4_init cX4_init 1 (Option.none : Option Jvm.ClassFile.FieldType) : Cond) ∈ TB := tb_in (List.mem_of_getElem? (i := 102) (by decide +kernel)) rfl
theorem q_103 : (.methodLink RX4 3 objectInit : Cond) ∈ TB := tb_in (List.mem_of_getElem? (i := 103) (by decide +kernel)) rfl
theorem q_104 : (.fieldLink RX4 9 "HutBookings$Larder" "fresh" "[I" : Cond) ∈ TB := tb_in (List.mem_of_getElem? (i := 104) (by decide +kernel)) rfl
theorem q_105 : (.fieldLink RX4 21 "HutBookings$Larder" "dry" "I" : Cond) ∈ TB := tb_in (List.mem_of_getElem? (i := 105) (by decide +kernel)) rfl
theorem q_106 : (.fieldLink RX6 227 "HutBookings$Larder" "dry" "I" : Cond) ∈ TB := tb_in (List.mem_of_getElem? (i := 106) (by decide +kernel)) rfl
theorem q_112 : (.classLink RX3 41 RX5 : Cond) ∈ TB := tb_in (List.mem_of_getElem? (i := 112) (by decide +kernel)) rfl
theorem q_113 : (.instantiable RX5 3 : Cond) ∈ TB := tb_in (List.mem_of_getElem? (i := 113) (by decide +kernel)) rfl
theorem q_114 : (.methodLink RX3 43 yX5_init : Cond) ∈ TB := tb_in (List.mem_of_getElem? (i := 114) (by decide +kernel)) rfl
theorem q_115 : (.instanceMethod yX5_init : Cond) ∈ TB := tb_in (List.mem_of_getElem? (i := 115) (by decide +kernel)) rfl
theorem q_116 : (.code yX5_init cX5_init 1 (Option.none : Option Jvm.ClassFile.FieldType) : Cond) ∈ TB := tb_in (List.mem_of_getElem? (i := 116) (by decide +kernel)) rfl
theorem q_117 : (.methodLink RX5 3 objectInit : Cond) ∈ TB := tb_in (List.mem_of_getElem? (i := 117) (by decide +kernel)) rfl
theorem q_118 : (.fieldLink RX5 9 "HutBookings$Orders" "kinds" "[I" : Cond) ∈ TB := tb_in (List.mem_of_getElem? (i := 118) (by decide +kernel)) rfl
theorem q_119 : (.fieldLink RX3 191 "HutBookings$Orders" "kinds" "[I" : Cond) ∈ TB := tb_in (List.mem_of_getElem? (i := 119) (by decide +kernel)) rfl
theorem q_120 : (.fieldLink RX5 15 "HutBookings$Orders" "portions" "[I" : Cond) ∈ TB := tb_in (List.mem_of_getElem? (i := 120) (by decide +kernel)) rfl
theorem q_121 : (.fieldLink RX5 18 "HutBookings$Orders" "size" "I" : Cond) ∈ TB := tb_in (List.mem_of_getElem? (i := 121) (by decide +kernel)) rfl
theorem q_122 : (.fieldLink RX6 118 "HutBookings$Orders" "size" "I" : Cond) ∈ TB := tb_in (List.mem_of_getElem? (i := 122) (by decide +kernel)) rfl
theorem q_123 : (.fieldLink RX3 188 "HutBookings$Orders" "size" "I" : Cond) ∈ TB := tb_in (List.mem_of_getElem? (i := 123) (by decide +kernel)) rfl
theorem q_131 : (.fieldLink RX3 9 "HutBookings$Hut" "settings" "[I" : Cond) ∈ TB := tb_in (List.mem_of_getElem? (i := 131) (by decide +kernel)) rfl
theorem q_132 : (.fieldLink RX6 149 "HutBookings$Hut" "settings" "[I" : Cond) ∈ TB := tb_in (List.mem_of_getElem? (i := 132) (by decide +kernel)) rfl
theorem q_133 : (.fieldLink RX3 24 "HutBookings$Hut" "weatherRow" "[I" : Cond) ∈ TB := tb_in (List.mem_of_getElem? (i := 133) (by decide +kernel)) rfl
theorem q_134 : (.fieldLink RX3 30 "HutBookings$Hut" "guests" "LHutBookings$Guests;" : Cond) ∈ TB := tb_in (List.mem_of_getElem? (i := 134) (by decide +kernel)) rfl
theorem q_135 : (.fieldLink RX6 83 "HutBookings$Hut" "guests" "LHutBookings$Guests;" : Cond) ∈ TB := tb_in (List.mem_of_getElem? (i := 135) (by decide +kernel)) rfl
theorem q_136 : (.fieldLink RX3 37 "HutBookings$Hut" "larder" "LHutBookings$Larder;" : Cond) ∈ TB := tb_in (List.mem_of_getElem? (i := 136) (by decide +kernel)) rfl
theorem q_137 : (.fieldLink RX6 191 "HutBookings$Hut" "larder" "LHutBookings$Larder;" : Cond) ∈ TB := tb_in (List.mem_of_getElem? (i := 137) (by decide +kernel)) rfl
theorem q_138 : (.fieldLink RX3 44 "HutBookings$Hut" "orders" "LHutBookings$Orders;" : Cond) ∈ TB := tb_in (List.mem_of_getElem? (i := 138) (by decide +kernel)) rfl
theorem q_139 : (.fieldLink RX6 114 "HutBookings$Hut" "orders" "LHutBookings$Orders;" : Cond) ∈ TB := tb_in (List.mem_of_getElem? (i := 139) (by decide +kernel)) rfl
theorem q_140 : (.fieldLink RX3 48 "HutBookings$Hut" "tally" "[I" : Cond) ∈ TB := tb_in (List.mem_of_getElem? (i := 140) (by decide +kernel)) rfl
theorem q_141 : (.fieldLink RX6 134 "HutBookings$Hut" "tally" "[I" : Cond) ∈ TB := tb_in (List.mem_of_getElem? (i := 141) (by decide +kernel)) rfl
theorem q_142 : (.fieldLink RX3 61 "HutBookings$Hut" "today" "I" : Cond) ∈ TB := tb_in (List.mem_of_getElem? (i := 142) (by decide +kernel)) rfl
theorem q_143 : (.fieldLink RX6 104 "HutBookings$Hut" "today" "I" : Cond) ∈ TB := tb_in (List.mem_of_getElem? (i := 143) (by decide +kernel)) rfl
theorem q_144 : (.fieldLink RX3 65 "HutBookings$Hut" "flightCalled" "Z" : Cond) ∈ TB := tb_in (List.mem_of_getElem? (i := 144) (by decide +kernel)) rfl
theorem q_145 : (.fieldLink RX6 131 "HutBookings$Hut" "flightCalled" "Z" : Cond) ∈ TB := tb_in (List.mem_of_getElem? (i := 145) (by decide +kernel)) rfl
theorem q_146 : (.fieldLink RX3 69 "HutBookings$Hut" "purse" "I" : Cond) ∈ TB := tb_in (List.mem_of_getElem? (i := 146) (by decide +kernel)) rfl
theorem q_147 : (.fieldLink RX6 233 "HutBookings$Hut" "purse" "I" : Cond) ∈ TB := tb_in (List.mem_of_getElem? (i := 147) (by decide +kernel)) rfl
theorem q_148 : (.fieldLink RX3 72 "HutBookings$Hut" "depositsKept" "I" : Cond) ∈ TB := tb_in (List.mem_of_getElem? (i := 148) (by decide +kernel)) rfl
theorem q_149 : (.fieldLink RX6 239 "HutBookings$Hut" "depositsKept" "I" : Cond) ∈ TB := tb_in (List.mem_of_getElem? (i := 149) (by decide +kernel)) rfl
theorem q_150 : (.fieldLink RX3 75 "HutBookings$Hut" "flightsPaid" "I" : Cond) ∈ TB := tb_in (List.mem_of_getElem? (i := 150) (by decide +kernel)) rfl
theorem q_151 : (.fieldLink RX6 242 "HutBookings$Hut" "flightsPaid" "I" : Cond) ∈ TB := tb_in (List.mem_of_getElem? (i := 151) (by decide +kernel)) rfl
theorem q_175 : (.classLink RX6 26 RX2 : Cond) ∈ TB := tb_in (List.mem_of_getElem? (i := 175) (by decide +kernel)) rfl
theorem q_176 : (.instantiable RX2 2 : Cond) ∈ TB := tb_in (List.mem_of_getElem? (i := 176) (by decide +kernel)) rfl
theorem q_177 : (.methodLink RX6 28 yX2_init : Cond) ∈ TB := tb_in (List.mem_of_getElem? (i := 177) (by decide +kernel)) rfl
theorem q_178 : (.instanceMethod yX2_init : Cond) ∈ TB := tb_in (List.mem_of_getElem? (i := 178) (by decide +kernel)) rfl
theorem q_179 : (.code yX2_init cX2_init 2 (Option.none : Option Jvm.ClassFile.FieldType) : Cond) ∈ TB := tb_in (List.mem_of_getElem? (i := 179) (by decide +kernel)) rfl
theorem q_180 : (.methodLink RX2 3 objectInit : Cond) ∈ TB := tb_in (List.mem_of_getElem? (i := 180) (by decide +kernel)) rfl
theorem q_181 : (.classLink RX2 9 RX3 : Cond) ∈ TB := tb_in (List.mem_of_getElem? (i := 181) (by decide +kernel)) rfl
theorem q_183 : (.methodLink RX2 17 yX3_init : Cond) ∈ TB := tb_in (List.mem_of_getElem? (i := 183) (by decide +kernel)) rfl
theorem q_184 : (.fieldLink RX2 11 "HutBookings$History" "states" "[LHutBookings$Hut;" : Cond) ∈ TB := tb_in (List.mem_of_getElem? (i := 184) (by decide +kernel)) rfl
theorem q_185 : (.fieldLink RX2 18 "HutBookings$History" "size" "I" : Cond) ∈ TB := tb_in (List.mem_of_getElem? (i := 185) (by decide +kernel)) rfl
theorem q_186 : (.fieldLink RX6 158 "HutBookings$History" "size" "I" : Cond) ∈ TB := tb_in (List.mem_of_getElem? (i := 186) (by decide +kernel)) rfl
theorem q_192 : (.classLink RX6 33 RX0 : Cond) ∈ TB := tb_in (List.mem_of_getElem? (i := 192) (by decide +kernel)) rfl
theorem q_193 : (.instantiable RX0 9 : Cond) ∈ TB := tb_in (List.mem_of_getElem? (i := 193) (by decide +kernel)) rfl
theorem q_194 : (.methodLink RX6 35 yX0_init : Cond) ∈ TB := tb_in (List.mem_of_getElem? (i := 194) (by decide +kernel)) rfl
theorem q_195 : (.instanceMethod yX0_init : Cond) ∈ TB := tb_in (List.mem_of_getElem? (i := 195) (by decide +kernel)) rfl
theorem q_196 : (.code yX0_init cX0_init 1 (Option.none : Option Jvm.ClassFile.FieldType) : Cond) ∈ TB := tb_in (List.mem_of_getElem? (i := 196) (by decide +kernel)) rfl
theorem q_197 : (.methodLink RX0 3 objectInit : Cond) ∈ TB := tb_in (List.mem_of_getElem? (i := 197) (by decide +kernel)) rfl
theorem q_198 : (.fieldLink RX0 9 "HutBookings$BookingText" "characters" "[C" : Cond) ∈ TB := tb_in (List.mem_of_getElem? (i := 198) (by decide +kernel)) rfl
theorem q_199 : (.fieldLink RX0 25 "HutBookings$BookingText" "length" "I" : Cond) ∈ TB := tb_in (List.mem_of_getElem? (i := 199) (by decide +kernel)) rfl
theorem q_200 : (.fieldLink RX6 152 "HutBookings$BookingText" "length" "I" : Cond) ∈ TB := tb_in (List.mem_of_getElem? (i := 200) (by decide +kernel)) rfl
theorem q_201 : (.fieldLink RX0 15 "HutBookings$BookingText" "arrives" "[I" : Cond) ∈ TB := tb_in (List.mem_of_getElem? (i := 201) (by decide +kernel)) rfl
theorem q_202 : (.fieldLink RX6 67 "HutBookings$BookingText" "arrives" "[I" : Cond) ∈ TB := tb_in (List.mem_of_getElem? (i := 202) (by decide +kernel)) rfl
theorem q_203 : (.fieldLink RX0 19 "HutBookings$BookingText" "nights" "[I" : Cond) ∈ TB := tb_in (List.mem_of_getElem? (i := 203) (by decide +kernel)) rfl
theorem q_204 : (.fieldLink RX6 70 "HutBookings$BookingText" "nights" "[I" : Cond) ∈ TB := tb_in (List.mem_of_getElem? (i := 204) (by decide +kernel)) rfl
theorem q_205 : (.fieldLink RX0 22 "HutBookings$BookingText" "persons" "[I" : Cond) ∈ TB := tb_in (List.mem_of_getElem? (i := 205) (by decide +kernel)) rfl
theorem q_206 : (.fieldLink RX6 73 "HutBookings$BookingText" "persons" "[I" : Cond) ∈ TB := tb_in (List.mem_of_getElem? (i := 206) (by decide +kernel)) rfl
theorem q_207 : (.fieldLink RX0 29 "HutBookings$BookingText" "found" "I" : Cond) ∈ TB := tb_in (List.mem_of_getElem? (i := 207) (by decide +kernel)) rfl
theorem q_208 : (.fieldLink RX6 63 "HutBookings$BookingText" "found" "I" : Cond) ∈ TB := tb_in (List.mem_of_getElem? (i := 208) (by decide +kernel)) rfl
theorem q_209 : (.fieldLink RX0 32 "HutBookings$BookingText" "place" "I" : Cond) ∈ TB := tb_in (List.mem_of_getElem? (i := 209) (by decide +kernel)) rfl
theorem q_210 : (.fieldLink RX0 56 "HutBookings$BookingText" "dayRead" "I" : Cond) ∈ TB := tb_in (List.mem_of_getElem? (i := 210) (by decide +kernel)) rfl
theorem q_211 : (.fieldLink RX0 59 "HutBookings$BookingText" "nightsRead" "I" : Cond) ∈ TB := tb_in (List.mem_of_getElem? (i := 211) (by decide +kernel)) rfl
theorem q_232 : (.fieldLink RX6 10 "HutBookings" "hut" "LHutBookings$Hut;" : Cond) ∈ TB := tb_in (List.mem_of_getElem? (i := 232) (by decide +kernel)) rfl
theorem q_233 : (.fieldLink RX6 16 "HutBookings" "trial" "LHutBookings$Hut;" : Cond) ∈ TB := tb_in (List.mem_of_getElem? (i := 233) (by decide +kernel)) rfl
theorem q_234 : (.fieldLink RX6 19 "HutBookings" "snapshot" "LHutBookings$Hut;" : Cond) ∈ TB := tb_in (List.mem_of_getElem? (i := 234) (by decide +kernel)) rfl
theorem q_235 : (.fieldLink RX6 22 "HutBookings" "hasSnapshot" "Z" : Cond) ∈ TB := tb_in (List.mem_of_getElem? (i := 235) (by decide +kernel)) rfl
theorem q_236 : (.fieldLink RX6 29 "HutBookings" "history" "LHutBookings$History;" : Cond) ∈ TB := tb_in (List.mem_of_getElem? (i := 236) (by decide +kernel)) rfl
theorem q_237 : (.fieldLink RX6 36 "HutBookings" "text" "LHutBookings$BookingText;" : Cond) ∈ TB := tb_in (List.mem_of_getElem? (i := 237) (by decide +kernel)) rfl
theorem q_238 : (.fieldLink RX6 40 "HutBookings" "bedsTaken" "[I" : Cond) ∈ TB := tb_in (List.mem_of_getElem? (i := 238) (by decide +kernel)) rfl
theorem q_254 : (.methodLink RL 49 yX6_undo : Cond) ∈ TB := tb_in (List.mem_of_getElem? (i := 254) (by decide +kernel)) rfl
theorem q_255 : (.instanceMethod yX6_undo : Cond) ∈ TB := tb_in (List.mem_of_getElem? (i := 255) (by decide +kernel)) rfl
theorem q_256 : (.selects RX6 yX6_undo yX6_undo : Cond) ∈ TB := tb_in (List.mem_of_getElem? (i := 256) (by decide +kernel)) rfl
theorem q_257 : (.code yX6_undo cX6_undo 1 (Option.some Jvm.ClassFile.FieldType.int) : Cond) ∈ TB := tb_in (List.mem_of_getElem? (i := 257) (by decide +kernel)) rfl
theorem q_258 : (.constant RX6 59 (-1000005) : Cond) ∈ TB := tb_in (List.mem_of_getElem? (i := 258) (by decide +kernel)) rfl
theorem q_259 : (.methodLink RX6 159 yX2_giveBack : Cond) ∈ TB := tb_in (List.mem_of_getElem? (i := 259) (by decide +kernel)) rfl
theorem q_260 : (.instanceMethod yX2_giveBack : Cond) ∈ TB := tb_in (List.mem_of_getElem? (i := 260) (by decide +kernel)) rfl
theorem q_261 : (.selects RX2 yX2_giveBack yX2_giveBack : Cond) ∈ TB := tb_in (List.mem_of_getElem? (i := 261) (by decide +kernel)) rfl
theorem q_262 : (.code yX2_giveBack cX2_giveBack 2 (Option.none : Option Jvm.ClassFile.FieldType) : Cond) ∈ TB := tb_in (List.mem_of_getElem? (i := 262) (by decide +kernel)) rfl
theorem q_263 : (.methodLink RX2 25 yX3_copyFrom : Cond) ∈ TB := tb_in (List.mem_of_getElem? (i := 263) (by decide +kernel)) rfl
theorem q_264 : (.instanceMethod yX3_copyFrom : Cond) ∈ TB := tb_in (List.mem_of_getElem? (i := 264) (by decide +kernel)) rfl
theorem q_265 : (.selects RX3 yX3_copyFrom yX3_copyFrom : Cond) ∈ TB := tb_in (List.mem_of_getElem? (i := 265) (by decide +kernel)) rfl
theorem q_266 : (.code yX3_copyFrom cX3_copyFrom 2 (Option.none : Option Jvm.ClassFile.FieldType) : Cond) ∈ TB := tb_in (List.mem_of_getElem? (i := 266) (by decide +kernel)) rfl
theorem q_267 : (.methodLink RX3 51 yX1_copyFrom : Cond) ∈ TB := tb_in (List.mem_of_getElem? (i := 267) (by decide +kernel)) rfl
theorem q_268 : (.instanceMethod yX1_copyFrom : Cond) ∈ TB := tb_in (List.mem_of_getElem? (i := 268) (by decide +kernel)) rfl
theorem q_269 : (.selects RX1 yX1_copyFrom yX1_copyFrom : Cond) ∈ TB := tb_in (List.mem_of_getElem? (i := 269) (by decide +kernel)) rfl
theorem q_270 : (.code yX1_copyFrom cX1_copyFrom 2 (Option.none : Option Jvm.ClassFile.FieldType) : Cond) ∈ TB := tb_in (List.mem_of_getElem? (i := 270) (by decide +kernel)) rfl
theorem q_271 : (.methodLink RX1 37 arraycopyName : Cond) ∈ TB := tb_in (List.mem_of_getElem? (i := 271) (by decide +kernel)) rfl
theorem q_272 : (.methodLink RX3 55 yX4_copyFrom : Cond) ∈ TB := tb_in (List.mem_of_getElem? (i := 272) (by decide +kernel)) rfl
theorem q_273 : (.instanceMethod yX4_copyFrom : Cond) ∈ TB := tb_in (List.mem_of_getElem? (i := 273) (by decide +kernel)) rfl
theorem q_274 : (.selects RX4 yX4_copyFrom yX4_copyFrom : Cond) ∈ TB := tb_in (List.mem_of_getElem? (i := 274) (by decide +kernel)) rfl
theorem q_275 : (.code yX4_copyFrom cX4_copyFrom 2 (Option.none : Option Jvm.ClassFile.FieldType) : Cond) ∈ TB := tb_in (List.mem_of_getElem? (i := 275) (by decide +kernel)) rfl
theorem q_276 : (.methodLink RX4 15 arraycopyName : Cond) ∈ TB := tb_in (List.mem_of_getElem? (i := 276) (by decide +kernel)) rfl
theorem q_277 : (.methodLink RX3 58 yX5_copyFrom : Cond) ∈ TB := tb_in (List.mem_of_getElem? (i := 277) (by decide +kernel)) rfl
theorem q_278 : (.instanceMethod yX5_copyFrom : Cond) ∈ TB := tb_in (List.mem_of_getElem? (i := 278) (by decide +kernel)) rfl
theorem q_279 : (.selects RX5 yX5_copyFrom yX5_copyFrom : Cond) ∈ TB := tb_in (List.mem_of_getElem? (i := 279) (by decide +kernel)) rfl
theorem q_280 : (.code yX5_copyFrom cX5_copyFrom 2 (Option.none : Option Jvm.ClassFile.FieldType) : Cond) ∈ TB := tb_in (List.mem_of_getElem? (i := 280) (by decide +kernel)) rfl
theorem q_281 : (.methodLink RX5 22 arraycopyName : Cond) ∈ TB := tb_in (List.mem_of_getElem? (i := 281) (by decide +kernel)) rfl
theorem q_282 : (.methodLink RL 9 yX6_count : Cond) ∈ TB := tb_in (List.mem_of_getElem? (i := 282) (by decide +kernel)) rfl
theorem q_283 : (.instanceMethod yX6_count : Cond) ∈ TB := tb_in (List.mem_of_getElem? (i := 283) (by decide +kernel)) rfl
theorem q_284 : (.selects RX6 yX6_count yX6_count : Cond) ∈ TB := tb_in (List.mem_of_getElem? (i := 284) (by decide +kernel)) rfl
theorem q_285 : (.code yX6_count cX6_count 2 (Option.some Jvm.ClassFile.FieldType.int) : Cond) ∈ TB := tb_in (List.mem_of_getElem? (i := 285) (by decide +kernel)) rfl
theorem q_286 : (.methodLink RX6 213 yX1_howMany : Cond) ∈ TB := tb_in (List.mem_of_getElem? (i := 286) (by decide +kernel)) rfl
theorem q_287 : (.instanceMethod yX1_howMany : Cond) ∈ TB := tb_in (List.mem_of_getElem? (i := 287) (by decide +kernel)) rfl
theorem q_288 : (.selects RX1 yX1_howMany yX1_howMany : Cond) ∈ TB := tb_in (List.mem_of_getElem? (i := 288) (by decide +kernel)) rfl
theorem q_289 : (.code yX1_howMany cX1_howMany 4 (Option.some Jvm.ClassFile.FieldType.int) : Cond) ∈ TB := tb_in (List.mem_of_getElem? (i := 289) (by decide +kernel)) rfl
theorem q_290 : (.methodLink RX6 216 yX1_personsThere : Cond) ∈ TB := tb_in (List.mem_of_getElem? (i := 290) (by decide +kernel)) rfl
theorem q_291 : (.instanceMethod yX1_personsThere : Cond) ∈ TB := tb_in (List.mem_of_getElem? (i := 291) (by decide +kernel)) rfl
theorem q_292 : (.selects RX1 yX1_personsThere yX1_personsThere : Cond) ∈ TB := tb_in (List.mem_of_getElem? (i := 292) (by decide +kernel)) rfl
theorem q_293 : (.code yX1_personsThere cX1_personsThere 3 (Option.some Jvm.ClassFile.FieldType.int) : Cond) ∈ TB := tb_in (List.mem_of_getElem? (i := 293) (by decide +kernel)) rfl
theorem q_294 : (.methodLink RX6 219 yJ9_max_7cf53 : Cond) ∈ TB := tb_in (List.mem_of_getElem? (i := 294) (by decide +kernel)) rfl
theorem q_295 : (.static yJ9_max_7cf53 : Cond) ∈ TB := tb_in (List.mem_of_getElem? (i := 295) (by decide +kernel)) rfl
theorem q_296 : (.code yJ9_max_7cf53 cJ9_max_7cf53 2 (Option.some Jvm.ClassFile.FieldType.int) : Cond) ∈ TB := tb_in (List.mem_of_getElem? (i := 296) (by decide +kernel)) rfl
theorem q_297 : (.methodLink RX6 224 yX4_allFresh : Cond) ∈ TB := tb_in (List.mem_of_getElem? (i := 297) (by decide +kernel)) rfl
theorem q_298 : (.instanceMethod yX4_allFresh : Cond) ∈ TB := tb_in (List.mem_of_getElem? (i := 298) (by decide +kernel)) rfl
theorem q_299 : (.selects RX4 yX4_allFresh yX4_allFresh : Cond) ∈ TB := tb_in (List.mem_of_getElem? (i := 299) (by decide +kernel)) rfl
theorem q_300 : (.code yX4_allFresh cX4_allFresh 3 (Option.some Jvm.ClassFile.FieldType.int) : Cond) ∈ TB := tb_in (List.mem_of_getElem? (i := 300) (by decide +kernel)) rfl
theorem q_301 : (.methodLink RX6 230 yX5_allPortions : Cond) ∈ TB := tb_in (List.mem_of_getElem? (i := 301) (by decide +kernel)) rfl
theorem q_302 : (.instanceMethod yX5_allPortions : Cond) ∈ TB := tb_in (List.mem_of_getElem? (i := 302) (by decide +kernel)) rfl
theorem q_303 : (.selects RX5 yX5_allPortions yX5_allPortions : Cond) ∈ TB := tb_in (List.mem_of_getElem? (i := 303) (by decide +kernel)) rfl
theorem q_304 : (.code yX5_allPortions cX5_allPortions 3 (Option.some Jvm.ClassFile.FieldType.int) : Cond) ∈ TB := tb_in (List.mem_of_getElem? (i := 304) (by decide +kernel)) rfl
theorem q_305 : (.constant RX6 94 (-1000002) : Cond) ∈ TB := tb_in (List.mem_of_getElem? (i := 305) (by decide +kernel)) rfl
theorem q_306 : (.methodLink RL 106 yL_cell : Cond) ∈ TB := tb_in (List.mem_of_getElem? (i := 306) (by decide +kernel)) rfl
theorem q_307 : (.static yL_cell : Cond) ∈ TB := tb_in (List.mem_of_getElem? (i := 307) (by decide +kernel)) rfl
theorem q_308 : (.code yL_cell cL_cell 2 (Option.some Jvm.ClassFile.FieldType.int) : Cond) ∈ TB := tb_in (List.mem_append_right _ (List.mem_append_right _ (List.mem_append_left _ (List.mem_of_getElem? (i := 48) rfl)))) rfl
theorem q_309 : (.constant RL 7 (2751433) : Cond) ∈ TB := tb_in (List.mem_of_getElem? (i := 309) (by decide +kernel)) rfl
theorem q_310 : (.methodLink RL 37 yL_low : Cond) ∈ TB := tb_in (List.mem_of_getElem? (i := 310) (by decide +kernel)) rfl
theorem q_311 : (.static yL_low : Cond) ∈ TB := tb_in (List.mem_of_getElem? (i := 311) (by decide +kernel)) rfl
theorem q_312 : (.code yL_low cL_low 2 (Option.some Jvm.ClassFile.FieldType.int) : Cond) ∈ TB := tb_in (List.mem_append_right _ (List.mem_append_right _ (List.mem_append_left _ (List.mem_of_getElem? (i := 52) rfl)))) rfl
theorem q_313 : (.constant RL 8 (2147483647) : Cond) ∈ TB := tb_in (List.mem_of_getElem? (i := 313) (by decide +kernel)) rfl
theorem q_314 : (.methodLink RL 110 yL_tell : Cond) ∈ TB := tb_in (List.mem_of_getElem? (i := 314) (by decide +kernel)) rfl
theorem q_315 : (.static yL_tell : Cond) ∈ TB := tb_in (List.mem_of_getElem? (i := 315) (by decide +kernel)) rfl
theorem q_316 : (.code yL_tell cL_tell 3 (Option.some (Jvm.ClassFile.FieldType.array Jvm.ClassFile.FieldType.int)) : Cond) ∈ TB := tb_in (List.mem_append_right _ (List.mem_append_right _ (List.mem_append_left _ (List.mem_of_getElem? (i := 56) rfl)))) rfl
theorem q_317 : (.methodLink RL 15 yX6_coins : Cond) ∈ TB := tb_in (List.mem_of_getElem? (i := 317) (by decide +kernel)) rfl
theorem q_318 : (.instanceMethod yX6_coins : Cond) ∈ TB := tb_in (List.mem_of_getElem? (i := 318) (by decide +kernel)) rfl
theorem q_319 : (.selects RX6 yX6_coins yX6_coins : Cond) ∈ TB := tb_in (List.mem_of_getElem? (i := 319) (by decide +kernel)) rfl
theorem q_320 : (.code yX6_coins cX6_coins 2 (Option.some Jvm.ClassFile.FieldType.int) : Cond) ∈ TB := tb_in (List.mem_of_getElem? (i := 320) (by decide +kernel)) rfl
theorem q_321 : (.methodLink RX6 236 yX1_depositsHeld : Cond) ∈ TB := tb_in (List.mem_of_getElem? (i := 321) (by decide +kernel)) rfl
theorem q_322 : (.instanceMethod yX1_depositsHeld : Cond) ∈ TB := tb_in (List.mem_of_getElem? (i := 322) (by decide +kernel)) rfl
theorem q_323 : (.selects RX1 yX1_depositsHeld yX1_depositsHeld : Cond) ∈ TB := tb_in (List.mem_of_getElem? (i := 323) (by decide +kernel)) rfl
theorem q_324 : (.code yX1_depositsHeld cX1_depositsHeld 3 (Option.some Jvm.ClassFile.FieldType.int) : Cond) ∈ TB := tb_in (List.mem_of_getElem? (i := 324) (by decide +kernel)) rfl
theorem q_325 : (.methodLink RX1 60 yX1_holdsBeds : Cond) ∈ TB := tb_in (List.mem_of_getElem? (i := 325) (by decide +kernel)) rfl
theorem q_326 : (.instanceMethod yX1_holdsBeds : Cond) ∈ TB := tb_in (List.mem_of_getElem? (i := 326) (by decide +kernel)) rfl
theorem q_327 : (.selects RX1 yX1_holdsBeds yX1_holdsBeds : Cond) ∈ TB := tb_in (List.mem_of_getElem? (i := 327) (by decide +kernel)) rfl
theorem q_328 : (.code yX1_holdsBeds cX1_holdsBeds 2 (Option.some Jvm.ClassFile.FieldType.boolean) : Cond) ∈ TB := tb_in (List.mem_of_getElem? (i := 328) (by decide +kernel)) rfl
theorem q_329 : (.methodLink RL 18 yX6_booking : Cond) ∈ TB := tb_in (List.mem_of_getElem? (i := 329) (by decide +kernel)) rfl
theorem q_330 : (.instanceMethod yX6_booking : Cond) ∈ TB := tb_in (List.mem_of_getElem? (i := 330) (by decide +kernel)) rfl
theorem q_331 : (.selects RX6 yX6_booking yX6_booking : Cond) ∈ TB := tb_in (List.mem_of_getElem? (i := 331) (by decide +kernel)) rfl
theorem q_332 : (.code yX6_booking cX6_booking 4 (Option.some Jvm.ClassFile.FieldType.int) : Cond) ∈ TB := tb_in (List.mem_of_getElem? (i := 332) (by decide +kernel)) rfl
theorem q_333 : (.methodLink RX6 87 yX1_knows : Cond) ∈ TB := tb_in (List.mem_of_getElem? (i := 333) (by decide +kernel)) rfl
theorem q_334 : (.instanceMethod yX1_knows : Cond) ∈ TB := tb_in (List.mem_of_getElem? (i := 334) (by decide +kernel)) rfl
theorem q_335 : (.selects RX1 yX1_knows yX1_knows : Cond) ∈ TB := tb_in (List.mem_of_getElem? (i := 335) (by decide +kernel)) rfl
theorem q_336 : (.code yX1_knows cX1_knows 2 (Option.some Jvm.ClassFile.FieldType.boolean) : Cond) ∈ TB := tb_in (List.mem_of_getElem? (i := 336) (by decide +kernel)) rfl
theorem q_337 : (.constant RX6 93 (-1000001) : Cond) ∈ TB := tb_in (List.mem_of_getElem? (i := 337) (by decide +kernel)) rfl
theorem q_338 : (.methodLink RX6 101 yX1_end : Cond) ∈ TB := tb_in (List.mem_of_getElem? (i := 338) (by decide +kernel)) rfl
theorem q_339 : (.instanceMethod yX1_end : Cond) ∈ TB := tb_in (List.mem_of_getElem? (i := 339) (by decide +kernel)) rfl
theorem q_340 : (.selects RX1 yX1_end yX1_end : Cond) ∈ TB := tb_in (List.mem_of_getElem? (i := 340) (by decide +kernel)) rfl
theorem q_341 : (.code yX1_end cX1_end 2 (Option.some Jvm.ClassFile.FieldType.int) : Cond) ∈ TB := tb_in (List.mem_of_getElem? (i := 341) (by decide +kernel)) rfl
theorem q_342 : (.methodLink RX6 170 yX3_isStrandedNow : Cond) ∈ TB := tb_in (List.mem_of_getElem? (i := 342) (by decide +kernel)) rfl
theorem q_343 : (.instanceMethod yX3_isStrandedNow : Cond) ∈ TB := tb_in (List.mem_of_getElem? (i := 343) (by decide +kernel)) rfl
theorem q_344 : (.selects RX3 yX3_isStrandedNow yX3_isStrandedNow : Cond) ∈ TB := tb_in (List.mem_of_getElem? (i := 344) (by decide +kernel)) rfl
theorem q_345 : (.code yX3_isStrandedNow cX3_isStrandedNow 2 (Option.some Jvm.ClassFile.FieldType.boolean) : Cond) ∈ TB := tb_in (List.mem_of_getElem? (i := 345) (by decide +kernel)) rfl
theorem q_346 : (.methodLink RX3 134 yX1_isOver : Cond) ∈ TB := tb_in (List.mem_of_getElem? (i := 346) (by decide +kernel)) rfl
theorem q_347 : (.instanceMethod yX1_isOver : Cond) ∈ TB := tb_in (List.mem_of_getElem? (i := 347) (by decide +kernel)) rfl
theorem q_348 : (.selects RX1 yX1_isOver yX1_isOver : Cond) ∈ TB := tb_in (List.mem_of_getElem? (i := 348) (by decide +kernel)) rfl
theorem q_349 : (.code yX1_isOver cX1_isOver 3 (Option.some Jvm.ClassFile.FieldType.boolean) : Cond) ∈ TB := tb_in (List.mem_of_getElem? (i := 349) (by decide +kernel)) rfl
theorem q_350 : (.methodLink RX1 44 yX1_end : Cond) ∈ TB := tb_in (List.mem_of_getElem? (i := 350) (by decide +kernel)) rfl
theorem q_351 : (.methodLink RX3 137 yX3_isDownOpen : Cond) ∈ TB := tb_in (List.mem_of_getElem? (i := 351) (by decide +kernel)) rfl
theorem q_352 : (.instanceMethod yX3_isDownOpen : Cond) ∈ TB := tb_in (List.mem_of_getElem? (i := 352) (by decide +kernel)) rfl
theorem q_353 : (.selects RX3 yX3_isDownOpen yX3_isDownOpen : Cond) ∈ TB := tb_in (List.mem_of_getElem? (i := 353) (by decide +kernel)) rfl
theorem q_354 : (.code yX3_isDownOpen cX3_isDownOpen 1 (Option.some Jvm.ClassFile.FieldType.boolean) : Cond) ∈ TB := tb_in (List.mem_of_getElem? (i := 354) (by decide +kernel)) rfl
theorem q_355 : (.methodLink RX3 78 yX3_weatherOf : Cond) ∈ TB := tb_in (List.mem_of_getElem? (i := 355) (by decide +kernel)) rfl
theorem q_356 : (.instanceMethod yX3_weatherOf : Cond) ∈ TB := tb_in (List.mem_of_getElem? (i := 356) (by decide +kernel)) rfl
theorem q_357 : (.selects RX3 yX3_weatherOf yX3_weatherOf : Cond) ∈ TB := tb_in (List.mem_of_getElem? (i := 357) (by decide +kernel)) rfl
theorem q_358 : (.code yX3_weatherOf cX3_weatherOf 2 (Option.some Jvm.ClassFile.FieldType.int) : Cond) ∈ TB := tb_in (List.mem_of_getElem? (i := 358) (by decide +kernel)) rfl
theorem q_359 : (.methodLink RL 118 yL_same : Cond) ∈ TB := tb_in (List.mem_of_getElem? (i := 359) (by decide +kernel)) rfl
theorem q_360 : (.static yL_same : Cond) ∈ TB := tb_in (List.mem_of_getElem? (i := 360) (by decide +kernel)) rfl
theorem q_361 : (.code yL_same cL_same 3 (Option.some Jvm.ClassFile.FieldType.boolean) : Cond) ∈ TB := tb_in (List.mem_append_right _ (List.mem_append_right _ (List.mem_append_left _ (List.mem_of_getElem? (i := 101) rfl)))) rfl
theorem q_362 : (.methodLink RL 122 yL_sums : Cond) ∈ TB := tb_in (List.mem_of_getElem? (i := 362) (by decide +kernel)) rfl
theorem q_363 : (.static yL_sums : Cond) ∈ TB := tb_in (List.mem_of_getElem? (i := 363) (by decide +kernel)) rfl
theorem q_364 : (.code yL_sums cL_sums 11 (Option.some Jvm.ClassFile.FieldType.boolean) : Cond) ∈ TB := tb_in (List.mem_append_right _ (List.mem_append_right _ (List.mem_append_left _ (List.mem_of_getElem? (i := 104) rfl)))) rfl
theorem q_365 : (.methodLink RL 22 yX6_refund : Cond) ∈ TB := tb_in (List.mem_of_getElem? (i := 365) (by decide +kernel)) rfl
theorem q_366 : (.instanceMethod yX6_refund : Cond) ∈ TB := tb_in (List.mem_of_getElem? (i := 366) (by decide +kernel)) rfl
theorem q_367 : (.selects RX6 yX6_refund yX6_refund : Cond) ∈ TB := tb_in (List.mem_of_getElem? (i := 367) (by decide +kernel)) rfl
theorem q_368 : (.code yX6_refund cX6_refund 3 (Option.some Jvm.ClassFile.FieldType.int) : Cond) ∈ TB := tb_in (List.mem_of_getElem? (i := 368) (by decide +kernel)) rfl
theorem q_369 : (.methodLink RX6 76 yX6_errorUnlessBooked : Cond) ∈ TB := tb_in (List.mem_of_getElem? (i := 369) (by decide +kernel)) rfl
theorem q_371 : (.instanceMethod yX6_errorUnlessBooked : Cond) ∈ TB := tb_in (List.mem_of_getElem? (i := 371) (by decide +kernel)) rfl
theorem q_372 : (.code yX6_errorUnlessBooked cX6_errorUnlessBooked 2 (Option.some Jvm.ClassFile.FieldType.int) : Cond) ∈ TB := tb_in (List.mem_of_getElem? (i := 372) (by decide +kernel)) rfl
theorem q_373 : (.constant RX6 99 (-1000004) : Cond) ∈ TB := tb_in (List.mem_of_getElem? (i := 373) (by decide +kernel)) rfl
theorem q_374 : (.methodLink RX6 250 yX3_refundOf : Cond) ∈ TB := tb_in (List.mem_of_getElem? (i := 374) (by decide +kernel)) rfl
theorem q_375 : (.instanceMethod yX3_refundOf : Cond) ∈ TB := tb_in (List.mem_of_getElem? (i := 375) (by decide +kernel)) rfl
theorem q_376 : (.selects RX3 yX3_refundOf yX3_refundOf : Cond) ∈ TB := tb_in (List.mem_of_getElem? (i := 376) (by decide +kernel)) rfl
theorem q_377 : (.code yX3_refundOf cX3_refundOf 4 (Option.some Jvm.ClassFile.FieldType.int) : Cond) ∈ TB := tb_in (List.mem_of_getElem? (i := 377) (by decide +kernel)) rfl
theorem q_378 : (.methodLink RX3 112 yX3_isUpOpen : Cond) ∈ TB := tb_in (List.mem_of_getElem? (i := 378) (by decide +kernel)) rfl
theorem q_379 : (.instanceMethod yX3_isUpOpen : Cond) ∈ TB := tb_in (List.mem_of_getElem? (i := 379) (by decide +kernel)) rfl
theorem q_380 : (.selects RX3 yX3_isUpOpen yX3_isUpOpen : Cond) ∈ TB := tb_in (List.mem_of_getElem? (i := 380) (by decide +kernel)) rfl
theorem q_381 : (.code yX3_isUpOpen cX3_isUpOpen 2 (Option.some Jvm.ClassFile.FieldType.boolean) : Cond) ∈ TB := tb_in (List.mem_of_getElem? (i := 381) (by decide +kernel)) rfl
theorem q_382 : (.constant RL 25 (-1000004) : Cond) ∈ TB := tb_in (List.mem_of_getElem? (i := 382) (by decide +kernel)) rfl
theorem q_383 : (.methodLink RL 26 yX6_day : Cond) ∈ TB := tb_in (List.mem_of_getElem? (i := 383) (by decide +kernel)) rfl
theorem q_384 : (.instanceMethod yX6_day : Cond) ∈ TB := tb_in (List.mem_of_getElem? (i := 384) (by decide +kernel)) rfl
theorem q_385 : (.selects RX6 yX6_day yX6_day : Cond) ∈ TB := tb_in (List.mem_of_getElem? (i := 385) (by decide +kernel)) rfl
theorem q_386 : (.code yX6_day cX6_day 3 (Option.some Jvm.ClassFile.FieldType.int) : Cond) ∈ TB := tb_in (List.mem_of_getElem? (i := 386) (by decide +kernel)) rfl
theorem q_387 : (.methodLink RX6 179 yX1_bedsTakenIn : Cond) ∈ TB := tb_in (List.mem_of_getElem? (i := 387) (by decide +kernel)) rfl
theorem q_388 : (.instanceMethod yX1_bedsTakenIn : Cond) ∈ TB := tb_in (List.mem_of_getElem? (i := 388) (by decide +kernel)) rfl
theorem q_389 : (.selects RX1 yX1_bedsTakenIn yX1_bedsTakenIn : Cond) ∈ TB := tb_in (List.mem_of_getElem? (i := 389) (by decide +kernel)) rfl
theorem q_390 : (.code yX1_bedsTakenIn cX1_bedsTakenIn 2 (Option.some Jvm.ClassFile.FieldType.int) : Cond) ∈ TB := tb_in (List.mem_of_getElem? (i := 390) (by decide +kernel)) rfl
theorem q_391 : (.methodLink RX1 48 yX1_bedsTakenFrom : Cond) ∈ TB := tb_in (List.mem_of_getElem? (i := 391) (by decide +kernel)) rfl
theorem q_392 : (.instanceMethod yX1_bedsTakenFrom : Cond) ∈ TB := tb_in (List.mem_of_getElem? (i := 392) (by decide +kernel)) rfl
theorem q_393 : (.selects RX1 yX1_bedsTakenFrom yX1_bedsTakenFrom : Cond) ∈ TB := tb_in (List.mem_of_getElem? (i := 393) (by decide +kernel)) rfl
theorem q_394 : (.code yX1_bedsTakenFrom cX1_bedsTakenFrom 6 (Option.some Jvm.ClassFile.FieldType.int) : Cond) ∈ TB := tb_in (List.mem_of_getElem? (i := 394) (by decide +kernel)) rfl
theorem q_395 : (.methodLink RX1 52 yJ9_min_7cf53 : Cond) ∈ TB := tb_in (List.mem_of_getElem? (i := 395) (by decide +kernel)) rfl
theorem q_396 : (.static yJ9_min_7cf53 : Cond) ∈ TB := tb_in (List.mem_of_getElem? (i := 396) (by decide +kernel)) rfl
theorem q_397 : (.code yJ9_min_7cf53 cJ9_min_7cf53 2 (Option.some Jvm.ClassFile.FieldType.int) : Cond) ∈ TB := tb_in (List.mem_of_getElem? (i := 397) (by decide +kernel)) rfl
theorem q_398 : (.methodLink RX1 57 yJ9_max_7cf53 : Cond) ∈ TB := tb_in (List.mem_of_getElem? (i := 398) (by decide +kernel)) rfl
theorem q_399 : (.methodLink RX6 182 yX3_weatherOf : Cond) ∈ TB := tb_in (List.mem_of_getElem? (i := 399) (by decide +kernel)) rfl
theorem q_400 : (.methodLink RX6 185 yX1_arrivingOn : Cond) ∈ TB := tb_in (List.mem_of_getElem? (i := 400) (by decide +kernel)) rfl
theorem q_401 : (.instanceMethod yX1_arrivingOn : Cond) ∈ TB := tb_in (List.mem_of_getElem? (i := 401) (by decide +kernel)) rfl
theorem q_402 : (.selects RX1 yX1_arrivingOn yX1_arrivingOn : Cond) ∈ TB := tb_in (List.mem_of_getElem? (i := 402) (by decide +kernel)) rfl
theorem q_403 : (.code yX1_arrivingOn cX1_arrivingOn 4 (Option.some Jvm.ClassFile.FieldType.int) : Cond) ∈ TB := tb_in (List.mem_of_getElem? (i := 403) (by decide +kernel)) rfl
theorem q_404 : (.methodLink RX6 188 yX1_endingOn : Cond) ∈ TB := tb_in (List.mem_of_getElem? (i := 404) (by decide +kernel)) rfl
theorem q_405 : (.instanceMethod yX1_endingOn : Cond) ∈ TB := tb_in (List.mem_of_getElem? (i := 405) (by decide +kernel)) rfl
theorem q_406 : (.selects RX1 yX1_endingOn yX1_endingOn : Cond) ∈ TB := tb_in (List.mem_of_getElem? (i := 406) (by decide +kernel)) rfl
theorem q_407 : (.code yX1_endingOn cX1_endingOn 4 (Option.some Jvm.ClassFile.FieldType.int) : Cond) ∈ TB := tb_in (List.mem_of_getElem? (i := 407) (by decide +kernel)) rfl
theorem q_408 : (.methodLink RL 29 yX6_fullest : Cond) ∈ TB := tb_in (List.mem_of_getElem? (i := 408) (by decide +kernel)) rfl
theorem q_409 : (.instanceMethod yX6_fullest : Cond) ∈ TB := tb_in (List.mem_of_getElem? (i := 409) (by decide +kernel)) rfl
theorem q_410 : (.selects RX6 yX6_fullest yX6_fullest : Cond) ∈ TB := tb_in (List.mem_of_getElem? (i := 410) (by decide +kernel)) rfl
theorem q_411 : (.code yX6_fullest cX6_fullest 4 (Option.some Jvm.ClassFile.FieldType.int) : Cond) ∈ TB := tb_in (List.mem_of_getElem? (i := 411) (by decide +kernel)) rfl
theorem q_412 : (.methodLink RX6 256 yX1_fillBedsTaken : Cond) ∈ TB := tb_in (List.mem_of_getElem? (i := 412) (by decide +kernel)) rfl
theorem q_413 : (.instanceMethod yX1_fillBedsTaken : Cond) ∈ TB := tb_in (List.mem_of_getElem? (i := 413) (by decide +kernel)) rfl
theorem q_414 : (.selects RX1 yX1_fillBedsTaken yX1_fillBedsTaken : Cond) ∈ TB := tb_in (List.mem_of_getElem? (i := 414) (by decide +kernel)) rfl
theorem q_415 : (.code yX1_fillBedsTaken cX1_fillBedsTaken 4 (Option.none : Option Jvm.ClassFile.FieldType) : Cond) ∈ TB := tb_in (List.mem_of_getElem? (i := 415) (by decide +kernel)) rfl
theorem q_416 : (.methodLink RX1 64 yJ7_fill_53178 : Cond) ∈ TB := tb_in (List.mem_of_getElem? (i := 416) (by decide +kernel)) rfl
theorem q_417 : (.static yJ7_fill_53178 : Cond) ∈ TB := tb_in (List.mem_of_getElem? (i := 417) (by decide +kernel)) rfl
theorem q_418 : (.code yJ7_fill_53178 cJ7_fill_53178 4 (Option.none : Option Jvm.ClassFile.FieldType) : Cond) ∈ TB := tb_in (List.mem_of_getElem? (i := 418) (by decide +kernel)) rfl
theorem q_419 : (.methodLink RL 33 yX6_use : Cond) ∈ TB := tb_in (List.mem_of_getElem? (i := 419) (by decide +kernel)) rfl
theorem q_420 : (.instanceMethod yX6_use : Cond) ∈ TB := tb_in (List.mem_of_getElem? (i := 420) (by decide +kernel)) rfl
theorem q_421 : (.selects RX6 yX6_use yX6_use : Cond) ∈ TB := tb_in (List.mem_of_getElem? (i := 421) (by decide +kernel)) rfl
theorem q_422 : (.code yX6_use cX6_use 6 (Option.some Jvm.ClassFile.FieldType.double) : Cond) ∈ TB := tb_in (List.mem_of_getElem? (i := 422) (by decide +kernel)) rfl
theorem q_424 : (.methodLink RX6 247 yX1_bedsTakenFrom : Cond) ∈ TB := tb_in (List.mem_of_getElem? (i := 424) (by decide +kernel)) rfl
theorem q_425 : (.methodLink RL 126 yL_would : Cond) ∈ TB := tb_in (List.mem_of_getElem? (i := 425) (by decide +kernel)) rfl
theorem q_426 : (.static yL_would : Cond) ∈ TB := tb_in (List.mem_of_getElem? (i := 426) (by decide +kernel)) rfl
theorem q_427 : (.code yL_would cL_would 14 (Option.some Jvm.ClassFile.FieldType.boolean) : Cond) ∈ TB := tb_in (List.mem_append_right _ (List.mem_append_right _ (List.mem_append_left _ (List.mem_of_getElem? (i := 167) rfl)))) rfl
theorem q_428 : (.methodLink RL 42 yX6_firstFree : Cond) ∈ TB := tb_in (List.mem_of_getElem? (i := 428) (by decide +kernel)) rfl
theorem q_429 : (.instanceMethod yX6_firstFree : Cond) ∈ TB := tb_in (List.mem_of_getElem? (i := 429) (by decide +kernel)) rfl
theorem q_430 : (.selects RX6 yX6_firstFree yX6_firstFree : Cond) ∈ TB := tb_in (List.mem_of_getElem? (i := 430) (by decide +kernel)) rfl
theorem q_431 : (.code yX6_firstFree cX6_firstFree 6 (Option.some Jvm.ClassFile.FieldType.int) : Cond) ∈ TB := tb_in (List.mem_of_getElem? (i := 431) (by decide +kernel)) rfl
theorem q_432 : (.methodLink RX6 253 yX6_areNightsAndPersons : Cond) ∈ TB := tb_in (List.mem_of_getElem? (i := 432) (by decide +kernel)) rfl
theorem q_433 : (.static yX6_areNightsAndPersons : Cond) ∈ TB := tb_in (List.mem_of_getElem? (i := 433) (by decide +kernel)) rfl
theorem q_434 : (.code yX6_areNightsAndPersons cX6_areNightsAndPersons 2 (Option.some Jvm.ClassFile.FieldType.boolean) : Cond) ∈ TB := tb_in (List.mem_of_getElem? (i := 434) (by decide +kernel)) rfl
theorem q_435 : (.methodLink RL 45 yX6_book : Cond) ∈ TB := tb_in (List.mem_of_getElem? (i := 435) (by decide +kernel)) rfl
theorem q_436 : (.instanceMethod yX6_book : Cond) ∈ TB := tb_in (List.mem_of_getElem? (i := 436) (by decide +kernel)) rfl
theorem q_437 : (.selects RX6 yX6_book yX6_book : Cond) ∈ TB := tb_in (List.mem_of_getElem? (i := 437) (by decide +kernel)) rfl
theorem q_438 : (.code yX6_book cX6_book 5 (Option.some Jvm.ClassFile.FieldType.int) : Cond) ∈ TB := tb_in (List.mem_of_getElem? (i := 438) (by decide +kernel)) rfl
theorem q_439 : (.methodLink RX6 44 yX3_bookingError : Cond) ∈ TB := tb_in (List.mem_of_getElem? (i := 439) (by decide +kernel)) rfl
theorem q_440 : (.instanceMethod yX3_bookingError : Cond) ∈ TB := tb_in (List.mem_of_getElem? (i := 440) (by decide +kernel)) rfl
theorem q_441 : (.selects RX3 yX3_bookingError yX3_bookingError : Cond) ∈ TB := tb_in (List.mem_of_getElem? (i := 441) (by decide +kernel)) rfl
theorem q_442 : (.code yX3_bookingError cX3_bookingError 4 (Option.some Jvm.ClassFile.FieldType.int) : Cond) ∈ TB := tb_in (List.mem_of_getElem? (i := 442) (by decide +kernel)) rfl
theorem q_443 : (.methodLinkNest RX3 88 yX6_areNightsAndPersons "HutBookings" : Cond) ∈ lw_tbl := List.mem_of_getElem? (i := 443) (by decide +kernel)
theorem q_444 : (.constant RX3 92 (-1000002) : Cond) ∈ TB := tb_in (List.mem_of_getElem? (i := 444) (by decide +kernel)) rfl
theorem q_445 : (.methodLink RX3 93 yX3_hasBeds : Cond) ∈ TB := tb_in (List.mem_of_getElem? (i := 445) (by decide +kernel)) rfl
theorem q_446 : (.instanceMethod yX3_hasBeds : Cond) ∈ TB := tb_in (List.mem_of_getElem? (i := 446) (by decide +kernel)) rfl
theorem q_447 : (.selects RX3 yX3_hasBeds yX3_hasBeds : Cond) ∈ TB := tb_in (List.mem_of_getElem? (i := 447) (by decide +kernel)) rfl
theorem q_448 : (.code yX3_hasBeds cX3_hasBeds 5 (Option.some Jvm.ClassFile.FieldType.boolean) : Cond) ∈ TB := tb_in (List.mem_of_getElem? (i := 448) (by decide +kernel)) rfl
theorem q_449 : (.methodLink RX3 106 yX1_bedsTakenIn : Cond) ∈ TB := tb_in (List.mem_of_getElem? (i := 449) (by decide +kernel)) rfl
theorem q_450 : (.constant RX3 97 (-1000004) : Cond) ∈ TB := tb_in (List.mem_of_getElem? (i := 450) (by decide +kernel)) rfl
theorem q_451 : (.constant RX3 101 (-1000003) : Cond) ∈ TB := tb_in (List.mem_of_getElem? (i := 451) (by decide +kernel)) rfl
theorem q_452 : (.methodLink RX6 48 yX2_remember : Cond) ∈ TB := tb_in (List.mem_of_getElem? (i := 452) (by decide +kernel)) rfl
theorem q_453 : (.instanceMethod yX2_remember : Cond) ∈ TB := tb_in (List.mem_of_getElem? (i := 453) (by decide +kernel)) rfl
theorem q_454 : (.selects RX2 yX2_remember yX2_remember : Cond) ∈ TB := tb_in (List.mem_of_getElem? (i := 454) (by decide +kernel)) rfl
theorem q_455 : (.code yX2_remember cX2_remember 2 (Option.none : Option Jvm.ClassFile.FieldType) : Cond) ∈ TB := tb_in (List.mem_of_getElem? (i := 455) (by decide +kernel)) rfl
theorem q_456 : (.methodLink RX2 22 yX2_dropOldest : Cond) ∈ TB := tb_in (List.mem_of_getElem? (i := 456) (by decide +kernel)) rfl
theorem q_458 : (.instanceMethod yX2_dropOldest : Cond) ∈ TB := tb_in (List.mem_of_getElem? (i := 458) (by decide +kernel)) rfl
theorem q_459 : (.code yX2_dropOldest cX2_dropOldest 3 (Option.none : Option Jvm.ClassFile.FieldType) : Cond) ∈ TB := tb_in (List.mem_of_getElem? (i := 459) (by decide +kernel)) rfl
theorem q_460 : (.methodLink RX6 52 yX3_addBooking : Cond) ∈ TB := tb_in (List.mem_of_getElem? (i := 460) (by decide +kernel)) rfl
theorem q_461 : (.instanceMethod yX3_addBooking : Cond) ∈ TB := tb_in (List.mem_of_getElem? (i := 461) (by decide +kernel)) rfl
theorem q_462 : (.selects RX3 yX3_addBooking yX3_addBooking : Cond) ∈ TB := tb_in (List.mem_of_getElem? (i := 462) (by decide +kernel)) rfl
theorem q_463 : (.code yX3_addBooking cX3_addBooking 5 (Option.some Jvm.ClassFile.FieldType.int) : Cond) ∈ TB := tb_in (List.mem_of_getElem? (i := 463) (by decide +kernel)) rfl
theorem q_464 : (.methodLink RX3 102 yX1_add : Cond) ∈ TB := tb_in (List.mem_of_getElem? (i := 464) (by decide +kernel)) rfl
theorem q_465 : (.instanceMethod yX1_add : Cond) ∈ TB := tb_in (List.mem_of_getElem? (i := 465) (by decide +kernel)) rfl
theorem q_466 : (.selects RX1 yX1_add yX1_add : Cond) ∈ TB := tb_in (List.mem_of_getElem? (i := 466) (by decide +kernel)) rfl
theorem q_467 : (.code yX1_add cX1_add 5 (Option.some Jvm.ClassFile.FieldType.int) : Cond) ∈ TB := tb_in (List.mem_of_getElem? (i := 467) (by decide +kernel)) rfl
theorem q_468 : (.constant RX1 43 (-1000003) : Cond) ∈ TB := tb_in (List.mem_of_getElem? (i := 468) (by decide +kernel)) rfl
theorem q_469 : (.methodLink RL 52 yX6_hungryIn : Cond) ∈ TB := tb_in (List.mem_of_getElem? (i := 469) (by decide +kernel)) rfl
theorem q_470 : (.instanceMethod yX6_hungryIn : Cond) ∈ TB := tb_in (List.mem_of_getElem? (i := 470) (by decide +kernel)) rfl
theorem q_471 : (.selects RX6 yX6_hungryIn yX6_hungryIn : Cond) ∈ TB := tb_in (List.mem_of_getElem? (i := 471) (by decide +kernel)) rfl
theorem q_472 : (.code yX6_hungryIn cX6_hungryIn 2 (Option.some Jvm.ClassFile.FieldType.int) : Cond) ∈ TB := tb_in (List.mem_of_getElem? (i := 472) (by decide +kernel)) rfl
theorem q_473 : (.methodLink RX6 60 yX3_copyFrom : Cond) ∈ TB := tb_in (List.mem_of_getElem? (i := 473) (by decide +kernel)) rfl
theorem q_474 : (.methodLink RX6 137 yX3_passDay : Cond) ∈ TB := tb_in (List.mem_of_getElem? (i := 474) (by decide +kernel)) rfl
theorem q_475 : (.instanceMethod yX3_passDay : Cond) ∈ TB := tb_in (List.mem_of_getElem? (i := 475) (by decide +kernel)) rfl
theorem q_476 : (.selects RX3 yX3_passDay yX3_passDay : Cond) ∈ TB := tb_in (List.mem_of_getElem? (i := 476) (by decide +kernel)) rfl
theorem q_477 : (.code yX3_passDay cX3_passDay 1 (Option.none : Option Jvm.ClassFile.FieldType) : Cond) ∈ TB := tb_in (List.mem_of_getElem? (i := 477) (by decide +kernel)) rfl
theorem q_478 : (.methodLink RX3 141 yX3_beginDay : Cond) ∈ TB := tb_in (List.mem_of_getElem? (i := 478) (by decide +kernel)) rfl
theorem q_479 : (.instanceMethod yX3_beginDay : Cond) ∈ TB := tb_in (List.mem_of_getElem? (i := 479) (by decide +kernel)) rfl
theorem q_480 : (.selects RX3 yX3_beginDay yX3_beginDay : Cond) ∈ TB := tb_in (List.mem_of_getElem? (i := 480) (by decide +kernel)) rfl
theorem q_481 : (.code yX3_beginDay cX3_beginDay 1 (Option.none : Option Jvm.ClassFile.FieldType) : Cond) ∈ TB := tb_in (List.mem_of_getElem? (i := 481) (by decide +kernel)) rfl
theorem q_482 : (.methodLink RX3 153 yX4_throwSpoiltAway : Cond) ∈ TB := tb_in (List.mem_of_getElem? (i := 482) (by decide +kernel)) rfl
theorem q_483 : (.instanceMethod yX4_throwSpoiltAway : Cond) ∈ TB := tb_in (List.mem_of_getElem? (i := 483) (by decide +kernel)) rfl
theorem q_484 : (.selects RX4 yX4_throwSpoiltAway yX4_throwSpoiltAway : Cond) ∈ TB := tb_in (List.mem_of_getElem? (i := 484) (by decide +kernel)) rfl
theorem q_485 : (.code yX4_throwSpoiltAway cX4_throwSpoiltAway 6 (Option.some Jvm.ClassFile.FieldType.int) : Cond) ∈ TB := tb_in (List.mem_of_getElem? (i := 485) (by decide +kernel)) rfl
theorem q_486 : (.methodLink RX4 31 yX4_slotOf : Cond) ∈ TB := tb_in (List.mem_of_getElem? (i := 486) (by decide +kernel)) rfl
theorem q_487 : (.static yX4_slotOf : Cond) ∈ TB := tb_in (List.mem_of_getElem? (i := 487) (by decide +kernel)) rfl
theorem q_488 : (.code yX4_slotOf cX4_slotOf 1 (Option.some Jvm.ClassFile.FieldType.int) : Cond) ∈ TB := tb_in (List.mem_of_getElem? (i := 488) (by decide +kernel)) rfl
theorem q_489 : (.methodLink RX4 25 yJ9_floorMod_7cf53 : Cond) ∈ TB := tb_in (List.mem_of_getElem? (i := 489) (by decide +kernel)) rfl
theorem q_490 : (.static yJ9_floorMod_7cf53 : Cond) ∈ TB := tb_in (List.mem_of_getElem? (i := 490) (by decide +kernel)) rfl
theorem q_491 : (.code yJ9_floorMod_7cf53 cJ9_floorMod_7cf53 3 (Option.some Jvm.ClassFile.FieldType.int) : Cond) ∈ TB := tb_in (List.mem_of_getElem? (i := 491) (by decide +kernel)) rfl
theorem q_492 : (.methodLink RX3 156 yX3_letGroupsLeave : Cond) ∈ TB := tb_in (List.mem_of_getElem? (i := 492) (by decide +kernel)) rfl
theorem q_494 : (.instanceMethod yX3_letGroupsLeave : Cond) ∈ TB := tb_in (List.mem_of_getElem? (i := 494) (by decide +kernel)) rfl
theorem q_495 : (.code yX3_letGroupsLeave cX3_letGroupsLeave 2 (Option.none : Option Jvm.ClassFile.FieldType) : Cond) ∈ TB := tb_in (List.mem_of_getElem? (i := 495) (by decide +kernel)) rfl
theorem q_496 : (.methodLink RX3 175 yX3_letLeave : Cond) ∈ TB := tb_in (List.mem_of_getElem? (i := 496) (by decide +kernel)) rfl
theorem q_498 : (.instanceMethod yX3_letLeave : Cond) ∈ TB := tb_in (List.mem_of_getElem? (i := 498) (by decide +kernel)) rfl
theorem q_499 : (.code yX3_letLeave cX3_letLeave 3 (Option.none : Option Jvm.ClassFile.FieldType) : Cond) ∈ TB := tb_in (List.mem_of_getElem? (i := 499) (by decide +kernel)) rfl
theorem q_500 : (.methodLink RX3 125 yX1_end : Cond) ∈ TB := tb_in (List.mem_of_getElem? (i := 500) (by decide +kernel)) rfl
theorem q_501 : (.methodLink RX3 159 yX3_turnLateOnesAway : Cond) ∈ TB := tb_in (List.mem_of_getElem? (i := 501) (by decide +kernel)) rfl
theorem q_503 : (.instanceMethod yX3_turnLateOnesAway : Cond) ∈ TB := tb_in (List.mem_of_getElem? (i := 503) (by decide +kernel)) rfl
theorem q_504 : (.code yX3_turnLateOnesAway cX3_turnLateOnesAway 2 (Option.none : Option Jvm.ClassFile.FieldType) : Cond) ∈ TB := tb_in (List.mem_of_getElem? (i := 504) (by decide +kernel)) rfl
theorem q_505 : (.methodLink RX3 181 yX3_turnAway : Cond) ∈ TB := tb_in (List.mem_of_getElem? (i := 505) (by decide +kernel)) rfl
theorem q_507 : (.instanceMethod yX3_turnAway : Cond) ∈ TB := tb_in (List.mem_of_getElem? (i := 507) (by decide +kernel)) rfl
theorem q_508 : (.code yX3_turnAway cX3_turnAway 2 (Option.none : Option Jvm.ClassFile.FieldType) : Cond) ∈ TB := tb_in (List.mem_of_getElem? (i := 508) (by decide +kernel)) rfl
theorem q_509 : (.methodLink RX3 162 yX3_letGroupsCome : Cond) ∈ TB := tb_in (List.mem_of_getElem? (i := 509) (by decide +kernel)) rfl
theorem q_511 : (.instanceMethod yX3_letGroupsCome : Cond) ∈ TB := tb_in (List.mem_of_getElem? (i := 511) (by decide +kernel)) rfl
theorem q_512 : (.code yX3_letGroupsCome cX3_letGroupsCome 4 (Option.none : Option Jvm.ClassFile.FieldType) : Cond) ∈ TB := tb_in (List.mem_of_getElem? (i := 512) (by decide +kernel)) rfl
theorem q_513 : (.methodLink RX3 184 yX1_personsThere : Cond) ∈ TB := tb_in (List.mem_of_getElem? (i := 513) (by decide +kernel)) rfl
theorem q_514 : (.methodLink RX3 165 yX3_bring : Cond) ∈ TB := tb_in (List.mem_of_getElem? (i := 514) (by decide +kernel)) rfl
theorem q_516 : (.instanceMethod yX3_bring : Cond) ∈ TB := tb_in (List.mem_of_getElem? (i := 516) (by decide +kernel)) rfl
theorem q_517 : (.code yX3_bring cX3_bring 6 (Option.none : Option Jvm.ClassFile.FieldType) : Cond) ∈ TB := tb_in (List.mem_of_getElem? (i := 517) (by decide +kernel)) rfl
theorem q_518 : (.methodLink RX3 194 yX5_takeFromFirst : Cond) ∈ TB := tb_in (List.mem_of_getElem? (i := 518) (by decide +kernel)) rfl
theorem q_519 : (.instanceMethod yX5_takeFromFirst : Cond) ∈ TB := tb_in (List.mem_of_getElem? (i := 519) (by decide +kernel)) rfl
theorem q_520 : (.selects RX5 yX5_takeFromFirst yX5_takeFromFirst : Cond) ∈ TB := tb_in (List.mem_of_getElem? (i := 520) (by decide +kernel)) rfl
theorem q_521 : (.code yX5_takeFromFirst cX5_takeFromFirst 3 (Option.some Jvm.ClassFile.FieldType.int) : Cond) ∈ TB := tb_in (List.mem_of_getElem? (i := 521) (by decide +kernel)) rfl
theorem q_522 : (.methodLink RX5 28 yJ9_min_7cf53 : Cond) ∈ TB := tb_in (List.mem_of_getElem? (i := 522) (by decide +kernel)) rfl
theorem q_523 : (.methodLink RX5 34 yX5_removeFirst : Cond) ∈ TB := tb_in (List.mem_of_getElem? (i := 523) (by decide +kernel)) rfl
theorem q_525 : (.instanceMethod yX5_removeFirst : Cond) ∈ TB := tb_in (List.mem_of_getElem? (i := 525) (by decide +kernel)) rfl
theorem q_526 : (.code yX5_removeFirst cX5_removeFirst 2 (Option.none : Option Jvm.ClassFile.FieldType) : Cond) ∈ TB := tb_in (List.mem_of_getElem? (i := 526) (by decide +kernel)) rfl
theorem q_527 : (.methodLink RX3 197 yX4_store : Cond) ∈ TB := tb_in (List.mem_of_getElem? (i := 527) (by decide +kernel)) rfl
theorem q_528 : (.instanceMethod yX4_store : Cond) ∈ TB := tb_in (List.mem_of_getElem? (i := 528) (by decide +kernel)) rfl
theorem q_529 : (.selects RX4 yX4_store yX4_store : Cond) ∈ TB := tb_in (List.mem_of_getElem? (i := 529) (by decide +kernel)) rfl
theorem q_530 : (.code yX4_store cX4_store 4 (Option.none : Option Jvm.ClassFile.FieldType) : Cond) ∈ TB := tb_in (List.mem_of_getElem? (i := 530) (by decide +kernel)) rfl
theorem q_531 : (.methodLink RX3 144 yX3_isWindy : Cond) ∈ TB := tb_in (List.mem_of_getElem? (i := 531) (by decide +kernel)) rfl
theorem q_532 : (.instanceMethod yX3_isWindy : Cond) ∈ TB := tb_in (List.mem_of_getElem? (i := 532) (by decide +kernel)) rfl
theorem q_533 : (.selects RX3 yX3_isWindy yX3_isWindy : Cond) ∈ TB := tb_in (List.mem_of_getElem? (i := 533) (by decide +kernel)) rfl
theorem q_534 : (.code yX3_isWindy cX3_isWindy 1 (Option.some Jvm.ClassFile.FieldType.boolean) : Cond) ∈ TB := tb_in (List.mem_of_getElem? (i := 534) (by decide +kernel)) rfl
theorem q_535 : (.methodLink RX3 147 yX3_fly : Cond) ∈ TB := tb_in (List.mem_of_getElem? (i := 535) (by decide +kernel)) rfl
theorem q_537 : (.instanceMethod yX3_fly : Cond) ∈ TB := tb_in (List.mem_of_getElem? (i := 537) (by decide +kernel)) rfl
theorem q_538 : (.code yX3_fly cX3_fly 1 (Option.none : Option Jvm.ClassFile.FieldType) : Cond) ∈ TB := tb_in (List.mem_of_getElem? (i := 538) (by decide +kernel)) rfl
theorem q_539 : (.methodLink RX3 201 yX3_fillSeats : Cond) ∈ TB := tb_in (List.mem_of_getElem? (i := 539) (by decide +kernel)) rfl
theorem q_540 : (.instanceMethod yX3_fillSeats : Cond) ∈ TB := tb_in (List.mem_of_getElem? (i := 540) (by decide +kernel)) rfl
theorem q_541 : (.selects RX3 yX3_fillSeats yX3_fillSeats : Cond) ∈ TB := tb_in (List.mem_of_getElem? (i := 541) (by decide +kernel)) rfl
theorem q_542 : (.code yX3_fillSeats cX3_fillSeats 4 (Option.some Jvm.ClassFile.FieldType.int) : Cond) ∈ TB := tb_in (List.mem_of_getElem? (i := 542) (by decide +kernel)) rfl
theorem q_543 : (.methodLink RX3 150 yX3_endDay : Cond) ∈ TB := tb_in (List.mem_of_getElem? (i := 543) (by decide +kernel)) rfl
theorem q_544 : (.instanceMethod yX3_endDay : Cond) ∈ TB := tb_in (List.mem_of_getElem? (i := 544) (by decide +kernel)) rfl
theorem q_545 : (.selects RX3 yX3_endDay yX3_endDay : Cond) ∈ TB := tb_in (List.mem_of_getElem? (i := 545) (by decide +kernel)) rfl
theorem q_546 : (.code yX3_endDay cX3_endDay 1 (Option.none : Option Jvm.ClassFile.FieldType) : Cond) ∈ TB := tb_in (List.mem_of_getElem? (i := 546) (by decide +kernel)) rfl
theorem q_547 : (.methodLink RX3 169 yX3_letAllEat : Cond) ∈ TB := tb_in (List.mem_of_getElem? (i := 547) (by decide +kernel)) rfl
theorem q_549 : (.instanceMethod yX3_letAllEat : Cond) ∈ TB := tb_in (List.mem_of_getElem? (i := 549) (by decide +kernel)) rfl
theorem q_550 : (.code yX3_letAllEat cX3_letAllEat 3 (Option.none : Option Jvm.ClassFile.FieldType) : Cond) ∈ TB := tb_in (List.mem_of_getElem? (i := 550) (by decide +kernel)) rfl
theorem q_551 : (.methodLink RX3 205 yX4_eat : Cond) ∈ TB := tb_in (List.mem_of_getElem? (i := 551) (by decide +kernel)) rfl
theorem q_552 : (.instanceMethod yX4_eat : Cond) ∈ TB := tb_in (List.mem_of_getElem? (i := 552) (by decide +kernel)) rfl
theorem q_553 : (.selects RX4 yX4_eat yX4_eat : Cond) ∈ TB := tb_in (List.mem_of_getElem? (i := 553) (by decide +kernel)) rfl
theorem q_554 : (.code yX4_eat cX4_eat 7 (Option.some Jvm.ClassFile.FieldType.int) : Cond) ∈ TB := tb_in (List.mem_of_getElem? (i := 554) (by decide +kernel)) rfl
theorem q_555 : (.methodLink RX4 39 yJ9_min_7cf53 : Cond) ∈ TB := tb_in (List.mem_of_getElem? (i := 555) (by decide +kernel)) rfl
theorem q_556 : (.methodLink RX3 172 yX3_letAllSleep : Cond) ∈ TB := tb_in (List.mem_of_getElem? (i := 556) (by decide +kernel)) rfl
theorem q_558 : (.instanceMethod yX3_letAllSleep : Cond) ∈ TB := tb_in (List.mem_of_getElem? (i := 558) (by decide +kernel)) rfl
theorem q_559 : (.code yX3_letAllSleep cX3_letAllSleep 2 (Option.none : Option Jvm.ClassFile.FieldType) : Cond) ∈ TB := tb_in (List.mem_of_getElem? (i := 559) (by decide +kernel)) rfl
theorem q_560 : (.methodLink RL 55 yX6_wanting : Cond) ∈ TB := tb_in (List.mem_of_getElem? (i := 560) (by decide +kernel)) rfl
theorem q_561 : (.instanceMethod yX6_wanting : Cond) ∈ TB := tb_in (List.mem_of_getElem? (i := 561) (by decide +kernel)) rfl
theorem q_562 : (.selects RX6 yX6_wanting yX6_wanting : Cond) ∈ TB := tb_in (List.mem_of_getElem? (i := 562) (by decide +kernel)) rfl
theorem q_563 : (.code yX6_wanting cX6_wanting 2 (Option.some Jvm.ClassFile.FieldType.int) : Cond) ∈ TB := tb_in (List.mem_of_getElem? (i := 563) (by decide +kernel)) rfl
theorem q_564 : (.methodLink RX6 260 yX6_passInTrial : Cond) ∈ TB := tb_in (List.mem_of_getElem? (i := 564) (by decide +kernel)) rfl
theorem q_566 : (.instanceMethod yX6_passInTrial : Cond) ∈ TB := tb_in (List.mem_of_getElem? (i := 566) (by decide +kernel)) rfl
theorem q_567 : (.code yX6_passInTrial cX6_passInTrial 3 (Option.none : Option Jvm.ClassFile.FieldType) : Cond) ∈ TB := tb_in (List.mem_of_getElem? (i := 567) (by decide +kernel)) rfl
theorem q_568 : (.methodLink RL 58 yX6_turnedAway : Cond) ∈ TB := tb_in (List.mem_of_getElem? (i := 568) (by decide +kernel)) rfl
theorem q_569 : (.instanceMethod yX6_turnedAway : Cond) ∈ TB := tb_in (List.mem_of_getElem? (i := 569) (by decide +kernel)) rfl
theorem q_570 : (.selects RX6 yX6_turnedAway yX6_turnedAway : Cond) ∈ TB := tb_in (List.mem_of_getElem? (i := 570) (by decide +kernel)) rfl
theorem q_571 : (.code yX6_turnedAway cX6_turnedAway 2 (Option.some Jvm.ClassFile.FieldType.int) : Cond) ∈ TB := tb_in (List.mem_of_getElem? (i := 571) (by decide +kernel)) rfl
theorem q_572 : (.methodLink RL 61 yX6_goneIn : Cond) ∈ TB := tb_in (List.mem_of_getElem? (i := 572) (by decide +kernel)) rfl
theorem q_573 : (.instanceMethod yX6_goneIn : Cond) ∈ TB := tb_in (List.mem_of_getElem? (i := 573) (by decide +kernel)) rfl
theorem q_574 : (.selects RX6 yX6_goneIn yX6_goneIn : Cond) ∈ TB := tb_in (List.mem_of_getElem? (i := 574) (by decide +kernel)) rfl
theorem q_575 : (.code yX6_goneIn cX6_goneIn 3 (Option.some Jvm.ClassFile.FieldType.int) : Cond) ∈ TB := tb_in (List.mem_of_getElem? (i := 575) (by decide +kernel)) rfl
theorem q_576 : (.methodLink RX6 264 yX1_holdsBeds : Cond) ∈ TB := tb_in (List.mem_of_getElem? (i := 576) (by decide +kernel)) rfl
theorem q_577 : (.methodLink RL 64 yX6_bestCall : Cond) ∈ TB := tb_in (List.mem_of_getElem? (i := 577) (by decide +kernel)) rfl
theorem q_578 : (.instanceMethod yX6_bestCall : Cond) ∈ TB := tb_in (List.mem_of_getElem? (i := 578) (by decide +kernel)) rfl
theorem q_579 : (.selects RX6 yX6_bestCall yX6_bestCall : Cond) ∈ TB := tb_in (List.mem_of_getElem? (i := 579) (by decide +kernel)) rfl
theorem q_580 : (.code yX6_bestCall cX6_bestCall 6 (Option.some Jvm.ClassFile.FieldType.int) : Cond) ∈ TB := tb_in (List.mem_of_getElem? (i := 580) (by decide +kernel)) rfl
theorem q_581 : (.methodLink RX6 267 yX3_beginDay : Cond) ∈ TB := tb_in (List.mem_of_getElem? (i := 581) (by decide +kernel)) rfl
theorem q_582 : (.methodLink RX6 270 yX3_isWindy : Cond) ∈ TB := tb_in (List.mem_of_getElem? (i := 582) (by decide +kernel)) rfl
theorem q_583 : (.methodLink RX6 274 yX3_fillSeats : Cond) ∈ TB := tb_in (List.mem_of_getElem? (i := 583) (by decide +kernel)) rfl
theorem q_584 : (.methodLink RX6 278 yX3_endDay : Cond) ∈ TB := tb_in (List.mem_of_getElem? (i := 584) (by decide +kernel)) rfl
theorem q_585 : (.methodLink RL 67 yX6_pass : Cond) ∈ TB := tb_in (List.mem_of_getElem? (i := 585) (by decide +kernel)) rfl
theorem q_586 : (.instanceMethod yX6_pass : Cond) ∈ TB := tb_in (List.mem_of_getElem? (i := 586) (by decide +kernel)) rfl
theorem q_587 : (.selects RX6 yX6_pass yX6_pass : Cond) ∈ TB := tb_in (List.mem_of_getElem? (i := 587) (by decide +kernel)) rfl
theorem q_588 : (.code yX6_pass cX6_pass 3 (Option.some Jvm.ClassFile.FieldType.int) : Cond) ∈ TB := tb_in (List.mem_of_getElem? (i := 588) (by decide +kernel)) rfl
theorem q_589 : (.constant RX6 123 (-1000003) : Cond) ∈ TB := tb_in (List.mem_of_getElem? (i := 589) (by decide +kernel)) rfl
theorem q_590 : (.constant RL 70 (-1000002) : Cond) ∈ TB := tb_in (List.mem_of_getElem? (i := 590) (by decide +kernel)) rfl
theorem q_592 : (.methodLink RL 114 yL_act : Cond) ∈ TB := tb_in (List.mem_of_getElem? (i := 592) (by decide +kernel)) rfl
theorem q_593 : (.static yL_act : Cond) ∈ TB := tb_in (List.mem_of_getElem? (i := 593) (by decide +kernel)) rfl
theorem q_594 : (.code yL_act cL_act 6 (Option.some Jvm.ClassFile.FieldType.int) : Cond) ∈ TB := tb_in (List.mem_append_right _ (List.mem_append_right _ (List.mem_append_right _ (List.mem_of_getElem? (i := 94) rfl)))) rfl
theorem q_595 : (.methodLink RL 73 yX6_cancel : Cond) ∈ TB := tb_in (List.mem_of_getElem? (i := 595) (by decide +kernel)) rfl
theorem q_596 : (.instanceMethod yX6_cancel : Cond) ∈ TB := tb_in (List.mem_of_getElem? (i := 596) (by decide +kernel)) rfl
theorem q_597 : (.selects RX6 yX6_cancel yX6_cancel : Cond) ∈ TB := tb_in (List.mem_of_getElem? (i := 597) (by decide +kernel)) rfl
theorem q_598 : (.code yX6_cancel cX6_cancel 3 (Option.some Jvm.ClassFile.FieldType.int) : Cond) ∈ TB := tb_in (List.mem_of_getElem? (i := 598) (by decide +kernel)) rfl
theorem q_599 : (.methodLink RX6 80 yX3_cancelBooking : Cond) ∈ TB := tb_in (List.mem_of_getElem? (i := 599) (by decide +kernel)) rfl
theorem q_600 : (.instanceMethod yX3_cancelBooking : Cond) ∈ TB := tb_in (List.mem_of_getElem? (i := 600) (by decide +kernel)) rfl
theorem q_601 : (.selects RX3 yX3_cancelBooking yX3_cancelBooking : Cond) ∈ TB := tb_in (List.mem_of_getElem? (i := 601) (by decide +kernel)) rfl
theorem q_602 : (.code yX3_cancelBooking cX3_cancelBooking 3 (Option.some Jvm.ClassFile.FieldType.int) : Cond) ∈ TB := tb_in (List.mem_of_getElem? (i := 602) (by decide +kernel)) rfl
theorem q_603 : (.methodLink RX3 119 yX3_refundOf : Cond) ∈ TB := tb_in (List.mem_of_getElem? (i := 603) (by decide +kernel)) rfl
theorem q_604 : (.methodLink RL 76 yX6_extend : Cond) ∈ TB := tb_in (List.mem_of_getElem? (i := 604) (by decide +kernel)) rfl
theorem q_605 : (.instanceMethod yX6_extend : Cond) ∈ TB := tb_in (List.mem_of_getElem? (i := 605) (by decide +kernel)) rfl
theorem q_606 : (.selects RX6 yX6_extend yX6_extend : Cond) ∈ TB := tb_in (List.mem_of_getElem? (i := 606) (by decide +kernel)) rfl
theorem q_607 : (.code yX6_extend cX6_extend 3 (Option.some Jvm.ClassFile.FieldType.int) : Cond) ∈ TB := tb_in (List.mem_of_getElem? (i := 607) (by decide +kernel)) rfl
theorem q_608 : (.methodLink RX6 95 yX3_canStayLonger : Cond) ∈ TB := tb_in (List.mem_of_getElem? (i := 608) (by decide +kernel)) rfl
theorem q_609 : (.instanceMethod yX3_canStayLonger : Cond) ∈ TB := tb_in (List.mem_of_getElem? (i := 609) (by decide +kernel)) rfl
theorem q_610 : (.selects RX3 yX3_canStayLonger yX3_canStayLonger : Cond) ∈ TB := tb_in (List.mem_of_getElem? (i := 610) (by decide +kernel)) rfl
theorem q_611 : (.code yX3_canStayLonger cX3_canStayLonger 4 (Option.some Jvm.ClassFile.FieldType.boolean) : Cond) ∈ TB := tb_in (List.mem_of_getElem? (i := 611) (by decide +kernel)) rfl
theorem q_612 : (.methodLink RL 79 yX6_weather : Cond) ∈ TB := tb_in (List.mem_of_getElem? (i := 612) (by decide +kernel)) rfl
theorem q_613 : (.instanceMethod yX6_weather : Cond) ∈ TB := tb_in (List.mem_of_getElem? (i := 613) (by decide +kernel)) rfl
theorem q_614 : (.selects RX6 yX6_weather yX6_weather : Cond) ∈ TB := tb_in (List.mem_of_getElem? (i := 614) (by decide +kernel)) rfl
theorem q_615 : (.code yX6_weather cX6_weather 5 (Option.some Jvm.ClassFile.FieldType.int) : Cond) ∈ TB := tb_in (List.mem_of_getElem? (i := 615) (by decide +kernel)) rfl
theorem q_616 : (.methodLink RX6 107 yX3_daysWithOtherWeather : Cond) ∈ TB := tb_in (List.mem_of_getElem? (i := 616) (by decide +kernel)) rfl
theorem q_617 : (.instanceMethod yX3_daysWithOtherWeather : Cond) ∈ TB := tb_in (List.mem_of_getElem? (i := 617) (by decide +kernel)) rfl
theorem q_618 : (.selects RX3 yX3_daysWithOtherWeather yX3_daysWithOtherWeather : Cond) ∈ TB := tb_in (List.mem_of_getElem? (i := 618) (by decide +kernel)) rfl
theorem q_619 : (.code yX3_daysWithOtherWeather cX3_daysWithOtherWeather 6 (Option.some Jvm.ClassFile.FieldType.int) : Cond) ∈ TB := tb_in (List.mem_of_getElem? (i := 619) (by decide +kernel)) rfl
theorem q_620 : (.methodLink RX6 110 yX3_changeWeather : Cond) ∈ TB := tb_in (List.mem_of_getElem? (i := 620) (by decide +kernel)) rfl
theorem q_621 : (.instanceMethod yX3_changeWeather : Cond) ∈ TB := tb_in (List.mem_of_getElem? (i := 621) (by decide +kernel)) rfl
theorem q_622 : (.selects RX3 yX3_changeWeather yX3_changeWeather : Cond) ∈ TB := tb_in (List.mem_of_getElem? (i := 622) (by decide +kernel)) rfl
theorem q_623 : (.code yX3_changeWeather cX3_changeWeather 5 (Option.none : Option Jvm.ClassFile.FieldType) : Cond) ∈ TB := tb_in (List.mem_of_getElem? (i := 623) (by decide +kernel)) rfl
theorem q_624 : (.methodLink RX3 82 yJ9_max_7cf53 : Cond) ∈ TB := tb_in (List.mem_of_getElem? (i := 624) (by decide +kernel)) rfl
theorem q_625 : (.methodLink RL 82 yX6_order : Cond) ∈ TB := tb_in (List.mem_of_getElem? (i := 625) (by decide +kernel)) rfl
theorem q_626 : (.instanceMethod yX6_order : Cond) ∈ TB := tb_in (List.mem_of_getElem? (i := 626) (by decide +kernel)) rfl
theorem q_627 : (.selects RX6 yX6_order yX6_order : Cond) ∈ TB := tb_in (List.mem_of_getElem? (i := 627) (by decide +kernel)) rfl
theorem q_628 : (.code yX6_order cX6_order 3 (Option.some Jvm.ClassFile.FieldType.int) : Cond) ∈ TB := tb_in (List.mem_of_getElem? (i := 628) (by decide +kernel)) rfl
theorem q_629 : (.methodLink RX6 124 yX5_append : Cond) ∈ TB := tb_in (List.mem_of_getElem? (i := 629) (by decide +kernel)) rfl
theorem q_630 : (.instanceMethod yX5_append : Cond) ∈ TB := tb_in (List.mem_of_getElem? (i := 630) (by decide +kernel)) rfl
theorem q_631 : (.selects RX5 yX5_append yX5_append : Cond) ∈ TB := tb_in (List.mem_of_getElem? (i := 631) (by decide +kernel)) rfl
theorem q_632 : (.code yX5_append cX5_append 3 (Option.none : Option Jvm.ClassFile.FieldType) : Cond) ∈ TB := tb_in (List.mem_of_getElem? (i := 632) (by decide +kernel)) rfl
theorem q_633 : (.methodLink RL 85 yX6_recall : Cond) ∈ TB := tb_in (List.mem_of_getElem? (i := 633) (by decide +kernel)) rfl
theorem q_634 : (.instanceMethod yX6_recall : Cond) ∈ TB := tb_in (List.mem_of_getElem? (i := 634) (by decide +kernel)) rfl
theorem q_635 : (.selects RX6 yX6_recall yX6_recall : Cond) ∈ TB := tb_in (List.mem_of_getElem? (i := 635) (by decide +kernel)) rfl
theorem q_636 : (.code yX6_recall cX6_recall 1 (Option.some Jvm.ClassFile.FieldType.int) : Cond) ∈ TB := tb_in (List.mem_of_getElem? (i := 636) (by decide +kernel)) rfl
theorem q_637 : (.methodLink RX6 128 yX5_removeLast : Cond) ∈ TB := tb_in (List.mem_of_getElem? (i := 637) (by decide +kernel)) rfl
theorem q_638 : (.instanceMethod yX5_removeLast : Cond) ∈ TB := tb_in (List.mem_of_getElem? (i := 638) (by decide +kernel)) rfl
theorem q_639 : (.selects RX5 yX5_removeLast yX5_removeLast : Cond) ∈ TB := tb_in (List.mem_of_getElem? (i := 639) (by decide +kernel)) rfl
theorem q_640 : (.code yX5_removeLast cX5_removeLast 1 (Option.some Jvm.ClassFile.FieldType.int) : Cond) ∈ TB := tb_in (List.mem_of_getElem? (i := 640) (by decide +kernel)) rfl
theorem q_641 : (.methodLink RL 88 yX6_flight : Cond) ∈ TB := tb_in (List.mem_of_getElem? (i := 641) (by decide +kernel)) rfl
theorem q_642 : (.instanceMethod yX6_flight : Cond) ∈ TB := tb_in (List.mem_of_getElem? (i := 642) (by decide +kernel)) rfl
theorem q_643 : (.selects RX6 yX6_flight yX6_flight : Cond) ∈ TB := tb_in (List.mem_of_getElem? (i := 643) (by decide +kernel)) rfl
theorem q_644 : (.code yX6_flight cX6_flight 2 (Option.some Jvm.ClassFile.FieldType.int) : Cond) ∈ TB := tb_in (List.mem_of_getElem? (i := 644) (by decide +kernel)) rfl
theorem q_645 : (.methodLink RL 92 yX6_set : Cond) ∈ TB := tb_in (List.mem_of_getElem? (i := 645) (by decide +kernel)) rfl
theorem q_646 : (.instanceMethod yX6_set : Cond) ∈ TB := tb_in (List.mem_of_getElem? (i := 646) (by decide +kernel)) rfl
theorem q_647 : (.selects RX6 yX6_set yX6_set : Cond) ∈ TB := tb_in (List.mem_of_getElem? (i := 647) (by decide +kernel)) rfl
theorem q_648 : (.code yX6_set cX6_set 4 (Option.some Jvm.ClassFile.FieldType.int) : Cond) ∈ TB := tb_in (List.mem_of_getElem? (i := 648) (by decide +kernel)) rfl
theorem q_649 : (.fieldLink RX6 140 "HutBookings" "SETTING_LEAST" "[I" : Cond) ∈ TB := tb_in (List.mem_of_getElem? (i := 649) (by decide +kernel)) rfl
theorem q_651 : (.fieldLink RX6 143 "HutBookings" "SETTING_MOST" "[I" : Cond) ∈ TB := tb_in (List.mem_of_getElem? (i := 651) (by decide +kernel)) rfl
theorem q_653 : (.methodLink RX6 146 yX6_mostBedsTaken : Cond) ∈ TB := tb_in (List.mem_of_getElem? (i := 653) (by decide +kernel)) rfl
theorem q_655 : (.instanceMethod yX6_mostBedsTaken : Cond) ∈ TB := tb_in (List.mem_of_getElem? (i := 655) (by decide +kernel)) rfl
theorem q_656 : (.code yX6_mostBedsTaken cX6_mostBedsTaken 2 (Option.some Jvm.ClassFile.FieldType.int) : Cond) ∈ TB := tb_in (List.mem_of_getElem? (i := 656) (by decide +kernel)) rfl
theorem q_657 : (.methodLink RX6 281 yX6_fullest : Cond) ∈ TB := tb_in (List.mem_of_getElem? (i := 657) (by decide +kernel)) rfl
theorem q_658 : (.methodLink RL 95 yX6_clearText : Cond) ∈ TB := tb_in (List.mem_of_getElem? (i := 658) (by decide +kernel)) rfl
theorem q_659 : (.instanceMethod yX6_clearText : Cond) ∈ TB := tb_in (List.mem_of_getElem? (i := 659) (by decide +kernel)) rfl
theorem q_660 : (.selects RX6 yX6_clearText yX6_clearText : Cond) ∈ TB := tb_in (List.mem_of_getElem? (i := 660) (by decide +kernel)) rfl
theorem q_661 : (.code yX6_clearText cX6_clearText 2 (Option.some Jvm.ClassFile.FieldType.int) : Cond) ∈ TB := tb_in (List.mem_of_getElem? (i := 661) (by decide +kernel)) rfl
theorem q_662 : (.methodLink RL 98 yX6_type : Cond) ∈ TB := tb_in (List.mem_of_getElem? (i := 662) (by decide +kernel)) rfl
theorem q_663 : (.instanceMethod yX6_type : Cond) ∈ TB := tb_in (List.mem_of_getElem? (i := 663) (by decide +kernel)) rfl
theorem q_664 : (.selects RX6 yX6_type yX6_type : Cond) ∈ TB := tb_in (List.mem_of_getElem? (i := 664) (by decide +kernel)) rfl
theorem q_665 : (.code yX6_type cX6_type 2 (Option.some Jvm.ClassFile.FieldType.int) : Cond) ∈ TB := tb_in (List.mem_of_getElem? (i := 665) (by decide +kernel)) rfl
theorem q_666 : (.methodLink RX6 155 yX0_append : Cond) ∈ TB := tb_in (List.mem_of_getElem? (i := 666) (by decide +kernel)) rfl
theorem q_667 : (.instanceMethod yX0_append : Cond) ∈ TB := tb_in (List.mem_of_getElem? (i := 667) (by decide +kernel)) rfl
theorem q_668 : (.selects RX0 yX0_append yX0_append : Cond) ∈ TB := tb_in (List.mem_of_getElem? (i := 668) (by decide +kernel)) rfl
theorem q_669 : (.code yX0_append cX0_append 2 (Option.none : Option Jvm.ClassFile.FieldType) : Cond) ∈ TB := tb_in (List.mem_of_getElem? (i := 669) (by decide +kernel)) rfl
theorem q_670 : (.methodLink RL 102 yX6_bookAll : Cond) ∈ TB := tb_in (List.mem_of_getElem? (i := 670) (by decide +kernel)) rfl
theorem q_671 : (.instanceMethod yX6_bookAll : Cond) ∈ TB := tb_in (List.mem_of_getElem? (i := 671) (by decide +kernel)) rfl
theorem q_672 : (.selects RX6 yX6_bookAll yX6_bookAll : Cond) ∈ TB := tb_in (List.mem_of_getElem? (i := 672) (by decide +kernel)) rfl
theorem q_673 : (.code yX6_bookAll cX6_bookAll 4 (Option.some Jvm.ClassFile.FieldType.int) : Cond) ∈ TB := tb_in (List.mem_of_getElem? (i := 673) (by decide +kernel)) rfl
theorem q_674 : (.methodLink RX6 55 yX0_findFault : Cond) ∈ TB := tb_in (List.mem_of_getElem? (i := 674) (by decide +kernel)) rfl
theorem q_675 : (.instanceMethod yX0_findFault : Cond) ∈ TB := tb_in (List.mem_of_getElem? (i := 675) (by decide +kernel)) rfl
theorem q_676 : (.selects RX0 yX0_findFault yX0_findFault : Cond) ∈ TB := tb_in (List.mem_of_getElem? (i := 676) (by decide +kernel)) rfl
theorem q_677 : (.code yX0_findFault cX0_findFault 2 (Option.some Jvm.ClassFile.FieldType.int) : Cond) ∈ TB := tb_in (List.mem_of_getElem? (i := 677) (by decide +kernel)) rfl
theorem q_678 : (.methodLink RX0 35 yX0_accepts : Cond) ∈ TB := tb_in (List.mem_of_getElem? (i := 678) (by decide +kernel)) rfl
theorem q_680 : (.instanceMethod yX0_accepts : Cond) ∈ TB := tb_in (List.mem_of_getElem? (i := 680) (by decide +kernel)) rfl
theorem q_681 : (.code yX0_accepts cX0_accepts 2 (Option.some Jvm.ClassFile.FieldType.boolean) : Cond) ∈ TB := tb_in (List.mem_of_getElem? (i := 681) (by decide +kernel)) rfl
theorem q_682 : (.methodLink RX0 40 yX0_acceptsDayBegin : Cond) ∈ TB := tb_in (List.mem_of_getElem? (i := 682) (by decide +kernel)) rfl
theorem q_684 : (.instanceMethod yX0_acceptsDayBegin : Cond) ∈ TB := tb_in (List.mem_of_getElem? (i := 684) (by decide +kernel)) rfl
theorem q_685 : (.code yX0_acceptsDayBegin cX0_acceptsDayBegin 2 (Option.some Jvm.ClassFile.FieldType.boolean) : Cond) ∈ TB := tb_in (List.mem_of_getElem? (i := 685) (by decide +kernel)) rfl
theorem q_686 : (.methodLink RX0 43 yX0_moveTo : Cond) ∈ TB := tb_in (List.mem_of_getElem? (i := 686) (by decide +kernel)) rfl
theorem q_688 : (.instanceMethod yX0_moveTo : Cond) ∈ TB := tb_in (List.mem_of_getElem? (i := 688) (by decide +kernel)) rfl
theorem q_689 : (.code yX0_moveTo cX0_moveTo 2 (Option.some Jvm.ClassFile.FieldType.boolean) : Cond) ∈ TB := tb_in (List.mem_of_getElem? (i := 689) (by decide +kernel)) rfl
theorem q_690 : (.methodLink RX0 47 yX0_acceptsDayDigit : Cond) ∈ TB := tb_in (List.mem_of_getElem? (i := 690) (by decide +kernel)) rfl
theorem q_692 : (.instanceMethod yX0_acceptsDayDigit : Cond) ∈ TB := tb_in (List.mem_of_getElem? (i := 692) (by decide +kernel)) rfl
theorem q_693 : (.code yX0_acceptsDayDigit cX0_acceptsDayDigit 3 (Option.some Jvm.ClassFile.FieldType.boolean) : Cond) ∈ TB := tb_in (List.mem_of_getElem? (i := 693) (by decide +kernel)) rfl
theorem q_694 : (.methodLink RX0 50 yX0_acceptsNights : Cond) ∈ TB := tb_in (List.mem_of_getElem? (i := 694) (by decide +kernel)) rfl
theorem q_696 : (.instanceMethod yX0_acceptsNights : Cond) ∈ TB := tb_in (List.mem_of_getElem? (i := 696) (by decide +kernel)) rfl
theorem q_697 : (.code yX0_acceptsNights cX0_acceptsNights 2 (Option.some Jvm.ClassFile.FieldType.boolean) : Cond) ∈ TB := tb_in (List.mem_of_getElem? (i := 697) (by decide +kernel)) rfl
theorem q_698 : (.methodLink RX0 53 yX0_acceptsPersons : Cond) ∈ TB := tb_in (List.mem_of_getElem? (i := 698) (by decide +kernel)) rfl
theorem q_700 : (.instanceMethod yX0_acceptsPersons : Cond) ∈ TB := tb_in (List.mem_of_getElem? (i := 700) (by decide +kernel)) rfl
theorem q_701 : (.code yX0_acceptsPersons cX0_acceptsPersons 2 (Option.some Jvm.ClassFile.FieldType.boolean) : Cond) ∈ TB := tb_in (List.mem_of_getElem? (i := 701) (by decide +kernel)) rfl
theorem q_702 : (.constant RX0 39 (-1000005) : Cond) ∈ TB := tb_in (List.mem_of_getElem? (i := 702) (by decide +kernel)) rfl
set_option maxRecDepth 100000 in
theorem i_X0 : ∀ w ∈ wsX00, w ∈ TB := fun w h => tb_in ((by decide +kernel : ∀ w ∈ wsX00, w ∈ lw_tbl) w h) ((by decide +kernel : ∀ w ∈ wsX00, goodWord w = true) w h)
set_option maxRecDepth 100000 in
theorem i_X1 : ∀ w ∈ wsX10, w ∈ TB := fun w h => tb_in ((by decide +kernel : ∀ w ∈ wsX10, w ∈ lw_tbl) w h) ((by decide +kernel : ∀ w ∈ wsX10, goodWord w = true) w h)
set_option maxRecDepth 100000 in
theorem i_X2 : ∀ w ∈ wsX20, w ∈ TB := fun w h => tb_in ((by decide +kernel : ∀ w ∈ wsX20, w ∈ lw_tbl) w h) ((by decide +kernel : ∀ w ∈ wsX20, goodWord w = true) w h)
set_option maxRecDepth 100000 in
theorem i_X3 : ∀ w ∈ wsX30, w ∈ TB := fun w h => tb_in ((by decide +kernel : ∀ w ∈ wsX30, w ∈ lw_tbl) w h) ((by decide +kernel : ∀ w ∈ wsX30, goodWord w = true) w h)
set_option maxRecDepth 100000 in
theorem i_X4 : ∀ w ∈ wsX40, w ∈ TB := fun w h => tb_in ((by decide +kernel : ∀ w ∈ wsX40, w ∈ lw_tbl) w h) ((by decide +kernel : ∀ w ∈ wsX40, goodWord w = true) w h)
set_option maxRecDepth 100000 in
theorem i_X5 : ∀ w ∈ wsX50, w ∈ TB := fun w h => tb_in ((by decide +kernel : ∀ w ∈ wsX50, w ∈ lw_tbl) w h) ((by decide +kernel : ∀ w ∈ wsX50, goodWord w = true) w h)
set_option maxRecDepth 100000 in
theorem i_X6 : ∀ w ∈ wsX60, w ∈ TB := fun w h => tb_in ((by decide +kernel : ∀ w ∈ wsX60, w ∈ lw_tbl) w h) ((by decide +kernel : ∀ w ∈ wsX60, goodWord w = true) w h)
set_option maxRecDepth 100000 in
theorem i_X7 : ∀ w ∈ wsX70, w ∈ TB := fun w h => tb_in ((by decide +kernel : ∀ w ∈ wsX70, w ∈ lw_tbl) w h) ((by decide +kernel : ∀ w ∈ wsX70, goodWord w = true) w h)
