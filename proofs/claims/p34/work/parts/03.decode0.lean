theorem dJ9_floorMod_7cf53_0 : decode cJ9_floorMod_7cf53 0 = .ok (.iload_n 0, 1) := by decide +kernel
theorem dJ9_floorMod_7cf53_1 : decode cJ9_floorMod_7cf53 1 = .ok (.iload_n 1, 1) := by decide +kernel
theorem dJ9_floorMod_7cf53_2 : decode cJ9_floorMod_7cf53 2 = .ok (.irem, 1) := by decide +kernel
theorem dJ9_floorMod_7cf53_3 : decode cJ9_floorMod_7cf53 3 = .ok (.istore_n 2, 1) := by decide +kernel
theorem dJ9_floorMod_7cf53_4 : decode cJ9_floorMod_7cf53 4 = .ok (.iload_n 0, 1) := by decide +kernel
theorem dJ9_floorMod_7cf53_5 : decode cJ9_floorMod_7cf53 5 = .ok (.iload_n 1, 1) := by decide +kernel
theorem dJ9_floorMod_7cf53_6 : decode cJ9_floorMod_7cf53 6 = .ok (.ixor, 1) := by decide +kernel
theorem dJ9_floorMod_7cf53_7 : decode cJ9_floorMod_7cf53 7 = .ok (.ifCond .ge 11, 3) := by decide +kernel
theorem dJ9_floorMod_7cf53_10 : decode cJ9_floorMod_7cf53 10 = .ok (.iload_n 2, 1) := by decide +kernel
theorem dJ9_floorMod_7cf53_11 : decode cJ9_floorMod_7cf53 11 = .ok (.ifCond .eq 7, 3) := by decide +kernel
theorem dJ9_floorMod_7cf53_14 : decode cJ9_floorMod_7cf53 14 = .ok (.iload_n 2, 1) := by decide +kernel
theorem dJ9_floorMod_7cf53_15 : decode cJ9_floorMod_7cf53 15 = .ok (.iload_n 1, 1) := by decide +kernel
theorem dJ9_floorMod_7cf53_16 : decode cJ9_floorMod_7cf53 16 = .ok (.iadd, 1) := by decide +kernel
theorem dJ9_floorMod_7cf53_17 : decode cJ9_floorMod_7cf53 17 = .ok (.ireturn, 1) := by decide +kernel
theorem dJ9_floorMod_7cf53_18 : decode cJ9_floorMod_7cf53 18 = .ok (.iload_n 2, 1) := by decide +kernel
theorem dJ9_floorMod_7cf53_19 : decode cJ9_floorMod_7cf53 19 = .ok (.ireturn, 1) := by decide +kernel
theorem dJ9_max_7cf53_0 : decode cJ9_max_7cf53 0 = .ok (.iload_n 0, 1) := by decide +kernel
theorem dJ9_max_7cf53_1 : decode cJ9_max_7cf53 1 = .ok (.iload_n 1, 1) := by decide +kernel
theorem dJ9_max_7cf53_2 : decode cJ9_max_7cf53 2 = .ok (.if_icmp .lt 7, 3) := by decide +kernel
theorem dJ9_max_7cf53_5 : decode cJ9_max_7cf53 5 = .ok (.iload_n 0, 1) := by decide +kernel
theorem dJ9_max_7cf53_6 : decode cJ9_max_7cf53 6 = .ok (.goto 4, 3) := by decide +kernel
theorem dJ9_max_7cf53_9 : decode cJ9_max_7cf53 9 = .ok (.iload_n 1, 1) := by decide +kernel
theorem dJ9_max_7cf53_10 : decode cJ9_max_7cf53 10 = .ok (.ireturn, 1) := by decide +kernel
theorem dJ9_min_7cf53_0 : decode cJ9_min_7cf53 0 = .ok (.iload_n 0, 1) := by decide +kernel
theorem dJ9_min_7cf53_1 : decode cJ9_min_7cf53 1 = .ok (.iload_n 1, 1) := by decide +kernel
theorem dJ9_min_7cf53_2 : decode cJ9_min_7cf53 2 = .ok (.if_icmp .gt 7, 3) := by decide +kernel
theorem dJ9_min_7cf53_5 : decode cJ9_min_7cf53 5 = .ok (.iload_n 0, 1) := by decide +kernel
theorem dJ9_min_7cf53_6 : decode cJ9_min_7cf53 6 = .ok (.goto 4, 3) := by decide +kernel
theorem dJ9_min_7cf53_9 : decode cJ9_min_7cf53 9 = .ok (.iload_n 1, 1) := by decide +kernel
theorem dJ9_min_7cf53_10 : decode cJ9_min_7cf53 10 = .ok (.ireturn, 1) := by decide +kernel
theorem dJ7_fill_53178_0 : decode cJ7_fill_53178 0 = .ok (.iconst 0, 1) := by decide +kernel
theorem dJ7_fill_53178_1 : decode cJ7_fill_53178 1 = .ok (.istore_n 2, 1) := by decide +kernel
theorem dJ7_fill_53178_2 : decode cJ7_fill_53178 2 = .ok (.aload_n 0, 1) := by decide +kernel
theorem dJ7_fill_53178_3 : decode cJ7_fill_53178 3 = .ok (.arraylength, 1) := by decide +kernel
theorem dJ7_fill_53178_4 : decode cJ7_fill_53178 4 = .ok (.istore_n 3, 1) := by decide +kernel
theorem dJ7_fill_53178_5 : decode cJ7_fill_53178 5 = .ok (.iload_n 2, 1) := by decide +kernel
theorem dJ7_fill_53178_6 : decode cJ7_fill_53178 6 = .ok (.iload_n 3, 1) := by decide +kernel
theorem dJ7_fill_53178_7 : decode cJ7_fill_53178 7 = .ok (.if_icmp .ge 13, 3) := by decide +kernel
theorem dJ7_fill_53178_10 : decode cJ7_fill_53178 10 = .ok (.aload_n 0, 1) := by decide +kernel
theorem dJ7_fill_53178_11 : decode cJ7_fill_53178 11 = .ok (.iload_n 2, 1) := by decide +kernel
theorem dJ7_fill_53178_12 : decode cJ7_fill_53178 12 = .ok (.iload_n 1, 1) := by decide +kernel
theorem dJ7_fill_53178_13 : decode cJ7_fill_53178 13 = .ok (.iastore, 1) := by decide +kernel
theorem dJ7_fill_53178_14 : decode cJ7_fill_53178 14 = .ok (.iinc 2 1, 3) := by decide +kernel
theorem dJ7_fill_53178_17 : decode cJ7_fill_53178 17 = .ok (.goto (-12), 3) := by decide +kernel
theorem dJ7_fill_53178_20 : decode cJ7_fill_53178 20 = .ok (.return_, 1) := by decide +kernel
theorem dX0_init_0 : decode cX0_init 0 = .ok (.aload_n 0, 1) := by decide +kernel
theorem dX0_init_1 : decode cX0_init 1 = .ok (.invokespecial 3, 3) := by decide +kernel
theorem dX0_init_4 : decode cX0_init 4 = .ok (.aload_n 0, 1) := by decide +kernel
theorem dX0_init_5 : decode cX0_init 5 = .ok (.bipush 60, 2) := by decide +kernel
theorem dX0_init_7 : decode cX0_init 7 = .ok (.newarray .char, 2) := by decide +kernel
theorem dX0_init_9 : decode cX0_init 9 = .ok (.putfield 9, 3) := by decide +kernel
theorem dX0_init_12 : decode cX0_init 12 = .ok (.aload_n 0, 1) := by decide +kernel
theorem dX0_init_13 : decode cX0_init 13 = .ok (.bipush 10, 2) := by decide +kernel
theorem dX0_init_15 : decode cX0_init 15 = .ok (.newarray .int, 2) := by decide +kernel
theorem dX0_init_17 : decode cX0_init 17 = .ok (.putfield 15, 3) := by decide +kernel
theorem dX0_init_20 : decode cX0_init 20 = .ok (.aload_n 0, 1) := by decide +kernel
theorem dX0_init_21 : decode cX0_init 21 = .ok (.bipush 10, 2) := by decide +kernel
theorem dX0_init_23 : decode cX0_init 23 = .ok (.newarray .int, 2) := by decide +kernel
theorem dX0_init_25 : decode cX0_init 25 = .ok (.putfield 19, 3) := by decide +kernel
theorem dX0_init_28 : decode cX0_init 28 = .ok (.aload_n 0, 1) := by decide +kernel
theorem dX0_init_29 : decode cX0_init 29 = .ok (.bipush 10, 2) := by decide +kernel
theorem dX0_init_31 : decode cX0_init 31 = .ok (.newarray .int, 2) := by decide +kernel
theorem dX0_init_33 : decode cX0_init 33 = .ok (.putfield 22, 3) := by decide +kernel
theorem dX0_init_36 : decode cX0_init 36 = .ok (.return_, 1) := by decide +kernel
theorem dX0_append_0 : decode cX0_append 0 = .ok (.aload_n 0, 1) := by decide +kernel
theorem dX0_append_1 : decode cX0_append 1 = .ok (.getfield 25, 3) := by decide +kernel
theorem dX0_append_4 : decode cX0_append 4 = .ok (.bipush 60, 2) := by decide +kernel
theorem dX0_append_6 : decode cX0_append 6 = .ok (.if_icmp .ge 23, 3) := by decide +kernel
theorem dX0_append_9 : decode cX0_append 9 = .ok (.aload_n 0, 1) := by decide +kernel
theorem dX0_append_10 : decode cX0_append 10 = .ok (.getfield 9, 3) := by decide +kernel
theorem dX0_append_13 : decode cX0_append 13 = .ok (.aload_n 0, 1) := by decide +kernel
theorem dX0_append_14 : decode cX0_append 14 = .ok (.getfield 25, 3) := by decide +kernel
theorem dX0_append_17 : decode cX0_append 17 = .ok (.iload_n 1, 1) := by decide +kernel
theorem dX0_append_18 : decode cX0_append 18 = .ok (.castore, 1) := by decide +kernel
theorem dX0_append_19 : decode cX0_append 19 = .ok (.aload_n 0, 1) := by decide +kernel
theorem dX0_append_20 : decode cX0_append 20 = .ok (.dup, 1) := by decide +kernel
theorem dX0_append_21 : decode cX0_append 21 = .ok (.getfield 25, 3) := by decide +kernel
theorem dX0_append_24 : decode cX0_append 24 = .ok (.iconst 1, 1) := by decide +kernel
theorem dX0_append_25 : decode cX0_append 25 = .ok (.iadd, 1) := by decide +kernel
theorem dX0_append_26 : decode cX0_append 26 = .ok (.putfield 25, 3) := by decide +kernel
theorem dX0_append_29 : decode cX0_append 29 = .ok (.return_, 1) := by decide +kernel
theorem dX0_findFault_0 : decode cX0_findFault 0 = .ok (.aload_n 0, 1) := by decide +kernel
theorem dX0_findFault_1 : decode cX0_findFault 1 = .ok (.iconst 0, 1) := by decide +kernel
theorem dX0_findFault_2 : decode cX0_findFault 2 = .ok (.putfield 29, 3) := by decide +kernel
theorem dX0_findFault_5 : decode cX0_findFault 5 = .ok (.aload_n 0, 1) := by decide +kernel
theorem dX0_findFault_6 : decode cX0_findFault 6 = .ok (.iconst 0, 1) := by decide +kernel
theorem dX0_findFault_7 : decode cX0_findFault 7 = .ok (.putfield 32, 3) := by decide +kernel
theorem dX0_findFault_10 : decode cX0_findFault 10 = .ok (.iconst 0, 1) := by decide +kernel
theorem dX0_findFault_11 : decode cX0_findFault 11 = .ok (.istore_n 1, 1) := by decide +kernel
theorem dX0_findFault_12 : decode cX0_findFault 12 = .ok (.iload_n 1, 1) := by decide +kernel
theorem dX0_findFault_13 : decode cX0_findFault 13 = .ok (.aload_n 0, 1) := by decide +kernel
theorem dX0_findFault_14 : decode cX0_findFault 14 = .ok (.getfield 25, 3) := by decide +kernel
theorem dX0_findFault_17 : decode cX0_findFault 17 = .ok (.if_icmp .ge 24, 3) := by decide +kernel
theorem dX0_findFault_20 : decode cX0_findFault 20 = .ok (.aload_n 0, 1) := by decide +kernel
theorem dX0_findFault_21 : decode cX0_findFault 21 = .ok (.aload_n 0, 1) := by decide +kernel
theorem dX0_findFault_22 : decode cX0_findFault 22 = .ok (.getfield 9, 3) := by decide +kernel
theorem dX0_findFault_25 : decode cX0_findFault 25 = .ok (.iload_n 1, 1) := by decide +kernel
theorem dX0_findFault_26 : decode cX0_findFault 26 = .ok (.caload, 1) := by decide +kernel
theorem dX0_findFault_27 : decode cX0_findFault 27 = .ok (.invokevirtual 35, 3) := by decide +kernel
theorem dX0_findFault_30 : decode cX0_findFault 30 = .ok (.ifCond .ne 5, 3) := by decide +kernel
theorem dX0_findFault_33 : decode cX0_findFault 33 = .ok (.iload_n 1, 1) := by decide +kernel
theorem dX0_findFault_34 : decode cX0_findFault 34 = .ok (.ireturn, 1) := by decide +kernel
theorem dX0_findFault_35 : decode cX0_findFault 35 = .ok (.iinc 1 1, 3) := by decide +kernel
theorem dX0_findFault_38 : decode cX0_findFault 38 = .ok (.goto (-26), 3) := by decide +kernel
theorem dX0_findFault_41 : decode cX0_findFault 41 = .ok (.aload_n 0, 1) := by decide +kernel
theorem dX0_findFault_42 : decode cX0_findFault 42 = .ok (.getfield 32, 3) := by decide +kernel
theorem dX0_findFault_45 : decode cX0_findFault 45 = .ok (.iconst 5, 1) := by decide +kernel
theorem dX0_findFault_46 : decode cX0_findFault 46 = .ok (.if_icmp .ne 8, 3) := by decide +kernel
theorem dX0_findFault_49 : decode cX0_findFault 49 = .ok (.ldc 39, 2) := by decide +kernel
theorem dX0_findFault_51 : decode cX0_findFault 51 = .ok (.goto 7, 3) := by decide +kernel
theorem dX0_findFault_54 : decode cX0_findFault 54 = .ok (.aload_n 0, 1) := by decide +kernel
theorem dX0_findFault_55 : decode cX0_findFault 55 = .ok (.getfield 25, 3) := by decide +kernel
theorem dX0_findFault_58 : decode cX0_findFault 58 = .ok (.ireturn, 1) := by decide +kernel
theorem dX0_accepts_0 : decode cX0_accepts 0 = .ok (.aload_n 0, 1) := by decide +kernel
theorem dX0_accepts_1 : decode cX0_accepts 1 = .ok (.getfield 32, 3) := by decide +kernel
theorem dX0_accepts_4 : decode cX0_accepts 4 = .ok (.tableswitch 94 0 4 #[36, 42, 62, 68, 88], 36) := by decide +kernel
theorem dX0_accepts_40 : decode cX0_accepts 40 = .ok (.aload_n 0, 1) := by decide +kernel
theorem dX0_accepts_41 : decode cX0_accepts 41 = .ok (.iload_n 1, 1) := by decide +kernel
theorem dX0_accepts_42 : decode cX0_accepts 42 = .ok (.invokevirtual 40, 3) := by decide +kernel
theorem dX0_accepts_45 : decode cX0_accepts 45 = .ok (.ireturn, 1) := by decide +kernel
theorem dX0_accepts_46 : decode cX0_accepts 46 = .ok (.iload_n 1, 1) := by decide +kernel
theorem dX0_accepts_47 : decode cX0_accepts 47 = .ok (.bipush 43, 2) := by decide +kernel
theorem dX0_accepts_49 : decode cX0_accepts 49 = .ok (.if_icmp .ne 11, 3) := by decide +kernel
theorem dX0_accepts_52 : decode cX0_accepts 52 = .ok (.aload_n 0, 1) := by decide +kernel
theorem dX0_accepts_53 : decode cX0_accepts 53 = .ok (.iconst 2, 1) := by decide +kernel
theorem dX0_accepts_54 : decode cX0_accepts 54 = .ok (.invokevirtual 43, 3) := by decide +kernel
theorem dX0_accepts_57 : decode cX0_accepts 57 = .ok (.goto 8, 3) := by decide +kernel
theorem dX0_accepts_60 : decode cX0_accepts 60 = .ok (.aload_n 0, 1) := by decide +kernel
theorem dX0_accepts_61 : decode cX0_accepts 61 = .ok (.iload_n 1, 1) := by decide +kernel
theorem dX0_accepts_62 : decode cX0_accepts 62 = .ok (.invokevirtual 47, 3) := by decide +kernel
theorem dX0_accepts_65 : decode cX0_accepts 65 = .ok (.ireturn, 1) := by decide +kernel
theorem dX0_accepts_66 : decode cX0_accepts 66 = .ok (.aload_n 0, 1) := by decide +kernel
theorem dX0_accepts_67 : decode cX0_accepts 67 = .ok (.iload_n 1, 1) := by decide +kernel
theorem dX0_accepts_68 : decode cX0_accepts 68 = .ok (.invokevirtual 50, 3) := by decide +kernel
theorem dX0_accepts_71 : decode cX0_accepts 71 = .ok (.ireturn, 1) := by decide +kernel
theorem dX0_accepts_72 : decode cX0_accepts 72 = .ok (.iload_n 1, 1) := by decide +kernel
theorem dX0_accepts_73 : decode cX0_accepts 73 = .ok (.bipush 120, 2) := by decide +kernel
theorem dX0_accepts_75 : decode cX0_accepts 75 = .ok (.if_icmp .ne 15, 3) := by decide +kernel
theorem dX0_accepts_78 : decode cX0_accepts 78 = .ok (.aload_n 0, 1) := by decide +kernel
theorem dX0_accepts_79 : decode cX0_accepts 79 = .ok (.iconst 4, 1) := by decide +kernel
theorem dX0_accepts_80 : decode cX0_accepts 80 = .ok (.invokevirtual 43, 3) := by decide +kernel
theorem dX0_accepts_83 : decode cX0_accepts 83 = .ok (.ifCond .eq 7, 3) := by decide +kernel
theorem dX0_accepts_86 : decode cX0_accepts 86 = .ok (.iconst 1, 1) := by decide +kernel
theorem dX0_accepts_87 : decode cX0_accepts 87 = .ok (.goto 4, 3) := by decide +kernel
theorem dX0_accepts_90 : decode cX0_accepts 90 = .ok (.iconst 0, 1) := by decide +kernel
theorem dX0_accepts_91 : decode cX0_accepts 91 = .ok (.ireturn, 1) := by decide +kernel
theorem dX0_accepts_92 : decode cX0_accepts 92 = .ok (.aload_n 0, 1) := by decide +kernel
theorem dX0_accepts_93 : decode cX0_accepts 93 = .ok (.iload_n 1, 1) := by decide +kernel
theorem dX0_accepts_94 : decode cX0_accepts 94 = .ok (.invokevirtual 53, 3) := by decide +kernel
theorem dX0_accepts_97 : decode cX0_accepts 97 = .ok (.ireturn, 1) := by decide +kernel
theorem dX0_accepts_98 : decode cX0_accepts 98 = .ok (.iload_n 1, 1) := by decide +kernel
theorem dX0_accepts_99 : decode cX0_accepts 99 = .ok (.bipush 59, 2) := by decide +kernel
theorem dX0_accepts_101 : decode cX0_accepts 101 = .ok (.if_icmp .ne 15, 3) := by decide +kernel
theorem dX0_accepts_104 : decode cX0_accepts 104 = .ok (.aload_n 0, 1) := by decide +kernel
theorem dX0_accepts_105 : decode cX0_accepts 105 = .ok (.iconst 0, 1) := by decide +kernel
theorem dX0_accepts_106 : decode cX0_accepts 106 = .ok (.invokevirtual 43, 3) := by decide +kernel
theorem dX0_accepts_109 : decode cX0_accepts 109 = .ok (.ifCond .eq 7, 3) := by decide +kernel
theorem dX0_accepts_112 : decode cX0_accepts 112 = .ok (.iconst 1, 1) := by decide +kernel
theorem dX0_accepts_113 : decode cX0_accepts 113 = .ok (.goto 4, 3) := by decide +kernel
theorem dX0_accepts_116 : decode cX0_accepts 116 = .ok (.iconst 0, 1) := by decide +kernel
theorem dX0_accepts_117 : decode cX0_accepts 117 = .ok (.ireturn, 1) := by decide +kernel
theorem dX0_moveTo_0 : decode cX0_moveTo 0 = .ok (.aload_n 0, 1) := by decide +kernel
theorem dX0_moveTo_1 : decode cX0_moveTo 1 = .ok (.iload_n 1, 1) := by decide +kernel
theorem dX0_moveTo_2 : decode cX0_moveTo 2 = .ok (.putfield 32, 3) := by decide +kernel
theorem dX0_moveTo_5 : decode cX0_moveTo 5 = .ok (.iconst 1, 1) := by decide +kernel
theorem dX0_moveTo_6 : decode cX0_moveTo 6 = .ok (.ireturn, 1) := by decide +kernel
theorem dX0_acceptsDayBegin_0 : decode cX0_acceptsDayBegin 0 = .ok (.iload_n 1, 1) := by decide +kernel
theorem dX0_acceptsDayBegin_1 : decode cX0_acceptsDayBegin 1 = .ok (.bipush 48, 2) := by decide +kernel
theorem dX0_acceptsDayBegin_3 : decode cX0_acceptsDayBegin 3 = .ok (.if_icmp .lt 9, 3) := by decide +kernel
theorem dX0_acceptsDayBegin_6 : decode cX0_acceptsDayBegin 6 = .ok (.iload_n 1, 1) := by decide +kernel
theorem dX0_acceptsDayBegin_7 : decode cX0_acceptsDayBegin 7 = .ok (.bipush 57, 2) := by decide +kernel
theorem dX0_acceptsDayBegin_9 : decode cX0_acceptsDayBegin 9 = .ok (.if_icmp .le 5, 3) := by decide +kernel
theorem dX0_acceptsDayBegin_12 : decode cX0_acceptsDayBegin 12 = .ok (.iconst 0, 1) := by decide +kernel
theorem dX0_acceptsDayBegin_13 : decode cX0_acceptsDayBegin 13 = .ok (.ireturn, 1) := by decide +kernel
theorem dX0_acceptsDayBegin_14 : decode cX0_acceptsDayBegin 14 = .ok (.aload_n 0, 1) := by decide +kernel
theorem dX0_acceptsDayBegin_15 : decode cX0_acceptsDayBegin 15 = .ok (.iload_n 1, 1) := by decide +kernel
theorem dX0_acceptsDayBegin_16 : decode cX0_acceptsDayBegin 16 = .ok (.bipush 48, 2) := by decide +kernel
theorem dX0_acceptsDayBegin_18 : decode cX0_acceptsDayBegin 18 = .ok (.isub, 1) := by decide +kernel
theorem dX0_acceptsDayBegin_19 : decode cX0_acceptsDayBegin 19 = .ok (.putfield 56, 3) := by decide +kernel
theorem dX0_acceptsDayBegin_22 : decode cX0_acceptsDayBegin 22 = .ok (.aload_n 0, 1) := by decide +kernel
theorem dX0_acceptsDayBegin_23 : decode cX0_acceptsDayBegin 23 = .ok (.iconst 1, 1) := by decide +kernel
theorem dX0_acceptsDayBegin_24 : decode cX0_acceptsDayBegin 24 = .ok (.invokevirtual 43, 3) := by decide +kernel
theorem dX0_acceptsDayBegin_27 : decode cX0_acceptsDayBegin 27 = .ok (.ireturn, 1) := by decide +kernel
theorem dX0_acceptsDayDigit_0 : decode cX0_acceptsDayDigit 0 = .ok (.iload_n 1, 1) := by decide +kernel
theorem dX0_acceptsDayDigit_1 : decode cX0_acceptsDayDigit 1 = .ok (.bipush 48, 2) := by decide +kernel
theorem dX0_acceptsDayDigit_3 : decode cX0_acceptsDayDigit 3 = .ok (.if_icmp .lt 16, 3) := by decide +kernel
theorem dX0_acceptsDayDigit_6 : decode cX0_acceptsDayDigit 6 = .ok (.iload_n 1, 1) := by decide +kernel
theorem dX0_acceptsDayDigit_7 : decode cX0_acceptsDayDigit 7 = .ok (.bipush 57, 2) := by decide +kernel
theorem dX0_acceptsDayDigit_9 : decode cX0_acceptsDayDigit 9 = .ok (.if_icmp .gt 10, 3) := by decide +kernel
theorem dX0_acceptsDayDigit_12 : decode cX0_acceptsDayDigit 12 = .ok (.aload_n 0, 1) := by decide +kernel
theorem dX0_acceptsDayDigit_13 : decode cX0_acceptsDayDigit 13 = .ok (.getfield 56, 3) := by decide +kernel
theorem dX0_acceptsDayDigit_16 : decode cX0_acceptsDayDigit 16 = .ok (.ifCond .ne 5, 3) := by decide +kernel
theorem dX0_acceptsDayDigit_19 : decode cX0_acceptsDayDigit 19 = .ok (.iconst 0, 1) := by decide +kernel
theorem dX0_acceptsDayDigit_20 : decode cX0_acceptsDayDigit 20 = .ok (.ireturn, 1) := by decide +kernel
theorem dX0_acceptsDayDigit_21 : decode cX0_acceptsDayDigit 21 = .ok (.aload_n 0, 1) := by decide +kernel
theorem dX0_acceptsDayDigit_22 : decode cX0_acceptsDayDigit 22 = .ok (.getfield 56, 3) := by decide +kernel
theorem dX0_acceptsDayDigit_25 : decode cX0_acceptsDayDigit 25 = .ok (.bipush 10, 2) := by decide +kernel
theorem dX0_acceptsDayDigit_27 : decode cX0_acceptsDayDigit 27 = .ok (.imul, 1) := by decide +kernel
theorem dX0_acceptsDayDigit_28 : decode cX0_acceptsDayDigit 28 = .ok (.iload_n 1, 1) := by decide +kernel
theorem dX0_acceptsDayDigit_29 : decode cX0_acceptsDayDigit 29 = .ok (.bipush 48, 2) := by decide +kernel
theorem dX0_acceptsDayDigit_31 : decode cX0_acceptsDayDigit 31 = .ok (.isub, 1) := by decide +kernel
theorem dX0_acceptsDayDigit_32 : decode cX0_acceptsDayDigit 32 = .ok (.iadd, 1) := by decide +kernel
theorem dX0_acceptsDayDigit_33 : decode cX0_acceptsDayDigit 33 = .ok (.istore_n 2, 1) := by decide +kernel
theorem dX0_acceptsDayDigit_34 : decode cX0_acceptsDayDigit 34 = .ok (.iload_n 2, 1) := by decide +kernel
theorem dX0_acceptsDayDigit_35 : decode cX0_acceptsDayDigit 35 = .ok (.sipush 899, 3) := by decide +kernel
theorem dX0_acceptsDayDigit_38 : decode cX0_acceptsDayDigit 38 = .ok (.if_icmp .le 5, 3) := by decide +kernel
theorem dX0_acceptsDayDigit_41 : decode cX0_acceptsDayDigit 41 = .ok (.iconst 0, 1) := by decide +kernel
theorem dX0_acceptsDayDigit_42 : decode cX0_acceptsDayDigit 42 = .ok (.ireturn, 1) := by decide +kernel
theorem dX0_acceptsDayDigit_43 : decode cX0_acceptsDayDigit 43 = .ok (.aload_n 0, 1) := by decide +kernel
theorem dX0_acceptsDayDigit_44 : decode cX0_acceptsDayDigit 44 = .ok (.iload_n 2, 1) := by decide +kernel
theorem dX0_acceptsDayDigit_45 : decode cX0_acceptsDayDigit 45 = .ok (.putfield 56, 3) := by decide +kernel
theorem dX0_acceptsDayDigit_48 : decode cX0_acceptsDayDigit 48 = .ok (.iconst 1, 1) := by decide +kernel
theorem dX0_acceptsDayDigit_49 : decode cX0_acceptsDayDigit 49 = .ok (.ireturn, 1) := by decide +kernel
theorem dX0_acceptsNights_0 : decode cX0_acceptsNights 0 = .ok (.iload_n 1, 1) := by decide +kernel
theorem dX0_acceptsNights_1 : decode cX0_acceptsNights 1 = .ok (.bipush 49, 2) := by decide +kernel
theorem dX0_acceptsNights_3 : decode cX0_acceptsNights 3 = .ok (.if_icmp .lt 9, 3) := by decide +kernel
theorem dX0_acceptsNights_6 : decode cX0_acceptsNights 6 = .ok (.iload_n 1, 1) := by decide +kernel
theorem dX0_acceptsNights_7 : decode cX0_acceptsNights 7 = .ok (.bipush 57, 2) := by decide +kernel
theorem dX0_acceptsNights_9 : decode cX0_acceptsNights 9 = .ok (.if_icmp .le 5, 3) := by decide +kernel
theorem dX0_acceptsNights_12 : decode cX0_acceptsNights 12 = .ok (.iconst 0, 1) := by decide +kernel
theorem dX0_acceptsNights_13 : decode cX0_acceptsNights 13 = .ok (.ireturn, 1) := by decide +kernel
theorem dX0_acceptsNights_14 : decode cX0_acceptsNights 14 = .ok (.aload_n 0, 1) := by decide +kernel
theorem dX0_acceptsNights_15 : decode cX0_acceptsNights 15 = .ok (.iload_n 1, 1) := by decide +kernel
theorem dX0_acceptsNights_16 : decode cX0_acceptsNights 16 = .ok (.bipush 48, 2) := by decide +kernel
theorem dX0_acceptsNights_18 : decode cX0_acceptsNights 18 = .ok (.isub, 1) := by decide +kernel
theorem dX0_acceptsNights_19 : decode cX0_acceptsNights 19 = .ok (.putfield 59, 3) := by decide +kernel
theorem dX0_acceptsNights_22 : decode cX0_acceptsNights 22 = .ok (.aload_n 0, 1) := by decide +kernel
theorem dX0_acceptsNights_23 : decode cX0_acceptsNights 23 = .ok (.iconst 3, 1) := by decide +kernel
theorem dX0_acceptsNights_24 : decode cX0_acceptsNights 24 = .ok (.invokevirtual 43, 3) := by decide +kernel
theorem dX0_acceptsNights_27 : decode cX0_acceptsNights 27 = .ok (.ireturn, 1) := by decide +kernel
theorem dX0_acceptsPersons_0 : decode cX0_acceptsPersons 0 = .ok (.iload_n 1, 1) := by decide +kernel
theorem dX0_acceptsPersons_1 : decode cX0_acceptsPersons 1 = .ok (.bipush 49, 2) := by decide +kernel
theorem dX0_acceptsPersons_3 : decode cX0_acceptsPersons 3 = .ok (.if_icmp .lt 18, 3) := by decide +kernel
theorem dX0_acceptsPersons_6 : decode cX0_acceptsPersons 6 = .ok (.iload_n 1, 1) := by decide +kernel
theorem dX0_acceptsPersons_7 : decode cX0_acceptsPersons 7 = .ok (.bipush 57, 2) := by decide +kernel
theorem dX0_acceptsPersons_9 : decode cX0_acceptsPersons 9 = .ok (.if_icmp .gt 12, 3) := by decide +kernel
theorem dX0_acceptsPersons_12 : decode cX0_acceptsPersons 12 = .ok (.aload_n 0, 1) := by decide +kernel
theorem dX0_acceptsPersons_13 : decode cX0_acceptsPersons 13 = .ok (.getfield 29, 3) := by decide +kernel
theorem dX0_acceptsPersons_16 : decode cX0_acceptsPersons 16 = .ok (.bipush 10, 2) := by decide +kernel
theorem dX0_acceptsPersons_18 : decode cX0_acceptsPersons 18 = .ok (.if_icmp .lt 5, 3) := by decide +kernel
theorem dX0_acceptsPersons_21 : decode cX0_acceptsPersons 21 = .ok (.iconst 0, 1) := by decide +kernel
theorem dX0_acceptsPersons_22 : decode cX0_acceptsPersons 22 = .ok (.ireturn, 1) := by decide +kernel
theorem dX0_acceptsPersons_23 : decode cX0_acceptsPersons 23 = .ok (.aload_n 0, 1) := by decide +kernel
theorem dX0_acceptsPersons_24 : decode cX0_acceptsPersons 24 = .ok (.getfield 15, 3) := by decide +kernel
theorem dX0_acceptsPersons_27 : decode cX0_acceptsPersons 27 = .ok (.aload_n 0, 1) := by decide +kernel
theorem dX0_acceptsPersons_28 : decode cX0_acceptsPersons 28 = .ok (.getfield 29, 3) := by decide +kernel
theorem dX0_acceptsPersons_31 : decode cX0_acceptsPersons 31 = .ok (.aload_n 0, 1) := by decide +kernel
theorem dX0_acceptsPersons_32 : decode cX0_acceptsPersons 32 = .ok (.getfield 56, 3) := by decide +kernel
theorem dX0_acceptsPersons_35 : decode cX0_acceptsPersons 35 = .ok (.iastore, 1) := by decide +kernel
theorem dX0_acceptsPersons_36 : decode cX0_acceptsPersons 36 = .ok (.aload_n 0, 1) := by decide +kernel
theorem dX0_acceptsPersons_37 : decode cX0_acceptsPersons 37 = .ok (.getfield 19, 3) := by decide +kernel
theorem dX0_acceptsPersons_40 : decode cX0_acceptsPersons 40 = .ok (.aload_n 0, 1) := by decide +kernel
theorem dX0_acceptsPersons_41 : decode cX0_acceptsPersons 41 = .ok (.getfield 29, 3) := by decide +kernel
theorem dX0_acceptsPersons_44 : decode cX0_acceptsPersons 44 = .ok (.aload_n 0, 1) := by decide +kernel
theorem dX0_acceptsPersons_45 : decode cX0_acceptsPersons 45 = .ok (.getfield 59, 3) := by decide +kernel
theorem dX0_acceptsPersons_48 : decode cX0_acceptsPersons 48 = .ok (.iastore, 1) := by decide +kernel
theorem dX0_acceptsPersons_49 : decode cX0_acceptsPersons 49 = .ok (.aload_n 0, 1) := by decide +kernel
theorem dX0_acceptsPersons_50 : decode cX0_acceptsPersons 50 = .ok (.getfield 22, 3) := by decide +kernel
theorem dX0_acceptsPersons_53 : decode cX0_acceptsPersons 53 = .ok (.aload_n 0, 1) := by decide +kernel
theorem dX0_acceptsPersons_54 : decode cX0_acceptsPersons 54 = .ok (.getfield 29, 3) := by decide +kernel
theorem dX0_acceptsPersons_57 : decode cX0_acceptsPersons 57 = .ok (.iload_n 1, 1) := by decide +kernel
theorem dX0_acceptsPersons_58 : decode cX0_acceptsPersons 58 = .ok (.bipush 48, 2) := by decide +kernel
theorem dX0_acceptsPersons_60 : decode cX0_acceptsPersons 60 = .ok (.isub, 1) := by decide +kernel
theorem dX0_acceptsPersons_61 : decode cX0_acceptsPersons 61 = .ok (.iastore, 1) := by decide +kernel
theorem dX0_acceptsPersons_62 : decode cX0_acceptsPersons 62 = .ok (.aload_n 0, 1) := by decide +kernel
theorem dX0_acceptsPersons_63 : decode cX0_acceptsPersons 63 = .ok (.dup, 1) := by decide +kernel
theorem dX0_acceptsPersons_64 : decode cX0_acceptsPersons 64 = .ok (.getfield 29, 3) := by decide +kernel
theorem dX0_acceptsPersons_67 : decode cX0_acceptsPersons 67 = .ok (.iconst 1, 1) := by decide +kernel
theorem dX0_acceptsPersons_68 : decode cX0_acceptsPersons 68 = .ok (.iadd, 1) := by decide +kernel
theorem dX0_acceptsPersons_69 : decode cX0_acceptsPersons 69 = .ok (.putfield 29, 3) := by decide +kernel
theorem dX0_acceptsPersons_72 : decode cX0_acceptsPersons 72 = .ok (.aload_n 0, 1) := by decide +kernel
theorem dX0_acceptsPersons_73 : decode cX0_acceptsPersons 73 = .ok (.iconst 5, 1) := by decide +kernel
theorem dX0_acceptsPersons_74 : decode cX0_acceptsPersons 74 = .ok (.invokevirtual 43, 3) := by decide +kernel
theorem dX0_acceptsPersons_77 : decode cX0_acceptsPersons 77 = .ok (.ireturn, 1) := by decide +kernel
theorem dX1_init_0 : decode cX1_init 0 = .ok (.aload_n 0, 1) := by decide +kernel
theorem dX1_init_1 : decode cX1_init 1 = .ok (.invokespecial 3, 3) := by decide +kernel
theorem dX1_init_4 : decode cX1_init 4 = .ok (.aload_n 0, 1) := by decide +kernel
theorem dX1_init_5 : decode cX1_init 5 = .ok (.bipush 80, 2) := by decide +kernel
theorem dX1_init_7 : decode cX1_init 7 = .ok (.newarray .int, 2) := by decide +kernel
theorem dX1_init_9 : decode cX1_init 9 = .ok (.putfield 9, 3) := by decide +kernel
theorem dX1_init_12 : decode cX1_init 12 = .ok (.aload_n 0, 1) := by decide +kernel
theorem dX1_init_13 : decode cX1_init 13 = .ok (.bipush 80, 2) := by decide +kernel
theorem dX1_init_15 : decode cX1_init 15 = .ok (.newarray .int, 2) := by decide +kernel
theorem dX1_init_17 : decode cX1_init 17 = .ok (.putfield 15, 3) := by decide +kernel
theorem dX1_init_20 : decode cX1_init 20 = .ok (.aload_n 0, 1) := by decide +kernel
theorem dX1_init_21 : decode cX1_init 21 = .ok (.bipush 80, 2) := by decide +kernel
theorem dX1_init_23 : decode cX1_init 23 = .ok (.newarray .int, 2) := by decide +kernel
theorem dX1_init_25 : decode cX1_init 25 = .ok (.putfield 18, 3) := by decide +kernel
theorem dX1_init_28 : decode cX1_init 28 = .ok (.aload_n 0, 1) := by decide +kernel
theorem dX1_init_29 : decode cX1_init 29 = .ok (.bipush 80, 2) := by decide +kernel
theorem dX1_init_31 : decode cX1_init 31 = .ok (.newarray .int, 2) := by decide +kernel
theorem dX1_init_33 : decode cX1_init 33 = .ok (.putfield 21, 3) := by decide +kernel
theorem dX1_init_36 : decode cX1_init 36 = .ok (.aload_n 0, 1) := by decide +kernel
theorem dX1_init_37 : decode cX1_init 37 = .ok (.bipush 80, 2) := by decide +kernel
theorem dX1_init_39 : decode cX1_init 39 = .ok (.newarray .int, 2) := by decide +kernel
theorem dX1_init_41 : decode cX1_init 41 = .ok (.putfield 24, 3) := by decide +kernel
theorem dX1_init_44 : decode cX1_init 44 = .ok (.aload_n 0, 1) := by decide +kernel
theorem dX1_init_45 : decode cX1_init 45 = .ok (.bipush 80, 2) := by decide +kernel
theorem dX1_init_47 : decode cX1_init 47 = .ok (.newarray .int, 2) := by decide +kernel
theorem dX1_init_49 : decode cX1_init 49 = .ok (.putfield 27, 3) := by decide +kernel
theorem dX1_init_52 : decode cX1_init 52 = .ok (.aload_n 0, 1) := by decide +kernel
theorem dX1_init_53 : decode cX1_init 53 = .ok (.bipush 80, 2) := by decide +kernel
theorem dX1_init_55 : decode cX1_init 55 = .ok (.newarray .int, 2) := by decide +kernel
theorem dX1_init_57 : decode cX1_init 57 = .ok (.putfield 30, 3) := by decide +kernel
theorem dX1_init_60 : decode cX1_init 60 = .ok (.return_, 1) := by decide +kernel
theorem dX1_copyFrom_0 : decode cX1_copyFrom 0 = .ok (.aload_n 0, 1) := by decide +kernel
theorem dX1_copyFrom_1 : decode cX1_copyFrom 1 = .ok (.aload_n 1, 1) := by decide +kernel
theorem dX1_copyFrom_2 : decode cX1_copyFrom 2 = .ok (.getfield 33, 3) := by decide +kernel
theorem dX1_copyFrom_5 : decode cX1_copyFrom 5 = .ok (.putfield 33, 3) := by decide +kernel
theorem dX1_copyFrom_8 : decode cX1_copyFrom 8 = .ok (.aload_n 1, 1) := by decide +kernel
theorem dX1_copyFrom_9 : decode cX1_copyFrom 9 = .ok (.getfield 9, 3) := by decide +kernel
theorem dX1_copyFrom_12 : decode cX1_copyFrom 12 = .ok (.iconst 0, 1) := by decide +kernel
theorem dX1_copyFrom_13 : decode cX1_copyFrom 13 = .ok (.aload_n 0, 1) := by decide +kernel
theorem dX1_copyFrom_14 : decode cX1_copyFrom 14 = .ok (.getfield 9, 3) := by decide +kernel
theorem dX1_copyFrom_17 : decode cX1_copyFrom 17 = .ok (.iconst 0, 1) := by decide +kernel
theorem dX1_copyFrom_18 : decode cX1_copyFrom 18 = .ok (.aload_n 0, 1) := by decide +kernel
theorem dX1_copyFrom_19 : decode cX1_copyFrom 19 = .ok (.getfield 33, 3) := by decide +kernel
theorem dX1_copyFrom_22 : decode cX1_copyFrom 22 = .ok (.invokestatic 37, 3) := by decide +kernel
theorem dX1_copyFrom_25 : decode cX1_copyFrom 25 = .ok (.aload_n 1, 1) := by decide +kernel
theorem dX1_copyFrom_26 : decode cX1_copyFrom 26 = .ok (.getfield 15, 3) := by decide +kernel
theorem dX1_copyFrom_29 : decode cX1_copyFrom 29 = .ok (.iconst 0, 1) := by decide +kernel
theorem dX1_copyFrom_30 : decode cX1_copyFrom 30 = .ok (.aload_n 0, 1) := by decide +kernel
theorem dX1_copyFrom_31 : decode cX1_copyFrom 31 = .ok (.getfield 15, 3) := by decide +kernel
theorem dX1_copyFrom_34 : decode cX1_copyFrom 34 = .ok (.iconst 0, 1) := by decide +kernel
theorem dX1_copyFrom_35 : decode cX1_copyFrom 35 = .ok (.aload_n 0, 1) := by decide +kernel
theorem dX1_copyFrom_36 : decode cX1_copyFrom 36 = .ok (.getfield 33, 3) := by decide +kernel
theorem dX1_copyFrom_39 : decode cX1_copyFrom 39 = .ok (.invokestatic 37, 3) := by decide +kernel
theorem dX1_copyFrom_42 : decode cX1_copyFrom 42 = .ok (.aload_n 1, 1) := by decide +kernel
theorem dX1_copyFrom_43 : decode cX1_copyFrom 43 = .ok (.getfield 18, 3) := by decide +kernel
theorem dX1_copyFrom_46 : decode cX1_copyFrom 46 = .ok (.iconst 0, 1) := by decide +kernel
theorem dX1_copyFrom_47 : decode cX1_copyFrom 47 = .ok (.aload_n 0, 1) := by decide +kernel
theorem dX1_copyFrom_48 : decode cX1_copyFrom 48 = .ok (.getfield 18, 3) := by decide +kernel
theorem dX1_copyFrom_51 : decode cX1_copyFrom 51 = .ok (.iconst 0, 1) := by decide +kernel
theorem dX1_copyFrom_52 : decode cX1_copyFrom 52 = .ok (.aload_n 0, 1) := by decide +kernel
theorem dX1_copyFrom_53 : decode cX1_copyFrom 53 = .ok (.getfield 33, 3) := by decide +kernel
theorem dX1_copyFrom_56 : decode cX1_copyFrom 56 = .ok (.invokestatic 37, 3) := by decide +kernel
theorem dX1_copyFrom_59 : decode cX1_copyFrom 59 = .ok (.aload_n 1, 1) := by decide +kernel
theorem dX1_copyFrom_60 : decode cX1_copyFrom 60 = .ok (.getfield 21, 3) := by decide +kernel
theorem dX1_copyFrom_63 : decode cX1_copyFrom 63 = .ok (.iconst 0, 1) := by decide +kernel
theorem dX1_copyFrom_64 : decode cX1_copyFrom 64 = .ok (.aload_n 0, 1) := by decide +kernel
theorem dX1_copyFrom_65 : decode cX1_copyFrom 65 = .ok (.getfield 21, 3) := by decide +kernel
theorem dX1_copyFrom_68 : decode cX1_copyFrom 68 = .ok (.iconst 0, 1) := by decide +kernel
theorem dX1_copyFrom_69 : decode cX1_copyFrom 69 = .ok (.aload_n 0, 1) := by decide +kernel
theorem dX1_copyFrom_70 : decode cX1_copyFrom 70 = .ok (.getfield 33, 3) := by decide +kernel
theorem dX1_copyFrom_73 : decode cX1_copyFrom 73 = .ok (.invokestatic 37, 3) := by decide +kernel
theorem dX1_copyFrom_76 : decode cX1_copyFrom 76 = .ok (.aload_n 1, 1) := by decide +kernel
theorem dX1_copyFrom_77 : decode cX1_copyFrom 77 = .ok (.getfield 24, 3) := by decide +kernel
theorem dX1_copyFrom_80 : decode cX1_copyFrom 80 = .ok (.iconst 0, 1) := by decide +kernel
theorem dX1_copyFrom_81 : decode cX1_copyFrom 81 = .ok (.aload_n 0, 1) := by decide +kernel
theorem dX1_copyFrom_82 : decode cX1_copyFrom 82 = .ok (.getfield 24, 3) := by decide +kernel
theorem dX1_copyFrom_85 : decode cX1_copyFrom 85 = .ok (.iconst 0, 1) := by decide +kernel
theorem dX1_copyFrom_86 : decode cX1_copyFrom 86 = .ok (.aload_n 0, 1) := by decide +kernel
theorem dX1_copyFrom_87 : decode cX1_copyFrom 87 = .ok (.getfield 33, 3) := by decide +kernel
theorem dX1_copyFrom_90 : decode cX1_copyFrom 90 = .ok (.invokestatic 37, 3) := by decide +kernel
theorem dX1_copyFrom_93 : decode cX1_copyFrom 93 = .ok (.aload_n 1, 1) := by decide +kernel
theorem dX1_copyFrom_94 : decode cX1_copyFrom 94 = .ok (.getfield 27, 3) := by decide +kernel
theorem dX1_copyFrom_97 : decode cX1_copyFrom 97 = .ok (.iconst 0, 1) := by decide +kernel
theorem dX1_copyFrom_98 : decode cX1_copyFrom 98 = .ok (.aload_n 0, 1) := by decide +kernel
theorem dX1_copyFrom_99 : decode cX1_copyFrom 99 = .ok (.getfield 27, 3) := by decide +kernel
theorem dX1_copyFrom_102 : decode cX1_copyFrom 102 = .ok (.iconst 0, 1) := by decide +kernel
theorem dX1_copyFrom_103 : decode cX1_copyFrom 103 = .ok (.aload_n 0, 1) := by decide +kernel
theorem dX1_copyFrom_104 : decode cX1_copyFrom 104 = .ok (.getfield 33, 3) := by decide +kernel
theorem dX1_copyFrom_107 : decode cX1_copyFrom 107 = .ok (.invokestatic 37, 3) := by decide +kernel
theorem dX1_copyFrom_110 : decode cX1_copyFrom 110 = .ok (.aload_n 1, 1) := by decide +kernel
theorem dX1_copyFrom_111 : decode cX1_copyFrom 111 = .ok (.getfield 30, 3) := by decide +kernel
theorem dX1_copyFrom_114 : decode cX1_copyFrom 114 = .ok (.iconst 0, 1) := by decide +kernel
theorem dX1_copyFrom_115 : decode cX1_copyFrom 115 = .ok (.aload_n 0, 1) := by decide +kernel
theorem dX1_copyFrom_116 : decode cX1_copyFrom 116 = .ok (.getfield 30, 3) := by decide +kernel
theorem dX1_copyFrom_119 : decode cX1_copyFrom 119 = .ok (.iconst 0, 1) := by decide +kernel
theorem dX1_copyFrom_120 : decode cX1_copyFrom 120 = .ok (.aload_n 0, 1) := by decide +kernel
theorem dX1_copyFrom_121 : decode cX1_copyFrom 121 = .ok (.getfield 33, 3) := by decide +kernel
theorem dX1_copyFrom_124 : decode cX1_copyFrom 124 = .ok (.invokestatic 37, 3) := by decide +kernel
theorem dX1_copyFrom_127 : decode cX1_copyFrom 127 = .ok (.return_, 1) := by decide +kernel
theorem dX1_add_0 : decode cX1_add 0 = .ok (.aload_n 0, 1) := by decide +kernel
theorem dX1_add_1 : decode cX1_add 1 = .ok (.getfield 33, 3) := by decide +kernel
theorem dX1_add_4 : decode cX1_add 4 = .ok (.bipush 80, 2) := by decide +kernel
theorem dX1_add_6 : decode cX1_add 6 = .ok (.if_icmp .lt 6, 3) := by decide +kernel
theorem dX1_add_9 : decode cX1_add 9 = .ok (.ldc 43, 2) := by decide +kernel
theorem dX1_add_11 : decode cX1_add 11 = .ok (.ireturn, 1) := by decide +kernel
theorem dX1_add_12 : decode cX1_add 12 = .ok (.aload_n 0, 1) := by decide +kernel
theorem dX1_add_13 : decode cX1_add 13 = .ok (.getfield 9, 3) := by decide +kernel
theorem dX1_add_16 : decode cX1_add 16 = .ok (.aload_n 0, 1) := by decide +kernel
theorem dX1_add_17 : decode cX1_add 17 = .ok (.getfield 33, 3) := by decide +kernel
theorem dX1_add_20 : decode cX1_add 20 = .ok (.iconst 0, 1) := by decide +kernel
theorem dX1_add_21 : decode cX1_add 21 = .ok (.iastore, 1) := by decide +kernel
theorem dX1_add_22 : decode cX1_add 22 = .ok (.aload_n 0, 1) := by decide +kernel
theorem dX1_add_23 : decode cX1_add 23 = .ok (.getfield 15, 3) := by decide +kernel
theorem dX1_add_26 : decode cX1_add 26 = .ok (.aload_n 0, 1) := by decide +kernel
theorem dX1_add_27 : decode cX1_add 27 = .ok (.getfield 33, 3) := by decide +kernel
theorem dX1_add_30 : decode cX1_add 30 = .ok (.iload_n 1, 1) := by decide +kernel
theorem dX1_add_31 : decode cX1_add 31 = .ok (.iastore, 1) := by decide +kernel
theorem dX1_add_32 : decode cX1_add 32 = .ok (.aload_n 0, 1) := by decide +kernel
theorem dX1_add_33 : decode cX1_add 33 = .ok (.getfield 18, 3) := by decide +kernel
theorem dX1_add_36 : decode cX1_add 36 = .ok (.aload_n 0, 1) := by decide +kernel
theorem dX1_add_37 : decode cX1_add 37 = .ok (.getfield 33, 3) := by decide +kernel
theorem dX1_add_40 : decode cX1_add 40 = .ok (.iload_n 2, 1) := by decide +kernel
theorem dX1_add_41 : decode cX1_add 41 = .ok (.iastore, 1) := by decide +kernel
theorem dX1_add_42 : decode cX1_add 42 = .ok (.aload_n 0, 1) := by decide +kernel
theorem dX1_add_43 : decode cX1_add 43 = .ok (.getfield 21, 3) := by decide +kernel
theorem dX1_add_46 : decode cX1_add 46 = .ok (.aload_n 0, 1) := by decide +kernel
theorem dX1_add_47 : decode cX1_add 47 = .ok (.getfield 33, 3) := by decide +kernel
theorem dX1_add_50 : decode cX1_add 50 = .ok (.iload_n 3, 1) := by decide +kernel
theorem dX1_add_51 : decode cX1_add 51 = .ok (.iastore, 1) := by decide +kernel
theorem dX1_add_52 : decode cX1_add 52 = .ok (.aload_n 0, 1) := by decide +kernel
theorem dX1_add_53 : decode cX1_add 53 = .ok (.getfield 24, 3) := by decide +kernel
theorem dX1_add_56 : decode cX1_add 56 = .ok (.aload_n 0, 1) := by decide +kernel
theorem dX1_add_57 : decode cX1_add 57 = .ok (.getfield 33, 3) := by decide +kernel
theorem dX1_add_60 : decode cX1_add 60 = .ok (.iconst 0, 1) := by decide +kernel
theorem dX1_add_61 : decode cX1_add 61 = .ok (.iastore, 1) := by decide +kernel
theorem dX1_add_62 : decode cX1_add 62 = .ok (.aload_n 0, 1) := by decide +kernel
theorem dX1_add_63 : decode cX1_add 63 = .ok (.getfield 27, 3) := by decide +kernel
theorem dX1_add_66 : decode cX1_add 66 = .ok (.aload_n 0, 1) := by decide +kernel
theorem dX1_add_67 : decode cX1_add 67 = .ok (.getfield 33, 3) := by decide +kernel
theorem dX1_add_70 : decode cX1_add 70 = .ok (.iload 4, 2) := by decide +kernel
theorem dX1_add_72 : decode cX1_add 72 = .ok (.iastore, 1) := by decide +kernel
theorem dX1_add_73 : decode cX1_add 73 = .ok (.aload_n 0, 1) := by decide +kernel
theorem dX1_add_74 : decode cX1_add 74 = .ok (.getfield 30, 3) := by decide +kernel
theorem dX1_add_77 : decode cX1_add 77 = .ok (.aload_n 0, 1) := by decide +kernel
theorem dX1_add_78 : decode cX1_add 78 = .ok (.getfield 33, 3) := by decide +kernel
theorem dX1_add_81 : decode cX1_add 81 = .ok (.iconst (-1), 1) := by decide +kernel
theorem dX1_add_82 : decode cX1_add 82 = .ok (.iastore, 1) := by decide +kernel
theorem dX1_add_83 : decode cX1_add 83 = .ok (.aload_n 0, 1) := by decide +kernel
theorem dX1_add_84 : decode cX1_add 84 = .ok (.dup, 1) := by decide +kernel
theorem dX1_add_85 : decode cX1_add 85 = .ok (.getfield 33, 3) := by decide +kernel
theorem dX1_add_88 : decode cX1_add 88 = .ok (.iconst 1, 1) := by decide +kernel
theorem dX1_add_89 : decode cX1_add 89 = .ok (.iadd, 1) := by decide +kernel
theorem dX1_add_90 : decode cX1_add 90 = .ok (.putfield 33, 3) := by decide +kernel
theorem dX1_add_93 : decode cX1_add 93 = .ok (.aload_n 0, 1) := by decide +kernel
theorem dX1_add_94 : decode cX1_add 94 = .ok (.getfield 33, 3) := by decide +kernel
theorem dX1_add_97 : decode cX1_add 97 = .ok (.iconst 1, 1) := by decide +kernel
theorem dX1_add_98 : decode cX1_add 98 = .ok (.isub, 1) := by decide +kernel
theorem dX1_add_99 : decode cX1_add 99 = .ok (.ireturn, 1) := by decide +kernel
theorem dX1_knows_0 : decode cX1_knows 0 = .ok (.iload_n 1, 1) := by decide +kernel
theorem dX1_knows_1 : decode cX1_knows 1 = .ok (.ifCond .lt 15, 3) := by decide +kernel
theorem dX1_knows_4 : decode cX1_knows 4 = .ok (.iload_n 1, 1) := by decide +kernel
theorem dX1_knows_5 : decode cX1_knows 5 = .ok (.aload_n 0, 1) := by decide +kernel
theorem dX1_knows_6 : decode cX1_knows 6 = .ok (.getfield 33, 3) := by decide +kernel
theorem dX1_knows_9 : decode cX1_knows 9 = .ok (.if_icmp .ge 7, 3) := by decide +kernel
theorem dX1_knows_12 : decode cX1_knows 12 = .ok (.iconst 1, 1) := by decide +kernel
theorem dX1_knows_13 : decode cX1_knows 13 = .ok (.goto 4, 3) := by decide +kernel
theorem dX1_knows_16 : decode cX1_knows 16 = .ok (.iconst 0, 1) := by decide +kernel
theorem dX1_knows_17 : decode cX1_knows 17 = .ok (.ireturn, 1) := by decide +kernel
theorem dX1_end_0 : decode cX1_end 0 = .ok (.aload_n 0, 1) := by decide +kernel
theorem dX1_end_1 : decode cX1_end 1 = .ok (.getfield 15, 3) := by decide +kernel
theorem dX1_end_4 : decode cX1_end 4 = .ok (.iload_n 1, 1) := by decide +kernel
theorem dX1_end_5 : decode cX1_end 5 = .ok (.iaload, 1) := by decide +kernel
theorem dX1_end_6 : decode cX1_end 6 = .ok (.aload_n 0, 1) := by decide +kernel
theorem dX1_end_7 : decode cX1_end 7 = .ok (.getfield 18, 3) := by decide +kernel
theorem dX1_end_10 : decode cX1_end 10 = .ok (.iload_n 1, 1) := by decide +kernel
theorem dX1_end_11 : decode cX1_end 11 = .ok (.iaload, 1) := by decide +kernel
theorem dX1_end_12 : decode cX1_end 12 = .ok (.iadd, 1) := by decide +kernel
theorem dX1_end_13 : decode cX1_end 13 = .ok (.ireturn, 1) := by decide +kernel
theorem dX1_holdsBeds_0 : decode cX1_holdsBeds 0 = .ok (.aload_n 0, 1) := by decide +kernel
theorem dX1_holdsBeds_1 : decode cX1_holdsBeds 1 = .ok (.getfield 9, 3) := by decide +kernel
theorem dX1_holdsBeds_4 : decode cX1_holdsBeds 4 = .ok (.iload_n 1, 1) := by decide +kernel
theorem dX1_holdsBeds_5 : decode cX1_holdsBeds 5 = .ok (.iaload, 1) := by decide +kernel
theorem dX1_holdsBeds_6 : decode cX1_holdsBeds 6 = .ok (.ifCond .eq 13, 3) := by decide +kernel
theorem dX1_holdsBeds_9 : decode cX1_holdsBeds 9 = .ok (.aload_n 0, 1) := by decide +kernel
theorem dX1_holdsBeds_10 : decode cX1_holdsBeds 10 = .ok (.getfield 9, 3) := by decide +kernel
theorem dX1_holdsBeds_13 : decode cX1_holdsBeds 13 = .ok (.iload_n 1, 1) := by decide +kernel
theorem dX1_holdsBeds_14 : decode cX1_holdsBeds 14 = .ok (.iaload, 1) := by decide +kernel
theorem dX1_holdsBeds_15 : decode cX1_holdsBeds 15 = .ok (.iconst 1, 1) := by decide +kernel
theorem dX1_holdsBeds_16 : decode cX1_holdsBeds 16 = .ok (.if_icmp .ne 7, 3) := by decide +kernel
theorem dX1_holdsBeds_19 : decode cX1_holdsBeds 19 = .ok (.iconst 1, 1) := by decide +kernel
theorem dX1_holdsBeds_20 : decode cX1_holdsBeds 20 = .ok (.goto 4, 3) := by decide +kernel
theorem dX1_holdsBeds_23 : decode cX1_holdsBeds 23 = .ok (.iconst 0, 1) := by decide +kernel
theorem dX1_holdsBeds_24 : decode cX1_holdsBeds 24 = .ok (.ireturn, 1) := by decide +kernel
theorem dX1_isOver_0 : decode cX1_isOver 0 = .ok (.aload_n 0, 1) := by decide +kernel
theorem dX1_isOver_1 : decode cX1_isOver 1 = .ok (.getfield 9, 3) := by decide +kernel
theorem dX1_isOver_4 : decode cX1_isOver 4 = .ok (.iload_n 1, 1) := by decide +kernel
theorem dX1_isOver_5 : decode cX1_isOver 5 = .ok (.iaload, 1) := by decide +kernel
theorem dX1_isOver_6 : decode cX1_isOver 6 = .ok (.iconst 1, 1) := by decide +kernel
theorem dX1_isOver_7 : decode cX1_isOver 7 = .ok (.if_icmp .ne 16, 3) := by decide +kernel
theorem dX1_isOver_10 : decode cX1_isOver 10 = .ok (.aload_n 0, 1) := by decide +kernel
theorem dX1_isOver_11 : decode cX1_isOver 11 = .ok (.iload_n 1, 1) := by decide +kernel
theorem dX1_isOver_12 : decode cX1_isOver 12 = .ok (.invokevirtual 44, 3) := by decide +kernel
theorem dX1_isOver_15 : decode cX1_isOver 15 = .ok (.iload_n 2, 1) := by decide +kernel
theorem dX1_isOver_16 : decode cX1_isOver 16 = .ok (.if_icmp .gt 7, 3) := by decide +kernel
theorem dX1_isOver_19 : decode cX1_isOver 19 = .ok (.iconst 1, 1) := by decide +kernel
theorem dX1_isOver_20 : decode cX1_isOver 20 = .ok (.goto 4, 3) := by decide +kernel
theorem dX1_isOver_23 : decode cX1_isOver 23 = .ok (.iconst 0, 1) := by decide +kernel
theorem dX1_isOver_24 : decode cX1_isOver 24 = .ok (.ireturn, 1) := by decide +kernel
theorem dX1_bedsTakenIn_0 : decode cX1_bedsTakenIn 0 = .ok (.aload_n 0, 1) := by decide +kernel
theorem dX1_bedsTakenIn_1 : decode cX1_bedsTakenIn 1 = .ok (.iload_n 1, 1) := by decide +kernel
theorem dX1_bedsTakenIn_2 : decode cX1_bedsTakenIn 2 = .ok (.iload_n 1, 1) := by decide +kernel
theorem dX1_bedsTakenIn_3 : decode cX1_bedsTakenIn 3 = .ok (.invokevirtual 48, 3) := by decide +kernel
theorem dX1_bedsTakenIn_6 : decode cX1_bedsTakenIn 6 = .ok (.ireturn, 1) := by decide +kernel
theorem dX1_bedsTakenFrom_0 : decode cX1_bedsTakenFrom 0 = .ok (.iconst 0, 1) := by decide +kernel
theorem dX1_bedsTakenFrom_1 : decode cX1_bedsTakenFrom 1 = .ok (.istore_n 3, 1) := by decide +kernel
theorem dX1_bedsTakenFrom_2 : decode cX1_bedsTakenFrom 2 = .ok (.iconst 0, 1) := by decide +kernel
theorem dX1_bedsTakenFrom_3 : decode cX1_bedsTakenFrom 3 = .ok (.istore 4, 2) := by decide +kernel
theorem dX1_bedsTakenFrom_5 : decode cX1_bedsTakenFrom 5 = .ok (.iload 4, 2) := by decide +kernel
theorem dX1_bedsTakenFrom_7 : decode cX1_bedsTakenFrom 7 = .ok (.aload_n 0, 1) := by decide +kernel
theorem dX1_bedsTakenFrom_8 : decode cX1_bedsTakenFrom 8 = .ok (.getfield 33, 3) := by decide +kernel
theorem dX1_bedsTakenFrom_11 : decode cX1_bedsTakenFrom 11 = .ok (.if_icmp .ge 62, 3) := by decide +kernel
theorem dX1_bedsTakenFrom_14 : decode cX1_bedsTakenFrom 14 = .ok (.aload_n 0, 1) := by decide +kernel
theorem dX1_bedsTakenFrom_15 : decode cX1_bedsTakenFrom 15 = .ok (.iload 4, 2) := by decide +kernel
theorem dX1_bedsTakenFrom_17 : decode cX1_bedsTakenFrom 17 = .ok (.invokevirtual 44, 3) := by decide +kernel
theorem dX1_bedsTakenFrom_20 : decode cX1_bedsTakenFrom 20 = .ok (.iload_n 2, 1) := by decide +kernel
theorem dX1_bedsTakenFrom_21 : decode cX1_bedsTakenFrom 21 = .ok (.iconst 1, 1) := by decide +kernel
theorem dX1_bedsTakenFrom_22 : decode cX1_bedsTakenFrom 22 = .ok (.iadd, 1) := by decide +kernel
theorem dX1_bedsTakenFrom_23 : decode cX1_bedsTakenFrom 23 = .ok (.invokestatic 52, 3) := by decide +kernel
theorem dX1_bedsTakenFrom_26 : decode cX1_bedsTakenFrom 26 = .ok (.aload_n 0, 1) := by decide +kernel
theorem dX1_bedsTakenFrom_27 : decode cX1_bedsTakenFrom 27 = .ok (.getfield 15, 3) := by decide +kernel
theorem dX1_bedsTakenFrom_30 : decode cX1_bedsTakenFrom 30 = .ok (.iload 4, 2) := by decide +kernel
theorem dX1_bedsTakenFrom_32 : decode cX1_bedsTakenFrom 32 = .ok (.iaload, 1) := by decide +kernel
theorem dX1_bedsTakenFrom_33 : decode cX1_bedsTakenFrom 33 = .ok (.iload_n 1, 1) := by decide +kernel
theorem dX1_bedsTakenFrom_34 : decode cX1_bedsTakenFrom 34 = .ok (.invokestatic 57, 3) := by decide +kernel
theorem dX1_bedsTakenFrom_37 : decode cX1_bedsTakenFrom 37 = .ok (.isub, 1) := by decide +kernel
theorem dX1_bedsTakenFrom_38 : decode cX1_bedsTakenFrom 38 = .ok (.istore 5, 2) := by decide +kernel
theorem dX1_bedsTakenFrom_40 : decode cX1_bedsTakenFrom 40 = .ok (.aload_n 0, 1) := by decide +kernel
theorem dX1_bedsTakenFrom_41 : decode cX1_bedsTakenFrom 41 = .ok (.iload 4, 2) := by decide +kernel
theorem dX1_bedsTakenFrom_43 : decode cX1_bedsTakenFrom 43 = .ok (.invokevirtual 60, 3) := by decide +kernel
theorem dX1_bedsTakenFrom_46 : decode cX1_bedsTakenFrom 46 = .ok (.ifCond .eq 21, 3) := by decide +kernel
theorem dX1_bedsTakenFrom_49 : decode cX1_bedsTakenFrom 49 = .ok (.iload 5, 2) := by decide +kernel
theorem dX1_bedsTakenFrom_51 : decode cX1_bedsTakenFrom 51 = .ok (.ifCond .le 16, 3) := by decide +kernel
theorem dX1_bedsTakenFrom_54 : decode cX1_bedsTakenFrom 54 = .ok (.iload_n 3, 1) := by decide +kernel
theorem dX1_bedsTakenFrom_55 : decode cX1_bedsTakenFrom 55 = .ok (.iload 5, 2) := by decide +kernel
theorem dX1_bedsTakenFrom_57 : decode cX1_bedsTakenFrom 57 = .ok (.aload_n 0, 1) := by decide +kernel
theorem dX1_bedsTakenFrom_58 : decode cX1_bedsTakenFrom 58 = .ok (.getfield 21, 3) := by decide +kernel
theorem dX1_bedsTakenFrom_61 : decode cX1_bedsTakenFrom 61 = .ok (.iload 4, 2) := by decide +kernel
theorem dX1_bedsTakenFrom_63 : decode cX1_bedsTakenFrom 63 = .ok (.iaload, 1) := by decide +kernel
theorem dX1_bedsTakenFrom_64 : decode cX1_bedsTakenFrom 64 = .ok (.imul, 1) := by decide +kernel
theorem dX1_bedsTakenFrom_65 : decode cX1_bedsTakenFrom 65 = .ok (.iadd, 1) := by decide +kernel
theorem dX1_bedsTakenFrom_66 : decode cX1_bedsTakenFrom 66 = .ok (.istore_n 3, 1) := by decide +kernel
theorem dX1_bedsTakenFrom_67 : decode cX1_bedsTakenFrom 67 = .ok (.iinc 4 1, 3) := by decide +kernel
theorem dX1_bedsTakenFrom_70 : decode cX1_bedsTakenFrom 70 = .ok (.goto (-65), 3) := by decide +kernel
theorem dX1_bedsTakenFrom_73 : decode cX1_bedsTakenFrom 73 = .ok (.iload_n 3, 1) := by decide +kernel
theorem dX1_bedsTakenFrom_74 : decode cX1_bedsTakenFrom 74 = .ok (.ireturn, 1) := by decide +kernel
theorem dX1_fillBedsTaken_0 : decode cX1_fillBedsTaken 0 = .ok (.aload_n 1, 1) := by decide +kernel
theorem dX1_fillBedsTaken_1 : decode cX1_fillBedsTaken 1 = .ok (.iconst 0, 1) := by decide +kernel
theorem dX1_fillBedsTaken_2 : decode cX1_fillBedsTaken 2 = .ok (.invokestatic 64, 3) := by decide +kernel
theorem dX1_fillBedsTaken_5 : decode cX1_fillBedsTaken 5 = .ok (.iconst 0, 1) := by decide +kernel
theorem dX1_fillBedsTaken_6 : decode cX1_fillBedsTaken 6 = .ok (.istore_n 2, 1) := by decide +kernel
theorem dX1_fillBedsTaken_7 : decode cX1_fillBedsTaken 7 = .ok (.iload_n 2, 1) := by decide +kernel
theorem dX1_fillBedsTaken_8 : decode cX1_fillBedsTaken 8 = .ok (.aload_n 0, 1) := by decide +kernel
theorem dX1_fillBedsTaken_9 : decode cX1_fillBedsTaken 9 = .ok (.getfield 33, 3) := by decide +kernel
theorem dX1_fillBedsTaken_12 : decode cX1_fillBedsTaken 12 = .ok (.if_icmp .ge 64, 3) := by decide +kernel
theorem dX1_fillBedsTaken_15 : decode cX1_fillBedsTaken 15 = .ok (.aload_n 0, 1) := by decide +kernel
theorem dX1_fillBedsTaken_16 : decode cX1_fillBedsTaken 16 = .ok (.iload_n 2, 1) := by decide +kernel
theorem dX1_fillBedsTaken_17 : decode cX1_fillBedsTaken 17 = .ok (.invokevirtual 60, 3) := by decide +kernel
theorem dX1_fillBedsTaken_20 : decode cX1_fillBedsTaken 20 = .ok (.ifCond .ne 6, 3) := by decide +kernel
theorem dX1_fillBedsTaken_23 : decode cX1_fillBedsTaken 23 = .ok (.goto 47, 3) := by decide +kernel
theorem dX1_fillBedsTaken_26 : decode cX1_fillBedsTaken 26 = .ok (.iconst 0, 1) := by decide +kernel
theorem dX1_fillBedsTaken_27 : decode cX1_fillBedsTaken 27 = .ok (.aload_n 0, 1) := by decide +kernel
theorem dX1_fillBedsTaken_28 : decode cX1_fillBedsTaken 28 = .ok (.getfield 15, 3) := by decide +kernel
theorem dX1_fillBedsTaken_31 : decode cX1_fillBedsTaken 31 = .ok (.iload_n 2, 1) := by decide +kernel
theorem dX1_fillBedsTaken_32 : decode cX1_fillBedsTaken 32 = .ok (.iaload, 1) := by decide +kernel
theorem dX1_fillBedsTaken_33 : decode cX1_fillBedsTaken 33 = .ok (.invokestatic 57, 3) := by decide +kernel
theorem dX1_fillBedsTaken_36 : decode cX1_fillBedsTaken 36 = .ok (.istore_n 3, 1) := by decide +kernel
theorem dX1_fillBedsTaken_37 : decode cX1_fillBedsTaken 37 = .ok (.iload_n 3, 1) := by decide +kernel
theorem dX1_fillBedsTaken_38 : decode cX1_fillBedsTaken 38 = .ok (.aload_n 0, 1) := by decide +kernel
theorem dX1_fillBedsTaken_39 : decode cX1_fillBedsTaken 39 = .ok (.iload_n 2, 1) := by decide +kernel
theorem dX1_fillBedsTaken_40 : decode cX1_fillBedsTaken 40 = .ok (.invokevirtual 44, 3) := by decide +kernel
theorem dX1_fillBedsTaken_43 : decode cX1_fillBedsTaken 43 = .ok (.if_icmp .ge 27, 3) := by decide +kernel
theorem dX1_fillBedsTaken_46 : decode cX1_fillBedsTaken 46 = .ok (.iload_n 3, 1) := by decide +kernel
theorem dX1_fillBedsTaken_47 : decode cX1_fillBedsTaken 47 = .ok (.aload_n 1, 1) := by decide +kernel
theorem dX1_fillBedsTaken_48 : decode cX1_fillBedsTaken 48 = .ok (.arraylength, 1) := by decide +kernel
theorem dX1_fillBedsTaken_49 : decode cX1_fillBedsTaken 49 = .ok (.if_icmp .ge 21, 3) := by decide +kernel
theorem dX1_fillBedsTaken_52 : decode cX1_fillBedsTaken 52 = .ok (.aload_n 1, 1) := by decide +kernel
theorem dX1_fillBedsTaken_53 : decode cX1_fillBedsTaken 53 = .ok (.iload_n 3, 1) := by decide +kernel
theorem dX1_fillBedsTaken_54 : decode cX1_fillBedsTaken 54 = .ok (.dup2, 1) := by decide +kernel
theorem dX1_fillBedsTaken_55 : decode cX1_fillBedsTaken 55 = .ok (.iaload, 1) := by decide +kernel
theorem dX1_fillBedsTaken_56 : decode cX1_fillBedsTaken 56 = .ok (.aload_n 0, 1) := by decide +kernel
theorem dX1_fillBedsTaken_57 : decode cX1_fillBedsTaken 57 = .ok (.getfield 21, 3) := by decide +kernel
theorem dX1_fillBedsTaken_60 : decode cX1_fillBedsTaken 60 = .ok (.iload_n 2, 1) := by decide +kernel
theorem dX1_fillBedsTaken_61 : decode cX1_fillBedsTaken 61 = .ok (.iaload, 1) := by decide +kernel
theorem dX1_fillBedsTaken_62 : decode cX1_fillBedsTaken 62 = .ok (.iadd, 1) := by decide +kernel
theorem dX1_fillBedsTaken_63 : decode cX1_fillBedsTaken 63 = .ok (.iastore, 1) := by decide +kernel
theorem dX1_fillBedsTaken_64 : decode cX1_fillBedsTaken 64 = .ok (.iinc 3 1, 3) := by decide +kernel
theorem dX1_fillBedsTaken_67 : decode cX1_fillBedsTaken 67 = .ok (.goto (-30), 3) := by decide +kernel
theorem dX1_fillBedsTaken_70 : decode cX1_fillBedsTaken 70 = .ok (.iinc 2 1, 3) := by decide +kernel
theorem dX1_fillBedsTaken_73 : decode cX1_fillBedsTaken 73 = .ok (.goto (-66), 3) := by decide +kernel
theorem dX1_fillBedsTaken_76 : decode cX1_fillBedsTaken 76 = .ok (.return_, 1) := by decide +kernel
theorem dX1_arrivingOn_0 : decode cX1_arrivingOn 0 = .ok (.iconst 0, 1) := by decide +kernel
theorem dX1_arrivingOn_1 : decode cX1_arrivingOn 1 = .ok (.istore_n 2, 1) := by decide +kernel
theorem dX1_arrivingOn_2 : decode cX1_arrivingOn 2 = .ok (.iconst 0, 1) := by decide +kernel
theorem dX1_arrivingOn_3 : decode cX1_arrivingOn 3 = .ok (.istore_n 3, 1) := by decide +kernel
theorem dX1_arrivingOn_4 : decode cX1_arrivingOn 4 = .ok (.iload_n 3, 1) := by decide +kernel
theorem dX1_arrivingOn_5 : decode cX1_arrivingOn 5 = .ok (.aload_n 0, 1) := by decide +kernel
theorem dX1_arrivingOn_6 : decode cX1_arrivingOn 6 = .ok (.getfield 33, 3) := by decide +kernel
theorem dX1_arrivingOn_9 : decode cX1_arrivingOn 9 = .ok (.if_icmp .ge 31, 3) := by decide +kernel
theorem dX1_arrivingOn_12 : decode cX1_arrivingOn 12 = .ok (.aload_n 0, 1) := by decide +kernel
theorem dX1_arrivingOn_13 : decode cX1_arrivingOn 13 = .ok (.getfield 9, 3) := by decide +kernel
theorem dX1_arrivingOn_16 : decode cX1_arrivingOn 16 = .ok (.iload_n 3, 1) := by decide +kernel
theorem dX1_arrivingOn_17 : decode cX1_arrivingOn 17 = .ok (.iaload, 1) := by decide +kernel
theorem dX1_arrivingOn_18 : decode cX1_arrivingOn 18 = .ok (.ifCond .ne 16, 3) := by decide +kernel
theorem dX1_arrivingOn_21 : decode cX1_arrivingOn 21 = .ok (.aload_n 0, 1) := by decide +kernel
theorem dX1_arrivingOn_22 : decode cX1_arrivingOn 22 = .ok (.getfield 15, 3) := by decide +kernel
theorem dX1_arrivingOn_25 : decode cX1_arrivingOn 25 = .ok (.iload_n 3, 1) := by decide +kernel
theorem dX1_arrivingOn_26 : decode cX1_arrivingOn 26 = .ok (.iaload, 1) := by decide +kernel
theorem dX1_arrivingOn_27 : decode cX1_arrivingOn 27 = .ok (.iload_n 1, 1) := by decide +kernel
theorem dX1_arrivingOn_28 : decode cX1_arrivingOn 28 = .ok (.if_icmp .ne 6, 3) := by decide +kernel
theorem dX1_arrivingOn_31 : decode cX1_arrivingOn 31 = .ok (.iinc 2 1, 3) := by decide +kernel
theorem dX1_arrivingOn_34 : decode cX1_arrivingOn 34 = .ok (.iinc 3 1, 3) := by decide +kernel
theorem dX1_arrivingOn_37 : decode cX1_arrivingOn 37 = .ok (.goto (-33), 3) := by decide +kernel
theorem dX1_arrivingOn_40 : decode cX1_arrivingOn 40 = .ok (.iload_n 2, 1) := by decide +kernel
theorem dX1_arrivingOn_41 : decode cX1_arrivingOn 41 = .ok (.ireturn, 1) := by decide +kernel
theorem dX1_endingOn_0 : decode cX1_endingOn 0 = .ok (.iconst 0, 1) := by decide +kernel
theorem dX1_endingOn_1 : decode cX1_endingOn 1 = .ok (.istore_n 2, 1) := by decide +kernel
theorem dX1_endingOn_2 : decode cX1_endingOn 2 = .ok (.iconst 0, 1) := by decide +kernel
theorem dX1_endingOn_3 : decode cX1_endingOn 3 = .ok (.istore_n 3, 1) := by decide +kernel
theorem dX1_endingOn_4 : decode cX1_endingOn 4 = .ok (.iload_n 3, 1) := by decide +kernel
theorem dX1_endingOn_5 : decode cX1_endingOn 5 = .ok (.aload_n 0, 1) := by decide +kernel
theorem dX1_endingOn_6 : decode cX1_endingOn 6 = .ok (.getfield 33, 3) := by decide +kernel
theorem dX1_endingOn_9 : decode cX1_endingOn 9 = .ok (.if_icmp .ge 29, 3) := by decide +kernel
theorem dX1_endingOn_12 : decode cX1_endingOn 12 = .ok (.aload_n 0, 1) := by decide +kernel
theorem dX1_endingOn_13 : decode cX1_endingOn 13 = .ok (.iload_n 3, 1) := by decide +kernel
theorem dX1_endingOn_14 : decode cX1_endingOn 14 = .ok (.invokevirtual 60, 3) := by decide +kernel
theorem dX1_endingOn_17 : decode cX1_endingOn 17 = .ok (.ifCond .eq 15, 3) := by decide +kernel
theorem dX1_endingOn_20 : decode cX1_endingOn 20 = .ok (.aload_n 0, 1) := by decide +kernel
theorem dX1_endingOn_21 : decode cX1_endingOn 21 = .ok (.iload_n 3, 1) := by decide +kernel
theorem dX1_endingOn_22 : decode cX1_endingOn 22 = .ok (.invokevirtual 44, 3) := by decide +kernel
theorem dX1_endingOn_25 : decode cX1_endingOn 25 = .ok (.iload_n 1, 1) := by decide +kernel
theorem dX1_endingOn_26 : decode cX1_endingOn 26 = .ok (.if_icmp .ne 6, 3) := by decide +kernel
theorem dX1_endingOn_29 : decode cX1_endingOn 29 = .ok (.iinc 2 1, 3) := by decide +kernel
theorem dX1_endingOn_32 : decode cX1_endingOn 32 = .ok (.iinc 3 1, 3) := by decide +kernel
theorem dX1_endingOn_35 : decode cX1_endingOn 35 = .ok (.goto (-31), 3) := by decide +kernel
theorem dX1_endingOn_38 : decode cX1_endingOn 38 = .ok (.iload_n 2, 1) := by decide +kernel
theorem dX1_endingOn_39 : decode cX1_endingOn 39 = .ok (.ireturn, 1) := by decide +kernel
theorem dX1_howMany_0 : decode cX1_howMany 0 = .ok (.iconst 0, 1) := by decide +kernel
theorem dX1_howMany_1 : decode cX1_howMany 1 = .ok (.istore_n 2, 1) := by decide +kernel
theorem dX1_howMany_2 : decode cX1_howMany 2 = .ok (.iconst 0, 1) := by decide +kernel
theorem dX1_howMany_3 : decode cX1_howMany 3 = .ok (.istore_n 3, 1) := by decide +kernel
theorem dX1_howMany_4 : decode cX1_howMany 4 = .ok (.iload_n 3, 1) := by decide +kernel
theorem dX1_howMany_5 : decode cX1_howMany 5 = .ok (.aload_n 0, 1) := by decide +kernel
theorem dX1_howMany_6 : decode cX1_howMany 6 = .ok (.getfield 33, 3) := by decide +kernel
theorem dX1_howMany_9 : decode cX1_howMany 9 = .ok (.if_icmp .ge 22, 3) := by decide +kernel
theorem dX1_howMany_12 : decode cX1_howMany 12 = .ok (.aload_n 0, 1) := by decide +kernel
theorem dX1_howMany_13 : decode cX1_howMany 13 = .ok (.getfield 9, 3) := by decide +kernel
theorem dX1_howMany_16 : decode cX1_howMany 16 = .ok (.iload_n 3, 1) := by decide +kernel
theorem dX1_howMany_17 : decode cX1_howMany 17 = .ok (.iaload, 1) := by decide +kernel
theorem dX1_howMany_18 : decode cX1_howMany 18 = .ok (.iload_n 1, 1) := by decide +kernel
theorem dX1_howMany_19 : decode cX1_howMany 19 = .ok (.if_icmp .ne 6, 3) := by decide +kernel
theorem dX1_howMany_22 : decode cX1_howMany 22 = .ok (.iinc 2 1, 3) := by decide +kernel
theorem dX1_howMany_25 : decode cX1_howMany 25 = .ok (.iinc 3 1, 3) := by decide +kernel
theorem dX1_howMany_28 : decode cX1_howMany 28 = .ok (.goto (-24), 3) := by decide +kernel
theorem dX1_howMany_31 : decode cX1_howMany 31 = .ok (.iload_n 2, 1) := by decide +kernel
theorem dX1_howMany_32 : decode cX1_howMany 32 = .ok (.ireturn, 1) := by decide +kernel
theorem dX1_personsThere_0 : decode cX1_personsThere 0 = .ok (.iconst 0, 1) := by decide +kernel
theorem dX1_personsThere_1 : decode cX1_personsThere 1 = .ok (.istore_n 1, 1) := by decide +kernel
theorem dX1_personsThere_2 : decode cX1_personsThere 2 = .ok (.iconst 0, 1) := by decide +kernel
theorem dX1_personsThere_3 : decode cX1_personsThere 3 = .ok (.istore_n 2, 1) := by decide +kernel
theorem dX1_personsThere_4 : decode cX1_personsThere 4 = .ok (.iload_n 2, 1) := by decide +kernel
theorem dX1_personsThere_5 : decode cX1_personsThere 5 = .ok (.aload_n 0, 1) := by decide +kernel
theorem dX1_personsThere_6 : decode cX1_personsThere 6 = .ok (.getfield 33, 3) := by decide +kernel
theorem dX1_personsThere_9 : decode cX1_personsThere 9 = .ok (.if_icmp .ge 28, 3) := by decide +kernel
theorem dX1_personsThere_12 : decode cX1_personsThere 12 = .ok (.aload_n 0, 1) := by decide +kernel
theorem dX1_personsThere_13 : decode cX1_personsThere 13 = .ok (.getfield 9, 3) := by decide +kernel
theorem dX1_personsThere_16 : decode cX1_personsThere 16 = .ok (.iload_n 2, 1) := by decide +kernel
theorem dX1_personsThere_17 : decode cX1_personsThere 17 = .ok (.iaload, 1) := by decide +kernel
theorem dX1_personsThere_18 : decode cX1_personsThere 18 = .ok (.iconst 1, 1) := by decide +kernel
theorem dX1_personsThere_19 : decode cX1_personsThere 19 = .ok (.if_icmp .ne 12, 3) := by decide +kernel
theorem dX1_personsThere_22 : decode cX1_personsThere 22 = .ok (.iload_n 1, 1) := by decide +kernel
theorem dX1_personsThere_23 : decode cX1_personsThere 23 = .ok (.aload_n 0, 1) := by decide +kernel
theorem dX1_personsThere_24 : decode cX1_personsThere 24 = .ok (.getfield 21, 3) := by decide +kernel
theorem dX1_personsThere_27 : decode cX1_personsThere 27 = .ok (.iload_n 2, 1) := by decide +kernel
theorem dX1_personsThere_28 : decode cX1_personsThere 28 = .ok (.iaload, 1) := by decide +kernel
theorem dX1_personsThere_29 : decode cX1_personsThere 29 = .ok (.iadd, 1) := by decide +kernel
theorem dX1_personsThere_30 : decode cX1_personsThere 30 = .ok (.istore_n 1, 1) := by decide +kernel
theorem dX1_personsThere_31 : decode cX1_personsThere 31 = .ok (.iinc 2 1, 3) := by decide +kernel
theorem dX1_personsThere_34 : decode cX1_personsThere 34 = .ok (.goto (-30), 3) := by decide +kernel
theorem dX1_personsThere_37 : decode cX1_personsThere 37 = .ok (.iload_n 1, 1) := by decide +kernel
theorem dX1_personsThere_38 : decode cX1_personsThere 38 = .ok (.ireturn, 1) := by decide +kernel
theorem dX1_depositsHeld_0 : decode cX1_depositsHeld 0 = .ok (.iconst 0, 1) := by decide +kernel
theorem dX1_depositsHeld_1 : decode cX1_depositsHeld 1 = .ok (.istore_n 1, 1) := by decide +kernel
theorem dX1_depositsHeld_2 : decode cX1_depositsHeld 2 = .ok (.iconst 0, 1) := by decide +kernel
theorem dX1_depositsHeld_3 : decode cX1_depositsHeld 3 = .ok (.istore_n 2, 1) := by decide +kernel
theorem dX1_depositsHeld_4 : decode cX1_depositsHeld 4 = .ok (.iload_n 2, 1) := by decide +kernel
theorem dX1_depositsHeld_5 : decode cX1_depositsHeld 5 = .ok (.aload_n 0, 1) := by decide +kernel
theorem dX1_depositsHeld_6 : decode cX1_depositsHeld 6 = .ok (.getfield 33, 3) := by decide +kernel
theorem dX1_depositsHeld_9 : decode cX1_depositsHeld 9 = .ok (.if_icmp .ge 26, 3) := by decide +kernel
theorem dX1_depositsHeld_12 : decode cX1_depositsHeld 12 = .ok (.aload_n 0, 1) := by decide +kernel
theorem dX1_depositsHeld_13 : decode cX1_depositsHeld 13 = .ok (.iload_n 2, 1) := by decide +kernel
theorem dX1_depositsHeld_14 : decode cX1_depositsHeld 14 = .ok (.invokevirtual 60, 3) := by decide +kernel
theorem dX1_depositsHeld_17 : decode cX1_depositsHeld 17 = .ok (.ifCond .eq 12, 3) := by decide +kernel
theorem dX1_depositsHeld_20 : decode cX1_depositsHeld 20 = .ok (.iload_n 1, 1) := by decide +kernel
theorem dX1_depositsHeld_21 : decode cX1_depositsHeld 21 = .ok (.aload_n 0, 1) := by decide +kernel
theorem dX1_depositsHeld_22 : decode cX1_depositsHeld 22 = .ok (.getfield 27, 3) := by decide +kernel
theorem dX1_depositsHeld_25 : decode cX1_depositsHeld 25 = .ok (.iload_n 2, 1) := by decide +kernel
theorem dX1_depositsHeld_26 : decode cX1_depositsHeld 26 = .ok (.iaload, 1) := by decide +kernel
theorem dX1_depositsHeld_27 : decode cX1_depositsHeld 27 = .ok (.iadd, 1) := by decide +kernel
theorem dX1_depositsHeld_28 : decode cX1_depositsHeld 28 = .ok (.istore_n 1, 1) := by decide +kernel
theorem dX1_depositsHeld_29 : decode cX1_depositsHeld 29 = .ok (.iinc 2 1, 3) := by decide +kernel
theorem dX1_depositsHeld_32 : decode cX1_depositsHeld 32 = .ok (.goto (-28), 3) := by decide +kernel
theorem dX1_depositsHeld_35 : decode cX1_depositsHeld 35 = .ok (.iload_n 1, 1) := by decide +kernel
theorem dX1_depositsHeld_36 : decode cX1_depositsHeld 36 = .ok (.ireturn, 1) := by decide +kernel
theorem dX2_init_0 : decode cX2_init 0 = .ok (.aload_n 0, 1) := by decide +kernel
theorem dX2_init_1 : decode cX2_init 1 = .ok (.invokespecial 3, 3) := by decide +kernel
theorem dX2_init_4 : decode cX2_init 4 = .ok (.aload_n 0, 1) := by decide +kernel
theorem dX2_init_5 : decode cX2_init 5 = .ok (.iconst 4, 1) := by decide +kernel
theorem dX2_init_6 : decode cX2_init 6 = .ok (.anewarray 9, 3) := by decide +kernel
theorem dX2_init_9 : decode cX2_init 9 = .ok (.putfield 11, 3) := by decide +kernel
theorem dX2_init_12 : decode cX2_init 12 = .ok (.iconst 0, 1) := by decide +kernel
theorem dX2_init_13 : decode cX2_init 13 = .ok (.istore_n 1, 1) := by decide +kernel
theorem dX2_init_14 : decode cX2_init 14 = .ok (.iload_n 1, 1) := by decide +kernel
theorem dX2_init_15 : decode cX2_init 15 = .ok (.iconst 4, 1) := by decide +kernel
theorem dX2_init_16 : decode cX2_init 16 = .ok (.if_icmp .ge 22, 3) := by decide +kernel
theorem dX2_init_19 : decode cX2_init 19 = .ok (.aload_n 0, 1) := by decide +kernel
theorem dX2_init_20 : decode cX2_init 20 = .ok (.getfield 11, 3) := by decide +kernel
theorem dX2_init_23 : decode cX2_init 23 = .ok (.iload_n 1, 1) := by decide +kernel
theorem dX2_init_24 : decode cX2_init 24 = .ok (.new 9, 3) := by decide +kernel
theorem dX2_init_27 : decode cX2_init 27 = .ok (.dup, 1) := by decide +kernel
theorem dX2_init_28 : decode cX2_init 28 = .ok (.invokespecial 17, 3) := by decide +kernel
theorem dX2_init_31 : decode cX2_init 31 = .ok (.aastore, 1) := by decide +kernel
theorem dX2_init_32 : decode cX2_init 32 = .ok (.iinc 1 1, 3) := by decide +kernel
theorem dX2_init_35 : decode cX2_init 35 = .ok (.goto (-21), 3) := by decide +kernel
theorem dX2_init_38 : decode cX2_init 38 = .ok (.return_, 1) := by decide +kernel
theorem dX2_remember_0 : decode cX2_remember 0 = .ok (.aload_n 0, 1) := by decide +kernel
theorem dX2_remember_1 : decode cX2_remember 1 = .ok (.getfield 18, 3) := by decide +kernel
theorem dX2_remember_4 : decode cX2_remember 4 = .ok (.iconst 4, 1) := by decide +kernel
theorem dX2_remember_5 : decode cX2_remember 5 = .ok (.if_icmp .lt 7, 3) := by decide +kernel
theorem dX2_remember_8 : decode cX2_remember 8 = .ok (.aload_n 0, 1) := by decide +kernel
theorem dX2_remember_9 : decode cX2_remember 9 = .ok (.invokevirtual 22, 3) := by decide +kernel
theorem dX2_remember_12 : decode cX2_remember 12 = .ok (.aload_n 0, 1) := by decide +kernel
theorem dX2_remember_13 : decode cX2_remember 13 = .ok (.getfield 11, 3) := by decide +kernel
theorem dX2_remember_16 : decode cX2_remember 16 = .ok (.aload_n 0, 1) := by decide +kernel
theorem dX2_remember_17 : decode cX2_remember 17 = .ok (.getfield 18, 3) := by decide +kernel
theorem dX2_remember_20 : decode cX2_remember 20 = .ok (.aaload, 1) := by decide +kernel
theorem dX2_remember_21 : decode cX2_remember 21 = .ok (.aload_n 1, 1) := by decide +kernel
theorem dX2_remember_22 : decode cX2_remember 22 = .ok (.invokevirtual 25, 3) := by decide +kernel
theorem dX2_remember_25 : decode cX2_remember 25 = .ok (.aload_n 0, 1) := by decide +kernel
theorem dX2_remember_26 : decode cX2_remember 26 = .ok (.dup, 1) := by decide +kernel
theorem dX2_remember_27 : decode cX2_remember 27 = .ok (.getfield 18, 3) := by decide +kernel
theorem dX2_remember_30 : decode cX2_remember 30 = .ok (.iconst 1, 1) := by decide +kernel
theorem dX2_remember_31 : decode cX2_remember 31 = .ok (.iadd, 1) := by decide +kernel
theorem dX2_remember_32 : decode cX2_remember 32 = .ok (.putfield 18, 3) := by decide +kernel
theorem dX2_remember_35 : decode cX2_remember 35 = .ok (.return_, 1) := by decide +kernel
theorem dX2_dropOldest_0 : decode cX2_dropOldest 0 = .ok (.aload_n 0, 1) := by decide +kernel
theorem dX2_dropOldest_1 : decode cX2_dropOldest 1 = .ok (.getfield 11, 3) := by decide +kernel
theorem dX2_dropOldest_4 : decode cX2_dropOldest 4 = .ok (.iconst 0, 1) := by decide +kernel
theorem dX2_dropOldest_5 : decode cX2_dropOldest 5 = .ok (.aaload, 1) := by decide +kernel
theorem dX2_dropOldest_6 : decode cX2_dropOldest 6 = .ok (.astore_n 1, 1) := by decide +kernel
theorem dX2_dropOldest_7 : decode cX2_dropOldest 7 = .ok (.iconst 1, 1) := by decide +kernel
theorem dX2_dropOldest_8 : decode cX2_dropOldest 8 = .ok (.istore_n 2, 1) := by decide +kernel
theorem dX2_dropOldest_9 : decode cX2_dropOldest 9 = .ok (.iload_n 2, 1) := by decide +kernel
theorem dX2_dropOldest_10 : decode cX2_dropOldest 10 = .ok (.iconst 4, 1) := by decide +kernel
theorem dX2_dropOldest_11 : decode cX2_dropOldest 11 = .ok (.if_icmp .ge 23, 3) := by decide +kernel
theorem dX2_dropOldest_14 : decode cX2_dropOldest 14 = .ok (.aload_n 0, 1) := by decide +kernel
theorem dX2_dropOldest_15 : decode cX2_dropOldest 15 = .ok (.getfield 11, 3) := by decide +kernel
theorem dX2_dropOldest_18 : decode cX2_dropOldest 18 = .ok (.iload_n 2, 1) := by decide +kernel
theorem dX2_dropOldest_19 : decode cX2_dropOldest 19 = .ok (.iconst 1, 1) := by decide +kernel
theorem dX2_dropOldest_20 : decode cX2_dropOldest 20 = .ok (.isub, 1) := by decide +kernel
theorem dX2_dropOldest_21 : decode cX2_dropOldest 21 = .ok (.aload_n 0, 1) := by decide +kernel
theorem dX2_dropOldest_22 : decode cX2_dropOldest 22 = .ok (.getfield 11, 3) := by decide +kernel
theorem dX2_dropOldest_25 : decode cX2_dropOldest 25 = .ok (.iload_n 2, 1) := by decide +kernel
theorem dX2_dropOldest_26 : decode cX2_dropOldest 26 = .ok (.aaload, 1) := by decide +kernel
theorem dX2_dropOldest_27 : decode cX2_dropOldest 27 = .ok (.aastore, 1) := by decide +kernel
theorem dX2_dropOldest_28 : decode cX2_dropOldest 28 = .ok (.iinc 2 1, 3) := by decide +kernel
theorem dX2_dropOldest_31 : decode cX2_dropOldest 31 = .ok (.goto (-22), 3) := by decide +kernel
theorem dX2_dropOldest_34 : decode cX2_dropOldest 34 = .ok (.aload_n 0, 1) := by decide +kernel
theorem dX2_dropOldest_35 : decode cX2_dropOldest 35 = .ok (.getfield 11, 3) := by decide +kernel
theorem dX2_dropOldest_38 : decode cX2_dropOldest 38 = .ok (.iconst 3, 1) := by decide +kernel
theorem dX2_dropOldest_39 : decode cX2_dropOldest 39 = .ok (.aload_n 1, 1) := by decide +kernel
theorem dX2_dropOldest_40 : decode cX2_dropOldest 40 = .ok (.aastore, 1) := by decide +kernel
theorem dX2_dropOldest_41 : decode cX2_dropOldest 41 = .ok (.aload_n 0, 1) := by decide +kernel
theorem dX2_dropOldest_42 : decode cX2_dropOldest 42 = .ok (.iconst 3, 1) := by decide +kernel
theorem dX2_dropOldest_43 : decode cX2_dropOldest 43 = .ok (.putfield 18, 3) := by decide +kernel
theorem dX2_dropOldest_46 : decode cX2_dropOldest 46 = .ok (.return_, 1) := by decide +kernel
theorem dX2_giveBack_0 : decode cX2_giveBack 0 = .ok (.aload_n 0, 1) := by decide +kernel
theorem dX2_giveBack_1 : decode cX2_giveBack 1 = .ok (.getfield 18, 3) := by decide +kernel
theorem dX2_giveBack_4 : decode cX2_giveBack 4 = .ok (.ifCond .le 26, 3) := by decide +kernel
theorem dX2_giveBack_7 : decode cX2_giveBack 7 = .ok (.aload_n 0, 1) := by decide +kernel
theorem dX2_giveBack_8 : decode cX2_giveBack 8 = .ok (.dup, 1) := by decide +kernel
theorem dX2_giveBack_9 : decode cX2_giveBack 9 = .ok (.getfield 18, 3) := by decide +kernel
theorem dX2_giveBack_12 : decode cX2_giveBack 12 = .ok (.iconst 1, 1) := by decide +kernel
theorem dX2_giveBack_13 : decode cX2_giveBack 13 = .ok (.isub, 1) := by decide +kernel
theorem dX2_giveBack_14 : decode cX2_giveBack 14 = .ok (.putfield 18, 3) := by decide +kernel
theorem dX2_giveBack_17 : decode cX2_giveBack 17 = .ok (.aload_n 1, 1) := by decide +kernel
theorem dX2_giveBack_18 : decode cX2_giveBack 18 = .ok (.aload_n 0, 1) := by decide +kernel
theorem dX2_giveBack_19 : decode cX2_giveBack 19 = .ok (.getfield 11, 3) := by decide +kernel
theorem dX2_giveBack_22 : decode cX2_giveBack 22 = .ok (.aload_n 0, 1) := by decide +kernel
theorem dX2_giveBack_23 : decode cX2_giveBack 23 = .ok (.getfield 18, 3) := by decide +kernel
theorem dX2_giveBack_26 : decode cX2_giveBack 26 = .ok (.aaload, 1) := by decide +kernel
theorem dX2_giveBack_27 : decode cX2_giveBack 27 = .ok (.invokevirtual 25, 3) := by decide +kernel
theorem dX2_giveBack_30 : decode cX2_giveBack 30 = .ok (.return_, 1) := by decide +kernel
theorem dX3_init_0 : decode cX3_init 0 = .ok (.aload_n 0, 1) := by decide +kernel
theorem dX3_init_1 : decode cX3_init 1 = .ok (.invokespecial 3, 3) := by decide +kernel
theorem dX3_init_4 : decode cX3_init 4 = .ok (.aload_n 0, 1) := by decide +kernel
theorem dX3_init_5 : decode cX3_init 5 = .ok (.bipush 10, 2) := by decide +kernel
theorem dX3_init_7 : decode cX3_init 7 = .ok (.newarray .int, 2) := by decide +kernel
theorem dX3_init_9 : decode cX3_init 9 = .ok (.putfield 9, 3) := by decide +kernel
theorem dX3_init_12 : decode cX3_init 12 = .ok (.getstatic 15, 3) := by decide +kernel
theorem dX3_init_15 : decode cX3_init 15 = .ok (.iconst 0, 1) := by decide +kernel
theorem dX3_init_16 : decode cX3_init 16 = .ok (.aload_n 0, 1) := by decide +kernel
theorem dX3_init_17 : decode cX3_init 17 = .ok (.getfield 9, 3) := by decide +kernel
theorem dX3_init_20 : decode cX3_init 20 = .ok (.iconst 0, 1) := by decide +kernel
theorem dX3_init_21 : decode cX3_init 21 = .ok (.bipush 10, 2) := by decide +kernel
theorem dX3_init_23 : decode cX3_init 23 = .ok (.invokestatic 18, 3) := by decide +kernel
theorem dX3_init_26 : decode cX3_init 26 = .ok (.aload_n 0, 1) := by decide +kernel
theorem dX3_init_27 : decode cX3_init 27 = .ok (.sipush 1000, 3) := by decide +kernel
theorem dX3_init_30 : decode cX3_init 30 = .ok (.newarray .int, 2) := by decide +kernel
theorem dX3_init_32 : decode cX3_init 32 = .ok (.putfield 24, 3) := by decide +kernel
theorem dX3_init_35 : decode cX3_init 35 = .ok (.aload_n 0, 1) := by decide +kernel
theorem dX3_init_36 : decode cX3_init 36 = .ok (.new 27, 3) := by decide +kernel
theorem dX3_init_39 : decode cX3_init 39 = .ok (.dup, 1) := by decide +kernel
theorem dX3_init_40 : decode cX3_init 40 = .ok (.invokespecial 29, 3) := by decide +kernel
theorem dX3_init_43 : decode cX3_init 43 = .ok (.putfield 30, 3) := by decide +kernel
theorem dX3_init_46 : decode cX3_init 46 = .ok (.aload_n 0, 1) := by decide +kernel
theorem dX3_init_47 : decode cX3_init 47 = .ok (.new 34, 3) := by decide +kernel
theorem dX3_init_50 : decode cX3_init 50 = .ok (.dup, 1) := by decide +kernel
theorem dX3_init_51 : decode cX3_init 51 = .ok (.invokespecial 36, 3) := by decide +kernel
theorem dX3_init_54 : decode cX3_init 54 = .ok (.putfield 37, 3) := by decide +kernel
theorem dX3_init_57 : decode cX3_init 57 = .ok (.aload_n 0, 1) := by decide +kernel
theorem dX3_init_58 : decode cX3_init 58 = .ok (.new 41, 3) := by decide +kernel
theorem dX3_init_61 : decode cX3_init 61 = .ok (.dup, 1) := by decide +kernel
theorem dX3_init_62 : decode cX3_init 62 = .ok (.invokespecial 43, 3) := by decide +kernel
theorem dX3_init_65 : decode cX3_init 65 = .ok (.putfield 44, 3) := by decide +kernel
theorem dX3_init_68 : decode cX3_init 68 = .ok (.aload_n 0, 1) := by decide +kernel
theorem dX3_init_69 : decode cX3_init 69 = .ok (.bipush 9, 2) := by decide +kernel
theorem dX3_init_71 : decode cX3_init 71 = .ok (.newarray .int, 2) := by decide +kernel
theorem dX3_init_73 : decode cX3_init 73 = .ok (.putfield 48, 3) := by decide +kernel
theorem dX3_init_76 : decode cX3_init 76 = .ok (.return_, 1) := by decide +kernel
theorem dX3_copyFrom_0 : decode cX3_copyFrom 0 = .ok (.aload_n 1, 1) := by decide +kernel
theorem dX3_copyFrom_1 : decode cX3_copyFrom 1 = .ok (.getfield 9, 3) := by decide +kernel
theorem dX3_copyFrom_4 : decode cX3_copyFrom 4 = .ok (.iconst 0, 1) := by decide +kernel
theorem dX3_copyFrom_5 : decode cX3_copyFrom 5 = .ok (.aload_n 0, 1) := by decide +kernel
theorem dX3_copyFrom_6 : decode cX3_copyFrom 6 = .ok (.getfield 9, 3) := by decide +kernel
theorem dX3_copyFrom_9 : decode cX3_copyFrom 9 = .ok (.iconst 0, 1) := by decide +kernel
theorem dX3_copyFrom_10 : decode cX3_copyFrom 10 = .ok (.bipush 10, 2) := by decide +kernel
theorem dX3_copyFrom_12 : decode cX3_copyFrom 12 = .ok (.invokestatic 18, 3) := by decide +kernel
theorem dX3_copyFrom_15 : decode cX3_copyFrom 15 = .ok (.aload_n 1, 1) := by decide +kernel
theorem dX3_copyFrom_16 : decode cX3_copyFrom 16 = .ok (.getfield 24, 3) := by decide +kernel
theorem dX3_copyFrom_19 : decode cX3_copyFrom 19 = .ok (.iconst 0, 1) := by decide +kernel
theorem dX3_copyFrom_20 : decode cX3_copyFrom 20 = .ok (.aload_n 0, 1) := by decide +kernel
theorem dX3_copyFrom_21 : decode cX3_copyFrom 21 = .ok (.getfield 24, 3) := by decide +kernel
theorem dX3_copyFrom_24 : decode cX3_copyFrom 24 = .ok (.iconst 0, 1) := by decide +kernel
theorem dX3_copyFrom_25 : decode cX3_copyFrom 25 = .ok (.sipush 1000, 3) := by decide +kernel
theorem dX3_copyFrom_28 : decode cX3_copyFrom 28 = .ok (.invokestatic 18, 3) := by decide +kernel
theorem dX3_copyFrom_31 : decode cX3_copyFrom 31 = .ok (.aload_n 0, 1) := by decide +kernel
theorem dX3_copyFrom_32 : decode cX3_copyFrom 32 = .ok (.getfield 30, 3) := by decide +kernel
theorem dX3_copyFrom_35 : decode cX3_copyFrom 35 = .ok (.aload_n 1, 1) := by decide +kernel
theorem dX3_copyFrom_36 : decode cX3_copyFrom 36 = .ok (.getfield 30, 3) := by decide +kernel
theorem dX3_copyFrom_39 : decode cX3_copyFrom 39 = .ok (.invokevirtual 51, 3) := by decide +kernel
theorem dX3_copyFrom_42 : decode cX3_copyFrom 42 = .ok (.aload_n 0, 1) := by decide +kernel
theorem dX3_copyFrom_43 : decode cX3_copyFrom 43 = .ok (.getfield 37, 3) := by decide +kernel
theorem dX3_copyFrom_46 : decode cX3_copyFrom 46 = .ok (.aload_n 1, 1) := by decide +kernel
theorem dX3_copyFrom_47 : decode cX3_copyFrom 47 = .ok (.getfield 37, 3) := by decide +kernel
theorem dX3_copyFrom_50 : decode cX3_copyFrom 50 = .ok (.invokevirtual 55, 3) := by decide +kernel
theorem dX3_copyFrom_53 : decode cX3_copyFrom 53 = .ok (.aload_n 0, 1) := by decide +kernel
theorem dX3_copyFrom_54 : decode cX3_copyFrom 54 = .ok (.getfield 44, 3) := by decide +kernel
theorem dX3_copyFrom_57 : decode cX3_copyFrom 57 = .ok (.aload_n 1, 1) := by decide +kernel
theorem dX3_copyFrom_58 : decode cX3_copyFrom 58 = .ok (.getfield 44, 3) := by decide +kernel
theorem dX3_copyFrom_61 : decode cX3_copyFrom 61 = .ok (.invokevirtual 58, 3) := by decide +kernel
theorem dX3_copyFrom_64 : decode cX3_copyFrom 64 = .ok (.aload_n 1, 1) := by decide +kernel
theorem dX3_copyFrom_65 : decode cX3_copyFrom 65 = .ok (.getfield 48, 3) := by decide +kernel
theorem dX3_copyFrom_68 : decode cX3_copyFrom 68 = .ok (.iconst 0, 1) := by decide +kernel
theorem dX3_copyFrom_69 : decode cX3_copyFrom 69 = .ok (.aload_n 0, 1) := by decide +kernel
theorem dX3_copyFrom_70 : decode cX3_copyFrom 70 = .ok (.getfield 48, 3) := by decide +kernel
theorem dX3_copyFrom_73 : decode cX3_copyFrom 73 = .ok (.iconst 0, 1) := by decide +kernel
theorem dX3_copyFrom_74 : decode cX3_copyFrom 74 = .ok (.bipush 9, 2) := by decide +kernel
theorem dX3_copyFrom_76 : decode cX3_copyFrom 76 = .ok (.invokestatic 18, 3) := by decide +kernel
theorem dX3_copyFrom_79 : decode cX3_copyFrom 79 = .ok (.aload_n 0, 1) := by decide +kernel
theorem dX3_copyFrom_80 : decode cX3_copyFrom 80 = .ok (.aload_n 1, 1) := by decide +kernel
theorem dX3_copyFrom_81 : decode cX3_copyFrom 81 = .ok (.getfield 61, 3) := by decide +kernel
theorem dX3_copyFrom_84 : decode cX3_copyFrom 84 = .ok (.putfield 61, 3) := by decide +kernel
theorem dX3_copyFrom_87 : decode cX3_copyFrom 87 = .ok (.aload_n 0, 1) := by decide +kernel
theorem dX3_copyFrom_88 : decode cX3_copyFrom 88 = .ok (.aload_n 1, 1) := by decide +kernel
theorem dX3_copyFrom_89 : decode cX3_copyFrom 89 = .ok (.getfield 65, 3) := by decide +kernel
theorem dX3_copyFrom_92 : decode cX3_copyFrom 92 = .ok (.putfield 65, 3) := by decide +kernel
theorem dX3_copyFrom_95 : decode cX3_copyFrom 95 = .ok (.aload_n 0, 1) := by decide +kernel
theorem dX3_copyFrom_96 : decode cX3_copyFrom 96 = .ok (.aload_n 1, 1) := by decide +kernel
theorem dX3_copyFrom_97 : decode cX3_copyFrom 97 = .ok (.getfield 69, 3) := by decide +kernel
theorem dX3_copyFrom_100 : decode cX3_copyFrom 100 = .ok (.putfield 69, 3) := by decide +kernel
theorem dX3_copyFrom_103 : decode cX3_copyFrom 103 = .ok (.aload_n 0, 1) := by decide +kernel
theorem dX3_copyFrom_104 : decode cX3_copyFrom 104 = .ok (.aload_n 1, 1) := by decide +kernel
theorem dX3_copyFrom_105 : decode cX3_copyFrom 105 = .ok (.getfield 72, 3) := by decide +kernel
theorem dX3_copyFrom_108 : decode cX3_copyFrom 108 = .ok (.putfield 72, 3) := by decide +kernel
theorem dX3_copyFrom_111 : decode cX3_copyFrom 111 = .ok (.aload_n 0, 1) := by decide +kernel
theorem dX3_copyFrom_112 : decode cX3_copyFrom 112 = .ok (.aload_n 1, 1) := by decide +kernel
theorem dX3_copyFrom_113 : decode cX3_copyFrom 113 = .ok (.getfield 75, 3) := by decide +kernel
theorem dX3_copyFrom_116 : decode cX3_copyFrom 116 = .ok (.putfield 75, 3) := by decide +kernel
theorem dX3_copyFrom_119 : decode cX3_copyFrom 119 = .ok (.return_, 1) := by decide +kernel
theorem dX3_weatherOf_0 : decode cX3_weatherOf 0 = .ok (.iload_n 1, 1) := by decide +kernel
theorem dX3_weatherOf_1 : decode cX3_weatherOf 1 = .ok (.ifCond .lt 10, 3) := by decide +kernel
theorem dX3_weatherOf_4 : decode cX3_weatherOf 4 = .ok (.iload_n 1, 1) := by decide +kernel
theorem dX3_weatherOf_5 : decode cX3_weatherOf 5 = .ok (.sipush 999, 3) := by decide +kernel
theorem dX3_weatherOf_8 : decode cX3_weatherOf 8 = .ok (.if_icmp .le 7, 3) := by decide +kernel
theorem dX3_weatherOf_11 : decode cX3_weatherOf 11 = .ok (.iconst 0, 1) := by decide +kernel
theorem dX3_weatherOf_12 : decode cX3_weatherOf 12 = .ok (.goto 9, 3) := by decide +kernel
theorem dX3_weatherOf_15 : decode cX3_weatherOf 15 = .ok (.aload_n 0, 1) := by decide +kernel
theorem dX3_weatherOf_16 : decode cX3_weatherOf 16 = .ok (.getfield 24, 3) := by decide +kernel
theorem dX3_weatherOf_19 : decode cX3_weatherOf 19 = .ok (.iload_n 1, 1) := by decide +kernel
theorem dX3_weatherOf_20 : decode cX3_weatherOf 20 = .ok (.iaload, 1) := by decide +kernel
theorem dX3_weatherOf_21 : decode cX3_weatherOf 21 = .ok (.ireturn, 1) := by decide +kernel
theorem dX3_isUpOpen_0 : decode cX3_isUpOpen 0 = .ok (.aload_n 0, 1) := by decide +kernel
theorem dX3_isUpOpen_1 : decode cX3_isUpOpen 1 = .ok (.iload_n 1, 1) := by decide +kernel
theorem dX3_isUpOpen_2 : decode cX3_isUpOpen 2 = .ok (.invokevirtual 78, 3) := by decide +kernel
theorem dX3_isUpOpen_5 : decode cX3_isUpOpen 5 = .ok (.iconst 1, 1) := by decide +kernel
theorem dX3_isUpOpen_6 : decode cX3_isUpOpen 6 = .ok (.iand, 1) := by decide +kernel
theorem dX3_isUpOpen_7 : decode cX3_isUpOpen 7 = .ok (.ifCond .ne 7, 3) := by decide +kernel
theorem dX3_isUpOpen_10 : decode cX3_isUpOpen 10 = .ok (.iconst 1, 1) := by decide +kernel
theorem dX3_isUpOpen_11 : decode cX3_isUpOpen 11 = .ok (.goto 4, 3) := by decide +kernel
theorem dX3_isUpOpen_14 : decode cX3_isUpOpen 14 = .ok (.iconst 0, 1) := by decide +kernel
theorem dX3_isUpOpen_15 : decode cX3_isUpOpen 15 = .ok (.ireturn, 1) := by decide +kernel
theorem dX3_isDownOpen_0 : decode cX3_isDownOpen 0 = .ok (.aload_n 0, 1) := by decide +kernel
theorem dX3_isDownOpen_1 : decode cX3_isDownOpen 1 = .ok (.aload_n 0, 1) := by decide +kernel
theorem dX3_isDownOpen_2 : decode cX3_isDownOpen 2 = .ok (.getfield 61, 3) := by decide +kernel
theorem dX3_isDownOpen_5 : decode cX3_isDownOpen 5 = .ok (.invokevirtual 78, 3) := by decide +kernel
theorem dX3_isDownOpen_8 : decode cX3_isDownOpen 8 = .ok (.iconst 2, 1) := by decide +kernel
theorem dX3_isDownOpen_9 : decode cX3_isDownOpen 9 = .ok (.iand, 1) := by decide +kernel
theorem dX3_isDownOpen_10 : decode cX3_isDownOpen 10 = .ok (.ifCond .ne 7, 3) := by decide +kernel
theorem dX3_isDownOpen_13 : decode cX3_isDownOpen 13 = .ok (.iconst 1, 1) := by decide +kernel
theorem dX3_isDownOpen_14 : decode cX3_isDownOpen 14 = .ok (.goto 4, 3) := by decide +kernel
theorem dX3_isDownOpen_17 : decode cX3_isDownOpen 17 = .ok (.iconst 0, 1) := by decide +kernel
theorem dX3_isDownOpen_18 : decode cX3_isDownOpen 18 = .ok (.ireturn, 1) := by decide +kernel
theorem dX3_isWindy_0 : decode cX3_isWindy 0 = .ok (.aload_n 0, 1) := by decide +kernel
theorem dX3_isWindy_1 : decode cX3_isWindy 1 = .ok (.aload_n 0, 1) := by decide +kernel
theorem dX3_isWindy_2 : decode cX3_isWindy 2 = .ok (.getfield 61, 3) := by decide +kernel
theorem dX3_isWindy_5 : decode cX3_isWindy 5 = .ok (.invokevirtual 78, 3) := by decide +kernel
theorem dX3_isWindy_8 : decode cX3_isWindy 8 = .ok (.iconst 4, 1) := by decide +kernel
theorem dX3_isWindy_9 : decode cX3_isWindy 9 = .ok (.iand, 1) := by decide +kernel
theorem dX3_isWindy_10 : decode cX3_isWindy 10 = .ok (.ifCond .eq 7, 3) := by decide +kernel
theorem dX3_isWindy_13 : decode cX3_isWindy 13 = .ok (.iconst 1, 1) := by decide +kernel
theorem dX3_isWindy_14 : decode cX3_isWindy 14 = .ok (.goto 4, 3) := by decide +kernel
theorem dX3_isWindy_17 : decode cX3_isWindy 17 = .ok (.iconst 0, 1) := by decide +kernel
theorem dX3_isWindy_18 : decode cX3_isWindy 18 = .ok (.ireturn, 1) := by decide +kernel
theorem dX3_daysWithOtherWeather_0 : decode cX3_daysWithOtherWeather 0 = .ok (.iconst 0, 1) := by decide +kernel
theorem dX3_daysWithOtherWeather_1 : decode cX3_daysWithOtherWeather 1 = .ok (.istore 4, 2) := by decide +kernel
theorem dX3_daysWithOtherWeather_3 : decode cX3_daysWithOtherWeather 3 = .ok (.iload_n 1, 1) := by decide +kernel
theorem dX3_daysWithOtherWeather_4 : decode cX3_daysWithOtherWeather 4 = .ok (.istore 5, 2) := by decide +kernel
theorem dX3_daysWithOtherWeather_6 : decode cX3_daysWithOtherWeather 6 = .ok (.iload 5, 2) := by decide +kernel
theorem dX3_daysWithOtherWeather_8 : decode cX3_daysWithOtherWeather 8 = .ok (.iload_n 2, 1) := by decide +kernel
theorem dX3_daysWithOtherWeather_9 : decode cX3_daysWithOtherWeather 9 = .ok (.if_icmp .gt 30, 3) := by decide +kernel
theorem dX3_daysWithOtherWeather_12 : decode cX3_daysWithOtherWeather 12 = .ok (.iload 5, 2) := by decide +kernel
theorem dX3_daysWithOtherWeather_14 : decode cX3_daysWithOtherWeather 14 = .ok (.sipush 999, 3) := by decide +kernel
theorem dX3_daysWithOtherWeather_17 : decode cX3_daysWithOtherWeather 17 = .ok (.if_icmp .gt 22, 3) := by decide +kernel
theorem dX3_daysWithOtherWeather_20 : decode cX3_daysWithOtherWeather 20 = .ok (.aload_n 0, 1) := by decide +kernel
theorem dX3_daysWithOtherWeather_21 : decode cX3_daysWithOtherWeather 21 = .ok (.iload 5, 2) := by decide +kernel
theorem dX3_daysWithOtherWeather_23 : decode cX3_daysWithOtherWeather 23 = .ok (.invokevirtual 78, 3) := by decide +kernel
theorem dX3_daysWithOtherWeather_26 : decode cX3_daysWithOtherWeather 26 = .ok (.iload_n 3, 1) := by decide +kernel
theorem dX3_daysWithOtherWeather_27 : decode cX3_daysWithOtherWeather 27 = .ok (.if_icmp .eq 6, 3) := by decide +kernel
theorem dX3_daysWithOtherWeather_30 : decode cX3_daysWithOtherWeather 30 = .ok (.iinc 4 1, 3) := by decide +kernel
theorem dX3_daysWithOtherWeather_33 : decode cX3_daysWithOtherWeather 33 = .ok (.iinc 5 1, 3) := by decide +kernel
theorem dX3_daysWithOtherWeather_36 : decode cX3_daysWithOtherWeather 36 = .ok (.goto (-30), 3) := by decide +kernel
theorem dX3_daysWithOtherWeather_39 : decode cX3_daysWithOtherWeather 39 = .ok (.iload 4, 2) := by decide +kernel
theorem dX3_daysWithOtherWeather_41 : decode cX3_daysWithOtherWeather 41 = .ok (.ireturn, 1) := by decide +kernel
theorem dX3_changeWeather_0 : decode cX3_changeWeather 0 = .ok (.iconst 0, 1) := by decide +kernel
theorem dX3_changeWeather_1 : decode cX3_changeWeather 1 = .ok (.iload_n 1, 1) := by decide +kernel
theorem dX3_changeWeather_2 : decode cX3_changeWeather 2 = .ok (.invokestatic 82, 3) := by decide +kernel
theorem dX3_changeWeather_5 : decode cX3_changeWeather 5 = .ok (.istore 4, 2) := by decide +kernel
theorem dX3_changeWeather_7 : decode cX3_changeWeather 7 = .ok (.iload 4, 2) := by decide +kernel
theorem dX3_changeWeather_9 : decode cX3_changeWeather 9 = .ok (.iload_n 2, 1) := by decide +kernel
theorem dX3_changeWeather_10 : decode cX3_changeWeather 10 = .ok (.if_icmp .gt 25, 3) := by decide +kernel
theorem dX3_changeWeather_13 : decode cX3_changeWeather 13 = .ok (.iload 4, 2) := by decide +kernel
theorem dX3_changeWeather_15 : decode cX3_changeWeather 15 = .ok (.sipush 999, 3) := by decide +kernel
theorem dX3_changeWeather_18 : decode cX3_changeWeather 18 = .ok (.if_icmp .gt 17, 3) := by decide +kernel
theorem dX3_changeWeather_21 : decode cX3_changeWeather 21 = .ok (.aload_n 0, 1) := by decide +kernel
theorem dX3_changeWeather_22 : decode cX3_changeWeather 22 = .ok (.getfield 24, 3) := by decide +kernel
theorem dX3_changeWeather_25 : decode cX3_changeWeather 25 = .ok (.iload 4, 2) := by decide +kernel
theorem dX3_changeWeather_27 : decode cX3_changeWeather 27 = .ok (.iload_n 3, 1) := by decide +kernel
theorem dX3_changeWeather_28 : decode cX3_changeWeather 28 = .ok (.iastore, 1) := by decide +kernel
theorem dX3_changeWeather_29 : decode cX3_changeWeather 29 = .ok (.iinc 4 1, 3) := by decide +kernel
theorem dX3_changeWeather_32 : decode cX3_changeWeather 32 = .ok (.goto (-25), 3) := by decide +kernel
theorem dX3_changeWeather_35 : decode cX3_changeWeather 35 = .ok (.return_, 1) := by decide +kernel
theorem dX3_bookingError_0 : decode cX3_bookingError 0 = .ok (.iload_n 1, 1) := by decide +kernel
theorem dX3_bookingError_1 : decode cX3_bookingError 1 = .ok (.aload_n 0, 1) := by decide +kernel
theorem dX3_bookingError_2 : decode cX3_bookingError 2 = .ok (.getfield 61, 3) := by decide +kernel
theorem dX3_bookingError_5 : decode cX3_bookingError 5 = .ok (.if_icmp .lt 18, 3) := by decide +kernel
theorem dX3_bookingError_8 : decode cX3_bookingError 8 = .ok (.iload_n 1, 1) := by decide +kernel
theorem dX3_bookingError_9 : decode cX3_bookingError 9 = .ok (.sipush 899, 3) := by decide +kernel
theorem dX3_bookingError_12 : decode cX3_bookingError 12 = .ok (.if_icmp .gt 11, 3) := by decide +kernel
theorem dX3_bookingError_15 : decode cX3_bookingError 15 = .ok (.iload_n 2, 1) := by decide +kernel
theorem dX3_bookingError_16 : decode cX3_bookingError 16 = .ok (.iload_n 3, 1) := by decide +kernel
theorem dX3_bookingError_17 : decode cX3_bookingError 17 = .ok (.invokestatic 88, 3) := by decide +kernel
theorem dX3_bookingError_20 : decode cX3_bookingError 20 = .ok (.ifCond .ne 6, 3) := by decide +kernel
theorem dX3_bookingError_23 : decode cX3_bookingError 23 = .ok (.ldc 92, 2) := by decide +kernel
theorem dX3_bookingError_25 : decode cX3_bookingError 25 = .ok (.ireturn, 1) := by decide +kernel
theorem dX3_bookingError_26 : decode cX3_bookingError 26 = .ok (.aload_n 0, 1) := by decide +kernel
theorem dX3_bookingError_27 : decode cX3_bookingError 27 = .ok (.iload_n 1, 1) := by decide +kernel
theorem dX3_bookingError_28 : decode cX3_bookingError 28 = .ok (.iload_n 2, 1) := by decide +kernel
theorem dX3_bookingError_29 : decode cX3_bookingError 29 = .ok (.iload_n 3, 1) := by decide +kernel
theorem dX3_bookingError_30 : decode cX3_bookingError 30 = .ok (.invokevirtual 93, 3) := by decide +kernel
theorem dX3_bookingError_33 : decode cX3_bookingError 33 = .ok (.ifCond .ne 6, 3) := by decide +kernel
theorem dX3_bookingError_36 : decode cX3_bookingError 36 = .ok (.ldc 97, 2) := by decide +kernel
theorem dX3_bookingError_38 : decode cX3_bookingError 38 = .ok (.ireturn, 1) := by decide +kernel
theorem dX3_bookingError_39 : decode cX3_bookingError 39 = .ok (.aload_n 0, 1) := by decide +kernel
theorem dX3_bookingError_40 : decode cX3_bookingError 40 = .ok (.getfield 30, 3) := by decide +kernel
theorem dX3_bookingError_43 : decode cX3_bookingError 43 = .ok (.getfield 98, 3) := by decide +kernel
theorem dX3_bookingError_46 : decode cX3_bookingError 46 = .ok (.bipush 80, 2) := by decide +kernel
theorem dX3_bookingError_48 : decode cX3_bookingError 48 = .ok (.if_icmp .lt 8, 3) := by decide +kernel
theorem dX3_bookingError_51 : decode cX3_bookingError 51 = .ok (.ldc 101, 2) := by decide +kernel
theorem dX3_bookingError_53 : decode cX3_bookingError 53 = .ok (.goto 4, 3) := by decide +kernel
theorem dX3_bookingError_56 : decode cX3_bookingError 56 = .ok (.iconst 0, 1) := by decide +kernel
theorem dX3_bookingError_57 : decode cX3_bookingError 57 = .ok (.ireturn, 1) := by decide +kernel
theorem dX3_addBooking_0 : decode cX3_addBooking 0 = .ok (.iload_n 3, 1) := by decide +kernel
theorem dX3_addBooking_1 : decode cX3_addBooking 1 = .ok (.iload_n 2, 1) := by decide +kernel
theorem dX3_addBooking_2 : decode cX3_addBooking 2 = .ok (.imul, 1) := by decide +kernel
theorem dX3_addBooking_3 : decode cX3_addBooking 3 = .ok (.aload_n 0, 1) := by decide +kernel
theorem dX3_addBooking_4 : decode cX3_addBooking 4 = .ok (.getfield 9, 3) := by decide +kernel
theorem dX3_addBooking_7 : decode cX3_addBooking 7 = .ok (.iconst 3, 1) := by decide +kernel
theorem dX3_addBooking_8 : decode cX3_addBooking 8 = .ok (.iaload, 1) := by decide +kernel
theorem dX3_addBooking_9 : decode cX3_addBooking 9 = .ok (.imul, 1) := by decide +kernel
theorem dX3_addBooking_10 : decode cX3_addBooking 10 = .ok (.istore 4, 2) := by decide +kernel
theorem dX3_addBooking_12 : decode cX3_addBooking 12 = .ok (.aload_n 0, 1) := by decide +kernel
theorem dX3_addBooking_13 : decode cX3_addBooking 13 = .ok (.dup, 1) := by decide +kernel
theorem dX3_addBooking_14 : decode cX3_addBooking 14 = .ok (.getfield 69, 3) := by decide +kernel
theorem dX3_addBooking_17 : decode cX3_addBooking 17 = .ok (.iload 4, 2) := by decide +kernel
theorem dX3_addBooking_19 : decode cX3_addBooking 19 = .ok (.iadd, 1) := by decide +kernel
theorem dX3_addBooking_20 : decode cX3_addBooking 20 = .ok (.putfield 69, 3) := by decide +kernel
theorem dX3_addBooking_23 : decode cX3_addBooking 23 = .ok (.aload_n 0, 1) := by decide +kernel
theorem dX3_addBooking_24 : decode cX3_addBooking 24 = .ok (.getfield 30, 3) := by decide +kernel
theorem dX3_addBooking_27 : decode cX3_addBooking 27 = .ok (.iload_n 1, 1) := by decide +kernel
theorem dX3_addBooking_28 : decode cX3_addBooking 28 = .ok (.iload_n 2, 1) := by decide +kernel
theorem dX3_addBooking_29 : decode cX3_addBooking 29 = .ok (.iload_n 3, 1) := by decide +kernel
theorem dX3_addBooking_30 : decode cX3_addBooking 30 = .ok (.iload 4, 2) := by decide +kernel
theorem dX3_addBooking_32 : decode cX3_addBooking 32 = .ok (.invokevirtual 102, 3) := by decide +kernel
theorem dX3_addBooking_35 : decode cX3_addBooking 35 = .ok (.ireturn, 1) := by decide +kernel
theorem dX3_hasBeds_0 : decode cX3_hasBeds 0 = .ok (.iconst 0, 1) := by decide +kernel
theorem dX3_hasBeds_1 : decode cX3_hasBeds 1 = .ok (.istore 4, 2) := by decide +kernel
theorem dX3_hasBeds_3 : decode cX3_hasBeds 3 = .ok (.iload 4, 2) := by decide +kernel
theorem dX3_hasBeds_5 : decode cX3_hasBeds 5 = .ok (.iload_n 2, 1) := by decide +kernel
theorem dX3_hasBeds_6 : decode cX3_hasBeds 6 = .ok (.if_icmp .ge 33, 3) := by decide +kernel
theorem dX3_hasBeds_9 : decode cX3_hasBeds 9 = .ok (.aload_n 0, 1) := by decide +kernel
theorem dX3_hasBeds_10 : decode cX3_hasBeds 10 = .ok (.getfield 30, 3) := by decide +kernel
theorem dX3_hasBeds_13 : decode cX3_hasBeds 13 = .ok (.iload_n 1, 1) := by decide +kernel
theorem dX3_hasBeds_14 : decode cX3_hasBeds 14 = .ok (.iload 4, 2) := by decide +kernel
theorem dX3_hasBeds_16 : decode cX3_hasBeds 16 = .ok (.iadd, 1) := by decide +kernel
theorem dX3_hasBeds_17 : decode cX3_hasBeds 17 = .ok (.invokevirtual 106, 3) := by decide +kernel
theorem dX3_hasBeds_20 : decode cX3_hasBeds 20 = .ok (.iload_n 3, 1) := by decide +kernel
theorem dX3_hasBeds_21 : decode cX3_hasBeds 21 = .ok (.iadd, 1) := by decide +kernel
theorem dX3_hasBeds_22 : decode cX3_hasBeds 22 = .ok (.aload_n 0, 1) := by decide +kernel
theorem dX3_hasBeds_23 : decode cX3_hasBeds 23 = .ok (.getfield 9, 3) := by decide +kernel
theorem dX3_hasBeds_26 : decode cX3_hasBeds 26 = .ok (.iconst 0, 1) := by decide +kernel
theorem dX3_hasBeds_27 : decode cX3_hasBeds 27 = .ok (.iaload, 1) := by decide +kernel
theorem dX3_hasBeds_28 : decode cX3_hasBeds 28 = .ok (.if_icmp .le 5, 3) := by decide +kernel
theorem dX3_hasBeds_31 : decode cX3_hasBeds 31 = .ok (.iconst 0, 1) := by decide +kernel
theorem dX3_hasBeds_32 : decode cX3_hasBeds 32 = .ok (.ireturn, 1) := by decide +kernel
theorem dX3_hasBeds_33 : decode cX3_hasBeds 33 = .ok (.iinc 4 1, 3) := by decide +kernel
theorem dX3_hasBeds_36 : decode cX3_hasBeds 36 = .ok (.goto (-33), 3) := by decide +kernel
theorem dX3_hasBeds_39 : decode cX3_hasBeds 39 = .ok (.iconst 1, 1) := by decide +kernel
theorem dX3_hasBeds_40 : decode cX3_hasBeds 40 = .ok (.ireturn, 1) := by decide +kernel
theorem dX3_refundOf_0 : decode cX3_refundOf 0 = .ok (.aload_n 0, 1) := by decide +kernel
theorem dX3_refundOf_1 : decode cX3_refundOf 1 = .ok (.getfield 30, 3) := by decide +kernel
theorem dX3_refundOf_4 : decode cX3_refundOf 4 = .ok (.getfield 109, 3) := by decide +kernel
theorem dX3_refundOf_7 : decode cX3_refundOf 7 = .ok (.iload_n 1, 1) := by decide +kernel
theorem dX3_refundOf_8 : decode cX3_refundOf 8 = .ok (.iaload, 1) := by decide +kernel
theorem dX3_refundOf_9 : decode cX3_refundOf 9 = .ok (.istore_n 2, 1) := by decide +kernel
theorem dX3_refundOf_10 : decode cX3_refundOf 10 = .ok (.iload_n 2, 1) := by decide +kernel
theorem dX3_refundOf_11 : decode cX3_refundOf 11 = .ok (.aload_n 0, 1) := by decide +kernel
theorem dX3_refundOf_12 : decode cX3_refundOf 12 = .ok (.getfield 61, 3) := by decide +kernel
theorem dX3_refundOf_15 : decode cX3_refundOf 15 = .ok (.isub, 1) := by decide +kernel
theorem dX3_refundOf_16 : decode cX3_refundOf 16 = .ok (.aload_n 0, 1) := by decide +kernel
theorem dX3_refundOf_17 : decode cX3_refundOf 17 = .ok (.getfield 9, 3) := by decide +kernel
theorem dX3_refundOf_20 : decode cX3_refundOf 20 = .ok (.iconst 4, 1) := by decide +kernel
theorem dX3_refundOf_21 : decode cX3_refundOf 21 = .ok (.iaload, 1) := by decide +kernel
theorem dX3_refundOf_22 : decode cX3_refundOf 22 = .ok (.if_icmp .lt 7, 3) := by decide +kernel
theorem dX3_refundOf_25 : decode cX3_refundOf 25 = .ok (.iconst 1, 1) := by decide +kernel
theorem dX3_refundOf_26 : decode cX3_refundOf 26 = .ok (.goto 4, 3) := by decide +kernel
theorem dX3_refundOf_29 : decode cX3_refundOf 29 = .ok (.iconst 0, 1) := by decide +kernel
theorem dX3_refundOf_30 : decode cX3_refundOf 30 = .ok (.istore_n 3, 1) := by decide +kernel
theorem dX3_refundOf_31 : decode cX3_refundOf 31 = .ok (.iload_n 3, 1) := by decide +kernel
theorem dX3_refundOf_32 : decode cX3_refundOf 32 = .ok (.ifCond .ne 11, 3) := by decide +kernel
theorem dX3_refundOf_35 : decode cX3_refundOf 35 = .ok (.aload_n 0, 1) := by decide +kernel
theorem dX3_refundOf_36 : decode cX3_refundOf 36 = .ok (.iload_n 2, 1) := by decide +kernel
theorem dX3_refundOf_37 : decode cX3_refundOf 37 = .ok (.invokevirtual 112, 3) := by decide +kernel
theorem dX3_refundOf_40 : decode cX3_refundOf 40 = .ok (.ifCond .ne 15, 3) := by decide +kernel
theorem dX3_refundOf_43 : decode cX3_refundOf 43 = .ok (.aload_n 0, 1) := by decide +kernel
theorem dX3_refundOf_44 : decode cX3_refundOf 44 = .ok (.getfield 30, 3) := by decide +kernel
theorem dX3_refundOf_47 : decode cX3_refundOf 47 = .ok (.getfield 116, 3) := by decide +kernel
theorem dX3_refundOf_50 : decode cX3_refundOf 50 = .ok (.iload_n 1, 1) := by decide +kernel
theorem dX3_refundOf_51 : decode cX3_refundOf 51 = .ok (.iaload, 1) := by decide +kernel
theorem dX3_refundOf_52 : decode cX3_refundOf 52 = .ok (.goto 4, 3) := by decide +kernel
theorem dX3_refundOf_55 : decode cX3_refundOf 55 = .ok (.iconst 0, 1) := by decide +kernel
theorem dX3_refundOf_56 : decode cX3_refundOf 56 = .ok (.ireturn, 1) := by decide +kernel
theorem dX3_cancelBooking_0 : decode cX3_cancelBooking 0 = .ok (.aload_n 0, 1) := by decide +kernel
theorem dX3_cancelBooking_1 : decode cX3_cancelBooking 1 = .ok (.iload_n 1, 1) := by decide +kernel
theorem dX3_cancelBooking_2 : decode cX3_cancelBooking 2 = .ok (.invokevirtual 119, 3) := by decide +kernel
theorem dX3_cancelBooking_5 : decode cX3_cancelBooking 5 = .ok (.istore_n 2, 1) := by decide +kernel
theorem dX3_cancelBooking_6 : decode cX3_cancelBooking 6 = .ok (.aload_n 0, 1) := by decide +kernel
theorem dX3_cancelBooking_7 : decode cX3_cancelBooking 7 = .ok (.getfield 30, 3) := by decide +kernel
theorem dX3_cancelBooking_10 : decode cX3_cancelBooking 10 = .ok (.getfield 122, 3) := by decide +kernel
theorem dX3_cancelBooking_13 : decode cX3_cancelBooking 13 = .ok (.iload_n 1, 1) := by decide +kernel
theorem dX3_cancelBooking_14 : decode cX3_cancelBooking 14 = .ok (.iconst 3, 1) := by decide +kernel
theorem dX3_cancelBooking_15 : decode cX3_cancelBooking 15 = .ok (.iastore, 1) := by decide +kernel
theorem dX3_cancelBooking_16 : decode cX3_cancelBooking 16 = .ok (.aload_n 0, 1) := by decide +kernel
theorem dX3_cancelBooking_17 : decode cX3_cancelBooking 17 = .ok (.dup, 1) := by decide +kernel
theorem dX3_cancelBooking_18 : decode cX3_cancelBooking 18 = .ok (.getfield 69, 3) := by decide +kernel
theorem dX3_cancelBooking_21 : decode cX3_cancelBooking 21 = .ok (.iload_n 2, 1) := by decide +kernel
theorem dX3_cancelBooking_22 : decode cX3_cancelBooking 22 = .ok (.isub, 1) := by decide +kernel
theorem dX3_cancelBooking_23 : decode cX3_cancelBooking 23 = .ok (.putfield 69, 3) := by decide +kernel
theorem dX3_cancelBooking_26 : decode cX3_cancelBooking 26 = .ok (.aload_n 0, 1) := by decide +kernel
theorem dX3_cancelBooking_27 : decode cX3_cancelBooking 27 = .ok (.dup, 1) := by decide +kernel
theorem dX3_cancelBooking_28 : decode cX3_cancelBooking 28 = .ok (.getfield 72, 3) := by decide +kernel
theorem dX3_cancelBooking_31 : decode cX3_cancelBooking 31 = .ok (.aload_n 0, 1) := by decide +kernel
theorem dX3_cancelBooking_32 : decode cX3_cancelBooking 32 = .ok (.getfield 30, 3) := by decide +kernel
theorem dX3_cancelBooking_35 : decode cX3_cancelBooking 35 = .ok (.getfield 116, 3) := by decide +kernel
theorem dX3_cancelBooking_38 : decode cX3_cancelBooking 38 = .ok (.iload_n 1, 1) := by decide +kernel
theorem dX3_cancelBooking_39 : decode cX3_cancelBooking 39 = .ok (.iaload, 1) := by decide +kernel
theorem dX3_cancelBooking_40 : decode cX3_cancelBooking 40 = .ok (.iload_n 2, 1) := by decide +kernel
theorem dX3_cancelBooking_41 : decode cX3_cancelBooking 41 = .ok (.isub, 1) := by decide +kernel
theorem dX3_cancelBooking_42 : decode cX3_cancelBooking 42 = .ok (.iadd, 1) := by decide +kernel
theorem dX3_cancelBooking_43 : decode cX3_cancelBooking 43 = .ok (.putfield 72, 3) := by decide +kernel
theorem dX3_cancelBooking_46 : decode cX3_cancelBooking 46 = .ok (.iload_n 2, 1) := by decide +kernel
theorem dX3_cancelBooking_47 : decode cX3_cancelBooking 47 = .ok (.ireturn, 1) := by decide +kernel
theorem dX3_canStayLonger_0 : decode cX3_canStayLonger 0 = .ok (.aload_n 0, 1) := by decide +kernel
theorem dX3_canStayLonger_1 : decode cX3_canStayLonger 1 = .ok (.getfield 30, 3) := by decide +kernel
theorem dX3_canStayLonger_4 : decode cX3_canStayLonger 4 = .ok (.iload_n 1, 1) := by decide +kernel
theorem dX3_canStayLonger_5 : decode cX3_canStayLonger 5 = .ok (.invokevirtual 125, 3) := by decide +kernel
theorem dX3_canStayLonger_8 : decode cX3_canStayLonger 8 = .ok (.istore_n 3, 1) := by decide +kernel
theorem dX3_canStayLonger_9 : decode cX3_canStayLonger 9 = .ok (.aload_n 0, 1) := by decide +kernel
theorem dX3_canStayLonger_10 : decode cX3_canStayLonger 10 = .ok (.getfield 30, 3) := by decide +kernel
theorem dX3_canStayLonger_13 : decode cX3_canStayLonger 13 = .ok (.getfield 122, 3) := by decide +kernel
theorem dX3_canStayLonger_16 : decode cX3_canStayLonger 16 = .ok (.iload_n 1, 1) := by decide +kernel
theorem dX3_canStayLonger_17 : decode cX3_canStayLonger 17 = .ok (.iaload, 1) := by decide +kernel
theorem dX3_canStayLonger_18 : decode cX3_canStayLonger 18 = .ok (.iconst 1, 1) := by decide +kernel
theorem dX3_canStayLonger_19 : decode cX3_canStayLonger 19 = .ok (.if_icmp .ne 49, 3) := by decide +kernel
theorem dX3_canStayLonger_22 : decode cX3_canStayLonger 22 = .ok (.iload_n 3, 1) := by decide +kernel
theorem dX3_canStayLonger_23 : decode cX3_canStayLonger 23 = .ok (.aload_n 0, 1) := by decide +kernel
theorem dX3_canStayLonger_24 : decode cX3_canStayLonger 24 = .ok (.getfield 61, 3) := by decide +kernel
theorem dX3_canStayLonger_27 : decode cX3_canStayLonger 27 = .ok (.if_icmp .lt 41, 3) := by decide +kernel
theorem dX3_canStayLonger_30 : decode cX3_canStayLonger 30 = .ok (.aload_n 0, 1) := by decide +kernel
theorem dX3_canStayLonger_31 : decode cX3_canStayLonger 31 = .ok (.getfield 30, 3) := by decide +kernel
theorem dX3_canStayLonger_34 : decode cX3_canStayLonger 34 = .ok (.getfield 128, 3) := by decide +kernel
theorem dX3_canStayLonger_37 : decode cX3_canStayLonger 37 = .ok (.iload_n 1, 1) := by decide +kernel
theorem dX3_canStayLonger_38 : decode cX3_canStayLonger 38 = .ok (.iaload, 1) := by decide +kernel
theorem dX3_canStayLonger_39 : decode cX3_canStayLonger 39 = .ok (.iload_n 2, 1) := by decide +kernel
theorem dX3_canStayLonger_40 : decode cX3_canStayLonger 40 = .ok (.iadd, 1) := by decide +kernel
theorem dX3_canStayLonger_41 : decode cX3_canStayLonger 41 = .ok (.bipush 9, 2) := by decide +kernel
theorem dX3_canStayLonger_43 : decode cX3_canStayLonger 43 = .ok (.if_icmp .gt 25, 3) := by decide +kernel
theorem dX3_canStayLonger_46 : decode cX3_canStayLonger 46 = .ok (.aload_n 0, 1) := by decide +kernel
theorem dX3_canStayLonger_47 : decode cX3_canStayLonger 47 = .ok (.iload_n 3, 1) := by decide +kernel
theorem dX3_canStayLonger_48 : decode cX3_canStayLonger 48 = .ok (.iload_n 2, 1) := by decide +kernel
theorem dX3_canStayLonger_49 : decode cX3_canStayLonger 49 = .ok (.aload_n 0, 1) := by decide +kernel
theorem dX3_canStayLonger_50 : decode cX3_canStayLonger 50 = .ok (.getfield 30, 3) := by decide +kernel
theorem dX3_canStayLonger_53 : decode cX3_canStayLonger 53 = .ok (.getfield 131, 3) := by decide +kernel
theorem dX3_canStayLonger_56 : decode cX3_canStayLonger 56 = .ok (.iload_n 1, 1) := by decide +kernel
theorem dX3_canStayLonger_57 : decode cX3_canStayLonger 57 = .ok (.iaload, 1) := by decide +kernel
theorem dX3_canStayLonger_58 : decode cX3_canStayLonger 58 = .ok (.invokevirtual 93, 3) := by decide +kernel
theorem dX3_canStayLonger_61 : decode cX3_canStayLonger 61 = .ok (.ifCond .eq 7, 3) := by decide +kernel
theorem dX3_canStayLonger_64 : decode cX3_canStayLonger 64 = .ok (.iconst 1, 1) := by decide +kernel
theorem dX3_canStayLonger_65 : decode cX3_canStayLonger 65 = .ok (.goto 4, 3) := by decide +kernel
theorem dX3_canStayLonger_68 : decode cX3_canStayLonger 68 = .ok (.iconst 0, 1) := by decide +kernel
theorem dX3_canStayLonger_69 : decode cX3_canStayLonger 69 = .ok (.ireturn, 1) := by decide +kernel
theorem dX3_isStrandedNow_0 : decode cX3_isStrandedNow 0 = .ok (.aload_n 0, 1) := by decide +kernel
theorem dX3_isStrandedNow_1 : decode cX3_isStrandedNow 1 = .ok (.getfield 30, 3) := by decide +kernel
theorem dX3_isStrandedNow_4 : decode cX3_isStrandedNow 4 = .ok (.iload_n 1, 1) := by decide +kernel
theorem dX3_isStrandedNow_5 : decode cX3_isStrandedNow 5 = .ok (.aload_n 0, 1) := by decide +kernel
theorem dX3_isStrandedNow_6 : decode cX3_isStrandedNow 6 = .ok (.getfield 61, 3) := by decide +kernel
theorem dX3_isStrandedNow_9 : decode cX3_isStrandedNow 9 = .ok (.invokevirtual 134, 3) := by decide +kernel
theorem dX3_isStrandedNow_12 : decode cX3_isStrandedNow 12 = .ok (.ifCond .eq 14, 3) := by decide +kernel
theorem dX3_isStrandedNow_15 : decode cX3_isStrandedNow 15 = .ok (.aload_n 0, 1) := by decide +kernel
theorem dX3_isStrandedNow_16 : decode cX3_isStrandedNow 16 = .ok (.invokevirtual 137, 3) := by decide +kernel
theorem dX3_isStrandedNow_19 : decode cX3_isStrandedNow 19 = .ok (.ifCond .ne 7, 3) := by decide +kernel
theorem dX3_isStrandedNow_22 : decode cX3_isStrandedNow 22 = .ok (.iconst 1, 1) := by decide +kernel
theorem dX3_isStrandedNow_23 : decode cX3_isStrandedNow 23 = .ok (.goto 4, 3) := by decide +kernel
theorem dX3_isStrandedNow_26 : decode cX3_isStrandedNow 26 = .ok (.iconst 0, 1) := by decide +kernel
theorem dX3_isStrandedNow_27 : decode cX3_isStrandedNow 27 = .ok (.ireturn, 1) := by decide +kernel
theorem dX3_passDay_0 : decode cX3_passDay 0 = .ok (.aload_n 0, 1) := by decide +kernel
theorem dX3_passDay_1 : decode cX3_passDay 1 = .ok (.invokevirtual 141, 3) := by decide +kernel
theorem dX3_passDay_4 : decode cX3_passDay 4 = .ok (.aload_n 0, 1) := by decide +kernel
theorem dX3_passDay_5 : decode cX3_passDay 5 = .ok (.getfield 65, 3) := by decide +kernel
theorem dX3_passDay_8 : decode cX3_passDay 8 = .ok (.ifCond .eq 14, 3) := by decide +kernel
theorem dX3_passDay_11 : decode cX3_passDay 11 = .ok (.aload_n 0, 1) := by decide +kernel
theorem dX3_passDay_12 : decode cX3_passDay 12 = .ok (.invokevirtual 144, 3) := by decide +kernel
theorem dX3_passDay_15 : decode cX3_passDay 15 = .ok (.ifCond .ne 7, 3) := by decide +kernel
theorem dX3_passDay_18 : decode cX3_passDay 18 = .ok (.aload_n 0, 1) := by decide +kernel
theorem dX3_passDay_19 : decode cX3_passDay 19 = .ok (.invokevirtual 147, 3) := by decide +kernel
theorem dX3_passDay_22 : decode cX3_passDay 22 = .ok (.aload_n 0, 1) := by decide +kernel
theorem dX3_passDay_23 : decode cX3_passDay 23 = .ok (.invokevirtual 150, 3) := by decide +kernel
theorem dX3_passDay_26 : decode cX3_passDay 26 = .ok (.return_, 1) := by decide +kernel
theorem dX3_beginDay_0 : decode cX3_beginDay 0 = .ok (.aload_n 0, 1) := by decide +kernel
theorem dX3_beginDay_1 : decode cX3_beginDay 1 = .ok (.getfield 48, 3) := by decide +kernel
theorem dX3_beginDay_4 : decode cX3_beginDay 4 = .ok (.iconst 4, 1) := by decide +kernel
theorem dX3_beginDay_5 : decode cX3_beginDay 5 = .ok (.dup2, 1) := by decide +kernel
theorem dX3_beginDay_6 : decode cX3_beginDay 6 = .ok (.iaload, 1) := by decide +kernel
theorem dX3_beginDay_7 : decode cX3_beginDay 7 = .ok (.aload_n 0, 1) := by decide +kernel
theorem dX3_beginDay_8 : decode cX3_beginDay 8 = .ok (.getfield 37, 3) := by decide +kernel
theorem dX3_beginDay_11 : decode cX3_beginDay 11 = .ok (.aload_n 0, 1) := by decide +kernel
theorem dX3_beginDay_12 : decode cX3_beginDay 12 = .ok (.getfield 61, 3) := by decide +kernel
theorem dX3_beginDay_15 : decode cX3_beginDay 15 = .ok (.aload_n 0, 1) := by decide +kernel
theorem dX3_beginDay_16 : decode cX3_beginDay 16 = .ok (.getfield 9, 3) := by decide +kernel
theorem dX3_beginDay_19 : decode cX3_beginDay 19 = .ok (.iconst 5, 1) := by decide +kernel
theorem dX3_beginDay_20 : decode cX3_beginDay 20 = .ok (.iaload, 1) := by decide +kernel
theorem dX3_beginDay_21 : decode cX3_beginDay 21 = .ok (.invokevirtual 153, 3) := by decide +kernel
theorem dX3_beginDay_24 : decode cX3_beginDay 24 = .ok (.iadd, 1) := by decide +kernel
theorem dX3_beginDay_25 : decode cX3_beginDay 25 = .ok (.iastore, 1) := by decide +kernel
theorem dX3_beginDay_26 : decode cX3_beginDay 26 = .ok (.aload_n 0, 1) := by decide +kernel
theorem dX3_beginDay_27 : decode cX3_beginDay 27 = .ok (.invokevirtual 137, 3) := by decide +kernel
theorem dX3_beginDay_30 : decode cX3_beginDay 30 = .ok (.ifCond .eq 7, 3) := by decide +kernel
theorem dX3_beginDay_33 : decode cX3_beginDay 33 = .ok (.aload_n 0, 1) := by decide +kernel
theorem dX3_beginDay_34 : decode cX3_beginDay 34 = .ok (.invokevirtual 156, 3) := by decide +kernel
theorem dX3_beginDay_37 : decode cX3_beginDay 37 = .ok (.aload_n 0, 1) := by decide +kernel
theorem dX3_beginDay_38 : decode cX3_beginDay 38 = .ok (.invokevirtual 159, 3) := by decide +kernel
theorem dX3_beginDay_41 : decode cX3_beginDay 41 = .ok (.aload_n 0, 1) := by decide +kernel
theorem dX3_beginDay_42 : decode cX3_beginDay 42 = .ok (.aload_n 0, 1) := by decide +kernel
theorem dX3_beginDay_43 : decode cX3_beginDay 43 = .ok (.getfield 61, 3) := by decide +kernel
theorem dX3_beginDay_46 : decode cX3_beginDay 46 = .ok (.invokevirtual 112, 3) := by decide +kernel
theorem dX3_beginDay_49 : decode cX3_beginDay 49 = .ok (.ifCond .eq 18, 3) := by decide +kernel
theorem dX3_beginDay_52 : decode cX3_beginDay 52 = .ok (.aload_n 0, 1) := by decide +kernel
theorem dX3_beginDay_53 : decode cX3_beginDay 53 = .ok (.invokevirtual 162, 3) := by decide +kernel
theorem dX3_beginDay_56 : decode cX3_beginDay 56 = .ok (.aload_n 0, 1) := by decide +kernel
theorem dX3_beginDay_57 : decode cX3_beginDay 57 = .ok (.aload_n 0, 1) := by decide +kernel
theorem dX3_beginDay_58 : decode cX3_beginDay 58 = .ok (.getfield 9, 3) := by decide +kernel
theorem dX3_beginDay_61 : decode cX3_beginDay 61 = .ok (.bipush 6, 2) := by decide +kernel
theorem dX3_beginDay_63 : decode cX3_beginDay 63 = .ok (.iaload, 1) := by decide +kernel
theorem dX3_beginDay_64 : decode cX3_beginDay 64 = .ok (.invokevirtual 165, 3) := by decide +kernel
theorem dX3_beginDay_67 : decode cX3_beginDay 67 = .ok (.return_, 1) := by decide +kernel
theorem dX3_endDay_0 : decode cX3_endDay 0 = .ok (.aload_n 0, 1) := by decide +kernel
theorem dX3_endDay_1 : decode cX3_endDay 1 = .ok (.invokevirtual 169, 3) := by decide +kernel
theorem dX3_endDay_4 : decode cX3_endDay 4 = .ok (.aload_n 0, 1) := by decide +kernel
theorem dX3_endDay_5 : decode cX3_endDay 5 = .ok (.invokevirtual 172, 3) := by decide +kernel
theorem dX3_endDay_8 : decode cX3_endDay 8 = .ok (.aload_n 0, 1) := by decide +kernel
theorem dX3_endDay_9 : decode cX3_endDay 9 = .ok (.dup, 1) := by decide +kernel
theorem dX3_endDay_10 : decode cX3_endDay 10 = .ok (.getfield 61, 3) := by decide +kernel
theorem dX3_endDay_13 : decode cX3_endDay 13 = .ok (.iconst 1, 1) := by decide +kernel
theorem dX3_endDay_14 : decode cX3_endDay 14 = .ok (.iadd, 1) := by decide +kernel
theorem dX3_endDay_15 : decode cX3_endDay 15 = .ok (.putfield 61, 3) := by decide +kernel
theorem dX3_endDay_18 : decode cX3_endDay 18 = .ok (.return_, 1) := by decide +kernel
theorem dX3_letGroupsLeave_0 : decode cX3_letGroupsLeave 0 = .ok (.iconst 0, 1) := by decide +kernel
theorem dX3_letGroupsLeave_1 : decode cX3_letGroupsLeave 1 = .ok (.istore_n 1, 1) := by decide +kernel
theorem dX3_letGroupsLeave_2 : decode cX3_letGroupsLeave 2 = .ok (.iload_n 1, 1) := by decide +kernel
theorem dX3_letGroupsLeave_3 : decode cX3_letGroupsLeave 3 = .ok (.aload_n 0, 1) := by decide +kernel
theorem dX3_letGroupsLeave_4 : decode cX3_letGroupsLeave 4 = .ok (.getfield 30, 3) := by decide +kernel
theorem dX3_letGroupsLeave_7 : decode cX3_letGroupsLeave 7 = .ok (.getfield 98, 3) := by decide +kernel
theorem dX3_letGroupsLeave_10 : decode cX3_letGroupsLeave 10 = .ok (.if_icmp .ge 29, 3) := by decide +kernel
theorem dX3_letGroupsLeave_13 : decode cX3_letGroupsLeave 13 = .ok (.aload_n 0, 1) := by decide +kernel
theorem dX3_letGroupsLeave_14 : decode cX3_letGroupsLeave 14 = .ok (.getfield 30, 3) := by decide +kernel
theorem dX3_letGroupsLeave_17 : decode cX3_letGroupsLeave 17 = .ok (.iload_n 1, 1) := by decide +kernel
theorem dX3_letGroupsLeave_18 : decode cX3_letGroupsLeave 18 = .ok (.aload_n 0, 1) := by decide +kernel
theorem dX3_letGroupsLeave_19 : decode cX3_letGroupsLeave 19 = .ok (.getfield 61, 3) := by decide +kernel
theorem dX3_letGroupsLeave_22 : decode cX3_letGroupsLeave 22 = .ok (.invokevirtual 134, 3) := by decide +kernel
theorem dX3_letGroupsLeave_25 : decode cX3_letGroupsLeave 25 = .ok (.ifCond .eq 8, 3) := by decide +kernel
theorem dX3_letGroupsLeave_28 : decode cX3_letGroupsLeave 28 = .ok (.aload_n 0, 1) := by decide +kernel
theorem dX3_letGroupsLeave_29 : decode cX3_letGroupsLeave 29 = .ok (.iload_n 1, 1) := by decide +kernel
theorem dX3_letGroupsLeave_30 : decode cX3_letGroupsLeave 30 = .ok (.invokevirtual 175, 3) := by decide +kernel
theorem dX3_letGroupsLeave_33 : decode cX3_letGroupsLeave 33 = .ok (.iinc 1 1, 3) := by decide +kernel
theorem dX3_letGroupsLeave_36 : decode cX3_letGroupsLeave 36 = .ok (.goto (-34), 3) := by decide +kernel
theorem dX3_letGroupsLeave_39 : decode cX3_letGroupsLeave 39 = .ok (.return_, 1) := by decide +kernel
theorem dX3_letLeave_0 : decode cX3_letLeave 0 = .ok (.aload_n 0, 1) := by decide +kernel
theorem dX3_letLeave_1 : decode cX3_letLeave 1 = .ok (.getfield 30, 3) := by decide +kernel
theorem dX3_letLeave_4 : decode cX3_letLeave 4 = .ok (.iload_n 1, 1) := by decide +kernel
theorem dX3_letLeave_5 : decode cX3_letLeave 5 = .ok (.invokevirtual 125, 3) := by decide +kernel
theorem dX3_letLeave_8 : decode cX3_letLeave 8 = .ok (.aload_n 0, 1) := by decide +kernel
theorem dX3_letLeave_9 : decode cX3_letLeave 9 = .ok (.getfield 30, 3) := by decide +kernel
theorem dX3_letLeave_12 : decode cX3_letLeave 12 = .ok (.getfield 178, 3) := by decide +kernel
theorem dX3_letLeave_15 : decode cX3_letLeave 15 = .ok (.iload_n 1, 1) := by decide +kernel
theorem dX3_letLeave_16 : decode cX3_letLeave 16 = .ok (.iaload, 1) := by decide +kernel
theorem dX3_letLeave_17 : decode cX3_letLeave 17 = .ok (.isub, 1) := by decide +kernel
theorem dX3_letLeave_18 : decode cX3_letLeave 18 = .ok (.istore_n 2, 1) := by decide +kernel
theorem dX3_letLeave_19 : decode cX3_letLeave 19 = .ok (.aload_n 0, 1) := by decide +kernel
theorem dX3_letLeave_20 : decode cX3_letLeave 20 = .ok (.dup, 1) := by decide +kernel
theorem dX3_letLeave_21 : decode cX3_letLeave 21 = .ok (.getfield 69, 3) := by decide +kernel
theorem dX3_letLeave_24 : decode cX3_letLeave 24 = .ok (.aload_n 0, 1) := by decide +kernel
theorem dX3_letLeave_25 : decode cX3_letLeave 25 = .ok (.getfield 9, 3) := by decide +kernel
theorem dX3_letLeave_28 : decode cX3_letLeave 28 = .ok (.iconst 2, 1) := by decide +kernel
theorem dX3_letLeave_29 : decode cX3_letLeave 29 = .ok (.iaload, 1) := by decide +kernel
theorem dX3_letLeave_30 : decode cX3_letLeave 30 = .ok (.aload_n 0, 1) := by decide +kernel
theorem dX3_letLeave_31 : decode cX3_letLeave 31 = .ok (.getfield 30, 3) := by decide +kernel
theorem dX3_letLeave_34 : decode cX3_letLeave 34 = .ok (.getfield 131, 3) := by decide +kernel
theorem dX3_letLeave_37 : decode cX3_letLeave 37 = .ok (.iload_n 1, 1) := by decide +kernel
theorem dX3_letLeave_38 : decode cX3_letLeave 38 = .ok (.iaload, 1) := by decide +kernel
theorem dX3_letLeave_39 : decode cX3_letLeave 39 = .ok (.imul, 1) := by decide +kernel
theorem dX3_letLeave_40 : decode cX3_letLeave 40 = .ok (.iload_n 2, 1) := by decide +kernel
theorem dX3_letLeave_41 : decode cX3_letLeave 41 = .ok (.imul, 1) := by decide +kernel
theorem dX3_letLeave_42 : decode cX3_letLeave 42 = .ok (.aload_n 0, 1) := by decide +kernel
theorem dX3_letLeave_43 : decode cX3_letLeave 43 = .ok (.getfield 30, 3) := by decide +kernel
theorem dX3_letLeave_46 : decode cX3_letLeave 46 = .ok (.getfield 116, 3) := by decide +kernel
theorem dX3_letLeave_49 : decode cX3_letLeave 49 = .ok (.iload_n 1, 1) := by decide +kernel
theorem dX3_letLeave_50 : decode cX3_letLeave 50 = .ok (.iaload, 1) := by decide +kernel
theorem dX3_letLeave_51 : decode cX3_letLeave 51 = .ok (.isub, 1) := by decide +kernel
theorem dX3_letLeave_52 : decode cX3_letLeave 52 = .ok (.iadd, 1) := by decide +kernel
theorem dX3_letLeave_53 : decode cX3_letLeave 53 = .ok (.putfield 69, 3) := by decide +kernel
theorem dX3_letLeave_56 : decode cX3_letLeave 56 = .ok (.aload_n 0, 1) := by decide +kernel
theorem dX3_letLeave_57 : decode cX3_letLeave 57 = .ok (.getfield 30, 3) := by decide +kernel
theorem dX3_letLeave_60 : decode cX3_letLeave 60 = .ok (.getfield 122, 3) := by decide +kernel
theorem dX3_letLeave_63 : decode cX3_letLeave 63 = .ok (.iload_n 1, 1) := by decide +kernel
theorem dX3_letLeave_64 : decode cX3_letLeave 64 = .ok (.iconst 2, 1) := by decide +kernel
theorem dX3_letLeave_65 : decode cX3_letLeave 65 = .ok (.iastore, 1) := by decide +kernel
theorem dX3_letLeave_66 : decode cX3_letLeave 66 = .ok (.return_, 1) := by decide +kernel
theorem dX3_turnLateOnesAway_0 : decode cX3_turnLateOnesAway 0 = .ok (.iconst 0, 1) := by decide +kernel
theorem dX3_turnLateOnesAway_1 : decode cX3_turnLateOnesAway 1 = .ok (.istore_n 1, 1) := by decide +kernel
theorem dX3_turnLateOnesAway_2 : decode cX3_turnLateOnesAway 2 = .ok (.iload_n 1, 1) := by decide +kernel
theorem dX3_turnLateOnesAway_3 : decode cX3_turnLateOnesAway 3 = .ok (.aload_n 0, 1) := by decide +kernel
theorem dX3_turnLateOnesAway_4 : decode cX3_turnLateOnesAway 4 = .ok (.getfield 30, 3) := by decide +kernel
theorem dX3_turnLateOnesAway_7 : decode cX3_turnLateOnesAway 7 = .ok (.getfield 98, 3) := by decide +kernel
theorem dX3_turnLateOnesAway_10 : decode cX3_turnLateOnesAway 10 = .ok (.if_icmp .ge 41, 3) := by decide +kernel
theorem dX3_turnLateOnesAway_13 : decode cX3_turnLateOnesAway 13 = .ok (.aload_n 0, 1) := by decide +kernel
theorem dX3_turnLateOnesAway_14 : decode cX3_turnLateOnesAway 14 = .ok (.getfield 30, 3) := by decide +kernel
theorem dX3_turnLateOnesAway_17 : decode cX3_turnLateOnesAway 17 = .ok (.getfield 122, 3) := by decide +kernel
theorem dX3_turnLateOnesAway_20 : decode cX3_turnLateOnesAway 20 = .ok (.iload_n 1, 1) := by decide +kernel
theorem dX3_turnLateOnesAway_21 : decode cX3_turnLateOnesAway 21 = .ok (.iaload, 1) := by decide +kernel
theorem dX3_turnLateOnesAway_22 : decode cX3_turnLateOnesAway 22 = .ok (.ifCond .ne 23, 3) := by decide +kernel
theorem dX3_turnLateOnesAway_25 : decode cX3_turnLateOnesAway 25 = .ok (.aload_n 0, 1) := by decide +kernel
theorem dX3_turnLateOnesAway_26 : decode cX3_turnLateOnesAway 26 = .ok (.getfield 30, 3) := by decide +kernel
theorem dX3_turnLateOnesAway_29 : decode cX3_turnLateOnesAway 29 = .ok (.iload_n 1, 1) := by decide +kernel
theorem dX3_turnLateOnesAway_30 : decode cX3_turnLateOnesAway 30 = .ok (.invokevirtual 125, 3) := by decide +kernel
theorem dX3_turnLateOnesAway_33 : decode cX3_turnLateOnesAway 33 = .ok (.aload_n 0, 1) := by decide +kernel
theorem dX3_turnLateOnesAway_34 : decode cX3_turnLateOnesAway 34 = .ok (.getfield 61, 3) := by decide +kernel
theorem dX3_turnLateOnesAway_37 : decode cX3_turnLateOnesAway 37 = .ok (.if_icmp .gt 8, 3) := by decide +kernel
theorem dX3_turnLateOnesAway_40 : decode cX3_turnLateOnesAway 40 = .ok (.aload_n 0, 1) := by decide +kernel
theorem dX3_turnLateOnesAway_41 : decode cX3_turnLateOnesAway 41 = .ok (.iload_n 1, 1) := by decide +kernel
theorem dX3_turnLateOnesAway_42 : decode cX3_turnLateOnesAway 42 = .ok (.invokevirtual 181, 3) := by decide +kernel
theorem dX3_turnLateOnesAway_45 : decode cX3_turnLateOnesAway 45 = .ok (.iinc 1 1, 3) := by decide +kernel
theorem dX3_turnLateOnesAway_48 : decode cX3_turnLateOnesAway 48 = .ok (.goto (-46), 3) := by decide +kernel
theorem dX3_turnLateOnesAway_51 : decode cX3_turnLateOnesAway 51 = .ok (.return_, 1) := by decide +kernel
theorem dX3_turnAway_0 : decode cX3_turnAway 0 = .ok (.aload_n 0, 1) := by decide +kernel
theorem dX3_turnAway_1 : decode cX3_turnAway 1 = .ok (.getfield 30, 3) := by decide +kernel
theorem dX3_turnAway_4 : decode cX3_turnAway 4 = .ok (.getfield 122, 3) := by decide +kernel
theorem dX3_turnAway_7 : decode cX3_turnAway 7 = .ok (.iload_n 1, 1) := by decide +kernel
theorem dX3_turnAway_8 : decode cX3_turnAway 8 = .ok (.iconst 4, 1) := by decide +kernel
theorem dX3_turnAway_9 : decode cX3_turnAway 9 = .ok (.iastore, 1) := by decide +kernel
theorem dX3_turnAway_10 : decode cX3_turnAway 10 = .ok (.aload_n 0, 1) := by decide +kernel
theorem dX3_turnAway_11 : decode cX3_turnAway 11 = .ok (.dup, 1) := by decide +kernel
theorem dX3_turnAway_12 : decode cX3_turnAway 12 = .ok (.getfield 69, 3) := by decide +kernel
theorem dX3_turnAway_15 : decode cX3_turnAway 15 = .ok (.aload_n 0, 1) := by decide +kernel
theorem dX3_turnAway_16 : decode cX3_turnAway 16 = .ok (.getfield 30, 3) := by decide +kernel
theorem dX3_turnAway_19 : decode cX3_turnAway 19 = .ok (.getfield 116, 3) := by decide +kernel
theorem dX3_turnAway_22 : decode cX3_turnAway 22 = .ok (.iload_n 1, 1) := by decide +kernel
theorem dX3_turnAway_23 : decode cX3_turnAway 23 = .ok (.iaload, 1) := by decide +kernel
theorem dX3_turnAway_24 : decode cX3_turnAway 24 = .ok (.isub, 1) := by decide +kernel
theorem dX3_turnAway_25 : decode cX3_turnAway 25 = .ok (.putfield 69, 3) := by decide +kernel
theorem dX3_turnAway_28 : decode cX3_turnAway 28 = .ok (.aload_n 0, 1) := by decide +kernel
theorem dX3_turnAway_29 : decode cX3_turnAway 29 = .ok (.getfield 48, 3) := by decide +kernel
theorem dX3_turnAway_32 : decode cX3_turnAway 32 = .ok (.bipush 8, 2) := by decide +kernel
theorem dX3_turnAway_34 : decode cX3_turnAway 34 = .ok (.dup2, 1) := by decide +kernel
theorem dX3_turnAway_35 : decode cX3_turnAway 35 = .ok (.iaload, 1) := by decide +kernel
theorem dX3_turnAway_36 : decode cX3_turnAway 36 = .ok (.aload_n 0, 1) := by decide +kernel
theorem dX3_turnAway_37 : decode cX3_turnAway 37 = .ok (.getfield 30, 3) := by decide +kernel
theorem dX3_turnAway_40 : decode cX3_turnAway 40 = .ok (.getfield 131, 3) := by decide +kernel
theorem dX3_turnAway_43 : decode cX3_turnAway 43 = .ok (.iload_n 1, 1) := by decide +kernel
theorem dX3_turnAway_44 : decode cX3_turnAway 44 = .ok (.iaload, 1) := by decide +kernel
theorem dX3_turnAway_45 : decode cX3_turnAway 45 = .ok (.iadd, 1) := by decide +kernel
theorem dX3_turnAway_46 : decode cX3_turnAway 46 = .ok (.iastore, 1) := by decide +kernel
theorem dX3_turnAway_47 : decode cX3_turnAway 47 = .ok (.return_, 1) := by decide +kernel
theorem dX3_letGroupsCome_0 : decode cX3_letGroupsCome 0 = .ok (.aload_n 0, 1) := by decide +kernel
theorem dX3_letGroupsCome_1 : decode cX3_letGroupsCome 1 = .ok (.getfield 9, 3) := by decide +kernel
theorem dX3_letGroupsCome_4 : decode cX3_letGroupsCome 4 = .ok (.iconst 0, 1) := by decide +kernel
theorem dX3_letGroupsCome_5 : decode cX3_letGroupsCome 5 = .ok (.iaload, 1) := by decide +kernel
theorem dX3_letGroupsCome_6 : decode cX3_letGroupsCome 6 = .ok (.aload_n 0, 1) := by decide +kernel
theorem dX3_letGroupsCome_7 : decode cX3_letGroupsCome 7 = .ok (.getfield 9, 3) := by decide +kernel
theorem dX3_letGroupsCome_10 : decode cX3_letGroupsCome 10 = .ok (.iconst 1, 1) := by decide +kernel
theorem dX3_letGroupsCome_11 : decode cX3_letGroupsCome 11 = .ok (.iaload, 1) := by decide +kernel
theorem dX3_letGroupsCome_12 : decode cX3_letGroupsCome 12 = .ok (.iadd, 1) := by decide +kernel
theorem dX3_letGroupsCome_13 : decode cX3_letGroupsCome 13 = .ok (.istore_n 1, 1) := by decide +kernel
theorem dX3_letGroupsCome_14 : decode cX3_letGroupsCome 14 = .ok (.aload_n 0, 1) := by decide +kernel
theorem dX3_letGroupsCome_15 : decode cX3_letGroupsCome 15 = .ok (.getfield 30, 3) := by decide +kernel
theorem dX3_letGroupsCome_18 : decode cX3_letGroupsCome 18 = .ok (.invokevirtual 184, 3) := by decide +kernel
theorem dX3_letGroupsCome_21 : decode cX3_letGroupsCome 21 = .ok (.istore_n 2, 1) := by decide +kernel
theorem dX3_letGroupsCome_22 : decode cX3_letGroupsCome 22 = .ok (.iconst 0, 1) := by decide +kernel
theorem dX3_letGroupsCome_23 : decode cX3_letGroupsCome 23 = .ok (.istore_n 3, 1) := by decide +kernel
theorem dX3_letGroupsCome_24 : decode cX3_letGroupsCome 24 = .ok (.iload_n 3, 1) := by decide +kernel
theorem dX3_letGroupsCome_25 : decode cX3_letGroupsCome 25 = .ok (.aload_n 0, 1) := by decide +kernel
theorem dX3_letGroupsCome_26 : decode cX3_letGroupsCome 26 = .ok (.getfield 30, 3) := by decide +kernel
theorem dX3_letGroupsCome_29 : decode cX3_letGroupsCome 29 = .ok (.getfield 98, 3) := by decide +kernel
theorem dX3_letGroupsCome_32 : decode cX3_letGroupsCome 32 = .ok (.if_icmp .ge 98, 3) := by decide +kernel
theorem dX3_letGroupsCome_35 : decode cX3_letGroupsCome 35 = .ok (.aload_n 0, 1) := by decide +kernel
theorem dX3_letGroupsCome_36 : decode cX3_letGroupsCome 36 = .ok (.getfield 30, 3) := by decide +kernel
theorem dX3_letGroupsCome_39 : decode cX3_letGroupsCome 39 = .ok (.getfield 122, 3) := by decide +kernel
theorem dX3_letGroupsCome_42 : decode cX3_letGroupsCome 42 = .ok (.iload_n 3, 1) := by decide +kernel
theorem dX3_letGroupsCome_43 : decode cX3_letGroupsCome 43 = .ok (.iaload, 1) := by decide +kernel
theorem dX3_letGroupsCome_44 : decode cX3_letGroupsCome 44 = .ok (.ifCond .ne 80, 3) := by decide +kernel
theorem dX3_letGroupsCome_47 : decode cX3_letGroupsCome 47 = .ok (.aload_n 0, 1) := by decide +kernel
theorem dX3_letGroupsCome_48 : decode cX3_letGroupsCome 48 = .ok (.getfield 30, 3) := by decide +kernel
theorem dX3_letGroupsCome_51 : decode cX3_letGroupsCome 51 = .ok (.getfield 109, 3) := by decide +kernel
theorem dX3_letGroupsCome_54 : decode cX3_letGroupsCome 54 = .ok (.iload_n 3, 1) := by decide +kernel
theorem dX3_letGroupsCome_55 : decode cX3_letGroupsCome 55 = .ok (.iaload, 1) := by decide +kernel
theorem dX3_letGroupsCome_56 : decode cX3_letGroupsCome 56 = .ok (.aload_n 0, 1) := by decide +kernel
theorem dX3_letGroupsCome_57 : decode cX3_letGroupsCome 57 = .ok (.getfield 61, 3) := by decide +kernel
theorem dX3_letGroupsCome_60 : decode cX3_letGroupsCome 60 = .ok (.if_icmp .le 6, 3) := by decide +kernel
theorem dX3_letGroupsCome_63 : decode cX3_letGroupsCome 63 = .ok (.goto 61, 3) := by decide +kernel
theorem dX3_letGroupsCome_66 : decode cX3_letGroupsCome 66 = .ok (.iload_n 2, 1) := by decide +kernel
theorem dX3_letGroupsCome_67 : decode cX3_letGroupsCome 67 = .ok (.aload_n 0, 1) := by decide +kernel
theorem dX3_letGroupsCome_68 : decode cX3_letGroupsCome 68 = .ok (.getfield 30, 3) := by decide +kernel
theorem dX3_letGroupsCome_71 : decode cX3_letGroupsCome 71 = .ok (.getfield 131, 3) := by decide +kernel
theorem dX3_letGroupsCome_74 : decode cX3_letGroupsCome 74 = .ok (.iload_n 3, 1) := by decide +kernel
theorem dX3_letGroupsCome_75 : decode cX3_letGroupsCome 75 = .ok (.iaload, 1) := by decide +kernel
theorem dX3_letGroupsCome_76 : decode cX3_letGroupsCome 76 = .ok (.iadd, 1) := by decide +kernel
theorem dX3_letGroupsCome_77 : decode cX3_letGroupsCome 77 = .ok (.iload_n 1, 1) := by decide +kernel
theorem dX3_letGroupsCome_78 : decode cX3_letGroupsCome 78 = .ok (.if_icmp .gt 41, 3) := by decide +kernel
theorem dX3_letGroupsCome_81 : decode cX3_letGroupsCome 81 = .ok (.aload_n 0, 1) := by decide +kernel
theorem dX3_letGroupsCome_82 : decode cX3_letGroupsCome 82 = .ok (.getfield 30, 3) := by decide +kernel
theorem dX3_letGroupsCome_85 : decode cX3_letGroupsCome 85 = .ok (.getfield 122, 3) := by decide +kernel
theorem dX3_letGroupsCome_88 : decode cX3_letGroupsCome 88 = .ok (.iload_n 3, 1) := by decide +kernel
theorem dX3_letGroupsCome_89 : decode cX3_letGroupsCome 89 = .ok (.iconst 1, 1) := by decide +kernel
theorem dX3_letGroupsCome_90 : decode cX3_letGroupsCome 90 = .ok (.iastore, 1) := by decide +kernel
theorem dX3_letGroupsCome_91 : decode cX3_letGroupsCome 91 = .ok (.aload_n 0, 1) := by decide +kernel
theorem dX3_letGroupsCome_92 : decode cX3_letGroupsCome 92 = .ok (.getfield 30, 3) := by decide +kernel
theorem dX3_letGroupsCome_95 : decode cX3_letGroupsCome 95 = .ok (.getfield 178, 3) := by decide +kernel
theorem dX3_letGroupsCome_98 : decode cX3_letGroupsCome 98 = .ok (.iload_n 3, 1) := by decide +kernel
theorem dX3_letGroupsCome_99 : decode cX3_letGroupsCome 99 = .ok (.aload_n 0, 1) := by decide +kernel
theorem dX3_letGroupsCome_100 : decode cX3_letGroupsCome 100 = .ok (.getfield 61, 3) := by decide +kernel
theorem dX3_letGroupsCome_103 : decode cX3_letGroupsCome 103 = .ok (.iastore, 1) := by decide +kernel
theorem dX3_letGroupsCome_104 : decode cX3_letGroupsCome 104 = .ok (.iload_n 2, 1) := by decide +kernel
theorem dX3_letGroupsCome_105 : decode cX3_letGroupsCome 105 = .ok (.aload_n 0, 1) := by decide +kernel
theorem dX3_letGroupsCome_106 : decode cX3_letGroupsCome 106 = .ok (.getfield 30, 3) := by decide +kernel
theorem dX3_letGroupsCome_109 : decode cX3_letGroupsCome 109 = .ok (.getfield 131, 3) := by decide +kernel
theorem dX3_letGroupsCome_112 : decode cX3_letGroupsCome 112 = .ok (.iload_n 3, 1) := by decide +kernel
theorem dX3_letGroupsCome_113 : decode cX3_letGroupsCome 113 = .ok (.iaload, 1) := by decide +kernel
theorem dX3_letGroupsCome_114 : decode cX3_letGroupsCome 114 = .ok (.iadd, 1) := by decide +kernel
theorem dX3_letGroupsCome_115 : decode cX3_letGroupsCome 115 = .ok (.istore_n 2, 1) := by decide +kernel
theorem dX3_letGroupsCome_116 : decode cX3_letGroupsCome 116 = .ok (.goto 8, 3) := by decide +kernel
theorem dX3_letGroupsCome_119 : decode cX3_letGroupsCome 119 = .ok (.aload_n 0, 1) := by decide +kernel
theorem dX3_letGroupsCome_120 : decode cX3_letGroupsCome 120 = .ok (.iload_n 3, 1) := by decide +kernel
theorem dX3_letGroupsCome_121 : decode cX3_letGroupsCome 121 = .ok (.invokevirtual 181, 3) := by decide +kernel
theorem dX3_letGroupsCome_124 : decode cX3_letGroupsCome 124 = .ok (.iinc 3 1, 3) := by decide +kernel
theorem dX3_letGroupsCome_127 : decode cX3_letGroupsCome 127 = .ok (.goto (-103), 3) := by decide +kernel
theorem dX3_letGroupsCome_130 : decode cX3_letGroupsCome 130 = .ok (.return_, 1) := by decide +kernel
theorem dX3_bring_0 : decode cX3_bring 0 = .ok (.iload_n 1, 1) := by decide +kernel
theorem dX3_bring_1 : decode cX3_bring 1 = .ok (.istore_n 2, 1) := by decide +kernel
theorem dX3_bring_2 : decode cX3_bring 2 = .ok (.iconst 0, 1) := by decide +kernel
theorem dX3_bring_3 : decode cX3_bring 3 = .ok (.istore_n 3, 1) := by decide +kernel
theorem dX3_bring_4 : decode cX3_bring 4 = .ok (.iload_n 3, 1) := by decide +kernel
theorem dX3_bring_5 : decode cX3_bring 5 = .ok (.bipush 12, 2) := by decide +kernel
theorem dX3_bring_7 : decode cX3_bring 7 = .ok (.if_icmp .ge 75, 3) := by decide +kernel
theorem dX3_bring_10 : decode cX3_bring 10 = .ok (.iload_n 2, 1) := by decide +kernel
theorem dX3_bring_11 : decode cX3_bring 11 = .ok (.ifCond .le 71, 3) := by decide +kernel
theorem dX3_bring_14 : decode cX3_bring 14 = .ok (.aload_n 0, 1) := by decide +kernel
theorem dX3_bring_15 : decode cX3_bring 15 = .ok (.getfield 44, 3) := by decide +kernel
theorem dX3_bring_18 : decode cX3_bring 18 = .ok (.getfield 188, 3) := by decide +kernel
theorem dX3_bring_21 : decode cX3_bring 21 = .ok (.ifCond .le 61, 3) := by decide +kernel
theorem dX3_bring_24 : decode cX3_bring 24 = .ok (.aload_n 0, 1) := by decide +kernel
theorem dX3_bring_25 : decode cX3_bring 25 = .ok (.getfield 44, 3) := by decide +kernel
theorem dX3_bring_28 : decode cX3_bring 28 = .ok (.getfield 191, 3) := by decide +kernel
theorem dX3_bring_31 : decode cX3_bring 31 = .ok (.iconst 0, 1) := by decide +kernel
theorem dX3_bring_32 : decode cX3_bring 32 = .ok (.iaload, 1) := by decide +kernel
theorem dX3_bring_33 : decode cX3_bring 33 = .ok (.istore 4, 2) := by decide +kernel
theorem dX3_bring_35 : decode cX3_bring 35 = .ok (.aload_n 0, 1) := by decide +kernel
theorem dX3_bring_36 : decode cX3_bring 36 = .ok (.getfield 44, 3) := by decide +kernel
theorem dX3_bring_39 : decode cX3_bring 39 = .ok (.iload_n 2, 1) := by decide +kernel
theorem dX3_bring_40 : decode cX3_bring 40 = .ok (.invokevirtual 194, 3) := by decide +kernel
theorem dX3_bring_43 : decode cX3_bring 43 = .ok (.istore 5, 2) := by decide +kernel
theorem dX3_bring_45 : decode cX3_bring 45 = .ok (.aload_n 0, 1) := by decide +kernel
theorem dX3_bring_46 : decode cX3_bring 46 = .ok (.getfield 37, 3) := by decide +kernel
theorem dX3_bring_49 : decode cX3_bring 49 = .ok (.iload 4, 2) := by decide +kernel
theorem dX3_bring_51 : decode cX3_bring 51 = .ok (.iload 5, 2) := by decide +kernel
theorem dX3_bring_53 : decode cX3_bring 53 = .ok (.aload_n 0, 1) := by decide +kernel
theorem dX3_bring_54 : decode cX3_bring 54 = .ok (.getfield 61, 3) := by decide +kernel
theorem dX3_bring_57 : decode cX3_bring 57 = .ok (.invokevirtual 197, 3) := by decide +kernel
theorem dX3_bring_60 : decode cX3_bring 60 = .ok (.aload_n 0, 1) := by decide +kernel
theorem dX3_bring_61 : decode cX3_bring 61 = .ok (.getfield 48, 3) := by decide +kernel
theorem dX3_bring_64 : decode cX3_bring 64 = .ok (.iconst 2, 1) := by decide +kernel
theorem dX3_bring_65 : decode cX3_bring 65 = .ok (.dup2, 1) := by decide +kernel
theorem dX3_bring_66 : decode cX3_bring 66 = .ok (.iaload, 1) := by decide +kernel
theorem dX3_bring_67 : decode cX3_bring 67 = .ok (.iload 5, 2) := by decide +kernel
theorem dX3_bring_69 : decode cX3_bring 69 = .ok (.iadd, 1) := by decide +kernel
theorem dX3_bring_70 : decode cX3_bring 70 = .ok (.iastore, 1) := by decide +kernel
theorem dX3_bring_71 : decode cX3_bring 71 = .ok (.iload_n 2, 1) := by decide +kernel
theorem dX3_bring_72 : decode cX3_bring 72 = .ok (.iload 5, 2) := by decide +kernel
theorem dX3_bring_74 : decode cX3_bring 74 = .ok (.isub, 1) := by decide +kernel
theorem dX3_bring_75 : decode cX3_bring 75 = .ok (.istore_n 2, 1) := by decide +kernel
theorem dX3_bring_76 : decode cX3_bring 76 = .ok (.iinc 3 1, 3) := by decide +kernel
theorem dX3_bring_79 : decode cX3_bring 79 = .ok (.goto (-75), 3) := by decide +kernel
theorem dX3_bring_82 : decode cX3_bring 82 = .ok (.return_, 1) := by decide +kernel
theorem dX3_fly_0 : decode cX3_fly 0 = .ok (.aload_n 0, 1) := by decide +kernel
theorem dX3_fly_1 : decode cX3_fly 1 = .ok (.aload_n 0, 1) := by decide +kernel
theorem dX3_fly_2 : decode cX3_fly 2 = .ok (.getfield 9, 3) := by decide +kernel
theorem dX3_fly_5 : decode cX3_fly 5 = .ok (.bipush 7, 2) := by decide +kernel
theorem dX3_fly_7 : decode cX3_fly 7 = .ok (.iaload, 1) := by decide +kernel
theorem dX3_fly_8 : decode cX3_fly 8 = .ok (.invokevirtual 165, 3) := by decide +kernel
theorem dX3_fly_11 : decode cX3_fly 11 = .ok (.aload_n 0, 1) := by decide +kernel
theorem dX3_fly_12 : decode cX3_fly 12 = .ok (.getfield 48, 3) := by decide +kernel
theorem dX3_fly_15 : decode cX3_fly 15 = .ok (.iconst 1, 1) := by decide +kernel
theorem dX3_fly_16 : decode cX3_fly 16 = .ok (.dup2, 1) := by decide +kernel
theorem dX3_fly_17 : decode cX3_fly 17 = .ok (.iaload, 1) := by decide +kernel
theorem dX3_fly_18 : decode cX3_fly 18 = .ok (.aload_n 0, 1) := by decide +kernel
theorem dX3_fly_19 : decode cX3_fly 19 = .ok (.iconst 1, 1) := by decide +kernel
theorem dX3_fly_20 : decode cX3_fly 20 = .ok (.invokevirtual 201, 3) := by decide +kernel
theorem dX3_fly_23 : decode cX3_fly 23 = .ok (.iadd, 1) := by decide +kernel
theorem dX3_fly_24 : decode cX3_fly 24 = .ok (.iastore, 1) := by decide +kernel
theorem dX3_fly_25 : decode cX3_fly 25 = .ok (.aload_n 0, 1) := by decide +kernel
theorem dX3_fly_26 : decode cX3_fly 26 = .ok (.getfield 48, 3) := by decide +kernel
theorem dX3_fly_29 : decode cX3_fly 29 = .ok (.iconst 0, 1) := by decide +kernel
theorem dX3_fly_30 : decode cX3_fly 30 = .ok (.dup2, 1) := by decide +kernel
theorem dX3_fly_31 : decode cX3_fly 31 = .ok (.iaload, 1) := by decide +kernel
theorem dX3_fly_32 : decode cX3_fly 32 = .ok (.iconst 1, 1) := by decide +kernel
theorem dX3_fly_33 : decode cX3_fly 33 = .ok (.iadd, 1) := by decide +kernel
theorem dX3_fly_34 : decode cX3_fly 34 = .ok (.iastore, 1) := by decide +kernel
theorem dX3_fly_35 : decode cX3_fly 35 = .ok (.aload_n 0, 1) := by decide +kernel
theorem dX3_fly_36 : decode cX3_fly 36 = .ok (.dup, 1) := by decide +kernel
theorem dX3_fly_37 : decode cX3_fly 37 = .ok (.getfield 69, 3) := by decide +kernel
theorem dX3_fly_40 : decode cX3_fly 40 = .ok (.aload_n 0, 1) := by decide +kernel
theorem dX3_fly_41 : decode cX3_fly 41 = .ok (.getfield 9, 3) := by decide +kernel
theorem dX3_fly_44 : decode cX3_fly 44 = .ok (.bipush 9, 2) := by decide +kernel
theorem dX3_fly_46 : decode cX3_fly 46 = .ok (.iaload, 1) := by decide +kernel
theorem dX3_fly_47 : decode cX3_fly 47 = .ok (.isub, 1) := by decide +kernel
theorem dX3_fly_48 : decode cX3_fly 48 = .ok (.putfield 69, 3) := by decide +kernel
theorem dX3_fly_51 : decode cX3_fly 51 = .ok (.aload_n 0, 1) := by decide +kernel
theorem dX3_fly_52 : decode cX3_fly 52 = .ok (.dup, 1) := by decide +kernel
theorem dX3_fly_53 : decode cX3_fly 53 = .ok (.getfield 75, 3) := by decide +kernel
theorem dX3_fly_56 : decode cX3_fly 56 = .ok (.aload_n 0, 1) := by decide +kernel
theorem dX3_fly_57 : decode cX3_fly 57 = .ok (.getfield 9, 3) := by decide +kernel
theorem dX3_fly_60 : decode cX3_fly 60 = .ok (.bipush 9, 2) := by decide +kernel
theorem dX3_fly_62 : decode cX3_fly 62 = .ok (.iaload, 1) := by decide +kernel
theorem dX3_fly_63 : decode cX3_fly 63 = .ok (.iadd, 1) := by decide +kernel
theorem dX3_fly_64 : decode cX3_fly 64 = .ok (.putfield 75, 3) := by decide +kernel
theorem dX3_fly_67 : decode cX3_fly 67 = .ok (.aload_n 0, 1) := by decide +kernel
theorem dX3_fly_68 : decode cX3_fly 68 = .ok (.iconst 0, 1) := by decide +kernel
theorem dX3_fly_69 : decode cX3_fly 69 = .ok (.putfield 65, 3) := by decide +kernel
theorem dX3_fly_72 : decode cX3_fly 72 = .ok (.return_, 1) := by decide +kernel
theorem dX3_fillSeats_0 : decode cX3_fillSeats 0 = .ok (.iconst 0, 1) := by decide +kernel
theorem dX3_fillSeats_1 : decode cX3_fillSeats 1 = .ok (.istore_n 2, 1) := by decide +kernel
theorem dX3_fillSeats_2 : decode cX3_fillSeats 2 = .ok (.iconst 0, 1) := by decide +kernel
theorem dX3_fillSeats_3 : decode cX3_fillSeats 3 = .ok (.istore_n 3, 1) := by decide +kernel
theorem dX3_fillSeats_4 : decode cX3_fillSeats 4 = .ok (.iload_n 3, 1) := by decide +kernel
theorem dX3_fillSeats_5 : decode cX3_fillSeats 5 = .ok (.aload_n 0, 1) := by decide +kernel
theorem dX3_fillSeats_6 : decode cX3_fillSeats 6 = .ok (.getfield 30, 3) := by decide +kernel
theorem dX3_fillSeats_9 : decode cX3_fillSeats 9 = .ok (.getfield 98, 3) := by decide +kernel
theorem dX3_fillSeats_12 : decode cX3_fillSeats 12 = .ok (.if_icmp .ge 66, 3) := by decide +kernel
theorem dX3_fillSeats_15 : decode cX3_fillSeats 15 = .ok (.aload_n 0, 1) := by decide +kernel
theorem dX3_fillSeats_16 : decode cX3_fillSeats 16 = .ok (.getfield 30, 3) := by decide +kernel
theorem dX3_fillSeats_19 : decode cX3_fillSeats 19 = .ok (.iload_n 3, 1) := by decide +kernel
theorem dX3_fillSeats_20 : decode cX3_fillSeats 20 = .ok (.aload_n 0, 1) := by decide +kernel
theorem dX3_fillSeats_21 : decode cX3_fillSeats 21 = .ok (.getfield 61, 3) := by decide +kernel
theorem dX3_fillSeats_24 : decode cX3_fillSeats 24 = .ok (.invokevirtual 134, 3) := by decide +kernel
theorem dX3_fillSeats_27 : decode cX3_fillSeats 27 = .ok (.ifCond .eq 45, 3) := by decide +kernel
theorem dX3_fillSeats_30 : decode cX3_fillSeats 30 = .ok (.iload_n 2, 1) := by decide +kernel
theorem dX3_fillSeats_31 : decode cX3_fillSeats 31 = .ok (.aload_n 0, 1) := by decide +kernel
theorem dX3_fillSeats_32 : decode cX3_fillSeats 32 = .ok (.getfield 30, 3) := by decide +kernel
theorem dX3_fillSeats_35 : decode cX3_fillSeats 35 = .ok (.getfield 131, 3) := by decide +kernel
theorem dX3_fillSeats_38 : decode cX3_fillSeats 38 = .ok (.iload_n 3, 1) := by decide +kernel
theorem dX3_fillSeats_39 : decode cX3_fillSeats 39 = .ok (.iaload, 1) := by decide +kernel
theorem dX3_fillSeats_40 : decode cX3_fillSeats 40 = .ok (.iadd, 1) := by decide +kernel
theorem dX3_fillSeats_41 : decode cX3_fillSeats 41 = .ok (.aload_n 0, 1) := by decide +kernel
theorem dX3_fillSeats_42 : decode cX3_fillSeats 42 = .ok (.getfield 9, 3) := by decide +kernel
theorem dX3_fillSeats_45 : decode cX3_fillSeats 45 = .ok (.bipush 8, 2) := by decide +kernel
theorem dX3_fillSeats_47 : decode cX3_fillSeats 47 = .ok (.iaload, 1) := by decide +kernel
theorem dX3_fillSeats_48 : decode cX3_fillSeats 48 = .ok (.if_icmp .gt 24, 3) := by decide +kernel
theorem dX3_fillSeats_51 : decode cX3_fillSeats 51 = .ok (.iload_n 2, 1) := by decide +kernel
theorem dX3_fillSeats_52 : decode cX3_fillSeats 52 = .ok (.aload_n 0, 1) := by decide +kernel
theorem dX3_fillSeats_53 : decode cX3_fillSeats 53 = .ok (.getfield 30, 3) := by decide +kernel
theorem dX3_fillSeats_56 : decode cX3_fillSeats 56 = .ok (.getfield 131, 3) := by decide +kernel
theorem dX3_fillSeats_59 : decode cX3_fillSeats 59 = .ok (.iload_n 3, 1) := by decide +kernel
theorem dX3_fillSeats_60 : decode cX3_fillSeats 60 = .ok (.iaload, 1) := by decide +kernel
theorem dX3_fillSeats_61 : decode cX3_fillSeats 61 = .ok (.iadd, 1) := by decide +kernel
theorem dX3_fillSeats_62 : decode cX3_fillSeats 62 = .ok (.istore_n 2, 1) := by decide +kernel
theorem dX3_fillSeats_63 : decode cX3_fillSeats 63 = .ok (.iload_n 1, 1) := by decide +kernel
theorem dX3_fillSeats_64 : decode cX3_fillSeats 64 = .ok (.ifCond .eq 8, 3) := by decide +kernel
theorem dX3_fillSeats_67 : decode cX3_fillSeats 67 = .ok (.aload_n 0, 1) := by decide +kernel
theorem dX3_fillSeats_68 : decode cX3_fillSeats 68 = .ok (.iload_n 3, 1) := by decide +kernel
theorem dX3_fillSeats_69 : decode cX3_fillSeats 69 = .ok (.invokevirtual 175, 3) := by decide +kernel
theorem dX3_fillSeats_72 : decode cX3_fillSeats 72 = .ok (.iinc 3 1, 3) := by decide +kernel
theorem dX3_fillSeats_75 : decode cX3_fillSeats 75 = .ok (.goto (-71), 3) := by decide +kernel
theorem dX3_fillSeats_78 : decode cX3_fillSeats 78 = .ok (.iload_n 2, 1) := by decide +kernel
theorem dX3_fillSeats_79 : decode cX3_fillSeats 79 = .ok (.ireturn, 1) := by decide +kernel
theorem dX3_letAllEat_0 : decode cX3_letAllEat 0 = .ok (.aload_n 0, 1) := by decide +kernel
theorem dX3_letAllEat_1 : decode cX3_letAllEat 1 = .ok (.getfield 30, 3) := by decide +kernel
theorem dX3_letAllEat_4 : decode cX3_letAllEat 4 = .ok (.invokevirtual 184, 3) := by decide +kernel
theorem dX3_letAllEat_7 : decode cX3_letAllEat 7 = .ok (.istore_n 1, 1) := by decide +kernel
theorem dX3_letAllEat_8 : decode cX3_letAllEat 8 = .ok (.aload_n 0, 1) := by decide +kernel
theorem dX3_letAllEat_9 : decode cX3_letAllEat 9 = .ok (.getfield 37, 3) := by decide +kernel
theorem dX3_letAllEat_12 : decode cX3_letAllEat 12 = .ok (.iload_n 1, 1) := by decide +kernel
theorem dX3_letAllEat_13 : decode cX3_letAllEat 13 = .ok (.aload_n 0, 1) := by decide +kernel
theorem dX3_letAllEat_14 : decode cX3_letAllEat 14 = .ok (.getfield 61, 3) := by decide +kernel
theorem dX3_letAllEat_17 : decode cX3_letAllEat 17 = .ok (.invokevirtual 205, 3) := by decide +kernel
theorem dX3_letAllEat_20 : decode cX3_letAllEat 20 = .ok (.istore_n 2, 1) := by decide +kernel
theorem dX3_letAllEat_21 : decode cX3_letAllEat 21 = .ok (.aload_n 0, 1) := by decide +kernel
theorem dX3_letAllEat_22 : decode cX3_letAllEat 22 = .ok (.getfield 48, 3) := by decide +kernel
theorem dX3_letAllEat_25 : decode cX3_letAllEat 25 = .ok (.iconst 3, 1) := by decide +kernel
theorem dX3_letAllEat_26 : decode cX3_letAllEat 26 = .ok (.dup2, 1) := by decide +kernel
theorem dX3_letAllEat_27 : decode cX3_letAllEat 27 = .ok (.iaload, 1) := by decide +kernel
theorem dX3_letAllEat_28 : decode cX3_letAllEat 28 = .ok (.iload_n 2, 1) := by decide +kernel
theorem dX3_letAllEat_29 : decode cX3_letAllEat 29 = .ok (.iadd, 1) := by decide +kernel
theorem dX3_letAllEat_30 : decode cX3_letAllEat 30 = .ok (.iastore, 1) := by decide +kernel
theorem dX3_letAllEat_31 : decode cX3_letAllEat 31 = .ok (.aload_n 0, 1) := by decide +kernel
theorem dX3_letAllEat_32 : decode cX3_letAllEat 32 = .ok (.getfield 48, 3) := by decide +kernel
theorem dX3_letAllEat_35 : decode cX3_letAllEat 35 = .ok (.iconst 5, 1) := by decide +kernel
theorem dX3_letAllEat_36 : decode cX3_letAllEat 36 = .ok (.dup2, 1) := by decide +kernel
theorem dX3_letAllEat_37 : decode cX3_letAllEat 37 = .ok (.iaload, 1) := by decide +kernel
theorem dX3_letAllEat_38 : decode cX3_letAllEat 38 = .ok (.iload_n 1, 1) := by decide +kernel
theorem dX3_letAllEat_39 : decode cX3_letAllEat 39 = .ok (.iload_n 2, 1) := by decide +kernel
theorem dX3_letAllEat_40 : decode cX3_letAllEat 40 = .ok (.isub, 1) := by decide +kernel
theorem dX3_letAllEat_41 : decode cX3_letAllEat 41 = .ok (.iadd, 1) := by decide +kernel
theorem dX3_letAllEat_42 : decode cX3_letAllEat 42 = .ok (.iastore, 1) := by decide +kernel
theorem dX3_letAllEat_43 : decode cX3_letAllEat 43 = .ok (.return_, 1) := by decide +kernel
theorem dX3_letAllSleep_0 : decode cX3_letAllSleep 0 = .ok (.iconst 0, 1) := by decide +kernel
theorem dX3_letAllSleep_1 : decode cX3_letAllSleep 1 = .ok (.istore_n 1, 1) := by decide +kernel
theorem dX3_letAllSleep_2 : decode cX3_letAllSleep 2 = .ok (.iload_n 1, 1) := by decide +kernel
theorem dX3_letAllSleep_3 : decode cX3_letAllSleep 3 = .ok (.aload_n 0, 1) := by decide +kernel
theorem dX3_letAllSleep_4 : decode cX3_letAllSleep 4 = .ok (.getfield 30, 3) := by decide +kernel
theorem dX3_letAllSleep_7 : decode cX3_letAllSleep 7 = .ok (.getfield 98, 3) := by decide +kernel
theorem dX3_letAllSleep_10 : decode cX3_letAllSleep 10 = .ok (.if_icmp .ge 88, 3) := by decide +kernel
theorem dX3_letAllSleep_13 : decode cX3_letAllSleep 13 = .ok (.aload_n 0, 1) := by decide +kernel
theorem dX3_letAllSleep_14 : decode cX3_letAllSleep 14 = .ok (.getfield 30, 3) := by decide +kernel
theorem dX3_letAllSleep_17 : decode cX3_letAllSleep 17 = .ok (.getfield 122, 3) := by decide +kernel
theorem dX3_letAllSleep_20 : decode cX3_letAllSleep 20 = .ok (.iload_n 1, 1) := by decide +kernel
theorem dX3_letAllSleep_21 : decode cX3_letAllSleep 21 = .ok (.iaload, 1) := by decide +kernel
theorem dX3_letAllSleep_22 : decode cX3_letAllSleep 22 = .ok (.iconst 1, 1) := by decide +kernel
theorem dX3_letAllSleep_23 : decode cX3_letAllSleep 23 = .ok (.if_icmp .ne 35, 3) := by decide +kernel
theorem dX3_letAllSleep_26 : decode cX3_letAllSleep 26 = .ok (.aload_n 0, 1) := by decide +kernel
theorem dX3_letAllSleep_27 : decode cX3_letAllSleep 27 = .ok (.getfield 30, 3) := by decide +kernel
theorem dX3_letAllSleep_30 : decode cX3_letAllSleep 30 = .ok (.getfield 208, 3) := by decide +kernel
theorem dX3_letAllSleep_33 : decode cX3_letAllSleep 33 = .ok (.iload_n 1, 1) := by decide +kernel
theorem dX3_letAllSleep_34 : decode cX3_letAllSleep 34 = .ok (.dup2, 1) := by decide +kernel
theorem dX3_letAllSleep_35 : decode cX3_letAllSleep 35 = .ok (.iaload, 1) := by decide +kernel
theorem dX3_letAllSleep_36 : decode cX3_letAllSleep 36 = .ok (.iconst 1, 1) := by decide +kernel
theorem dX3_letAllSleep_37 : decode cX3_letAllSleep 37 = .ok (.iadd, 1) := by decide +kernel
theorem dX3_letAllSleep_38 : decode cX3_letAllSleep 38 = .ok (.iastore, 1) := by decide +kernel
theorem dX3_letAllSleep_39 : decode cX3_letAllSleep 39 = .ok (.aload_n 0, 1) := by decide +kernel
theorem dX3_letAllSleep_40 : decode cX3_letAllSleep 40 = .ok (.getfield 48, 3) := by decide +kernel
theorem dX3_letAllSleep_43 : decode cX3_letAllSleep 43 = .ok (.bipush 7, 2) := by decide +kernel
theorem dX3_letAllSleep_45 : decode cX3_letAllSleep 45 = .ok (.dup2, 1) := by decide +kernel
theorem dX3_letAllSleep_46 : decode cX3_letAllSleep 46 = .ok (.iaload, 1) := by decide +kernel
theorem dX3_letAllSleep_47 : decode cX3_letAllSleep 47 = .ok (.aload_n 0, 1) := by decide +kernel
theorem dX3_letAllSleep_48 : decode cX3_letAllSleep 48 = .ok (.getfield 30, 3) := by decide +kernel
theorem dX3_letAllSleep_51 : decode cX3_letAllSleep 51 = .ok (.getfield 131, 3) := by decide +kernel
theorem dX3_letAllSleep_54 : decode cX3_letAllSleep 54 = .ok (.iload_n 1, 1) := by decide +kernel
theorem dX3_letAllSleep_55 : decode cX3_letAllSleep 55 = .ok (.iaload, 1) := by decide +kernel
theorem dX3_letAllSleep_56 : decode cX3_letAllSleep 56 = .ok (.iadd, 1) := by decide +kernel
theorem dX3_letAllSleep_57 : decode cX3_letAllSleep 57 = .ok (.iastore, 1) := by decide +kernel
theorem dX3_letAllSleep_58 : decode cX3_letAllSleep 58 = .ok (.aload_n 0, 1) := by decide +kernel
theorem dX3_letAllSleep_59 : decode cX3_letAllSleep 59 = .ok (.getfield 30, 3) := by decide +kernel
theorem dX3_letAllSleep_62 : decode cX3_letAllSleep 62 = .ok (.iload_n 1, 1) := by decide +kernel
theorem dX3_letAllSleep_63 : decode cX3_letAllSleep 63 = .ok (.aload_n 0, 1) := by decide +kernel
theorem dX3_letAllSleep_64 : decode cX3_letAllSleep 64 = .ok (.getfield 61, 3) := by decide +kernel
theorem dX3_letAllSleep_67 : decode cX3_letAllSleep 67 = .ok (.invokevirtual 134, 3) := by decide +kernel
theorem dX3_letAllSleep_70 : decode cX3_letAllSleep 70 = .ok (.ifCond .eq 22, 3) := by decide +kernel
theorem dX3_letAllSleep_73 : decode cX3_letAllSleep 73 = .ok (.aload_n 0, 1) := by decide +kernel
theorem dX3_letAllSleep_74 : decode cX3_letAllSleep 74 = .ok (.getfield 48, 3) := by decide +kernel
theorem dX3_letAllSleep_77 : decode cX3_letAllSleep 77 = .ok (.bipush 6, 2) := by decide +kernel
theorem dX3_letAllSleep_79 : decode cX3_letAllSleep 79 = .ok (.dup2, 1) := by decide +kernel
theorem dX3_letAllSleep_80 : decode cX3_letAllSleep 80 = .ok (.iaload, 1) := by decide +kernel
theorem dX3_letAllSleep_81 : decode cX3_letAllSleep 81 = .ok (.aload_n 0, 1) := by decide +kernel
theorem dX3_letAllSleep_82 : decode cX3_letAllSleep 82 = .ok (.getfield 30, 3) := by decide +kernel
theorem dX3_letAllSleep_85 : decode cX3_letAllSleep 85 = .ok (.getfield 131, 3) := by decide +kernel
theorem dX3_letAllSleep_88 : decode cX3_letAllSleep 88 = .ok (.iload_n 1, 1) := by decide +kernel
theorem dX3_letAllSleep_89 : decode cX3_letAllSleep 89 = .ok (.iaload, 1) := by decide +kernel
theorem dX3_letAllSleep_90 : decode cX3_letAllSleep 90 = .ok (.iadd, 1) := by decide +kernel
theorem dX3_letAllSleep_91 : decode cX3_letAllSleep 91 = .ok (.iastore, 1) := by decide +kernel
theorem dX3_letAllSleep_92 : decode cX3_letAllSleep 92 = .ok (.iinc 1 1, 3) := by decide +kernel
theorem dX3_letAllSleep_95 : decode cX3_letAllSleep 95 = .ok (.goto (-93), 3) := by decide +kernel
theorem dX3_letAllSleep_98 : decode cX3_letAllSleep 98 = .ok (.return_, 1) := by decide +kernel
theorem dX4_init_0 : decode cX4_init 0 = .ok (.aload_n 0, 1) := by decide +kernel
theorem dX4_init_1 : decode cX4_init 1 = .ok (.invokespecial 3, 3) := by decide +kernel
theorem dX4_init_4 : decode cX4_init 4 = .ok (.aload_n 0, 1) := by decide +kernel
theorem dX4_init_5 : decode cX4_init 5 = .ok (.bipush 30, 2) := by decide +kernel
theorem dX4_init_7 : decode cX4_init 7 = .ok (.newarray .int, 2) := by decide +kernel
theorem dX4_init_9 : decode cX4_init 9 = .ok (.putfield 9, 3) := by decide +kernel
theorem dX4_init_12 : decode cX4_init 12 = .ok (.return_, 1) := by decide +kernel
theorem dX4_copyFrom_0 : decode cX4_copyFrom 0 = .ok (.aload_n 1, 1) := by decide +kernel
theorem dX4_copyFrom_1 : decode cX4_copyFrom 1 = .ok (.getfield 9, 3) := by decide +kernel
theorem dX4_copyFrom_4 : decode cX4_copyFrom 4 = .ok (.iconst 0, 1) := by decide +kernel
theorem dX4_copyFrom_5 : decode cX4_copyFrom 5 = .ok (.aload_n 0, 1) := by decide +kernel
theorem dX4_copyFrom_6 : decode cX4_copyFrom 6 = .ok (.getfield 9, 3) := by decide +kernel
theorem dX4_copyFrom_9 : decode cX4_copyFrom 9 = .ok (.iconst 0, 1) := by decide +kernel
theorem dX4_copyFrom_10 : decode cX4_copyFrom 10 = .ok (.bipush 30, 2) := by decide +kernel
theorem dX4_copyFrom_12 : decode cX4_copyFrom 12 = .ok (.invokestatic 15, 3) := by decide +kernel
theorem dX4_copyFrom_15 : decode cX4_copyFrom 15 = .ok (.aload_n 0, 1) := by decide +kernel
theorem dX4_copyFrom_16 : decode cX4_copyFrom 16 = .ok (.aload_n 1, 1) := by decide +kernel
theorem dX4_copyFrom_17 : decode cX4_copyFrom 17 = .ok (.getfield 21, 3) := by decide +kernel
theorem dX4_copyFrom_20 : decode cX4_copyFrom 20 = .ok (.putfield 21, 3) := by decide +kernel
theorem dX4_copyFrom_23 : decode cX4_copyFrom 23 = .ok (.return_, 1) := by decide +kernel
theorem dX4_slotOf_0 : decode cX4_slotOf 0 = .ok (.iload_n 0, 1) := by decide +kernel
theorem dX4_slotOf_1 : decode cX4_slotOf 1 = .ok (.bipush 30, 2) := by decide +kernel
theorem dX4_slotOf_3 : decode cX4_slotOf 3 = .ok (.invokestatic 25, 3) := by decide +kernel
theorem dX4_slotOf_6 : decode cX4_slotOf 6 = .ok (.ireturn, 1) := by decide +kernel
theorem dX4_allFresh_0 : decode cX4_allFresh 0 = .ok (.iconst 0, 1) := by decide +kernel
theorem dX4_allFresh_1 : decode cX4_allFresh 1 = .ok (.istore_n 1, 1) := by decide +kernel
theorem dX4_allFresh_2 : decode cX4_allFresh 2 = .ok (.iconst 0, 1) := by decide +kernel
theorem dX4_allFresh_3 : decode cX4_allFresh 3 = .ok (.istore_n 2, 1) := by decide +kernel
theorem dX4_allFresh_4 : decode cX4_allFresh 4 = .ok (.iload_n 2, 1) := by decide +kernel
theorem dX4_allFresh_5 : decode cX4_allFresh 5 = .ok (.bipush 30, 2) := by decide +kernel
theorem dX4_allFresh_7 : decode cX4_allFresh 7 = .ok (.if_icmp .ge 18, 3) := by decide +kernel
theorem dX4_allFresh_10 : decode cX4_allFresh 10 = .ok (.iload_n 1, 1) := by decide +kernel
theorem dX4_allFresh_11 : decode cX4_allFresh 11 = .ok (.aload_n 0, 1) := by decide +kernel
theorem dX4_allFresh_12 : decode cX4_allFresh 12 = .ok (.getfield 9, 3) := by decide +kernel
theorem dX4_allFresh_15 : decode cX4_allFresh 15 = .ok (.iload_n 2, 1) := by decide +kernel
theorem dX4_allFresh_16 : decode cX4_allFresh 16 = .ok (.iaload, 1) := by decide +kernel
theorem dX4_allFresh_17 : decode cX4_allFresh 17 = .ok (.iadd, 1) := by decide +kernel
theorem dX4_allFresh_18 : decode cX4_allFresh 18 = .ok (.istore_n 1, 1) := by decide +kernel
theorem dX4_allFresh_19 : decode cX4_allFresh 19 = .ok (.iinc 2 1, 3) := by decide +kernel
theorem dX4_allFresh_22 : decode cX4_allFresh 22 = .ok (.goto (-18), 3) := by decide +kernel
theorem dX4_allFresh_25 : decode cX4_allFresh 25 = .ok (.iload_n 1, 1) := by decide +kernel
theorem dX4_allFresh_26 : decode cX4_allFresh 26 = .ok (.ireturn, 1) := by decide +kernel
theorem dX4_throwSpoiltAway_0 : decode cX4_throwSpoiltAway 0 = .ok (.iconst 0, 1) := by decide +kernel
theorem dX4_throwSpoiltAway_1 : decode cX4_throwSpoiltAway 1 = .ok (.istore_n 3, 1) := by decide +kernel
theorem dX4_throwSpoiltAway_2 : decode cX4_throwSpoiltAway 2 = .ok (.iload_n 1, 1) := by decide +kernel
theorem dX4_throwSpoiltAway_3 : decode cX4_throwSpoiltAway 3 = .ok (.bipush 30, 2) := by decide +kernel
theorem dX4_throwSpoiltAway_5 : decode cX4_throwSpoiltAway 5 = .ok (.isub, 1) := by decide +kernel
theorem dX4_throwSpoiltAway_6 : decode cX4_throwSpoiltAway 6 = .ok (.istore 4, 2) := by decide +kernel
theorem dX4_throwSpoiltAway_8 : decode cX4_throwSpoiltAway 8 = .ok (.iload 4, 2) := by decide +kernel
theorem dX4_throwSpoiltAway_10 : decode cX4_throwSpoiltAway 10 = .ok (.iload_n 1, 1) := by decide +kernel
theorem dX4_throwSpoiltAway_11 : decode cX4_throwSpoiltAway 11 = .ok (.iload_n 2, 1) := by decide +kernel
theorem dX4_throwSpoiltAway_12 : decode cX4_throwSpoiltAway 12 = .ok (.isub, 1) := by decide +kernel
theorem dX4_throwSpoiltAway_13 : decode cX4_throwSpoiltAway 13 = .ok (.if_icmp .gt 34, 3) := by decide +kernel
theorem dX4_throwSpoiltAway_16 : decode cX4_throwSpoiltAway 16 = .ok (.iload 4, 2) := by decide +kernel
theorem dX4_throwSpoiltAway_18 : decode cX4_throwSpoiltAway 18 = .ok (.invokestatic 31, 3) := by decide +kernel
theorem dX4_throwSpoiltAway_21 : decode cX4_throwSpoiltAway 21 = .ok (.istore 5, 2) := by decide +kernel
theorem dX4_throwSpoiltAway_23 : decode cX4_throwSpoiltAway 23 = .ok (.iload_n 3, 1) := by decide +kernel
theorem dX4_throwSpoiltAway_24 : decode cX4_throwSpoiltAway 24 = .ok (.aload_n 0, 1) := by decide +kernel
theorem dX4_throwSpoiltAway_25 : decode cX4_throwSpoiltAway 25 = .ok (.getfield 9, 3) := by decide +kernel
theorem dX4_throwSpoiltAway_28 : decode cX4_throwSpoiltAway 28 = .ok (.iload 5, 2) := by decide +kernel
theorem dX4_throwSpoiltAway_30 : decode cX4_throwSpoiltAway 30 = .ok (.iaload, 1) := by decide +kernel
theorem dX4_throwSpoiltAway_31 : decode cX4_throwSpoiltAway 31 = .ok (.iadd, 1) := by decide +kernel
theorem dX4_throwSpoiltAway_32 : decode cX4_throwSpoiltAway 32 = .ok (.istore_n 3, 1) := by decide +kernel
theorem dX4_throwSpoiltAway_33 : decode cX4_throwSpoiltAway 33 = .ok (.aload_n 0, 1) := by decide +kernel
theorem dX4_throwSpoiltAway_34 : decode cX4_throwSpoiltAway 34 = .ok (.getfield 9, 3) := by decide +kernel
theorem dX4_throwSpoiltAway_37 : decode cX4_throwSpoiltAway 37 = .ok (.iload 5, 2) := by decide +kernel
theorem dX4_throwSpoiltAway_39 : decode cX4_throwSpoiltAway 39 = .ok (.iconst 0, 1) := by decide +kernel
theorem dX4_throwSpoiltAway_40 : decode cX4_throwSpoiltAway 40 = .ok (.iastore, 1) := by decide +kernel
theorem dX4_throwSpoiltAway_41 : decode cX4_throwSpoiltAway 41 = .ok (.iinc 4 1, 3) := by decide +kernel
theorem dX4_throwSpoiltAway_44 : decode cX4_throwSpoiltAway 44 = .ok (.goto (-36), 3) := by decide +kernel
theorem dX4_throwSpoiltAway_47 : decode cX4_throwSpoiltAway 47 = .ok (.iload_n 3, 1) := by decide +kernel
theorem dX4_throwSpoiltAway_48 : decode cX4_throwSpoiltAway 48 = .ok (.ireturn, 1) := by decide +kernel
theorem dX4_store_0 : decode cX4_store 0 = .ok (.iload_n 1, 1) := by decide +kernel
theorem dX4_store_1 : decode cX4_store 1 = .ok (.ifCond .ne 19, 3) := by decide +kernel
theorem dX4_store_4 : decode cX4_store 4 = .ok (.aload_n 0, 1) := by decide +kernel
theorem dX4_store_5 : decode cX4_store 5 = .ok (.getfield 9, 3) := by decide +kernel
theorem dX4_store_8 : decode cX4_store 8 = .ok (.iload_n 3, 1) := by decide +kernel
theorem dX4_store_9 : decode cX4_store 9 = .ok (.invokestatic 31, 3) := by decide +kernel
