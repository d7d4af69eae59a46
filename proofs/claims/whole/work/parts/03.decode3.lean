theorem dX7_undo_11 : decode cX7_undo 11 = .ok (.dup, 1) := by decide +kernel
theorem dX7_undo_12 : decode cX7_undo 12 = .ok (.getfield 25, 3) := by decide +kernel
theorem dX7_undo_15 : decode cX7_undo 15 = .ok (.iconst 1, 1) := by decide +kernel
theorem dX7_undo_16 : decode cX7_undo 16 = .ok (.isub, 1) := by decide +kernel
theorem dX7_undo_17 : decode cX7_undo 17 = .ok (.putfield 25, 3) := by decide +kernel
theorem dX7_undo_20 : decode cX7_undo 20 = .ok (.iconst 0, 1) := by decide +kernel
theorem dX7_undo_21 : decode cX7_undo 21 = .ok (.istore_n 1, 1) := by decide +kernel
theorem dX7_undo_22 : decode cX7_undo 22 = .ok (.iload_n 1, 1) := by decide +kernel
theorem dX7_undo_23 : decode cX7_undo 23 = .ok (.sipush 2739, 3) := by decide +kernel
theorem dX7_undo_26 : decode cX7_undo 26 = .ok (.if_icmp .ge 30, 3) := by decide +kernel
theorem dX7_undo_29 : decode cX7_undo 29 = .ok (.aload_n 0, 1) := by decide +kernel
theorem dX7_undo_30 : decode cX7_undo 30 = .ok (.getfield 7, 3) := by decide +kernel
theorem dX7_undo_33 : decode cX7_undo 33 = .ok (.iload_n 1, 1) := by decide +kernel
theorem dX7_undo_34 : decode cX7_undo 34 = .ok (.aload_n 0, 1) := by decide +kernel
theorem dX7_undo_35 : decode cX7_undo 35 = .ok (.getfield 19, 3) := by decide +kernel
theorem dX7_undo_38 : decode cX7_undo 38 = .ok (.sipush 2739, 3) := by decide +kernel
theorem dX7_undo_41 : decode cX7_undo 41 = .ok (.aload_n 0, 1) := by decide +kernel
theorem dX7_undo_42 : decode cX7_undo 42 = .ok (.getfield 25, 3) := by decide +kernel
theorem dX7_undo_45 : decode cX7_undo 45 = .ok (.imul, 1) := by decide +kernel
theorem dX7_undo_46 : decode cX7_undo 46 = .ok (.iload_n 1, 1) := by decide +kernel
theorem dX7_undo_47 : decode cX7_undo 47 = .ok (.iadd, 1) := by decide +kernel
theorem dX7_undo_48 : decode cX7_undo 48 = .ok (.iaload, 1) := by decide +kernel
theorem dX7_undo_49 : decode cX7_undo 49 = .ok (.iastore, 1) := by decide +kernel
theorem dX7_undo_50 : decode cX7_undo 50 = .ok (.iinc 1 1, 3) := by decide +kernel
theorem dX7_undo_53 : decode cX7_undo 53 = .ok (.goto (-31), 3) := by decide +kernel
theorem dX7_undo_56 : decode cX7_undo 56 = .ok (.aload_n 0, 1) := by decide +kernel
theorem dX7_undo_57 : decode cX7_undo 57 = .ok (.getfield 25, 3) := by decide +kernel
theorem dX7_undo_60 : decode cX7_undo 60 = .ok (.ireturn, 1) := by decide +kernel
theorem dX7_keep_0 : decode cX7_keep 0 = .ok (.iconst 0, 1) := by decide +kernel
theorem dX7_keep_1 : decode cX7_keep 1 = .ok (.istore_n 1, 1) := by decide +kernel
theorem dX7_keep_2 : decode cX7_keep 2 = .ok (.iload_n 1, 1) := by decide +kernel
theorem dX7_keep_3 : decode cX7_keep 3 = .ok (.sipush 2739, 3) := by decide +kernel
theorem dX7_keep_6 : decode cX7_keep 6 = .ok (.if_icmp .ge 21, 3) := by decide +kernel
theorem dX7_keep_9 : decode cX7_keep 9 = .ok (.aload_n 0, 1) := by decide +kernel
theorem dX7_keep_10 : decode cX7_keep 10 = .ok (.getfield 13, 3) := by decide +kernel
theorem dX7_keep_13 : decode cX7_keep 13 = .ok (.iload_n 1, 1) := by decide +kernel
theorem dX7_keep_14 : decode cX7_keep 14 = .ok (.aload_n 0, 1) := by decide +kernel
theorem dX7_keep_15 : decode cX7_keep 15 = .ok (.getfield 7, 3) := by decide +kernel
theorem dX7_keep_18 : decode cX7_keep 18 = .ok (.iload_n 1, 1) := by decide +kernel
theorem dX7_keep_19 : decode cX7_keep 19 = .ok (.iaload, 1) := by decide +kernel
theorem dX7_keep_20 : decode cX7_keep 20 = .ok (.iastore, 1) := by decide +kernel
theorem dX7_keep_21 : decode cX7_keep 21 = .ok (.iinc 1 1, 3) := by decide +kernel
theorem dX7_keep_24 : decode cX7_keep 24 = .ok (.goto (-22), 3) := by decide +kernel
theorem dX7_keep_27 : decode cX7_keep 27 = .ok (.aload_n 0, 1) := by decide +kernel
theorem dX7_keep_28 : decode cX7_keep 28 = .ok (.iconst 1, 1) := by decide +kernel
theorem dX7_keep_29 : decode cX7_keep 29 = .ok (.putfield 149, 3) := by decide +kernel
theorem dX7_keep_32 : decode cX7_keep 32 = .ok (.aload_n 0, 1) := by decide +kernel
theorem dX7_keep_33 : decode cX7_keep 33 = .ok (.getfield 7, 3) := by decide +kernel
theorem dX7_keep_36 : decode cX7_keep 36 = .ok (.iconst 0, 1) := by decide +kernel
theorem dX7_keep_37 : decode cX7_keep 37 = .ok (.iaload, 1) := by decide +kernel
theorem dX7_keep_38 : decode cX7_keep 38 = .ok (.ireturn, 1) := by decide +kernel
theorem dX7_restore_0 : decode cX7_restore 0 = .ok (.aload_n 0, 1) := by decide +kernel
theorem dX7_restore_1 : decode cX7_restore 1 = .ok (.getfield 149, 3) := by decide +kernel
theorem dX7_restore_4 : decode cX7_restore 4 = .ok (.ifCond .ne 6, 3) := by decide +kernel
theorem dX7_restore_7 : decode cX7_restore 7 = .ok (.ldc 101, 2) := by decide +kernel
theorem dX7_restore_9 : decode cX7_restore 9 = .ok (.ireturn, 1) := by decide +kernel
theorem dX7_restore_10 : decode cX7_restore 10 = .ok (.aload_n 0, 1) := by decide +kernel
theorem dX7_restore_11 : decode cX7_restore 11 = .ok (.invokevirtual 106, 3) := by decide +kernel
theorem dX7_restore_14 : decode cX7_restore 14 = .ok (.iconst 0, 1) := by decide +kernel
theorem dX7_restore_15 : decode cX7_restore 15 = .ok (.istore_n 1, 1) := by decide +kernel
theorem dX7_restore_16 : decode cX7_restore 16 = .ok (.iload_n 1, 1) := by decide +kernel
theorem dX7_restore_17 : decode cX7_restore 17 = .ok (.sipush 2739, 3) := by decide +kernel
theorem dX7_restore_20 : decode cX7_restore 20 = .ok (.if_icmp .ge 21, 3) := by decide +kernel
theorem dX7_restore_23 : decode cX7_restore 23 = .ok (.aload_n 0, 1) := by decide +kernel
theorem dX7_restore_24 : decode cX7_restore 24 = .ok (.getfield 7, 3) := by decide +kernel
theorem dX7_restore_27 : decode cX7_restore 27 = .ok (.iload_n 1, 1) := by decide +kernel
theorem dX7_restore_28 : decode cX7_restore 28 = .ok (.aload_n 0, 1) := by decide +kernel
theorem dX7_restore_29 : decode cX7_restore 29 = .ok (.getfield 13, 3) := by decide +kernel
theorem dX7_restore_32 : decode cX7_restore 32 = .ok (.iload_n 1, 1) := by decide +kernel
theorem dX7_restore_33 : decode cX7_restore 33 = .ok (.iaload, 1) := by decide +kernel
theorem dX7_restore_34 : decode cX7_restore 34 = .ok (.iastore, 1) := by decide +kernel
theorem dX7_restore_35 : decode cX7_restore 35 = .ok (.iinc 1 1, 3) := by decide +kernel
theorem dX7_restore_38 : decode cX7_restore 38 = .ok (.goto (-22), 3) := by decide +kernel
theorem dX7_restore_41 : decode cX7_restore 41 = .ok (.aload_n 0, 1) := by decide +kernel
theorem dX7_restore_42 : decode cX7_restore 42 = .ok (.getfield 7, 3) := by decide +kernel
theorem dX7_restore_45 : decode cX7_restore 45 = .ok (.iconst 0, 1) := by decide +kernel
theorem dX7_restore_46 : decode cX7_restore 46 = .ok (.iaload, 1) := by decide +kernel
theorem dX7_restore_47 : decode cX7_restore 47 = .ok (.ireturn, 1) := by decide +kernel
theorem dX7_booking_0 : decode cX7_booking 0 = .ok (.aload_n 0, 1) := by decide +kernel
theorem dX7_booking_1 : decode cX7_booking 1 = .ok (.iload_n 1, 1) := by decide +kernel
theorem dX7_booking_2 : decode cX7_booking 2 = .ok (.invokevirtual 133, 3) := by decide +kernel
theorem dX7_booking_5 : decode cX7_booking 5 = .ok (.ifCond .ne 6, 3) := by decide +kernel
theorem dX7_booking_8 : decode cX7_booking 8 = .ok (.ldc 136, 2) := by decide +kernel
theorem dX7_booking_10 : decode cX7_booking 10 = .ok (.ireturn, 1) := by decide +kernel
theorem dX7_booking_11 : decode cX7_booking 11 = .ok (.iload_n 2, 1) := by decide +kernel
theorem dX7_booking_12 : decode cX7_booking 12 = .ok (.tableswitch 150 0 8 #[52, 59, 66, 73, 80, 86, 93, 135, 142], 52) := by decide +kernel
theorem dX7_booking_64 : decode cX7_booking 64 = .ok (.aload_n 0, 1) := by decide +kernel
theorem dX7_booking_65 : decode cX7_booking 65 = .ok (.iload_n 1, 1) := by decide +kernel
theorem dX7_booking_66 : decode cX7_booking 66 = .ok (.iconst 0, 1) := by decide +kernel
theorem dX7_booking_67 : decode cX7_booking 67 = .ok (.invokevirtual 29, 3) := by decide +kernel
theorem dX7_booking_70 : decode cX7_booking 70 = .ok (.ireturn, 1) := by decide +kernel
theorem dX7_booking_71 : decode cX7_booking 71 = .ok (.aload_n 0, 1) := by decide +kernel
theorem dX7_booking_72 : decode cX7_booking 72 = .ok (.iload_n 1, 1) := by decide +kernel
theorem dX7_booking_73 : decode cX7_booking 73 = .ok (.iconst 1, 1) := by decide +kernel
theorem dX7_booking_74 : decode cX7_booking 74 = .ok (.invokevirtual 29, 3) := by decide +kernel
theorem dX7_booking_77 : decode cX7_booking 77 = .ok (.ireturn, 1) := by decide +kernel
theorem dX7_booking_78 : decode cX7_booking 78 = .ok (.aload_n 0, 1) := by decide +kernel
theorem dX7_booking_79 : decode cX7_booking 79 = .ok (.iload_n 1, 1) := by decide +kernel
theorem dX7_booking_80 : decode cX7_booking 80 = .ok (.iconst 2, 1) := by decide +kernel
theorem dX7_booking_81 : decode cX7_booking 81 = .ok (.invokevirtual 29, 3) := by decide +kernel
theorem dX7_booking_84 : decode cX7_booking 84 = .ok (.ireturn, 1) := by decide +kernel
theorem dX7_booking_85 : decode cX7_booking 85 = .ok (.aload_n 0, 1) := by decide +kernel
theorem dX7_booking_86 : decode cX7_booking 86 = .ok (.iload_n 1, 1) := by decide +kernel
theorem dX7_booking_87 : decode cX7_booking 87 = .ok (.iconst 3, 1) := by decide +kernel
theorem dX7_booking_88 : decode cX7_booking 88 = .ok (.invokevirtual 29, 3) := by decide +kernel
theorem dX7_booking_91 : decode cX7_booking 91 = .ok (.ireturn, 1) := by decide +kernel
theorem dX7_booking_92 : decode cX7_booking 92 = .ok (.aload_n 0, 1) := by decide +kernel
theorem dX7_booking_93 : decode cX7_booking 93 = .ok (.iload_n 1, 1) := by decide +kernel
theorem dX7_booking_94 : decode cX7_booking 94 = .ok (.invokevirtual 45, 3) := by decide +kernel
theorem dX7_booking_97 : decode cX7_booking 97 = .ok (.ireturn, 1) := by decide +kernel
theorem dX7_booking_98 : decode cX7_booking 98 = .ok (.aload_n 0, 1) := by decide +kernel
theorem dX7_booking_99 : decode cX7_booking 99 = .ok (.iload_n 1, 1) := by decide +kernel
theorem dX7_booking_100 : decode cX7_booking 100 = .ok (.iconst 4, 1) := by decide +kernel
theorem dX7_booking_101 : decode cX7_booking 101 = .ok (.invokevirtual 29, 3) := by decide +kernel
theorem dX7_booking_104 : decode cX7_booking 104 = .ok (.ireturn, 1) := by decide +kernel
theorem dX7_booking_105 : decode cX7_booking 105 = .ok (.aload_n 0, 1) := by decide +kernel
theorem dX7_booking_106 : decode cX7_booking 106 = .ok (.iload_n 1, 1) := by decide +kernel
theorem dX7_booking_107 : decode cX7_booking 107 = .ok (.iconst 1, 1) := by decide +kernel
theorem dX7_booking_108 : decode cX7_booking 108 = .ok (.invokevirtual 41, 3) := by decide +kernel
theorem dX7_booking_111 : decode cX7_booking 111 = .ok (.ifCond .eq 34, 3) := by decide +kernel
theorem dX7_booking_114 : decode cX7_booking 114 = .ok (.aload_n 0, 1) := by decide +kernel
theorem dX7_booking_115 : decode cX7_booking 115 = .ok (.iload_n 1, 1) := by decide +kernel
theorem dX7_booking_116 : decode cX7_booking 116 = .ok (.invokevirtual 45, 3) := by decide +kernel
theorem dX7_booking_119 : decode cX7_booking 119 = .ok (.aload_n 0, 1) := by decide +kernel
theorem dX7_booking_120 : decode cX7_booking 120 = .ok (.getfield 7, 3) := by decide +kernel
theorem dX7_booking_123 : decode cX7_booking 123 = .ok (.iconst 0, 1) := by decide +kernel
theorem dX7_booking_124 : decode cX7_booking 124 = .ok (.iaload, 1) := by decide +kernel
theorem dX7_booking_125 : decode cX7_booking 125 = .ok (.if_icmp .gt 20, 3) := by decide +kernel
theorem dX7_booking_128 : decode cX7_booking 128 = .ok (.aload_n 0, 1) := by decide +kernel
theorem dX7_booking_129 : decode cX7_booking 129 = .ok (.aload_n 0, 1) := by decide +kernel
theorem dX7_booking_130 : decode cX7_booking 130 = .ok (.getfield 7, 3) := by decide +kernel
theorem dX7_booking_133 : decode cX7_booking 133 = .ok (.iconst 0, 1) := by decide +kernel
theorem dX7_booking_134 : decode cX7_booking 134 = .ok (.iaload, 1) := by decide +kernel
theorem dX7_booking_135 : decode cX7_booking 135 = .ok (.invokevirtual 73, 3) := by decide +kernel
theorem dX7_booking_138 : decode cX7_booking 138 = .ok (.ifCond .ne 7, 3) := by decide +kernel
theorem dX7_booking_141 : decode cX7_booking 141 = .ok (.iconst 1, 1) := by decide +kernel
theorem dX7_booking_142 : decode cX7_booking 142 = .ok (.goto 4, 3) := by decide +kernel
theorem dX7_booking_145 : decode cX7_booking 145 = .ok (.iconst 0, 1) := by decide +kernel
theorem dX7_booking_146 : decode cX7_booking 146 = .ok (.ireturn, 1) := by decide +kernel
theorem dX7_booking_147 : decode cX7_booking 147 = .ok (.aload_n 0, 1) := by decide +kernel
theorem dX7_booking_148 : decode cX7_booking 148 = .ok (.iload_n 1, 1) := by decide +kernel
theorem dX7_booking_149 : decode cX7_booking 149 = .ok (.iconst 5, 1) := by decide +kernel
theorem dX7_booking_150 : decode cX7_booking 150 = .ok (.invokevirtual 29, 3) := by decide +kernel
theorem dX7_booking_153 : decode cX7_booking 153 = .ok (.ireturn, 1) := by decide +kernel
theorem dX7_booking_154 : decode cX7_booking 154 = .ok (.aload_n 0, 1) := by decide +kernel
theorem dX7_booking_155 : decode cX7_booking 155 = .ok (.iload_n 1, 1) := by decide +kernel
theorem dX7_booking_156 : decode cX7_booking 156 = .ok (.bipush 6, 2) := by decide +kernel
theorem dX7_booking_158 : decode cX7_booking 158 = .ok (.invokevirtual 29, 3) := by decide +kernel
theorem dX7_booking_161 : decode cX7_booking 161 = .ok (.ireturn, 1) := by decide +kernel
theorem dX7_booking_162 : decode cX7_booking 162 = .ok (.ldc 95, 2) := by decide +kernel
theorem dX7_booking_164 : decode cX7_booking 164 = .ok (.ireturn, 1) := by decide +kernel
theorem dX7_day_0 : decode cX7_day 0 = .ok (.iload_n 1, 1) := by decide +kernel
theorem dX7_day_1 : decode cX7_day 1 = .ok (.iconst 0, 1) := by decide +kernel
theorem dX7_day_2 : decode cX7_day 2 = .ok (.sipush 999, 3) := by decide +kernel
theorem dX7_day_5 : decode cX7_day 5 = .ok (.invokestatic 33, 3) := by decide +kernel
theorem dX7_day_8 : decode cX7_day 8 = .ok (.ifCond .eq 12, 3) := by decide +kernel
theorem dX7_day_11 : decode cX7_day 11 = .ok (.iload_n 2, 1) := by decide +kernel
theorem dX7_day_12 : decode cX7_day 12 = .ok (.iconst 0, 1) := by decide +kernel
theorem dX7_day_13 : decode cX7_day 13 = .ok (.iconst 4, 1) := by decide +kernel
theorem dX7_day_14 : decode cX7_day 14 = .ok (.invokestatic 33, 3) := by decide +kernel
theorem dX7_day_17 : decode cX7_day 17 = .ok (.ifCond .ne 6, 3) := by decide +kernel
theorem dX7_day_20 : decode cX7_day 20 = .ok (.ldc 95, 2) := by decide +kernel
theorem dX7_day_22 : decode cX7_day 22 = .ok (.ireturn, 1) := by decide +kernel
theorem dX7_day_23 : decode cX7_day 23 = .ok (.iload_n 2, 1) := by decide +kernel
theorem dX7_day_24 : decode cX7_day 24 = .ok (.iconst 2, 1) := by decide +kernel
theorem dX7_day_25 : decode cX7_day 25 = .ok (.if_icmp .ge 29, 3) := by decide +kernel
theorem dX7_day_28 : decode cX7_day 28 = .ok (.iload_n 2, 1) := by decide +kernel
theorem dX7_day_29 : decode cX7_day 29 = .ok (.ifCond .ne 11, 3) := by decide +kernel
theorem dX7_day_32 : decode cX7_day 32 = .ok (.aload_n 0, 1) := by decide +kernel
theorem dX7_day_33 : decode cX7_day 33 = .ok (.iload_n 1, 1) := by decide +kernel
theorem dX7_day_34 : decode cX7_day 34 = .ok (.invokevirtual 48, 3) := by decide +kernel
theorem dX7_day_37 : decode cX7_day 37 = .ok (.goto 16, 3) := by decide +kernel
theorem dX7_day_40 : decode cX7_day 40 = .ok (.aload_n 0, 1) := by decide +kernel
theorem dX7_day_41 : decode cX7_day 41 = .ok (.getfield 7, 3) := by decide +kernel
theorem dX7_day_44 : decode cX7_day 44 = .ok (.bipush 17, 2) := by decide +kernel
theorem dX7_day_46 : decode cX7_day 46 = .ok (.iaload, 1) := by decide +kernel
theorem dX7_day_47 : decode cX7_day 47 = .ok (.aload_n 0, 1) := by decide +kernel
theorem dX7_day_48 : decode cX7_day 48 = .ok (.iload_n 1, 1) := by decide +kernel
theorem dX7_day_49 : decode cX7_day 49 = .ok (.invokevirtual 48, 3) := by decide +kernel
theorem dX7_day_52 : decode cX7_day 52 = .ok (.isub, 1) := by decide +kernel
theorem dX7_day_53 : decode cX7_day 53 = .ok (.ireturn, 1) := by decide +kernel
theorem dX7_day_54 : decode cX7_day 54 = .ok (.iload_n 2, 1) := by decide +kernel
theorem dX7_day_55 : decode cX7_day 55 = .ok (.iconst 2, 1) := by decide +kernel
theorem dX7_day_56 : decode cX7_day 56 = .ok (.if_icmp .ne 9, 3) := by decide +kernel
theorem dX7_day_59 : decode cX7_day 59 = .ok (.aload_n 0, 1) := by decide +kernel
theorem dX7_day_60 : decode cX7_day 60 = .ok (.iload_n 1, 1) := by decide +kernel
theorem dX7_day_61 : decode cX7_day 61 = .ok (.invokevirtual 37, 3) := by decide +kernel
theorem dX7_day_64 : decode cX7_day 64 = .ok (.ireturn, 1) := by decide +kernel
theorem dX7_day_65 : decode cX7_day 65 = .ok (.iconst 0, 1) := by decide +kernel
theorem dX7_day_66 : decode cX7_day 66 = .ok (.istore_n 3, 1) := by decide +kernel
theorem dX7_day_67 : decode cX7_day 67 = .ok (.iconst 0, 1) := by decide +kernel
theorem dX7_day_68 : decode cX7_day 68 = .ok (.istore 4, 2) := by decide +kernel
theorem dX7_day_70 : decode cX7_day 70 = .ok (.iload 4, 2) := by decide +kernel
theorem dX7_day_72 : decode cX7_day 72 = .ok (.aload_n 0, 1) := by decide +kernel
theorem dX7_day_73 : decode cX7_day 73 = .ok (.getfield 7, 3) := by decide +kernel
theorem dX7_day_76 : decode cX7_day 76 = .ok (.iconst 1, 1) := by decide +kernel
theorem dX7_day_77 : decode cX7_day 77 = .ok (.iaload, 1) := by decide +kernel
theorem dX7_day_78 : decode cX7_day 78 = .ok (.if_icmp .ge 84, 3) := by decide +kernel
theorem dX7_day_81 : decode cX7_day 81 = .ok (.iload_n 2, 1) := by decide +kernel
theorem dX7_day_82 : decode cX7_day 82 = .ok (.iconst 3, 1) := by decide +kernel
theorem dX7_day_83 : decode cX7_day 83 = .ok (.if_icmp .ne 32, 3) := by decide +kernel
theorem dX7_day_86 : decode cX7_day 86 = .ok (.aload_n 0, 1) := by decide +kernel
theorem dX7_day_87 : decode cX7_day 87 = .ok (.iload 4, 2) := by decide +kernel
theorem dX7_day_89 : decode cX7_day 89 = .ok (.iconst 0, 1) := by decide +kernel
theorem dX7_day_90 : decode cX7_day 90 = .ok (.invokevirtual 41, 3) := by decide +kernel
theorem dX7_day_93 : decode cX7_day 93 = .ok (.ifCond .eq 18, 3) := by decide +kernel
theorem dX7_day_96 : decode cX7_day 96 = .ok (.aload_n 0, 1) := by decide +kernel
theorem dX7_day_97 : decode cX7_day 97 = .ok (.iload 4, 2) := by decide +kernel
theorem dX7_day_99 : decode cX7_day 99 = .ok (.iconst 1, 1) := by decide +kernel
theorem dX7_day_100 : decode cX7_day 100 = .ok (.invokevirtual 29, 3) := by decide +kernel
theorem dX7_day_103 : decode cX7_day 103 = .ok (.iload_n 1, 1) := by decide +kernel
theorem dX7_day_104 : decode cX7_day 104 = .ok (.if_icmp .ne 7, 3) := by decide +kernel
theorem dX7_day_107 : decode cX7_day 107 = .ok (.iconst 1, 1) := by decide +kernel
theorem dX7_day_108 : decode cX7_day 108 = .ok (.goto 33, 3) := by decide +kernel
theorem dX7_day_111 : decode cX7_day 111 = .ok (.iconst 0, 1) := by decide +kernel
theorem dX7_day_112 : decode cX7_day 112 = .ok (.goto 29, 3) := by decide +kernel
theorem dX7_day_115 : decode cX7_day 115 = .ok (.aload_n 0, 1) := by decide +kernel
theorem dX7_day_116 : decode cX7_day 116 = .ok (.iload 4, 2) := by decide +kernel
theorem dX7_day_118 : decode cX7_day 118 = .ok (.iconst 0, 1) := by decide +kernel
theorem dX7_day_119 : decode cX7_day 119 = .ok (.invokevirtual 29, 3) := by decide +kernel
theorem dX7_day_122 : decode cX7_day 122 = .ok (.iconst 1, 1) := by decide +kernel
theorem dX7_day_123 : decode cX7_day 123 = .ok (.if_icmp .gt 17, 3) := by decide +kernel
theorem dX7_day_126 : decode cX7_day 126 = .ok (.aload_n 0, 1) := by decide +kernel
theorem dX7_day_127 : decode cX7_day 127 = .ok (.iload 4, 2) := by decide +kernel
theorem dX7_day_129 : decode cX7_day 129 = .ok (.invokevirtual 45, 3) := by decide +kernel
theorem dX7_day_132 : decode cX7_day 132 = .ok (.iload_n 1, 1) := by decide +kernel
theorem dX7_day_133 : decode cX7_day 133 = .ok (.if_icmp .ne 7, 3) := by decide +kernel
theorem dX7_day_136 : decode cX7_day 136 = .ok (.iconst 1, 1) := by decide +kernel
theorem dX7_day_137 : decode cX7_day 137 = .ok (.goto 4, 3) := by decide +kernel
theorem dX7_day_140 : decode cX7_day 140 = .ok (.iconst 0, 1) := by decide +kernel
theorem dX7_day_141 : decode cX7_day 141 = .ok (.istore 5, 2) := by decide +kernel
theorem dX7_day_143 : decode cX7_day 143 = .ok (.iload_n 3, 1) := by decide +kernel
theorem dX7_day_144 : decode cX7_day 144 = .ok (.iload 5, 2) := by decide +kernel
theorem dX7_day_146 : decode cX7_day 146 = .ok (.ifCond .eq 7, 3) := by decide +kernel
theorem dX7_day_149 : decode cX7_day 149 = .ok (.iconst 1, 1) := by decide +kernel
theorem dX7_day_150 : decode cX7_day 150 = .ok (.goto 4, 3) := by decide +kernel
theorem dX7_day_153 : decode cX7_day 153 = .ok (.iconst 0, 1) := by decide +kernel
theorem dX7_day_154 : decode cX7_day 154 = .ok (.iadd, 1) := by decide +kernel
theorem dX7_day_155 : decode cX7_day 155 = .ok (.istore_n 3, 1) := by decide +kernel
theorem dX7_day_156 : decode cX7_day 156 = .ok (.iinc 4 1, 3) := by decide +kernel
theorem dX7_day_159 : decode cX7_day 159 = .ok (.goto (-89), 3) := by decide +kernel
theorem dX7_day_162 : decode cX7_day 162 = .ok (.iload_n 3, 1) := by decide +kernel
theorem dX7_day_163 : decode cX7_day 163 = .ok (.ireturn, 1) := by decide +kernel
theorem dX7_fresh_0 : decode cX7_fresh 0 = .ok (.iload_n 1, 1) := by decide +kernel
theorem dX7_fresh_1 : decode cX7_fresh 1 = .ok (.ifCond .lt 12, 3) := by decide +kernel
theorem dX7_fresh_4 : decode cX7_fresh 4 = .ok (.iload_n 2, 1) := by decide +kernel
theorem dX7_fresh_5 : decode cX7_fresh 5 = .ok (.iconst 0, 1) := by decide +kernel
theorem dX7_fresh_6 : decode cX7_fresh 6 = .ok (.iconst 1, 1) := by decide +kernel
theorem dX7_fresh_7 : decode cX7_fresh 7 = .ok (.invokestatic 33, 3) := by decide +kernel
theorem dX7_fresh_10 : decode cX7_fresh 10 = .ok (.ifCond .ne 6, 3) := by decide +kernel
theorem dX7_fresh_13 : decode cX7_fresh 13 = .ok (.ldc 95, 2) := by decide +kernel
theorem dX7_fresh_15 : decode cX7_fresh 15 = .ok (.ireturn, 1) := by decide +kernel
theorem dX7_fresh_16 : decode cX7_fresh 16 = .ok (.iload_n 1, 1) := by decide +kernel
theorem dX7_fresh_17 : decode cX7_fresh 17 = .ok (.istore_n 3, 1) := by decide +kernel
theorem dX7_fresh_18 : decode cX7_fresh 18 = .ok (.iconst 0, 1) := by decide +kernel
theorem dX7_fresh_19 : decode cX7_fresh 19 = .ok (.istore 4, 2) := by decide +kernel
theorem dX7_fresh_21 : decode cX7_fresh 21 = .ok (.iload 4, 2) := by decide +kernel
theorem dX7_fresh_23 : decode cX7_fresh 23 = .ok (.sipush 1064, 3) := by decide +kernel
theorem dX7_fresh_26 : decode cX7_fresh 26 = .ok (.if_icmp .ge 51, 3) := by decide +kernel
theorem dX7_fresh_29 : decode cX7_fresh 29 = .ok (.aload_n 0, 1) := by decide +kernel
theorem dX7_fresh_30 : decode cX7_fresh 30 = .ok (.getfield 7, 3) := by decide +kernel
theorem dX7_fresh_33 : decode cX7_fresh 33 = .ok (.sipush 1675, 3) := by decide +kernel
theorem dX7_fresh_36 : decode cX7_fresh 36 = .ok (.iload 4, 2) := by decide +kernel
theorem dX7_fresh_38 : decode cX7_fresh 38 = .ok (.iadd, 1) := by decide +kernel
theorem dX7_fresh_39 : decode cX7_fresh 39 = .ok (.iaload, 1) := by decide +kernel
theorem dX7_fresh_40 : decode cX7_fresh 40 = .ok (.ifCond .le 31, 3) := by decide +kernel
theorem dX7_fresh_43 : decode cX7_fresh 43 = .ok (.iload_n 3, 1) := by decide +kernel
theorem dX7_fresh_44 : decode cX7_fresh 44 = .ok (.ifCond .ne 24, 3) := by decide +kernel
theorem dX7_fresh_47 : decode cX7_fresh 47 = .ok (.iload_n 2, 1) := by decide +kernel
theorem dX7_fresh_48 : decode cX7_fresh 48 = .ok (.ifCond .ne 8, 3) := by decide +kernel
theorem dX7_fresh_51 : decode cX7_fresh 51 = .ok (.iload 4, 2) := by decide +kernel
theorem dX7_fresh_53 : decode cX7_fresh 53 = .ok (.goto 14, 3) := by decide +kernel
theorem dX7_fresh_56 : decode cX7_fresh 56 = .ok (.aload_n 0, 1) := by decide +kernel
theorem dX7_fresh_57 : decode cX7_fresh 57 = .ok (.getfield 7, 3) := by decide +kernel
theorem dX7_fresh_60 : decode cX7_fresh 60 = .ok (.sipush 1675, 3) := by decide +kernel
theorem dX7_fresh_63 : decode cX7_fresh 63 = .ok (.iload 4, 2) := by decide +kernel
theorem dX7_fresh_65 : decode cX7_fresh 65 = .ok (.iadd, 1) := by decide +kernel
theorem dX7_fresh_66 : decode cX7_fresh 66 = .ok (.iaload, 1) := by decide +kernel
theorem dX7_fresh_67 : decode cX7_fresh 67 = .ok (.ireturn, 1) := by decide +kernel
theorem dX7_fresh_68 : decode cX7_fresh 68 = .ok (.iinc 3 (-1), 3) := by decide +kernel
theorem dX7_fresh_71 : decode cX7_fresh 71 = .ok (.iinc 4 1, 3) := by decide +kernel
theorem dX7_fresh_74 : decode cX7_fresh 74 = .ok (.goto (-53), 3) := by decide +kernel
theorem dX7_fresh_77 : decode cX7_fresh 77 = .ok (.ldc 101, 2) := by decide +kernel
theorem dX7_fresh_79 : decode cX7_fresh 79 = .ok (.ireturn, 1) := by decide +kernel
theorem dX7_waiting_0 : decode cX7_waiting 0 = .ok (.iload_n 1, 1) := by decide +kernel
theorem dX7_waiting_1 : decode cX7_waiting 1 = .ok (.ifCond .lt 12, 3) := by decide +kernel
theorem dX7_waiting_4 : decode cX7_waiting 4 = .ok (.iload_n 2, 1) := by decide +kernel
theorem dX7_waiting_5 : decode cX7_waiting 5 = .ok (.iconst 0, 1) := by decide +kernel
theorem dX7_waiting_6 : decode cX7_waiting 6 = .ok (.iconst 1, 1) := by decide +kernel
theorem dX7_waiting_7 : decode cX7_waiting 7 = .ok (.invokestatic 33, 3) := by decide +kernel
theorem dX7_waiting_10 : decode cX7_waiting 10 = .ok (.ifCond .ne 6, 3) := by decide +kernel
theorem dX7_waiting_13 : decode cX7_waiting 13 = .ok (.ldc 95, 2) := by decide +kernel
theorem dX7_waiting_15 : decode cX7_waiting 15 = .ok (.ireturn, 1) := by decide +kernel
theorem dX7_waiting_16 : decode cX7_waiting 16 = .ok (.iload_n 1, 1) := by decide +kernel
theorem dX7_waiting_17 : decode cX7_waiting 17 = .ok (.aload_n 0, 1) := by decide +kernel
theorem dX7_waiting_18 : decode cX7_waiting 18 = .ok (.getfield 7, 3) := by decide +kernel
theorem dX7_waiting_21 : decode cX7_waiting 21 = .ok (.iconst 3, 1) := by decide +kernel
theorem dX7_waiting_22 : decode cX7_waiting 22 = .ok (.iaload, 1) := by decide +kernel
theorem dX7_waiting_23 : decode cX7_waiting 23 = .ok (.if_icmp .ge 24, 3) := by decide +kernel
theorem dX7_waiting_26 : decode cX7_waiting 26 = .ok (.aload_n 0, 1) := by decide +kernel
theorem dX7_waiting_27 : decode cX7_waiting 27 = .ok (.getfield 7, 3) := by decide +kernel
theorem dX7_waiting_30 : decode cX7_waiting 30 = .ok (.iload_n 2, 1) := by decide +kernel
theorem dX7_waiting_31 : decode cX7_waiting 31 = .ok (.ifCond .ne 8, 3) := by decide +kernel
theorem dX7_waiting_34 : decode cX7_waiting 34 = .ok (.bipush 27, 2) := by decide +kernel
theorem dX7_waiting_36 : decode cX7_waiting 36 = .ok (.goto 5, 3) := by decide +kernel
theorem dX7_waiting_39 : decode cX7_waiting 39 = .ok (.bipush 39, 2) := by decide +kernel
theorem dX7_waiting_41 : decode cX7_waiting 41 = .ok (.iload_n 1, 1) := by decide +kernel
theorem dX7_waiting_42 : decode cX7_waiting 42 = .ok (.iadd, 1) := by decide +kernel
theorem dX7_waiting_43 : decode cX7_waiting 43 = .ok (.iaload, 1) := by decide +kernel
theorem dX7_waiting_44 : decode cX7_waiting 44 = .ok (.goto 5, 3) := by decide +kernel
theorem dX7_waiting_47 : decode cX7_waiting 47 = .ok (.ldc 101, 2) := by decide +kernel
theorem dX7_waiting_49 : decode cX7_waiting 49 = .ok (.ireturn, 1) := by decide +kernel
theorem dX7_freshPortions_0 : decode cX7_freshPortions 0 = .ok (.iconst 0, 1) := by decide +kernel
theorem dX7_freshPortions_1 : decode cX7_freshPortions 1 = .ok (.istore_n 1, 1) := by decide +kernel
theorem dX7_freshPortions_2 : decode cX7_freshPortions 2 = .ok (.iconst 0, 1) := by decide +kernel
theorem dX7_freshPortions_3 : decode cX7_freshPortions 3 = .ok (.istore_n 2, 1) := by decide +kernel
theorem dX7_freshPortions_4 : decode cX7_freshPortions 4 = .ok (.iload_n 2, 1) := by decide +kernel
theorem dX7_freshPortions_5 : decode cX7_freshPortions 5 = .ok (.sipush 1064, 3) := by decide +kernel
theorem dX7_freshPortions_8 : decode cX7_freshPortions 8 = .ok (.if_icmp .ge 22, 3) := by decide +kernel
theorem dX7_freshPortions_11 : decode cX7_freshPortions 11 = .ok (.iload_n 1, 1) := by decide +kernel
theorem dX7_freshPortions_12 : decode cX7_freshPortions 12 = .ok (.aload_n 0, 1) := by decide +kernel
theorem dX7_freshPortions_13 : decode cX7_freshPortions 13 = .ok (.getfield 7, 3) := by decide +kernel
theorem dX7_freshPortions_16 : decode cX7_freshPortions 16 = .ok (.sipush 1675, 3) := by decide +kernel
theorem dX7_freshPortions_19 : decode cX7_freshPortions 19 = .ok (.iload_n 2, 1) := by decide +kernel
theorem dX7_freshPortions_20 : decode cX7_freshPortions 20 = .ok (.iadd, 1) := by decide +kernel
theorem dX7_freshPortions_21 : decode cX7_freshPortions 21 = .ok (.iaload, 1) := by decide +kernel
theorem dX7_freshPortions_22 : decode cX7_freshPortions 22 = .ok (.iadd, 1) := by decide +kernel
theorem dX7_freshPortions_23 : decode cX7_freshPortions 23 = .ok (.istore_n 1, 1) := by decide +kernel
theorem dX7_freshPortions_24 : decode cX7_freshPortions 24 = .ok (.iinc 2 1, 3) := by decide +kernel
theorem dX7_freshPortions_27 : decode cX7_freshPortions 27 = .ok (.goto (-23), 3) := by decide +kernel
theorem dX7_freshPortions_30 : decode cX7_freshPortions 30 = .ok (.iload_n 1, 1) := by decide +kernel
theorem dX7_freshPortions_31 : decode cX7_freshPortions 31 = .ok (.ireturn, 1) := by decide +kernel
theorem dX7_waitingPortions_0 : decode cX7_waitingPortions 0 = .ok (.iconst 0, 1) := by decide +kernel
theorem dX7_waitingPortions_1 : decode cX7_waitingPortions 1 = .ok (.istore_n 1, 1) := by decide +kernel
theorem dX7_waitingPortions_2 : decode cX7_waitingPortions 2 = .ok (.iconst 0, 1) := by decide +kernel
theorem dX7_waitingPortions_3 : decode cX7_waitingPortions 3 = .ok (.istore_n 2, 1) := by decide +kernel
theorem dX7_waitingPortions_4 : decode cX7_waitingPortions 4 = .ok (.iload_n 2, 1) := by decide +kernel
theorem dX7_waitingPortions_5 : decode cX7_waitingPortions 5 = .ok (.aload_n 0, 1) := by decide +kernel
theorem dX7_waitingPortions_6 : decode cX7_waitingPortions 6 = .ok (.getfield 7, 3) := by decide +kernel
theorem dX7_waitingPortions_9 : decode cX7_waitingPortions 9 = .ok (.iconst 3, 1) := by decide +kernel
theorem dX7_waitingPortions_10 : decode cX7_waitingPortions 10 = .ok (.iaload, 1) := by decide +kernel
theorem dX7_waitingPortions_11 : decode cX7_waitingPortions 11 = .ok (.if_icmp .ge 21, 3) := by decide +kernel
theorem dX7_waitingPortions_14 : decode cX7_waitingPortions 14 = .ok (.iload_n 1, 1) := by decide +kernel
theorem dX7_waitingPortions_15 : decode cX7_waitingPortions 15 = .ok (.aload_n 0, 1) := by decide +kernel
theorem dX7_waitingPortions_16 : decode cX7_waitingPortions 16 = .ok (.getfield 7, 3) := by decide +kernel
theorem dX7_waitingPortions_19 : decode cX7_waitingPortions 19 = .ok (.bipush 39, 2) := by decide +kernel
theorem dX7_waitingPortions_21 : decode cX7_waitingPortions 21 = .ok (.iload_n 2, 1) := by decide +kernel
theorem dX7_waitingPortions_22 : decode cX7_waitingPortions 22 = .ok (.iadd, 1) := by decide +kernel
theorem dX7_waitingPortions_23 : decode cX7_waitingPortions 23 = .ok (.iaload, 1) := by decide +kernel
theorem dX7_waitingPortions_24 : decode cX7_waitingPortions 24 = .ok (.iadd, 1) := by decide +kernel
theorem dX7_waitingPortions_25 : decode cX7_waitingPortions 25 = .ok (.istore_n 1, 1) := by decide +kernel
theorem dX7_waitingPortions_26 : decode cX7_waitingPortions 26 = .ok (.iinc 2 1, 3) := by decide +kernel
theorem dX7_waitingPortions_29 : decode cX7_waitingPortions 29 = .ok (.goto (-25), 3) := by decide +kernel
theorem dX7_waitingPortions_32 : decode cX7_waitingPortions 32 = .ok (.iload_n 1, 1) := by decide +kernel
theorem dX7_waitingPortions_33 : decode cX7_waitingPortions 33 = .ok (.ireturn, 1) := by decide +kernel
theorem dX7_count_0 : decode cX7_count 0 = .ok (.iload_n 1, 1) := by decide +kernel
theorem dX7_count_1 : decode cX7_count 1 = .ok (.iconst 2, 1) := by decide +kernel
theorem dX7_count_2 : decode cX7_count 2 = .ok (.bipush 6, 2) := by decide +kernel
theorem dX7_count_4 : decode cX7_count 4 = .ok (.invokestatic 33, 3) := by decide +kernel
theorem dX7_count_7 : decode cX7_count 7 = .ok (.ifCond .eq 11, 3) := by decide +kernel
theorem dX7_count_10 : decode cX7_count 10 = .ok (.aload_n 0, 1) := by decide +kernel
theorem dX7_count_11 : decode cX7_count 11 = .ok (.iload_n 1, 1) := by decide +kernel
theorem dX7_count_12 : decode cX7_count 12 = .ok (.iconst 2, 1) := by decide +kernel
theorem dX7_count_13 : decode cX7_count 13 = .ok (.isub, 1) := by decide +kernel
theorem dX7_count_14 : decode cX7_count 14 = .ok (.invokevirtual 153, 3) := by decide +kernel
theorem dX7_count_17 : decode cX7_count 17 = .ok (.ireturn, 1) := by decide +kernel
theorem dX7_count_18 : decode cX7_count 18 = .ok (.iload_n 1, 1) := by decide +kernel
theorem dX7_count_19 : decode cX7_count 19 = .ok (.bipush 25, 2) := by decide +kernel
theorem dX7_count_21 : decode cX7_count 21 = .ok (.bipush 34, 2) := by decide +kernel
theorem dX7_count_23 : decode cX7_count 23 = .ok (.invokestatic 33, 3) := by decide +kernel
theorem dX7_count_26 : decode cX7_count 26 = .ok (.ifCond .eq 16, 3) := by decide +kernel
theorem dX7_count_29 : decode cX7_count 29 = .ok (.aload_n 0, 1) := by decide +kernel
theorem dX7_count_30 : decode cX7_count 30 = .ok (.getfield 7, 3) := by decide +kernel
theorem dX7_count_33 : decode cX7_count 33 = .ok (.bipush 17, 2) := by decide +kernel
theorem dX7_count_35 : decode cX7_count 35 = .ok (.iload_n 1, 1) := by decide +kernel
theorem dX7_count_36 : decode cX7_count 36 = .ok (.iadd, 1) := by decide +kernel
theorem dX7_count_37 : decode cX7_count 37 = .ok (.bipush 25, 2) := by decide +kernel
theorem dX7_count_39 : decode cX7_count 39 = .ok (.isub, 1) := by decide +kernel
theorem dX7_count_40 : decode cX7_count 40 = .ok (.iaload, 1) := by decide +kernel
theorem dX7_count_41 : decode cX7_count 41 = .ok (.ireturn, 1) := by decide +kernel
theorem dX7_count_42 : decode cX7_count 42 = .ok (.aload_n 0, 1) := by decide +kernel
theorem dX7_count_43 : decode cX7_count 43 = .ok (.invokevirtual 55, 3) := by decide +kernel
theorem dX7_count_46 : decode cX7_count 46 = .ok (.istore_n 2, 1) := by decide +kernel
theorem dX7_count_47 : decode cX7_count 47 = .ok (.iload_n 1, 1) := by decide +kernel
theorem dX7_count_48 : decode cX7_count 48 = .ok (.tableswitch 269 0 24 #[116, 123, 269, 269, 269, 269, 269, 130, 132, 157, 162, 169, 176, 181, 188, 195, 203, 211, 219, 227, 235, 243, 251, 259, 264], 116) := by decide +kernel
theorem dX7_count_164 : decode cX7_count 164 = .ok (.aload_n 0, 1) := by decide +kernel
theorem dX7_count_165 : decode cX7_count 165 = .ok (.getfield 7, 3) := by decide +kernel
theorem dX7_count_168 : decode cX7_count 168 = .ok (.iconst 0, 1) := by decide +kernel
theorem dX7_count_169 : decode cX7_count 169 = .ok (.iaload, 1) := by decide +kernel
theorem dX7_count_170 : decode cX7_count 170 = .ok (.ireturn, 1) := by decide +kernel
theorem dX7_count_171 : decode cX7_count 171 = .ok (.aload_n 0, 1) := by decide +kernel
theorem dX7_count_172 : decode cX7_count 172 = .ok (.getfield 7, 3) := by decide +kernel
theorem dX7_count_175 : decode cX7_count 175 = .ok (.iconst 1, 1) := by decide +kernel
theorem dX7_count_176 : decode cX7_count 176 = .ok (.iaload, 1) := by decide +kernel
theorem dX7_count_177 : decode cX7_count 177 = .ok (.ireturn, 1) := by decide +kernel
theorem dX7_count_178 : decode cX7_count 178 = .ok (.iload_n 2, 1) := by decide +kernel
theorem dX7_count_179 : decode cX7_count 179 = .ok (.ireturn, 1) := by decide +kernel
theorem dX7_count_180 : decode cX7_count 180 = .ok (.iload_n 2, 1) := by decide +kernel
theorem dX7_count_181 : decode cX7_count 181 = .ok (.aload_n 0, 1) := by decide +kernel
theorem dX7_count_182 : decode cX7_count 182 = .ok (.getfield 7, 3) := by decide +kernel
theorem dX7_count_185 : decode cX7_count 185 = .ok (.bipush 17, 2) := by decide +kernel
theorem dX7_count_187 : decode cX7_count 187 = .ok (.iaload, 1) := by decide +kernel
theorem dX7_count_188 : decode cX7_count 188 = .ok (.if_icmp .le 15, 3) := by decide +kernel
theorem dX7_count_191 : decode cX7_count 191 = .ok (.iload_n 2, 1) := by decide +kernel
theorem dX7_count_192 : decode cX7_count 192 = .ok (.aload_n 0, 1) := by decide +kernel
theorem dX7_count_193 : decode cX7_count 193 = .ok (.getfield 7, 3) := by decide +kernel
theorem dX7_count_196 : decode cX7_count 196 = .ok (.bipush 17, 2) := by decide +kernel
theorem dX7_count_198 : decode cX7_count 198 = .ok (.iaload, 1) := by decide +kernel
theorem dX7_count_199 : decode cX7_count 199 = .ok (.isub, 1) := by decide +kernel
theorem dX7_count_200 : decode cX7_count 200 = .ok (.goto 4, 3) := by decide +kernel
theorem dX7_count_203 : decode cX7_count 203 = .ok (.iconst 0, 1) := by decide +kernel
theorem dX7_count_204 : decode cX7_count 204 = .ok (.ireturn, 1) := by decide +kernel
theorem dX7_count_205 : decode cX7_count 205 = .ok (.aload_n 0, 1) := by decide +kernel
theorem dX7_count_206 : decode cX7_count 206 = .ok (.invokevirtual 156, 3) := by decide +kernel
theorem dX7_count_209 : decode cX7_count 209 = .ok (.ireturn, 1) := by decide +kernel
theorem dX7_count_210 : decode cX7_count 210 = .ok (.aload_n 0, 1) := by decide +kernel
theorem dX7_count_211 : decode cX7_count 211 = .ok (.getfield 7, 3) := by decide +kernel
theorem dX7_count_214 : decode cX7_count 214 = .ok (.iconst 2, 1) := by decide +kernel
theorem dX7_count_215 : decode cX7_count 215 = .ok (.iaload, 1) := by decide +kernel
theorem dX7_count_216 : decode cX7_count 216 = .ok (.ireturn, 1) := by decide +kernel
theorem dX7_count_217 : decode cX7_count 217 = .ok (.aload_n 0, 1) := by decide +kernel
theorem dX7_count_218 : decode cX7_count 218 = .ok (.getfield 7, 3) := by decide +kernel
theorem dX7_count_221 : decode cX7_count 221 = .ok (.iconst 3, 1) := by decide +kernel
theorem dX7_count_222 : decode cX7_count 222 = .ok (.iaload, 1) := by decide +kernel
theorem dX7_count_223 : decode cX7_count 223 = .ok (.ireturn, 1) := by decide +kernel
theorem dX7_count_224 : decode cX7_count 224 = .ok (.aload_n 0, 1) := by decide +kernel
theorem dX7_count_225 : decode cX7_count 225 = .ok (.invokevirtual 159, 3) := by decide +kernel
theorem dX7_count_228 : decode cX7_count 228 = .ok (.ireturn, 1) := by decide +kernel
theorem dX7_count_229 : decode cX7_count 229 = .ok (.aload_n 0, 1) := by decide +kernel
theorem dX7_count_230 : decode cX7_count 230 = .ok (.getfield 7, 3) := by decide +kernel
theorem dX7_count_233 : decode cX7_count 233 = .ok (.iconst 4, 1) := by decide +kernel
theorem dX7_count_234 : decode cX7_count 234 = .ok (.iaload, 1) := by decide +kernel
theorem dX7_count_235 : decode cX7_count 235 = .ok (.ireturn, 1) := by decide +kernel
theorem dX7_count_236 : decode cX7_count 236 = .ok (.aload_n 0, 1) := by decide +kernel
theorem dX7_count_237 : decode cX7_count 237 = .ok (.getfield 7, 3) := by decide +kernel
theorem dX7_count_240 : decode cX7_count 240 = .ok (.iconst 5, 1) := by decide +kernel
theorem dX7_count_241 : decode cX7_count 241 = .ok (.iaload, 1) := by decide +kernel
theorem dX7_count_242 : decode cX7_count 242 = .ok (.ireturn, 1) := by decide +kernel
theorem dX7_count_243 : decode cX7_count 243 = .ok (.aload_n 0, 1) := by decide +kernel
theorem dX7_count_244 : decode cX7_count 244 = .ok (.getfield 7, 3) := by decide +kernel
theorem dX7_count_247 : decode cX7_count 247 = .ok (.bipush 6, 2) := by decide +kernel
theorem dX7_count_249 : decode cX7_count 249 = .ok (.iaload, 1) := by decide +kernel
theorem dX7_count_250 : decode cX7_count 250 = .ok (.ireturn, 1) := by decide +kernel
theorem dX7_count_251 : decode cX7_count 251 = .ok (.aload_n 0, 1) := by decide +kernel
theorem dX7_count_252 : decode cX7_count 252 = .ok (.getfield 7, 3) := by decide +kernel
theorem dX7_count_255 : decode cX7_count 255 = .ok (.bipush 7, 2) := by decide +kernel
theorem dX7_count_257 : decode cX7_count 257 = .ok (.iaload, 1) := by decide +kernel
theorem dX7_count_258 : decode cX7_count 258 = .ok (.ireturn, 1) := by decide +kernel
theorem dX7_count_259 : decode cX7_count 259 = .ok (.aload_n 0, 1) := by decide +kernel
theorem dX7_count_260 : decode cX7_count 260 = .ok (.getfield 7, 3) := by decide +kernel
theorem dX7_count_263 : decode cX7_count 263 = .ok (.bipush 8, 2) := by decide +kernel
theorem dX7_count_265 : decode cX7_count 265 = .ok (.iaload, 1) := by decide +kernel
theorem dX7_count_266 : decode cX7_count 266 = .ok (.ireturn, 1) := by decide +kernel
theorem dX7_count_267 : decode cX7_count 267 = .ok (.aload_n 0, 1) := by decide +kernel
theorem dX7_count_268 : decode cX7_count 268 = .ok (.getfield 7, 3) := by decide +kernel
theorem dX7_count_271 : decode cX7_count 271 = .ok (.bipush 9, 2) := by decide +kernel
theorem dX7_count_273 : decode cX7_count 273 = .ok (.iaload, 1) := by decide +kernel
theorem dX7_count_274 : decode cX7_count 274 = .ok (.ireturn, 1) := by decide +kernel
theorem dX7_count_275 : decode cX7_count 275 = .ok (.aload_n 0, 1) := by decide +kernel
theorem dX7_count_276 : decode cX7_count 276 = .ok (.getfield 7, 3) := by decide +kernel
theorem dX7_count_279 : decode cX7_count 279 = .ok (.bipush 10, 2) := by decide +kernel
theorem dX7_count_281 : decode cX7_count 281 = .ok (.iaload, 1) := by decide +kernel
theorem dX7_count_282 : decode cX7_count 282 = .ok (.ireturn, 1) := by decide +kernel
theorem dX7_count_283 : decode cX7_count 283 = .ok (.aload_n 0, 1) := by decide +kernel
theorem dX7_count_284 : decode cX7_count 284 = .ok (.getfield 7, 3) := by decide +kernel
theorem dX7_count_287 : decode cX7_count 287 = .ok (.bipush 11, 2) := by decide +kernel
theorem dX7_count_289 : decode cX7_count 289 = .ok (.iaload, 1) := by decide +kernel
theorem dX7_count_290 : decode cX7_count 290 = .ok (.ireturn, 1) := by decide +kernel
theorem dX7_count_291 : decode cX7_count 291 = .ok (.aload_n 0, 1) := by decide +kernel
theorem dX7_count_292 : decode cX7_count 292 = .ok (.getfield 7, 3) := by decide +kernel
theorem dX7_count_295 : decode cX7_count 295 = .ok (.bipush 12, 2) := by decide +kernel
theorem dX7_count_297 : decode cX7_count 297 = .ok (.iaload, 1) := by decide +kernel
theorem dX7_count_298 : decode cX7_count 298 = .ok (.ireturn, 1) := by decide +kernel
theorem dX7_count_299 : decode cX7_count 299 = .ok (.aload_n 0, 1) := by decide +kernel
theorem dX7_count_300 : decode cX7_count 300 = .ok (.getfield 7, 3) := by decide +kernel
theorem dX7_count_303 : decode cX7_count 303 = .ok (.bipush 13, 2) := by decide +kernel
theorem dX7_count_305 : decode cX7_count 305 = .ok (.iaload, 1) := by decide +kernel
theorem dX7_count_306 : decode cX7_count 306 = .ok (.ireturn, 1) := by decide +kernel
theorem dX7_count_307 : decode cX7_count 307 = .ok (.aload_n 0, 1) := by decide +kernel
theorem dX7_count_308 : decode cX7_count 308 = .ok (.getfield 25, 3) := by decide +kernel
theorem dX7_count_311 : decode cX7_count 311 = .ok (.ireturn, 1) := by decide +kernel
theorem dX7_count_312 : decode cX7_count 312 = .ok (.aload_n 0, 1) := by decide +kernel
theorem dX7_count_313 : decode cX7_count 313 = .ok (.getfield 115, 3) := by decide +kernel
theorem dX7_count_316 : decode cX7_count 316 = .ok (.ireturn, 1) := by decide +kernel
theorem dX7_count_317 : decode cX7_count 317 = .ok (.ldc 95, 2) := by decide +kernel
theorem dX7_count_319 : decode cX7_count 319 = .ok (.ireturn, 1) := by decide +kernel
theorem dX7_coins_0 : decode cX7_coins 0 = .ok (.iload_n 1, 1) := by decide +kernel
theorem dX7_coins_1 : decode cX7_coins 1 = .ok (.iconst 0, 1) := by decide +kernel
theorem dX7_coins_2 : decode cX7_coins 2 = .ok (.iconst 3, 1) := by decide +kernel
theorem dX7_coins_3 : decode cX7_coins 3 = .ok (.invokestatic 33, 3) := by decide +kernel
theorem dX7_coins_6 : decode cX7_coins 6 = .ok (.ifCond .ne 6, 3) := by decide +kernel
theorem dX7_coins_9 : decode cX7_coins 9 = .ok (.ldc 95, 2) := by decide +kernel
theorem dX7_coins_11 : decode cX7_coins 11 = .ok (.ireturn, 1) := by decide +kernel
theorem dX7_coins_12 : decode cX7_coins 12 = .ok (.iload_n 1, 1) := by decide +kernel
theorem dX7_coins_13 : decode cX7_coins 13 = .ok (.ifCond .ne 11, 3) := by decide +kernel
theorem dX7_coins_16 : decode cX7_coins 16 = .ok (.aload_n 0, 1) := by decide +kernel
theorem dX7_coins_17 : decode cX7_coins 17 = .ok (.getfield 7, 3) := by decide +kernel
theorem dX7_coins_20 : decode cX7_coins 20 = .ok (.bipush 14, 2) := by decide +kernel
theorem dX7_coins_22 : decode cX7_coins 22 = .ok (.iaload, 1) := by decide +kernel
theorem dX7_coins_23 : decode cX7_coins 23 = .ok (.ireturn, 1) := by decide +kernel
theorem dX7_coins_24 : decode cX7_coins 24 = .ok (.iload_n 1, 1) := by decide +kernel
theorem dX7_coins_25 : decode cX7_coins 25 = .ok (.iconst 2, 1) := by decide +kernel
theorem dX7_coins_26 : decode cX7_coins 26 = .ok (.if_icmp .ne 11, 3) := by decide +kernel
theorem dX7_coins_29 : decode cX7_coins 29 = .ok (.aload_n 0, 1) := by decide +kernel
theorem dX7_coins_30 : decode cX7_coins 30 = .ok (.getfield 7, 3) := by decide +kernel
theorem dX7_coins_33 : decode cX7_coins 33 = .ok (.bipush 15, 2) := by decide +kernel
theorem dX7_coins_35 : decode cX7_coins 35 = .ok (.iaload, 1) := by decide +kernel
theorem dX7_coins_36 : decode cX7_coins 36 = .ok (.ireturn, 1) := by decide +kernel
theorem dX7_coins_37 : decode cX7_coins 37 = .ok (.iload_n 1, 1) := by decide +kernel
theorem dX7_coins_38 : decode cX7_coins 38 = .ok (.iconst 3, 1) := by decide +kernel
theorem dX7_coins_39 : decode cX7_coins 39 = .ok (.if_icmp .ne 11, 3) := by decide +kernel
theorem dX7_coins_42 : decode cX7_coins 42 = .ok (.aload_n 0, 1) := by decide +kernel
theorem dX7_coins_43 : decode cX7_coins 43 = .ok (.getfield 7, 3) := by decide +kernel
theorem dX7_coins_46 : decode cX7_coins 46 = .ok (.bipush 16, 2) := by decide +kernel
theorem dX7_coins_48 : decode cX7_coins 48 = .ok (.iaload, 1) := by decide +kernel
theorem dX7_coins_49 : decode cX7_coins 49 = .ok (.ireturn, 1) := by decide +kernel
theorem dX7_coins_50 : decode cX7_coins 50 = .ok (.iconst 0, 1) := by decide +kernel
theorem dX7_coins_51 : decode cX7_coins 51 = .ok (.istore_n 2, 1) := by decide +kernel
theorem dX7_coins_52 : decode cX7_coins 52 = .ok (.iconst 0, 1) := by decide +kernel
theorem dX7_coins_53 : decode cX7_coins 53 = .ok (.istore_n 3, 1) := by decide +kernel
theorem dX7_coins_54 : decode cX7_coins 54 = .ok (.iload_n 3, 1) := by decide +kernel
theorem dX7_coins_55 : decode cX7_coins 55 = .ok (.aload_n 0, 1) := by decide +kernel
theorem dX7_coins_56 : decode cX7_coins 56 = .ok (.getfield 7, 3) := by decide +kernel
theorem dX7_coins_59 : decode cX7_coins 59 = .ok (.iconst 1, 1) := by decide +kernel
theorem dX7_coins_60 : decode cX7_coins 60 = .ok (.iaload, 1) := by decide +kernel
theorem dX7_coins_61 : decode cX7_coins 61 = .ok (.if_icmp .ge 32, 3) := by decide +kernel
theorem dX7_coins_64 : decode cX7_coins 64 = .ok (.iload_n 2, 1) := by decide +kernel
theorem dX7_coins_65 : decode cX7_coins 65 = .ok (.aload_n 0, 1) := by decide +kernel
theorem dX7_coins_66 : decode cX7_coins 66 = .ok (.iload_n 3, 1) := by decide +kernel
theorem dX7_coins_67 : decode cX7_coins 67 = .ok (.iconst 0, 1) := by decide +kernel
theorem dX7_coins_68 : decode cX7_coins 68 = .ok (.invokevirtual 29, 3) := by decide +kernel
theorem dX7_coins_71 : decode cX7_coins 71 = .ok (.iconst 1, 1) := by decide +kernel
theorem dX7_coins_72 : decode cX7_coins 72 = .ok (.if_icmp .gt 12, 3) := by decide +kernel
theorem dX7_coins_75 : decode cX7_coins 75 = .ok (.aload_n 0, 1) := by decide +kernel
theorem dX7_coins_76 : decode cX7_coins 76 = .ok (.iload_n 3, 1) := by decide +kernel
theorem dX7_coins_77 : decode cX7_coins 77 = .ok (.iconst 5, 1) := by decide +kernel
theorem dX7_coins_78 : decode cX7_coins 78 = .ok (.invokevirtual 29, 3) := by decide +kernel
theorem dX7_coins_81 : decode cX7_coins 81 = .ok (.goto 4, 3) := by decide +kernel
theorem dX7_coins_84 : decode cX7_coins 84 = .ok (.iconst 0, 1) := by decide +kernel
theorem dX7_coins_85 : decode cX7_coins 85 = .ok (.iadd, 1) := by decide +kernel
theorem dX7_coins_86 : decode cX7_coins 86 = .ok (.istore_n 2, 1) := by decide +kernel
theorem dX7_coins_87 : decode cX7_coins 87 = .ok (.iinc 3 1, 3) := by decide +kernel
theorem dX7_coins_90 : decode cX7_coins 90 = .ok (.goto (-36), 3) := by decide +kernel
theorem dX7_coins_93 : decode cX7_coins 93 = .ok (.iload_n 2, 1) := by decide +kernel
theorem dX7_coins_94 : decode cX7_coins 94 = .ok (.ireturn, 1) := by decide +kernel
theorem dX7_use_0 : decode cX7_use 0 = .ok (.iload_n 1, 1) := by decide +kernel
theorem dX7_use_1 : decode cX7_use 1 = .ok (.iconst 0, 1) := by decide +kernel
theorem dX7_use_2 : decode cX7_use 2 = .ok (.sipush 999, 3) := by decide +kernel
theorem dX7_use_5 : decode cX7_use 5 = .ok (.invokestatic 33, 3) := by decide +kernel
theorem dX7_use_8 : decode cX7_use 8 = .ok (.ifCond .eq 14, 3) := by decide +kernel
theorem dX7_use_11 : decode cX7_use 11 = .ok (.iload_n 2, 1) := by decide +kernel
theorem dX7_use_12 : decode cX7_use 12 = .ok (.iload_n 1, 1) := by decide +kernel
theorem dX7_use_13 : decode cX7_use 13 = .ok (.sipush 999, 3) := by decide +kernel
theorem dX7_use_16 : decode cX7_use 16 = .ok (.invokestatic 33, 3) := by decide +kernel
theorem dX7_use_19 : decode cX7_use 19 = .ok (.ifCond .ne 7, 3) := by decide +kernel
theorem dX7_use_22 : decode cX7_use 22 = .ok (.ldc2_w 162, 3) := by decide +kernel
theorem dX7_use_25 : decode cX7_use 25 = .ok (.dreturn, 1) := by decide +kernel
theorem dX7_use_26 : decode cX7_use 26 = .ok (.iconst 0, 1) := by decide +kernel
theorem dX7_use_27 : decode cX7_use 27 = .ok (.istore_n 3, 1) := by decide +kernel
theorem dX7_use_28 : decode cX7_use 28 = .ok (.iload_n 1, 1) := by decide +kernel
theorem dX7_use_29 : decode cX7_use 29 = .ok (.istore 4, 2) := by decide +kernel
theorem dX7_use_31 : decode cX7_use 31 = .ok (.iload 4, 2) := by decide +kernel
theorem dX7_use_33 : decode cX7_use 33 = .ok (.iload_n 2, 1) := by decide +kernel
theorem dX7_use_34 : decode cX7_use 34 = .ok (.if_icmp .gt 18, 3) := by decide +kernel
theorem dX7_use_37 : decode cX7_use 37 = .ok (.iload_n 3, 1) := by decide +kernel
theorem dX7_use_38 : decode cX7_use 38 = .ok (.aload_n 0, 1) := by decide +kernel
theorem dX7_use_39 : decode cX7_use 39 = .ok (.iload 4, 2) := by decide +kernel
theorem dX7_use_41 : decode cX7_use 41 = .ok (.invokevirtual 48, 3) := by decide +kernel
theorem dX7_use_44 : decode cX7_use 44 = .ok (.iadd, 1) := by decide +kernel
theorem dX7_use_45 : decode cX7_use 45 = .ok (.istore_n 3, 1) := by decide +kernel
theorem dX7_use_46 : decode cX7_use 46 = .ok (.iinc 4 1, 3) := by decide +kernel
theorem dX7_use_49 : decode cX7_use 49 = .ok (.goto (-18), 3) := by decide +kernel
theorem dX7_use_52 : decode cX7_use 52 = .ok (.iload_n 3, 1) := by decide +kernel
theorem dX7_use_53 : decode cX7_use 53 = .ok (.i2d, 1) := by decide +kernel
theorem dX7_use_54 : decode cX7_use 54 = .ok (.iload_n 2, 1) := by decide +kernel
theorem dX7_use_55 : decode cX7_use 55 = .ok (.iload_n 1, 1) := by decide +kernel
theorem dX7_use_56 : decode cX7_use 56 = .ok (.isub, 1) := by decide +kernel
theorem dX7_use_57 : decode cX7_use 57 = .ok (.iconst 1, 1) := by decide +kernel
theorem dX7_use_58 : decode cX7_use 58 = .ok (.iadd, 1) := by decide +kernel
theorem dX7_use_59 : decode cX7_use 59 = .ok (.aload_n 0, 1) := by decide +kernel
theorem dX7_use_60 : decode cX7_use 60 = .ok (.getfield 7, 3) := by decide +kernel
theorem dX7_use_63 : decode cX7_use 63 = .ok (.bipush 17, 2) := by decide +kernel
theorem dX7_use_65 : decode cX7_use 65 = .ok (.iaload, 1) := by decide +kernel
theorem dX7_use_66 : decode cX7_use 66 = .ok (.imul, 1) := by decide +kernel
theorem dX7_use_67 : decode cX7_use 67 = .ok (.i2d, 1) := by decide +kernel
theorem dX7_use_68 : decode cX7_use 68 = .ok (.ddiv, 1) := by decide +kernel
theorem dX7_use_69 : decode cX7_use 69 = .ok (.dreturn, 1) := by decide +kernel
theorem dX7_firstFree_0 : decode cX7_firstFree 0 = .ok (.iload_n 1, 1) := by decide +kernel
theorem dX7_firstFree_1 : decode cX7_firstFree 1 = .ok (.iconst 1, 1) := by decide +kernel
theorem dX7_firstFree_2 : decode cX7_firstFree 2 = .ok (.bipush 9, 2) := by decide +kernel
theorem dX7_firstFree_4 : decode cX7_firstFree 4 = .ok (.invokestatic 33, 3) := by decide +kernel
theorem dX7_firstFree_7 : decode cX7_firstFree 7 = .ok (.ifCond .eq 13, 3) := by decide +kernel
theorem dX7_firstFree_10 : decode cX7_firstFree 10 = .ok (.iload_n 2, 1) := by decide +kernel
theorem dX7_firstFree_11 : decode cX7_firstFree 11 = .ok (.iconst 1, 1) := by decide +kernel
theorem dX7_firstFree_12 : decode cX7_firstFree 12 = .ok (.bipush 9, 2) := by decide +kernel
theorem dX7_firstFree_14 : decode cX7_firstFree 14 = .ok (.invokestatic 33, 3) := by decide +kernel
theorem dX7_firstFree_17 : decode cX7_firstFree 17 = .ok (.ifCond .ne 6, 3) := by decide +kernel
theorem dX7_firstFree_20 : decode cX7_firstFree 20 = .ok (.ldc 95, 2) := by decide +kernel
theorem dX7_firstFree_22 : decode cX7_firstFree 22 = .ok (.ireturn, 1) := by decide +kernel
theorem dX7_firstFree_23 : decode cX7_firstFree 23 = .ok (.aload_n 0, 1) := by decide +kernel
theorem dX7_firstFree_24 : decode cX7_firstFree 24 = .ok (.getfield 7, 3) := by decide +kernel
theorem dX7_firstFree_27 : decode cX7_firstFree 27 = .ok (.iconst 0, 1) := by decide +kernel
theorem dX7_firstFree_28 : decode cX7_firstFree 28 = .ok (.iaload, 1) := by decide +kernel
theorem dX7_firstFree_29 : decode cX7_firstFree 29 = .ok (.istore_n 3, 1) := by decide +kernel
theorem dX7_firstFree_30 : decode cX7_firstFree 30 = .ok (.iload_n 3, 1) := by decide +kernel
theorem dX7_firstFree_31 : decode cX7_firstFree 31 = .ok (.sipush 899, 3) := by decide +kernel
theorem dX7_firstFree_34 : decode cX7_firstFree 34 = .ok (.if_icmp .gt 23, 3) := by decide +kernel
theorem dX7_firstFree_37 : decode cX7_firstFree 37 = .ok (.aload_n 0, 1) := by decide +kernel
theorem dX7_firstFree_38 : decode cX7_firstFree 38 = .ok (.iload_n 3, 1) := by decide +kernel
theorem dX7_firstFree_39 : decode cX7_firstFree 39 = .ok (.iload_n 3, 1) := by decide +kernel
theorem dX7_firstFree_40 : decode cX7_firstFree 40 = .ok (.iload_n 1, 1) := by decide +kernel
theorem dX7_firstFree_41 : decode cX7_firstFree 41 = .ok (.iadd, 1) := by decide +kernel
theorem dX7_firstFree_42 : decode cX7_firstFree 42 = .ok (.iload_n 2, 1) := by decide +kernel
theorem dX7_firstFree_43 : decode cX7_firstFree 43 = .ok (.invokevirtual 96, 3) := by decide +kernel
theorem dX7_firstFree_46 : decode cX7_firstFree 46 = .ok (.ifCond .eq 5, 3) := by decide +kernel
theorem dX7_firstFree_49 : decode cX7_firstFree 49 = .ok (.iload_n 3, 1) := by decide +kernel
theorem dX7_firstFree_50 : decode cX7_firstFree 50 = .ok (.ireturn, 1) := by decide +kernel
theorem dX7_firstFree_51 : decode cX7_firstFree 51 = .ok (.iinc 3 1, 3) := by decide +kernel
theorem dX7_firstFree_54 : decode cX7_firstFree 54 = .ok (.goto (-24), 3) := by decide +kernel
theorem dX7_firstFree_57 : decode cX7_firstFree 57 = .ok (.ldc 101, 2) := by decide +kernel
theorem dX7_firstFree_59 : decode cX7_firstFree 59 = .ok (.ireturn, 1) := by decide +kernel
theorem dX7_hungryIn_0 : decode cX7_hungryIn 0 = .ok (.aload_n 0, 1) := by decide +kernel
theorem dX7_hungryIn_1 : decode cX7_hungryIn 1 = .ok (.invokevirtual 127, 3) := by decide +kernel
theorem dX7_hungryIn_4 : decode cX7_hungryIn 4 = .ok (.aload_n 0, 1) := by decide +kernel
theorem dX7_hungryIn_5 : decode cX7_hungryIn 5 = .ok (.getfield 7, 3) := by decide +kernel
theorem dX7_hungryIn_8 : decode cX7_hungryIn 8 = .ok (.bipush 10, 2) := by decide +kernel
theorem dX7_hungryIn_10 : decode cX7_hungryIn 10 = .ok (.iaload, 1) := by decide +kernel
theorem dX7_hungryIn_11 : decode cX7_hungryIn 11 = .ok (.istore_n 1, 1) := by decide +kernel
theorem dX7_hungryIn_12 : decode cX7_hungryIn 12 = .ok (.iconst 0, 1) := by decide +kernel
theorem dX7_hungryIn_13 : decode cX7_hungryIn 13 = .ok (.istore_n 2, 1) := by decide +kernel
theorem dX7_hungryIn_14 : decode cX7_hungryIn 14 = .ok (.iload_n 2, 1) := by decide +kernel
theorem dX7_hungryIn_15 : decode cX7_hungryIn 15 = .ok (.bipush 60, 2) := by decide +kernel
theorem dX7_hungryIn_17 : decode cX7_hungryIn 17 = .ok (.if_icmp .ge 24, 3) := by decide +kernel
theorem dX7_hungryIn_20 : decode cX7_hungryIn 20 = .ok (.aload_n 0, 1) := by decide +kernel
theorem dX7_hungryIn_21 : decode cX7_hungryIn 21 = .ok (.getfield 7, 3) := by decide +kernel
theorem dX7_hungryIn_24 : decode cX7_hungryIn 24 = .ok (.bipush 10, 2) := by decide +kernel
theorem dX7_hungryIn_26 : decode cX7_hungryIn 26 = .ok (.iaload, 1) := by decide +kernel
theorem dX7_hungryIn_27 : decode cX7_hungryIn 27 = .ok (.iload_n 1, 1) := by decide +kernel
theorem dX7_hungryIn_28 : decode cX7_hungryIn 28 = .ok (.if_icmp .ne 13, 3) := by decide +kernel
theorem dX7_hungryIn_31 : decode cX7_hungryIn 31 = .ok (.aload_n 0, 1) := by decide +kernel
theorem dX7_hungryIn_32 : decode cX7_hungryIn 32 = .ok (.invokevirtual 143, 3) := by decide +kernel
theorem dX7_hungryIn_35 : decode cX7_hungryIn 35 = .ok (.iinc 2 1, 3) := by decide +kernel
theorem dX7_hungryIn_38 : decode cX7_hungryIn 38 = .ok (.goto (-24), 3) := by decide +kernel
theorem dX7_hungryIn_41 : decode cX7_hungryIn 41 = .ok (.aload_n 0, 1) := by decide +kernel
theorem dX7_hungryIn_42 : decode cX7_hungryIn 42 = .ok (.getfield 7, 3) := by decide +kernel
theorem dX7_hungryIn_45 : decode cX7_hungryIn 45 = .ok (.bipush 10, 2) := by decide +kernel
theorem dX7_hungryIn_47 : decode cX7_hungryIn 47 = .ok (.iaload, 1) := by decide +kernel
theorem dX7_hungryIn_48 : decode cX7_hungryIn 48 = .ok (.iload_n 1, 1) := by decide +kernel
theorem dX7_hungryIn_49 : decode cX7_hungryIn 49 = .ok (.if_icmp .le 7, 3) := by decide +kernel
theorem dX7_hungryIn_52 : decode cX7_hungryIn 52 = .ok (.iconst 1, 1) := by decide +kernel
theorem dX7_hungryIn_53 : decode cX7_hungryIn 53 = .ok (.goto 4, 3) := by decide +kernel
theorem dX7_hungryIn_56 : decode cX7_hungryIn 56 = .ok (.iconst 0, 1) := by decide +kernel
theorem dX7_hungryIn_57 : decode cX7_hungryIn 57 = .ok (.istore_n 3, 1) := by decide +kernel
theorem dX7_hungryIn_58 : decode cX7_hungryIn 58 = .ok (.aload_n 0, 1) := by decide +kernel
theorem dX7_hungryIn_59 : decode cX7_hungryIn 59 = .ok (.invokevirtual 130, 3) := by decide +kernel
theorem dX7_hungryIn_62 : decode cX7_hungryIn 62 = .ok (.iload_n 3, 1) := by decide +kernel
theorem dX7_hungryIn_63 : decode cX7_hungryIn 63 = .ok (.ifCond .eq 7, 3) := by decide +kernel
theorem dX7_hungryIn_66 : decode cX7_hungryIn 66 = .ok (.iload_n 2, 1) := by decide +kernel
theorem dX7_hungryIn_67 : decode cX7_hungryIn 67 = .ok (.goto 5, 3) := by decide +kernel
theorem dX7_hungryIn_70 : decode cX7_hungryIn 70 = .ok (.ldc 101, 2) := by decide +kernel
theorem dX7_hungryIn_72 : decode cX7_hungryIn 72 = .ok (.ireturn, 1) := by decide +kernel
theorem dX7_grows_0 : decode cX7_grows 0 = .ok (.aload_n 0, 1) := by decide +kernel
theorem dX7_grows_1 : decode cX7_grows 1 = .ok (.invokevirtual 127, 3) := by decide +kernel
theorem dX7_grows_4 : decode cX7_grows 4 = .ok (.aload_n 0, 1) := by decide +kernel
theorem dX7_grows_5 : decode cX7_grows 5 = .ok (.getfield 7, 3) := by decide +kernel
theorem dX7_grows_8 : decode cX7_grows 8 = .ok (.iload_n 1, 1) := by decide +kernel
theorem dX7_grows_9 : decode cX7_grows 9 = .ok (.iaload, 1) := by decide +kernel
theorem dX7_grows_10 : decode cX7_grows 10 = .ok (.istore_n 3, 1) := by decide +kernel
theorem dX7_grows_11 : decode cX7_grows 11 = .ok (.iconst 0, 1) := by decide +kernel
theorem dX7_grows_12 : decode cX7_grows 12 = .ok (.istore 4, 2) := by decide +kernel
theorem dX7_grows_14 : decode cX7_grows 14 = .ok (.iload 4, 2) := by decide +kernel
theorem dX7_grows_16 : decode cX7_grows 16 = .ok (.iload_n 2, 1) := by decide +kernel
theorem dX7_grows_17 : decode cX7_grows 17 = .ok (.if_icmp .ge 13, 3) := by decide +kernel
theorem dX7_grows_20 : decode cX7_grows 20 = .ok (.aload_n 0, 1) := by decide +kernel
theorem dX7_grows_21 : decode cX7_grows 21 = .ok (.invokevirtual 143, 3) := by decide +kernel
theorem dX7_grows_24 : decode cX7_grows 24 = .ok (.iinc 4 1, 3) := by decide +kernel
theorem dX7_grows_27 : decode cX7_grows 27 = .ok (.goto (-13), 3) := by decide +kernel
theorem dX7_grows_30 : decode cX7_grows 30 = .ok (.aload_n 0, 1) := by decide +kernel
theorem dX7_grows_31 : decode cX7_grows 31 = .ok (.getfield 7, 3) := by decide +kernel
theorem dX7_grows_34 : decode cX7_grows 34 = .ok (.iload_n 1, 1) := by decide +kernel
theorem dX7_grows_35 : decode cX7_grows 35 = .ok (.iaload, 1) := by decide +kernel
theorem dX7_grows_36 : decode cX7_grows 36 = .ok (.iload_n 3, 1) := by decide +kernel
theorem dX7_grows_37 : decode cX7_grows 37 = .ok (.isub, 1) := by decide +kernel
theorem dX7_grows_38 : decode cX7_grows 38 = .ok (.istore 4, 2) := by decide +kernel
theorem dX7_grows_40 : decode cX7_grows 40 = .ok (.aload_n 0, 1) := by decide +kernel
theorem dX7_grows_41 : decode cX7_grows 41 = .ok (.invokevirtual 130, 3) := by decide +kernel
theorem dX7_grows_44 : decode cX7_grows 44 = .ok (.iload 4, 2) := by decide +kernel
theorem dX7_grows_46 : decode cX7_grows 46 = .ok (.ireturn, 1) := by decide +kernel
theorem dX7_wanting_0 : decode cX7_wanting 0 = .ok (.iload_n 1, 1) := by decide +kernel
theorem dX7_wanting_1 : decode cX7_wanting 1 = .ok (.iconst 1, 1) := by decide +kernel
theorem dX7_wanting_2 : decode cX7_wanting 2 = .ok (.bipush 60, 2) := by decide +kernel
theorem dX7_wanting_4 : decode cX7_wanting 4 = .ok (.invokestatic 33, 3) := by decide +kernel
theorem dX7_wanting_7 : decode cX7_wanting 7 = .ok (.ifCond .eq 13, 3) := by decide +kernel
theorem dX7_wanting_10 : decode cX7_wanting 10 = .ok (.aload_n 0, 1) := by decide +kernel
theorem dX7_wanting_11 : decode cX7_wanting 11 = .ok (.bipush 10, 2) := by decide +kernel
theorem dX7_wanting_13 : decode cX7_wanting 13 = .ok (.iload_n 1, 1) := by decide +kernel
theorem dX7_wanting_14 : decode cX7_wanting 14 = .ok (.invokevirtual 164, 3) := by decide +kernel
theorem dX7_wanting_17 : decode cX7_wanting 17 = .ok (.goto 5, 3) := by decide +kernel
theorem dX7_wanting_20 : decode cX7_wanting 20 = .ok (.ldc 95, 2) := by decide +kernel
theorem dX7_wanting_22 : decode cX7_wanting 22 = .ok (.ireturn, 1) := by decide +kernel
theorem dX7_goneIn_0 : decode cX7_goneIn 0 = .ok (.aload_n 0, 1) := by decide +kernel
theorem dX7_goneIn_1 : decode cX7_goneIn 1 = .ok (.iload_n 1, 1) := by decide +kernel
theorem dX7_goneIn_2 : decode cX7_goneIn 2 = .ok (.invokevirtual 133, 3) := by decide +kernel
theorem dX7_goneIn_5 : decode cX7_goneIn 5 = .ok (.ifCond .ne 6, 3) := by decide +kernel
theorem dX7_goneIn_8 : decode cX7_goneIn 8 = .ok (.ldc 136, 2) := by decide +kernel
theorem dX7_goneIn_10 : decode cX7_goneIn 10 = .ok (.ireturn, 1) := by decide +kernel
theorem dX7_goneIn_11 : decode cX7_goneIn 11 = .ok (.aload_n 0, 1) := by decide +kernel
theorem dX7_goneIn_12 : decode cX7_goneIn 12 = .ok (.iload_n 1, 1) := by decide +kernel
theorem dX7_goneIn_13 : decode cX7_goneIn 13 = .ok (.iconst 0, 1) := by decide +kernel
theorem dX7_goneIn_14 : decode cX7_goneIn 14 = .ok (.invokevirtual 29, 3) := by decide +kernel
theorem dX7_goneIn_17 : decode cX7_goneIn 17 = .ok (.iconst 1, 1) := by decide +kernel
theorem dX7_goneIn_18 : decode cX7_goneIn 18 = .ok (.if_icmp .le 6, 3) := by decide +kernel
theorem dX7_goneIn_21 : decode cX7_goneIn 21 = .ok (.ldc 99, 2) := by decide +kernel
theorem dX7_goneIn_23 : decode cX7_goneIn 23 = .ok (.ireturn, 1) := by decide +kernel
theorem dX7_goneIn_24 : decode cX7_goneIn 24 = .ok (.aload_n 0, 1) := by decide +kernel
theorem dX7_goneIn_25 : decode cX7_goneIn 25 = .ok (.invokevirtual 127, 3) := by decide +kernel
theorem dX7_goneIn_28 : decode cX7_goneIn 28 = .ok (.iconst 0, 1) := by decide +kernel
theorem dX7_goneIn_29 : decode cX7_goneIn 29 = .ok (.istore_n 2, 1) := by decide +kernel
theorem dX7_goneIn_30 : decode cX7_goneIn 30 = .ok (.iload_n 2, 1) := by decide +kernel
theorem dX7_goneIn_31 : decode cX7_goneIn 31 = .ok (.bipush 60, 2) := by decide +kernel
theorem dX7_goneIn_33 : decode cX7_goneIn 33 = .ok (.if_icmp .ge 23, 3) := by decide +kernel
theorem dX7_goneIn_36 : decode cX7_goneIn 36 = .ok (.aload_n 0, 1) := by decide +kernel
theorem dX7_goneIn_37 : decode cX7_goneIn 37 = .ok (.iload_n 1, 1) := by decide +kernel
theorem dX7_goneIn_38 : decode cX7_goneIn 38 = .ok (.iconst 0, 1) := by decide +kernel
theorem dX7_goneIn_39 : decode cX7_goneIn 39 = .ok (.invokevirtual 29, 3) := by decide +kernel
theorem dX7_goneIn_42 : decode cX7_goneIn 42 = .ok (.iconst 1, 1) := by decide +kernel
theorem dX7_goneIn_43 : decode cX7_goneIn 43 = .ok (.if_icmp .gt 13, 3) := by decide +kernel
theorem dX7_goneIn_46 : decode cX7_goneIn 46 = .ok (.aload_n 0, 1) := by decide +kernel
theorem dX7_goneIn_47 : decode cX7_goneIn 47 = .ok (.invokevirtual 143, 3) := by decide +kernel
theorem dX7_goneIn_50 : decode cX7_goneIn 50 = .ok (.iinc 2 1, 3) := by decide +kernel
theorem dX7_goneIn_53 : decode cX7_goneIn 53 = .ok (.goto (-23), 3) := by decide +kernel
theorem dX7_goneIn_56 : decode cX7_goneIn 56 = .ok (.aload_n 0, 1) := by decide +kernel
theorem dX7_goneIn_57 : decode cX7_goneIn 57 = .ok (.iload_n 1, 1) := by decide +kernel
theorem dX7_goneIn_58 : decode cX7_goneIn 58 = .ok (.iconst 2, 1) := by decide +kernel
theorem dX7_goneIn_59 : decode cX7_goneIn 59 = .ok (.invokevirtual 41, 3) := by decide +kernel
theorem dX7_goneIn_62 : decode cX7_goneIn 62 = .ok (.istore_n 3, 1) := by decide +kernel
theorem dX7_goneIn_63 : decode cX7_goneIn 63 = .ok (.aload_n 0, 1) := by decide +kernel
theorem dX7_goneIn_64 : decode cX7_goneIn 64 = .ok (.invokevirtual 130, 3) := by decide +kernel
theorem dX7_goneIn_67 : decode cX7_goneIn 67 = .ok (.iload_n 3, 1) := by decide +kernel
theorem dX7_goneIn_68 : decode cX7_goneIn 68 = .ok (.ifCond .eq 7, 3) := by decide +kernel
theorem dX7_goneIn_71 : decode cX7_goneIn 71 = .ok (.iload_n 2, 1) := by decide +kernel
theorem dX7_goneIn_72 : decode cX7_goneIn 72 = .ok (.goto 5, 3) := by decide +kernel
theorem dX7_goneIn_75 : decode cX7_goneIn 75 = .ok (.ldc 101, 2) := by decide +kernel
theorem dX7_goneIn_77 : decode cX7_goneIn 77 = .ok (.ireturn, 1) := by decide +kernel
theorem dX7_turnedAway_0 : decode cX7_turnedAway 0 = .ok (.iload_n 1, 1) := by decide +kernel
theorem dX7_turnedAway_1 : decode cX7_turnedAway 1 = .ok (.iconst 1, 1) := by decide +kernel
theorem dX7_turnedAway_2 : decode cX7_turnedAway 2 = .ok (.bipush 60, 2) := by decide +kernel
theorem dX7_turnedAway_4 : decode cX7_turnedAway 4 = .ok (.invokestatic 33, 3) := by decide +kernel
theorem dX7_turnedAway_7 : decode cX7_turnedAway 7 = .ok (.ifCond .eq 13, 3) := by decide +kernel
theorem dX7_turnedAway_10 : decode cX7_turnedAway 10 = .ok (.aload_n 0, 1) := by decide +kernel
theorem dX7_turnedAway_11 : decode cX7_turnedAway 11 = .ok (.bipush 13, 2) := by decide +kernel
theorem dX7_turnedAway_13 : decode cX7_turnedAway 13 = .ok (.iload_n 1, 1) := by decide +kernel
theorem dX7_turnedAway_14 : decode cX7_turnedAway 14 = .ok (.invokevirtual 164, 3) := by decide +kernel
theorem dX7_turnedAway_17 : decode cX7_turnedAway 17 = .ok (.goto 5, 3) := by decide +kernel
theorem dX7_turnedAway_20 : decode cX7_turnedAway 20 = .ok (.ldc 95, 2) := by decide +kernel
theorem dX7_turnedAway_22 : decode cX7_turnedAway 22 = .ok (.ireturn, 1) := by decide +kernel
theorem dX7_takesDown_0 : decode cX7_takesDown 0 = .ok (.aload_n 0, 1) := by decide +kernel
theorem dX7_takesDown_1 : decode cX7_takesDown 1 = .ok (.invokevirtual 127, 3) := by decide +kernel
theorem dX7_takesDown_4 : decode cX7_takesDown 4 = .ok (.aload_n 0, 1) := by decide +kernel
theorem dX7_takesDown_5 : decode cX7_takesDown 5 = .ok (.getfield 7, 3) := by decide +kernel
theorem dX7_takesDown_8 : decode cX7_takesDown 8 = .ok (.bipush 6, 2) := by decide +kernel
theorem dX7_takesDown_10 : decode cX7_takesDown 10 = .ok (.iaload, 1) := by decide +kernel
theorem dX7_takesDown_11 : decode cX7_takesDown 11 = .ok (.istore_n 2, 1) := by decide +kernel
theorem dX7_takesDown_12 : decode cX7_takesDown 12 = .ok (.aload_n 0, 1) := by decide +kernel
theorem dX7_takesDown_13 : decode cX7_takesDown 13 = .ok (.getfield 7, 3) := by decide +kernel
theorem dX7_takesDown_16 : decode cX7_takesDown 16 = .ok (.iconst 5, 1) := by decide +kernel
theorem dX7_takesDown_17 : decode cX7_takesDown 17 = .ok (.iaload, 1) := by decide +kernel
theorem dX7_takesDown_18 : decode cX7_takesDown 18 = .ok (.istore_n 3, 1) := by decide +kernel
theorem dX7_takesDown_19 : decode cX7_takesDown 19 = .ok (.iconst 0, 1) := by decide +kernel
theorem dX7_takesDown_20 : decode cX7_takesDown 20 = .ok (.istore 4, 2) := by decide +kernel
theorem dX7_takesDown_22 : decode cX7_takesDown 22 = .ok (.iload 4, 2) := by decide +kernel
theorem dX7_takesDown_24 : decode cX7_takesDown 24 = .ok (.bipush 60, 2) := by decide +kernel
theorem dX7_takesDown_26 : decode cX7_takesDown 26 = .ok (.if_icmp .ge 40, 3) := by decide +kernel
theorem dX7_takesDown_29 : decode cX7_takesDown 29 = .ok (.aload_n 0, 1) := by decide +kernel
theorem dX7_takesDown_30 : decode cX7_takesDown 30 = .ok (.getfield 7, 3) := by decide +kernel
theorem dX7_takesDown_33 : decode cX7_takesDown 33 = .ok (.iconst 5, 1) := by decide +kernel
theorem dX7_takesDown_34 : decode cX7_takesDown 34 = .ok (.iaload, 1) := by decide +kernel
theorem dX7_takesDown_35 : decode cX7_takesDown 35 = .ok (.iload_n 3, 1) := by decide +kernel
theorem dX7_takesDown_36 : decode cX7_takesDown 36 = .ok (.if_icmp .ne 30, 3) := by decide +kernel
theorem dX7_takesDown_39 : decode cX7_takesDown 39 = .ok (.aload_n 0, 1) := by decide +kernel
theorem dX7_takesDown_40 : decode cX7_takesDown 40 = .ok (.getfield 7, 3) := by decide +kernel
theorem dX7_takesDown_43 : decode cX7_takesDown 43 = .ok (.iconst 4, 1) := by decide +kernel
theorem dX7_takesDown_44 : decode cX7_takesDown 44 = .ok (.iload 4, 2) := by decide +kernel
theorem dX7_takesDown_46 : decode cX7_takesDown 46 = .ok (.iload_n 1, 1) := by decide +kernel
theorem dX7_takesDown_47 : decode cX7_takesDown 47 = .ok (.if_icmp .lt 7, 3) := by decide +kernel
theorem dX7_takesDown_50 : decode cX7_takesDown 50 = .ok (.iconst 1, 1) := by decide +kernel
theorem dX7_takesDown_51 : decode cX7_takesDown 51 = .ok (.goto 4, 3) := by decide +kernel
theorem dX7_takesDown_54 : decode cX7_takesDown 54 = .ok (.iconst 0, 1) := by decide +kernel
theorem dX7_takesDown_55 : decode cX7_takesDown 55 = .ok (.iastore, 1) := by decide +kernel
theorem dX7_takesDown_56 : decode cX7_takesDown 56 = .ok (.aload_n 0, 1) := by decide +kernel
theorem dX7_takesDown_57 : decode cX7_takesDown 57 = .ok (.invokevirtual 143, 3) := by decide +kernel
theorem dX7_takesDown_60 : decode cX7_takesDown 60 = .ok (.iinc 4 1, 3) := by decide +kernel
theorem dX7_takesDown_63 : decode cX7_takesDown 63 = .ok (.goto (-41), 3) := by decide +kernel
theorem dX7_takesDown_66 : decode cX7_takesDown 66 = .ok (.aload_n 0, 1) := by decide +kernel
theorem dX7_takesDown_67 : decode cX7_takesDown 67 = .ok (.getfield 7, 3) := by decide +kernel
theorem dX7_takesDown_70 : decode cX7_takesDown 70 = .ok (.bipush 6, 2) := by decide +kernel
theorem dX7_takesDown_72 : decode cX7_takesDown 72 = .ok (.iaload, 1) := by decide +kernel
theorem dX7_takesDown_73 : decode cX7_takesDown 73 = .ok (.iload_n 2, 1) := by decide +kernel
theorem dX7_takesDown_74 : decode cX7_takesDown 74 = .ok (.isub, 1) := by decide +kernel
theorem dX7_takesDown_75 : decode cX7_takesDown 75 = .ok (.istore 4, 2) := by decide +kernel
theorem dX7_takesDown_77 : decode cX7_takesDown 77 = .ok (.aload_n 0, 1) := by decide +kernel
theorem dX7_takesDown_78 : decode cX7_takesDown 78 = .ok (.invokevirtual 130, 3) := by decide +kernel
theorem dX7_takesDown_81 : decode cX7_takesDown 81 = .ok (.iload 4, 2) := by decide +kernel
theorem dX7_takesDown_83 : decode cX7_takesDown 83 = .ok (.ireturn, 1) := by decide +kernel
theorem dX7_bestCall_0 : decode cX7_bestCall 0 = .ok (.aload_n 0, 1) := by decide +kernel
theorem dX7_bestCall_1 : decode cX7_bestCall 1 = .ok (.getfield 7, 3) := by decide +kernel
theorem dX7_bestCall_4 : decode cX7_bestCall 4 = .ok (.iconst 4, 1) := by decide +kernel
theorem dX7_bestCall_5 : decode cX7_bestCall 5 = .ok (.iaload, 1) := by decide +kernel
theorem dX7_bestCall_6 : decode cX7_bestCall 6 = .ok (.iconst 1, 1) := by decide +kernel
theorem dX7_bestCall_7 : decode cX7_bestCall 7 = .ok (.if_icmp .ne 6, 3) := by decide +kernel
theorem dX7_bestCall_10 : decode cX7_bestCall 10 = .ok (.ldc 101, 2) := by decide +kernel
theorem dX7_bestCall_12 : decode cX7_bestCall 12 = .ok (.ireturn, 1) := by decide +kernel
theorem dX7_bestCall_13 : decode cX7_bestCall 13 = .ok (.ldc 101, 2) := by decide +kernel
theorem dX7_bestCall_15 : decode cX7_bestCall 15 = .ok (.istore_n 1, 1) := by decide +kernel
theorem dX7_bestCall_16 : decode cX7_bestCall 16 = .ok (.iconst 0, 1) := by decide +kernel
theorem dX7_bestCall_17 : decode cX7_bestCall 17 = .ok (.istore_n 2, 1) := by decide +kernel
theorem dX7_bestCall_18 : decode cX7_bestCall 18 = .ok (.iconst 0, 1) := by decide +kernel
theorem dX7_bestCall_19 : decode cX7_bestCall 19 = .ok (.istore_n 3, 1) := by decide +kernel
theorem dX7_bestCall_20 : decode cX7_bestCall 20 = .ok (.iload_n 3, 1) := by decide +kernel
theorem dX7_bestCall_21 : decode cX7_bestCall 21 = .ok (.bipush 30, 2) := by decide +kernel
theorem dX7_bestCall_23 : decode cX7_bestCall 23 = .ok (.if_icmp .gt 27, 3) := by decide +kernel
theorem dX7_bestCall_26 : decode cX7_bestCall 26 = .ok (.aload_n 0, 1) := by decide +kernel
theorem dX7_bestCall_27 : decode cX7_bestCall 27 = .ok (.iload_n 3, 1) := by decide +kernel
theorem dX7_bestCall_28 : decode cX7_bestCall 28 = .ok (.invokevirtual 167, 3) := by decide +kernel
theorem dX7_bestCall_31 : decode cX7_bestCall 31 = .ok (.istore 4, 2) := by decide +kernel
theorem dX7_bestCall_33 : decode cX7_bestCall 33 = .ok (.iload 4, 2) := by decide +kernel
theorem dX7_bestCall_35 : decode cX7_bestCall 35 = .ok (.iload_n 2, 1) := by decide +kernel
theorem dX7_bestCall_36 : decode cX7_bestCall 36 = .ok (.if_icmp .le 8, 3) := by decide +kernel
theorem dX7_bestCall_39 : decode cX7_bestCall 39 = .ok (.iload_n 3, 1) := by decide +kernel
theorem dX7_bestCall_40 : decode cX7_bestCall 40 = .ok (.istore_n 1, 1) := by decide +kernel
theorem dX7_bestCall_41 : decode cX7_bestCall 41 = .ok (.iload 4, 2) := by decide +kernel
theorem dX7_bestCall_43 : decode cX7_bestCall 43 = .ok (.istore_n 2, 1) := by decide +kernel
theorem dX7_bestCall_44 : decode cX7_bestCall 44 = .ok (.iinc 3 1, 3) := by decide +kernel
theorem dX7_bestCall_47 : decode cX7_bestCall 47 = .ok (.goto (-27), 3) := by decide +kernel
theorem dX7_bestCall_50 : decode cX7_bestCall 50 = .ok (.iload_n 1, 1) := by decide +kernel
theorem dX7_bestCall_51 : decode cX7_bestCall 51 = .ok (.ireturn, 1) := by decide +kernel
theorem dX7_fullest_0 : decode cX7_fullest 0 = .ok (.ldc 101, 2) := by decide +kernel
theorem dX7_fullest_2 : decode cX7_fullest 2 = .ok (.istore_n 1, 1) := by decide +kernel
theorem dX7_fullest_3 : decode cX7_fullest 3 = .ok (.iconst 0, 1) := by decide +kernel
theorem dX7_fullest_4 : decode cX7_fullest 4 = .ok (.istore_n 2, 1) := by decide +kernel
theorem dX7_fullest_5 : decode cX7_fullest 5 = .ok (.aload_n 0, 1) := by decide +kernel
theorem dX7_fullest_6 : decode cX7_fullest 6 = .ok (.getfield 7, 3) := by decide +kernel
theorem dX7_fullest_9 : decode cX7_fullest 9 = .ok (.iconst 0, 1) := by decide +kernel
theorem dX7_fullest_10 : decode cX7_fullest 10 = .ok (.iaload, 1) := by decide +kernel
theorem dX7_fullest_11 : decode cX7_fullest 11 = .ok (.istore_n 3, 1) := by decide +kernel
theorem dX7_fullest_12 : decode cX7_fullest 12 = .ok (.iload_n 3, 1) := by decide +kernel
theorem dX7_fullest_13 : decode cX7_fullest 13 = .ok (.sipush 999, 3) := by decide +kernel
theorem dX7_fullest_16 : decode cX7_fullest 16 = .ok (.if_icmp .gt 27, 3) := by decide +kernel
theorem dX7_fullest_19 : decode cX7_fullest 19 = .ok (.aload_n 0, 1) := by decide +kernel
theorem dX7_fullest_20 : decode cX7_fullest 20 = .ok (.iload_n 3, 1) := by decide +kernel
theorem dX7_fullest_21 : decode cX7_fullest 21 = .ok (.invokevirtual 48, 3) := by decide +kernel
theorem dX7_fullest_24 : decode cX7_fullest 24 = .ok (.istore 4, 2) := by decide +kernel
theorem dX7_fullest_26 : decode cX7_fullest 26 = .ok (.iload 4, 2) := by decide +kernel
theorem dX7_fullest_28 : decode cX7_fullest 28 = .ok (.iload_n 2, 1) := by decide +kernel
theorem dX7_fullest_29 : decode cX7_fullest 29 = .ok (.if_icmp .le 8, 3) := by decide +kernel
theorem dX7_fullest_32 : decode cX7_fullest 32 = .ok (.iload_n 3, 1) := by decide +kernel
theorem dX7_fullest_33 : decode cX7_fullest 33 = .ok (.istore_n 1, 1) := by decide +kernel
theorem dX7_fullest_34 : decode cX7_fullest 34 = .ok (.iload 4, 2) := by decide +kernel
theorem dX7_fullest_36 : decode cX7_fullest 36 = .ok (.istore_n 2, 1) := by decide +kernel
theorem dX7_fullest_37 : decode cX7_fullest 37 = .ok (.iinc 3 1, 3) := by decide +kernel
theorem dX7_fullest_40 : decode cX7_fullest 40 = .ok (.goto (-28), 3) := by decide +kernel
theorem dX7_fullest_43 : decode cX7_fullest 43 = .ok (.iload_n 1, 1) := by decide +kernel
theorem dX7_fullest_44 : decode cX7_fullest 44 = .ok (.ireturn, 1) := by decide +kernel
theorem dL_law_0 : decode cL_law 0 = .ok (.new 7, 3) := by decide +kernel
theorem dL_law_3 : decode cL_law 3 = .ok (.dup, 1) := by decide +kernel
theorem dL_law_4 : decode cL_law 4 = .ok (.invokespecial 9, 3) := by decide +kernel
theorem dL_law_7 : decode cL_law 7 = .ok (.astore_n 1, 1) := by decide +kernel
theorem dL_law_8 : decode cL_law 8 = .ok (.new 10, 3) := by decide +kernel
theorem dL_law_11 : decode cL_law 11 = .ok (.dup, 1) := by decide +kernel
theorem dL_law_12 : decode cL_law 12 = .ok (.invokespecial 12, 3) := by decide +kernel
theorem dL_law_15 : decode cL_law 15 = .ok (.astore_n 2, 1) := by decide +kernel
theorem dL_law_16 : decode cL_law 16 = .ok (.iconst 0, 1) := by decide +kernel
theorem dL_law_17 : decode cL_law 17 = .ok (.istore_n 3, 1) := by decide +kernel
theorem dL_law_18 : decode cL_law 18 = .ok (.iload_n 3, 1) := by decide +kernel
theorem dL_law_19 : decode cL_law 19 = .ok (.aload_n 0, 1) := by decide +kernel
theorem dL_law_20 : decode cL_law 20 = .ok (.arraylength, 1) := by decide +kernel
theorem dL_law_21 : decode cL_law 21 = .ok (.iconst 4, 1) := by decide +kernel
theorem dL_law_22 : decode cL_law 22 = .ok (.isub, 1) := by decide +kernel
theorem dL_law_23 : decode cL_law 23 = .ok (.if_icmp .gt 944, 3) := by decide +kernel
theorem dL_law_26 : decode cL_law 26 = .ok (.aload_n 0, 1) := by decide +kernel
theorem dL_law_27 : decode cL_law 27 = .ok (.iload_n 3, 1) := by decide +kernel
theorem dL_law_28 : decode cL_law 28 = .ok (.iaload, 1) := by decide +kernel
theorem dL_law_29 : decode cL_law 29 = .ok (.bipush 31, 2) := by decide +kernel
theorem dL_law_31 : decode cL_law 31 = .ok (.iand, 1) := by decide +kernel
theorem dL_law_32 : decode cL_law 32 = .ok (.tableswitch 929 0 30 #[140, 183, 196, 219, 252, 295, 328, 341, 380, 403, 436, 461, 474, 487, 500, 513, 526, 559, 592, 625, 658, 681, 704, 765, 788, 821, 834, 857, 880, 903, 916], 140) := by decide +kernel
theorem dL_law_172 : decode cL_law 172 = .ok (.aload_n 1, 1) := by decide +kernel
theorem dL_law_173 : decode cL_law 173 = .ok (.aload_n 0, 1) := by decide +kernel
theorem dL_law_174 : decode cL_law 174 = .ok (.iload_n 3, 1) := by decide +kernel
theorem dL_law_175 : decode cL_law 175 = .ok (.iconst 1, 1) := by decide +kernel
theorem dL_law_176 : decode cL_law 176 = .ok (.iadd, 1) := by decide +kernel
theorem dL_law_177 : decode cL_law 177 = .ok (.iaload, 1) := by decide +kernel
theorem dL_law_178 : decode cL_law 178 = .ok (.aload_n 0, 1) := by decide +kernel
theorem dL_law_179 : decode cL_law 179 = .ok (.iload_n 3, 1) := by decide +kernel
theorem dL_law_180 : decode cL_law 180 = .ok (.iconst 2, 1) := by decide +kernel
theorem dL_law_181 : decode cL_law 181 = .ok (.iadd, 1) := by decide +kernel
theorem dL_law_182 : decode cL_law 182 = .ok (.iaload, 1) := by decide +kernel
theorem dL_law_183 : decode cL_law 183 = .ok (.aload_n 0, 1) := by decide +kernel
theorem dL_law_184 : decode cL_law 184 = .ok (.iload_n 3, 1) := by decide +kernel
theorem dL_law_185 : decode cL_law 185 = .ok (.iconst 3, 1) := by decide +kernel
theorem dL_law_186 : decode cL_law 186 = .ok (.iadd, 1) := by decide +kernel
theorem dL_law_187 : decode cL_law 187 = .ok (.iaload, 1) := by decide +kernel
theorem dL_law_188 : decode cL_law 188 = .ok (.invokevirtual 13, 3) := by decide +kernel
theorem dL_law_191 : decode cL_law 191 = .ok (.aload_n 2, 1) := by decide +kernel
theorem dL_law_192 : decode cL_law 192 = .ok (.aload_n 0, 1) := by decide +kernel
theorem dL_law_193 : decode cL_law 193 = .ok (.iload_n 3, 1) := by decide +kernel
theorem dL_law_194 : decode cL_law 194 = .ok (.iconst 1, 1) := by decide +kernel
theorem dL_law_195 : decode cL_law 195 = .ok (.iadd, 1) := by decide +kernel
theorem dL_law_196 : decode cL_law 196 = .ok (.iaload, 1) := by decide +kernel
theorem dL_law_197 : decode cL_law 197 = .ok (.aload_n 0, 1) := by decide +kernel
theorem dL_law_198 : decode cL_law 198 = .ok (.iload_n 3, 1) := by decide +kernel
theorem dL_law_199 : decode cL_law 199 = .ok (.iconst 2, 1) := by decide +kernel
theorem dL_law_200 : decode cL_law 200 = .ok (.iadd, 1) := by decide +kernel
theorem dL_law_201 : decode cL_law 201 = .ok (.iaload, 1) := by decide +kernel
theorem dL_law_202 : decode cL_law 202 = .ok (.aload_n 0, 1) := by decide +kernel
theorem dL_law_203 : decode cL_law 203 = .ok (.iload_n 3, 1) := by decide +kernel
theorem dL_law_204 : decode cL_law 204 = .ok (.iconst 3, 1) := by decide +kernel
theorem dL_law_205 : decode cL_law 205 = .ok (.iadd, 1) := by decide +kernel
theorem dL_law_206 : decode cL_law 206 = .ok (.iaload, 1) := by decide +kernel
theorem dL_law_207 : decode cL_law 207 = .ok (.invokevirtual 17, 3) := by decide +kernel
theorem dL_law_210 : decode cL_law 210 = .ok (.if_icmp .eq 751, 3) := by decide +kernel
theorem dL_law_213 : decode cL_law 213 = .ok (.iconst 0, 1) := by decide +kernel
theorem dL_law_214 : decode cL_law 214 = .ok (.ireturn, 1) := by decide +kernel
theorem dL_law_215 : decode cL_law 215 = .ok (.aload_n 1, 1) := by decide +kernel
theorem dL_law_216 : decode cL_law 216 = .ok (.invokevirtual 18, 3) := by decide +kernel
theorem dL_law_219 : decode cL_law 219 = .ok (.aload_n 2, 1) := by decide +kernel
theorem dL_law_220 : decode cL_law 220 = .ok (.invokevirtual 22, 3) := by decide +kernel
theorem dL_law_223 : decode cL_law 223 = .ok (.if_icmp .eq 738, 3) := by decide +kernel
theorem dL_law_226 : decode cL_law 226 = .ok (.iconst 0, 1) := by decide +kernel
theorem dL_law_227 : decode cL_law 227 = .ok (.ireturn, 1) := by decide +kernel
theorem dL_law_228 : decode cL_law 228 = .ok (.aload_n 1, 1) := by decide +kernel
theorem dL_law_229 : decode cL_law 229 = .ok (.aload_n 0, 1) := by decide +kernel
theorem dL_law_230 : decode cL_law 230 = .ok (.iload_n 3, 1) := by decide +kernel
theorem dL_law_231 : decode cL_law 231 = .ok (.iconst 1, 1) := by decide +kernel
theorem dL_law_232 : decode cL_law 232 = .ok (.iadd, 1) := by decide +kernel
theorem dL_law_233 : decode cL_law 233 = .ok (.iaload, 1) := by decide +kernel
theorem dL_law_234 : decode cL_law 234 = .ok (.invokevirtual 23, 3) := by decide +kernel
theorem dL_law_237 : decode cL_law 237 = .ok (.aload_n 2, 1) := by decide +kernel
theorem dL_law_238 : decode cL_law 238 = .ok (.aload_n 0, 1) := by decide +kernel
theorem dL_law_239 : decode cL_law 239 = .ok (.iload_n 3, 1) := by decide +kernel
theorem dL_law_240 : decode cL_law 240 = .ok (.iconst 1, 1) := by decide +kernel
theorem dL_law_241 : decode cL_law 241 = .ok (.iadd, 1) := by decide +kernel
theorem dL_law_242 : decode cL_law 242 = .ok (.iaload, 1) := by decide +kernel
theorem dL_law_243 : decode cL_law 243 = .ok (.invokevirtual 27, 3) := by decide +kernel
theorem dL_law_246 : decode cL_law 246 = .ok (.if_icmp .eq 715, 3) := by decide +kernel
theorem dL_law_249 : decode cL_law 249 = .ok (.iconst 0, 1) := by decide +kernel
theorem dL_law_250 : decode cL_law 250 = .ok (.ireturn, 1) := by decide +kernel
theorem dL_law_251 : decode cL_law 251 = .ok (.aload_n 1, 1) := by decide +kernel
theorem dL_law_252 : decode cL_law 252 = .ok (.aload_n 0, 1) := by decide +kernel
theorem dL_law_253 : decode cL_law 253 = .ok (.iload_n 3, 1) := by decide +kernel
theorem dL_law_254 : decode cL_law 254 = .ok (.iconst 1, 1) := by decide +kernel
theorem dL_law_255 : decode cL_law 255 = .ok (.iadd, 1) := by decide +kernel
theorem dL_law_256 : decode cL_law 256 = .ok (.iaload, 1) := by decide +kernel
theorem dL_law_257 : decode cL_law 257 = .ok (.aload_n 0, 1) := by decide +kernel
theorem dL_law_258 : decode cL_law 258 = .ok (.iload_n 3, 1) := by decide +kernel
theorem dL_law_259 : decode cL_law 259 = .ok (.iconst 2, 1) := by decide +kernel
theorem dL_law_260 : decode cL_law 260 = .ok (.iadd, 1) := by decide +kernel
theorem dL_law_261 : decode cL_law 261 = .ok (.iaload, 1) := by decide +kernel
theorem dL_law_262 : decode cL_law 262 = .ok (.invokevirtual 28, 3) := by decide +kernel
theorem dL_law_265 : decode cL_law 265 = .ok (.aload_n 2, 1) := by decide +kernel
theorem dL_law_266 : decode cL_law 266 = .ok (.aload_n 0, 1) := by decide +kernel
theorem dL_law_267 : decode cL_law 267 = .ok (.iload_n 3, 1) := by decide +kernel
theorem dL_law_268 : decode cL_law 268 = .ok (.iconst 1, 1) := by decide +kernel
theorem dL_law_269 : decode cL_law 269 = .ok (.iadd, 1) := by decide +kernel
theorem dL_law_270 : decode cL_law 270 = .ok (.iaload, 1) := by decide +kernel
theorem dL_law_271 : decode cL_law 271 = .ok (.aload_n 0, 1) := by decide +kernel
theorem dL_law_272 : decode cL_law 272 = .ok (.iload_n 3, 1) := by decide +kernel
theorem dL_law_273 : decode cL_law 273 = .ok (.iconst 2, 1) := by decide +kernel
theorem dL_law_274 : decode cL_law 274 = .ok (.iadd, 1) := by decide +kernel
theorem dL_law_275 : decode cL_law 275 = .ok (.iaload, 1) := by decide +kernel
theorem dL_law_276 : decode cL_law 276 = .ok (.invokevirtual 32, 3) := by decide +kernel
theorem dL_law_279 : decode cL_law 279 = .ok (.if_icmp .eq 682, 3) := by decide +kernel
theorem dL_law_282 : decode cL_law 282 = .ok (.iconst 0, 1) := by decide +kernel
theorem dL_law_283 : decode cL_law 283 = .ok (.ireturn, 1) := by decide +kernel
theorem dL_law_284 : decode cL_law 284 = .ok (.aload_n 1, 1) := by decide +kernel
theorem dL_law_285 : decode cL_law 285 = .ok (.aload_n 0, 1) := by decide +kernel
theorem dL_law_286 : decode cL_law 286 = .ok (.iload_n 3, 1) := by decide +kernel
theorem dL_law_287 : decode cL_law 287 = .ok (.iconst 1, 1) := by decide +kernel
theorem dL_law_288 : decode cL_law 288 = .ok (.iadd, 1) := by decide +kernel
theorem dL_law_289 : decode cL_law 289 = .ok (.iaload, 1) := by decide +kernel
theorem dL_law_290 : decode cL_law 290 = .ok (.aload_n 0, 1) := by decide +kernel
theorem dL_law_291 : decode cL_law 291 = .ok (.iload_n 3, 1) := by decide +kernel
theorem dL_law_292 : decode cL_law 292 = .ok (.iconst 2, 1) := by decide +kernel
theorem dL_law_293 : decode cL_law 293 = .ok (.iadd, 1) := by decide +kernel
theorem dL_law_294 : decode cL_law 294 = .ok (.iaload, 1) := by decide +kernel
theorem dL_law_295 : decode cL_law 295 = .ok (.aload_n 0, 1) := by decide +kernel
theorem dL_law_296 : decode cL_law 296 = .ok (.iload_n 3, 1) := by decide +kernel
theorem dL_law_297 : decode cL_law 297 = .ok (.iconst 3, 1) := by decide +kernel
theorem dL_law_298 : decode cL_law 298 = .ok (.iadd, 1) := by decide +kernel
theorem dL_law_299 : decode cL_law 299 = .ok (.iaload, 1) := by decide +kernel
theorem dL_law_300 : decode cL_law 300 = .ok (.invokevirtual 33, 3) := by decide +kernel
theorem dL_law_303 : decode cL_law 303 = .ok (.aload_n 2, 1) := by decide +kernel
theorem dL_law_304 : decode cL_law 304 = .ok (.aload_n 0, 1) := by decide +kernel
theorem dL_law_305 : decode cL_law 305 = .ok (.iload_n 3, 1) := by decide +kernel
theorem dL_law_306 : decode cL_law 306 = .ok (.iconst 1, 1) := by decide +kernel
theorem dL_law_307 : decode cL_law 307 = .ok (.iadd, 1) := by decide +kernel
theorem dL_law_308 : decode cL_law 308 = .ok (.iaload, 1) := by decide +kernel
theorem dL_law_309 : decode cL_law 309 = .ok (.aload_n 0, 1) := by decide +kernel
theorem dL_law_310 : decode cL_law 310 = .ok (.iload_n 3, 1) := by decide +kernel
theorem dL_law_311 : decode cL_law 311 = .ok (.iconst 2, 1) := by decide +kernel
theorem dL_law_312 : decode cL_law 312 = .ok (.iadd, 1) := by decide +kernel
theorem dL_law_313 : decode cL_law 313 = .ok (.iaload, 1) := by decide +kernel
theorem dL_law_314 : decode cL_law 314 = .ok (.aload_n 0, 1) := by decide +kernel
theorem dL_law_315 : decode cL_law 315 = .ok (.iload_n 3, 1) := by decide +kernel
theorem dL_law_316 : decode cL_law 316 = .ok (.iconst 3, 1) := by decide +kernel
theorem dL_law_317 : decode cL_law 317 = .ok (.iadd, 1) := by decide +kernel
theorem dL_law_318 : decode cL_law 318 = .ok (.iaload, 1) := by decide +kernel
theorem dL_law_319 : decode cL_law 319 = .ok (.invokevirtual 36, 3) := by decide +kernel
theorem dL_law_322 : decode cL_law 322 = .ok (.if_icmp .eq 639, 3) := by decide +kernel
theorem dL_law_325 : decode cL_law 325 = .ok (.iconst 0, 1) := by decide +kernel
theorem dL_law_326 : decode cL_law 326 = .ok (.ireturn, 1) := by decide +kernel
theorem dL_law_327 : decode cL_law 327 = .ok (.aload_n 1, 1) := by decide +kernel
theorem dL_law_328 : decode cL_law 328 = .ok (.aload_n 0, 1) := by decide +kernel
theorem dL_law_329 : decode cL_law 329 = .ok (.iload_n 3, 1) := by decide +kernel
theorem dL_law_330 : decode cL_law 330 = .ok (.iconst 1, 1) := by decide +kernel
theorem dL_law_331 : decode cL_law 331 = .ok (.iadd, 1) := by decide +kernel
theorem dL_law_332 : decode cL_law 332 = .ok (.iaload, 1) := by decide +kernel
theorem dL_law_333 : decode cL_law 333 = .ok (.aload_n 0, 1) := by decide +kernel
theorem dL_law_334 : decode cL_law 334 = .ok (.iload_n 3, 1) := by decide +kernel
theorem dL_law_335 : decode cL_law 335 = .ok (.iconst 2, 1) := by decide +kernel
theorem dL_law_336 : decode cL_law 336 = .ok (.iadd, 1) := by decide +kernel
theorem dL_law_337 : decode cL_law 337 = .ok (.iaload, 1) := by decide +kernel
theorem dL_law_338 : decode cL_law 338 = .ok (.invokevirtual 37, 3) := by decide +kernel
theorem dL_law_341 : decode cL_law 341 = .ok (.aload_n 2, 1) := by decide +kernel
theorem dL_law_342 : decode cL_law 342 = .ok (.aload_n 0, 1) := by decide +kernel
theorem dL_law_343 : decode cL_law 343 = .ok (.iload_n 3, 1) := by decide +kernel
theorem dL_law_344 : decode cL_law 344 = .ok (.iconst 1, 1) := by decide +kernel
theorem dL_law_345 : decode cL_law 345 = .ok (.iadd, 1) := by decide +kernel
theorem dL_law_346 : decode cL_law 346 = .ok (.iaload, 1) := by decide +kernel
theorem dL_law_347 : decode cL_law 347 = .ok (.aload_n 0, 1) := by decide +kernel
theorem dL_law_348 : decode cL_law 348 = .ok (.iload_n 3, 1) := by decide +kernel
theorem dL_law_349 : decode cL_law 349 = .ok (.iconst 2, 1) := by decide +kernel
theorem dL_law_350 : decode cL_law 350 = .ok (.iadd, 1) := by decide +kernel
theorem dL_law_351 : decode cL_law 351 = .ok (.iaload, 1) := by decide +kernel
theorem dL_law_352 : decode cL_law 352 = .ok (.invokevirtual 40, 3) := by decide +kernel
theorem dL_law_355 : decode cL_law 355 = .ok (.if_icmp .eq 606, 3) := by decide +kernel
theorem dL_law_358 : decode cL_law 358 = .ok (.iconst 0, 1) := by decide +kernel
theorem dL_law_359 : decode cL_law 359 = .ok (.ireturn, 1) := by decide +kernel
theorem dL_law_360 : decode cL_law 360 = .ok (.aload_n 1, 1) := by decide +kernel
theorem dL_law_361 : decode cL_law 361 = .ok (.invokevirtual 41, 3) := by decide +kernel
theorem dL_law_364 : decode cL_law 364 = .ok (.aload_n 2, 1) := by decide +kernel
theorem dL_law_365 : decode cL_law 365 = .ok (.invokevirtual 44, 3) := by decide +kernel
theorem dL_law_368 : decode cL_law 368 = .ok (.if_icmp .eq 593, 3) := by decide +kernel
theorem dL_law_371 : decode cL_law 371 = .ok (.iconst 0, 1) := by decide +kernel
theorem dL_law_372 : decode cL_law 372 = .ok (.ireturn, 1) := by decide +kernel
theorem dL_law_373 : decode cL_law 373 = .ok (.aload_n 1, 1) := by decide +kernel
theorem dL_law_374 : decode cL_law 374 = .ok (.aload_n 0, 1) := by decide +kernel
theorem dL_law_375 : decode cL_law 375 = .ok (.iload_n 3, 1) := by decide +kernel
theorem dL_law_376 : decode cL_law 376 = .ok (.iconst 1, 1) := by decide +kernel
theorem dL_law_377 : decode cL_law 377 = .ok (.iadd, 1) := by decide +kernel
theorem dL_law_378 : decode cL_law 378 = .ok (.iaload, 1) := by decide +kernel
theorem dL_law_379 : decode cL_law 379 = .ok (.ifCond .eq 7, 3) := by decide +kernel
theorem dL_law_382 : decode cL_law 382 = .ok (.iconst 1, 1) := by decide +kernel
theorem dL_law_383 : decode cL_law 383 = .ok (.goto 4, 3) := by decide +kernel
theorem dL_law_386 : decode cL_law 386 = .ok (.iconst 0, 1) := by decide +kernel
theorem dL_law_387 : decode cL_law 387 = .ok (.invokevirtual 45, 3) := by decide +kernel
theorem dL_law_390 : decode cL_law 390 = .ok (.aload_n 2, 1) := by decide +kernel
theorem dL_law_391 : decode cL_law 391 = .ok (.aload_n 0, 1) := by decide +kernel
theorem dL_law_392 : decode cL_law 392 = .ok (.iload_n 3, 1) := by decide +kernel
theorem dL_law_393 : decode cL_law 393 = .ok (.iconst 1, 1) := by decide +kernel
theorem dL_law_394 : decode cL_law 394 = .ok (.iadd, 1) := by decide +kernel
theorem dL_law_395 : decode cL_law 395 = .ok (.iaload, 1) := by decide +kernel
theorem dL_law_396 : decode cL_law 396 = .ok (.ifCond .eq 7, 3) := by decide +kernel
theorem dL_law_399 : decode cL_law 399 = .ok (.iconst 1, 1) := by decide +kernel
theorem dL_law_400 : decode cL_law 400 = .ok (.goto 4, 3) := by decide +kernel
theorem dL_law_403 : decode cL_law 403 = .ok (.iconst 0, 1) := by decide +kernel
theorem dL_law_404 : decode cL_law 404 = .ok (.invokevirtual 49, 3) := by decide +kernel
theorem dL_law_407 : decode cL_law 407 = .ok (.if_icmp .eq 554, 3) := by decide +kernel
theorem dL_law_410 : decode cL_law 410 = .ok (.iconst 0, 1) := by decide +kernel
theorem dL_law_411 : decode cL_law 411 = .ok (.ireturn, 1) := by decide +kernel
theorem dL_law_412 : decode cL_law 412 = .ok (.aload_n 1, 1) := by decide +kernel
theorem dL_law_413 : decode cL_law 413 = .ok (.aload_n 0, 1) := by decide +kernel
theorem dL_law_414 : decode cL_law 414 = .ok (.iload_n 3, 1) := by decide +kernel
theorem dL_law_415 : decode cL_law 415 = .ok (.iconst 1, 1) := by decide +kernel
theorem dL_law_416 : decode cL_law 416 = .ok (.iadd, 1) := by decide +kernel
theorem dL_law_417 : decode cL_law 417 = .ok (.iaload, 1) := by decide +kernel
theorem dL_law_418 : decode cL_law 418 = .ok (.invokevirtual 50, 3) := by decide +kernel
theorem dL_law_421 : decode cL_law 421 = .ok (.aload_n 2, 1) := by decide +kernel
theorem dL_law_422 : decode cL_law 422 = .ok (.aload_n 0, 1) := by decide +kernel
theorem dL_law_423 : decode cL_law 423 = .ok (.iload_n 3, 1) := by decide +kernel
theorem dL_law_424 : decode cL_law 424 = .ok (.iconst 1, 1) := by decide +kernel
theorem dL_law_425 : decode cL_law 425 = .ok (.iadd, 1) := by decide +kernel
theorem dL_law_426 : decode cL_law 426 = .ok (.iaload, 1) := by decide +kernel
theorem dL_law_427 : decode cL_law 427 = .ok (.invokevirtual 53, 3) := by decide +kernel
theorem dL_law_430 : decode cL_law 430 = .ok (.if_icmp .eq 531, 3) := by decide +kernel
theorem dL_law_433 : decode cL_law 433 = .ok (.iconst 0, 1) := by decide +kernel
theorem dL_law_434 : decode cL_law 434 = .ok (.ireturn, 1) := by decide +kernel
theorem dL_law_435 : decode cL_law 435 = .ok (.aload_n 1, 1) := by decide +kernel
theorem dL_law_436 : decode cL_law 436 = .ok (.aload_n 0, 1) := by decide +kernel
theorem dL_law_437 : decode cL_law 437 = .ok (.iload_n 3, 1) := by decide +kernel
theorem dL_law_438 : decode cL_law 438 = .ok (.iconst 1, 1) := by decide +kernel
theorem dL_law_439 : decode cL_law 439 = .ok (.iadd, 1) := by decide +kernel
theorem dL_law_440 : decode cL_law 440 = .ok (.iaload, 1) := by decide +kernel
theorem dL_law_441 : decode cL_law 441 = .ok (.aload_n 0, 1) := by decide +kernel
theorem dL_law_442 : decode cL_law 442 = .ok (.iload_n 3, 1) := by decide +kernel
theorem dL_law_443 : decode cL_law 443 = .ok (.iconst 2, 1) := by decide +kernel
theorem dL_law_444 : decode cL_law 444 = .ok (.iadd, 1) := by decide +kernel
theorem dL_law_445 : decode cL_law 445 = .ok (.iaload, 1) := by decide +kernel
theorem dL_law_446 : decode cL_law 446 = .ok (.invokevirtual 54, 3) := by decide +kernel
theorem dL_law_449 : decode cL_law 449 = .ok (.aload_n 2, 1) := by decide +kernel
theorem dL_law_450 : decode cL_law 450 = .ok (.aload_n 0, 1) := by decide +kernel
theorem dL_law_451 : decode cL_law 451 = .ok (.iload_n 3, 1) := by decide +kernel
theorem dL_law_452 : decode cL_law 452 = .ok (.iconst 1, 1) := by decide +kernel
theorem dL_law_453 : decode cL_law 453 = .ok (.iadd, 1) := by decide +kernel
theorem dL_law_454 : decode cL_law 454 = .ok (.iaload, 1) := by decide +kernel
theorem dL_law_455 : decode cL_law 455 = .ok (.aload_n 0, 1) := by decide +kernel
theorem dL_law_456 : decode cL_law 456 = .ok (.iload_n 3, 1) := by decide +kernel
theorem dL_law_457 : decode cL_law 457 = .ok (.iconst 2, 1) := by decide +kernel
theorem dL_law_458 : decode cL_law 458 = .ok (.iadd, 1) := by decide +kernel
theorem dL_law_459 : decode cL_law 459 = .ok (.iaload, 1) := by decide +kernel
theorem dL_law_460 : decode cL_law 460 = .ok (.invokevirtual 57, 3) := by decide +kernel
theorem dL_law_463 : decode cL_law 463 = .ok (.if_icmp .eq 498, 3) := by decide +kernel
theorem dL_law_466 : decode cL_law 466 = .ok (.iconst 0, 1) := by decide +kernel
theorem dL_law_467 : decode cL_law 467 = .ok (.ireturn, 1) := by decide +kernel
theorem dL_law_468 : decode cL_law 468 = .ok (.aload_n 1, 1) := by decide +kernel
theorem dL_law_469 : decode cL_law 469 = .ok (.aload_n 0, 1) := by decide +kernel
theorem dL_law_470 : decode cL_law 470 = .ok (.iload_n 3, 1) := by decide +kernel
theorem dL_law_471 : decode cL_law 471 = .ok (.iconst 1, 1) := by decide +kernel
theorem dL_law_472 : decode cL_law 472 = .ok (.iadd, 1) := by decide +kernel
theorem dL_law_473 : decode cL_law 473 = .ok (.iaload, 1) := by decide +kernel
theorem dL_law_474 : decode cL_law 474 = .ok (.i2c, 1) := by decide +kernel
theorem dL_law_475 : decode cL_law 475 = .ok (.invokevirtual 58, 3) := by decide +kernel
theorem dL_law_478 : decode cL_law 478 = .ok (.aload_n 2, 1) := by decide +kernel
theorem dL_law_479 : decode cL_law 479 = .ok (.aload_n 0, 1) := by decide +kernel
theorem dL_law_480 : decode cL_law 480 = .ok (.iload_n 3, 1) := by decide +kernel
theorem dL_law_481 : decode cL_law 481 = .ok (.iconst 1, 1) := by decide +kernel
theorem dL_law_482 : decode cL_law 482 = .ok (.iadd, 1) := by decide +kernel
theorem dL_law_483 : decode cL_law 483 = .ok (.iaload, 1) := by decide +kernel
theorem dL_law_484 : decode cL_law 484 = .ok (.i2c, 1) := by decide +kernel
theorem dL_law_485 : decode cL_law 485 = .ok (.invokevirtual 62, 3) := by decide +kernel
theorem dL_law_488 : decode cL_law 488 = .ok (.if_icmp .eq 473, 3) := by decide +kernel
theorem dL_law_491 : decode cL_law 491 = .ok (.iconst 0, 1) := by decide +kernel
theorem dL_law_492 : decode cL_law 492 = .ok (.ireturn, 1) := by decide +kernel
theorem dL_law_493 : decode cL_law 493 = .ok (.aload_n 1, 1) := by decide +kernel
theorem dL_law_494 : decode cL_law 494 = .ok (.invokevirtual 63, 3) := by decide +kernel
theorem dL_law_497 : decode cL_law 497 = .ok (.aload_n 2, 1) := by decide +kernel
theorem dL_law_498 : decode cL_law 498 = .ok (.invokevirtual 66, 3) := by decide +kernel
theorem dL_law_501 : decode cL_law 501 = .ok (.if_icmp .eq 460, 3) := by decide +kernel
theorem dL_law_504 : decode cL_law 504 = .ok (.iconst 0, 1) := by decide +kernel
theorem dL_law_505 : decode cL_law 505 = .ok (.ireturn, 1) := by decide +kernel
theorem dL_law_506 : decode cL_law 506 = .ok (.aload_n 1, 1) := by decide +kernel
theorem dL_law_507 : decode cL_law 507 = .ok (.invokevirtual 67, 3) := by decide +kernel
theorem dL_law_510 : decode cL_law 510 = .ok (.aload_n 2, 1) := by decide +kernel
theorem dL_law_511 : decode cL_law 511 = .ok (.invokevirtual 70, 3) := by decide +kernel
theorem dL_law_514 : decode cL_law 514 = .ok (.if_icmp .eq 447, 3) := by decide +kernel
theorem dL_law_517 : decode cL_law 517 = .ok (.iconst 0, 1) := by decide +kernel
theorem dL_law_518 : decode cL_law 518 = .ok (.ireturn, 1) := by decide +kernel
theorem dL_law_519 : decode cL_law 519 = .ok (.aload_n 1, 1) := by decide +kernel
theorem dL_law_520 : decode cL_law 520 = .ok (.invokevirtual 71, 3) := by decide +kernel
theorem dL_law_523 : decode cL_law 523 = .ok (.aload_n 2, 1) := by decide +kernel
theorem dL_law_524 : decode cL_law 524 = .ok (.invokevirtual 74, 3) := by decide +kernel
theorem dL_law_527 : decode cL_law 527 = .ok (.if_icmp .eq 434, 3) := by decide +kernel
theorem dL_law_530 : decode cL_law 530 = .ok (.iconst 0, 1) := by decide +kernel
theorem dL_law_531 : decode cL_law 531 = .ok (.ireturn, 1) := by decide +kernel
theorem dL_law_532 : decode cL_law 532 = .ok (.aload_n 1, 1) := by decide +kernel
theorem dL_law_533 : decode cL_law 533 = .ok (.invokevirtual 75, 3) := by decide +kernel
theorem dL_law_536 : decode cL_law 536 = .ok (.aload_n 2, 1) := by decide +kernel
theorem dL_law_537 : decode cL_law 537 = .ok (.invokevirtual 78, 3) := by decide +kernel
theorem dL_law_540 : decode cL_law 540 = .ok (.if_icmp .eq 421, 3) := by decide +kernel
theorem dL_law_543 : decode cL_law 543 = .ok (.iconst 0, 1) := by decide +kernel
theorem dL_law_544 : decode cL_law 544 = .ok (.ireturn, 1) := by decide +kernel
theorem dL_law_545 : decode cL_law 545 = .ok (.aload_n 1, 1) := by decide +kernel
theorem dL_law_546 : decode cL_law 546 = .ok (.invokevirtual 79, 3) := by decide +kernel
theorem dL_law_549 : decode cL_law 549 = .ok (.aload_n 2, 1) := by decide +kernel
theorem dL_law_550 : decode cL_law 550 = .ok (.invokevirtual 82, 3) := by decide +kernel
theorem dL_law_553 : decode cL_law 553 = .ok (.if_icmp .eq 408, 3) := by decide +kernel
theorem dL_law_556 : decode cL_law 556 = .ok (.iconst 0, 1) := by decide +kernel
theorem dL_law_557 : decode cL_law 557 = .ok (.ireturn, 1) := by decide +kernel
theorem dL_law_558 : decode cL_law 558 = .ok (.aload_n 1, 1) := by decide +kernel
theorem dL_law_559 : decode cL_law 559 = .ok (.aload_n 0, 1) := by decide +kernel
theorem dL_law_560 : decode cL_law 560 = .ok (.iload_n 3, 1) := by decide +kernel
theorem dL_law_561 : decode cL_law 561 = .ok (.iconst 1, 1) := by decide +kernel
theorem dL_law_562 : decode cL_law 562 = .ok (.iadd, 1) := by decide +kernel
theorem dL_law_563 : decode cL_law 563 = .ok (.iaload, 1) := by decide +kernel
theorem dL_law_564 : decode cL_law 564 = .ok (.aload_n 0, 1) := by decide +kernel
theorem dL_law_565 : decode cL_law 565 = .ok (.iload_n 3, 1) := by decide +kernel
theorem dL_law_566 : decode cL_law 566 = .ok (.iconst 2, 1) := by decide +kernel
theorem dL_law_567 : decode cL_law 567 = .ok (.iadd, 1) := by decide +kernel
theorem dL_law_568 : decode cL_law 568 = .ok (.iaload, 1) := by decide +kernel
theorem dL_law_569 : decode cL_law 569 = .ok (.invokevirtual 83, 3) := by decide +kernel
theorem dL_law_572 : decode cL_law 572 = .ok (.aload_n 2, 1) := by decide +kernel
theorem dL_law_573 : decode cL_law 573 = .ok (.aload_n 0, 1) := by decide +kernel
theorem dL_law_574 : decode cL_law 574 = .ok (.iload_n 3, 1) := by decide +kernel
theorem dL_law_575 : decode cL_law 575 = .ok (.iconst 1, 1) := by decide +kernel
theorem dL_law_576 : decode cL_law 576 = .ok (.iadd, 1) := by decide +kernel
theorem dL_law_577 : decode cL_law 577 = .ok (.iaload, 1) := by decide +kernel
theorem dL_law_578 : decode cL_law 578 = .ok (.aload_n 0, 1) := by decide +kernel
theorem dL_law_579 : decode cL_law 579 = .ok (.iload_n 3, 1) := by decide +kernel
theorem dL_law_580 : decode cL_law 580 = .ok (.iconst 2, 1) := by decide +kernel
theorem dL_law_581 : decode cL_law 581 = .ok (.iadd, 1) := by decide +kernel
theorem dL_law_582 : decode cL_law 582 = .ok (.iaload, 1) := by decide +kernel
theorem dL_law_583 : decode cL_law 583 = .ok (.invokevirtual 86, 3) := by decide +kernel
theorem dL_law_586 : decode cL_law 586 = .ok (.if_icmp .eq 375, 3) := by decide +kernel
theorem dL_law_589 : decode cL_law 589 = .ok (.iconst 0, 1) := by decide +kernel
theorem dL_law_590 : decode cL_law 590 = .ok (.ireturn, 1) := by decide +kernel
theorem dL_law_591 : decode cL_law 591 = .ok (.aload_n 1, 1) := by decide +kernel
theorem dL_law_592 : decode cL_law 592 = .ok (.aload_n 0, 1) := by decide +kernel
theorem dL_law_593 : decode cL_law 593 = .ok (.iload_n 3, 1) := by decide +kernel
theorem dL_law_594 : decode cL_law 594 = .ok (.iconst 1, 1) := by decide +kernel
theorem dL_law_595 : decode cL_law 595 = .ok (.iadd, 1) := by decide +kernel
theorem dL_law_596 : decode cL_law 596 = .ok (.iaload, 1) := by decide +kernel
theorem dL_law_597 : decode cL_law 597 = .ok (.aload_n 0, 1) := by decide +kernel
theorem dL_law_598 : decode cL_law 598 = .ok (.iload_n 3, 1) := by decide +kernel
theorem dL_law_599 : decode cL_law 599 = .ok (.iconst 2, 1) := by decide +kernel
theorem dL_law_600 : decode cL_law 600 = .ok (.iadd, 1) := by decide +kernel
theorem dL_law_601 : decode cL_law 601 = .ok (.iaload, 1) := by decide +kernel
theorem dL_law_602 : decode cL_law 602 = .ok (.invokevirtual 87, 3) := by decide +kernel
theorem dL_law_605 : decode cL_law 605 = .ok (.aload_n 2, 1) := by decide +kernel
theorem dL_law_606 : decode cL_law 606 = .ok (.aload_n 0, 1) := by decide +kernel
theorem dL_law_607 : decode cL_law 607 = .ok (.iload_n 3, 1) := by decide +kernel
theorem dL_law_608 : decode cL_law 608 = .ok (.iconst 1, 1) := by decide +kernel
theorem dL_law_609 : decode cL_law 609 = .ok (.iadd, 1) := by decide +kernel
theorem dL_law_610 : decode cL_law 610 = .ok (.iaload, 1) := by decide +kernel
theorem dL_law_611 : decode cL_law 611 = .ok (.aload_n 0, 1) := by decide +kernel
theorem dL_law_612 : decode cL_law 612 = .ok (.iload_n 3, 1) := by decide +kernel
theorem dL_law_613 : decode cL_law 613 = .ok (.iconst 2, 1) := by decide +kernel
theorem dL_law_614 : decode cL_law 614 = .ok (.iadd, 1) := by decide +kernel
theorem dL_law_615 : decode cL_law 615 = .ok (.iaload, 1) := by decide +kernel
theorem dL_law_616 : decode cL_law 616 = .ok (.invokevirtual 90, 3) := by decide +kernel
theorem dL_law_619 : decode cL_law 619 = .ok (.if_icmp .eq 342, 3) := by decide +kernel
theorem dL_law_622 : decode cL_law 622 = .ok (.iconst 0, 1) := by decide +kernel
theorem dL_law_623 : decode cL_law 623 = .ok (.ireturn, 1) := by decide +kernel
theorem dL_law_624 : decode cL_law 624 = .ok (.aload_n 1, 1) := by decide +kernel
theorem dL_law_625 : decode cL_law 625 = .ok (.aload_n 0, 1) := by decide +kernel
theorem dL_law_626 : decode cL_law 626 = .ok (.iload_n 3, 1) := by decide +kernel
theorem dL_law_627 : decode cL_law 627 = .ok (.iconst 1, 1) := by decide +kernel
theorem dL_law_628 : decode cL_law 628 = .ok (.iadd, 1) := by decide +kernel
theorem dL_law_629 : decode cL_law 629 = .ok (.iaload, 1) := by decide +kernel
theorem dL_law_630 : decode cL_law 630 = .ok (.aload_n 0, 1) := by decide +kernel
theorem dL_law_631 : decode cL_law 631 = .ok (.iload_n 3, 1) := by decide +kernel
theorem dL_law_632 : decode cL_law 632 = .ok (.iconst 2, 1) := by decide +kernel
theorem dL_law_633 : decode cL_law 633 = .ok (.iadd, 1) := by decide +kernel
theorem dL_law_634 : decode cL_law 634 = .ok (.iaload, 1) := by decide +kernel
theorem dL_law_635 : decode cL_law 635 = .ok (.invokevirtual 91, 3) := by decide +kernel
theorem dL_law_638 : decode cL_law 638 = .ok (.aload_n 2, 1) := by decide +kernel
theorem dL_law_639 : decode cL_law 639 = .ok (.aload_n 0, 1) := by decide +kernel
theorem dL_law_640 : decode cL_law 640 = .ok (.iload_n 3, 1) := by decide +kernel
theorem dL_law_641 : decode cL_law 641 = .ok (.iconst 1, 1) := by decide +kernel
theorem dL_law_642 : decode cL_law 642 = .ok (.iadd, 1) := by decide +kernel
theorem dL_law_643 : decode cL_law 643 = .ok (.iaload, 1) := by decide +kernel
theorem dL_law_644 : decode cL_law 644 = .ok (.aload_n 0, 1) := by decide +kernel
theorem dL_law_645 : decode cL_law 645 = .ok (.iload_n 3, 1) := by decide +kernel
theorem dL_law_646 : decode cL_law 646 = .ok (.iconst 2, 1) := by decide +kernel
theorem dL_law_647 : decode cL_law 647 = .ok (.iadd, 1) := by decide +kernel
theorem dL_law_648 : decode cL_law 648 = .ok (.iaload, 1) := by decide +kernel
theorem dL_law_649 : decode cL_law 649 = .ok (.invokevirtual 94, 3) := by decide +kernel
theorem dL_law_652 : decode cL_law 652 = .ok (.if_icmp .eq 309, 3) := by decide +kernel
theorem dL_law_655 : decode cL_law 655 = .ok (.iconst 0, 1) := by decide +kernel
theorem dL_law_656 : decode cL_law 656 = .ok (.ireturn, 1) := by decide +kernel
theorem dL_law_657 : decode cL_law 657 = .ok (.aload_n 1, 1) := by decide +kernel
theorem dL_law_658 : decode cL_law 658 = .ok (.aload_n 0, 1) := by decide +kernel
theorem dL_law_659 : decode cL_law 659 = .ok (.iload_n 3, 1) := by decide +kernel
theorem dL_law_660 : decode cL_law 660 = .ok (.iconst 1, 1) := by decide +kernel
theorem dL_law_661 : decode cL_law 661 = .ok (.iadd, 1) := by decide +kernel
theorem dL_law_662 : decode cL_law 662 = .ok (.iaload, 1) := by decide +kernel
theorem dL_law_663 : decode cL_law 663 = .ok (.aload_n 0, 1) := by decide +kernel
theorem dL_law_664 : decode cL_law 664 = .ok (.iload_n 3, 1) := by decide +kernel
theorem dL_law_665 : decode cL_law 665 = .ok (.iconst 2, 1) := by decide +kernel
theorem dL_law_666 : decode cL_law 666 = .ok (.iadd, 1) := by decide +kernel
theorem dL_law_667 : decode cL_law 667 = .ok (.iaload, 1) := by decide +kernel
theorem dL_law_668 : decode cL_law 668 = .ok (.invokevirtual 95, 3) := by decide +kernel
theorem dL_law_671 : decode cL_law 671 = .ok (.aload_n 2, 1) := by decide +kernel
theorem dL_law_672 : decode cL_law 672 = .ok (.aload_n 0, 1) := by decide +kernel
theorem dL_law_673 : decode cL_law 673 = .ok (.iload_n 3, 1) := by decide +kernel
theorem dL_law_674 : decode cL_law 674 = .ok (.iconst 1, 1) := by decide +kernel
theorem dL_law_675 : decode cL_law 675 = .ok (.iadd, 1) := by decide +kernel
theorem dL_law_676 : decode cL_law 676 = .ok (.iaload, 1) := by decide +kernel
theorem dL_law_677 : decode cL_law 677 = .ok (.aload_n 0, 1) := by decide +kernel
theorem dL_law_678 : decode cL_law 678 = .ok (.iload_n 3, 1) := by decide +kernel
theorem dL_law_679 : decode cL_law 679 = .ok (.iconst 2, 1) := by decide +kernel
theorem dL_law_680 : decode cL_law 680 = .ok (.iadd, 1) := by decide +kernel
theorem dL_law_681 : decode cL_law 681 = .ok (.iaload, 1) := by decide +kernel
theorem dL_law_682 : decode cL_law 682 = .ok (.invokevirtual 98, 3) := by decide +kernel
theorem dL_law_685 : decode cL_law 685 = .ok (.if_icmp .eq 276, 3) := by decide +kernel
theorem dL_law_688 : decode cL_law 688 = .ok (.iconst 0, 1) := by decide +kernel
theorem dL_law_689 : decode cL_law 689 = .ok (.ireturn, 1) := by decide +kernel
theorem dL_law_690 : decode cL_law 690 = .ok (.aload_n 1, 1) := by decide +kernel
theorem dL_law_691 : decode cL_law 691 = .ok (.aload_n 0, 1) := by decide +kernel
theorem dL_law_692 : decode cL_law 692 = .ok (.iload_n 3, 1) := by decide +kernel
theorem dL_law_693 : decode cL_law 693 = .ok (.iconst 1, 1) := by decide +kernel
theorem dL_law_694 : decode cL_law 694 = .ok (.iadd, 1) := by decide +kernel
theorem dL_law_695 : decode cL_law 695 = .ok (.iaload, 1) := by decide +kernel
theorem dL_law_696 : decode cL_law 696 = .ok (.invokevirtual 99, 3) := by decide +kernel
theorem dL_law_699 : decode cL_law 699 = .ok (.aload_n 2, 1) := by decide +kernel
theorem dL_law_700 : decode cL_law 700 = .ok (.aload_n 0, 1) := by decide +kernel
theorem dL_law_701 : decode cL_law 701 = .ok (.iload_n 3, 1) := by decide +kernel
theorem dL_law_702 : decode cL_law 702 = .ok (.iconst 1, 1) := by decide +kernel
theorem dL_law_703 : decode cL_law 703 = .ok (.iadd, 1) := by decide +kernel
theorem dL_law_704 : decode cL_law 704 = .ok (.iaload, 1) := by decide +kernel
theorem dL_law_705 : decode cL_law 705 = .ok (.invokevirtual 102, 3) := by decide +kernel
theorem dL_law_708 : decode cL_law 708 = .ok (.if_icmp .eq 253, 3) := by decide +kernel
theorem dL_law_711 : decode cL_law 711 = .ok (.iconst 0, 1) := by decide +kernel
theorem dL_law_712 : decode cL_law 712 = .ok (.ireturn, 1) := by decide +kernel
theorem dL_law_713 : decode cL_law 713 = .ok (.aload_n 1, 1) := by decide +kernel
theorem dL_law_714 : decode cL_law 714 = .ok (.aload_n 0, 1) := by decide +kernel
theorem dL_law_715 : decode cL_law 715 = .ok (.iload_n 3, 1) := by decide +kernel
theorem dL_law_716 : decode cL_law 716 = .ok (.iconst 1, 1) := by decide +kernel
theorem dL_law_717 : decode cL_law 717 = .ok (.iadd, 1) := by decide +kernel
theorem dL_law_718 : decode cL_law 718 = .ok (.iaload, 1) := by decide +kernel
theorem dL_law_719 : decode cL_law 719 = .ok (.invokevirtual 103, 3) := by decide +kernel
theorem dL_law_722 : decode cL_law 722 = .ok (.aload_n 2, 1) := by decide +kernel
theorem dL_law_723 : decode cL_law 723 = .ok (.aload_n 0, 1) := by decide +kernel
theorem dL_law_724 : decode cL_law 724 = .ok (.iload_n 3, 1) := by decide +kernel
theorem dL_law_725 : decode cL_law 725 = .ok (.iconst 1, 1) := by decide +kernel
theorem dL_law_726 : decode cL_law 726 = .ok (.iadd, 1) := by decide +kernel
theorem dL_law_727 : decode cL_law 727 = .ok (.iaload, 1) := by decide +kernel
theorem dL_law_728 : decode cL_law 728 = .ok (.invokevirtual 106, 3) := by decide +kernel
theorem dL_law_731 : decode cL_law 731 = .ok (.if_icmp .eq 230, 3) := by decide +kernel
theorem dL_law_734 : decode cL_law 734 = .ok (.iconst 0, 1) := by decide +kernel
theorem dL_law_735 : decode cL_law 735 = .ok (.ireturn, 1) := by decide +kernel
theorem dL_law_736 : decode cL_law 736 = .ok (.aload_n 1, 1) := by decide +kernel
theorem dL_law_737 : decode cL_law 737 = .ok (.aload_n 0, 1) := by decide +kernel
theorem dL_law_738 : decode cL_law 738 = .ok (.iload_n 3, 1) := by decide +kernel
theorem dL_law_739 : decode cL_law 739 = .ok (.iconst 1, 1) := by decide +kernel
theorem dL_law_740 : decode cL_law 740 = .ok (.iadd, 1) := by decide +kernel
theorem dL_law_741 : decode cL_law 741 = .ok (.iaload, 1) := by decide +kernel
theorem dL_law_742 : decode cL_law 742 = .ok (.aload_n 0, 1) := by decide +kernel
theorem dL_law_743 : decode cL_law 743 = .ok (.iload_n 3, 1) := by decide +kernel
theorem dL_law_744 : decode cL_law 744 = .ok (.iconst 2, 1) := by decide +kernel
theorem dL_law_745 : decode cL_law 745 = .ok (.iadd, 1) := by decide +kernel
theorem dL_law_746 : decode cL_law 746 = .ok (.iaload, 1) := by decide +kernel
theorem dL_law_747 : decode cL_law 747 = .ok (.invokevirtual 107, 3) := by decide +kernel
theorem dL_law_750 : decode cL_law 750 = .ok (.dstore 4, 2) := by decide +kernel
theorem dL_law_752 : decode cL_law 752 = .ok (.aload_n 2, 1) := by decide +kernel
theorem dL_law_753 : decode cL_law 753 = .ok (.aload_n 0, 1) := by decide +kernel
theorem dL_law_754 : decode cL_law 754 = .ok (.iload_n 3, 1) := by decide +kernel
theorem dL_law_755 : decode cL_law 755 = .ok (.iconst 1, 1) := by decide +kernel
theorem dL_law_756 : decode cL_law 756 = .ok (.iadd, 1) := by decide +kernel
theorem dL_law_757 : decode cL_law 757 = .ok (.iaload, 1) := by decide +kernel
theorem dL_law_758 : decode cL_law 758 = .ok (.aload_n 0, 1) := by decide +kernel
theorem dL_law_759 : decode cL_law 759 = .ok (.iload_n 3, 1) := by decide +kernel
theorem dL_law_760 : decode cL_law 760 = .ok (.iconst 2, 1) := by decide +kernel
theorem dL_law_761 : decode cL_law 761 = .ok (.iadd, 1) := by decide +kernel
theorem dL_law_762 : decode cL_law 762 = .ok (.iaload, 1) := by decide +kernel
theorem dL_law_763 : decode cL_law 763 = .ok (.invokevirtual 111, 3) := by decide +kernel
theorem dL_law_766 : decode cL_law 766 = .ok (.dstore 6, 2) := by decide +kernel
theorem dL_law_768 : decode cL_law 768 = .ok (.dload 4, 2) := by decide +kernel
theorem dL_law_770 : decode cL_law 770 = .ok (.dload 6, 2) := by decide +kernel
theorem dL_law_772 : decode cL_law 772 = .ok (.dcmp .l, 1) := by decide +kernel
theorem dL_law_773 : decode cL_law 773 = .ok (.ifCond .eq 21, 3) := by decide +kernel
theorem dL_law_776 : decode cL_law 776 = .ok (.dload 4, 2) := by decide +kernel
theorem dL_law_778 : decode cL_law 778 = .ok (.dload 4, 2) := by decide +kernel
theorem dL_law_780 : decode cL_law 780 = .ok (.dcmp .l, 1) := by decide +kernel
theorem dL_law_781 : decode cL_law 781 = .ok (.ifCond .eq 11, 3) := by decide +kernel
theorem dL_law_784 : decode cL_law 784 = .ok (.dload 6, 2) := by decide +kernel
theorem dL_law_786 : decode cL_law 786 = .ok (.dload 6, 2) := by decide +kernel
theorem dL_law_788 : decode cL_law 788 = .ok (.dcmp .l, 1) := by decide +kernel
theorem dL_law_789 : decode cL_law 789 = .ok (.ifCond .ne 5, 3) := by decide +kernel
theorem dL_law_792 : decode cL_law 792 = .ok (.iconst 0, 1) := by decide +kernel
theorem dL_law_793 : decode cL_law 793 = .ok (.ireturn, 1) := by decide +kernel
theorem dL_law_794 : decode cL_law 794 = .ok (.goto 167, 3) := by decide +kernel
theorem dL_law_797 : decode cL_law 797 = .ok (.aload_n 1, 1) := by decide +kernel
theorem dL_law_798 : decode cL_law 798 = .ok (.aload_n 0, 1) := by decide +kernel
theorem dL_law_799 : decode cL_law 799 = .ok (.iload_n 3, 1) := by decide +kernel
theorem dL_law_800 : decode cL_law 800 = .ok (.iconst 1, 1) := by decide +kernel
theorem dL_law_801 : decode cL_law 801 = .ok (.iadd, 1) := by decide +kernel
theorem dL_law_802 : decode cL_law 802 = .ok (.iaload, 1) := by decide +kernel
theorem dL_law_803 : decode cL_law 803 = .ok (.invokevirtual 112, 3) := by decide +kernel
theorem dL_law_806 : decode cL_law 806 = .ok (.aload_n 2, 1) := by decide +kernel
theorem dL_law_807 : decode cL_law 807 = .ok (.aload_n 0, 1) := by decide +kernel
theorem dL_law_808 : decode cL_law 808 = .ok (.iload_n 3, 1) := by decide +kernel
theorem dL_law_809 : decode cL_law 809 = .ok (.iconst 1, 1) := by decide +kernel
theorem dL_law_810 : decode cL_law 810 = .ok (.iadd, 1) := by decide +kernel
theorem dL_law_811 : decode cL_law 811 = .ok (.iaload, 1) := by decide +kernel
theorem dL_law_812 : decode cL_law 812 = .ok (.invokevirtual 115, 3) := by decide +kernel
theorem dL_law_815 : decode cL_law 815 = .ok (.if_icmp .eq 146, 3) := by decide +kernel
theorem dL_law_818 : decode cL_law 818 = .ok (.iconst 0, 1) := by decide +kernel
theorem dL_law_819 : decode cL_law 819 = .ok (.ireturn, 1) := by decide +kernel
theorem dL_law_820 : decode cL_law 820 = .ok (.aload_n 1, 1) := by decide +kernel
theorem dL_law_821 : decode cL_law 821 = .ok (.aload_n 0, 1) := by decide +kernel
theorem dL_law_822 : decode cL_law 822 = .ok (.iload_n 3, 1) := by decide +kernel
theorem dL_law_823 : decode cL_law 823 = .ok (.iconst 1, 1) := by decide +kernel
theorem dL_law_824 : decode cL_law 824 = .ok (.iadd, 1) := by decide +kernel
theorem dL_law_825 : decode cL_law 825 = .ok (.iaload, 1) := by decide +kernel
theorem dL_law_826 : decode cL_law 826 = .ok (.aload_n 0, 1) := by decide +kernel
theorem dL_law_827 : decode cL_law 827 = .ok (.iload_n 3, 1) := by decide +kernel
theorem dL_law_828 : decode cL_law 828 = .ok (.iconst 2, 1) := by decide +kernel
theorem dL_law_829 : decode cL_law 829 = .ok (.iadd, 1) := by decide +kernel
theorem dL_law_830 : decode cL_law 830 = .ok (.iaload, 1) := by decide +kernel
theorem dL_law_831 : decode cL_law 831 = .ok (.invokevirtual 116, 3) := by decide +kernel
theorem dL_law_834 : decode cL_law 834 = .ok (.aload_n 2, 1) := by decide +kernel
theorem dL_law_835 : decode cL_law 835 = .ok (.aload_n 0, 1) := by decide +kernel
theorem dL_law_836 : decode cL_law 836 = .ok (.iload_n 3, 1) := by decide +kernel
theorem dL_law_837 : decode cL_law 837 = .ok (.iconst 1, 1) := by decide +kernel
theorem dL_law_838 : decode cL_law 838 = .ok (.iadd, 1) := by decide +kernel
theorem dL_law_839 : decode cL_law 839 = .ok (.iaload, 1) := by decide +kernel
theorem dL_law_840 : decode cL_law 840 = .ok (.aload_n 0, 1) := by decide +kernel
theorem dL_law_841 : decode cL_law 841 = .ok (.iload_n 3, 1) := by decide +kernel
theorem dL_law_842 : decode cL_law 842 = .ok (.iconst 2, 1) := by decide +kernel
theorem dL_law_843 : decode cL_law 843 = .ok (.iadd, 1) := by decide +kernel
theorem dL_law_844 : decode cL_law 844 = .ok (.iaload, 1) := by decide +kernel
theorem dL_law_845 : decode cL_law 845 = .ok (.invokevirtual 119, 3) := by decide +kernel
theorem dL_law_848 : decode cL_law 848 = .ok (.if_icmp .eq 113, 3) := by decide +kernel
theorem dL_law_851 : decode cL_law 851 = .ok (.iconst 0, 1) := by decide +kernel
theorem dL_law_852 : decode cL_law 852 = .ok (.ireturn, 1) := by decide +kernel
theorem dL_law_853 : decode cL_law 853 = .ok (.aload_n 1, 1) := by decide +kernel
theorem dL_law_854 : decode cL_law 854 = .ok (.invokevirtual 120, 3) := by decide +kernel
theorem dL_law_857 : decode cL_law 857 = .ok (.aload_n 2, 1) := by decide +kernel
theorem dL_law_858 : decode cL_law 858 = .ok (.invokevirtual 123, 3) := by decide +kernel
theorem dL_law_861 : decode cL_law 861 = .ok (.if_icmp .eq 100, 3) := by decide +kernel
theorem dL_law_864 : decode cL_law 864 = .ok (.iconst 0, 1) := by decide +kernel
theorem dL_law_865 : decode cL_law 865 = .ok (.ireturn, 1) := by decide +kernel
theorem dL_law_866 : decode cL_law 866 = .ok (.aload_n 1, 1) := by decide +kernel
theorem dL_law_867 : decode cL_law 867 = .ok (.aload_n 0, 1) := by decide +kernel
theorem dL_law_868 : decode cL_law 868 = .ok (.iload_n 3, 1) := by decide +kernel
theorem dL_law_869 : decode cL_law 869 = .ok (.iconst 1, 1) := by decide +kernel
theorem dL_law_870 : decode cL_law 870 = .ok (.iadd, 1) := by decide +kernel
theorem dL_law_871 : decode cL_law 871 = .ok (.iaload, 1) := by decide +kernel
theorem dL_law_872 : decode cL_law 872 = .ok (.invokevirtual 124, 3) := by decide +kernel
theorem dL_law_875 : decode cL_law 875 = .ok (.aload_n 2, 1) := by decide +kernel
theorem dL_law_876 : decode cL_law 876 = .ok (.aload_n 0, 1) := by decide +kernel
theorem dL_law_877 : decode cL_law 877 = .ok (.iload_n 3, 1) := by decide +kernel
theorem dL_law_878 : decode cL_law 878 = .ok (.iconst 1, 1) := by decide +kernel
theorem dL_law_879 : decode cL_law 879 = .ok (.iadd, 1) := by decide +kernel
theorem dL_law_880 : decode cL_law 880 = .ok (.iaload, 1) := by decide +kernel
theorem dL_law_881 : decode cL_law 881 = .ok (.invokevirtual 127, 3) := by decide +kernel
theorem dL_law_884 : decode cL_law 884 = .ok (.if_icmp .eq 77, 3) := by decide +kernel
theorem dL_law_887 : decode cL_law 887 = .ok (.iconst 0, 1) := by decide +kernel
theorem dL_law_888 : decode cL_law 888 = .ok (.ireturn, 1) := by decide +kernel
theorem dL_law_889 : decode cL_law 889 = .ok (.aload_n 1, 1) := by decide +kernel
theorem dL_law_890 : decode cL_law 890 = .ok (.aload_n 0, 1) := by decide +kernel
theorem dL_law_891 : decode cL_law 891 = .ok (.iload_n 3, 1) := by decide +kernel
theorem dL_law_892 : decode cL_law 892 = .ok (.iconst 1, 1) := by decide +kernel
theorem dL_law_893 : decode cL_law 893 = .ok (.iadd, 1) := by decide +kernel
theorem dL_law_894 : decode cL_law 894 = .ok (.iaload, 1) := by decide +kernel
theorem dL_law_895 : decode cL_law 895 = .ok (.invokevirtual 128, 3) := by decide +kernel
theorem dL_law_898 : decode cL_law 898 = .ok (.aload_n 2, 1) := by decide +kernel
theorem dL_law_899 : decode cL_law 899 = .ok (.aload_n 0, 1) := by decide +kernel
theorem dL_law_900 : decode cL_law 900 = .ok (.iload_n 3, 1) := by decide +kernel
theorem dL_law_901 : decode cL_law 901 = .ok (.iconst 1, 1) := by decide +kernel
theorem dL_law_902 : decode cL_law 902 = .ok (.iadd, 1) := by decide +kernel
theorem dL_law_903 : decode cL_law 903 = .ok (.iaload, 1) := by decide +kernel
theorem dL_law_904 : decode cL_law 904 = .ok (.invokevirtual 131, 3) := by decide +kernel
theorem dL_law_907 : decode cL_law 907 = .ok (.if_icmp .eq 54, 3) := by decide +kernel
theorem dL_law_910 : decode cL_law 910 = .ok (.iconst 0, 1) := by decide +kernel
theorem dL_law_911 : decode cL_law 911 = .ok (.ireturn, 1) := by decide +kernel
theorem dL_law_912 : decode cL_law 912 = .ok (.aload_n 1, 1) := by decide +kernel
theorem dL_law_913 : decode cL_law 913 = .ok (.aload_n 0, 1) := by decide +kernel
theorem dL_law_914 : decode cL_law 914 = .ok (.iload_n 3, 1) := by decide +kernel
theorem dL_law_915 : decode cL_law 915 = .ok (.iconst 1, 1) := by decide +kernel
theorem dL_law_916 : decode cL_law 916 = .ok (.iadd, 1) := by decide +kernel
theorem dL_law_917 : decode cL_law 917 = .ok (.iaload, 1) := by decide +kernel
theorem dL_law_918 : decode cL_law 918 = .ok (.invokevirtual 132, 3) := by decide +kernel
theorem dL_law_921 : decode cL_law 921 = .ok (.aload_n 2, 1) := by decide +kernel
theorem dL_law_922 : decode cL_law 922 = .ok (.aload_n 0, 1) := by decide +kernel
theorem dL_law_923 : decode cL_law 923 = .ok (.iload_n 3, 1) := by decide +kernel
theorem dL_law_924 : decode cL_law 924 = .ok (.iconst 1, 1) := by decide +kernel
theorem dL_law_925 : decode cL_law 925 = .ok (.iadd, 1) := by decide +kernel
theorem dL_law_926 : decode cL_law 926 = .ok (.iaload, 1) := by decide +kernel
theorem dL_law_927 : decode cL_law 927 = .ok (.invokevirtual 135, 3) := by decide +kernel
theorem dL_law_930 : decode cL_law 930 = .ok (.if_icmp .eq 31, 3) := by decide +kernel
theorem dL_law_933 : decode cL_law 933 = .ok (.iconst 0, 1) := by decide +kernel
theorem dL_law_934 : decode cL_law 934 = .ok (.ireturn, 1) := by decide +kernel
theorem dL_law_935 : decode cL_law 935 = .ok (.aload_n 1, 1) := by decide +kernel
theorem dL_law_936 : decode cL_law 936 = .ok (.invokevirtual 136, 3) := by decide +kernel
theorem dL_law_939 : decode cL_law 939 = .ok (.aload_n 2, 1) := by decide +kernel
theorem dL_law_940 : decode cL_law 940 = .ok (.invokevirtual 139, 3) := by decide +kernel
theorem dL_law_943 : decode cL_law 943 = .ok (.if_icmp .eq 18, 3) := by decide +kernel
theorem dL_law_946 : decode cL_law 946 = .ok (.iconst 0, 1) := by decide +kernel
theorem dL_law_947 : decode cL_law 947 = .ok (.ireturn, 1) := by decide +kernel
theorem dL_law_948 : decode cL_law 948 = .ok (.aload_n 1, 1) := by decide +kernel
theorem dL_law_949 : decode cL_law 949 = .ok (.invokevirtual 140, 3) := by decide +kernel
theorem dL_law_952 : decode cL_law 952 = .ok (.aload_n 2, 1) := by decide +kernel
theorem dL_law_953 : decode cL_law 953 = .ok (.invokevirtual 143, 3) := by decide +kernel
theorem dL_law_956 : decode cL_law 956 = .ok (.if_icmp .eq 5, 3) := by decide +kernel
theorem dL_law_959 : decode cL_law 959 = .ok (.iconst 0, 1) := by decide +kernel
theorem dL_law_960 : decode cL_law 960 = .ok (.ireturn, 1) := by decide +kernel
theorem dL_law_961 : decode cL_law 961 = .ok (.iinc 3 4, 3) := by decide +kernel
theorem dL_law_964 : decode cL_law 964 = .ok (.goto (-946), 3) := by decide +kernel
theorem dL_law_967 : decode cL_law 967 = .ok (.iconst 1, 1) := by decide +kernel
theorem dL_law_968 : decode cL_law 968 = .ok (.ireturn, 1) := by decide +kernel
