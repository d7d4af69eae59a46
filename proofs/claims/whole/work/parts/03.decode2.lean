theorem dX7_isDownOpen_2 : decode cX7_isDownOpen 2 = .ok (.invokevirtual 37, 3) := by decide +kernel
theorem dX7_isDownOpen_5 : decode cX7_isDownOpen 5 = .ok (.iconst 2, 1) := by decide +kernel
theorem dX7_isDownOpen_6 : decode cX7_isDownOpen 6 = .ok (.idiv, 1) := by decide +kernel
theorem dX7_isDownOpen_7 : decode cX7_isDownOpen 7 = .ok (.iconst 2, 1) := by decide +kernel
theorem dX7_isDownOpen_8 : decode cX7_isDownOpen 8 = .ok (.irem, 1) := by decide +kernel
theorem dX7_isDownOpen_9 : decode cX7_isDownOpen 9 = .ok (.ifCond .ne 7, 3) := by decide +kernel
theorem dX7_isDownOpen_12 : decode cX7_isDownOpen 12 = .ok (.iconst 1, 1) := by decide +kernel
theorem dX7_isDownOpen_13 : decode cX7_isDownOpen 13 = .ok (.goto 4, 3) := by decide +kernel
theorem dX7_isDownOpen_16 : decode cX7_isDownOpen 16 = .ok (.iconst 0, 1) := by decide +kernel
theorem dX7_isDownOpen_17 : decode cX7_isDownOpen 17 = .ok (.ireturn, 1) := by decide +kernel
theorem dX7_isWindy_0 : decode cX7_isWindy 0 = .ok (.aload_n 0, 1) := by decide +kernel
theorem dX7_isWindy_1 : decode cX7_isWindy 1 = .ok (.iload_n 1, 1) := by decide +kernel
theorem dX7_isWindy_2 : decode cX7_isWindy 2 = .ok (.invokevirtual 37, 3) := by decide +kernel
theorem dX7_isWindy_5 : decode cX7_isWindy 5 = .ok (.iconst 4, 1) := by decide +kernel
theorem dX7_isWindy_6 : decode cX7_isWindy 6 = .ok (.if_icmp .lt 7, 3) := by decide +kernel
theorem dX7_isWindy_9 : decode cX7_isWindy 9 = .ok (.iconst 1, 1) := by decide +kernel
theorem dX7_isWindy_10 : decode cX7_isWindy 10 = .ok (.goto 4, 3) := by decide +kernel
theorem dX7_isWindy_13 : decode cX7_isWindy 13 = .ok (.iconst 0, 1) := by decide +kernel
theorem dX7_isWindy_14 : decode cX7_isWindy 14 = .ok (.ireturn, 1) := by decide +kernel
theorem dX7_inState_0 : decode cX7_inState 0 = .ok (.iconst 0, 1) := by decide +kernel
theorem dX7_inState_1 : decode cX7_inState 1 = .ok (.istore_n 2, 1) := by decide +kernel
theorem dX7_inState_2 : decode cX7_inState 2 = .ok (.iconst 0, 1) := by decide +kernel
theorem dX7_inState_3 : decode cX7_inState 3 = .ok (.istore_n 3, 1) := by decide +kernel
theorem dX7_inState_4 : decode cX7_inState 4 = .ok (.iload_n 3, 1) := by decide +kernel
theorem dX7_inState_5 : decode cX7_inState 5 = .ok (.aload_n 0, 1) := by decide +kernel
theorem dX7_inState_6 : decode cX7_inState 6 = .ok (.getfield 7, 3) := by decide +kernel
theorem dX7_inState_9 : decode cX7_inState 9 = .ok (.iconst 1, 1) := by decide +kernel
theorem dX7_inState_10 : decode cX7_inState 10 = .ok (.iaload, 1) := by decide +kernel
theorem dX7_inState_11 : decode cX7_inState 11 = .ok (.if_icmp .ge 26, 3) := by decide +kernel
theorem dX7_inState_14 : decode cX7_inState 14 = .ok (.iload_n 2, 1) := by decide +kernel
theorem dX7_inState_15 : decode cX7_inState 15 = .ok (.aload_n 0, 1) := by decide +kernel
theorem dX7_inState_16 : decode cX7_inState 16 = .ok (.iload_n 3, 1) := by decide +kernel
theorem dX7_inState_17 : decode cX7_inState 17 = .ok (.iload_n 1, 1) := by decide +kernel
theorem dX7_inState_18 : decode cX7_inState 18 = .ok (.invokevirtual 41, 3) := by decide +kernel
theorem dX7_inState_21 : decode cX7_inState 21 = .ok (.ifCond .eq 7, 3) := by decide +kernel
theorem dX7_inState_24 : decode cX7_inState 24 = .ok (.iconst 1, 1) := by decide +kernel
theorem dX7_inState_25 : decode cX7_inState 25 = .ok (.goto 4, 3) := by decide +kernel
theorem dX7_inState_28 : decode cX7_inState 28 = .ok (.iconst 0, 1) := by decide +kernel
theorem dX7_inState_29 : decode cX7_inState 29 = .ok (.iadd, 1) := by decide +kernel
theorem dX7_inState_30 : decode cX7_inState 30 = .ok (.istore_n 2, 1) := by decide +kernel
theorem dX7_inState_31 : decode cX7_inState 31 = .ok (.iinc 3 1, 3) := by decide +kernel
theorem dX7_inState_34 : decode cX7_inState 34 = .ok (.goto (-30), 3) := by decide +kernel
theorem dX7_inState_37 : decode cX7_inState 37 = .ok (.iload_n 2, 1) := by decide +kernel
theorem dX7_inState_38 : decode cX7_inState 38 = .ok (.ireturn, 1) := by decide +kernel
theorem dX7_personsThere_0 : decode cX7_personsThere 0 = .ok (.iconst 0, 1) := by decide +kernel
theorem dX7_personsThere_1 : decode cX7_personsThere 1 = .ok (.istore_n 1, 1) := by decide +kernel
theorem dX7_personsThere_2 : decode cX7_personsThere 2 = .ok (.iconst 0, 1) := by decide +kernel
theorem dX7_personsThere_3 : decode cX7_personsThere 3 = .ok (.istore_n 2, 1) := by decide +kernel
theorem dX7_personsThere_4 : decode cX7_personsThere 4 = .ok (.iload_n 2, 1) := by decide +kernel
theorem dX7_personsThere_5 : decode cX7_personsThere 5 = .ok (.aload_n 0, 1) := by decide +kernel
theorem dX7_personsThere_6 : decode cX7_personsThere 6 = .ok (.getfield 7, 3) := by decide +kernel
theorem dX7_personsThere_9 : decode cX7_personsThere 9 = .ok (.iconst 1, 1) := by decide +kernel
theorem dX7_personsThere_10 : decode cX7_personsThere 10 = .ok (.iaload, 1) := by decide +kernel
theorem dX7_personsThere_11 : decode cX7_personsThere 11 = .ok (.if_icmp .ge 31, 3) := by decide +kernel
theorem dX7_personsThere_14 : decode cX7_personsThere 14 = .ok (.iload_n 1, 1) := by decide +kernel
theorem dX7_personsThere_15 : decode cX7_personsThere 15 = .ok (.aload_n 0, 1) := by decide +kernel
theorem dX7_personsThere_16 : decode cX7_personsThere 16 = .ok (.iload_n 2, 1) := by decide +kernel
theorem dX7_personsThere_17 : decode cX7_personsThere 17 = .ok (.iconst 1, 1) := by decide +kernel
theorem dX7_personsThere_18 : decode cX7_personsThere 18 = .ok (.invokevirtual 41, 3) := by decide +kernel
theorem dX7_personsThere_21 : decode cX7_personsThere 21 = .ok (.ifCond .eq 12, 3) := by decide +kernel
theorem dX7_personsThere_24 : decode cX7_personsThere 24 = .ok (.aload_n 0, 1) := by decide +kernel
theorem dX7_personsThere_25 : decode cX7_personsThere 25 = .ok (.iload_n 2, 1) := by decide +kernel
theorem dX7_personsThere_26 : decode cX7_personsThere 26 = .ok (.iconst 3, 1) := by decide +kernel
theorem dX7_personsThere_27 : decode cX7_personsThere 27 = .ok (.invokevirtual 29, 3) := by decide +kernel
theorem dX7_personsThere_30 : decode cX7_personsThere 30 = .ok (.goto 4, 3) := by decide +kernel
theorem dX7_personsThere_33 : decode cX7_personsThere 33 = .ok (.iconst 0, 1) := by decide +kernel
theorem dX7_personsThere_34 : decode cX7_personsThere 34 = .ok (.iadd, 1) := by decide +kernel
theorem dX7_personsThere_35 : decode cX7_personsThere 35 = .ok (.istore_n 1, 1) := by decide +kernel
theorem dX7_personsThere_36 : decode cX7_personsThere 36 = .ok (.iinc 2 1, 3) := by decide +kernel
theorem dX7_personsThere_39 : decode cX7_personsThere 39 = .ok (.goto (-35), 3) := by decide +kernel
theorem dX7_personsThere_42 : decode cX7_personsThere 42 = .ok (.iload_n 1, 1) := by decide +kernel
theorem dX7_personsThere_43 : decode cX7_personsThere 43 = .ok (.ireturn, 1) := by decide +kernel
theorem dX7_taken_0 : decode cX7_taken 0 = .ok (.iconst 0, 1) := by decide +kernel
theorem dX7_taken_1 : decode cX7_taken 1 = .ok (.istore_n 2, 1) := by decide +kernel
theorem dX7_taken_2 : decode cX7_taken 2 = .ok (.iconst 0, 1) := by decide +kernel
theorem dX7_taken_3 : decode cX7_taken 3 = .ok (.istore_n 3, 1) := by decide +kernel
theorem dX7_taken_4 : decode cX7_taken 4 = .ok (.iload_n 3, 1) := by decide +kernel
theorem dX7_taken_5 : decode cX7_taken 5 = .ok (.aload_n 0, 1) := by decide +kernel
theorem dX7_taken_6 : decode cX7_taken 6 = .ok (.getfield 7, 3) := by decide +kernel
theorem dX7_taken_9 : decode cX7_taken 9 = .ok (.iconst 1, 1) := by decide +kernel
theorem dX7_taken_10 : decode cX7_taken 10 = .ok (.iaload, 1) := by decide +kernel
theorem dX7_taken_11 : decode cX7_taken 11 = .ok (.if_icmp .ge 64, 3) := by decide +kernel
theorem dX7_taken_14 : decode cX7_taken 14 = .ok (.aload_n 0, 1) := by decide +kernel
theorem dX7_taken_15 : decode cX7_taken 15 = .ok (.iload_n 3, 1) := by decide +kernel
theorem dX7_taken_16 : decode cX7_taken 16 = .ok (.iconst 0, 1) := by decide +kernel
theorem dX7_taken_17 : decode cX7_taken 17 = .ok (.invokevirtual 29, 3) := by decide +kernel
theorem dX7_taken_20 : decode cX7_taken 20 = .ok (.iconst 1, 1) := by decide +kernel
theorem dX7_taken_21 : decode cX7_taken 21 = .ok (.if_icmp .gt 27, 3) := by decide +kernel
theorem dX7_taken_24 : decode cX7_taken 24 = .ok (.iload_n 1, 1) := by decide +kernel
theorem dX7_taken_25 : decode cX7_taken 25 = .ok (.aload_n 0, 1) := by decide +kernel
theorem dX7_taken_26 : decode cX7_taken 26 = .ok (.iload_n 3, 1) := by decide +kernel
theorem dX7_taken_27 : decode cX7_taken 27 = .ok (.iconst 1, 1) := by decide +kernel
theorem dX7_taken_28 : decode cX7_taken 28 = .ok (.invokevirtual 29, 3) := by decide +kernel
theorem dX7_taken_31 : decode cX7_taken 31 = .ok (.aload_n 0, 1) := by decide +kernel
theorem dX7_taken_32 : decode cX7_taken 32 = .ok (.iload_n 3, 1) := by decide +kernel
theorem dX7_taken_33 : decode cX7_taken 33 = .ok (.invokevirtual 45, 3) := by decide +kernel
theorem dX7_taken_36 : decode cX7_taken 36 = .ok (.iconst 1, 1) := by decide +kernel
theorem dX7_taken_37 : decode cX7_taken 37 = .ok (.isub, 1) := by decide +kernel
theorem dX7_taken_38 : decode cX7_taken 38 = .ok (.invokestatic 33, 3) := by decide +kernel
theorem dX7_taken_41 : decode cX7_taken 41 = .ok (.ifCond .eq 7, 3) := by decide +kernel
theorem dX7_taken_44 : decode cX7_taken 44 = .ok (.iconst 1, 1) := by decide +kernel
theorem dX7_taken_45 : decode cX7_taken 45 = .ok (.goto 4, 3) := by decide +kernel
theorem dX7_taken_48 : decode cX7_taken 48 = .ok (.iconst 0, 1) := by decide +kernel
theorem dX7_taken_49 : decode cX7_taken 49 = .ok (.istore 4, 2) := by decide +kernel
theorem dX7_taken_51 : decode cX7_taken 51 = .ok (.iload_n 2, 1) := by decide +kernel
theorem dX7_taken_52 : decode cX7_taken 52 = .ok (.iload 4, 2) := by decide +kernel
theorem dX7_taken_54 : decode cX7_taken 54 = .ok (.ifCond .eq 12, 3) := by decide +kernel
theorem dX7_taken_57 : decode cX7_taken 57 = .ok (.aload_n 0, 1) := by decide +kernel
theorem dX7_taken_58 : decode cX7_taken 58 = .ok (.iload_n 3, 1) := by decide +kernel
theorem dX7_taken_59 : decode cX7_taken 59 = .ok (.iconst 3, 1) := by decide +kernel
theorem dX7_taken_60 : decode cX7_taken 60 = .ok (.invokevirtual 29, 3) := by decide +kernel
theorem dX7_taken_63 : decode cX7_taken 63 = .ok (.goto 4, 3) := by decide +kernel
theorem dX7_taken_66 : decode cX7_taken 66 = .ok (.iconst 0, 1) := by decide +kernel
theorem dX7_taken_67 : decode cX7_taken 67 = .ok (.iadd, 1) := by decide +kernel
theorem dX7_taken_68 : decode cX7_taken 68 = .ok (.istore_n 2, 1) := by decide +kernel
theorem dX7_taken_69 : decode cX7_taken 69 = .ok (.iinc 3 1, 3) := by decide +kernel
theorem dX7_taken_72 : decode cX7_taken 72 = .ok (.goto (-68), 3) := by decide +kernel
theorem dX7_taken_75 : decode cX7_taken 75 = .ok (.iload_n 2, 1) := by decide +kernel
theorem dX7_taken_76 : decode cX7_taken 76 = .ok (.ireturn, 1) := by decide +kernel
theorem dX7_fits_0 : decode cX7_fits 0 = .ok (.iload_n 1, 1) := by decide +kernel
theorem dX7_fits_1 : decode cX7_fits 1 = .ok (.istore 4, 2) := by decide +kernel
theorem dX7_fits_3 : decode cX7_fits 3 = .ok (.iload 4, 2) := by decide +kernel
theorem dX7_fits_5 : decode cX7_fits 5 = .ok (.iload_n 2, 1) := by decide +kernel
theorem dX7_fits_6 : decode cX7_fits 6 = .ok (.if_icmp .ge 29, 3) := by decide +kernel
theorem dX7_fits_9 : decode cX7_fits 9 = .ok (.aload_n 0, 1) := by decide +kernel
theorem dX7_fits_10 : decode cX7_fits 10 = .ok (.iload 4, 2) := by decide +kernel
theorem dX7_fits_12 : decode cX7_fits 12 = .ok (.invokevirtual 48, 3) := by decide +kernel
theorem dX7_fits_15 : decode cX7_fits 15 = .ok (.iload_n 3, 1) := by decide +kernel
theorem dX7_fits_16 : decode cX7_fits 16 = .ok (.iadd, 1) := by decide +kernel
theorem dX7_fits_17 : decode cX7_fits 17 = .ok (.aload_n 0, 1) := by decide +kernel
theorem dX7_fits_18 : decode cX7_fits 18 = .ok (.getfield 7, 3) := by decide +kernel
theorem dX7_fits_21 : decode cX7_fits 21 = .ok (.bipush 17, 2) := by decide +kernel
theorem dX7_fits_23 : decode cX7_fits 23 = .ok (.iaload, 1) := by decide +kernel
theorem dX7_fits_24 : decode cX7_fits 24 = .ok (.if_icmp .le 5, 3) := by decide +kernel
theorem dX7_fits_27 : decode cX7_fits 27 = .ok (.iconst 0, 1) := by decide +kernel
theorem dX7_fits_28 : decode cX7_fits 28 = .ok (.ireturn, 1) := by decide +kernel
theorem dX7_fits_29 : decode cX7_fits 29 = .ok (.iinc 4 1, 3) := by decide +kernel
theorem dX7_fits_32 : decode cX7_fits 32 = .ok (.goto (-29), 3) := by decide +kernel
theorem dX7_fits_35 : decode cX7_fits 35 = .ok (.iconst 1, 1) := by decide +kernel
theorem dX7_fits_36 : decode cX7_fits 36 = .ok (.ireturn, 1) := by decide +kernel
theorem dX7_leave_0 : decode cX7_leave 0 = .ok (.aload_n 0, 1) := by decide +kernel
theorem dX7_leave_1 : decode cX7_leave 1 = .ok (.iload_n 1, 1) := by decide +kernel
theorem dX7_leave_2 : decode cX7_leave 2 = .ok (.invokevirtual 45, 3) := by decide +kernel
theorem dX7_leave_5 : decode cX7_leave 5 = .ok (.aload_n 0, 1) := by decide +kernel
theorem dX7_leave_6 : decode cX7_leave 6 = .ok (.iload_n 1, 1) := by decide +kernel
theorem dX7_leave_7 : decode cX7_leave 7 = .ok (.bipush 6, 2) := by decide +kernel
theorem dX7_leave_9 : decode cX7_leave 9 = .ok (.invokevirtual 29, 3) := by decide +kernel
theorem dX7_leave_12 : decode cX7_leave 12 = .ok (.isub, 1) := by decide +kernel
theorem dX7_leave_13 : decode cX7_leave 13 = .ok (.istore_n 2, 1) := by decide +kernel
theorem dX7_leave_14 : decode cX7_leave 14 = .ok (.aload_n 0, 1) := by decide +kernel
theorem dX7_leave_15 : decode cX7_leave 15 = .ok (.getfield 7, 3) := by decide +kernel
theorem dX7_leave_18 : decode cX7_leave 18 = .ok (.bipush 14, 2) := by decide +kernel
theorem dX7_leave_20 : decode cX7_leave 20 = .ok (.dup2, 1) := by decide +kernel
theorem dX7_leave_21 : decode cX7_leave 21 = .ok (.iaload, 1) := by decide +kernel
theorem dX7_leave_22 : decode cX7_leave 22 = .ok (.aload_n 0, 1) := by decide +kernel
theorem dX7_leave_23 : decode cX7_leave 23 = .ok (.getfield 7, 3) := by decide +kernel
theorem dX7_leave_26 : decode cX7_leave 26 = .ok (.bipush 19, 2) := by decide +kernel
theorem dX7_leave_28 : decode cX7_leave 28 = .ok (.iaload, 1) := by decide +kernel
theorem dX7_leave_29 : decode cX7_leave 29 = .ok (.aload_n 0, 1) := by decide +kernel
theorem dX7_leave_30 : decode cX7_leave 30 = .ok (.iload_n 1, 1) := by decide +kernel
theorem dX7_leave_31 : decode cX7_leave 31 = .ok (.iconst 3, 1) := by decide +kernel
theorem dX7_leave_32 : decode cX7_leave 32 = .ok (.invokevirtual 29, 3) := by decide +kernel
theorem dX7_leave_35 : decode cX7_leave 35 = .ok (.imul, 1) := by decide +kernel
theorem dX7_leave_36 : decode cX7_leave 36 = .ok (.iload_n 2, 1) := by decide +kernel
theorem dX7_leave_37 : decode cX7_leave 37 = .ok (.imul, 1) := by decide +kernel
theorem dX7_leave_38 : decode cX7_leave 38 = .ok (.aload_n 0, 1) := by decide +kernel
theorem dX7_leave_39 : decode cX7_leave 39 = .ok (.iload_n 1, 1) := by decide +kernel
theorem dX7_leave_40 : decode cX7_leave 40 = .ok (.iconst 5, 1) := by decide +kernel
theorem dX7_leave_41 : decode cX7_leave 41 = .ok (.invokevirtual 29, 3) := by decide +kernel
theorem dX7_leave_44 : decode cX7_leave 44 = .ok (.isub, 1) := by decide +kernel
theorem dX7_leave_45 : decode cX7_leave 45 = .ok (.iadd, 1) := by decide +kernel
theorem dX7_leave_46 : decode cX7_leave 46 = .ok (.iastore, 1) := by decide +kernel
theorem dX7_leave_47 : decode cX7_leave 47 = .ok (.aload_n 0, 1) := by decide +kernel
theorem dX7_leave_48 : decode cX7_leave 48 = .ok (.iload_n 1, 1) := by decide +kernel
theorem dX7_leave_49 : decode cX7_leave 49 = .ok (.iconst 0, 1) := by decide +kernel
theorem dX7_leave_50 : decode cX7_leave 50 = .ok (.iconst 2, 1) := by decide +kernel
theorem dX7_leave_51 : decode cX7_leave 51 = .ok (.invokevirtual 51, 3) := by decide +kernel
theorem dX7_leave_54 : decode cX7_leave 54 = .ok (.return_, 1) := by decide +kernel
theorem dX7_turnAway_0 : decode cX7_turnAway 0 = .ok (.aload_n 0, 1) := by decide +kernel
theorem dX7_turnAway_1 : decode cX7_turnAway 1 = .ok (.iload_n 1, 1) := by decide +kernel
theorem dX7_turnAway_2 : decode cX7_turnAway 2 = .ok (.iconst 0, 1) := by decide +kernel
theorem dX7_turnAway_3 : decode cX7_turnAway 3 = .ok (.iconst 4, 1) := by decide +kernel
theorem dX7_turnAway_4 : decode cX7_turnAway 4 = .ok (.invokevirtual 51, 3) := by decide +kernel
theorem dX7_turnAway_7 : decode cX7_turnAway 7 = .ok (.aload_n 0, 1) := by decide +kernel
theorem dX7_turnAway_8 : decode cX7_turnAway 8 = .ok (.getfield 7, 3) := by decide +kernel
theorem dX7_turnAway_11 : decode cX7_turnAway 11 = .ok (.bipush 14, 2) := by decide +kernel
theorem dX7_turnAway_13 : decode cX7_turnAway 13 = .ok (.dup2, 1) := by decide +kernel
theorem dX7_turnAway_14 : decode cX7_turnAway 14 = .ok (.iaload, 1) := by decide +kernel
theorem dX7_turnAway_15 : decode cX7_turnAway 15 = .ok (.aload_n 0, 1) := by decide +kernel
theorem dX7_turnAway_16 : decode cX7_turnAway 16 = .ok (.iload_n 1, 1) := by decide +kernel
theorem dX7_turnAway_17 : decode cX7_turnAway 17 = .ok (.iconst 5, 1) := by decide +kernel
theorem dX7_turnAway_18 : decode cX7_turnAway 18 = .ok (.invokevirtual 29, 3) := by decide +kernel
theorem dX7_turnAway_21 : decode cX7_turnAway 21 = .ok (.isub, 1) := by decide +kernel
theorem dX7_turnAway_22 : decode cX7_turnAway 22 = .ok (.iastore, 1) := by decide +kernel
theorem dX7_turnAway_23 : decode cX7_turnAway 23 = .ok (.aload_n 0, 1) := by decide +kernel
theorem dX7_turnAway_24 : decode cX7_turnAway 24 = .ok (.getfield 7, 3) := by decide +kernel
theorem dX7_turnAway_27 : decode cX7_turnAway 27 = .ok (.bipush 13, 2) := by decide +kernel
theorem dX7_turnAway_29 : decode cX7_turnAway 29 = .ok (.dup2, 1) := by decide +kernel
theorem dX7_turnAway_30 : decode cX7_turnAway 30 = .ok (.iaload, 1) := by decide +kernel
theorem dX7_turnAway_31 : decode cX7_turnAway 31 = .ok (.aload_n 0, 1) := by decide +kernel
theorem dX7_turnAway_32 : decode cX7_turnAway 32 = .ok (.iload_n 1, 1) := by decide +kernel
theorem dX7_turnAway_33 : decode cX7_turnAway 33 = .ok (.iconst 3, 1) := by decide +kernel
theorem dX7_turnAway_34 : decode cX7_turnAway 34 = .ok (.invokevirtual 29, 3) := by decide +kernel
theorem dX7_turnAway_37 : decode cX7_turnAway 37 = .ok (.iadd, 1) := by decide +kernel
theorem dX7_turnAway_38 : decode cX7_turnAway 38 = .ok (.iastore, 1) := by decide +kernel
theorem dX7_turnAway_39 : decode cX7_turnAway 39 = .ok (.return_, 1) := by decide +kernel
theorem dX7_come_0 : decode cX7_come 0 = .ok (.aload_n 0, 1) := by decide +kernel
theorem dX7_come_1 : decode cX7_come 1 = .ok (.invokevirtual 55, 3) := by decide +kernel
theorem dX7_come_4 : decode cX7_come 4 = .ok (.aload_n 0, 1) := by decide +kernel
theorem dX7_come_5 : decode cX7_come 5 = .ok (.iload_n 1, 1) := by decide +kernel
theorem dX7_come_6 : decode cX7_come 6 = .ok (.iconst 3, 1) := by decide +kernel
theorem dX7_come_7 : decode cX7_come 7 = .ok (.invokevirtual 29, 3) := by decide +kernel
theorem dX7_come_10 : decode cX7_come 10 = .ok (.iadd, 1) := by decide +kernel
theorem dX7_come_11 : decode cX7_come 11 = .ok (.aload_n 0, 1) := by decide +kernel
theorem dX7_come_12 : decode cX7_come 12 = .ok (.getfield 7, 3) := by decide +kernel
theorem dX7_come_15 : decode cX7_come 15 = .ok (.bipush 17, 2) := by decide +kernel
theorem dX7_come_17 : decode cX7_come 17 = .ok (.iaload, 1) := by decide +kernel
theorem dX7_come_18 : decode cX7_come 18 = .ok (.aload_n 0, 1) := by decide +kernel
theorem dX7_come_19 : decode cX7_come 19 = .ok (.getfield 7, 3) := by decide +kernel
theorem dX7_come_22 : decode cX7_come 22 = .ok (.bipush 18, 2) := by decide +kernel
theorem dX7_come_24 : decode cX7_come 24 = .ok (.iaload, 1) := by decide +kernel
theorem dX7_come_25 : decode cX7_come 25 = .ok (.iadd, 1) := by decide +kernel
theorem dX7_come_26 : decode cX7_come 26 = .ok (.if_icmp .le 9, 3) := by decide +kernel
theorem dX7_come_29 : decode cX7_come 29 = .ok (.aload_n 0, 1) := by decide +kernel
theorem dX7_come_30 : decode cX7_come 30 = .ok (.iload_n 1, 1) := by decide +kernel
theorem dX7_come_31 : decode cX7_come 31 = .ok (.invokevirtual 59, 3) := by decide +kernel
theorem dX7_come_34 : decode cX7_come 34 = .ok (.return_, 1) := by decide +kernel
theorem dX7_come_35 : decode cX7_come 35 = .ok (.aload_n 0, 1) := by decide +kernel
theorem dX7_come_36 : decode cX7_come 36 = .ok (.iload_n 1, 1) := by decide +kernel
theorem dX7_come_37 : decode cX7_come 37 = .ok (.iconst 0, 1) := by decide +kernel
theorem dX7_come_38 : decode cX7_come 38 = .ok (.iconst 1, 1) := by decide +kernel
theorem dX7_come_39 : decode cX7_come 39 = .ok (.invokevirtual 51, 3) := by decide +kernel
theorem dX7_come_42 : decode cX7_come 42 = .ok (.aload_n 0, 1) := by decide +kernel
theorem dX7_come_43 : decode cX7_come 43 = .ok (.iload_n 1, 1) := by decide +kernel
theorem dX7_come_44 : decode cX7_come 44 = .ok (.bipush 6, 2) := by decide +kernel
theorem dX7_come_46 : decode cX7_come 46 = .ok (.iload_n 2, 1) := by decide +kernel
theorem dX7_come_47 : decode cX7_come 47 = .ok (.invokevirtual 51, 3) := by decide +kernel
theorem dX7_come_50 : decode cX7_come 50 = .ok (.return_, 1) := by decide +kernel
theorem dX7_dropOrder_0 : decode cX7_dropOrder 0 = .ok (.aload_n 0, 1) := by decide +kernel
theorem dX7_dropOrder_1 : decode cX7_dropOrder 1 = .ok (.getfield 7, 3) := by decide +kernel
theorem dX7_dropOrder_4 : decode cX7_dropOrder 4 = .ok (.iconst 3, 1) := by decide +kernel
theorem dX7_dropOrder_5 : decode cX7_dropOrder 5 = .ok (.dup2, 1) := by decide +kernel
theorem dX7_dropOrder_6 : decode cX7_dropOrder 6 = .ok (.iaload, 1) := by decide +kernel
theorem dX7_dropOrder_7 : decode cX7_dropOrder 7 = .ok (.iconst 1, 1) := by decide +kernel
theorem dX7_dropOrder_8 : decode cX7_dropOrder 8 = .ok (.isub, 1) := by decide +kernel
theorem dX7_dropOrder_9 : decode cX7_dropOrder 9 = .ok (.iastore, 1) := by decide +kernel
theorem dX7_dropOrder_10 : decode cX7_dropOrder 10 = .ok (.iload_n 1, 1) := by decide +kernel
theorem dX7_dropOrder_11 : decode cX7_dropOrder 11 = .ok (.istore_n 2, 1) := by decide +kernel
theorem dX7_dropOrder_12 : decode cX7_dropOrder 12 = .ok (.iload_n 2, 1) := by decide +kernel
theorem dX7_dropOrder_13 : decode cX7_dropOrder 13 = .ok (.aload_n 0, 1) := by decide +kernel
theorem dX7_dropOrder_14 : decode cX7_dropOrder 14 = .ok (.getfield 7, 3) := by decide +kernel
theorem dX7_dropOrder_17 : decode cX7_dropOrder 17 = .ok (.iconst 3, 1) := by decide +kernel
theorem dX7_dropOrder_18 : decode cX7_dropOrder 18 = .ok (.iaload, 1) := by decide +kernel
theorem dX7_dropOrder_19 : decode cX7_dropOrder 19 = .ok (.if_icmp .ge 49, 3) := by decide +kernel
theorem dX7_dropOrder_22 : decode cX7_dropOrder 22 = .ok (.aload_n 0, 1) := by decide +kernel
theorem dX7_dropOrder_23 : decode cX7_dropOrder 23 = .ok (.getfield 7, 3) := by decide +kernel
theorem dX7_dropOrder_26 : decode cX7_dropOrder 26 = .ok (.bipush 27, 2) := by decide +kernel
theorem dX7_dropOrder_28 : decode cX7_dropOrder 28 = .ok (.iload_n 2, 1) := by decide +kernel
theorem dX7_dropOrder_29 : decode cX7_dropOrder 29 = .ok (.iadd, 1) := by decide +kernel
theorem dX7_dropOrder_30 : decode cX7_dropOrder 30 = .ok (.aload_n 0, 1) := by decide +kernel
theorem dX7_dropOrder_31 : decode cX7_dropOrder 31 = .ok (.getfield 7, 3) := by decide +kernel
theorem dX7_dropOrder_34 : decode cX7_dropOrder 34 = .ok (.bipush 27, 2) := by decide +kernel
theorem dX7_dropOrder_36 : decode cX7_dropOrder 36 = .ok (.iload_n 2, 1) := by decide +kernel
theorem dX7_dropOrder_37 : decode cX7_dropOrder 37 = .ok (.iadd, 1) := by decide +kernel
theorem dX7_dropOrder_38 : decode cX7_dropOrder 38 = .ok (.iconst 1, 1) := by decide +kernel
theorem dX7_dropOrder_39 : decode cX7_dropOrder 39 = .ok (.iadd, 1) := by decide +kernel
theorem dX7_dropOrder_40 : decode cX7_dropOrder 40 = .ok (.iaload, 1) := by decide +kernel
theorem dX7_dropOrder_41 : decode cX7_dropOrder 41 = .ok (.iastore, 1) := by decide +kernel
theorem dX7_dropOrder_42 : decode cX7_dropOrder 42 = .ok (.aload_n 0, 1) := by decide +kernel
theorem dX7_dropOrder_43 : decode cX7_dropOrder 43 = .ok (.getfield 7, 3) := by decide +kernel
theorem dX7_dropOrder_46 : decode cX7_dropOrder 46 = .ok (.bipush 39, 2) := by decide +kernel
theorem dX7_dropOrder_48 : decode cX7_dropOrder 48 = .ok (.iload_n 2, 1) := by decide +kernel
theorem dX7_dropOrder_49 : decode cX7_dropOrder 49 = .ok (.iadd, 1) := by decide +kernel
theorem dX7_dropOrder_50 : decode cX7_dropOrder 50 = .ok (.aload_n 0, 1) := by decide +kernel
theorem dX7_dropOrder_51 : decode cX7_dropOrder 51 = .ok (.getfield 7, 3) := by decide +kernel
theorem dX7_dropOrder_54 : decode cX7_dropOrder 54 = .ok (.bipush 39, 2) := by decide +kernel
theorem dX7_dropOrder_56 : decode cX7_dropOrder 56 = .ok (.iload_n 2, 1) := by decide +kernel
theorem dX7_dropOrder_57 : decode cX7_dropOrder 57 = .ok (.iadd, 1) := by decide +kernel
theorem dX7_dropOrder_58 : decode cX7_dropOrder 58 = .ok (.iconst 1, 1) := by decide +kernel
theorem dX7_dropOrder_59 : decode cX7_dropOrder 59 = .ok (.iadd, 1) := by decide +kernel
theorem dX7_dropOrder_60 : decode cX7_dropOrder 60 = .ok (.iaload, 1) := by decide +kernel
theorem dX7_dropOrder_61 : decode cX7_dropOrder 61 = .ok (.iastore, 1) := by decide +kernel
theorem dX7_dropOrder_62 : decode cX7_dropOrder 62 = .ok (.iinc 2 1, 3) := by decide +kernel
theorem dX7_dropOrder_65 : decode cX7_dropOrder 65 = .ok (.goto (-53), 3) := by decide +kernel
theorem dX7_dropOrder_68 : decode cX7_dropOrder 68 = .ok (.aload_n 0, 1) := by decide +kernel
theorem dX7_dropOrder_69 : decode cX7_dropOrder 69 = .ok (.getfield 7, 3) := by decide +kernel
theorem dX7_dropOrder_72 : decode cX7_dropOrder 72 = .ok (.bipush 27, 2) := by decide +kernel
theorem dX7_dropOrder_74 : decode cX7_dropOrder 74 = .ok (.aload_n 0, 1) := by decide +kernel
theorem dX7_dropOrder_75 : decode cX7_dropOrder 75 = .ok (.getfield 7, 3) := by decide +kernel
theorem dX7_dropOrder_78 : decode cX7_dropOrder 78 = .ok (.iconst 3, 1) := by decide +kernel
theorem dX7_dropOrder_79 : decode cX7_dropOrder 79 = .ok (.iaload, 1) := by decide +kernel
theorem dX7_dropOrder_80 : decode cX7_dropOrder 80 = .ok (.iadd, 1) := by decide +kernel
theorem dX7_dropOrder_81 : decode cX7_dropOrder 81 = .ok (.iconst 0, 1) := by decide +kernel
theorem dX7_dropOrder_82 : decode cX7_dropOrder 82 = .ok (.iastore, 1) := by decide +kernel
theorem dX7_dropOrder_83 : decode cX7_dropOrder 83 = .ok (.aload_n 0, 1) := by decide +kernel
theorem dX7_dropOrder_84 : decode cX7_dropOrder 84 = .ok (.getfield 7, 3) := by decide +kernel
theorem dX7_dropOrder_87 : decode cX7_dropOrder 87 = .ok (.bipush 39, 2) := by decide +kernel
theorem dX7_dropOrder_89 : decode cX7_dropOrder 89 = .ok (.aload_n 0, 1) := by decide +kernel
theorem dX7_dropOrder_90 : decode cX7_dropOrder 90 = .ok (.getfield 7, 3) := by decide +kernel
theorem dX7_dropOrder_93 : decode cX7_dropOrder 93 = .ok (.iconst 3, 1) := by decide +kernel
theorem dX7_dropOrder_94 : decode cX7_dropOrder 94 = .ok (.iaload, 1) := by decide +kernel
theorem dX7_dropOrder_95 : decode cX7_dropOrder 95 = .ok (.iadd, 1) := by decide +kernel
theorem dX7_dropOrder_96 : decode cX7_dropOrder 96 = .ok (.iconst 0, 1) := by decide +kernel
theorem dX7_dropOrder_97 : decode cX7_dropOrder 97 = .ok (.iastore, 1) := by decide +kernel
theorem dX7_dropOrder_98 : decode cX7_dropOrder 98 = .ok (.return_, 1) := by decide +kernel
theorem dX7_bring_0 : decode cX7_bring 0 = .ok (.iload_n 1, 1) := by decide +kernel
theorem dX7_bring_1 : decode cX7_bring 1 = .ok (.istore_n 3, 1) := by decide +kernel
theorem dX7_bring_2 : decode cX7_bring 2 = .ok (.iload_n 3, 1) := by decide +kernel
theorem dX7_bring_3 : decode cX7_bring 3 = .ok (.ifCond .le 122, 3) := by decide +kernel
theorem dX7_bring_6 : decode cX7_bring 6 = .ok (.aload_n 0, 1) := by decide +kernel
theorem dX7_bring_7 : decode cX7_bring 7 = .ok (.getfield 7, 3) := by decide +kernel
theorem dX7_bring_10 : decode cX7_bring 10 = .ok (.iconst 3, 1) := by decide +kernel
theorem dX7_bring_11 : decode cX7_bring 11 = .ok (.iaload, 1) := by decide +kernel
theorem dX7_bring_12 : decode cX7_bring 12 = .ok (.ifCond .le 113, 3) := by decide +kernel
theorem dX7_bring_15 : decode cX7_bring 15 = .ok (.aload_n 0, 1) := by decide +kernel
theorem dX7_bring_16 : decode cX7_bring 16 = .ok (.getfield 7, 3) := by decide +kernel
theorem dX7_bring_19 : decode cX7_bring 19 = .ok (.bipush 39, 2) := by decide +kernel
theorem dX7_bring_21 : decode cX7_bring 21 = .ok (.iaload, 1) := by decide +kernel
theorem dX7_bring_22 : decode cX7_bring 22 = .ok (.iload_n 3, 1) := by decide +kernel
theorem dX7_bring_23 : decode cX7_bring 23 = .ok (.if_icmp .ge 13, 3) := by decide +kernel
theorem dX7_bring_26 : decode cX7_bring 26 = .ok (.aload_n 0, 1) := by decide +kernel
theorem dX7_bring_27 : decode cX7_bring 27 = .ok (.getfield 7, 3) := by decide +kernel
theorem dX7_bring_30 : decode cX7_bring 30 = .ok (.bipush 39, 2) := by decide +kernel
theorem dX7_bring_32 : decode cX7_bring 32 = .ok (.iaload, 1) := by decide +kernel
theorem dX7_bring_33 : decode cX7_bring 33 = .ok (.goto 4, 3) := by decide +kernel
theorem dX7_bring_36 : decode cX7_bring 36 = .ok (.iload_n 3, 1) := by decide +kernel
theorem dX7_bring_37 : decode cX7_bring 37 = .ok (.istore 4, 2) := by decide +kernel
theorem dX7_bring_39 : decode cX7_bring 39 = .ok (.aload_n 0, 1) := by decide +kernel
theorem dX7_bring_40 : decode cX7_bring 40 = .ok (.getfield 7, 3) := by decide +kernel
theorem dX7_bring_43 : decode cX7_bring 43 = .ok (.bipush 27, 2) := by decide +kernel
theorem dX7_bring_45 : decode cX7_bring 45 = .ok (.iaload, 1) := by decide +kernel
theorem dX7_bring_46 : decode cX7_bring 46 = .ok (.ifCond .ne 21, 3) := by decide +kernel
theorem dX7_bring_49 : decode cX7_bring 49 = .ok (.aload_n 0, 1) := by decide +kernel
theorem dX7_bring_50 : decode cX7_bring 50 = .ok (.getfield 7, 3) := by decide +kernel
theorem dX7_bring_53 : decode cX7_bring 53 = .ok (.sipush 1675, 3) := by decide +kernel
theorem dX7_bring_56 : decode cX7_bring 56 = .ok (.iload_n 2, 1) := by decide +kernel
theorem dX7_bring_57 : decode cX7_bring 57 = .ok (.iadd, 1) := by decide +kernel
theorem dX7_bring_58 : decode cX7_bring 58 = .ok (.dup2, 1) := by decide +kernel
theorem dX7_bring_59 : decode cX7_bring 59 = .ok (.iaload, 1) := by decide +kernel
theorem dX7_bring_60 : decode cX7_bring 60 = .ok (.iload 4, 2) := by decide +kernel
theorem dX7_bring_62 : decode cX7_bring 62 = .ok (.iadd, 1) := by decide +kernel
theorem dX7_bring_63 : decode cX7_bring 63 = .ok (.iastore, 1) := by decide +kernel
theorem dX7_bring_64 : decode cX7_bring 64 = .ok (.goto 14, 3) := by decide +kernel
theorem dX7_bring_67 : decode cX7_bring 67 = .ok (.aload_n 0, 1) := by decide +kernel
theorem dX7_bring_68 : decode cX7_bring 68 = .ok (.getfield 7, 3) := by decide +kernel
theorem dX7_bring_71 : decode cX7_bring 71 = .ok (.iconst 2, 1) := by decide +kernel
theorem dX7_bring_72 : decode cX7_bring 72 = .ok (.dup2, 1) := by decide +kernel
theorem dX7_bring_73 : decode cX7_bring 73 = .ok (.iaload, 1) := by decide +kernel
theorem dX7_bring_74 : decode cX7_bring 74 = .ok (.iload 4, 2) := by decide +kernel
theorem dX7_bring_76 : decode cX7_bring 76 = .ok (.iadd, 1) := by decide +kernel
theorem dX7_bring_77 : decode cX7_bring 77 = .ok (.iastore, 1) := by decide +kernel
theorem dX7_bring_78 : decode cX7_bring 78 = .ok (.aload_n 0, 1) := by decide +kernel
theorem dX7_bring_79 : decode cX7_bring 79 = .ok (.getfield 7, 3) := by decide +kernel
theorem dX7_bring_82 : decode cX7_bring 82 = .ok (.bipush 39, 2) := by decide +kernel
theorem dX7_bring_84 : decode cX7_bring 84 = .ok (.dup2, 1) := by decide +kernel
theorem dX7_bring_85 : decode cX7_bring 85 = .ok (.iaload, 1) := by decide +kernel
theorem dX7_bring_86 : decode cX7_bring 86 = .ok (.iload 4, 2) := by decide +kernel
theorem dX7_bring_88 : decode cX7_bring 88 = .ok (.isub, 1) := by decide +kernel
theorem dX7_bring_89 : decode cX7_bring 89 = .ok (.iastore, 1) := by decide +kernel
theorem dX7_bring_90 : decode cX7_bring 90 = .ok (.aload_n 0, 1) := by decide +kernel
theorem dX7_bring_91 : decode cX7_bring 91 = .ok (.getfield 7, 3) := by decide +kernel
theorem dX7_bring_94 : decode cX7_bring 94 = .ok (.bipush 7, 2) := by decide +kernel
theorem dX7_bring_96 : decode cX7_bring 96 = .ok (.dup2, 1) := by decide +kernel
theorem dX7_bring_97 : decode cX7_bring 97 = .ok (.iaload, 1) := by decide +kernel
theorem dX7_bring_98 : decode cX7_bring 98 = .ok (.iload 4, 2) := by decide +kernel
theorem dX7_bring_100 : decode cX7_bring 100 = .ok (.iadd, 1) := by decide +kernel
theorem dX7_bring_101 : decode cX7_bring 101 = .ok (.iastore, 1) := by decide +kernel
theorem dX7_bring_102 : decode cX7_bring 102 = .ok (.iload_n 3, 1) := by decide +kernel
theorem dX7_bring_103 : decode cX7_bring 103 = .ok (.iload 4, 2) := by decide +kernel
theorem dX7_bring_105 : decode cX7_bring 105 = .ok (.isub, 1) := by decide +kernel
theorem dX7_bring_106 : decode cX7_bring 106 = .ok (.istore_n 3, 1) := by decide +kernel
theorem dX7_bring_107 : decode cX7_bring 107 = .ok (.aload_n 0, 1) := by decide +kernel
theorem dX7_bring_108 : decode cX7_bring 108 = .ok (.getfield 7, 3) := by decide +kernel
theorem dX7_bring_111 : decode cX7_bring 111 = .ok (.bipush 39, 2) := by decide +kernel
theorem dX7_bring_113 : decode cX7_bring 113 = .ok (.iaload, 1) := by decide +kernel
theorem dX7_bring_114 : decode cX7_bring 114 = .ok (.ifCond .ne 8, 3) := by decide +kernel
theorem dX7_bring_117 : decode cX7_bring 117 = .ok (.aload_n 0, 1) := by decide +kernel
theorem dX7_bring_118 : decode cX7_bring 118 = .ok (.iconst 0, 1) := by decide +kernel
theorem dX7_bring_119 : decode cX7_bring 119 = .ok (.invokevirtual 63, 3) := by decide +kernel
theorem dX7_bring_122 : decode cX7_bring 122 = .ok (.goto (-120), 3) := by decide +kernel
theorem dX7_bring_125 : decode cX7_bring 125 = .ok (.return_, 1) := by decide +kernel
theorem dX7_fly_0 : decode cX7_fly 0 = .ok (.aload_n 0, 1) := by decide +kernel
theorem dX7_fly_1 : decode cX7_fly 1 = .ok (.aload_n 0, 1) := by decide +kernel
theorem dX7_fly_2 : decode cX7_fly 2 = .ok (.getfield 7, 3) := by decide +kernel
theorem dX7_fly_5 : decode cX7_fly 5 = .ok (.bipush 24, 2) := by decide +kernel
theorem dX7_fly_7 : decode cX7_fly 7 = .ok (.iaload, 1) := by decide +kernel
theorem dX7_fly_8 : decode cX7_fly 8 = .ok (.iload_n 1, 1) := by decide +kernel
theorem dX7_fly_9 : decode cX7_fly 9 = .ok (.invokevirtual 66, 3) := by decide +kernel
theorem dX7_fly_12 : decode cX7_fly 12 = .ok (.aload_n 0, 1) := by decide +kernel
theorem dX7_fly_13 : decode cX7_fly 13 = .ok (.getfield 7, 3) := by decide +kernel
theorem dX7_fly_16 : decode cX7_fly 16 = .ok (.bipush 25, 2) := by decide +kernel
theorem dX7_fly_18 : decode cX7_fly 18 = .ok (.iaload, 1) := by decide +kernel
theorem dX7_fly_19 : decode cX7_fly 19 = .ok (.istore_n 2, 1) := by decide +kernel
theorem dX7_fly_20 : decode cX7_fly 20 = .ok (.iconst 0, 1) := by decide +kernel
theorem dX7_fly_21 : decode cX7_fly 21 = .ok (.istore_n 3, 1) := by decide +kernel
theorem dX7_fly_22 : decode cX7_fly 22 = .ok (.iload_n 3, 1) := by decide +kernel
theorem dX7_fly_23 : decode cX7_fly 23 = .ok (.aload_n 0, 1) := by decide +kernel
theorem dX7_fly_24 : decode cX7_fly 24 = .ok (.getfield 7, 3) := by decide +kernel
theorem dX7_fly_27 : decode cX7_fly 27 = .ok (.iconst 1, 1) := by decide +kernel
theorem dX7_fly_28 : decode cX7_fly 28 = .ok (.iaload, 1) := by decide +kernel
theorem dX7_fly_29 : decode cX7_fly 29 = .ok (.if_icmp .ge 67, 3) := by decide +kernel
theorem dX7_fly_32 : decode cX7_fly 32 = .ok (.aload_n 0, 1) := by decide +kernel
theorem dX7_fly_33 : decode cX7_fly 33 = .ok (.iload_n 3, 1) := by decide +kernel
theorem dX7_fly_34 : decode cX7_fly 34 = .ok (.iconst 1, 1) := by decide +kernel
theorem dX7_fly_35 : decode cX7_fly 35 = .ok (.invokevirtual 41, 3) := by decide +kernel
theorem dX7_fly_38 : decode cX7_fly 38 = .ok (.ifCond .eq 52, 3) := by decide +kernel
theorem dX7_fly_41 : decode cX7_fly 41 = .ok (.aload_n 0, 1) := by decide +kernel
theorem dX7_fly_42 : decode cX7_fly 42 = .ok (.iload_n 3, 1) := by decide +kernel
theorem dX7_fly_43 : decode cX7_fly 43 = .ok (.invokevirtual 45, 3) := by decide +kernel
theorem dX7_fly_46 : decode cX7_fly 46 = .ok (.iload_n 1, 1) := by decide +kernel
theorem dX7_fly_47 : decode cX7_fly 47 = .ok (.if_icmp .gt 43, 3) := by decide +kernel
theorem dX7_fly_50 : decode cX7_fly 50 = .ok (.aload_n 0, 1) := by decide +kernel
theorem dX7_fly_51 : decode cX7_fly 51 = .ok (.iload_n 3, 1) := by decide +kernel
theorem dX7_fly_52 : decode cX7_fly 52 = .ok (.iconst 3, 1) := by decide +kernel
theorem dX7_fly_53 : decode cX7_fly 53 = .ok (.invokevirtual 29, 3) := by decide +kernel
theorem dX7_fly_56 : decode cX7_fly 56 = .ok (.iload_n 2, 1) := by decide +kernel
theorem dX7_fly_57 : decode cX7_fly 57 = .ok (.if_icmp .gt 33, 3) := by decide +kernel
theorem dX7_fly_60 : decode cX7_fly 60 = .ok (.iload_n 2, 1) := by decide +kernel
theorem dX7_fly_61 : decode cX7_fly 61 = .ok (.aload_n 0, 1) := by decide +kernel
theorem dX7_fly_62 : decode cX7_fly 62 = .ok (.iload_n 3, 1) := by decide +kernel
theorem dX7_fly_63 : decode cX7_fly 63 = .ok (.iconst 3, 1) := by decide +kernel
theorem dX7_fly_64 : decode cX7_fly 64 = .ok (.invokevirtual 29, 3) := by decide +kernel
theorem dX7_fly_67 : decode cX7_fly 67 = .ok (.isub, 1) := by decide +kernel
theorem dX7_fly_68 : decode cX7_fly 68 = .ok (.istore_n 2, 1) := by decide +kernel
theorem dX7_fly_69 : decode cX7_fly 69 = .ok (.aload_n 0, 1) := by decide +kernel
theorem dX7_fly_70 : decode cX7_fly 70 = .ok (.getfield 7, 3) := by decide +kernel
theorem dX7_fly_73 : decode cX7_fly 73 = .ok (.bipush 6, 2) := by decide +kernel
theorem dX7_fly_75 : decode cX7_fly 75 = .ok (.dup2, 1) := by decide +kernel
theorem dX7_fly_76 : decode cX7_fly 76 = .ok (.iaload, 1) := by decide +kernel
theorem dX7_fly_77 : decode cX7_fly 77 = .ok (.aload_n 0, 1) := by decide +kernel
theorem dX7_fly_78 : decode cX7_fly 78 = .ok (.iload_n 3, 1) := by decide +kernel
theorem dX7_fly_79 : decode cX7_fly 79 = .ok (.iconst 3, 1) := by decide +kernel
theorem dX7_fly_80 : decode cX7_fly 80 = .ok (.invokevirtual 29, 3) := by decide +kernel
theorem dX7_fly_83 : decode cX7_fly 83 = .ok (.iadd, 1) := by decide +kernel
theorem dX7_fly_84 : decode cX7_fly 84 = .ok (.iastore, 1) := by decide +kernel
theorem dX7_fly_85 : decode cX7_fly 85 = .ok (.aload_n 0, 1) := by decide +kernel
theorem dX7_fly_86 : decode cX7_fly 86 = .ok (.iload_n 3, 1) := by decide +kernel
theorem dX7_fly_87 : decode cX7_fly 87 = .ok (.invokevirtual 70, 3) := by decide +kernel
theorem dX7_fly_90 : decode cX7_fly 90 = .ok (.iinc 3 1, 3) := by decide +kernel
theorem dX7_fly_93 : decode cX7_fly 93 = .ok (.goto (-71), 3) := by decide +kernel
theorem dX7_fly_96 : decode cX7_fly 96 = .ok (.aload_n 0, 1) := by decide +kernel
theorem dX7_fly_97 : decode cX7_fly 97 = .ok (.getfield 7, 3) := by decide +kernel
theorem dX7_fly_100 : decode cX7_fly 100 = .ok (.bipush 14, 2) := by decide +kernel
theorem dX7_fly_102 : decode cX7_fly 102 = .ok (.dup2, 1) := by decide +kernel
theorem dX7_fly_103 : decode cX7_fly 103 = .ok (.iaload, 1) := by decide +kernel
theorem dX7_fly_104 : decode cX7_fly 104 = .ok (.aload_n 0, 1) := by decide +kernel
theorem dX7_fly_105 : decode cX7_fly 105 = .ok (.getfield 7, 3) := by decide +kernel
theorem dX7_fly_108 : decode cX7_fly 108 = .ok (.bipush 26, 2) := by decide +kernel
theorem dX7_fly_110 : decode cX7_fly 110 = .ok (.iaload, 1) := by decide +kernel
theorem dX7_fly_111 : decode cX7_fly 111 = .ok (.isub, 1) := by decide +kernel
theorem dX7_fly_112 : decode cX7_fly 112 = .ok (.iastore, 1) := by decide +kernel
theorem dX7_fly_113 : decode cX7_fly 113 = .ok (.aload_n 0, 1) := by decide +kernel
theorem dX7_fly_114 : decode cX7_fly 114 = .ok (.getfield 7, 3) := by decide +kernel
theorem dX7_fly_117 : decode cX7_fly 117 = .ok (.bipush 16, 2) := by decide +kernel
theorem dX7_fly_119 : decode cX7_fly 119 = .ok (.dup2, 1) := by decide +kernel
theorem dX7_fly_120 : decode cX7_fly 120 = .ok (.iaload, 1) := by decide +kernel
theorem dX7_fly_121 : decode cX7_fly 121 = .ok (.aload_n 0, 1) := by decide +kernel
theorem dX7_fly_122 : decode cX7_fly 122 = .ok (.getfield 7, 3) := by decide +kernel
theorem dX7_fly_125 : decode cX7_fly 125 = .ok (.bipush 26, 2) := by decide +kernel
theorem dX7_fly_127 : decode cX7_fly 127 = .ok (.iaload, 1) := by decide +kernel
theorem dX7_fly_128 : decode cX7_fly 128 = .ok (.iadd, 1) := by decide +kernel
theorem dX7_fly_129 : decode cX7_fly 129 = .ok (.iastore, 1) := by decide +kernel
theorem dX7_fly_130 : decode cX7_fly 130 = .ok (.aload_n 0, 1) := by decide +kernel
theorem dX7_fly_131 : decode cX7_fly 131 = .ok (.getfield 7, 3) := by decide +kernel
theorem dX7_fly_134 : decode cX7_fly 134 = .ok (.iconst 4, 1) := by decide +kernel
theorem dX7_fly_135 : decode cX7_fly 135 = .ok (.iconst 0, 1) := by decide +kernel
theorem dX7_fly_136 : decode cX7_fly 136 = .ok (.iastore, 1) := by decide +kernel
theorem dX7_fly_137 : decode cX7_fly 137 = .ok (.aload_n 0, 1) := by decide +kernel
theorem dX7_fly_138 : decode cX7_fly 138 = .ok (.getfield 7, 3) := by decide +kernel
theorem dX7_fly_141 : decode cX7_fly 141 = .ok (.iconst 5, 1) := by decide +kernel
theorem dX7_fly_142 : decode cX7_fly 142 = .ok (.dup2, 1) := by decide +kernel
theorem dX7_fly_143 : decode cX7_fly 143 = .ok (.iaload, 1) := by decide +kernel
theorem dX7_fly_144 : decode cX7_fly 144 = .ok (.iconst 1, 1) := by decide +kernel
theorem dX7_fly_145 : decode cX7_fly 145 = .ok (.iadd, 1) := by decide +kernel
theorem dX7_fly_146 : decode cX7_fly 146 = .ok (.iastore, 1) := by decide +kernel
theorem dX7_fly_147 : decode cX7_fly 147 = .ok (.return_, 1) := by decide +kernel
theorem dX7_eat_0 : decode cX7_eat 0 = .ok (.aload_n 0, 1) := by decide +kernel
theorem dX7_eat_1 : decode cX7_eat 1 = .ok (.invokevirtual 55, 3) := by decide +kernel
theorem dX7_eat_4 : decode cX7_eat 4 = .ok (.istore_n 1, 1) := by decide +kernel
theorem dX7_eat_5 : decode cX7_eat 5 = .ok (.iconst 0, 1) := by decide +kernel
theorem dX7_eat_6 : decode cX7_eat 6 = .ok (.istore_n 2, 1) := by decide +kernel
theorem dX7_eat_7 : decode cX7_eat 7 = .ok (.iload_n 2, 1) := by decide +kernel
theorem dX7_eat_8 : decode cX7_eat 8 = .ok (.sipush 1064, 3) := by decide +kernel
theorem dX7_eat_11 : decode cX7_eat 11 = .ok (.if_icmp .ge 71, 3) := by decide +kernel
theorem dX7_eat_14 : decode cX7_eat 14 = .ok (.iload_n 1, 1) := by decide +kernel
theorem dX7_eat_15 : decode cX7_eat 15 = .ok (.ifCond .le 67, 3) := by decide +kernel
theorem dX7_eat_18 : decode cX7_eat 18 = .ok (.aload_n 0, 1) := by decide +kernel
theorem dX7_eat_19 : decode cX7_eat 19 = .ok (.getfield 7, 3) := by decide +kernel
theorem dX7_eat_22 : decode cX7_eat 22 = .ok (.sipush 1675, 3) := by decide +kernel
theorem dX7_eat_25 : decode cX7_eat 25 = .ok (.iload_n 2, 1) := by decide +kernel
theorem dX7_eat_26 : decode cX7_eat 26 = .ok (.iadd, 1) := by decide +kernel
theorem dX7_eat_27 : decode cX7_eat 27 = .ok (.iaload, 1) := by decide +kernel
theorem dX7_eat_28 : decode cX7_eat 28 = .ok (.iload_n 1, 1) := by decide +kernel
theorem dX7_eat_29 : decode cX7_eat 29 = .ok (.if_icmp .ge 16, 3) := by decide +kernel
theorem dX7_eat_32 : decode cX7_eat 32 = .ok (.aload_n 0, 1) := by decide +kernel
theorem dX7_eat_33 : decode cX7_eat 33 = .ok (.getfield 7, 3) := by decide +kernel
theorem dX7_eat_36 : decode cX7_eat 36 = .ok (.sipush 1675, 3) := by decide +kernel
theorem dX7_eat_39 : decode cX7_eat 39 = .ok (.iload_n 2, 1) := by decide +kernel
theorem dX7_eat_40 : decode cX7_eat 40 = .ok (.iadd, 1) := by decide +kernel
theorem dX7_eat_41 : decode cX7_eat 41 = .ok (.iaload, 1) := by decide +kernel
theorem dX7_eat_42 : decode cX7_eat 42 = .ok (.goto 4, 3) := by decide +kernel
theorem dX7_eat_45 : decode cX7_eat 45 = .ok (.iload_n 1, 1) := by decide +kernel
theorem dX7_eat_46 : decode cX7_eat 46 = .ok (.istore_n 3, 1) := by decide +kernel
theorem dX7_eat_47 : decode cX7_eat 47 = .ok (.aload_n 0, 1) := by decide +kernel
theorem dX7_eat_48 : decode cX7_eat 48 = .ok (.getfield 7, 3) := by decide +kernel
theorem dX7_eat_51 : decode cX7_eat 51 = .ok (.sipush 1675, 3) := by decide +kernel
theorem dX7_eat_54 : decode cX7_eat 54 = .ok (.iload_n 2, 1) := by decide +kernel
theorem dX7_eat_55 : decode cX7_eat 55 = .ok (.iadd, 1) := by decide +kernel
theorem dX7_eat_56 : decode cX7_eat 56 = .ok (.dup2, 1) := by decide +kernel
theorem dX7_eat_57 : decode cX7_eat 57 = .ok (.iaload, 1) := by decide +kernel
theorem dX7_eat_58 : decode cX7_eat 58 = .ok (.iload_n 3, 1) := by decide +kernel
theorem dX7_eat_59 : decode cX7_eat 59 = .ok (.isub, 1) := by decide +kernel
theorem dX7_eat_60 : decode cX7_eat 60 = .ok (.iastore, 1) := by decide +kernel
theorem dX7_eat_61 : decode cX7_eat 61 = .ok (.aload_n 0, 1) := by decide +kernel
theorem dX7_eat_62 : decode cX7_eat 62 = .ok (.getfield 7, 3) := by decide +kernel
theorem dX7_eat_65 : decode cX7_eat 65 = .ok (.bipush 8, 2) := by decide +kernel
theorem dX7_eat_67 : decode cX7_eat 67 = .ok (.dup2, 1) := by decide +kernel
theorem dX7_eat_68 : decode cX7_eat 68 = .ok (.iaload, 1) := by decide +kernel
theorem dX7_eat_69 : decode cX7_eat 69 = .ok (.iload_n 3, 1) := by decide +kernel
theorem dX7_eat_70 : decode cX7_eat 70 = .ok (.iadd, 1) := by decide +kernel
theorem dX7_eat_71 : decode cX7_eat 71 = .ok (.iastore, 1) := by decide +kernel
theorem dX7_eat_72 : decode cX7_eat 72 = .ok (.iload_n 1, 1) := by decide +kernel
theorem dX7_eat_73 : decode cX7_eat 73 = .ok (.iload_n 3, 1) := by decide +kernel
theorem dX7_eat_74 : decode cX7_eat 74 = .ok (.isub, 1) := by decide +kernel
theorem dX7_eat_75 : decode cX7_eat 75 = .ok (.istore_n 1, 1) := by decide +kernel
theorem dX7_eat_76 : decode cX7_eat 76 = .ok (.iinc 2 1, 3) := by decide +kernel
theorem dX7_eat_79 : decode cX7_eat 79 = .ok (.goto (-72), 3) := by decide +kernel
theorem dX7_eat_82 : decode cX7_eat 82 = .ok (.aload_n 0, 1) := by decide +kernel
theorem dX7_eat_83 : decode cX7_eat 83 = .ok (.getfield 7, 3) := by decide +kernel
theorem dX7_eat_86 : decode cX7_eat 86 = .ok (.iconst 2, 1) := by decide +kernel
theorem dX7_eat_87 : decode cX7_eat 87 = .ok (.iaload, 1) := by decide +kernel
theorem dX7_eat_88 : decode cX7_eat 88 = .ok (.iload_n 1, 1) := by decide +kernel
theorem dX7_eat_89 : decode cX7_eat 89 = .ok (.if_icmp .ge 12, 3) := by decide +kernel
theorem dX7_eat_92 : decode cX7_eat 92 = .ok (.aload_n 0, 1) := by decide +kernel
theorem dX7_eat_93 : decode cX7_eat 93 = .ok (.getfield 7, 3) := by decide +kernel
theorem dX7_eat_96 : decode cX7_eat 96 = .ok (.iconst 2, 1) := by decide +kernel
theorem dX7_eat_97 : decode cX7_eat 97 = .ok (.iaload, 1) := by decide +kernel
theorem dX7_eat_98 : decode cX7_eat 98 = .ok (.goto 4, 3) := by decide +kernel
theorem dX7_eat_101 : decode cX7_eat 101 = .ok (.iload_n 1, 1) := by decide +kernel
theorem dX7_eat_102 : decode cX7_eat 102 = .ok (.istore_n 2, 1) := by decide +kernel
theorem dX7_eat_103 : decode cX7_eat 103 = .ok (.aload_n 0, 1) := by decide +kernel
theorem dX7_eat_104 : decode cX7_eat 104 = .ok (.getfield 7, 3) := by decide +kernel
theorem dX7_eat_107 : decode cX7_eat 107 = .ok (.iconst 2, 1) := by decide +kernel
theorem dX7_eat_108 : decode cX7_eat 108 = .ok (.dup2, 1) := by decide +kernel
theorem dX7_eat_109 : decode cX7_eat 109 = .ok (.iaload, 1) := by decide +kernel
theorem dX7_eat_110 : decode cX7_eat 110 = .ok (.iload_n 2, 1) := by decide +kernel
theorem dX7_eat_111 : decode cX7_eat 111 = .ok (.isub, 1) := by decide +kernel
theorem dX7_eat_112 : decode cX7_eat 112 = .ok (.iastore, 1) := by decide +kernel
theorem dX7_eat_113 : decode cX7_eat 113 = .ok (.aload_n 0, 1) := by decide +kernel
theorem dX7_eat_114 : decode cX7_eat 114 = .ok (.getfield 7, 3) := by decide +kernel
theorem dX7_eat_117 : decode cX7_eat 117 = .ok (.bipush 8, 2) := by decide +kernel
theorem dX7_eat_119 : decode cX7_eat 119 = .ok (.dup2, 1) := by decide +kernel
theorem dX7_eat_120 : decode cX7_eat 120 = .ok (.iaload, 1) := by decide +kernel
theorem dX7_eat_121 : decode cX7_eat 121 = .ok (.iload_n 2, 1) := by decide +kernel
theorem dX7_eat_122 : decode cX7_eat 122 = .ok (.iadd, 1) := by decide +kernel
theorem dX7_eat_123 : decode cX7_eat 123 = .ok (.iastore, 1) := by decide +kernel
theorem dX7_eat_124 : decode cX7_eat 124 = .ok (.aload_n 0, 1) := by decide +kernel
theorem dX7_eat_125 : decode cX7_eat 125 = .ok (.getfield 7, 3) := by decide +kernel
theorem dX7_eat_128 : decode cX7_eat 128 = .ok (.bipush 10, 2) := by decide +kernel
theorem dX7_eat_130 : decode cX7_eat 130 = .ok (.dup2, 1) := by decide +kernel
theorem dX7_eat_131 : decode cX7_eat 131 = .ok (.iaload, 1) := by decide +kernel
theorem dX7_eat_132 : decode cX7_eat 132 = .ok (.iload_n 1, 1) := by decide +kernel
theorem dX7_eat_133 : decode cX7_eat 133 = .ok (.iload_n 2, 1) := by decide +kernel
theorem dX7_eat_134 : decode cX7_eat 134 = .ok (.isub, 1) := by decide +kernel
theorem dX7_eat_135 : decode cX7_eat 135 = .ok (.iadd, 1) := by decide +kernel
theorem dX7_eat_136 : decode cX7_eat 136 = .ok (.iastore, 1) := by decide +kernel
theorem dX7_eat_137 : decode cX7_eat 137 = .ok (.return_, 1) := by decide +kernel
theorem dX7_sleep_0 : decode cX7_sleep 0 = .ok (.iconst 0, 1) := by decide +kernel
theorem dX7_sleep_1 : decode cX7_sleep 1 = .ok (.istore_n 2, 1) := by decide +kernel
theorem dX7_sleep_2 : decode cX7_sleep 2 = .ok (.iload_n 2, 1) := by decide +kernel
theorem dX7_sleep_3 : decode cX7_sleep 3 = .ok (.aload_n 0, 1) := by decide +kernel
theorem dX7_sleep_4 : decode cX7_sleep 4 = .ok (.getfield 7, 3) := by decide +kernel
theorem dX7_sleep_7 : decode cX7_sleep 7 = .ok (.iconst 1, 1) := by decide +kernel
theorem dX7_sleep_8 : decode cX7_sleep 8 = .ok (.iaload, 1) := by decide +kernel
theorem dX7_sleep_9 : decode cX7_sleep 9 = .ok (.if_icmp .ge 77, 3) := by decide +kernel
theorem dX7_sleep_12 : decode cX7_sleep 12 = .ok (.aload_n 0, 1) := by decide +kernel
theorem dX7_sleep_13 : decode cX7_sleep 13 = .ok (.iload_n 2, 1) := by decide +kernel
theorem dX7_sleep_14 : decode cX7_sleep 14 = .ok (.iconst 1, 1) := by decide +kernel
theorem dX7_sleep_15 : decode cX7_sleep 15 = .ok (.invokevirtual 41, 3) := by decide +kernel
theorem dX7_sleep_18 : decode cX7_sleep 18 = .ok (.ifCond .eq 62, 3) := by decide +kernel
theorem dX7_sleep_21 : decode cX7_sleep 21 = .ok (.aload_n 0, 1) := by decide +kernel
theorem dX7_sleep_22 : decode cX7_sleep 22 = .ok (.iload_n 2, 1) := by decide +kernel
theorem dX7_sleep_23 : decode cX7_sleep 23 = .ok (.iconst 4, 1) := by decide +kernel
theorem dX7_sleep_24 : decode cX7_sleep 24 = .ok (.aload_n 0, 1) := by decide +kernel
theorem dX7_sleep_25 : decode cX7_sleep 25 = .ok (.iload_n 2, 1) := by decide +kernel
theorem dX7_sleep_26 : decode cX7_sleep 26 = .ok (.iconst 4, 1) := by decide +kernel
theorem dX7_sleep_27 : decode cX7_sleep 27 = .ok (.invokevirtual 29, 3) := by decide +kernel
theorem dX7_sleep_30 : decode cX7_sleep 30 = .ok (.iconst 1, 1) := by decide +kernel
theorem dX7_sleep_31 : decode cX7_sleep 31 = .ok (.iadd, 1) := by decide +kernel
theorem dX7_sleep_32 : decode cX7_sleep 32 = .ok (.invokevirtual 51, 3) := by decide +kernel
theorem dX7_sleep_35 : decode cX7_sleep 35 = .ok (.aload_n 0, 1) := by decide +kernel
theorem dX7_sleep_36 : decode cX7_sleep 36 = .ok (.getfield 7, 3) := by decide +kernel
theorem dX7_sleep_39 : decode cX7_sleep 39 = .ok (.bipush 12, 2) := by decide +kernel
theorem dX7_sleep_41 : decode cX7_sleep 41 = .ok (.dup2, 1) := by decide +kernel
theorem dX7_sleep_42 : decode cX7_sleep 42 = .ok (.iaload, 1) := by decide +kernel
theorem dX7_sleep_43 : decode cX7_sleep 43 = .ok (.aload_n 0, 1) := by decide +kernel
theorem dX7_sleep_44 : decode cX7_sleep 44 = .ok (.iload_n 2, 1) := by decide +kernel
theorem dX7_sleep_45 : decode cX7_sleep 45 = .ok (.iconst 3, 1) := by decide +kernel
theorem dX7_sleep_46 : decode cX7_sleep 46 = .ok (.invokevirtual 29, 3) := by decide +kernel
theorem dX7_sleep_49 : decode cX7_sleep 49 = .ok (.iadd, 1) := by decide +kernel
theorem dX7_sleep_50 : decode cX7_sleep 50 = .ok (.iastore, 1) := by decide +kernel
theorem dX7_sleep_51 : decode cX7_sleep 51 = .ok (.aload_n 0, 1) := by decide +kernel
theorem dX7_sleep_52 : decode cX7_sleep 52 = .ok (.getfield 7, 3) := by decide +kernel
theorem dX7_sleep_55 : decode cX7_sleep 55 = .ok (.bipush 11, 2) := by decide +kernel
theorem dX7_sleep_57 : decode cX7_sleep 57 = .ok (.dup2, 1) := by decide +kernel
theorem dX7_sleep_58 : decode cX7_sleep 58 = .ok (.iaload, 1) := by decide +kernel
theorem dX7_sleep_59 : decode cX7_sleep 59 = .ok (.aload_n 0, 1) := by decide +kernel
theorem dX7_sleep_60 : decode cX7_sleep 60 = .ok (.iload_n 2, 1) := by decide +kernel
theorem dX7_sleep_61 : decode cX7_sleep 61 = .ok (.invokevirtual 45, 3) := by decide +kernel
theorem dX7_sleep_64 : decode cX7_sleep 64 = .ok (.iload_n 1, 1) := by decide +kernel
theorem dX7_sleep_65 : decode cX7_sleep 65 = .ok (.if_icmp .gt 12, 3) := by decide +kernel
theorem dX7_sleep_68 : decode cX7_sleep 68 = .ok (.aload_n 0, 1) := by decide +kernel
theorem dX7_sleep_69 : decode cX7_sleep 69 = .ok (.iload_n 2, 1) := by decide +kernel
theorem dX7_sleep_70 : decode cX7_sleep 70 = .ok (.iconst 3, 1) := by decide +kernel
theorem dX7_sleep_71 : decode cX7_sleep 71 = .ok (.invokevirtual 29, 3) := by decide +kernel
theorem dX7_sleep_74 : decode cX7_sleep 74 = .ok (.goto 4, 3) := by decide +kernel
theorem dX7_sleep_77 : decode cX7_sleep 77 = .ok (.iconst 0, 1) := by decide +kernel
theorem dX7_sleep_78 : decode cX7_sleep 78 = .ok (.iadd, 1) := by decide +kernel
theorem dX7_sleep_79 : decode cX7_sleep 79 = .ok (.iastore, 1) := by decide +kernel
theorem dX7_sleep_80 : decode cX7_sleep 80 = .ok (.iinc 2 1, 3) := by decide +kernel
theorem dX7_sleep_83 : decode cX7_sleep 83 = .ok (.goto (-81), 3) := by decide +kernel
theorem dX7_sleep_86 : decode cX7_sleep 86 = .ok (.return_, 1) := by decide +kernel
theorem dX7_passDay_0 : decode cX7_passDay 0 = .ok (.aload_n 0, 1) := by decide +kernel
theorem dX7_passDay_1 : decode cX7_passDay 1 = .ok (.getfield 7, 3) := by decide +kernel
theorem dX7_passDay_4 : decode cX7_passDay 4 = .ok (.iconst 0, 1) := by decide +kernel
theorem dX7_passDay_5 : decode cX7_passDay 5 = .ok (.iaload, 1) := by decide +kernel
theorem dX7_passDay_6 : decode cX7_passDay 6 = .ok (.istore_n 1, 1) := by decide +kernel
theorem dX7_passDay_7 : decode cX7_passDay 7 = .ok (.iconst 0, 1) := by decide +kernel
theorem dX7_passDay_8 : decode cX7_passDay 8 = .ok (.istore_n 2, 1) := by decide +kernel
theorem dX7_passDay_9 : decode cX7_passDay 9 = .ok (.iload_n 2, 1) := by decide +kernel
theorem dX7_passDay_10 : decode cX7_passDay 10 = .ok (.iload_n 1, 1) := by decide +kernel
theorem dX7_passDay_11 : decode cX7_passDay 11 = .ok (.aload_n 0, 1) := by decide +kernel
theorem dX7_passDay_12 : decode cX7_passDay 12 = .ok (.getfield 7, 3) := by decide +kernel
theorem dX7_passDay_15 : decode cX7_passDay 15 = .ok (.bipush 22, 2) := by decide +kernel
theorem dX7_passDay_17 : decode cX7_passDay 17 = .ok (.iaload, 1) := by decide +kernel
theorem dX7_passDay_18 : decode cX7_passDay 18 = .ok (.isub, 1) := by decide +kernel
theorem dX7_passDay_19 : decode cX7_passDay 19 = .ok (.if_icmp .gt 40, 3) := by decide +kernel
theorem dX7_passDay_22 : decode cX7_passDay 22 = .ok (.aload_n 0, 1) := by decide +kernel
theorem dX7_passDay_23 : decode cX7_passDay 23 = .ok (.getfield 7, 3) := by decide +kernel
theorem dX7_passDay_26 : decode cX7_passDay 26 = .ok (.bipush 9, 2) := by decide +kernel
theorem dX7_passDay_28 : decode cX7_passDay 28 = .ok (.dup2, 1) := by decide +kernel
theorem dX7_passDay_29 : decode cX7_passDay 29 = .ok (.iaload, 1) := by decide +kernel
theorem dX7_passDay_30 : decode cX7_passDay 30 = .ok (.aload_n 0, 1) := by decide +kernel
theorem dX7_passDay_31 : decode cX7_passDay 31 = .ok (.getfield 7, 3) := by decide +kernel
theorem dX7_passDay_34 : decode cX7_passDay 34 = .ok (.sipush 1675, 3) := by decide +kernel
theorem dX7_passDay_37 : decode cX7_passDay 37 = .ok (.iload_n 2, 1) := by decide +kernel
theorem dX7_passDay_38 : decode cX7_passDay 38 = .ok (.iadd, 1) := by decide +kernel
theorem dX7_passDay_39 : decode cX7_passDay 39 = .ok (.iaload, 1) := by decide +kernel
theorem dX7_passDay_40 : decode cX7_passDay 40 = .ok (.iadd, 1) := by decide +kernel
theorem dX7_passDay_41 : decode cX7_passDay 41 = .ok (.iastore, 1) := by decide +kernel
theorem dX7_passDay_42 : decode cX7_passDay 42 = .ok (.aload_n 0, 1) := by decide +kernel
theorem dX7_passDay_43 : decode cX7_passDay 43 = .ok (.getfield 7, 3) := by decide +kernel
theorem dX7_passDay_46 : decode cX7_passDay 46 = .ok (.sipush 1675, 3) := by decide +kernel
theorem dX7_passDay_49 : decode cX7_passDay 49 = .ok (.iload_n 2, 1) := by decide +kernel
theorem dX7_passDay_50 : decode cX7_passDay 50 = .ok (.iadd, 1) := by decide +kernel
theorem dX7_passDay_51 : decode cX7_passDay 51 = .ok (.iconst 0, 1) := by decide +kernel
theorem dX7_passDay_52 : decode cX7_passDay 52 = .ok (.iastore, 1) := by decide +kernel
theorem dX7_passDay_53 : decode cX7_passDay 53 = .ok (.iinc 2 1, 3) := by decide +kernel
theorem dX7_passDay_56 : decode cX7_passDay 56 = .ok (.goto (-47), 3) := by decide +kernel
theorem dX7_passDay_59 : decode cX7_passDay 59 = .ok (.iconst 0, 1) := by decide +kernel
theorem dX7_passDay_60 : decode cX7_passDay 60 = .ok (.istore_n 2, 1) := by decide +kernel
theorem dX7_passDay_61 : decode cX7_passDay 61 = .ok (.iload_n 2, 1) := by decide +kernel
theorem dX7_passDay_62 : decode cX7_passDay 62 = .ok (.aload_n 0, 1) := by decide +kernel
theorem dX7_passDay_63 : decode cX7_passDay 63 = .ok (.getfield 7, 3) := by decide +kernel
theorem dX7_passDay_66 : decode cX7_passDay 66 = .ok (.iconst 1, 1) := by decide +kernel
theorem dX7_passDay_67 : decode cX7_passDay 67 = .ok (.iaload, 1) := by decide +kernel
theorem dX7_passDay_68 : decode cX7_passDay 68 = .ok (.if_icmp .ge 40, 3) := by decide +kernel
theorem dX7_passDay_71 : decode cX7_passDay 71 = .ok (.aload_n 0, 1) := by decide +kernel
theorem dX7_passDay_72 : decode cX7_passDay 72 = .ok (.iload_n 2, 1) := by decide +kernel
theorem dX7_passDay_73 : decode cX7_passDay 73 = .ok (.iconst 1, 1) := by decide +kernel
theorem dX7_passDay_74 : decode cX7_passDay 74 = .ok (.invokevirtual 41, 3) := by decide +kernel
theorem dX7_passDay_77 : decode cX7_passDay 77 = .ok (.ifCond .eq 25, 3) := by decide +kernel
theorem dX7_passDay_80 : decode cX7_passDay 80 = .ok (.aload_n 0, 1) := by decide +kernel
theorem dX7_passDay_81 : decode cX7_passDay 81 = .ok (.iload_n 2, 1) := by decide +kernel
theorem dX7_passDay_82 : decode cX7_passDay 82 = .ok (.invokevirtual 45, 3) := by decide +kernel
theorem dX7_passDay_85 : decode cX7_passDay 85 = .ok (.iload_n 1, 1) := by decide +kernel
theorem dX7_passDay_86 : decode cX7_passDay 86 = .ok (.if_icmp .gt 16, 3) := by decide +kernel
theorem dX7_passDay_89 : decode cX7_passDay 89 = .ok (.aload_n 0, 1) := by decide +kernel
theorem dX7_passDay_90 : decode cX7_passDay 90 = .ok (.iload_n 1, 1) := by decide +kernel
theorem dX7_passDay_91 : decode cX7_passDay 91 = .ok (.invokevirtual 73, 3) := by decide +kernel
theorem dX7_passDay_94 : decode cX7_passDay 94 = .ok (.ifCond .eq 8, 3) := by decide +kernel
theorem dX7_passDay_97 : decode cX7_passDay 97 = .ok (.aload_n 0, 1) := by decide +kernel
theorem dX7_passDay_98 : decode cX7_passDay 98 = .ok (.iload_n 2, 1) := by decide +kernel
theorem dX7_passDay_99 : decode cX7_passDay 99 = .ok (.invokevirtual 70, 3) := by decide +kernel
theorem dX7_passDay_102 : decode cX7_passDay 102 = .ok (.iinc 2 1, 3) := by decide +kernel
theorem dX7_passDay_105 : decode cX7_passDay 105 = .ok (.goto (-44), 3) := by decide +kernel
theorem dX7_passDay_108 : decode cX7_passDay 108 = .ok (.iconst 0, 1) := by decide +kernel
theorem dX7_passDay_109 : decode cX7_passDay 109 = .ok (.istore_n 2, 1) := by decide +kernel
theorem dX7_passDay_110 : decode cX7_passDay 110 = .ok (.iload_n 2, 1) := by decide +kernel
theorem dX7_passDay_111 : decode cX7_passDay 111 = .ok (.aload_n 0, 1) := by decide +kernel
theorem dX7_passDay_112 : decode cX7_passDay 112 = .ok (.getfield 7, 3) := by decide +kernel
theorem dX7_passDay_115 : decode cX7_passDay 115 = .ok (.iconst 1, 1) := by decide +kernel
theorem dX7_passDay_116 : decode cX7_passDay 116 = .ok (.iaload, 1) := by decide +kernel
theorem dX7_passDay_117 : decode cX7_passDay 117 = .ok (.if_icmp .ge 32, 3) := by decide +kernel
theorem dX7_passDay_120 : decode cX7_passDay 120 = .ok (.aload_n 0, 1) := by decide +kernel
theorem dX7_passDay_121 : decode cX7_passDay 121 = .ok (.iload_n 2, 1) := by decide +kernel
theorem dX7_passDay_122 : decode cX7_passDay 122 = .ok (.iconst 0, 1) := by decide +kernel
theorem dX7_passDay_123 : decode cX7_passDay 123 = .ok (.invokevirtual 41, 3) := by decide +kernel
theorem dX7_passDay_126 : decode cX7_passDay 126 = .ok (.ifCond .eq 17, 3) := by decide +kernel
theorem dX7_passDay_129 : decode cX7_passDay 129 = .ok (.aload_n 0, 1) := by decide +kernel
theorem dX7_passDay_130 : decode cX7_passDay 130 = .ok (.iload_n 2, 1) := by decide +kernel
theorem dX7_passDay_131 : decode cX7_passDay 131 = .ok (.invokevirtual 45, 3) := by decide +kernel
theorem dX7_passDay_134 : decode cX7_passDay 134 = .ok (.iload_n 1, 1) := by decide +kernel
theorem dX7_passDay_135 : decode cX7_passDay 135 = .ok (.if_icmp .gt 8, 3) := by decide +kernel
theorem dX7_passDay_138 : decode cX7_passDay 138 = .ok (.aload_n 0, 1) := by decide +kernel
theorem dX7_passDay_139 : decode cX7_passDay 139 = .ok (.iload_n 2, 1) := by decide +kernel
theorem dX7_passDay_140 : decode cX7_passDay 140 = .ok (.invokevirtual 59, 3) := by decide +kernel
theorem dX7_passDay_143 : decode cX7_passDay 143 = .ok (.iinc 2 1, 3) := by decide +kernel
theorem dX7_passDay_146 : decode cX7_passDay 146 = .ok (.goto (-36), 3) := by decide +kernel
theorem dX7_passDay_149 : decode cX7_passDay 149 = .ok (.aload_n 0, 1) := by decide +kernel
theorem dX7_passDay_150 : decode cX7_passDay 150 = .ok (.iload_n 1, 1) := by decide +kernel
theorem dX7_passDay_151 : decode cX7_passDay 151 = .ok (.invokevirtual 77, 3) := by decide +kernel
theorem dX7_passDay_154 : decode cX7_passDay 154 = .ok (.ifCond .eq 58, 3) := by decide +kernel
theorem dX7_passDay_157 : decode cX7_passDay 157 = .ok (.iconst 0, 1) := by decide +kernel
theorem dX7_passDay_158 : decode cX7_passDay 158 = .ok (.istore_n 2, 1) := by decide +kernel
theorem dX7_passDay_159 : decode cX7_passDay 159 = .ok (.iload_n 2, 1) := by decide +kernel
theorem dX7_passDay_160 : decode cX7_passDay 160 = .ok (.aload_n 0, 1) := by decide +kernel
theorem dX7_passDay_161 : decode cX7_passDay 161 = .ok (.getfield 7, 3) := by decide +kernel
theorem dX7_passDay_164 : decode cX7_passDay 164 = .ok (.iconst 1, 1) := by decide +kernel
theorem dX7_passDay_165 : decode cX7_passDay 165 = .ok (.iaload, 1) := by decide +kernel
theorem dX7_passDay_166 : decode cX7_passDay 166 = .ok (.if_icmp .ge 34, 3) := by decide +kernel
theorem dX7_passDay_169 : decode cX7_passDay 169 = .ok (.aload_n 0, 1) := by decide +kernel
theorem dX7_passDay_170 : decode cX7_passDay 170 = .ok (.iload_n 2, 1) := by decide +kernel
theorem dX7_passDay_171 : decode cX7_passDay 171 = .ok (.iconst 0, 1) := by decide +kernel
theorem dX7_passDay_172 : decode cX7_passDay 172 = .ok (.invokevirtual 41, 3) := by decide +kernel
theorem dX7_passDay_175 : decode cX7_passDay 175 = .ok (.ifCond .eq 19, 3) := by decide +kernel
theorem dX7_passDay_178 : decode cX7_passDay 178 = .ok (.aload_n 0, 1) := by decide +kernel
theorem dX7_passDay_179 : decode cX7_passDay 179 = .ok (.iload_n 2, 1) := by decide +kernel
theorem dX7_passDay_180 : decode cX7_passDay 180 = .ok (.iconst 1, 1) := by decide +kernel
theorem dX7_passDay_181 : decode cX7_passDay 181 = .ok (.invokevirtual 29, 3) := by decide +kernel
theorem dX7_passDay_184 : decode cX7_passDay 184 = .ok (.iload_n 1, 1) := by decide +kernel
theorem dX7_passDay_185 : decode cX7_passDay 185 = .ok (.if_icmp .gt 9, 3) := by decide +kernel
theorem dX7_passDay_188 : decode cX7_passDay 188 = .ok (.aload_n 0, 1) := by decide +kernel
theorem dX7_passDay_189 : decode cX7_passDay 189 = .ok (.iload_n 2, 1) := by decide +kernel
theorem dX7_passDay_190 : decode cX7_passDay 190 = .ok (.iload_n 1, 1) := by decide +kernel
theorem dX7_passDay_191 : decode cX7_passDay 191 = .ok (.invokevirtual 80, 3) := by decide +kernel
theorem dX7_passDay_194 : decode cX7_passDay 194 = .ok (.iinc 2 1, 3) := by decide +kernel
theorem dX7_passDay_197 : decode cX7_passDay 197 = .ok (.goto (-38), 3) := by decide +kernel
theorem dX7_passDay_200 : decode cX7_passDay 200 = .ok (.aload_n 0, 1) := by decide +kernel
theorem dX7_passDay_201 : decode cX7_passDay 201 = .ok (.aload_n 0, 1) := by decide +kernel
theorem dX7_passDay_202 : decode cX7_passDay 202 = .ok (.getfield 7, 3) := by decide +kernel
theorem dX7_passDay_205 : decode cX7_passDay 205 = .ok (.bipush 23, 2) := by decide +kernel
theorem dX7_passDay_207 : decode cX7_passDay 207 = .ok (.iaload, 1) := by decide +kernel
theorem dX7_passDay_208 : decode cX7_passDay 208 = .ok (.iload_n 1, 1) := by decide +kernel
theorem dX7_passDay_209 : decode cX7_passDay 209 = .ok (.invokevirtual 66, 3) := by decide +kernel
theorem dX7_passDay_212 : decode cX7_passDay 212 = .ok (.aload_n 0, 1) := by decide +kernel
theorem dX7_passDay_213 : decode cX7_passDay 213 = .ok (.getfield 7, 3) := by decide +kernel
theorem dX7_passDay_216 : decode cX7_passDay 216 = .ok (.iconst 4, 1) := by decide +kernel
theorem dX7_passDay_217 : decode cX7_passDay 217 = .ok (.iaload, 1) := by decide +kernel
theorem dX7_passDay_218 : decode cX7_passDay 218 = .ok (.iconst 1, 1) := by decide +kernel
theorem dX7_passDay_219 : decode cX7_passDay 219 = .ok (.if_icmp .ne 16, 3) := by decide +kernel
theorem dX7_passDay_222 : decode cX7_passDay 222 = .ok (.aload_n 0, 1) := by decide +kernel
theorem dX7_passDay_223 : decode cX7_passDay 223 = .ok (.iload_n 1, 1) := by decide +kernel
theorem dX7_passDay_224 : decode cX7_passDay 224 = .ok (.invokevirtual 83, 3) := by decide +kernel
theorem dX7_passDay_227 : decode cX7_passDay 227 = .ok (.ifCond .ne 8, 3) := by decide +kernel
theorem dX7_passDay_230 : decode cX7_passDay 230 = .ok (.aload_n 0, 1) := by decide +kernel
theorem dX7_passDay_231 : decode cX7_passDay 231 = .ok (.iload_n 1, 1) := by decide +kernel
theorem dX7_passDay_232 : decode cX7_passDay 232 = .ok (.invokevirtual 86, 3) := by decide +kernel
theorem dX7_passDay_235 : decode cX7_passDay 235 = .ok (.aload_n 0, 1) := by decide +kernel
theorem dX7_passDay_236 : decode cX7_passDay 236 = .ok (.invokevirtual 89, 3) := by decide +kernel
theorem dX7_passDay_239 : decode cX7_passDay 239 = .ok (.aload_n 0, 1) := by decide +kernel
theorem dX7_passDay_240 : decode cX7_passDay 240 = .ok (.iload_n 1, 1) := by decide +kernel
theorem dX7_passDay_241 : decode cX7_passDay 241 = .ok (.invokevirtual 92, 3) := by decide +kernel
theorem dX7_passDay_244 : decode cX7_passDay 244 = .ok (.aload_n 0, 1) := by decide +kernel
theorem dX7_passDay_245 : decode cX7_passDay 245 = .ok (.getfield 7, 3) := by decide +kernel
theorem dX7_passDay_248 : decode cX7_passDay 248 = .ok (.iconst 0, 1) := by decide +kernel
theorem dX7_passDay_249 : decode cX7_passDay 249 = .ok (.dup2, 1) := by decide +kernel
theorem dX7_passDay_250 : decode cX7_passDay 250 = .ok (.iaload, 1) := by decide +kernel
theorem dX7_passDay_251 : decode cX7_passDay 251 = .ok (.iconst 1, 1) := by decide +kernel
theorem dX7_passDay_252 : decode cX7_passDay 252 = .ok (.iadd, 1) := by decide +kernel
theorem dX7_passDay_253 : decode cX7_passDay 253 = .ok (.iastore, 1) := by decide +kernel
theorem dX7_passDay_254 : decode cX7_passDay 254 = .ok (.return_, 1) := by decide +kernel
theorem dX7_tryToBook_0 : decode cX7_tryToBook 0 = .ok (.iload_n 1, 1) := by decide +kernel
theorem dX7_tryToBook_1 : decode cX7_tryToBook 1 = .ok (.aload_n 0, 1) := by decide +kernel
theorem dX7_tryToBook_2 : decode cX7_tryToBook 2 = .ok (.getfield 7, 3) := by decide +kernel
theorem dX7_tryToBook_5 : decode cX7_tryToBook 5 = .ok (.iconst 0, 1) := by decide +kernel
theorem dX7_tryToBook_6 : decode cX7_tryToBook 6 = .ok (.iaload, 1) := by decide +kernel
theorem dX7_tryToBook_7 : decode cX7_tryToBook 7 = .ok (.sipush 899, 3) := by decide +kernel
theorem dX7_tryToBook_10 : decode cX7_tryToBook 10 = .ok (.invokestatic 33, 3) := by decide +kernel
theorem dX7_tryToBook_13 : decode cX7_tryToBook 13 = .ok (.ifCond .eq 23, 3) := by decide +kernel
theorem dX7_tryToBook_16 : decode cX7_tryToBook 16 = .ok (.iload_n 2, 1) := by decide +kernel
theorem dX7_tryToBook_17 : decode cX7_tryToBook 17 = .ok (.iconst 1, 1) := by decide +kernel
theorem dX7_tryToBook_18 : decode cX7_tryToBook 18 = .ok (.bipush 9, 2) := by decide +kernel
theorem dX7_tryToBook_20 : decode cX7_tryToBook 20 = .ok (.invokestatic 33, 3) := by decide +kernel
theorem dX7_tryToBook_23 : decode cX7_tryToBook 23 = .ok (.ifCond .eq 13, 3) := by decide +kernel
theorem dX7_tryToBook_26 : decode cX7_tryToBook 26 = .ok (.iload_n 3, 1) := by decide +kernel
theorem dX7_tryToBook_27 : decode cX7_tryToBook 27 = .ok (.iconst 1, 1) := by decide +kernel
theorem dX7_tryToBook_28 : decode cX7_tryToBook 28 = .ok (.bipush 9, 2) := by decide +kernel
theorem dX7_tryToBook_30 : decode cX7_tryToBook 30 = .ok (.invokestatic 33, 3) := by decide +kernel
theorem dX7_tryToBook_33 : decode cX7_tryToBook 33 = .ok (.ifCond .ne 6, 3) := by decide +kernel
theorem dX7_tryToBook_36 : decode cX7_tryToBook 36 = .ok (.ldc 95, 2) := by decide +kernel
theorem dX7_tryToBook_38 : decode cX7_tryToBook 38 = .ok (.ireturn, 1) := by decide +kernel
theorem dX7_tryToBook_39 : decode cX7_tryToBook 39 = .ok (.aload_n 0, 1) := by decide +kernel
theorem dX7_tryToBook_40 : decode cX7_tryToBook 40 = .ok (.iload_n 1, 1) := by decide +kernel
theorem dX7_tryToBook_41 : decode cX7_tryToBook 41 = .ok (.iload_n 1, 1) := by decide +kernel
theorem dX7_tryToBook_42 : decode cX7_tryToBook 42 = .ok (.iload_n 2, 1) := by decide +kernel
theorem dX7_tryToBook_43 : decode cX7_tryToBook 43 = .ok (.iadd, 1) := by decide +kernel
theorem dX7_tryToBook_44 : decode cX7_tryToBook 44 = .ok (.iload_n 3, 1) := by decide +kernel
theorem dX7_tryToBook_45 : decode cX7_tryToBook 45 = .ok (.invokevirtual 96, 3) := by decide +kernel
theorem dX7_tryToBook_48 : decode cX7_tryToBook 48 = .ok (.ifCond .ne 6, 3) := by decide +kernel
theorem dX7_tryToBook_51 : decode cX7_tryToBook 51 = .ok (.ldc 99, 2) := by decide +kernel
theorem dX7_tryToBook_53 : decode cX7_tryToBook 53 = .ok (.ireturn, 1) := by decide +kernel
theorem dX7_tryToBook_54 : decode cX7_tryToBook 54 = .ok (.aload_n 0, 1) := by decide +kernel
theorem dX7_tryToBook_55 : decode cX7_tryToBook 55 = .ok (.getfield 7, 3) := by decide +kernel
theorem dX7_tryToBook_58 : decode cX7_tryToBook 58 = .ok (.iconst 1, 1) := by decide +kernel
theorem dX7_tryToBook_59 : decode cX7_tryToBook 59 = .ok (.iaload, 1) := by decide +kernel
theorem dX7_tryToBook_60 : decode cX7_tryToBook 60 = .ok (.bipush 80, 2) := by decide +kernel
theorem dX7_tryToBook_62 : decode cX7_tryToBook 62 = .ok (.if_icmp .ne 8, 3) := by decide +kernel
theorem dX7_tryToBook_65 : decode cX7_tryToBook 65 = .ok (.ldc 100, 2) := by decide +kernel
theorem dX7_tryToBook_67 : decode cX7_tryToBook 67 = .ok (.goto 4, 3) := by decide +kernel
theorem dX7_tryToBook_70 : decode cX7_tryToBook 70 = .ok (.iconst 0, 1) := by decide +kernel
theorem dX7_tryToBook_71 : decode cX7_tryToBook 71 = .ok (.ireturn, 1) := by decide +kernel
theorem dX7_addBooking_0 : decode cX7_addBooking 0 = .ok (.aload_n 0, 1) := by decide +kernel
theorem dX7_addBooking_1 : decode cX7_addBooking 1 = .ok (.getfield 7, 3) := by decide +kernel
theorem dX7_addBooking_4 : decode cX7_addBooking 4 = .ok (.iconst 1, 1) := by decide +kernel
theorem dX7_addBooking_5 : decode cX7_addBooking 5 = .ok (.iaload, 1) := by decide +kernel
theorem dX7_addBooking_6 : decode cX7_addBooking 6 = .ok (.istore 4, 2) := by decide +kernel
theorem dX7_addBooking_8 : decode cX7_addBooking 8 = .ok (.aload_n 0, 1) := by decide +kernel
theorem dX7_addBooking_9 : decode cX7_addBooking 9 = .ok (.getfield 7, 3) := by decide +kernel
theorem dX7_addBooking_12 : decode cX7_addBooking 12 = .ok (.iconst 1, 1) := by decide +kernel
theorem dX7_addBooking_13 : decode cX7_addBooking 13 = .ok (.dup2, 1) := by decide +kernel
theorem dX7_addBooking_14 : decode cX7_addBooking 14 = .ok (.iaload, 1) := by decide +kernel
theorem dX7_addBooking_15 : decode cX7_addBooking 15 = .ok (.iconst 1, 1) := by decide +kernel
theorem dX7_addBooking_16 : decode cX7_addBooking 16 = .ok (.iadd, 1) := by decide +kernel
theorem dX7_addBooking_17 : decode cX7_addBooking 17 = .ok (.iastore, 1) := by decide +kernel
theorem dX7_addBooking_18 : decode cX7_addBooking 18 = .ok (.aload_n 0, 1) := by decide +kernel
theorem dX7_addBooking_19 : decode cX7_addBooking 19 = .ok (.iload 4, 2) := by decide +kernel
theorem dX7_addBooking_21 : decode cX7_addBooking 21 = .ok (.iconst 0, 1) := by decide +kernel
theorem dX7_addBooking_22 : decode cX7_addBooking 22 = .ok (.iconst 0, 1) := by decide +kernel
theorem dX7_addBooking_23 : decode cX7_addBooking 23 = .ok (.invokevirtual 51, 3) := by decide +kernel
theorem dX7_addBooking_26 : decode cX7_addBooking 26 = .ok (.aload_n 0, 1) := by decide +kernel
theorem dX7_addBooking_27 : decode cX7_addBooking 27 = .ok (.iload 4, 2) := by decide +kernel
theorem dX7_addBooking_29 : decode cX7_addBooking 29 = .ok (.iconst 1, 1) := by decide +kernel
theorem dX7_addBooking_30 : decode cX7_addBooking 30 = .ok (.iload_n 1, 1) := by decide +kernel
theorem dX7_addBooking_31 : decode cX7_addBooking 31 = .ok (.invokevirtual 51, 3) := by decide +kernel
theorem dX7_addBooking_34 : decode cX7_addBooking 34 = .ok (.aload_n 0, 1) := by decide +kernel
theorem dX7_addBooking_35 : decode cX7_addBooking 35 = .ok (.iload 4, 2) := by decide +kernel
theorem dX7_addBooking_37 : decode cX7_addBooking 37 = .ok (.iconst 2, 1) := by decide +kernel
theorem dX7_addBooking_38 : decode cX7_addBooking 38 = .ok (.iload_n 2, 1) := by decide +kernel
theorem dX7_addBooking_39 : decode cX7_addBooking 39 = .ok (.invokevirtual 51, 3) := by decide +kernel
theorem dX7_addBooking_42 : decode cX7_addBooking 42 = .ok (.aload_n 0, 1) := by decide +kernel
theorem dX7_addBooking_43 : decode cX7_addBooking 43 = .ok (.iload 4, 2) := by decide +kernel
theorem dX7_addBooking_45 : decode cX7_addBooking 45 = .ok (.iconst 3, 1) := by decide +kernel
theorem dX7_addBooking_46 : decode cX7_addBooking 46 = .ok (.iload_n 3, 1) := by decide +kernel
theorem dX7_addBooking_47 : decode cX7_addBooking 47 = .ok (.invokevirtual 51, 3) := by decide +kernel
theorem dX7_addBooking_50 : decode cX7_addBooking 50 = .ok (.aload_n 0, 1) := by decide +kernel
theorem dX7_addBooking_51 : decode cX7_addBooking 51 = .ok (.iload 4, 2) := by decide +kernel
theorem dX7_addBooking_53 : decode cX7_addBooking 53 = .ok (.iconst 4, 1) := by decide +kernel
theorem dX7_addBooking_54 : decode cX7_addBooking 54 = .ok (.iconst 0, 1) := by decide +kernel
theorem dX7_addBooking_55 : decode cX7_addBooking 55 = .ok (.invokevirtual 51, 3) := by decide +kernel
theorem dX7_addBooking_58 : decode cX7_addBooking 58 = .ok (.aload_n 0, 1) := by decide +kernel
theorem dX7_addBooking_59 : decode cX7_addBooking 59 = .ok (.iload 4, 2) := by decide +kernel
theorem dX7_addBooking_61 : decode cX7_addBooking 61 = .ok (.iconst 5, 1) := by decide +kernel
theorem dX7_addBooking_62 : decode cX7_addBooking 62 = .ok (.iload_n 3, 1) := by decide +kernel
theorem dX7_addBooking_63 : decode cX7_addBooking 63 = .ok (.iload_n 2, 1) := by decide +kernel
theorem dX7_addBooking_64 : decode cX7_addBooking 64 = .ok (.imul, 1) := by decide +kernel
theorem dX7_addBooking_65 : decode cX7_addBooking 65 = .ok (.aload_n 0, 1) := by decide +kernel
theorem dX7_addBooking_66 : decode cX7_addBooking 66 = .ok (.getfield 7, 3) := by decide +kernel
theorem dX7_addBooking_69 : decode cX7_addBooking 69 = .ok (.bipush 20, 2) := by decide +kernel
theorem dX7_addBooking_71 : decode cX7_addBooking 71 = .ok (.iaload, 1) := by decide +kernel
theorem dX7_addBooking_72 : decode cX7_addBooking 72 = .ok (.imul, 1) := by decide +kernel
theorem dX7_addBooking_73 : decode cX7_addBooking 73 = .ok (.invokevirtual 51, 3) := by decide +kernel
theorem dX7_addBooking_76 : decode cX7_addBooking 76 = .ok (.aload_n 0, 1) := by decide +kernel
theorem dX7_addBooking_77 : decode cX7_addBooking 77 = .ok (.iload 4, 2) := by decide +kernel
theorem dX7_addBooking_79 : decode cX7_addBooking 79 = .ok (.bipush 6, 2) := by decide +kernel
theorem dX7_addBooking_81 : decode cX7_addBooking 81 = .ok (.ldc 101, 2) := by decide +kernel
theorem dX7_addBooking_83 : decode cX7_addBooking 83 = .ok (.invokevirtual 51, 3) := by decide +kernel
theorem dX7_addBooking_86 : decode cX7_addBooking 86 = .ok (.aload_n 0, 1) := by decide +kernel
theorem dX7_addBooking_87 : decode cX7_addBooking 87 = .ok (.getfield 7, 3) := by decide +kernel
theorem dX7_addBooking_90 : decode cX7_addBooking 90 = .ok (.bipush 14, 2) := by decide +kernel
theorem dX7_addBooking_92 : decode cX7_addBooking 92 = .ok (.dup2, 1) := by decide +kernel
theorem dX7_addBooking_93 : decode cX7_addBooking 93 = .ok (.iaload, 1) := by decide +kernel
theorem dX7_addBooking_94 : decode cX7_addBooking 94 = .ok (.aload_n 0, 1) := by decide +kernel
theorem dX7_addBooking_95 : decode cX7_addBooking 95 = .ok (.iload 4, 2) := by decide +kernel
theorem dX7_addBooking_97 : decode cX7_addBooking 97 = .ok (.iconst 5, 1) := by decide +kernel
theorem dX7_addBooking_98 : decode cX7_addBooking 98 = .ok (.invokevirtual 29, 3) := by decide +kernel
theorem dX7_addBooking_101 : decode cX7_addBooking 101 = .ok (.iadd, 1) := by decide +kernel
theorem dX7_addBooking_102 : decode cX7_addBooking 102 = .ok (.iastore, 1) := by decide +kernel
theorem dX7_addBooking_103 : decode cX7_addBooking 103 = .ok (.iload 4, 2) := by decide +kernel
theorem dX7_addBooking_105 : decode cX7_addBooking 105 = .ok (.ireturn, 1) := by decide +kernel
theorem dX7_book_0 : decode cX7_book 0 = .ok (.aload_n 0, 1) := by decide +kernel
theorem dX7_book_1 : decode cX7_book 1 = .ok (.iload_n 1, 1) := by decide +kernel
theorem dX7_book_2 : decode cX7_book 2 = .ok (.iload_n 2, 1) := by decide +kernel
theorem dX7_book_3 : decode cX7_book 3 = .ok (.iload_n 3, 1) := by decide +kernel
theorem dX7_book_4 : decode cX7_book 4 = .ok (.invokevirtual 102, 3) := by decide +kernel
theorem dX7_book_7 : decode cX7_book 7 = .ok (.istore 4, 2) := by decide +kernel
theorem dX7_book_9 : decode cX7_book 9 = .ok (.iload 4, 2) := by decide +kernel
theorem dX7_book_11 : decode cX7_book 11 = .ok (.ifCond .ge 6, 3) := by decide +kernel
theorem dX7_book_14 : decode cX7_book 14 = .ok (.iload 4, 2) := by decide +kernel
theorem dX7_book_16 : decode cX7_book 16 = .ok (.ireturn, 1) := by decide +kernel
theorem dX7_book_17 : decode cX7_book 17 = .ok (.aload_n 0, 1) := by decide +kernel
theorem dX7_book_18 : decode cX7_book 18 = .ok (.invokevirtual 106, 3) := by decide +kernel
theorem dX7_book_21 : decode cX7_book 21 = .ok (.aload_n 0, 1) := by decide +kernel
theorem dX7_book_22 : decode cX7_book 22 = .ok (.iload_n 1, 1) := by decide +kernel
theorem dX7_book_23 : decode cX7_book 23 = .ok (.iload_n 2, 1) := by decide +kernel
theorem dX7_book_24 : decode cX7_book 24 = .ok (.iload_n 3, 1) := by decide +kernel
theorem dX7_book_25 : decode cX7_book 25 = .ok (.invokevirtual 109, 3) := by decide +kernel
theorem dX7_book_28 : decode cX7_book 28 = .ok (.ireturn, 1) := by decide +kernel
theorem dX7_isNext_0 : decode cX7_isNext 0 = .ok (.aload_n 0, 1) := by decide +kernel
theorem dX7_isNext_1 : decode cX7_isNext 1 = .ok (.getfield 112, 3) := by decide +kernel
theorem dX7_isNext_4 : decode cX7_isNext 4 = .ok (.aload_n 0, 1) := by decide +kernel
theorem dX7_isNext_5 : decode cX7_isNext 5 = .ok (.getfield 115, 3) := by decide +kernel
theorem dX7_isNext_8 : decode cX7_isNext 8 = .ok (.if_icmp .ge 24, 3) := by decide +kernel
theorem dX7_isNext_11 : decode cX7_isNext 11 = .ok (.aload_n 0, 1) := by decide +kernel
theorem dX7_isNext_12 : decode cX7_isNext 12 = .ok (.getfield 22, 3) := by decide +kernel
theorem dX7_isNext_15 : decode cX7_isNext 15 = .ok (.aload_n 0, 1) := by decide +kernel
theorem dX7_isNext_16 : decode cX7_isNext 16 = .ok (.getfield 112, 3) := by decide +kernel
theorem dX7_isNext_19 : decode cX7_isNext 19 = .ok (.iaload, 1) := by decide +kernel
theorem dX7_isNext_20 : decode cX7_isNext 20 = .ok (.iload_n 1, 1) := by decide +kernel
theorem dX7_isNext_21 : decode cX7_isNext 21 = .ok (.iload_n 2, 1) := by decide +kernel
theorem dX7_isNext_22 : decode cX7_isNext 22 = .ok (.invokestatic 33, 3) := by decide +kernel
theorem dX7_isNext_25 : decode cX7_isNext 25 = .ok (.ifCond .eq 7, 3) := by decide +kernel
theorem dX7_isNext_28 : decode cX7_isNext 28 = .ok (.iconst 1, 1) := by decide +kernel
theorem dX7_isNext_29 : decode cX7_isNext 29 = .ok (.goto 4, 3) := by decide +kernel
theorem dX7_isNext_32 : decode cX7_isNext 32 = .ok (.iconst 0, 1) := by decide +kernel
theorem dX7_isNext_33 : decode cX7_isNext 33 = .ok (.ireturn, 1) := by decide +kernel
theorem dX7_readBooking_0 : decode cX7_readBooking 0 = .ok (.aload_n 0, 1) := by decide +kernel
theorem dX7_readBooking_1 : decode cX7_readBooking 1 = .ok (.bipush 48, 2) := by decide +kernel
theorem dX7_readBooking_3 : decode cX7_readBooking 3 = .ok (.bipush 57, 2) := by decide +kernel
theorem dX7_readBooking_5 : decode cX7_readBooking 5 = .ok (.invokevirtual 118, 3) := by decide +kernel
theorem dX7_readBooking_8 : decode cX7_readBooking 8 = .ok (.ifCond .ne 11, 3) := by decide +kernel
theorem dX7_readBooking_11 : decode cX7_readBooking 11 = .ok (.bipush (-100), 2) := by decide +kernel
theorem dX7_readBooking_13 : decode cX7_readBooking 13 = .ok (.aload_n 0, 1) := by decide +kernel
theorem dX7_readBooking_14 : decode cX7_readBooking 14 = .ok (.getfield 112, 3) := by decide +kernel
theorem dX7_readBooking_17 : decode cX7_readBooking 17 = .ok (.isub, 1) := by decide +kernel
theorem dX7_readBooking_18 : decode cX7_readBooking 18 = .ok (.ireturn, 1) := by decide +kernel
theorem dX7_readBooking_19 : decode cX7_readBooking 19 = .ok (.aload_n 0, 1) := by decide +kernel
theorem dX7_readBooking_20 : decode cX7_readBooking 20 = .ok (.getfield 22, 3) := by decide +kernel
theorem dX7_readBooking_23 : decode cX7_readBooking 23 = .ok (.aload_n 0, 1) := by decide +kernel
theorem dX7_readBooking_24 : decode cX7_readBooking 24 = .ok (.getfield 112, 3) := by decide +kernel
theorem dX7_readBooking_27 : decode cX7_readBooking 27 = .ok (.iaload, 1) := by decide +kernel
theorem dX7_readBooking_28 : decode cX7_readBooking 28 = .ok (.bipush 48, 2) := by decide +kernel
theorem dX7_readBooking_30 : decode cX7_readBooking 30 = .ok (.isub, 1) := by decide +kernel
theorem dX7_readBooking_31 : decode cX7_readBooking 31 = .ok (.istore_n 1, 1) := by decide +kernel
theorem dX7_readBooking_32 : decode cX7_readBooking 32 = .ok (.aload_n 0, 1) := by decide +kernel
theorem dX7_readBooking_33 : decode cX7_readBooking 33 = .ok (.dup, 1) := by decide +kernel
theorem dX7_readBooking_34 : decode cX7_readBooking 34 = .ok (.getfield 112, 3) := by decide +kernel
theorem dX7_readBooking_37 : decode cX7_readBooking 37 = .ok (.iconst 1, 1) := by decide +kernel
theorem dX7_readBooking_38 : decode cX7_readBooking 38 = .ok (.iadd, 1) := by decide +kernel
theorem dX7_readBooking_39 : decode cX7_readBooking 39 = .ok (.putfield 112, 3) := by decide +kernel
theorem dX7_readBooking_42 : decode cX7_readBooking 42 = .ok (.iload_n 1, 1) := by decide +kernel
theorem dX7_readBooking_43 : decode cX7_readBooking 43 = .ok (.ifCond .le 68, 3) := by decide +kernel
theorem dX7_readBooking_46 : decode cX7_readBooking 46 = .ok (.aload_n 0, 1) := by decide +kernel
theorem dX7_readBooking_47 : decode cX7_readBooking 47 = .ok (.bipush 48, 2) := by decide +kernel
theorem dX7_readBooking_49 : decode cX7_readBooking 49 = .ok (.bipush 57, 2) := by decide +kernel
theorem dX7_readBooking_51 : decode cX7_readBooking 51 = .ok (.invokevirtual 118, 3) := by decide +kernel
theorem dX7_readBooking_54 : decode cX7_readBooking 54 = .ok (.ifCond .eq 57, 3) := by decide +kernel
theorem dX7_readBooking_57 : decode cX7_readBooking 57 = .ok (.bipush 10, 2) := by decide +kernel
theorem dX7_readBooking_59 : decode cX7_readBooking 59 = .ok (.iload_n 1, 1) := by decide +kernel
theorem dX7_readBooking_60 : decode cX7_readBooking 60 = .ok (.imul, 1) := by decide +kernel
theorem dX7_readBooking_61 : decode cX7_readBooking 61 = .ok (.aload_n 0, 1) := by decide +kernel
theorem dX7_readBooking_62 : decode cX7_readBooking 62 = .ok (.getfield 22, 3) := by decide +kernel
theorem dX7_readBooking_65 : decode cX7_readBooking 65 = .ok (.aload_n 0, 1) := by decide +kernel
theorem dX7_readBooking_66 : decode cX7_readBooking 66 = .ok (.getfield 112, 3) := by decide +kernel
theorem dX7_readBooking_69 : decode cX7_readBooking 69 = .ok (.iaload, 1) := by decide +kernel
theorem dX7_readBooking_70 : decode cX7_readBooking 70 = .ok (.iadd, 1) := by decide +kernel
theorem dX7_readBooking_71 : decode cX7_readBooking 71 = .ok (.bipush 48, 2) := by decide +kernel
theorem dX7_readBooking_73 : decode cX7_readBooking 73 = .ok (.isub, 1) := by decide +kernel
theorem dX7_readBooking_74 : decode cX7_readBooking 74 = .ok (.sipush 899, 3) := by decide +kernel
theorem dX7_readBooking_77 : decode cX7_readBooking 77 = .ok (.if_icmp .gt 34, 3) := by decide +kernel
theorem dX7_readBooking_80 : decode cX7_readBooking 80 = .ok (.bipush 10, 2) := by decide +kernel
theorem dX7_readBooking_82 : decode cX7_readBooking 82 = .ok (.iload_n 1, 1) := by decide +kernel
theorem dX7_readBooking_83 : decode cX7_readBooking 83 = .ok (.imul, 1) := by decide +kernel
theorem dX7_readBooking_84 : decode cX7_readBooking 84 = .ok (.aload_n 0, 1) := by decide +kernel
theorem dX7_readBooking_85 : decode cX7_readBooking 85 = .ok (.getfield 22, 3) := by decide +kernel
theorem dX7_readBooking_88 : decode cX7_readBooking 88 = .ok (.aload_n 0, 1) := by decide +kernel
theorem dX7_readBooking_89 : decode cX7_readBooking 89 = .ok (.getfield 112, 3) := by decide +kernel
theorem dX7_readBooking_92 : decode cX7_readBooking 92 = .ok (.iaload, 1) := by decide +kernel
theorem dX7_readBooking_93 : decode cX7_readBooking 93 = .ok (.iadd, 1) := by decide +kernel
theorem dX7_readBooking_94 : decode cX7_readBooking 94 = .ok (.bipush 48, 2) := by decide +kernel
theorem dX7_readBooking_96 : decode cX7_readBooking 96 = .ok (.isub, 1) := by decide +kernel
theorem dX7_readBooking_97 : decode cX7_readBooking 97 = .ok (.istore_n 1, 1) := by decide +kernel
theorem dX7_readBooking_98 : decode cX7_readBooking 98 = .ok (.aload_n 0, 1) := by decide +kernel
theorem dX7_readBooking_99 : decode cX7_readBooking 99 = .ok (.dup, 1) := by decide +kernel
theorem dX7_readBooking_100 : decode cX7_readBooking 100 = .ok (.getfield 112, 3) := by decide +kernel
theorem dX7_readBooking_103 : decode cX7_readBooking 103 = .ok (.iconst 1, 1) := by decide +kernel
theorem dX7_readBooking_104 : decode cX7_readBooking 104 = .ok (.iadd, 1) := by decide +kernel
theorem dX7_readBooking_105 : decode cX7_readBooking 105 = .ok (.putfield 112, 3) := by decide +kernel
theorem dX7_readBooking_108 : decode cX7_readBooking 108 = .ok (.goto (-66), 3) := by decide +kernel
theorem dX7_readBooking_111 : decode cX7_readBooking 111 = .ok (.aload_n 0, 1) := by decide +kernel
theorem dX7_readBooking_112 : decode cX7_readBooking 112 = .ok (.bipush 43, 2) := by decide +kernel
theorem dX7_readBooking_114 : decode cX7_readBooking 114 = .ok (.bipush 43, 2) := by decide +kernel
theorem dX7_readBooking_116 : decode cX7_readBooking 116 = .ok (.invokevirtual 118, 3) := by decide +kernel
theorem dX7_readBooking_119 : decode cX7_readBooking 119 = .ok (.ifCond .ne 11, 3) := by decide +kernel
theorem dX7_readBooking_122 : decode cX7_readBooking 122 = .ok (.bipush (-100), 2) := by decide +kernel
theorem dX7_readBooking_124 : decode cX7_readBooking 124 = .ok (.aload_n 0, 1) := by decide +kernel
theorem dX7_readBooking_125 : decode cX7_readBooking 125 = .ok (.getfield 112, 3) := by decide +kernel
theorem dX7_readBooking_128 : decode cX7_readBooking 128 = .ok (.isub, 1) := by decide +kernel
theorem dX7_readBooking_129 : decode cX7_readBooking 129 = .ok (.ireturn, 1) := by decide +kernel
theorem dX7_readBooking_130 : decode cX7_readBooking 130 = .ok (.aload_n 0, 1) := by decide +kernel
theorem dX7_readBooking_131 : decode cX7_readBooking 131 = .ok (.dup, 1) := by decide +kernel
theorem dX7_readBooking_132 : decode cX7_readBooking 132 = .ok (.getfield 112, 3) := by decide +kernel
theorem dX7_readBooking_135 : decode cX7_readBooking 135 = .ok (.iconst 1, 1) := by decide +kernel
theorem dX7_readBooking_136 : decode cX7_readBooking 136 = .ok (.iadd, 1) := by decide +kernel
theorem dX7_readBooking_137 : decode cX7_readBooking 137 = .ok (.putfield 112, 3) := by decide +kernel
theorem dX7_readBooking_140 : decode cX7_readBooking 140 = .ok (.aload_n 0, 1) := by decide +kernel
theorem dX7_readBooking_141 : decode cX7_readBooking 141 = .ok (.bipush 49, 2) := by decide +kernel
theorem dX7_readBooking_143 : decode cX7_readBooking 143 = .ok (.bipush 57, 2) := by decide +kernel
theorem dX7_readBooking_145 : decode cX7_readBooking 145 = .ok (.invokevirtual 118, 3) := by decide +kernel
theorem dX7_readBooking_148 : decode cX7_readBooking 148 = .ok (.ifCond .ne 11, 3) := by decide +kernel
theorem dX7_readBooking_151 : decode cX7_readBooking 151 = .ok (.bipush (-100), 2) := by decide +kernel
theorem dX7_readBooking_153 : decode cX7_readBooking 153 = .ok (.aload_n 0, 1) := by decide +kernel
theorem dX7_readBooking_154 : decode cX7_readBooking 154 = .ok (.getfield 112, 3) := by decide +kernel
theorem dX7_readBooking_157 : decode cX7_readBooking 157 = .ok (.isub, 1) := by decide +kernel
theorem dX7_readBooking_158 : decode cX7_readBooking 158 = .ok (.ireturn, 1) := by decide +kernel
theorem dX7_readBooking_159 : decode cX7_readBooking 159 = .ok (.aload_n 0, 1) := by decide +kernel
theorem dX7_readBooking_160 : decode cX7_readBooking 160 = .ok (.getfield 22, 3) := by decide +kernel
theorem dX7_readBooking_163 : decode cX7_readBooking 163 = .ok (.aload_n 0, 1) := by decide +kernel
theorem dX7_readBooking_164 : decode cX7_readBooking 164 = .ok (.getfield 112, 3) := by decide +kernel
theorem dX7_readBooking_167 : decode cX7_readBooking 167 = .ok (.iaload, 1) := by decide +kernel
theorem dX7_readBooking_168 : decode cX7_readBooking 168 = .ok (.bipush 48, 2) := by decide +kernel
theorem dX7_readBooking_170 : decode cX7_readBooking 170 = .ok (.isub, 1) := by decide +kernel
theorem dX7_readBooking_171 : decode cX7_readBooking 171 = .ok (.istore_n 2, 1) := by decide +kernel
theorem dX7_readBooking_172 : decode cX7_readBooking 172 = .ok (.aload_n 0, 1) := by decide +kernel
theorem dX7_readBooking_173 : decode cX7_readBooking 173 = .ok (.dup, 1) := by decide +kernel
theorem dX7_readBooking_174 : decode cX7_readBooking 174 = .ok (.getfield 112, 3) := by decide +kernel
theorem dX7_readBooking_177 : decode cX7_readBooking 177 = .ok (.iconst 1, 1) := by decide +kernel
theorem dX7_readBooking_178 : decode cX7_readBooking 178 = .ok (.iadd, 1) := by decide +kernel
theorem dX7_readBooking_179 : decode cX7_readBooking 179 = .ok (.putfield 112, 3) := by decide +kernel
theorem dX7_readBooking_182 : decode cX7_readBooking 182 = .ok (.aload_n 0, 1) := by decide +kernel
theorem dX7_readBooking_183 : decode cX7_readBooking 183 = .ok (.bipush 120, 2) := by decide +kernel
theorem dX7_readBooking_185 : decode cX7_readBooking 185 = .ok (.bipush 120, 2) := by decide +kernel
theorem dX7_readBooking_187 : decode cX7_readBooking 187 = .ok (.invokevirtual 118, 3) := by decide +kernel
theorem dX7_readBooking_190 : decode cX7_readBooking 190 = .ok (.ifCond .ne 11, 3) := by decide +kernel
theorem dX7_readBooking_193 : decode cX7_readBooking 193 = .ok (.bipush (-100), 2) := by decide +kernel
theorem dX7_readBooking_195 : decode cX7_readBooking 195 = .ok (.aload_n 0, 1) := by decide +kernel
theorem dX7_readBooking_196 : decode cX7_readBooking 196 = .ok (.getfield 112, 3) := by decide +kernel
theorem dX7_readBooking_199 : decode cX7_readBooking 199 = .ok (.isub, 1) := by decide +kernel
theorem dX7_readBooking_200 : decode cX7_readBooking 200 = .ok (.ireturn, 1) := by decide +kernel
theorem dX7_readBooking_201 : decode cX7_readBooking 201 = .ok (.aload_n 0, 1) := by decide +kernel
theorem dX7_readBooking_202 : decode cX7_readBooking 202 = .ok (.dup, 1) := by decide +kernel
theorem dX7_readBooking_203 : decode cX7_readBooking 203 = .ok (.getfield 112, 3) := by decide +kernel
theorem dX7_readBooking_206 : decode cX7_readBooking 206 = .ok (.iconst 1, 1) := by decide +kernel
theorem dX7_readBooking_207 : decode cX7_readBooking 207 = .ok (.iadd, 1) := by decide +kernel
theorem dX7_readBooking_208 : decode cX7_readBooking 208 = .ok (.putfield 112, 3) := by decide +kernel
theorem dX7_readBooking_211 : decode cX7_readBooking 211 = .ok (.aload_n 0, 1) := by decide +kernel
theorem dX7_readBooking_212 : decode cX7_readBooking 212 = .ok (.bipush 49, 2) := by decide +kernel
theorem dX7_readBooking_214 : decode cX7_readBooking 214 = .ok (.bipush 57, 2) := by decide +kernel
theorem dX7_readBooking_216 : decode cX7_readBooking 216 = .ok (.invokevirtual 118, 3) := by decide +kernel
theorem dX7_readBooking_219 : decode cX7_readBooking 219 = .ok (.ifCond .ne 11, 3) := by decide +kernel
theorem dX7_readBooking_222 : decode cX7_readBooking 222 = .ok (.bipush (-100), 2) := by decide +kernel
theorem dX7_readBooking_224 : decode cX7_readBooking 224 = .ok (.aload_n 0, 1) := by decide +kernel
theorem dX7_readBooking_225 : decode cX7_readBooking 225 = .ok (.getfield 112, 3) := by decide +kernel
theorem dX7_readBooking_228 : decode cX7_readBooking 228 = .ok (.isub, 1) := by decide +kernel
theorem dX7_readBooking_229 : decode cX7_readBooking 229 = .ok (.ireturn, 1) := by decide +kernel
theorem dX7_readBooking_230 : decode cX7_readBooking 230 = .ok (.aload_n 0, 1) := by decide +kernel
theorem dX7_readBooking_231 : decode cX7_readBooking 231 = .ok (.getfield 22, 3) := by decide +kernel
theorem dX7_readBooking_234 : decode cX7_readBooking 234 = .ok (.aload_n 0, 1) := by decide +kernel
theorem dX7_readBooking_235 : decode cX7_readBooking 235 = .ok (.getfield 112, 3) := by decide +kernel
theorem dX7_readBooking_238 : decode cX7_readBooking 238 = .ok (.iaload, 1) := by decide +kernel
theorem dX7_readBooking_239 : decode cX7_readBooking 239 = .ok (.bipush 48, 2) := by decide +kernel
theorem dX7_readBooking_241 : decode cX7_readBooking 241 = .ok (.isub, 1) := by decide +kernel
theorem dX7_readBooking_242 : decode cX7_readBooking 242 = .ok (.istore_n 3, 1) := by decide +kernel
theorem dX7_readBooking_243 : decode cX7_readBooking 243 = .ok (.aload_n 0, 1) := by decide +kernel
theorem dX7_readBooking_244 : decode cX7_readBooking 244 = .ok (.dup, 1) := by decide +kernel
theorem dX7_readBooking_245 : decode cX7_readBooking 245 = .ok (.getfield 112, 3) := by decide +kernel
theorem dX7_readBooking_248 : decode cX7_readBooking 248 = .ok (.iconst 1, 1) := by decide +kernel
theorem dX7_readBooking_249 : decode cX7_readBooking 249 = .ok (.iadd, 1) := by decide +kernel
theorem dX7_readBooking_250 : decode cX7_readBooking 250 = .ok (.putfield 112, 3) := by decide +kernel
theorem dX7_readBooking_253 : decode cX7_readBooking 253 = .ok (.bipush 100, 2) := by decide +kernel
theorem dX7_readBooking_255 : decode cX7_readBooking 255 = .ok (.iload_n 1, 1) := by decide +kernel
theorem dX7_readBooking_256 : decode cX7_readBooking 256 = .ok (.imul, 1) := by decide +kernel
theorem dX7_readBooking_257 : decode cX7_readBooking 257 = .ok (.bipush 10, 2) := by decide +kernel
theorem dX7_readBooking_259 : decode cX7_readBooking 259 = .ok (.iload_n 2, 1) := by decide +kernel
theorem dX7_readBooking_260 : decode cX7_readBooking 260 = .ok (.imul, 1) := by decide +kernel
theorem dX7_readBooking_261 : decode cX7_readBooking 261 = .ok (.iadd, 1) := by decide +kernel
theorem dX7_readBooking_262 : decode cX7_readBooking 262 = .ok (.iload_n 3, 1) := by decide +kernel
theorem dX7_readBooking_263 : decode cX7_readBooking 263 = .ok (.iadd, 1) := by decide +kernel
theorem dX7_readBooking_264 : decode cX7_readBooking 264 = .ok (.ireturn, 1) := by decide +kernel
theorem dX7_readAll_0 : decode cX7_readAll 0 = .ok (.aload_n 0, 1) := by decide +kernel
theorem dX7_readAll_1 : decode cX7_readAll 1 = .ok (.iconst 0, 1) := by decide +kernel
theorem dX7_readAll_2 : decode cX7_readAll 2 = .ok (.putfield 112, 3) := by decide +kernel
theorem dX7_readAll_5 : decode cX7_readAll 5 = .ok (.iconst 0, 1) := by decide +kernel
theorem dX7_readAll_6 : decode cX7_readAll 6 = .ok (.istore_n 1, 1) := by decide +kernel
theorem dX7_readAll_7 : decode cX7_readAll 7 = .ok (.iconst 1, 1) := by decide +kernel
theorem dX7_readAll_8 : decode cX7_readAll 8 = .ok (.istore_n 2, 1) := by decide +kernel
theorem dX7_readAll_9 : decode cX7_readAll 9 = .ok (.iload_n 2, 1) := by decide +kernel
theorem dX7_readAll_10 : decode cX7_readAll 10 = .ok (.ifCond .eq 47, 3) := by decide +kernel
theorem dX7_readAll_13 : decode cX7_readAll 13 = .ok (.aload_n 0, 1) := by decide +kernel
theorem dX7_readAll_14 : decode cX7_readAll 14 = .ok (.invokevirtual 121, 3) := by decide +kernel
theorem dX7_readAll_17 : decode cX7_readAll 17 = .ok (.istore_n 3, 1) := by decide +kernel
theorem dX7_readAll_18 : decode cX7_readAll 18 = .ok (.iload_n 3, 1) := by decide +kernel
theorem dX7_readAll_19 : decode cX7_readAll 19 = .ok (.ifCond .ge 5, 3) := by decide +kernel
theorem dX7_readAll_22 : decode cX7_readAll 22 = .ok (.iload_n 3, 1) := by decide +kernel
theorem dX7_readAll_23 : decode cX7_readAll 23 = .ok (.ireturn, 1) := by decide +kernel
theorem dX7_readAll_24 : decode cX7_readAll 24 = .ok (.iinc 1 1, 3) := by decide +kernel
theorem dX7_readAll_27 : decode cX7_readAll 27 = .ok (.aload_n 0, 1) := by decide +kernel
theorem dX7_readAll_28 : decode cX7_readAll 28 = .ok (.bipush 59, 2) := by decide +kernel
theorem dX7_readAll_30 : decode cX7_readAll 30 = .ok (.bipush 59, 2) := by decide +kernel
theorem dX7_readAll_32 : decode cX7_readAll 32 = .ok (.invokevirtual 118, 3) := by decide +kernel
theorem dX7_readAll_35 : decode cX7_readAll 35 = .ok (.istore_n 2, 1) := by decide +kernel
theorem dX7_readAll_36 : decode cX7_readAll 36 = .ok (.aload_n 0, 1) := by decide +kernel
theorem dX7_readAll_37 : decode cX7_readAll 37 = .ok (.dup, 1) := by decide +kernel
theorem dX7_readAll_38 : decode cX7_readAll 38 = .ok (.getfield 112, 3) := by decide +kernel
theorem dX7_readAll_41 : decode cX7_readAll 41 = .ok (.iload_n 2, 1) := by decide +kernel
theorem dX7_readAll_42 : decode cX7_readAll 42 = .ok (.ifCond .eq 7, 3) := by decide +kernel
theorem dX7_readAll_45 : decode cX7_readAll 45 = .ok (.iconst 1, 1) := by decide +kernel
theorem dX7_readAll_46 : decode cX7_readAll 46 = .ok (.goto 4, 3) := by decide +kernel
theorem dX7_readAll_49 : decode cX7_readAll 49 = .ok (.iconst 0, 1) := by decide +kernel
theorem dX7_readAll_50 : decode cX7_readAll 50 = .ok (.iadd, 1) := by decide +kernel
theorem dX7_readAll_51 : decode cX7_readAll 51 = .ok (.putfield 112, 3) := by decide +kernel
theorem dX7_readAll_54 : decode cX7_readAll 54 = .ok (.goto (-45), 3) := by decide +kernel
theorem dX7_readAll_57 : decode cX7_readAll 57 = .ok (.aload_n 0, 1) := by decide +kernel
theorem dX7_readAll_58 : decode cX7_readAll 58 = .ok (.getfield 112, 3) := by decide +kernel
theorem dX7_readAll_61 : decode cX7_readAll 61 = .ok (.aload_n 0, 1) := by decide +kernel
theorem dX7_readAll_62 : decode cX7_readAll 62 = .ok (.getfield 115, 3) := by decide +kernel
theorem dX7_readAll_65 : decode cX7_readAll 65 = .ok (.if_icmp .ge 13, 3) := by decide +kernel
theorem dX7_readAll_68 : decode cX7_readAll 68 = .ok (.bipush (-100), 2) := by decide +kernel
theorem dX7_readAll_70 : decode cX7_readAll 70 = .ok (.aload_n 0, 1) := by decide +kernel
theorem dX7_readAll_71 : decode cX7_readAll 71 = .ok (.getfield 112, 3) := by decide +kernel
theorem dX7_readAll_74 : decode cX7_readAll 74 = .ok (.isub, 1) := by decide +kernel
theorem dX7_readAll_75 : decode cX7_readAll 75 = .ok (.goto 4, 3) := by decide +kernel
theorem dX7_readAll_78 : decode cX7_readAll 78 = .ok (.iload_n 1, 1) := by decide +kernel
theorem dX7_readAll_79 : decode cX7_readAll 79 = .ok (.ireturn, 1) := by decide +kernel
theorem dX7_bookAll_0 : decode cX7_bookAll 0 = .ok (.aload_n 0, 1) := by decide +kernel
theorem dX7_bookAll_1 : decode cX7_bookAll 1 = .ok (.invokevirtual 124, 3) := by decide +kernel
theorem dX7_bookAll_4 : decode cX7_bookAll 4 = .ok (.istore_n 1, 1) := by decide +kernel
theorem dX7_bookAll_5 : decode cX7_bookAll 5 = .ok (.iload_n 1, 1) := by decide +kernel
theorem dX7_bookAll_6 : decode cX7_bookAll 6 = .ok (.ifCond .ge 5, 3) := by decide +kernel
theorem dX7_bookAll_9 : decode cX7_bookAll 9 = .ok (.iload_n 1, 1) := by decide +kernel
theorem dX7_bookAll_10 : decode cX7_bookAll 10 = .ok (.ireturn, 1) := by decide +kernel
theorem dX7_bookAll_11 : decode cX7_bookAll 11 = .ok (.aload_n 0, 1) := by decide +kernel
theorem dX7_bookAll_12 : decode cX7_bookAll 12 = .ok (.invokevirtual 127, 3) := by decide +kernel
theorem dX7_bookAll_15 : decode cX7_bookAll 15 = .ok (.aload_n 0, 1) := by decide +kernel
theorem dX7_bookAll_16 : decode cX7_bookAll 16 = .ok (.iconst 0, 1) := by decide +kernel
theorem dX7_bookAll_17 : decode cX7_bookAll 17 = .ok (.putfield 112, 3) := by decide +kernel
theorem dX7_bookAll_20 : decode cX7_bookAll 20 = .ok (.iconst 0, 1) := by decide +kernel
theorem dX7_bookAll_21 : decode cX7_bookAll 21 = .ok (.istore_n 2, 1) := by decide +kernel
theorem dX7_bookAll_22 : decode cX7_bookAll 22 = .ok (.iload_n 2, 1) := by decide +kernel
theorem dX7_bookAll_23 : decode cX7_bookAll 23 = .ok (.iload_n 1, 1) := by decide +kernel
theorem dX7_bookAll_24 : decode cX7_bookAll 24 = .ok (.if_icmp .ge 77, 3) := by decide +kernel
theorem dX7_bookAll_27 : decode cX7_bookAll 27 = .ok (.aload_n 0, 1) := by decide +kernel
theorem dX7_bookAll_28 : decode cX7_bookAll 28 = .ok (.invokevirtual 121, 3) := by decide +kernel
theorem dX7_bookAll_31 : decode cX7_bookAll 31 = .ok (.istore_n 3, 1) := by decide +kernel
theorem dX7_bookAll_32 : decode cX7_bookAll 32 = .ok (.aload_n 0, 1) := by decide +kernel
theorem dX7_bookAll_33 : decode cX7_bookAll 33 = .ok (.iload_n 3, 1) := by decide +kernel
theorem dX7_bookAll_34 : decode cX7_bookAll 34 = .ok (.bipush 100, 2) := by decide +kernel
theorem dX7_bookAll_36 : decode cX7_bookAll 36 = .ok (.idiv, 1) := by decide +kernel
theorem dX7_bookAll_37 : decode cX7_bookAll 37 = .ok (.iload_n 3, 1) := by decide +kernel
theorem dX7_bookAll_38 : decode cX7_bookAll 38 = .ok (.bipush 10, 2) := by decide +kernel
theorem dX7_bookAll_40 : decode cX7_bookAll 40 = .ok (.idiv, 1) := by decide +kernel
theorem dX7_bookAll_41 : decode cX7_bookAll 41 = .ok (.bipush 10, 2) := by decide +kernel
theorem dX7_bookAll_43 : decode cX7_bookAll 43 = .ok (.irem, 1) := by decide +kernel
theorem dX7_bookAll_44 : decode cX7_bookAll 44 = .ok (.iload_n 3, 1) := by decide +kernel
theorem dX7_bookAll_45 : decode cX7_bookAll 45 = .ok (.bipush 10, 2) := by decide +kernel
theorem dX7_bookAll_47 : decode cX7_bookAll 47 = .ok (.irem, 1) := by decide +kernel
theorem dX7_bookAll_48 : decode cX7_bookAll 48 = .ok (.invokevirtual 102, 3) := by decide +kernel
theorem dX7_bookAll_51 : decode cX7_bookAll 51 = .ok (.istore 4, 2) := by decide +kernel
theorem dX7_bookAll_53 : decode cX7_bookAll 53 = .ok (.iload 4, 2) := by decide +kernel
theorem dX7_bookAll_55 : decode cX7_bookAll 55 = .ok (.ifCond .ge 10, 3) := by decide +kernel
theorem dX7_bookAll_58 : decode cX7_bookAll 58 = .ok (.aload_n 0, 1) := by decide +kernel
theorem dX7_bookAll_59 : decode cX7_bookAll 59 = .ok (.invokevirtual 130, 3) := by decide +kernel
theorem dX7_bookAll_62 : decode cX7_bookAll 62 = .ok (.iload 4, 2) := by decide +kernel
theorem dX7_bookAll_64 : decode cX7_bookAll 64 = .ok (.ireturn, 1) := by decide +kernel
theorem dX7_bookAll_65 : decode cX7_bookAll 65 = .ok (.aload_n 0, 1) := by decide +kernel
theorem dX7_bookAll_66 : decode cX7_bookAll 66 = .ok (.iload_n 3, 1) := by decide +kernel
theorem dX7_bookAll_67 : decode cX7_bookAll 67 = .ok (.bipush 100, 2) := by decide +kernel
theorem dX7_bookAll_69 : decode cX7_bookAll 69 = .ok (.idiv, 1) := by decide +kernel
theorem dX7_bookAll_70 : decode cX7_bookAll 70 = .ok (.iload_n 3, 1) := by decide +kernel
theorem dX7_bookAll_71 : decode cX7_bookAll 71 = .ok (.bipush 10, 2) := by decide +kernel
theorem dX7_bookAll_73 : decode cX7_bookAll 73 = .ok (.idiv, 1) := by decide +kernel
theorem dX7_bookAll_74 : decode cX7_bookAll 74 = .ok (.bipush 10, 2) := by decide +kernel
theorem dX7_bookAll_76 : decode cX7_bookAll 76 = .ok (.irem, 1) := by decide +kernel
theorem dX7_bookAll_77 : decode cX7_bookAll 77 = .ok (.iload_n 3, 1) := by decide +kernel
theorem dX7_bookAll_78 : decode cX7_bookAll 78 = .ok (.bipush 10, 2) := by decide +kernel
theorem dX7_bookAll_80 : decode cX7_bookAll 80 = .ok (.irem, 1) := by decide +kernel
theorem dX7_bookAll_81 : decode cX7_bookAll 81 = .ok (.invokevirtual 109, 3) := by decide +kernel
theorem dX7_bookAll_84 : decode cX7_bookAll 84 = .ok (.pop, 1) := by decide +kernel
theorem dX7_bookAll_85 : decode cX7_bookAll 85 = .ok (.aload_n 0, 1) := by decide +kernel
theorem dX7_bookAll_86 : decode cX7_bookAll 86 = .ok (.dup, 1) := by decide +kernel
theorem dX7_bookAll_87 : decode cX7_bookAll 87 = .ok (.getfield 112, 3) := by decide +kernel
theorem dX7_bookAll_90 : decode cX7_bookAll 90 = .ok (.iconst 1, 1) := by decide +kernel
theorem dX7_bookAll_91 : decode cX7_bookAll 91 = .ok (.iadd, 1) := by decide +kernel
theorem dX7_bookAll_92 : decode cX7_bookAll 92 = .ok (.putfield 112, 3) := by decide +kernel
theorem dX7_bookAll_95 : decode cX7_bookAll 95 = .ok (.iinc 2 1, 3) := by decide +kernel
theorem dX7_bookAll_98 : decode cX7_bookAll 98 = .ok (.goto (-76), 3) := by decide +kernel
theorem dX7_bookAll_101 : decode cX7_bookAll 101 = .ok (.aload_n 0, 1) := by decide +kernel
theorem dX7_bookAll_102 : decode cX7_bookAll 102 = .ok (.invokevirtual 130, 3) := by decide +kernel
theorem dX7_bookAll_105 : decode cX7_bookAll 105 = .ok (.aload_n 0, 1) := by decide +kernel
theorem dX7_bookAll_106 : decode cX7_bookAll 106 = .ok (.invokevirtual 106, 3) := by decide +kernel
theorem dX7_bookAll_109 : decode cX7_bookAll 109 = .ok (.aload_n 0, 1) := by decide +kernel
theorem dX7_bookAll_110 : decode cX7_bookAll 110 = .ok (.iconst 0, 1) := by decide +kernel
theorem dX7_bookAll_111 : decode cX7_bookAll 111 = .ok (.putfield 112, 3) := by decide +kernel
theorem dX7_bookAll_114 : decode cX7_bookAll 114 = .ok (.iconst 0, 1) := by decide +kernel
theorem dX7_bookAll_115 : decode cX7_bookAll 115 = .ok (.istore_n 2, 1) := by decide +kernel
theorem dX7_bookAll_116 : decode cX7_bookAll 116 = .ok (.iload_n 2, 1) := by decide +kernel
theorem dX7_bookAll_117 : decode cX7_bookAll 117 = .ok (.iload_n 1, 1) := by decide +kernel
theorem dX7_bookAll_118 : decode cX7_bookAll 118 = .ok (.if_icmp .ge 44, 3) := by decide +kernel
theorem dX7_bookAll_121 : decode cX7_bookAll 121 = .ok (.aload_n 0, 1) := by decide +kernel
theorem dX7_bookAll_122 : decode cX7_bookAll 122 = .ok (.invokevirtual 121, 3) := by decide +kernel
theorem dX7_bookAll_125 : decode cX7_bookAll 125 = .ok (.istore_n 3, 1) := by decide +kernel
theorem dX7_bookAll_126 : decode cX7_bookAll 126 = .ok (.aload_n 0, 1) := by decide +kernel
theorem dX7_bookAll_127 : decode cX7_bookAll 127 = .ok (.iload_n 3, 1) := by decide +kernel
theorem dX7_bookAll_128 : decode cX7_bookAll 128 = .ok (.bipush 100, 2) := by decide +kernel
theorem dX7_bookAll_130 : decode cX7_bookAll 130 = .ok (.idiv, 1) := by decide +kernel
theorem dX7_bookAll_131 : decode cX7_bookAll 131 = .ok (.iload_n 3, 1) := by decide +kernel
theorem dX7_bookAll_132 : decode cX7_bookAll 132 = .ok (.bipush 10, 2) := by decide +kernel
theorem dX7_bookAll_134 : decode cX7_bookAll 134 = .ok (.idiv, 1) := by decide +kernel
theorem dX7_bookAll_135 : decode cX7_bookAll 135 = .ok (.bipush 10, 2) := by decide +kernel
theorem dX7_bookAll_137 : decode cX7_bookAll 137 = .ok (.irem, 1) := by decide +kernel
theorem dX7_bookAll_138 : decode cX7_bookAll 138 = .ok (.iload_n 3, 1) := by decide +kernel
theorem dX7_bookAll_139 : decode cX7_bookAll 139 = .ok (.bipush 10, 2) := by decide +kernel
theorem dX7_bookAll_141 : decode cX7_bookAll 141 = .ok (.irem, 1) := by decide +kernel
theorem dX7_bookAll_142 : decode cX7_bookAll 142 = .ok (.invokevirtual 109, 3) := by decide +kernel
theorem dX7_bookAll_145 : decode cX7_bookAll 145 = .ok (.pop, 1) := by decide +kernel
theorem dX7_bookAll_146 : decode cX7_bookAll 146 = .ok (.aload_n 0, 1) := by decide +kernel
theorem dX7_bookAll_147 : decode cX7_bookAll 147 = .ok (.dup, 1) := by decide +kernel
theorem dX7_bookAll_148 : decode cX7_bookAll 148 = .ok (.getfield 112, 3) := by decide +kernel
theorem dX7_bookAll_151 : decode cX7_bookAll 151 = .ok (.iconst 1, 1) := by decide +kernel
theorem dX7_bookAll_152 : decode cX7_bookAll 152 = .ok (.iadd, 1) := by decide +kernel
theorem dX7_bookAll_153 : decode cX7_bookAll 153 = .ok (.putfield 112, 3) := by decide +kernel
theorem dX7_bookAll_156 : decode cX7_bookAll 156 = .ok (.iinc 2 1, 3) := by decide +kernel
theorem dX7_bookAll_159 : decode cX7_bookAll 159 = .ok (.goto (-43), 3) := by decide +kernel
theorem dX7_bookAll_162 : decode cX7_bookAll 162 = .ok (.iload_n 1, 1) := by decide +kernel
theorem dX7_bookAll_163 : decode cX7_bookAll 163 = .ok (.ireturn, 1) := by decide +kernel
theorem dX7_refundOf_0 : decode cX7_refundOf 0 = .ok (.aload_n 0, 1) := by decide +kernel
theorem dX7_refundOf_1 : decode cX7_refundOf 1 = .ok (.iload_n 1, 1) := by decide +kernel
theorem dX7_refundOf_2 : decode cX7_refundOf 2 = .ok (.iconst 1, 1) := by decide +kernel
theorem dX7_refundOf_3 : decode cX7_refundOf 3 = .ok (.invokevirtual 29, 3) := by decide +kernel
theorem dX7_refundOf_6 : decode cX7_refundOf 6 = .ok (.istore_n 2, 1) := by decide +kernel
theorem dX7_refundOf_7 : decode cX7_refundOf 7 = .ok (.iload_n 2, 1) := by decide +kernel
theorem dX7_refundOf_8 : decode cX7_refundOf 8 = .ok (.aload_n 0, 1) := by decide +kernel
theorem dX7_refundOf_9 : decode cX7_refundOf 9 = .ok (.getfield 7, 3) := by decide +kernel
theorem dX7_refundOf_12 : decode cX7_refundOf 12 = .ok (.iconst 0, 1) := by decide +kernel
theorem dX7_refundOf_13 : decode cX7_refundOf 13 = .ok (.iaload, 1) := by decide +kernel
theorem dX7_refundOf_14 : decode cX7_refundOf 14 = .ok (.isub, 1) := by decide +kernel
theorem dX7_refundOf_15 : decode cX7_refundOf 15 = .ok (.aload_n 0, 1) := by decide +kernel
theorem dX7_refundOf_16 : decode cX7_refundOf 16 = .ok (.getfield 7, 3) := by decide +kernel
theorem dX7_refundOf_19 : decode cX7_refundOf 19 = .ok (.bipush 21, 2) := by decide +kernel
theorem dX7_refundOf_21 : decode cX7_refundOf 21 = .ok (.iaload, 1) := by decide +kernel
theorem dX7_refundOf_22 : decode cX7_refundOf 22 = .ok (.if_icmp .ge 11, 3) := by decide +kernel
theorem dX7_refundOf_25 : decode cX7_refundOf 25 = .ok (.aload_n 0, 1) := by decide +kernel
theorem dX7_refundOf_26 : decode cX7_refundOf 26 = .ok (.iload_n 2, 1) := by decide +kernel
theorem dX7_refundOf_27 : decode cX7_refundOf 27 = .ok (.invokevirtual 77, 3) := by decide +kernel
theorem dX7_refundOf_30 : decode cX7_refundOf 30 = .ok (.ifCond .ne 7, 3) := by decide +kernel
theorem dX7_refundOf_33 : decode cX7_refundOf 33 = .ok (.iconst 1, 1) := by decide +kernel
theorem dX7_refundOf_34 : decode cX7_refundOf 34 = .ok (.goto 4, 3) := by decide +kernel
theorem dX7_refundOf_37 : decode cX7_refundOf 37 = .ok (.iconst 0, 1) := by decide +kernel
theorem dX7_refundOf_38 : decode cX7_refundOf 38 = .ok (.istore_n 3, 1) := by decide +kernel
theorem dX7_refundOf_39 : decode cX7_refundOf 39 = .ok (.iload_n 3, 1) := by decide +kernel
theorem dX7_refundOf_40 : decode cX7_refundOf 40 = .ok (.ifCond .eq 12, 3) := by decide +kernel
theorem dX7_refundOf_43 : decode cX7_refundOf 43 = .ok (.aload_n 0, 1) := by decide +kernel
theorem dX7_refundOf_44 : decode cX7_refundOf 44 = .ok (.iload_n 1, 1) := by decide +kernel
theorem dX7_refundOf_45 : decode cX7_refundOf 45 = .ok (.iconst 5, 1) := by decide +kernel
theorem dX7_refundOf_46 : decode cX7_refundOf 46 = .ok (.invokevirtual 29, 3) := by decide +kernel
theorem dX7_refundOf_49 : decode cX7_refundOf 49 = .ok (.goto 4, 3) := by decide +kernel
theorem dX7_refundOf_52 : decode cX7_refundOf 52 = .ok (.iconst 0, 1) := by decide +kernel
theorem dX7_refundOf_53 : decode cX7_refundOf 53 = .ok (.ireturn, 1) := by decide +kernel
theorem dX7_refund_0 : decode cX7_refund 0 = .ok (.aload_n 0, 1) := by decide +kernel
theorem dX7_refund_1 : decode cX7_refund 1 = .ok (.iload_n 1, 1) := by decide +kernel
theorem dX7_refund_2 : decode cX7_refund 2 = .ok (.invokevirtual 133, 3) := by decide +kernel
theorem dX7_refund_5 : decode cX7_refund 5 = .ok (.ifCond .ne 6, 3) := by decide +kernel
theorem dX7_refund_8 : decode cX7_refund 8 = .ok (.ldc 136, 2) := by decide +kernel
theorem dX7_refund_10 : decode cX7_refund 10 = .ok (.ireturn, 1) := by decide +kernel
theorem dX7_refund_11 : decode cX7_refund 11 = .ok (.aload_n 0, 1) := by decide +kernel
theorem dX7_refund_12 : decode cX7_refund 12 = .ok (.iload_n 1, 1) := by decide +kernel
theorem dX7_refund_13 : decode cX7_refund 13 = .ok (.iconst 0, 1) := by decide +kernel
theorem dX7_refund_14 : decode cX7_refund 14 = .ok (.invokevirtual 41, 3) := by decide +kernel
theorem dX7_refund_17 : decode cX7_refund 17 = .ok (.ifCond .eq 11, 3) := by decide +kernel
theorem dX7_refund_20 : decode cX7_refund 20 = .ok (.aload_n 0, 1) := by decide +kernel
theorem dX7_refund_21 : decode cX7_refund 21 = .ok (.iload_n 1, 1) := by decide +kernel
theorem dX7_refund_22 : decode cX7_refund 22 = .ok (.invokevirtual 137, 3) := by decide +kernel
theorem dX7_refund_25 : decode cX7_refund 25 = .ok (.goto 5, 3) := by decide +kernel
theorem dX7_refund_28 : decode cX7_refund 28 = .ok (.ldc 99, 2) := by decide +kernel
theorem dX7_refund_30 : decode cX7_refund 30 = .ok (.ireturn, 1) := by decide +kernel
theorem dX7_cancel_0 : decode cX7_cancel 0 = .ok (.aload_n 0, 1) := by decide +kernel
theorem dX7_cancel_1 : decode cX7_cancel 1 = .ok (.iload_n 1, 1) := by decide +kernel
theorem dX7_cancel_2 : decode cX7_cancel 2 = .ok (.invokevirtual 140, 3) := by decide +kernel
theorem dX7_cancel_5 : decode cX7_cancel 5 = .ok (.istore_n 2, 1) := by decide +kernel
theorem dX7_cancel_6 : decode cX7_cancel 6 = .ok (.iload_n 2, 1) := by decide +kernel
theorem dX7_cancel_7 : decode cX7_cancel 7 = .ok (.ifCond .ge 5, 3) := by decide +kernel
theorem dX7_cancel_10 : decode cX7_cancel 10 = .ok (.iload_n 2, 1) := by decide +kernel
theorem dX7_cancel_11 : decode cX7_cancel 11 = .ok (.ireturn, 1) := by decide +kernel
theorem dX7_cancel_12 : decode cX7_cancel 12 = .ok (.aload_n 0, 1) := by decide +kernel
theorem dX7_cancel_13 : decode cX7_cancel 13 = .ok (.invokevirtual 106, 3) := by decide +kernel
theorem dX7_cancel_16 : decode cX7_cancel 16 = .ok (.aload_n 0, 1) := by decide +kernel
theorem dX7_cancel_17 : decode cX7_cancel 17 = .ok (.iload_n 1, 1) := by decide +kernel
theorem dX7_cancel_18 : decode cX7_cancel 18 = .ok (.iconst 0, 1) := by decide +kernel
theorem dX7_cancel_19 : decode cX7_cancel 19 = .ok (.iconst 3, 1) := by decide +kernel
theorem dX7_cancel_20 : decode cX7_cancel 20 = .ok (.invokevirtual 51, 3) := by decide +kernel
theorem dX7_cancel_23 : decode cX7_cancel 23 = .ok (.aload_n 0, 1) := by decide +kernel
theorem dX7_cancel_24 : decode cX7_cancel 24 = .ok (.getfield 7, 3) := by decide +kernel
theorem dX7_cancel_27 : decode cX7_cancel 27 = .ok (.bipush 14, 2) := by decide +kernel
theorem dX7_cancel_29 : decode cX7_cancel 29 = .ok (.dup2, 1) := by decide +kernel
theorem dX7_cancel_30 : decode cX7_cancel 30 = .ok (.iaload, 1) := by decide +kernel
theorem dX7_cancel_31 : decode cX7_cancel 31 = .ok (.iload_n 2, 1) := by decide +kernel
theorem dX7_cancel_32 : decode cX7_cancel 32 = .ok (.isub, 1) := by decide +kernel
theorem dX7_cancel_33 : decode cX7_cancel 33 = .ok (.iastore, 1) := by decide +kernel
theorem dX7_cancel_34 : decode cX7_cancel 34 = .ok (.aload_n 0, 1) := by decide +kernel
theorem dX7_cancel_35 : decode cX7_cancel 35 = .ok (.getfield 7, 3) := by decide +kernel
theorem dX7_cancel_38 : decode cX7_cancel 38 = .ok (.bipush 15, 2) := by decide +kernel
theorem dX7_cancel_40 : decode cX7_cancel 40 = .ok (.dup2, 1) := by decide +kernel
theorem dX7_cancel_41 : decode cX7_cancel 41 = .ok (.iaload, 1) := by decide +kernel
theorem dX7_cancel_42 : decode cX7_cancel 42 = .ok (.aload_n 0, 1) := by decide +kernel
theorem dX7_cancel_43 : decode cX7_cancel 43 = .ok (.iload_n 1, 1) := by decide +kernel
theorem dX7_cancel_44 : decode cX7_cancel 44 = .ok (.iconst 5, 1) := by decide +kernel
theorem dX7_cancel_45 : decode cX7_cancel 45 = .ok (.invokevirtual 29, 3) := by decide +kernel
theorem dX7_cancel_48 : decode cX7_cancel 48 = .ok (.iload_n 2, 1) := by decide +kernel
theorem dX7_cancel_49 : decode cX7_cancel 49 = .ok (.isub, 1) := by decide +kernel
theorem dX7_cancel_50 : decode cX7_cancel 50 = .ok (.iadd, 1) := by decide +kernel
theorem dX7_cancel_51 : decode cX7_cancel 51 = .ok (.iastore, 1) := by decide +kernel
theorem dX7_cancel_52 : decode cX7_cancel 52 = .ok (.iload_n 2, 1) := by decide +kernel
theorem dX7_cancel_53 : decode cX7_cancel 53 = .ok (.ireturn, 1) := by decide +kernel
theorem dX7_extend_0 : decode cX7_extend 0 = .ok (.aload_n 0, 1) := by decide +kernel
theorem dX7_extend_1 : decode cX7_extend 1 = .ok (.iload_n 1, 1) := by decide +kernel
theorem dX7_extend_2 : decode cX7_extend 2 = .ok (.invokevirtual 133, 3) := by decide +kernel
theorem dX7_extend_5 : decode cX7_extend 5 = .ok (.ifCond .ne 6, 3) := by decide +kernel
theorem dX7_extend_8 : decode cX7_extend 8 = .ok (.ldc 136, 2) := by decide +kernel
theorem dX7_extend_10 : decode cX7_extend 10 = .ok (.ireturn, 1) := by decide +kernel
theorem dX7_extend_11 : decode cX7_extend 11 = .ok (.iload_n 2, 1) := by decide +kernel
theorem dX7_extend_12 : decode cX7_extend 12 = .ok (.iconst 1, 1) := by decide +kernel
theorem dX7_extend_13 : decode cX7_extend 13 = .ok (.bipush 9, 2) := by decide +kernel
theorem dX7_extend_15 : decode cX7_extend 15 = .ok (.invokestatic 33, 3) := by decide +kernel
theorem dX7_extend_18 : decode cX7_extend 18 = .ok (.ifCond .ne 6, 3) := by decide +kernel
theorem dX7_extend_21 : decode cX7_extend 21 = .ok (.ldc 95, 2) := by decide +kernel
theorem dX7_extend_23 : decode cX7_extend 23 = .ok (.ireturn, 1) := by decide +kernel
theorem dX7_extend_24 : decode cX7_extend 24 = .ok (.aload_n 0, 1) := by decide +kernel
theorem dX7_extend_25 : decode cX7_extend 25 = .ok (.iload_n 1, 1) := by decide +kernel
theorem dX7_extend_26 : decode cX7_extend 26 = .ok (.invokevirtual 45, 3) := by decide +kernel
theorem dX7_extend_29 : decode cX7_extend 29 = .ok (.istore_n 3, 1) := by decide +kernel
theorem dX7_extend_30 : decode cX7_extend 30 = .ok (.aload_n 0, 1) := by decide +kernel
theorem dX7_extend_31 : decode cX7_extend 31 = .ok (.iload_n 1, 1) := by decide +kernel
theorem dX7_extend_32 : decode cX7_extend 32 = .ok (.iconst 1, 1) := by decide +kernel
theorem dX7_extend_33 : decode cX7_extend 33 = .ok (.invokevirtual 41, 3) := by decide +kernel
theorem dX7_extend_36 : decode cX7_extend 36 = .ok (.ifCond .eq 43, 3) := by decide +kernel
theorem dX7_extend_39 : decode cX7_extend 39 = .ok (.iload_n 3, 1) := by decide +kernel
theorem dX7_extend_40 : decode cX7_extend 40 = .ok (.aload_n 0, 1) := by decide +kernel
theorem dX7_extend_41 : decode cX7_extend 41 = .ok (.getfield 7, 3) := by decide +kernel
theorem dX7_extend_44 : decode cX7_extend 44 = .ok (.iconst 0, 1) := by decide +kernel
theorem dX7_extend_45 : decode cX7_extend 45 = .ok (.iaload, 1) := by decide +kernel
theorem dX7_extend_46 : decode cX7_extend 46 = .ok (.if_icmp .lt 33, 3) := by decide +kernel
theorem dX7_extend_49 : decode cX7_extend 49 = .ok (.aload_n 0, 1) := by decide +kernel
theorem dX7_extend_50 : decode cX7_extend 50 = .ok (.iload_n 1, 1) := by decide +kernel
theorem dX7_extend_51 : decode cX7_extend 51 = .ok (.iconst 2, 1) := by decide +kernel
theorem dX7_extend_52 : decode cX7_extend 52 = .ok (.invokevirtual 29, 3) := by decide +kernel
theorem dX7_extend_55 : decode cX7_extend 55 = .ok (.iload_n 2, 1) := by decide +kernel
theorem dX7_extend_56 : decode cX7_extend 56 = .ok (.iadd, 1) := by decide +kernel
theorem dX7_extend_57 : decode cX7_extend 57 = .ok (.bipush 9, 2) := by decide +kernel
theorem dX7_extend_59 : decode cX7_extend 59 = .ok (.if_icmp .gt 20, 3) := by decide +kernel
theorem dX7_extend_62 : decode cX7_extend 62 = .ok (.aload_n 0, 1) := by decide +kernel
theorem dX7_extend_63 : decode cX7_extend 63 = .ok (.iload_n 3, 1) := by decide +kernel
theorem dX7_extend_64 : decode cX7_extend 64 = .ok (.iload_n 3, 1) := by decide +kernel
theorem dX7_extend_65 : decode cX7_extend 65 = .ok (.iload_n 2, 1) := by decide +kernel
theorem dX7_extend_66 : decode cX7_extend 66 = .ok (.iadd, 1) := by decide +kernel
theorem dX7_extend_67 : decode cX7_extend 67 = .ok (.aload_n 0, 1) := by decide +kernel
theorem dX7_extend_68 : decode cX7_extend 68 = .ok (.iload_n 1, 1) := by decide +kernel
theorem dX7_extend_69 : decode cX7_extend 69 = .ok (.iconst 3, 1) := by decide +kernel
theorem dX7_extend_70 : decode cX7_extend 70 = .ok (.invokevirtual 29, 3) := by decide +kernel
theorem dX7_extend_73 : decode cX7_extend 73 = .ok (.invokevirtual 96, 3) := by decide +kernel
theorem dX7_extend_76 : decode cX7_extend 76 = .ok (.ifCond .ne 6, 3) := by decide +kernel
theorem dX7_extend_79 : decode cX7_extend 79 = .ok (.ldc 99, 2) := by decide +kernel
theorem dX7_extend_81 : decode cX7_extend 81 = .ok (.ireturn, 1) := by decide +kernel
theorem dX7_extend_82 : decode cX7_extend 82 = .ok (.aload_n 0, 1) := by decide +kernel
theorem dX7_extend_83 : decode cX7_extend 83 = .ok (.invokevirtual 106, 3) := by decide +kernel
theorem dX7_extend_86 : decode cX7_extend 86 = .ok (.aload_n 0, 1) := by decide +kernel
theorem dX7_extend_87 : decode cX7_extend 87 = .ok (.iload_n 1, 1) := by decide +kernel
theorem dX7_extend_88 : decode cX7_extend 88 = .ok (.iconst 2, 1) := by decide +kernel
theorem dX7_extend_89 : decode cX7_extend 89 = .ok (.aload_n 0, 1) := by decide +kernel
theorem dX7_extend_90 : decode cX7_extend 90 = .ok (.iload_n 1, 1) := by decide +kernel
theorem dX7_extend_91 : decode cX7_extend 91 = .ok (.iconst 2, 1) := by decide +kernel
theorem dX7_extend_92 : decode cX7_extend 92 = .ok (.invokevirtual 29, 3) := by decide +kernel
theorem dX7_extend_95 : decode cX7_extend 95 = .ok (.iload_n 2, 1) := by decide +kernel
theorem dX7_extend_96 : decode cX7_extend 96 = .ok (.iadd, 1) := by decide +kernel
theorem dX7_extend_97 : decode cX7_extend 97 = .ok (.invokevirtual 51, 3) := by decide +kernel
theorem dX7_extend_100 : decode cX7_extend 100 = .ok (.iload_n 3, 1) := by decide +kernel
theorem dX7_extend_101 : decode cX7_extend 101 = .ok (.iload_n 2, 1) := by decide +kernel
theorem dX7_extend_102 : decode cX7_extend 102 = .ok (.iadd, 1) := by decide +kernel
theorem dX7_extend_103 : decode cX7_extend 103 = .ok (.ireturn, 1) := by decide +kernel
theorem dX7_weather_0 : decode cX7_weather 0 = .ok (.iload_n 1, 1) := by decide +kernel
theorem dX7_weather_1 : decode cX7_weather 1 = .ok (.aload_n 0, 1) := by decide +kernel
theorem dX7_weather_2 : decode cX7_weather 2 = .ok (.getfield 7, 3) := by decide +kernel
theorem dX7_weather_5 : decode cX7_weather 5 = .ok (.iconst 0, 1) := by decide +kernel
theorem dX7_weather_6 : decode cX7_weather 6 = .ok (.iaload, 1) := by decide +kernel
theorem dX7_weather_7 : decode cX7_weather 7 = .ok (.sipush 999, 3) := by decide +kernel
theorem dX7_weather_10 : decode cX7_weather 10 = .ok (.invokestatic 33, 3) := by decide +kernel
theorem dX7_weather_13 : decode cX7_weather 13 = .ok (.ifCond .eq 24, 3) := by decide +kernel
theorem dX7_weather_16 : decode cX7_weather 16 = .ok (.iload_n 2, 1) := by decide +kernel
theorem dX7_weather_17 : decode cX7_weather 17 = .ok (.iload_n 1, 1) := by decide +kernel
theorem dX7_weather_18 : decode cX7_weather 18 = .ok (.sipush 999, 3) := by decide +kernel
theorem dX7_weather_21 : decode cX7_weather 21 = .ok (.invokestatic 33, 3) := by decide +kernel
theorem dX7_weather_24 : decode cX7_weather 24 = .ok (.ifCond .eq 13, 3) := by decide +kernel
theorem dX7_weather_27 : decode cX7_weather 27 = .ok (.iload_n 3, 1) := by decide +kernel
theorem dX7_weather_28 : decode cX7_weather 28 = .ok (.iconst 0, 1) := by decide +kernel
theorem dX7_weather_29 : decode cX7_weather 29 = .ok (.bipush 7, 2) := by decide +kernel
theorem dX7_weather_31 : decode cX7_weather 31 = .ok (.invokestatic 33, 3) := by decide +kernel
theorem dX7_weather_34 : decode cX7_weather 34 = .ok (.ifCond .ne 6, 3) := by decide +kernel
theorem dX7_weather_37 : decode cX7_weather 37 = .ok (.ldc 95, 2) := by decide +kernel
theorem dX7_weather_39 : decode cX7_weather 39 = .ok (.ireturn, 1) := by decide +kernel
theorem dX7_weather_40 : decode cX7_weather 40 = .ok (.iconst 0, 1) := by decide +kernel
theorem dX7_weather_41 : decode cX7_weather 41 = .ok (.istore 4, 2) := by decide +kernel
theorem dX7_weather_43 : decode cX7_weather 43 = .ok (.iload_n 1, 1) := by decide +kernel
theorem dX7_weather_44 : decode cX7_weather 44 = .ok (.istore 5, 2) := by decide +kernel
theorem dX7_weather_46 : decode cX7_weather 46 = .ok (.iload 5, 2) := by decide +kernel
theorem dX7_weather_48 : decode cX7_weather 48 = .ok (.iload_n 2, 1) := by decide +kernel
theorem dX7_weather_49 : decode cX7_weather 49 = .ok (.if_icmp .gt 29, 3) := by decide +kernel
theorem dX7_weather_52 : decode cX7_weather 52 = .ok (.iload 4, 2) := by decide +kernel
theorem dX7_weather_54 : decode cX7_weather 54 = .ok (.aload_n 0, 1) := by decide +kernel
theorem dX7_weather_55 : decode cX7_weather 55 = .ok (.iload 5, 2) := by decide +kernel
theorem dX7_weather_57 : decode cX7_weather 57 = .ok (.invokevirtual 37, 3) := by decide +kernel
theorem dX7_weather_60 : decode cX7_weather 60 = .ok (.iload_n 3, 1) := by decide +kernel
theorem dX7_weather_61 : decode cX7_weather 61 = .ok (.if_icmp .ne 7, 3) := by decide +kernel
theorem dX7_weather_64 : decode cX7_weather 64 = .ok (.iconst 0, 1) := by decide +kernel
theorem dX7_weather_65 : decode cX7_weather 65 = .ok (.goto 4, 3) := by decide +kernel
theorem dX7_weather_68 : decode cX7_weather 68 = .ok (.iconst 1, 1) := by decide +kernel
theorem dX7_weather_69 : decode cX7_weather 69 = .ok (.iadd, 1) := by decide +kernel
theorem dX7_weather_70 : decode cX7_weather 70 = .ok (.istore 4, 2) := by decide +kernel
theorem dX7_weather_72 : decode cX7_weather 72 = .ok (.iinc 5 1, 3) := by decide +kernel
theorem dX7_weather_75 : decode cX7_weather 75 = .ok (.goto (-29), 3) := by decide +kernel
theorem dX7_weather_78 : decode cX7_weather 78 = .ok (.iload 4, 2) := by decide +kernel
theorem dX7_weather_80 : decode cX7_weather 80 = .ok (.ifCond .ne 6, 3) := by decide +kernel
theorem dX7_weather_83 : decode cX7_weather 83 = .ok (.ldc 101, 2) := by decide +kernel
theorem dX7_weather_85 : decode cX7_weather 85 = .ok (.ireturn, 1) := by decide +kernel
theorem dX7_weather_86 : decode cX7_weather 86 = .ok (.aload_n 0, 1) := by decide +kernel
theorem dX7_weather_87 : decode cX7_weather 87 = .ok (.invokevirtual 106, 3) := by decide +kernel
theorem dX7_weather_90 : decode cX7_weather 90 = .ok (.iload_n 1, 1) := by decide +kernel
theorem dX7_weather_91 : decode cX7_weather 91 = .ok (.istore 5, 2) := by decide +kernel
theorem dX7_weather_93 : decode cX7_weather 93 = .ok (.iload 5, 2) := by decide +kernel
theorem dX7_weather_95 : decode cX7_weather 95 = .ok (.iload_n 2, 1) := by decide +kernel
theorem dX7_weather_96 : decode cX7_weather 96 = .ok (.if_icmp .gt 21, 3) := by decide +kernel
theorem dX7_weather_99 : decode cX7_weather 99 = .ok (.aload_n 0, 1) := by decide +kernel
theorem dX7_weather_100 : decode cX7_weather 100 = .ok (.getfield 7, 3) := by decide +kernel
theorem dX7_weather_103 : decode cX7_weather 103 = .ok (.sipush 611, 3) := by decide +kernel
theorem dX7_weather_106 : decode cX7_weather 106 = .ok (.iload 5, 2) := by decide +kernel
theorem dX7_weather_108 : decode cX7_weather 108 = .ok (.iadd, 1) := by decide +kernel
theorem dX7_weather_109 : decode cX7_weather 109 = .ok (.iload_n 3, 1) := by decide +kernel
theorem dX7_weather_110 : decode cX7_weather 110 = .ok (.iastore, 1) := by decide +kernel
theorem dX7_weather_111 : decode cX7_weather 111 = .ok (.iinc 5 1, 3) := by decide +kernel
theorem dX7_weather_114 : decode cX7_weather 114 = .ok (.goto (-21), 3) := by decide +kernel
theorem dX7_weather_117 : decode cX7_weather 117 = .ok (.iload 4, 2) := by decide +kernel
theorem dX7_weather_119 : decode cX7_weather 119 = .ok (.ireturn, 1) := by decide +kernel
theorem dX7_order_0 : decode cX7_order 0 = .ok (.iload_n 1, 1) := by decide +kernel
theorem dX7_order_1 : decode cX7_order 1 = .ok (.iconst 0, 1) := by decide +kernel
theorem dX7_order_2 : decode cX7_order 2 = .ok (.iconst 1, 1) := by decide +kernel
theorem dX7_order_3 : decode cX7_order 3 = .ok (.invokestatic 33, 3) := by decide +kernel
theorem dX7_order_6 : decode cX7_order 6 = .ok (.ifCond .eq 13, 3) := by decide +kernel
theorem dX7_order_9 : decode cX7_order 9 = .ok (.iload_n 2, 1) := by decide +kernel
theorem dX7_order_10 : decode cX7_order 10 = .ok (.iconst 1, 1) := by decide +kernel
theorem dX7_order_11 : decode cX7_order 11 = .ok (.bipush 99, 2) := by decide +kernel
theorem dX7_order_13 : decode cX7_order 13 = .ok (.invokestatic 33, 3) := by decide +kernel
theorem dX7_order_16 : decode cX7_order 16 = .ok (.ifCond .ne 6, 3) := by decide +kernel
theorem dX7_order_19 : decode cX7_order 19 = .ok (.ldc 95, 2) := by decide +kernel
theorem dX7_order_21 : decode cX7_order 21 = .ok (.ireturn, 1) := by decide +kernel
theorem dX7_order_22 : decode cX7_order 22 = .ok (.aload_n 0, 1) := by decide +kernel
theorem dX7_order_23 : decode cX7_order 23 = .ok (.getfield 7, 3) := by decide +kernel
theorem dX7_order_26 : decode cX7_order 26 = .ok (.iconst 3, 1) := by decide +kernel
theorem dX7_order_27 : decode cX7_order 27 = .ok (.iaload, 1) := by decide +kernel
theorem dX7_order_28 : decode cX7_order 28 = .ok (.bipush 12, 2) := by decide +kernel
theorem dX7_order_30 : decode cX7_order 30 = .ok (.if_icmp .ne 6, 3) := by decide +kernel
theorem dX7_order_33 : decode cX7_order 33 = .ok (.ldc 100, 2) := by decide +kernel
theorem dX7_order_35 : decode cX7_order 35 = .ok (.ireturn, 1) := by decide +kernel
theorem dX7_order_36 : decode cX7_order 36 = .ok (.aload_n 0, 1) := by decide +kernel
theorem dX7_order_37 : decode cX7_order 37 = .ok (.invokevirtual 106, 3) := by decide +kernel
theorem dX7_order_40 : decode cX7_order 40 = .ok (.aload_n 0, 1) := by decide +kernel
theorem dX7_order_41 : decode cX7_order 41 = .ok (.getfield 7, 3) := by decide +kernel
theorem dX7_order_44 : decode cX7_order 44 = .ok (.bipush 27, 2) := by decide +kernel
theorem dX7_order_46 : decode cX7_order 46 = .ok (.aload_n 0, 1) := by decide +kernel
theorem dX7_order_47 : decode cX7_order 47 = .ok (.getfield 7, 3) := by decide +kernel
theorem dX7_order_50 : decode cX7_order 50 = .ok (.iconst 3, 1) := by decide +kernel
theorem dX7_order_51 : decode cX7_order 51 = .ok (.iaload, 1) := by decide +kernel
theorem dX7_order_52 : decode cX7_order 52 = .ok (.iadd, 1) := by decide +kernel
theorem dX7_order_53 : decode cX7_order 53 = .ok (.iload_n 1, 1) := by decide +kernel
theorem dX7_order_54 : decode cX7_order 54 = .ok (.iastore, 1) := by decide +kernel
theorem dX7_order_55 : decode cX7_order 55 = .ok (.aload_n 0, 1) := by decide +kernel
theorem dX7_order_56 : decode cX7_order 56 = .ok (.getfield 7, 3) := by decide +kernel
theorem dX7_order_59 : decode cX7_order 59 = .ok (.bipush 39, 2) := by decide +kernel
theorem dX7_order_61 : decode cX7_order 61 = .ok (.aload_n 0, 1) := by decide +kernel
theorem dX7_order_62 : decode cX7_order 62 = .ok (.getfield 7, 3) := by decide +kernel
theorem dX7_order_65 : decode cX7_order 65 = .ok (.iconst 3, 1) := by decide +kernel
theorem dX7_order_66 : decode cX7_order 66 = .ok (.iaload, 1) := by decide +kernel
theorem dX7_order_67 : decode cX7_order 67 = .ok (.iadd, 1) := by decide +kernel
theorem dX7_order_68 : decode cX7_order 68 = .ok (.iload_n 2, 1) := by decide +kernel
theorem dX7_order_69 : decode cX7_order 69 = .ok (.iastore, 1) := by decide +kernel
theorem dX7_order_70 : decode cX7_order 70 = .ok (.aload_n 0, 1) := by decide +kernel
theorem dX7_order_71 : decode cX7_order 71 = .ok (.getfield 7, 3) := by decide +kernel
theorem dX7_order_74 : decode cX7_order 74 = .ok (.iconst 3, 1) := by decide +kernel
theorem dX7_order_75 : decode cX7_order 75 = .ok (.dup2, 1) := by decide +kernel
theorem dX7_order_76 : decode cX7_order 76 = .ok (.iaload, 1) := by decide +kernel
theorem dX7_order_77 : decode cX7_order 77 = .ok (.iconst 1, 1) := by decide +kernel
theorem dX7_order_78 : decode cX7_order 78 = .ok (.iadd, 1) := by decide +kernel
theorem dX7_order_79 : decode cX7_order 79 = .ok (.iastore, 1) := by decide +kernel
theorem dX7_order_80 : decode cX7_order 80 = .ok (.aload_n 0, 1) := by decide +kernel
theorem dX7_order_81 : decode cX7_order 81 = .ok (.getfield 7, 3) := by decide +kernel
theorem dX7_order_84 : decode cX7_order 84 = .ok (.iconst 3, 1) := by decide +kernel
theorem dX7_order_85 : decode cX7_order 85 = .ok (.iaload, 1) := by decide +kernel
theorem dX7_order_86 : decode cX7_order 86 = .ok (.ireturn, 1) := by decide +kernel
theorem dX7_recall_0 : decode cX7_recall 0 = .ok (.aload_n 0, 1) := by decide +kernel
theorem dX7_recall_1 : decode cX7_recall 1 = .ok (.getfield 7, 3) := by decide +kernel
theorem dX7_recall_4 : decode cX7_recall 4 = .ok (.iconst 3, 1) := by decide +kernel
theorem dX7_recall_5 : decode cX7_recall 5 = .ok (.iaload, 1) := by decide +kernel
theorem dX7_recall_6 : decode cX7_recall 6 = .ok (.ifCond .ne 6, 3) := by decide +kernel
theorem dX7_recall_9 : decode cX7_recall 9 = .ok (.ldc 101, 2) := by decide +kernel
theorem dX7_recall_11 : decode cX7_recall 11 = .ok (.ireturn, 1) := by decide +kernel
theorem dX7_recall_12 : decode cX7_recall 12 = .ok (.aload_n 0, 1) := by decide +kernel
theorem dX7_recall_13 : decode cX7_recall 13 = .ok (.getfield 7, 3) := by decide +kernel
theorem dX7_recall_16 : decode cX7_recall 16 = .ok (.bipush 39, 2) := by decide +kernel
theorem dX7_recall_18 : decode cX7_recall 18 = .ok (.aload_n 0, 1) := by decide +kernel
theorem dX7_recall_19 : decode cX7_recall 19 = .ok (.getfield 7, 3) := by decide +kernel
theorem dX7_recall_22 : decode cX7_recall 22 = .ok (.iconst 3, 1) := by decide +kernel
theorem dX7_recall_23 : decode cX7_recall 23 = .ok (.iaload, 1) := by decide +kernel
theorem dX7_recall_24 : decode cX7_recall 24 = .ok (.iadd, 1) := by decide +kernel
theorem dX7_recall_25 : decode cX7_recall 25 = .ok (.iconst 1, 1) := by decide +kernel
theorem dX7_recall_26 : decode cX7_recall 26 = .ok (.isub, 1) := by decide +kernel
theorem dX7_recall_27 : decode cX7_recall 27 = .ok (.iaload, 1) := by decide +kernel
theorem dX7_recall_28 : decode cX7_recall 28 = .ok (.istore_n 1, 1) := by decide +kernel
theorem dX7_recall_29 : decode cX7_recall 29 = .ok (.aload_n 0, 1) := by decide +kernel
theorem dX7_recall_30 : decode cX7_recall 30 = .ok (.invokevirtual 106, 3) := by decide +kernel
theorem dX7_recall_33 : decode cX7_recall 33 = .ok (.aload_n 0, 1) := by decide +kernel
theorem dX7_recall_34 : decode cX7_recall 34 = .ok (.aload_n 0, 1) := by decide +kernel
theorem dX7_recall_35 : decode cX7_recall 35 = .ok (.getfield 7, 3) := by decide +kernel
theorem dX7_recall_38 : decode cX7_recall 38 = .ok (.iconst 3, 1) := by decide +kernel
theorem dX7_recall_39 : decode cX7_recall 39 = .ok (.iaload, 1) := by decide +kernel
theorem dX7_recall_40 : decode cX7_recall 40 = .ok (.iconst 1, 1) := by decide +kernel
theorem dX7_recall_41 : decode cX7_recall 41 = .ok (.isub, 1) := by decide +kernel
theorem dX7_recall_42 : decode cX7_recall 42 = .ok (.invokevirtual 63, 3) := by decide +kernel
theorem dX7_recall_45 : decode cX7_recall 45 = .ok (.iload_n 1, 1) := by decide +kernel
theorem dX7_recall_46 : decode cX7_recall 46 = .ok (.ireturn, 1) := by decide +kernel
theorem dX7_flight_0 : decode cX7_flight 0 = .ok (.aload_n 0, 1) := by decide +kernel
theorem dX7_flight_1 : decode cX7_flight 1 = .ok (.getfield 7, 3) := by decide +kernel
theorem dX7_flight_4 : decode cX7_flight 4 = .ok (.iconst 4, 1) := by decide +kernel
theorem dX7_flight_5 : decode cX7_flight 5 = .ok (.iaload, 1) := by decide +kernel
theorem dX7_flight_6 : decode cX7_flight 6 = .ok (.iconst 1, 1) := by decide +kernel
theorem dX7_flight_7 : decode cX7_flight 7 = .ok (.if_icmp .ne 7, 3) := by decide +kernel
theorem dX7_flight_10 : decode cX7_flight 10 = .ok (.iconst 1, 1) := by decide +kernel
theorem dX7_flight_11 : decode cX7_flight 11 = .ok (.goto 4, 3) := by decide +kernel
theorem dX7_flight_14 : decode cX7_flight 14 = .ok (.iconst 0, 1) := by decide +kernel
theorem dX7_flight_15 : decode cX7_flight 15 = .ok (.iload_n 1, 1) := by decide +kernel
theorem dX7_flight_16 : decode cX7_flight 16 = .ok (.if_icmp .ne 6, 3) := by decide +kernel
theorem dX7_flight_19 : decode cX7_flight 19 = .ok (.ldc 101, 2) := by decide +kernel
theorem dX7_flight_21 : decode cX7_flight 21 = .ok (.ireturn, 1) := by decide +kernel
theorem dX7_flight_22 : decode cX7_flight 22 = .ok (.aload_n 0, 1) := by decide +kernel
theorem dX7_flight_23 : decode cX7_flight 23 = .ok (.invokevirtual 106, 3) := by decide +kernel
theorem dX7_flight_26 : decode cX7_flight 26 = .ok (.aload_n 0, 1) := by decide +kernel
theorem dX7_flight_27 : decode cX7_flight 27 = .ok (.getfield 7, 3) := by decide +kernel
theorem dX7_flight_30 : decode cX7_flight 30 = .ok (.iconst 4, 1) := by decide +kernel
theorem dX7_flight_31 : decode cX7_flight 31 = .ok (.iload_n 1, 1) := by decide +kernel
theorem dX7_flight_32 : decode cX7_flight 32 = .ok (.ifCond .eq 7, 3) := by decide +kernel
theorem dX7_flight_35 : decode cX7_flight 35 = .ok (.iconst 1, 1) := by decide +kernel
theorem dX7_flight_36 : decode cX7_flight 36 = .ok (.goto 4, 3) := by decide +kernel
theorem dX7_flight_39 : decode cX7_flight 39 = .ok (.iconst 0, 1) := by decide +kernel
theorem dX7_flight_40 : decode cX7_flight 40 = .ok (.iastore, 1) := by decide +kernel
theorem dX7_flight_41 : decode cX7_flight 41 = .ok (.aload_n 0, 1) := by decide +kernel
theorem dX7_flight_42 : decode cX7_flight 42 = .ok (.getfield 7, 3) := by decide +kernel
theorem dX7_flight_45 : decode cX7_flight 45 = .ok (.iconst 5, 1) := by decide +kernel
theorem dX7_flight_46 : decode cX7_flight 46 = .ok (.iaload, 1) := by decide +kernel
theorem dX7_flight_47 : decode cX7_flight 47 = .ok (.ireturn, 1) := by decide +kernel
theorem dX7_pass_0 : decode cX7_pass 0 = .ok (.iload_n 1, 1) := by decide +kernel
theorem dX7_pass_1 : decode cX7_pass 1 = .ok (.iconst 1, 1) := by decide +kernel
theorem dX7_pass_2 : decode cX7_pass 2 = .ok (.bipush 30, 2) := by decide +kernel
theorem dX7_pass_4 : decode cX7_pass 4 = .ok (.invokestatic 33, 3) := by decide +kernel
theorem dX7_pass_7 : decode cX7_pass 7 = .ok (.ifCond .ne 6, 3) := by decide +kernel
theorem dX7_pass_10 : decode cX7_pass 10 = .ok (.ldc 95, 2) := by decide +kernel
theorem dX7_pass_12 : decode cX7_pass 12 = .ok (.ireturn, 1) := by decide +kernel
theorem dX7_pass_13 : decode cX7_pass 13 = .ok (.aload_n 0, 1) := by decide +kernel
theorem dX7_pass_14 : decode cX7_pass 14 = .ok (.getfield 7, 3) := by decide +kernel
theorem dX7_pass_17 : decode cX7_pass 17 = .ok (.iconst 0, 1) := by decide +kernel
theorem dX7_pass_18 : decode cX7_pass 18 = .ok (.iaload, 1) := by decide +kernel
theorem dX7_pass_19 : decode cX7_pass 19 = .ok (.iload_n 1, 1) := by decide +kernel
theorem dX7_pass_20 : decode cX7_pass 20 = .ok (.iadd, 1) := by decide +kernel
theorem dX7_pass_21 : decode cX7_pass 21 = .ok (.sipush 999, 3) := by decide +kernel
theorem dX7_pass_24 : decode cX7_pass 24 = .ok (.if_icmp .le 6, 3) := by decide +kernel
theorem dX7_pass_27 : decode cX7_pass 27 = .ok (.ldc 100, 2) := by decide +kernel
theorem dX7_pass_29 : decode cX7_pass 29 = .ok (.ireturn, 1) := by decide +kernel
theorem dX7_pass_30 : decode cX7_pass 30 = .ok (.aload_n 0, 1) := by decide +kernel
theorem dX7_pass_31 : decode cX7_pass 31 = .ok (.invokevirtual 106, 3) := by decide +kernel
theorem dX7_pass_34 : decode cX7_pass 34 = .ok (.iconst 0, 1) := by decide +kernel
theorem dX7_pass_35 : decode cX7_pass 35 = .ok (.istore_n 2, 1) := by decide +kernel
theorem dX7_pass_36 : decode cX7_pass 36 = .ok (.iload_n 2, 1) := by decide +kernel
theorem dX7_pass_37 : decode cX7_pass 37 = .ok (.iload_n 1, 1) := by decide +kernel
theorem dX7_pass_38 : decode cX7_pass 38 = .ok (.if_icmp .ge 13, 3) := by decide +kernel
theorem dX7_pass_41 : decode cX7_pass 41 = .ok (.aload_n 0, 1) := by decide +kernel
theorem dX7_pass_42 : decode cX7_pass 42 = .ok (.invokevirtual 143, 3) := by decide +kernel
theorem dX7_pass_45 : decode cX7_pass 45 = .ok (.iinc 2 1, 3) := by decide +kernel
theorem dX7_pass_48 : decode cX7_pass 48 = .ok (.goto (-12), 3) := by decide +kernel
theorem dX7_pass_51 : decode cX7_pass 51 = .ok (.aload_n 0, 1) := by decide +kernel
theorem dX7_pass_52 : decode cX7_pass 52 = .ok (.getfield 7, 3) := by decide +kernel
theorem dX7_pass_55 : decode cX7_pass 55 = .ok (.iconst 0, 1) := by decide +kernel
theorem dX7_pass_56 : decode cX7_pass 56 = .ok (.iaload, 1) := by decide +kernel
theorem dX7_pass_57 : decode cX7_pass 57 = .ok (.ireturn, 1) := by decide +kernel
theorem dX7_most_0 : decode cX7_most 0 = .ok (.iload_n 0, 1) := by decide +kernel
theorem dX7_most_1 : decode cX7_most 1 = .ok (.tableswitch 71 0 9 #[55, 58, 71, 71, 61, 61, 64, 71, 58, 67], 55) := by decide +kernel
theorem dX7_most_56 : decode cX7_most 56 = .ok (.bipush 40, 2) := by decide +kernel
theorem dX7_most_58 : decode cX7_most 58 = .ok (.ireturn, 1) := by decide +kernel
theorem dX7_most_59 : decode cX7_most 59 = .ok (.bipush 20, 2) := by decide +kernel
theorem dX7_most_61 : decode cX7_most 61 = .ok (.ireturn, 1) := by decide +kernel
theorem dX7_most_62 : decode cX7_most 62 = .ok (.bipush 30, 2) := by decide +kernel
theorem dX7_most_64 : decode cX7_most 64 = .ok (.ireturn, 1) := by decide +kernel
theorem dX7_most_65 : decode cX7_most 65 = .ok (.bipush 50, 2) := by decide +kernel
theorem dX7_most_67 : decode cX7_most 67 = .ok (.ireturn, 1) := by decide +kernel
theorem dX7_most_68 : decode cX7_most 68 = .ok (.sipush 999, 3) := by decide +kernel
theorem dX7_most_71 : decode cX7_most 71 = .ok (.ireturn, 1) := by decide +kernel
theorem dX7_most_72 : decode cX7_most 72 = .ok (.bipush 99, 2) := by decide +kernel
theorem dX7_most_74 : decode cX7_most 74 = .ok (.ireturn, 1) := by decide +kernel
theorem dX7_set_0 : decode cX7_set 0 = .ok (.iload_n 1, 1) := by decide +kernel
theorem dX7_set_1 : decode cX7_set 1 = .ok (.iconst 0, 1) := by decide +kernel
theorem dX7_set_2 : decode cX7_set 2 = .ok (.bipush 9, 2) := by decide +kernel
theorem dX7_set_4 : decode cX7_set 4 = .ok (.invokestatic 33, 3) := by decide +kernel
theorem dX7_set_7 : decode cX7_set 7 = .ok (.ifCond .eq 28, 3) := by decide +kernel
theorem dX7_set_10 : decode cX7_set 10 = .ok (.iload_n 2, 1) := by decide +kernel
theorem dX7_set_11 : decode cX7_set 11 = .ok (.iload_n 1, 1) := by decide +kernel
theorem dX7_set_12 : decode cX7_set 12 = .ok (.ifCond .eq 8, 3) := by decide +kernel
theorem dX7_set_15 : decode cX7_set 15 = .ok (.iload_n 1, 1) := by decide +kernel
theorem dX7_set_16 : decode cX7_set 16 = .ok (.iconst 5, 1) := by decide +kernel
theorem dX7_set_17 : decode cX7_set 17 = .ok (.if_icmp .ne 7, 3) := by decide +kernel
theorem dX7_set_20 : decode cX7_set 20 = .ok (.iconst 1, 1) := by decide +kernel
theorem dX7_set_21 : decode cX7_set 21 = .ok (.goto 4, 3) := by decide +kernel
theorem dX7_set_24 : decode cX7_set 24 = .ok (.iconst 0, 1) := by decide +kernel
theorem dX7_set_25 : decode cX7_set 25 = .ok (.iload_n 1, 1) := by decide +kernel
theorem dX7_set_26 : decode cX7_set 26 = .ok (.invokestatic 146, 3) := by decide +kernel
theorem dX7_set_29 : decode cX7_set 29 = .ok (.invokestatic 33, 3) := by decide +kernel
theorem dX7_set_32 : decode cX7_set 32 = .ok (.ifCond .ne 6, 3) := by decide +kernel
theorem dX7_set_35 : decode cX7_set 35 = .ok (.ldc 95, 2) := by decide +kernel
theorem dX7_set_37 : decode cX7_set 37 = .ok (.ireturn, 1) := by decide +kernel
theorem dX7_set_38 : decode cX7_set 38 = .ok (.aload_n 0, 1) := by decide +kernel
theorem dX7_set_39 : decode cX7_set 39 = .ok (.getfield 7, 3) := by decide +kernel
theorem dX7_set_42 : decode cX7_set 42 = .ok (.bipush 17, 2) := by decide +kernel
theorem dX7_set_44 : decode cX7_set 44 = .ok (.iload_n 1, 1) := by decide +kernel
theorem dX7_set_45 : decode cX7_set 45 = .ok (.iadd, 1) := by decide +kernel
theorem dX7_set_46 : decode cX7_set 46 = .ok (.iaload, 1) := by decide +kernel
theorem dX7_set_47 : decode cX7_set 47 = .ok (.istore_n 3, 1) := by decide +kernel
theorem dX7_set_48 : decode cX7_set 48 = .ok (.iload_n 3, 1) := by decide +kernel
theorem dX7_set_49 : decode cX7_set 49 = .ok (.iload_n 2, 1) := by decide +kernel
theorem dX7_set_50 : decode cX7_set 50 = .ok (.if_icmp .ne 6, 3) := by decide +kernel
theorem dX7_set_53 : decode cX7_set 53 = .ok (.ldc 101, 2) := by decide +kernel
theorem dX7_set_55 : decode cX7_set 55 = .ok (.ireturn, 1) := by decide +kernel
theorem dX7_set_56 : decode cX7_set 56 = .ok (.aload_n 0, 1) := by decide +kernel
theorem dX7_set_57 : decode cX7_set 57 = .ok (.getfield 7, 3) := by decide +kernel
theorem dX7_set_60 : decode cX7_set 60 = .ok (.iconst 0, 1) := by decide +kernel
theorem dX7_set_61 : decode cX7_set 61 = .ok (.iaload, 1) := by decide +kernel
theorem dX7_set_62 : decode cX7_set 62 = .ok (.istore 4, 2) := by decide +kernel
theorem dX7_set_64 : decode cX7_set 64 = .ok (.iload 4, 2) := by decide +kernel
theorem dX7_set_66 : decode cX7_set 66 = .ok (.sipush 999, 3) := by decide +kernel
theorem dX7_set_69 : decode cX7_set 69 = .ok (.if_icmp .gt 26, 3) := by decide +kernel
theorem dX7_set_72 : decode cX7_set 72 = .ok (.iload_n 1, 1) := by decide +kernel
theorem dX7_set_73 : decode cX7_set 73 = .ok (.ifCond .ne 22, 3) := by decide +kernel
theorem dX7_set_76 : decode cX7_set 76 = .ok (.aload_n 0, 1) := by decide +kernel
theorem dX7_set_77 : decode cX7_set 77 = .ok (.iload 4, 2) := by decide +kernel
theorem dX7_set_79 : decode cX7_set 79 = .ok (.invokevirtual 48, 3) := by decide +kernel
theorem dX7_set_82 : decode cX7_set 82 = .ok (.iload_n 2, 1) := by decide +kernel
theorem dX7_set_83 : decode cX7_set 83 = .ok (.if_icmp .le 6, 3) := by decide +kernel
theorem dX7_set_86 : decode cX7_set 86 = .ok (.ldc 99, 2) := by decide +kernel
theorem dX7_set_88 : decode cX7_set 88 = .ok (.ireturn, 1) := by decide +kernel
theorem dX7_set_89 : decode cX7_set 89 = .ok (.iinc 4 1, 3) := by decide +kernel
theorem dX7_set_92 : decode cX7_set 92 = .ok (.goto (-28), 3) := by decide +kernel
theorem dX7_set_95 : decode cX7_set 95 = .ok (.aload_n 0, 1) := by decide +kernel
theorem dX7_set_96 : decode cX7_set 96 = .ok (.invokevirtual 106, 3) := by decide +kernel
theorem dX7_set_99 : decode cX7_set 99 = .ok (.aload_n 0, 1) := by decide +kernel
theorem dX7_set_100 : decode cX7_set 100 = .ok (.getfield 7, 3) := by decide +kernel
theorem dX7_set_103 : decode cX7_set 103 = .ok (.bipush 17, 2) := by decide +kernel
theorem dX7_set_105 : decode cX7_set 105 = .ok (.iload_n 1, 1) := by decide +kernel
theorem dX7_set_106 : decode cX7_set 106 = .ok (.iadd, 1) := by decide +kernel
theorem dX7_set_107 : decode cX7_set 107 = .ok (.iload_n 2, 1) := by decide +kernel
theorem dX7_set_108 : decode cX7_set 108 = .ok (.iastore, 1) := by decide +kernel
theorem dX7_set_109 : decode cX7_set 109 = .ok (.iload_n 3, 1) := by decide +kernel
theorem dX7_set_110 : decode cX7_set 110 = .ok (.ireturn, 1) := by decide +kernel
theorem dX7_type_0 : decode cX7_type 0 = .ok (.aload_n 0, 1) := by decide +kernel
theorem dX7_type_1 : decode cX7_type 1 = .ok (.getfield 115, 3) := by decide +kernel
theorem dX7_type_4 : decode cX7_type 4 = .ok (.bipush 60, 2) := by decide +kernel
theorem dX7_type_6 : decode cX7_type 6 = .ok (.if_icmp .ne 6, 3) := by decide +kernel
theorem dX7_type_9 : decode cX7_type 9 = .ok (.ldc 100, 2) := by decide +kernel
theorem dX7_type_11 : decode cX7_type 11 = .ok (.ireturn, 1) := by decide +kernel
theorem dX7_type_12 : decode cX7_type 12 = .ok (.aload_n 0, 1) := by decide +kernel
theorem dX7_type_13 : decode cX7_type 13 = .ok (.getfield 22, 3) := by decide +kernel
theorem dX7_type_16 : decode cX7_type 16 = .ok (.aload_n 0, 1) := by decide +kernel
theorem dX7_type_17 : decode cX7_type 17 = .ok (.getfield 115, 3) := by decide +kernel
theorem dX7_type_20 : decode cX7_type 20 = .ok (.iload_n 1, 1) := by decide +kernel
theorem dX7_type_21 : decode cX7_type 21 = .ok (.iastore, 1) := by decide +kernel
theorem dX7_type_22 : decode cX7_type 22 = .ok (.aload_n 0, 1) := by decide +kernel
theorem dX7_type_23 : decode cX7_type 23 = .ok (.dup, 1) := by decide +kernel
theorem dX7_type_24 : decode cX7_type 24 = .ok (.getfield 115, 3) := by decide +kernel
theorem dX7_type_27 : decode cX7_type 27 = .ok (.iconst 1, 1) := by decide +kernel
theorem dX7_type_28 : decode cX7_type 28 = .ok (.iadd, 1) := by decide +kernel
theorem dX7_type_29 : decode cX7_type 29 = .ok (.putfield 115, 3) := by decide +kernel
theorem dX7_type_32 : decode cX7_type 32 = .ok (.aload_n 0, 1) := by decide +kernel
theorem dX7_type_33 : decode cX7_type 33 = .ok (.getfield 115, 3) := by decide +kernel
theorem dX7_type_36 : decode cX7_type 36 = .ok (.ireturn, 1) := by decide +kernel
theorem dX7_clearText_0 : decode cX7_clearText 0 = .ok (.aload_n 0, 1) := by decide +kernel
theorem dX7_clearText_1 : decode cX7_clearText 1 = .ok (.getfield 115, 3) := by decide +kernel
theorem dX7_clearText_4 : decode cX7_clearText 4 = .ok (.istore_n 1, 1) := by decide +kernel
theorem dX7_clearText_5 : decode cX7_clearText 5 = .ok (.aload_n 0, 1) := by decide +kernel
theorem dX7_clearText_6 : decode cX7_clearText 6 = .ok (.iconst 0, 1) := by decide +kernel
theorem dX7_clearText_7 : decode cX7_clearText 7 = .ok (.putfield 115, 3) := by decide +kernel
theorem dX7_clearText_10 : decode cX7_clearText 10 = .ok (.iload_n 1, 1) := by decide +kernel
theorem dX7_clearText_11 : decode cX7_clearText 11 = .ok (.ireturn, 1) := by decide +kernel
theorem dX7_fault_0 : decode cX7_fault 0 = .ok (.aload_n 0, 1) := by decide +kernel
theorem dX7_fault_1 : decode cX7_fault 1 = .ok (.invokevirtual 124, 3) := by decide +kernel
theorem dX7_fault_4 : decode cX7_fault 4 = .ok (.istore_n 1, 1) := by decide +kernel
theorem dX7_fault_5 : decode cX7_fault 5 = .ok (.iload_n 1, 1) := by decide +kernel
theorem dX7_fault_6 : decode cX7_fault 6 = .ok (.ifCond .ge 10, 3) := by decide +kernel
theorem dX7_fault_9 : decode cX7_fault 9 = .ok (.bipush (-100), 2) := by decide +kernel
theorem dX7_fault_11 : decode cX7_fault 11 = .ok (.iload_n 1, 1) := by decide +kernel
theorem dX7_fault_12 : decode cX7_fault 12 = .ok (.isub, 1) := by decide +kernel
theorem dX7_fault_13 : decode cX7_fault 13 = .ok (.goto 5, 3) := by decide +kernel
theorem dX7_fault_16 : decode cX7_fault 16 = .ok (.ldc 101, 2) := by decide +kernel
theorem dX7_fault_18 : decode cX7_fault 18 = .ok (.ireturn, 1) := by decide +kernel
theorem dX7_undo_0 : decode cX7_undo 0 = .ok (.aload_n 0, 1) := by decide +kernel
theorem dX7_undo_1 : decode cX7_undo 1 = .ok (.getfield 25, 3) := by decide +kernel
theorem dX7_undo_4 : decode cX7_undo 4 = .ok (.ifCond .ne 6, 3) := by decide +kernel
theorem dX7_undo_7 : decode cX7_undo 7 = .ok (.ldc 101, 2) := by decide +kernel
theorem dX7_undo_9 : decode cX7_undo 9 = .ok (.ireturn, 1) := by decide +kernel
theorem dX7_undo_10 : decode cX7_undo 10 = .ok (.aload_n 0, 1) := by decide +kernel
