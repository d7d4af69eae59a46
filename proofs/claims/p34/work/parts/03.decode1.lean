theorem dX4_store_12 : decode cX4_store 12 = .ok (.dup2, 1) := by decide +kernel
theorem dX4_store_13 : decode cX4_store 13 = .ok (.iaload, 1) := by decide +kernel
theorem dX4_store_14 : decode cX4_store 14 = .ok (.iload_n 2, 1) := by decide +kernel
theorem dX4_store_15 : decode cX4_store 15 = .ok (.iadd, 1) := by decide +kernel
theorem dX4_store_16 : decode cX4_store 16 = .ok (.iastore, 1) := by decide +kernel
theorem dX4_store_17 : decode cX4_store 17 = .ok (.goto 13, 3) := by decide +kernel
theorem dX4_store_20 : decode cX4_store 20 = .ok (.aload_n 0, 1) := by decide +kernel
theorem dX4_store_21 : decode cX4_store 21 = .ok (.dup, 1) := by decide +kernel
theorem dX4_store_22 : decode cX4_store 22 = .ok (.getfield 21, 3) := by decide +kernel
theorem dX4_store_25 : decode cX4_store 25 = .ok (.iload_n 2, 1) := by decide +kernel
theorem dX4_store_26 : decode cX4_store 26 = .ok (.iadd, 1) := by decide +kernel
theorem dX4_store_27 : decode cX4_store 27 = .ok (.putfield 21, 3) := by decide +kernel
theorem dX4_store_30 : decode cX4_store 30 = .ok (.return_, 1) := by decide +kernel
theorem dX4_eat_0 : decode cX4_eat 0 = .ok (.iconst 0, 1) := by decide +kernel
theorem dX4_eat_1 : decode cX4_eat 1 = .ok (.istore_n 3, 1) := by decide +kernel
theorem dX4_eat_2 : decode cX4_eat 2 = .ok (.iload_n 2, 1) := by decide +kernel
theorem dX4_eat_3 : decode cX4_eat 3 = .ok (.bipush 30, 2) := by decide +kernel
theorem dX4_eat_5 : decode cX4_eat 5 = .ok (.isub, 1) := by decide +kernel
theorem dX4_eat_6 : decode cX4_eat 6 = .ok (.iconst 1, 1) := by decide +kernel
theorem dX4_eat_7 : decode cX4_eat 7 = .ok (.iadd, 1) := by decide +kernel
theorem dX4_eat_8 : decode cX4_eat 8 = .ok (.istore 4, 2) := by decide +kernel
theorem dX4_eat_10 : decode cX4_eat 10 = .ok (.iload 4, 2) := by decide +kernel
theorem dX4_eat_12 : decode cX4_eat 12 = .ok (.iload_n 2, 1) := by decide +kernel
theorem dX4_eat_13 : decode cX4_eat 13 = .ok (.if_icmp .gt 48, 3) := by decide +kernel
theorem dX4_eat_16 : decode cX4_eat 16 = .ok (.iload 4, 2) := by decide +kernel
theorem dX4_eat_18 : decode cX4_eat 18 = .ok (.invokestatic 31, 3) := by decide +kernel
theorem dX4_eat_21 : decode cX4_eat 21 = .ok (.istore 5, 2) := by decide +kernel
theorem dX4_eat_23 : decode cX4_eat 23 = .ok (.iload_n 1, 1) := by decide +kernel
theorem dX4_eat_24 : decode cX4_eat 24 = .ok (.iload_n 3, 1) := by decide +kernel
theorem dX4_eat_25 : decode cX4_eat 25 = .ok (.isub, 1) := by decide +kernel
theorem dX4_eat_26 : decode cX4_eat 26 = .ok (.aload_n 0, 1) := by decide +kernel
theorem dX4_eat_27 : decode cX4_eat 27 = .ok (.getfield 9, 3) := by decide +kernel
theorem dX4_eat_30 : decode cX4_eat 30 = .ok (.iload 5, 2) := by decide +kernel
theorem dX4_eat_32 : decode cX4_eat 32 = .ok (.iaload, 1) := by decide +kernel
theorem dX4_eat_33 : decode cX4_eat 33 = .ok (.invokestatic 39, 3) := by decide +kernel
theorem dX4_eat_36 : decode cX4_eat 36 = .ok (.istore 6, 2) := by decide +kernel
theorem dX4_eat_38 : decode cX4_eat 38 = .ok (.aload_n 0, 1) := by decide +kernel
theorem dX4_eat_39 : decode cX4_eat 39 = .ok (.getfield 9, 3) := by decide +kernel
theorem dX4_eat_42 : decode cX4_eat 42 = .ok (.iload 5, 2) := by decide +kernel
theorem dX4_eat_44 : decode cX4_eat 44 = .ok (.dup2, 1) := by decide +kernel
theorem dX4_eat_45 : decode cX4_eat 45 = .ok (.iaload, 1) := by decide +kernel
theorem dX4_eat_46 : decode cX4_eat 46 = .ok (.iload 6, 2) := by decide +kernel
theorem dX4_eat_48 : decode cX4_eat 48 = .ok (.isub, 1) := by decide +kernel
theorem dX4_eat_49 : decode cX4_eat 49 = .ok (.iastore, 1) := by decide +kernel
theorem dX4_eat_50 : decode cX4_eat 50 = .ok (.iload_n 3, 1) := by decide +kernel
theorem dX4_eat_51 : decode cX4_eat 51 = .ok (.iload 6, 2) := by decide +kernel
theorem dX4_eat_53 : decode cX4_eat 53 = .ok (.iadd, 1) := by decide +kernel
theorem dX4_eat_54 : decode cX4_eat 54 = .ok (.istore_n 3, 1) := by decide +kernel
theorem dX4_eat_55 : decode cX4_eat 55 = .ok (.iinc 4 1, 3) := by decide +kernel
theorem dX4_eat_58 : decode cX4_eat 58 = .ok (.goto (-48), 3) := by decide +kernel
theorem dX4_eat_61 : decode cX4_eat 61 = .ok (.iload_n 1, 1) := by decide +kernel
theorem dX4_eat_62 : decode cX4_eat 62 = .ok (.iload_n 3, 1) := by decide +kernel
theorem dX4_eat_63 : decode cX4_eat 63 = .ok (.isub, 1) := by decide +kernel
theorem dX4_eat_64 : decode cX4_eat 64 = .ok (.aload_n 0, 1) := by decide +kernel
theorem dX4_eat_65 : decode cX4_eat 65 = .ok (.getfield 21, 3) := by decide +kernel
theorem dX4_eat_68 : decode cX4_eat 68 = .ok (.invokestatic 39, 3) := by decide +kernel
theorem dX4_eat_71 : decode cX4_eat 71 = .ok (.istore 4, 2) := by decide +kernel
theorem dX4_eat_73 : decode cX4_eat 73 = .ok (.aload_n 0, 1) := by decide +kernel
theorem dX4_eat_74 : decode cX4_eat 74 = .ok (.dup, 1) := by decide +kernel
theorem dX4_eat_75 : decode cX4_eat 75 = .ok (.getfield 21, 3) := by decide +kernel
theorem dX4_eat_78 : decode cX4_eat 78 = .ok (.iload 4, 2) := by decide +kernel
theorem dX4_eat_80 : decode cX4_eat 80 = .ok (.isub, 1) := by decide +kernel
theorem dX4_eat_81 : decode cX4_eat 81 = .ok (.putfield 21, 3) := by decide +kernel
theorem dX4_eat_84 : decode cX4_eat 84 = .ok (.iload_n 3, 1) := by decide +kernel
theorem dX4_eat_85 : decode cX4_eat 85 = .ok (.iload 4, 2) := by decide +kernel
theorem dX4_eat_87 : decode cX4_eat 87 = .ok (.iadd, 1) := by decide +kernel
theorem dX4_eat_88 : decode cX4_eat 88 = .ok (.ireturn, 1) := by decide +kernel
theorem dX5_init_0 : decode cX5_init 0 = .ok (.aload_n 0, 1) := by decide +kernel
theorem dX5_init_1 : decode cX5_init 1 = .ok (.invokespecial 3, 3) := by decide +kernel
theorem dX5_init_4 : decode cX5_init 4 = .ok (.aload_n 0, 1) := by decide +kernel
theorem dX5_init_5 : decode cX5_init 5 = .ok (.bipush 12, 2) := by decide +kernel
theorem dX5_init_7 : decode cX5_init 7 = .ok (.newarray .int, 2) := by decide +kernel
theorem dX5_init_9 : decode cX5_init 9 = .ok (.putfield 9, 3) := by decide +kernel
theorem dX5_init_12 : decode cX5_init 12 = .ok (.aload_n 0, 1) := by decide +kernel
theorem dX5_init_13 : decode cX5_init 13 = .ok (.bipush 12, 2) := by decide +kernel
theorem dX5_init_15 : decode cX5_init 15 = .ok (.newarray .int, 2) := by decide +kernel
theorem dX5_init_17 : decode cX5_init 17 = .ok (.putfield 15, 3) := by decide +kernel
theorem dX5_init_20 : decode cX5_init 20 = .ok (.return_, 1) := by decide +kernel
theorem dX5_copyFrom_0 : decode cX5_copyFrom 0 = .ok (.aload_n 0, 1) := by decide +kernel
theorem dX5_copyFrom_1 : decode cX5_copyFrom 1 = .ok (.aload_n 1, 1) := by decide +kernel
theorem dX5_copyFrom_2 : decode cX5_copyFrom 2 = .ok (.getfield 18, 3) := by decide +kernel
theorem dX5_copyFrom_5 : decode cX5_copyFrom 5 = .ok (.putfield 18, 3) := by decide +kernel
theorem dX5_copyFrom_8 : decode cX5_copyFrom 8 = .ok (.aload_n 1, 1) := by decide +kernel
theorem dX5_copyFrom_9 : decode cX5_copyFrom 9 = .ok (.getfield 9, 3) := by decide +kernel
theorem dX5_copyFrom_12 : decode cX5_copyFrom 12 = .ok (.iconst 0, 1) := by decide +kernel
theorem dX5_copyFrom_13 : decode cX5_copyFrom 13 = .ok (.aload_n 0, 1) := by decide +kernel
theorem dX5_copyFrom_14 : decode cX5_copyFrom 14 = .ok (.getfield 9, 3) := by decide +kernel
theorem dX5_copyFrom_17 : decode cX5_copyFrom 17 = .ok (.iconst 0, 1) := by decide +kernel
theorem dX5_copyFrom_18 : decode cX5_copyFrom 18 = .ok (.aload_n 0, 1) := by decide +kernel
theorem dX5_copyFrom_19 : decode cX5_copyFrom 19 = .ok (.getfield 18, 3) := by decide +kernel
theorem dX5_copyFrom_22 : decode cX5_copyFrom 22 = .ok (.invokestatic 22, 3) := by decide +kernel
theorem dX5_copyFrom_25 : decode cX5_copyFrom 25 = .ok (.aload_n 1, 1) := by decide +kernel
theorem dX5_copyFrom_26 : decode cX5_copyFrom 26 = .ok (.getfield 15, 3) := by decide +kernel
theorem dX5_copyFrom_29 : decode cX5_copyFrom 29 = .ok (.iconst 0, 1) := by decide +kernel
theorem dX5_copyFrom_30 : decode cX5_copyFrom 30 = .ok (.aload_n 0, 1) := by decide +kernel
theorem dX5_copyFrom_31 : decode cX5_copyFrom 31 = .ok (.getfield 15, 3) := by decide +kernel
theorem dX5_copyFrom_34 : decode cX5_copyFrom 34 = .ok (.iconst 0, 1) := by decide +kernel
theorem dX5_copyFrom_35 : decode cX5_copyFrom 35 = .ok (.aload_n 0, 1) := by decide +kernel
theorem dX5_copyFrom_36 : decode cX5_copyFrom 36 = .ok (.getfield 18, 3) := by decide +kernel
theorem dX5_copyFrom_39 : decode cX5_copyFrom 39 = .ok (.invokestatic 22, 3) := by decide +kernel
theorem dX5_copyFrom_42 : decode cX5_copyFrom 42 = .ok (.return_, 1) := by decide +kernel
theorem dX5_append_0 : decode cX5_append 0 = .ok (.aload_n 0, 1) := by decide +kernel
theorem dX5_append_1 : decode cX5_append 1 = .ok (.getfield 18, 3) := by decide +kernel
theorem dX5_append_4 : decode cX5_append 4 = .ok (.bipush 12, 2) := by decide +kernel
theorem dX5_append_6 : decode cX5_append 6 = .ok (.if_icmp .ge 33, 3) := by decide +kernel
theorem dX5_append_9 : decode cX5_append 9 = .ok (.aload_n 0, 1) := by decide +kernel
theorem dX5_append_10 : decode cX5_append 10 = .ok (.getfield 9, 3) := by decide +kernel
theorem dX5_append_13 : decode cX5_append 13 = .ok (.aload_n 0, 1) := by decide +kernel
theorem dX5_append_14 : decode cX5_append 14 = .ok (.getfield 18, 3) := by decide +kernel
theorem dX5_append_17 : decode cX5_append 17 = .ok (.iload_n 1, 1) := by decide +kernel
theorem dX5_append_18 : decode cX5_append 18 = .ok (.iastore, 1) := by decide +kernel
theorem dX5_append_19 : decode cX5_append 19 = .ok (.aload_n 0, 1) := by decide +kernel
theorem dX5_append_20 : decode cX5_append 20 = .ok (.getfield 15, 3) := by decide +kernel
theorem dX5_append_23 : decode cX5_append 23 = .ok (.aload_n 0, 1) := by decide +kernel
theorem dX5_append_24 : decode cX5_append 24 = .ok (.getfield 18, 3) := by decide +kernel
theorem dX5_append_27 : decode cX5_append 27 = .ok (.iload_n 2, 1) := by decide +kernel
theorem dX5_append_28 : decode cX5_append 28 = .ok (.iastore, 1) := by decide +kernel
theorem dX5_append_29 : decode cX5_append 29 = .ok (.aload_n 0, 1) := by decide +kernel
theorem dX5_append_30 : decode cX5_append 30 = .ok (.dup, 1) := by decide +kernel
theorem dX5_append_31 : decode cX5_append 31 = .ok (.getfield 18, 3) := by decide +kernel
theorem dX5_append_34 : decode cX5_append 34 = .ok (.iconst 1, 1) := by decide +kernel
theorem dX5_append_35 : decode cX5_append 35 = .ok (.iadd, 1) := by decide +kernel
theorem dX5_append_36 : decode cX5_append 36 = .ok (.putfield 18, 3) := by decide +kernel
theorem dX5_append_39 : decode cX5_append 39 = .ok (.return_, 1) := by decide +kernel
theorem dX5_removeLast_0 : decode cX5_removeLast 0 = .ok (.aload_n 0, 1) := by decide +kernel
theorem dX5_removeLast_1 : decode cX5_removeLast 1 = .ok (.getfield 18, 3) := by decide +kernel
theorem dX5_removeLast_4 : decode cX5_removeLast 4 = .ok (.iconst 1, 1) := by decide +kernel
theorem dX5_removeLast_5 : decode cX5_removeLast 5 = .ok (.if_icmp .ge 5, 3) := by decide +kernel
theorem dX5_removeLast_8 : decode cX5_removeLast 8 = .ok (.iconst 0, 1) := by decide +kernel
theorem dX5_removeLast_9 : decode cX5_removeLast 9 = .ok (.ireturn, 1) := by decide +kernel
theorem dX5_removeLast_10 : decode cX5_removeLast 10 = .ok (.aload_n 0, 1) := by decide +kernel
theorem dX5_removeLast_11 : decode cX5_removeLast 11 = .ok (.dup, 1) := by decide +kernel
theorem dX5_removeLast_12 : decode cX5_removeLast 12 = .ok (.getfield 18, 3) := by decide +kernel
theorem dX5_removeLast_15 : decode cX5_removeLast 15 = .ok (.iconst 1, 1) := by decide +kernel
theorem dX5_removeLast_16 : decode cX5_removeLast 16 = .ok (.isub, 1) := by decide +kernel
theorem dX5_removeLast_17 : decode cX5_removeLast 17 = .ok (.putfield 18, 3) := by decide +kernel
theorem dX5_removeLast_20 : decode cX5_removeLast 20 = .ok (.aload_n 0, 1) := by decide +kernel
theorem dX5_removeLast_21 : decode cX5_removeLast 21 = .ok (.getfield 15, 3) := by decide +kernel
theorem dX5_removeLast_24 : decode cX5_removeLast 24 = .ok (.aload_n 0, 1) := by decide +kernel
theorem dX5_removeLast_25 : decode cX5_removeLast 25 = .ok (.getfield 18, 3) := by decide +kernel
theorem dX5_removeLast_28 : decode cX5_removeLast 28 = .ok (.iaload, 1) := by decide +kernel
theorem dX5_removeLast_29 : decode cX5_removeLast 29 = .ok (.ireturn, 1) := by decide +kernel
theorem dX5_takeFromFirst_0 : decode cX5_takeFromFirst 0 = .ok (.aload_n 0, 1) := by decide +kernel
theorem dX5_takeFromFirst_1 : decode cX5_takeFromFirst 1 = .ok (.getfield 18, 3) := by decide +kernel
theorem dX5_takeFromFirst_4 : decode cX5_takeFromFirst 4 = .ok (.iconst 1, 1) := by decide +kernel
theorem dX5_takeFromFirst_5 : decode cX5_takeFromFirst 5 = .ok (.if_icmp .ge 5, 3) := by decide +kernel
theorem dX5_takeFromFirst_8 : decode cX5_takeFromFirst 8 = .ok (.iconst 0, 1) := by decide +kernel
theorem dX5_takeFromFirst_9 : decode cX5_takeFromFirst 9 = .ok (.ireturn, 1) := by decide +kernel
theorem dX5_takeFromFirst_10 : decode cX5_takeFromFirst 10 = .ok (.iload_n 1, 1) := by decide +kernel
theorem dX5_takeFromFirst_11 : decode cX5_takeFromFirst 11 = .ok (.aload_n 0, 1) := by decide +kernel
theorem dX5_takeFromFirst_12 : decode cX5_takeFromFirst 12 = .ok (.getfield 15, 3) := by decide +kernel
theorem dX5_takeFromFirst_15 : decode cX5_takeFromFirst 15 = .ok (.iconst 0, 1) := by decide +kernel
theorem dX5_takeFromFirst_16 : decode cX5_takeFromFirst 16 = .ok (.iaload, 1) := by decide +kernel
theorem dX5_takeFromFirst_17 : decode cX5_takeFromFirst 17 = .ok (.invokestatic 28, 3) := by decide +kernel
theorem dX5_takeFromFirst_20 : decode cX5_takeFromFirst 20 = .ok (.istore_n 2, 1) := by decide +kernel
theorem dX5_takeFromFirst_21 : decode cX5_takeFromFirst 21 = .ok (.aload_n 0, 1) := by decide +kernel
theorem dX5_takeFromFirst_22 : decode cX5_takeFromFirst 22 = .ok (.getfield 15, 3) := by decide +kernel
theorem dX5_takeFromFirst_25 : decode cX5_takeFromFirst 25 = .ok (.iconst 0, 1) := by decide +kernel
theorem dX5_takeFromFirst_26 : decode cX5_takeFromFirst 26 = .ok (.dup2, 1) := by decide +kernel
theorem dX5_takeFromFirst_27 : decode cX5_takeFromFirst 27 = .ok (.iaload, 1) := by decide +kernel
theorem dX5_takeFromFirst_28 : decode cX5_takeFromFirst 28 = .ok (.iload_n 2, 1) := by decide +kernel
theorem dX5_takeFromFirst_29 : decode cX5_takeFromFirst 29 = .ok (.isub, 1) := by decide +kernel
theorem dX5_takeFromFirst_30 : decode cX5_takeFromFirst 30 = .ok (.iastore, 1) := by decide +kernel
theorem dX5_takeFromFirst_31 : decode cX5_takeFromFirst 31 = .ok (.aload_n 0, 1) := by decide +kernel
theorem dX5_takeFromFirst_32 : decode cX5_takeFromFirst 32 = .ok (.getfield 15, 3) := by decide +kernel
theorem dX5_takeFromFirst_35 : decode cX5_takeFromFirst 35 = .ok (.iconst 0, 1) := by decide +kernel
theorem dX5_takeFromFirst_36 : decode cX5_takeFromFirst 36 = .ok (.iaload, 1) := by decide +kernel
theorem dX5_takeFromFirst_37 : decode cX5_takeFromFirst 37 = .ok (.ifCond .ne 7, 3) := by decide +kernel
theorem dX5_takeFromFirst_40 : decode cX5_takeFromFirst 40 = .ok (.aload_n 0, 1) := by decide +kernel
theorem dX5_takeFromFirst_41 : decode cX5_takeFromFirst 41 = .ok (.invokevirtual 34, 3) := by decide +kernel
theorem dX5_takeFromFirst_44 : decode cX5_takeFromFirst 44 = .ok (.iload_n 2, 1) := by decide +kernel
theorem dX5_takeFromFirst_45 : decode cX5_takeFromFirst 45 = .ok (.ireturn, 1) := by decide +kernel
theorem dX5_removeFirst_0 : decode cX5_removeFirst 0 = .ok (.iconst 1, 1) := by decide +kernel
theorem dX5_removeFirst_1 : decode cX5_removeFirst 1 = .ok (.istore_n 1, 1) := by decide +kernel
theorem dX5_removeFirst_2 : decode cX5_removeFirst 2 = .ok (.iload_n 1, 1) := by decide +kernel
theorem dX5_removeFirst_3 : decode cX5_removeFirst 3 = .ok (.aload_n 0, 1) := by decide +kernel
theorem dX5_removeFirst_4 : decode cX5_removeFirst 4 = .ok (.getfield 18, 3) := by decide +kernel
theorem dX5_removeFirst_7 : decode cX5_removeFirst 7 = .ok (.if_icmp .ge 37, 3) := by decide +kernel
theorem dX5_removeFirst_10 : decode cX5_removeFirst 10 = .ok (.aload_n 0, 1) := by decide +kernel
theorem dX5_removeFirst_11 : decode cX5_removeFirst 11 = .ok (.getfield 9, 3) := by decide +kernel
theorem dX5_removeFirst_14 : decode cX5_removeFirst 14 = .ok (.iload_n 1, 1) := by decide +kernel
theorem dX5_removeFirst_15 : decode cX5_removeFirst 15 = .ok (.iconst 1, 1) := by decide +kernel
theorem dX5_removeFirst_16 : decode cX5_removeFirst 16 = .ok (.isub, 1) := by decide +kernel
theorem dX5_removeFirst_17 : decode cX5_removeFirst 17 = .ok (.aload_n 0, 1) := by decide +kernel
theorem dX5_removeFirst_18 : decode cX5_removeFirst 18 = .ok (.getfield 9, 3) := by decide +kernel
theorem dX5_removeFirst_21 : decode cX5_removeFirst 21 = .ok (.iload_n 1, 1) := by decide +kernel
theorem dX5_removeFirst_22 : decode cX5_removeFirst 22 = .ok (.iaload, 1) := by decide +kernel
theorem dX5_removeFirst_23 : decode cX5_removeFirst 23 = .ok (.iastore, 1) := by decide +kernel
theorem dX5_removeFirst_24 : decode cX5_removeFirst 24 = .ok (.aload_n 0, 1) := by decide +kernel
theorem dX5_removeFirst_25 : decode cX5_removeFirst 25 = .ok (.getfield 15, 3) := by decide +kernel
theorem dX5_removeFirst_28 : decode cX5_removeFirst 28 = .ok (.iload_n 1, 1) := by decide +kernel
theorem dX5_removeFirst_29 : decode cX5_removeFirst 29 = .ok (.iconst 1, 1) := by decide +kernel
theorem dX5_removeFirst_30 : decode cX5_removeFirst 30 = .ok (.isub, 1) := by decide +kernel
theorem dX5_removeFirst_31 : decode cX5_removeFirst 31 = .ok (.aload_n 0, 1) := by decide +kernel
theorem dX5_removeFirst_32 : decode cX5_removeFirst 32 = .ok (.getfield 15, 3) := by decide +kernel
theorem dX5_removeFirst_35 : decode cX5_removeFirst 35 = .ok (.iload_n 1, 1) := by decide +kernel
theorem dX5_removeFirst_36 : decode cX5_removeFirst 36 = .ok (.iaload, 1) := by decide +kernel
theorem dX5_removeFirst_37 : decode cX5_removeFirst 37 = .ok (.iastore, 1) := by decide +kernel
theorem dX5_removeFirst_38 : decode cX5_removeFirst 38 = .ok (.iinc 1 1, 3) := by decide +kernel
theorem dX5_removeFirst_41 : decode cX5_removeFirst 41 = .ok (.goto (-39), 3) := by decide +kernel
theorem dX5_removeFirst_44 : decode cX5_removeFirst 44 = .ok (.aload_n 0, 1) := by decide +kernel
theorem dX5_removeFirst_45 : decode cX5_removeFirst 45 = .ok (.dup, 1) := by decide +kernel
theorem dX5_removeFirst_46 : decode cX5_removeFirst 46 = .ok (.getfield 18, 3) := by decide +kernel
theorem dX5_removeFirst_49 : decode cX5_removeFirst 49 = .ok (.iconst 1, 1) := by decide +kernel
theorem dX5_removeFirst_50 : decode cX5_removeFirst 50 = .ok (.isub, 1) := by decide +kernel
theorem dX5_removeFirst_51 : decode cX5_removeFirst 51 = .ok (.putfield 18, 3) := by decide +kernel
theorem dX5_removeFirst_54 : decode cX5_removeFirst 54 = .ok (.return_, 1) := by decide +kernel
theorem dX5_allPortions_0 : decode cX5_allPortions 0 = .ok (.iconst 0, 1) := by decide +kernel
theorem dX5_allPortions_1 : decode cX5_allPortions 1 = .ok (.istore_n 1, 1) := by decide +kernel
theorem dX5_allPortions_2 : decode cX5_allPortions 2 = .ok (.iconst 0, 1) := by decide +kernel
theorem dX5_allPortions_3 : decode cX5_allPortions 3 = .ok (.istore_n 2, 1) := by decide +kernel
theorem dX5_allPortions_4 : decode cX5_allPortions 4 = .ok (.iload_n 2, 1) := by decide +kernel
theorem dX5_allPortions_5 : decode cX5_allPortions 5 = .ok (.aload_n 0, 1) := by decide +kernel
theorem dX5_allPortions_6 : decode cX5_allPortions 6 = .ok (.getfield 18, 3) := by decide +kernel
theorem dX5_allPortions_9 : decode cX5_allPortions 9 = .ok (.if_icmp .ge 18, 3) := by decide +kernel
theorem dX5_allPortions_12 : decode cX5_allPortions 12 = .ok (.iload_n 1, 1) := by decide +kernel
theorem dX5_allPortions_13 : decode cX5_allPortions 13 = .ok (.aload_n 0, 1) := by decide +kernel
theorem dX5_allPortions_14 : decode cX5_allPortions 14 = .ok (.getfield 15, 3) := by decide +kernel
theorem dX5_allPortions_17 : decode cX5_allPortions 17 = .ok (.iload_n 2, 1) := by decide +kernel
theorem dX5_allPortions_18 : decode cX5_allPortions 18 = .ok (.iaload, 1) := by decide +kernel
theorem dX5_allPortions_19 : decode cX5_allPortions 19 = .ok (.iadd, 1) := by decide +kernel
theorem dX5_allPortions_20 : decode cX5_allPortions 20 = .ok (.istore_n 1, 1) := by decide +kernel
theorem dX5_allPortions_21 : decode cX5_allPortions 21 = .ok (.iinc 2 1, 3) := by decide +kernel
theorem dX5_allPortions_24 : decode cX5_allPortions 24 = .ok (.goto (-20), 3) := by decide +kernel
theorem dX5_allPortions_27 : decode cX5_allPortions 27 = .ok (.iload_n 1, 1) := by decide +kernel
theorem dX5_allPortions_28 : decode cX5_allPortions 28 = .ok (.ireturn, 1) := by decide +kernel
theorem dX6_init_0 : decode cX6_init 0 = .ok (.aload_n 0, 1) := by decide +kernel
theorem dX6_init_1 : decode cX6_init 1 = .ok (.invokespecial 1, 3) := by decide +kernel
theorem dX6_init_4 : decode cX6_init 4 = .ok (.aload_n 0, 1) := by decide +kernel
theorem dX6_init_5 : decode cX6_init 5 = .ok (.new 7, 3) := by decide +kernel
theorem dX6_init_8 : decode cX6_init 8 = .ok (.dup, 1) := by decide +kernel
theorem dX6_init_9 : decode cX6_init 9 = .ok (.invokespecial 9, 3) := by decide +kernel
theorem dX6_init_12 : decode cX6_init 12 = .ok (.putfield 10, 3) := by decide +kernel
theorem dX6_init_15 : decode cX6_init 15 = .ok (.aload_n 0, 1) := by decide +kernel
theorem dX6_init_16 : decode cX6_init 16 = .ok (.new 7, 3) := by decide +kernel
theorem dX6_init_19 : decode cX6_init 19 = .ok (.dup, 1) := by decide +kernel
theorem dX6_init_20 : decode cX6_init 20 = .ok (.invokespecial 9, 3) := by decide +kernel
theorem dX6_init_23 : decode cX6_init 23 = .ok (.putfield 16, 3) := by decide +kernel
theorem dX6_init_26 : decode cX6_init 26 = .ok (.aload_n 0, 1) := by decide +kernel
theorem dX6_init_27 : decode cX6_init 27 = .ok (.new 7, 3) := by decide +kernel
theorem dX6_init_30 : decode cX6_init 30 = .ok (.dup, 1) := by decide +kernel
theorem dX6_init_31 : decode cX6_init 31 = .ok (.invokespecial 9, 3) := by decide +kernel
theorem dX6_init_34 : decode cX6_init 34 = .ok (.putfield 19, 3) := by decide +kernel
theorem dX6_init_37 : decode cX6_init 37 = .ok (.aload_n 0, 1) := by decide +kernel
theorem dX6_init_38 : decode cX6_init 38 = .ok (.iconst 0, 1) := by decide +kernel
theorem dX6_init_39 : decode cX6_init 39 = .ok (.putfield 22, 3) := by decide +kernel
theorem dX6_init_42 : decode cX6_init 42 = .ok (.aload_n 0, 1) := by decide +kernel
theorem dX6_init_43 : decode cX6_init 43 = .ok (.new 26, 3) := by decide +kernel
theorem dX6_init_46 : decode cX6_init 46 = .ok (.dup, 1) := by decide +kernel
theorem dX6_init_47 : decode cX6_init 47 = .ok (.invokespecial 28, 3) := by decide +kernel
theorem dX6_init_50 : decode cX6_init 50 = .ok (.putfield 29, 3) := by decide +kernel
theorem dX6_init_53 : decode cX6_init 53 = .ok (.aload_n 0, 1) := by decide +kernel
theorem dX6_init_54 : decode cX6_init 54 = .ok (.new 33, 3) := by decide +kernel
theorem dX6_init_57 : decode cX6_init 57 = .ok (.dup, 1) := by decide +kernel
theorem dX6_init_58 : decode cX6_init 58 = .ok (.invokespecial 35, 3) := by decide +kernel
theorem dX6_init_61 : decode cX6_init 61 = .ok (.putfield 36, 3) := by decide +kernel
theorem dX6_init_64 : decode cX6_init 64 = .ok (.aload_n 0, 1) := by decide +kernel
theorem dX6_init_65 : decode cX6_init 65 = .ok (.sipush 1000, 3) := by decide +kernel
theorem dX6_init_68 : decode cX6_init 68 = .ok (.newarray .int, 2) := by decide +kernel
theorem dX6_init_70 : decode cX6_init 70 = .ok (.putfield 40, 3) := by decide +kernel
theorem dX6_init_73 : decode cX6_init 73 = .ok (.return_, 1) := by decide +kernel
theorem dX6_book_0 : decode cX6_book 0 = .ok (.aload_n 0, 1) := by decide +kernel
theorem dX6_book_1 : decode cX6_book 1 = .ok (.getfield 10, 3) := by decide +kernel
theorem dX6_book_4 : decode cX6_book 4 = .ok (.iload_n 1, 1) := by decide +kernel
theorem dX6_book_5 : decode cX6_book 5 = .ok (.iload_n 2, 1) := by decide +kernel
theorem dX6_book_6 : decode cX6_book 6 = .ok (.iload_n 3, 1) := by decide +kernel
theorem dX6_book_7 : decode cX6_book 7 = .ok (.invokevirtual 44, 3) := by decide +kernel
theorem dX6_book_10 : decode cX6_book 10 = .ok (.istore 4, 2) := by decide +kernel
theorem dX6_book_12 : decode cX6_book 12 = .ok (.iload 4, 2) := by decide +kernel
theorem dX6_book_14 : decode cX6_book 14 = .ok (.ifCond .eq 6, 3) := by decide +kernel
theorem dX6_book_17 : decode cX6_book 17 = .ok (.iload 4, 2) := by decide +kernel
theorem dX6_book_19 : decode cX6_book 19 = .ok (.ireturn, 1) := by decide +kernel
theorem dX6_book_20 : decode cX6_book 20 = .ok (.aload_n 0, 1) := by decide +kernel
theorem dX6_book_21 : decode cX6_book 21 = .ok (.getfield 29, 3) := by decide +kernel
theorem dX6_book_24 : decode cX6_book 24 = .ok (.aload_n 0, 1) := by decide +kernel
theorem dX6_book_25 : decode cX6_book 25 = .ok (.getfield 10, 3) := by decide +kernel
theorem dX6_book_28 : decode cX6_book 28 = .ok (.invokevirtual 48, 3) := by decide +kernel
theorem dX6_book_31 : decode cX6_book 31 = .ok (.aload_n 0, 1) := by decide +kernel
theorem dX6_book_32 : decode cX6_book 32 = .ok (.getfield 10, 3) := by decide +kernel
theorem dX6_book_35 : decode cX6_book 35 = .ok (.iload_n 1, 1) := by decide +kernel
theorem dX6_book_36 : decode cX6_book 36 = .ok (.iload_n 2, 1) := by decide +kernel
theorem dX6_book_37 : decode cX6_book 37 = .ok (.iload_n 3, 1) := by decide +kernel
theorem dX6_book_38 : decode cX6_book 38 = .ok (.invokevirtual 52, 3) := by decide +kernel
theorem dX6_book_41 : decode cX6_book 41 = .ok (.ireturn, 1) := by decide +kernel
theorem dX6_bookAll_0 : decode cX6_bookAll 0 = .ok (.aload_n 0, 1) := by decide +kernel
theorem dX6_bookAll_1 : decode cX6_bookAll 1 = .ok (.getfield 36, 3) := by decide +kernel
theorem dX6_bookAll_4 : decode cX6_bookAll 4 = .ok (.invokevirtual 55, 3) := by decide +kernel
theorem dX6_bookAll_7 : decode cX6_bookAll 7 = .ok (.istore_n 1, 1) := by decide +kernel
theorem dX6_bookAll_8 : decode cX6_bookAll 8 = .ok (.iload_n 1, 1) := by decide +kernel
theorem dX6_bookAll_9 : decode cX6_bookAll 9 = .ok (.ldc 59, 2) := by decide +kernel
theorem dX6_bookAll_11 : decode cX6_bookAll 11 = .ok (.if_icmp .eq 8, 3) := by decide +kernel
theorem dX6_bookAll_14 : decode cX6_bookAll 14 = .ok (.bipush (-100), 2) := by decide +kernel
theorem dX6_bookAll_16 : decode cX6_bookAll 16 = .ok (.iload_n 1, 1) := by decide +kernel
theorem dX6_bookAll_17 : decode cX6_bookAll 17 = .ok (.isub, 1) := by decide +kernel
theorem dX6_bookAll_18 : decode cX6_bookAll 18 = .ok (.ireturn, 1) := by decide +kernel
theorem dX6_bookAll_19 : decode cX6_bookAll 19 = .ok (.aload_n 0, 1) := by decide +kernel
theorem dX6_bookAll_20 : decode cX6_bookAll 20 = .ok (.getfield 16, 3) := by decide +kernel
theorem dX6_bookAll_23 : decode cX6_bookAll 23 = .ok (.aload_n 0, 1) := by decide +kernel
theorem dX6_bookAll_24 : decode cX6_bookAll 24 = .ok (.getfield 10, 3) := by decide +kernel
theorem dX6_bookAll_27 : decode cX6_bookAll 27 = .ok (.invokevirtual 60, 3) := by decide +kernel
theorem dX6_bookAll_30 : decode cX6_bookAll 30 = .ok (.iconst 0, 1) := by decide +kernel
theorem dX6_bookAll_31 : decode cX6_bookAll 31 = .ok (.istore_n 2, 1) := by decide +kernel
theorem dX6_bookAll_32 : decode cX6_bookAll 32 = .ok (.iload_n 2, 1) := by decide +kernel
theorem dX6_bookAll_33 : decode cX6_bookAll 33 = .ok (.aload_n 0, 1) := by decide +kernel
theorem dX6_bookAll_34 : decode cX6_bookAll 34 = .ok (.getfield 36, 3) := by decide +kernel
theorem dX6_bookAll_37 : decode cX6_bookAll 37 = .ok (.getfield 63, 3) := by decide +kernel
theorem dX6_bookAll_40 : decode cX6_bookAll 40 = .ok (.if_icmp .ge 85, 3) := by decide +kernel
theorem dX6_bookAll_43 : decode cX6_bookAll 43 = .ok (.aload_n 0, 1) := by decide +kernel
theorem dX6_bookAll_44 : decode cX6_bookAll 44 = .ok (.getfield 16, 3) := by decide +kernel
theorem dX6_bookAll_47 : decode cX6_bookAll 47 = .ok (.aload_n 0, 1) := by decide +kernel
theorem dX6_bookAll_48 : decode cX6_bookAll 48 = .ok (.getfield 36, 3) := by decide +kernel
theorem dX6_bookAll_51 : decode cX6_bookAll 51 = .ok (.getfield 67, 3) := by decide +kernel
theorem dX6_bookAll_54 : decode cX6_bookAll 54 = .ok (.iload_n 2, 1) := by decide +kernel
theorem dX6_bookAll_55 : decode cX6_bookAll 55 = .ok (.iaload, 1) := by decide +kernel
theorem dX6_bookAll_56 : decode cX6_bookAll 56 = .ok (.aload_n 0, 1) := by decide +kernel
theorem dX6_bookAll_57 : decode cX6_bookAll 57 = .ok (.getfield 36, 3) := by decide +kernel
theorem dX6_bookAll_60 : decode cX6_bookAll 60 = .ok (.getfield 70, 3) := by decide +kernel
theorem dX6_bookAll_63 : decode cX6_bookAll 63 = .ok (.iload_n 2, 1) := by decide +kernel
theorem dX6_bookAll_64 : decode cX6_bookAll 64 = .ok (.iaload, 1) := by decide +kernel
theorem dX6_bookAll_65 : decode cX6_bookAll 65 = .ok (.aload_n 0, 1) := by decide +kernel
theorem dX6_bookAll_66 : decode cX6_bookAll 66 = .ok (.getfield 36, 3) := by decide +kernel
theorem dX6_bookAll_69 : decode cX6_bookAll 69 = .ok (.getfield 73, 3) := by decide +kernel
theorem dX6_bookAll_72 : decode cX6_bookAll 72 = .ok (.iload_n 2, 1) := by decide +kernel
theorem dX6_bookAll_73 : decode cX6_bookAll 73 = .ok (.iaload, 1) := by decide +kernel
theorem dX6_bookAll_74 : decode cX6_bookAll 74 = .ok (.invokevirtual 44, 3) := by decide +kernel
theorem dX6_bookAll_77 : decode cX6_bookAll 77 = .ok (.istore_n 3, 1) := by decide +kernel
theorem dX6_bookAll_78 : decode cX6_bookAll 78 = .ok (.iload_n 3, 1) := by decide +kernel
theorem dX6_bookAll_79 : decode cX6_bookAll 79 = .ok (.ifCond .eq 5, 3) := by decide +kernel
theorem dX6_bookAll_82 : decode cX6_bookAll 82 = .ok (.iload_n 3, 1) := by decide +kernel
theorem dX6_bookAll_83 : decode cX6_bookAll 83 = .ok (.ireturn, 1) := by decide +kernel
theorem dX6_bookAll_84 : decode cX6_bookAll 84 = .ok (.aload_n 0, 1) := by decide +kernel
theorem dX6_bookAll_85 : decode cX6_bookAll 85 = .ok (.getfield 16, 3) := by decide +kernel
theorem dX6_bookAll_88 : decode cX6_bookAll 88 = .ok (.aload_n 0, 1) := by decide +kernel
theorem dX6_bookAll_89 : decode cX6_bookAll 89 = .ok (.getfield 36, 3) := by decide +kernel
theorem dX6_bookAll_92 : decode cX6_bookAll 92 = .ok (.getfield 67, 3) := by decide +kernel
theorem dX6_bookAll_95 : decode cX6_bookAll 95 = .ok (.iload_n 2, 1) := by decide +kernel
theorem dX6_bookAll_96 : decode cX6_bookAll 96 = .ok (.iaload, 1) := by decide +kernel
theorem dX6_bookAll_97 : decode cX6_bookAll 97 = .ok (.aload_n 0, 1) := by decide +kernel
theorem dX6_bookAll_98 : decode cX6_bookAll 98 = .ok (.getfield 36, 3) := by decide +kernel
theorem dX6_bookAll_101 : decode cX6_bookAll 101 = .ok (.getfield 70, 3) := by decide +kernel
theorem dX6_bookAll_104 : decode cX6_bookAll 104 = .ok (.iload_n 2, 1) := by decide +kernel
theorem dX6_bookAll_105 : decode cX6_bookAll 105 = .ok (.iaload, 1) := by decide +kernel
theorem dX6_bookAll_106 : decode cX6_bookAll 106 = .ok (.aload_n 0, 1) := by decide +kernel
theorem dX6_bookAll_107 : decode cX6_bookAll 107 = .ok (.getfield 36, 3) := by decide +kernel
theorem dX6_bookAll_110 : decode cX6_bookAll 110 = .ok (.getfield 73, 3) := by decide +kernel
theorem dX6_bookAll_113 : decode cX6_bookAll 113 = .ok (.iload_n 2, 1) := by decide +kernel
theorem dX6_bookAll_114 : decode cX6_bookAll 114 = .ok (.iaload, 1) := by decide +kernel
theorem dX6_bookAll_115 : decode cX6_bookAll 115 = .ok (.invokevirtual 52, 3) := by decide +kernel
theorem dX6_bookAll_118 : decode cX6_bookAll 118 = .ok (.pop, 1) := by decide +kernel
theorem dX6_bookAll_119 : decode cX6_bookAll 119 = .ok (.iinc 2 1, 3) := by decide +kernel
theorem dX6_bookAll_122 : decode cX6_bookAll 122 = .ok (.goto (-90), 3) := by decide +kernel
theorem dX6_bookAll_125 : decode cX6_bookAll 125 = .ok (.aload_n 0, 1) := by decide +kernel
theorem dX6_bookAll_126 : decode cX6_bookAll 126 = .ok (.getfield 29, 3) := by decide +kernel
theorem dX6_bookAll_129 : decode cX6_bookAll 129 = .ok (.aload_n 0, 1) := by decide +kernel
theorem dX6_bookAll_130 : decode cX6_bookAll 130 = .ok (.getfield 10, 3) := by decide +kernel
theorem dX6_bookAll_133 : decode cX6_bookAll 133 = .ok (.invokevirtual 48, 3) := by decide +kernel
theorem dX6_bookAll_136 : decode cX6_bookAll 136 = .ok (.aload_n 0, 1) := by decide +kernel
theorem dX6_bookAll_137 : decode cX6_bookAll 137 = .ok (.getfield 10, 3) := by decide +kernel
theorem dX6_bookAll_140 : decode cX6_bookAll 140 = .ok (.aload_n 0, 1) := by decide +kernel
theorem dX6_bookAll_141 : decode cX6_bookAll 141 = .ok (.getfield 16, 3) := by decide +kernel
theorem dX6_bookAll_144 : decode cX6_bookAll 144 = .ok (.invokevirtual 60, 3) := by decide +kernel
theorem dX6_bookAll_147 : decode cX6_bookAll 147 = .ok (.aload_n 0, 1) := by decide +kernel
theorem dX6_bookAll_148 : decode cX6_bookAll 148 = .ok (.getfield 36, 3) := by decide +kernel
theorem dX6_bookAll_151 : decode cX6_bookAll 151 = .ok (.getfield 63, 3) := by decide +kernel
theorem dX6_bookAll_154 : decode cX6_bookAll 154 = .ok (.ireturn, 1) := by decide +kernel
theorem dX6_cancel_0 : decode cX6_cancel 0 = .ok (.aload_n 0, 1) := by decide +kernel
theorem dX6_cancel_1 : decode cX6_cancel 1 = .ok (.iload_n 1, 1) := by decide +kernel
theorem dX6_cancel_2 : decode cX6_cancel 2 = .ok (.invokevirtual 76, 3) := by decide +kernel
theorem dX6_cancel_5 : decode cX6_cancel 5 = .ok (.istore_n 2, 1) := by decide +kernel
theorem dX6_cancel_6 : decode cX6_cancel 6 = .ok (.iload_n 2, 1) := by decide +kernel
theorem dX6_cancel_7 : decode cX6_cancel 7 = .ok (.ifCond .eq 5, 3) := by decide +kernel
theorem dX6_cancel_10 : decode cX6_cancel 10 = .ok (.iload_n 2, 1) := by decide +kernel
theorem dX6_cancel_11 : decode cX6_cancel 11 = .ok (.ireturn, 1) := by decide +kernel
theorem dX6_cancel_12 : decode cX6_cancel 12 = .ok (.aload_n 0, 1) := by decide +kernel
theorem dX6_cancel_13 : decode cX6_cancel 13 = .ok (.getfield 29, 3) := by decide +kernel
theorem dX6_cancel_16 : decode cX6_cancel 16 = .ok (.aload_n 0, 1) := by decide +kernel
theorem dX6_cancel_17 : decode cX6_cancel 17 = .ok (.getfield 10, 3) := by decide +kernel
theorem dX6_cancel_20 : decode cX6_cancel 20 = .ok (.invokevirtual 48, 3) := by decide +kernel
theorem dX6_cancel_23 : decode cX6_cancel 23 = .ok (.aload_n 0, 1) := by decide +kernel
theorem dX6_cancel_24 : decode cX6_cancel 24 = .ok (.getfield 10, 3) := by decide +kernel
theorem dX6_cancel_27 : decode cX6_cancel 27 = .ok (.iload_n 1, 1) := by decide +kernel
theorem dX6_cancel_28 : decode cX6_cancel 28 = .ok (.invokevirtual 80, 3) := by decide +kernel
theorem dX6_cancel_31 : decode cX6_cancel 31 = .ok (.ireturn, 1) := by decide +kernel
theorem dX6_extend_0 : decode cX6_extend 0 = .ok (.aload_n 0, 1) := by decide +kernel
theorem dX6_extend_1 : decode cX6_extend 1 = .ok (.getfield 10, 3) := by decide +kernel
theorem dX6_extend_4 : decode cX6_extend 4 = .ok (.getfield 83, 3) := by decide +kernel
theorem dX6_extend_7 : decode cX6_extend 7 = .ok (.iload_n 1, 1) := by decide +kernel
theorem dX6_extend_8 : decode cX6_extend 8 = .ok (.invokevirtual 87, 3) := by decide +kernel
theorem dX6_extend_11 : decode cX6_extend 11 = .ok (.ifCond .ne 6, 3) := by decide +kernel
theorem dX6_extend_14 : decode cX6_extend 14 = .ok (.ldc 93, 2) := by decide +kernel
theorem dX6_extend_16 : decode cX6_extend 16 = .ok (.ireturn, 1) := by decide +kernel
theorem dX6_extend_17 : decode cX6_extend 17 = .ok (.iload_n 2, 1) := by decide +kernel
theorem dX6_extend_18 : decode cX6_extend 18 = .ok (.iconst 1, 1) := by decide +kernel
theorem dX6_extend_19 : decode cX6_extend 19 = .ok (.if_icmp .lt 9, 3) := by decide +kernel
theorem dX6_extend_22 : decode cX6_extend 22 = .ok (.iload_n 2, 1) := by decide +kernel
theorem dX6_extend_23 : decode cX6_extend 23 = .ok (.bipush 9, 2) := by decide +kernel
theorem dX6_extend_25 : decode cX6_extend 25 = .ok (.if_icmp .le 6, 3) := by decide +kernel
theorem dX6_extend_28 : decode cX6_extend 28 = .ok (.ldc 94, 2) := by decide +kernel
theorem dX6_extend_30 : decode cX6_extend 30 = .ok (.ireturn, 1) := by decide +kernel
theorem dX6_extend_31 : decode cX6_extend 31 = .ok (.aload_n 0, 1) := by decide +kernel
theorem dX6_extend_32 : decode cX6_extend 32 = .ok (.getfield 10, 3) := by decide +kernel
theorem dX6_extend_35 : decode cX6_extend 35 = .ok (.iload_n 1, 1) := by decide +kernel
theorem dX6_extend_36 : decode cX6_extend 36 = .ok (.iload_n 2, 1) := by decide +kernel
theorem dX6_extend_37 : decode cX6_extend 37 = .ok (.invokevirtual 95, 3) := by decide +kernel
theorem dX6_extend_40 : decode cX6_extend 40 = .ok (.ifCond .ne 6, 3) := by decide +kernel
theorem dX6_extend_43 : decode cX6_extend 43 = .ok (.ldc 99, 2) := by decide +kernel
theorem dX6_extend_45 : decode cX6_extend 45 = .ok (.ireturn, 1) := by decide +kernel
theorem dX6_extend_46 : decode cX6_extend 46 = .ok (.aload_n 0, 1) := by decide +kernel
theorem dX6_extend_47 : decode cX6_extend 47 = .ok (.getfield 29, 3) := by decide +kernel
theorem dX6_extend_50 : decode cX6_extend 50 = .ok (.aload_n 0, 1) := by decide +kernel
theorem dX6_extend_51 : decode cX6_extend 51 = .ok (.getfield 10, 3) := by decide +kernel
theorem dX6_extend_54 : decode cX6_extend 54 = .ok (.invokevirtual 48, 3) := by decide +kernel
theorem dX6_extend_57 : decode cX6_extend 57 = .ok (.aload_n 0, 1) := by decide +kernel
theorem dX6_extend_58 : decode cX6_extend 58 = .ok (.getfield 10, 3) := by decide +kernel
theorem dX6_extend_61 : decode cX6_extend 61 = .ok (.getfield 83, 3) := by decide +kernel
theorem dX6_extend_64 : decode cX6_extend 64 = .ok (.getfield 100, 3) := by decide +kernel
theorem dX6_extend_67 : decode cX6_extend 67 = .ok (.iload_n 1, 1) := by decide +kernel
theorem dX6_extend_68 : decode cX6_extend 68 = .ok (.dup2, 1) := by decide +kernel
theorem dX6_extend_69 : decode cX6_extend 69 = .ok (.iaload, 1) := by decide +kernel
theorem dX6_extend_70 : decode cX6_extend 70 = .ok (.iload_n 2, 1) := by decide +kernel
theorem dX6_extend_71 : decode cX6_extend 71 = .ok (.iadd, 1) := by decide +kernel
theorem dX6_extend_72 : decode cX6_extend 72 = .ok (.iastore, 1) := by decide +kernel
theorem dX6_extend_73 : decode cX6_extend 73 = .ok (.aload_n 0, 1) := by decide +kernel
theorem dX6_extend_74 : decode cX6_extend 74 = .ok (.getfield 10, 3) := by decide +kernel
theorem dX6_extend_77 : decode cX6_extend 77 = .ok (.getfield 83, 3) := by decide +kernel
theorem dX6_extend_80 : decode cX6_extend 80 = .ok (.iload_n 1, 1) := by decide +kernel
theorem dX6_extend_81 : decode cX6_extend 81 = .ok (.invokevirtual 101, 3) := by decide +kernel
theorem dX6_extend_84 : decode cX6_extend 84 = .ok (.ireturn, 1) := by decide +kernel
theorem dX6_weather_0 : decode cX6_weather 0 = .ok (.iload_n 1, 1) := by decide +kernel
theorem dX6_weather_1 : decode cX6_weather 1 = .ok (.aload_n 0, 1) := by decide +kernel
theorem dX6_weather_2 : decode cX6_weather 2 = .ok (.getfield 10, 3) := by decide +kernel
theorem dX6_weather_5 : decode cX6_weather 5 = .ok (.getfield 104, 3) := by decide +kernel
theorem dX6_weather_8 : decode cX6_weather 8 = .ok (.if_icmp .lt 25, 3) := by decide +kernel
theorem dX6_weather_11 : decode cX6_weather 11 = .ok (.iload_n 2, 1) := by decide +kernel
theorem dX6_weather_12 : decode cX6_weather 12 = .ok (.iload_n 1, 1) := by decide +kernel
theorem dX6_weather_13 : decode cX6_weather 13 = .ok (.if_icmp .lt 20, 3) := by decide +kernel
theorem dX6_weather_16 : decode cX6_weather 16 = .ok (.iload_n 2, 1) := by decide +kernel
theorem dX6_weather_17 : decode cX6_weather 17 = .ok (.sipush 999, 3) := by decide +kernel
theorem dX6_weather_20 : decode cX6_weather 20 = .ok (.if_icmp .gt 13, 3) := by decide +kernel
theorem dX6_weather_23 : decode cX6_weather 23 = .ok (.iload_n 3, 1) := by decide +kernel
theorem dX6_weather_24 : decode cX6_weather 24 = .ok (.ifCond .lt 9, 3) := by decide +kernel
theorem dX6_weather_27 : decode cX6_weather 27 = .ok (.iload_n 3, 1) := by decide +kernel
theorem dX6_weather_28 : decode cX6_weather 28 = .ok (.bipush 7, 2) := by decide +kernel
theorem dX6_weather_30 : decode cX6_weather 30 = .ok (.if_icmp .le 6, 3) := by decide +kernel
theorem dX6_weather_33 : decode cX6_weather 33 = .ok (.ldc 94, 2) := by decide +kernel
theorem dX6_weather_35 : decode cX6_weather 35 = .ok (.ireturn, 1) := by decide +kernel
theorem dX6_weather_36 : decode cX6_weather 36 = .ok (.aload_n 0, 1) := by decide +kernel
theorem dX6_weather_37 : decode cX6_weather 37 = .ok (.getfield 10, 3) := by decide +kernel
theorem dX6_weather_40 : decode cX6_weather 40 = .ok (.iload_n 1, 1) := by decide +kernel
theorem dX6_weather_41 : decode cX6_weather 41 = .ok (.iload_n 2, 1) := by decide +kernel
theorem dX6_weather_42 : decode cX6_weather 42 = .ok (.iload_n 3, 1) := by decide +kernel
theorem dX6_weather_43 : decode cX6_weather 43 = .ok (.invokevirtual 107, 3) := by decide +kernel
theorem dX6_weather_46 : decode cX6_weather 46 = .ok (.istore 4, 2) := by decide +kernel
theorem dX6_weather_48 : decode cX6_weather 48 = .ok (.iload 4, 2) := by decide +kernel
theorem dX6_weather_50 : decode cX6_weather 50 = .ok (.ifCond .ne 6, 3) := by decide +kernel
theorem dX6_weather_53 : decode cX6_weather 53 = .ok (.ldc 59, 2) := by decide +kernel
theorem dX6_weather_55 : decode cX6_weather 55 = .ok (.ireturn, 1) := by decide +kernel
theorem dX6_weather_56 : decode cX6_weather 56 = .ok (.aload_n 0, 1) := by decide +kernel
theorem dX6_weather_57 : decode cX6_weather 57 = .ok (.getfield 29, 3) := by decide +kernel
theorem dX6_weather_60 : decode cX6_weather 60 = .ok (.aload_n 0, 1) := by decide +kernel
theorem dX6_weather_61 : decode cX6_weather 61 = .ok (.getfield 10, 3) := by decide +kernel
theorem dX6_weather_64 : decode cX6_weather 64 = .ok (.invokevirtual 48, 3) := by decide +kernel
theorem dX6_weather_67 : decode cX6_weather 67 = .ok (.aload_n 0, 1) := by decide +kernel
theorem dX6_weather_68 : decode cX6_weather 68 = .ok (.getfield 10, 3) := by decide +kernel
theorem dX6_weather_71 : decode cX6_weather 71 = .ok (.iload_n 1, 1) := by decide +kernel
theorem dX6_weather_72 : decode cX6_weather 72 = .ok (.iload_n 2, 1) := by decide +kernel
theorem dX6_weather_73 : decode cX6_weather 73 = .ok (.iload_n 3, 1) := by decide +kernel
theorem dX6_weather_74 : decode cX6_weather 74 = .ok (.invokevirtual 110, 3) := by decide +kernel
theorem dX6_weather_77 : decode cX6_weather 77 = .ok (.iload 4, 2) := by decide +kernel
theorem dX6_weather_79 : decode cX6_weather 79 = .ok (.ireturn, 1) := by decide +kernel
theorem dX6_order_0 : decode cX6_order 0 = .ok (.iload_n 1, 1) := by decide +kernel
theorem dX6_order_1 : decode cX6_order 1 = .ok (.ifCond .lt 19, 3) := by decide +kernel
theorem dX6_order_4 : decode cX6_order 4 = .ok (.iload_n 1, 1) := by decide +kernel
theorem dX6_order_5 : decode cX6_order 5 = .ok (.iconst 1, 1) := by decide +kernel
theorem dX6_order_6 : decode cX6_order 6 = .ok (.if_icmp .gt 14, 3) := by decide +kernel
theorem dX6_order_9 : decode cX6_order 9 = .ok (.iload_n 2, 1) := by decide +kernel
theorem dX6_order_10 : decode cX6_order 10 = .ok (.iconst 1, 1) := by decide +kernel
theorem dX6_order_11 : decode cX6_order 11 = .ok (.if_icmp .lt 9, 3) := by decide +kernel
theorem dX6_order_14 : decode cX6_order 14 = .ok (.iload_n 2, 1) := by decide +kernel
theorem dX6_order_15 : decode cX6_order 15 = .ok (.bipush 99, 2) := by decide +kernel
theorem dX6_order_17 : decode cX6_order 17 = .ok (.if_icmp .le 6, 3) := by decide +kernel
theorem dX6_order_20 : decode cX6_order 20 = .ok (.ldc 94, 2) := by decide +kernel
theorem dX6_order_22 : decode cX6_order 22 = .ok (.ireturn, 1) := by decide +kernel
theorem dX6_order_23 : decode cX6_order 23 = .ok (.aload_n 0, 1) := by decide +kernel
theorem dX6_order_24 : decode cX6_order 24 = .ok (.getfield 10, 3) := by decide +kernel
theorem dX6_order_27 : decode cX6_order 27 = .ok (.getfield 114, 3) := by decide +kernel
theorem dX6_order_30 : decode cX6_order 30 = .ok (.getfield 118, 3) := by decide +kernel
theorem dX6_order_33 : decode cX6_order 33 = .ok (.bipush 12, 2) := by decide +kernel
theorem dX6_order_35 : decode cX6_order 35 = .ok (.if_icmp .lt 6, 3) := by decide +kernel
theorem dX6_order_38 : decode cX6_order 38 = .ok (.ldc 123, 2) := by decide +kernel
theorem dX6_order_40 : decode cX6_order 40 = .ok (.ireturn, 1) := by decide +kernel
theorem dX6_order_41 : decode cX6_order 41 = .ok (.aload_n 0, 1) := by decide +kernel
theorem dX6_order_42 : decode cX6_order 42 = .ok (.getfield 29, 3) := by decide +kernel
theorem dX6_order_45 : decode cX6_order 45 = .ok (.aload_n 0, 1) := by decide +kernel
theorem dX6_order_46 : decode cX6_order 46 = .ok (.getfield 10, 3) := by decide +kernel
theorem dX6_order_49 : decode cX6_order 49 = .ok (.invokevirtual 48, 3) := by decide +kernel
theorem dX6_order_52 : decode cX6_order 52 = .ok (.aload_n 0, 1) := by decide +kernel
theorem dX6_order_53 : decode cX6_order 53 = .ok (.getfield 10, 3) := by decide +kernel
theorem dX6_order_56 : decode cX6_order 56 = .ok (.getfield 114, 3) := by decide +kernel
theorem dX6_order_59 : decode cX6_order 59 = .ok (.iload_n 1, 1) := by decide +kernel
theorem dX6_order_60 : decode cX6_order 60 = .ok (.iload_n 2, 1) := by decide +kernel
theorem dX6_order_61 : decode cX6_order 61 = .ok (.invokevirtual 124, 3) := by decide +kernel
theorem dX6_order_64 : decode cX6_order 64 = .ok (.aload_n 0, 1) := by decide +kernel
theorem dX6_order_65 : decode cX6_order 65 = .ok (.getfield 10, 3) := by decide +kernel
theorem dX6_order_68 : decode cX6_order 68 = .ok (.getfield 114, 3) := by decide +kernel
theorem dX6_order_71 : decode cX6_order 71 = .ok (.getfield 118, 3) := by decide +kernel
theorem dX6_order_74 : decode cX6_order 74 = .ok (.ireturn, 1) := by decide +kernel
theorem dX6_recall_0 : decode cX6_recall 0 = .ok (.aload_n 0, 1) := by decide +kernel
theorem dX6_recall_1 : decode cX6_recall 1 = .ok (.getfield 10, 3) := by decide +kernel
theorem dX6_recall_4 : decode cX6_recall 4 = .ok (.getfield 114, 3) := by decide +kernel
theorem dX6_recall_7 : decode cX6_recall 7 = .ok (.getfield 118, 3) := by decide +kernel
theorem dX6_recall_10 : decode cX6_recall 10 = .ok (.iconst 1, 1) := by decide +kernel
theorem dX6_recall_11 : decode cX6_recall 11 = .ok (.if_icmp .ge 6, 3) := by decide +kernel
theorem dX6_recall_14 : decode cX6_recall 14 = .ok (.ldc 59, 2) := by decide +kernel
theorem dX6_recall_16 : decode cX6_recall 16 = .ok (.ireturn, 1) := by decide +kernel
theorem dX6_recall_17 : decode cX6_recall 17 = .ok (.aload_n 0, 1) := by decide +kernel
theorem dX6_recall_18 : decode cX6_recall 18 = .ok (.getfield 29, 3) := by decide +kernel
theorem dX6_recall_21 : decode cX6_recall 21 = .ok (.aload_n 0, 1) := by decide +kernel
theorem dX6_recall_22 : decode cX6_recall 22 = .ok (.getfield 10, 3) := by decide +kernel
theorem dX6_recall_25 : decode cX6_recall 25 = .ok (.invokevirtual 48, 3) := by decide +kernel
theorem dX6_recall_28 : decode cX6_recall 28 = .ok (.aload_n 0, 1) := by decide +kernel
theorem dX6_recall_29 : decode cX6_recall 29 = .ok (.getfield 10, 3) := by decide +kernel
theorem dX6_recall_32 : decode cX6_recall 32 = .ok (.getfield 114, 3) := by decide +kernel
theorem dX6_recall_35 : decode cX6_recall 35 = .ok (.invokevirtual 128, 3) := by decide +kernel
theorem dX6_recall_38 : decode cX6_recall 38 = .ok (.ireturn, 1) := by decide +kernel
theorem dX6_flight_0 : decode cX6_flight 0 = .ok (.aload_n 0, 1) := by decide +kernel
theorem dX6_flight_1 : decode cX6_flight 1 = .ok (.getfield 10, 3) := by decide +kernel
theorem dX6_flight_4 : decode cX6_flight 4 = .ok (.getfield 131, 3) := by decide +kernel
theorem dX6_flight_7 : decode cX6_flight 7 = .ok (.iload_n 1, 1) := by decide +kernel
theorem dX6_flight_8 : decode cX6_flight 8 = .ok (.if_icmp .ne 6, 3) := by decide +kernel
theorem dX6_flight_11 : decode cX6_flight 11 = .ok (.ldc 59, 2) := by decide +kernel
theorem dX6_flight_13 : decode cX6_flight 13 = .ok (.ireturn, 1) := by decide +kernel
theorem dX6_flight_14 : decode cX6_flight 14 = .ok (.aload_n 0, 1) := by decide +kernel
theorem dX6_flight_15 : decode cX6_flight 15 = .ok (.getfield 29, 3) := by decide +kernel
theorem dX6_flight_18 : decode cX6_flight 18 = .ok (.aload_n 0, 1) := by decide +kernel
theorem dX6_flight_19 : decode cX6_flight 19 = .ok (.getfield 10, 3) := by decide +kernel
theorem dX6_flight_22 : decode cX6_flight 22 = .ok (.invokevirtual 48, 3) := by decide +kernel
theorem dX6_flight_25 : decode cX6_flight 25 = .ok (.aload_n 0, 1) := by decide +kernel
theorem dX6_flight_26 : decode cX6_flight 26 = .ok (.getfield 10, 3) := by decide +kernel
theorem dX6_flight_29 : decode cX6_flight 29 = .ok (.iload_n 1, 1) := by decide +kernel
theorem dX6_flight_30 : decode cX6_flight 30 = .ok (.putfield 131, 3) := by decide +kernel
theorem dX6_flight_33 : decode cX6_flight 33 = .ok (.aload_n 0, 1) := by decide +kernel
theorem dX6_flight_34 : decode cX6_flight 34 = .ok (.getfield 10, 3) := by decide +kernel
theorem dX6_flight_37 : decode cX6_flight 37 = .ok (.getfield 134, 3) := by decide +kernel
theorem dX6_flight_40 : decode cX6_flight 40 = .ok (.iconst 0, 1) := by decide +kernel
theorem dX6_flight_41 : decode cX6_flight 41 = .ok (.iaload, 1) := by decide +kernel
theorem dX6_flight_42 : decode cX6_flight 42 = .ok (.ireturn, 1) := by decide +kernel
theorem dX6_pass_0 : decode cX6_pass 0 = .ok (.iload_n 1, 1) := by decide +kernel
theorem dX6_pass_1 : decode cX6_pass 1 = .ok (.iconst 1, 1) := by decide +kernel
theorem dX6_pass_2 : decode cX6_pass 2 = .ok (.if_icmp .lt 9, 3) := by decide +kernel
theorem dX6_pass_5 : decode cX6_pass 5 = .ok (.iload_n 1, 1) := by decide +kernel
theorem dX6_pass_6 : decode cX6_pass 6 = .ok (.bipush 30, 2) := by decide +kernel
theorem dX6_pass_8 : decode cX6_pass 8 = .ok (.if_icmp .le 6, 3) := by decide +kernel
theorem dX6_pass_11 : decode cX6_pass 11 = .ok (.ldc 94, 2) := by decide +kernel
theorem dX6_pass_13 : decode cX6_pass 13 = .ok (.ireturn, 1) := by decide +kernel
theorem dX6_pass_14 : decode cX6_pass 14 = .ok (.aload_n 0, 1) := by decide +kernel
theorem dX6_pass_15 : decode cX6_pass 15 = .ok (.getfield 10, 3) := by decide +kernel
theorem dX6_pass_18 : decode cX6_pass 18 = .ok (.getfield 104, 3) := by decide +kernel
theorem dX6_pass_21 : decode cX6_pass 21 = .ok (.iload_n 1, 1) := by decide +kernel
theorem dX6_pass_22 : decode cX6_pass 22 = .ok (.iadd, 1) := by decide +kernel
theorem dX6_pass_23 : decode cX6_pass 23 = .ok (.sipush 999, 3) := by decide +kernel
theorem dX6_pass_26 : decode cX6_pass 26 = .ok (.if_icmp .le 6, 3) := by decide +kernel
theorem dX6_pass_29 : decode cX6_pass 29 = .ok (.ldc 123, 2) := by decide +kernel
theorem dX6_pass_31 : decode cX6_pass 31 = .ok (.ireturn, 1) := by decide +kernel
theorem dX6_pass_32 : decode cX6_pass 32 = .ok (.aload_n 0, 1) := by decide +kernel
theorem dX6_pass_33 : decode cX6_pass 33 = .ok (.getfield 29, 3) := by decide +kernel
theorem dX6_pass_36 : decode cX6_pass 36 = .ok (.aload_n 0, 1) := by decide +kernel
theorem dX6_pass_37 : decode cX6_pass 37 = .ok (.getfield 10, 3) := by decide +kernel
theorem dX6_pass_40 : decode cX6_pass 40 = .ok (.invokevirtual 48, 3) := by decide +kernel
theorem dX6_pass_43 : decode cX6_pass 43 = .ok (.iconst 0, 1) := by decide +kernel
theorem dX6_pass_44 : decode cX6_pass 44 = .ok (.istore_n 2, 1) := by decide +kernel
theorem dX6_pass_45 : decode cX6_pass 45 = .ok (.iload_n 2, 1) := by decide +kernel
theorem dX6_pass_46 : decode cX6_pass 46 = .ok (.iload_n 1, 1) := by decide +kernel
theorem dX6_pass_47 : decode cX6_pass 47 = .ok (.if_icmp .ge 16, 3) := by decide +kernel
theorem dX6_pass_50 : decode cX6_pass 50 = .ok (.aload_n 0, 1) := by decide +kernel
theorem dX6_pass_51 : decode cX6_pass 51 = .ok (.getfield 10, 3) := by decide +kernel
theorem dX6_pass_54 : decode cX6_pass 54 = .ok (.invokevirtual 137, 3) := by decide +kernel
theorem dX6_pass_57 : decode cX6_pass 57 = .ok (.iinc 2 1, 3) := by decide +kernel
theorem dX6_pass_60 : decode cX6_pass 60 = .ok (.goto (-15), 3) := by decide +kernel
theorem dX6_pass_63 : decode cX6_pass 63 = .ok (.aload_n 0, 1) := by decide +kernel
theorem dX6_pass_64 : decode cX6_pass 64 = .ok (.getfield 10, 3) := by decide +kernel
theorem dX6_pass_67 : decode cX6_pass 67 = .ok (.getfield 104, 3) := by decide +kernel
theorem dX6_pass_70 : decode cX6_pass 70 = .ok (.ireturn, 1) := by decide +kernel
theorem dX6_set_0 : decode cX6_set 0 = .ok (.iload_n 1, 1) := by decide +kernel
theorem dX6_set_1 : decode cX6_set 1 = .ok (.ifCond .lt 9, 3) := by decide +kernel
theorem dX6_set_4 : decode cX6_set 4 = .ok (.iload_n 1, 1) := by decide +kernel
theorem dX6_set_5 : decode cX6_set 5 = .ok (.bipush 10, 2) := by decide +kernel
theorem dX6_set_7 : decode cX6_set 7 = .ok (.if_icmp .lt 6, 3) := by decide +kernel
theorem dX6_set_10 : decode cX6_set 10 = .ok (.ldc 94, 2) := by decide +kernel
theorem dX6_set_12 : decode cX6_set 12 = .ok (.ireturn, 1) := by decide +kernel
theorem dX6_set_13 : decode cX6_set 13 = .ok (.iload_n 2, 1) := by decide +kernel
theorem dX6_set_14 : decode cX6_set 14 = .ok (.getstatic 140, 3) := by decide +kernel
theorem dX6_set_17 : decode cX6_set 17 = .ok (.iload_n 1, 1) := by decide +kernel
theorem dX6_set_18 : decode cX6_set 18 = .ok (.iaload, 1) := by decide +kernel
theorem dX6_set_19 : decode cX6_set 19 = .ok (.if_icmp .lt 12, 3) := by decide +kernel
theorem dX6_set_22 : decode cX6_set 22 = .ok (.iload_n 2, 1) := by decide +kernel
theorem dX6_set_23 : decode cX6_set 23 = .ok (.getstatic 143, 3) := by decide +kernel
theorem dX6_set_26 : decode cX6_set 26 = .ok (.iload_n 1, 1) := by decide +kernel
theorem dX6_set_27 : decode cX6_set 27 = .ok (.iaload, 1) := by decide +kernel
theorem dX6_set_28 : decode cX6_set 28 = .ok (.if_icmp .le 6, 3) := by decide +kernel
theorem dX6_set_31 : decode cX6_set 31 = .ok (.ldc 94, 2) := by decide +kernel
theorem dX6_set_33 : decode cX6_set 33 = .ok (.ireturn, 1) := by decide +kernel
theorem dX6_set_34 : decode cX6_set 34 = .ok (.iload_n 1, 1) := by decide +kernel
theorem dX6_set_35 : decode cX6_set 35 = .ok (.ifCond .ne 14, 3) := by decide +kernel
theorem dX6_set_38 : decode cX6_set 38 = .ok (.aload_n 0, 1) := by decide +kernel
theorem dX6_set_39 : decode cX6_set 39 = .ok (.invokevirtual 146, 3) := by decide +kernel
theorem dX6_set_42 : decode cX6_set 42 = .ok (.iload_n 2, 1) := by decide +kernel
theorem dX6_set_43 : decode cX6_set 43 = .ok (.if_icmp .le 6, 3) := by decide +kernel
theorem dX6_set_46 : decode cX6_set 46 = .ok (.ldc 99, 2) := by decide +kernel
theorem dX6_set_48 : decode cX6_set 48 = .ok (.ireturn, 1) := by decide +kernel
theorem dX6_set_49 : decode cX6_set 49 = .ok (.aload_n 0, 1) := by decide +kernel
theorem dX6_set_50 : decode cX6_set 50 = .ok (.getfield 10, 3) := by decide +kernel
theorem dX6_set_53 : decode cX6_set 53 = .ok (.getfield 149, 3) := by decide +kernel
theorem dX6_set_56 : decode cX6_set 56 = .ok (.iload_n 1, 1) := by decide +kernel
theorem dX6_set_57 : decode cX6_set 57 = .ok (.iaload, 1) := by decide +kernel
theorem dX6_set_58 : decode cX6_set 58 = .ok (.istore_n 3, 1) := by decide +kernel
theorem dX6_set_59 : decode cX6_set 59 = .ok (.iload_n 3, 1) := by decide +kernel
theorem dX6_set_60 : decode cX6_set 60 = .ok (.iload_n 2, 1) := by decide +kernel
theorem dX6_set_61 : decode cX6_set 61 = .ok (.if_icmp .ne 6, 3) := by decide +kernel
theorem dX6_set_64 : decode cX6_set 64 = .ok (.ldc 59, 2) := by decide +kernel
theorem dX6_set_66 : decode cX6_set 66 = .ok (.ireturn, 1) := by decide +kernel
theorem dX6_set_67 : decode cX6_set 67 = .ok (.aload_n 0, 1) := by decide +kernel
theorem dX6_set_68 : decode cX6_set 68 = .ok (.getfield 29, 3) := by decide +kernel
theorem dX6_set_71 : decode cX6_set 71 = .ok (.aload_n 0, 1) := by decide +kernel
theorem dX6_set_72 : decode cX6_set 72 = .ok (.getfield 10, 3) := by decide +kernel
theorem dX6_set_75 : decode cX6_set 75 = .ok (.invokevirtual 48, 3) := by decide +kernel
theorem dX6_set_78 : decode cX6_set 78 = .ok (.aload_n 0, 1) := by decide +kernel
theorem dX6_set_79 : decode cX6_set 79 = .ok (.getfield 10, 3) := by decide +kernel
theorem dX6_set_82 : decode cX6_set 82 = .ok (.getfield 149, 3) := by decide +kernel
theorem dX6_set_85 : decode cX6_set 85 = .ok (.iload_n 1, 1) := by decide +kernel
theorem dX6_set_86 : decode cX6_set 86 = .ok (.iload_n 2, 1) := by decide +kernel
theorem dX6_set_87 : decode cX6_set 87 = .ok (.iastore, 1) := by decide +kernel
theorem dX6_set_88 : decode cX6_set 88 = .ok (.iload_n 3, 1) := by decide +kernel
theorem dX6_set_89 : decode cX6_set 89 = .ok (.ireturn, 1) := by decide +kernel
theorem dX6_type_0 : decode cX6_type 0 = .ok (.aload_n 0, 1) := by decide +kernel
theorem dX6_type_1 : decode cX6_type 1 = .ok (.getfield 36, 3) := by decide +kernel
theorem dX6_type_4 : decode cX6_type 4 = .ok (.getfield 152, 3) := by decide +kernel
theorem dX6_type_7 : decode cX6_type 7 = .ok (.bipush 60, 2) := by decide +kernel
theorem dX6_type_9 : decode cX6_type 9 = .ok (.if_icmp .lt 6, 3) := by decide +kernel
theorem dX6_type_12 : decode cX6_type 12 = .ok (.ldc 123, 2) := by decide +kernel
theorem dX6_type_14 : decode cX6_type 14 = .ok (.ireturn, 1) := by decide +kernel
theorem dX6_type_15 : decode cX6_type 15 = .ok (.aload_n 0, 1) := by decide +kernel
theorem dX6_type_16 : decode cX6_type 16 = .ok (.getfield 36, 3) := by decide +kernel
theorem dX6_type_19 : decode cX6_type 19 = .ok (.iload_n 1, 1) := by decide +kernel
theorem dX6_type_20 : decode cX6_type 20 = .ok (.invokevirtual 155, 3) := by decide +kernel
theorem dX6_type_23 : decode cX6_type 23 = .ok (.aload_n 0, 1) := by decide +kernel
theorem dX6_type_24 : decode cX6_type 24 = .ok (.getfield 36, 3) := by decide +kernel
theorem dX6_type_27 : decode cX6_type 27 = .ok (.getfield 152, 3) := by decide +kernel
theorem dX6_type_30 : decode cX6_type 30 = .ok (.ireturn, 1) := by decide +kernel
theorem dX6_clearText_0 : decode cX6_clearText 0 = .ok (.aload_n 0, 1) := by decide +kernel
theorem dX6_clearText_1 : decode cX6_clearText 1 = .ok (.getfield 36, 3) := by decide +kernel
theorem dX6_clearText_4 : decode cX6_clearText 4 = .ok (.getfield 152, 3) := by decide +kernel
theorem dX6_clearText_7 : decode cX6_clearText 7 = .ok (.istore_n 1, 1) := by decide +kernel
theorem dX6_clearText_8 : decode cX6_clearText 8 = .ok (.aload_n 0, 1) := by decide +kernel
theorem dX6_clearText_9 : decode cX6_clearText 9 = .ok (.getfield 36, 3) := by decide +kernel
theorem dX6_clearText_12 : decode cX6_clearText 12 = .ok (.iconst 0, 1) := by decide +kernel
theorem dX6_clearText_13 : decode cX6_clearText 13 = .ok (.putfield 152, 3) := by decide +kernel
theorem dX6_clearText_16 : decode cX6_clearText 16 = .ok (.iload_n 1, 1) := by decide +kernel
theorem dX6_clearText_17 : decode cX6_clearText 17 = .ok (.ireturn, 1) := by decide +kernel
theorem dX6_undo_0 : decode cX6_undo 0 = .ok (.aload_n 0, 1) := by decide +kernel
theorem dX6_undo_1 : decode cX6_undo 1 = .ok (.getfield 29, 3) := by decide +kernel
theorem dX6_undo_4 : decode cX6_undo 4 = .ok (.getfield 158, 3) := by decide +kernel
theorem dX6_undo_7 : decode cX6_undo 7 = .ok (.iconst 1, 1) := by decide +kernel
theorem dX6_undo_8 : decode cX6_undo 8 = .ok (.if_icmp .ge 6, 3) := by decide +kernel
theorem dX6_undo_11 : decode cX6_undo 11 = .ok (.ldc 59, 2) := by decide +kernel
theorem dX6_undo_13 : decode cX6_undo 13 = .ok (.ireturn, 1) := by decide +kernel
theorem dX6_undo_14 : decode cX6_undo 14 = .ok (.aload_n 0, 1) := by decide +kernel
theorem dX6_undo_15 : decode cX6_undo 15 = .ok (.getfield 29, 3) := by decide +kernel
theorem dX6_undo_18 : decode cX6_undo 18 = .ok (.aload_n 0, 1) := by decide +kernel
theorem dX6_undo_19 : decode cX6_undo 19 = .ok (.getfield 10, 3) := by decide +kernel
theorem dX6_undo_22 : decode cX6_undo 22 = .ok (.invokevirtual 159, 3) := by decide +kernel
theorem dX6_undo_25 : decode cX6_undo 25 = .ok (.aload_n 0, 1) := by decide +kernel
theorem dX6_undo_26 : decode cX6_undo 26 = .ok (.getfield 29, 3) := by decide +kernel
theorem dX6_undo_29 : decode cX6_undo 29 = .ok (.getfield 158, 3) := by decide +kernel
theorem dX6_undo_32 : decode cX6_undo 32 = .ok (.ireturn, 1) := by decide +kernel
theorem dX6_booking_0 : decode cX6_booking 0 = .ok (.aload_n 0, 1) := by decide +kernel
theorem dX6_booking_1 : decode cX6_booking 1 = .ok (.getfield 10, 3) := by decide +kernel
theorem dX6_booking_4 : decode cX6_booking 4 = .ok (.getfield 83, 3) := by decide +kernel
theorem dX6_booking_7 : decode cX6_booking 7 = .ok (.astore_n 3, 1) := by decide +kernel
theorem dX6_booking_8 : decode cX6_booking 8 = .ok (.aload_n 3, 1) := by decide +kernel
theorem dX6_booking_9 : decode cX6_booking 9 = .ok (.iload_n 1, 1) := by decide +kernel
theorem dX6_booking_10 : decode cX6_booking 10 = .ok (.invokevirtual 87, 3) := by decide +kernel
theorem dX6_booking_13 : decode cX6_booking 13 = .ok (.ifCond .ne 6, 3) := by decide +kernel
theorem dX6_booking_16 : decode cX6_booking 16 = .ok (.ldc 93, 2) := by decide +kernel
theorem dX6_booking_18 : decode cX6_booking 18 = .ok (.ireturn, 1) := by decide +kernel
theorem dX6_booking_19 : decode cX6_booking 19 = .ok (.iload_n 2, 1) := by decide +kernel
theorem dX6_booking_20 : decode cX6_booking 20 = .ok (.tableswitch 139 0 8 #[52, 59, 66, 73, 80, 86, 93, 110, 117], 52) := by decide +kernel
theorem dX6_booking_72 : decode cX6_booking 72 = .ok (.aload_n 3, 1) := by decide +kernel
theorem dX6_booking_73 : decode cX6_booking 73 = .ok (.getfield 162, 3) := by decide +kernel
theorem dX6_booking_76 : decode cX6_booking 76 = .ok (.iload_n 1, 1) := by decide +kernel
theorem dX6_booking_77 : decode cX6_booking 77 = .ok (.iaload, 1) := by decide +kernel
theorem dX6_booking_78 : decode cX6_booking 78 = .ok (.ireturn, 1) := by decide +kernel
theorem dX6_booking_79 : decode cX6_booking 79 = .ok (.aload_n 3, 1) := by decide +kernel
theorem dX6_booking_80 : decode cX6_booking 80 = .ok (.getfield 165, 3) := by decide +kernel
theorem dX6_booking_83 : decode cX6_booking 83 = .ok (.iload_n 1, 1) := by decide +kernel
theorem dX6_booking_84 : decode cX6_booking 84 = .ok (.iaload, 1) := by decide +kernel
theorem dX6_booking_85 : decode cX6_booking 85 = .ok (.ireturn, 1) := by decide +kernel
theorem dX6_booking_86 : decode cX6_booking 86 = .ok (.aload_n 3, 1) := by decide +kernel
theorem dX6_booking_87 : decode cX6_booking 87 = .ok (.getfield 100, 3) := by decide +kernel
theorem dX6_booking_90 : decode cX6_booking 90 = .ok (.iload_n 1, 1) := by decide +kernel
theorem dX6_booking_91 : decode cX6_booking 91 = .ok (.iaload, 1) := by decide +kernel
theorem dX6_booking_92 : decode cX6_booking 92 = .ok (.ireturn, 1) := by decide +kernel
theorem dX6_booking_93 : decode cX6_booking 93 = .ok (.aload_n 3, 1) := by decide +kernel
theorem dX6_booking_94 : decode cX6_booking 94 = .ok (.getfield 166, 3) := by decide +kernel
theorem dX6_booking_97 : decode cX6_booking 97 = .ok (.iload_n 1, 1) := by decide +kernel
theorem dX6_booking_98 : decode cX6_booking 98 = .ok (.iaload, 1) := by decide +kernel
theorem dX6_booking_99 : decode cX6_booking 99 = .ok (.ireturn, 1) := by decide +kernel
theorem dX6_booking_100 : decode cX6_booking 100 = .ok (.aload_n 3, 1) := by decide +kernel
theorem dX6_booking_101 : decode cX6_booking 101 = .ok (.iload_n 1, 1) := by decide +kernel
theorem dX6_booking_102 : decode cX6_booking 102 = .ok (.invokevirtual 101, 3) := by decide +kernel
theorem dX6_booking_105 : decode cX6_booking 105 = .ok (.ireturn, 1) := by decide +kernel
theorem dX6_booking_106 : decode cX6_booking 106 = .ok (.aload_n 3, 1) := by decide +kernel
theorem dX6_booking_107 : decode cX6_booking 107 = .ok (.getfield 167, 3) := by decide +kernel
theorem dX6_booking_110 : decode cX6_booking 110 = .ok (.iload_n 1, 1) := by decide +kernel
theorem dX6_booking_111 : decode cX6_booking 111 = .ok (.iaload, 1) := by decide +kernel
theorem dX6_booking_112 : decode cX6_booking 112 = .ok (.ireturn, 1) := by decide +kernel
theorem dX6_booking_113 : decode cX6_booking 113 = .ok (.aload_n 0, 1) := by decide +kernel
theorem dX6_booking_114 : decode cX6_booking 114 = .ok (.getfield 10, 3) := by decide +kernel
theorem dX6_booking_117 : decode cX6_booking 117 = .ok (.iload_n 1, 1) := by decide +kernel
theorem dX6_booking_118 : decode cX6_booking 118 = .ok (.invokevirtual 170, 3) := by decide +kernel
theorem dX6_booking_121 : decode cX6_booking 121 = .ok (.ifCond .eq 7, 3) := by decide +kernel
theorem dX6_booking_124 : decode cX6_booking 124 = .ok (.iconst 1, 1) := by decide +kernel
theorem dX6_booking_125 : decode cX6_booking 125 = .ok (.goto 4, 3) := by decide +kernel
theorem dX6_booking_128 : decode cX6_booking 128 = .ok (.iconst 0, 1) := by decide +kernel
theorem dX6_booking_129 : decode cX6_booking 129 = .ok (.ireturn, 1) := by decide +kernel
theorem dX6_booking_130 : decode cX6_booking 130 = .ok (.aload_n 3, 1) := by decide +kernel
theorem dX6_booking_131 : decode cX6_booking 131 = .ok (.getfield 173, 3) := by decide +kernel
theorem dX6_booking_134 : decode cX6_booking 134 = .ok (.iload_n 1, 1) := by decide +kernel
theorem dX6_booking_135 : decode cX6_booking 135 = .ok (.iaload, 1) := by decide +kernel
theorem dX6_booking_136 : decode cX6_booking 136 = .ok (.ireturn, 1) := by decide +kernel
theorem dX6_booking_137 : decode cX6_booking 137 = .ok (.aload_n 3, 1) := by decide +kernel
theorem dX6_booking_138 : decode cX6_booking 138 = .ok (.getfield 176, 3) := by decide +kernel
theorem dX6_booking_141 : decode cX6_booking 141 = .ok (.iload_n 1, 1) := by decide +kernel
theorem dX6_booking_142 : decode cX6_booking 142 = .ok (.iaload, 1) := by decide +kernel
theorem dX6_booking_143 : decode cX6_booking 143 = .ok (.iconst (-1), 1) := by decide +kernel
theorem dX6_booking_144 : decode cX6_booking 144 = .ok (.if_icmp .ne 8, 3) := by decide +kernel
theorem dX6_booking_147 : decode cX6_booking 147 = .ok (.ldc 59, 2) := by decide +kernel
theorem dX6_booking_149 : decode cX6_booking 149 = .ok (.goto 9, 3) := by decide +kernel
theorem dX6_booking_152 : decode cX6_booking 152 = .ok (.aload_n 3, 1) := by decide +kernel
theorem dX6_booking_153 : decode cX6_booking 153 = .ok (.getfield 176, 3) := by decide +kernel
theorem dX6_booking_156 : decode cX6_booking 156 = .ok (.iload_n 1, 1) := by decide +kernel
theorem dX6_booking_157 : decode cX6_booking 157 = .ok (.iaload, 1) := by decide +kernel
theorem dX6_booking_158 : decode cX6_booking 158 = .ok (.ireturn, 1) := by decide +kernel
theorem dX6_booking_159 : decode cX6_booking 159 = .ok (.ldc 94, 2) := by decide +kernel
theorem dX6_booking_161 : decode cX6_booking 161 = .ok (.ireturn, 1) := by decide +kernel
theorem dX6_day_0 : decode cX6_day 0 = .ok (.iload_n 1, 1) := by decide +kernel
theorem dX6_day_1 : decode cX6_day 1 = .ok (.ifCond .lt 10, 3) := by decide +kernel
theorem dX6_day_4 : decode cX6_day 4 = .ok (.iload_n 1, 1) := by decide +kernel
theorem dX6_day_5 : decode cX6_day 5 = .ok (.sipush 999, 3) := by decide +kernel
theorem dX6_day_8 : decode cX6_day 8 = .ok (.if_icmp .le 6, 3) := by decide +kernel
theorem dX6_day_11 : decode cX6_day 11 = .ok (.ldc 94, 2) := by decide +kernel
theorem dX6_day_13 : decode cX6_day 13 = .ok (.ireturn, 1) := by decide +kernel
theorem dX6_day_14 : decode cX6_day 14 = .ok (.iload_n 2, 1) := by decide +kernel
theorem dX6_day_15 : decode cX6_day 15 = .ok (.tableswitch 100 0 4 #[33, 45, 67, 76, 88], 33) := by decide +kernel
theorem dX6_day_48 : decode cX6_day 48 = .ok (.aload_n 0, 1) := by decide +kernel
theorem dX6_day_49 : decode cX6_day 49 = .ok (.getfield 10, 3) := by decide +kernel
theorem dX6_day_52 : decode cX6_day 52 = .ok (.getfield 83, 3) := by decide +kernel
theorem dX6_day_55 : decode cX6_day 55 = .ok (.iload_n 1, 1) := by decide +kernel
theorem dX6_day_56 : decode cX6_day 56 = .ok (.invokevirtual 179, 3) := by decide +kernel
theorem dX6_day_59 : decode cX6_day 59 = .ok (.ireturn, 1) := by decide +kernel
theorem dX6_day_60 : decode cX6_day 60 = .ok (.aload_n 0, 1) := by decide +kernel
theorem dX6_day_61 : decode cX6_day 61 = .ok (.getfield 10, 3) := by decide +kernel
theorem dX6_day_64 : decode cX6_day 64 = .ok (.getfield 149, 3) := by decide +kernel
theorem dX6_day_67 : decode cX6_day 67 = .ok (.iconst 0, 1) := by decide +kernel
theorem dX6_day_68 : decode cX6_day 68 = .ok (.iaload, 1) := by decide +kernel
theorem dX6_day_69 : decode cX6_day 69 = .ok (.aload_n 0, 1) := by decide +kernel
theorem dX6_day_70 : decode cX6_day 70 = .ok (.getfield 10, 3) := by decide +kernel
theorem dX6_day_73 : decode cX6_day 73 = .ok (.getfield 83, 3) := by decide +kernel
theorem dX6_day_76 : decode cX6_day 76 = .ok (.iload_n 1, 1) := by decide +kernel
theorem dX6_day_77 : decode cX6_day 77 = .ok (.invokevirtual 179, 3) := by decide +kernel
theorem dX6_day_80 : decode cX6_day 80 = .ok (.isub, 1) := by decide +kernel
theorem dX6_day_81 : decode cX6_day 81 = .ok (.ireturn, 1) := by decide +kernel
theorem dX6_day_82 : decode cX6_day 82 = .ok (.aload_n 0, 1) := by decide +kernel
theorem dX6_day_83 : decode cX6_day 83 = .ok (.getfield 10, 3) := by decide +kernel
theorem dX6_day_86 : decode cX6_day 86 = .ok (.iload_n 1, 1) := by decide +kernel
theorem dX6_day_87 : decode cX6_day 87 = .ok (.invokevirtual 182, 3) := by decide +kernel
theorem dX6_day_90 : decode cX6_day 90 = .ok (.ireturn, 1) := by decide +kernel
theorem dX6_day_91 : decode cX6_day 91 = .ok (.aload_n 0, 1) := by decide +kernel
theorem dX6_day_92 : decode cX6_day 92 = .ok (.getfield 10, 3) := by decide +kernel
theorem dX6_day_95 : decode cX6_day 95 = .ok (.getfield 83, 3) := by decide +kernel
theorem dX6_day_98 : decode cX6_day 98 = .ok (.iload_n 1, 1) := by decide +kernel
theorem dX6_day_99 : decode cX6_day 99 = .ok (.invokevirtual 185, 3) := by decide +kernel
theorem dX6_day_102 : decode cX6_day 102 = .ok (.ireturn, 1) := by decide +kernel
theorem dX6_day_103 : decode cX6_day 103 = .ok (.aload_n 0, 1) := by decide +kernel
theorem dX6_day_104 : decode cX6_day 104 = .ok (.getfield 10, 3) := by decide +kernel
theorem dX6_day_107 : decode cX6_day 107 = .ok (.getfield 83, 3) := by decide +kernel
theorem dX6_day_110 : decode cX6_day 110 = .ok (.iload_n 1, 1) := by decide +kernel
theorem dX6_day_111 : decode cX6_day 111 = .ok (.invokevirtual 188, 3) := by decide +kernel
theorem dX6_day_114 : decode cX6_day 114 = .ok (.ireturn, 1) := by decide +kernel
theorem dX6_day_115 : decode cX6_day 115 = .ok (.ldc 94, 2) := by decide +kernel
theorem dX6_day_117 : decode cX6_day 117 = .ok (.ireturn, 1) := by decide +kernel
theorem dX6_count_0 : decode cX6_count 0 = .ok (.iload_n 1, 1) := by decide +kernel
theorem dX6_count_1 : decode cX6_count 1 = .ok (.bipush 14, 2) := by decide +kernel
theorem dX6_count_3 : decode cX6_count 3 = .ok (.if_icmp .lt 22, 3) := by decide +kernel
theorem dX6_count_6 : decode cX6_count 6 = .ok (.iload_n 1, 1) := by decide +kernel
theorem dX6_count_7 : decode cX6_count 7 = .ok (.bipush 23, 2) := by decide +kernel
theorem dX6_count_9 : decode cX6_count 9 = .ok (.if_icmp .ge 16, 3) := by decide +kernel
theorem dX6_count_12 : decode cX6_count 12 = .ok (.aload_n 0, 1) := by decide +kernel
theorem dX6_count_13 : decode cX6_count 13 = .ok (.getfield 10, 3) := by decide +kernel
theorem dX6_count_16 : decode cX6_count 16 = .ok (.getfield 134, 3) := by decide +kernel
theorem dX6_count_19 : decode cX6_count 19 = .ok (.iload_n 1, 1) := by decide +kernel
theorem dX6_count_20 : decode cX6_count 20 = .ok (.bipush 14, 2) := by decide +kernel
theorem dX6_count_22 : decode cX6_count 22 = .ok (.isub, 1) := by decide +kernel
theorem dX6_count_23 : decode cX6_count 23 = .ok (.iaload, 1) := by decide +kernel
theorem dX6_count_24 : decode cX6_count 24 = .ok (.ireturn, 1) := by decide +kernel
theorem dX6_count_25 : decode cX6_count 25 = .ok (.iload_n 1, 1) := by decide +kernel
theorem dX6_count_26 : decode cX6_count 26 = .ok (.bipush 25, 2) := by decide +kernel
theorem dX6_count_28 : decode cX6_count 28 = .ok (.if_icmp .lt 22, 3) := by decide +kernel
theorem dX6_count_31 : decode cX6_count 31 = .ok (.iload_n 1, 1) := by decide +kernel
theorem dX6_count_32 : decode cX6_count 32 = .ok (.bipush 35, 2) := by decide +kernel
theorem dX6_count_34 : decode cX6_count 34 = .ok (.if_icmp .ge 16, 3) := by decide +kernel
theorem dX6_count_37 : decode cX6_count 37 = .ok (.aload_n 0, 1) := by decide +kernel
theorem dX6_count_38 : decode cX6_count 38 = .ok (.getfield 10, 3) := by decide +kernel
theorem dX6_count_41 : decode cX6_count 41 = .ok (.getfield 149, 3) := by decide +kernel
theorem dX6_count_44 : decode cX6_count 44 = .ok (.iload_n 1, 1) := by decide +kernel
theorem dX6_count_45 : decode cX6_count 45 = .ok (.bipush 25, 2) := by decide +kernel
theorem dX6_count_47 : decode cX6_count 47 = .ok (.isub, 1) := by decide +kernel
theorem dX6_count_48 : decode cX6_count 48 = .ok (.iaload, 1) := by decide +kernel
theorem dX6_count_49 : decode cX6_count 49 = .ok (.ireturn, 1) := by decide +kernel
theorem dX6_count_50 : decode cX6_count 50 = .ok (.iload_n 1, 1) := by decide +kernel
theorem dX6_count_51 : decode cX6_count 51 = .ok (.tableswitch 304 0 24 #[113, 121, 132, 144, 156, 168, 180, 192, 203, 228, 239, 250, 261, 272, 304, 304, 304, 304, 304, 304, 304, 304, 304, 288, 296], 113) := by decide +kernel
theorem dX6_count_164 : decode cX6_count 164 = .ok (.aload_n 0, 1) := by decide +kernel
theorem dX6_count_165 : decode cX6_count 165 = .ok (.getfield 10, 3) := by decide +kernel
theorem dX6_count_168 : decode cX6_count 168 = .ok (.getfield 104, 3) := by decide +kernel
theorem dX6_count_171 : decode cX6_count 171 = .ok (.ireturn, 1) := by decide +kernel
theorem dX6_count_172 : decode cX6_count 172 = .ok (.aload_n 0, 1) := by decide +kernel
theorem dX6_count_173 : decode cX6_count 173 = .ok (.getfield 10, 3) := by decide +kernel
theorem dX6_count_176 : decode cX6_count 176 = .ok (.getfield 83, 3) := by decide +kernel
theorem dX6_count_179 : decode cX6_count 179 = .ok (.getfield 210, 3) := by decide +kernel
theorem dX6_count_182 : decode cX6_count 182 = .ok (.ireturn, 1) := by decide +kernel
theorem dX6_count_183 : decode cX6_count 183 = .ok (.aload_n 0, 1) := by decide +kernel
theorem dX6_count_184 : decode cX6_count 184 = .ok (.getfield 10, 3) := by decide +kernel
theorem dX6_count_187 : decode cX6_count 187 = .ok (.getfield 83, 3) := by decide +kernel
theorem dX6_count_190 : decode cX6_count 190 = .ok (.iconst 0, 1) := by decide +kernel
theorem dX6_count_191 : decode cX6_count 191 = .ok (.invokevirtual 213, 3) := by decide +kernel
theorem dX6_count_194 : decode cX6_count 194 = .ok (.ireturn, 1) := by decide +kernel
theorem dX6_count_195 : decode cX6_count 195 = .ok (.aload_n 0, 1) := by decide +kernel
theorem dX6_count_196 : decode cX6_count 196 = .ok (.getfield 10, 3) := by decide +kernel
theorem dX6_count_199 : decode cX6_count 199 = .ok (.getfield 83, 3) := by decide +kernel
theorem dX6_count_202 : decode cX6_count 202 = .ok (.iconst 1, 1) := by decide +kernel
theorem dX6_count_203 : decode cX6_count 203 = .ok (.invokevirtual 213, 3) := by decide +kernel
theorem dX6_count_206 : decode cX6_count 206 = .ok (.ireturn, 1) := by decide +kernel
theorem dX6_count_207 : decode cX6_count 207 = .ok (.aload_n 0, 1) := by decide +kernel
theorem dX6_count_208 : decode cX6_count 208 = .ok (.getfield 10, 3) := by decide +kernel
theorem dX6_count_211 : decode cX6_count 211 = .ok (.getfield 83, 3) := by decide +kernel
theorem dX6_count_214 : decode cX6_count 214 = .ok (.iconst 2, 1) := by decide +kernel
theorem dX6_count_215 : decode cX6_count 215 = .ok (.invokevirtual 213, 3) := by decide +kernel
theorem dX6_count_218 : decode cX6_count 218 = .ok (.ireturn, 1) := by decide +kernel
theorem dX6_count_219 : decode cX6_count 219 = .ok (.aload_n 0, 1) := by decide +kernel
theorem dX6_count_220 : decode cX6_count 220 = .ok (.getfield 10, 3) := by decide +kernel
theorem dX6_count_223 : decode cX6_count 223 = .ok (.getfield 83, 3) := by decide +kernel
theorem dX6_count_226 : decode cX6_count 226 = .ok (.iconst 3, 1) := by decide +kernel
theorem dX6_count_227 : decode cX6_count 227 = .ok (.invokevirtual 213, 3) := by decide +kernel
theorem dX6_count_230 : decode cX6_count 230 = .ok (.ireturn, 1) := by decide +kernel
theorem dX6_count_231 : decode cX6_count 231 = .ok (.aload_n 0, 1) := by decide +kernel
theorem dX6_count_232 : decode cX6_count 232 = .ok (.getfield 10, 3) := by decide +kernel
theorem dX6_count_235 : decode cX6_count 235 = .ok (.getfield 83, 3) := by decide +kernel
theorem dX6_count_238 : decode cX6_count 238 = .ok (.iconst 4, 1) := by decide +kernel
theorem dX6_count_239 : decode cX6_count 239 = .ok (.invokevirtual 213, 3) := by decide +kernel
theorem dX6_count_242 : decode cX6_count 242 = .ok (.ireturn, 1) := by decide +kernel
theorem dX6_count_243 : decode cX6_count 243 = .ok (.aload_n 0, 1) := by decide +kernel
theorem dX6_count_244 : decode cX6_count 244 = .ok (.getfield 10, 3) := by decide +kernel
theorem dX6_count_247 : decode cX6_count 247 = .ok (.getfield 83, 3) := by decide +kernel
theorem dX6_count_250 : decode cX6_count 250 = .ok (.invokevirtual 216, 3) := by decide +kernel
theorem dX6_count_253 : decode cX6_count 253 = .ok (.ireturn, 1) := by decide +kernel
theorem dX6_count_254 : decode cX6_count 254 = .ok (.iconst 0, 1) := by decide +kernel
theorem dX6_count_255 : decode cX6_count 255 = .ok (.aload_n 0, 1) := by decide +kernel
theorem dX6_count_256 : decode cX6_count 256 = .ok (.getfield 10, 3) := by decide +kernel
theorem dX6_count_259 : decode cX6_count 259 = .ok (.getfield 83, 3) := by decide +kernel
theorem dX6_count_262 : decode cX6_count 262 = .ok (.invokevirtual 216, 3) := by decide +kernel
theorem dX6_count_265 : decode cX6_count 265 = .ok (.aload_n 0, 1) := by decide +kernel
theorem dX6_count_266 : decode cX6_count 266 = .ok (.getfield 10, 3) := by decide +kernel
theorem dX6_count_269 : decode cX6_count 269 = .ok (.getfield 149, 3) := by decide +kernel
theorem dX6_count_272 : decode cX6_count 272 = .ok (.iconst 0, 1) := by decide +kernel
theorem dX6_count_273 : decode cX6_count 273 = .ok (.iaload, 1) := by decide +kernel
theorem dX6_count_274 : decode cX6_count 274 = .ok (.isub, 1) := by decide +kernel
theorem dX6_count_275 : decode cX6_count 275 = .ok (.invokestatic 219, 3) := by decide +kernel
theorem dX6_count_278 : decode cX6_count 278 = .ok (.ireturn, 1) := by decide +kernel
theorem dX6_count_279 : decode cX6_count 279 = .ok (.aload_n 0, 1) := by decide +kernel
theorem dX6_count_280 : decode cX6_count 280 = .ok (.getfield 10, 3) := by decide +kernel
theorem dX6_count_283 : decode cX6_count 283 = .ok (.getfield 191, 3) := by decide +kernel
theorem dX6_count_286 : decode cX6_count 286 = .ok (.invokevirtual 224, 3) := by decide +kernel
theorem dX6_count_289 : decode cX6_count 289 = .ok (.ireturn, 1) := by decide +kernel
theorem dX6_count_290 : decode cX6_count 290 = .ok (.aload_n 0, 1) := by decide +kernel
theorem dX6_count_291 : decode cX6_count 291 = .ok (.getfield 10, 3) := by decide +kernel
theorem dX6_count_294 : decode cX6_count 294 = .ok (.getfield 191, 3) := by decide +kernel
theorem dX6_count_297 : decode cX6_count 297 = .ok (.getfield 227, 3) := by decide +kernel
theorem dX6_count_300 : decode cX6_count 300 = .ok (.ireturn, 1) := by decide +kernel
theorem dX6_count_301 : decode cX6_count 301 = .ok (.aload_n 0, 1) := by decide +kernel
theorem dX6_count_302 : decode cX6_count 302 = .ok (.getfield 10, 3) := by decide +kernel
theorem dX6_count_305 : decode cX6_count 305 = .ok (.getfield 114, 3) := by decide +kernel
theorem dX6_count_308 : decode cX6_count 308 = .ok (.getfield 118, 3) := by decide +kernel
theorem dX6_count_311 : decode cX6_count 311 = .ok (.ireturn, 1) := by decide +kernel
theorem dX6_count_312 : decode cX6_count 312 = .ok (.aload_n 0, 1) := by decide +kernel
theorem dX6_count_313 : decode cX6_count 313 = .ok (.getfield 10, 3) := by decide +kernel
theorem dX6_count_316 : decode cX6_count 316 = .ok (.getfield 114, 3) := by decide +kernel
theorem dX6_count_319 : decode cX6_count 319 = .ok (.invokevirtual 230, 3) := by decide +kernel
theorem dX6_count_322 : decode cX6_count 322 = .ok (.ireturn, 1) := by decide +kernel
theorem dX6_count_323 : decode cX6_count 323 = .ok (.aload_n 0, 1) := by decide +kernel
theorem dX6_count_324 : decode cX6_count 324 = .ok (.getfield 10, 3) := by decide +kernel
theorem dX6_count_327 : decode cX6_count 327 = .ok (.getfield 131, 3) := by decide +kernel
theorem dX6_count_330 : decode cX6_count 330 = .ok (.ifCond .eq 7, 3) := by decide +kernel
theorem dX6_count_333 : decode cX6_count 333 = .ok (.iconst 1, 1) := by decide +kernel
theorem dX6_count_334 : decode cX6_count 334 = .ok (.goto 4, 3) := by decide +kernel
theorem dX6_count_337 : decode cX6_count 337 = .ok (.iconst 0, 1) := by decide +kernel
theorem dX6_count_338 : decode cX6_count 338 = .ok (.ireturn, 1) := by decide +kernel
theorem dX6_count_339 : decode cX6_count 339 = .ok (.aload_n 0, 1) := by decide +kernel
theorem dX6_count_340 : decode cX6_count 340 = .ok (.getfield 29, 3) := by decide +kernel
theorem dX6_count_343 : decode cX6_count 343 = .ok (.getfield 158, 3) := by decide +kernel
theorem dX6_count_346 : decode cX6_count 346 = .ok (.ireturn, 1) := by decide +kernel
theorem dX6_count_347 : decode cX6_count 347 = .ok (.aload_n 0, 1) := by decide +kernel
theorem dX6_count_348 : decode cX6_count 348 = .ok (.getfield 36, 3) := by decide +kernel
theorem dX6_count_351 : decode cX6_count 351 = .ok (.getfield 152, 3) := by decide +kernel
theorem dX6_count_354 : decode cX6_count 354 = .ok (.ireturn, 1) := by decide +kernel
theorem dX6_count_355 : decode cX6_count 355 = .ok (.ldc 94, 2) := by decide +kernel
theorem dX6_count_357 : decode cX6_count 357 = .ok (.ireturn, 1) := by decide +kernel
theorem dX6_coins_0 : decode cX6_coins 0 = .ok (.iload_n 1, 1) := by decide +kernel
theorem dX6_coins_1 : decode cX6_coins 1 = .ok (.tableswitch 66 0 3 #[31, 39, 50, 58], 31) := by decide +kernel
theorem dX6_coins_32 : decode cX6_coins 32 = .ok (.aload_n 0, 1) := by decide +kernel
theorem dX6_coins_33 : decode cX6_coins 33 = .ok (.getfield 10, 3) := by decide +kernel
theorem dX6_coins_36 : decode cX6_coins 36 = .ok (.getfield 233, 3) := by decide +kernel
theorem dX6_coins_39 : decode cX6_coins 39 = .ok (.ireturn, 1) := by decide +kernel
theorem dX6_coins_40 : decode cX6_coins 40 = .ok (.aload_n 0, 1) := by decide +kernel
theorem dX6_coins_41 : decode cX6_coins 41 = .ok (.getfield 10, 3) := by decide +kernel
theorem dX6_coins_44 : decode cX6_coins 44 = .ok (.getfield 83, 3) := by decide +kernel
theorem dX6_coins_47 : decode cX6_coins 47 = .ok (.invokevirtual 236, 3) := by decide +kernel
theorem dX6_coins_50 : decode cX6_coins 50 = .ok (.ireturn, 1) := by decide +kernel
theorem dX6_coins_51 : decode cX6_coins 51 = .ok (.aload_n 0, 1) := by decide +kernel
theorem dX6_coins_52 : decode cX6_coins 52 = .ok (.getfield 10, 3) := by decide +kernel
theorem dX6_coins_55 : decode cX6_coins 55 = .ok (.getfield 239, 3) := by decide +kernel
theorem dX6_coins_58 : decode cX6_coins 58 = .ok (.ireturn, 1) := by decide +kernel
theorem dX6_coins_59 : decode cX6_coins 59 = .ok (.aload_n 0, 1) := by decide +kernel
theorem dX6_coins_60 : decode cX6_coins 60 = .ok (.getfield 10, 3) := by decide +kernel
theorem dX6_coins_63 : decode cX6_coins 63 = .ok (.getfield 242, 3) := by decide +kernel
theorem dX6_coins_66 : decode cX6_coins 66 = .ok (.ireturn, 1) := by decide +kernel
theorem dX6_coins_67 : decode cX6_coins 67 = .ok (.ldc 94, 2) := by decide +kernel
theorem dX6_coins_69 : decode cX6_coins 69 = .ok (.ireturn, 1) := by decide +kernel
theorem dX6_use_0 : decode cX6_use 0 = .ok (.aload_n 0, 1) := by decide +kernel
theorem dX6_use_1 : decode cX6_use 1 = .ok (.getfield 10, 3) := by decide +kernel
theorem dX6_use_4 : decode cX6_use 4 = .ok (.getfield 149, 3) := by decide +kernel
theorem dX6_use_7 : decode cX6_use 7 = .ok (.iconst 0, 1) := by decide +kernel
theorem dX6_use_8 : decode cX6_use 8 = .ok (.iaload, 1) := by decide +kernel
theorem dX6_use_9 : decode cX6_use 9 = .ok (.istore_n 3, 1) := by decide +kernel
theorem dX6_use_10 : decode cX6_use 10 = .ok (.iload_n 1, 1) := by decide +kernel
theorem dX6_use_11 : decode cX6_use 11 = .ok (.ifCond .lt 20, 3) := by decide +kernel
theorem dX6_use_14 : decode cX6_use 14 = .ok (.iload_n 2, 1) := by decide +kernel
theorem dX6_use_15 : decode cX6_use 15 = .ok (.iload_n 1, 1) := by decide +kernel
theorem dX6_use_16 : decode cX6_use 16 = .ok (.if_icmp .lt 15, 3) := by decide +kernel
theorem dX6_use_19 : decode cX6_use 19 = .ok (.iload_n 2, 1) := by decide +kernel
theorem dX6_use_20 : decode cX6_use 20 = .ok (.sipush 999, 3) := by decide +kernel
theorem dX6_use_23 : decode cX6_use 23 = .ok (.if_icmp .gt 8, 3) := by decide +kernel
theorem dX6_use_26 : decode cX6_use 26 = .ok (.iload_n 3, 1) := by decide +kernel
theorem dX6_use_27 : decode cX6_use 27 = .ok (.iconst 1, 1) := by decide +kernel
theorem dX6_use_28 : decode cX6_use 28 = .ok (.if_icmp .ge 7, 3) := by decide +kernel
theorem dX6_use_31 : decode cX6_use 31 = .ok (.ldc2_w 245, 3) := by decide +kernel
theorem dX6_use_34 : decode cX6_use 34 = .ok (.dreturn, 1) := by decide +kernel
theorem dX6_use_35 : decode cX6_use 35 = .ok (.aload_n 0, 1) := by decide +kernel
theorem dX6_use_36 : decode cX6_use 36 = .ok (.getfield 10, 3) := by decide +kernel
theorem dX6_use_39 : decode cX6_use 39 = .ok (.getfield 83, 3) := by decide +kernel
theorem dX6_use_42 : decode cX6_use 42 = .ok (.iload_n 1, 1) := by decide +kernel
theorem dX6_use_43 : decode cX6_use 43 = .ok (.iload_n 2, 1) := by decide +kernel
theorem dX6_use_44 : decode cX6_use 44 = .ok (.invokevirtual 247, 3) := by decide +kernel
theorem dX6_use_47 : decode cX6_use 47 = .ok (.i2d, 1) := by decide +kernel
theorem dX6_use_48 : decode cX6_use 48 = .ok (.dstore 4, 2) := by decide +kernel
theorem dX6_use_50 : decode cX6_use 50 = .ok (.dload 4, 2) := by decide +kernel
theorem dX6_use_52 : decode cX6_use 52 = .ok (.iload_n 2, 1) := by decide +kernel
theorem dX6_use_53 : decode cX6_use 53 = .ok (.iload_n 1, 1) := by decide +kernel
theorem dX6_use_54 : decode cX6_use 54 = .ok (.isub, 1) := by decide +kernel
theorem dX6_use_55 : decode cX6_use 55 = .ok (.iconst 1, 1) := by decide +kernel
theorem dX6_use_56 : decode cX6_use 56 = .ok (.iadd, 1) := by decide +kernel
theorem dX6_use_57 : decode cX6_use 57 = .ok (.iload_n 3, 1) := by decide +kernel
theorem dX6_use_58 : decode cX6_use 58 = .ok (.imul, 1) := by decide +kernel
theorem dX6_use_59 : decode cX6_use 59 = .ok (.i2d, 1) := by decide +kernel
theorem dX6_use_60 : decode cX6_use 60 = .ok (.ddiv, 1) := by decide +kernel
theorem dX6_use_61 : decode cX6_use 61 = .ok (.dreturn, 1) := by decide +kernel
theorem dX6_refund_0 : decode cX6_refund 0 = .ok (.aload_n 0, 1) := by decide +kernel
theorem dX6_refund_1 : decode cX6_refund 1 = .ok (.iload_n 1, 1) := by decide +kernel
theorem dX6_refund_2 : decode cX6_refund 2 = .ok (.invokevirtual 76, 3) := by decide +kernel
theorem dX6_refund_5 : decode cX6_refund 5 = .ok (.istore_n 2, 1) := by decide +kernel
theorem dX6_refund_6 : decode cX6_refund 6 = .ok (.iload_n 2, 1) := by decide +kernel
theorem dX6_refund_7 : decode cX6_refund 7 = .ok (.ifCond .eq 7, 3) := by decide +kernel
theorem dX6_refund_10 : decode cX6_refund 10 = .ok (.iload_n 2, 1) := by decide +kernel
theorem dX6_refund_11 : decode cX6_refund 11 = .ok (.goto 11, 3) := by decide +kernel
theorem dX6_refund_14 : decode cX6_refund 14 = .ok (.aload_n 0, 1) := by decide +kernel
theorem dX6_refund_15 : decode cX6_refund 15 = .ok (.getfield 10, 3) := by decide +kernel
theorem dX6_refund_18 : decode cX6_refund 18 = .ok (.iload_n 1, 1) := by decide +kernel
theorem dX6_refund_19 : decode cX6_refund 19 = .ok (.invokevirtual 250, 3) := by decide +kernel
theorem dX6_refund_22 : decode cX6_refund 22 = .ok (.ireturn, 1) := by decide +kernel
theorem dX6_firstFree_0 : decode cX6_firstFree 0 = .ok (.iload_n 1, 1) := by decide +kernel
theorem dX6_firstFree_1 : decode cX6_firstFree 1 = .ok (.iload_n 2, 1) := by decide +kernel
theorem dX6_firstFree_2 : decode cX6_firstFree 2 = .ok (.invokestatic 253, 3) := by decide +kernel
theorem dX6_firstFree_5 : decode cX6_firstFree 5 = .ok (.ifCond .ne 6, 3) := by decide +kernel
theorem dX6_firstFree_8 : decode cX6_firstFree 8 = .ok (.ldc 94, 2) := by decide +kernel
theorem dX6_firstFree_10 : decode cX6_firstFree 10 = .ok (.ireturn, 1) := by decide +kernel
theorem dX6_firstFree_11 : decode cX6_firstFree 11 = .ok (.aload_n 0, 1) := by decide +kernel
theorem dX6_firstFree_12 : decode cX6_firstFree 12 = .ok (.getfield 10, 3) := by decide +kernel
theorem dX6_firstFree_15 : decode cX6_firstFree 15 = .ok (.getfield 83, 3) := by decide +kernel
theorem dX6_firstFree_18 : decode cX6_firstFree 18 = .ok (.aload_n 0, 1) := by decide +kernel
theorem dX6_firstFree_19 : decode cX6_firstFree 19 = .ok (.getfield 40, 3) := by decide +kernel
theorem dX6_firstFree_22 : decode cX6_firstFree 22 = .ok (.invokevirtual 256, 3) := by decide +kernel
theorem dX6_firstFree_25 : decode cX6_firstFree 25 = .ok (.iconst 0, 1) := by decide +kernel
theorem dX6_firstFree_26 : decode cX6_firstFree 26 = .ok (.istore_n 3, 1) := by decide +kernel
theorem dX6_firstFree_27 : decode cX6_firstFree 27 = .ok (.aload_n 0, 1) := by decide +kernel
theorem dX6_firstFree_28 : decode cX6_firstFree 28 = .ok (.getfield 10, 3) := by decide +kernel
theorem dX6_firstFree_31 : decode cX6_firstFree 31 = .ok (.getfield 104, 3) := by decide +kernel
theorem dX6_firstFree_34 : decode cX6_firstFree 34 = .ok (.istore 4, 2) := by decide +kernel
theorem dX6_firstFree_36 : decode cX6_firstFree 36 = .ok (.iload 4, 2) := by decide +kernel
theorem dX6_firstFree_38 : decode cX6_firstFree 38 = .ok (.sipush 899, 3) := by decide +kernel
theorem dX6_firstFree_41 : decode cX6_firstFree 41 = .ok (.iload_n 1, 1) := by decide +kernel
theorem dX6_firstFree_42 : decode cX6_firstFree 42 = .ok (.iadd, 1) := by decide +kernel
theorem dX6_firstFree_43 : decode cX6_firstFree 43 = .ok (.if_icmp .ge 72, 3) := by decide +kernel
theorem dX6_firstFree_46 : decode cX6_firstFree 46 = .ok (.iload 4, 2) := by decide +kernel
theorem dX6_firstFree_48 : decode cX6_firstFree 48 = .ok (.aload_n 0, 1) := by decide +kernel
theorem dX6_firstFree_49 : decode cX6_firstFree 49 = .ok (.getfield 40, 3) := by decide +kernel
theorem dX6_firstFree_52 : decode cX6_firstFree 52 = .ok (.arraylength, 1) := by decide +kernel
theorem dX6_firstFree_53 : decode cX6_firstFree 53 = .ok (.if_icmp .ge 62, 3) := by decide +kernel
theorem dX6_firstFree_56 : decode cX6_firstFree 56 = .ok (.aload_n 0, 1) := by decide +kernel
theorem dX6_firstFree_57 : decode cX6_firstFree 57 = .ok (.getfield 40, 3) := by decide +kernel
theorem dX6_firstFree_60 : decode cX6_firstFree 60 = .ok (.iload 4, 2) := by decide +kernel
theorem dX6_firstFree_62 : decode cX6_firstFree 62 = .ok (.iaload, 1) := by decide +kernel
theorem dX6_firstFree_63 : decode cX6_firstFree 63 = .ok (.iload_n 2, 1) := by decide +kernel
theorem dX6_firstFree_64 : decode cX6_firstFree 64 = .ok (.iadd, 1) := by decide +kernel
theorem dX6_firstFree_65 : decode cX6_firstFree 65 = .ok (.aload_n 0, 1) := by decide +kernel
theorem dX6_firstFree_66 : decode cX6_firstFree 66 = .ok (.getfield 10, 3) := by decide +kernel
theorem dX6_firstFree_69 : decode cX6_firstFree 69 = .ok (.getfield 149, 3) := by decide +kernel
theorem dX6_firstFree_72 : decode cX6_firstFree 72 = .ok (.iconst 0, 1) := by decide +kernel
theorem dX6_firstFree_73 : decode cX6_firstFree 73 = .ok (.iaload, 1) := by decide +kernel
theorem dX6_firstFree_74 : decode cX6_firstFree 74 = .ok (.if_icmp .gt 7, 3) := by decide +kernel
theorem dX6_firstFree_77 : decode cX6_firstFree 77 = .ok (.iconst 1, 1) := by decide +kernel
theorem dX6_firstFree_78 : decode cX6_firstFree 78 = .ok (.goto 4, 3) := by decide +kernel
theorem dX6_firstFree_81 : decode cX6_firstFree 81 = .ok (.iconst 0, 1) := by decide +kernel
theorem dX6_firstFree_82 : decode cX6_firstFree 82 = .ok (.istore 5, 2) := by decide +kernel
theorem dX6_firstFree_84 : decode cX6_firstFree 84 = .ok (.iload 5, 2) := by decide +kernel
theorem dX6_firstFree_86 : decode cX6_firstFree 86 = .ok (.ifCond .eq 9, 3) := by decide +kernel
theorem dX6_firstFree_89 : decode cX6_firstFree 89 = .ok (.iload_n 3, 1) := by decide +kernel
theorem dX6_firstFree_90 : decode cX6_firstFree 90 = .ok (.iconst 1, 1) := by decide +kernel
theorem dX6_firstFree_91 : decode cX6_firstFree 91 = .ok (.iadd, 1) := by decide +kernel
theorem dX6_firstFree_92 : decode cX6_firstFree 92 = .ok (.goto 4, 3) := by decide +kernel
theorem dX6_firstFree_95 : decode cX6_firstFree 95 = .ok (.iconst 0, 1) := by decide +kernel
theorem dX6_firstFree_96 : decode cX6_firstFree 96 = .ok (.istore_n 3, 1) := by decide +kernel
theorem dX6_firstFree_97 : decode cX6_firstFree 97 = .ok (.iload_n 3, 1) := by decide +kernel
theorem dX6_firstFree_98 : decode cX6_firstFree 98 = .ok (.iload_n 1, 1) := by decide +kernel
theorem dX6_firstFree_99 : decode cX6_firstFree 99 = .ok (.if_icmp .ne 10, 3) := by decide +kernel
theorem dX6_firstFree_102 : decode cX6_firstFree 102 = .ok (.iload 4, 2) := by decide +kernel
theorem dX6_firstFree_104 : decode cX6_firstFree 104 = .ok (.iload_n 1, 1) := by decide +kernel
theorem dX6_firstFree_105 : decode cX6_firstFree 105 = .ok (.isub, 1) := by decide +kernel
theorem dX6_firstFree_106 : decode cX6_firstFree 106 = .ok (.iconst 1, 1) := by decide +kernel
theorem dX6_firstFree_107 : decode cX6_firstFree 107 = .ok (.iadd, 1) := by decide +kernel
theorem dX6_firstFree_108 : decode cX6_firstFree 108 = .ok (.ireturn, 1) := by decide +kernel
theorem dX6_firstFree_109 : decode cX6_firstFree 109 = .ok (.iinc 4 1, 3) := by decide +kernel
theorem dX6_firstFree_112 : decode cX6_firstFree 112 = .ok (.goto (-76), 3) := by decide +kernel
theorem dX6_firstFree_115 : decode cX6_firstFree 115 = .ok (.ldc 59, 2) := by decide +kernel
theorem dX6_firstFree_117 : decode cX6_firstFree 117 = .ok (.ireturn, 1) := by decide +kernel
theorem dX6_hungryIn_0 : decode cX6_hungryIn 0 = .ok (.aload_n 0, 1) := by decide +kernel
theorem dX6_hungryIn_1 : decode cX6_hungryIn 1 = .ok (.getfield 16, 3) := by decide +kernel
theorem dX6_hungryIn_4 : decode cX6_hungryIn 4 = .ok (.aload_n 0, 1) := by decide +kernel
theorem dX6_hungryIn_5 : decode cX6_hungryIn 5 = .ok (.getfield 10, 3) := by decide +kernel
theorem dX6_hungryIn_8 : decode cX6_hungryIn 8 = .ok (.invokevirtual 60, 3) := by decide +kernel
theorem dX6_hungryIn_11 : decode cX6_hungryIn 11 = .ok (.iconst 1, 1) := by decide +kernel
theorem dX6_hungryIn_12 : decode cX6_hungryIn 12 = .ok (.istore_n 1, 1) := by decide +kernel
theorem dX6_hungryIn_13 : decode cX6_hungryIn 13 = .ok (.iload_n 1, 1) := by decide +kernel
theorem dX6_hungryIn_14 : decode cX6_hungryIn 14 = .ok (.bipush 60, 2) := by decide +kernel
theorem dX6_hungryIn_16 : decode cX6_hungryIn 16 = .ok (.if_icmp .gt 39, 3) := by decide +kernel
theorem dX6_hungryIn_19 : decode cX6_hungryIn 19 = .ok (.aload_n 0, 1) := by decide +kernel
theorem dX6_hungryIn_20 : decode cX6_hungryIn 20 = .ok (.getfield 16, 3) := by decide +kernel
theorem dX6_hungryIn_23 : decode cX6_hungryIn 23 = .ok (.invokevirtual 137, 3) := by decide +kernel
theorem dX6_hungryIn_26 : decode cX6_hungryIn 26 = .ok (.aload_n 0, 1) := by decide +kernel
theorem dX6_hungryIn_27 : decode cX6_hungryIn 27 = .ok (.getfield 16, 3) := by decide +kernel
theorem dX6_hungryIn_30 : decode cX6_hungryIn 30 = .ok (.getfield 134, 3) := by decide +kernel
theorem dX6_hungryIn_33 : decode cX6_hungryIn 33 = .ok (.iconst 5, 1) := by decide +kernel
theorem dX6_hungryIn_34 : decode cX6_hungryIn 34 = .ok (.iaload, 1) := by decide +kernel
theorem dX6_hungryIn_35 : decode cX6_hungryIn 35 = .ok (.aload_n 0, 1) := by decide +kernel
theorem dX6_hungryIn_36 : decode cX6_hungryIn 36 = .ok (.getfield 10, 3) := by decide +kernel
theorem dX6_hungryIn_39 : decode cX6_hungryIn 39 = .ok (.getfield 134, 3) := by decide +kernel
theorem dX6_hungryIn_42 : decode cX6_hungryIn 42 = .ok (.iconst 5, 1) := by decide +kernel
theorem dX6_hungryIn_43 : decode cX6_hungryIn 43 = .ok (.iaload, 1) := by decide +kernel
theorem dX6_hungryIn_44 : decode cX6_hungryIn 44 = .ok (.if_icmp .le 5, 3) := by decide +kernel
theorem dX6_hungryIn_47 : decode cX6_hungryIn 47 = .ok (.iload_n 1, 1) := by decide +kernel
theorem dX6_hungryIn_48 : decode cX6_hungryIn 48 = .ok (.ireturn, 1) := by decide +kernel
theorem dX6_hungryIn_49 : decode cX6_hungryIn 49 = .ok (.iinc 1 1, 3) := by decide +kernel
theorem dX6_hungryIn_52 : decode cX6_hungryIn 52 = .ok (.goto (-39), 3) := by decide +kernel
theorem dX6_hungryIn_55 : decode cX6_hungryIn 55 = .ok (.ldc 59, 2) := by decide +kernel
theorem dX6_hungryIn_57 : decode cX6_hungryIn 57 = .ok (.ireturn, 1) := by decide +kernel
theorem dX6_wanting_0 : decode cX6_wanting 0 = .ok (.iload_n 1, 1) := by decide +kernel
theorem dX6_wanting_1 : decode cX6_wanting 1 = .ok (.iconst 1, 1) := by decide +kernel
theorem dX6_wanting_2 : decode cX6_wanting 2 = .ok (.if_icmp .lt 9, 3) := by decide +kernel
theorem dX6_wanting_5 : decode cX6_wanting 5 = .ok (.iload_n 1, 1) := by decide +kernel
theorem dX6_wanting_6 : decode cX6_wanting 6 = .ok (.bipush 60, 2) := by decide +kernel
theorem dX6_wanting_8 : decode cX6_wanting 8 = .ok (.if_icmp .le 6, 3) := by decide +kernel
theorem dX6_wanting_11 : decode cX6_wanting 11 = .ok (.ldc 94, 2) := by decide +kernel
theorem dX6_wanting_13 : decode cX6_wanting 13 = .ok (.ireturn, 1) := by decide +kernel
theorem dX6_wanting_14 : decode cX6_wanting 14 = .ok (.aload_n 0, 1) := by decide +kernel
theorem dX6_wanting_15 : decode cX6_wanting 15 = .ok (.iload_n 1, 1) := by decide +kernel
theorem dX6_wanting_16 : decode cX6_wanting 16 = .ok (.invokevirtual 260, 3) := by decide +kernel
theorem dX6_wanting_19 : decode cX6_wanting 19 = .ok (.aload_n 0, 1) := by decide +kernel
theorem dX6_wanting_20 : decode cX6_wanting 20 = .ok (.getfield 16, 3) := by decide +kernel
theorem dX6_wanting_23 : decode cX6_wanting 23 = .ok (.getfield 134, 3) := by decide +kernel
theorem dX6_wanting_26 : decode cX6_wanting 26 = .ok (.iconst 5, 1) := by decide +kernel
theorem dX6_wanting_27 : decode cX6_wanting 27 = .ok (.iaload, 1) := by decide +kernel
theorem dX6_wanting_28 : decode cX6_wanting 28 = .ok (.aload_n 0, 1) := by decide +kernel
theorem dX6_wanting_29 : decode cX6_wanting 29 = .ok (.getfield 10, 3) := by decide +kernel
theorem dX6_wanting_32 : decode cX6_wanting 32 = .ok (.getfield 134, 3) := by decide +kernel
theorem dX6_wanting_35 : decode cX6_wanting 35 = .ok (.iconst 5, 1) := by decide +kernel
theorem dX6_wanting_36 : decode cX6_wanting 36 = .ok (.iaload, 1) := by decide +kernel
theorem dX6_wanting_37 : decode cX6_wanting 37 = .ok (.isub, 1) := by decide +kernel
theorem dX6_wanting_38 : decode cX6_wanting 38 = .ok (.ireturn, 1) := by decide +kernel
theorem dX6_goneIn_0 : decode cX6_goneIn 0 = .ok (.aload_n 0, 1) := by decide +kernel
theorem dX6_goneIn_1 : decode cX6_goneIn 1 = .ok (.getfield 10, 3) := by decide +kernel
theorem dX6_goneIn_4 : decode cX6_goneIn 4 = .ok (.getfield 83, 3) := by decide +kernel
theorem dX6_goneIn_7 : decode cX6_goneIn 7 = .ok (.iload_n 1, 1) := by decide +kernel
theorem dX6_goneIn_8 : decode cX6_goneIn 8 = .ok (.invokevirtual 87, 3) := by decide +kernel
theorem dX6_goneIn_11 : decode cX6_goneIn 11 = .ok (.ifCond .ne 6, 3) := by decide +kernel
theorem dX6_goneIn_14 : decode cX6_goneIn 14 = .ok (.ldc 93, 2) := by decide +kernel
theorem dX6_goneIn_16 : decode cX6_goneIn 16 = .ok (.ireturn, 1) := by decide +kernel
theorem dX6_goneIn_17 : decode cX6_goneIn 17 = .ok (.aload_n 0, 1) := by decide +kernel
theorem dX6_goneIn_18 : decode cX6_goneIn 18 = .ok (.getfield 10, 3) := by decide +kernel
theorem dX6_goneIn_21 : decode cX6_goneIn 21 = .ok (.getfield 83, 3) := by decide +kernel
theorem dX6_goneIn_24 : decode cX6_goneIn 24 = .ok (.iload_n 1, 1) := by decide +kernel
theorem dX6_goneIn_25 : decode cX6_goneIn 25 = .ok (.invokevirtual 264, 3) := by decide +kernel
theorem dX6_goneIn_28 : decode cX6_goneIn 28 = .ok (.ifCond .ne 6, 3) := by decide +kernel
theorem dX6_goneIn_31 : decode cX6_goneIn 31 = .ok (.ldc 99, 2) := by decide +kernel
theorem dX6_goneIn_33 : decode cX6_goneIn 33 = .ok (.ireturn, 1) := by decide +kernel
theorem dX6_goneIn_34 : decode cX6_goneIn 34 = .ok (.aload_n 0, 1) := by decide +kernel
theorem dX6_goneIn_35 : decode cX6_goneIn 35 = .ok (.getfield 16, 3) := by decide +kernel
theorem dX6_goneIn_38 : decode cX6_goneIn 38 = .ok (.aload_n 0, 1) := by decide +kernel
theorem dX6_goneIn_39 : decode cX6_goneIn 39 = .ok (.getfield 10, 3) := by decide +kernel
theorem dX6_goneIn_42 : decode cX6_goneIn 42 = .ok (.invokevirtual 60, 3) := by decide +kernel
theorem dX6_goneIn_45 : decode cX6_goneIn 45 = .ok (.iconst 1, 1) := by decide +kernel
theorem dX6_goneIn_46 : decode cX6_goneIn 46 = .ok (.istore_n 2, 1) := by decide +kernel
theorem dX6_goneIn_47 : decode cX6_goneIn 47 = .ok (.iload_n 2, 1) := by decide +kernel
theorem dX6_goneIn_48 : decode cX6_goneIn 48 = .ok (.bipush 60, 2) := by decide +kernel
theorem dX6_goneIn_50 : decode cX6_goneIn 50 = .ok (.if_icmp .gt 34, 3) := by decide +kernel
theorem dX6_goneIn_53 : decode cX6_goneIn 53 = .ok (.aload_n 0, 1) := by decide +kernel
theorem dX6_goneIn_54 : decode cX6_goneIn 54 = .ok (.getfield 16, 3) := by decide +kernel
theorem dX6_goneIn_57 : decode cX6_goneIn 57 = .ok (.invokevirtual 137, 3) := by decide +kernel
theorem dX6_goneIn_60 : decode cX6_goneIn 60 = .ok (.aload_n 0, 1) := by decide +kernel
theorem dX6_goneIn_61 : decode cX6_goneIn 61 = .ok (.getfield 16, 3) := by decide +kernel
theorem dX6_goneIn_64 : decode cX6_goneIn 64 = .ok (.getfield 83, 3) := by decide +kernel
theorem dX6_goneIn_67 : decode cX6_goneIn 67 = .ok (.getfield 162, 3) := by decide +kernel
theorem dX6_goneIn_70 : decode cX6_goneIn 70 = .ok (.iload_n 1, 1) := by decide +kernel
theorem dX6_goneIn_71 : decode cX6_goneIn 71 = .ok (.iaload, 1) := by decide +kernel
theorem dX6_goneIn_72 : decode cX6_goneIn 72 = .ok (.iconst 2, 1) := by decide +kernel
theorem dX6_goneIn_73 : decode cX6_goneIn 73 = .ok (.if_icmp .ne 5, 3) := by decide +kernel
theorem dX6_goneIn_76 : decode cX6_goneIn 76 = .ok (.iload_n 2, 1) := by decide +kernel
theorem dX6_goneIn_77 : decode cX6_goneIn 77 = .ok (.ireturn, 1) := by decide +kernel
theorem dX6_goneIn_78 : decode cX6_goneIn 78 = .ok (.iinc 2 1, 3) := by decide +kernel
theorem dX6_goneIn_81 : decode cX6_goneIn 81 = .ok (.goto (-34), 3) := by decide +kernel
theorem dX6_goneIn_84 : decode cX6_goneIn 84 = .ok (.ldc 59, 2) := by decide +kernel
theorem dX6_goneIn_86 : decode cX6_goneIn 86 = .ok (.ireturn, 1) := by decide +kernel
theorem dX6_turnedAway_0 : decode cX6_turnedAway 0 = .ok (.iload_n 1, 1) := by decide +kernel
theorem dX6_turnedAway_1 : decode cX6_turnedAway 1 = .ok (.iconst 1, 1) := by decide +kernel
theorem dX6_turnedAway_2 : decode cX6_turnedAway 2 = .ok (.if_icmp .lt 9, 3) := by decide +kernel
theorem dX6_turnedAway_5 : decode cX6_turnedAway 5 = .ok (.iload_n 1, 1) := by decide +kernel
theorem dX6_turnedAway_6 : decode cX6_turnedAway 6 = .ok (.bipush 60, 2) := by decide +kernel
theorem dX6_turnedAway_8 : decode cX6_turnedAway 8 = .ok (.if_icmp .le 6, 3) := by decide +kernel
theorem dX6_turnedAway_11 : decode cX6_turnedAway 11 = .ok (.ldc 94, 2) := by decide +kernel
theorem dX6_turnedAway_13 : decode cX6_turnedAway 13 = .ok (.ireturn, 1) := by decide +kernel
theorem dX6_turnedAway_14 : decode cX6_turnedAway 14 = .ok (.aload_n 0, 1) := by decide +kernel
theorem dX6_turnedAway_15 : decode cX6_turnedAway 15 = .ok (.iload_n 1, 1) := by decide +kernel
theorem dX6_turnedAway_16 : decode cX6_turnedAway 16 = .ok (.invokevirtual 260, 3) := by decide +kernel
theorem dX6_turnedAway_19 : decode cX6_turnedAway 19 = .ok (.aload_n 0, 1) := by decide +kernel
theorem dX6_turnedAway_20 : decode cX6_turnedAway 20 = .ok (.getfield 16, 3) := by decide +kernel
theorem dX6_turnedAway_23 : decode cX6_turnedAway 23 = .ok (.getfield 134, 3) := by decide +kernel
theorem dX6_turnedAway_26 : decode cX6_turnedAway 26 = .ok (.bipush 8, 2) := by decide +kernel
theorem dX6_turnedAway_28 : decode cX6_turnedAway 28 = .ok (.iaload, 1) := by decide +kernel
theorem dX6_turnedAway_29 : decode cX6_turnedAway 29 = .ok (.aload_n 0, 1) := by decide +kernel
theorem dX6_turnedAway_30 : decode cX6_turnedAway 30 = .ok (.getfield 10, 3) := by decide +kernel
theorem dX6_turnedAway_33 : decode cX6_turnedAway 33 = .ok (.getfield 134, 3) := by decide +kernel
theorem dX6_turnedAway_36 : decode cX6_turnedAway 36 = .ok (.bipush 8, 2) := by decide +kernel
theorem dX6_turnedAway_38 : decode cX6_turnedAway 38 = .ok (.iaload, 1) := by decide +kernel
theorem dX6_turnedAway_39 : decode cX6_turnedAway 39 = .ok (.isub, 1) := by decide +kernel
theorem dX6_turnedAway_40 : decode cX6_turnedAway 40 = .ok (.ireturn, 1) := by decide +kernel
theorem dX6_bestCall_0 : decode cX6_bestCall 0 = .ok (.aload_n 0, 1) := by decide +kernel
theorem dX6_bestCall_1 : decode cX6_bestCall 1 = .ok (.getfield 10, 3) := by decide +kernel
theorem dX6_bestCall_4 : decode cX6_bestCall 4 = .ok (.getfield 131, 3) := by decide +kernel
theorem dX6_bestCall_7 : decode cX6_bestCall 7 = .ok (.ifCond .eq 6, 3) := by decide +kernel
theorem dX6_bestCall_10 : decode cX6_bestCall 10 = .ok (.ldc 59, 2) := by decide +kernel
theorem dX6_bestCall_12 : decode cX6_bestCall 12 = .ok (.ireturn, 1) := by decide +kernel
theorem dX6_bestCall_13 : decode cX6_bestCall 13 = .ok (.aload_n 0, 1) := by decide +kernel
theorem dX6_bestCall_14 : decode cX6_bestCall 14 = .ok (.getfield 16, 3) := by decide +kernel
theorem dX6_bestCall_17 : decode cX6_bestCall 17 = .ok (.aload_n 0, 1) := by decide +kernel
theorem dX6_bestCall_18 : decode cX6_bestCall 18 = .ok (.getfield 10, 3) := by decide +kernel
theorem dX6_bestCall_21 : decode cX6_bestCall 21 = .ok (.invokevirtual 60, 3) := by decide +kernel
theorem dX6_bestCall_24 : decode cX6_bestCall 24 = .ok (.ldc 59, 2) := by decide +kernel
theorem dX6_bestCall_26 : decode cX6_bestCall 26 = .ok (.istore_n 1, 1) := by decide +kernel
theorem dX6_bestCall_27 : decode cX6_bestCall 27 = .ok (.iconst 0, 1) := by decide +kernel
theorem dX6_bestCall_28 : decode cX6_bestCall 28 = .ok (.istore_n 2, 1) := by decide +kernel
theorem dX6_bestCall_29 : decode cX6_bestCall 29 = .ok (.iconst 0, 1) := by decide +kernel
theorem dX6_bestCall_30 : decode cX6_bestCall 30 = .ok (.istore_n 3, 1) := by decide +kernel
theorem dX6_bestCall_31 : decode cX6_bestCall 31 = .ok (.iconst 0, 1) := by decide +kernel
theorem dX6_bestCall_32 : decode cX6_bestCall 32 = .ok (.istore 4, 2) := by decide +kernel
theorem dX6_bestCall_34 : decode cX6_bestCall 34 = .ok (.iload 4, 2) := by decide +kernel
theorem dX6_bestCall_36 : decode cX6_bestCall 36 = .ok (.bipush 60, 2) := by decide +kernel
theorem dX6_bestCall_38 : decode cX6_bestCall 38 = .ok (.if_icmp .ge 65, 3) := by decide +kernel
theorem dX6_bestCall_41 : decode cX6_bestCall 41 = .ok (.iload_n 3, 1) := by decide +kernel
theorem dX6_bestCall_42 : decode cX6_bestCall 42 = .ok (.bipush 30, 2) := by decide +kernel
theorem dX6_bestCall_44 : decode cX6_bestCall 44 = .ok (.if_icmp .gt 59, 3) := by decide +kernel
theorem dX6_bestCall_47 : decode cX6_bestCall 47 = .ok (.aload_n 0, 1) := by decide +kernel
theorem dX6_bestCall_48 : decode cX6_bestCall 48 = .ok (.getfield 16, 3) := by decide +kernel
theorem dX6_bestCall_51 : decode cX6_bestCall 51 = .ok (.invokevirtual 267, 3) := by decide +kernel
theorem dX6_bestCall_54 : decode cX6_bestCall 54 = .ok (.aload_n 0, 1) := by decide +kernel
theorem dX6_bestCall_55 : decode cX6_bestCall 55 = .ok (.getfield 16, 3) := by decide +kernel
theorem dX6_bestCall_58 : decode cX6_bestCall 58 = .ok (.invokevirtual 270, 3) := by decide +kernel
theorem dX6_bestCall_61 : decode cX6_bestCall 61 = .ok (.ifCond .ne 29, 3) := by decide +kernel
theorem dX6_bestCall_64 : decode cX6_bestCall 64 = .ok (.aload_n 0, 1) := by decide +kernel
theorem dX6_bestCall_65 : decode cX6_bestCall 65 = .ok (.getfield 16, 3) := by decide +kernel
theorem dX6_bestCall_68 : decode cX6_bestCall 68 = .ok (.iconst 0, 1) := by decide +kernel
theorem dX6_bestCall_69 : decode cX6_bestCall 69 = .ok (.invokevirtual 274, 3) := by decide +kernel
theorem dX6_bestCall_72 : decode cX6_bestCall 72 = .ok (.istore 5, 2) := by decide +kernel
theorem dX6_bestCall_74 : decode cX6_bestCall 74 = .ok (.iload 5, 2) := by decide +kernel
theorem dX6_bestCall_76 : decode cX6_bestCall 76 = .ok (.iload_n 2, 1) := by decide +kernel
theorem dX6_bestCall_77 : decode cX6_bestCall 77 = .ok (.if_icmp .le 8, 3) := by decide +kernel
theorem dX6_bestCall_80 : decode cX6_bestCall 80 = .ok (.iload 5, 2) := by decide +kernel
theorem dX6_bestCall_82 : decode cX6_bestCall 82 = .ok (.istore_n 2, 1) := by decide +kernel
theorem dX6_bestCall_83 : decode cX6_bestCall 83 = .ok (.iload_n 3, 1) := by decide +kernel
theorem dX6_bestCall_84 : decode cX6_bestCall 84 = .ok (.istore_n 1, 1) := by decide +kernel
theorem dX6_bestCall_85 : decode cX6_bestCall 85 = .ok (.iload 4, 2) := by decide +kernel
theorem dX6_bestCall_87 : decode cX6_bestCall 87 = .ok (.iconst 1, 1) := by decide +kernel
theorem dX6_bestCall_88 : decode cX6_bestCall 88 = .ok (.iadd, 1) := by decide +kernel
theorem dX6_bestCall_89 : decode cX6_bestCall 89 = .ok (.istore_n 3, 1) := by decide +kernel
theorem dX6_bestCall_90 : decode cX6_bestCall 90 = .ok (.aload_n 0, 1) := by decide +kernel
theorem dX6_bestCall_91 : decode cX6_bestCall 91 = .ok (.getfield 16, 3) := by decide +kernel
theorem dX6_bestCall_94 : decode cX6_bestCall 94 = .ok (.invokevirtual 278, 3) := by decide +kernel
theorem dX6_bestCall_97 : decode cX6_bestCall 97 = .ok (.iinc 4 1, 3) := by decide +kernel
theorem dX6_bestCall_100 : decode cX6_bestCall 100 = .ok (.goto (-66), 3) := by decide +kernel
theorem dX6_bestCall_103 : decode cX6_bestCall 103 = .ok (.iload_n 1, 1) := by decide +kernel
theorem dX6_bestCall_104 : decode cX6_bestCall 104 = .ok (.ireturn, 1) := by decide +kernel
theorem dX6_fullest_0 : decode cX6_fullest 0 = .ok (.aload_n 0, 1) := by decide +kernel
theorem dX6_fullest_1 : decode cX6_fullest 1 = .ok (.getfield 10, 3) := by decide +kernel
theorem dX6_fullest_4 : decode cX6_fullest 4 = .ok (.getfield 83, 3) := by decide +kernel
theorem dX6_fullest_7 : decode cX6_fullest 7 = .ok (.aload_n 0, 1) := by decide +kernel
theorem dX6_fullest_8 : decode cX6_fullest 8 = .ok (.getfield 40, 3) := by decide +kernel
theorem dX6_fullest_11 : decode cX6_fullest 11 = .ok (.invokevirtual 256, 3) := by decide +kernel
theorem dX6_fullest_14 : decode cX6_fullest 14 = .ok (.ldc 59, 2) := by decide +kernel
theorem dX6_fullest_16 : decode cX6_fullest 16 = .ok (.istore_n 1, 1) := by decide +kernel
theorem dX6_fullest_17 : decode cX6_fullest 17 = .ok (.iconst 0, 1) := by decide +kernel
theorem dX6_fullest_18 : decode cX6_fullest 18 = .ok (.istore_n 2, 1) := by decide +kernel
theorem dX6_fullest_19 : decode cX6_fullest 19 = .ok (.aload_n 0, 1) := by decide +kernel
theorem dX6_fullest_20 : decode cX6_fullest 20 = .ok (.getfield 10, 3) := by decide +kernel
theorem dX6_fullest_23 : decode cX6_fullest 23 = .ok (.getfield 104, 3) := by decide +kernel
theorem dX6_fullest_26 : decode cX6_fullest 26 = .ok (.istore_n 3, 1) := by decide +kernel
theorem dX6_fullest_27 : decode cX6_fullest 27 = .ok (.iload_n 3, 1) := by decide +kernel
theorem dX6_fullest_28 : decode cX6_fullest 28 = .ok (.aload_n 0, 1) := by decide +kernel
theorem dX6_fullest_29 : decode cX6_fullest 29 = .ok (.getfield 40, 3) := by decide +kernel
theorem dX6_fullest_32 : decode cX6_fullest 32 = .ok (.arraylength, 1) := by decide +kernel
theorem dX6_fullest_33 : decode cX6_fullest 33 = .ok (.if_icmp .ge 28, 3) := by decide +kernel
theorem dX6_fullest_36 : decode cX6_fullest 36 = .ok (.aload_n 0, 1) := by decide +kernel
theorem dX6_fullest_37 : decode cX6_fullest 37 = .ok (.getfield 40, 3) := by decide +kernel
theorem dX6_fullest_40 : decode cX6_fullest 40 = .ok (.iload_n 3, 1) := by decide +kernel
theorem dX6_fullest_41 : decode cX6_fullest 41 = .ok (.iaload, 1) := by decide +kernel
theorem dX6_fullest_42 : decode cX6_fullest 42 = .ok (.iload_n 2, 1) := by decide +kernel
theorem dX6_fullest_43 : decode cX6_fullest 43 = .ok (.if_icmp .le 12, 3) := by decide +kernel
theorem dX6_fullest_46 : decode cX6_fullest 46 = .ok (.aload_n 0, 1) := by decide +kernel
theorem dX6_fullest_47 : decode cX6_fullest 47 = .ok (.getfield 40, 3) := by decide +kernel
theorem dX6_fullest_50 : decode cX6_fullest 50 = .ok (.iload_n 3, 1) := by decide +kernel
theorem dX6_fullest_51 : decode cX6_fullest 51 = .ok (.iaload, 1) := by decide +kernel
theorem dX6_fullest_52 : decode cX6_fullest 52 = .ok (.istore_n 2, 1) := by decide +kernel
theorem dX6_fullest_53 : decode cX6_fullest 53 = .ok (.iload_n 3, 1) := by decide +kernel
theorem dX6_fullest_54 : decode cX6_fullest 54 = .ok (.istore_n 1, 1) := by decide +kernel
theorem dX6_fullest_55 : decode cX6_fullest 55 = .ok (.iinc 3 1, 3) := by decide +kernel
theorem dX6_fullest_58 : decode cX6_fullest 58 = .ok (.goto (-31), 3) := by decide +kernel
theorem dX6_fullest_61 : decode cX6_fullest 61 = .ok (.iload_n 1, 1) := by decide +kernel
theorem dX6_fullest_62 : decode cX6_fullest 62 = .ok (.ireturn, 1) := by decide +kernel
theorem dX6_errorUnlessBooked_0 : decode cX6_errorUnlessBooked 0 = .ok (.aload_n 0, 1) := by decide +kernel
theorem dX6_errorUnlessBooked_1 : decode cX6_errorUnlessBooked 1 = .ok (.getfield 10, 3) := by decide +kernel
theorem dX6_errorUnlessBooked_4 : decode cX6_errorUnlessBooked 4 = .ok (.getfield 83, 3) := by decide +kernel
theorem dX6_errorUnlessBooked_7 : decode cX6_errorUnlessBooked 7 = .ok (.iload_n 1, 1) := by decide +kernel
theorem dX6_errorUnlessBooked_8 : decode cX6_errorUnlessBooked 8 = .ok (.invokevirtual 87, 3) := by decide +kernel
theorem dX6_errorUnlessBooked_11 : decode cX6_errorUnlessBooked 11 = .ok (.ifCond .ne 6, 3) := by decide +kernel
theorem dX6_errorUnlessBooked_14 : decode cX6_errorUnlessBooked 14 = .ok (.ldc 93, 2) := by decide +kernel
theorem dX6_errorUnlessBooked_16 : decode cX6_errorUnlessBooked 16 = .ok (.ireturn, 1) := by decide +kernel
theorem dX6_errorUnlessBooked_17 : decode cX6_errorUnlessBooked 17 = .ok (.aload_n 0, 1) := by decide +kernel
theorem dX6_errorUnlessBooked_18 : decode cX6_errorUnlessBooked 18 = .ok (.getfield 10, 3) := by decide +kernel
theorem dX6_errorUnlessBooked_21 : decode cX6_errorUnlessBooked 21 = .ok (.getfield 83, 3) := by decide +kernel
theorem dX6_errorUnlessBooked_24 : decode cX6_errorUnlessBooked 24 = .ok (.getfield 162, 3) := by decide +kernel
theorem dX6_errorUnlessBooked_27 : decode cX6_errorUnlessBooked 27 = .ok (.iload_n 1, 1) := by decide +kernel
theorem dX6_errorUnlessBooked_28 : decode cX6_errorUnlessBooked 28 = .ok (.iaload, 1) := by decide +kernel
theorem dX6_errorUnlessBooked_29 : decode cX6_errorUnlessBooked 29 = .ok (.ifCond .ne 7, 3) := by decide +kernel
theorem dX6_errorUnlessBooked_32 : decode cX6_errorUnlessBooked 32 = .ok (.iconst 0, 1) := by decide +kernel
theorem dX6_errorUnlessBooked_33 : decode cX6_errorUnlessBooked 33 = .ok (.goto 5, 3) := by decide +kernel
theorem dX6_errorUnlessBooked_36 : decode cX6_errorUnlessBooked 36 = .ok (.ldc 99, 2) := by decide +kernel
theorem dX6_errorUnlessBooked_38 : decode cX6_errorUnlessBooked 38 = .ok (.ireturn, 1) := by decide +kernel
theorem dX6_mostBedsTaken_0 : decode cX6_mostBedsTaken 0 = .ok (.aload_n 0, 1) := by decide +kernel
theorem dX6_mostBedsTaken_1 : decode cX6_mostBedsTaken 1 = .ok (.invokevirtual 281, 3) := by decide +kernel
theorem dX6_mostBedsTaken_4 : decode cX6_mostBedsTaken 4 = .ok (.istore_n 1, 1) := by decide +kernel
theorem dX6_mostBedsTaken_5 : decode cX6_mostBedsTaken 5 = .ok (.iload_n 1, 1) := by decide +kernel
theorem dX6_mostBedsTaken_6 : decode cX6_mostBedsTaken 6 = .ok (.ldc 59, 2) := by decide +kernel
theorem dX6_mostBedsTaken_8 : decode cX6_mostBedsTaken 8 = .ok (.if_icmp .ne 7, 3) := by decide +kernel
theorem dX6_mostBedsTaken_11 : decode cX6_mostBedsTaken 11 = .ok (.iconst 0, 1) := by decide +kernel
theorem dX6_mostBedsTaken_12 : decode cX6_mostBedsTaken 12 = .ok (.goto 14, 3) := by decide +kernel
theorem dX6_mostBedsTaken_15 : decode cX6_mostBedsTaken 15 = .ok (.aload_n 0, 1) := by decide +kernel
theorem dX6_mostBedsTaken_16 : decode cX6_mostBedsTaken 16 = .ok (.getfield 10, 3) := by decide +kernel
theorem dX6_mostBedsTaken_19 : decode cX6_mostBedsTaken 19 = .ok (.getfield 83, 3) := by decide +kernel
theorem dX6_mostBedsTaken_22 : decode cX6_mostBedsTaken 22 = .ok (.iload_n 1, 1) := by decide +kernel
theorem dX6_mostBedsTaken_23 : decode cX6_mostBedsTaken 23 = .ok (.invokevirtual 179, 3) := by decide +kernel
theorem dX6_mostBedsTaken_26 : decode cX6_mostBedsTaken 26 = .ok (.ireturn, 1) := by decide +kernel
theorem dX6_passInTrial_0 : decode cX6_passInTrial 0 = .ok (.aload_n 0, 1) := by decide +kernel
theorem dX6_passInTrial_1 : decode cX6_passInTrial 1 = .ok (.getfield 16, 3) := by decide +kernel
theorem dX6_passInTrial_4 : decode cX6_passInTrial 4 = .ok (.aload_n 0, 1) := by decide +kernel
theorem dX6_passInTrial_5 : decode cX6_passInTrial 5 = .ok (.getfield 10, 3) := by decide +kernel
theorem dX6_passInTrial_8 : decode cX6_passInTrial 8 = .ok (.invokevirtual 60, 3) := by decide +kernel
theorem dX6_passInTrial_11 : decode cX6_passInTrial 11 = .ok (.iconst 0, 1) := by decide +kernel
theorem dX6_passInTrial_12 : decode cX6_passInTrial 12 = .ok (.istore_n 2, 1) := by decide +kernel
theorem dX6_passInTrial_13 : decode cX6_passInTrial 13 = .ok (.iload_n 2, 1) := by decide +kernel
theorem dX6_passInTrial_14 : decode cX6_passInTrial 14 = .ok (.iload_n 1, 1) := by decide +kernel
theorem dX6_passInTrial_15 : decode cX6_passInTrial 15 = .ok (.if_icmp .ge 16, 3) := by decide +kernel
theorem dX6_passInTrial_18 : decode cX6_passInTrial 18 = .ok (.aload_n 0, 1) := by decide +kernel
theorem dX6_passInTrial_19 : decode cX6_passInTrial 19 = .ok (.getfield 16, 3) := by decide +kernel
theorem dX6_passInTrial_22 : decode cX6_passInTrial 22 = .ok (.invokevirtual 137, 3) := by decide +kernel
theorem dX6_passInTrial_25 : decode cX6_passInTrial 25 = .ok (.iinc 2 1, 3) := by decide +kernel
theorem dX6_passInTrial_28 : decode cX6_passInTrial 28 = .ok (.goto (-15), 3) := by decide +kernel
theorem dX6_passInTrial_31 : decode cX6_passInTrial 31 = .ok (.return_, 1) := by decide +kernel
theorem dX6_areNightsAndPersons_0 : decode cX6_areNightsAndPersons 0 = .ok (.iload_n 0, 1) := by decide +kernel
theorem dX6_areNightsAndPersons_1 : decode cX6_areNightsAndPersons 1 = .ok (.iconst 1, 1) := by decide +kernel
theorem dX6_areNightsAndPersons_2 : decode cX6_areNightsAndPersons 2 = .ok (.if_icmp .lt 24, 3) := by decide +kernel
theorem dX6_areNightsAndPersons_5 : decode cX6_areNightsAndPersons 5 = .ok (.iload_n 0, 1) := by decide +kernel
theorem dX6_areNightsAndPersons_6 : decode cX6_areNightsAndPersons 6 = .ok (.bipush 9, 2) := by decide +kernel
theorem dX6_areNightsAndPersons_8 : decode cX6_areNightsAndPersons 8 = .ok (.if_icmp .gt 18, 3) := by decide +kernel
theorem dX6_areNightsAndPersons_11 : decode cX6_areNightsAndPersons 11 = .ok (.iload_n 1, 1) := by decide +kernel
theorem dX6_areNightsAndPersons_12 : decode cX6_areNightsAndPersons 12 = .ok (.iconst 1, 1) := by decide +kernel
theorem dX6_areNightsAndPersons_13 : decode cX6_areNightsAndPersons 13 = .ok (.if_icmp .lt 13, 3) := by decide +kernel
theorem dX6_areNightsAndPersons_16 : decode cX6_areNightsAndPersons 16 = .ok (.iload_n 1, 1) := by decide +kernel
theorem dX6_areNightsAndPersons_17 : decode cX6_areNightsAndPersons 17 = .ok (.bipush 9, 2) := by decide +kernel
theorem dX6_areNightsAndPersons_19 : decode cX6_areNightsAndPersons 19 = .ok (.if_icmp .gt 7, 3) := by decide +kernel
theorem dX6_areNightsAndPersons_22 : decode cX6_areNightsAndPersons 22 = .ok (.iconst 1, 1) := by decide +kernel
theorem dX6_areNightsAndPersons_23 : decode cX6_areNightsAndPersons 23 = .ok (.goto 4, 3) := by decide +kernel
theorem dX6_areNightsAndPersons_26 : decode cX6_areNightsAndPersons 26 = .ok (.iconst 0, 1) := by decide +kernel
theorem dX6_areNightsAndPersons_27 : decode cX6_areNightsAndPersons 27 = .ok (.ireturn, 1) := by decide +kernel
theorem dL_cell_0 : decode cL_cell 0 = .ok (.iload_n 1, 1) := by decide +kernel
theorem dL_cell_1 : decode cL_cell 1 = .ok (.aload_n 0, 1) := by decide +kernel
theorem dL_cell_2 : decode cL_cell 2 = .ok (.arraylength, 1) := by decide +kernel
theorem dL_cell_3 : decode cL_cell 3 = .ok (.if_icmp .ge 9, 3) := by decide +kernel
theorem dL_cell_6 : decode cL_cell 6 = .ok (.aload_n 0, 1) := by decide +kernel
theorem dL_cell_7 : decode cL_cell 7 = .ok (.iload_n 1, 1) := by decide +kernel
theorem dL_cell_8 : decode cL_cell 8 = .ok (.iaload, 1) := by decide +kernel
theorem dL_cell_9 : decode cL_cell 9 = .ok (.goto 11, 3) := by decide +kernel
theorem dL_cell_12 : decode cL_cell 12 = .ok (.ldc 7, 2) := by decide +kernel
theorem dL_cell_14 : decode cL_cell 14 = .ok (.iload_n 1, 1) := by decide +kernel
theorem dL_cell_15 : decode cL_cell 15 = .ok (.imul, 1) := by decide +kernel
theorem dL_cell_16 : decode cL_cell 16 = .ok (.sipush 1913, 3) := by decide +kernel
theorem dL_cell_19 : decode cL_cell 19 = .ok (.iadd, 1) := by decide +kernel
theorem dL_cell_20 : decode cL_cell 20 = .ok (.ireturn, 1) := by decide +kernel
theorem dL_low_0 : decode cL_low 0 = .ok (.iload_n 0, 1) := by decide +kernel
theorem dL_low_1 : decode cL_low 1 = .ok (.ldc 8, 2) := by decide +kernel
theorem dL_low_3 : decode cL_low 3 = .ok (.iand, 1) := by decide +kernel
theorem dL_low_4 : decode cL_low 4 = .ok (.iload_n 1, 1) := by decide +kernel
theorem dL_low_5 : decode cL_low 5 = .ok (.irem, 1) := by decide +kernel
theorem dL_low_6 : decode cL_low 6 = .ok (.ireturn, 1) := by decide +kernel
theorem dL_tell_0 : decode cL_tell 0 = .ok (.bipush 64, 2) := by decide +kernel
theorem dL_tell_2 : decode cL_tell 2 = .ok (.newarray .int, 2) := by decide +kernel
theorem dL_tell_4 : decode cL_tell 4 = .ok (.astore_n 1, 1) := by decide +kernel
theorem dL_tell_5 : decode cL_tell 5 = .ok (.iconst 0, 1) := by decide +kernel
theorem dL_tell_6 : decode cL_tell 6 = .ok (.istore_n 2, 1) := by decide +kernel
theorem dL_tell_7 : decode cL_tell 7 = .ok (.iload_n 2, 1) := by decide +kernel
theorem dL_tell_8 : decode cL_tell 8 = .ok (.bipush 23, 2) := by decide +kernel
theorem dL_tell_10 : decode cL_tell 10 = .ok (.if_icmp .ge 17, 3) := by decide +kernel
theorem dL_tell_13 : decode cL_tell 13 = .ok (.aload_n 1, 1) := by decide +kernel
theorem dL_tell_14 : decode cL_tell 14 = .ok (.iload_n 2, 1) := by decide +kernel
theorem dL_tell_15 : decode cL_tell 15 = .ok (.aload_n 0, 1) := by decide +kernel
theorem dL_tell_16 : decode cL_tell 16 = .ok (.iload_n 2, 1) := by decide +kernel
theorem dL_tell_17 : decode cL_tell 17 = .ok (.invokevirtual 9, 3) := by decide +kernel
theorem dL_tell_20 : decode cL_tell 20 = .ok (.iastore, 1) := by decide +kernel
theorem dL_tell_21 : decode cL_tell 21 = .ok (.iinc 2 1, 3) := by decide +kernel
theorem dL_tell_24 : decode cL_tell 24 = .ok (.goto (-17), 3) := by decide +kernel
theorem dL_tell_27 : decode cL_tell 27 = .ok (.iconst 0, 1) := by decide +kernel
theorem dL_tell_28 : decode cL_tell 28 = .ok (.istore_n 2, 1) := by decide +kernel
theorem dL_tell_29 : decode cL_tell 29 = .ok (.iload_n 2, 1) := by decide +kernel
theorem dL_tell_30 : decode cL_tell 30 = .ok (.bipush 10, 2) := by decide +kernel
theorem dL_tell_32 : decode cL_tell 32 = .ok (.if_icmp .ge 23, 3) := by decide +kernel
theorem dL_tell_35 : decode cL_tell 35 = .ok (.aload_n 1, 1) := by decide +kernel
theorem dL_tell_36 : decode cL_tell 36 = .ok (.bipush 23, 2) := by decide +kernel
theorem dL_tell_38 : decode cL_tell 38 = .ok (.iload_n 2, 1) := by decide +kernel
theorem dL_tell_39 : decode cL_tell 39 = .ok (.iadd, 1) := by decide +kernel
theorem dL_tell_40 : decode cL_tell 40 = .ok (.aload_n 0, 1) := by decide +kernel
theorem dL_tell_41 : decode cL_tell 41 = .ok (.bipush 25, 2) := by decide +kernel
theorem dL_tell_43 : decode cL_tell 43 = .ok (.iload_n 2, 1) := by decide +kernel
theorem dL_tell_44 : decode cL_tell 44 = .ok (.iadd, 1) := by decide +kernel
theorem dL_tell_45 : decode cL_tell 45 = .ok (.invokevirtual 9, 3) := by decide +kernel
theorem dL_tell_48 : decode cL_tell 48 = .ok (.iastore, 1) := by decide +kernel
theorem dL_tell_49 : decode cL_tell 49 = .ok (.iinc 2 1, 3) := by decide +kernel
theorem dL_tell_52 : decode cL_tell 52 = .ok (.goto (-23), 3) := by decide +kernel
theorem dL_tell_55 : decode cL_tell 55 = .ok (.iconst 0, 1) := by decide +kernel
theorem dL_tell_56 : decode cL_tell 56 = .ok (.istore_n 2, 1) := by decide +kernel
theorem dL_tell_57 : decode cL_tell 57 = .ok (.iload_n 2, 1) := by decide +kernel
theorem dL_tell_58 : decode cL_tell 58 = .ok (.iconst 4, 1) := by decide +kernel
theorem dL_tell_59 : decode cL_tell 59 = .ok (.if_icmp .ge 20, 3) := by decide +kernel
theorem dL_tell_62 : decode cL_tell 62 = .ok (.aload_n 1, 1) := by decide +kernel
theorem dL_tell_63 : decode cL_tell 63 = .ok (.bipush 33, 2) := by decide +kernel
theorem dL_tell_65 : decode cL_tell 65 = .ok (.iload_n 2, 1) := by decide +kernel
theorem dL_tell_66 : decode cL_tell 66 = .ok (.iadd, 1) := by decide +kernel
theorem dL_tell_67 : decode cL_tell 67 = .ok (.aload_n 0, 1) := by decide +kernel
theorem dL_tell_68 : decode cL_tell 68 = .ok (.iload_n 2, 1) := by decide +kernel
theorem dL_tell_69 : decode cL_tell 69 = .ok (.invokevirtual 15, 3) := by decide +kernel
theorem dL_tell_72 : decode cL_tell 72 = .ok (.iastore, 1) := by decide +kernel
theorem dL_tell_73 : decode cL_tell 73 = .ok (.iinc 2 1, 3) := by decide +kernel
theorem dL_tell_76 : decode cL_tell 76 = .ok (.goto (-19), 3) := by decide +kernel
theorem dL_tell_79 : decode cL_tell 79 = .ok (.iconst 0, 1) := by decide +kernel
theorem dL_tell_80 : decode cL_tell 80 = .ok (.istore_n 2, 1) := by decide +kernel
theorem dL_tell_81 : decode cL_tell 81 = .ok (.iload_n 2, 1) := by decide +kernel
theorem dL_tell_82 : decode cL_tell 82 = .ok (.bipush 9, 2) := by decide +kernel
theorem dL_tell_84 : decode cL_tell 84 = .ok (.if_icmp .ge 72, 3) := by decide +kernel
theorem dL_tell_87 : decode cL_tell 87 = .ok (.aload_n 1, 1) := by decide +kernel
theorem dL_tell_88 : decode cL_tell 88 = .ok (.bipush 37, 2) := by decide +kernel
theorem dL_tell_90 : decode cL_tell 90 = .ok (.iconst 3, 1) := by decide +kernel
theorem dL_tell_91 : decode cL_tell 91 = .ok (.iload_n 2, 1) := by decide +kernel
theorem dL_tell_92 : decode cL_tell 92 = .ok (.imul, 1) := by decide +kernel
theorem dL_tell_93 : decode cL_tell 93 = .ok (.iadd, 1) := by decide +kernel
theorem dL_tell_94 : decode cL_tell 94 = .ok (.aload_n 0, 1) := by decide +kernel
theorem dL_tell_95 : decode cL_tell 95 = .ok (.iload_n 2, 1) := by decide +kernel
theorem dL_tell_96 : decode cL_tell 96 = .ok (.iconst 0, 1) := by decide +kernel
theorem dL_tell_97 : decode cL_tell 97 = .ok (.invokevirtual 18, 3) := by decide +kernel
theorem dL_tell_100 : decode cL_tell 100 = .ok (.iastore, 1) := by decide +kernel
theorem dL_tell_101 : decode cL_tell 101 = .ok (.aload_n 1, 1) := by decide +kernel
theorem dL_tell_102 : decode cL_tell 102 = .ok (.bipush 38, 2) := by decide +kernel
theorem dL_tell_104 : decode cL_tell 104 = .ok (.iconst 3, 1) := by decide +kernel
theorem dL_tell_105 : decode cL_tell 105 = .ok (.iload_n 2, 1) := by decide +kernel
theorem dL_tell_106 : decode cL_tell 106 = .ok (.imul, 1) := by decide +kernel
theorem dL_tell_107 : decode cL_tell 107 = .ok (.iadd, 1) := by decide +kernel
theorem dL_tell_108 : decode cL_tell 108 = .ok (.bipush 100, 2) := by decide +kernel
theorem dL_tell_110 : decode cL_tell 110 = .ok (.aload_n 0, 1) := by decide +kernel
theorem dL_tell_111 : decode cL_tell 111 = .ok (.iload_n 2, 1) := by decide +kernel
theorem dL_tell_112 : decode cL_tell 112 = .ok (.iconst 4, 1) := by decide +kernel
theorem dL_tell_113 : decode cL_tell 113 = .ok (.invokevirtual 18, 3) := by decide +kernel
theorem dL_tell_116 : decode cL_tell 116 = .ok (.imul, 1) := by decide +kernel
theorem dL_tell_117 : decode cL_tell 117 = .ok (.aload_n 0, 1) := by decide +kernel
theorem dL_tell_118 : decode cL_tell 118 = .ok (.iload_n 2, 1) := by decide +kernel
theorem dL_tell_119 : decode cL_tell 119 = .ok (.iconst 2, 1) := by decide +kernel
theorem dL_tell_120 : decode cL_tell 120 = .ok (.invokevirtual 18, 3) := by decide +kernel
theorem dL_tell_123 : decode cL_tell 123 = .ok (.iadd, 1) := by decide +kernel
theorem dL_tell_124 : decode cL_tell 124 = .ok (.iastore, 1) := by decide +kernel
theorem dL_tell_125 : decode cL_tell 125 = .ok (.aload_n 1, 1) := by decide +kernel
theorem dL_tell_126 : decode cL_tell 126 = .ok (.bipush 39, 2) := by decide +kernel
theorem dL_tell_128 : decode cL_tell 128 = .ok (.iconst 3, 1) := by decide +kernel
theorem dL_tell_129 : decode cL_tell 129 = .ok (.iload_n 2, 1) := by decide +kernel
theorem dL_tell_130 : decode cL_tell 130 = .ok (.imul, 1) := by decide +kernel
theorem dL_tell_131 : decode cL_tell 131 = .ok (.iadd, 1) := by decide +kernel
theorem dL_tell_132 : decode cL_tell 132 = .ok (.bipush 100, 2) := by decide +kernel
theorem dL_tell_134 : decode cL_tell 134 = .ok (.aload_n 0, 1) := by decide +kernel
theorem dL_tell_135 : decode cL_tell 135 = .ok (.iload_n 2, 1) := by decide +kernel
theorem dL_tell_136 : decode cL_tell 136 = .ok (.bipush 8, 2) := by decide +kernel
theorem dL_tell_138 : decode cL_tell 138 = .ok (.invokevirtual 18, 3) := by decide +kernel
theorem dL_tell_141 : decode cL_tell 141 = .ok (.imul, 1) := by decide +kernel
theorem dL_tell_142 : decode cL_tell 142 = .ok (.aload_n 0, 1) := by decide +kernel
theorem dL_tell_143 : decode cL_tell 143 = .ok (.iload_n 2, 1) := by decide +kernel
theorem dL_tell_144 : decode cL_tell 144 = .ok (.iconst 5, 1) := by decide +kernel
theorem dL_tell_145 : decode cL_tell 145 = .ok (.invokevirtual 18, 3) := by decide +kernel
theorem dL_tell_148 : decode cL_tell 148 = .ok (.iadd, 1) := by decide +kernel
theorem dL_tell_149 : decode cL_tell 149 = .ok (.iastore, 1) := by decide +kernel
theorem dL_tell_150 : decode cL_tell 150 = .ok (.iinc 2 1, 3) := by decide +kernel
theorem dL_tell_153 : decode cL_tell 153 = .ok (.goto (-72), 3) := by decide +kernel
theorem dL_tell_156 : decode cL_tell 156 = .ok (.aload_n 1, 1) := by decide +kernel
theorem dL_tell_157 : decode cL_tell 157 = .ok (.areturn, 1) := by decide +kernel
theorem dL_same_0 : decode cL_same 0 = .ok (.iconst 0, 1) := by decide +kernel
theorem dL_same_1 : decode cL_same 1 = .ok (.istore_n 2, 1) := by decide +kernel
theorem dL_same_2 : decode cL_same 2 = .ok (.iload_n 2, 1) := by decide +kernel
theorem dL_same_3 : decode cL_same 3 = .ok (.bipush 64, 2) := by decide +kernel
theorem dL_same_5 : decode cL_same 5 = .ok (.if_icmp .ge 20, 3) := by decide +kernel
theorem dL_same_8 : decode cL_same 8 = .ok (.aload_n 0, 1) := by decide +kernel
theorem dL_same_9 : decode cL_same 9 = .ok (.iload_n 2, 1) := by decide +kernel
theorem dL_same_10 : decode cL_same 10 = .ok (.iaload, 1) := by decide +kernel
theorem dL_same_11 : decode cL_same 11 = .ok (.aload_n 1, 1) := by decide +kernel
theorem dL_same_12 : decode cL_same 12 = .ok (.iload_n 2, 1) := by decide +kernel
theorem dL_same_13 : decode cL_same 13 = .ok (.iaload, 1) := by decide +kernel
theorem dL_same_14 : decode cL_same 14 = .ok (.if_icmp .eq 5, 3) := by decide +kernel
theorem dL_same_17 : decode cL_same 17 = .ok (.iconst 0, 1) := by decide +kernel
theorem dL_same_18 : decode cL_same 18 = .ok (.ireturn, 1) := by decide +kernel
theorem dL_same_19 : decode cL_same 19 = .ok (.iinc 2 1, 3) := by decide +kernel
theorem dL_same_22 : decode cL_same 22 = .ok (.goto (-20), 3) := by decide +kernel
theorem dL_same_25 : decode cL_same 25 = .ok (.iconst 1, 1) := by decide +kernel
theorem dL_same_26 : decode cL_same 26 = .ok (.ireturn, 1) := by decide +kernel
theorem dL_sums_0 : decode cL_sums 0 = .ok (.iconst 0, 1) := by decide +kernel
theorem dL_sums_1 : decode cL_sums 1 = .ok (.istore_n 1, 1) := by decide +kernel
theorem dL_sums_2 : decode cL_sums 2 = .ok (.iconst 0, 1) := by decide +kernel
theorem dL_sums_3 : decode cL_sums 3 = .ok (.istore_n 2, 1) := by decide +kernel
theorem dL_sums_4 : decode cL_sums 4 = .ok (.aload_n 0, 1) := by decide +kernel
theorem dL_sums_5 : decode cL_sums 5 = .ok (.bipush 25, 2) := by decide +kernel
theorem dL_sums_7 : decode cL_sums 7 = .ok (.invokevirtual 9, 3) := by decide +kernel
theorem dL_sums_10 : decode cL_sums 10 = .ok (.istore_n 3, 1) := by decide +kernel
theorem dL_sums_11 : decode cL_sums 11 = .ok (.aload_n 0, 1) := by decide +kernel
theorem dL_sums_12 : decode cL_sums 12 = .ok (.iconst 0, 1) := by decide +kernel
theorem dL_sums_13 : decode cL_sums 13 = .ok (.invokevirtual 9, 3) := by decide +kernel
theorem dL_sums_16 : decode cL_sums 16 = .ok (.istore 4, 2) := by decide +kernel
theorem dL_sums_18 : decode cL_sums 18 = .ok (.iconst 0, 1) := by decide +kernel
theorem dL_sums_19 : decode cL_sums 19 = .ok (.istore 5, 2) := by decide +kernel
theorem dL_sums_21 : decode cL_sums 21 = .ok (.iload 5, 2) := by decide +kernel
theorem dL_sums_23 : decode cL_sums 23 = .ok (.aload_n 0, 1) := by decide +kernel
theorem dL_sums_24 : decode cL_sums 24 = .ok (.iconst 1, 1) := by decide +kernel
theorem dL_sums_25 : decode cL_sums 25 = .ok (.invokevirtual 9, 3) := by decide +kernel
theorem dL_sums_28 : decode cL_sums 28 = .ok (.if_icmp .ge 292, 3) := by decide +kernel
theorem dL_sums_31 : decode cL_sums 31 = .ok (.aload_n 0, 1) := by decide +kernel
theorem dL_sums_32 : decode cL_sums 32 = .ok (.iload 5, 2) := by decide +kernel
theorem dL_sums_34 : decode cL_sums 34 = .ok (.iconst 0, 1) := by decide +kernel
theorem dL_sums_35 : decode cL_sums 35 = .ok (.invokevirtual 18, 3) := by decide +kernel
theorem dL_sums_38 : decode cL_sums 38 = .ok (.istore 6, 2) := by decide +kernel
theorem dL_sums_40 : decode cL_sums 40 = .ok (.aload_n 0, 1) := by decide +kernel
theorem dL_sums_41 : decode cL_sums 41 = .ok (.iload 5, 2) := by decide +kernel
theorem dL_sums_43 : decode cL_sums 43 = .ok (.iconst 1, 1) := by decide +kernel
theorem dL_sums_44 : decode cL_sums 44 = .ok (.invokevirtual 18, 3) := by decide +kernel
theorem dL_sums_47 : decode cL_sums 47 = .ok (.aload_n 0, 1) := by decide +kernel
theorem dL_sums_48 : decode cL_sums 48 = .ok (.iload 5, 2) := by decide +kernel
theorem dL_sums_50 : decode cL_sums 50 = .ok (.iconst 2, 1) := by decide +kernel
theorem dL_sums_51 : decode cL_sums 51 = .ok (.invokevirtual 18, 3) := by decide +kernel
theorem dL_sums_54 : decode cL_sums 54 = .ok (.iadd, 1) := by decide +kernel
theorem dL_sums_55 : decode cL_sums 55 = .ok (.istore 7, 2) := by decide +kernel
theorem dL_sums_57 : decode cL_sums 57 = .ok (.iload_n 1, 1) := by decide +kernel
theorem dL_sums_58 : decode cL_sums 58 = .ok (.iload 6, 2) := by decide +kernel
theorem dL_sums_60 : decode cL_sums 60 = .ok (.iconst 1, 1) := by decide +kernel
theorem dL_sums_61 : decode cL_sums 61 = .ok (.if_icmp .ne 13, 3) := by decide +kernel
theorem dL_sums_64 : decode cL_sums 64 = .ok (.aload_n 0, 1) := by decide +kernel
theorem dL_sums_65 : decode cL_sums 65 = .ok (.iload 5, 2) := by decide +kernel
theorem dL_sums_67 : decode cL_sums 67 = .ok (.iconst 3, 1) := by decide +kernel
theorem dL_sums_68 : decode cL_sums 68 = .ok (.invokevirtual 18, 3) := by decide +kernel
theorem dL_sums_71 : decode cL_sums 71 = .ok (.goto 4, 3) := by decide +kernel
theorem dL_sums_74 : decode cL_sums 74 = .ok (.iconst 0, 1) := by decide +kernel
theorem dL_sums_75 : decode cL_sums 75 = .ok (.iadd, 1) := by decide +kernel
theorem dL_sums_76 : decode cL_sums 76 = .ok (.istore_n 1, 1) := by decide +kernel
theorem dL_sums_77 : decode cL_sums 77 = .ok (.iload_n 2, 1) := by decide +kernel
theorem dL_sums_78 : decode cL_sums 78 = .ok (.iload 6, 2) := by decide +kernel
theorem dL_sums_80 : decode cL_sums 80 = .ok (.iconst 2, 1) := by decide +kernel
theorem dL_sums_81 : decode cL_sums 81 = .ok (.if_icmp .ge 14, 3) := by decide +kernel
theorem dL_sums_84 : decode cL_sums 84 = .ok (.aload_n 0, 1) := by decide +kernel
theorem dL_sums_85 : decode cL_sums 85 = .ok (.iload 5, 2) := by decide +kernel
theorem dL_sums_87 : decode cL_sums 87 = .ok (.bipush 7, 2) := by decide +kernel
theorem dL_sums_89 : decode cL_sums 89 = .ok (.invokevirtual 18, 3) := by decide +kernel
theorem dL_sums_92 : decode cL_sums 92 = .ok (.goto 4, 3) := by decide +kernel
theorem dL_sums_95 : decode cL_sums 95 = .ok (.iconst 0, 1) := by decide +kernel
theorem dL_sums_96 : decode cL_sums 96 = .ok (.iadd, 1) := by decide +kernel
theorem dL_sums_97 : decode cL_sums 97 = .ok (.istore_n 2, 1) := by decide +kernel
theorem dL_sums_98 : decode cL_sums 98 = .ok (.iload 6, 2) := by decide +kernel
theorem dL_sums_100 : decode cL_sums 100 = .ok (.ifCond .lt 36, 3) := by decide +kernel
theorem dL_sums_103 : decode cL_sums 103 = .ok (.iload 6, 2) := by decide +kernel
theorem dL_sums_105 : decode cL_sums 105 = .ok (.iconst 4, 1) := by decide +kernel
theorem dL_sums_106 : decode cL_sums 106 = .ok (.if_icmp .gt 30, 3) := by decide +kernel
theorem dL_sums_109 : decode cL_sums 109 = .ok (.iload 7, 2) := by decide +kernel
theorem dL_sums_111 : decode cL_sums 111 = .ok (.aload_n 0, 1) := by decide +kernel
theorem dL_sums_112 : decode cL_sums 112 = .ok (.iload 5, 2) := by decide +kernel
theorem dL_sums_114 : decode cL_sums 114 = .ok (.iconst 4, 1) := by decide +kernel
theorem dL_sums_115 : decode cL_sums 115 = .ok (.invokevirtual 18, 3) := by decide +kernel
theorem dL_sums_118 : decode cL_sums 118 = .ok (.if_icmp .ne 18, 3) := by decide +kernel
theorem dL_sums_121 : decode cL_sums 121 = .ok (.iload 6, 2) := by decide +kernel
theorem dL_sums_123 : decode cL_sums 123 = .ok (.iconst 2, 1) := by decide +kernel
theorem dL_sums_124 : decode cL_sums 124 = .ok (.if_icmp .ne 14, 3) := by decide +kernel
theorem dL_sums_127 : decode cL_sums 127 = .ok (.iload 4, 2) := by decide +kernel
theorem dL_sums_129 : decode cL_sums 129 = .ok (.iload 7, 2) := by decide +kernel
theorem dL_sums_131 : decode cL_sums 131 = .ok (.iconst 1, 1) := by decide +kernel
theorem dL_sums_132 : decode cL_sums 132 = .ok (.isub, 1) := by decide +kernel
theorem dL_sums_133 : decode cL_sums 133 = .ok (.if_icmp .gt 5, 3) := by decide +kernel
theorem dL_sums_136 : decode cL_sums 136 = .ok (.iconst 0, 1) := by decide +kernel
theorem dL_sums_137 : decode cL_sums 137 = .ok (.ireturn, 1) := by decide +kernel
theorem dL_sums_138 : decode cL_sums 138 = .ok (.aload_n 0, 1) := by decide +kernel
theorem dL_sums_139 : decode cL_sums 139 = .ok (.iload 5, 2) := by decide +kernel
theorem dL_sums_141 : decode cL_sums 141 = .ok (.bipush 8, 2) := by decide +kernel
theorem dL_sums_143 : decode cL_sums 143 = .ok (.invokevirtual 18, 3) := by decide +kernel
theorem dL_sums_146 : decode cL_sums 146 = .ok (.istore 8, 2) := by decide +kernel
theorem dL_sums_148 : decode cL_sums 148 = .ok (.iload 6, 2) := by decide +kernel
theorem dL_sums_150 : decode cL_sums 150 = .ok (.iconst 1, 1) := by decide +kernel
theorem dL_sums_151 : decode cL_sums 151 = .ok (.if_icmp .eq 9, 3) := by decide +kernel
theorem dL_sums_154 : decode cL_sums 154 = .ok (.iload 6, 2) := by decide +kernel
theorem dL_sums_156 : decode cL_sums 156 = .ok (.iconst 2, 1) := by decide +kernel
theorem dL_sums_157 : decode cL_sums 157 = .ok (.if_icmp .ne 7, 3) := by decide +kernel
theorem dL_sums_160 : decode cL_sums 160 = .ok (.iconst 1, 1) := by decide +kernel
theorem dL_sums_161 : decode cL_sums 161 = .ok (.goto 4, 3) := by decide +kernel
theorem dL_sums_164 : decode cL_sums 164 = .ok (.iconst 0, 1) := by decide +kernel
theorem dL_sums_165 : decode cL_sums 165 = .ok (.istore 9, 2) := by decide +kernel
theorem dL_sums_167 : decode cL_sums 167 = .ok (.iload 9, 2) := by decide +kernel
theorem dL_sums_169 : decode cL_sums 169 = .ok (.iload 8, 2) := by decide +kernel
theorem dL_sums_171 : decode cL_sums 171 = .ok (.ifCond .lt 7, 3) := by decide +kernel
theorem dL_sums_174 : decode cL_sums 174 = .ok (.iconst 1, 1) := by decide +kernel
theorem dL_sums_175 : decode cL_sums 175 = .ok (.goto 4, 3) := by decide +kernel
theorem dL_sums_178 : decode cL_sums 178 = .ok (.iconst 0, 1) := by decide +kernel
theorem dL_sums_179 : decode cL_sums 179 = .ok (.if_icmp .ne 42, 3) := by decide +kernel
theorem dL_sums_182 : decode cL_sums 182 = .ok (.iload 9, 2) := by decide +kernel
theorem dL_sums_184 : decode cL_sums 184 = .ok (.ifCond .eq 22, 3) := by decide +kernel
theorem dL_sums_187 : decode cL_sums 187 = .ok (.iload 8, 2) := by decide +kernel
theorem dL_sums_189 : decode cL_sums 189 = .ok (.aload_n 0, 1) := by decide +kernel
theorem dL_sums_190 : decode cL_sums 190 = .ok (.iload 5, 2) := by decide +kernel
theorem dL_sums_192 : decode cL_sums 192 = .ok (.iconst 1, 1) := by decide +kernel
theorem dL_sums_193 : decode cL_sums 193 = .ok (.invokevirtual 18, 3) := by decide +kernel
theorem dL_sums_196 : decode cL_sums 196 = .ok (.if_icmp .lt 25, 3) := by decide +kernel
theorem dL_sums_199 : decode cL_sums 199 = .ok (.iload 8, 2) := by decide +kernel
theorem dL_sums_201 : decode cL_sums 201 = .ok (.iload 7, 2) := by decide +kernel
theorem dL_sums_203 : decode cL_sums 203 = .ok (.if_icmp .ge 18, 3) := by decide +kernel
theorem dL_sums_206 : decode cL_sums 206 = .ok (.iload 9, 2) := by decide +kernel
theorem dL_sums_208 : decode cL_sums 208 = .ok (.ifCond .ne 15, 3) := by decide +kernel
theorem dL_sums_211 : decode cL_sums 211 = .ok (.aload_n 0, 1) := by decide +kernel
theorem dL_sums_212 : decode cL_sums 212 = .ok (.iload 5, 2) := by decide +kernel
theorem dL_sums_214 : decode cL_sums 214 = .ok (.iconst 5, 1) := by decide +kernel
theorem dL_sums_215 : decode cL_sums 215 = .ok (.invokevirtual 18, 3) := by decide +kernel
theorem dL_sums_218 : decode cL_sums 218 = .ok (.ifCond .eq 5, 3) := by decide +kernel
theorem dL_sums_221 : decode cL_sums 221 = .ok (.iconst 0, 1) := by decide +kernel
theorem dL_sums_222 : decode cL_sums 222 = .ok (.ireturn, 1) := by decide +kernel
theorem dL_sums_223 : decode cL_sums 223 = .ok (.iload 6, 2) := by decide +kernel
theorem dL_sums_225 : decode cL_sums 225 = .ok (.iconst 1, 1) := by decide +kernel
theorem dL_sums_226 : decode cL_sums 226 = .ok (.if_icmp .ne 18, 3) := by decide +kernel
theorem dL_sums_229 : decode cL_sums 229 = .ok (.aload_n 0, 1) := by decide +kernel
theorem dL_sums_230 : decode cL_sums 230 = .ok (.iload 5, 2) := by decide +kernel
theorem dL_sums_232 : decode cL_sums 232 = .ok (.iconst 5, 1) := by decide +kernel
theorem dL_sums_233 : decode cL_sums 233 = .ok (.invokevirtual 18, 3) := by decide +kernel
theorem dL_sums_236 : decode cL_sums 236 = .ok (.iload 4, 2) := by decide +kernel
theorem dL_sums_238 : decode cL_sums 238 = .ok (.iload 8, 2) := by decide +kernel
theorem dL_sums_240 : decode cL_sums 240 = .ok (.isub, 1) := by decide +kernel
theorem dL_sums_241 : decode cL_sums 241 = .ok (.if_icmp .ne 28, 3) := by decide +kernel
theorem dL_sums_244 : decode cL_sums 244 = .ok (.aload_n 0, 1) := by decide +kernel
theorem dL_sums_245 : decode cL_sums 245 = .ok (.iload 5, 2) := by decide +kernel
theorem dL_sums_247 : decode cL_sums 247 = .ok (.bipush 6, 2) := by decide +kernel
theorem dL_sums_249 : decode cL_sums 249 = .ok (.invokevirtual 18, 3) := by decide +kernel
theorem dL_sums_252 : decode cL_sums 252 = .ok (.iconst 1, 1) := by decide +kernel
theorem dL_sums_253 : decode cL_sums 253 = .ok (.if_icmp .ne 18, 3) := by decide +kernel
theorem dL_sums_256 : decode cL_sums 256 = .ok (.iload 6, 2) := by decide +kernel
theorem dL_sums_258 : decode cL_sums 258 = .ok (.iconst 1, 1) := by decide +kernel
theorem dL_sums_259 : decode cL_sums 259 = .ok (.if_icmp .ne 10, 3) := by decide +kernel
theorem dL_sums_262 : decode cL_sums 262 = .ok (.iload 7, 2) := by decide +kernel
theorem dL_sums_264 : decode cL_sums 264 = .ok (.iload 4, 2) := by decide +kernel
theorem dL_sums_266 : decode cL_sums 266 = .ok (.if_icmp .le 5, 3) := by decide +kernel
theorem dL_sums_269 : decode cL_sums 269 = .ok (.iconst 0, 1) := by decide +kernel
theorem dL_sums_270 : decode cL_sums 270 = .ok (.ireturn, 1) := by decide +kernel
theorem dL_sums_271 : decode cL_sums 271 = .ok (.aload_n 0, 1) := by decide +kernel
theorem dL_sums_272 : decode cL_sums 272 = .ok (.iload 5, 2) := by decide +kernel
theorem dL_sums_274 : decode cL_sums 274 = .ok (.invokevirtual 22, 3) := by decide +kernel
theorem dL_sums_277 : decode cL_sums 277 = .ok (.istore 10, 2) := by decide +kernel
theorem dL_sums_279 : decode cL_sums 279 = .ok (.iload 6, 2) := by decide +kernel
theorem dL_sums_281 : decode cL_sums 281 = .ok (.ifCond .ne 24, 3) := by decide +kernel
theorem dL_sums_284 : decode cL_sums 284 = .ok (.iload 10, 2) := by decide +kernel
theorem dL_sums_286 : decode cL_sums 286 = .ok (.ifCond .eq 28, 3) := by decide +kernel
theorem dL_sums_289 : decode cL_sums 289 = .ok (.iload 10, 2) := by decide +kernel
theorem dL_sums_291 : decode cL_sums 291 = .ok (.aload_n 0, 1) := by decide +kernel
theorem dL_sums_292 : decode cL_sums 292 = .ok (.iload 5, 2) := by decide +kernel
theorem dL_sums_294 : decode cL_sums 294 = .ok (.bipush 7, 2) := by decide +kernel
theorem dL_sums_296 : decode cL_sums 296 = .ok (.invokevirtual 18, 3) := by decide +kernel
theorem dL_sums_299 : decode cL_sums 299 = .ok (.if_icmp .eq 15, 3) := by decide +kernel
theorem dL_sums_302 : decode cL_sums 302 = .ok (.goto 10, 3) := by decide +kernel
theorem dL_sums_305 : decode cL_sums 305 = .ok (.iload 10, 2) := by decide +kernel
theorem dL_sums_307 : decode cL_sums 307 = .ok (.ldc 25, 2) := by decide +kernel
theorem dL_sums_309 : decode cL_sums 309 = .ok (.if_icmp .eq 5, 3) := by decide +kernel
theorem dL_sums_312 : decode cL_sums 312 = .ok (.iconst 0, 1) := by decide +kernel
theorem dL_sums_313 : decode cL_sums 313 = .ok (.ireturn, 1) := by decide +kernel
theorem dL_sums_314 : decode cL_sums 314 = .ok (.iinc 5 1, 3) := by decide +kernel
theorem dL_sums_317 : decode cL_sums 317 = .ok (.goto (-296), 3) := by decide +kernel
theorem dL_sums_320 : decode cL_sums 320 = .ok (.iload 4, 2) := by decide +kernel
theorem dL_sums_322 : decode cL_sums 322 = .ok (.istore 5, 2) := by decide +kernel
theorem dL_sums_324 : decode cL_sums 324 = .ok (.iload 5, 2) := by decide +kernel
theorem dL_sums_326 : decode cL_sums 326 = .ok (.iload 4, 2) := by decide +kernel
theorem dL_sums_328 : decode cL_sums 328 = .ok (.bipush 12, 2) := by decide +kernel
theorem dL_sums_330 : decode cL_sums 330 = .ok (.iadd, 1) := by decide +kernel
theorem dL_sums_331 : decode cL_sums 331 = .ok (.if_icmp .ge 53, 3) := by decide +kernel
theorem dL_sums_334 : decode cL_sums 334 = .ok (.iload 5, 2) := by decide +kernel
theorem dL_sums_336 : decode cL_sums 336 = .ok (.sipush 1000, 3) := by decide +kernel
theorem dL_sums_339 : decode cL_sums 339 = .ok (.if_icmp .ge 45, 3) := by decide +kernel
theorem dL_sums_342 : decode cL_sums 342 = .ok (.aload_n 0, 1) := by decide +kernel
theorem dL_sums_343 : decode cL_sums 343 = .ok (.iload 5, 2) := by decide +kernel
theorem dL_sums_345 : decode cL_sums 345 = .ok (.iconst 0, 1) := by decide +kernel
theorem dL_sums_346 : decode cL_sums 346 = .ok (.invokevirtual 26, 3) := by decide +kernel
theorem dL_sums_349 : decode cL_sums 349 = .ok (.istore 6, 2) := by decide +kernel
theorem dL_sums_351 : decode cL_sums 351 = .ok (.iload 6, 2) := by decide +kernel
theorem dL_sums_353 : decode cL_sums 353 = .ok (.ifCond .lt 23, 3) := by decide +kernel
theorem dL_sums_356 : decode cL_sums 356 = .ok (.iload 6, 2) := by decide +kernel
theorem dL_sums_358 : decode cL_sums 358 = .ok (.iload_n 3, 1) := by decide +kernel
theorem dL_sums_359 : decode cL_sums 359 = .ok (.if_icmp .gt 17, 3) := by decide +kernel
theorem dL_sums_362 : decode cL_sums 362 = .ok (.aload_n 0, 1) := by decide +kernel
theorem dL_sums_363 : decode cL_sums 363 = .ok (.iload 5, 2) := by decide +kernel
theorem dL_sums_365 : decode cL_sums 365 = .ok (.iconst 1, 1) := by decide +kernel
theorem dL_sums_366 : decode cL_sums 366 = .ok (.invokevirtual 26, 3) := by decide +kernel
theorem dL_sums_369 : decode cL_sums 369 = .ok (.iload_n 3, 1) := by decide +kernel
theorem dL_sums_370 : decode cL_sums 370 = .ok (.iload 6, 2) := by decide +kernel
theorem dL_sums_372 : decode cL_sums 372 = .ok (.isub, 1) := by decide +kernel
theorem dL_sums_373 : decode cL_sums 373 = .ok (.if_icmp .eq 5, 3) := by decide +kernel
theorem dL_sums_376 : decode cL_sums 376 = .ok (.iconst 0, 1) := by decide +kernel
theorem dL_sums_377 : decode cL_sums 377 = .ok (.ireturn, 1) := by decide +kernel
theorem dL_sums_378 : decode cL_sums 378 = .ok (.iinc 5 1, 3) := by decide +kernel
theorem dL_sums_381 : decode cL_sums 381 = .ok (.goto (-57), 3) := by decide +kernel
theorem dL_sums_384 : decode cL_sums 384 = .ok (.aload_n 0, 1) := by decide +kernel
theorem dL_sums_385 : decode cL_sums 385 = .ok (.iconst 2, 1) := by decide +kernel
theorem dL_sums_386 : decode cL_sums 386 = .ok (.invokevirtual 9, 3) := by decide +kernel
theorem dL_sums_389 : decode cL_sums 389 = .ok (.aload_n 0, 1) := by decide +kernel
theorem dL_sums_390 : decode cL_sums 390 = .ok (.iconst 3, 1) := by decide +kernel
theorem dL_sums_391 : decode cL_sums 391 = .ok (.invokevirtual 9, 3) := by decide +kernel
theorem dL_sums_394 : decode cL_sums 394 = .ok (.iadd, 1) := by decide +kernel
theorem dL_sums_395 : decode cL_sums 395 = .ok (.aload_n 0, 1) := by decide +kernel
theorem dL_sums_396 : decode cL_sums 396 = .ok (.iconst 4, 1) := by decide +kernel
theorem dL_sums_397 : decode cL_sums 397 = .ok (.invokevirtual 9, 3) := by decide +kernel
theorem dL_sums_400 : decode cL_sums 400 = .ok (.iadd, 1) := by decide +kernel
theorem dL_sums_401 : decode cL_sums 401 = .ok (.aload_n 0, 1) := by decide +kernel
theorem dL_sums_402 : decode cL_sums 402 = .ok (.iconst 5, 1) := by decide +kernel
theorem dL_sums_403 : decode cL_sums 403 = .ok (.invokevirtual 9, 3) := by decide +kernel
theorem dL_sums_406 : decode cL_sums 406 = .ok (.iadd, 1) := by decide +kernel
theorem dL_sums_407 : decode cL_sums 407 = .ok (.aload_n 0, 1) := by decide +kernel
theorem dL_sums_408 : decode cL_sums 408 = .ok (.bipush 6, 2) := by decide +kernel
theorem dL_sums_410 : decode cL_sums 410 = .ok (.invokevirtual 9, 3) := by decide +kernel
theorem dL_sums_413 : decode cL_sums 413 = .ok (.iadd, 1) := by decide +kernel
theorem dL_sums_414 : decode cL_sums 414 = .ok (.istore 5, 2) := by decide +kernel
theorem dL_sums_416 : decode cL_sums 416 = .ok (.iload_n 1, 1) := by decide +kernel
theorem dL_sums_417 : decode cL_sums 417 = .ok (.iload_n 3, 1) := by decide +kernel
theorem dL_sums_418 : decode cL_sums 418 = .ok (.if_icmp .le 9, 3) := by decide +kernel
theorem dL_sums_421 : decode cL_sums 421 = .ok (.iload_n 1, 1) := by decide +kernel
theorem dL_sums_422 : decode cL_sums 422 = .ok (.iload_n 3, 1) := by decide +kernel
theorem dL_sums_423 : decode cL_sums 423 = .ok (.isub, 1) := by decide +kernel
theorem dL_sums_424 : decode cL_sums 424 = .ok (.goto 4, 3) := by decide +kernel
theorem dL_sums_427 : decode cL_sums 427 = .ok (.iconst 0, 1) := by decide +kernel
theorem dL_sums_428 : decode cL_sums 428 = .ok (.istore 6, 2) := by decide +kernel
theorem dL_sums_430 : decode cL_sums 430 = .ok (.aload_n 0, 1) := by decide +kernel
