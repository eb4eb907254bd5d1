theorem dX4_openSlot_28 : decode cX4_openSlot 28 = .ok (.iload_n 1, 1) := by decide +kernel
theorem dX4_openSlot_29 : decode cX4_openSlot 29 = .ok (.if_icmp .le 18, 3) := by decide +kernel
theorem dX4_openSlot_32 : decode cX4_openSlot 32 = .ok (.aload_n 0, 1) := by decide +kernel
theorem dX4_openSlot_33 : decode cX4_openSlot 33 = .ok (.iload_n 2, 1) := by decide +kernel
theorem dX4_openSlot_34 : decode cX4_openSlot 34 = .ok (.aload_n 0, 1) := by decide +kernel
theorem dX4_openSlot_35 : decode cX4_openSlot 35 = .ok (.iload_n 2, 1) := by decide +kernel
theorem dX4_openSlot_36 : decode cX4_openSlot 36 = .ok (.iconst 1, 1) := by decide +kernel
theorem dX4_openSlot_37 : decode cX4_openSlot 37 = .ok (.isub, 1) := by decide +kernel
theorem dX4_openSlot_38 : decode cX4_openSlot 38 = .ok (.invokevirtual 70, 3) := by decide +kernel
theorem dX4_openSlot_41 : decode cX4_openSlot 41 = .ok (.iinc 2 (-1), 3) := by decide +kernel
theorem dX4_openSlot_44 : decode cX4_openSlot 44 = .ok (.goto (-17), 3) := by decide +kernel
theorem dX4_openSlot_47 : decode cX4_openSlot 47 = .ok (.aload_n 0, 1) := by decide +kernel
theorem dX4_openSlot_48 : decode cX4_openSlot 48 = .ok (.dup, 1) := by decide +kernel
theorem dX4_openSlot_49 : decode cX4_openSlot 49 = .ok (.getfield 30, 3) := by decide +kernel
theorem dX4_openSlot_52 : decode cX4_openSlot 52 = .ok (.iconst 1, 1) := by decide +kernel
theorem dX4_openSlot_53 : decode cX4_openSlot 53 = .ok (.iadd, 1) := by decide +kernel
theorem dX4_openSlot_54 : decode cX4_openSlot 54 = .ok (.putfield 30, 3) := by decide +kernel
theorem dX4_openSlot_57 : decode cX4_openSlot 57 = .ok (.return_, 1) := by decide +kernel
theorem dX4_closeSlot_0 : decode cX4_closeSlot 0 = .ok (.iload_n 1, 1) := by decide +kernel
theorem dX4_closeSlot_1 : decode cX4_closeSlot 1 = .ok (.ifCond .lt 11, 3) := by decide +kernel
theorem dX4_closeSlot_4 : decode cX4_closeSlot 4 = .ok (.iload_n 1, 1) := by decide +kernel
theorem dX4_closeSlot_5 : decode cX4_closeSlot 5 = .ok (.aload_n 0, 1) := by decide +kernel
theorem dX4_closeSlot_6 : decode cX4_closeSlot 6 = .ok (.getfield 30, 3) := by decide +kernel
theorem dX4_closeSlot_9 : decode cX4_closeSlot 9 = .ok (.if_icmp .lt 4, 3) := by decide +kernel
theorem dX4_closeSlot_12 : decode cX4_closeSlot 12 = .ok (.return_, 1) := by decide +kernel
theorem dX4_closeSlot_13 : decode cX4_closeSlot 13 = .ok (.iload_n 1, 1) := by decide +kernel
theorem dX4_closeSlot_14 : decode cX4_closeSlot 14 = .ok (.istore_n 2, 1) := by decide +kernel
theorem dX4_closeSlot_15 : decode cX4_closeSlot 15 = .ok (.iload_n 2, 1) := by decide +kernel
theorem dX4_closeSlot_16 : decode cX4_closeSlot 16 = .ok (.aload_n 0, 1) := by decide +kernel
theorem dX4_closeSlot_17 : decode cX4_closeSlot 17 = .ok (.getfield 30, 3) := by decide +kernel
theorem dX4_closeSlot_20 : decode cX4_closeSlot 20 = .ok (.iconst 1, 1) := by decide +kernel
theorem dX4_closeSlot_21 : decode cX4_closeSlot 21 = .ok (.isub, 1) := by decide +kernel
theorem dX4_closeSlot_22 : decode cX4_closeSlot 22 = .ok (.if_icmp .ge 18, 3) := by decide +kernel
theorem dX4_closeSlot_25 : decode cX4_closeSlot 25 = .ok (.aload_n 0, 1) := by decide +kernel
theorem dX4_closeSlot_26 : decode cX4_closeSlot 26 = .ok (.iload_n 2, 1) := by decide +kernel
theorem dX4_closeSlot_27 : decode cX4_closeSlot 27 = .ok (.aload_n 0, 1) := by decide +kernel
theorem dX4_closeSlot_28 : decode cX4_closeSlot 28 = .ok (.iload_n 2, 1) := by decide +kernel
theorem dX4_closeSlot_29 : decode cX4_closeSlot 29 = .ok (.iconst 1, 1) := by decide +kernel
theorem dX4_closeSlot_30 : decode cX4_closeSlot 30 = .ok (.iadd, 1) := by decide +kernel
theorem dX4_closeSlot_31 : decode cX4_closeSlot 31 = .ok (.invokevirtual 70, 3) := by decide +kernel
theorem dX4_closeSlot_34 : decode cX4_closeSlot 34 = .ok (.iinc 2 1, 3) := by decide +kernel
theorem dX4_closeSlot_37 : decode cX4_closeSlot 37 = .ok (.goto (-22), 3) := by decide +kernel
theorem dX4_closeSlot_40 : decode cX4_closeSlot 40 = .ok (.aload_n 0, 1) := by decide +kernel
theorem dX4_closeSlot_41 : decode cX4_closeSlot 41 = .ok (.dup, 1) := by decide +kernel
theorem dX4_closeSlot_42 : decode cX4_closeSlot 42 = .ok (.getfield 30, 3) := by decide +kernel
theorem dX4_closeSlot_45 : decode cX4_closeSlot 45 = .ok (.iconst 1, 1) := by decide +kernel
theorem dX4_closeSlot_46 : decode cX4_closeSlot 46 = .ok (.isub, 1) := by decide +kernel
theorem dX4_closeSlot_47 : decode cX4_closeSlot 47 = .ok (.putfield 30, 3) := by decide +kernel
theorem dX4_closeSlot_50 : decode cX4_closeSlot 50 = .ok (.return_, 1) := by decide +kernel
theorem dX4_copySlot_0 : decode cX4_copySlot 0 = .ok (.iload_n 1, 1) := by decide +kernel
theorem dX4_copySlot_1 : decode cX4_copySlot 1 = .ok (.ifCond .lt 19, 3) := by decide +kernel
theorem dX4_copySlot_4 : decode cX4_copySlot 4 = .ok (.iload_n 1, 1) := by decide +kernel
theorem dX4_copySlot_5 : decode cX4_copySlot 5 = .ok (.bipush 7, 2) := by decide +kernel
theorem dX4_copySlot_7 : decode cX4_copySlot 7 = .ok (.if_icmp .ge 13, 3) := by decide +kernel
theorem dX4_copySlot_10 : decode cX4_copySlot 10 = .ok (.iload_n 3, 1) := by decide +kernel
theorem dX4_copySlot_11 : decode cX4_copySlot 11 = .ok (.ifCond .lt 9, 3) := by decide +kernel
theorem dX4_copySlot_14 : decode cX4_copySlot 14 = .ok (.iload_n 3, 1) := by decide +kernel
theorem dX4_copySlot_15 : decode cX4_copySlot 15 = .ok (.bipush 7, 2) := by decide +kernel
theorem dX4_copySlot_17 : decode cX4_copySlot 17 = .ok (.if_icmp .lt 4, 3) := by decide +kernel
theorem dX4_copySlot_20 : decode cX4_copySlot 20 = .ok (.return_, 1) := by decide +kernel
theorem dX4_copySlot_21 : decode cX4_copySlot 21 = .ok (.aload_n 0, 1) := by decide +kernel
theorem dX4_copySlot_22 : decode cX4_copySlot 22 = .ok (.getfield 15, 3) := by decide +kernel
theorem dX4_copySlot_25 : decode cX4_copySlot 25 = .ok (.ifnull 46, 3) := by decide +kernel
theorem dX4_copySlot_28 : decode cX4_copySlot 28 = .ok (.aload_n 2, 1) := by decide +kernel
theorem dX4_copySlot_29 : decode cX4_copySlot 29 = .ok (.getfield 15, 3) := by decide +kernel
theorem dX4_copySlot_32 : decode cX4_copySlot 32 = .ok (.ifnull 39, 3) := by decide +kernel
theorem dX4_copySlot_35 : decode cX4_copySlot 35 = .ok (.aload_n 0, 1) := by decide +kernel
theorem dX4_copySlot_36 : decode cX4_copySlot 36 = .ok (.getfield 15, 3) := by decide +kernel
theorem dX4_copySlot_39 : decode cX4_copySlot 39 = .ok (.iconst 2, 1) := by decide +kernel
theorem dX4_copySlot_40 : decode cX4_copySlot 40 = .ok (.iload_n 1, 1) := by decide +kernel
theorem dX4_copySlot_41 : decode cX4_copySlot 41 = .ok (.imul, 1) := by decide +kernel
theorem dX4_copySlot_42 : decode cX4_copySlot 42 = .ok (.aload_n 2, 1) := by decide +kernel
theorem dX4_copySlot_43 : decode cX4_copySlot 43 = .ok (.getfield 15, 3) := by decide +kernel
theorem dX4_copySlot_46 : decode cX4_copySlot 46 = .ok (.iconst 2, 1) := by decide +kernel
theorem dX4_copySlot_47 : decode cX4_copySlot 47 = .ok (.iload_n 3, 1) := by decide +kernel
theorem dX4_copySlot_48 : decode cX4_copySlot 48 = .ok (.imul, 1) := by decide +kernel
theorem dX4_copySlot_49 : decode cX4_copySlot 49 = .ok (.iaload, 1) := by decide +kernel
theorem dX4_copySlot_50 : decode cX4_copySlot 50 = .ok (.iastore, 1) := by decide +kernel
theorem dX4_copySlot_51 : decode cX4_copySlot 51 = .ok (.aload_n 0, 1) := by decide +kernel
theorem dX4_copySlot_52 : decode cX4_copySlot 52 = .ok (.getfield 15, 3) := by decide +kernel
theorem dX4_copySlot_55 : decode cX4_copySlot 55 = .ok (.iconst 2, 1) := by decide +kernel
theorem dX4_copySlot_56 : decode cX4_copySlot 56 = .ok (.iload_n 1, 1) := by decide +kernel
theorem dX4_copySlot_57 : decode cX4_copySlot 57 = .ok (.imul, 1) := by decide +kernel
theorem dX4_copySlot_58 : decode cX4_copySlot 58 = .ok (.iconst 1, 1) := by decide +kernel
theorem dX4_copySlot_59 : decode cX4_copySlot 59 = .ok (.iadd, 1) := by decide +kernel
theorem dX4_copySlot_60 : decode cX4_copySlot 60 = .ok (.aload_n 2, 1) := by decide +kernel
theorem dX4_copySlot_61 : decode cX4_copySlot 61 = .ok (.getfield 15, 3) := by decide +kernel
theorem dX4_copySlot_64 : decode cX4_copySlot 64 = .ok (.iconst 2, 1) := by decide +kernel
theorem dX4_copySlot_65 : decode cX4_copySlot 65 = .ok (.iload_n 3, 1) := by decide +kernel
theorem dX4_copySlot_66 : decode cX4_copySlot 66 = .ok (.imul, 1) := by decide +kernel
theorem dX4_copySlot_67 : decode cX4_copySlot 67 = .ok (.iconst 1, 1) := by decide +kernel
theorem dX4_copySlot_68 : decode cX4_copySlot 68 = .ok (.iadd, 1) := by decide +kernel
theorem dX4_copySlot_69 : decode cX4_copySlot 69 = .ok (.iaload, 1) := by decide +kernel
theorem dX4_copySlot_70 : decode cX4_copySlot 70 = .ok (.iastore, 1) := by decide +kernel
theorem dX4_copySlot_71 : decode cX4_copySlot 71 = .ok (.aload_n 0, 1) := by decide +kernel
theorem dX4_copySlot_72 : decode cX4_copySlot 72 = .ok (.getfield 19, 3) := by decide +kernel
theorem dX4_copySlot_75 : decode cX4_copySlot 75 = .ok (.ifnull 22, 3) := by decide +kernel
theorem dX4_copySlot_78 : decode cX4_copySlot 78 = .ok (.aload_n 2, 1) := by decide +kernel
theorem dX4_copySlot_79 : decode cX4_copySlot 79 = .ok (.getfield 19, 3) := by decide +kernel
theorem dX4_copySlot_82 : decode cX4_copySlot 82 = .ok (.ifnull 15, 3) := by decide +kernel
theorem dX4_copySlot_85 : decode cX4_copySlot 85 = .ok (.aload_n 0, 1) := by decide +kernel
theorem dX4_copySlot_86 : decode cX4_copySlot 86 = .ok (.getfield 19, 3) := by decide +kernel
theorem dX4_copySlot_89 : decode cX4_copySlot 89 = .ok (.iload_n 1, 1) := by decide +kernel
theorem dX4_copySlot_90 : decode cX4_copySlot 90 = .ok (.aload_n 2, 1) := by decide +kernel
theorem dX4_copySlot_91 : decode cX4_copySlot 91 = .ok (.getfield 19, 3) := by decide +kernel
theorem dX4_copySlot_94 : decode cX4_copySlot 94 = .ok (.iload_n 3, 1) := by decide +kernel
theorem dX4_copySlot_95 : decode cX4_copySlot 95 = .ok (.aaload, 1) := by decide +kernel
theorem dX4_copySlot_96 : decode cX4_copySlot 96 = .ok (.aastore, 1) := by decide +kernel
theorem dX4_copySlot_97 : decode cX4_copySlot 97 = .ok (.return_, 1) := by decide +kernel
theorem dX4_append_0 : decode cX4_append 0 = .ok (.aload_n 0, 1) := by decide +kernel
theorem dX4_append_1 : decode cX4_append 1 = .ok (.getfield 30, 3) := by decide +kernel
theorem dX4_append_4 : decode cX4_append 4 = .ok (.bipush 7, 2) := by decide +kernel
theorem dX4_append_6 : decode cX4_append 6 = .ok (.if_icmp .ge 23, 3) := by decide +kernel
theorem dX4_append_9 : decode cX4_append 9 = .ok (.aload_n 0, 1) := by decide +kernel
theorem dX4_append_10 : decode cX4_append 10 = .ok (.aload_n 0, 1) := by decide +kernel
theorem dX4_append_11 : decode cX4_append 11 = .ok (.getfield 30, 3) := by decide +kernel
theorem dX4_append_14 : decode cX4_append 14 = .ok (.aload_n 1, 1) := by decide +kernel
theorem dX4_append_15 : decode cX4_append 15 = .ok (.iload_n 2, 1) := by decide +kernel
theorem dX4_append_16 : decode cX4_append 16 = .ok (.invokevirtual 70, 3) := by decide +kernel
theorem dX4_append_19 : decode cX4_append 19 = .ok (.aload_n 0, 1) := by decide +kernel
theorem dX4_append_20 : decode cX4_append 20 = .ok (.dup, 1) := by decide +kernel
theorem dX4_append_21 : decode cX4_append 21 = .ok (.getfield 30, 3) := by decide +kernel
theorem dX4_append_24 : decode cX4_append 24 = .ok (.iconst 1, 1) := by decide +kernel
theorem dX4_append_25 : decode cX4_append 25 = .ok (.iadd, 1) := by decide +kernel
theorem dX4_append_26 : decode cX4_append 26 = .ok (.putfield 30, 3) := by decide +kernel
theorem dX4_append_29 : decode cX4_append 29 = .ok (.return_, 1) := by decide +kernel
theorem dX4_moveLastToFirst_0 : decode cX4_moveLastToFirst 0 = .ok (.aload_n 0, 1) := by decide +kernel
theorem dX4_moveLastToFirst_1 : decode cX4_moveLastToFirst 1 = .ok (.iconst 0, 1) := by decide +kernel
theorem dX4_moveLastToFirst_2 : decode cX4_moveLastToFirst 2 = .ok (.invokevirtual 59, 3) := by decide +kernel
theorem dX4_moveLastToFirst_5 : decode cX4_moveLastToFirst 5 = .ok (.aload_n 0, 1) := by decide +kernel
theorem dX4_moveLastToFirst_6 : decode cX4_moveLastToFirst 6 = .ok (.iconst 0, 1) := by decide +kernel
theorem dX4_moveLastToFirst_7 : decode cX4_moveLastToFirst 7 = .ok (.aload_n 1, 1) := by decide +kernel
theorem dX4_moveLastToFirst_8 : decode cX4_moveLastToFirst 8 = .ok (.aload_n 1, 1) := by decide +kernel
theorem dX4_moveLastToFirst_9 : decode cX4_moveLastToFirst 9 = .ok (.getfield 30, 3) := by decide +kernel
theorem dX4_moveLastToFirst_12 : decode cX4_moveLastToFirst 12 = .ok (.iconst 1, 1) := by decide +kernel
theorem dX4_moveLastToFirst_13 : decode cX4_moveLastToFirst 13 = .ok (.isub, 1) := by decide +kernel
theorem dX4_moveLastToFirst_14 : decode cX4_moveLastToFirst 14 = .ok (.invokevirtual 70, 3) := by decide +kernel
theorem dX4_moveLastToFirst_17 : decode cX4_moveLastToFirst 17 = .ok (.aload_n 1, 1) := by decide +kernel
theorem dX4_moveLastToFirst_18 : decode cX4_moveLastToFirst 18 = .ok (.aload_n 1, 1) := by decide +kernel
theorem dX4_moveLastToFirst_19 : decode cX4_moveLastToFirst 19 = .ok (.getfield 30, 3) := by decide +kernel
theorem dX4_moveLastToFirst_22 : decode cX4_moveLastToFirst 22 = .ok (.iconst 1, 1) := by decide +kernel
theorem dX4_moveLastToFirst_23 : decode cX4_moveLastToFirst 23 = .ok (.isub, 1) := by decide +kernel
theorem dX4_moveLastToFirst_24 : decode cX4_moveLastToFirst 24 = .ok (.invokevirtual 63, 3) := by decide +kernel
theorem dX4_moveLastToFirst_27 : decode cX4_moveLastToFirst 27 = .ok (.return_, 1) := by decide +kernel
theorem dX4_moveFirstToLast_0 : decode cX4_moveFirstToLast 0 = .ok (.aload_n 0, 1) := by decide +kernel
theorem dX4_moveFirstToLast_1 : decode cX4_moveFirstToLast 1 = .ok (.aload_n 1, 1) := by decide +kernel
theorem dX4_moveFirstToLast_2 : decode cX4_moveFirstToLast 2 = .ok (.iconst 0, 1) := by decide +kernel
theorem dX4_moveFirstToLast_3 : decode cX4_moveFirstToLast 3 = .ok (.invokevirtual 74, 3) := by decide +kernel
theorem dX4_moveFirstToLast_6 : decode cX4_moveFirstToLast 6 = .ok (.aload_n 1, 1) := by decide +kernel
theorem dX4_moveFirstToLast_7 : decode cX4_moveFirstToLast 7 = .ok (.iconst 0, 1) := by decide +kernel
theorem dX4_moveFirstToLast_8 : decode cX4_moveFirstToLast 8 = .ok (.invokevirtual 63, 3) := by decide +kernel
theorem dX4_moveFirstToLast_11 : decode cX4_moveFirstToLast 11 = .ok (.return_, 1) := by decide +kernel
theorem dX4_appendAll_0 : decode cX4_appendAll 0 = .ok (.iconst 0, 1) := by decide +kernel
theorem dX4_appendAll_1 : decode cX4_appendAll 1 = .ok (.istore_n 2, 1) := by decide +kernel
theorem dX4_appendAll_2 : decode cX4_appendAll 2 = .ok (.iload_n 2, 1) := by decide +kernel
theorem dX4_appendAll_3 : decode cX4_appendAll 3 = .ok (.aload_n 1, 1) := by decide +kernel
theorem dX4_appendAll_4 : decode cX4_appendAll 4 = .ok (.getfield 30, 3) := by decide +kernel
theorem dX4_appendAll_7 : decode cX4_appendAll 7 = .ok (.if_icmp .ge 15, 3) := by decide +kernel
theorem dX4_appendAll_10 : decode cX4_appendAll 10 = .ok (.aload_n 0, 1) := by decide +kernel
theorem dX4_appendAll_11 : decode cX4_appendAll 11 = .ok (.aload_n 1, 1) := by decide +kernel
theorem dX4_appendAll_12 : decode cX4_appendAll 12 = .ok (.iload_n 2, 1) := by decide +kernel
theorem dX4_appendAll_13 : decode cX4_appendAll 13 = .ok (.invokevirtual 74, 3) := by decide +kernel
theorem dX4_appendAll_16 : decode cX4_appendAll 16 = .ok (.iinc 2 1, 3) := by decide +kernel
theorem dX4_appendAll_19 : decode cX4_appendAll 19 = .ok (.goto (-17), 3) := by decide +kernel
theorem dX4_appendAll_22 : decode cX4_appendAll 22 = .ok (.return_, 1) := by decide +kernel
theorem dX4_moveLast_0 : decode cX4_moveLast 0 = .ok (.aload_n 1, 1) := by decide +kernel
theorem dX4_moveLast_1 : decode cX4_moveLast 1 = .ok (.getfield 30, 3) := by decide +kernel
theorem dX4_moveLast_4 : decode cX4_moveLast 4 = .ok (.iload_n 2, 1) := by decide +kernel
theorem dX4_moveLast_5 : decode cX4_moveLast 5 = .ok (.isub, 1) := by decide +kernel
theorem dX4_moveLast_6 : decode cX4_moveLast 6 = .ok (.istore_n 3, 1) := by decide +kernel
theorem dX4_moveLast_7 : decode cX4_moveLast 7 = .ok (.iload_n 2, 1) := by decide +kernel
theorem dX4_moveLast_8 : decode cX4_moveLast 8 = .ok (.ifCond .lt 7, 3) := by decide +kernel
theorem dX4_moveLast_11 : decode cX4_moveLast 11 = .ok (.iload_n 3, 1) := by decide +kernel
theorem dX4_moveLast_12 : decode cX4_moveLast 12 = .ok (.ifCond .ge 4, 3) := by decide +kernel
theorem dX4_moveLast_15 : decode cX4_moveLast 15 = .ok (.return_, 1) := by decide +kernel
theorem dX4_moveLast_16 : decode cX4_moveLast 16 = .ok (.iload_n 3, 1) := by decide +kernel
theorem dX4_moveLast_17 : decode cX4_moveLast 17 = .ok (.istore 4, 2) := by decide +kernel
theorem dX4_moveLast_19 : decode cX4_moveLast 19 = .ok (.iload 4, 2) := by decide +kernel
theorem dX4_moveLast_21 : decode cX4_moveLast 21 = .ok (.aload_n 1, 1) := by decide +kernel
theorem dX4_moveLast_22 : decode cX4_moveLast 22 = .ok (.getfield 30, 3) := by decide +kernel
theorem dX4_moveLast_25 : decode cX4_moveLast 25 = .ok (.if_icmp .ge 16, 3) := by decide +kernel
theorem dX4_moveLast_28 : decode cX4_moveLast 28 = .ok (.aload_n 0, 1) := by decide +kernel
theorem dX4_moveLast_29 : decode cX4_moveLast 29 = .ok (.aload_n 1, 1) := by decide +kernel
theorem dX4_moveLast_30 : decode cX4_moveLast 30 = .ok (.iload 4, 2) := by decide +kernel
theorem dX4_moveLast_32 : decode cX4_moveLast 32 = .ok (.invokevirtual 74, 3) := by decide +kernel
theorem dX4_moveLast_35 : decode cX4_moveLast 35 = .ok (.iinc 4 1, 3) := by decide +kernel
theorem dX4_moveLast_38 : decode cX4_moveLast 38 = .ok (.goto (-19), 3) := by decide +kernel
theorem dX4_moveLast_41 : decode cX4_moveLast 41 = .ok (.aload_n 1, 1) := by decide +kernel
theorem dX4_moveLast_42 : decode cX4_moveLast 42 = .ok (.iload_n 3, 1) := by decide +kernel
theorem dX4_moveLast_43 : decode cX4_moveLast 43 = .ok (.putfield 30, 3) := by decide +kernel
theorem dX4_moveLast_46 : decode cX4_moveLast 46 = .ok (.return_, 1) := by decide +kernel
theorem dX5_init_0 : decode cX5_init 0 = .ok (.aload_n 0, 1) := by decide +kernel
theorem dX5_init_1 : decode cX5_init 1 = .ok (.invokespecial 3, 3) := by decide +kernel
theorem dX5_init_4 : decode cX5_init 4 = .ok (.aload_n 0, 1) := by decide +kernel
theorem dX5_init_5 : decode cX5_init 5 = .ok (.bipush 64, 2) := by decide +kernel
theorem dX5_init_7 : decode cX5_init 7 = .ok (.newarray .int, 2) := by decide +kernel
theorem dX5_init_9 : decode cX5_init 9 = .ok (.putfield 9, 3) := by decide +kernel
theorem dX5_init_12 : decode cX5_init 12 = .ok (.return_, 1) := by decide +kernel
theorem dX5_clear_0 : decode cX5_clear 0 = .ok (.aload_n 0, 1) := by decide +kernel
theorem dX5_clear_1 : decode cX5_clear 1 = .ok (.iconst 0, 1) := by decide +kernel
theorem dX5_clear_2 : decode cX5_clear 2 = .ok (.putfield 15, 3) := by decide +kernel
theorem dX5_clear_5 : decode cX5_clear 5 = .ok (.return_, 1) := by decide +kernel
theorem dX5_append_0 : decode cX5_append 0 = .ok (.aload_n 0, 1) := by decide +kernel
theorem dX5_append_1 : decode cX5_append 1 = .ok (.getfield 15, 3) := by decide +kernel
theorem dX5_append_4 : decode cX5_append 4 = .ok (.bipush 16, 2) := by decide +kernel
theorem dX5_append_6 : decode cX5_append 6 = .ok (.if_icmp .ge 53, 3) := by decide +kernel
theorem dX5_append_9 : decode cX5_append 9 = .ok (.aload_n 0, 1) := by decide +kernel
theorem dX5_append_10 : decode cX5_append 10 = .ok (.getfield 9, 3) := by decide +kernel
theorem dX5_append_13 : decode cX5_append 13 = .ok (.aload_n 0, 1) := by decide +kernel
theorem dX5_append_14 : decode cX5_append 14 = .ok (.getfield 15, 3) := by decide +kernel
theorem dX5_append_17 : decode cX5_append 17 = .ok (.iconst 4, 1) := by decide +kernel
theorem dX5_append_18 : decode cX5_append 18 = .ok (.imul, 1) := by decide +kernel
theorem dX5_append_19 : decode cX5_append 19 = .ok (.iload_n 1, 1) := by decide +kernel
theorem dX5_append_20 : decode cX5_append 20 = .ok (.iastore, 1) := by decide +kernel
theorem dX5_append_21 : decode cX5_append 21 = .ok (.iconst 1, 1) := by decide +kernel
theorem dX5_append_22 : decode cX5_append 22 = .ok (.istore_n 2, 1) := by decide +kernel
theorem dX5_append_23 : decode cX5_append 23 = .ok (.iload_n 2, 1) := by decide +kernel
theorem dX5_append_24 : decode cX5_append 24 = .ok (.iconst 4, 1) := by decide +kernel
theorem dX5_append_25 : decode cX5_append 25 = .ok (.if_icmp .ge 24, 3) := by decide +kernel
theorem dX5_append_28 : decode cX5_append 28 = .ok (.aload_n 0, 1) := by decide +kernel
theorem dX5_append_29 : decode cX5_append 29 = .ok (.getfield 9, 3) := by decide +kernel
theorem dX5_append_32 : decode cX5_append 32 = .ok (.aload_n 0, 1) := by decide +kernel
theorem dX5_append_33 : decode cX5_append 33 = .ok (.getfield 15, 3) := by decide +kernel
theorem dX5_append_36 : decode cX5_append 36 = .ok (.iconst 4, 1) := by decide +kernel
theorem dX5_append_37 : decode cX5_append 37 = .ok (.imul, 1) := by decide +kernel
theorem dX5_append_38 : decode cX5_append 38 = .ok (.iload_n 2, 1) := by decide +kernel
theorem dX5_append_39 : decode cX5_append 39 = .ok (.iadd, 1) := by decide +kernel
theorem dX5_append_40 : decode cX5_append 40 = .ok (.ldc 19, 2) := by decide +kernel
theorem dX5_append_42 : decode cX5_append 42 = .ok (.iastore, 1) := by decide +kernel
theorem dX5_append_43 : decode cX5_append 43 = .ok (.iinc 2 1, 3) := by decide +kernel
theorem dX5_append_46 : decode cX5_append 46 = .ok (.goto (-23), 3) := by decide +kernel
theorem dX5_append_49 : decode cX5_append 49 = .ok (.aload_n 0, 1) := by decide +kernel
theorem dX5_append_50 : decode cX5_append 50 = .ok (.dup, 1) := by decide +kernel
theorem dX5_append_51 : decode cX5_append 51 = .ok (.getfield 15, 3) := by decide +kernel
theorem dX5_append_54 : decode cX5_append 54 = .ok (.iconst 1, 1) := by decide +kernel
theorem dX5_append_55 : decode cX5_append 55 = .ok (.iadd, 1) := by decide +kernel
theorem dX5_append_56 : decode cX5_append 56 = .ok (.putfield 15, 3) := by decide +kernel
theorem dX5_append_59 : decode cX5_append 59 = .ok (.return_, 1) := by decide +kernel
theorem dX5_setNumber_0 : decode cX5_setNumber 0 = .ok (.aload_n 0, 1) := by decide +kernel
theorem dX5_setNumber_1 : decode cX5_setNumber 1 = .ok (.getfield 15, 3) := by decide +kernel
theorem dX5_setNumber_4 : decode cX5_setNumber 4 = .ok (.ifCond .le 37, 3) := by decide +kernel
theorem dX5_setNumber_7 : decode cX5_setNumber 7 = .ok (.aload_n 0, 1) := by decide +kernel
theorem dX5_setNumber_8 : decode cX5_setNumber 8 = .ok (.getfield 15, 3) := by decide +kernel
theorem dX5_setNumber_11 : decode cX5_setNumber 11 = .ok (.bipush 16, 2) := by decide +kernel
theorem dX5_setNumber_13 : decode cX5_setNumber 13 = .ok (.if_icmp .gt 28, 3) := by decide +kernel
theorem dX5_setNumber_16 : decode cX5_setNumber 16 = .ok (.iload_n 1, 1) := by decide +kernel
theorem dX5_setNumber_17 : decode cX5_setNumber 17 = .ok (.ifCond .le 24, 3) := by decide +kernel
theorem dX5_setNumber_20 : decode cX5_setNumber 20 = .ok (.iload_n 1, 1) := by decide +kernel
theorem dX5_setNumber_21 : decode cX5_setNumber 21 = .ok (.iconst 4, 1) := by decide +kernel
theorem dX5_setNumber_22 : decode cX5_setNumber 22 = .ok (.if_icmp .ge 19, 3) := by decide +kernel
theorem dX5_setNumber_25 : decode cX5_setNumber 25 = .ok (.aload_n 0, 1) := by decide +kernel
theorem dX5_setNumber_26 : decode cX5_setNumber 26 = .ok (.getfield 9, 3) := by decide +kernel
theorem dX5_setNumber_29 : decode cX5_setNumber 29 = .ok (.aload_n 0, 1) := by decide +kernel
theorem dX5_setNumber_30 : decode cX5_setNumber 30 = .ok (.getfield 15, 3) := by decide +kernel
theorem dX5_setNumber_33 : decode cX5_setNumber 33 = .ok (.iconst 1, 1) := by decide +kernel
theorem dX5_setNumber_34 : decode cX5_setNumber 34 = .ok (.isub, 1) := by decide +kernel
theorem dX5_setNumber_35 : decode cX5_setNumber 35 = .ok (.iconst 4, 1) := by decide +kernel
theorem dX5_setNumber_36 : decode cX5_setNumber 36 = .ok (.imul, 1) := by decide +kernel
theorem dX5_setNumber_37 : decode cX5_setNumber 37 = .ok (.iload_n 1, 1) := by decide +kernel
theorem dX5_setNumber_38 : decode cX5_setNumber 38 = .ok (.iadd, 1) := by decide +kernel
theorem dX5_setNumber_39 : decode cX5_setNumber 39 = .ok (.iload_n 2, 1) := by decide +kernel
theorem dX5_setNumber_40 : decode cX5_setNumber 40 = .ok (.iastore, 1) := by decide +kernel
theorem dX5_setNumber_41 : decode cX5_setNumber 41 = .ok (.return_, 1) := by decide +kernel
theorem dX5_size_0 : decode cX5_size 0 = .ok (.aload_n 0, 1) := by decide +kernel
theorem dX5_size_1 : decode cX5_size 1 = .ok (.getfield 15, 3) := by decide +kernel
theorem dX5_size_4 : decode cX5_size 4 = .ok (.ireturn, 1) := by decide +kernel
theorem dX5_cell_0 : decode cX5_cell 0 = .ok (.iload_n 1, 1) := by decide +kernel
theorem dX5_cell_1 : decode cX5_cell 1 = .ok (.ifCond .lt 26, 3) := by decide +kernel
theorem dX5_cell_4 : decode cX5_cell 4 = .ok (.iload_n 1, 1) := by decide +kernel
theorem dX5_cell_5 : decode cX5_cell 5 = .ok (.aload_n 0, 1) := by decide +kernel
theorem dX5_cell_6 : decode cX5_cell 6 = .ok (.getfield 15, 3) := by decide +kernel
theorem dX5_cell_9 : decode cX5_cell 9 = .ok (.if_icmp .ge 18, 3) := by decide +kernel
theorem dX5_cell_12 : decode cX5_cell 12 = .ok (.iload_n 1, 1) := by decide +kernel
theorem dX5_cell_13 : decode cX5_cell 13 = .ok (.bipush 16, 2) := by decide +kernel
theorem dX5_cell_15 : decode cX5_cell 15 = .ok (.if_icmp .ge 12, 3) := by decide +kernel
theorem dX5_cell_18 : decode cX5_cell 18 = .ok (.iload_n 2, 1) := by decide +kernel
theorem dX5_cell_19 : decode cX5_cell 19 = .ok (.ifCond .lt 8, 3) := by decide +kernel
theorem dX5_cell_22 : decode cX5_cell 22 = .ok (.iload_n 2, 1) := by decide +kernel
theorem dX5_cell_23 : decode cX5_cell 23 = .ok (.iconst 4, 1) := by decide +kernel
theorem dX5_cell_24 : decode cX5_cell 24 = .ok (.if_icmp .lt 6, 3) := by decide +kernel
theorem dX5_cell_27 : decode cX5_cell 27 = .ok (.ldc 19, 2) := by decide +kernel
theorem dX5_cell_29 : decode cX5_cell 29 = .ok (.ireturn, 1) := by decide +kernel
theorem dX5_cell_30 : decode cX5_cell 30 = .ok (.aload_n 0, 1) := by decide +kernel
theorem dX5_cell_31 : decode cX5_cell 31 = .ok (.getfield 9, 3) := by decide +kernel
theorem dX5_cell_34 : decode cX5_cell 34 = .ok (.iload_n 1, 1) := by decide +kernel
theorem dX5_cell_35 : decode cX5_cell 35 = .ok (.iconst 4, 1) := by decide +kernel
theorem dX5_cell_36 : decode cX5_cell 36 = .ok (.imul, 1) := by decide +kernel
theorem dX5_cell_37 : decode cX5_cell 37 = .ok (.iload_n 2, 1) := by decide +kernel
theorem dX5_cell_38 : decode cX5_cell 38 = .ok (.iadd, 1) := by decide +kernel
theorem dX5_cell_39 : decode cX5_cell 39 = .ok (.iaload, 1) := by decide +kernel
theorem dX5_cell_40 : decode cX5_cell 40 = .ok (.ireturn, 1) := by decide +kernel
theorem dX6_init_0 : decode cX6_init 0 = .ok (.aload_n 0, 1) := by decide +kernel
theorem dX6_init_1 : decode cX6_init 1 = .ok (.invokespecial 3, 3) := by decide +kernel
theorem dX6_init_4 : decode cX6_init 4 = .ok (.aload_n 0, 1) := by decide +kernel
theorem dX6_init_5 : decode cX6_init 5 = .ok (.aload_n 1, 1) := by decide +kernel
theorem dX6_init_6 : decode cX6_init 6 = .ok (.putfield 9, 3) := by decide +kernel
theorem dX6_init_9 : decode cX6_init 9 = .ok (.return_, 1) := by decide +kernel
theorem dX6_readEntries_0 : decode cX6_readEntries 0 = .ok (.aload_n 1, 1) := by decide +kernel
theorem dX6_readEntries_1 : decode cX6_readEntries 1 = .ok (.invokevirtual 15, 3) := by decide +kernel
theorem dX6_readEntries_4 : decode cX6_readEntries 4 = .ok (.aload_n 0, 1) := by decide +kernel
theorem dX6_readEntries_5 : decode cX6_readEntries 5 = .ok (.iconst 0, 1) := by decide +kernel
theorem dX6_readEntries_6 : decode cX6_readEntries 6 = .ok (.putfield 20, 3) := by decide +kernel
theorem dX6_readEntries_9 : decode cX6_readEntries 9 = .ok (.aload_n 0, 1) := by decide +kernel
theorem dX6_readEntries_10 : decode cX6_readEntries 10 = .ok (.invokevirtual 24, 3) := by decide +kernel
theorem dX6_readEntries_13 : decode cX6_readEntries 13 = .ok (.aload_n 0, 1) := by decide +kernel
theorem dX6_readEntries_14 : decode cX6_readEntries 14 = .ok (.invokevirtual 27, 3) := by decide +kernel
theorem dX6_readEntries_17 : decode cX6_readEntries 17 = .ok (.ifCond .eq 5, 3) := by decide +kernel
theorem dX6_readEntries_20 : decode cX6_readEntries 20 = .ok (.iconst (-1), 1) := by decide +kernel
theorem dX6_readEntries_21 : decode cX6_readEntries 21 = .ok (.ireturn, 1) := by decide +kernel
theorem dX6_readEntries_22 : decode cX6_readEntries 22 = .ok (.iconst 0, 1) := by decide +kernel
theorem dX6_readEntries_23 : decode cX6_readEntries 23 = .ok (.istore_n 2, 1) := by decide +kernel
theorem dX6_readEntries_24 : decode cX6_readEntries 24 = .ok (.iload_n 2, 1) := by decide +kernel
theorem dX6_readEntries_25 : decode cX6_readEntries 25 = .ok (.sipush 240, 3) := by decide +kernel
theorem dX6_readEntries_28 : decode cX6_readEntries 28 = .ok (.if_icmp .ge 49, 3) := by decide +kernel
theorem dX6_readEntries_31 : decode cX6_readEntries 31 = .ok (.aload_n 0, 1) := by decide +kernel
theorem dX6_readEntries_32 : decode cX6_readEntries 32 = .ok (.aload_n 1, 1) := by decide +kernel
theorem dX6_readEntries_33 : decode cX6_readEntries 33 = .ok (.invokevirtual 31, 3) := by decide +kernel
theorem dX6_readEntries_36 : decode cX6_readEntries 36 = .ok (.ifCond .ne 8, 3) := by decide +kernel
theorem dX6_readEntries_39 : decode cX6_readEntries 39 = .ok (.aload_n 0, 1) := by decide +kernel
theorem dX6_readEntries_40 : decode cX6_readEntries 40 = .ok (.getfield 20, 3) := by decide +kernel
theorem dX6_readEntries_43 : decode cX6_readEntries 43 = .ok (.ireturn, 1) := by decide +kernel
theorem dX6_readEntries_44 : decode cX6_readEntries 44 = .ok (.aload_n 0, 1) := by decide +kernel
theorem dX6_readEntries_45 : decode cX6_readEntries 45 = .ok (.invokevirtual 24, 3) := by decide +kernel
theorem dX6_readEntries_48 : decode cX6_readEntries 48 = .ok (.aload_n 0, 1) := by decide +kernel
theorem dX6_readEntries_49 : decode cX6_readEntries 49 = .ok (.invokevirtual 27, 3) := by decide +kernel
theorem dX6_readEntries_52 : decode cX6_readEntries 52 = .ok (.ifCond .eq 5, 3) := by decide +kernel
theorem dX6_readEntries_55 : decode cX6_readEntries 55 = .ok (.iconst (-1), 1) := by decide +kernel
theorem dX6_readEntries_56 : decode cX6_readEntries 56 = .ok (.ireturn, 1) := by decide +kernel
theorem dX6_readEntries_57 : decode cX6_readEntries 57 = .ok (.aload_n 0, 1) := by decide +kernel
theorem dX6_readEntries_58 : decode cX6_readEntries 58 = .ok (.bipush 44, 2) := by decide +kernel
theorem dX6_readEntries_60 : decode cX6_readEntries 60 = .ok (.invokevirtual 35, 3) := by decide +kernel
theorem dX6_readEntries_63 : decode cX6_readEntries 63 = .ok (.ifCond .ne 8, 3) := by decide +kernel
theorem dX6_readEntries_66 : decode cX6_readEntries 66 = .ok (.aload_n 0, 1) := by decide +kernel
theorem dX6_readEntries_67 : decode cX6_readEntries 67 = .ok (.getfield 20, 3) := by decide +kernel
theorem dX6_readEntries_70 : decode cX6_readEntries 70 = .ok (.ireturn, 1) := by decide +kernel
theorem dX6_readEntries_71 : decode cX6_readEntries 71 = .ok (.iinc 2 1, 3) := by decide +kernel
theorem dX6_readEntries_74 : decode cX6_readEntries 74 = .ok (.goto (-50), 3) := by decide +kernel
theorem dX6_readEntries_77 : decode cX6_readEntries 77 = .ok (.aload_n 0, 1) := by decide +kernel
theorem dX6_readEntries_78 : decode cX6_readEntries 78 = .ok (.getfield 20, 3) := by decide +kernel
theorem dX6_readEntries_81 : decode cX6_readEntries 81 = .ok (.ireturn, 1) := by decide +kernel
theorem dX6_readEntry_0 : decode cX6_readEntry 0 = .ok (.aload_n 0, 1) := by decide +kernel
theorem dX6_readEntry_1 : decode cX6_readEntry 1 = .ok (.iconst 0, 1) := by decide +kernel
theorem dX6_readEntry_2 : decode cX6_readEntry 2 = .ok (.invokevirtual 39, 3) := by decide +kernel
theorem dX6_readEntry_5 : decode cX6_readEntry 5 = .ok (.istore_n 2, 1) := by decide +kernel
theorem dX6_readEntry_6 : decode cX6_readEntry 6 = .ok (.iload_n 2, 1) := by decide +kernel
theorem dX6_readEntry_7 : decode cX6_readEntry 7 = .ok (.ldc 43, 2) := by decide +kernel
theorem dX6_readEntry_9 : decode cX6_readEntry 9 = .ok (.if_icmp .eq 12, 3) := by decide +kernel
theorem dX6_readEntry_12 : decode cX6_readEntry 12 = .ok (.aload_n 0, 1) := by decide +kernel
theorem dX6_readEntry_13 : decode cX6_readEntry 13 = .ok (.bipush 58, 2) := by decide +kernel
theorem dX6_readEntry_15 : decode cX6_readEntry 15 = .ok (.invokevirtual 35, 3) := by decide +kernel
theorem dX6_readEntry_18 : decode cX6_readEntry 18 = .ok (.ifCond .ne 5, 3) := by decide +kernel
theorem dX6_readEntry_21 : decode cX6_readEntry 21 = .ok (.iconst 0, 1) := by decide +kernel
theorem dX6_readEntry_22 : decode cX6_readEntry 22 = .ok (.ireturn, 1) := by decide +kernel
theorem dX6_readEntry_23 : decode cX6_readEntry 23 = .ok (.aload_n 0, 1) := by decide +kernel
theorem dX6_readEntry_24 : decode cX6_readEntry 24 = .ok (.iconst 1, 1) := by decide +kernel
theorem dX6_readEntry_25 : decode cX6_readEntry 25 = .ok (.invokevirtual 39, 3) := by decide +kernel
theorem dX6_readEntry_28 : decode cX6_readEntry 28 = .ok (.istore_n 3, 1) := by decide +kernel
theorem dX6_readEntry_29 : decode cX6_readEntry 29 = .ok (.iload_n 3, 1) := by decide +kernel
theorem dX6_readEntry_30 : decode cX6_readEntry 30 = .ok (.ldc 43, 2) := by decide +kernel
theorem dX6_readEntry_32 : decode cX6_readEntry 32 = .ok (.if_icmp .ne 5, 3) := by decide +kernel
theorem dX6_readEntry_35 : decode cX6_readEntry 35 = .ok (.iconst 0, 1) := by decide +kernel
theorem dX6_readEntry_36 : decode cX6_readEntry 36 = .ok (.ireturn, 1) := by decide +kernel
theorem dX6_readEntry_37 : decode cX6_readEntry 37 = .ok (.aload_n 1, 1) := by decide +kernel
theorem dX6_readEntry_38 : decode cX6_readEntry 38 = .ok (.iload_n 2, 1) := by decide +kernel
theorem dX6_readEntry_39 : decode cX6_readEntry 39 = .ok (.iload_n 3, 1) := by decide +kernel
theorem dX6_readEntry_40 : decode cX6_readEntry 40 = .ok (.invokevirtual 44, 3) := by decide +kernel
theorem dX6_readEntry_43 : decode cX6_readEntry 43 = .ok (.iconst 1, 1) := by decide +kernel
theorem dX6_readEntry_44 : decode cX6_readEntry 44 = .ok (.ireturn, 1) := by decide +kernel
theorem dX6_readSteps_0 : decode cX6_readSteps 0 = .ok (.aload_n 1, 1) := by decide +kernel
theorem dX6_readSteps_1 : decode cX6_readSteps 1 = .ok (.invokevirtual 48, 3) := by decide +kernel
theorem dX6_readSteps_4 : decode cX6_readSteps 4 = .ok (.aload_n 0, 1) := by decide +kernel
theorem dX6_readSteps_5 : decode cX6_readSteps 5 = .ok (.iconst 0, 1) := by decide +kernel
theorem dX6_readSteps_6 : decode cX6_readSteps 6 = .ok (.putfield 20, 3) := by decide +kernel
theorem dX6_readSteps_9 : decode cX6_readSteps 9 = .ok (.iconst 1, 1) := by decide +kernel
theorem dX6_readSteps_10 : decode cX6_readSteps 10 = .ok (.istore_n 2, 1) := by decide +kernel
theorem dX6_readSteps_11 : decode cX6_readSteps 11 = .ok (.iload_n 2, 1) := by decide +kernel
theorem dX6_readSteps_12 : decode cX6_readSteps 12 = .ok (.bipush 16, 2) := by decide +kernel
theorem dX6_readSteps_14 : decode cX6_readSteps 14 = .ok (.if_icmp .gt 55, 3) := by decide +kernel
theorem dX6_readSteps_17 : decode cX6_readSteps 17 = .ok (.aload_n 0, 1) := by decide +kernel
theorem dX6_readSteps_18 : decode cX6_readSteps 18 = .ok (.aload_n 1, 1) := by decide +kernel
theorem dX6_readSteps_19 : decode cX6_readSteps 19 = .ok (.invokevirtual 51, 3) := by decide +kernel
theorem dX6_readSteps_22 : decode cX6_readSteps 22 = .ok (.ifCond .ne 8, 3) := by decide +kernel
theorem dX6_readSteps_25 : decode cX6_readSteps 25 = .ok (.aload_n 0, 1) := by decide +kernel
theorem dX6_readSteps_26 : decode cX6_readSteps 26 = .ok (.getfield 20, 3) := by decide +kernel
theorem dX6_readSteps_29 : decode cX6_readSteps 29 = .ok (.ireturn, 1) := by decide +kernel
theorem dX6_readSteps_30 : decode cX6_readSteps 30 = .ok (.aload_n 0, 1) := by decide +kernel
theorem dX6_readSteps_31 : decode cX6_readSteps 31 = .ok (.invokevirtual 24, 3) := by decide +kernel
theorem dX6_readSteps_34 : decode cX6_readSteps 34 = .ok (.aload_n 0, 1) := by decide +kernel
theorem dX6_readSteps_35 : decode cX6_readSteps 35 = .ok (.invokevirtual 27, 3) := by decide +kernel
theorem dX6_readSteps_38 : decode cX6_readSteps 38 = .ok (.ifCond .eq 5, 3) := by decide +kernel
theorem dX6_readSteps_41 : decode cX6_readSteps 41 = .ok (.iconst (-1), 1) := by decide +kernel
theorem dX6_readSteps_42 : decode cX6_readSteps 42 = .ok (.ireturn, 1) := by decide +kernel
theorem dX6_readSteps_43 : decode cX6_readSteps 43 = .ok (.iload_n 2, 1) := by decide +kernel
theorem dX6_readSteps_44 : decode cX6_readSteps 44 = .ok (.bipush 16, 2) := by decide +kernel
theorem dX6_readSteps_46 : decode cX6_readSteps 46 = .ok (.if_icmp .eq 12, 3) := by decide +kernel
theorem dX6_readSteps_49 : decode cX6_readSteps 49 = .ok (.aload_n 0, 1) := by decide +kernel
theorem dX6_readSteps_50 : decode cX6_readSteps 50 = .ok (.bipush 59, 2) := by decide +kernel
theorem dX6_readSteps_52 : decode cX6_readSteps 52 = .ok (.invokevirtual 35, 3) := by decide +kernel
theorem dX6_readSteps_55 : decode cX6_readSteps 55 = .ok (.ifCond .ne 8, 3) := by decide +kernel
theorem dX6_readSteps_58 : decode cX6_readSteps 58 = .ok (.aload_n 0, 1) := by decide +kernel
theorem dX6_readSteps_59 : decode cX6_readSteps 59 = .ok (.getfield 20, 3) := by decide +kernel
theorem dX6_readSteps_62 : decode cX6_readSteps 62 = .ok (.ireturn, 1) := by decide +kernel
theorem dX6_readSteps_63 : decode cX6_readSteps 63 = .ok (.iinc 2 1, 3) := by decide +kernel
theorem dX6_readSteps_66 : decode cX6_readSteps 66 = .ok (.goto (-55), 3) := by decide +kernel
theorem dX6_readSteps_69 : decode cX6_readSteps 69 = .ok (.aload_n 0, 1) := by decide +kernel
theorem dX6_readSteps_70 : decode cX6_readSteps 70 = .ok (.getfield 20, 3) := by decide +kernel
theorem dX6_readSteps_73 : decode cX6_readSteps 73 = .ok (.ireturn, 1) := by decide +kernel
theorem dX6_readStep_0 : decode cX6_readStep 0 = .ok (.aload_n 0, 1) := by decide +kernel
theorem dX6_readStep_1 : decode cX6_readStep 1 = .ok (.invokevirtual 55, 3) := by decide +kernel
theorem dX6_readStep_4 : decode cX6_readStep 4 = .ok (.istore_n 2, 1) := by decide +kernel
theorem dX6_readStep_5 : decode cX6_readStep 5 = .ok (.iload_n 2, 1) := by decide +kernel
theorem dX6_readStep_6 : decode cX6_readStep 6 = .ok (.ifCond .lt 19, 3) := by decide +kernel
theorem dX6_readStep_9 : decode cX6_readStep 9 = .ok (.iload_n 2, 1) := by decide +kernel
theorem dX6_readStep_10 : decode cX6_readStep 10 = .ok (.getstatic 59, 3) := by decide +kernel
theorem dX6_readStep_13 : decode cX6_readStep 13 = .ok (.arraylength, 1) := by decide +kernel
theorem dX6_readStep_14 : decode cX6_readStep 14 = .ok (.if_icmp .ge 11, 3) := by decide +kernel
theorem dX6_readStep_17 : decode cX6_readStep 17 = .ok (.iload_n 2, 1) := by decide +kernel
theorem dX6_readStep_18 : decode cX6_readStep 18 = .ok (.getstatic 63, 3) := by decide +kernel
theorem dX6_readStep_21 : decode cX6_readStep 21 = .ok (.arraylength, 1) := by decide +kernel
theorem dX6_readStep_22 : decode cX6_readStep 22 = .ok (.if_icmp .lt 5, 3) := by decide +kernel
theorem dX6_readStep_25 : decode cX6_readStep 25 = .ok (.iconst 0, 1) := by decide +kernel
theorem dX6_readStep_26 : decode cX6_readStep 26 = .ok (.ireturn, 1) := by decide +kernel
theorem dX6_readStep_27 : decode cX6_readStep 27 = .ok (.aload_n 1, 1) := by decide +kernel
theorem dX6_readStep_28 : decode cX6_readStep 28 = .ok (.iload_n 2, 1) := by decide +kernel
theorem dX6_readStep_29 : decode cX6_readStep 29 = .ok (.invokevirtual 66, 3) := by decide +kernel
theorem dX6_readStep_32 : decode cX6_readStep 32 = .ok (.getstatic 59, 3) := by decide +kernel
theorem dX6_readStep_35 : decode cX6_readStep 35 = .ok (.iload_n 2, 1) := by decide +kernel
theorem dX6_readStep_36 : decode cX6_readStep 36 = .ok (.iaload, 1) := by decide +kernel
theorem dX6_readStep_37 : decode cX6_readStep 37 = .ok (.istore_n 3, 1) := by decide +kernel
theorem dX6_readStep_38 : decode cX6_readStep 38 = .ok (.iload_n 3, 1) := by decide +kernel
theorem dX6_readStep_39 : decode cX6_readStep 39 = .ok (.getstatic 63, 3) := by decide +kernel
theorem dX6_readStep_42 : decode cX6_readStep 42 = .ok (.iload_n 2, 1) := by decide +kernel
theorem dX6_readStep_43 : decode cX6_readStep 43 = .ok (.iaload, 1) := by decide +kernel
theorem dX6_readStep_44 : decode cX6_readStep 44 = .ok (.iadd, 1) := by decide +kernel
theorem dX6_readStep_45 : decode cX6_readStep 45 = .ok (.istore 4, 2) := by decide +kernel
theorem dX6_readStep_47 : decode cX6_readStep 47 = .ok (.iconst 1, 1) := by decide +kernel
theorem dX6_readStep_48 : decode cX6_readStep 48 = .ok (.istore 5, 2) := by decide +kernel
theorem dX6_readStep_50 : decode cX6_readStep 50 = .ok (.iload 5, 2) := by decide +kernel
theorem dX6_readStep_52 : decode cX6_readStep 52 = .ok (.iload 4, 2) := by decide +kernel
theorem dX6_readStep_54 : decode cX6_readStep 54 = .ok (.if_icmp .gt 43, 3) := by decide +kernel
theorem dX6_readStep_57 : decode cX6_readStep 57 = .ok (.aload_n 0, 1) := by decide +kernel
theorem dX6_readStep_58 : decode cX6_readStep 58 = .ok (.iload 5, 2) := by decide +kernel
theorem dX6_readStep_60 : decode cX6_readStep 60 = .ok (.iload_n 3, 1) := by decide +kernel
theorem dX6_readStep_61 : decode cX6_readStep 61 = .ok (.if_icmp .le 7, 3) := by decide +kernel
theorem dX6_readStep_64 : decode cX6_readStep 64 = .ok (.iconst 1, 1) := by decide +kernel
theorem dX6_readStep_65 : decode cX6_readStep 65 = .ok (.goto 4, 3) := by decide +kernel
theorem dX6_readStep_68 : decode cX6_readStep 68 = .ok (.iconst 0, 1) := by decide +kernel
theorem dX6_readStep_69 : decode cX6_readStep 69 = .ok (.invokevirtual 39, 3) := by decide +kernel
theorem dX6_readStep_72 : decode cX6_readStep 72 = .ok (.istore 6, 2) := by decide +kernel
theorem dX6_readStep_74 : decode cX6_readStep 74 = .ok (.iload 6, 2) := by decide +kernel
theorem dX6_readStep_76 : decode cX6_readStep 76 = .ok (.ldc 43, 2) := by decide +kernel
theorem dX6_readStep_78 : decode cX6_readStep 78 = .ok (.if_icmp .ne 5, 3) := by decide +kernel
theorem dX6_readStep_81 : decode cX6_readStep 81 = .ok (.iconst 0, 1) := by decide +kernel
theorem dX6_readStep_82 : decode cX6_readStep 82 = .ok (.ireturn, 1) := by decide +kernel
theorem dX6_readStep_83 : decode cX6_readStep 83 = .ok (.aload_n 1, 1) := by decide +kernel
theorem dX6_readStep_84 : decode cX6_readStep 84 = .ok (.iload 5, 2) := by decide +kernel
theorem dX6_readStep_86 : decode cX6_readStep 86 = .ok (.iload 6, 2) := by decide +kernel
theorem dX6_readStep_88 : decode cX6_readStep 88 = .ok (.invokevirtual 69, 3) := by decide +kernel
theorem dX6_readStep_91 : decode cX6_readStep 91 = .ok (.iinc 5 1, 3) := by decide +kernel
theorem dX6_readStep_94 : decode cX6_readStep 94 = .ok (.goto (-44), 3) := by decide +kernel
theorem dX6_readStep_97 : decode cX6_readStep 97 = .ok (.iconst 1, 1) := by decide +kernel
theorem dX6_readStep_98 : decode cX6_readStep 98 = .ok (.ireturn, 1) := by decide +kernel
theorem dX6_readWord_0 : decode cX6_readWord 0 = .ok (.aload_n 0, 1) := by decide +kernel
theorem dX6_readWord_1 : decode cX6_readWord 1 = .ok (.invokevirtual 24, 3) := by decide +kernel
theorem dX6_readWord_4 : decode cX6_readWord 4 = .ok (.aload_n 0, 1) := by decide +kernel
theorem dX6_readWord_5 : decode cX6_readWord 5 = .ok (.getfield 9, 3) := by decide +kernel
theorem dX6_readWord_8 : decode cX6_readWord 8 = .ok (.aload_n 0, 1) := by decide +kernel
theorem dX6_readWord_9 : decode cX6_readWord 9 = .ok (.getfield 20, 3) := by decide +kernel
theorem dX6_readWord_12 : decode cX6_readWord 12 = .ok (.invokevirtual 72, 3) := by decide +kernel
theorem dX6_readWord_15 : decode cX6_readWord 15 = .ok (.invokestatic 78, 3) := by decide +kernel
theorem dX6_readWord_18 : decode cX6_readWord 18 = .ok (.istore_n 1, 1) := by decide +kernel
theorem dX6_readWord_19 : decode cX6_readWord 19 = .ok (.iload_n 1, 1) := by decide +kernel
theorem dX6_readWord_20 : decode cX6_readWord 20 = .ok (.invokestatic 81, 3) := by decide +kernel
theorem dX6_readWord_23 : decode cX6_readWord 23 = .ok (.astore_n 2, 1) := by decide +kernel
theorem dX6_readWord_24 : decode cX6_readWord 24 = .ok (.iconst 0, 1) := by decide +kernel
theorem dX6_readWord_25 : decode cX6_readWord 25 = .ok (.istore_n 3, 1) := by decide +kernel
theorem dX6_readWord_26 : decode cX6_readWord 26 = .ok (.iload_n 3, 1) := by decide +kernel
theorem dX6_readWord_27 : decode cX6_readWord 27 = .ok (.aload_n 2, 1) := by decide +kernel
theorem dX6_readWord_28 : decode cX6_readWord 28 = .ok (.invokevirtual 85, 3) := by decide +kernel
theorem dX6_readWord_31 : decode cX6_readWord 31 = .ok (.if_icmp .ge 40, 3) := by decide +kernel
theorem dX6_readWord_34 : decode cX6_readWord 34 = .ok (.aload_n 0, 1) := by decide +kernel
theorem dX6_readWord_35 : decode cX6_readWord 35 = .ok (.getfield 9, 3) := by decide +kernel
theorem dX6_readWord_38 : decode cX6_readWord 38 = .ok (.aload_n 0, 1) := by decide +kernel
theorem dX6_readWord_39 : decode cX6_readWord 39 = .ok (.getfield 20, 3) := by decide +kernel
theorem dX6_readWord_42 : decode cX6_readWord 42 = .ok (.invokevirtual 72, 3) := by decide +kernel
theorem dX6_readWord_45 : decode cX6_readWord 45 = .ok (.aload_n 2, 1) := by decide +kernel
theorem dX6_readWord_46 : decode cX6_readWord 46 = .ok (.iload_n 3, 1) := by decide +kernel
theorem dX6_readWord_47 : decode cX6_readWord 47 = .ok (.invokevirtual 90, 3) := by decide +kernel
theorem dX6_readWord_50 : decode cX6_readWord 50 = .ok (.if_icmp .eq 5, 3) := by decide +kernel
theorem dX6_readWord_53 : decode cX6_readWord 53 = .ok (.iconst (-1), 1) := by decide +kernel
theorem dX6_readWord_54 : decode cX6_readWord 54 = .ok (.ireturn, 1) := by decide +kernel
theorem dX6_readWord_55 : decode cX6_readWord 55 = .ok (.aload_n 0, 1) := by decide +kernel
theorem dX6_readWord_56 : decode cX6_readWord 56 = .ok (.dup, 1) := by decide +kernel
theorem dX6_readWord_57 : decode cX6_readWord 57 = .ok (.getfield 20, 3) := by decide +kernel
theorem dX6_readWord_60 : decode cX6_readWord 60 = .ok (.iconst 1, 1) := by decide +kernel
theorem dX6_readWord_61 : decode cX6_readWord 61 = .ok (.iadd, 1) := by decide +kernel
theorem dX6_readWord_62 : decode cX6_readWord 62 = .ok (.putfield 20, 3) := by decide +kernel
theorem dX6_readWord_65 : decode cX6_readWord 65 = .ok (.iinc 3 1, 3) := by decide +kernel
theorem dX6_readWord_68 : decode cX6_readWord 68 = .ok (.goto (-42), 3) := by decide +kernel
theorem dX6_readWord_71 : decode cX6_readWord 71 = .ok (.iload_n 1, 1) := by decide +kernel
theorem dX6_readWord_72 : decode cX6_readWord 72 = .ok (.ireturn, 1) := by decide +kernel
theorem dX6_wordBeginning_0 : decode cX6_wordBeginning 0 = .ok (.iload_n 0, 1) := by decide +kernel
theorem dX6_wordBeginning_1 : decode cX6_wordBeginning 1 = .ok (.tableswitch 103 97 115 #[95, 103, 97, 93, 103, 103, 103, 103, 99, 103, 103, 103, 103, 103, 103, 91, 103, 103, 101], 91) := by decide +kernel
theorem dX6_wordBeginning_92 : decode cX6_wordBeginning 92 = .ok (.iconst 0, 1) := by decide +kernel
theorem dX6_wordBeginning_93 : decode cX6_wordBeginning 93 = .ok (.ireturn, 1) := by decide +kernel
theorem dX6_wordBeginning_94 : decode cX6_wordBeginning 94 = .ok (.iconst 1, 1) := by decide +kernel
theorem dX6_wordBeginning_95 : decode cX6_wordBeginning 95 = .ok (.ireturn, 1) := by decide +kernel
theorem dX6_wordBeginning_96 : decode cX6_wordBeginning 96 = .ok (.iconst 2, 1) := by decide +kernel
theorem dX6_wordBeginning_97 : decode cX6_wordBeginning 97 = .ok (.ireturn, 1) := by decide +kernel
theorem dX6_wordBeginning_98 : decode cX6_wordBeginning 98 = .ok (.iconst 3, 1) := by decide +kernel
theorem dX6_wordBeginning_99 : decode cX6_wordBeginning 99 = .ok (.ireturn, 1) := by decide +kernel
theorem dX6_wordBeginning_100 : decode cX6_wordBeginning 100 = .ok (.iconst 4, 1) := by decide +kernel
theorem dX6_wordBeginning_101 : decode cX6_wordBeginning 101 = .ok (.ireturn, 1) := by decide +kernel
theorem dX6_wordBeginning_102 : decode cX6_wordBeginning 102 = .ok (.iconst 5, 1) := by decide +kernel
theorem dX6_wordBeginning_103 : decode cX6_wordBeginning 103 = .ok (.ireturn, 1) := by decide +kernel
theorem dX6_wordBeginning_104 : decode cX6_wordBeginning 104 = .ok (.iconst (-1), 1) := by decide +kernel
theorem dX6_wordBeginning_105 : decode cX6_wordBeginning 105 = .ok (.ireturn, 1) := by decide +kernel
theorem dX6_lettersOf_0 : decode cX6_lettersOf 0 = .ok (.iload_n 0, 1) := by decide +kernel
theorem dX6_lettersOf_1 : decode cX6_lettersOf 1 = .ok (.tableswitch 57 0 5 #[39, 42, 45, 48, 51, 54], 39) := by decide +kernel
theorem dX6_lettersOf_40 : decode cX6_lettersOf 40 = .ok (.ldc 94, 2) := by decide +kernel
theorem dX6_lettersOf_42 : decode cX6_lettersOf 42 = .ok (.areturn, 1) := by decide +kernel
theorem dX6_lettersOf_43 : decode cX6_lettersOf 43 = .ok (.ldc 96, 2) := by decide +kernel
theorem dX6_lettersOf_45 : decode cX6_lettersOf 45 = .ok (.areturn, 1) := by decide +kernel
theorem dX6_lettersOf_46 : decode cX6_lettersOf 46 = .ok (.ldc 98, 2) := by decide +kernel
theorem dX6_lettersOf_48 : decode cX6_lettersOf 48 = .ok (.areturn, 1) := by decide +kernel
theorem dX6_lettersOf_49 : decode cX6_lettersOf 49 = .ok (.ldc 100, 2) := by decide +kernel
theorem dX6_lettersOf_51 : decode cX6_lettersOf 51 = .ok (.areturn, 1) := by decide +kernel
theorem dX6_lettersOf_52 : decode cX6_lettersOf 52 = .ok (.ldc 102, 2) := by decide +kernel
theorem dX6_lettersOf_54 : decode cX6_lettersOf 54 = .ok (.areturn, 1) := by decide +kernel
theorem dX6_lettersOf_55 : decode cX6_lettersOf 55 = .ok (.ldc 104, 2) := by decide +kernel
theorem dX6_lettersOf_57 : decode cX6_lettersOf 57 = .ok (.areturn, 1) := by decide +kernel
theorem dX6_lettersOf_58 : decode cX6_lettersOf 58 = .ok (.ldc 106, 2) := by decide +kernel
theorem dX6_lettersOf_60 : decode cX6_lettersOf 60 = .ok (.areturn, 1) := by decide +kernel
theorem dX6_readNumber_0 : decode cX6_readNumber 0 = .ok (.aload_n 0, 1) := by decide +kernel
theorem dX6_readNumber_1 : decode cX6_readNumber 1 = .ok (.invokevirtual 24, 3) := by decide +kernel
theorem dX6_readNumber_4 : decode cX6_readNumber 4 = .ok (.iload_n 1, 1) := by decide +kernel
theorem dX6_readNumber_5 : decode cX6_readNumber 5 = .ok (.ifCond .eq 23, 3) := by decide +kernel
theorem dX6_readNumber_8 : decode cX6_readNumber 8 = .ok (.aload_n 0, 1) := by decide +kernel
theorem dX6_readNumber_9 : decode cX6_readNumber 9 = .ok (.getfield 9, 3) := by decide +kernel
theorem dX6_readNumber_12 : decode cX6_readNumber 12 = .ok (.aload_n 0, 1) := by decide +kernel
theorem dX6_readNumber_13 : decode cX6_readNumber 13 = .ok (.getfield 20, 3) := by decide +kernel
theorem dX6_readNumber_16 : decode cX6_readNumber 16 = .ok (.invokevirtual 72, 3) := by decide +kernel
theorem dX6_readNumber_19 : decode cX6_readNumber 19 = .ok (.bipush 45, 2) := by decide +kernel
theorem dX6_readNumber_21 : decode cX6_readNumber 21 = .ok (.if_icmp .ne 7, 3) := by decide +kernel
theorem dX6_readNumber_24 : decode cX6_readNumber 24 = .ok (.iconst 1, 1) := by decide +kernel
theorem dX6_readNumber_25 : decode cX6_readNumber 25 = .ok (.goto 4, 3) := by decide +kernel
theorem dX6_readNumber_28 : decode cX6_readNumber 28 = .ok (.iconst 0, 1) := by decide +kernel
theorem dX6_readNumber_29 : decode cX6_readNumber 29 = .ok (.istore_n 2, 1) := by decide +kernel
theorem dX6_readNumber_30 : decode cX6_readNumber 30 = .ok (.iload_n 2, 1) := by decide +kernel
theorem dX6_readNumber_31 : decode cX6_readNumber 31 = .ok (.ifCond .eq 13, 3) := by decide +kernel
theorem dX6_readNumber_34 : decode cX6_readNumber 34 = .ok (.aload_n 0, 1) := by decide +kernel
theorem dX6_readNumber_35 : decode cX6_readNumber 35 = .ok (.dup, 1) := by decide +kernel
theorem dX6_readNumber_36 : decode cX6_readNumber 36 = .ok (.getfield 20, 3) := by decide +kernel
theorem dX6_readNumber_39 : decode cX6_readNumber 39 = .ok (.iconst 1, 1) := by decide +kernel
theorem dX6_readNumber_40 : decode cX6_readNumber 40 = .ok (.iadd, 1) := by decide +kernel
theorem dX6_readNumber_41 : decode cX6_readNumber 41 = .ok (.putfield 20, 3) := by decide +kernel
theorem dX6_readNumber_44 : decode cX6_readNumber 44 = .ok (.iconst 0, 1) := by decide +kernel
theorem dX6_readNumber_45 : decode cX6_readNumber 45 = .ok (.istore_n 3, 1) := by decide +kernel
theorem dX6_readNumber_46 : decode cX6_readNumber 46 = .ok (.iconst 0, 1) := by decide +kernel
theorem dX6_readNumber_47 : decode cX6_readNumber 47 = .ok (.istore 4, 2) := by decide +kernel
theorem dX6_readNumber_49 : decode cX6_readNumber 49 = .ok (.iload 4, 2) := by decide +kernel
theorem dX6_readNumber_51 : decode cX6_readNumber 51 = .ok (.iconst 3, 1) := by decide +kernel
theorem dX6_readNumber_52 : decode cX6_readNumber 52 = .ok (.if_icmp .ge 56, 3) := by decide +kernel
theorem dX6_readNumber_55 : decode cX6_readNumber 55 = .ok (.aload_n 0, 1) := by decide +kernel
theorem dX6_readNumber_56 : decode cX6_readNumber 56 = .ok (.getfield 9, 3) := by decide +kernel
theorem dX6_readNumber_59 : decode cX6_readNumber 59 = .ok (.aload_n 0, 1) := by decide +kernel
theorem dX6_readNumber_60 : decode cX6_readNumber 60 = .ok (.getfield 20, 3) := by decide +kernel
theorem dX6_readNumber_63 : decode cX6_readNumber 63 = .ok (.invokevirtual 72, 3) := by decide +kernel
theorem dX6_readNumber_66 : decode cX6_readNumber 66 = .ok (.invokestatic 108, 3) := by decide +kernel
theorem dX6_readNumber_69 : decode cX6_readNumber 69 = .ok (.ifCond .eq 39, 3) := by decide +kernel
theorem dX6_readNumber_72 : decode cX6_readNumber 72 = .ok (.iload_n 3, 1) := by decide +kernel
theorem dX6_readNumber_73 : decode cX6_readNumber 73 = .ok (.bipush 10, 2) := by decide +kernel
theorem dX6_readNumber_75 : decode cX6_readNumber 75 = .ok (.imul, 1) := by decide +kernel
theorem dX6_readNumber_76 : decode cX6_readNumber 76 = .ok (.aload_n 0, 1) := by decide +kernel
theorem dX6_readNumber_77 : decode cX6_readNumber 77 = .ok (.getfield 9, 3) := by decide +kernel
theorem dX6_readNumber_80 : decode cX6_readNumber 80 = .ok (.aload_n 0, 1) := by decide +kernel
theorem dX6_readNumber_81 : decode cX6_readNumber 81 = .ok (.getfield 20, 3) := by decide +kernel
theorem dX6_readNumber_84 : decode cX6_readNumber 84 = .ok (.invokevirtual 72, 3) := by decide +kernel
theorem dX6_readNumber_87 : decode cX6_readNumber 87 = .ok (.iadd, 1) := by decide +kernel
theorem dX6_readNumber_88 : decode cX6_readNumber 88 = .ok (.bipush 48, 2) := by decide +kernel
theorem dX6_readNumber_90 : decode cX6_readNumber 90 = .ok (.isub, 1) := by decide +kernel
theorem dX6_readNumber_91 : decode cX6_readNumber 91 = .ok (.istore_n 3, 1) := by decide +kernel
theorem dX6_readNumber_92 : decode cX6_readNumber 92 = .ok (.aload_n 0, 1) := by decide +kernel
theorem dX6_readNumber_93 : decode cX6_readNumber 93 = .ok (.dup, 1) := by decide +kernel
theorem dX6_readNumber_94 : decode cX6_readNumber 94 = .ok (.getfield 20, 3) := by decide +kernel
theorem dX6_readNumber_97 : decode cX6_readNumber 97 = .ok (.iconst 1, 1) := by decide +kernel
theorem dX6_readNumber_98 : decode cX6_readNumber 98 = .ok (.iadd, 1) := by decide +kernel
theorem dX6_readNumber_99 : decode cX6_readNumber 99 = .ok (.putfield 20, 3) := by decide +kernel
theorem dX6_readNumber_102 : decode cX6_readNumber 102 = .ok (.iinc 4 1, 3) := by decide +kernel
theorem dX6_readNumber_105 : decode cX6_readNumber 105 = .ok (.goto (-56), 3) := by decide +kernel
theorem dX6_readNumber_108 : decode cX6_readNumber 108 = .ok (.iload 4, 2) := by decide +kernel
theorem dX6_readNumber_110 : decode cX6_readNumber 110 = .ok (.ifCond .eq 20, 3) := by decide +kernel
theorem dX6_readNumber_113 : decode cX6_readNumber 113 = .ok (.aload_n 0, 1) := by decide +kernel
theorem dX6_readNumber_114 : decode cX6_readNumber 114 = .ok (.getfield 9, 3) := by decide +kernel
theorem dX6_readNumber_117 : decode cX6_readNumber 117 = .ok (.aload_n 0, 1) := by decide +kernel
theorem dX6_readNumber_118 : decode cX6_readNumber 118 = .ok (.getfield 20, 3) := by decide +kernel
theorem dX6_readNumber_121 : decode cX6_readNumber 121 = .ok (.invokevirtual 72, 3) := by decide +kernel
theorem dX6_readNumber_124 : decode cX6_readNumber 124 = .ok (.invokestatic 108, 3) := by decide +kernel
theorem dX6_readNumber_127 : decode cX6_readNumber 127 = .ok (.ifCond .eq 6, 3) := by decide +kernel
theorem dX6_readNumber_130 : decode cX6_readNumber 130 = .ok (.ldc 43, 2) := by decide +kernel
theorem dX6_readNumber_132 : decode cX6_readNumber 132 = .ok (.ireturn, 1) := by decide +kernel
theorem dX6_readNumber_133 : decode cX6_readNumber 133 = .ok (.iload_n 2, 1) := by decide +kernel
theorem dX6_readNumber_134 : decode cX6_readNumber 134 = .ok (.ifCond .eq 8, 3) := by decide +kernel
theorem dX6_readNumber_137 : decode cX6_readNumber 137 = .ok (.iload_n 3, 1) := by decide +kernel
theorem dX6_readNumber_138 : decode cX6_readNumber 138 = .ok (.ineg, 1) := by decide +kernel
theorem dX6_readNumber_139 : decode cX6_readNumber 139 = .ok (.goto 4, 3) := by decide +kernel
theorem dX6_readNumber_142 : decode cX6_readNumber 142 = .ok (.iload_n 3, 1) := by decide +kernel
theorem dX6_readNumber_143 : decode cX6_readNumber 143 = .ok (.ireturn, 1) := by decide +kernel
theorem dX6_passes_0 : decode cX6_passes 0 = .ok (.aload_n 0, 1) := by decide +kernel
theorem dX6_passes_1 : decode cX6_passes 1 = .ok (.invokevirtual 24, 3) := by decide +kernel
theorem dX6_passes_4 : decode cX6_passes 4 = .ok (.aload_n 0, 1) := by decide +kernel
theorem dX6_passes_5 : decode cX6_passes 5 = .ok (.getfield 9, 3) := by decide +kernel
theorem dX6_passes_8 : decode cX6_passes 8 = .ok (.aload_n 0, 1) := by decide +kernel
theorem dX6_passes_9 : decode cX6_passes 9 = .ok (.getfield 20, 3) := by decide +kernel
theorem dX6_passes_12 : decode cX6_passes 12 = .ok (.invokevirtual 72, 3) := by decide +kernel
theorem dX6_passes_15 : decode cX6_passes 15 = .ok (.iload_n 1, 1) := by decide +kernel
theorem dX6_passes_16 : decode cX6_passes 16 = .ok (.if_icmp .eq 5, 3) := by decide +kernel
theorem dX6_passes_19 : decode cX6_passes 19 = .ok (.iconst 0, 1) := by decide +kernel
theorem dX6_passes_20 : decode cX6_passes 20 = .ok (.ireturn, 1) := by decide +kernel
theorem dX6_passes_21 : decode cX6_passes 21 = .ok (.aload_n 0, 1) := by decide +kernel
theorem dX6_passes_22 : decode cX6_passes 22 = .ok (.dup, 1) := by decide +kernel
theorem dX6_passes_23 : decode cX6_passes 23 = .ok (.getfield 20, 3) := by decide +kernel
theorem dX6_passes_26 : decode cX6_passes 26 = .ok (.iconst 1, 1) := by decide +kernel
theorem dX6_passes_27 : decode cX6_passes 27 = .ok (.iadd, 1) := by decide +kernel
theorem dX6_passes_28 : decode cX6_passes 28 = .ok (.putfield 20, 3) := by decide +kernel
theorem dX6_passes_31 : decode cX6_passes 31 = .ok (.iconst 1, 1) := by decide +kernel
theorem dX6_passes_32 : decode cX6_passes 32 = .ok (.ireturn, 1) := by decide +kernel
theorem dX6_skipBlanks_0 : decode cX6_skipBlanks 0 = .ok (.iconst 0, 1) := by decide +kernel
theorem dX6_skipBlanks_1 : decode cX6_skipBlanks 1 = .ok (.istore_n 1, 1) := by decide +kernel
theorem dX6_skipBlanks_2 : decode cX6_skipBlanks 2 = .ok (.iload_n 1, 1) := by decide +kernel
theorem dX6_skipBlanks_3 : decode cX6_skipBlanks 3 = .ok (.sipush 240, 3) := by decide +kernel
theorem dX6_skipBlanks_6 : decode cX6_skipBlanks 6 = .ok (.if_icmp .ge 35, 3) := by decide +kernel
theorem dX6_skipBlanks_9 : decode cX6_skipBlanks 9 = .ok (.aload_n 0, 1) := by decide +kernel
theorem dX6_skipBlanks_10 : decode cX6_skipBlanks 10 = .ok (.getfield 9, 3) := by decide +kernel
theorem dX6_skipBlanks_13 : decode cX6_skipBlanks 13 = .ok (.aload_n 0, 1) := by decide +kernel
theorem dX6_skipBlanks_14 : decode cX6_skipBlanks 14 = .ok (.getfield 20, 3) := by decide +kernel
theorem dX6_skipBlanks_17 : decode cX6_skipBlanks 17 = .ok (.invokevirtual 72, 3) := by decide +kernel
theorem dX6_skipBlanks_20 : decode cX6_skipBlanks 20 = .ok (.bipush 32, 2) := by decide +kernel
theorem dX6_skipBlanks_22 : decode cX6_skipBlanks 22 = .ok (.if_icmp .ne 19, 3) := by decide +kernel
theorem dX6_skipBlanks_25 : decode cX6_skipBlanks 25 = .ok (.aload_n 0, 1) := by decide +kernel
theorem dX6_skipBlanks_26 : decode cX6_skipBlanks 26 = .ok (.dup, 1) := by decide +kernel
theorem dX6_skipBlanks_27 : decode cX6_skipBlanks 27 = .ok (.getfield 20, 3) := by decide +kernel
theorem dX6_skipBlanks_30 : decode cX6_skipBlanks 30 = .ok (.iconst 1, 1) := by decide +kernel
theorem dX6_skipBlanks_31 : decode cX6_skipBlanks 31 = .ok (.iadd, 1) := by decide +kernel
theorem dX6_skipBlanks_32 : decode cX6_skipBlanks 32 = .ok (.putfield 20, 3) := by decide +kernel
theorem dX6_skipBlanks_35 : decode cX6_skipBlanks 35 = .ok (.iinc 1 1, 3) := by decide +kernel
theorem dX6_skipBlanks_38 : decode cX6_skipBlanks 38 = .ok (.goto (-36), 3) := by decide +kernel
theorem dX6_skipBlanks_41 : decode cX6_skipBlanks 41 = .ok (.return_, 1) := by decide +kernel
theorem dX6_hasEnded_0 : decode cX6_hasEnded 0 = .ok (.aload_n 0, 1) := by decide +kernel
theorem dX6_hasEnded_1 : decode cX6_hasEnded 1 = .ok (.getfield 20, 3) := by decide +kernel
theorem dX6_hasEnded_4 : decode cX6_hasEnded 4 = .ok (.aload_n 0, 1) := by decide +kernel
theorem dX6_hasEnded_5 : decode cX6_hasEnded 5 = .ok (.getfield 9, 3) := by decide +kernel
theorem dX6_hasEnded_8 : decode cX6_hasEnded 8 = .ok (.invokevirtual 112, 3) := by decide +kernel
theorem dX6_hasEnded_11 : decode cX6_hasEnded 11 = .ok (.if_icmp .lt 7, 3) := by decide +kernel
theorem dX6_hasEnded_14 : decode cX6_hasEnded 14 = .ok (.iconst 1, 1) := by decide +kernel
theorem dX6_hasEnded_15 : decode cX6_hasEnded 15 = .ok (.goto 4, 3) := by decide +kernel
theorem dX6_hasEnded_18 : decode cX6_hasEnded 18 = .ok (.iconst 0, 1) := by decide +kernel
theorem dX6_hasEnded_19 : decode cX6_hasEnded 19 = .ok (.ireturn, 1) := by decide +kernel
theorem dX6_isDigit_0 : decode cX6_isDigit 0 = .ok (.iload_n 0, 1) := by decide +kernel
theorem dX6_isDigit_1 : decode cX6_isDigit 1 = .ok (.bipush 48, 2) := by decide +kernel
theorem dX6_isDigit_3 : decode cX6_isDigit 3 = .ok (.if_icmp .lt 13, 3) := by decide +kernel
theorem dX6_isDigit_6 : decode cX6_isDigit 6 = .ok (.iload_n 0, 1) := by decide +kernel
theorem dX6_isDigit_7 : decode cX6_isDigit 7 = .ok (.bipush 57, 2) := by decide +kernel
theorem dX6_isDigit_9 : decode cX6_isDigit 9 = .ok (.if_icmp .gt 7, 3) := by decide +kernel
theorem dX6_isDigit_12 : decode cX6_isDigit 12 = .ok (.iconst 1, 1) := by decide +kernel
theorem dX6_isDigit_13 : decode cX6_isDigit 13 = .ok (.goto 4, 3) := by decide +kernel
theorem dX6_isDigit_16 : decode cX6_isDigit 16 = .ok (.iconst 0, 1) := by decide +kernel
theorem dX6_isDigit_17 : decode cX6_isDigit 17 = .ok (.ireturn, 1) := by decide +kernel
theorem dX7_init_0 : decode cX7_init 0 = .ok (.aload_n 0, 1) := by decide +kernel
theorem dX7_init_1 : decode cX7_init 1 = .ok (.invokespecial 3, 3) := by decide +kernel
theorem dX7_init_4 : decode cX7_init 4 = .ok (.aload_n 0, 1) := by decide +kernel
theorem dX7_init_5 : decode cX7_init 5 = .ok (.bipush 60, 2) := by decide +kernel
theorem dX7_init_7 : decode cX7_init 7 = .ok (.newarray .int, 2) := by decide +kernel
theorem dX7_init_9 : decode cX7_init 9 = .ok (.putfield 9, 3) := by decide +kernel
theorem dX7_init_12 : decode cX7_init 12 = .ok (.aload_n 0, 1) := by decide +kernel
theorem dX7_init_13 : decode cX7_init 13 = .ok (.bipush 60, 2) := by decide +kernel
theorem dX7_init_15 : decode cX7_init 15 = .ok (.newarray .int, 2) := by decide +kernel
theorem dX7_init_17 : decode cX7_init 17 = .ok (.putfield 15, 3) := by decide +kernel
theorem dX7_init_20 : decode cX7_init 20 = .ok (.return_, 1) := by decide +kernel
theorem dX7_clear_0 : decode cX7_clear 0 = .ok (.aload_n 0, 1) := by decide +kernel
theorem dX7_clear_1 : decode cX7_clear 1 = .ok (.iconst 0, 1) := by decide +kernel
theorem dX7_clear_2 : decode cX7_clear 2 = .ok (.putfield 18, 3) := by decide +kernel
theorem dX7_clear_5 : decode cX7_clear 5 = .ok (.return_, 1) := by decide +kernel
theorem dX7_append_0 : decode cX7_append 0 = .ok (.aload_n 0, 1) := by decide +kernel
theorem dX7_append_1 : decode cX7_append 1 = .ok (.getfield 18, 3) := by decide +kernel
theorem dX7_append_4 : decode cX7_append 4 = .ok (.aload_n 0, 1) := by decide +kernel
theorem dX7_append_5 : decode cX7_append 5 = .ok (.getfield 9, 3) := by decide +kernel
theorem dX7_append_8 : decode cX7_append 8 = .ok (.arraylength, 1) := by decide +kernel
theorem dX7_append_9 : decode cX7_append 9 = .ok (.if_icmp .ge 45, 3) := by decide +kernel
theorem dX7_append_12 : decode cX7_append 12 = .ok (.aload_n 0, 1) := by decide +kernel
theorem dX7_append_13 : decode cX7_append 13 = .ok (.getfield 18, 3) := by decide +kernel
theorem dX7_append_16 : decode cX7_append 16 = .ok (.aload_n 0, 1) := by decide +kernel
theorem dX7_append_17 : decode cX7_append 17 = .ok (.getfield 15, 3) := by decide +kernel
theorem dX7_append_20 : decode cX7_append 20 = .ok (.arraylength, 1) := by decide +kernel
theorem dX7_append_21 : decode cX7_append 21 = .ok (.if_icmp .ge 33, 3) := by decide +kernel
theorem dX7_append_24 : decode cX7_append 24 = .ok (.aload_n 0, 1) := by decide +kernel
theorem dX7_append_25 : decode cX7_append 25 = .ok (.getfield 9, 3) := by decide +kernel
theorem dX7_append_28 : decode cX7_append 28 = .ok (.aload_n 0, 1) := by decide +kernel
theorem dX7_append_29 : decode cX7_append 29 = .ok (.getfield 18, 3) := by decide +kernel
theorem dX7_append_32 : decode cX7_append 32 = .ok (.iload_n 1, 1) := by decide +kernel
theorem dX7_append_33 : decode cX7_append 33 = .ok (.iastore, 1) := by decide +kernel
theorem dX7_append_34 : decode cX7_append 34 = .ok (.aload_n 0, 1) := by decide +kernel
theorem dX7_append_35 : decode cX7_append 35 = .ok (.getfield 15, 3) := by decide +kernel
theorem dX7_append_38 : decode cX7_append 38 = .ok (.aload_n 0, 1) := by decide +kernel
theorem dX7_append_39 : decode cX7_append 39 = .ok (.getfield 18, 3) := by decide +kernel
theorem dX7_append_42 : decode cX7_append 42 = .ok (.iload_n 2, 1) := by decide +kernel
theorem dX7_append_43 : decode cX7_append 43 = .ok (.iastore, 1) := by decide +kernel
theorem dX7_append_44 : decode cX7_append 44 = .ok (.aload_n 0, 1) := by decide +kernel
theorem dX7_append_45 : decode cX7_append 45 = .ok (.dup, 1) := by decide +kernel
theorem dX7_append_46 : decode cX7_append 46 = .ok (.getfield 18, 3) := by decide +kernel
theorem dX7_append_49 : decode cX7_append 49 = .ok (.iconst 1, 1) := by decide +kernel
theorem dX7_append_50 : decode cX7_append 50 = .ok (.iadd, 1) := by decide +kernel
theorem dX7_append_51 : decode cX7_append 51 = .ok (.putfield 18, 3) := by decide +kernel
theorem dX7_append_54 : decode cX7_append 54 = .ok (.return_, 1) := by decide +kernel
theorem dX7_fill_0 : decode cX7_fill 0 = .ok (.aload_n 0, 1) := by decide +kernel
theorem dX7_fill_1 : decode cX7_fill 1 = .ok (.aload_n 1, 1) := by decide +kernel
theorem dX7_fill_2 : decode cX7_fill 2 = .ok (.iconst (-1), 1) := by decide +kernel
theorem dX7_fill_3 : decode cX7_fill 3 = .ok (.invokevirtual 22, 3) := by decide +kernel
theorem dX7_fill_6 : decode cX7_fill 6 = .ok (.return_, 1) := by decide +kernel
theorem dX7_fillUnmarked_0 : decode cX7_fillUnmarked 0 = .ok (.aload_n 0, 1) := by decide +kernel
theorem dX7_fillUnmarked_1 : decode cX7_fillUnmarked 1 = .ok (.iconst 0, 1) := by decide +kernel
theorem dX7_fillUnmarked_2 : decode cX7_fillUnmarked 2 = .ok (.putfield 18, 3) := by decide +kernel
theorem dX7_fillUnmarked_5 : decode cX7_fillUnmarked 5 = .ok (.aload_n 0, 1) := by decide +kernel
theorem dX7_fillUnmarked_6 : decode cX7_fillUnmarked 6 = .ok (.aload_n 1, 1) := by decide +kernel
theorem dX7_fillUnmarked_7 : decode cX7_fillUnmarked 7 = .ok (.iload_n 2, 1) := by decide +kernel
theorem dX7_fillUnmarked_8 : decode cX7_fillUnmarked 8 = .ok (.iconst 0, 1) := by decide +kernel
theorem dX7_fillUnmarked_9 : decode cX7_fillUnmarked 9 = .ok (.invokestatic 26, 3) := by decide +kernel
theorem dX7_fillUnmarked_12 : decode cX7_fillUnmarked 12 = .ok (.return_, 1) := by decide +kernel
theorem dX7_collect_0 : decode cX7_collect 0 = .ok (.aload_n 1, 1) := by decide +kernel
theorem dX7_collect_1 : decode cX7_collect 1 = .ok (.ifnull 9, 3) := by decide +kernel
theorem dX7_collect_4 : decode cX7_collect 4 = .ok (.iload_n 3, 1) := by decide +kernel
theorem dX7_collect_5 : decode cX7_collect 5 = .ok (.bipush 12, 2) := by decide +kernel
theorem dX7_collect_7 : decode cX7_collect 7 = .ok (.if_icmp .lt 4, 3) := by decide +kernel
theorem dX7_collect_10 : decode cX7_collect 10 = .ok (.return_, 1) := by decide +kernel
theorem dX7_collect_11 : decode cX7_collect 11 = .ok (.iconst 0, 1) := by decide +kernel
theorem dX7_collect_12 : decode cX7_collect 12 = .ok (.istore 4, 2) := by decide +kernel
theorem dX7_collect_14 : decode cX7_collect 14 = .ok (.iload 4, 2) := by decide +kernel
theorem dX7_collect_16 : decode cX7_collect 16 = .ok (.aload_n 1, 1) := by decide +kernel
theorem dX7_collect_17 : decode cX7_collect 17 = .ok (.invokevirtual 30, 3) := by decide +kernel
theorem dX7_collect_20 : decode cX7_collect 20 = .ok (.if_icmp .ge 57, 3) := by decide +kernel
theorem dX7_collect_23 : decode cX7_collect 23 = .ok (.aload_n 1, 1) := by decide +kernel
theorem dX7_collect_24 : decode cX7_collect 24 = .ok (.invokevirtual 35, 3) := by decide +kernel
theorem dX7_collect_27 : decode cX7_collect 27 = .ok (.ifCond .ne 20, 3) := by decide +kernel
theorem dX7_collect_30 : decode cX7_collect 30 = .ok (.aload_n 0, 1) := by decide +kernel
theorem dX7_collect_31 : decode cX7_collect 31 = .ok (.aload_n 1, 1) := by decide +kernel
theorem dX7_collect_32 : decode cX7_collect 32 = .ok (.iload 4, 2) := by decide +kernel
theorem dX7_collect_34 : decode cX7_collect 34 = .ok (.invokevirtual 39, 3) := by decide +kernel
theorem dX7_collect_37 : decode cX7_collect 37 = .ok (.iload_n 2, 1) := by decide +kernel
theorem dX7_collect_38 : decode cX7_collect 38 = .ok (.iload_n 3, 1) := by decide +kernel
theorem dX7_collect_39 : decode cX7_collect 39 = .ok (.iconst 1, 1) := by decide +kernel
theorem dX7_collect_40 : decode cX7_collect 40 = .ok (.iadd, 1) := by decide +kernel
theorem dX7_collect_41 : decode cX7_collect 41 = .ok (.invokestatic 26, 3) := by decide +kernel
theorem dX7_collect_44 : decode cX7_collect 44 = .ok (.goto 27, 3) := by decide +kernel
theorem dX7_collect_47 : decode cX7_collect 47 = .ok (.aload_n 1, 1) := by decide +kernel
theorem dX7_collect_48 : decode cX7_collect 48 = .ok (.iload_n 2, 1) := by decide +kernel
theorem dX7_collect_49 : decode cX7_collect 49 = .ok (.invokevirtual 43, 3) := by decide +kernel
theorem dX7_collect_52 : decode cX7_collect 52 = .ok (.ifCond .ne 19, 3) := by decide +kernel
theorem dX7_collect_55 : decode cX7_collect 55 = .ok (.aload_n 0, 1) := by decide +kernel
theorem dX7_collect_56 : decode cX7_collect 56 = .ok (.aload_n 1, 1) := by decide +kernel
theorem dX7_collect_57 : decode cX7_collect 57 = .ok (.iload 4, 2) := by decide +kernel
theorem dX7_collect_59 : decode cX7_collect 59 = .ok (.invokevirtual 47, 3) := by decide +kernel
theorem dX7_collect_62 : decode cX7_collect 62 = .ok (.aload_n 1, 1) := by decide +kernel
theorem dX7_collect_63 : decode cX7_collect 63 = .ok (.iload 4, 2) := by decide +kernel
theorem dX7_collect_65 : decode cX7_collect 65 = .ok (.invokevirtual 51, 3) := by decide +kernel
theorem dX7_collect_68 : decode cX7_collect 68 = .ok (.invokevirtual 54, 3) := by decide +kernel
theorem dX7_collect_71 : decode cX7_collect 71 = .ok (.iinc 4 1, 3) := by decide +kernel
theorem dX7_collect_74 : decode cX7_collect 74 = .ok (.goto (-60), 3) := by decide +kernel
theorem dX7_collect_77 : decode cX7_collect 77 = .ok (.return_, 1) := by decide +kernel
theorem dX7_size_0 : decode cX7_size 0 = .ok (.aload_n 0, 1) := by decide +kernel
theorem dX7_size_1 : decode cX7_size 1 = .ok (.getfield 18, 3) := by decide +kernel
theorem dX7_size_4 : decode cX7_size 4 = .ok (.ireturn, 1) := by decide +kernel
theorem dX7_keyAt_0 : decode cX7_keyAt 0 = .ok (.iload_n 1, 1) := by decide +kernel
theorem dX7_keyAt_1 : decode cX7_keyAt 1 = .ok (.ifCond .lt 29, 3) := by decide +kernel
theorem dX7_keyAt_4 : decode cX7_keyAt 4 = .ok (.iload_n 1, 1) := by decide +kernel
theorem dX7_keyAt_5 : decode cX7_keyAt 5 = .ok (.aload_n 0, 1) := by decide +kernel
theorem dX7_keyAt_6 : decode cX7_keyAt 6 = .ok (.getfield 18, 3) := by decide +kernel
theorem dX7_keyAt_9 : decode cX7_keyAt 9 = .ok (.if_icmp .ge 21, 3) := by decide +kernel
theorem dX7_keyAt_12 : decode cX7_keyAt 12 = .ok (.iload_n 1, 1) := by decide +kernel
theorem dX7_keyAt_13 : decode cX7_keyAt 13 = .ok (.aload_n 0, 1) := by decide +kernel
theorem dX7_keyAt_14 : decode cX7_keyAt 14 = .ok (.getfield 9, 3) := by decide +kernel
theorem dX7_keyAt_17 : decode cX7_keyAt 17 = .ok (.arraylength, 1) := by decide +kernel
theorem dX7_keyAt_18 : decode cX7_keyAt 18 = .ok (.if_icmp .ge 12, 3) := by decide +kernel
theorem dX7_keyAt_21 : decode cX7_keyAt 21 = .ok (.aload_n 0, 1) := by decide +kernel
theorem dX7_keyAt_22 : decode cX7_keyAt 22 = .ok (.getfield 9, 3) := by decide +kernel
theorem dX7_keyAt_25 : decode cX7_keyAt 25 = .ok (.iload_n 1, 1) := by decide +kernel
theorem dX7_keyAt_26 : decode cX7_keyAt 26 = .ok (.iaload, 1) := by decide +kernel
theorem dX7_keyAt_27 : decode cX7_keyAt 27 = .ok (.goto 4, 3) := by decide +kernel
theorem dX7_keyAt_30 : decode cX7_keyAt 30 = .ok (.iconst (-1), 1) := by decide +kernel
theorem dX7_keyAt_31 : decode cX7_keyAt 31 = .ok (.ireturn, 1) := by decide +kernel
theorem dX7_valueAt_0 : decode cX7_valueAt 0 = .ok (.iload_n 1, 1) := by decide +kernel
theorem dX7_valueAt_1 : decode cX7_valueAt 1 = .ok (.ifCond .lt 29, 3) := by decide +kernel
theorem dX7_valueAt_4 : decode cX7_valueAt 4 = .ok (.iload_n 1, 1) := by decide +kernel
theorem dX7_valueAt_5 : decode cX7_valueAt 5 = .ok (.aload_n 0, 1) := by decide +kernel
theorem dX7_valueAt_6 : decode cX7_valueAt 6 = .ok (.getfield 18, 3) := by decide +kernel
theorem dX7_valueAt_9 : decode cX7_valueAt 9 = .ok (.if_icmp .ge 21, 3) := by decide +kernel
theorem dX7_valueAt_12 : decode cX7_valueAt 12 = .ok (.iload_n 1, 1) := by decide +kernel
theorem dX7_valueAt_13 : decode cX7_valueAt 13 = .ok (.aload_n 0, 1) := by decide +kernel
theorem dX7_valueAt_14 : decode cX7_valueAt 14 = .ok (.getfield 15, 3) := by decide +kernel
theorem dX7_valueAt_17 : decode cX7_valueAt 17 = .ok (.arraylength, 1) := by decide +kernel
theorem dX7_valueAt_18 : decode cX7_valueAt 18 = .ok (.if_icmp .ge 12, 3) := by decide +kernel
theorem dX7_valueAt_21 : decode cX7_valueAt 21 = .ok (.aload_n 0, 1) := by decide +kernel
theorem dX7_valueAt_22 : decode cX7_valueAt 22 = .ok (.getfield 15, 3) := by decide +kernel
theorem dX7_valueAt_25 : decode cX7_valueAt 25 = .ok (.iload_n 1, 1) := by decide +kernel
theorem dX7_valueAt_26 : decode cX7_valueAt 26 = .ok (.iaload, 1) := by decide +kernel
theorem dX7_valueAt_27 : decode cX7_valueAt 27 = .ok (.goto 5, 3) := by decide +kernel
theorem dX7_valueAt_30 : decode cX7_valueAt 30 = .ok (.ldc 58, 2) := by decide +kernel
theorem dX7_valueAt_32 : decode cX7_valueAt 32 = .ok (.ireturn, 1) := by decide +kernel
theorem dX7_holdsAt_0 : decode cX7_holdsAt 0 = .ok (.iload_n 1, 1) := by decide +kernel
theorem dX7_holdsAt_1 : decode cX7_holdsAt 1 = .ok (.ifCond .lt 24, 3) := by decide +kernel
theorem dX7_holdsAt_4 : decode cX7_holdsAt 4 = .ok (.iload_n 1, 1) := by decide +kernel
theorem dX7_holdsAt_5 : decode cX7_holdsAt 5 = .ok (.aload_n 0, 1) := by decide +kernel
theorem dX7_holdsAt_6 : decode cX7_holdsAt 6 = .ok (.getfield 18, 3) := by decide +kernel
theorem dX7_holdsAt_9 : decode cX7_holdsAt 9 = .ok (.if_icmp .ge 16, 3) := by decide +kernel
theorem dX7_holdsAt_12 : decode cX7_holdsAt 12 = .ok (.aload_n 0, 1) := by decide +kernel
theorem dX7_holdsAt_13 : decode cX7_holdsAt 13 = .ok (.iload_n 1, 1) := by decide +kernel
theorem dX7_holdsAt_14 : decode cX7_holdsAt 14 = .ok (.invokevirtual 59, 3) := by decide +kernel
theorem dX7_holdsAt_17 : decode cX7_holdsAt 17 = .ok (.iload_n 2, 1) := by decide +kernel
theorem dX7_holdsAt_18 : decode cX7_holdsAt 18 = .ok (.if_icmp .ne 7, 3) := by decide +kernel
theorem dX7_holdsAt_21 : decode cX7_holdsAt 21 = .ok (.iconst 1, 1) := by decide +kernel
theorem dX7_holdsAt_22 : decode cX7_holdsAt 22 = .ok (.goto 4, 3) := by decide +kernel
theorem dX7_holdsAt_25 : decode cX7_holdsAt 25 = .ok (.iconst 0, 1) := by decide +kernel
theorem dX7_holdsAt_26 : decode cX7_holdsAt 26 = .ok (.ireturn, 1) := by decide +kernel
theorem dX7_placeOf_0 : decode cX7_placeOf 0 = .ok (.iconst 0, 1) := by decide +kernel
theorem dX7_placeOf_1 : decode cX7_placeOf 1 = .ok (.istore_n 2, 1) := by decide +kernel
theorem dX7_placeOf_2 : decode cX7_placeOf 2 = .ok (.aload_n 0, 1) := by decide +kernel
theorem dX7_placeOf_3 : decode cX7_placeOf 3 = .ok (.getfield 18, 3) := by decide +kernel
theorem dX7_placeOf_6 : decode cX7_placeOf 6 = .ok (.istore_n 3, 1) := by decide +kernel
theorem dX7_placeOf_7 : decode cX7_placeOf 7 = .ok (.iconst 0, 1) := by decide +kernel
theorem dX7_placeOf_8 : decode cX7_placeOf 8 = .ok (.istore 4, 2) := by decide +kernel
theorem dX7_placeOf_10 : decode cX7_placeOf 10 = .ok (.iload 4, 2) := by decide +kernel
theorem dX7_placeOf_12 : decode cX7_placeOf 12 = .ok (.bipush 60, 2) := by decide +kernel
theorem dX7_placeOf_14 : decode cX7_placeOf 14 = .ok (.if_icmp .ge 42, 3) := by decide +kernel
theorem dX7_placeOf_17 : decode cX7_placeOf 17 = .ok (.iload_n 2, 1) := by decide +kernel
theorem dX7_placeOf_18 : decode cX7_placeOf 18 = .ok (.iload_n 3, 1) := by decide +kernel
theorem dX7_placeOf_19 : decode cX7_placeOf 19 = .ok (.if_icmp .ge 37, 3) := by decide +kernel
theorem dX7_placeOf_22 : decode cX7_placeOf 22 = .ok (.iload_n 2, 1) := by decide +kernel
theorem dX7_placeOf_23 : decode cX7_placeOf 23 = .ok (.iload_n 3, 1) := by decide +kernel
theorem dX7_placeOf_24 : decode cX7_placeOf 24 = .ok (.iadd, 1) := by decide +kernel
theorem dX7_placeOf_25 : decode cX7_placeOf 25 = .ok (.iconst 1, 1) := by decide +kernel
theorem dX7_placeOf_26 : decode cX7_placeOf 26 = .ok (.ishr, 1) := by decide +kernel
theorem dX7_placeOf_27 : decode cX7_placeOf 27 = .ok (.istore 5, 2) := by decide +kernel
theorem dX7_placeOf_29 : decode cX7_placeOf 29 = .ok (.aload_n 0, 1) := by decide +kernel
theorem dX7_placeOf_30 : decode cX7_placeOf 30 = .ok (.iload 5, 2) := by decide +kernel
theorem dX7_placeOf_32 : decode cX7_placeOf 32 = .ok (.invokevirtual 59, 3) := by decide +kernel
theorem dX7_placeOf_35 : decode cX7_placeOf 35 = .ok (.iload_n 1, 1) := by decide +kernel
theorem dX7_placeOf_36 : decode cX7_placeOf 36 = .ok (.if_icmp .ge 11, 3) := by decide +kernel
theorem dX7_placeOf_39 : decode cX7_placeOf 39 = .ok (.iload 5, 2) := by decide +kernel
theorem dX7_placeOf_41 : decode cX7_placeOf 41 = .ok (.iconst 1, 1) := by decide +kernel
theorem dX7_placeOf_42 : decode cX7_placeOf 42 = .ok (.iadd, 1) := by decide +kernel
theorem dX7_placeOf_43 : decode cX7_placeOf 43 = .ok (.istore_n 2, 1) := by decide +kernel
theorem dX7_placeOf_44 : decode cX7_placeOf 44 = .ok (.goto 6, 3) := by decide +kernel
theorem dX7_placeOf_47 : decode cX7_placeOf 47 = .ok (.iload 5, 2) := by decide +kernel
theorem dX7_placeOf_49 : decode cX7_placeOf 49 = .ok (.istore_n 3, 1) := by decide +kernel
theorem dX7_placeOf_50 : decode cX7_placeOf 50 = .ok (.iinc 4 1, 3) := by decide +kernel
theorem dX7_placeOf_53 : decode cX7_placeOf 53 = .ok (.goto (-43), 3) := by decide +kernel
theorem dX7_placeOf_56 : decode cX7_placeOf 56 = .ok (.iload_n 2, 1) := by decide +kernel
theorem dX7_placeOf_57 : decode cX7_placeOf 57 = .ok (.ireturn, 1) := by decide +kernel
theorem dX7_valueOf_0 : decode cX7_valueOf 0 = .ok (.aload_n 0, 1) := by decide +kernel
theorem dX7_valueOf_1 : decode cX7_valueOf 1 = .ok (.iload_n 1, 1) := by decide +kernel
theorem dX7_valueOf_2 : decode cX7_valueOf 2 = .ok (.invokevirtual 60, 3) := by decide +kernel
theorem dX7_valueOf_5 : decode cX7_valueOf 5 = .ok (.istore_n 2, 1) := by decide +kernel
theorem dX7_valueOf_6 : decode cX7_valueOf 6 = .ok (.aload_n 0, 1) := by decide +kernel
theorem dX7_valueOf_7 : decode cX7_valueOf 7 = .ok (.iload_n 2, 1) := by decide +kernel
theorem dX7_valueOf_8 : decode cX7_valueOf 8 = .ok (.iload_n 1, 1) := by decide +kernel
theorem dX7_valueOf_9 : decode cX7_valueOf 9 = .ok (.invokevirtual 63, 3) := by decide +kernel
theorem dX7_valueOf_12 : decode cX7_valueOf 12 = .ok (.ifCond .eq 11, 3) := by decide +kernel
theorem dX7_valueOf_15 : decode cX7_valueOf 15 = .ok (.aload_n 0, 1) := by decide +kernel
theorem dX7_valueOf_16 : decode cX7_valueOf 16 = .ok (.iload_n 2, 1) := by decide +kernel
theorem dX7_valueOf_17 : decode cX7_valueOf 17 = .ok (.invokevirtual 67, 3) := by decide +kernel
theorem dX7_valueOf_20 : decode cX7_valueOf 20 = .ok (.goto 5, 3) := by decide +kernel
theorem dX7_valueOf_23 : decode cX7_valueOf 23 = .ok (.ldc 58, 2) := by decide +kernel
theorem dX7_valueOf_25 : decode cX7_valueOf 25 = .ok (.ireturn, 1) := by decide +kernel
theorem dX7_sum_0 : decode cX7_sum 0 = .ok (.iconst 0, 1) := by decide +kernel
theorem dX7_sum_1 : decode cX7_sum 1 = .ok (.istore_n 3, 1) := by decide +kernel
theorem dX7_sum_2 : decode cX7_sum 2 = .ok (.iconst 0, 1) := by decide +kernel
theorem dX7_sum_3 : decode cX7_sum 3 = .ok (.istore 4, 2) := by decide +kernel
theorem dX7_sum_5 : decode cX7_sum 5 = .ok (.iload 4, 2) := by decide +kernel
theorem dX7_sum_7 : decode cX7_sum 7 = .ok (.aload_n 0, 1) := by decide +kernel
theorem dX7_sum_8 : decode cX7_sum 8 = .ok (.getfield 18, 3) := by decide +kernel
theorem dX7_sum_11 : decode cX7_sum 11 = .ok (.if_icmp .ge 38, 3) := by decide +kernel
theorem dX7_sum_14 : decode cX7_sum 14 = .ok (.aload_n 0, 1) := by decide +kernel
theorem dX7_sum_15 : decode cX7_sum 15 = .ok (.iload 4, 2) := by decide +kernel
theorem dX7_sum_17 : decode cX7_sum 17 = .ok (.invokevirtual 59, 3) := by decide +kernel
theorem dX7_sum_20 : decode cX7_sum 20 = .ok (.iload_n 1, 1) := by decide +kernel
theorem dX7_sum_21 : decode cX7_sum 21 = .ok (.if_icmp .lt 22, 3) := by decide +kernel
theorem dX7_sum_24 : decode cX7_sum 24 = .ok (.aload_n 0, 1) := by decide +kernel
theorem dX7_sum_25 : decode cX7_sum 25 = .ok (.iload 4, 2) := by decide +kernel
theorem dX7_sum_27 : decode cX7_sum 27 = .ok (.invokevirtual 59, 3) := by decide +kernel
theorem dX7_sum_30 : decode cX7_sum 30 = .ok (.iload_n 2, 1) := by decide +kernel
theorem dX7_sum_31 : decode cX7_sum 31 = .ok (.if_icmp .gt 12, 3) := by decide +kernel
theorem dX7_sum_34 : decode cX7_sum 34 = .ok (.iload_n 3, 1) := by decide +kernel
theorem dX7_sum_35 : decode cX7_sum 35 = .ok (.aload_n 0, 1) := by decide +kernel
theorem dX7_sum_36 : decode cX7_sum 36 = .ok (.iload 4, 2) := by decide +kernel
theorem dX7_sum_38 : decode cX7_sum 38 = .ok (.invokevirtual 67, 3) := by decide +kernel
theorem dX7_sum_41 : decode cX7_sum 41 = .ok (.iadd, 1) := by decide +kernel
theorem dX7_sum_42 : decode cX7_sum 42 = .ok (.istore_n 3, 1) := by decide +kernel
theorem dX7_sum_43 : decode cX7_sum 43 = .ok (.iinc 4 1, 3) := by decide +kernel
theorem dX7_sum_46 : decode cX7_sum 46 = .ok (.goto (-41), 3) := by decide +kernel
theorem dX7_sum_49 : decode cX7_sum 49 = .ok (.iload_n 3, 1) := by decide +kernel
theorem dX7_sum_50 : decode cX7_sum 50 = .ok (.ireturn, 1) := by decide +kernel
theorem dX7_sizeWith_0 : decode cX7_sizeWith 0 = .ok (.aload_n 0, 1) := by decide +kernel
theorem dX7_sizeWith_1 : decode cX7_sizeWith 1 = .ok (.getfield 18, 3) := by decide +kernel
theorem dX7_sizeWith_4 : decode cX7_sizeWith 4 = .ok (.istore_n 2, 1) := by decide +kernel
theorem dX7_sizeWith_5 : decode cX7_sizeWith 5 = .ok (.iconst 0, 1) := by decide +kernel
theorem dX7_sizeWith_6 : decode cX7_sizeWith 6 = .ok (.istore_n 3, 1) := by decide +kernel
theorem dX7_sizeWith_7 : decode cX7_sizeWith 7 = .ok (.iload_n 3, 1) := by decide +kernel
theorem dX7_sizeWith_8 : decode cX7_sizeWith 8 = .ok (.aload_n 1, 1) := by decide +kernel
theorem dX7_sizeWith_9 : decode cX7_sizeWith 9 = .ok (.getfield 18, 3) := by decide +kernel
theorem dX7_sizeWith_12 : decode cX7_sizeWith 12 = .ok (.if_icmp .ge 26, 3) := by decide +kernel
theorem dX7_sizeWith_15 : decode cX7_sizeWith 15 = .ok (.aload_n 0, 1) := by decide +kernel
theorem dX7_sizeWith_16 : decode cX7_sizeWith 16 = .ok (.aload_n 1, 1) := by decide +kernel
theorem dX7_sizeWith_17 : decode cX7_sizeWith 17 = .ok (.iload_n 3, 1) := by decide +kernel
theorem dX7_sizeWith_18 : decode cX7_sizeWith 18 = .ok (.invokevirtual 59, 3) := by decide +kernel
theorem dX7_sizeWith_21 : decode cX7_sizeWith 21 = .ok (.invokevirtual 68, 3) := by decide +kernel
theorem dX7_sizeWith_24 : decode cX7_sizeWith 24 = .ok (.ldc 58, 2) := by decide +kernel
theorem dX7_sizeWith_26 : decode cX7_sizeWith 26 = .ok (.if_icmp .ne 6, 3) := by decide +kernel
theorem dX7_sizeWith_29 : decode cX7_sizeWith 29 = .ok (.iinc 2 1, 3) := by decide +kernel
theorem dX7_sizeWith_32 : decode cX7_sizeWith 32 = .ok (.iinc 3 1, 3) := by decide +kernel
theorem dX7_sizeWith_35 : decode cX7_sizeWith 35 = .ok (.goto (-28), 3) := by decide +kernel
theorem dX7_sizeWith_38 : decode cX7_sizeWith 38 = .ok (.iload_n 2, 1) := by decide +kernel
theorem dX7_sizeWith_39 : decode cX7_sizeWith 39 = .ok (.ireturn, 1) := by decide +kernel
theorem dX7_isSameAs_0 : decode cX7_isSameAs 0 = .ok (.aload_n 0, 1) := by decide +kernel
theorem dX7_isSameAs_1 : decode cX7_isSameAs 1 = .ok (.getfield 18, 3) := by decide +kernel
theorem dX7_isSameAs_4 : decode cX7_isSameAs 4 = .ok (.aload_n 1, 1) := by decide +kernel
theorem dX7_isSameAs_5 : decode cX7_isSameAs 5 = .ok (.getfield 18, 3) := by decide +kernel
theorem dX7_isSameAs_8 : decode cX7_isSameAs 8 = .ok (.if_icmp .eq 5, 3) := by decide +kernel
theorem dX7_isSameAs_11 : decode cX7_isSameAs 11 = .ok (.iconst 0, 1) := by decide +kernel
theorem dX7_isSameAs_12 : decode cX7_isSameAs 12 = .ok (.ireturn, 1) := by decide +kernel
theorem dX7_isSameAs_13 : decode cX7_isSameAs 13 = .ok (.iconst 0, 1) := by decide +kernel
theorem dX7_isSameAs_14 : decode cX7_isSameAs 14 = .ok (.istore_n 2, 1) := by decide +kernel
theorem dX7_isSameAs_15 : decode cX7_isSameAs 15 = .ok (.iload_n 2, 1) := by decide +kernel
theorem dX7_isSameAs_16 : decode cX7_isSameAs 16 = .ok (.aload_n 0, 1) := by decide +kernel
theorem dX7_isSameAs_17 : decode cX7_isSameAs 17 = .ok (.getfield 18, 3) := by decide +kernel
theorem dX7_isSameAs_20 : decode cX7_isSameAs 20 = .ok (.if_icmp .ge 37, 3) := by decide +kernel
theorem dX7_isSameAs_23 : decode cX7_isSameAs 23 = .ok (.aload_n 0, 1) := by decide +kernel
theorem dX7_isSameAs_24 : decode cX7_isSameAs 24 = .ok (.iload_n 2, 1) := by decide +kernel
theorem dX7_isSameAs_25 : decode cX7_isSameAs 25 = .ok (.invokevirtual 59, 3) := by decide +kernel
theorem dX7_isSameAs_28 : decode cX7_isSameAs 28 = .ok (.aload_n 1, 1) := by decide +kernel
theorem dX7_isSameAs_29 : decode cX7_isSameAs 29 = .ok (.iload_n 2, 1) := by decide +kernel
theorem dX7_isSameAs_30 : decode cX7_isSameAs 30 = .ok (.invokevirtual 59, 3) := by decide +kernel
theorem dX7_isSameAs_33 : decode cX7_isSameAs 33 = .ok (.if_icmp .ne 16, 3) := by decide +kernel
theorem dX7_isSameAs_36 : decode cX7_isSameAs 36 = .ok (.aload_n 0, 1) := by decide +kernel
theorem dX7_isSameAs_37 : decode cX7_isSameAs 37 = .ok (.iload_n 2, 1) := by decide +kernel
theorem dX7_isSameAs_38 : decode cX7_isSameAs 38 = .ok (.invokevirtual 67, 3) := by decide +kernel
theorem dX7_isSameAs_41 : decode cX7_isSameAs 41 = .ok (.aload_n 1, 1) := by decide +kernel
theorem dX7_isSameAs_42 : decode cX7_isSameAs 42 = .ok (.iload_n 2, 1) := by decide +kernel
theorem dX7_isSameAs_43 : decode cX7_isSameAs 43 = .ok (.invokevirtual 67, 3) := by decide +kernel
theorem dX7_isSameAs_46 : decode cX7_isSameAs 46 = .ok (.if_icmp .eq 5, 3) := by decide +kernel
theorem dX7_isSameAs_49 : decode cX7_isSameAs 49 = .ok (.iconst 0, 1) := by decide +kernel
theorem dX7_isSameAs_50 : decode cX7_isSameAs 50 = .ok (.ireturn, 1) := by decide +kernel
theorem dX7_isSameAs_51 : decode cX7_isSameAs 51 = .ok (.iinc 2 1, 3) := by decide +kernel
theorem dX7_isSameAs_54 : decode cX7_isSameAs 54 = .ok (.goto (-39), 3) := by decide +kernel
theorem dX7_isSameAs_57 : decode cX7_isSameAs 57 = .ok (.iconst 1, 1) := by decide +kernel
theorem dX7_isSameAs_58 : decode cX7_isSameAs 58 = .ok (.ireturn, 1) := by decide +kernel
theorem dX8_init_0 : decode cX8_init 0 = .ok (.aload_n 0, 1) := by decide +kernel
theorem dX8_init_1 : decode cX8_init 1 = .ok (.invokespecial 3, 3) := by decide +kernel
theorem dX8_init_4 : decode cX8_init 4 = .ok (.aload_n 0, 1) := by decide +kernel
theorem dX8_init_5 : decode cX8_init 5 = .ok (.sipush 700, 3) := by decide +kernel
theorem dX8_init_8 : decode cX8_init 8 = .ok (.newarray .int, 2) := by decide +kernel
theorem dX8_init_10 : decode cX8_init 10 = .ok (.putfield 9, 3) := by decide +kernel
theorem dX8_init_13 : decode cX8_init 13 = .ok (.return_, 1) := by decide +kernel
theorem dX8_write_0 : decode cX8_write 0 = .ok (.aload_n 0, 1) := by decide +kernel
theorem dX8_write_1 : decode cX8_write 1 = .ok (.iconst 0, 1) := by decide +kernel
theorem dX8_write_2 : decode cX8_write 2 = .ok (.putfield 15, 3) := by decide +kernel
theorem dX8_write_5 : decode cX8_write 5 = .ok (.aload_n 0, 1) := by decide +kernel
theorem dX8_write_6 : decode cX8_write 6 = .ok (.aload_n 1, 1) := by decide +kernel
theorem dX8_write_7 : decode cX8_write 7 = .ok (.iconst 0, 1) := by decide +kernel
theorem dX8_write_8 : decode cX8_write 8 = .ok (.invokestatic 19, 3) := by decide +kernel
theorem dX8_write_11 : decode cX8_write 11 = .ok (.return_, 1) := by decide +kernel
theorem dX8_writeNode_0 : decode cX8_writeNode 0 = .ok (.aload_n 1, 1) := by decide +kernel
theorem dX8_writeNode_1 : decode cX8_writeNode 1 = .ok (.ifnull 9, 3) := by decide +kernel
theorem dX8_writeNode_4 : decode cX8_writeNode 4 = .ok (.iload_n 2, 1) := by decide +kernel
theorem dX8_writeNode_5 : decode cX8_writeNode 5 = .ok (.bipush 12, 2) := by decide +kernel
theorem dX8_writeNode_7 : decode cX8_writeNode 7 = .ok (.if_icmp .lt 4, 3) := by decide +kernel
theorem dX8_writeNode_10 : decode cX8_writeNode 10 = .ok (.return_, 1) := by decide +kernel
theorem dX8_writeNode_11 : decode cX8_writeNode 11 = .ok (.aload_n 1, 1) := by decide +kernel
theorem dX8_writeNode_12 : decode cX8_writeNode 12 = .ok (.invokevirtual 23, 3) := by decide +kernel
theorem dX8_writeNode_15 : decode cX8_writeNode 15 = .ok (.ifCond .eq 9, 3) := by decide +kernel
theorem dX8_writeNode_18 : decode cX8_writeNode 18 = .ok (.aload_n 0, 1) := by decide +kernel
theorem dX8_writeNode_19 : decode cX8_writeNode 19 = .ok (.aload_n 1, 1) := by decide +kernel
theorem dX8_writeNode_20 : decode cX8_writeNode 20 = .ok (.invokevirtual 29, 3) := by decide +kernel
theorem dX8_writeNode_23 : decode cX8_writeNode 23 = .ok (.return_, 1) := by decide +kernel
theorem dX8_writeNode_24 : decode cX8_writeNode 24 = .ok (.aload_n 0, 1) := by decide +kernel
theorem dX8_writeNode_25 : decode cX8_writeNode 25 = .ok (.bipush 40, 2) := by decide +kernel
theorem dX8_writeNode_27 : decode cX8_writeNode 27 = .ok (.invokevirtual 33, 3) := by decide +kernel
theorem dX8_writeNode_30 : decode cX8_writeNode 30 = .ok (.iconst 0, 1) := by decide +kernel
theorem dX8_writeNode_31 : decode cX8_writeNode 31 = .ok (.istore_n 3, 1) := by decide +kernel
theorem dX8_writeNode_32 : decode cX8_writeNode 32 = .ok (.iload_n 3, 1) := by decide +kernel
theorem dX8_writeNode_33 : decode cX8_writeNode 33 = .ok (.aload_n 1, 1) := by decide +kernel
theorem dX8_writeNode_34 : decode cX8_writeNode 34 = .ok (.invokevirtual 37, 3) := by decide +kernel
theorem dX8_writeNode_37 : decode cX8_writeNode 37 = .ok (.if_icmp .ge 21, 3) := by decide +kernel
theorem dX8_writeNode_40 : decode cX8_writeNode 40 = .ok (.aload_n 0, 1) := by decide +kernel
theorem dX8_writeNode_41 : decode cX8_writeNode 41 = .ok (.aload_n 1, 1) := by decide +kernel
theorem dX8_writeNode_42 : decode cX8_writeNode 42 = .ok (.iload_n 3, 1) := by decide +kernel
theorem dX8_writeNode_43 : decode cX8_writeNode 43 = .ok (.invokevirtual 40, 3) := by decide +kernel
theorem dX8_writeNode_46 : decode cX8_writeNode 46 = .ok (.iload_n 2, 1) := by decide +kernel
theorem dX8_writeNode_47 : decode cX8_writeNode 47 = .ok (.iconst 1, 1) := by decide +kernel
theorem dX8_writeNode_48 : decode cX8_writeNode 48 = .ok (.iadd, 1) := by decide +kernel
theorem dX8_writeNode_49 : decode cX8_writeNode 49 = .ok (.invokestatic 19, 3) := by decide +kernel
theorem dX8_writeNode_52 : decode cX8_writeNode 52 = .ok (.iinc 3 1, 3) := by decide +kernel
theorem dX8_writeNode_55 : decode cX8_writeNode 55 = .ok (.goto (-23), 3) := by decide +kernel
theorem dX8_writeNode_58 : decode cX8_writeNode 58 = .ok (.aload_n 0, 1) := by decide +kernel
theorem dX8_writeNode_59 : decode cX8_writeNode 59 = .ok (.bipush 41, 2) := by decide +kernel
theorem dX8_writeNode_61 : decode cX8_writeNode 61 = .ok (.invokevirtual 33, 3) := by decide +kernel
theorem dX8_writeNode_64 : decode cX8_writeNode 64 = .ok (.return_, 1) := by decide +kernel
theorem dX8_writeLeaf_0 : decode cX8_writeLeaf 0 = .ok (.aload_n 0, 1) := by decide +kernel
theorem dX8_writeLeaf_1 : decode cX8_writeLeaf 1 = .ok (.bipush 91, 2) := by decide +kernel
theorem dX8_writeLeaf_3 : decode cX8_writeLeaf 3 = .ok (.invokevirtual 33, 3) := by decide +kernel
theorem dX8_writeLeaf_6 : decode cX8_writeLeaf 6 = .ok (.iconst 0, 1) := by decide +kernel
theorem dX8_writeLeaf_7 : decode cX8_writeLeaf 7 = .ok (.istore_n 2, 1) := by decide +kernel
theorem dX8_writeLeaf_8 : decode cX8_writeLeaf 8 = .ok (.iload_n 2, 1) := by decide +kernel
theorem dX8_writeLeaf_9 : decode cX8_writeLeaf 9 = .ok (.aload_n 1, 1) := by decide +kernel
theorem dX8_writeLeaf_10 : decode cX8_writeLeaf 10 = .ok (.invokevirtual 37, 3) := by decide +kernel
theorem dX8_writeLeaf_13 : decode cX8_writeLeaf 13 = .ok (.if_icmp .ge 43, 3) := by decide +kernel
theorem dX8_writeLeaf_16 : decode cX8_writeLeaf 16 = .ok (.iload_n 2, 1) := by decide +kernel
theorem dX8_writeLeaf_17 : decode cX8_writeLeaf 17 = .ok (.ifCond .le 9, 3) := by decide +kernel
theorem dX8_writeLeaf_20 : decode cX8_writeLeaf 20 = .ok (.aload_n 0, 1) := by decide +kernel
theorem dX8_writeLeaf_21 : decode cX8_writeLeaf 21 = .ok (.bipush 32, 2) := by decide +kernel
theorem dX8_writeLeaf_23 : decode cX8_writeLeaf 23 = .ok (.invokevirtual 33, 3) := by decide +kernel
theorem dX8_writeLeaf_26 : decode cX8_writeLeaf 26 = .ok (.aload_n 0, 1) := by decide +kernel
theorem dX8_writeLeaf_27 : decode cX8_writeLeaf 27 = .ok (.aload_n 1, 1) := by decide +kernel
theorem dX8_writeLeaf_28 : decode cX8_writeLeaf 28 = .ok (.iload_n 2, 1) := by decide +kernel
theorem dX8_writeLeaf_29 : decode cX8_writeLeaf 29 = .ok (.invokevirtual 44, 3) := by decide +kernel
theorem dX8_writeLeaf_32 : decode cX8_writeLeaf 32 = .ok (.invokevirtual 48, 3) := by decide +kernel
theorem dX8_writeLeaf_35 : decode cX8_writeLeaf 35 = .ok (.aload_n 0, 1) := by decide +kernel
theorem dX8_writeLeaf_36 : decode cX8_writeLeaf 36 = .ok (.bipush 58, 2) := by decide +kernel
theorem dX8_writeLeaf_38 : decode cX8_writeLeaf 38 = .ok (.invokevirtual 33, 3) := by decide +kernel
theorem dX8_writeLeaf_41 : decode cX8_writeLeaf 41 = .ok (.aload_n 0, 1) := by decide +kernel
theorem dX8_writeLeaf_42 : decode cX8_writeLeaf 42 = .ok (.aload_n 1, 1) := by decide +kernel
theorem dX8_writeLeaf_43 : decode cX8_writeLeaf 43 = .ok (.iload_n 2, 1) := by decide +kernel
theorem dX8_writeLeaf_44 : decode cX8_writeLeaf 44 = .ok (.invokevirtual 52, 3) := by decide +kernel
theorem dX8_writeLeaf_47 : decode cX8_writeLeaf 47 = .ok (.invokevirtual 48, 3) := by decide +kernel
theorem dX8_writeLeaf_50 : decode cX8_writeLeaf 50 = .ok (.iinc 2 1, 3) := by decide +kernel
theorem dX8_writeLeaf_53 : decode cX8_writeLeaf 53 = .ok (.goto (-45), 3) := by decide +kernel
theorem dX8_writeLeaf_56 : decode cX8_writeLeaf 56 = .ok (.aload_n 0, 1) := by decide +kernel
theorem dX8_writeLeaf_57 : decode cX8_writeLeaf 57 = .ok (.bipush 93, 2) := by decide +kernel
theorem dX8_writeLeaf_59 : decode cX8_writeLeaf 59 = .ok (.invokevirtual 33, 3) := by decide +kernel
theorem dX8_writeLeaf_62 : decode cX8_writeLeaf 62 = .ok (.return_, 1) := by decide +kernel
theorem dX8_writeNumber_0 : decode cX8_writeNumber 0 = .ok (.iload_n 1, 1) := by decide +kernel
theorem dX8_writeNumber_1 : decode cX8_writeNumber 1 = .ok (.ifCond .ge 9, 3) := by decide +kernel
theorem dX8_writeNumber_4 : decode cX8_writeNumber 4 = .ok (.aload_n 0, 1) := by decide +kernel
theorem dX8_writeNumber_5 : decode cX8_writeNumber 5 = .ok (.bipush 45, 2) := by decide +kernel
theorem dX8_writeNumber_7 : decode cX8_writeNumber 7 = .ok (.invokevirtual 33, 3) := by decide +kernel
theorem dX8_writeNumber_10 : decode cX8_writeNumber 10 = .ok (.iload_n 1, 1) := by decide +kernel
theorem dX8_writeNumber_11 : decode cX8_writeNumber 11 = .ok (.ifCond .ge 8, 3) := by decide +kernel
theorem dX8_writeNumber_14 : decode cX8_writeNumber 14 = .ok (.iload_n 1, 1) := by decide +kernel
theorem dX8_writeNumber_15 : decode cX8_writeNumber 15 = .ok (.ineg, 1) := by decide +kernel
theorem dX8_writeNumber_16 : decode cX8_writeNumber 16 = .ok (.goto 4, 3) := by decide +kernel
theorem dX8_writeNumber_19 : decode cX8_writeNumber 19 = .ok (.iload_n 1, 1) := by decide +kernel
theorem dX8_writeNumber_20 : decode cX8_writeNumber 20 = .ok (.istore_n 2, 1) := by decide +kernel
theorem dX8_writeNumber_21 : decode cX8_writeNumber 21 = .ok (.iload_n 2, 1) := by decide +kernel
theorem dX8_writeNumber_22 : decode cX8_writeNumber 22 = .ok (.bipush 100, 2) := by decide +kernel
theorem dX8_writeNumber_24 : decode cX8_writeNumber 24 = .ok (.if_icmp .lt 18, 3) := by decide +kernel
theorem dX8_writeNumber_27 : decode cX8_writeNumber 27 = .ok (.aload_n 0, 1) := by decide +kernel
theorem dX8_writeNumber_28 : decode cX8_writeNumber 28 = .ok (.bipush 48, 2) := by decide +kernel
theorem dX8_writeNumber_30 : decode cX8_writeNumber 30 = .ok (.iload_n 2, 1) := by decide +kernel
theorem dX8_writeNumber_31 : decode cX8_writeNumber 31 = .ok (.bipush 100, 2) := by decide +kernel
theorem dX8_writeNumber_33 : decode cX8_writeNumber 33 = .ok (.idiv, 1) := by decide +kernel
theorem dX8_writeNumber_34 : decode cX8_writeNumber 34 = .ok (.bipush 10, 2) := by decide +kernel
theorem dX8_writeNumber_36 : decode cX8_writeNumber 36 = .ok (.irem, 1) := by decide +kernel
theorem dX8_writeNumber_37 : decode cX8_writeNumber 37 = .ok (.iadd, 1) := by decide +kernel
theorem dX8_writeNumber_38 : decode cX8_writeNumber 38 = .ok (.i2c, 1) := by decide +kernel
theorem dX8_writeNumber_39 : decode cX8_writeNumber 39 = .ok (.invokevirtual 33, 3) := by decide +kernel
theorem dX8_writeNumber_42 : decode cX8_writeNumber 42 = .ok (.iload_n 2, 1) := by decide +kernel
theorem dX8_writeNumber_43 : decode cX8_writeNumber 43 = .ok (.bipush 10, 2) := by decide +kernel
theorem dX8_writeNumber_45 : decode cX8_writeNumber 45 = .ok (.if_icmp .lt 18, 3) := by decide +kernel
theorem dX8_writeNumber_48 : decode cX8_writeNumber 48 = .ok (.aload_n 0, 1) := by decide +kernel
theorem dX8_writeNumber_49 : decode cX8_writeNumber 49 = .ok (.bipush 48, 2) := by decide +kernel
theorem dX8_writeNumber_51 : decode cX8_writeNumber 51 = .ok (.iload_n 2, 1) := by decide +kernel
theorem dX8_writeNumber_52 : decode cX8_writeNumber 52 = .ok (.bipush 10, 2) := by decide +kernel
theorem dX8_writeNumber_54 : decode cX8_writeNumber 54 = .ok (.idiv, 1) := by decide +kernel
theorem dX8_writeNumber_55 : decode cX8_writeNumber 55 = .ok (.bipush 10, 2) := by decide +kernel
theorem dX8_writeNumber_57 : decode cX8_writeNumber 57 = .ok (.irem, 1) := by decide +kernel
theorem dX8_writeNumber_58 : decode cX8_writeNumber 58 = .ok (.iadd, 1) := by decide +kernel
theorem dX8_writeNumber_59 : decode cX8_writeNumber 59 = .ok (.i2c, 1) := by decide +kernel
theorem dX8_writeNumber_60 : decode cX8_writeNumber 60 = .ok (.invokevirtual 33, 3) := by decide +kernel
theorem dX8_writeNumber_63 : decode cX8_writeNumber 63 = .ok (.aload_n 0, 1) := by decide +kernel
theorem dX8_writeNumber_64 : decode cX8_writeNumber 64 = .ok (.bipush 48, 2) := by decide +kernel
theorem dX8_writeNumber_66 : decode cX8_writeNumber 66 = .ok (.iload_n 2, 1) := by decide +kernel
theorem dX8_writeNumber_67 : decode cX8_writeNumber 67 = .ok (.bipush 10, 2) := by decide +kernel
theorem dX8_writeNumber_69 : decode cX8_writeNumber 69 = .ok (.irem, 1) := by decide +kernel
theorem dX8_writeNumber_70 : decode cX8_writeNumber 70 = .ok (.iadd, 1) := by decide +kernel
theorem dX8_writeNumber_71 : decode cX8_writeNumber 71 = .ok (.i2c, 1) := by decide +kernel
theorem dX8_writeNumber_72 : decode cX8_writeNumber 72 = .ok (.invokevirtual 33, 3) := by decide +kernel
theorem dX8_writeNumber_75 : decode cX8_writeNumber 75 = .ok (.return_, 1) := by decide +kernel
theorem dX8_append_0 : decode cX8_append 0 = .ok (.aload_n 0, 1) := by decide +kernel
theorem dX8_append_1 : decode cX8_append 1 = .ok (.getfield 15, 3) := by decide +kernel
theorem dX8_append_4 : decode cX8_append 4 = .ok (.aload_n 0, 1) := by decide +kernel
theorem dX8_append_5 : decode cX8_append 5 = .ok (.getfield 9, 3) := by decide +kernel
theorem dX8_append_8 : decode cX8_append 8 = .ok (.arraylength, 1) := by decide +kernel
theorem dX8_append_9 : decode cX8_append 9 = .ok (.if_icmp .ge 23, 3) := by decide +kernel
theorem dX8_append_12 : decode cX8_append 12 = .ok (.aload_n 0, 1) := by decide +kernel
theorem dX8_append_13 : decode cX8_append 13 = .ok (.getfield 9, 3) := by decide +kernel
theorem dX8_append_16 : decode cX8_append 16 = .ok (.aload_n 0, 1) := by decide +kernel
theorem dX8_append_17 : decode cX8_append 17 = .ok (.getfield 15, 3) := by decide +kernel
theorem dX8_append_20 : decode cX8_append 20 = .ok (.iload_n 1, 1) := by decide +kernel
theorem dX8_append_21 : decode cX8_append 21 = .ok (.iastore, 1) := by decide +kernel
theorem dX8_append_22 : decode cX8_append 22 = .ok (.aload_n 0, 1) := by decide +kernel
theorem dX8_append_23 : decode cX8_append 23 = .ok (.dup, 1) := by decide +kernel
theorem dX8_append_24 : decode cX8_append 24 = .ok (.getfield 15, 3) := by decide +kernel
theorem dX8_append_27 : decode cX8_append 27 = .ok (.iconst 1, 1) := by decide +kernel
theorem dX8_append_28 : decode cX8_append 28 = .ok (.iadd, 1) := by decide +kernel
theorem dX8_append_29 : decode cX8_append 29 = .ok (.putfield 15, 3) := by decide +kernel
theorem dX8_append_32 : decode cX8_append 32 = .ok (.return_, 1) := by decide +kernel
theorem dX8_size_0 : decode cX8_size 0 = .ok (.aload_n 0, 1) := by decide +kernel
theorem dX8_size_1 : decode cX8_size 1 = .ok (.getfield 15, 3) := by decide +kernel
theorem dX8_size_4 : decode cX8_size 4 = .ok (.ireturn, 1) := by decide +kernel
theorem dX8_signAt_0 : decode cX8_signAt 0 = .ok (.iload_n 1, 1) := by decide +kernel
theorem dX8_signAt_1 : decode cX8_signAt 1 = .ok (.ifCond .lt 29, 3) := by decide +kernel
theorem dX8_signAt_4 : decode cX8_signAt 4 = .ok (.iload_n 1, 1) := by decide +kernel
theorem dX8_signAt_5 : decode cX8_signAt 5 = .ok (.aload_n 0, 1) := by decide +kernel
theorem dX8_signAt_6 : decode cX8_signAt 6 = .ok (.getfield 15, 3) := by decide +kernel
theorem dX8_signAt_9 : decode cX8_signAt 9 = .ok (.if_icmp .ge 21, 3) := by decide +kernel
theorem dX8_signAt_12 : decode cX8_signAt 12 = .ok (.iload_n 1, 1) := by decide +kernel
theorem dX8_signAt_13 : decode cX8_signAt 13 = .ok (.aload_n 0, 1) := by decide +kernel
theorem dX8_signAt_14 : decode cX8_signAt 14 = .ok (.getfield 9, 3) := by decide +kernel
theorem dX8_signAt_17 : decode cX8_signAt 17 = .ok (.arraylength, 1) := by decide +kernel
theorem dX8_signAt_18 : decode cX8_signAt 18 = .ok (.if_icmp .ge 12, 3) := by decide +kernel
theorem dX8_signAt_21 : decode cX8_signAt 21 = .ok (.aload_n 0, 1) := by decide +kernel
theorem dX8_signAt_22 : decode cX8_signAt 22 = .ok (.getfield 9, 3) := by decide +kernel
theorem dX8_signAt_25 : decode cX8_signAt 25 = .ok (.iload_n 1, 1) := by decide +kernel
theorem dX8_signAt_26 : decode cX8_signAt 26 = .ok (.iaload, 1) := by decide +kernel
theorem dX8_signAt_27 : decode cX8_signAt 27 = .ok (.goto 4, 3) := by decide +kernel
theorem dX8_signAt_30 : decode cX8_signAt 30 = .ok (.iconst (-1), 1) := by decide +kernel
theorem dX8_signAt_31 : decode cX8_signAt 31 = .ok (.ireturn, 1) := by decide +kernel
theorem dX8_hashed_0 : decode cX8_hashed 0 = .ok (.iconst 0, 1) := by decide +kernel
theorem dX8_hashed_1 : decode cX8_hashed 1 = .ok (.istore_n 1, 1) := by decide +kernel
theorem dX8_hashed_2 : decode cX8_hashed 2 = .ok (.iconst 0, 1) := by decide +kernel
theorem dX8_hashed_3 : decode cX8_hashed 3 = .ok (.istore_n 2, 1) := by decide +kernel
theorem dX8_hashed_4 : decode cX8_hashed 4 = .ok (.iload_n 2, 1) := by decide +kernel
theorem dX8_hashed_5 : decode cX8_hashed 5 = .ok (.aload_n 0, 1) := by decide +kernel
theorem dX8_hashed_6 : decode cX8_hashed 6 = .ok (.getfield 15, 3) := by decide +kernel
theorem dX8_hashed_9 : decode cX8_hashed 9 = .ok (.if_icmp .ge 23, 3) := by decide +kernel
theorem dX8_hashed_12 : decode cX8_hashed 12 = .ok (.iload_n 1, 1) := by decide +kernel
theorem dX8_hashed_13 : decode cX8_hashed 13 = .ok (.bipush 31, 2) := by decide +kernel
theorem dX8_hashed_15 : decode cX8_hashed 15 = .ok (.imul, 1) := by decide +kernel
theorem dX8_hashed_16 : decode cX8_hashed 16 = .ok (.aload_n 0, 1) := by decide +kernel
theorem dX8_hashed_17 : decode cX8_hashed 17 = .ok (.iload_n 2, 1) := by decide +kernel
theorem dX8_hashed_18 : decode cX8_hashed 18 = .ok (.invokevirtual 55, 3) := by decide +kernel
theorem dX8_hashed_21 : decode cX8_hashed 21 = .ok (.iadd, 1) := by decide +kernel
theorem dX8_hashed_22 : decode cX8_hashed 22 = .ok (.ldc 58, 2) := by decide +kernel
theorem dX8_hashed_24 : decode cX8_hashed 24 = .ok (.irem, 1) := by decide +kernel
theorem dX8_hashed_25 : decode cX8_hashed 25 = .ok (.istore_n 1, 1) := by decide +kernel
theorem dX8_hashed_26 : decode cX8_hashed 26 = .ok (.iinc 2 1, 3) := by decide +kernel
theorem dX8_hashed_29 : decode cX8_hashed 29 = .ok (.goto (-25), 3) := by decide +kernel
theorem dX8_hashed_32 : decode cX8_hashed 32 = .ok (.iload_n 1, 1) := by decide +kernel
theorem dX8_hashed_33 : decode cX8_hashed 33 = .ok (.ireturn, 1) := by decide +kernel
theorem dX8_isSameAs_0 : decode cX8_isSameAs 0 = .ok (.aload_n 0, 1) := by decide +kernel
theorem dX8_isSameAs_1 : decode cX8_isSameAs 1 = .ok (.getfield 15, 3) := by decide +kernel
theorem dX8_isSameAs_4 : decode cX8_isSameAs 4 = .ok (.aload_n 1, 1) := by decide +kernel
theorem dX8_isSameAs_5 : decode cX8_isSameAs 5 = .ok (.getfield 15, 3) := by decide +kernel
theorem dX8_isSameAs_8 : decode cX8_isSameAs 8 = .ok (.if_icmp .eq 5, 3) := by decide +kernel
theorem dX8_isSameAs_11 : decode cX8_isSameAs 11 = .ok (.iconst 0, 1) := by decide +kernel
theorem dX8_isSameAs_12 : decode cX8_isSameAs 12 = .ok (.ireturn, 1) := by decide +kernel
theorem dX8_isSameAs_13 : decode cX8_isSameAs 13 = .ok (.iconst 0, 1) := by decide +kernel
theorem dX8_isSameAs_14 : decode cX8_isSameAs 14 = .ok (.istore_n 2, 1) := by decide +kernel
theorem dX8_isSameAs_15 : decode cX8_isSameAs 15 = .ok (.iload_n 2, 1) := by decide +kernel
theorem dX8_isSameAs_16 : decode cX8_isSameAs 16 = .ok (.aload_n 0, 1) := by decide +kernel
theorem dX8_isSameAs_17 : decode cX8_isSameAs 17 = .ok (.getfield 15, 3) := by decide +kernel
theorem dX8_isSameAs_20 : decode cX8_isSameAs 20 = .ok (.if_icmp .ge 24, 3) := by decide +kernel
theorem dX8_isSameAs_23 : decode cX8_isSameAs 23 = .ok (.aload_n 0, 1) := by decide +kernel
theorem dX8_isSameAs_24 : decode cX8_isSameAs 24 = .ok (.iload_n 2, 1) := by decide +kernel
theorem dX8_isSameAs_25 : decode cX8_isSameAs 25 = .ok (.invokevirtual 55, 3) := by decide +kernel
theorem dX8_isSameAs_28 : decode cX8_isSameAs 28 = .ok (.aload_n 1, 1) := by decide +kernel
theorem dX8_isSameAs_29 : decode cX8_isSameAs 29 = .ok (.iload_n 2, 1) := by decide +kernel
theorem dX8_isSameAs_30 : decode cX8_isSameAs 30 = .ok (.invokevirtual 55, 3) := by decide +kernel
theorem dX8_isSameAs_33 : decode cX8_isSameAs 33 = .ok (.if_icmp .eq 5, 3) := by decide +kernel
theorem dX8_isSameAs_36 : decode cX8_isSameAs 36 = .ok (.iconst 0, 1) := by decide +kernel
theorem dX8_isSameAs_37 : decode cX8_isSameAs 37 = .ok (.ireturn, 1) := by decide +kernel
theorem dX8_isSameAs_38 : decode cX8_isSameAs 38 = .ok (.iinc 2 1, 3) := by decide +kernel
theorem dX8_isSameAs_41 : decode cX8_isSameAs 41 = .ok (.goto (-26), 3) := by decide +kernel
theorem dX8_isSameAs_44 : decode cX8_isSameAs 44 = .ok (.iconst 1, 1) := by decide +kernel
theorem dX8_isSameAs_45 : decode cX8_isSameAs 45 = .ok (.ireturn, 1) := by decide +kernel
theorem dX9_init_0 : decode cX9_init 0 = .ok (.aload_n 0, 1) := by decide +kernel
theorem dX9_init_1 : decode cX9_init 1 = .ok (.invokespecial 3, 3) := by decide +kernel
theorem dX9_init_4 : decode cX9_init 4 = .ok (.aload_n 0, 1) := by decide +kernel
theorem dX9_init_5 : decode cX9_init 5 = .ok (.sipush 240, 3) := by decide +kernel
theorem dX9_init_8 : decode cX9_init 8 = .ok (.newarray .int, 2) := by decide +kernel
theorem dX9_init_10 : decode cX9_init 10 = .ok (.putfield 9, 3) := by decide +kernel
theorem dX9_init_13 : decode cX9_init 13 = .ok (.return_, 1) := by decide +kernel
theorem dX9_signsIn_0 : decode cX9_signsIn 0 = .ok (.iconst 0, 1) := by decide +kernel
theorem dX9_signsIn_1 : decode cX9_signsIn 1 = .ok (.istore_n 1, 1) := by decide +kernel
theorem dX9_signsIn_2 : decode cX9_signsIn 2 = .ok (.bipush 24, 2) := by decide +kernel
theorem dX9_signsIn_4 : decode cX9_signsIn 4 = .ok (.istore_n 2, 1) := by decide +kernel
theorem dX9_signsIn_5 : decode cX9_signsIn 5 = .ok (.iload_n 2, 1) := by decide +kernel
theorem dX9_signsIn_6 : decode cX9_signsIn 6 = .ok (.ifCond .lt 22, 3) := by decide +kernel
theorem dX9_signsIn_9 : decode cX9_signsIn 9 = .ok (.iload_n 0, 1) := by decide +kernel
theorem dX9_signsIn_10 : decode cX9_signsIn 10 = .ok (.iload_n 2, 1) := by decide +kernel
theorem dX9_signsIn_11 : decode cX9_signsIn 11 = .ok (.iushr, 1) := by decide +kernel
theorem dX9_signsIn_12 : decode cX9_signsIn 12 = .ok (.sipush 255, 3) := by decide +kernel
theorem dX9_signsIn_15 : decode cX9_signsIn 15 = .ok (.iand, 1) := by decide +kernel
theorem dX9_signsIn_16 : decode cX9_signsIn 16 = .ok (.ifCond .eq 6, 3) := by decide +kernel
theorem dX9_signsIn_19 : decode cX9_signsIn 19 = .ok (.iinc 1 1, 3) := by decide +kernel
theorem dX9_signsIn_22 : decode cX9_signsIn 22 = .ok (.iinc 2 (-8), 3) := by decide +kernel
theorem dX9_signsIn_25 : decode cX9_signsIn 25 = .ok (.goto (-20), 3) := by decide +kernel
theorem dX9_signsIn_28 : decode cX9_signsIn 28 = .ok (.iload_n 1, 1) := by decide +kernel
theorem dX9_signsIn_29 : decode cX9_signsIn 29 = .ok (.ireturn, 1) := by decide +kernel
theorem dX9_append_0 : decode cX9_append 0 = .ok (.bipush 24, 2) := by decide +kernel
theorem dX9_append_2 : decode cX9_append 2 = .ok (.istore_n 2, 1) := by decide +kernel
theorem dX9_append_3 : decode cX9_append 3 = .ok (.iload_n 2, 1) := by decide +kernel
theorem dX9_append_4 : decode cX9_append 4 = .ok (.ifCond .lt 53, 3) := by decide +kernel
theorem dX9_append_7 : decode cX9_append 7 = .ok (.iload_n 1, 1) := by decide +kernel
theorem dX9_append_8 : decode cX9_append 8 = .ok (.iload_n 2, 1) := by decide +kernel
theorem dX9_append_9 : decode cX9_append 9 = .ok (.iushr, 1) := by decide +kernel
theorem dX9_append_10 : decode cX9_append 10 = .ok (.sipush 255, 3) := by decide +kernel
theorem dX9_append_13 : decode cX9_append 13 = .ok (.iand, 1) := by decide +kernel
theorem dX9_append_14 : decode cX9_append 14 = .ok (.istore_n 3, 1) := by decide +kernel
theorem dX9_append_15 : decode cX9_append 15 = .ok (.iload_n 3, 1) := by decide +kernel
theorem dX9_append_16 : decode cX9_append 16 = .ok (.ifCond .eq 35, 3) := by decide +kernel
theorem dX9_append_19 : decode cX9_append 19 = .ok (.aload_n 0, 1) := by decide +kernel
theorem dX9_append_20 : decode cX9_append 20 = .ok (.getfield 15, 3) := by decide +kernel
theorem dX9_append_23 : decode cX9_append 23 = .ok (.aload_n 0, 1) := by decide +kernel
theorem dX9_append_24 : decode cX9_append 24 = .ok (.getfield 9, 3) := by decide +kernel
theorem dX9_append_27 : decode cX9_append 27 = .ok (.arraylength, 1) := by decide +kernel
theorem dX9_append_28 : decode cX9_append 28 = .ok (.if_icmp .ge 23, 3) := by decide +kernel
theorem dX9_append_31 : decode cX9_append 31 = .ok (.aload_n 0, 1) := by decide +kernel
theorem dX9_append_32 : decode cX9_append 32 = .ok (.getfield 9, 3) := by decide +kernel
theorem dX9_append_35 : decode cX9_append 35 = .ok (.aload_n 0, 1) := by decide +kernel
theorem dX9_append_36 : decode cX9_append 36 = .ok (.getfield 15, 3) := by decide +kernel
theorem dX9_append_39 : decode cX9_append 39 = .ok (.iload_n 3, 1) := by decide +kernel
theorem dX9_append_40 : decode cX9_append 40 = .ok (.iastore, 1) := by decide +kernel
theorem dX9_append_41 : decode cX9_append 41 = .ok (.aload_n 0, 1) := by decide +kernel
theorem dX9_append_42 : decode cX9_append 42 = .ok (.dup, 1) := by decide +kernel
theorem dX9_append_43 : decode cX9_append 43 = .ok (.getfield 15, 3) := by decide +kernel
theorem dX9_append_46 : decode cX9_append 46 = .ok (.iconst 1, 1) := by decide +kernel
theorem dX9_append_47 : decode cX9_append 47 = .ok (.iadd, 1) := by decide +kernel
theorem dX9_append_48 : decode cX9_append 48 = .ok (.putfield 15, 3) := by decide +kernel
theorem dX9_append_51 : decode cX9_append 51 = .ok (.iinc 2 (-8), 3) := by decide +kernel
theorem dX9_append_54 : decode cX9_append 54 = .ok (.goto (-51), 3) := by decide +kernel
theorem dX9_append_57 : decode cX9_append 57 = .ok (.return_, 1) := by decide +kernel
theorem dX9_shorten_0 : decode cX9_shorten 0 = .ok (.iload_n 1, 1) := by decide +kernel
theorem dX9_shorten_1 : decode cX9_shorten 1 = .ok (.ifCond .lt 11, 3) := by decide +kernel
theorem dX9_shorten_4 : decode cX9_shorten 4 = .ok (.iload_n 1, 1) := by decide +kernel
theorem dX9_shorten_5 : decode cX9_shorten 5 = .ok (.aload_n 0, 1) := by decide +kernel
theorem dX9_shorten_6 : decode cX9_shorten 6 = .ok (.getfield 15, 3) := by decide +kernel
theorem dX9_shorten_9 : decode cX9_shorten 9 = .ok (.if_icmp .le 5, 3) := by decide +kernel
theorem dX9_shorten_12 : decode cX9_shorten 12 = .ok (.iconst 0, 1) := by decide +kernel
theorem dX9_shorten_13 : decode cX9_shorten 13 = .ok (.ireturn, 1) := by decide +kernel
theorem dX9_shorten_14 : decode cX9_shorten 14 = .ok (.aload_n 0, 1) := by decide +kernel
theorem dX9_shorten_15 : decode cX9_shorten 15 = .ok (.iload_n 1, 1) := by decide +kernel
theorem dX9_shorten_16 : decode cX9_shorten 16 = .ok (.putfield 15, 3) := by decide +kernel
theorem dX9_shorten_19 : decode cX9_shorten 19 = .ok (.iconst 1, 1) := by decide +kernel
theorem dX9_shorten_20 : decode cX9_shorten 20 = .ok (.ireturn, 1) := by decide +kernel
theorem dX9_size_0 : decode cX9_size 0 = .ok (.aload_n 0, 1) := by decide +kernel
theorem dX9_size_1 : decode cX9_size 1 = .ok (.getfield 15, 3) := by decide +kernel
theorem dX9_size_4 : decode cX9_size 4 = .ok (.ireturn, 1) := by decide +kernel
theorem dX9_byteAt_0 : decode cX9_byteAt 0 = .ok (.iload_n 1, 1) := by decide +kernel
theorem dX9_byteAt_1 : decode cX9_byteAt 1 = .ok (.ifCond .lt 29, 3) := by decide +kernel
theorem dX9_byteAt_4 : decode cX9_byteAt 4 = .ok (.iload_n 1, 1) := by decide +kernel
theorem dX9_byteAt_5 : decode cX9_byteAt 5 = .ok (.aload_n 0, 1) := by decide +kernel
theorem dX9_byteAt_6 : decode cX9_byteAt 6 = .ok (.getfield 15, 3) := by decide +kernel
theorem dX9_byteAt_9 : decode cX9_byteAt 9 = .ok (.if_icmp .ge 21, 3) := by decide +kernel
theorem dX9_byteAt_12 : decode cX9_byteAt 12 = .ok (.iload_n 1, 1) := by decide +kernel
theorem dX9_byteAt_13 : decode cX9_byteAt 13 = .ok (.aload_n 0, 1) := by decide +kernel
theorem dX9_byteAt_14 : decode cX9_byteAt 14 = .ok (.getfield 9, 3) := by decide +kernel
theorem dX9_byteAt_17 : decode cX9_byteAt 17 = .ok (.arraylength, 1) := by decide +kernel
theorem dX9_byteAt_18 : decode cX9_byteAt 18 = .ok (.if_icmp .ge 12, 3) := by decide +kernel
theorem dX9_byteAt_21 : decode cX9_byteAt 21 = .ok (.aload_n 0, 1) := by decide +kernel
theorem dX9_byteAt_22 : decode cX9_byteAt 22 = .ok (.getfield 9, 3) := by decide +kernel
theorem dX9_byteAt_25 : decode cX9_byteAt 25 = .ok (.iload_n 1, 1) := by decide +kernel
theorem dX9_byteAt_26 : decode cX9_byteAt 26 = .ok (.iaload, 1) := by decide +kernel
theorem dX9_byteAt_27 : decode cX9_byteAt 27 = .ok (.goto 4, 3) := by decide +kernel
theorem dX9_byteAt_30 : decode cX9_byteAt 30 = .ok (.iconst (-1), 1) := by decide +kernel
theorem dX9_byteAt_31 : decode cX9_byteAt 31 = .ok (.ireturn, 1) := by decide +kernel
