theorem dX10_add_52 : decode cX10_add 52 = .ok (.getfield 39, 3) := by decide +kernel
theorem dX10_add_55 : decode cX10_add 55 = .ok (.invokevirtual 324, 3) := by decide +kernel
theorem dX10_add_58 : decode cX10_add 58 = .ok (.istore 6, 2) := by decide +kernel
theorem dX10_add_60 : decode cX10_add 60 = .ok (.aload_n 0, 1) := by decide +kernel
theorem dX10_add_61 : decode cX10_add 61 = .ok (.aload 4, 2) := by decide +kernel
theorem dX10_add_63 : decode cX10_add 63 = .ok (.iload_n 2, 1) := by decide +kernel
theorem dX10_add_64 : decode cX10_add 64 = .ok (.iload_n 3, 1) := by decide +kernel
theorem dX10_add_65 : decode cX10_add 65 = .ok (.invokevirtual 335, 3) := by decide +kernel
theorem dX10_add_68 : decode cX10_add 68 = .ok (.ifCond .eq 16, 3) := by decide +kernel
theorem dX10_add_71 : decode cX10_add 71 = .ok (.aload_n 0, 1) := by decide +kernel
theorem dX10_add_72 : decode cX10_add 72 = .ok (.getfield 39, 3) := by decide +kernel
theorem dX10_add_75 : decode cX10_add 75 = .ok (.invokevirtual 324, 3) := by decide +kernel
theorem dX10_add_78 : decode cX10_add 78 = .ok (.iload 6, 2) := by decide +kernel
theorem dX10_add_80 : decode cX10_add 80 = .ok (.isub, 1) := by decide +kernel
theorem dX10_add_81 : decode cX10_add 81 = .ok (.goto 8, 3) := by decide +kernel
theorem dX10_add_84 : decode cX10_add 84 = .ok (.aload_n 0, 1) := by decide +kernel
theorem dX10_add_85 : decode cX10_add 85 = .ok (.iconst 3, 1) := by decide +kernel
theorem dX10_add_86 : decode cX10_add 86 = .ok (.invokevirtual 128, 3) := by decide +kernel
theorem dX10_add_89 : decode cX10_add 89 = .ok (.ireturn, 1) := by decide +kernel
theorem dX10_cut_0 : decode cX10_cut 0 = .ok (.aload_n 0, 1) := by decide +kernel
theorem dX10_cut_1 : decode cX10_cut 1 = .ok (.iload_n 1, 1) := by decide +kernel
theorem dX10_cut_2 : decode cX10_cut 2 = .ok (.invokevirtual 313, 3) := by decide +kernel
theorem dX10_cut_5 : decode cX10_cut 5 = .ok (.astore 4, 2) := by decide +kernel
theorem dX10_cut_7 : decode cX10_cut 7 = .ok (.aload 4, 2) := by decide +kernel
theorem dX10_cut_9 : decode cX10_cut 9 = .ok (.iload_n 2, 1) := by decide +kernel
theorem dX10_cut_10 : decode cX10_cut 10 = .ok (.iload_n 3, 1) := by decide +kernel
theorem dX10_cut_11 : decode cX10_cut 11 = .ok (.invokestatic 304, 3) := by decide +kernel
theorem dX10_cut_14 : decode cX10_cut 14 = .ok (.invokestatic 320, 3) := by decide +kernel
theorem dX10_cut_17 : decode cX10_cut 17 = .ok (.istore 5, 2) := by decide +kernel
theorem dX10_cut_19 : decode cX10_cut 19 = .ok (.aload 4, 2) := by decide +kernel
theorem dX10_cut_21 : decode cX10_cut 21 = .ok (.ifnull 9, 3) := by decide +kernel
theorem dX10_cut_24 : decode cX10_cut 24 = .ok (.iload 5, 2) := by decide +kernel
theorem dX10_cut_26 : decode cX10_cut 26 = .ok (.iconst (-1), 1) := by decide +kernel
theorem dX10_cut_27 : decode cX10_cut 27 = .ok (.if_icmp .eq 10, 3) := by decide +kernel
theorem dX10_cut_30 : decode cX10_cut 30 = .ok (.aload_n 0, 1) := by decide +kernel
theorem dX10_cut_31 : decode cX10_cut 31 = .ok (.iload 5, 2) := by decide +kernel
theorem dX10_cut_33 : decode cX10_cut 33 = .ok (.invokevirtual 128, 3) := by decide +kernel
theorem dX10_cut_36 : decode cX10_cut 36 = .ok (.ireturn, 1) := by decide +kernel
theorem dX10_cut_37 : decode cX10_cut 37 = .ok (.aload_n 0, 1) := by decide +kernel
theorem dX10_cut_38 : decode cX10_cut 38 = .ok (.getfield 39, 3) := by decide +kernel
theorem dX10_cut_41 : decode cX10_cut 41 = .ok (.invokevirtual 324, 3) := by decide +kernel
theorem dX10_cut_44 : decode cX10_cut 44 = .ok (.istore 6, 2) := by decide +kernel
theorem dX10_cut_46 : decode cX10_cut 46 = .ok (.aload_n 0, 1) := by decide +kernel
theorem dX10_cut_47 : decode cX10_cut 47 = .ok (.aload 4, 2) := by decide +kernel
theorem dX10_cut_49 : decode cX10_cut 49 = .ok (.iload_n 2, 1) := by decide +kernel
theorem dX10_cut_50 : decode cX10_cut 50 = .ok (.iload_n 3, 1) := by decide +kernel
theorem dX10_cut_51 : decode cX10_cut 51 = .ok (.invokevirtual 331, 3) := by decide +kernel
theorem dX10_cut_54 : decode cX10_cut 54 = .ok (.aload_n 0, 1) := by decide +kernel
theorem dX10_cut_55 : decode cX10_cut 55 = .ok (.getfield 39, 3) := by decide +kernel
theorem dX10_cut_58 : decode cX10_cut 58 = .ok (.invokevirtual 324, 3) := by decide +kernel
theorem dX10_cut_61 : decode cX10_cut 61 = .ok (.iload 6, 2) := by decide +kernel
theorem dX10_cut_63 : decode cX10_cut 63 = .ok (.isub, 1) := by decide +kernel
theorem dX10_cut_64 : decode cX10_cut 64 = .ok (.ireturn, 1) := by decide +kernel
theorem dX10_inc_0 : decode cX10_inc 0 = .ok (.aload_n 0, 1) := by decide +kernel
theorem dX10_inc_1 : decode cX10_inc 1 = .ok (.iload_n 1, 1) := by decide +kernel
theorem dX10_inc_2 : decode cX10_inc 2 = .ok (.invokevirtual 313, 3) := by decide +kernel
theorem dX10_inc_5 : decode cX10_inc 5 = .ok (.astore 5, 2) := by decide +kernel
theorem dX10_inc_7 : decode cX10_inc 7 = .ok (.aload 5, 2) := by decide +kernel
theorem dX10_inc_9 : decode cX10_inc 9 = .ok (.iload_n 2, 1) := by decide +kernel
theorem dX10_inc_10 : decode cX10_inc 10 = .ok (.iload_n 3, 1) := by decide +kernel
theorem dX10_inc_11 : decode cX10_inc 11 = .ok (.invokestatic 304, 3) := by decide +kernel
theorem dX10_inc_14 : decode cX10_inc 14 = .ok (.ifCond .eq 15, 3) := by decide +kernel
theorem dX10_inc_17 : decode cX10_inc 17 = .ok (.iload 4, 2) := by decide +kernel
theorem dX10_inc_19 : decode cX10_inc 19 = .ok (.invokestatic 238, 3) := by decide +kernel
theorem dX10_inc_22 : decode cX10_inc 22 = .ok (.ifCond .eq 7, 3) := by decide +kernel
theorem dX10_inc_25 : decode cX10_inc 25 = .ok (.iconst 1, 1) := by decide +kernel
theorem dX10_inc_26 : decode cX10_inc 26 = .ok (.goto 4, 3) := by decide +kernel
theorem dX10_inc_29 : decode cX10_inc 29 = .ok (.iconst 0, 1) := by decide +kernel
theorem dX10_inc_30 : decode cX10_inc 30 = .ok (.invokestatic 320, 3) := by decide +kernel
theorem dX10_inc_33 : decode cX10_inc 33 = .ok (.istore 6, 2) := by decide +kernel
theorem dX10_inc_35 : decode cX10_inc 35 = .ok (.aload 5, 2) := by decide +kernel
theorem dX10_inc_37 : decode cX10_inc 37 = .ok (.ifnull 9, 3) := by decide +kernel
theorem dX10_inc_40 : decode cX10_inc 40 = .ok (.iload 6, 2) := by decide +kernel
theorem dX10_inc_42 : decode cX10_inc 42 = .ok (.iconst (-1), 1) := by decide +kernel
theorem dX10_inc_43 : decode cX10_inc 43 = .ok (.if_icmp .eq 10, 3) := by decide +kernel
theorem dX10_inc_46 : decode cX10_inc 46 = .ok (.aload_n 0, 1) := by decide +kernel
theorem dX10_inc_47 : decode cX10_inc 47 = .ok (.iload 6, 2) := by decide +kernel
theorem dX10_inc_49 : decode cX10_inc 49 = .ok (.invokevirtual 128, 3) := by decide +kernel
theorem dX10_inc_52 : decode cX10_inc 52 = .ok (.ireturn, 1) := by decide +kernel
theorem dX10_inc_53 : decode cX10_inc 53 = .ok (.aload_n 0, 1) := by decide +kernel
theorem dX10_inc_54 : decode cX10_inc 54 = .ok (.getfield 39, 3) := by decide +kernel
theorem dX10_inc_57 : decode cX10_inc 57 = .ok (.invokevirtual 324, 3) := by decide +kernel
theorem dX10_inc_60 : decode cX10_inc 60 = .ok (.istore 7, 2) := by decide +kernel
theorem dX10_inc_62 : decode cX10_inc 62 = .ok (.aload_n 0, 1) := by decide +kernel
theorem dX10_inc_63 : decode cX10_inc 63 = .ok (.aload 5, 2) := by decide +kernel
theorem dX10_inc_65 : decode cX10_inc 65 = .ok (.iload_n 2, 1) := by decide +kernel
theorem dX10_inc_66 : decode cX10_inc 66 = .ok (.iload_n 3, 1) := by decide +kernel
theorem dX10_inc_67 : decode cX10_inc 67 = .ok (.iload 4, 2) := by decide +kernel
theorem dX10_inc_69 : decode cX10_inc 69 = .ok (.invokevirtual 338, 3) := by decide +kernel
theorem dX10_inc_72 : decode cX10_inc 72 = .ok (.aload_n 0, 1) := by decide +kernel
theorem dX10_inc_73 : decode cX10_inc 73 = .ok (.getfield 39, 3) := by decide +kernel
theorem dX10_inc_76 : decode cX10_inc 76 = .ok (.invokevirtual 324, 3) := by decide +kernel
theorem dX10_inc_79 : decode cX10_inc 79 = .ok (.iload 7, 2) := by decide +kernel
theorem dX10_inc_81 : decode cX10_inc 81 = .ok (.isub, 1) := by decide +kernel
theorem dX10_inc_82 : decode cX10_inc 82 = .ok (.ireturn, 1) := by decide +kernel
theorem dX10_objection_0 : decode cX10_objection 0 = .ok (.aload_n 0, 1) := by decide +kernel
theorem dX10_objection_1 : decode cX10_objection 1 = .ok (.ifnonnull 5, 3) := by decide +kernel
theorem dX10_objection_4 : decode cX10_objection 4 = .ok (.iconst 0, 1) := by decide +kernel
theorem dX10_objection_5 : decode cX10_objection 5 = .ok (.ireturn, 1) := by decide +kernel
theorem dX10_objection_6 : decode cX10_objection 6 = .ok (.iload_n 1, 1) := by decide +kernel
theorem dX10_objection_7 : decode cX10_objection 7 = .ok (.ifCond .ne 5, 3) := by decide +kernel
theorem dX10_objection_10 : decode cX10_objection 10 = .ok (.iconst 1, 1) := by decide +kernel
theorem dX10_objection_11 : decode cX10_objection 11 = .ok (.ireturn, 1) := by decide +kernel
theorem dX10_objection_12 : decode cX10_objection 12 = .ok (.aload_n 0, 1) := by decide +kernel
theorem dX10_objection_13 : decode cX10_objection 13 = .ok (.invokevirtual 342, 3) := by decide +kernel
theorem dX10_objection_16 : decode cX10_objection 16 = .ok (.ifCond .eq 7, 3) := by decide +kernel
theorem dX10_objection_19 : decode cX10_objection 19 = .ok (.iconst 2, 1) := by decide +kernel
theorem dX10_objection_20 : decode cX10_objection 20 = .ok (.goto 4, 3) := by decide +kernel
theorem dX10_objection_23 : decode cX10_objection 23 = .ok (.iconst (-1), 1) := by decide +kernel
theorem dX10_objection_24 : decode cX10_objection 24 = .ok (.ireturn, 1) := by decide +kernel
theorem dX10_isPut_0 : decode cX10_isPut 0 = .ok (.aload_n 1, 1) := by decide +kernel
theorem dX10_isPut_1 : decode cX10_isPut 1 = .ok (.invokevirtual 345, 3) := by decide +kernel
theorem dX10_isPut_4 : decode cX10_isPut 4 = .ok (.iload_n 2, 1) := by decide +kernel
theorem dX10_isPut_5 : decode cX10_isPut 5 = .ok (.invokestatic 241, 3) := by decide +kernel
theorem dX10_isPut_8 : decode cX10_isPut 8 = .ok (.ifCond .ne 5, 3) := by decide +kernel
theorem dX10_isPut_11 : decode cX10_isPut 11 = .ok (.iconst 0, 1) := by decide +kernel
theorem dX10_isPut_12 : decode cX10_isPut 12 = .ok (.ireturn, 1) := by decide +kernel
theorem dX10_isPut_13 : decode cX10_isPut 13 = .ok (.aload_n 1, 1) := by decide +kernel
theorem dX10_isPut_14 : decode cX10_isPut 14 = .ok (.aload_n 0, 1) := by decide +kernel
theorem dX10_isPut_15 : decode cX10_isPut 15 = .ok (.getfield 39, 3) := by decide +kernel
theorem dX10_isPut_18 : decode cX10_isPut 18 = .ok (.aload_n 1, 1) := by decide +kernel
theorem dX10_isPut_19 : decode cX10_isPut 19 = .ok (.invokevirtual 345, 3) := by decide +kernel
theorem dX10_isPut_22 : decode cX10_isPut 22 = .ok (.aload_n 1, 1) := by decide +kernel
theorem dX10_isPut_23 : decode cX10_isPut 23 = .ok (.invokevirtual 349, 3) := by decide +kernel
theorem dX10_isPut_26 : decode cX10_isPut 26 = .ok (.iload_n 2, 1) := by decide +kernel
theorem dX10_isPut_27 : decode cX10_isPut 27 = .ok (.iload_n 3, 1) := by decide +kernel
theorem dX10_isPut_28 : decode cX10_isPut 28 = .ok (.invokevirtual 145, 3) := by decide +kernel
theorem dX10_isPut_31 : decode cX10_isPut 31 = .ok (.invokevirtual 352, 3) := by decide +kernel
theorem dX10_isPut_34 : decode cX10_isPut 34 = .ok (.iconst 1, 1) := by decide +kernel
theorem dX10_isPut_35 : decode cX10_isPut 35 = .ok (.ireturn, 1) := by decide +kernel
theorem dX10_isAdded_0 : decode cX10_isAdded 0 = .ok (.aload_n 1, 1) := by decide +kernel
theorem dX10_isAdded_1 : decode cX10_isAdded 1 = .ok (.invokevirtual 345, 3) := by decide +kernel
theorem dX10_isAdded_4 : decode cX10_isAdded 4 = .ok (.iload_n 2, 1) := by decide +kernel
theorem dX10_isAdded_5 : decode cX10_isAdded 5 = .ok (.invokestatic 241, 3) := by decide +kernel
theorem dX10_isAdded_8 : decode cX10_isAdded 8 = .ok (.ifCond .ne 5, 3) := by decide +kernel
theorem dX10_isAdded_11 : decode cX10_isAdded 11 = .ok (.iconst 0, 1) := by decide +kernel
theorem dX10_isAdded_12 : decode cX10_isAdded 12 = .ok (.ireturn, 1) := by decide +kernel
theorem dX10_isAdded_13 : decode cX10_isAdded 13 = .ok (.aload_n 1, 1) := by decide +kernel
theorem dX10_isAdded_14 : decode cX10_isAdded 14 = .ok (.invokevirtual 345, 3) := by decide +kernel
theorem dX10_isAdded_17 : decode cX10_isAdded 17 = .ok (.iload_n 2, 1) := by decide +kernel
theorem dX10_isAdded_18 : decode cX10_isAdded 18 = .ok (.invokestatic 169, 3) := by decide +kernel
theorem dX10_isAdded_21 : decode cX10_isAdded 21 = .ok (.istore 4, 2) := by decide +kernel
theorem dX10_isAdded_23 : decode cX10_isAdded 23 = .ok (.iload 4, 2) := by decide +kernel
theorem dX10_isAdded_25 : decode cX10_isAdded 25 = .ok (.ldc 180, 2) := by decide +kernel
theorem dX10_isAdded_27 : decode cX10_isAdded 27 = .ok (.if_icmp .ne 7, 3) := by decide +kernel
theorem dX10_isAdded_30 : decode cX10_isAdded 30 = .ok (.iload_n 3, 1) := by decide +kernel
theorem dX10_isAdded_31 : decode cX10_isAdded 31 = .ok (.goto 10, 3) := by decide +kernel
theorem dX10_isAdded_34 : decode cX10_isAdded 34 = .ok (.iload 4, 2) := by decide +kernel
theorem dX10_isAdded_36 : decode cX10_isAdded 36 = .ok (.iload_n 3, 1) := by decide +kernel
theorem dX10_isAdded_37 : decode cX10_isAdded 37 = .ok (.iadd, 1) := by decide +kernel
theorem dX10_isAdded_38 : decode cX10_isAdded 38 = .ok (.invokestatic 275, 3) := by decide +kernel
theorem dX10_isAdded_41 : decode cX10_isAdded 41 = .ok (.istore 5, 2) := by decide +kernel
theorem dX10_isAdded_43 : decode cX10_isAdded 43 = .ok (.aload_n 1, 1) := by decide +kernel
theorem dX10_isAdded_44 : decode cX10_isAdded 44 = .ok (.aload_n 0, 1) := by decide +kernel
theorem dX10_isAdded_45 : decode cX10_isAdded 45 = .ok (.getfield 39, 3) := by decide +kernel
theorem dX10_isAdded_48 : decode cX10_isAdded 48 = .ok (.aload_n 1, 1) := by decide +kernel
theorem dX10_isAdded_49 : decode cX10_isAdded 49 = .ok (.invokevirtual 345, 3) := by decide +kernel
theorem dX10_isAdded_52 : decode cX10_isAdded 52 = .ok (.aload_n 1, 1) := by decide +kernel
theorem dX10_isAdded_53 : decode cX10_isAdded 53 = .ok (.invokevirtual 349, 3) := by decide +kernel
theorem dX10_isAdded_56 : decode cX10_isAdded 56 = .ok (.iload_n 2, 1) := by decide +kernel
theorem dX10_isAdded_57 : decode cX10_isAdded 57 = .ok (.iload 5, 2) := by decide +kernel
theorem dX10_isAdded_59 : decode cX10_isAdded 59 = .ok (.invokevirtual 145, 3) := by decide +kernel
theorem dX10_isAdded_62 : decode cX10_isAdded 62 = .ok (.invokevirtual 352, 3) := by decide +kernel
theorem dX10_isAdded_65 : decode cX10_isAdded 65 = .ok (.iconst 1, 1) := by decide +kernel
theorem dX10_isAdded_66 : decode cX10_isAdded 66 = .ok (.ireturn, 1) := by decide +kernel
theorem dX10_cutRange_0 : decode cX10_cutRange 0 = .ok (.aload_n 0, 1) := by decide +kernel
theorem dX10_cutRange_1 : decode cX10_cutRange 1 = .ok (.getfield 77, 3) := by decide +kernel
theorem dX10_cutRange_4 : decode cX10_cutRange 4 = .ok (.aload_n 1, 1) := by decide +kernel
theorem dX10_cutRange_5 : decode cX10_cutRange 5 = .ok (.invokevirtual 345, 3) := by decide +kernel
theorem dX10_cutRange_8 : decode cX10_cutRange 8 = .ok (.invokevirtual 173, 3) := by decide +kernel
theorem dX10_cutRange_11 : decode cX10_cutRange 11 = .ok (.iconst 0, 1) := by decide +kernel
theorem dX10_cutRange_12 : decode cX10_cutRange 12 = .ok (.istore 4, 2) := by decide +kernel
theorem dX10_cutRange_14 : decode cX10_cutRange 14 = .ok (.iload 4, 2) := by decide +kernel
theorem dX10_cutRange_16 : decode cX10_cutRange 16 = .ok (.aload_n 0, 1) := by decide +kernel
theorem dX10_cutRange_17 : decode cX10_cutRange 17 = .ok (.getfield 77, 3) := by decide +kernel
theorem dX10_cutRange_20 : decode cX10_cutRange 20 = .ok (.invokevirtual 138, 3) := by decide +kernel
theorem dX10_cutRange_23 : decode cX10_cutRange 23 = .ok (.if_icmp .ge 53, 3) := by decide +kernel
theorem dX10_cutRange_26 : decode cX10_cutRange 26 = .ok (.aload_n 0, 1) := by decide +kernel
theorem dX10_cutRange_27 : decode cX10_cutRange 27 = .ok (.getfield 77, 3) := by decide +kernel
theorem dX10_cutRange_30 : decode cX10_cutRange 30 = .ok (.iload 4, 2) := by decide +kernel
theorem dX10_cutRange_32 : decode cX10_cutRange 32 = .ok (.invokevirtual 139, 3) := by decide +kernel
theorem dX10_cutRange_35 : decode cX10_cutRange 35 = .ok (.istore 5, 2) := by decide +kernel
theorem dX10_cutRange_37 : decode cX10_cutRange 37 = .ok (.iload 5, 2) := by decide +kernel
theorem dX10_cutRange_39 : decode cX10_cutRange 39 = .ok (.iload_n 2, 1) := by decide +kernel
theorem dX10_cutRange_40 : decode cX10_cutRange 40 = .ok (.if_icmp .lt 30, 3) := by decide +kernel
theorem dX10_cutRange_43 : decode cX10_cutRange 43 = .ok (.iload 5, 2) := by decide +kernel
theorem dX10_cutRange_45 : decode cX10_cutRange 45 = .ok (.iload_n 3, 1) := by decide +kernel
theorem dX10_cutRange_46 : decode cX10_cutRange 46 = .ok (.if_icmp .gt 24, 3) := by decide +kernel
theorem dX10_cutRange_49 : decode cX10_cutRange 49 = .ok (.aload_n 1, 1) := by decide +kernel
theorem dX10_cutRange_50 : decode cX10_cutRange 50 = .ok (.aload_n 0, 1) := by decide +kernel
theorem dX10_cutRange_51 : decode cX10_cutRange 51 = .ok (.getfield 39, 3) := by decide +kernel
theorem dX10_cutRange_54 : decode cX10_cutRange 54 = .ok (.aload_n 1, 1) := by decide +kernel
theorem dX10_cutRange_55 : decode cX10_cutRange 55 = .ok (.invokevirtual 345, 3) := by decide +kernel
theorem dX10_cutRange_58 : decode cX10_cutRange 58 = .ok (.aload_n 1, 1) := by decide +kernel
theorem dX10_cutRange_59 : decode cX10_cutRange 59 = .ok (.invokevirtual 349, 3) := by decide +kernel
theorem dX10_cutRange_62 : decode cX10_cutRange 62 = .ok (.iload 5, 2) := by decide +kernel
theorem dX10_cutRange_64 : decode cX10_cutRange 64 = .ok (.invokevirtual 245, 3) := by decide +kernel
theorem dX10_cutRange_67 : decode cX10_cutRange 67 = .ok (.invokevirtual 352, 3) := by decide +kernel
theorem dX10_cutRange_70 : decode cX10_cutRange 70 = .ok (.iinc 4 1, 3) := by decide +kernel
theorem dX10_cutRange_73 : decode cX10_cutRange 73 = .ok (.goto (-59), 3) := by decide +kernel
theorem dX10_cutRange_76 : decode cX10_cutRange 76 = .ok (.return_, 1) := by decide +kernel
theorem dX10_raiseRange_0 : decode cX10_raiseRange 0 = .ok (.aload_n 0, 1) := by decide +kernel
theorem dX10_raiseRange_1 : decode cX10_raiseRange 1 = .ok (.getfield 77, 3) := by decide +kernel
theorem dX10_raiseRange_4 : decode cX10_raiseRange 4 = .ok (.aload_n 1, 1) := by decide +kernel
theorem dX10_raiseRange_5 : decode cX10_raiseRange 5 = .ok (.invokevirtual 345, 3) := by decide +kernel
theorem dX10_raiseRange_8 : decode cX10_raiseRange 8 = .ok (.invokevirtual 173, 3) := by decide +kernel
theorem dX10_raiseRange_11 : decode cX10_raiseRange 11 = .ok (.iconst 0, 1) := by decide +kernel
theorem dX10_raiseRange_12 : decode cX10_raiseRange 12 = .ok (.istore 5, 2) := by decide +kernel
theorem dX10_raiseRange_14 : decode cX10_raiseRange 14 = .ok (.iload 5, 2) := by decide +kernel
theorem dX10_raiseRange_16 : decode cX10_raiseRange 16 = .ok (.aload_n 0, 1) := by decide +kernel
theorem dX10_raiseRange_17 : decode cX10_raiseRange 17 = .ok (.getfield 77, 3) := by decide +kernel
theorem dX10_raiseRange_20 : decode cX10_raiseRange 20 = .ok (.invokevirtual 138, 3) := by decide +kernel
theorem dX10_raiseRange_23 : decode cX10_raiseRange 23 = .ok (.if_icmp .ge 72, 3) := by decide +kernel
theorem dX10_raiseRange_26 : decode cX10_raiseRange 26 = .ok (.aload_n 0, 1) := by decide +kernel
theorem dX10_raiseRange_27 : decode cX10_raiseRange 27 = .ok (.getfield 77, 3) := by decide +kernel
theorem dX10_raiseRange_30 : decode cX10_raiseRange 30 = .ok (.iload 5, 2) := by decide +kernel
theorem dX10_raiseRange_32 : decode cX10_raiseRange 32 = .ok (.invokevirtual 139, 3) := by decide +kernel
theorem dX10_raiseRange_35 : decode cX10_raiseRange 35 = .ok (.istore 6, 2) := by decide +kernel
theorem dX10_raiseRange_37 : decode cX10_raiseRange 37 = .ok (.iload 6, 2) := by decide +kernel
theorem dX10_raiseRange_39 : decode cX10_raiseRange 39 = .ok (.iload_n 2, 1) := by decide +kernel
theorem dX10_raiseRange_40 : decode cX10_raiseRange 40 = .ok (.if_icmp .lt 49, 3) := by decide +kernel
theorem dX10_raiseRange_43 : decode cX10_raiseRange 43 = .ok (.iload 6, 2) := by decide +kernel
theorem dX10_raiseRange_45 : decode cX10_raiseRange 45 = .ok (.iload_n 3, 1) := by decide +kernel
theorem dX10_raiseRange_46 : decode cX10_raiseRange 46 = .ok (.if_icmp .gt 43, 3) := by decide +kernel
theorem dX10_raiseRange_49 : decode cX10_raiseRange 49 = .ok (.aload_n 0, 1) := by decide +kernel
theorem dX10_raiseRange_50 : decode cX10_raiseRange 50 = .ok (.getfield 77, 3) := by decide +kernel
theorem dX10_raiseRange_53 : decode cX10_raiseRange 53 = .ok (.iload 5, 2) := by decide +kernel
theorem dX10_raiseRange_55 : decode cX10_raiseRange 55 = .ok (.invokevirtual 142, 3) := by decide +kernel
theorem dX10_raiseRange_58 : decode cX10_raiseRange 58 = .ok (.iload 4, 2) := by decide +kernel
theorem dX10_raiseRange_60 : decode cX10_raiseRange 60 = .ok (.iadd, 1) := by decide +kernel
theorem dX10_raiseRange_61 : decode cX10_raiseRange 61 = .ok (.invokestatic 275, 3) := by decide +kernel
theorem dX10_raiseRange_64 : decode cX10_raiseRange 64 = .ok (.istore 7, 2) := by decide +kernel
theorem dX10_raiseRange_66 : decode cX10_raiseRange 66 = .ok (.aload_n 1, 1) := by decide +kernel
theorem dX10_raiseRange_67 : decode cX10_raiseRange 67 = .ok (.aload_n 0, 1) := by decide +kernel
theorem dX10_raiseRange_68 : decode cX10_raiseRange 68 = .ok (.getfield 39, 3) := by decide +kernel
theorem dX10_raiseRange_71 : decode cX10_raiseRange 71 = .ok (.aload_n 1, 1) := by decide +kernel
theorem dX10_raiseRange_72 : decode cX10_raiseRange 72 = .ok (.invokevirtual 345, 3) := by decide +kernel
theorem dX10_raiseRange_75 : decode cX10_raiseRange 75 = .ok (.aload_n 1, 1) := by decide +kernel
theorem dX10_raiseRange_76 : decode cX10_raiseRange 76 = .ok (.invokevirtual 349, 3) := by decide +kernel
theorem dX10_raiseRange_79 : decode cX10_raiseRange 79 = .ok (.iload 6, 2) := by decide +kernel
theorem dX10_raiseRange_81 : decode cX10_raiseRange 81 = .ok (.iload 7, 2) := by decide +kernel
theorem dX10_raiseRange_83 : decode cX10_raiseRange 83 = .ok (.invokevirtual 145, 3) := by decide +kernel
theorem dX10_raiseRange_86 : decode cX10_raiseRange 86 = .ok (.invokevirtual 352, 3) := by decide +kernel
theorem dX10_raiseRange_89 : decode cX10_raiseRange 89 = .ok (.iinc 5 1, 3) := by decide +kernel
theorem dX10_raiseRange_92 : decode cX10_raiseRange 92 = .ok (.goto (-78), 3) := by decide +kernel
theorem dX10_raiseRange_95 : decode cX10_raiseRange 95 = .ok (.return_, 1) := by decide +kernel
theorem dX10_snap_0 : decode cX10_snap 0 = .ok (.aload_n 0, 1) := by decide +kernel
theorem dX10_snap_1 : decode cX10_snap 1 = .ok (.iload_n 1, 1) := by decide +kernel
theorem dX10_snap_2 : decode cX10_snap 2 = .ok (.invokevirtual 313, 3) := by decide +kernel
theorem dX10_snap_5 : decode cX10_snap 5 = .ok (.astore_n 2, 1) := by decide +kernel
theorem dX10_snap_6 : decode cX10_snap 6 = .ok (.aload_n 2, 1) := by decide +kernel
theorem dX10_snap_7 : decode cX10_snap 7 = .ok (.iconst 1, 1) := by decide +kernel
theorem dX10_snap_8 : decode cX10_snap 8 = .ok (.invokestatic 320, 3) := by decide +kernel
theorem dX10_snap_11 : decode cX10_snap 11 = .ok (.istore_n 3, 1) := by decide +kernel
theorem dX10_snap_12 : decode cX10_snap 12 = .ok (.aload_n 2, 1) := by decide +kernel
theorem dX10_snap_13 : decode cX10_snap 13 = .ok (.ifnull 8, 3) := by decide +kernel
theorem dX10_snap_16 : decode cX10_snap 16 = .ok (.iload_n 3, 1) := by decide +kernel
theorem dX10_snap_17 : decode cX10_snap 17 = .ok (.iconst (-1), 1) := by decide +kernel
theorem dX10_snap_18 : decode cX10_snap 18 = .ok (.if_icmp .eq 9, 3) := by decide +kernel
theorem dX10_snap_21 : decode cX10_snap 21 = .ok (.aload_n 0, 1) := by decide +kernel
theorem dX10_snap_22 : decode cX10_snap 22 = .ok (.iload_n 3, 1) := by decide +kernel
theorem dX10_snap_23 : decode cX10_snap 23 = .ok (.invokevirtual 128, 3) := by decide +kernel
theorem dX10_snap_26 : decode cX10_snap 26 = .ok (.ireturn, 1) := by decide +kernel
theorem dX10_snap_27 : decode cX10_snap 27 = .ok (.aload_n 0, 1) := by decide +kernel
theorem dX10_snap_28 : decode cX10_snap 28 = .ok (.aload_n 2, 1) := by decide +kernel
theorem dX10_snap_29 : decode cX10_snap 29 = .ok (.invokevirtual 355, 3) := by decide +kernel
theorem dX10_snap_32 : decode cX10_snap 32 = .ok (.istore 4, 2) := by decide +kernel
theorem dX10_snap_34 : decode cX10_snap 34 = .ok (.iload 4, 2) := by decide +kernel
theorem dX10_snap_36 : decode cX10_snap 36 = .ok (.iconst (-1), 1) := by decide +kernel
theorem dX10_snap_37 : decode cX10_snap 37 = .ok (.if_icmp .ne 11, 3) := by decide +kernel
theorem dX10_snap_40 : decode cX10_snap 40 = .ok (.aload_n 0, 1) := by decide +kernel
theorem dX10_snap_41 : decode cX10_snap 41 = .ok (.iconst 4, 1) := by decide +kernel
theorem dX10_snap_42 : decode cX10_snap 42 = .ok (.invokevirtual 128, 3) := by decide +kernel
theorem dX10_snap_45 : decode cX10_snap 45 = .ok (.goto 5, 3) := by decide +kernel
theorem dX10_snap_48 : decode cX10_snap 48 = .ok (.iload 4, 2) := by decide +kernel
theorem dX10_snap_50 : decode cX10_snap 50 = .ok (.ireturn, 1) := by decide +kernel
theorem dX10_freeze_0 : decode cX10_freeze 0 = .ok (.aload_n 0, 1) := by decide +kernel
theorem dX10_freeze_1 : decode cX10_freeze 1 = .ok (.iload_n 1, 1) := by decide +kernel
theorem dX10_freeze_2 : decode cX10_freeze 2 = .ok (.invokevirtual 313, 3) := by decide +kernel
theorem dX10_freeze_5 : decode cX10_freeze 5 = .ok (.astore_n 2, 1) := by decide +kernel
theorem dX10_freeze_6 : decode cX10_freeze 6 = .ok (.aload_n 2, 1) := by decide +kernel
theorem dX10_freeze_7 : decode cX10_freeze 7 = .ok (.iconst 1, 1) := by decide +kernel
theorem dX10_freeze_8 : decode cX10_freeze 8 = .ok (.invokestatic 320, 3) := by decide +kernel
theorem dX10_freeze_11 : decode cX10_freeze 11 = .ok (.istore_n 3, 1) := by decide +kernel
theorem dX10_freeze_12 : decode cX10_freeze 12 = .ok (.aload_n 2, 1) := by decide +kernel
theorem dX10_freeze_13 : decode cX10_freeze 13 = .ok (.ifnull 8, 3) := by decide +kernel
theorem dX10_freeze_16 : decode cX10_freeze 16 = .ok (.iload_n 3, 1) := by decide +kernel
theorem dX10_freeze_17 : decode cX10_freeze 17 = .ok (.iconst (-1), 1) := by decide +kernel
theorem dX10_freeze_18 : decode cX10_freeze 18 = .ok (.if_icmp .eq 9, 3) := by decide +kernel
theorem dX10_freeze_21 : decode cX10_freeze 21 = .ok (.aload_n 0, 1) := by decide +kernel
theorem dX10_freeze_22 : decode cX10_freeze 22 = .ok (.iload_n 3, 1) := by decide +kernel
theorem dX10_freeze_23 : decode cX10_freeze 23 = .ok (.invokevirtual 128, 3) := by decide +kernel
theorem dX10_freeze_26 : decode cX10_freeze 26 = .ok (.ireturn, 1) := by decide +kernel
theorem dX10_freeze_27 : decode cX10_freeze 27 = .ok (.aload_n 0, 1) := by decide +kernel
theorem dX10_freeze_28 : decode cX10_freeze 28 = .ok (.aload_n 2, 1) := by decide +kernel
theorem dX10_freeze_29 : decode cX10_freeze 29 = .ok (.invokevirtual 355, 3) := by decide +kernel
theorem dX10_freeze_32 : decode cX10_freeze 32 = .ok (.istore 4, 2) := by decide +kernel
theorem dX10_freeze_34 : decode cX10_freeze 34 = .ok (.iload 4, 2) := by decide +kernel
theorem dX10_freeze_36 : decode cX10_freeze 36 = .ok (.iconst (-1), 1) := by decide +kernel
theorem dX10_freeze_37 : decode cX10_freeze 37 = .ok (.if_icmp .ne 9, 3) := by decide +kernel
theorem dX10_freeze_40 : decode cX10_freeze 40 = .ok (.aload_n 0, 1) := by decide +kernel
theorem dX10_freeze_41 : decode cX10_freeze 41 = .ok (.iconst 4, 1) := by decide +kernel
theorem dX10_freeze_42 : decode cX10_freeze 42 = .ok (.invokevirtual 128, 3) := by decide +kernel
theorem dX10_freeze_45 : decode cX10_freeze 45 = .ok (.ireturn, 1) := by decide +kernel
theorem dX10_freeze_46 : decode cX10_freeze 46 = .ok (.aload_n 2, 1) := by decide +kernel
theorem dX10_freeze_47 : decode cX10_freeze 47 = .ok (.invokevirtual 359, 3) := by decide +kernel
theorem dX10_freeze_50 : decode cX10_freeze 50 = .ok (.iload 4, 2) := by decide +kernel
theorem dX10_freeze_52 : decode cX10_freeze 52 = .ok (.ireturn, 1) := by decide +kernel
theorem dX10_snapped_0 : decode cX10_snapped 0 = .ok (.aload_n 0, 1) := by decide +kernel
theorem dX10_snapped_1 : decode cX10_snapped 1 = .ok (.getfield 46, 3) := by decide +kernel
theorem dX10_snapped_4 : decode cX10_snapped 4 = .ok (.invokevirtual 124, 3) := by decide +kernel
theorem dX10_snapped_7 : decode cX10_snapped 7 = .ok (.ifCond .ne 5, 3) := by decide +kernel
theorem dX10_snapped_10 : decode cX10_snapped 10 = .ok (.iconst (-1), 1) := by decide +kernel
theorem dX10_snapped_11 : decode cX10_snapped 11 = .ok (.ireturn, 1) := by decide +kernel
theorem dX10_snapped_12 : decode cX10_snapped 12 = .ok (.aload_n 0, 1) := by decide +kernel
theorem dX10_snapped_13 : decode cX10_snapped 13 = .ok (.getfield 46, 3) := by decide +kernel
theorem dX10_snapped_16 : decode cX10_snapped 16 = .ok (.aload_n 1, 1) := by decide +kernel
theorem dX10_snapped_17 : decode cX10_snapped 17 = .ok (.invokevirtual 345, 3) := by decide +kernel
theorem dX10_snapped_20 : decode cX10_snapped 20 = .ok (.aload_n 1, 1) := by decide +kernel
theorem dX10_snapped_21 : decode cX10_snapped 21 = .ok (.invokevirtual 362, 3) := by decide +kernel
theorem dX10_snapped_24 : decode cX10_snapped 24 = .ok (.iconst (-1), 1) := by decide +kernel
theorem dX10_snapped_25 : decode cX10_snapped 25 = .ok (.invokevirtual 149, 3) := by decide +kernel
theorem dX10_snapped_28 : decode cX10_snapped 28 = .ok (.istore_n 2, 1) := by decide +kernel
theorem dX10_snapped_29 : decode cX10_snapped 29 = .ok (.aload_n 1, 1) := by decide +kernel
theorem dX10_snapped_30 : decode cX10_snapped 30 = .ok (.aload_n 1, 1) := by decide +kernel
theorem dX10_snapped_31 : decode cX10_snapped 31 = .ok (.invokevirtual 345, 3) := by decide +kernel
theorem dX10_snapped_34 : decode cX10_snapped 34 = .ok (.aload_n 0, 1) := by decide +kernel
theorem dX10_snapped_35 : decode cX10_snapped 35 = .ok (.getfield 39, 3) := by decide +kernel
theorem dX10_snapped_38 : decode cX10_snapped 38 = .ok (.invokevirtual 131, 3) := by decide +kernel
theorem dX10_snapped_41 : decode cX10_snapped 41 = .ok (.iload_n 2, 1) := by decide +kernel
theorem dX10_snapped_42 : decode cX10_snapped 42 = .ok (.invokevirtual 317, 3) := by decide +kernel
theorem dX10_snapped_45 : decode cX10_snapped 45 = .ok (.iload_n 2, 1) := by decide +kernel
theorem dX10_snapped_46 : decode cX10_snapped 46 = .ok (.ireturn, 1) := by decide +kernel
theorem dX10_peek_0 : decode cX10_peek 0 = .ok (.aload_n 0, 1) := by decide +kernel
theorem dX10_peek_1 : decode cX10_peek 1 = .ok (.iload_n 1, 1) := by decide +kernel
theorem dX10_peek_2 : decode cX10_peek 2 = .ok (.invokevirtual 313, 3) := by decide +kernel
theorem dX10_peek_5 : decode cX10_peek 5 = .ok (.astore_n 3, 1) := by decide +kernel
theorem dX10_peek_6 : decode cX10_peek 6 = .ok (.aload_n 3, 1) := by decide +kernel
theorem dX10_peek_7 : decode cX10_peek 7 = .ok (.ifnonnull 8, 3) := by decide +kernel
theorem dX10_peek_10 : decode cX10_peek 10 = .ok (.ldc 180, 2) := by decide +kernel
theorem dX10_peek_12 : decode cX10_peek 12 = .ok (.goto 11, 3) := by decide +kernel
theorem dX10_peek_15 : decode cX10_peek 15 = .ok (.aload_n 3, 1) := by decide +kernel
theorem dX10_peek_16 : decode cX10_peek 16 = .ok (.invokevirtual 345, 3) := by decide +kernel
theorem dX10_peek_19 : decode cX10_peek 19 = .ok (.iload_n 2, 1) := by decide +kernel
theorem dX10_peek_20 : decode cX10_peek 20 = .ok (.invokestatic 169, 3) := by decide +kernel
theorem dX10_peek_23 : decode cX10_peek 23 = .ok (.ireturn, 1) := by decide +kernel
theorem dX10_builder_0 : decode cX10_builder 0 = .ok (.aload_n 0, 1) := by decide +kernel
theorem dX10_builder_1 : decode cX10_builder 1 = .ok (.iload_n 1, 1) := by decide +kernel
theorem dX10_builder_2 : decode cX10_builder 2 = .ok (.invokevirtual 313, 3) := by decide +kernel
theorem dX10_builder_5 : decode cX10_builder 5 = .ok (.astore_n 3, 1) := by decide +kernel
theorem dX10_builder_6 : decode cX10_builder 6 = .ok (.aload_n 3, 1) := by decide +kernel
theorem dX10_builder_7 : decode cX10_builder 7 = .ok (.ifnull 10, 3) := by decide +kernel
theorem dX10_builder_10 : decode cX10_builder 10 = .ok (.aload_n 3, 1) := by decide +kernel
theorem dX10_builder_11 : decode cX10_builder 11 = .ok (.invokevirtual 342, 3) := by decide +kernel
theorem dX10_builder_14 : decode cX10_builder 14 = .ok (.ifCond .eq 6, 3) := by decide +kernel
theorem dX10_builder_17 : decode cX10_builder 17 = .ok (.ldc 180, 2) := by decide +kernel
theorem dX10_builder_19 : decode cX10_builder 19 = .ok (.ireturn, 1) := by decide +kernel
theorem dX10_builder_20 : decode cX10_builder 20 = .ok (.aload_n 0, 1) := by decide +kernel
theorem dX10_builder_21 : decode cX10_builder 21 = .ok (.getfield 90, 3) := by decide +kernel
theorem dX10_builder_24 : decode cX10_builder 24 = .ok (.aload_n 3, 1) := by decide +kernel
theorem dX10_builder_25 : decode cX10_builder 25 = .ok (.invokevirtual 345, 3) := by decide +kernel
theorem dX10_builder_28 : decode cX10_builder 28 = .ok (.invokevirtual 181, 3) := by decide +kernel
theorem dX10_builder_31 : decode cX10_builder 31 = .ok (.iload_n 2, 1) := by decide +kernel
theorem dX10_builder_32 : decode cX10_builder 32 = .ok (.tableswitch 66 0 3 #[32, 41, 49, 61], 32) := by decide +kernel
theorem dX10_builder_64 : decode cX10_builder 64 = .ok (.aload_n 3, 1) := by decide +kernel
theorem dX10_builder_65 : decode cX10_builder 65 = .ok (.invokevirtual 345, 3) := by decide +kernel
theorem dX10_builder_68 : decode cX10_builder 68 = .ok (.iconst 0, 1) := by decide +kernel
theorem dX10_builder_69 : decode cX10_builder 69 = .ok (.invokestatic 225, 3) := by decide +kernel
theorem dX10_builder_72 : decode cX10_builder 72 = .ok (.ireturn, 1) := by decide +kernel
theorem dX10_builder_73 : decode cX10_builder 73 = .ok (.aload_n 0, 1) := by decide +kernel
theorem dX10_builder_74 : decode cX10_builder 74 = .ok (.getfield 90, 3) := by decide +kernel
theorem dX10_builder_77 : decode cX10_builder 77 = .ok (.invokevirtual 185, 3) := by decide +kernel
theorem dX10_builder_80 : decode cX10_builder 80 = .ok (.ireturn, 1) := by decide +kernel
theorem dX10_builder_81 : decode cX10_builder 81 = .ok (.aload_n 0, 1) := by decide +kernel
theorem dX10_builder_82 : decode cX10_builder 82 = .ok (.getfield 90, 3) := by decide +kernel
theorem dX10_builder_85 : decode cX10_builder 85 = .ok (.aload_n 3, 1) := by decide +kernel
theorem dX10_builder_86 : decode cX10_builder 86 = .ok (.invokevirtual 349, 3) := by decide +kernel
theorem dX10_builder_89 : decode cX10_builder 89 = .ok (.invokevirtual 365, 3) := by decide +kernel
theorem dX10_builder_92 : decode cX10_builder 92 = .ok (.ireturn, 1) := by decide +kernel
theorem dX10_builder_93 : decode cX10_builder 93 = .ok (.aload_n 3, 1) := by decide +kernel
theorem dX10_builder_94 : decode cX10_builder 94 = .ok (.invokevirtual 362, 3) := by decide +kernel
theorem dX10_builder_97 : decode cX10_builder 97 = .ok (.ireturn, 1) := by decide +kernel
theorem dX10_builder_98 : decode cX10_builder 98 = .ok (.ldc 180, 2) := by decide +kernel
theorem dX10_builder_100 : decode cX10_builder 100 = .ok (.ireturn, 1) := by decide +kernel
theorem dX10_draws_0 : decode cX10_draws 0 = .ok (.aload_n 0, 1) := by decide +kernel
theorem dX10_draws_1 : decode cX10_draws 1 = .ok (.iload_n 1, 1) := by decide +kernel
theorem dX10_draws_2 : decode cX10_draws 2 = .ok (.invokevirtual 313, 3) := by decide +kernel
theorem dX10_draws_5 : decode cX10_draws 5 = .ok (.astore 5, 2) := by decide +kernel
theorem dX10_draws_7 : decode cX10_draws 7 = .ok (.aload 5, 2) := by decide +kernel
theorem dX10_draws_9 : decode cX10_draws 9 = .ok (.iload_n 2, 1) := by decide +kernel
theorem dX10_draws_10 : decode cX10_draws 10 = .ok (.iconst 1, 1) := by decide +kernel
theorem dX10_draws_11 : decode cX10_draws 11 = .ok (.if_icmp .lt 13, 3) := by decide +kernel
theorem dX10_draws_14 : decode cX10_draws 14 = .ok (.iload_n 2, 1) := by decide +kernel
theorem dX10_draws_15 : decode cX10_draws 15 = .ok (.bipush 30, 2) := by decide +kernel
theorem dX10_draws_17 : decode cX10_draws 17 = .ok (.if_icmp .gt 7, 3) := by decide +kernel
theorem dX10_draws_20 : decode cX10_draws 20 = .ok (.iconst 1, 1) := by decide +kernel
theorem dX10_draws_21 : decode cX10_draws 21 = .ok (.goto 4, 3) := by decide +kernel
theorem dX10_draws_24 : decode cX10_draws 24 = .ok (.iconst 0, 1) := by decide +kernel
theorem dX10_draws_25 : decode cX10_draws 25 = .ok (.invokestatic 320, 3) := by decide +kernel
theorem dX10_draws_28 : decode cX10_draws 28 = .ok (.istore 6, 2) := by decide +kernel
theorem dX10_draws_30 : decode cX10_draws 30 = .ok (.aload 5, 2) := by decide +kernel
theorem dX10_draws_32 : decode cX10_draws 32 = .ok (.ifnull 9, 3) := by decide +kernel
theorem dX10_draws_35 : decode cX10_draws 35 = .ok (.iload 6, 2) := by decide +kernel
theorem dX10_draws_37 : decode cX10_draws 37 = .ok (.iconst (-1), 1) := by decide +kernel
theorem dX10_draws_38 : decode cX10_draws 38 = .ok (.if_icmp .eq 10, 3) := by decide +kernel
theorem dX10_draws_41 : decode cX10_draws 41 = .ok (.aload_n 0, 1) := by decide +kernel
theorem dX10_draws_42 : decode cX10_draws 42 = .ok (.iload 6, 2) := by decide +kernel
theorem dX10_draws_44 : decode cX10_draws 44 = .ok (.invokevirtual 128, 3) := by decide +kernel
theorem dX10_draws_47 : decode cX10_draws 47 = .ok (.ireturn, 1) := by decide +kernel
theorem dX10_draws_48 : decode cX10_draws 48 = .ok (.aload_n 0, 1) := by decide +kernel
theorem dX10_draws_49 : decode cX10_draws 49 = .ok (.getfield 39, 3) := by decide +kernel
theorem dX10_draws_52 : decode cX10_draws 52 = .ok (.invokevirtual 324, 3) := by decide +kernel
theorem dX10_draws_55 : decode cX10_draws 55 = .ok (.istore 7, 2) := by decide +kernel
theorem dX10_draws_57 : decode cX10_draws 57 = .ok (.lload_n 3, 1) := by decide +kernel
theorem dX10_draws_58 : decode cX10_draws 58 = .ok (.lstore 8, 2) := by decide +kernel
theorem dX10_draws_60 : decode cX10_draws 60 = .ok (.iconst 0, 1) := by decide +kernel
theorem dX10_draws_61 : decode cX10_draws 61 = .ok (.istore 10, 2) := by decide +kernel
theorem dX10_draws_63 : decode cX10_draws 63 = .ok (.iload 10, 2) := by decide +kernel
theorem dX10_draws_65 : decode cX10_draws 65 = .ok (.iload_n 2, 1) := by decide +kernel
theorem dX10_draws_66 : decode cX10_draws 66 = .ok (.if_icmp .ge 109, 3) := by decide +kernel
theorem dX10_draws_69 : decode cX10_draws 69 = .ok (.lload 8, 2) := by decide +kernel
theorem dX10_draws_71 : decode cX10_draws 71 = .ok (.invokestatic 368, 3) := by decide +kernel
theorem dX10_draws_74 : decode cX10_draws 74 = .ok (.lstore 8, 2) := by decide +kernel
theorem dX10_draws_76 : decode cX10_draws 76 = .ok (.lload 8, 2) := by decide +kernel
theorem dX10_draws_78 : decode cX10_draws 78 = .ok (.iconst 4, 1) := by decide +kernel
theorem dX10_draws_79 : decode cX10_draws 79 = .ok (.invokestatic 372, 3) := by decide +kernel
theorem dX10_draws_82 : decode cX10_draws 82 = .ok (.istore 11, 2) := by decide +kernel
theorem dX10_draws_84 : decode cX10_draws 84 = .ok (.lload 8, 2) := by decide +kernel
theorem dX10_draws_86 : decode cX10_draws 86 = .ok (.invokestatic 368, 3) := by decide +kernel
theorem dX10_draws_89 : decode cX10_draws 89 = .ok (.lstore 8, 2) := by decide +kernel
theorem dX10_draws_91 : decode cX10_draws 91 = .ok (.lload 8, 2) := by decide +kernel
theorem dX10_draws_93 : decode cX10_draws 93 = .ok (.bipush 100, 2) := by decide +kernel
theorem dX10_draws_95 : decode cX10_draws 95 = .ok (.invokestatic 372, 3) := by decide +kernel
theorem dX10_draws_98 : decode cX10_draws 98 = .ok (.istore 12, 2) := by decide +kernel
theorem dX10_draws_100 : decode cX10_draws 100 = .ok (.lload 8, 2) := by decide +kernel
theorem dX10_draws_102 : decode cX10_draws 102 = .ok (.invokestatic 368, 3) := by decide +kernel
theorem dX10_draws_105 : decode cX10_draws 105 = .ok (.lstore 8, 2) := by decide +kernel
theorem dX10_draws_107 : decode cX10_draws 107 = .ok (.lload 8, 2) := by decide +kernel
theorem dX10_draws_109 : decode cX10_draws 109 = .ok (.bipush 19, 2) := by decide +kernel
theorem dX10_draws_111 : decode cX10_draws 111 = .ok (.invokestatic 372, 3) := by decide +kernel
theorem dX10_draws_114 : decode cX10_draws 114 = .ok (.bipush 9, 2) := by decide +kernel
theorem dX10_draws_116 : decode cX10_draws 116 = .ok (.isub, 1) := by decide +kernel
theorem dX10_draws_117 : decode cX10_draws 117 = .ok (.istore 13, 2) := by decide +kernel
theorem dX10_draws_119 : decode cX10_draws 119 = .ok (.iload 11, 2) := by decide +kernel
theorem dX10_draws_121 : decode cX10_draws 121 = .ok (.iconst 1, 1) := by decide +kernel
theorem dX10_draws_122 : decode cX10_draws 122 = .ok (.if_icmp .gt 17, 3) := by decide +kernel
theorem dX10_draws_125 : decode cX10_draws 125 = .ok (.aload_n 0, 1) := by decide +kernel
theorem dX10_draws_126 : decode cX10_draws 126 = .ok (.aload 5, 2) := by decide +kernel
theorem dX10_draws_128 : decode cX10_draws 128 = .ok (.iload 12, 2) := by decide +kernel
theorem dX10_draws_130 : decode cX10_draws 130 = .ok (.iload 13, 2) := by decide +kernel
theorem dX10_draws_132 : decode cX10_draws 132 = .ok (.invokevirtual 327, 3) := by decide +kernel
theorem dX10_draws_135 : decode cX10_draws 135 = .ok (.pop, 1) := by decide +kernel
theorem dX10_draws_136 : decode cX10_draws 136 = .ok (.goto 33, 3) := by decide +kernel
theorem dX10_draws_139 : decode cX10_draws 139 = .ok (.iload 11, 2) := by decide +kernel
theorem dX10_draws_141 : decode cX10_draws 141 = .ok (.iconst 2, 1) := by decide +kernel
theorem dX10_draws_142 : decode cX10_draws 142 = .ok (.if_icmp .ne 17, 3) := by decide +kernel
theorem dX10_draws_145 : decode cX10_draws 145 = .ok (.aload_n 0, 1) := by decide +kernel
theorem dX10_draws_146 : decode cX10_draws 146 = .ok (.aload 5, 2) := by decide +kernel
theorem dX10_draws_148 : decode cX10_draws 148 = .ok (.iload 12, 2) := by decide +kernel
theorem dX10_draws_150 : decode cX10_draws 150 = .ok (.iload 13, 2) := by decide +kernel
theorem dX10_draws_152 : decode cX10_draws 152 = .ok (.invokevirtual 335, 3) := by decide +kernel
theorem dX10_draws_155 : decode cX10_draws 155 = .ok (.pop, 1) := by decide +kernel
theorem dX10_draws_156 : decode cX10_draws 156 = .ok (.goto 13, 3) := by decide +kernel
theorem dX10_draws_159 : decode cX10_draws 159 = .ok (.aload_n 0, 1) := by decide +kernel
theorem dX10_draws_160 : decode cX10_draws 160 = .ok (.aload 5, 2) := by decide +kernel
theorem dX10_draws_162 : decode cX10_draws 162 = .ok (.iload 12, 2) := by decide +kernel
theorem dX10_draws_164 : decode cX10_draws 164 = .ok (.iload 12, 2) := by decide +kernel
theorem dX10_draws_166 : decode cX10_draws 166 = .ok (.invokevirtual 331, 3) := by decide +kernel
theorem dX10_draws_169 : decode cX10_draws 169 = .ok (.iinc 10 1, 3) := by decide +kernel
theorem dX10_draws_172 : decode cX10_draws 172 = .ok (.goto (-109), 3) := by decide +kernel
theorem dX10_draws_175 : decode cX10_draws 175 = .ok (.aload_n 0, 1) := by decide +kernel
theorem dX10_draws_176 : decode cX10_draws 176 = .ok (.getfield 39, 3) := by decide +kernel
theorem dX10_draws_179 : decode cX10_draws 179 = .ok (.invokevirtual 324, 3) := by decide +kernel
theorem dX10_draws_182 : decode cX10_draws 182 = .ok (.iload 7, 2) := by decide +kernel
theorem dX10_draws_184 : decode cX10_draws 184 = .ok (.isub, 1) := by decide +kernel
theorem dX10_draws_185 : decode cX10_draws 185 = .ok (.ireturn, 1) := by decide +kernel
theorem dX10_stirred_0 : decode cX10_stirred 0 = .ok (.lload_n 0, 1) := by decide +kernel
theorem dX10_stirred_1 : decode cX10_stirred 1 = .ok (.ldc2_w 376, 3) := by decide +kernel
theorem dX10_stirred_4 : decode cX10_stirred 4 = .ok (.lmul, 1) := by decide +kernel
theorem dX10_stirred_5 : decode cX10_stirred 5 = .ok (.ldc2_w 378, 3) := by decide +kernel
theorem dX10_stirred_8 : decode cX10_stirred 8 = .ok (.ladd, 1) := by decide +kernel
theorem dX10_stirred_9 : decode cX10_stirred 9 = .ok (.lreturn, 1) := by decide +kernel
theorem dX10_drawn_0 : decode cX10_drawn 0 = .ok (.iload_n 2, 1) := by decide +kernel
theorem dX10_drawn_1 : decode cX10_drawn 1 = .ok (.ifCond .gt 7, 3) := by decide +kernel
theorem dX10_drawn_4 : decode cX10_drawn 4 = .ok (.iconst 0, 1) := by decide +kernel
theorem dX10_drawn_5 : decode cX10_drawn 5 = .ok (.goto 11, 3) := by decide +kernel
theorem dX10_drawn_8 : decode cX10_drawn 8 = .ok (.lload_n 0, 1) := by decide +kernel
theorem dX10_drawn_9 : decode cX10_drawn 9 = .ok (.bipush 33, 2) := by decide +kernel
theorem dX10_drawn_11 : decode cX10_drawn 11 = .ok (.lushr, 1) := by decide +kernel
theorem dX10_drawn_12 : decode cX10_drawn 12 = .ok (.iload_n 2, 1) := by decide +kernel
theorem dX10_drawn_13 : decode cX10_drawn 13 = .ok (.i2l, 1) := by decide +kernel
theorem dX10_drawn_14 : decode cX10_drawn 14 = .ok (.lrem, 1) := by decide +kernel
theorem dX10_drawn_15 : decode cX10_drawn 15 = .ok (.l2i, 1) := by decide +kernel
theorem dX10_drawn_16 : decode cX10_drawn 16 = .ok (.ireturn, 1) := by decide +kernel
theorem dX10_step_0 : decode cX10_step 0 = .ok (.aload_n 0, 1) := by decide +kernel
theorem dX10_step_1 : decode cX10_step 1 = .ok (.iload_n 1, 1) := by decide +kernel
theorem dX10_step_2 : decode cX10_step 2 = .ok (.invokevirtual 380, 3) := by decide +kernel
theorem dX10_step_5 : decode cX10_step 5 = .ok (.astore 4, 2) := by decide +kernel
theorem dX10_step_7 : decode cX10_step 7 = .ok (.aload 4, 2) := by decide +kernel
theorem dX10_step_9 : decode cX10_step 9 = .ok (.ifnonnull 8, 3) := by decide +kernel
theorem dX10_step_12 : decode cX10_step 12 = .ok (.ldc 180, 2) := by decide +kernel
theorem dX10_step_14 : decode cX10_step 14 = .ok (.goto 10, 3) := by decide +kernel
theorem dX10_step_17 : decode cX10_step 17 = .ok (.aload 4, 2) := by decide +kernel
theorem dX10_step_19 : decode cX10_step 19 = .ok (.iload_n 2, 1) := by decide +kernel
theorem dX10_step_20 : decode cX10_step 20 = .ok (.iload_n 3, 1) := by decide +kernel
theorem dX10_step_21 : decode cX10_step 21 = .ok (.invokevirtual 384, 3) := by decide +kernel
theorem dX10_step_24 : decode cX10_step 24 = .ok (.ireturn, 1) := by decide +kernel
theorem dX10_run_0 : decode cX10_run 0 = .ok (.aload_n 0, 1) := by decide +kernel
theorem dX10_run_1 : decode cX10_run 1 = .ok (.iload_n 1, 1) := by decide +kernel
theorem dX10_run_2 : decode cX10_run 2 = .ok (.invokevirtual 380, 3) := by decide +kernel
theorem dX10_run_5 : decode cX10_run 5 = .ok (.astore_n 3, 1) := by decide +kernel
theorem dX10_run_6 : decode cX10_run 6 = .ok (.aload_n 0, 1) := by decide +kernel
theorem dX10_run_7 : decode cX10_run 7 = .ok (.iload_n 2, 1) := by decide +kernel
theorem dX10_run_8 : decode cX10_run 8 = .ok (.invokevirtual 313, 3) := by decide +kernel
theorem dX10_run_11 : decode cX10_run 11 = .ok (.astore 4, 2) := by decide +kernel
theorem dX10_run_13 : decode cX10_run 13 = .ok (.aload_n 3, 1) := by decide +kernel
theorem dX10_run_14 : decode cX10_run 14 = .ok (.ifnull 8, 3) := by decide +kernel
theorem dX10_run_17 : decode cX10_run 17 = .ok (.aload 4, 2) := by decide +kernel
theorem dX10_run_19 : decode cX10_run 19 = .ok (.ifnonnull 9, 3) := by decide +kernel
theorem dX10_run_22 : decode cX10_run 22 = .ok (.aload_n 0, 1) := by decide +kernel
theorem dX10_run_23 : decode cX10_run 23 = .ok (.iconst 0, 1) := by decide +kernel
theorem dX10_run_24 : decode cX10_run 24 = .ok (.invokevirtual 128, 3) := by decide +kernel
theorem dX10_run_27 : decode cX10_run 27 = .ok (.ireturn, 1) := by decide +kernel
theorem dX10_run_28 : decode cX10_run 28 = .ok (.aload 4, 2) := by decide +kernel
theorem dX10_run_30 : decode cX10_run 30 = .ok (.invokevirtual 342, 3) := by decide +kernel
theorem dX10_run_33 : decode cX10_run 33 = .ok (.ifCond .eq 9, 3) := by decide +kernel
theorem dX10_run_36 : decode cX10_run 36 = .ok (.aload_n 0, 1) := by decide +kernel
theorem dX10_run_37 : decode cX10_run 37 = .ok (.iconst 2, 1) := by decide +kernel
theorem dX10_run_38 : decode cX10_run 38 = .ok (.invokevirtual 128, 3) := by decide +kernel
theorem dX10_run_41 : decode cX10_run 41 = .ok (.ireturn, 1) := by decide +kernel
theorem dX10_run_42 : decode cX10_run 42 = .ok (.iconst 1, 1) := by decide +kernel
theorem dX10_run_43 : decode cX10_run 43 = .ok (.istore 5, 2) := by decide +kernel
theorem dX10_run_45 : decode cX10_run 45 = .ok (.iconst 0, 1) := by decide +kernel
theorem dX10_run_46 : decode cX10_run 46 = .ok (.istore 6, 2) := by decide +kernel
theorem dX10_run_48 : decode cX10_run 48 = .ok (.iload 6, 2) := by decide +kernel
theorem dX10_run_50 : decode cX10_run 50 = .ok (.aload_n 3, 1) := by decide +kernel
theorem dX10_run_51 : decode cX10_run 51 = .ok (.invokevirtual 387, 3) := by decide +kernel
theorem dX10_run_54 : decode cX10_run 54 = .ok (.if_icmp .ge 172, 3) := by decide +kernel
theorem dX10_run_57 : decode cX10_run 57 = .ok (.iload 5, 2) := by decide +kernel
theorem dX10_run_59 : decode cX10_run 59 = .ok (.ifCond .eq 167, 3) := by decide +kernel
theorem dX10_run_62 : decode cX10_run 62 = .ok (.aload_n 3, 1) := by decide +kernel
theorem dX10_run_63 : decode cX10_run 63 = .ok (.iload 6, 2) := by decide +kernel
theorem dX10_run_65 : decode cX10_run 65 = .ok (.iconst 1, 1) := by decide +kernel
theorem dX10_run_66 : decode cX10_run 66 = .ok (.invokevirtual 384, 3) := by decide +kernel
theorem dX10_run_69 : decode cX10_run 69 = .ok (.istore 7, 2) := by decide +kernel
theorem dX10_run_71 : decode cX10_run 71 = .ok (.aload_n 3, 1) := by decide +kernel
theorem dX10_run_72 : decode cX10_run 72 = .ok (.iload 6, 2) := by decide +kernel
theorem dX10_run_74 : decode cX10_run 74 = .ok (.iconst 2, 1) := by decide +kernel
theorem dX10_run_75 : decode cX10_run 75 = .ok (.invokevirtual 384, 3) := by decide +kernel
theorem dX10_run_78 : decode cX10_run 78 = .ok (.istore 8, 2) := by decide +kernel
theorem dX10_run_80 : decode cX10_run 80 = .ok (.aload_n 3, 1) := by decide +kernel
theorem dX10_run_81 : decode cX10_run 81 = .ok (.iload 6, 2) := by decide +kernel
theorem dX10_run_83 : decode cX10_run 83 = .ok (.iconst 3, 1) := by decide +kernel
theorem dX10_run_84 : decode cX10_run 84 = .ok (.invokevirtual 384, 3) := by decide +kernel
theorem dX10_run_87 : decode cX10_run 87 = .ok (.istore 9, 2) := by decide +kernel
theorem dX10_run_89 : decode cX10_run 89 = .ok (.aload_n 3, 1) := by decide +kernel
theorem dX10_run_90 : decode cX10_run 90 = .ok (.iload 6, 2) := by decide +kernel
theorem dX10_run_92 : decode cX10_run 92 = .ok (.iconst 0, 1) := by decide +kernel
theorem dX10_run_93 : decode cX10_run 93 = .ok (.invokevirtual 384, 3) := by decide +kernel
theorem dX10_run_96 : decode cX10_run 96 = .ok (.tableswitch 107 0 4 #[36, 51, 64, 79, 92], 36) := by decide +kernel
theorem dX10_run_132 : decode cX10_run 132 = .ok (.aload_n 0, 1) := by decide +kernel
theorem dX10_run_133 : decode cX10_run 133 = .ok (.aload 4, 2) := by decide +kernel
theorem dX10_run_135 : decode cX10_run 135 = .ok (.iload 7, 2) := by decide +kernel
theorem dX10_run_137 : decode cX10_run 137 = .ok (.iload 8, 2) := by decide +kernel
theorem dX10_run_139 : decode cX10_run 139 = .ok (.invokevirtual 327, 3) := by decide +kernel
theorem dX10_run_142 : decode cX10_run 142 = .ok (.istore 5, 2) := by decide +kernel
theorem dX10_run_144 : decode cX10_run 144 = .ok (.goto 76, 3) := by decide +kernel
theorem dX10_run_147 : decode cX10_run 147 = .ok (.aload_n 0, 1) := by decide +kernel
theorem dX10_run_148 : decode cX10_run 148 = .ok (.aload 4, 2) := by decide +kernel
theorem dX10_run_150 : decode cX10_run 150 = .ok (.iload 7, 2) := by decide +kernel
theorem dX10_run_152 : decode cX10_run 152 = .ok (.iload 7, 2) := by decide +kernel
theorem dX10_run_154 : decode cX10_run 154 = .ok (.invokevirtual 331, 3) := by decide +kernel
theorem dX10_run_157 : decode cX10_run 157 = .ok (.goto 63, 3) := by decide +kernel
theorem dX10_run_160 : decode cX10_run 160 = .ok (.aload_n 0, 1) := by decide +kernel
theorem dX10_run_161 : decode cX10_run 161 = .ok (.aload 4, 2) := by decide +kernel
theorem dX10_run_163 : decode cX10_run 163 = .ok (.iload 7, 2) := by decide +kernel
theorem dX10_run_165 : decode cX10_run 165 = .ok (.iload 8, 2) := by decide +kernel
theorem dX10_run_167 : decode cX10_run 167 = .ok (.invokevirtual 335, 3) := by decide +kernel
theorem dX10_run_170 : decode cX10_run 170 = .ok (.istore 5, 2) := by decide +kernel
theorem dX10_run_172 : decode cX10_run 172 = .ok (.goto 48, 3) := by decide +kernel
theorem dX10_run_175 : decode cX10_run 175 = .ok (.aload_n 0, 1) := by decide +kernel
theorem dX10_run_176 : decode cX10_run 176 = .ok (.aload 4, 2) := by decide +kernel
theorem dX10_run_178 : decode cX10_run 178 = .ok (.iload 7, 2) := by decide +kernel
theorem dX10_run_180 : decode cX10_run 180 = .ok (.iload 8, 2) := by decide +kernel
theorem dX10_run_182 : decode cX10_run 182 = .ok (.invokevirtual 331, 3) := by decide +kernel
theorem dX10_run_185 : decode cX10_run 185 = .ok (.goto 35, 3) := by decide +kernel
theorem dX10_run_188 : decode cX10_run 188 = .ok (.aload_n 0, 1) := by decide +kernel
theorem dX10_run_189 : decode cX10_run 189 = .ok (.aload 4, 2) := by decide +kernel
theorem dX10_run_191 : decode cX10_run 191 = .ok (.iload 7, 2) := by decide +kernel
theorem dX10_run_193 : decode cX10_run 193 = .ok (.iload 8, 2) := by decide +kernel
theorem dX10_run_195 : decode cX10_run 195 = .ok (.iload 9, 2) := by decide +kernel
theorem dX10_run_197 : decode cX10_run 197 = .ok (.invokevirtual 338, 3) := by decide +kernel
theorem dX10_run_200 : decode cX10_run 200 = .ok (.goto 20, 3) := by decide +kernel
theorem dX10_run_203 : decode cX10_run 203 = .ok (.aload_n 0, 1) := by decide +kernel
theorem dX10_run_204 : decode cX10_run 204 = .ok (.aload 4, 2) := by decide +kernel
theorem dX10_run_206 : decode cX10_run 206 = .ok (.invokevirtual 355, 3) := by decide +kernel
theorem dX10_run_209 : decode cX10_run 209 = .ok (.iconst (-1), 1) := by decide +kernel
theorem dX10_run_210 : decode cX10_run 210 = .ok (.if_icmp .eq 7, 3) := by decide +kernel
theorem dX10_run_213 : decode cX10_run 213 = .ok (.iconst 1, 1) := by decide +kernel
theorem dX10_run_214 : decode cX10_run 214 = .ok (.goto 4, 3) := by decide +kernel
theorem dX10_run_217 : decode cX10_run 217 = .ok (.iconst 0, 1) := by decide +kernel
theorem dX10_run_218 : decode cX10_run 218 = .ok (.istore 5, 2) := by decide +kernel
theorem dX10_run_220 : decode cX10_run 220 = .ok (.iinc 6 1, 3) := by decide +kernel
theorem dX10_run_223 : decode cX10_run 223 = .ok (.goto (-175), 3) := by decide +kernel
theorem dX10_run_226 : decode cX10_run 226 = .ok (.iload 5, 2) := by decide +kernel
theorem dX10_run_228 : decode cX10_run 228 = .ok (.ifCond .eq 8, 3) := by decide +kernel
theorem dX10_run_231 : decode cX10_run 231 = .ok (.iload 6, 2) := by decide +kernel
theorem dX10_run_233 : decode cX10_run 233 = .ok (.goto 7, 3) := by decide +kernel
theorem dX10_run_236 : decode cX10_run 236 = .ok (.iload 6, 2) := by decide +kernel
theorem dX10_run_238 : decode cX10_run 238 = .ok (.iconst 1, 1) := by decide +kernel
theorem dX10_run_239 : decode cX10_run 239 = .ok (.isub, 1) := by decide +kernel
theorem dX10_run_240 : decode cX10_run 240 = .ok (.ireturn, 1) := by decide +kernel
theorem dX10_shared_0 : decode cX10_shared 0 = .ok (.aload_n 0, 1) := by decide +kernel
theorem dX10_shared_1 : decode cX10_shared 1 = .ok (.getfield 46, 3) := by decide +kernel
theorem dX10_shared_4 : decode cX10_shared 4 = .ok (.iload_n 1, 1) := by decide +kernel
theorem dX10_shared_5 : decode cX10_shared 5 = .ok (.invokevirtual 165, 3) := by decide +kernel
theorem dX10_shared_8 : decode cX10_shared 8 = .ok (.astore_n 3, 1) := by decide +kernel
theorem dX10_shared_9 : decode cX10_shared 9 = .ok (.aload_n 0, 1) := by decide +kernel
theorem dX10_shared_10 : decode cX10_shared 10 = .ok (.getfield 46, 3) := by decide +kernel
theorem dX10_shared_13 : decode cX10_shared 13 = .ok (.iload_n 2, 1) := by decide +kernel
theorem dX10_shared_14 : decode cX10_shared 14 = .ok (.invokevirtual 165, 3) := by decide +kernel
theorem dX10_shared_17 : decode cX10_shared 17 = .ok (.astore 4, 2) := by decide +kernel
theorem dX10_shared_19 : decode cX10_shared 19 = .ok (.aload_n 3, 1) := by decide +kernel
theorem dX10_shared_20 : decode cX10_shared 20 = .ok (.ifnull 8, 3) := by decide +kernel
theorem dX10_shared_23 : decode cX10_shared 23 = .ok (.aload 4, 2) := by decide +kernel
theorem dX10_shared_25 : decode cX10_shared 25 = .ok (.ifnonnull 7, 3) := by decide +kernel
theorem dX10_shared_28 : decode cX10_shared 28 = .ok (.iconst (-1), 1) := by decide +kernel
theorem dX10_shared_29 : decode cX10_shared 29 = .ok (.goto 10, 3) := by decide +kernel
theorem dX10_shared_32 : decode cX10_shared 32 = .ok (.aload_n 0, 1) := by decide +kernel
theorem dX10_shared_33 : decode cX10_shared 33 = .ok (.aload_n 3, 1) := by decide +kernel
theorem dX10_shared_34 : decode cX10_shared 34 = .ok (.aload 4, 2) := by decide +kernel
theorem dX10_shared_36 : decode cX10_shared 36 = .ok (.invokevirtual 388, 3) := by decide +kernel
theorem dX10_shared_39 : decode cX10_shared 39 = .ok (.ireturn, 1) := by decide +kernel
theorem dX10_looked_0 : decode cX10_looked 0 = .ok (.aload_n 0, 1) := by decide +kernel
theorem dX10_looked_1 : decode cX10_looked 1 = .ok (.getfield 46, 3) := by decide +kernel
theorem dX10_looked_4 : decode cX10_looked 4 = .ok (.iload_n 1, 1) := by decide +kernel
theorem dX10_looked_5 : decode cX10_looked 5 = .ok (.invokevirtual 165, 3) := by decide +kernel
theorem dX10_looked_8 : decode cX10_looked 8 = .ok (.astore_n 3, 1) := by decide +kernel
theorem dX10_looked_9 : decode cX10_looked 9 = .ok (.aload_n 0, 1) := by decide +kernel
theorem dX10_looked_10 : decode cX10_looked 10 = .ok (.getfield 46, 3) := by decide +kernel
theorem dX10_looked_13 : decode cX10_looked 13 = .ok (.iload_n 2, 1) := by decide +kernel
theorem dX10_looked_14 : decode cX10_looked 14 = .ok (.invokevirtual 165, 3) := by decide +kernel
theorem dX10_looked_17 : decode cX10_looked 17 = .ok (.astore 4, 2) := by decide +kernel
theorem dX10_looked_19 : decode cX10_looked 19 = .ok (.aload_n 3, 1) := by decide +kernel
theorem dX10_looked_20 : decode cX10_looked 20 = .ok (.ifnull 8, 3) := by decide +kernel
theorem dX10_looked_23 : decode cX10_looked 23 = .ok (.aload 4, 2) := by decide +kernel
theorem dX10_looked_25 : decode cX10_looked 25 = .ok (.ifnonnull 5, 3) := by decide +kernel
theorem dX10_looked_28 : decode cX10_looked 28 = .ok (.iconst (-1), 1) := by decide +kernel
theorem dX10_looked_29 : decode cX10_looked 29 = .ok (.ireturn, 1) := by decide +kernel
theorem dX10_looked_30 : decode cX10_looked 30 = .ok (.aload_n 0, 1) := by decide +kernel
theorem dX10_looked_31 : decode cX10_looked 31 = .ok (.aload_n 3, 1) := by decide +kernel
theorem dX10_looked_32 : decode cX10_looked 32 = .ok (.aload 4, 2) := by decide +kernel
theorem dX10_looked_34 : decode cX10_looked 34 = .ok (.invokevirtual 388, 3) := by decide +kernel
theorem dX10_looked_37 : decode cX10_looked 37 = .ok (.istore 5, 2) := by decide +kernel
theorem dX10_looked_39 : decode cX10_looked 39 = .ok (.aload_n 0, 1) := by decide +kernel
theorem dX10_looked_40 : decode cX10_looked 40 = .ok (.getfield 90, 3) := by decide +kernel
theorem dX10_looked_43 : decode cX10_looked 43 = .ok (.aload_n 3, 1) := by decide +kernel
theorem dX10_looked_44 : decode cX10_looked 44 = .ok (.invokevirtual 181, 3) := by decide +kernel
theorem dX10_looked_47 : decode cX10_looked 47 = .ok (.aload_n 0, 1) := by decide +kernel
theorem dX10_looked_48 : decode cX10_looked 48 = .ok (.getfield 90, 3) := by decide +kernel
theorem dX10_looked_51 : decode cX10_looked 51 = .ok (.invokevirtual 185, 3) := by decide +kernel
theorem dX10_looked_54 : decode cX10_looked 54 = .ok (.istore 6, 2) := by decide +kernel
theorem dX10_looked_56 : decode cX10_looked 56 = .ok (.aload_n 0, 1) := by decide +kernel
theorem dX10_looked_57 : decode cX10_looked 57 = .ok (.getfield 90, 3) := by decide +kernel
theorem dX10_looked_60 : decode cX10_looked 60 = .ok (.aload 4, 2) := by decide +kernel
theorem dX10_looked_62 : decode cX10_looked 62 = .ok (.invokevirtual 181, 3) := by decide +kernel
theorem dX10_looked_65 : decode cX10_looked 65 = .ok (.iload 6, 2) := by decide +kernel
theorem dX10_looked_67 : decode cX10_looked 67 = .ok (.aload_n 0, 1) := by decide +kernel
theorem dX10_looked_68 : decode cX10_looked 68 = .ok (.getfield 90, 3) := by decide +kernel
theorem dX10_looked_71 : decode cX10_looked 71 = .ok (.invokevirtual 185, 3) := by decide +kernel
theorem dX10_looked_74 : decode cX10_looked 74 = .ok (.iadd, 1) := by decide +kernel
theorem dX10_looked_75 : decode cX10_looked 75 = .ok (.iconst 2, 1) := by decide +kernel
theorem dX10_looked_76 : decode cX10_looked 76 = .ok (.iload 5, 2) := by decide +kernel
theorem dX10_looked_78 : decode cX10_looked 78 = .ok (.imul, 1) := by decide +kernel
theorem dX10_looked_79 : decode cX10_looked 79 = .ok (.isub, 1) := by decide +kernel
theorem dX10_looked_80 : decode cX10_looked 80 = .ok (.ireturn, 1) := by decide +kernel
theorem dX10_sharedNodes_0 : decode cX10_sharedNodes 0 = .ok (.aload_n 0, 1) := by decide +kernel
theorem dX10_sharedNodes_1 : decode cX10_sharedNodes 1 = .ok (.aload_n 1, 1) := by decide +kernel
theorem dX10_sharedNodes_2 : decode cX10_sharedNodes 2 = .ok (.invokevirtual 249, 3) := by decide +kernel
theorem dX10_sharedNodes_5 : decode cX10_sharedNodes 5 = .ok (.istore_n 3, 1) := by decide +kernel
theorem dX10_sharedNodes_6 : decode cX10_sharedNodes 6 = .ok (.aload_n 0, 1) := by decide +kernel
theorem dX10_sharedNodes_7 : decode cX10_sharedNodes 7 = .ok (.getfield 90, 3) := by decide +kernel
theorem dX10_sharedNodes_10 : decode cX10_sharedNodes 10 = .ok (.aload_n 2, 1) := by decide +kernel
theorem dX10_sharedNodes_11 : decode cX10_sharedNodes 11 = .ok (.invokevirtual 181, 3) := by decide +kernel
theorem dX10_sharedNodes_14 : decode cX10_sharedNodes 14 = .ok (.aload_n 0, 1) := by decide +kernel
theorem dX10_sharedNodes_15 : decode cX10_sharedNodes 15 = .ok (.getfield 90, 3) := by decide +kernel
theorem dX10_sharedNodes_18 : decode cX10_sharedNodes 18 = .ok (.invokevirtual 185, 3) := by decide +kernel
theorem dX10_sharedNodes_21 : decode cX10_sharedNodes 21 = .ok (.aload_n 0, 1) := by decide +kernel
theorem dX10_sharedNodes_22 : decode cX10_sharedNodes 22 = .ok (.getfield 90, 3) := by decide +kernel
theorem dX10_sharedNodes_25 : decode cX10_sharedNodes 25 = .ok (.iload_n 3, 1) := by decide +kernel
theorem dX10_sharedNodes_26 : decode cX10_sharedNodes 26 = .ok (.invokevirtual 392, 3) := by decide +kernel
theorem dX10_sharedNodes_29 : decode cX10_sharedNodes 29 = .ok (.isub, 1) := by decide +kernel
theorem dX10_sharedNodes_30 : decode cX10_sharedNodes 30 = .ok (.ireturn, 1) := by decide +kernel
theorem dX10_marked_0 : decode cX10_marked 0 = .ok (.aload_n 0, 1) := by decide +kernel
theorem dX10_marked_1 : decode cX10_marked 1 = .ok (.dup, 1) := by decide +kernel
theorem dX10_marked_2 : decode cX10_marked 2 = .ok (.getfield 395, 3) := by decide +kernel
theorem dX10_marked_5 : decode cX10_marked 5 = .ok (.iconst 1, 1) := by decide +kernel
theorem dX10_marked_6 : decode cX10_marked 6 = .ok (.iadd, 1) := by decide +kernel
theorem dX10_marked_7 : decode cX10_marked 7 = .ok (.putfield 395, 3) := by decide +kernel
theorem dX10_marked_10 : decode cX10_marked 10 = .ok (.aload_n 0, 1) := by decide +kernel
theorem dX10_marked_11 : decode cX10_marked 11 = .ok (.getfield 90, 3) := by decide +kernel
theorem dX10_marked_14 : decode cX10_marked 14 = .ok (.aload_n 1, 1) := by decide +kernel
theorem dX10_marked_15 : decode cX10_marked 15 = .ok (.invokevirtual 181, 3) := by decide +kernel
theorem dX10_marked_18 : decode cX10_marked 18 = .ok (.aload_n 0, 1) := by decide +kernel
theorem dX10_marked_19 : decode cX10_marked 19 = .ok (.getfield 90, 3) := by decide +kernel
theorem dX10_marked_22 : decode cX10_marked 22 = .ok (.aload_n 0, 1) := by decide +kernel
theorem dX10_marked_23 : decode cX10_marked 23 = .ok (.getfield 395, 3) := by decide +kernel
theorem dX10_marked_26 : decode cX10_marked 26 = .ok (.invokevirtual 392, 3) := by decide +kernel
theorem dX10_marked_29 : decode cX10_marked 29 = .ok (.pop, 1) := by decide +kernel
theorem dX10_marked_30 : decode cX10_marked 30 = .ok (.aload_n 0, 1) := by decide +kernel
theorem dX10_marked_31 : decode cX10_marked 31 = .ok (.getfield 395, 3) := by decide +kernel
theorem dX10_marked_34 : decode cX10_marked 34 = .ok (.ireturn, 1) := by decide +kernel
theorem dX10_difference_0 : decode cX10_difference 0 = .ok (.aload_n 0, 1) := by decide +kernel
theorem dX10_difference_1 : decode cX10_difference 1 = .ok (.iload_n 1, 1) := by decide +kernel
theorem dX10_difference_2 : decode cX10_difference 2 = .ok (.iload_n 2, 1) := by decide +kernel
theorem dX10_difference_3 : decode cX10_difference 3 = .ok (.invokevirtual 295, 3) := by decide +kernel
theorem dX10_difference_6 : decode cX10_difference 6 = .ok (.ifCond .ne 6, 3) := by decide +kernel
theorem dX10_difference_9 : decode cX10_difference 9 = .ok (.ldc 180, 2) := by decide +kernel
theorem dX10_difference_11 : decode cX10_difference 11 = .ok (.ireturn, 1) := by decide +kernel
theorem dX10_difference_12 : decode cX10_difference 12 = .ok (.iconst 0, 1) := by decide +kernel
theorem dX10_difference_13 : decode cX10_difference 13 = .ok (.istore 5, 2) := by decide +kernel
theorem dX10_difference_15 : decode cX10_difference 15 = .ok (.aload_n 0, 1) := by decide +kernel
theorem dX10_difference_16 : decode cX10_difference 16 = .ok (.getfield 77, 3) := by decide +kernel
theorem dX10_difference_19 : decode cX10_difference 19 = .ok (.aload_n 0, 1) := by decide +kernel
theorem dX10_difference_20 : decode cX10_difference 20 = .ok (.getfield 81, 3) := by decide +kernel
theorem dX10_difference_23 : decode cX10_difference 23 = .ok (.iconst (-1), 1) := by decide +kernel
theorem dX10_difference_24 : decode cX10_difference 24 = .ok (.invokestatic 288, 3) := by decide +kernel
theorem dX10_difference_27 : decode cX10_difference 27 = .ok (.istore 6, 2) := by decide +kernel
theorem dX10_difference_29 : decode cX10_difference 29 = .ok (.iconst 0, 1) := by decide +kernel
theorem dX10_difference_30 : decode cX10_difference 30 = .ok (.istore 7, 2) := by decide +kernel
theorem dX10_difference_32 : decode cX10_difference 32 = .ok (.iload 7, 2) := by decide +kernel
theorem dX10_difference_34 : decode cX10_difference 34 = .ok (.sipush 1000, 3) := by decide +kernel
theorem dX10_difference_37 : decode cX10_difference 37 = .ok (.if_icmp .ge 69, 3) := by decide +kernel
theorem dX10_difference_40 : decode cX10_difference 40 = .ok (.iload 6, 2) := by decide +kernel
theorem dX10_difference_42 : decode cX10_difference 42 = .ok (.iconst (-1), 1) := by decide +kernel
theorem dX10_difference_43 : decode cX10_difference 43 = .ok (.if_icmp .eq 63, 3) := by decide +kernel
theorem dX10_difference_46 : decode cX10_difference 46 = .ok (.aload_n 0, 1) := by decide +kernel
theorem dX10_difference_47 : decode cX10_difference 47 = .ok (.getfield 77, 3) := by decide +kernel
theorem dX10_difference_50 : decode cX10_difference 50 = .ok (.iload 6, 2) := by decide +kernel
theorem dX10_difference_52 : decode cX10_difference 52 = .ok (.invokevirtual 263, 3) := by decide +kernel
theorem dX10_difference_55 : decode cX10_difference 55 = .ok (.aload_n 0, 1) := by decide +kernel
theorem dX10_difference_56 : decode cX10_difference 56 = .ok (.getfield 81, 3) := by decide +kernel
theorem dX10_difference_59 : decode cX10_difference 59 = .ok (.iload 6, 2) := by decide +kernel
theorem dX10_difference_61 : decode cX10_difference 61 = .ok (.invokevirtual 263, 3) := by decide +kernel
theorem dX10_difference_64 : decode cX10_difference 64 = .ok (.if_icmp .eq 21, 3) := by decide +kernel
theorem dX10_difference_67 : decode cX10_difference 67 = .ok (.iload 5, 2) := by decide +kernel
theorem dX10_difference_69 : decode cX10_difference 69 = .ok (.iload_n 3, 1) := by decide +kernel
theorem dX10_difference_70 : decode cX10_difference 70 = .ok (.if_icmp .ne 12, 3) := by decide +kernel
theorem dX10_difference_73 : decode cX10_difference 73 = .ok (.aload_n 0, 1) := by decide +kernel
theorem dX10_difference_74 : decode cX10_difference 74 = .ok (.iload 6, 2) := by decide +kernel
theorem dX10_difference_76 : decode cX10_difference 76 = .ok (.iload 4, 2) := by decide +kernel
theorem dX10_difference_78 : decode cX10_difference 78 = .ok (.invokevirtual 398, 3) := by decide +kernel
theorem dX10_difference_81 : decode cX10_difference 81 = .ok (.ireturn, 1) := by decide +kernel
theorem dX10_difference_82 : decode cX10_difference 82 = .ok (.iinc 5 1, 3) := by decide +kernel
theorem dX10_difference_85 : decode cX10_difference 85 = .ok (.aload_n 0, 1) := by decide +kernel
theorem dX10_difference_86 : decode cX10_difference 86 = .ok (.getfield 77, 3) := by decide +kernel
theorem dX10_difference_89 : decode cX10_difference 89 = .ok (.aload_n 0, 1) := by decide +kernel
theorem dX10_difference_90 : decode cX10_difference 90 = .ok (.getfield 81, 3) := by decide +kernel
theorem dX10_difference_93 : decode cX10_difference 93 = .ok (.iload 6, 2) := by decide +kernel
theorem dX10_difference_95 : decode cX10_difference 95 = .ok (.invokestatic 288, 3) := by decide +kernel
theorem dX10_difference_98 : decode cX10_difference 98 = .ok (.istore 6, 2) := by decide +kernel
theorem dX10_difference_100 : decode cX10_difference 100 = .ok (.iinc 7 1, 3) := by decide +kernel
theorem dX10_difference_103 : decode cX10_difference 103 = .ok (.goto (-71), 3) := by decide +kernel
theorem dX10_difference_106 : decode cX10_difference 106 = .ok (.iload_n 3, 1) := by decide +kernel
theorem dX10_difference_107 : decode cX10_difference 107 = .ok (.iconst (-1), 1) := by decide +kernel
theorem dX10_difference_108 : decode cX10_difference 108 = .ok (.if_icmp .ne 8, 3) := by decide +kernel
theorem dX10_difference_111 : decode cX10_difference 111 = .ok (.iload 5, 2) := by decide +kernel
theorem dX10_difference_113 : decode cX10_difference 113 = .ok (.goto 5, 3) := by decide +kernel
theorem dX10_difference_116 : decode cX10_difference 116 = .ok (.ldc 180, 2) := by decide +kernel
theorem dX10_difference_118 : decode cX10_difference 118 = .ok (.ireturn, 1) := by decide +kernel
theorem dX10_partOfDifference_0 : decode cX10_partOfDifference 0 = .ok (.iload_n 2, 1) := by decide +kernel
theorem dX10_partOfDifference_1 : decode cX10_partOfDifference 1 = .ok (.tableswitch 47 0 2 #[27, 29, 38], 27) := by decide +kernel
theorem dX10_partOfDifference_28 : decode cX10_partOfDifference 28 = .ok (.iload_n 1, 1) := by decide +kernel
theorem dX10_partOfDifference_29 : decode cX10_partOfDifference 29 = .ok (.ireturn, 1) := by decide +kernel
theorem dX10_partOfDifference_30 : decode cX10_partOfDifference 30 = .ok (.aload_n 0, 1) := by decide +kernel
theorem dX10_partOfDifference_31 : decode cX10_partOfDifference 31 = .ok (.getfield 77, 3) := by decide +kernel
theorem dX10_partOfDifference_34 : decode cX10_partOfDifference 34 = .ok (.iload_n 1, 1) := by decide +kernel
theorem dX10_partOfDifference_35 : decode cX10_partOfDifference 35 = .ok (.invokevirtual 263, 3) := by decide +kernel
theorem dX10_partOfDifference_38 : decode cX10_partOfDifference 38 = .ok (.ireturn, 1) := by decide +kernel
theorem dX10_partOfDifference_39 : decode cX10_partOfDifference 39 = .ok (.aload_n 0, 1) := by decide +kernel
theorem dX10_partOfDifference_40 : decode cX10_partOfDifference 40 = .ok (.getfield 81, 3) := by decide +kernel
theorem dX10_partOfDifference_43 : decode cX10_partOfDifference 43 = .ok (.iload_n 1, 1) := by decide +kernel
theorem dX10_partOfDifference_44 : decode cX10_partOfDifference 44 = .ok (.invokevirtual 263, 3) := by decide +kernel
theorem dX10_partOfDifference_47 : decode cX10_partOfDifference 47 = .ok (.ireturn, 1) := by decide +kernel
theorem dX10_partOfDifference_48 : decode cX10_partOfDifference 48 = .ok (.ldc 180, 2) := by decide +kernel
theorem dX10_partOfDifference_50 : decode cX10_partOfDifference 50 = .ok (.ireturn, 1) := by decide +kernel
theorem dX10_fillTwo_0 : decode cX10_fillTwo 0 = .ok (.aload_n 0, 1) := by decide +kernel
theorem dX10_fillTwo_1 : decode cX10_fillTwo 1 = .ok (.getfield 46, 3) := by decide +kernel
theorem dX10_fillTwo_4 : decode cX10_fillTwo 4 = .ok (.iload_n 1, 1) := by decide +kernel
theorem dX10_fillTwo_5 : decode cX10_fillTwo 5 = .ok (.invokevirtual 165, 3) := by decide +kernel
theorem dX10_fillTwo_8 : decode cX10_fillTwo 8 = .ok (.astore_n 3, 1) := by decide +kernel
theorem dX10_fillTwo_9 : decode cX10_fillTwo 9 = .ok (.aload_n 0, 1) := by decide +kernel
theorem dX10_fillTwo_10 : decode cX10_fillTwo 10 = .ok (.getfield 46, 3) := by decide +kernel
theorem dX10_fillTwo_13 : decode cX10_fillTwo 13 = .ok (.iload_n 2, 1) := by decide +kernel
theorem dX10_fillTwo_14 : decode cX10_fillTwo 14 = .ok (.invokevirtual 165, 3) := by decide +kernel
theorem dX10_fillTwo_17 : decode cX10_fillTwo 17 = .ok (.astore 4, 2) := by decide +kernel
theorem dX10_fillTwo_19 : decode cX10_fillTwo 19 = .ok (.aload_n 3, 1) := by decide +kernel
theorem dX10_fillTwo_20 : decode cX10_fillTwo 20 = .ok (.ifnull 8, 3) := by decide +kernel
theorem dX10_fillTwo_23 : decode cX10_fillTwo 23 = .ok (.aload 4, 2) := by decide +kernel
theorem dX10_fillTwo_25 : decode cX10_fillTwo 25 = .ok (.ifnonnull 5, 3) := by decide +kernel
theorem dX10_fillTwo_28 : decode cX10_fillTwo 28 = .ok (.iconst 0, 1) := by decide +kernel
theorem dX10_fillTwo_29 : decode cX10_fillTwo 29 = .ok (.ireturn, 1) := by decide +kernel
theorem dX10_fillTwo_30 : decode cX10_fillTwo 30 = .ok (.aload_n 0, 1) := by decide +kernel
theorem dX10_fillTwo_31 : decode cX10_fillTwo 31 = .ok (.getfield 77, 3) := by decide +kernel
theorem dX10_fillTwo_34 : decode cX10_fillTwo 34 = .ok (.aload_n 3, 1) := by decide +kernel
theorem dX10_fillTwo_35 : decode cX10_fillTwo 35 = .ok (.invokevirtual 173, 3) := by decide +kernel
theorem dX10_fillTwo_38 : decode cX10_fillTwo 38 = .ok (.aload_n 0, 1) := by decide +kernel
theorem dX10_fillTwo_39 : decode cX10_fillTwo 39 = .ok (.getfield 81, 3) := by decide +kernel
theorem dX10_fillTwo_42 : decode cX10_fillTwo 42 = .ok (.aload 4, 2) := by decide +kernel
theorem dX10_fillTwo_44 : decode cX10_fillTwo 44 = .ok (.invokevirtual 173, 3) := by decide +kernel
theorem dX10_fillTwo_47 : decode cX10_fillTwo 47 = .ok (.iconst 1, 1) := by decide +kernel
theorem dX10_fillTwo_48 : decode cX10_fillTwo 48 = .ok (.ireturn, 1) := by decide +kernel
theorem dX10_alike_0 : decode cX10_alike 0 = .ok (.iload_n 3, 1) := by decide +kernel
theorem dX10_alike_1 : decode cX10_alike 1 = .ok (.ifCond .lt 17, 3) := by decide +kernel
theorem dX10_alike_4 : decode cX10_alike 4 = .ok (.iload_n 3, 1) := by decide +kernel
theorem dX10_alike_5 : decode cX10_alike 5 = .ok (.iconst 1, 1) := by decide +kernel
theorem dX10_alike_6 : decode cX10_alike 6 = .ok (.if_icmp .gt 12, 3) := by decide +kernel
theorem dX10_alike_9 : decode cX10_alike 9 = .ok (.aload_n 0, 1) := by decide +kernel
theorem dX10_alike_10 : decode cX10_alike 10 = .ok (.iload_n 1, 1) := by decide +kernel
theorem dX10_alike_11 : decode cX10_alike 11 = .ok (.iload_n 2, 1) := by decide +kernel
theorem dX10_alike_12 : decode cX10_alike 12 = .ok (.invokevirtual 295, 3) := by decide +kernel
theorem dX10_alike_15 : decode cX10_alike 15 = .ok (.ifCond .ne 5, 3) := by decide +kernel
theorem dX10_alike_18 : decode cX10_alike 18 = .ok (.iconst (-1), 1) := by decide +kernel
theorem dX10_alike_19 : decode cX10_alike 19 = .ok (.ireturn, 1) := by decide +kernel
theorem dX10_alike_20 : decode cX10_alike 20 = .ok (.iload_n 3, 1) := by decide +kernel
theorem dX10_alike_21 : decode cX10_alike 21 = .ok (.ifCond .ne 23, 3) := by decide +kernel
theorem dX10_alike_24 : decode cX10_alike 24 = .ok (.aload_n 0, 1) := by decide +kernel
theorem dX10_alike_25 : decode cX10_alike 25 = .ok (.getfield 77, 3) := by decide +kernel
theorem dX10_alike_28 : decode cX10_alike 28 = .ok (.aload_n 0, 1) := by decide +kernel
theorem dX10_alike_29 : decode cX10_alike 29 = .ok (.getfield 81, 3) := by decide +kernel
theorem dX10_alike_32 : decode cX10_alike 32 = .ok (.invokevirtual 401, 3) := by decide +kernel
theorem dX10_alike_35 : decode cX10_alike 35 = .ok (.ifCond .eq 7, 3) := by decide +kernel
theorem dX10_alike_38 : decode cX10_alike 38 = .ok (.iconst 1, 1) := by decide +kernel
theorem dX10_alike_39 : decode cX10_alike 39 = .ok (.goto 4, 3) := by decide +kernel
theorem dX10_alike_42 : decode cX10_alike 42 = .ok (.iconst 0, 1) := by decide +kernel
theorem dX10_alike_43 : decode cX10_alike 43 = .ok (.ireturn, 1) := by decide +kernel
theorem dX10_alike_44 : decode cX10_alike 44 = .ok (.aload_n 0, 1) := by decide +kernel
theorem dX10_alike_45 : decode cX10_alike 45 = .ok (.getfield 68, 3) := by decide +kernel
theorem dX10_alike_48 : decode cX10_alike 48 = .ok (.aload_n 0, 1) := by decide +kernel
theorem dX10_alike_49 : decode cX10_alike 49 = .ok (.getfield 46, 3) := by decide +kernel
theorem dX10_alike_52 : decode cX10_alike 52 = .ok (.iload_n 1, 1) := by decide +kernel
theorem dX10_alike_53 : decode cX10_alike 53 = .ok (.invokevirtual 165, 3) := by decide +kernel
theorem dX10_alike_56 : decode cX10_alike 56 = .ok (.invokevirtual 405, 3) := by decide +kernel
theorem dX10_alike_59 : decode cX10_alike 59 = .ok (.aload_n 0, 1) := by decide +kernel
theorem dX10_alike_60 : decode cX10_alike 60 = .ok (.getfield 71, 3) := by decide +kernel
theorem dX10_alike_63 : decode cX10_alike 63 = .ok (.aload_n 0, 1) := by decide +kernel
theorem dX10_alike_64 : decode cX10_alike 64 = .ok (.getfield 46, 3) := by decide +kernel
theorem dX10_alike_67 : decode cX10_alike 67 = .ok (.iload_n 2, 1) := by decide +kernel
theorem dX10_alike_68 : decode cX10_alike 68 = .ok (.invokevirtual 165, 3) := by decide +kernel
theorem dX10_alike_71 : decode cX10_alike 71 = .ok (.invokevirtual 405, 3) := by decide +kernel
theorem dX10_alike_74 : decode cX10_alike 74 = .ok (.aload_n 0, 1) := by decide +kernel
theorem dX10_alike_75 : decode cX10_alike 75 = .ok (.getfield 68, 3) := by decide +kernel
theorem dX10_alike_78 : decode cX10_alike 78 = .ok (.aload_n 0, 1) := by decide +kernel
theorem dX10_alike_79 : decode cX10_alike 79 = .ok (.getfield 71, 3) := by decide +kernel
theorem dX10_alike_82 : decode cX10_alike 82 = .ok (.invokevirtual 408, 3) := by decide +kernel
theorem dX10_alike_85 : decode cX10_alike 85 = .ok (.ifCond .eq 7, 3) := by decide +kernel
theorem dX10_alike_88 : decode cX10_alike 88 = .ok (.iconst 1, 1) := by decide +kernel
theorem dX10_alike_89 : decode cX10_alike 89 = .ok (.goto 4, 3) := by decide +kernel
theorem dX10_alike_92 : decode cX10_alike 92 = .ok (.iconst 0, 1) := by decide +kernel
theorem dX10_alike_93 : decode cX10_alike 93 = .ok (.ireturn, 1) := by decide +kernel
theorem dX10_fork_0 : decode cX10_fork 0 = .ok (.aload_n 0, 1) := by decide +kernel
theorem dX10_fork_1 : decode cX10_fork 1 = .ok (.getfield 46, 3) := by decide +kernel
theorem dX10_fork_4 : decode cX10_fork 4 = .ok (.iload_n 1, 1) := by decide +kernel
theorem dX10_fork_5 : decode cX10_fork 5 = .ok (.invokevirtual 165, 3) := by decide +kernel
theorem dX10_fork_8 : decode cX10_fork 8 = .ok (.ifnull 14, 3) := by decide +kernel
theorem dX10_fork_11 : decode cX10_fork 11 = .ok (.aload_n 0, 1) := by decide +kernel
theorem dX10_fork_12 : decode cX10_fork 12 = .ok (.getfield 46, 3) := by decide +kernel
theorem dX10_fork_15 : decode cX10_fork 15 = .ok (.iload_n 2, 1) := by decide +kernel
theorem dX10_fork_16 : decode cX10_fork 16 = .ok (.invokevirtual 165, 3) := by decide +kernel
theorem dX10_fork_19 : decode cX10_fork 19 = .ok (.ifnonnull 5, 3) := by decide +kernel
theorem dX10_fork_22 : decode cX10_fork 22 = .ok (.iconst (-1), 1) := by decide +kernel
theorem dX10_fork_23 : decode cX10_fork 23 = .ok (.ireturn, 1) := by decide +kernel
theorem dX10_fork_24 : decode cX10_fork 24 = .ok (.aload_n 0, 1) := by decide +kernel
theorem dX10_fork_25 : decode cX10_fork 25 = .ok (.getfield 46, 3) := by decide +kernel
theorem dX10_fork_28 : decode cX10_fork 28 = .ok (.iload_n 1, 1) := by decide +kernel
theorem dX10_fork_29 : decode cX10_fork 29 = .ok (.iload_n 2, 1) := by decide +kernel
theorem dX10_fork_30 : decode cX10_fork 30 = .ok (.invokevirtual 411, 3) := by decide +kernel
theorem dX10_fork_33 : decode cX10_fork 33 = .ok (.ireturn, 1) := by decide +kernel
theorem dX10_comesFrom_0 : decode cX10_comesFrom 0 = .ok (.aload_n 0, 1) := by decide +kernel
theorem dX10_comesFrom_1 : decode cX10_comesFrom 1 = .ok (.getfield 46, 3) := by decide +kernel
theorem dX10_comesFrom_4 : decode cX10_comesFrom 4 = .ok (.iload_n 1, 1) := by decide +kernel
theorem dX10_comesFrom_5 : decode cX10_comesFrom 5 = .ok (.invokevirtual 165, 3) := by decide +kernel
theorem dX10_comesFrom_8 : decode cX10_comesFrom 8 = .ok (.ifnull 18, 3) := by decide +kernel
theorem dX10_comesFrom_11 : decode cX10_comesFrom 11 = .ok (.iload_n 2, 1) := by decide +kernel
theorem dX10_comesFrom_12 : decode cX10_comesFrom 12 = .ok (.ifCond .lt 14, 3) := by decide +kernel
theorem dX10_comesFrom_15 : decode cX10_comesFrom 15 = .ok (.iload_n 2, 1) := by decide +kernel
theorem dX10_comesFrom_16 : decode cX10_comesFrom 16 = .ok (.aload_n 0, 1) := by decide +kernel
theorem dX10_comesFrom_17 : decode cX10_comesFrom 17 = .ok (.getfield 46, 3) := by decide +kernel
theorem dX10_comesFrom_20 : decode cX10_comesFrom 20 = .ok (.invokevirtual 228, 3) := by decide +kernel
theorem dX10_comesFrom_23 : decode cX10_comesFrom 23 = .ok (.if_icmp .lt 5, 3) := by decide +kernel
theorem dX10_comesFrom_26 : decode cX10_comesFrom 26 = .ok (.iconst (-1), 1) := by decide +kernel
theorem dX10_comesFrom_27 : decode cX10_comesFrom 27 = .ok (.ireturn, 1) := by decide +kernel
theorem dX10_comesFrom_28 : decode cX10_comesFrom 28 = .ok (.aload_n 0, 1) := by decide +kernel
theorem dX10_comesFrom_29 : decode cX10_comesFrom 29 = .ok (.getfield 46, 3) := by decide +kernel
theorem dX10_comesFrom_32 : decode cX10_comesFrom 32 = .ok (.iload_n 1, 1) := by decide +kernel
theorem dX10_comesFrom_33 : decode cX10_comesFrom 33 = .ok (.iload_n 2, 1) := by decide +kernel
theorem dX10_comesFrom_34 : decode cX10_comesFrom 34 = .ok (.invokevirtual 411, 3) := by decide +kernel
theorem dX10_comesFrom_37 : decode cX10_comesFrom 37 = .ok (.iload_n 2, 1) := by decide +kernel
theorem dX10_comesFrom_38 : decode cX10_comesFrom 38 = .ok (.if_icmp .ne 7, 3) := by decide +kernel
theorem dX10_comesFrom_41 : decode cX10_comesFrom 41 = .ok (.iconst 1, 1) := by decide +kernel
theorem dX10_comesFrom_42 : decode cX10_comesFrom 42 = .ok (.goto 4, 3) := by decide +kernel
theorem dX10_comesFrom_45 : decode cX10_comesFrom 45 = .ok (.iconst 0, 1) := by decide +kernel
theorem dX10_comesFrom_46 : decode cX10_comesFrom 46 = .ok (.ireturn, 1) := by decide +kernel
theorem dX10_show_0 : decode cX10_show 0 = .ok (.aload_n 0, 1) := by decide +kernel
theorem dX10_show_1 : decode cX10_show 1 = .ok (.getfield 46, 3) := by decide +kernel
theorem dX10_show_4 : decode cX10_show 4 = .ok (.iload_n 1, 1) := by decide +kernel
theorem dX10_show_5 : decode cX10_show 5 = .ok (.invokevirtual 165, 3) := by decide +kernel
theorem dX10_show_8 : decode cX10_show 8 = .ok (.astore_n 2, 1) := by decide +kernel
theorem dX10_show_9 : decode cX10_show 9 = .ok (.aload_n 2, 1) := by decide +kernel
theorem dX10_show_10 : decode cX10_show 10 = .ok (.ifnonnull 5, 3) := by decide +kernel
theorem dX10_show_13 : decode cX10_show 13 = .ok (.iconst (-1), 1) := by decide +kernel
theorem dX10_show_14 : decode cX10_show 14 = .ok (.ireturn, 1) := by decide +kernel
theorem dX10_show_15 : decode cX10_show 15 = .ok (.aload_n 0, 1) := by decide +kernel
theorem dX10_show_16 : decode cX10_show 16 = .ok (.getfield 64, 3) := by decide +kernel
theorem dX10_show_19 : decode cX10_show 19 = .ok (.aload_n 2, 1) := by decide +kernel
theorem dX10_show_20 : decode cX10_show 20 = .ok (.invokevirtual 405, 3) := by decide +kernel
theorem dX10_show_23 : decode cX10_show 23 = .ok (.aload_n 0, 1) := by decide +kernel
theorem dX10_show_24 : decode cX10_show 24 = .ok (.getfield 64, 3) := by decide +kernel
theorem dX10_show_27 : decode cX10_show 27 = .ok (.invokevirtual 414, 3) := by decide +kernel
theorem dX10_show_30 : decode cX10_show 30 = .ok (.ireturn, 1) := by decide +kernel
theorem dX10_shown_0 : decode cX10_shown 0 = .ok (.aload_n 0, 1) := by decide +kernel
theorem dX10_shown_1 : decode cX10_shown 1 = .ok (.getfield 64, 3) := by decide +kernel
theorem dX10_shown_4 : decode cX10_shown 4 = .ok (.iload_n 1, 1) := by decide +kernel
theorem dX10_shown_5 : decode cX10_shown 5 = .ok (.invokevirtual 415, 3) := by decide +kernel
theorem dX10_shown_8 : decode cX10_shown 8 = .ok (.ireturn, 1) := by decide +kernel
theorem dX10_digest_0 : decode cX10_digest 0 = .ok (.aload_n 0, 1) := by decide +kernel
theorem dX10_digest_1 : decode cX10_digest 1 = .ok (.getfield 46, 3) := by decide +kernel
theorem dX10_digest_4 : decode cX10_digest 4 = .ok (.iload_n 1, 1) := by decide +kernel
theorem dX10_digest_5 : decode cX10_digest 5 = .ok (.invokevirtual 165, 3) := by decide +kernel
theorem dX10_digest_8 : decode cX10_digest 8 = .ok (.astore_n 2, 1) := by decide +kernel
theorem dX10_digest_9 : decode cX10_digest 9 = .ok (.aload_n 2, 1) := by decide +kernel
theorem dX10_digest_10 : decode cX10_digest 10 = .ok (.ifnonnull 5, 3) := by decide +kernel
theorem dX10_digest_13 : decode cX10_digest 13 = .ok (.iconst (-1), 1) := by decide +kernel
theorem dX10_digest_14 : decode cX10_digest 14 = .ok (.ireturn, 1) := by decide +kernel
theorem dX10_digest_15 : decode cX10_digest 15 = .ok (.aload_n 0, 1) := by decide +kernel
theorem dX10_digest_16 : decode cX10_digest 16 = .ok (.getfield 68, 3) := by decide +kernel
theorem dX10_digest_19 : decode cX10_digest 19 = .ok (.aload_n 2, 1) := by decide +kernel
theorem dX10_digest_20 : decode cX10_digest 20 = .ok (.invokevirtual 405, 3) := by decide +kernel
theorem dX10_digest_23 : decode cX10_digest 23 = .ok (.aload_n 0, 1) := by decide +kernel
theorem dX10_digest_24 : decode cX10_digest 24 = .ok (.getfield 68, 3) := by decide +kernel
theorem dX10_digest_27 : decode cX10_digest 27 = .ok (.invokevirtual 418, 3) := by decide +kernel
theorem dX10_digest_30 : decode cX10_digest 30 = .ok (.ireturn, 1) := by decide +kernel
theorem dX10_status_0 : decode cX10_status 0 = .ok (.iload_n 1, 1) := by decide +kernel
theorem dX10_status_1 : decode cX10_status 1 = .ok (.ifCond .lt 21, 3) := by decide +kernel
theorem dX10_status_4 : decode cX10_status 4 = .ok (.iload_n 1, 1) := by decide +kernel
theorem dX10_status_5 : decode cX10_status 5 = .ok (.aload_n 0, 1) := by decide +kernel
theorem dX10_status_6 : decode cX10_status 6 = .ok (.getfield 57, 3) := by decide +kernel
theorem dX10_status_9 : decode cX10_status 9 = .ok (.arraylength, 1) := by decide +kernel
theorem dX10_status_10 : decode cX10_status 10 = .ok (.if_icmp .ge 12, 3) := by decide +kernel
theorem dX10_status_13 : decode cX10_status 13 = .ok (.aload_n 0, 1) := by decide +kernel
theorem dX10_status_14 : decode cX10_status 14 = .ok (.getfield 57, 3) := by decide +kernel
theorem dX10_status_17 : decode cX10_status 17 = .ok (.iload_n 1, 1) := by decide +kernel
theorem dX10_status_18 : decode cX10_status 18 = .ok (.iaload, 1) := by decide +kernel
theorem dX10_status_19 : decode cX10_status 19 = .ok (.goto 4, 3) := by decide +kernel
theorem dX10_status_22 : decode cX10_status 22 = .ok (.iconst (-1), 1) := by decide +kernel
theorem dX10_status_23 : decode cX10_status 23 = .ok (.ireturn, 1) := by decide +kernel
theorem dX10_image_0 : decode cX10_image 0 = .ok (.aload_n 0, 1) := by decide +kernel
theorem dX10_image_1 : decode cX10_image 1 = .ok (.getfield 46, 3) := by decide +kernel
theorem dX10_image_4 : decode cX10_image 4 = .ok (.invokevirtual 421, 3) := by decide +kernel
theorem dX10_image_7 : decode cX10_image 7 = .ok (.aload_n 0, 1) := by decide +kernel
theorem dX10_image_8 : decode cX10_image 8 = .ok (.getfield 46, 3) := by decide +kernel
theorem dX10_image_11 : decode cX10_image 11 = .ok (.invokevirtual 310, 3) := by decide +kernel
theorem dX10_image_14 : decode cX10_image 14 = .ok (.ireturn, 1) := by decide +kernel
theorem dX10_back_0 : decode cX10_back 0 = .ok (.aload_n 0, 1) := by decide +kernel
theorem dX10_back_1 : decode cX10_back 1 = .ok (.getfield 46, 3) := by decide +kernel
theorem dX10_back_4 : decode cX10_back 4 = .ok (.invokevirtual 424, 3) := by decide +kernel
theorem dX10_back_7 : decode cX10_back 7 = .ok (.ifCond .ne 5, 3) := by decide +kernel
theorem dX10_back_10 : decode cX10_back 10 = .ok (.iconst (-1), 1) := by decide +kernel
theorem dX10_back_11 : decode cX10_back 11 = .ok (.ireturn, 1) := by decide +kernel
theorem dX10_back_12 : decode cX10_back 12 = .ok (.aload_n 0, 1) := by decide +kernel
theorem dX10_back_13 : decode cX10_back 13 = .ok (.invokevirtual 162, 3) := by decide +kernel
theorem dX10_back_16 : decode cX10_back 16 = .ok (.aload_n 0, 1) := by decide +kernel
theorem dX10_back_17 : decode cX10_back 17 = .ok (.getfield 46, 3) := by decide +kernel
theorem dX10_back_20 : decode cX10_back 20 = .ok (.invokevirtual 310, 3) := by decide +kernel
theorem dX10_back_23 : decode cX10_back 23 = .ok (.ireturn, 1) := by decide +kernel
theorem dX10_count_0 : decode cX10_count 0 = .ok (.iload_n 1, 1) := by decide +kernel
theorem dX10_count_1 : decode cX10_count 1 = .ok (.tableswitch 102 0 7 #[47, 55, 63, 71, 79, 84, 89, 97], 47) := by decide +kernel
theorem dX10_count_48 : decode cX10_count 48 = .ok (.aload_n 0, 1) := by decide +kernel
theorem dX10_count_49 : decode cX10_count 49 = .ok (.getfield 39, 3) := by decide +kernel
theorem dX10_count_52 : decode cX10_count 52 = .ok (.invokevirtual 427, 3) := by decide +kernel
theorem dX10_count_55 : decode cX10_count 55 = .ok (.ireturn, 1) := by decide +kernel
theorem dX10_count_56 : decode cX10_count 56 = .ok (.aload_n 0, 1) := by decide +kernel
theorem dX10_count_57 : decode cX10_count 57 = .ok (.getfield 46, 3) := by decide +kernel
theorem dX10_count_60 : decode cX10_count 60 = .ok (.invokevirtual 310, 3) := by decide +kernel
theorem dX10_count_63 : decode cX10_count 63 = .ok (.ireturn, 1) := by decide +kernel
theorem dX10_count_64 : decode cX10_count 64 = .ok (.aload_n 0, 1) := by decide +kernel
theorem dX10_count_65 : decode cX10_count 65 = .ok (.getfield 46, 3) := by decide +kernel
theorem dX10_count_68 : decode cX10_count 68 = .ok (.invokevirtual 228, 3) := by decide +kernel
theorem dX10_count_71 : decode cX10_count 71 = .ok (.ireturn, 1) := by decide +kernel
theorem dX10_count_72 : decode cX10_count 72 = .ok (.aload_n 0, 1) := by decide +kernel
theorem dX10_count_73 : decode cX10_count 73 = .ok (.getfield 39, 3) := by decide +kernel
theorem dX10_count_76 : decode cX10_count 76 = .ok (.invokevirtual 324, 3) := by decide +kernel
theorem dX10_count_79 : decode cX10_count 79 = .ok (.ireturn, 1) := by decide +kernel
theorem dX10_count_80 : decode cX10_count 80 = .ok (.aload_n 0, 1) := by decide +kernel
theorem dX10_count_81 : decode cX10_count 81 = .ok (.invokevirtual 430, 3) := by decide +kernel
theorem dX10_count_84 : decode cX10_count 84 = .ok (.ireturn, 1) := by decide +kernel
theorem dX10_count_85 : decode cX10_count 85 = .ok (.aload_n 0, 1) := by decide +kernel
theorem dX10_count_86 : decode cX10_count 86 = .ok (.getfield 153, 3) := by decide +kernel
theorem dX10_count_89 : decode cX10_count 89 = .ok (.ireturn, 1) := by decide +kernel
theorem dX10_count_90 : decode cX10_count 90 = .ok (.aload_n 0, 1) := by decide +kernel
theorem dX10_count_91 : decode cX10_count 91 = .ok (.getfield 10, 3) := by decide +kernel
theorem dX10_count_94 : decode cX10_count 94 = .ok (.invokevirtual 98, 3) := by decide +kernel
theorem dX10_count_97 : decode cX10_count 97 = .ok (.ireturn, 1) := by decide +kernel
theorem dX10_count_98 : decode cX10_count 98 = .ok (.aload_n 0, 1) := by decide +kernel
theorem dX10_count_99 : decode cX10_count 99 = .ok (.invokevirtual 433, 3) := by decide +kernel
theorem dX10_count_102 : decode cX10_count 102 = .ok (.ireturn, 1) := by decide +kernel
theorem dX10_count_103 : decode cX10_count 103 = .ok (.ldc 180, 2) := by decide +kernel
theorem dX10_count_105 : decode cX10_count 105 = .ok (.ireturn, 1) := by decide +kernel
theorem dX10_liveNodes_0 : decode cX10_liveNodes 0 = .ok (.aload_n 0, 1) := by decide +kernel
theorem dX10_liveNodes_1 : decode cX10_liveNodes 1 = .ok (.dup, 1) := by decide +kernel
theorem dX10_liveNodes_2 : decode cX10_liveNodes 2 = .ok (.getfield 395, 3) := by decide +kernel
theorem dX10_liveNodes_5 : decode cX10_liveNodes 5 = .ok (.iconst 1, 1) := by decide +kernel
theorem dX10_liveNodes_6 : decode cX10_liveNodes 6 = .ok (.iadd, 1) := by decide +kernel
theorem dX10_liveNodes_7 : decode cX10_liveNodes 7 = .ok (.putfield 395, 3) := by decide +kernel
theorem dX10_liveNodes_10 : decode cX10_liveNodes 10 = .ok (.iconst 0, 1) := by decide +kernel
theorem dX10_liveNodes_11 : decode cX10_liveNodes 11 = .ok (.istore_n 1, 1) := by decide +kernel
theorem dX10_liveNodes_12 : decode cX10_liveNodes 12 = .ok (.iconst 0, 1) := by decide +kernel
theorem dX10_liveNodes_13 : decode cX10_liveNodes 13 = .ok (.istore_n 2, 1) := by decide +kernel
theorem dX10_liveNodes_14 : decode cX10_liveNodes 14 = .ok (.iload_n 2, 1) := by decide +kernel
theorem dX10_liveNodes_15 : decode cX10_liveNodes 15 = .ok (.aload_n 0, 1) := by decide +kernel
theorem dX10_liveNodes_16 : decode cX10_liveNodes 16 = .ok (.getfield 46, 3) := by decide +kernel
theorem dX10_liveNodes_19 : decode cX10_liveNodes 19 = .ok (.invokevirtual 228, 3) := by decide +kernel
theorem dX10_liveNodes_22 : decode cX10_liveNodes 22 = .ok (.if_icmp .ge 38, 3) := by decide +kernel
theorem dX10_liveNodes_25 : decode cX10_liveNodes 25 = .ok (.aload_n 0, 1) := by decide +kernel
theorem dX10_liveNodes_26 : decode cX10_liveNodes 26 = .ok (.getfield 90, 3) := by decide +kernel
theorem dX10_liveNodes_29 : decode cX10_liveNodes 29 = .ok (.aload_n 0, 1) := by decide +kernel
theorem dX10_liveNodes_30 : decode cX10_liveNodes 30 = .ok (.getfield 46, 3) := by decide +kernel
theorem dX10_liveNodes_33 : decode cX10_liveNodes 33 = .ok (.iload_n 2, 1) := by decide +kernel
theorem dX10_liveNodes_34 : decode cX10_liveNodes 34 = .ok (.invokevirtual 165, 3) := by decide +kernel
theorem dX10_liveNodes_37 : decode cX10_liveNodes 37 = .ok (.invokevirtual 181, 3) := by decide +kernel
theorem dX10_liveNodes_40 : decode cX10_liveNodes 40 = .ok (.iload_n 1, 1) := by decide +kernel
theorem dX10_liveNodes_41 : decode cX10_liveNodes 41 = .ok (.aload_n 0, 1) := by decide +kernel
theorem dX10_liveNodes_42 : decode cX10_liveNodes 42 = .ok (.getfield 90, 3) := by decide +kernel
theorem dX10_liveNodes_45 : decode cX10_liveNodes 45 = .ok (.aload_n 0, 1) := by decide +kernel
theorem dX10_liveNodes_46 : decode cX10_liveNodes 46 = .ok (.getfield 395, 3) := by decide +kernel
theorem dX10_liveNodes_49 : decode cX10_liveNodes 49 = .ok (.invokevirtual 392, 3) := by decide +kernel
theorem dX10_liveNodes_52 : decode cX10_liveNodes 52 = .ok (.iadd, 1) := by decide +kernel
theorem dX10_liveNodes_53 : decode cX10_liveNodes 53 = .ok (.istore_n 1, 1) := by decide +kernel
theorem dX10_liveNodes_54 : decode cX10_liveNodes 54 = .ok (.iinc 2 1, 3) := by decide +kernel
theorem dX10_liveNodes_57 : decode cX10_liveNodes 57 = .ok (.goto (-43), 3) := by decide +kernel
theorem dX10_liveNodes_60 : decode cX10_liveNodes 60 = .ok (.iconst 0, 1) := by decide +kernel
theorem dX10_liveNodes_61 : decode cX10_liveNodes 61 = .ok (.istore_n 2, 1) := by decide +kernel
theorem dX10_liveNodes_62 : decode cX10_liveNodes 62 = .ok (.iload_n 2, 1) := by decide +kernel
theorem dX10_liveNodes_63 : decode cX10_liveNodes 63 = .ok (.iconst 4, 1) := by decide +kernel
theorem dX10_liveNodes_64 : decode cX10_liveNodes 64 = .ok (.if_icmp .ge 44, 3) := by decide +kernel
theorem dX10_liveNodes_67 : decode cX10_liveNodes 67 = .ok (.aload_n 0, 1) := by decide +kernel
theorem dX10_liveNodes_68 : decode cX10_liveNodes 68 = .ok (.iload_n 2, 1) := by decide +kernel
theorem dX10_liveNodes_69 : decode cX10_liveNodes 69 = .ok (.invokevirtual 313, 3) := by decide +kernel
theorem dX10_liveNodes_72 : decode cX10_liveNodes 72 = .ok (.astore_n 3, 1) := by decide +kernel
theorem dX10_liveNodes_73 : decode cX10_liveNodes 73 = .ok (.aload_n 3, 1) := by decide +kernel
theorem dX10_liveNodes_74 : decode cX10_liveNodes 74 = .ok (.ifnull 28, 3) := by decide +kernel
theorem dX10_liveNodes_77 : decode cX10_liveNodes 77 = .ok (.aload_n 0, 1) := by decide +kernel
theorem dX10_liveNodes_78 : decode cX10_liveNodes 78 = .ok (.getfield 90, 3) := by decide +kernel
theorem dX10_liveNodes_81 : decode cX10_liveNodes 81 = .ok (.aload_n 3, 1) := by decide +kernel
theorem dX10_liveNodes_82 : decode cX10_liveNodes 82 = .ok (.invokevirtual 345, 3) := by decide +kernel
theorem dX10_liveNodes_85 : decode cX10_liveNodes 85 = .ok (.invokevirtual 181, 3) := by decide +kernel
theorem dX10_liveNodes_88 : decode cX10_liveNodes 88 = .ok (.iload_n 1, 1) := by decide +kernel
theorem dX10_liveNodes_89 : decode cX10_liveNodes 89 = .ok (.aload_n 0, 1) := by decide +kernel
theorem dX10_liveNodes_90 : decode cX10_liveNodes 90 = .ok (.getfield 90, 3) := by decide +kernel
theorem dX10_liveNodes_93 : decode cX10_liveNodes 93 = .ok (.aload_n 0, 1) := by decide +kernel
theorem dX10_liveNodes_94 : decode cX10_liveNodes 94 = .ok (.getfield 395, 3) := by decide +kernel
theorem dX10_liveNodes_97 : decode cX10_liveNodes 97 = .ok (.invokevirtual 392, 3) := by decide +kernel
theorem dX10_liveNodes_100 : decode cX10_liveNodes 100 = .ok (.iadd, 1) := by decide +kernel
theorem dX10_liveNodes_101 : decode cX10_liveNodes 101 = .ok (.istore_n 1, 1) := by decide +kernel
theorem dX10_liveNodes_102 : decode cX10_liveNodes 102 = .ok (.iinc 2 1, 3) := by decide +kernel
theorem dX10_liveNodes_105 : decode cX10_liveNodes 105 = .ok (.goto (-43), 3) := by decide +kernel
theorem dX10_liveNodes_108 : decode cX10_liveNodes 108 = .ok (.iload_n 1, 1) := by decide +kernel
theorem dX10_liveNodes_109 : decode cX10_liveNodes 109 = .ok (.ireturn, 1) := by decide +kernel
theorem dX10_openBuilders_0 : decode cX10_openBuilders 0 = .ok (.iconst 0, 1) := by decide +kernel
theorem dX10_openBuilders_1 : decode cX10_openBuilders 1 = .ok (.istore_n 1, 1) := by decide +kernel
theorem dX10_openBuilders_2 : decode cX10_openBuilders 2 = .ok (.iconst 0, 1) := by decide +kernel
theorem dX10_openBuilders_3 : decode cX10_openBuilders 3 = .ok (.istore_n 2, 1) := by decide +kernel
theorem dX10_openBuilders_4 : decode cX10_openBuilders 4 = .ok (.iload_n 2, 1) := by decide +kernel
theorem dX10_openBuilders_5 : decode cX10_openBuilders 5 = .ok (.iconst 4, 1) := by decide +kernel
theorem dX10_openBuilders_6 : decode cX10_openBuilders 6 = .ok (.if_icmp .ge 32, 3) := by decide +kernel
theorem dX10_openBuilders_9 : decode cX10_openBuilders 9 = .ok (.aload_n 0, 1) := by decide +kernel
theorem dX10_openBuilders_10 : decode cX10_openBuilders 10 = .ok (.iload_n 2, 1) := by decide +kernel
theorem dX10_openBuilders_11 : decode cX10_openBuilders 11 = .ok (.invokevirtual 313, 3) := by decide +kernel
theorem dX10_openBuilders_14 : decode cX10_openBuilders 14 = .ok (.astore_n 3, 1) := by decide +kernel
theorem dX10_openBuilders_15 : decode cX10_openBuilders 15 = .ok (.aload_n 3, 1) := by decide +kernel
theorem dX10_openBuilders_16 : decode cX10_openBuilders 16 = .ok (.ifnull 16, 3) := by decide +kernel
theorem dX10_openBuilders_19 : decode cX10_openBuilders 19 = .ok (.aload_n 3, 1) := by decide +kernel
theorem dX10_openBuilders_20 : decode cX10_openBuilders 20 = .ok (.invokevirtual 342, 3) := by decide +kernel
theorem dX10_openBuilders_23 : decode cX10_openBuilders 23 = .ok (.ifCond .ne 9, 3) := by decide +kernel
theorem dX10_openBuilders_26 : decode cX10_openBuilders 26 = .ok (.iload_n 1, 1) := by decide +kernel
theorem dX10_openBuilders_27 : decode cX10_openBuilders 27 = .ok (.iconst 1, 1) := by decide +kernel
theorem dX10_openBuilders_28 : decode cX10_openBuilders 28 = .ok (.iload_n 2, 1) := by decide +kernel
theorem dX10_openBuilders_29 : decode cX10_openBuilders 29 = .ok (.ishl, 1) := by decide +kernel
theorem dX10_openBuilders_30 : decode cX10_openBuilders 30 = .ok (.ior, 1) := by decide +kernel
theorem dX10_openBuilders_31 : decode cX10_openBuilders 31 = .ok (.istore_n 1, 1) := by decide +kernel
theorem dX10_openBuilders_32 : decode cX10_openBuilders 32 = .ok (.iinc 2 1, 3) := by decide +kernel
theorem dX10_openBuilders_35 : decode cX10_openBuilders 35 = .ok (.goto (-31), 3) := by decide +kernel
theorem dX10_openBuilders_38 : decode cX10_openBuilders 38 = .ok (.iload_n 1, 1) := by decide +kernel
theorem dX10_openBuilders_39 : decode cX10_openBuilders 39 = .ok (.ireturn, 1) := by decide +kernel
theorem dX10_closeBuilders_0 : decode cX10_closeBuilders 0 = .ok (.iconst 0, 1) := by decide +kernel
theorem dX10_closeBuilders_1 : decode cX10_closeBuilders 1 = .ok (.istore_n 1, 1) := by decide +kernel
theorem dX10_closeBuilders_2 : decode cX10_closeBuilders 2 = .ok (.iload_n 1, 1) := by decide +kernel
theorem dX10_closeBuilders_3 : decode cX10_closeBuilders 3 = .ok (.iconst 4, 1) := by decide +kernel
theorem dX10_closeBuilders_4 : decode cX10_closeBuilders 4 = .ok (.if_icmp .ge 23, 3) := by decide +kernel
theorem dX10_closeBuilders_7 : decode cX10_closeBuilders 7 = .ok (.aload_n 0, 1) := by decide +kernel
theorem dX10_closeBuilders_8 : decode cX10_closeBuilders 8 = .ok (.iload_n 1, 1) := by decide +kernel
theorem dX10_closeBuilders_9 : decode cX10_closeBuilders 9 = .ok (.invokevirtual 313, 3) := by decide +kernel
theorem dX10_closeBuilders_12 : decode cX10_closeBuilders 12 = .ok (.astore_n 2, 1) := by decide +kernel
theorem dX10_closeBuilders_13 : decode cX10_closeBuilders 13 = .ok (.aload_n 2, 1) := by decide +kernel
theorem dX10_closeBuilders_14 : decode cX10_closeBuilders 14 = .ok (.ifnull 7, 3) := by decide +kernel
theorem dX10_closeBuilders_17 : decode cX10_closeBuilders 17 = .ok (.aload_n 2, 1) := by decide +kernel
theorem dX10_closeBuilders_18 : decode cX10_closeBuilders 18 = .ok (.invokevirtual 359, 3) := by decide +kernel
theorem dX10_closeBuilders_21 : decode cX10_closeBuilders 21 = .ok (.iinc 1 1, 3) := by decide +kernel
theorem dX10_closeBuilders_24 : decode cX10_closeBuilders 24 = .ok (.goto (-22), 3) := by decide +kernel
theorem dX10_closeBuilders_27 : decode cX10_closeBuilders 27 = .ok (.return_, 1) := by decide +kernel
theorem dX10_refused_0 : decode cX10_refused 0 = .ok (.iload_n 1, 1) := by decide +kernel
theorem dX10_refused_1 : decode cX10_refused 1 = .ok (.ifCond .lt 22, 3) := by decide +kernel
theorem dX10_refused_4 : decode cX10_refused 4 = .ok (.iload_n 1, 1) := by decide +kernel
theorem dX10_refused_5 : decode cX10_refused 5 = .ok (.aload_n 0, 1) := by decide +kernel
theorem dX10_refused_6 : decode cX10_refused 6 = .ok (.getfield 57, 3) := by decide +kernel
theorem dX10_refused_9 : decode cX10_refused 9 = .ok (.arraylength, 1) := by decide +kernel
theorem dX10_refused_10 : decode cX10_refused 10 = .ok (.if_icmp .ge 13, 3) := by decide +kernel
theorem dX10_refused_13 : decode cX10_refused 13 = .ok (.aload_n 0, 1) := by decide +kernel
theorem dX10_refused_14 : decode cX10_refused 14 = .ok (.getfield 57, 3) := by decide +kernel
theorem dX10_refused_17 : decode cX10_refused 17 = .ok (.iload_n 1, 1) := by decide +kernel
theorem dX10_refused_18 : decode cX10_refused 18 = .ok (.dup2, 1) := by decide +kernel
theorem dX10_refused_19 : decode cX10_refused 19 = .ok (.iaload, 1) := by decide +kernel
theorem dX10_refused_20 : decode cX10_refused 20 = .ok (.iconst 1, 1) := by decide +kernel
theorem dX10_refused_21 : decode cX10_refused 21 = .ok (.iadd, 1) := by decide +kernel
theorem dX10_refused_22 : decode cX10_refused 22 = .ok (.iastore, 1) := by decide +kernel
theorem dX10_refused_23 : decode cX10_refused 23 = .ok (.iconst (-1), 1) := by decide +kernel
theorem dX10_refused_24 : decode cX10_refused 24 = .ok (.ireturn, 1) := by decide +kernel
theorem dX10_builderAt_0 : decode cX10_builderAt 0 = .ok (.iload_n 1, 1) := by decide +kernel
theorem dX10_builderAt_1 : decode cX10_builderAt 1 = .ok (.ifCond .lt 21, 3) := by decide +kernel
theorem dX10_builderAt_4 : decode cX10_builderAt 4 = .ok (.iload_n 1, 1) := by decide +kernel
theorem dX10_builderAt_5 : decode cX10_builderAt 5 = .ok (.aload_n 0, 1) := by decide +kernel
theorem dX10_builderAt_6 : decode cX10_builderAt 6 = .ok (.getfield 52, 3) := by decide +kernel
theorem dX10_builderAt_9 : decode cX10_builderAt 9 = .ok (.arraylength, 1) := by decide +kernel
theorem dX10_builderAt_10 : decode cX10_builderAt 10 = .ok (.if_icmp .ge 12, 3) := by decide +kernel
theorem dX10_builderAt_13 : decode cX10_builderAt 13 = .ok (.aload_n 0, 1) := by decide +kernel
theorem dX10_builderAt_14 : decode cX10_builderAt 14 = .ok (.getfield 52, 3) := by decide +kernel
theorem dX10_builderAt_17 : decode cX10_builderAt 17 = .ok (.iload_n 1, 1) := by decide +kernel
theorem dX10_builderAt_18 : decode cX10_builderAt 18 = .ok (.aaload, 1) := by decide +kernel
theorem dX10_builderAt_19 : decode cX10_builderAt 19 = .ok (.goto 4, 3) := by decide +kernel
theorem dX10_builderAt_22 : decode cX10_builderAt 22 = .ok (.aconst_null, 1) := by decide +kernel
theorem dX10_builderAt_23 : decode cX10_builderAt 23 = .ok (.areturn, 1) := by decide +kernel
theorem dX10_programAt_0 : decode cX10_programAt 0 = .ok (.iload_n 1, 1) := by decide +kernel
theorem dX10_programAt_1 : decode cX10_programAt 1 = .ok (.ifCond .lt 21, 3) := by decide +kernel
theorem dX10_programAt_4 : decode cX10_programAt 4 = .ok (.iload_n 1, 1) := by decide +kernel
theorem dX10_programAt_5 : decode cX10_programAt 5 = .ok (.aload_n 0, 1) := by decide +kernel
theorem dX10_programAt_6 : decode cX10_programAt 6 = .ok (.getfield 27, 3) := by decide +kernel
theorem dX10_programAt_9 : decode cX10_programAt 9 = .ok (.arraylength, 1) := by decide +kernel
theorem dX10_programAt_10 : decode cX10_programAt 10 = .ok (.if_icmp .ge 12, 3) := by decide +kernel
theorem dX10_programAt_13 : decode cX10_programAt 13 = .ok (.aload_n 0, 1) := by decide +kernel
theorem dX10_programAt_14 : decode cX10_programAt 14 = .ok (.getfield 27, 3) := by decide +kernel
theorem dX10_programAt_17 : decode cX10_programAt 17 = .ok (.iload_n 1, 1) := by decide +kernel
theorem dX10_programAt_18 : decode cX10_programAt 18 = .ok (.aaload, 1) := by decide +kernel
theorem dX10_programAt_19 : decode cX10_programAt 19 = .ok (.goto 4, 3) := by decide +kernel
theorem dX10_programAt_22 : decode cX10_programAt 22 = .ok (.aconst_null, 1) := by decide +kernel
theorem dX10_programAt_23 : decode cX10_programAt 23 = .ok (.areturn, 1) := by decide +kernel
theorem dX10_isKey_0 : decode cX10_isKey 0 = .ok (.iload_n 0, 1) := by decide +kernel
theorem dX10_isKey_1 : decode cX10_isKey 1 = .ok (.ifCond .lt 14, 3) := by decide +kernel
theorem dX10_isKey_4 : decode cX10_isKey 4 = .ok (.iload_n 0, 1) := by decide +kernel
theorem dX10_isKey_5 : decode cX10_isKey 5 = .ok (.sipush 1000, 3) := by decide +kernel
theorem dX10_isKey_8 : decode cX10_isKey 8 = .ok (.if_icmp .ge 7, 3) := by decide +kernel
theorem dX10_isKey_11 : decode cX10_isKey 11 = .ok (.iconst 1, 1) := by decide +kernel
theorem dX10_isKey_12 : decode cX10_isKey 12 = .ok (.goto 4, 3) := by decide +kernel
theorem dX10_isKey_15 : decode cX10_isKey 15 = .ok (.iconst 0, 1) := by decide +kernel
theorem dX10_isKey_16 : decode cX10_isKey 16 = .ok (.ireturn, 1) := by decide +kernel
theorem dX10_isValue_0 : decode cX10_isValue 0 = .ok (.iload_n 0, 1) := by decide +kernel
theorem dX10_isValue_1 : decode cX10_isValue 1 = .ok (.sipush (-999), 3) := by decide +kernel
theorem dX10_isValue_4 : decode cX10_isValue 4 = .ok (.if_icmp .lt 14, 3) := by decide +kernel
theorem dX10_isValue_7 : decode cX10_isValue 7 = .ok (.iload_n 0, 1) := by decide +kernel
theorem dX10_isValue_8 : decode cX10_isValue 8 = .ok (.sipush 999, 3) := by decide +kernel
theorem dX10_isValue_11 : decode cX10_isValue 11 = .ok (.if_icmp .gt 7, 3) := by decide +kernel
theorem dX10_isValue_14 : decode cX10_isValue 14 = .ok (.iconst 1, 1) := by decide +kernel
theorem dX10_isValue_15 : decode cX10_isValue 15 = .ok (.goto 4, 3) := by decide +kernel
theorem dX10_isValue_18 : decode cX10_isValue 18 = .ok (.iconst 0, 1) := by decide +kernel
theorem dX10_isValue_19 : decode cX10_isValue 19 = .ok (.ireturn, 1) := by decide +kernel
theorem dX10_isRange_0 : decode cX10_isRange 0 = .ok (.iload_n 0, 1) := by decide +kernel
theorem dX10_isRange_1 : decode cX10_isRange 1 = .ok (.invokestatic 235, 3) := by decide +kernel
theorem dX10_isRange_4 : decode cX10_isRange 4 = .ok (.ifCond .eq 19, 3) := by decide +kernel
theorem dX10_isRange_7 : decode cX10_isRange 7 = .ok (.iload_n 1, 1) := by decide +kernel
theorem dX10_isRange_8 : decode cX10_isRange 8 = .ok (.invokestatic 235, 3) := by decide +kernel
theorem dX10_isRange_11 : decode cX10_isRange 11 = .ok (.ifCond .eq 12, 3) := by decide +kernel
theorem dX10_isRange_14 : decode cX10_isRange 14 = .ok (.iload_n 0, 1) := by decide +kernel
theorem dX10_isRange_15 : decode cX10_isRange 15 = .ok (.iload_n 1, 1) := by decide +kernel
theorem dX10_isRange_16 : decode cX10_isRange 16 = .ok (.if_icmp .gt 7, 3) := by decide +kernel
theorem dX10_isRange_19 : decode cX10_isRange 19 = .ok (.iconst 1, 1) := by decide +kernel
theorem dX10_isRange_20 : decode cX10_isRange 20 = .ok (.goto 4, 3) := by decide +kernel
theorem dX10_isRange_23 : decode cX10_isRange 23 = .ok (.iconst 0, 1) := by decide +kernel
theorem dX10_isRange_24 : decode cX10_isRange 24 = .ok (.ireturn, 1) := by decide +kernel
theorem dX10_heldWithin_0 : decode cX10_heldWithin 0 = .ok (.sipush (-999), 3) := by decide +kernel
theorem dX10_heldWithin_3 : decode cX10_heldWithin 3 = .ok (.sipush 999, 3) := by decide +kernel
theorem dX10_heldWithin_6 : decode cX10_heldWithin 6 = .ok (.iload_n 0, 1) := by decide +kernel
theorem dX10_heldWithin_7 : decode cX10_heldWithin 7 = .ok (.invokestatic 436, 3) := by decide +kernel
theorem dX10_heldWithin_10 : decode cX10_heldWithin 10 = .ok (.invokestatic 270, 3) := by decide +kernel
theorem dX10_heldWithin_13 : decode cX10_heldWithin 13 = .ok (.ireturn, 1) := by decide +kernel
theorem dX10_fits_0 : decode cX10_fits 0 = .ok (.aload_n 0, 1) := by decide +kernel
theorem dX10_fits_1 : decode cX10_fits 1 = .ok (.iload_n 1, 1) := by decide +kernel
theorem dX10_fits_2 : decode cX10_fits 2 = .ok (.invokestatic 169, 3) := by decide +kernel
theorem dX10_fits_5 : decode cX10_fits 5 = .ok (.ldc 180, 2) := by decide +kernel
theorem dX10_fits_7 : decode cX10_fits 7 = .ok (.if_icmp .ne 13, 3) := by decide +kernel
theorem dX10_fits_10 : decode cX10_fits 10 = .ok (.aload_n 0, 1) := by decide +kernel
theorem dX10_fits_11 : decode cX10_fits 11 = .ok (.iconst 0, 1) := by decide +kernel
theorem dX10_fits_12 : decode cX10_fits 12 = .ok (.invokestatic 225, 3) := by decide +kernel
theorem dX10_fits_15 : decode cX10_fits 15 = .ok (.bipush 60, 2) := by decide +kernel
theorem dX10_fits_17 : decode cX10_fits 17 = .ok (.if_icmp .ge 7, 3) := by decide +kernel
theorem dX10_fits_20 : decode cX10_fits 20 = .ok (.iconst 1, 1) := by decide +kernel
theorem dX10_fits_21 : decode cX10_fits 21 = .ok (.goto 4, 3) := by decide +kernel
theorem dX10_fits_24 : decode cX10_fits 24 = .ok (.iconst 0, 1) := by decide +kernel
theorem dX10_fits_25 : decode cX10_fits 25 = .ok (.ireturn, 1) := by decide +kernel
theorem dX10_valueIn_0 : decode cX10_valueIn 0 = .ok (.aload_n 0, 1) := by decide +kernel
theorem dX10_valueIn_1 : decode cX10_valueIn 1 = .ok (.astore_n 2, 1) := by decide +kernel
theorem dX10_valueIn_2 : decode cX10_valueIn 2 = .ok (.iconst 0, 1) := by decide +kernel
theorem dX10_valueIn_3 : decode cX10_valueIn 3 = .ok (.istore_n 3, 1) := by decide +kernel
theorem dX10_valueIn_4 : decode cX10_valueIn 4 = .ok (.iload_n 3, 1) := by decide +kernel
theorem dX10_valueIn_5 : decode cX10_valueIn 5 = .ok (.bipush 12, 2) := by decide +kernel
theorem dX10_valueIn_7 : decode cX10_valueIn 7 = .ok (.if_icmp .ge 30, 3) := by decide +kernel
theorem dX10_valueIn_10 : decode cX10_valueIn 10 = .ok (.aload_n 2, 1) := by decide +kernel
theorem dX10_valueIn_11 : decode cX10_valueIn 11 = .ok (.ifnull 26, 3) := by decide +kernel
theorem dX10_valueIn_14 : decode cX10_valueIn 14 = .ok (.aload_n 2, 1) := by decide +kernel
theorem dX10_valueIn_15 : decode cX10_valueIn 15 = .ok (.invokevirtual 209, 3) := by decide +kernel
theorem dX10_valueIn_18 : decode cX10_valueIn 18 = .ok (.ifCond .ne 19, 3) := by decide +kernel
theorem dX10_valueIn_21 : decode cX10_valueIn 21 = .ok (.aload_n 2, 1) := by decide +kernel
theorem dX10_valueIn_22 : decode cX10_valueIn 22 = .ok (.aload_n 2, 1) := by decide +kernel
theorem dX10_valueIn_23 : decode cX10_valueIn 23 = .ok (.iload_n 1, 1) := by decide +kernel
theorem dX10_valueIn_24 : decode cX10_valueIn 24 = .ok (.invokevirtual 439, 3) := by decide +kernel
theorem dX10_valueIn_27 : decode cX10_valueIn 27 = .ok (.invokevirtual 442, 3) := by decide +kernel
theorem dX10_valueIn_30 : decode cX10_valueIn 30 = .ok (.astore_n 2, 1) := by decide +kernel
theorem dX10_valueIn_31 : decode cX10_valueIn 31 = .ok (.iinc 3 1, 3) := by decide +kernel
theorem dX10_valueIn_34 : decode cX10_valueIn 34 = .ok (.goto (-30), 3) := by decide +kernel
theorem dX10_valueIn_37 : decode cX10_valueIn 37 = .ok (.aload_n 2, 1) := by decide +kernel
theorem dX10_valueIn_38 : decode cX10_valueIn 38 = .ok (.ifnonnull 8, 3) := by decide +kernel
theorem dX10_valueIn_41 : decode cX10_valueIn 41 = .ok (.ldc 180, 2) := by decide +kernel
theorem dX10_valueIn_43 : decode cX10_valueIn 43 = .ok (.goto 8, 3) := by decide +kernel
theorem dX10_valueIn_46 : decode cX10_valueIn 46 = .ok (.aload_n 2, 1) := by decide +kernel
theorem dX10_valueIn_47 : decode cX10_valueIn 47 = .ok (.iload_n 1, 1) := by decide +kernel
theorem dX10_valueIn_48 : decode cX10_valueIn 48 = .ok (.invokevirtual 445, 3) := by decide +kernel
theorem dX10_valueIn_51 : decode cX10_valueIn 51 = .ok (.ireturn, 1) := by decide +kernel
theorem dX10_keysIn_0 : decode cX10_keysIn 0 = .ok (.aload_n 0, 1) := by decide +kernel
theorem dX10_keysIn_1 : decode cX10_keysIn 1 = .ok (.ifnull 9, 3) := by decide +kernel
theorem dX10_keysIn_4 : decode cX10_keysIn 4 = .ok (.iload_n 1, 1) := by decide +kernel
theorem dX10_keysIn_5 : decode cX10_keysIn 5 = .ok (.bipush 12, 2) := by decide +kernel
theorem dX10_keysIn_7 : decode cX10_keysIn 7 = .ok (.if_icmp .lt 5, 3) := by decide +kernel
theorem dX10_keysIn_10 : decode cX10_keysIn 10 = .ok (.iconst 0, 1) := by decide +kernel
theorem dX10_keysIn_11 : decode cX10_keysIn 11 = .ok (.ireturn, 1) := by decide +kernel
theorem dX10_keysIn_12 : decode cX10_keysIn 12 = .ok (.aload_n 0, 1) := by decide +kernel
theorem dX10_keysIn_13 : decode cX10_keysIn 13 = .ok (.invokevirtual 209, 3) := by decide +kernel
theorem dX10_keysIn_16 : decode cX10_keysIn 16 = .ok (.ifCond .eq 8, 3) := by decide +kernel
theorem dX10_keysIn_19 : decode cX10_keysIn 19 = .ok (.aload_n 0, 1) := by decide +kernel
theorem dX10_keysIn_20 : decode cX10_keysIn 20 = .ok (.invokevirtual 214, 3) := by decide +kernel
theorem dX10_keysIn_23 : decode cX10_keysIn 23 = .ok (.ireturn, 1) := by decide +kernel
theorem dX10_keysIn_24 : decode cX10_keysIn 24 = .ok (.iconst 0, 1) := by decide +kernel
theorem dX10_keysIn_25 : decode cX10_keysIn 25 = .ok (.istore_n 2, 1) := by decide +kernel
theorem dX10_keysIn_26 : decode cX10_keysIn 26 = .ok (.iconst 0, 1) := by decide +kernel
theorem dX10_keysIn_27 : decode cX10_keysIn 27 = .ok (.istore_n 3, 1) := by decide +kernel
theorem dX10_keysIn_28 : decode cX10_keysIn 28 = .ok (.iload_n 3, 1) := by decide +kernel
theorem dX10_keysIn_29 : decode cX10_keysIn 29 = .ok (.aload_n 0, 1) := by decide +kernel
theorem dX10_keysIn_30 : decode cX10_keysIn 30 = .ok (.invokevirtual 214, 3) := by decide +kernel
theorem dX10_keysIn_33 : decode cX10_keysIn 33 = .ok (.if_icmp .ge 23, 3) := by decide +kernel
theorem dX10_keysIn_36 : decode cX10_keysIn 36 = .ok (.iload_n 2, 1) := by decide +kernel
theorem dX10_keysIn_37 : decode cX10_keysIn 37 = .ok (.aload_n 0, 1) := by decide +kernel
theorem dX10_keysIn_38 : decode cX10_keysIn 38 = .ok (.iload_n 3, 1) := by decide +kernel
theorem dX10_keysIn_39 : decode cX10_keysIn 39 = .ok (.invokevirtual 442, 3) := by decide +kernel
theorem dX10_keysIn_42 : decode cX10_keysIn 42 = .ok (.iload_n 1, 1) := by decide +kernel
theorem dX10_keysIn_43 : decode cX10_keysIn 43 = .ok (.iconst 1, 1) := by decide +kernel
theorem dX10_keysIn_44 : decode cX10_keysIn 44 = .ok (.iadd, 1) := by decide +kernel
theorem dX10_keysIn_45 : decode cX10_keysIn 45 = .ok (.invokestatic 225, 3) := by decide +kernel
theorem dX10_keysIn_48 : decode cX10_keysIn 48 = .ok (.iadd, 1) := by decide +kernel
theorem dX10_keysIn_49 : decode cX10_keysIn 49 = .ok (.istore_n 2, 1) := by decide +kernel
theorem dX10_keysIn_50 : decode cX10_keysIn 50 = .ok (.iinc 3 1, 3) := by decide +kernel
theorem dX10_keysIn_53 : decode cX10_keysIn 53 = .ok (.goto (-25), 3) := by decide +kernel
theorem dX10_keysIn_56 : decode cX10_keysIn 56 = .ok (.iload_n 2, 1) := by decide +kernel
theorem dX10_keysIn_57 : decode cX10_keysIn 57 = .ok (.ireturn, 1) := by decide +kernel
theorem dX10_lowestAbove_0 : decode cX10_lowestAbove 0 = .ok (.aload_n 0, 1) := by decide +kernel
theorem dX10_lowestAbove_1 : decode cX10_lowestAbove 1 = .ok (.aload_n 0, 1) := by decide +kernel
theorem dX10_lowestAbove_2 : decode cX10_lowestAbove 2 = .ok (.iload_n 2, 1) := by decide +kernel
theorem dX10_lowestAbove_3 : decode cX10_lowestAbove 3 = .ok (.iconst 1, 1) := by decide +kernel
theorem dX10_lowestAbove_4 : decode cX10_lowestAbove 4 = .ok (.iadd, 1) := by decide +kernel
theorem dX10_lowestAbove_5 : decode cX10_lowestAbove 5 = .ok (.invokevirtual 199, 3) := by decide +kernel
theorem dX10_lowestAbove_8 : decode cX10_lowestAbove 8 = .ok (.invokevirtual 139, 3) := by decide +kernel
theorem dX10_lowestAbove_11 : decode cX10_lowestAbove 11 = .ok (.istore_n 3, 1) := by decide +kernel
theorem dX10_lowestAbove_12 : decode cX10_lowestAbove 12 = .ok (.aload_n 1, 1) := by decide +kernel
theorem dX10_lowestAbove_13 : decode cX10_lowestAbove 13 = .ok (.aload_n 1, 1) := by decide +kernel
theorem dX10_lowestAbove_14 : decode cX10_lowestAbove 14 = .ok (.iload_n 2, 1) := by decide +kernel
theorem dX10_lowestAbove_15 : decode cX10_lowestAbove 15 = .ok (.iconst 1, 1) := by decide +kernel
theorem dX10_lowestAbove_16 : decode cX10_lowestAbove 16 = .ok (.iadd, 1) := by decide +kernel
theorem dX10_lowestAbove_17 : decode cX10_lowestAbove 17 = .ok (.invokevirtual 199, 3) := by decide +kernel
theorem dX10_lowestAbove_20 : decode cX10_lowestAbove 20 = .ok (.invokevirtual 139, 3) := by decide +kernel
theorem dX10_lowestAbove_23 : decode cX10_lowestAbove 23 = .ok (.istore 4, 2) := by decide +kernel
theorem dX10_lowestAbove_25 : decode cX10_lowestAbove 25 = .ok (.iload_n 3, 1) := by decide +kernel
theorem dX10_lowestAbove_26 : decode cX10_lowestAbove 26 = .ok (.iconst (-1), 1) := by decide +kernel
theorem dX10_lowestAbove_27 : decode cX10_lowestAbove 27 = .ok (.if_icmp .eq 9, 3) := by decide +kernel
theorem dX10_lowestAbove_30 : decode cX10_lowestAbove 30 = .ok (.iload 4, 2) := by decide +kernel
theorem dX10_lowestAbove_32 : decode cX10_lowestAbove 32 = .ok (.iconst (-1), 1) := by decide +kernel
theorem dX10_lowestAbove_33 : decode cX10_lowestAbove 33 = .ok (.if_icmp .ne 10, 3) := by decide +kernel
theorem dX10_lowestAbove_36 : decode cX10_lowestAbove 36 = .ok (.iload_n 3, 1) := by decide +kernel
theorem dX10_lowestAbove_37 : decode cX10_lowestAbove 37 = .ok (.iload 4, 2) := by decide +kernel
theorem dX10_lowestAbove_39 : decode cX10_lowestAbove 39 = .ok (.invokestatic 270, 3) := by decide +kernel
theorem dX10_lowestAbove_42 : decode cX10_lowestAbove 42 = .ok (.ireturn, 1) := by decide +kernel
theorem dX10_lowestAbove_43 : decode cX10_lowestAbove 43 = .ok (.iload_n 3, 1) := by decide +kernel
theorem dX10_lowestAbove_44 : decode cX10_lowestAbove 44 = .ok (.iload 4, 2) := by decide +kernel
theorem dX10_lowestAbove_46 : decode cX10_lowestAbove 46 = .ok (.invokestatic 436, 3) := by decide +kernel
theorem dX10_lowestAbove_49 : decode cX10_lowestAbove 49 = .ok (.ireturn, 1) := by decide +kernel
