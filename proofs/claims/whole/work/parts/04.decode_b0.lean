theorem dX10_init_0 : decode cX10_init 0 = .ok (.aload_n 0, 1) := by decide +kernel
theorem dX10_init_1 : decode cX10_init 1 = .ok (.invokespecial 1, 3) := by decide +kernel
theorem dX10_init_4 : decode cX10_init 4 = .ok (.aload_n 0, 1) := by decide +kernel
theorem dX10_init_5 : decode cX10_init 5 = .ok (.new 7, 3) := by decide +kernel
theorem dX10_init_8 : decode cX10_init 8 = .ok (.dup, 1) := by decide +kernel
theorem dX10_init_9 : decode cX10_init 9 = .ok (.invokespecial 9, 3) := by decide +kernel
theorem dX10_init_12 : decode cX10_init 12 = .ok (.putfield 10, 3) := by decide +kernel
theorem dX10_init_15 : decode cX10_init 15 = .ok (.aload_n 0, 1) := by decide +kernel
theorem dX10_init_16 : decode cX10_init 16 = .ok (.new 16, 3) := by decide +kernel
theorem dX10_init_19 : decode cX10_init 19 = .ok (.dup, 1) := by decide +kernel
theorem dX10_init_20 : decode cX10_init 20 = .ok (.aload_n 0, 1) := by decide +kernel
theorem dX10_init_21 : decode cX10_init 21 = .ok (.getfield 10, 3) := by decide +kernel
theorem dX10_init_24 : decode cX10_init 24 = .ok (.invokespecial 18, 3) := by decide +kernel
theorem dX10_init_27 : decode cX10_init 27 = .ok (.putfield 21, 3) := by decide +kernel
theorem dX10_init_30 : decode cX10_init 30 = .ok (.aload_n 0, 1) := by decide +kernel
theorem dX10_init_31 : decode cX10_init 31 = .ok (.iconst 4, 1) := by decide +kernel
theorem dX10_init_32 : decode cX10_init 32 = .ok (.anewarray 25, 3) := by decide +kernel
theorem dX10_init_35 : decode cX10_init 35 = .ok (.putfield 27, 3) := by decide +kernel
theorem dX10_init_38 : decode cX10_init 38 = .ok (.aload_n 0, 1) := by decide +kernel
theorem dX10_init_39 : decode cX10_init 39 = .ok (.new 25, 3) := by decide +kernel
theorem dX10_init_42 : decode cX10_init 42 = .ok (.dup, 1) := by decide +kernel
theorem dX10_init_43 : decode cX10_init 43 = .ok (.invokespecial 31, 3) := by decide +kernel
theorem dX10_init_46 : decode cX10_init 46 = .ok (.putfield 32, 3) := by decide +kernel
theorem dX10_init_49 : decode cX10_init 49 = .ok (.aload_n 0, 1) := by decide +kernel
theorem dX10_init_50 : decode cX10_init 50 = .ok (.new 36, 3) := by decide +kernel
theorem dX10_init_53 : decode cX10_init 53 = .ok (.dup, 1) := by decide +kernel
theorem dX10_init_54 : decode cX10_init 54 = .ok (.invokespecial 38, 3) := by decide +kernel
theorem dX10_init_57 : decode cX10_init 57 = .ok (.putfield 39, 3) := by decide +kernel
theorem dX10_init_60 : decode cX10_init 60 = .ok (.aload_n 0, 1) := by decide +kernel
theorem dX10_init_61 : decode cX10_init 61 = .ok (.new 43, 3) := by decide +kernel
theorem dX10_init_64 : decode cX10_init 64 = .ok (.dup, 1) := by decide +kernel
theorem dX10_init_65 : decode cX10_init 65 = .ok (.invokespecial 45, 3) := by decide +kernel
theorem dX10_init_68 : decode cX10_init 68 = .ok (.putfield 46, 3) := by decide +kernel
theorem dX10_init_71 : decode cX10_init 71 = .ok (.aload_n 0, 1) := by decide +kernel
theorem dX10_init_72 : decode cX10_init 72 = .ok (.iconst 4, 1) := by decide +kernel
theorem dX10_init_73 : decode cX10_init 73 = .ok (.anewarray 50, 3) := by decide +kernel
theorem dX10_init_76 : decode cX10_init 76 = .ok (.putfield 52, 3) := by decide +kernel
theorem dX10_init_79 : decode cX10_init 79 = .ok (.iconst 0, 1) := by decide +kernel
theorem dX10_init_80 : decode cX10_init 80 = .ok (.istore_n 1, 1) := by decide +kernel
theorem dX10_init_81 : decode cX10_init 81 = .ok (.iload_n 1, 1) := by decide +kernel
theorem dX10_init_82 : decode cX10_init 82 = .ok (.aload_n 0, 1) := by decide +kernel
theorem dX10_init_83 : decode cX10_init 83 = .ok (.getfield 52, 3) := by decide +kernel
theorem dX10_init_86 : decode cX10_init 86 = .ok (.arraylength, 1) := by decide +kernel
theorem dX10_init_87 : decode cX10_init 87 = .ok (.if_icmp .ge 22, 3) := by decide +kernel
theorem dX10_init_90 : decode cX10_init 90 = .ok (.aload_n 0, 1) := by decide +kernel
theorem dX10_init_91 : decode cX10_init 91 = .ok (.getfield 52, 3) := by decide +kernel
theorem dX10_init_94 : decode cX10_init 94 = .ok (.iload_n 1, 1) := by decide +kernel
theorem dX10_init_95 : decode cX10_init 95 = .ok (.new 50, 3) := by decide +kernel
theorem dX10_init_98 : decode cX10_init 98 = .ok (.dup, 1) := by decide +kernel
theorem dX10_init_99 : decode cX10_init 99 = .ok (.invokespecial 56, 3) := by decide +kernel
theorem dX10_init_102 : decode cX10_init 102 = .ok (.aastore, 1) := by decide +kernel
theorem dX10_init_103 : decode cX10_init 103 = .ok (.iinc 1 1, 3) := by decide +kernel
theorem dX10_init_106 : decode cX10_init 106 = .ok (.goto (-25), 3) := by decide +kernel
theorem dX10_init_109 : decode cX10_init 109 = .ok (.aload_n 0, 1) := by decide +kernel
theorem dX10_init_110 : decode cX10_init 110 = .ok (.iconst 5, 1) := by decide +kernel
theorem dX10_init_111 : decode cX10_init 111 = .ok (.newarray .int, 2) := by decide +kernel
theorem dX10_init_113 : decode cX10_init 113 = .ok (.putfield 57, 3) := by decide +kernel
theorem dX10_init_116 : decode cX10_init 116 = .ok (.aload_n 0, 1) := by decide +kernel
theorem dX10_init_117 : decode cX10_init 117 = .ok (.new 61, 3) := by decide +kernel
theorem dX10_init_120 : decode cX10_init 120 = .ok (.dup, 1) := by decide +kernel
theorem dX10_init_121 : decode cX10_init 121 = .ok (.invokespecial 63, 3) := by decide +kernel
theorem dX10_init_124 : decode cX10_init 124 = .ok (.putfield 64, 3) := by decide +kernel
theorem dX10_init_127 : decode cX10_init 127 = .ok (.aload_n 0, 1) := by decide +kernel
theorem dX10_init_128 : decode cX10_init 128 = .ok (.new 61, 3) := by decide +kernel
theorem dX10_init_131 : decode cX10_init 131 = .ok (.dup, 1) := by decide +kernel
theorem dX10_init_132 : decode cX10_init 132 = .ok (.invokespecial 63, 3) := by decide +kernel
theorem dX10_init_135 : decode cX10_init 135 = .ok (.putfield 68, 3) := by decide +kernel
theorem dX10_init_138 : decode cX10_init 138 = .ok (.aload_n 0, 1) := by decide +kernel
theorem dX10_init_139 : decode cX10_init 139 = .ok (.new 61, 3) := by decide +kernel
theorem dX10_init_142 : decode cX10_init 142 = .ok (.dup, 1) := by decide +kernel
theorem dX10_init_143 : decode cX10_init 143 = .ok (.invokespecial 63, 3) := by decide +kernel
theorem dX10_init_146 : decode cX10_init 146 = .ok (.putfield 71, 3) := by decide +kernel
theorem dX10_init_149 : decode cX10_init 149 = .ok (.aload_n 0, 1) := by decide +kernel
theorem dX10_init_150 : decode cX10_init 150 = .ok (.new 74, 3) := by decide +kernel
theorem dX10_init_153 : decode cX10_init 153 = .ok (.dup, 1) := by decide +kernel
theorem dX10_init_154 : decode cX10_init 154 = .ok (.invokespecial 76, 3) := by decide +kernel
theorem dX10_init_157 : decode cX10_init 157 = .ok (.putfield 77, 3) := by decide +kernel
theorem dX10_init_160 : decode cX10_init 160 = .ok (.aload_n 0, 1) := by decide +kernel
theorem dX10_init_161 : decode cX10_init 161 = .ok (.new 74, 3) := by decide +kernel
theorem dX10_init_164 : decode cX10_init 164 = .ok (.dup, 1) := by decide +kernel
theorem dX10_init_165 : decode cX10_init 165 = .ok (.invokespecial 76, 3) := by decide +kernel
theorem dX10_init_168 : decode cX10_init 168 = .ok (.putfield 81, 3) := by decide +kernel
theorem dX10_init_171 : decode cX10_init 171 = .ok (.aload_n 0, 1) := by decide +kernel
theorem dX10_init_172 : decode cX10_init 172 = .ok (.new 74, 3) := by decide +kernel
theorem dX10_init_175 : decode cX10_init 175 = .ok (.dup, 1) := by decide +kernel
theorem dX10_init_176 : decode cX10_init 176 = .ok (.invokespecial 76, 3) := by decide +kernel
theorem dX10_init_179 : decode cX10_init 179 = .ok (.putfield 84, 3) := by decide +kernel
theorem dX10_init_182 : decode cX10_init 182 = .ok (.aload_n 0, 1) := by decide +kernel
theorem dX10_init_183 : decode cX10_init 183 = .ok (.new 87, 3) := by decide +kernel
theorem dX10_init_186 : decode cX10_init 186 = .ok (.dup, 1) := by decide +kernel
theorem dX10_init_187 : decode cX10_init 187 = .ok (.invokespecial 89, 3) := by decide +kernel
theorem dX10_init_190 : decode cX10_init 190 = .ok (.putfield 90, 3) := by decide +kernel
theorem dX10_init_193 : decode cX10_init 193 = .ok (.return_, 1) := by decide +kernel
theorem dX10_feed_0 : decode cX10_feed 0 = .ok (.iload_n 1, 1) := by decide +kernel
theorem dX10_feed_1 : decode cX10_feed 1 = .ok (.invokestatic 94, 3) := by decide +kernel
theorem dX10_feed_4 : decode cX10_feed 4 = .ok (.iload_n 2, 1) := by decide +kernel
theorem dX10_feed_5 : decode cX10_feed 5 = .ok (.invokestatic 94, 3) := by decide +kernel
theorem dX10_feed_8 : decode cX10_feed 8 = .ok (.iadd, 1) := by decide +kernel
theorem dX10_feed_9 : decode cX10_feed 9 = .ok (.iload_n 3, 1) := by decide +kernel
theorem dX10_feed_10 : decode cX10_feed 10 = .ok (.invokestatic 94, 3) := by decide +kernel
theorem dX10_feed_13 : decode cX10_feed 13 = .ok (.iadd, 1) := by decide +kernel
theorem dX10_feed_14 : decode cX10_feed 14 = .ok (.iload 4, 2) := by decide +kernel
theorem dX10_feed_16 : decode cX10_feed 16 = .ok (.invokestatic 94, 3) := by decide +kernel
theorem dX10_feed_19 : decode cX10_feed 19 = .ok (.iadd, 1) := by decide +kernel
theorem dX10_feed_20 : decode cX10_feed 20 = .ok (.iload 5, 2) := by decide +kernel
theorem dX10_feed_22 : decode cX10_feed 22 = .ok (.invokestatic 94, 3) := by decide +kernel
theorem dX10_feed_25 : decode cX10_feed 25 = .ok (.iadd, 1) := by decide +kernel
theorem dX10_feed_26 : decode cX10_feed 26 = .ok (.istore 6, 2) := by decide +kernel
theorem dX10_feed_28 : decode cX10_feed 28 = .ok (.aload_n 0, 1) := by decide +kernel
theorem dX10_feed_29 : decode cX10_feed 29 = .ok (.getfield 10, 3) := by decide +kernel
theorem dX10_feed_32 : decode cX10_feed 32 = .ok (.invokevirtual 98, 3) := by decide +kernel
theorem dX10_feed_35 : decode cX10_feed 35 = .ok (.iload 6, 2) := by decide +kernel
theorem dX10_feed_37 : decode cX10_feed 37 = .ok (.iadd, 1) := by decide +kernel
theorem dX10_feed_38 : decode cX10_feed 38 = .ok (.sipush 240, 3) := by decide +kernel
theorem dX10_feed_41 : decode cX10_feed 41 = .ok (.if_icmp .le 5, 3) := by decide +kernel
theorem dX10_feed_44 : decode cX10_feed 44 = .ok (.iconst (-1), 1) := by decide +kernel
theorem dX10_feed_45 : decode cX10_feed 45 = .ok (.ireturn, 1) := by decide +kernel
theorem dX10_feed_46 : decode cX10_feed 46 = .ok (.aload_n 0, 1) := by decide +kernel
theorem dX10_feed_47 : decode cX10_feed 47 = .ok (.getfield 10, 3) := by decide +kernel
theorem dX10_feed_50 : decode cX10_feed 50 = .ok (.iload_n 1, 1) := by decide +kernel
theorem dX10_feed_51 : decode cX10_feed 51 = .ok (.invokevirtual 102, 3) := by decide +kernel
theorem dX10_feed_54 : decode cX10_feed 54 = .ok (.aload_n 0, 1) := by decide +kernel
theorem dX10_feed_55 : decode cX10_feed 55 = .ok (.getfield 10, 3) := by decide +kernel
theorem dX10_feed_58 : decode cX10_feed 58 = .ok (.iload_n 2, 1) := by decide +kernel
theorem dX10_feed_59 : decode cX10_feed 59 = .ok (.invokevirtual 102, 3) := by decide +kernel
theorem dX10_feed_62 : decode cX10_feed 62 = .ok (.aload_n 0, 1) := by decide +kernel
theorem dX10_feed_63 : decode cX10_feed 63 = .ok (.getfield 10, 3) := by decide +kernel
theorem dX10_feed_66 : decode cX10_feed 66 = .ok (.iload_n 3, 1) := by decide +kernel
theorem dX10_feed_67 : decode cX10_feed 67 = .ok (.invokevirtual 102, 3) := by decide +kernel
theorem dX10_feed_70 : decode cX10_feed 70 = .ok (.aload_n 0, 1) := by decide +kernel
theorem dX10_feed_71 : decode cX10_feed 71 = .ok (.getfield 10, 3) := by decide +kernel
theorem dX10_feed_74 : decode cX10_feed 74 = .ok (.iload 4, 2) := by decide +kernel
theorem dX10_feed_76 : decode cX10_feed 76 = .ok (.invokevirtual 102, 3) := by decide +kernel
theorem dX10_feed_79 : decode cX10_feed 79 = .ok (.aload_n 0, 1) := by decide +kernel
theorem dX10_feed_80 : decode cX10_feed 80 = .ok (.getfield 10, 3) := by decide +kernel
theorem dX10_feed_83 : decode cX10_feed 83 = .ok (.iload 5, 2) := by decide +kernel
theorem dX10_feed_85 : decode cX10_feed 85 = .ok (.invokevirtual 102, 3) := by decide +kernel
theorem dX10_feed_88 : decode cX10_feed 88 = .ok (.aload_n 0, 1) := by decide +kernel
theorem dX10_feed_89 : decode cX10_feed 89 = .ok (.getfield 10, 3) := by decide +kernel
theorem dX10_feed_92 : decode cX10_feed 92 = .ok (.invokevirtual 98, 3) := by decide +kernel
theorem dX10_feed_95 : decode cX10_feed 95 = .ok (.ireturn, 1) := by decide +kernel
theorem dX10_end_0 : decode cX10_end 0 = .ok (.aload_n 0, 1) := by decide +kernel
theorem dX10_end_1 : decode cX10_end 1 = .ok (.getfield 10, 3) := by decide +kernel
theorem dX10_end_4 : decode cX10_end 4 = .ok (.iload_n 1, 1) := by decide +kernel
theorem dX10_end_5 : decode cX10_end 5 = .ok (.invokevirtual 106, 3) := by decide +kernel
theorem dX10_end_8 : decode cX10_end 8 = .ok (.ireturn, 1) := by decide +kernel
theorem dX10_fault_0 : decode cX10_fault 0 = .ok (.iload_n 1, 1) := by decide +kernel
theorem dX10_fault_1 : decode cX10_fault 1 = .ok (.ifCond .ne 15, 3) := by decide +kernel
theorem dX10_fault_4 : decode cX10_fault 4 = .ok (.aload_n 0, 1) := by decide +kernel
theorem dX10_fault_5 : decode cX10_fault 5 = .ok (.getfield 21, 3) := by decide +kernel
theorem dX10_fault_8 : decode cX10_fault 8 = .ok (.aload_n 0, 1) := by decide +kernel
theorem dX10_fault_9 : decode cX10_fault 9 = .ok (.getfield 77, 3) := by decide +kernel
theorem dX10_fault_12 : decode cX10_fault 12 = .ok (.invokevirtual 110, 3) := by decide +kernel
theorem dX10_fault_15 : decode cX10_fault 15 = .ok (.ireturn, 1) := by decide +kernel
theorem dX10_fault_16 : decode cX10_fault 16 = .ok (.iload_n 1, 1) := by decide +kernel
theorem dX10_fault_17 : decode cX10_fault 17 = .ok (.iconst 1, 1) := by decide +kernel
theorem dX10_fault_18 : decode cX10_fault 18 = .ok (.if_icmp .ne 15, 3) := by decide +kernel
theorem dX10_fault_21 : decode cX10_fault 21 = .ok (.aload_n 0, 1) := by decide +kernel
theorem dX10_fault_22 : decode cX10_fault 22 = .ok (.getfield 21, 3) := by decide +kernel
theorem dX10_fault_25 : decode cX10_fault 25 = .ok (.aload_n 0, 1) := by decide +kernel
theorem dX10_fault_26 : decode cX10_fault 26 = .ok (.getfield 32, 3) := by decide +kernel
theorem dX10_fault_29 : decode cX10_fault 29 = .ok (.invokevirtual 114, 3) := by decide +kernel
theorem dX10_fault_32 : decode cX10_fault 32 = .ok (.ireturn, 1) := by decide +kernel
theorem dX10_fault_33 : decode cX10_fault 33 = .ok (.bipush (-2), 2) := by decide +kernel
theorem dX10_fault_35 : decode cX10_fault 35 = .ok (.ireturn, 1) := by decide +kernel
theorem dX10_text_0 : decode cX10_text 0 = .ok (.iload_n 1, 1) := by decide +kernel
theorem dX10_text_1 : decode cX10_text 1 = .ok (.ifCond .ne 8, 3) := by decide +kernel
theorem dX10_text_4 : decode cX10_text 4 = .ok (.aload_n 0, 1) := by decide +kernel
theorem dX10_text_5 : decode cX10_text 5 = .ok (.invokevirtual 118, 3) := by decide +kernel
theorem dX10_text_8 : decode cX10_text 8 = .ok (.ireturn, 1) := by decide +kernel
theorem dX10_text_9 : decode cX10_text 9 = .ok (.iload_n 1, 1) := by decide +kernel
theorem dX10_text_10 : decode cX10_text 10 = .ok (.iconst 1, 1) := by decide +kernel
theorem dX10_text_11 : decode cX10_text 11 = .ok (.if_icmp .ne 8, 3) := by decide +kernel
theorem dX10_text_14 : decode cX10_text 14 = .ok (.aload_n 0, 1) := by decide +kernel
theorem dX10_text_15 : decode cX10_text 15 = .ok (.invokevirtual 121, 3) := by decide +kernel
theorem dX10_text_18 : decode cX10_text 18 = .ok (.ireturn, 1) := by decide +kernel
theorem dX10_text_19 : decode cX10_text 19 = .ok (.iconst (-1), 1) := by decide +kernel
theorem dX10_text_20 : decode cX10_text 20 = .ok (.ireturn, 1) := by decide +kernel
theorem dX10_mapTold_0 : decode cX10_mapTold 0 = .ok (.aload_n 0, 1) := by decide +kernel
theorem dX10_mapTold_1 : decode cX10_mapTold 1 = .ok (.getfield 21, 3) := by decide +kernel
theorem dX10_mapTold_4 : decode cX10_mapTold 4 = .ok (.aload_n 0, 1) := by decide +kernel
theorem dX10_mapTold_5 : decode cX10_mapTold 5 = .ok (.getfield 77, 3) := by decide +kernel
theorem dX10_mapTold_8 : decode cX10_mapTold 8 = .ok (.invokevirtual 110, 3) := by decide +kernel
theorem dX10_mapTold_11 : decode cX10_mapTold 11 = .ok (.iconst (-1), 1) := by decide +kernel
theorem dX10_mapTold_12 : decode cX10_mapTold 12 = .ok (.if_icmp .eq 5, 3) := by decide +kernel
theorem dX10_mapTold_15 : decode cX10_mapTold 15 = .ok (.iconst (-1), 1) := by decide +kernel
theorem dX10_mapTold_16 : decode cX10_mapTold 16 = .ok (.ireturn, 1) := by decide +kernel
theorem dX10_mapTold_17 : decode cX10_mapTold 17 = .ok (.aload_n 0, 1) := by decide +kernel
theorem dX10_mapTold_18 : decode cX10_mapTold 18 = .ok (.getfield 46, 3) := by decide +kernel
theorem dX10_mapTold_21 : decode cX10_mapTold 21 = .ok (.invokevirtual 124, 3) := by decide +kernel
theorem dX10_mapTold_24 : decode cX10_mapTold 24 = .ok (.ifCond .ne 9, 3) := by decide +kernel
theorem dX10_mapTold_27 : decode cX10_mapTold 27 = .ok (.aload_n 0, 1) := by decide +kernel
theorem dX10_mapTold_28 : decode cX10_mapTold 28 = .ok (.iconst 4, 1) := by decide +kernel
theorem dX10_mapTold_29 : decode cX10_mapTold 29 = .ok (.invokevirtual 128, 3) := by decide +kernel
theorem dX10_mapTold_32 : decode cX10_mapTold 32 = .ok (.ireturn, 1) := by decide +kernel
theorem dX10_mapTold_33 : decode cX10_mapTold 33 = .ok (.aload_n 0, 1) := by decide +kernel
theorem dX10_mapTold_34 : decode cX10_mapTold 34 = .ok (.getfield 39, 3) := by decide +kernel
theorem dX10_mapTold_37 : decode cX10_mapTold 37 = .ok (.invokevirtual 131, 3) := by decide +kernel
theorem dX10_mapTold_40 : decode cX10_mapTold 40 = .ok (.istore_n 1, 1) := by decide +kernel
theorem dX10_mapTold_41 : decode cX10_mapTold 41 = .ok (.aload_n 0, 1) := by decide +kernel
theorem dX10_mapTold_42 : decode cX10_mapTold 42 = .ok (.getfield 39, 3) := by decide +kernel
theorem dX10_mapTold_45 : decode cX10_mapTold 45 = .ok (.iconst 1, 1) := by decide +kernel
theorem dX10_mapTold_46 : decode cX10_mapTold 46 = .ok (.iload_n 1, 1) := by decide +kernel
theorem dX10_mapTold_47 : decode cX10_mapTold 47 = .ok (.invokevirtual 134, 3) := by decide +kernel
theorem dX10_mapTold_50 : decode cX10_mapTold 50 = .ok (.astore_n 2, 1) := by decide +kernel
theorem dX10_mapTold_51 : decode cX10_mapTold 51 = .ok (.iconst 0, 1) := by decide +kernel
theorem dX10_mapTold_52 : decode cX10_mapTold 52 = .ok (.istore_n 3, 1) := by decide +kernel
theorem dX10_mapTold_53 : decode cX10_mapTold 53 = .ok (.iload_n 3, 1) := by decide +kernel
theorem dX10_mapTold_54 : decode cX10_mapTold 54 = .ok (.aload_n 0, 1) := by decide +kernel
theorem dX10_mapTold_55 : decode cX10_mapTold 55 = .ok (.getfield 77, 3) := by decide +kernel
theorem dX10_mapTold_58 : decode cX10_mapTold 58 = .ok (.invokevirtual 138, 3) := by decide +kernel
theorem dX10_mapTold_61 : decode cX10_mapTold 61 = .ok (.if_icmp .ge 35, 3) := by decide +kernel
theorem dX10_mapTold_64 : decode cX10_mapTold 64 = .ok (.aload_n 0, 1) := by decide +kernel
theorem dX10_mapTold_65 : decode cX10_mapTold 65 = .ok (.getfield 39, 3) := by decide +kernel
theorem dX10_mapTold_68 : decode cX10_mapTold 68 = .ok (.aload_n 2, 1) := by decide +kernel
theorem dX10_mapTold_69 : decode cX10_mapTold 69 = .ok (.iload_n 1, 1) := by decide +kernel
theorem dX10_mapTold_70 : decode cX10_mapTold 70 = .ok (.aload_n 0, 1) := by decide +kernel
theorem dX10_mapTold_71 : decode cX10_mapTold 71 = .ok (.getfield 77, 3) := by decide +kernel
theorem dX10_mapTold_74 : decode cX10_mapTold 74 = .ok (.iload_n 3, 1) := by decide +kernel
theorem dX10_mapTold_75 : decode cX10_mapTold 75 = .ok (.invokevirtual 139, 3) := by decide +kernel
theorem dX10_mapTold_78 : decode cX10_mapTold 78 = .ok (.aload_n 0, 1) := by decide +kernel
theorem dX10_mapTold_79 : decode cX10_mapTold 79 = .ok (.getfield 77, 3) := by decide +kernel
theorem dX10_mapTold_82 : decode cX10_mapTold 82 = .ok (.iload_n 3, 1) := by decide +kernel
theorem dX10_mapTold_83 : decode cX10_mapTold 83 = .ok (.invokevirtual 142, 3) := by decide +kernel
theorem dX10_mapTold_86 : decode cX10_mapTold 86 = .ok (.invokevirtual 145, 3) := by decide +kernel
theorem dX10_mapTold_89 : decode cX10_mapTold 89 = .ok (.astore_n 2, 1) := by decide +kernel
theorem dX10_mapTold_90 : decode cX10_mapTold 90 = .ok (.iinc 3 1, 3) := by decide +kernel
theorem dX10_mapTold_93 : decode cX10_mapTold 93 = .ok (.goto (-40), 3) := by decide +kernel
theorem dX10_mapTold_96 : decode cX10_mapTold 96 = .ok (.aload_n 0, 1) := by decide +kernel
theorem dX10_mapTold_97 : decode cX10_mapTold 97 = .ok (.getfield 10, 3) := by decide +kernel
theorem dX10_mapTold_100 : decode cX10_mapTold 100 = .ok (.iconst 0, 1) := by decide +kernel
theorem dX10_mapTold_101 : decode cX10_mapTold 101 = .ok (.invokevirtual 106, 3) := by decide +kernel
theorem dX10_mapTold_104 : decode cX10_mapTold 104 = .ok (.pop, 1) := by decide +kernel
theorem dX10_mapTold_105 : decode cX10_mapTold 105 = .ok (.aload_n 0, 1) := by decide +kernel
theorem dX10_mapTold_106 : decode cX10_mapTold 106 = .ok (.getfield 46, 3) := by decide +kernel
theorem dX10_mapTold_109 : decode cX10_mapTold 109 = .ok (.aload_n 2, 1) := by decide +kernel
theorem dX10_mapTold_110 : decode cX10_mapTold 110 = .ok (.iconst (-1), 1) := by decide +kernel
theorem dX10_mapTold_111 : decode cX10_mapTold 111 = .ok (.iconst (-1), 1) := by decide +kernel
theorem dX10_mapTold_112 : decode cX10_mapTold 112 = .ok (.invokevirtual 149, 3) := by decide +kernel
theorem dX10_mapTold_115 : decode cX10_mapTold 115 = .ok (.ireturn, 1) := by decide +kernel
theorem dX10_programTold_0 : decode cX10_programTold 0 = .ok (.aload_n 0, 1) := by decide +kernel
theorem dX10_programTold_1 : decode cX10_programTold 1 = .ok (.getfield 21, 3) := by decide +kernel
theorem dX10_programTold_4 : decode cX10_programTold 4 = .ok (.aload_n 0, 1) := by decide +kernel
theorem dX10_programTold_5 : decode cX10_programTold 5 = .ok (.getfield 32, 3) := by decide +kernel
theorem dX10_programTold_8 : decode cX10_programTold 8 = .ok (.invokevirtual 114, 3) := by decide +kernel
theorem dX10_programTold_11 : decode cX10_programTold 11 = .ok (.iconst (-1), 1) := by decide +kernel
theorem dX10_programTold_12 : decode cX10_programTold 12 = .ok (.if_icmp .ne 22, 3) := by decide +kernel
theorem dX10_programTold_15 : decode cX10_programTold 15 = .ok (.aload_n 0, 1) := by decide +kernel
theorem dX10_programTold_16 : decode cX10_programTold 16 = .ok (.getfield 153, 3) := by decide +kernel
theorem dX10_programTold_19 : decode cX10_programTold 19 = .ok (.ifCond .lt 15, 3) := by decide +kernel
theorem dX10_programTold_22 : decode cX10_programTold 22 = .ok (.aload_n 0, 1) := by decide +kernel
theorem dX10_programTold_23 : decode cX10_programTold 23 = .ok (.getfield 153, 3) := by decide +kernel
theorem dX10_programTold_26 : decode cX10_programTold 26 = .ok (.aload_n 0, 1) := by decide +kernel
theorem dX10_programTold_27 : decode cX10_programTold 27 = .ok (.getfield 27, 3) := by decide +kernel
theorem dX10_programTold_30 : decode cX10_programTold 30 = .ok (.arraylength, 1) := by decide +kernel
theorem dX10_programTold_31 : decode cX10_programTold 31 = .ok (.if_icmp .lt 5, 3) := by decide +kernel
theorem dX10_programTold_34 : decode cX10_programTold 34 = .ok (.iconst (-1), 1) := by decide +kernel
theorem dX10_programTold_35 : decode cX10_programTold 35 = .ok (.ireturn, 1) := by decide +kernel
theorem dX10_programTold_36 : decode cX10_programTold 36 = .ok (.aload_n 0, 1) := by decide +kernel
theorem dX10_programTold_37 : decode cX10_programTold 37 = .ok (.getfield 27, 3) := by decide +kernel
theorem dX10_programTold_40 : decode cX10_programTold 40 = .ok (.aload_n 0, 1) := by decide +kernel
theorem dX10_programTold_41 : decode cX10_programTold 41 = .ok (.getfield 153, 3) := by decide +kernel
theorem dX10_programTold_44 : decode cX10_programTold 44 = .ok (.aload_n 0, 1) := by decide +kernel
theorem dX10_programTold_45 : decode cX10_programTold 45 = .ok (.getfield 32, 3) := by decide +kernel
theorem dX10_programTold_48 : decode cX10_programTold 48 = .ok (.aastore, 1) := by decide +kernel
theorem dX10_programTold_49 : decode cX10_programTold 49 = .ok (.aload_n 0, 1) := by decide +kernel
theorem dX10_programTold_50 : decode cX10_programTold 50 = .ok (.new 25, 3) := by decide +kernel
theorem dX10_programTold_53 : decode cX10_programTold 53 = .ok (.dup, 1) := by decide +kernel
theorem dX10_programTold_54 : decode cX10_programTold 54 = .ok (.invokespecial 31, 3) := by decide +kernel
theorem dX10_programTold_57 : decode cX10_programTold 57 = .ok (.putfield 32, 3) := by decide +kernel
theorem dX10_programTold_60 : decode cX10_programTold 60 = .ok (.aload_n 0, 1) := by decide +kernel
theorem dX10_programTold_61 : decode cX10_programTold 61 = .ok (.getfield 10, 3) := by decide +kernel
theorem dX10_programTold_64 : decode cX10_programTold 64 = .ok (.iconst 0, 1) := by decide +kernel
theorem dX10_programTold_65 : decode cX10_programTold 65 = .ok (.invokevirtual 106, 3) := by decide +kernel
theorem dX10_programTold_68 : decode cX10_programTold 68 = .ok (.pop, 1) := by decide +kernel
theorem dX10_programTold_69 : decode cX10_programTold 69 = .ok (.aload_n 0, 1) := by decide +kernel
theorem dX10_programTold_70 : decode cX10_programTold 70 = .ok (.dup, 1) := by decide +kernel
theorem dX10_programTold_71 : decode cX10_programTold 71 = .ok (.getfield 153, 3) := by decide +kernel
theorem dX10_programTold_74 : decode cX10_programTold 74 = .ok (.dup_x1, 1) := by decide +kernel
theorem dX10_programTold_75 : decode cX10_programTold 75 = .ok (.iconst 1, 1) := by decide +kernel
theorem dX10_programTold_76 : decode cX10_programTold 76 = .ok (.iadd, 1) := by decide +kernel
theorem dX10_programTold_77 : decode cX10_programTold 77 = .ok (.putfield 153, 3) := by decide +kernel
theorem dX10_programTold_80 : decode cX10_programTold 80 = .ok (.ireturn, 1) := by decide +kernel
theorem dX10_wide_0 : decode cX10_wide 0 = .ok (.iload_n 1, 1) := by decide +kernel
theorem dX10_wide_1 : decode cX10_wide 1 = .ok (.iconst 3, 1) := by decide +kernel
theorem dX10_wide_2 : decode cX10_wide 2 = .ok (.if_icmp .lt 9, 3) := by decide +kernel
theorem dX10_wide_5 : decode cX10_wide 5 = .ok (.iload_n 1, 1) := by decide +kernel
theorem dX10_wide_6 : decode cX10_wide 6 = .ok (.bipush 6, 2) := by decide +kernel
theorem dX10_wide_8 : decode cX10_wide 8 = .ok (.if_icmp .le 9, 3) := by decide +kernel
theorem dX10_wide_11 : decode cX10_wide 11 = .ok (.aload_n 0, 1) := by decide +kernel
theorem dX10_wide_12 : decode cX10_wide 12 = .ok (.iconst 1, 1) := by decide +kernel
theorem dX10_wide_13 : decode cX10_wide 13 = .ok (.invokevirtual 128, 3) := by decide +kernel
theorem dX10_wide_16 : decode cX10_wide 16 = .ok (.ireturn, 1) := by decide +kernel
theorem dX10_wide_17 : decode cX10_wide 17 = .ok (.aload_n 0, 1) := by decide +kernel
theorem dX10_wide_18 : decode cX10_wide 18 = .ok (.getfield 39, 3) := by decide +kernel
theorem dX10_wide_21 : decode cX10_wide 21 = .ok (.iload_n 1, 1) := by decide +kernel
theorem dX10_wide_22 : decode cX10_wide 22 = .ok (.invokevirtual 157, 3) := by decide +kernel
theorem dX10_wide_25 : decode cX10_wide 25 = .ok (.aload_n 0, 1) := by decide +kernel
theorem dX10_wide_26 : decode cX10_wide 26 = .ok (.getfield 46, 3) := by decide +kernel
theorem dX10_wide_29 : decode cX10_wide 29 = .ok (.invokevirtual 160, 3) := by decide +kernel
theorem dX10_wide_32 : decode cX10_wide 32 = .ok (.aload_n 0, 1) := by decide +kernel
theorem dX10_wide_33 : decode cX10_wide 33 = .ok (.invokevirtual 162, 3) := by decide +kernel
theorem dX10_wide_36 : decode cX10_wide 36 = .ok (.iload_n 1, 1) := by decide +kernel
theorem dX10_wide_37 : decode cX10_wide 37 = .ok (.ireturn, 1) := by decide +kernel
theorem dX10_find_0 : decode cX10_find 0 = .ok (.aload_n 0, 1) := by decide +kernel
theorem dX10_find_1 : decode cX10_find 1 = .ok (.getfield 46, 3) := by decide +kernel
theorem dX10_find_4 : decode cX10_find 4 = .ok (.iload_n 1, 1) := by decide +kernel
theorem dX10_find_5 : decode cX10_find 5 = .ok (.invokevirtual 165, 3) := by decide +kernel
theorem dX10_find_8 : decode cX10_find 8 = .ok (.iload_n 2, 1) := by decide +kernel
theorem dX10_find_9 : decode cX10_find 9 = .ok (.invokestatic 169, 3) := by decide +kernel
theorem dX10_find_12 : decode cX10_find 12 = .ok (.ireturn, 1) := by decide +kernel
theorem dX10_key_0 : decode cX10_key 0 = .ok (.aload_n 0, 1) := by decide +kernel
theorem dX10_key_1 : decode cX10_key 1 = .ok (.getfield 77, 3) := by decide +kernel
theorem dX10_key_4 : decode cX10_key 4 = .ok (.aload_n 0, 1) := by decide +kernel
theorem dX10_key_5 : decode cX10_key 5 = .ok (.getfield 46, 3) := by decide +kernel
theorem dX10_key_8 : decode cX10_key 8 = .ok (.iload_n 1, 1) := by decide +kernel
theorem dX10_key_9 : decode cX10_key 9 = .ok (.invokevirtual 165, 3) := by decide +kernel
theorem dX10_key_12 : decode cX10_key 12 = .ok (.invokevirtual 173, 3) := by decide +kernel
theorem dX10_key_15 : decode cX10_key 15 = .ok (.iload_n 2, 1) := by decide +kernel
theorem dX10_key_16 : decode cX10_key 16 = .ok (.ifCond .lt 14, 3) := by decide +kernel
theorem dX10_key_19 : decode cX10_key 19 = .ok (.iload_n 2, 1) := by decide +kernel
theorem dX10_key_20 : decode cX10_key 20 = .ok (.aload_n 0, 1) := by decide +kernel
theorem dX10_key_21 : decode cX10_key 21 = .ok (.getfield 77, 3) := by decide +kernel
theorem dX10_key_24 : decode cX10_key 24 = .ok (.invokevirtual 138, 3) := by decide +kernel
theorem dX10_key_27 : decode cX10_key 27 = .ok (.if_icmp .lt 11, 3) := by decide +kernel
theorem dX10_key_30 : decode cX10_key 30 = .ok (.new 177, 3) := by decide +kernel
theorem dX10_key_33 : decode cX10_key 33 = .ok (.dup, 1) := by decide +kernel
theorem dX10_key_34 : decode cX10_key 34 = .ok (.invokespecial 179, 3) := by decide +kernel
theorem dX10_key_37 : decode cX10_key 37 = .ok (.athrow, 1) := by decide +kernel
theorem dX10_key_38 : decode cX10_key 38 = .ok (.aload_n 0, 1) := by decide +kernel
theorem dX10_key_39 : decode cX10_key 39 = .ok (.getfield 77, 3) := by decide +kernel
theorem dX10_key_42 : decode cX10_key 42 = .ok (.iload_n 2, 1) := by decide +kernel
theorem dX10_key_43 : decode cX10_key 43 = .ok (.invokevirtual 139, 3) := by decide +kernel
theorem dX10_key_46 : decode cX10_key 46 = .ok (.ireturn, 1) := by decide +kernel
theorem dX10_about_0 : decode cX10_about 0 = .ok (.aload_n 0, 1) := by decide +kernel
theorem dX10_about_1 : decode cX10_about 1 = .ok (.getfield 46, 3) := by decide +kernel
theorem dX10_about_4 : decode cX10_about 4 = .ok (.iload_n 1, 1) := by decide +kernel
theorem dX10_about_5 : decode cX10_about 5 = .ok (.invokevirtual 165, 3) := by decide +kernel
theorem dX10_about_8 : decode cX10_about 8 = .ok (.astore_n 3, 1) := by decide +kernel
theorem dX10_about_9 : decode cX10_about 9 = .ok (.aload_n 3, 1) := by decide +kernel
theorem dX10_about_10 : decode cX10_about 10 = .ok (.ifnonnull 6, 3) := by decide +kernel
theorem dX10_about_13 : decode cX10_about 13 = .ok (.ldc 180, 2) := by decide +kernel
theorem dX10_about_15 : decode cX10_about 15 = .ok (.ireturn, 1) := by decide +kernel
theorem dX10_about_16 : decode cX10_about 16 = .ok (.aload_n 0, 1) := by decide +kernel
theorem dX10_about_17 : decode cX10_about 17 = .ok (.getfield 77, 3) := by decide +kernel
theorem dX10_about_20 : decode cX10_about 20 = .ok (.aload_n 3, 1) := by decide +kernel
theorem dX10_about_21 : decode cX10_about 21 = .ok (.invokevirtual 173, 3) := by decide +kernel
theorem dX10_about_24 : decode cX10_about 24 = .ok (.aload_n 0, 1) := by decide +kernel
theorem dX10_about_25 : decode cX10_about 25 = .ok (.getfield 90, 3) := by decide +kernel
theorem dX10_about_28 : decode cX10_about 28 = .ok (.aload_n 3, 1) := by decide +kernel
theorem dX10_about_29 : decode cX10_about 29 = .ok (.invokevirtual 181, 3) := by decide +kernel
theorem dX10_about_32 : decode cX10_about 32 = .ok (.iload_n 2, 1) := by decide +kernel
theorem dX10_about_33 : decode cX10_about 33 = .ok (.tableswitch 105 0 6 #[43, 51, 59, 67, 75, 87, 96], 43) := by decide +kernel
theorem dX10_about_76 : decode cX10_about 76 = .ok (.aload_n 0, 1) := by decide +kernel
theorem dX10_about_77 : decode cX10_about 77 = .ok (.getfield 77, 3) := by decide +kernel
theorem dX10_about_80 : decode cX10_about 80 = .ok (.invokevirtual 138, 3) := by decide +kernel
theorem dX10_about_83 : decode cX10_about 83 = .ok (.ireturn, 1) := by decide +kernel
theorem dX10_about_84 : decode cX10_about 84 = .ok (.aload_n 0, 1) := by decide +kernel
theorem dX10_about_85 : decode cX10_about 85 = .ok (.getfield 90, 3) := by decide +kernel
theorem dX10_about_88 : decode cX10_about 88 = .ok (.invokevirtual 182, 3) := by decide +kernel
theorem dX10_about_91 : decode cX10_about 91 = .ok (.ireturn, 1) := by decide +kernel
theorem dX10_about_92 : decode cX10_about 92 = .ok (.aload_n 0, 1) := by decide +kernel
theorem dX10_about_93 : decode cX10_about 93 = .ok (.getfield 90, 3) := by decide +kernel
theorem dX10_about_96 : decode cX10_about 96 = .ok (.invokevirtual 185, 3) := by decide +kernel
theorem dX10_about_99 : decode cX10_about 99 = .ok (.ireturn, 1) := by decide +kernel
theorem dX10_about_100 : decode cX10_about 100 = .ok (.aload_n 0, 1) := by decide +kernel
theorem dX10_about_101 : decode cX10_about 101 = .ok (.getfield 90, 3) := by decide +kernel
theorem dX10_about_104 : decode cX10_about 104 = .ok (.invokevirtual 186, 3) := by decide +kernel
theorem dX10_about_107 : decode cX10_about 107 = .ok (.ireturn, 1) := by decide +kernel
theorem dX10_about_108 : decode cX10_about 108 = .ok (.aload_n 0, 1) := by decide +kernel
theorem dX10_about_109 : decode cX10_about 109 = .ok (.getfield 77, 3) := by decide +kernel
theorem dX10_about_112 : decode cX10_about 112 = .ok (.iconst 0, 1) := by decide +kernel
theorem dX10_about_113 : decode cX10_about 113 = .ok (.sipush 999, 3) := by decide +kernel
theorem dX10_about_116 : decode cX10_about 116 = .ok (.invokevirtual 189, 3) := by decide +kernel
theorem dX10_about_119 : decode cX10_about 119 = .ok (.ireturn, 1) := by decide +kernel
theorem dX10_about_120 : decode cX10_about 120 = .ok (.aload_n 0, 1) := by decide +kernel
theorem dX10_about_121 : decode cX10_about 121 = .ok (.getfield 46, 3) := by decide +kernel
theorem dX10_about_124 : decode cX10_about 124 = .ok (.iload_n 1, 1) := by decide +kernel
theorem dX10_about_125 : decode cX10_about 125 = .ok (.invokevirtual 193, 3) := by decide +kernel
theorem dX10_about_128 : decode cX10_about 128 = .ok (.ireturn, 1) := by decide +kernel
theorem dX10_about_129 : decode cX10_about 129 = .ok (.aload_n 0, 1) := by decide +kernel
theorem dX10_about_130 : decode cX10_about 130 = .ok (.getfield 46, 3) := by decide +kernel
theorem dX10_about_133 : decode cX10_about 133 = .ok (.iload_n 1, 1) := by decide +kernel
theorem dX10_about_134 : decode cX10_about 134 = .ok (.invokevirtual 196, 3) := by decide +kernel
theorem dX10_about_137 : decode cX10_about 137 = .ok (.ireturn, 1) := by decide +kernel
theorem dX10_about_138 : decode cX10_about 138 = .ok (.ldc 180, 2) := by decide +kernel
theorem dX10_about_140 : decode cX10_about 140 = .ok (.ireturn, 1) := by decide +kernel
theorem dX10_below_0 : decode cX10_below 0 = .ok (.aload_n 0, 1) := by decide +kernel
theorem dX10_below_1 : decode cX10_below 1 = .ok (.getfield 46, 3) := by decide +kernel
theorem dX10_below_4 : decode cX10_below 4 = .ok (.iload_n 1, 1) := by decide +kernel
theorem dX10_below_5 : decode cX10_below 5 = .ok (.invokevirtual 165, 3) := by decide +kernel
theorem dX10_below_8 : decode cX10_below 8 = .ok (.astore_n 3, 1) := by decide +kernel
theorem dX10_below_9 : decode cX10_below 9 = .ok (.aload_n 3, 1) := by decide +kernel
theorem dX10_below_10 : decode cX10_below 10 = .ok (.ifnonnull 5, 3) := by decide +kernel
theorem dX10_below_13 : decode cX10_below 13 = .ok (.iconst (-1), 1) := by decide +kernel
theorem dX10_below_14 : decode cX10_below 14 = .ok (.ireturn, 1) := by decide +kernel
theorem dX10_below_15 : decode cX10_below 15 = .ok (.aload_n 0, 1) := by decide +kernel
theorem dX10_below_16 : decode cX10_below 16 = .ok (.getfield 77, 3) := by decide +kernel
theorem dX10_below_19 : decode cX10_below 19 = .ok (.aload_n 3, 1) := by decide +kernel
theorem dX10_below_20 : decode cX10_below 20 = .ok (.invokevirtual 173, 3) := by decide +kernel
theorem dX10_below_23 : decode cX10_below 23 = .ok (.aload_n 0, 1) := by decide +kernel
theorem dX10_below_24 : decode cX10_below 24 = .ok (.getfield 77, 3) := by decide +kernel
theorem dX10_below_27 : decode cX10_below 27 = .ok (.iload_n 2, 1) := by decide +kernel
theorem dX10_below_28 : decode cX10_below 28 = .ok (.invokevirtual 199, 3) := by decide +kernel
theorem dX10_below_31 : decode cX10_below 31 = .ok (.ireturn, 1) := by decide +kernel
theorem dX10_near_0 : decode cX10_near 0 = .ok (.aload_n 0, 1) := by decide +kernel
theorem dX10_near_1 : decode cX10_near 1 = .ok (.getfield 46, 3) := by decide +kernel
theorem dX10_near_4 : decode cX10_near 4 = .ok (.iload_n 1, 1) := by decide +kernel
theorem dX10_near_5 : decode cX10_near 5 = .ok (.invokevirtual 165, 3) := by decide +kernel
theorem dX10_near_8 : decode cX10_near 8 = .ok (.astore 4, 2) := by decide +kernel
theorem dX10_near_10 : decode cX10_near 10 = .ok (.aload 4, 2) := by decide +kernel
theorem dX10_near_12 : decode cX10_near 12 = .ok (.ifnonnull 5, 3) := by decide +kernel
theorem dX10_near_15 : decode cX10_near 15 = .ok (.iconst (-1), 1) := by decide +kernel
theorem dX10_near_16 : decode cX10_near 16 = .ok (.ireturn, 1) := by decide +kernel
theorem dX10_near_17 : decode cX10_near 17 = .ok (.aload_n 0, 1) := by decide +kernel
theorem dX10_near_18 : decode cX10_near 18 = .ok (.getfield 77, 3) := by decide +kernel
theorem dX10_near_21 : decode cX10_near 21 = .ok (.aload 4, 2) := by decide +kernel
theorem dX10_near_23 : decode cX10_near 23 = .ok (.invokevirtual 173, 3) := by decide +kernel
theorem dX10_near_26 : decode cX10_near 26 = .ok (.aload_n 0, 1) := by decide +kernel
theorem dX10_near_27 : decode cX10_near 27 = .ok (.getfield 77, 3) := by decide +kernel
theorem dX10_near_30 : decode cX10_near 30 = .ok (.iload_n 2, 1) := by decide +kernel
theorem dX10_near_31 : decode cX10_near 31 = .ok (.invokevirtual 199, 3) := by decide +kernel
theorem dX10_near_34 : decode cX10_near 34 = .ok (.istore 5, 2) := by decide +kernel
theorem dX10_near_36 : decode cX10_near 36 = .ok (.aload_n 0, 1) := by decide +kernel
theorem dX10_near_37 : decode cX10_near 37 = .ok (.getfield 77, 3) := by decide +kernel
theorem dX10_near_40 : decode cX10_near 40 = .ok (.iload 5, 2) := by decide +kernel
theorem dX10_near_42 : decode cX10_near 42 = .ok (.iload_n 2, 1) := by decide +kernel
theorem dX10_near_43 : decode cX10_near 43 = .ok (.invokevirtual 202, 3) := by decide +kernel
theorem dX10_near_46 : decode cX10_near 46 = .ok (.istore 6, 2) := by decide +kernel
theorem dX10_near_48 : decode cX10_near 48 = .ok (.iload_n 3, 1) := by decide +kernel
theorem dX10_near_49 : decode cX10_near 49 = .ok (.tableswitch 97 0 3 #[31, 53, 63, 75], 31) := by decide +kernel
theorem dX10_near_80 : decode cX10_near 80 = .ok (.aload_n 0, 1) := by decide +kernel
theorem dX10_near_81 : decode cX10_near 81 = .ok (.getfield 77, 3) := by decide +kernel
theorem dX10_near_84 : decode cX10_near 84 = .ok (.iload 6, 2) := by decide +kernel
theorem dX10_near_86 : decode cX10_near 86 = .ok (.ifCond .eq 8, 3) := by decide +kernel
theorem dX10_near_89 : decode cX10_near 89 = .ok (.iload 5, 2) := by decide +kernel
theorem dX10_near_91 : decode cX10_near 91 = .ok (.goto 7, 3) := by decide +kernel
theorem dX10_near_94 : decode cX10_near 94 = .ok (.iload 5, 2) := by decide +kernel
theorem dX10_near_96 : decode cX10_near 96 = .ok (.iconst 1, 1) := by decide +kernel
theorem dX10_near_97 : decode cX10_near 97 = .ok (.isub, 1) := by decide +kernel
theorem dX10_near_98 : decode cX10_near 98 = .ok (.invokevirtual 139, 3) := by decide +kernel
theorem dX10_near_101 : decode cX10_near 101 = .ok (.ireturn, 1) := by decide +kernel
theorem dX10_near_102 : decode cX10_near 102 = .ok (.aload_n 0, 1) := by decide +kernel
theorem dX10_near_103 : decode cX10_near 103 = .ok (.getfield 77, 3) := by decide +kernel
theorem dX10_near_106 : decode cX10_near 106 = .ok (.iload 5, 2) := by decide +kernel
theorem dX10_near_108 : decode cX10_near 108 = .ok (.invokevirtual 139, 3) := by decide +kernel
theorem dX10_near_111 : decode cX10_near 111 = .ok (.ireturn, 1) := by decide +kernel
theorem dX10_near_112 : decode cX10_near 112 = .ok (.aload_n 0, 1) := by decide +kernel
theorem dX10_near_113 : decode cX10_near 113 = .ok (.getfield 77, 3) := by decide +kernel
theorem dX10_near_116 : decode cX10_near 116 = .ok (.iload 5, 2) := by decide +kernel
theorem dX10_near_118 : decode cX10_near 118 = .ok (.iconst 1, 1) := by decide +kernel
theorem dX10_near_119 : decode cX10_near 119 = .ok (.isub, 1) := by decide +kernel
theorem dX10_near_120 : decode cX10_near 120 = .ok (.invokevirtual 139, 3) := by decide +kernel
theorem dX10_near_123 : decode cX10_near 123 = .ok (.ireturn, 1) := by decide +kernel
theorem dX10_near_124 : decode cX10_near 124 = .ok (.aload_n 0, 1) := by decide +kernel
theorem dX10_near_125 : decode cX10_near 125 = .ok (.getfield 77, 3) := by decide +kernel
theorem dX10_near_128 : decode cX10_near 128 = .ok (.iload 6, 2) := by decide +kernel
theorem dX10_near_130 : decode cX10_near 130 = .ok (.ifCond .eq 10, 3) := by decide +kernel
theorem dX10_near_133 : decode cX10_near 133 = .ok (.iload 5, 2) := by decide +kernel
theorem dX10_near_135 : decode cX10_near 135 = .ok (.iconst 1, 1) := by decide +kernel
theorem dX10_near_136 : decode cX10_near 136 = .ok (.iadd, 1) := by decide +kernel
theorem dX10_near_137 : decode cX10_near 137 = .ok (.goto 5, 3) := by decide +kernel
theorem dX10_near_140 : decode cX10_near 140 = .ok (.iload 5, 2) := by decide +kernel
theorem dX10_near_142 : decode cX10_near 142 = .ok (.invokevirtual 139, 3) := by decide +kernel
theorem dX10_near_145 : decode cX10_near 145 = .ok (.ireturn, 1) := by decide +kernel
theorem dX10_near_146 : decode cX10_near 146 = .ok (.iconst (-1), 1) := by decide +kernel
theorem dX10_near_147 : decode cX10_near 147 = .ok (.ireturn, 1) := by decide +kernel
theorem dX10_total_0 : decode cX10_total 0 = .ok (.aload_n 0, 1) := by decide +kernel
theorem dX10_total_1 : decode cX10_total 1 = .ok (.getfield 46, 3) := by decide +kernel
theorem dX10_total_4 : decode cX10_total 4 = .ok (.iload_n 1, 1) := by decide +kernel
theorem dX10_total_5 : decode cX10_total 5 = .ok (.invokevirtual 165, 3) := by decide +kernel
theorem dX10_total_8 : decode cX10_total 8 = .ok (.astore 4, 2) := by decide +kernel
theorem dX10_total_10 : decode cX10_total 10 = .ok (.aload 4, 2) := by decide +kernel
theorem dX10_total_12 : decode cX10_total 12 = .ok (.ifnonnull 6, 3) := by decide +kernel
theorem dX10_total_15 : decode cX10_total 15 = .ok (.ldc 180, 2) := by decide +kernel
theorem dX10_total_17 : decode cX10_total 17 = .ok (.ireturn, 1) := by decide +kernel
theorem dX10_total_18 : decode cX10_total 18 = .ok (.aload_n 0, 1) := by decide +kernel
theorem dX10_total_19 : decode cX10_total 19 = .ok (.getfield 77, 3) := by decide +kernel
theorem dX10_total_22 : decode cX10_total 22 = .ok (.aload 4, 2) := by decide +kernel
theorem dX10_total_24 : decode cX10_total 24 = .ok (.invokevirtual 173, 3) := by decide +kernel
theorem dX10_total_27 : decode cX10_total 27 = .ok (.aload_n 0, 1) := by decide +kernel
theorem dX10_total_28 : decode cX10_total 28 = .ok (.getfield 77, 3) := by decide +kernel
theorem dX10_total_31 : decode cX10_total 31 = .ok (.iload_n 2, 1) := by decide +kernel
theorem dX10_total_32 : decode cX10_total 32 = .ok (.iload_n 3, 1) := by decide +kernel
theorem dX10_total_33 : decode cX10_total 33 = .ok (.invokevirtual 189, 3) := by decide +kernel
theorem dX10_total_36 : decode cX10_total 36 = .ok (.ireturn, 1) := by decide +kernel
theorem dX10_node_0 : decode cX10_node 0 = .ok (.aload_n 0, 1) := by decide +kernel
theorem dX10_node_1 : decode cX10_node 1 = .ok (.getfield 90, 3) := by decide +kernel
theorem dX10_node_4 : decode cX10_node 4 = .ok (.aload_n 0, 1) := by decide +kernel
theorem dX10_node_5 : decode cX10_node 5 = .ok (.getfield 46, 3) := by decide +kernel
theorem dX10_node_8 : decode cX10_node 8 = .ok (.iload_n 1, 1) := by decide +kernel
theorem dX10_node_9 : decode cX10_node 9 = .ok (.invokevirtual 165, 3) := by decide +kernel
theorem dX10_node_12 : decode cX10_node 12 = .ok (.invokevirtual 181, 3) := by decide +kernel
theorem dX10_node_15 : decode cX10_node 15 = .ok (.aload_n 0, 1) := by decide +kernel
theorem dX10_node_16 : decode cX10_node 16 = .ok (.getfield 90, 3) := by decide +kernel
theorem dX10_node_19 : decode cX10_node 19 = .ok (.iload_n 2, 1) := by decide +kernel
theorem dX10_node_20 : decode cX10_node 20 = .ok (.invokevirtual 206, 3) := by decide +kernel
theorem dX10_node_23 : decode cX10_node 23 = .ok (.astore 4, 2) := by decide +kernel
theorem dX10_node_25 : decode cX10_node 25 = .ok (.aload 4, 2) := by decide +kernel
theorem dX10_node_27 : decode cX10_node 27 = .ok (.ifnonnull 6, 3) := by decide +kernel
theorem dX10_node_30 : decode cX10_node 30 = .ok (.ldc 180, 2) := by decide +kernel
theorem dX10_node_32 : decode cX10_node 32 = .ok (.ireturn, 1) := by decide +kernel
theorem dX10_node_33 : decode cX10_node 33 = .ok (.iload_n 3, 1) := by decide +kernel
theorem dX10_node_34 : decode cX10_node 34 = .ok (.tableswitch 87 0 5 #[38, 52, 58, 64, 73, 80], 38) := by decide +kernel
theorem dX10_node_72 : decode cX10_node 72 = .ok (.aload 4, 2) := by decide +kernel
theorem dX10_node_74 : decode cX10_node 74 = .ok (.invokevirtual 209, 3) := by decide +kernel
theorem dX10_node_77 : decode cX10_node 77 = .ok (.ifCond .eq 7, 3) := by decide +kernel
theorem dX10_node_80 : decode cX10_node 80 = .ok (.iconst 1, 1) := by decide +kernel
theorem dX10_node_81 : decode cX10_node 81 = .ok (.goto 4, 3) := by decide +kernel
theorem dX10_node_84 : decode cX10_node 84 = .ok (.iconst 0, 1) := by decide +kernel
theorem dX10_node_85 : decode cX10_node 85 = .ok (.ireturn, 1) := by decide +kernel
theorem dX10_node_86 : decode cX10_node 86 = .ok (.aload 4, 2) := by decide +kernel
theorem dX10_node_88 : decode cX10_node 88 = .ok (.invokevirtual 214, 3) := by decide +kernel
theorem dX10_node_91 : decode cX10_node 91 = .ok (.ireturn, 1) := by decide +kernel
theorem dX10_node_92 : decode cX10_node 92 = .ok (.aload 4, 2) := by decide +kernel
theorem dX10_node_94 : decode cX10_node 94 = .ok (.invokevirtual 215, 3) := by decide +kernel
theorem dX10_node_97 : decode cX10_node 97 = .ok (.ireturn, 1) := by decide +kernel
theorem dX10_node_98 : decode cX10_node 98 = .ok (.aload_n 0, 1) := by decide +kernel
theorem dX10_node_99 : decode cX10_node 99 = .ok (.getfield 90, 3) := by decide +kernel
theorem dX10_node_102 : decode cX10_node 102 = .ok (.iload_n 2, 1) := by decide +kernel
theorem dX10_node_103 : decode cX10_node 103 = .ok (.invokevirtual 218, 3) := by decide +kernel
theorem dX10_node_106 : decode cX10_node 106 = .ok (.ireturn, 1) := by decide +kernel
theorem dX10_node_107 : decode cX10_node 107 = .ok (.aload_n 0, 1) := by decide +kernel
theorem dX10_node_108 : decode cX10_node 108 = .ok (.aload 4, 2) := by decide +kernel
theorem dX10_node_110 : decode cX10_node 110 = .ok (.invokevirtual 221, 3) := by decide +kernel
theorem dX10_node_113 : decode cX10_node 113 = .ok (.ireturn, 1) := by decide +kernel
theorem dX10_node_114 : decode cX10_node 114 = .ok (.aload 4, 2) := by decide +kernel
theorem dX10_node_116 : decode cX10_node 116 = .ok (.iconst 0, 1) := by decide +kernel
theorem dX10_node_117 : decode cX10_node 117 = .ok (.invokestatic 225, 3) := by decide +kernel
theorem dX10_node_120 : decode cX10_node 120 = .ok (.ireturn, 1) := by decide +kernel
theorem dX10_node_121 : decode cX10_node 121 = .ok (.ldc 180, 2) := by decide +kernel
theorem dX10_node_123 : decode cX10_node 123 = .ok (.ireturn, 1) := by decide +kernel
theorem dX10_mapsWith_0 : decode cX10_mapsWith 0 = .ok (.iconst 0, 1) := by decide +kernel
theorem dX10_mapsWith_1 : decode cX10_mapsWith 1 = .ok (.istore_n 2, 1) := by decide +kernel
theorem dX10_mapsWith_2 : decode cX10_mapsWith 2 = .ok (.iconst 0, 1) := by decide +kernel
theorem dX10_mapsWith_3 : decode cX10_mapsWith 3 = .ok (.istore_n 3, 1) := by decide +kernel
theorem dX10_mapsWith_4 : decode cX10_mapsWith 4 = .ok (.iload_n 3, 1) := by decide +kernel
theorem dX10_mapsWith_5 : decode cX10_mapsWith 5 = .ok (.aload_n 0, 1) := by decide +kernel
theorem dX10_mapsWith_6 : decode cX10_mapsWith 6 = .ok (.getfield 46, 3) := by decide +kernel
theorem dX10_mapsWith_9 : decode cX10_mapsWith 9 = .ok (.invokevirtual 228, 3) := by decide +kernel
theorem dX10_mapsWith_12 : decode cX10_mapsWith 12 = .ok (.if_icmp .ge 38, 3) := by decide +kernel
theorem dX10_mapsWith_15 : decode cX10_mapsWith 15 = .ok (.aload_n 0, 1) := by decide +kernel
theorem dX10_mapsWith_16 : decode cX10_mapsWith 16 = .ok (.getfield 90, 3) := by decide +kernel
theorem dX10_mapsWith_19 : decode cX10_mapsWith 19 = .ok (.aload_n 0, 1) := by decide +kernel
theorem dX10_mapsWith_20 : decode cX10_mapsWith 20 = .ok (.getfield 46, 3) := by decide +kernel
theorem dX10_mapsWith_23 : decode cX10_mapsWith 23 = .ok (.iload_n 3, 1) := by decide +kernel
theorem dX10_mapsWith_24 : decode cX10_mapsWith 24 = .ok (.invokevirtual 165, 3) := by decide +kernel
theorem dX10_mapsWith_27 : decode cX10_mapsWith 27 = .ok (.invokevirtual 181, 3) := by decide +kernel
theorem dX10_mapsWith_30 : decode cX10_mapsWith 30 = .ok (.aload_n 0, 1) := by decide +kernel
theorem dX10_mapsWith_31 : decode cX10_mapsWith 31 = .ok (.getfield 90, 3) := by decide +kernel
theorem dX10_mapsWith_34 : decode cX10_mapsWith 34 = .ok (.aload_n 1, 1) := by decide +kernel
theorem dX10_mapsWith_35 : decode cX10_mapsWith 35 = .ok (.invokevirtual 231, 3) := by decide +kernel
theorem dX10_mapsWith_38 : decode cX10_mapsWith 38 = .ok (.ifCond .eq 6, 3) := by decide +kernel
theorem dX10_mapsWith_41 : decode cX10_mapsWith 41 = .ok (.iinc 2 1, 3) := by decide +kernel
theorem dX10_mapsWith_44 : decode cX10_mapsWith 44 = .ok (.iinc 3 1, 3) := by decide +kernel
theorem dX10_mapsWith_47 : decode cX10_mapsWith 47 = .ok (.goto (-43), 3) := by decide +kernel
theorem dX10_mapsWith_50 : decode cX10_mapsWith 50 = .ok (.iload_n 2, 1) := by decide +kernel
theorem dX10_mapsWith_51 : decode cX10_mapsWith 51 = .ok (.ireturn, 1) := by decide +kernel
theorem dX10_having_0 : decode cX10_having 0 = .ok (.aload_n 0, 1) := by decide +kernel
theorem dX10_having_1 : decode cX10_having 1 = .ok (.getfield 46, 3) := by decide +kernel
theorem dX10_having_4 : decode cX10_having 4 = .ok (.iload_n 1, 1) := by decide +kernel
theorem dX10_having_5 : decode cX10_having 5 = .ok (.invokevirtual 165, 3) := by decide +kernel
theorem dX10_having_8 : decode cX10_having 8 = .ok (.astore 4, 2) := by decide +kernel
theorem dX10_having_10 : decode cX10_having 10 = .ok (.aload 4, 2) := by decide +kernel
theorem dX10_having_12 : decode cX10_having 12 = .ok (.ifnonnull 9, 3) := by decide +kernel
theorem dX10_having_15 : decode cX10_having 15 = .ok (.aload_n 0, 1) := by decide +kernel
theorem dX10_having_16 : decode cX10_having 16 = .ok (.iconst 0, 1) := by decide +kernel
theorem dX10_having_17 : decode cX10_having 17 = .ok (.invokevirtual 128, 3) := by decide +kernel
theorem dX10_having_20 : decode cX10_having 20 = .ok (.ireturn, 1) := by decide +kernel
theorem dX10_having_21 : decode cX10_having 21 = .ok (.iload_n 2, 1) := by decide +kernel
theorem dX10_having_22 : decode cX10_having 22 = .ok (.invokestatic 235, 3) := by decide +kernel
theorem dX10_having_25 : decode cX10_having 25 = .ok (.ifCond .eq 10, 3) := by decide +kernel
theorem dX10_having_28 : decode cX10_having 28 = .ok (.iload_n 3, 1) := by decide +kernel
theorem dX10_having_29 : decode cX10_having 29 = .ok (.invokestatic 238, 3) := by decide +kernel
theorem dX10_having_32 : decode cX10_having 32 = .ok (.ifCond .ne 9, 3) := by decide +kernel
theorem dX10_having_35 : decode cX10_having 35 = .ok (.aload_n 0, 1) := by decide +kernel
theorem dX10_having_36 : decode cX10_having 36 = .ok (.iconst 1, 1) := by decide +kernel
theorem dX10_having_37 : decode cX10_having 37 = .ok (.invokevirtual 128, 3) := by decide +kernel
theorem dX10_having_40 : decode cX10_having 40 = .ok (.ireturn, 1) := by decide +kernel
theorem dX10_having_41 : decode cX10_having 41 = .ok (.aload 4, 2) := by decide +kernel
theorem dX10_having_43 : decode cX10_having 43 = .ok (.iload_n 2, 1) := by decide +kernel
theorem dX10_having_44 : decode cX10_having 44 = .ok (.invokestatic 241, 3) := by decide +kernel
theorem dX10_having_47 : decode cX10_having 47 = .ok (.ifCond .ne 9, 3) := by decide +kernel
theorem dX10_having_50 : decode cX10_having 50 = .ok (.aload_n 0, 1) := by decide +kernel
theorem dX10_having_51 : decode cX10_having 51 = .ok (.iconst 3, 1) := by decide +kernel
theorem dX10_having_52 : decode cX10_having 52 = .ok (.invokevirtual 128, 3) := by decide +kernel
theorem dX10_having_55 : decode cX10_having 55 = .ok (.ireturn, 1) := by decide +kernel
theorem dX10_having_56 : decode cX10_having 56 = .ok (.aload_n 0, 1) := by decide +kernel
theorem dX10_having_57 : decode cX10_having 57 = .ok (.getfield 46, 3) := by decide +kernel
theorem dX10_having_60 : decode cX10_having 60 = .ok (.invokevirtual 124, 3) := by decide +kernel
theorem dX10_having_63 : decode cX10_having 63 = .ok (.ifCond .ne 9, 3) := by decide +kernel
theorem dX10_having_66 : decode cX10_having 66 = .ok (.aload_n 0, 1) := by decide +kernel
theorem dX10_having_67 : decode cX10_having 67 = .ok (.iconst 4, 1) := by decide +kernel
theorem dX10_having_68 : decode cX10_having 68 = .ok (.invokevirtual 128, 3) := by decide +kernel
theorem dX10_having_71 : decode cX10_having 71 = .ok (.ireturn, 1) := by decide +kernel
theorem dX10_having_72 : decode cX10_having 72 = .ok (.aload_n 0, 1) := by decide +kernel
theorem dX10_having_73 : decode cX10_having 73 = .ok (.getfield 46, 3) := by decide +kernel
theorem dX10_having_76 : decode cX10_having 76 = .ok (.aload_n 0, 1) := by decide +kernel
theorem dX10_having_77 : decode cX10_having 77 = .ok (.getfield 39, 3) := by decide +kernel
theorem dX10_having_80 : decode cX10_having 80 = .ok (.aload 4, 2) := by decide +kernel
theorem dX10_having_82 : decode cX10_having 82 = .ok (.aload_n 0, 1) := by decide +kernel
theorem dX10_having_83 : decode cX10_having 83 = .ok (.getfield 39, 3) := by decide +kernel
theorem dX10_having_86 : decode cX10_having 86 = .ok (.invokevirtual 131, 3) := by decide +kernel
theorem dX10_having_89 : decode cX10_having 89 = .ok (.iload_n 2, 1) := by decide +kernel
theorem dX10_having_90 : decode cX10_having 90 = .ok (.iload_n 3, 1) := by decide +kernel
theorem dX10_having_91 : decode cX10_having 91 = .ok (.invokevirtual 145, 3) := by decide +kernel
theorem dX10_having_94 : decode cX10_having 94 = .ok (.iload_n 1, 1) := by decide +kernel
theorem dX10_having_95 : decode cX10_having 95 = .ok (.iconst (-1), 1) := by decide +kernel
theorem dX10_having_96 : decode cX10_having 96 = .ok (.invokevirtual 149, 3) := by decide +kernel
theorem dX10_having_99 : decode cX10_having 99 = .ok (.ireturn, 1) := by decide +kernel
theorem dX10_lacking_0 : decode cX10_lacking 0 = .ok (.aload_n 0, 1) := by decide +kernel
theorem dX10_lacking_1 : decode cX10_lacking 1 = .ok (.getfield 46, 3) := by decide +kernel
theorem dX10_lacking_4 : decode cX10_lacking 4 = .ok (.iload_n 1, 1) := by decide +kernel
theorem dX10_lacking_5 : decode cX10_lacking 5 = .ok (.invokevirtual 165, 3) := by decide +kernel
theorem dX10_lacking_8 : decode cX10_lacking 8 = .ok (.astore_n 3, 1) := by decide +kernel
theorem dX10_lacking_9 : decode cX10_lacking 9 = .ok (.aload_n 3, 1) := by decide +kernel
theorem dX10_lacking_10 : decode cX10_lacking 10 = .ok (.ifnonnull 9, 3) := by decide +kernel
theorem dX10_lacking_13 : decode cX10_lacking 13 = .ok (.aload_n 0, 1) := by decide +kernel
theorem dX10_lacking_14 : decode cX10_lacking 14 = .ok (.iconst 0, 1) := by decide +kernel
theorem dX10_lacking_15 : decode cX10_lacking 15 = .ok (.invokevirtual 128, 3) := by decide +kernel
theorem dX10_lacking_18 : decode cX10_lacking 18 = .ok (.ireturn, 1) := by decide +kernel
theorem dX10_lacking_19 : decode cX10_lacking 19 = .ok (.iload_n 2, 1) := by decide +kernel
theorem dX10_lacking_20 : decode cX10_lacking 20 = .ok (.invokestatic 235, 3) := by decide +kernel
theorem dX10_lacking_23 : decode cX10_lacking 23 = .ok (.ifCond .ne 9, 3) := by decide +kernel
theorem dX10_lacking_26 : decode cX10_lacking 26 = .ok (.aload_n 0, 1) := by decide +kernel
theorem dX10_lacking_27 : decode cX10_lacking 27 = .ok (.iconst 1, 1) := by decide +kernel
theorem dX10_lacking_28 : decode cX10_lacking 28 = .ok (.invokevirtual 128, 3) := by decide +kernel
theorem dX10_lacking_31 : decode cX10_lacking 31 = .ok (.ireturn, 1) := by decide +kernel
theorem dX10_lacking_32 : decode cX10_lacking 32 = .ok (.aload_n 0, 1) := by decide +kernel
theorem dX10_lacking_33 : decode cX10_lacking 33 = .ok (.getfield 46, 3) := by decide +kernel
theorem dX10_lacking_36 : decode cX10_lacking 36 = .ok (.invokevirtual 124, 3) := by decide +kernel
theorem dX10_lacking_39 : decode cX10_lacking 39 = .ok (.ifCond .ne 9, 3) := by decide +kernel
theorem dX10_lacking_42 : decode cX10_lacking 42 = .ok (.aload_n 0, 1) := by decide +kernel
theorem dX10_lacking_43 : decode cX10_lacking 43 = .ok (.iconst 4, 1) := by decide +kernel
theorem dX10_lacking_44 : decode cX10_lacking 44 = .ok (.invokevirtual 128, 3) := by decide +kernel
theorem dX10_lacking_47 : decode cX10_lacking 47 = .ok (.ireturn, 1) := by decide +kernel
theorem dX10_lacking_48 : decode cX10_lacking 48 = .ok (.aload_n 0, 1) := by decide +kernel
theorem dX10_lacking_49 : decode cX10_lacking 49 = .ok (.getfield 46, 3) := by decide +kernel
theorem dX10_lacking_52 : decode cX10_lacking 52 = .ok (.aload_n 0, 1) := by decide +kernel
theorem dX10_lacking_53 : decode cX10_lacking 53 = .ok (.getfield 39, 3) := by decide +kernel
theorem dX10_lacking_56 : decode cX10_lacking 56 = .ok (.aload_n 3, 1) := by decide +kernel
theorem dX10_lacking_57 : decode cX10_lacking 57 = .ok (.aload_n 0, 1) := by decide +kernel
theorem dX10_lacking_58 : decode cX10_lacking 58 = .ok (.getfield 39, 3) := by decide +kernel
theorem dX10_lacking_61 : decode cX10_lacking 61 = .ok (.invokevirtual 131, 3) := by decide +kernel
theorem dX10_lacking_64 : decode cX10_lacking 64 = .ok (.iload_n 2, 1) := by decide +kernel
theorem dX10_lacking_65 : decode cX10_lacking 65 = .ok (.invokevirtual 245, 3) := by decide +kernel
theorem dX10_lacking_68 : decode cX10_lacking 68 = .ok (.iload_n 1, 1) := by decide +kernel
theorem dX10_lacking_69 : decode cX10_lacking 69 = .ok (.iconst (-1), 1) := by decide +kernel
theorem dX10_lacking_70 : decode cX10_lacking 70 = .ok (.invokevirtual 149, 3) := by decide +kernel
theorem dX10_lacking_73 : decode cX10_lacking 73 = .ok (.ireturn, 1) := by decide +kernel
theorem dX10_merge_0 : decode cX10_merge 0 = .ok (.aload_n 0, 1) := by decide +kernel
theorem dX10_merge_1 : decode cX10_merge 1 = .ok (.getfield 46, 3) := by decide +kernel
theorem dX10_merge_4 : decode cX10_merge 4 = .ok (.iload_n 1, 1) := by decide +kernel
theorem dX10_merge_5 : decode cX10_merge 5 = .ok (.invokevirtual 165, 3) := by decide +kernel
theorem dX10_merge_8 : decode cX10_merge 8 = .ok (.astore 4, 2) := by decide +kernel
theorem dX10_merge_10 : decode cX10_merge 10 = .ok (.aload_n 0, 1) := by decide +kernel
theorem dX10_merge_11 : decode cX10_merge 11 = .ok (.getfield 46, 3) := by decide +kernel
theorem dX10_merge_14 : decode cX10_merge 14 = .ok (.iload_n 2, 1) := by decide +kernel
theorem dX10_merge_15 : decode cX10_merge 15 = .ok (.invokevirtual 165, 3) := by decide +kernel
theorem dX10_merge_18 : decode cX10_merge 18 = .ok (.astore 5, 2) := by decide +kernel
theorem dX10_merge_20 : decode cX10_merge 20 = .ok (.aload 4, 2) := by decide +kernel
theorem dX10_merge_22 : decode cX10_merge 22 = .ok (.ifnull 8, 3) := by decide +kernel
theorem dX10_merge_25 : decode cX10_merge 25 = .ok (.aload 5, 2) := by decide +kernel
theorem dX10_merge_27 : decode cX10_merge 27 = .ok (.ifnonnull 9, 3) := by decide +kernel
theorem dX10_merge_30 : decode cX10_merge 30 = .ok (.aload_n 0, 1) := by decide +kernel
theorem dX10_merge_31 : decode cX10_merge 31 = .ok (.iconst 0, 1) := by decide +kernel
theorem dX10_merge_32 : decode cX10_merge 32 = .ok (.invokevirtual 128, 3) := by decide +kernel
theorem dX10_merge_35 : decode cX10_merge 35 = .ok (.ireturn, 1) := by decide +kernel
theorem dX10_merge_36 : decode cX10_merge 36 = .ok (.iload_n 3, 1) := by decide +kernel
theorem dX10_merge_37 : decode cX10_merge 37 = .ok (.ifCond .lt 8, 3) := by decide +kernel
theorem dX10_merge_40 : decode cX10_merge 40 = .ok (.iload_n 3, 1) := by decide +kernel
theorem dX10_merge_41 : decode cX10_merge 41 = .ok (.iconst 3, 1) := by decide +kernel
theorem dX10_merge_42 : decode cX10_merge 42 = .ok (.if_icmp .le 9, 3) := by decide +kernel
theorem dX10_merge_45 : decode cX10_merge 45 = .ok (.aload_n 0, 1) := by decide +kernel
theorem dX10_merge_46 : decode cX10_merge 46 = .ok (.iconst 1, 1) := by decide +kernel
theorem dX10_merge_47 : decode cX10_merge 47 = .ok (.invokevirtual 128, 3) := by decide +kernel
theorem dX10_merge_50 : decode cX10_merge 50 = .ok (.ireturn, 1) := by decide +kernel
theorem dX10_merge_51 : decode cX10_merge 51 = .ok (.aload_n 0, 1) := by decide +kernel
theorem dX10_merge_52 : decode cX10_merge 52 = .ok (.getfield 77, 3) := by decide +kernel
theorem dX10_merge_55 : decode cX10_merge 55 = .ok (.aload 4, 2) := by decide +kernel
theorem dX10_merge_57 : decode cX10_merge 57 = .ok (.invokevirtual 173, 3) := by decide +kernel
theorem dX10_merge_60 : decode cX10_merge 60 = .ok (.aload_n 0, 1) := by decide +kernel
theorem dX10_merge_61 : decode cX10_merge 61 = .ok (.getfield 81, 3) := by decide +kernel
theorem dX10_merge_64 : decode cX10_merge 64 = .ok (.aload 5, 2) := by decide +kernel
theorem dX10_merge_66 : decode cX10_merge 66 = .ok (.aload_n 0, 1) := by decide +kernel
theorem dX10_merge_67 : decode cX10_merge 67 = .ok (.aload 4, 2) := by decide +kernel
theorem dX10_merge_69 : decode cX10_merge 69 = .ok (.invokevirtual 249, 3) := by decide +kernel
theorem dX10_merge_72 : decode cX10_merge 72 = .ok (.invokevirtual 252, 3) := by decide +kernel
theorem dX10_merge_75 : decode cX10_merge 75 = .ok (.aload_n 0, 1) := by decide +kernel
theorem dX10_merge_76 : decode cX10_merge 76 = .ok (.getfield 77, 3) := by decide +kernel
theorem dX10_merge_79 : decode cX10_merge 79 = .ok (.aload_n 0, 1) := by decide +kernel
theorem dX10_merge_80 : decode cX10_merge 80 = .ok (.getfield 81, 3) := by decide +kernel
theorem dX10_merge_83 : decode cX10_merge 83 = .ok (.invokevirtual 256, 3) := by decide +kernel
theorem dX10_merge_86 : decode cX10_merge 86 = .ok (.bipush 60, 2) := by decide +kernel
theorem dX10_merge_88 : decode cX10_merge 88 = .ok (.if_icmp .le 9, 3) := by decide +kernel
theorem dX10_merge_91 : decode cX10_merge 91 = .ok (.aload_n 0, 1) := by decide +kernel
theorem dX10_merge_92 : decode cX10_merge 92 = .ok (.iconst 3, 1) := by decide +kernel
theorem dX10_merge_93 : decode cX10_merge 93 = .ok (.invokevirtual 128, 3) := by decide +kernel
theorem dX10_merge_96 : decode cX10_merge 96 = .ok (.ireturn, 1) := by decide +kernel
theorem dX10_merge_97 : decode cX10_merge 97 = .ok (.aload_n 0, 1) := by decide +kernel
theorem dX10_merge_98 : decode cX10_merge 98 = .ok (.getfield 46, 3) := by decide +kernel
theorem dX10_merge_101 : decode cX10_merge 101 = .ok (.invokevirtual 124, 3) := by decide +kernel
theorem dX10_merge_104 : decode cX10_merge 104 = .ok (.ifCond .ne 9, 3) := by decide +kernel
theorem dX10_merge_107 : decode cX10_merge 107 = .ok (.aload_n 0, 1) := by decide +kernel
theorem dX10_merge_108 : decode cX10_merge 108 = .ok (.iconst 4, 1) := by decide +kernel
theorem dX10_merge_109 : decode cX10_merge 109 = .ok (.invokevirtual 128, 3) := by decide +kernel
theorem dX10_merge_112 : decode cX10_merge 112 = .ok (.ireturn, 1) := by decide +kernel
theorem dX10_merge_113 : decode cX10_merge 113 = .ok (.aload_n 0, 1) := by decide +kernel
theorem dX10_merge_114 : decode cX10_merge 114 = .ok (.getfield 46, 3) := by decide +kernel
theorem dX10_merge_117 : decode cX10_merge 117 = .ok (.aload_n 0, 1) := by decide +kernel
theorem dX10_merge_118 : decode cX10_merge 118 = .ok (.aload 4, 2) := by decide +kernel
theorem dX10_merge_120 : decode cX10_merge 120 = .ok (.iload_n 3, 1) := by decide +kernel
theorem dX10_merge_121 : decode cX10_merge 121 = .ok (.invokevirtual 259, 3) := by decide +kernel
theorem dX10_merge_124 : decode cX10_merge 124 = .ok (.iload_n 1, 1) := by decide +kernel
theorem dX10_merge_125 : decode cX10_merge 125 = .ok (.iload_n 2, 1) := by decide +kernel
theorem dX10_merge_126 : decode cX10_merge 126 = .ok (.invokevirtual 149, 3) := by decide +kernel
theorem dX10_merge_129 : decode cX10_merge 129 = .ok (.ireturn, 1) := by decide +kernel
theorem dX10_mergedRoot_0 : decode cX10_mergedRoot 0 = .ok (.aload_n 0, 1) := by decide +kernel
theorem dX10_mergedRoot_1 : decode cX10_mergedRoot 1 = .ok (.getfield 39, 3) := by decide +kernel
theorem dX10_mergedRoot_4 : decode cX10_mergedRoot 4 = .ok (.invokevirtual 131, 3) := by decide +kernel
theorem dX10_mergedRoot_7 : decode cX10_mergedRoot 7 = .ok (.istore_n 3, 1) := by decide +kernel
theorem dX10_mergedRoot_8 : decode cX10_mergedRoot 8 = .ok (.aload_n 1, 1) := by decide +kernel
theorem dX10_mergedRoot_9 : decode cX10_mergedRoot 9 = .ok (.astore 4, 2) := by decide +kernel
theorem dX10_mergedRoot_11 : decode cX10_mergedRoot 11 = .ok (.iconst 0, 1) := by decide +kernel
theorem dX10_mergedRoot_12 : decode cX10_mergedRoot 12 = .ok (.istore 5, 2) := by decide +kernel
theorem dX10_mergedRoot_14 : decode cX10_mergedRoot 14 = .ok (.iload 5, 2) := by decide +kernel
theorem dX10_mergedRoot_16 : decode cX10_mergedRoot 16 = .ok (.aload_n 0, 1) := by decide +kernel
theorem dX10_mergedRoot_17 : decode cX10_mergedRoot 17 = .ok (.getfield 81, 3) := by decide +kernel
theorem dX10_mergedRoot_20 : decode cX10_mergedRoot 20 = .ok (.invokevirtual 138, 3) := by decide +kernel
theorem dX10_mergedRoot_23 : decode cX10_mergedRoot 23 = .ok (.if_icmp .ge 60, 3) := by decide +kernel
theorem dX10_mergedRoot_26 : decode cX10_mergedRoot 26 = .ok (.aload_n 0, 1) := by decide +kernel
theorem dX10_mergedRoot_27 : decode cX10_mergedRoot 27 = .ok (.getfield 81, 3) := by decide +kernel
theorem dX10_mergedRoot_30 : decode cX10_mergedRoot 30 = .ok (.iload 5, 2) := by decide +kernel
theorem dX10_mergedRoot_32 : decode cX10_mergedRoot 32 = .ok (.invokevirtual 139, 3) := by decide +kernel
theorem dX10_mergedRoot_35 : decode cX10_mergedRoot 35 = .ok (.istore 6, 2) := by decide +kernel
theorem dX10_mergedRoot_37 : decode cX10_mergedRoot 37 = .ok (.aload_n 0, 1) := by decide +kernel
theorem dX10_mergedRoot_38 : decode cX10_mergedRoot 38 = .ok (.getfield 77, 3) := by decide +kernel
theorem dX10_mergedRoot_41 : decode cX10_mergedRoot 41 = .ok (.iload 6, 2) := by decide +kernel
theorem dX10_mergedRoot_43 : decode cX10_mergedRoot 43 = .ok (.invokevirtual 263, 3) := by decide +kernel
theorem dX10_mergedRoot_46 : decode cX10_mergedRoot 46 = .ok (.aload_n 0, 1) := by decide +kernel
theorem dX10_mergedRoot_47 : decode cX10_mergedRoot 47 = .ok (.getfield 81, 3) := by decide +kernel
theorem dX10_mergedRoot_50 : decode cX10_mergedRoot 50 = .ok (.iload 5, 2) := by decide +kernel
theorem dX10_mergedRoot_52 : decode cX10_mergedRoot 52 = .ok (.invokevirtual 142, 3) := by decide +kernel
theorem dX10_mergedRoot_55 : decode cX10_mergedRoot 55 = .ok (.iload_n 2, 1) := by decide +kernel
theorem dX10_mergedRoot_56 : decode cX10_mergedRoot 56 = .ok (.invokestatic 266, 3) := by decide +kernel
theorem dX10_mergedRoot_59 : decode cX10_mergedRoot 59 = .ok (.istore 7, 2) := by decide +kernel
theorem dX10_mergedRoot_61 : decode cX10_mergedRoot 61 = .ok (.aload_n 0, 1) := by decide +kernel
theorem dX10_mergedRoot_62 : decode cX10_mergedRoot 62 = .ok (.getfield 39, 3) := by decide +kernel
theorem dX10_mergedRoot_65 : decode cX10_mergedRoot 65 = .ok (.aload 4, 2) := by decide +kernel
theorem dX10_mergedRoot_67 : decode cX10_mergedRoot 67 = .ok (.iload_n 3, 1) := by decide +kernel
theorem dX10_mergedRoot_68 : decode cX10_mergedRoot 68 = .ok (.iload 6, 2) := by decide +kernel
theorem dX10_mergedRoot_70 : decode cX10_mergedRoot 70 = .ok (.iload 7, 2) := by decide +kernel
theorem dX10_mergedRoot_72 : decode cX10_mergedRoot 72 = .ok (.invokevirtual 145, 3) := by decide +kernel
theorem dX10_mergedRoot_75 : decode cX10_mergedRoot 75 = .ok (.astore 4, 2) := by decide +kernel
theorem dX10_mergedRoot_77 : decode cX10_mergedRoot 77 = .ok (.iinc 5 1, 3) := by decide +kernel
theorem dX10_mergedRoot_80 : decode cX10_mergedRoot 80 = .ok (.goto (-66), 3) := by decide +kernel
theorem dX10_mergedRoot_83 : decode cX10_mergedRoot 83 = .ok (.aload 4, 2) := by decide +kernel
theorem dX10_mergedRoot_85 : decode cX10_mergedRoot 85 = .ok (.areturn, 1) := by decide +kernel
theorem dX10_ruled_0 : decode cX10_ruled 0 = .ok (.iload_n 0, 1) := by decide +kernel
theorem dX10_ruled_1 : decode cX10_ruled 1 = .ok (.ldc 180, 2) := by decide +kernel
theorem dX10_ruled_3 : decode cX10_ruled 3 = .ok (.if_icmp .eq 8, 3) := by decide +kernel
theorem dX10_ruled_6 : decode cX10_ruled 6 = .ok (.iload_n 2, 1) := by decide +kernel
theorem dX10_ruled_7 : decode cX10_ruled 7 = .ok (.iconst 1, 1) := by decide +kernel
theorem dX10_ruled_8 : decode cX10_ruled 8 = .ok (.if_icmp .ne 5, 3) := by decide +kernel
theorem dX10_ruled_11 : decode cX10_ruled 11 = .ok (.iload_n 1, 1) := by decide +kernel
theorem dX10_ruled_12 : decode cX10_ruled 12 = .ok (.ireturn, 1) := by decide +kernel
theorem dX10_ruled_13 : decode cX10_ruled 13 = .ok (.iload_n 2, 1) := by decide +kernel
theorem dX10_ruled_14 : decode cX10_ruled 14 = .ok (.ifCond .ne 5, 3) := by decide +kernel
theorem dX10_ruled_17 : decode cX10_ruled 17 = .ok (.iload_n 0, 1) := by decide +kernel
theorem dX10_ruled_18 : decode cX10_ruled 18 = .ok (.ireturn, 1) := by decide +kernel
theorem dX10_ruled_19 : decode cX10_ruled 19 = .ok (.iload_n 2, 1) := by decide +kernel
theorem dX10_ruled_20 : decode cX10_ruled 20 = .ok (.iconst 2, 1) := by decide +kernel
theorem dX10_ruled_21 : decode cX10_ruled 21 = .ok (.if_icmp .ne 11, 3) := by decide +kernel
theorem dX10_ruled_24 : decode cX10_ruled 24 = .ok (.iload_n 0, 1) := by decide +kernel
theorem dX10_ruled_25 : decode cX10_ruled 25 = .ok (.iload_n 1, 1) := by decide +kernel
theorem dX10_ruled_26 : decode cX10_ruled 26 = .ok (.invokestatic 270, 3) := by decide +kernel
theorem dX10_ruled_29 : decode cX10_ruled 29 = .ok (.goto 9, 3) := by decide +kernel
theorem dX10_ruled_32 : decode cX10_ruled 32 = .ok (.iload_n 0, 1) := by decide +kernel
theorem dX10_ruled_33 : decode cX10_ruled 33 = .ok (.iload_n 1, 1) := by decide +kernel
theorem dX10_ruled_34 : decode cX10_ruled 34 = .ok (.iadd, 1) := by decide +kernel
theorem dX10_ruled_35 : decode cX10_ruled 35 = .ok (.invokestatic 275, 3) := by decide +kernel
theorem dX10_ruled_38 : decode cX10_ruled 38 = .ok (.ireturn, 1) := by decide +kernel
theorem dX10_three_0 : decode cX10_three 0 = .ok (.aload_n 0, 1) := by decide +kernel
theorem dX10_three_1 : decode cX10_three 1 = .ok (.iload_n 1, 1) := by decide +kernel
theorem dX10_three_2 : decode cX10_three 2 = .ok (.iload_n 2, 1) := by decide +kernel
theorem dX10_three_3 : decode cX10_three 3 = .ok (.iload_n 3, 1) := by decide +kernel
theorem dX10_three_4 : decode cX10_three 4 = .ok (.invokevirtual 278, 3) := by decide +kernel
theorem dX10_three_7 : decode cX10_three 7 = .ok (.ifCond .ne 9, 3) := by decide +kernel
theorem dX10_three_10 : decode cX10_three 10 = .ok (.aload_n 0, 1) := by decide +kernel
theorem dX10_three_11 : decode cX10_three 11 = .ok (.iconst 0, 1) := by decide +kernel
theorem dX10_three_12 : decode cX10_three 12 = .ok (.invokevirtual 128, 3) := by decide +kernel
theorem dX10_three_15 : decode cX10_three 15 = .ok (.ireturn, 1) := by decide +kernel
theorem dX10_three_16 : decode cX10_three 16 = .ok (.iload 4, 2) := by decide +kernel
theorem dX10_three_18 : decode cX10_three 18 = .ok (.ifCond .lt 9, 3) := by decide +kernel
theorem dX10_three_21 : decode cX10_three 21 = .ok (.iload 4, 2) := by decide +kernel
theorem dX10_three_23 : decode cX10_three 23 = .ok (.iconst 2, 1) := by decide +kernel
theorem dX10_three_24 : decode cX10_three 24 = .ok (.if_icmp .le 9, 3) := by decide +kernel
theorem dX10_three_27 : decode cX10_three 27 = .ok (.aload_n 0, 1) := by decide +kernel
theorem dX10_three_28 : decode cX10_three 28 = .ok (.iconst 1, 1) := by decide +kernel
theorem dX10_three_29 : decode cX10_three 29 = .ok (.invokevirtual 128, 3) := by decide +kernel
theorem dX10_three_32 : decode cX10_three 32 = .ok (.ireturn, 1) := by decide +kernel
theorem dX10_three_33 : decode cX10_three 33 = .ok (.aload_n 0, 1) := by decide +kernel
theorem dX10_three_34 : decode cX10_three 34 = .ok (.iload 4, 2) := by decide +kernel
theorem dX10_three_36 : decode cX10_three 36 = .ok (.invokevirtual 282, 3) := by decide +kernel
theorem dX10_three_39 : decode cX10_three 39 = .ok (.bipush 60, 2) := by decide +kernel
theorem dX10_three_41 : decode cX10_three 41 = .ok (.if_icmp .le 9, 3) := by decide +kernel
theorem dX10_three_44 : decode cX10_three 44 = .ok (.aload_n 0, 1) := by decide +kernel
theorem dX10_three_45 : decode cX10_three 45 = .ok (.iconst 3, 1) := by decide +kernel
theorem dX10_three_46 : decode cX10_three 46 = .ok (.invokevirtual 128, 3) := by decide +kernel
theorem dX10_three_49 : decode cX10_three 49 = .ok (.ireturn, 1) := by decide +kernel
theorem dX10_three_50 : decode cX10_three 50 = .ok (.aload_n 0, 1) := by decide +kernel
theorem dX10_three_51 : decode cX10_three 51 = .ok (.getfield 46, 3) := by decide +kernel
theorem dX10_three_54 : decode cX10_three 54 = .ok (.invokevirtual 124, 3) := by decide +kernel
theorem dX10_three_57 : decode cX10_three 57 = .ok (.ifCond .ne 9, 3) := by decide +kernel
theorem dX10_three_60 : decode cX10_three 60 = .ok (.aload_n 0, 1) := by decide +kernel
theorem dX10_three_61 : decode cX10_three 61 = .ok (.iconst 4, 1) := by decide +kernel
theorem dX10_three_62 : decode cX10_three 62 = .ok (.invokevirtual 128, 3) := by decide +kernel
theorem dX10_three_65 : decode cX10_three 65 = .ok (.ireturn, 1) := by decide +kernel
theorem dX10_three_66 : decode cX10_three 66 = .ok (.aload_n 0, 1) := by decide +kernel
theorem dX10_three_67 : decode cX10_three 67 = .ok (.getfield 46, 3) := by decide +kernel
theorem dX10_three_70 : decode cX10_three 70 = .ok (.aload_n 0, 1) := by decide +kernel
theorem dX10_three_71 : decode cX10_three 71 = .ok (.aload_n 0, 1) := by decide +kernel
theorem dX10_three_72 : decode cX10_three 72 = .ok (.getfield 46, 3) := by decide +kernel
theorem dX10_three_75 : decode cX10_three 75 = .ok (.iload_n 2, 1) := by decide +kernel
theorem dX10_three_76 : decode cX10_three 76 = .ok (.invokevirtual 165, 3) := by decide +kernel
theorem dX10_three_79 : decode cX10_three 79 = .ok (.iload 4, 2) := by decide +kernel
theorem dX10_three_81 : decode cX10_three 81 = .ok (.invokevirtual 285, 3) := by decide +kernel
theorem dX10_three_84 : decode cX10_three 84 = .ok (.iload_n 2, 1) := by decide +kernel
theorem dX10_three_85 : decode cX10_three 85 = .ok (.iload_n 3, 1) := by decide +kernel
theorem dX10_three_86 : decode cX10_three 86 = .ok (.invokevirtual 149, 3) := by decide +kernel
theorem dX10_three_89 : decode cX10_three 89 = .ok (.ireturn, 1) := by decide +kernel
theorem dX10_conflicts_0 : decode cX10_conflicts 0 = .ok (.aload_n 0, 1) := by decide +kernel
theorem dX10_conflicts_1 : decode cX10_conflicts 1 = .ok (.iload_n 1, 1) := by decide +kernel
theorem dX10_conflicts_2 : decode cX10_conflicts 2 = .ok (.iload_n 2, 1) := by decide +kernel
theorem dX10_conflicts_3 : decode cX10_conflicts 3 = .ok (.iload_n 3, 1) := by decide +kernel
theorem dX10_conflicts_4 : decode cX10_conflicts 4 = .ok (.invokevirtual 278, 3) := by decide +kernel
theorem dX10_conflicts_7 : decode cX10_conflicts 7 = .ok (.ifCond .ne 5, 3) := by decide +kernel
theorem dX10_conflicts_10 : decode cX10_conflicts 10 = .ok (.iconst (-1), 1) := by decide +kernel
theorem dX10_conflicts_11 : decode cX10_conflicts 11 = .ok (.ireturn, 1) := by decide +kernel
theorem dX10_conflicts_12 : decode cX10_conflicts 12 = .ok (.iconst 0, 1) := by decide +kernel
theorem dX10_conflicts_13 : decode cX10_conflicts 13 = .ok (.istore 4, 2) := by decide +kernel
theorem dX10_conflicts_15 : decode cX10_conflicts 15 = .ok (.aload_n 0, 1) := by decide +kernel
theorem dX10_conflicts_16 : decode cX10_conflicts 16 = .ok (.getfield 84, 3) := by decide +kernel
theorem dX10_conflicts_19 : decode cX10_conflicts 19 = .ok (.aload_n 0, 1) := by decide +kernel
theorem dX10_conflicts_20 : decode cX10_conflicts 20 = .ok (.getfield 81, 3) := by decide +kernel
theorem dX10_conflicts_23 : decode cX10_conflicts 23 = .ok (.iconst (-1), 1) := by decide +kernel
theorem dX10_conflicts_24 : decode cX10_conflicts 24 = .ok (.invokestatic 288, 3) := by decide +kernel
theorem dX10_conflicts_27 : decode cX10_conflicts 27 = .ok (.istore 5, 2) := by decide +kernel
theorem dX10_conflicts_29 : decode cX10_conflicts 29 = .ok (.iconst 0, 1) := by decide +kernel
theorem dX10_conflicts_30 : decode cX10_conflicts 30 = .ok (.istore 6, 2) := by decide +kernel
theorem dX10_conflicts_32 : decode cX10_conflicts 32 = .ok (.iload 6, 2) := by decide +kernel
theorem dX10_conflicts_34 : decode cX10_conflicts 34 = .ok (.sipush 1000, 3) := by decide +kernel
theorem dX10_conflicts_37 : decode cX10_conflicts 37 = .ok (.if_icmp .ge 42, 3) := by decide +kernel
theorem dX10_conflicts_40 : decode cX10_conflicts 40 = .ok (.iload 5, 2) := by decide +kernel
theorem dX10_conflicts_42 : decode cX10_conflicts 42 = .ok (.iconst (-1), 1) := by decide +kernel
theorem dX10_conflicts_43 : decode cX10_conflicts 43 = .ok (.if_icmp .eq 36, 3) := by decide +kernel
theorem dX10_conflicts_46 : decode cX10_conflicts 46 = .ok (.aload_n 0, 1) := by decide +kernel
theorem dX10_conflicts_47 : decode cX10_conflicts 47 = .ok (.iload 5, 2) := by decide +kernel
theorem dX10_conflicts_49 : decode cX10_conflicts 49 = .ok (.invokevirtual 292, 3) := by decide +kernel
theorem dX10_conflicts_52 : decode cX10_conflicts 52 = .ok (.ifCond .eq 6, 3) := by decide +kernel
theorem dX10_conflicts_55 : decode cX10_conflicts 55 = .ok (.iinc 4 1, 3) := by decide +kernel
theorem dX10_conflicts_58 : decode cX10_conflicts 58 = .ok (.aload_n 0, 1) := by decide +kernel
theorem dX10_conflicts_59 : decode cX10_conflicts 59 = .ok (.getfield 84, 3) := by decide +kernel
theorem dX10_conflicts_62 : decode cX10_conflicts 62 = .ok (.aload_n 0, 1) := by decide +kernel
theorem dX10_conflicts_63 : decode cX10_conflicts 63 = .ok (.getfield 81, 3) := by decide +kernel
theorem dX10_conflicts_66 : decode cX10_conflicts 66 = .ok (.iload 5, 2) := by decide +kernel
theorem dX10_conflicts_68 : decode cX10_conflicts 68 = .ok (.invokestatic 288, 3) := by decide +kernel
theorem dX10_conflicts_71 : decode cX10_conflicts 71 = .ok (.istore 5, 2) := by decide +kernel
theorem dX10_conflicts_73 : decode cX10_conflicts 73 = .ok (.iinc 6 1, 3) := by decide +kernel
theorem dX10_conflicts_76 : decode cX10_conflicts 76 = .ok (.goto (-44), 3) := by decide +kernel
theorem dX10_conflicts_79 : decode cX10_conflicts 79 = .ok (.iload 4, 2) := by decide +kernel
theorem dX10_conflicts_81 : decode cX10_conflicts 81 = .ok (.ireturn, 1) := by decide +kernel
theorem dX10_fillThree_0 : decode cX10_fillThree 0 = .ok (.aload_n 0, 1) := by decide +kernel
theorem dX10_fillThree_1 : decode cX10_fillThree 1 = .ok (.getfield 46, 3) := by decide +kernel
theorem dX10_fillThree_4 : decode cX10_fillThree 4 = .ok (.iload_n 1, 1) := by decide +kernel
theorem dX10_fillThree_5 : decode cX10_fillThree 5 = .ok (.invokevirtual 165, 3) := by decide +kernel
theorem dX10_fillThree_8 : decode cX10_fillThree 8 = .ok (.astore 4, 2) := by decide +kernel
theorem dX10_fillThree_10 : decode cX10_fillThree 10 = .ok (.aload 4, 2) := by decide +kernel
theorem dX10_fillThree_12 : decode cX10_fillThree 12 = .ok (.ifnull 12, 3) := by decide +kernel
theorem dX10_fillThree_15 : decode cX10_fillThree 15 = .ok (.aload_n 0, 1) := by decide +kernel
theorem dX10_fillThree_16 : decode cX10_fillThree 16 = .ok (.iload_n 2, 1) := by decide +kernel
theorem dX10_fillThree_17 : decode cX10_fillThree 17 = .ok (.iload_n 3, 1) := by decide +kernel
theorem dX10_fillThree_18 : decode cX10_fillThree 18 = .ok (.invokevirtual 295, 3) := by decide +kernel
theorem dX10_fillThree_21 : decode cX10_fillThree 21 = .ok (.ifCond .ne 5, 3) := by decide +kernel
theorem dX10_fillThree_24 : decode cX10_fillThree 24 = .ok (.iconst 0, 1) := by decide +kernel
theorem dX10_fillThree_25 : decode cX10_fillThree 25 = .ok (.ireturn, 1) := by decide +kernel
theorem dX10_fillThree_26 : decode cX10_fillThree 26 = .ok (.aload_n 0, 1) := by decide +kernel
theorem dX10_fillThree_27 : decode cX10_fillThree 27 = .ok (.getfield 84, 3) := by decide +kernel
theorem dX10_fillThree_30 : decode cX10_fillThree 30 = .ok (.aload 4, 2) := by decide +kernel
theorem dX10_fillThree_32 : decode cX10_fillThree 32 = .ok (.invokevirtual 173, 3) := by decide +kernel
theorem dX10_fillThree_35 : decode cX10_fillThree 35 = .ok (.iconst 1, 1) := by decide +kernel
theorem dX10_fillThree_36 : decode cX10_fillThree 36 = .ok (.ireturn, 1) := by decide +kernel
theorem dX10_isAsked_0 : decode cX10_isAsked 0 = .ok (.aload_n 0, 1) := by decide +kernel
theorem dX10_isAsked_1 : decode cX10_isAsked 1 = .ok (.getfield 81, 3) := by decide +kernel
theorem dX10_isAsked_4 : decode cX10_isAsked 4 = .ok (.iload_n 1, 1) := by decide +kernel
theorem dX10_isAsked_5 : decode cX10_isAsked 5 = .ok (.invokevirtual 263, 3) := by decide +kernel
theorem dX10_isAsked_8 : decode cX10_isAsked 8 = .ok (.istore_n 2, 1) := by decide +kernel
theorem dX10_isAsked_9 : decode cX10_isAsked 9 = .ok (.iload_n 2, 1) := by decide +kernel
theorem dX10_isAsked_10 : decode cX10_isAsked 10 = .ok (.aload_n 0, 1) := by decide +kernel
theorem dX10_isAsked_11 : decode cX10_isAsked 11 = .ok (.getfield 84, 3) := by decide +kernel
theorem dX10_isAsked_14 : decode cX10_isAsked 14 = .ok (.iload_n 1, 1) := by decide +kernel
theorem dX10_isAsked_15 : decode cX10_isAsked 15 = .ok (.invokevirtual 263, 3) := by decide +kernel
theorem dX10_isAsked_18 : decode cX10_isAsked 18 = .ok (.if_icmp .eq 19, 3) := by decide +kernel
theorem dX10_isAsked_21 : decode cX10_isAsked 21 = .ok (.iload_n 2, 1) := by decide +kernel
theorem dX10_isAsked_22 : decode cX10_isAsked 22 = .ok (.aload_n 0, 1) := by decide +kernel
theorem dX10_isAsked_23 : decode cX10_isAsked 23 = .ok (.getfield 77, 3) := by decide +kernel
theorem dX10_isAsked_26 : decode cX10_isAsked 26 = .ok (.iload_n 1, 1) := by decide +kernel
theorem dX10_isAsked_27 : decode cX10_isAsked 27 = .ok (.invokevirtual 263, 3) := by decide +kernel
theorem dX10_isAsked_30 : decode cX10_isAsked 30 = .ok (.if_icmp .eq 7, 3) := by decide +kernel
theorem dX10_isAsked_33 : decode cX10_isAsked 33 = .ok (.iconst 1, 1) := by decide +kernel
theorem dX10_isAsked_34 : decode cX10_isAsked 34 = .ok (.goto 4, 3) := by decide +kernel
theorem dX10_isAsked_37 : decode cX10_isAsked 37 = .ok (.iconst 0, 1) := by decide +kernel
theorem dX10_isAsked_38 : decode cX10_isAsked 38 = .ok (.ireturn, 1) := by decide +kernel
theorem dX10_isConflict_0 : decode cX10_isConflict 0 = .ok (.aload_n 0, 1) := by decide +kernel
theorem dX10_isConflict_1 : decode cX10_isConflict 1 = .ok (.iload_n 1, 1) := by decide +kernel
theorem dX10_isConflict_2 : decode cX10_isConflict 2 = .ok (.invokevirtual 298, 3) := by decide +kernel
theorem dX10_isConflict_5 : decode cX10_isConflict 5 = .ok (.ifCond .eq 26, 3) := by decide +kernel
theorem dX10_isConflict_8 : decode cX10_isConflict 8 = .ok (.aload_n 0, 1) := by decide +kernel
theorem dX10_isConflict_9 : decode cX10_isConflict 9 = .ok (.getfield 77, 3) := by decide +kernel
theorem dX10_isConflict_12 : decode cX10_isConflict 12 = .ok (.iload_n 1, 1) := by decide +kernel
theorem dX10_isConflict_13 : decode cX10_isConflict 13 = .ok (.invokevirtual 263, 3) := by decide +kernel
theorem dX10_isConflict_16 : decode cX10_isConflict 16 = .ok (.aload_n 0, 1) := by decide +kernel
theorem dX10_isConflict_17 : decode cX10_isConflict 17 = .ok (.getfield 84, 3) := by decide +kernel
theorem dX10_isConflict_20 : decode cX10_isConflict 20 = .ok (.iload_n 1, 1) := by decide +kernel
theorem dX10_isConflict_21 : decode cX10_isConflict 21 = .ok (.invokevirtual 263, 3) := by decide +kernel
theorem dX10_isConflict_24 : decode cX10_isConflict 24 = .ok (.if_icmp .eq 7, 3) := by decide +kernel
theorem dX10_isConflict_27 : decode cX10_isConflict 27 = .ok (.iconst 1, 1) := by decide +kernel
theorem dX10_isConflict_28 : decode cX10_isConflict 28 = .ok (.goto 4, 3) := by decide +kernel
theorem dX10_isConflict_31 : decode cX10_isConflict 31 = .ok (.iconst 0, 1) := by decide +kernel
theorem dX10_isConflict_32 : decode cX10_isConflict 32 = .ok (.ireturn, 1) := by decide +kernel
theorem dX10_valueOfThree_0 : decode cX10_valueOfThree 0 = .ok (.aload_n 0, 1) := by decide +kernel
theorem dX10_valueOfThree_1 : decode cX10_valueOfThree 1 = .ok (.iload_n 1, 1) := by decide +kernel
theorem dX10_valueOfThree_2 : decode cX10_valueOfThree 2 = .ok (.invokevirtual 298, 3) := by decide +kernel
theorem dX10_valueOfThree_5 : decode cX10_valueOfThree 5 = .ok (.ifCond .ne 12, 3) := by decide +kernel
theorem dX10_valueOfThree_8 : decode cX10_valueOfThree 8 = .ok (.aload_n 0, 1) := by decide +kernel
theorem dX10_valueOfThree_9 : decode cX10_valueOfThree 9 = .ok (.getfield 77, 3) := by decide +kernel
theorem dX10_valueOfThree_12 : decode cX10_valueOfThree 12 = .ok (.iload_n 1, 1) := by decide +kernel
theorem dX10_valueOfThree_13 : decode cX10_valueOfThree 13 = .ok (.invokevirtual 263, 3) := by decide +kernel
theorem dX10_valueOfThree_16 : decode cX10_valueOfThree 16 = .ok (.ireturn, 1) := by decide +kernel
theorem dX10_valueOfThree_17 : decode cX10_valueOfThree 17 = .ok (.iload_n 2, 1) := by decide +kernel
theorem dX10_valueOfThree_18 : decode cX10_valueOfThree 18 = .ok (.iconst 1, 1) := by decide +kernel
theorem dX10_valueOfThree_19 : decode cX10_valueOfThree 19 = .ok (.if_icmp .eq 11, 3) := by decide +kernel
theorem dX10_valueOfThree_22 : decode cX10_valueOfThree 22 = .ok (.aload_n 0, 1) := by decide +kernel
theorem dX10_valueOfThree_23 : decode cX10_valueOfThree 23 = .ok (.iload_n 1, 1) := by decide +kernel
theorem dX10_valueOfThree_24 : decode cX10_valueOfThree 24 = .ok (.invokevirtual 292, 3) := by decide +kernel
theorem dX10_valueOfThree_27 : decode cX10_valueOfThree 27 = .ok (.ifCond .ne 12, 3) := by decide +kernel
theorem dX10_valueOfThree_30 : decode cX10_valueOfThree 30 = .ok (.aload_n 0, 1) := by decide +kernel
theorem dX10_valueOfThree_31 : decode cX10_valueOfThree 31 = .ok (.getfield 81, 3) := by decide +kernel
theorem dX10_valueOfThree_34 : decode cX10_valueOfThree 34 = .ok (.iload_n 1, 1) := by decide +kernel
theorem dX10_valueOfThree_35 : decode cX10_valueOfThree 35 = .ok (.invokevirtual 263, 3) := by decide +kernel
theorem dX10_valueOfThree_38 : decode cX10_valueOfThree 38 = .ok (.ireturn, 1) := by decide +kernel
theorem dX10_valueOfThree_39 : decode cX10_valueOfThree 39 = .ok (.iload_n 2, 1) := by decide +kernel
theorem dX10_valueOfThree_40 : decode cX10_valueOfThree 40 = .ok (.ifCond .ne 14, 3) := by decide +kernel
theorem dX10_valueOfThree_43 : decode cX10_valueOfThree 43 = .ok (.aload_n 0, 1) := by decide +kernel
theorem dX10_valueOfThree_44 : decode cX10_valueOfThree 44 = .ok (.getfield 77, 3) := by decide +kernel
theorem dX10_valueOfThree_47 : decode cX10_valueOfThree 47 = .ok (.iload_n 1, 1) := by decide +kernel
theorem dX10_valueOfThree_48 : decode cX10_valueOfThree 48 = .ok (.invokevirtual 263, 3) := by decide +kernel
theorem dX10_valueOfThree_51 : decode cX10_valueOfThree 51 = .ok (.goto 11, 3) := by decide +kernel
theorem dX10_valueOfThree_54 : decode cX10_valueOfThree 54 = .ok (.aload_n 0, 1) := by decide +kernel
theorem dX10_valueOfThree_55 : decode cX10_valueOfThree 55 = .ok (.getfield 84, 3) := by decide +kernel
theorem dX10_valueOfThree_58 : decode cX10_valueOfThree 58 = .ok (.iload_n 1, 1) := by decide +kernel
theorem dX10_valueOfThree_59 : decode cX10_valueOfThree 59 = .ok (.invokevirtual 263, 3) := by decide +kernel
theorem dX10_valueOfThree_62 : decode cX10_valueOfThree 62 = .ok (.ireturn, 1) := by decide +kernel
theorem dX10_sizeOfThree_0 : decode cX10_sizeOfThree 0 = .ok (.aload_n 0, 1) := by decide +kernel
theorem dX10_sizeOfThree_1 : decode cX10_sizeOfThree 1 = .ok (.getfield 77, 3) := by decide +kernel
theorem dX10_sizeOfThree_4 : decode cX10_sizeOfThree 4 = .ok (.invokevirtual 138, 3) := by decide +kernel
theorem dX10_sizeOfThree_7 : decode cX10_sizeOfThree 7 = .ok (.istore_n 2, 1) := by decide +kernel
theorem dX10_sizeOfThree_8 : decode cX10_sizeOfThree 8 = .ok (.aload_n 0, 1) := by decide +kernel
theorem dX10_sizeOfThree_9 : decode cX10_sizeOfThree 9 = .ok (.getfield 84, 3) := by decide +kernel
theorem dX10_sizeOfThree_12 : decode cX10_sizeOfThree 12 = .ok (.aload_n 0, 1) := by decide +kernel
theorem dX10_sizeOfThree_13 : decode cX10_sizeOfThree 13 = .ok (.getfield 81, 3) := by decide +kernel
theorem dX10_sizeOfThree_16 : decode cX10_sizeOfThree 16 = .ok (.iconst (-1), 1) := by decide +kernel
theorem dX10_sizeOfThree_17 : decode cX10_sizeOfThree 17 = .ok (.invokestatic 288, 3) := by decide +kernel
theorem dX10_sizeOfThree_20 : decode cX10_sizeOfThree 20 = .ok (.istore_n 3, 1) := by decide +kernel
theorem dX10_sizeOfThree_21 : decode cX10_sizeOfThree 21 = .ok (.iconst 0, 1) := by decide +kernel
theorem dX10_sizeOfThree_22 : decode cX10_sizeOfThree 22 = .ok (.istore 4, 2) := by decide +kernel
theorem dX10_sizeOfThree_24 : decode cX10_sizeOfThree 24 = .ok (.iload 4, 2) := by decide +kernel
theorem dX10_sizeOfThree_26 : decode cX10_sizeOfThree 26 = .ok (.sipush 1000, 3) := by decide +kernel
theorem dX10_sizeOfThree_29 : decode cX10_sizeOfThree 29 = .ok (.if_icmp .ge 85, 3) := by decide +kernel
theorem dX10_sizeOfThree_32 : decode cX10_sizeOfThree 32 = .ok (.iload_n 3, 1) := by decide +kernel
theorem dX10_sizeOfThree_33 : decode cX10_sizeOfThree 33 = .ok (.iconst (-1), 1) := by decide +kernel
theorem dX10_sizeOfThree_34 : decode cX10_sizeOfThree 34 = .ok (.if_icmp .eq 80, 3) := by decide +kernel
theorem dX10_sizeOfThree_37 : decode cX10_sizeOfThree 37 = .ok (.aload_n 0, 1) := by decide +kernel
theorem dX10_sizeOfThree_38 : decode cX10_sizeOfThree 38 = .ok (.getfield 77, 3) := by decide +kernel
theorem dX10_sizeOfThree_41 : decode cX10_sizeOfThree 41 = .ok (.iload_n 3, 1) := by decide +kernel
theorem dX10_sizeOfThree_42 : decode cX10_sizeOfThree 42 = .ok (.invokevirtual 263, 3) := by decide +kernel
theorem dX10_sizeOfThree_45 : decode cX10_sizeOfThree 45 = .ok (.ldc 180, 2) := by decide +kernel
theorem dX10_sizeOfThree_47 : decode cX10_sizeOfThree 47 = .ok (.if_icmp .eq 7, 3) := by decide +kernel
theorem dX10_sizeOfThree_50 : decode cX10_sizeOfThree 50 = .ok (.iconst 1, 1) := by decide +kernel
theorem dX10_sizeOfThree_51 : decode cX10_sizeOfThree 51 = .ok (.goto 4, 3) := by decide +kernel
theorem dX10_sizeOfThree_54 : decode cX10_sizeOfThree 54 = .ok (.iconst 0, 1) := by decide +kernel
theorem dX10_sizeOfThree_55 : decode cX10_sizeOfThree 55 = .ok (.istore 5, 2) := by decide +kernel
theorem dX10_sizeOfThree_57 : decode cX10_sizeOfThree 57 = .ok (.aload_n 0, 1) := by decide +kernel
theorem dX10_sizeOfThree_58 : decode cX10_sizeOfThree 58 = .ok (.iload_n 3, 1) := by decide +kernel
theorem dX10_sizeOfThree_59 : decode cX10_sizeOfThree 59 = .ok (.iload_n 1, 1) := by decide +kernel
theorem dX10_sizeOfThree_60 : decode cX10_sizeOfThree 60 = .ok (.invokevirtual 301, 3) := by decide +kernel
theorem dX10_sizeOfThree_63 : decode cX10_sizeOfThree 63 = .ok (.ldc 180, 2) := by decide +kernel
theorem dX10_sizeOfThree_65 : decode cX10_sizeOfThree 65 = .ok (.if_icmp .eq 7, 3) := by decide +kernel
theorem dX10_sizeOfThree_68 : decode cX10_sizeOfThree 68 = .ok (.iconst 1, 1) := by decide +kernel
theorem dX10_sizeOfThree_69 : decode cX10_sizeOfThree 69 = .ok (.goto 4, 3) := by decide +kernel
theorem dX10_sizeOfThree_72 : decode cX10_sizeOfThree 72 = .ok (.iconst 0, 1) := by decide +kernel
theorem dX10_sizeOfThree_73 : decode cX10_sizeOfThree 73 = .ok (.istore 6, 2) := by decide +kernel
theorem dX10_sizeOfThree_75 : decode cX10_sizeOfThree 75 = .ok (.iload 5, 2) := by decide +kernel
theorem dX10_sizeOfThree_77 : decode cX10_sizeOfThree 77 = .ok (.iload 6, 2) := by decide +kernel
theorem dX10_sizeOfThree_79 : decode cX10_sizeOfThree 79 = .ok (.if_icmp .eq 16, 3) := by decide +kernel
theorem dX10_sizeOfThree_82 : decode cX10_sizeOfThree 82 = .ok (.iload_n 2, 1) := by decide +kernel
theorem dX10_sizeOfThree_83 : decode cX10_sizeOfThree 83 = .ok (.iload 6, 2) := by decide +kernel
theorem dX10_sizeOfThree_85 : decode cX10_sizeOfThree 85 = .ok (.ifCond .eq 7, 3) := by decide +kernel
theorem dX10_sizeOfThree_88 : decode cX10_sizeOfThree 88 = .ok (.iconst 1, 1) := by decide +kernel
theorem dX10_sizeOfThree_89 : decode cX10_sizeOfThree 89 = .ok (.goto 4, 3) := by decide +kernel
theorem dX10_sizeOfThree_92 : decode cX10_sizeOfThree 92 = .ok (.iconst (-1), 1) := by decide +kernel
theorem dX10_sizeOfThree_93 : decode cX10_sizeOfThree 93 = .ok (.iadd, 1) := by decide +kernel
theorem dX10_sizeOfThree_94 : decode cX10_sizeOfThree 94 = .ok (.istore_n 2, 1) := by decide +kernel
theorem dX10_sizeOfThree_95 : decode cX10_sizeOfThree 95 = .ok (.aload_n 0, 1) := by decide +kernel
theorem dX10_sizeOfThree_96 : decode cX10_sizeOfThree 96 = .ok (.getfield 84, 3) := by decide +kernel
theorem dX10_sizeOfThree_99 : decode cX10_sizeOfThree 99 = .ok (.aload_n 0, 1) := by decide +kernel
theorem dX10_sizeOfThree_100 : decode cX10_sizeOfThree 100 = .ok (.getfield 81, 3) := by decide +kernel
theorem dX10_sizeOfThree_103 : decode cX10_sizeOfThree 103 = .ok (.iload_n 3, 1) := by decide +kernel
theorem dX10_sizeOfThree_104 : decode cX10_sizeOfThree 104 = .ok (.invokestatic 288, 3) := by decide +kernel
theorem dX10_sizeOfThree_107 : decode cX10_sizeOfThree 107 = .ok (.istore_n 3, 1) := by decide +kernel
theorem dX10_sizeOfThree_108 : decode cX10_sizeOfThree 108 = .ok (.iinc 4 1, 3) := by decide +kernel
theorem dX10_sizeOfThree_111 : decode cX10_sizeOfThree 111 = .ok (.goto (-87), 3) := by decide +kernel
theorem dX10_sizeOfThree_114 : decode cX10_sizeOfThree 114 = .ok (.iload_n 2, 1) := by decide +kernel
theorem dX10_sizeOfThree_115 : decode cX10_sizeOfThree 115 = .ok (.ireturn, 1) := by decide +kernel
theorem dX10_rootOfThree_0 : decode cX10_rootOfThree 0 = .ok (.aload_n 0, 1) := by decide +kernel
theorem dX10_rootOfThree_1 : decode cX10_rootOfThree 1 = .ok (.getfield 39, 3) := by decide +kernel
theorem dX10_rootOfThree_4 : decode cX10_rootOfThree 4 = .ok (.invokevirtual 131, 3) := by decide +kernel
theorem dX10_rootOfThree_7 : decode cX10_rootOfThree 7 = .ok (.istore_n 3, 1) := by decide +kernel
theorem dX10_rootOfThree_8 : decode cX10_rootOfThree 8 = .ok (.aload_n 1, 1) := by decide +kernel
theorem dX10_rootOfThree_9 : decode cX10_rootOfThree 9 = .ok (.astore 4, 2) := by decide +kernel
theorem dX10_rootOfThree_11 : decode cX10_rootOfThree 11 = .ok (.aload_n 0, 1) := by decide +kernel
theorem dX10_rootOfThree_12 : decode cX10_rootOfThree 12 = .ok (.getfield 84, 3) := by decide +kernel
theorem dX10_rootOfThree_15 : decode cX10_rootOfThree 15 = .ok (.aload_n 0, 1) := by decide +kernel
theorem dX10_rootOfThree_16 : decode cX10_rootOfThree 16 = .ok (.getfield 81, 3) := by decide +kernel
theorem dX10_rootOfThree_19 : decode cX10_rootOfThree 19 = .ok (.iconst (-1), 1) := by decide +kernel
theorem dX10_rootOfThree_20 : decode cX10_rootOfThree 20 = .ok (.invokestatic 288, 3) := by decide +kernel
theorem dX10_rootOfThree_23 : decode cX10_rootOfThree 23 = .ok (.istore 5, 2) := by decide +kernel
theorem dX10_rootOfThree_25 : decode cX10_rootOfThree 25 = .ok (.iconst 0, 1) := by decide +kernel
theorem dX10_rootOfThree_26 : decode cX10_rootOfThree 26 = .ok (.istore 6, 2) := by decide +kernel
theorem dX10_rootOfThree_28 : decode cX10_rootOfThree 28 = .ok (.iload 6, 2) := by decide +kernel
theorem dX10_rootOfThree_30 : decode cX10_rootOfThree 30 = .ok (.sipush 1000, 3) := by decide +kernel
theorem dX10_rootOfThree_33 : decode cX10_rootOfThree 33 = .ok (.if_icmp .ge 77, 3) := by decide +kernel
theorem dX10_rootOfThree_36 : decode cX10_rootOfThree 36 = .ok (.iload 5, 2) := by decide +kernel
theorem dX10_rootOfThree_38 : decode cX10_rootOfThree 38 = .ok (.iconst (-1), 1) := by decide +kernel
theorem dX10_rootOfThree_39 : decode cX10_rootOfThree 39 = .ok (.if_icmp .eq 71, 3) := by decide +kernel
theorem dX10_rootOfThree_42 : decode cX10_rootOfThree 42 = .ok (.aload_n 0, 1) := by decide +kernel
theorem dX10_rootOfThree_43 : decode cX10_rootOfThree 43 = .ok (.iload 5, 2) := by decide +kernel
theorem dX10_rootOfThree_45 : decode cX10_rootOfThree 45 = .ok (.iload_n 2, 1) := by decide +kernel
theorem dX10_rootOfThree_46 : decode cX10_rootOfThree 46 = .ok (.invokevirtual 301, 3) := by decide +kernel
theorem dX10_rootOfThree_49 : decode cX10_rootOfThree 49 = .ok (.istore 7, 2) := by decide +kernel
theorem dX10_rootOfThree_51 : decode cX10_rootOfThree 51 = .ok (.iload 7, 2) := by decide +kernel
theorem dX10_rootOfThree_53 : decode cX10_rootOfThree 53 = .ok (.ldc 180, 2) := by decide +kernel
theorem dX10_rootOfThree_55 : decode cX10_rootOfThree 55 = .ok (.if_icmp .ne 18, 3) := by decide +kernel
theorem dX10_rootOfThree_58 : decode cX10_rootOfThree 58 = .ok (.aload_n 0, 1) := by decide +kernel
theorem dX10_rootOfThree_59 : decode cX10_rootOfThree 59 = .ok (.getfield 39, 3) := by decide +kernel
theorem dX10_rootOfThree_62 : decode cX10_rootOfThree 62 = .ok (.aload 4, 2) := by decide +kernel
theorem dX10_rootOfThree_64 : decode cX10_rootOfThree 64 = .ok (.iload_n 3, 1) := by decide +kernel
theorem dX10_rootOfThree_65 : decode cX10_rootOfThree 65 = .ok (.iload 5, 2) := by decide +kernel
theorem dX10_rootOfThree_67 : decode cX10_rootOfThree 67 = .ok (.invokevirtual 245, 3) := by decide +kernel
theorem dX10_rootOfThree_70 : decode cX10_rootOfThree 70 = .ok (.goto 17, 3) := by decide +kernel
theorem dX10_rootOfThree_73 : decode cX10_rootOfThree 73 = .ok (.aload_n 0, 1) := by decide +kernel
theorem dX10_rootOfThree_74 : decode cX10_rootOfThree 74 = .ok (.getfield 39, 3) := by decide +kernel
theorem dX10_rootOfThree_77 : decode cX10_rootOfThree 77 = .ok (.aload 4, 2) := by decide +kernel
theorem dX10_rootOfThree_79 : decode cX10_rootOfThree 79 = .ok (.iload_n 3, 1) := by decide +kernel
theorem dX10_rootOfThree_80 : decode cX10_rootOfThree 80 = .ok (.iload 5, 2) := by decide +kernel
theorem dX10_rootOfThree_82 : decode cX10_rootOfThree 82 = .ok (.iload 7, 2) := by decide +kernel
theorem dX10_rootOfThree_84 : decode cX10_rootOfThree 84 = .ok (.invokevirtual 145, 3) := by decide +kernel
theorem dX10_rootOfThree_87 : decode cX10_rootOfThree 87 = .ok (.astore 4, 2) := by decide +kernel
theorem dX10_rootOfThree_89 : decode cX10_rootOfThree 89 = .ok (.aload_n 0, 1) := by decide +kernel
theorem dX10_rootOfThree_90 : decode cX10_rootOfThree 90 = .ok (.getfield 84, 3) := by decide +kernel
theorem dX10_rootOfThree_93 : decode cX10_rootOfThree 93 = .ok (.aload_n 0, 1) := by decide +kernel
theorem dX10_rootOfThree_94 : decode cX10_rootOfThree 94 = .ok (.getfield 81, 3) := by decide +kernel
theorem dX10_rootOfThree_97 : decode cX10_rootOfThree 97 = .ok (.iload 5, 2) := by decide +kernel
theorem dX10_rootOfThree_99 : decode cX10_rootOfThree 99 = .ok (.invokestatic 288, 3) := by decide +kernel
theorem dX10_rootOfThree_102 : decode cX10_rootOfThree 102 = .ok (.istore 5, 2) := by decide +kernel
theorem dX10_rootOfThree_104 : decode cX10_rootOfThree 104 = .ok (.iinc 6 1, 3) := by decide +kernel
theorem dX10_rootOfThree_107 : decode cX10_rootOfThree 107 = .ok (.goto (-79), 3) := by decide +kernel
theorem dX10_rootOfThree_110 : decode cX10_rootOfThree 110 = .ok (.aload 4, 2) := by decide +kernel
theorem dX10_rootOfThree_112 : decode cX10_rootOfThree 112 = .ok (.areturn, 1) := by decide +kernel
theorem dX10_slice_0 : decode cX10_slice 0 = .ok (.aload_n 0, 1) := by decide +kernel
theorem dX10_slice_1 : decode cX10_slice 1 = .ok (.getfield 46, 3) := by decide +kernel
theorem dX10_slice_4 : decode cX10_slice 4 = .ok (.iload_n 1, 1) := by decide +kernel
theorem dX10_slice_5 : decode cX10_slice 5 = .ok (.invokevirtual 165, 3) := by decide +kernel
theorem dX10_slice_8 : decode cX10_slice 8 = .ok (.astore 4, 2) := by decide +kernel
theorem dX10_slice_10 : decode cX10_slice 10 = .ok (.aload 4, 2) := by decide +kernel
theorem dX10_slice_12 : decode cX10_slice 12 = .ok (.ifnonnull 9, 3) := by decide +kernel
theorem dX10_slice_15 : decode cX10_slice 15 = .ok (.aload_n 0, 1) := by decide +kernel
theorem dX10_slice_16 : decode cX10_slice 16 = .ok (.iconst 0, 1) := by decide +kernel
theorem dX10_slice_17 : decode cX10_slice 17 = .ok (.invokevirtual 128, 3) := by decide +kernel
theorem dX10_slice_20 : decode cX10_slice 20 = .ok (.ireturn, 1) := by decide +kernel
theorem dX10_slice_21 : decode cX10_slice 21 = .ok (.iload_n 2, 1) := by decide +kernel
theorem dX10_slice_22 : decode cX10_slice 22 = .ok (.iload_n 3, 1) := by decide +kernel
theorem dX10_slice_23 : decode cX10_slice 23 = .ok (.invokestatic 304, 3) := by decide +kernel
theorem dX10_slice_26 : decode cX10_slice 26 = .ok (.ifCond .ne 9, 3) := by decide +kernel
theorem dX10_slice_29 : decode cX10_slice 29 = .ok (.aload_n 0, 1) := by decide +kernel
theorem dX10_slice_30 : decode cX10_slice 30 = .ok (.iconst 1, 1) := by decide +kernel
theorem dX10_slice_31 : decode cX10_slice 31 = .ok (.invokevirtual 128, 3) := by decide +kernel
theorem dX10_slice_34 : decode cX10_slice 34 = .ok (.ireturn, 1) := by decide +kernel
theorem dX10_slice_35 : decode cX10_slice 35 = .ok (.aload_n 0, 1) := by decide +kernel
theorem dX10_slice_36 : decode cX10_slice 36 = .ok (.getfield 46, 3) := by decide +kernel
theorem dX10_slice_39 : decode cX10_slice 39 = .ok (.invokevirtual 124, 3) := by decide +kernel
theorem dX10_slice_42 : decode cX10_slice 42 = .ok (.ifCond .ne 9, 3) := by decide +kernel
theorem dX10_slice_45 : decode cX10_slice 45 = .ok (.aload_n 0, 1) := by decide +kernel
theorem dX10_slice_46 : decode cX10_slice 46 = .ok (.iconst 4, 1) := by decide +kernel
theorem dX10_slice_47 : decode cX10_slice 47 = .ok (.invokevirtual 128, 3) := by decide +kernel
theorem dX10_slice_50 : decode cX10_slice 50 = .ok (.ireturn, 1) := by decide +kernel
theorem dX10_slice_51 : decode cX10_slice 51 = .ok (.aload_n 0, 1) := by decide +kernel
theorem dX10_slice_52 : decode cX10_slice 52 = .ok (.getfield 39, 3) := by decide +kernel
theorem dX10_slice_55 : decode cX10_slice 55 = .ok (.invokevirtual 131, 3) := by decide +kernel
theorem dX10_slice_58 : decode cX10_slice 58 = .ok (.istore 5, 2) := by decide +kernel
theorem dX10_slice_60 : decode cX10_slice 60 = .ok (.aload_n 0, 1) := by decide +kernel
theorem dX10_slice_61 : decode cX10_slice 61 = .ok (.getfield 77, 3) := by decide +kernel
theorem dX10_slice_64 : decode cX10_slice 64 = .ok (.aload 4, 2) := by decide +kernel
theorem dX10_slice_66 : decode cX10_slice 66 = .ok (.invokevirtual 173, 3) := by decide +kernel
theorem dX10_slice_69 : decode cX10_slice 69 = .ok (.iconst 0, 1) := by decide +kernel
theorem dX10_slice_70 : decode cX10_slice 70 = .ok (.istore 6, 2) := by decide +kernel
theorem dX10_slice_72 : decode cX10_slice 72 = .ok (.iload 6, 2) := by decide +kernel
theorem dX10_slice_74 : decode cX10_slice 74 = .ok (.aload_n 0, 1) := by decide +kernel
theorem dX10_slice_75 : decode cX10_slice 75 = .ok (.getfield 77, 3) := by decide +kernel
theorem dX10_slice_78 : decode cX10_slice 78 = .ok (.invokevirtual 138, 3) := by decide +kernel
theorem dX10_slice_81 : decode cX10_slice 81 = .ok (.if_icmp .ge 47, 3) := by decide +kernel
theorem dX10_slice_84 : decode cX10_slice 84 = .ok (.aload_n 0, 1) := by decide +kernel
theorem dX10_slice_85 : decode cX10_slice 85 = .ok (.getfield 77, 3) := by decide +kernel
theorem dX10_slice_88 : decode cX10_slice 88 = .ok (.iload 6, 2) := by decide +kernel
theorem dX10_slice_90 : decode cX10_slice 90 = .ok (.invokevirtual 139, 3) := by decide +kernel
theorem dX10_slice_93 : decode cX10_slice 93 = .ok (.istore 7, 2) := by decide +kernel
theorem dX10_slice_95 : decode cX10_slice 95 = .ok (.iload 7, 2) := by decide +kernel
theorem dX10_slice_97 : decode cX10_slice 97 = .ok (.iload_n 2, 1) := by decide +kernel
theorem dX10_slice_98 : decode cX10_slice 98 = .ok (.if_icmp .lt 9, 3) := by decide +kernel
theorem dX10_slice_101 : decode cX10_slice 101 = .ok (.iload 7, 2) := by decide +kernel
theorem dX10_slice_103 : decode cX10_slice 103 = .ok (.iload_n 3, 1) := by decide +kernel
theorem dX10_slice_104 : decode cX10_slice 104 = .ok (.if_icmp .le 18, 3) := by decide +kernel
theorem dX10_slice_107 : decode cX10_slice 107 = .ok (.aload_n 0, 1) := by decide +kernel
theorem dX10_slice_108 : decode cX10_slice 108 = .ok (.getfield 39, 3) := by decide +kernel
theorem dX10_slice_111 : decode cX10_slice 111 = .ok (.aload 4, 2) := by decide +kernel
theorem dX10_slice_113 : decode cX10_slice 113 = .ok (.iload 5, 2) := by decide +kernel
theorem dX10_slice_115 : decode cX10_slice 115 = .ok (.iload 7, 2) := by decide +kernel
theorem dX10_slice_117 : decode cX10_slice 117 = .ok (.invokevirtual 245, 3) := by decide +kernel
theorem dX10_slice_120 : decode cX10_slice 120 = .ok (.astore 4, 2) := by decide +kernel
theorem dX10_slice_122 : decode cX10_slice 122 = .ok (.iinc 6 1, 3) := by decide +kernel
theorem dX10_slice_125 : decode cX10_slice 125 = .ok (.goto (-53), 3) := by decide +kernel
theorem dX10_slice_128 : decode cX10_slice 128 = .ok (.aload_n 0, 1) := by decide +kernel
theorem dX10_slice_129 : decode cX10_slice 129 = .ok (.getfield 46, 3) := by decide +kernel
theorem dX10_slice_132 : decode cX10_slice 132 = .ok (.aload 4, 2) := by decide +kernel
theorem dX10_slice_134 : decode cX10_slice 134 = .ok (.iload_n 1, 1) := by decide +kernel
theorem dX10_slice_135 : decode cX10_slice 135 = .ok (.iconst (-1), 1) := by decide +kernel
theorem dX10_slice_136 : decode cX10_slice 136 = .ok (.invokevirtual 149, 3) := by decide +kernel
theorem dX10_slice_139 : decode cX10_slice 139 = .ok (.ireturn, 1) := by decide +kernel
theorem dX10_drop_0 : decode cX10_drop 0 = .ok (.aload_n 0, 1) := by decide +kernel
theorem dX10_drop_1 : decode cX10_drop 1 = .ok (.getfield 46, 3) := by decide +kernel
theorem dX10_drop_4 : decode cX10_drop 4 = .ok (.iload_n 1, 1) := by decide +kernel
theorem dX10_drop_5 : decode cX10_drop 5 = .ok (.invokevirtual 165, 3) := by decide +kernel
theorem dX10_drop_8 : decode cX10_drop 8 = .ok (.ifnonnull 9, 3) := by decide +kernel
theorem dX10_drop_11 : decode cX10_drop 11 = .ok (.aload_n 0, 1) := by decide +kernel
theorem dX10_drop_12 : decode cX10_drop 12 = .ok (.iconst 0, 1) := by decide +kernel
theorem dX10_drop_13 : decode cX10_drop 13 = .ok (.invokevirtual 128, 3) := by decide +kernel
theorem dX10_drop_16 : decode cX10_drop 16 = .ok (.ireturn, 1) := by decide +kernel
theorem dX10_drop_17 : decode cX10_drop 17 = .ok (.aload_n 0, 1) := by decide +kernel
theorem dX10_drop_18 : decode cX10_drop 18 = .ok (.getfield 46, 3) := by decide +kernel
theorem dX10_drop_21 : decode cX10_drop 21 = .ok (.iload_n 1, 1) := by decide +kernel
theorem dX10_drop_22 : decode cX10_drop 22 = .ok (.invokevirtual 307, 3) := by decide +kernel
theorem dX10_drop_25 : decode cX10_drop 25 = .ok (.aload_n 0, 1) := by decide +kernel
theorem dX10_drop_26 : decode cX10_drop 26 = .ok (.getfield 46, 3) := by decide +kernel
theorem dX10_drop_29 : decode cX10_drop 29 = .ok (.invokevirtual 310, 3) := by decide +kernel
theorem dX10_drop_32 : decode cX10_drop 32 = .ok (.ireturn, 1) := by decide +kernel
theorem dX10_build_0 : decode cX10_build 0 = .ok (.aload_n 0, 1) := by decide +kernel
theorem dX10_build_1 : decode cX10_build 1 = .ok (.iload_n 1, 1) := by decide +kernel
theorem dX10_build_2 : decode cX10_build 2 = .ok (.invokevirtual 313, 3) := by decide +kernel
theorem dX10_build_5 : decode cX10_build 5 = .ok (.astore_n 3, 1) := by decide +kernel
theorem dX10_build_6 : decode cX10_build 6 = .ok (.aload_n 0, 1) := by decide +kernel
theorem dX10_build_7 : decode cX10_build 7 = .ok (.getfield 46, 3) := by decide +kernel
theorem dX10_build_10 : decode cX10_build 10 = .ok (.iload_n 2, 1) := by decide +kernel
theorem dX10_build_11 : decode cX10_build 11 = .ok (.invokevirtual 165, 3) := by decide +kernel
theorem dX10_build_14 : decode cX10_build 14 = .ok (.astore 4, 2) := by decide +kernel
theorem dX10_build_16 : decode cX10_build 16 = .ok (.aload_n 3, 1) := by decide +kernel
theorem dX10_build_17 : decode cX10_build 17 = .ok (.ifnull 8, 3) := by decide +kernel
theorem dX10_build_20 : decode cX10_build 20 = .ok (.aload 4, 2) := by decide +kernel
theorem dX10_build_22 : decode cX10_build 22 = .ok (.ifnonnull 9, 3) := by decide +kernel
theorem dX10_build_25 : decode cX10_build 25 = .ok (.aload_n 0, 1) := by decide +kernel
theorem dX10_build_26 : decode cX10_build 26 = .ok (.iconst 0, 1) := by decide +kernel
theorem dX10_build_27 : decode cX10_build 27 = .ok (.invokevirtual 128, 3) := by decide +kernel
theorem dX10_build_30 : decode cX10_build 30 = .ok (.ireturn, 1) := by decide +kernel
theorem dX10_build_31 : decode cX10_build 31 = .ok (.aload_n 3, 1) := by decide +kernel
theorem dX10_build_32 : decode cX10_build 32 = .ok (.aload 4, 2) := by decide +kernel
theorem dX10_build_34 : decode cX10_build 34 = .ok (.aload_n 0, 1) := by decide +kernel
theorem dX10_build_35 : decode cX10_build 35 = .ok (.getfield 39, 3) := by decide +kernel
theorem dX10_build_38 : decode cX10_build 38 = .ok (.invokevirtual 131, 3) := by decide +kernel
theorem dX10_build_41 : decode cX10_build 41 = .ok (.iload_n 2, 1) := by decide +kernel
theorem dX10_build_42 : decode cX10_build 42 = .ok (.invokevirtual 317, 3) := by decide +kernel
theorem dX10_build_45 : decode cX10_build 45 = .ok (.aload_n 0, 1) := by decide +kernel
theorem dX10_build_46 : decode cX10_build 46 = .ok (.getfield 90, 3) := by decide +kernel
theorem dX10_build_49 : decode cX10_build 49 = .ok (.aload 4, 2) := by decide +kernel
theorem dX10_build_51 : decode cX10_build 51 = .ok (.invokevirtual 181, 3) := by decide +kernel
theorem dX10_build_54 : decode cX10_build 54 = .ok (.aload_n 0, 1) := by decide +kernel
theorem dX10_build_55 : decode cX10_build 55 = .ok (.getfield 90, 3) := by decide +kernel
theorem dX10_build_58 : decode cX10_build 58 = .ok (.invokevirtual 185, 3) := by decide +kernel
theorem dX10_build_61 : decode cX10_build 61 = .ok (.ireturn, 1) := by decide +kernel
theorem dX10_lay_0 : decode cX10_lay 0 = .ok (.aload_n 0, 1) := by decide +kernel
theorem dX10_lay_1 : decode cX10_lay 1 = .ok (.iload_n 1, 1) := by decide +kernel
theorem dX10_lay_2 : decode cX10_lay 2 = .ok (.invokevirtual 313, 3) := by decide +kernel
theorem dX10_lay_5 : decode cX10_lay 5 = .ok (.astore 4, 2) := by decide +kernel
theorem dX10_lay_7 : decode cX10_lay 7 = .ok (.aload 4, 2) := by decide +kernel
theorem dX10_lay_9 : decode cX10_lay 9 = .ok (.iload_n 2, 1) := by decide +kernel
theorem dX10_lay_10 : decode cX10_lay 10 = .ok (.invokestatic 235, 3) := by decide +kernel
theorem dX10_lay_13 : decode cX10_lay 13 = .ok (.ifCond .eq 14, 3) := by decide +kernel
theorem dX10_lay_16 : decode cX10_lay 16 = .ok (.iload_n 3, 1) := by decide +kernel
theorem dX10_lay_17 : decode cX10_lay 17 = .ok (.invokestatic 238, 3) := by decide +kernel
theorem dX10_lay_20 : decode cX10_lay 20 = .ok (.ifCond .eq 7, 3) := by decide +kernel
theorem dX10_lay_23 : decode cX10_lay 23 = .ok (.iconst 1, 1) := by decide +kernel
theorem dX10_lay_24 : decode cX10_lay 24 = .ok (.goto 4, 3) := by decide +kernel
theorem dX10_lay_27 : decode cX10_lay 27 = .ok (.iconst 0, 1) := by decide +kernel
theorem dX10_lay_28 : decode cX10_lay 28 = .ok (.invokestatic 320, 3) := by decide +kernel
theorem dX10_lay_31 : decode cX10_lay 31 = .ok (.istore 5, 2) := by decide +kernel
theorem dX10_lay_33 : decode cX10_lay 33 = .ok (.aload 4, 2) := by decide +kernel
theorem dX10_lay_35 : decode cX10_lay 35 = .ok (.ifnull 9, 3) := by decide +kernel
theorem dX10_lay_38 : decode cX10_lay 38 = .ok (.iload 5, 2) := by decide +kernel
theorem dX10_lay_40 : decode cX10_lay 40 = .ok (.iconst (-1), 1) := by decide +kernel
theorem dX10_lay_41 : decode cX10_lay 41 = .ok (.if_icmp .eq 10, 3) := by decide +kernel
theorem dX10_lay_44 : decode cX10_lay 44 = .ok (.aload_n 0, 1) := by decide +kernel
theorem dX10_lay_45 : decode cX10_lay 45 = .ok (.iload 5, 2) := by decide +kernel
theorem dX10_lay_47 : decode cX10_lay 47 = .ok (.invokevirtual 128, 3) := by decide +kernel
theorem dX10_lay_50 : decode cX10_lay 50 = .ok (.ireturn, 1) := by decide +kernel
theorem dX10_lay_51 : decode cX10_lay 51 = .ok (.aload_n 0, 1) := by decide +kernel
theorem dX10_lay_52 : decode cX10_lay 52 = .ok (.getfield 39, 3) := by decide +kernel
theorem dX10_lay_55 : decode cX10_lay 55 = .ok (.invokevirtual 324, 3) := by decide +kernel
theorem dX10_lay_58 : decode cX10_lay 58 = .ok (.istore 6, 2) := by decide +kernel
theorem dX10_lay_60 : decode cX10_lay 60 = .ok (.aload_n 0, 1) := by decide +kernel
theorem dX10_lay_61 : decode cX10_lay 61 = .ok (.aload 4, 2) := by decide +kernel
theorem dX10_lay_63 : decode cX10_lay 63 = .ok (.iload_n 2, 1) := by decide +kernel
theorem dX10_lay_64 : decode cX10_lay 64 = .ok (.iload_n 3, 1) := by decide +kernel
theorem dX10_lay_65 : decode cX10_lay 65 = .ok (.invokevirtual 327, 3) := by decide +kernel
theorem dX10_lay_68 : decode cX10_lay 68 = .ok (.ifCond .eq 16, 3) := by decide +kernel
theorem dX10_lay_71 : decode cX10_lay 71 = .ok (.aload_n 0, 1) := by decide +kernel
theorem dX10_lay_72 : decode cX10_lay 72 = .ok (.getfield 39, 3) := by decide +kernel
theorem dX10_lay_75 : decode cX10_lay 75 = .ok (.invokevirtual 324, 3) := by decide +kernel
theorem dX10_lay_78 : decode cX10_lay 78 = .ok (.iload 6, 2) := by decide +kernel
theorem dX10_lay_80 : decode cX10_lay 80 = .ok (.isub, 1) := by decide +kernel
theorem dX10_lay_81 : decode cX10_lay 81 = .ok (.goto 8, 3) := by decide +kernel
theorem dX10_lay_84 : decode cX10_lay 84 = .ok (.aload_n 0, 1) := by decide +kernel
theorem dX10_lay_85 : decode cX10_lay 85 = .ok (.iconst 3, 1) := by decide +kernel
theorem dX10_lay_86 : decode cX10_lay 86 = .ok (.invokevirtual 128, 3) := by decide +kernel
theorem dX10_lay_89 : decode cX10_lay 89 = .ok (.ireturn, 1) := by decide +kernel
theorem dX10_take_0 : decode cX10_take 0 = .ok (.aload_n 0, 1) := by decide +kernel
theorem dX10_take_1 : decode cX10_take 1 = .ok (.iload_n 1, 1) := by decide +kernel
theorem dX10_take_2 : decode cX10_take 2 = .ok (.invokevirtual 313, 3) := by decide +kernel
theorem dX10_take_5 : decode cX10_take 5 = .ok (.astore_n 3, 1) := by decide +kernel
theorem dX10_take_6 : decode cX10_take 6 = .ok (.aload_n 3, 1) := by decide +kernel
theorem dX10_take_7 : decode cX10_take 7 = .ok (.iload_n 2, 1) := by decide +kernel
theorem dX10_take_8 : decode cX10_take 8 = .ok (.invokestatic 235, 3) := by decide +kernel
theorem dX10_take_11 : decode cX10_take 11 = .ok (.invokestatic 320, 3) := by decide +kernel
theorem dX10_take_14 : decode cX10_take 14 = .ok (.istore 4, 2) := by decide +kernel
theorem dX10_take_16 : decode cX10_take 16 = .ok (.aload_n 3, 1) := by decide +kernel
theorem dX10_take_17 : decode cX10_take 17 = .ok (.ifnull 9, 3) := by decide +kernel
theorem dX10_take_20 : decode cX10_take 20 = .ok (.iload 4, 2) := by decide +kernel
theorem dX10_take_22 : decode cX10_take 22 = .ok (.iconst (-1), 1) := by decide +kernel
theorem dX10_take_23 : decode cX10_take 23 = .ok (.if_icmp .eq 10, 3) := by decide +kernel
theorem dX10_take_26 : decode cX10_take 26 = .ok (.aload_n 0, 1) := by decide +kernel
theorem dX10_take_27 : decode cX10_take 27 = .ok (.iload 4, 2) := by decide +kernel
theorem dX10_take_29 : decode cX10_take 29 = .ok (.invokevirtual 128, 3) := by decide +kernel
theorem dX10_take_32 : decode cX10_take 32 = .ok (.ireturn, 1) := by decide +kernel
theorem dX10_take_33 : decode cX10_take 33 = .ok (.aload_n 0, 1) := by decide +kernel
theorem dX10_take_34 : decode cX10_take 34 = .ok (.getfield 39, 3) := by decide +kernel
theorem dX10_take_37 : decode cX10_take 37 = .ok (.invokevirtual 324, 3) := by decide +kernel
theorem dX10_take_40 : decode cX10_take 40 = .ok (.istore 5, 2) := by decide +kernel
theorem dX10_take_42 : decode cX10_take 42 = .ok (.aload_n 0, 1) := by decide +kernel
theorem dX10_take_43 : decode cX10_take 43 = .ok (.aload_n 3, 1) := by decide +kernel
theorem dX10_take_44 : decode cX10_take 44 = .ok (.iload_n 2, 1) := by decide +kernel
theorem dX10_take_45 : decode cX10_take 45 = .ok (.iload_n 2, 1) := by decide +kernel
theorem dX10_take_46 : decode cX10_take 46 = .ok (.invokevirtual 331, 3) := by decide +kernel
theorem dX10_take_49 : decode cX10_take 49 = .ok (.aload_n 0, 1) := by decide +kernel
theorem dX10_take_50 : decode cX10_take 50 = .ok (.getfield 39, 3) := by decide +kernel
theorem dX10_take_53 : decode cX10_take 53 = .ok (.invokevirtual 324, 3) := by decide +kernel
theorem dX10_take_56 : decode cX10_take 56 = .ok (.iload 5, 2) := by decide +kernel
theorem dX10_take_58 : decode cX10_take 58 = .ok (.isub, 1) := by decide +kernel
theorem dX10_take_59 : decode cX10_take 59 = .ok (.ireturn, 1) := by decide +kernel
theorem dX10_add_0 : decode cX10_add 0 = .ok (.aload_n 0, 1) := by decide +kernel
theorem dX10_add_1 : decode cX10_add 1 = .ok (.iload_n 1, 1) := by decide +kernel
theorem dX10_add_2 : decode cX10_add 2 = .ok (.invokevirtual 313, 3) := by decide +kernel
theorem dX10_add_5 : decode cX10_add 5 = .ok (.astore 4, 2) := by decide +kernel
theorem dX10_add_7 : decode cX10_add 7 = .ok (.aload 4, 2) := by decide +kernel
theorem dX10_add_9 : decode cX10_add 9 = .ok (.iload_n 2, 1) := by decide +kernel
theorem dX10_add_10 : decode cX10_add 10 = .ok (.invokestatic 235, 3) := by decide +kernel
theorem dX10_add_13 : decode cX10_add 13 = .ok (.ifCond .eq 14, 3) := by decide +kernel
theorem dX10_add_16 : decode cX10_add 16 = .ok (.iload_n 3, 1) := by decide +kernel
theorem dX10_add_17 : decode cX10_add 17 = .ok (.invokestatic 238, 3) := by decide +kernel
theorem dX10_add_20 : decode cX10_add 20 = .ok (.ifCond .eq 7, 3) := by decide +kernel
theorem dX10_add_23 : decode cX10_add 23 = .ok (.iconst 1, 1) := by decide +kernel
theorem dX10_add_24 : decode cX10_add 24 = .ok (.goto 4, 3) := by decide +kernel
theorem dX10_add_27 : decode cX10_add 27 = .ok (.iconst 0, 1) := by decide +kernel
theorem dX10_add_28 : decode cX10_add 28 = .ok (.invokestatic 320, 3) := by decide +kernel
theorem dX10_add_31 : decode cX10_add 31 = .ok (.istore 5, 2) := by decide +kernel
theorem dX10_add_33 : decode cX10_add 33 = .ok (.aload 4, 2) := by decide +kernel
theorem dX10_add_35 : decode cX10_add 35 = .ok (.ifnull 9, 3) := by decide +kernel
theorem dX10_add_38 : decode cX10_add 38 = .ok (.iload 5, 2) := by decide +kernel
theorem dX10_add_40 : decode cX10_add 40 = .ok (.iconst (-1), 1) := by decide +kernel
theorem dX10_add_41 : decode cX10_add 41 = .ok (.if_icmp .eq 10, 3) := by decide +kernel
theorem dX10_add_44 : decode cX10_add 44 = .ok (.aload_n 0, 1) := by decide +kernel
theorem dX10_add_45 : decode cX10_add 45 = .ok (.iload 5, 2) := by decide +kernel
theorem dX10_add_47 : decode cX10_add 47 = .ok (.invokevirtual 128, 3) := by decide +kernel
theorem dX10_add_50 : decode cX10_add 50 = .ok (.ireturn, 1) := by decide +kernel
theorem dX10_add_51 : decode cX10_add 51 = .ok (.aload_n 0, 1) := by decide +kernel
