theorem dX11_goesThrough_92 : decode cX11_goesThrough 92 = .ok (.getfield 249, 3) := by decide +kernel
theorem dX11_goesThrough_95 : decode cX11_goesThrough 95 = .ok (.aload_n 0, 1) := by decide +kernel
theorem dX11_goesThrough_96 : decode cX11_goesThrough 96 = .ok (.getfield 42, 3) := by decide +kernel
theorem dX11_goesThrough_99 : decode cX11_goesThrough 99 = .ok (.bipush 7, 2) := by decide +kernel
theorem dX11_goesThrough_101 : decode cX11_goesThrough 101 = .ok (.iload_n 1, 1) := by decide +kernel
theorem dX11_goesThrough_102 : decode cX11_goesThrough 102 = .ok (.imul, 1) := by decide +kernel
theorem dX11_goesThrough_103 : decode cX11_goesThrough 103 = .ok (.iload_n 3, 1) := by decide +kernel
theorem dX11_goesThrough_104 : decode cX11_goesThrough 104 = .ok (.iadd, 1) := by decide +kernel
theorem dX11_goesThrough_105 : decode cX11_goesThrough 105 = .ok (.iaload, 1) := by decide +kernel
theorem dX11_goesThrough_106 : decode cX11_goesThrough 106 = .ok (.iastore, 1) := by decide +kernel
theorem dX11_goesThrough_107 : decode cX11_goesThrough 107 = .ok (.aload_n 0, 1) := by decide +kernel
theorem dX11_goesThrough_108 : decode cX11_goesThrough 108 = .ok (.dup, 1) := by decide +kernel
theorem dX11_goesThrough_109 : decode cX11_goesThrough 109 = .ok (.getfield 249, 3) := by decide +kernel
theorem dX11_goesThrough_112 : decode cX11_goesThrough 112 = .ok (.iconst 1, 1) := by decide +kernel
theorem dX11_goesThrough_113 : decode cX11_goesThrough 113 = .ok (.iadd, 1) := by decide +kernel
theorem dX11_goesThrough_114 : decode cX11_goesThrough 114 = .ok (.putfield 249, 3) := by decide +kernel
theorem dX11_goesThrough_117 : decode cX11_goesThrough 117 = .ok (.iinc 3 1, 3) := by decide +kernel
theorem dX11_goesThrough_120 : decode cX11_goesThrough 120 = .ok (.goto (-88), 3) := by decide +kernel
theorem dX11_goesThrough_123 : decode cX11_goesThrough 123 = .ok (.return_, 1) := by decide +kernel
theorem dX11_laysTree_0 : decode cX11_laysTree 0 = .ok (.aload_n 0, 1) := by decide +kernel
theorem dX11_laysTree_1 : decode cX11_laysTree 1 = .ok (.iconst 0, 1) := by decide +kernel
theorem dX11_laysTree_2 : decode cX11_laysTree 2 = .ok (.putfield 249, 3) := by decide +kernel
theorem dX11_laysTree_5 : decode cX11_laysTree 5 = .ok (.aload_n 0, 1) := by decide +kernel
theorem dX11_laysTree_6 : decode cX11_laysTree 6 = .ok (.iconst 0, 1) := by decide +kernel
theorem dX11_laysTree_7 : decode cX11_laysTree 7 = .ok (.putfield 243, 3) := by decide +kernel
theorem dX11_laysTree_10 : decode cX11_laysTree 10 = .ok (.aload_n 0, 1) := by decide +kernel
theorem dX11_laysTree_11 : decode cX11_laysTree 11 = .ok (.iload_n 1, 1) := by decide +kernel
theorem dX11_laysTree_12 : decode cX11_laysTree 12 = .ok (.iconst 0, 1) := by decide +kernel
theorem dX11_laysTree_13 : decode cX11_laysTree 13 = .ok (.invokevirtual 246, 3) := by decide +kernel
theorem dX11_laysTree_16 : decode cX11_laysTree 16 = .ok (.return_, 1) := by decide +kernel
theorem dX11_keysOf_0 : decode cX11_keysOf 0 = .ok (.aload_n 0, 1) := by decide +kernel
theorem dX11_keysOf_1 : decode cX11_keysOf 1 = .ok (.iload_n 1, 1) := by decide +kernel
theorem dX11_keysOf_2 : decode cX11_keysOf 2 = .ok (.invokevirtual 252, 3) := by decide +kernel
theorem dX11_keysOf_5 : decode cX11_keysOf 5 = .ok (.aload_n 0, 1) := by decide +kernel
theorem dX11_keysOf_6 : decode cX11_keysOf 6 = .ok (.getfield 249, 3) := by decide +kernel
theorem dX11_keysOf_9 : decode cX11_keysOf 9 = .ok (.ireturn, 1) := by decide +kernel
theorem dX11_marks_0 : decode cX11_marks 0 = .ok (.aload_n 0, 1) := by decide +kernel
theorem dX11_marks_1 : decode cX11_marks 1 = .ok (.getfield 32, 3) := by decide +kernel
theorem dX11_marks_4 : decode cX11_marks 4 = .ok (.iload_n 1, 1) := by decide +kernel
theorem dX11_marks_5 : decode cX11_marks 5 = .ok (.iaload, 1) := by decide +kernel
theorem dX11_marks_6 : decode cX11_marks 6 = .ok (.aload_n 0, 1) := by decide +kernel
theorem dX11_marks_7 : decode cX11_marks 7 = .ok (.getfield 255, 3) := by decide +kernel
theorem dX11_marks_10 : decode cX11_marks 10 = .ok (.if_icmp .ne 7, 3) := by decide +kernel
theorem dX11_marks_13 : decode cX11_marks 13 = .ok (.iconst 0, 1) := by decide +kernel
theorem dX11_marks_14 : decode cX11_marks 14 = .ok (.goto 4, 3) := by decide +kernel
theorem dX11_marks_17 : decode cX11_marks 17 = .ok (.iconst 1, 1) := by decide +kernel
theorem dX11_marks_18 : decode cX11_marks 18 = .ok (.istore_n 2, 1) := by decide +kernel
theorem dX11_marks_19 : decode cX11_marks 19 = .ok (.aload_n 0, 1) := by decide +kernel
theorem dX11_marks_20 : decode cX11_marks 20 = .ok (.getfield 32, 3) := by decide +kernel
theorem dX11_marks_23 : decode cX11_marks 23 = .ok (.iload_n 1, 1) := by decide +kernel
theorem dX11_marks_24 : decode cX11_marks 24 = .ok (.aload_n 0, 1) := by decide +kernel
theorem dX11_marks_25 : decode cX11_marks 25 = .ok (.getfield 255, 3) := by decide +kernel
theorem dX11_marks_28 : decode cX11_marks 28 = .ok (.iastore, 1) := by decide +kernel
theorem dX11_marks_29 : decode cX11_marks 29 = .ok (.iconst 0, 1) := by decide +kernel
theorem dX11_marks_30 : decode cX11_marks 30 = .ok (.istore_n 3, 1) := by decide +kernel
theorem dX11_marks_31 : decode cX11_marks 31 = .ok (.iload_n 3, 1) := by decide +kernel
theorem dX11_marks_32 : decode cX11_marks 32 = .ok (.aload_n 0, 1) := by decide +kernel
theorem dX11_marks_33 : decode cX11_marks 33 = .ok (.getfield 26, 3) := by decide +kernel
theorem dX11_marks_36 : decode cX11_marks 36 = .ok (.iload_n 1, 1) := by decide +kernel
theorem dX11_marks_37 : decode cX11_marks 37 = .ok (.iaload, 1) := by decide +kernel
theorem dX11_marks_38 : decode cX11_marks 38 = .ok (.if_icmp .ge 31, 3) := by decide +kernel
theorem dX11_marks_41 : decode cX11_marks 41 = .ok (.aload_n 0, 1) := by decide +kernel
theorem dX11_marks_42 : decode cX11_marks 42 = .ok (.getfield 23, 3) := by decide +kernel
theorem dX11_marks_45 : decode cX11_marks 45 = .ok (.iload_n 1, 1) := by decide +kernel
theorem dX11_marks_46 : decode cX11_marks 46 = .ok (.iaload, 1) := by decide +kernel
theorem dX11_marks_47 : decode cX11_marks 47 = .ok (.ifCond .ne 22, 3) := by decide +kernel
theorem dX11_marks_50 : decode cX11_marks 50 = .ok (.iload_n 2, 1) := by decide +kernel
theorem dX11_marks_51 : decode cX11_marks 51 = .ok (.aload_n 0, 1) := by decide +kernel
theorem dX11_marks_52 : decode cX11_marks 52 = .ok (.aload_n 0, 1) := by decide +kernel
theorem dX11_marks_53 : decode cX11_marks 53 = .ok (.iload_n 1, 1) := by decide +kernel
theorem dX11_marks_54 : decode cX11_marks 54 = .ok (.iload_n 3, 1) := by decide +kernel
theorem dX11_marks_55 : decode cX11_marks 55 = .ok (.invokevirtual 197, 3) := by decide +kernel
theorem dX11_marks_58 : decode cX11_marks 58 = .ok (.invokevirtual 258, 3) := by decide +kernel
theorem dX11_marks_61 : decode cX11_marks 61 = .ok (.iadd, 1) := by decide +kernel
theorem dX11_marks_62 : decode cX11_marks 62 = .ok (.istore_n 2, 1) := by decide +kernel
theorem dX11_marks_63 : decode cX11_marks 63 = .ok (.iinc 3 1, 3) := by decide +kernel
theorem dX11_marks_66 : decode cX11_marks 66 = .ok (.goto (-35), 3) := by decide +kernel
theorem dX11_marks_69 : decode cX11_marks 69 = .ok (.iload_n 2, 1) := by decide +kernel
theorem dX11_marks_70 : decode cX11_marks 70 = .ok (.ireturn, 1) := by decide +kernel
theorem dX11_sweeps_0 : decode cX11_sweeps 0 = .ok (.aload_n 0, 1) := by decide +kernel
theorem dX11_sweeps_1 : decode cX11_sweeps 1 = .ok (.getfield 184, 3) := by decide +kernel
theorem dX11_sweeps_4 : decode cX11_sweeps 4 = .ok (.sipush 12000, 3) := by decide +kernel
theorem dX11_sweeps_7 : decode cX11_sweeps 7 = .ok (.iadd, 1) := by decide +kernel
theorem dX11_sweeps_8 : decode cX11_sweeps 8 = .ok (.aload_n 0, 1) := by decide +kernel
theorem dX11_sweeps_9 : decode cX11_sweeps 9 = .ok (.getfield 187, 3) := by decide +kernel
theorem dX11_sweeps_12 : decode cX11_sweeps 12 = .ok (.isub, 1) := by decide +kernel
theorem dX11_sweeps_13 : decode cX11_sweeps 13 = .ok (.sipush 5000, 3) := by decide +kernel
theorem dX11_sweeps_16 : decode cX11_sweeps 16 = .ok (.if_icmp .le 4, 3) := by decide +kernel
theorem dX11_sweeps_19 : decode cX11_sweeps 19 = .ok (.return_, 1) := by decide +kernel
theorem dX11_sweeps_20 : decode cX11_sweeps 20 = .ok (.aload_n 0, 1) := by decide +kernel
theorem dX11_sweeps_21 : decode cX11_sweeps 21 = .ok (.dup, 1) := by decide +kernel
theorem dX11_sweeps_22 : decode cX11_sweeps 22 = .ok (.getfield 255, 3) := by decide +kernel
theorem dX11_sweeps_25 : decode cX11_sweeps 25 = .ok (.iconst 1, 1) := by decide +kernel
theorem dX11_sweeps_26 : decode cX11_sweeps 26 = .ok (.iadd, 1) := by decide +kernel
theorem dX11_sweeps_27 : decode cX11_sweeps 27 = .ok (.putfield 255, 3) := by decide +kernel
theorem dX11_sweeps_30 : decode cX11_sweeps 30 = .ok (.iconst 0, 1) := by decide +kernel
theorem dX11_sweeps_31 : decode cX11_sweeps 31 = .ok (.istore_n 1, 1) := by decide +kernel
theorem dX11_sweeps_32 : decode cX11_sweeps 32 = .ok (.iconst 0, 1) := by decide +kernel
theorem dX11_sweeps_33 : decode cX11_sweeps 33 = .ok (.istore_n 2, 1) := by decide +kernel
theorem dX11_sweeps_34 : decode cX11_sweeps 34 = .ok (.iload_n 2, 1) := by decide +kernel
theorem dX11_sweeps_35 : decode cX11_sweeps 35 = .ok (.aload_n 0, 1) := by decide +kernel
theorem dX11_sweeps_36 : decode cX11_sweeps 36 = .ok (.getfield 261, 3) := by decide +kernel
theorem dX11_sweeps_39 : decode cX11_sweeps 39 = .ok (.if_icmp .ge 47, 3) := by decide +kernel
theorem dX11_sweeps_42 : decode cX11_sweeps 42 = .ok (.aload_n 0, 1) := by decide +kernel
theorem dX11_sweeps_43 : decode cX11_sweeps 43 = .ok (.getfield 88, 3) := by decide +kernel
theorem dX11_sweeps_46 : decode cX11_sweeps 46 = .ok (.iload_n 2, 1) := by decide +kernel
theorem dX11_sweeps_47 : decode cX11_sweeps 47 = .ok (.baload, 1) := by decide +kernel
theorem dX11_sweeps_48 : decode cX11_sweeps 48 = .ok (.ifCond .ne 19, 3) := by decide +kernel
theorem dX11_sweeps_51 : decode cX11_sweeps 51 = .ok (.aload_n 0, 1) := by decide +kernel
theorem dX11_sweeps_52 : decode cX11_sweeps 52 = .ok (.getfield 264, 3) := by decide +kernel
theorem dX11_sweeps_55 : decode cX11_sweeps 55 = .ok (.ifCond .eq 25, 3) := by decide +kernel
theorem dX11_sweeps_58 : decode cX11_sweeps 58 = .ok (.aload_n 0, 1) := by decide +kernel
theorem dX11_sweeps_59 : decode cX11_sweeps 59 = .ok (.getfield 92, 3) := by decide +kernel
theorem dX11_sweeps_62 : decode cX11_sweeps 62 = .ok (.iload_n 2, 1) := by decide +kernel
theorem dX11_sweeps_63 : decode cX11_sweeps 63 = .ok (.baload, 1) := by decide +kernel
theorem dX11_sweeps_64 : decode cX11_sweeps 64 = .ok (.ifCond .eq 16, 3) := by decide +kernel
theorem dX11_sweeps_67 : decode cX11_sweeps 67 = .ok (.iload_n 1, 1) := by decide +kernel
theorem dX11_sweeps_68 : decode cX11_sweeps 68 = .ok (.aload_n 0, 1) := by decide +kernel
theorem dX11_sweeps_69 : decode cX11_sweeps 69 = .ok (.aload_n 0, 1) := by decide +kernel
theorem dX11_sweeps_70 : decode cX11_sweeps 70 = .ok (.getfield 67, 3) := by decide +kernel
theorem dX11_sweeps_73 : decode cX11_sweeps 73 = .ok (.iload_n 2, 1) := by decide +kernel
theorem dX11_sweeps_74 : decode cX11_sweeps 74 = .ok (.iaload, 1) := by decide +kernel
theorem dX11_sweeps_75 : decode cX11_sweeps 75 = .ok (.invokevirtual 258, 3) := by decide +kernel
theorem dX11_sweeps_78 : decode cX11_sweeps 78 = .ok (.iadd, 1) := by decide +kernel
theorem dX11_sweeps_79 : decode cX11_sweeps 79 = .ok (.istore_n 1, 1) := by decide +kernel
theorem dX11_sweeps_80 : decode cX11_sweeps 80 = .ok (.iinc 2 1, 3) := by decide +kernel
theorem dX11_sweeps_83 : decode cX11_sweeps 83 = .ok (.goto (-49), 3) := by decide +kernel
theorem dX11_sweeps_86 : decode cX11_sweeps 86 = .ok (.iconst 0, 1) := by decide +kernel
theorem dX11_sweeps_87 : decode cX11_sweeps 87 = .ok (.istore_n 2, 1) := by decide +kernel
theorem dX11_sweeps_88 : decode cX11_sweeps 88 = .ok (.iload_n 2, 1) := by decide +kernel
theorem dX11_sweeps_89 : decode cX11_sweeps 89 = .ok (.iconst 4, 1) := by decide +kernel
theorem dX11_sweeps_90 : decode cX11_sweeps 90 = .ok (.if_icmp .ge 33, 3) := by decide +kernel
theorem dX11_sweeps_93 : decode cX11_sweeps 93 = .ok (.aload_n 0, 1) := by decide +kernel
theorem dX11_sweeps_94 : decode cX11_sweeps 94 = .ok (.getfield 268, 3) := by decide +kernel
theorem dX11_sweeps_97 : decode cX11_sweeps 97 = .ok (.iload_n 2, 1) := by decide +kernel
theorem dX11_sweeps_98 : decode cX11_sweeps 98 = .ok (.invokestatic 271, 3) := by decide +kernel
theorem dX11_sweeps_101 : decode cX11_sweeps 101 = .ok (.ifCond .eq 16, 3) := by decide +kernel
theorem dX11_sweeps_104 : decode cX11_sweeps 104 = .ok (.iload_n 1, 1) := by decide +kernel
theorem dX11_sweeps_105 : decode cX11_sweeps 105 = .ok (.aload_n 0, 1) := by decide +kernel
theorem dX11_sweeps_106 : decode cX11_sweeps 106 = .ok (.aload_n 0, 1) := by decide +kernel
theorem dX11_sweeps_107 : decode cX11_sweeps 107 = .ok (.getfield 76, 3) := by decide +kernel
theorem dX11_sweeps_110 : decode cX11_sweeps 110 = .ok (.iload_n 2, 1) := by decide +kernel
theorem dX11_sweeps_111 : decode cX11_sweeps 111 = .ok (.iaload, 1) := by decide +kernel
theorem dX11_sweeps_112 : decode cX11_sweeps 112 = .ok (.invokevirtual 258, 3) := by decide +kernel
theorem dX11_sweeps_115 : decode cX11_sweeps 115 = .ok (.iadd, 1) := by decide +kernel
theorem dX11_sweeps_116 : decode cX11_sweeps 116 = .ok (.istore_n 1, 1) := by decide +kernel
theorem dX11_sweeps_117 : decode cX11_sweeps 117 = .ok (.iinc 2 1, 3) := by decide +kernel
theorem dX11_sweeps_120 : decode cX11_sweeps 120 = .ok (.goto (-32), 3) := by decide +kernel
theorem dX11_sweeps_123 : decode cX11_sweeps 123 = .ok (.aload_n 0, 1) := by decide +kernel
theorem dX11_sweeps_124 : decode cX11_sweeps 124 = .ok (.iconst 0, 1) := by decide +kernel
theorem dX11_sweeps_125 : decode cX11_sweeps 125 = .ok (.putfield 184, 3) := by decide +kernel
theorem dX11_sweeps_128 : decode cX11_sweeps 128 = .ok (.iconst 0, 1) := by decide +kernel
theorem dX11_sweeps_129 : decode cX11_sweeps 129 = .ok (.istore_n 2, 1) := by decide +kernel
theorem dX11_sweeps_130 : decode cX11_sweeps 130 = .ok (.iload_n 2, 1) := by decide +kernel
theorem dX11_sweeps_131 : decode cX11_sweeps 131 = .ok (.aload_n 0, 1) := by decide +kernel
theorem dX11_sweeps_132 : decode cX11_sweeps 132 = .ok (.getfield 187, 3) := by decide +kernel
theorem dX11_sweeps_135 : decode cX11_sweeps 135 = .ok (.if_icmp .ge 45, 3) := by decide +kernel
theorem dX11_sweeps_138 : decode cX11_sweeps 138 = .ok (.aload_n 0, 1) := by decide +kernel
theorem dX11_sweeps_139 : decode cX11_sweeps 139 = .ok (.getfield 32, 3) := by decide +kernel
theorem dX11_sweeps_142 : decode cX11_sweeps 142 = .ok (.iload_n 2, 1) := by decide +kernel
theorem dX11_sweeps_143 : decode cX11_sweeps 143 = .ok (.iaload, 1) := by decide +kernel
theorem dX11_sweeps_144 : decode cX11_sweeps 144 = .ok (.aload_n 0, 1) := by decide +kernel
theorem dX11_sweeps_145 : decode cX11_sweeps 145 = .ok (.getfield 255, 3) := by decide +kernel
theorem dX11_sweeps_148 : decode cX11_sweeps 148 = .ok (.if_icmp .ne 6, 3) := by decide +kernel
theorem dX11_sweeps_151 : decode cX11_sweeps 151 = .ok (.goto 23, 3) := by decide +kernel
theorem dX11_sweeps_154 : decode cX11_sweeps 154 = .ok (.aload_n 0, 1) := by decide +kernel
theorem dX11_sweeps_155 : decode cX11_sweeps 155 = .ok (.getfield 35, 3) := by decide +kernel
theorem dX11_sweeps_158 : decode cX11_sweeps 158 = .ok (.aload_n 0, 1) := by decide +kernel
theorem dX11_sweeps_159 : decode cX11_sweeps 159 = .ok (.getfield 184, 3) := by decide +kernel
theorem dX11_sweeps_162 : decode cX11_sweeps 162 = .ok (.iload_n 2, 1) := by decide +kernel
theorem dX11_sweeps_163 : decode cX11_sweeps 163 = .ok (.iastore, 1) := by decide +kernel
theorem dX11_sweeps_164 : decode cX11_sweeps 164 = .ok (.aload_n 0, 1) := by decide +kernel
theorem dX11_sweeps_165 : decode cX11_sweeps 165 = .ok (.dup, 1) := by decide +kernel
theorem dX11_sweeps_166 : decode cX11_sweeps 166 = .ok (.getfield 184, 3) := by decide +kernel
theorem dX11_sweeps_169 : decode cX11_sweeps 169 = .ok (.iconst 1, 1) := by decide +kernel
theorem dX11_sweeps_170 : decode cX11_sweeps 170 = .ok (.iadd, 1) := by decide +kernel
theorem dX11_sweeps_171 : decode cX11_sweeps 171 = .ok (.putfield 184, 3) := by decide +kernel
theorem dX11_sweeps_174 : decode cX11_sweeps 174 = .ok (.iinc 2 1, 3) := by decide +kernel
theorem dX11_sweeps_177 : decode cX11_sweeps 177 = .ok (.goto (-47), 3) := by decide +kernel
theorem dX11_sweeps_180 : decode cX11_sweeps 180 = .ok (.return_, 1) := by decide +kernel
theorem dX11_refused_0 : decode cX11_refused 0 = .ok (.aload_n 0, 1) := by decide +kernel
theorem dX11_refused_1 : decode cX11_refused 1 = .ok (.getfield 85, 3) := by decide +kernel
theorem dX11_refused_4 : decode cX11_refused 4 = .ok (.iload_n 1, 1) := by decide +kernel
theorem dX11_refused_5 : decode cX11_refused 5 = .ok (.dup2, 1) := by decide +kernel
theorem dX11_refused_6 : decode cX11_refused 6 = .ok (.iaload, 1) := by decide +kernel
theorem dX11_refused_7 : decode cX11_refused 7 = .ok (.iconst 1, 1) := by decide +kernel
theorem dX11_refused_8 : decode cX11_refused 8 = .ok (.iadd, 1) := by decide +kernel
theorem dX11_refused_9 : decode cX11_refused 9 = .ok (.iastore, 1) := by decide +kernel
theorem dX11_refused_10 : decode cX11_refused 10 = .ok (.iconst (-1), 1) := by decide +kernel
theorem dX11_refused_11 : decode cX11_refused 11 = .ok (.ireturn, 1) := by decide +kernel
theorem dX11_isMap_0 : decode cX11_isMap 0 = .ok (.iload_n 1, 1) := by decide +kernel
theorem dX11_isMap_1 : decode cX11_isMap 1 = .ok (.ifCond .lt 24, 3) := by decide +kernel
theorem dX11_isMap_4 : decode cX11_isMap 4 = .ok (.iload_n 1, 1) := by decide +kernel
theorem dX11_isMap_5 : decode cX11_isMap 5 = .ok (.aload_n 0, 1) := by decide +kernel
theorem dX11_isMap_6 : decode cX11_isMap 6 = .ok (.getfield 261, 3) := by decide +kernel
theorem dX11_isMap_9 : decode cX11_isMap 9 = .ok (.if_icmp .ge 16, 3) := by decide +kernel
theorem dX11_isMap_12 : decode cX11_isMap 12 = .ok (.aload_n 0, 1) := by decide +kernel
theorem dX11_isMap_13 : decode cX11_isMap 13 = .ok (.getfield 88, 3) := by decide +kernel
theorem dX11_isMap_16 : decode cX11_isMap 16 = .ok (.iload_n 1, 1) := by decide +kernel
theorem dX11_isMap_17 : decode cX11_isMap 17 = .ok (.baload, 1) := by decide +kernel
theorem dX11_isMap_18 : decode cX11_isMap 18 = .ok (.ifCond .eq 7, 3) := by decide +kernel
theorem dX11_isMap_21 : decode cX11_isMap 21 = .ok (.iconst 1, 1) := by decide +kernel
theorem dX11_isMap_22 : decode cX11_isMap 22 = .ok (.goto 4, 3) := by decide +kernel
theorem dX11_isMap_25 : decode cX11_isMap 25 = .ok (.iconst 0, 1) := by decide +kernel
theorem dX11_isMap_26 : decode cX11_isMap 26 = .ok (.ireturn, 1) := by decide +kernel
theorem dX11_hasRoom_0 : decode cX11_hasRoom 0 = .ok (.aload_n 0, 1) := by decide +kernel
theorem dX11_hasRoom_1 : decode cX11_hasRoom 1 = .ok (.getfield 275, 3) := by decide +kernel
theorem dX11_hasRoom_4 : decode cX11_hasRoom 4 = .ok (.bipush 16, 2) := by decide +kernel
theorem dX11_hasRoom_6 : decode cX11_hasRoom 6 = .ok (.if_icmp .ge 17, 3) := by decide +kernel
theorem dX11_hasRoom_9 : decode cX11_hasRoom 9 = .ok (.aload_n 0, 1) := by decide +kernel
theorem dX11_hasRoom_10 : decode cX11_hasRoom 10 = .ok (.getfield 261, 3) := by decide +kernel
theorem dX11_hasRoom_13 : decode cX11_hasRoom 13 = .ok (.sipush 999, 3) := by decide +kernel
theorem dX11_hasRoom_16 : decode cX11_hasRoom 16 = .ok (.if_icmp .ge 7, 3) := by decide +kernel
theorem dX11_hasRoom_19 : decode cX11_hasRoom 19 = .ok (.iconst 1, 1) := by decide +kernel
theorem dX11_hasRoom_20 : decode cX11_hasRoom 20 = .ok (.goto 4, 3) := by decide +kernel
theorem dX11_hasRoom_23 : decode cX11_hasRoom 23 = .ok (.iconst 0, 1) := by decide +kernel
theorem dX11_hasRoom_24 : decode cX11_hasRoom 24 = .ok (.ireturn, 1) := by decide +kernel
theorem dX11_newMap_0 : decode cX11_newMap 0 = .ok (.aload_n 0, 1) := by decide +kernel
theorem dX11_newMap_1 : decode cX11_newMap 1 = .ok (.getfield 67, 3) := by decide +kernel
theorem dX11_newMap_4 : decode cX11_newMap 4 = .ok (.aload_n 0, 1) := by decide +kernel
theorem dX11_newMap_5 : decode cX11_newMap 5 = .ok (.getfield 261, 3) := by decide +kernel
theorem dX11_newMap_8 : decode cX11_newMap 8 = .ok (.iload_n 1, 1) := by decide +kernel
theorem dX11_newMap_9 : decode cX11_newMap 9 = .ok (.iastore, 1) := by decide +kernel
theorem dX11_newMap_10 : decode cX11_newMap 10 = .ok (.aload_n 0, 1) := by decide +kernel
theorem dX11_newMap_11 : decode cX11_newMap 11 = .ok (.getfield 70, 3) := by decide +kernel
theorem dX11_newMap_14 : decode cX11_newMap 14 = .ok (.aload_n 0, 1) := by decide +kernel
theorem dX11_newMap_15 : decode cX11_newMap 15 = .ok (.getfield 261, 3) := by decide +kernel
theorem dX11_newMap_18 : decode cX11_newMap 18 = .ok (.iload_n 2, 1) := by decide +kernel
theorem dX11_newMap_19 : decode cX11_newMap 19 = .ok (.iastore, 1) := by decide +kernel
theorem dX11_newMap_20 : decode cX11_newMap 20 = .ok (.aload_n 0, 1) := by decide +kernel
theorem dX11_newMap_21 : decode cX11_newMap 21 = .ok (.getfield 73, 3) := by decide +kernel
theorem dX11_newMap_24 : decode cX11_newMap 24 = .ok (.aload_n 0, 1) := by decide +kernel
theorem dX11_newMap_25 : decode cX11_newMap 25 = .ok (.getfield 261, 3) := by decide +kernel
theorem dX11_newMap_28 : decode cX11_newMap 28 = .ok (.iload_n 3, 1) := by decide +kernel
theorem dX11_newMap_29 : decode cX11_newMap 29 = .ok (.iastore, 1) := by decide +kernel
theorem dX11_newMap_30 : decode cX11_newMap 30 = .ok (.aload_n 0, 1) := by decide +kernel
theorem dX11_newMap_31 : decode cX11_newMap 31 = .ok (.getfield 88, 3) := by decide +kernel
theorem dX11_newMap_34 : decode cX11_newMap 34 = .ok (.aload_n 0, 1) := by decide +kernel
theorem dX11_newMap_35 : decode cX11_newMap 35 = .ok (.getfield 261, 3) := by decide +kernel
theorem dX11_newMap_38 : decode cX11_newMap 38 = .ok (.iconst 1, 1) := by decide +kernel
theorem dX11_newMap_39 : decode cX11_newMap 39 = .ok (.bastore, 1) := by decide +kernel
theorem dX11_newMap_40 : decode cX11_newMap 40 = .ok (.aload_n 0, 1) := by decide +kernel
theorem dX11_newMap_41 : decode cX11_newMap 41 = .ok (.getfield 92, 3) := by decide +kernel
theorem dX11_newMap_44 : decode cX11_newMap 44 = .ok (.aload_n 0, 1) := by decide +kernel
theorem dX11_newMap_45 : decode cX11_newMap 45 = .ok (.getfield 261, 3) := by decide +kernel
theorem dX11_newMap_48 : decode cX11_newMap 48 = .ok (.iconst 0, 1) := by decide +kernel
theorem dX11_newMap_49 : decode cX11_newMap 49 = .ok (.bastore, 1) := by decide +kernel
theorem dX11_newMap_50 : decode cX11_newMap 50 = .ok (.aload_n 0, 1) := by decide +kernel
theorem dX11_newMap_51 : decode cX11_newMap 51 = .ok (.dup, 1) := by decide +kernel
theorem dX11_newMap_52 : decode cX11_newMap 52 = .ok (.getfield 275, 3) := by decide +kernel
theorem dX11_newMap_55 : decode cX11_newMap 55 = .ok (.iconst 1, 1) := by decide +kernel
theorem dX11_newMap_56 : decode cX11_newMap 56 = .ok (.iadd, 1) := by decide +kernel
theorem dX11_newMap_57 : decode cX11_newMap 57 = .ok (.putfield 275, 3) := by decide +kernel
theorem dX11_newMap_60 : decode cX11_newMap 60 = .ok (.aload_n 0, 1) := by decide +kernel
theorem dX11_newMap_61 : decode cX11_newMap 61 = .ok (.dup, 1) := by decide +kernel
theorem dX11_newMap_62 : decode cX11_newMap 62 = .ok (.getfield 261, 3) := by decide +kernel
theorem dX11_newMap_65 : decode cX11_newMap 65 = .ok (.iconst 1, 1) := by decide +kernel
theorem dX11_newMap_66 : decode cX11_newMap 66 = .ok (.iadd, 1) := by decide +kernel
theorem dX11_newMap_67 : decode cX11_newMap 67 = .ok (.putfield 261, 3) := by decide +kernel
theorem dX11_newMap_70 : decode cX11_newMap 70 = .ok (.aload_n 0, 1) := by decide +kernel
theorem dX11_newMap_71 : decode cX11_newMap 71 = .ok (.getfield 261, 3) := by decide +kernel
theorem dX11_newMap_74 : decode cX11_newMap 74 = .ok (.iconst 1, 1) := by decide +kernel
theorem dX11_newMap_75 : decode cX11_newMap 75 = .ok (.isub, 1) := by decide +kernel
theorem dX11_newMap_76 : decode cX11_newMap 76 = .ok (.ireturn, 1) := by decide +kernel
theorem dX11_newToken_0 : decode cX11_newToken 0 = .ok (.aload_n 0, 1) := by decide +kernel
theorem dX11_newToken_1 : decode cX11_newToken 1 = .ok (.invokevirtual 278, 3) := by decide +kernel
theorem dX11_newToken_4 : decode cX11_newToken 4 = .ok (.aload_n 0, 1) := by decide +kernel
theorem dX11_newToken_5 : decode cX11_newToken 5 = .ok (.dup, 1) := by decide +kernel
theorem dX11_newToken_6 : decode cX11_newToken 6 = .ok (.getfield 281, 3) := by decide +kernel
theorem dX11_newToken_9 : decode cX11_newToken 9 = .ok (.iconst 1, 1) := by decide +kernel
theorem dX11_newToken_10 : decode cX11_newToken 10 = .ok (.iadd, 1) := by decide +kernel
theorem dX11_newToken_11 : decode cX11_newToken 11 = .ok (.putfield 281, 3) := by decide +kernel
theorem dX11_newToken_14 : decode cX11_newToken 14 = .ok (.aload_n 0, 1) := by decide +kernel
theorem dX11_newToken_15 : decode cX11_newToken 15 = .ok (.getfield 281, 3) := by decide +kernel
theorem dX11_newToken_18 : decode cX11_newToken 18 = .ok (.ireturn, 1) := by decide +kernel
theorem dX11_text_0 : decode cX11_text 0 = .ok (.aload_n 0, 1) := by decide +kernel
theorem dX11_text_1 : decode cX11_text 1 = .ok (.iload_n 1, 1) := by decide +kernel
theorem dX11_text_2 : decode cX11_text 2 = .ok (.invokevirtual 284, 3) := by decide +kernel
theorem dX11_text_5 : decode cX11_text 5 = .ok (.iconst (-1), 1) := by decide +kernel
theorem dX11_text_6 : decode cX11_text 6 = .ok (.if_icmp .eq 5, 3) := by decide +kernel
theorem dX11_text_9 : decode cX11_text 9 = .ok (.iconst (-1), 1) := by decide +kernel
theorem dX11_text_10 : decode cX11_text 10 = .ok (.ireturn, 1) := by decide +kernel
theorem dX11_text_11 : decode cX11_text 11 = .ok (.iload_n 1, 1) := by decide +kernel
theorem dX11_text_12 : decode cX11_text 12 = .ok (.iconst 1, 1) := by decide +kernel
theorem dX11_text_13 : decode cX11_text 13 = .ok (.if_icmp .ne 88, 3) := by decide +kernel
theorem dX11_text_16 : decode cX11_text 16 = .ok (.aload_n 0, 1) := by decide +kernel
theorem dX11_text_17 : decode cX11_text 17 = .ok (.getfield 286, 3) := by decide +kernel
theorem dX11_text_20 : decode cX11_text 20 = .ok (.iconst 4, 1) := by decide +kernel
theorem dX11_text_21 : decode cX11_text 21 = .ok (.if_icmp .ne 5, 3) := by decide +kernel
theorem dX11_text_24 : decode cX11_text 24 = .ok (.iconst (-1), 1) := by decide +kernel
theorem dX11_text_25 : decode cX11_text 25 = .ok (.ireturn, 1) := by decide +kernel
theorem dX11_text_26 : decode cX11_text 26 = .ok (.aload_n 0, 1) := by decide +kernel
theorem dX11_text_27 : decode cX11_text 27 = .ok (.iconst 0, 1) := by decide +kernel
theorem dX11_text_28 : decode cX11_text 28 = .ok (.putfield 119, 3) := by decide +kernel
theorem dX11_text_31 : decode cX11_text 31 = .ok (.iconst 0, 1) := by decide +kernel
theorem dX11_text_32 : decode cX11_text 32 = .ok (.istore_n 2, 1) := by decide +kernel
theorem dX11_text_33 : decode cX11_text 33 = .ok (.iload_n 2, 1) := by decide +kernel
theorem dX11_text_34 : decode cX11_text 34 = .ok (.bipush 64, 2) := by decide +kernel
theorem dX11_text_36 : decode cX11_text 36 = .ok (.if_icmp .ge 33, 3) := by decide +kernel
theorem dX11_text_39 : decode cX11_text 39 = .ok (.aload_n 0, 1) := by decide +kernel
theorem dX11_text_40 : decode cX11_text 40 = .ok (.getfield 17, 3) := by decide +kernel
theorem dX11_text_43 : decode cX11_text 43 = .ok (.bipush 64, 2) := by decide +kernel
theorem dX11_text_45 : decode cX11_text 45 = .ok (.aload_n 0, 1) := by decide +kernel
theorem dX11_text_46 : decode cX11_text 46 = .ok (.getfield 286, 3) := by decide +kernel
theorem dX11_text_49 : decode cX11_text 49 = .ok (.imul, 1) := by decide +kernel
theorem dX11_text_50 : decode cX11_text 50 = .ok (.iload_n 2, 1) := by decide +kernel
theorem dX11_text_51 : decode cX11_text 51 = .ok (.iadd, 1) := by decide +kernel
theorem dX11_text_52 : decode cX11_text 52 = .ok (.aload_n 0, 1) := by decide +kernel
theorem dX11_text_53 : decode cX11_text 53 = .ok (.getfield 17, 3) := by decide +kernel
theorem dX11_text_56 : decode cX11_text 56 = .ok (.sipush 256, 3) := by decide +kernel
theorem dX11_text_59 : decode cX11_text 59 = .ok (.iload_n 2, 1) := by decide +kernel
theorem dX11_text_60 : decode cX11_text 60 = .ok (.iadd, 1) := by decide +kernel
theorem dX11_text_61 : decode cX11_text 61 = .ok (.iaload, 1) := by decide +kernel
theorem dX11_text_62 : decode cX11_text 62 = .ok (.iastore, 1) := by decide +kernel
theorem dX11_text_63 : decode cX11_text 63 = .ok (.iinc 2 1, 3) := by decide +kernel
theorem dX11_text_66 : decode cX11_text 66 = .ok (.goto (-33), 3) := by decide +kernel
theorem dX11_text_69 : decode cX11_text 69 = .ok (.aload_n 0, 1) := by decide +kernel
theorem dX11_text_70 : decode cX11_text 70 = .ok (.getfield 20, 3) := by decide +kernel
theorem dX11_text_73 : decode cX11_text 73 = .ok (.aload_n 0, 1) := by decide +kernel
theorem dX11_text_74 : decode cX11_text 74 = .ok (.getfield 286, 3) := by decide +kernel
theorem dX11_text_77 : decode cX11_text 77 = .ok (.aload_n 0, 1) := by decide +kernel
theorem dX11_text_78 : decode cX11_text 78 = .ok (.getfield 20, 3) := by decide +kernel
theorem dX11_text_81 : decode cX11_text 81 = .ok (.iconst 4, 1) := by decide +kernel
theorem dX11_text_82 : decode cX11_text 82 = .ok (.iaload, 1) := by decide +kernel
theorem dX11_text_83 : decode cX11_text 83 = .ok (.iastore, 1) := by decide +kernel
theorem dX11_text_84 : decode cX11_text 84 = .ok (.aload_n 0, 1) := by decide +kernel
theorem dX11_text_85 : decode cX11_text 85 = .ok (.dup, 1) := by decide +kernel
theorem dX11_text_86 : decode cX11_text 86 = .ok (.getfield 286, 3) := by decide +kernel
theorem dX11_text_89 : decode cX11_text 89 = .ok (.iconst 1, 1) := by decide +kernel
theorem dX11_text_90 : decode cX11_text 90 = .ok (.iadd, 1) := by decide +kernel
theorem dX11_text_91 : decode cX11_text 91 = .ok (.putfield 286, 3) := by decide +kernel
theorem dX11_text_94 : decode cX11_text 94 = .ok (.aload_n 0, 1) := by decide +kernel
theorem dX11_text_95 : decode cX11_text 95 = .ok (.getfield 286, 3) := by decide +kernel
theorem dX11_text_98 : decode cX11_text 98 = .ok (.iconst 1, 1) := by decide +kernel
theorem dX11_text_99 : decode cX11_text 99 = .ok (.isub, 1) := by decide +kernel
theorem dX11_text_100 : decode cX11_text 100 = .ok (.ireturn, 1) := by decide +kernel
theorem dX11_text_101 : decode cX11_text 101 = .ok (.aload_n 0, 1) := by decide +kernel
theorem dX11_text_102 : decode cX11_text 102 = .ok (.invokevirtual 289, 3) := by decide +kernel
theorem dX11_text_105 : decode cX11_text 105 = .ok (.ifCond .ne 9, 3) := by decide +kernel
theorem dX11_text_108 : decode cX11_text 108 = .ok (.aload_n 0, 1) := by decide +kernel
theorem dX11_text_109 : decode cX11_text 109 = .ok (.iconst 4, 1) := by decide +kernel
theorem dX11_text_110 : decode cX11_text 110 = .ok (.invokevirtual 292, 3) := by decide +kernel
theorem dX11_text_113 : decode cX11_text 113 = .ok (.ireturn, 1) := by decide +kernel
theorem dX11_text_114 : decode cX11_text 114 = .ok (.aload_n 0, 1) := by decide +kernel
theorem dX11_text_115 : decode cX11_text 115 = .ok (.iconst 0, 1) := by decide +kernel
theorem dX11_text_116 : decode cX11_text 116 = .ok (.putfield 119, 3) := by decide +kernel
theorem dX11_text_119 : decode cX11_text 119 = .ok (.aload_n 0, 1) := by decide +kernel
theorem dX11_text_120 : decode cX11_text 120 = .ok (.invokevirtual 295, 3) := by decide +kernel
theorem dX11_text_123 : decode cX11_text 123 = .ok (.istore_n 2, 1) := by decide +kernel
theorem dX11_text_124 : decode cX11_text 124 = .ok (.aload_n 0, 1) := by decide +kernel
theorem dX11_text_125 : decode cX11_text 125 = .ok (.iconst 1, 1) := by decide +kernel
theorem dX11_text_126 : decode cX11_text 126 = .ok (.iload_n 2, 1) := by decide +kernel
theorem dX11_text_127 : decode cX11_text 127 = .ok (.invokevirtual 193, 3) := by decide +kernel
theorem dX11_text_130 : decode cX11_text 130 = .ok (.istore_n 3, 1) := by decide +kernel
theorem dX11_text_131 : decode cX11_text 131 = .ok (.iconst 0, 1) := by decide +kernel
theorem dX11_text_132 : decode cX11_text 132 = .ok (.istore 4, 2) := by decide +kernel
theorem dX11_text_134 : decode cX11_text 134 = .ok (.iload 4, 2) := by decide +kernel
theorem dX11_text_136 : decode cX11_text 136 = .ok (.aload_n 0, 1) := by decide +kernel
theorem dX11_text_137 : decode cX11_text 137 = .ok (.getfield 153, 3) := by decide +kernel
theorem dX11_text_140 : decode cX11_text 140 = .ok (.if_icmp .ge 36, 3) := by decide +kernel
theorem dX11_text_143 : decode cX11_text 143 = .ok (.aload_n 0, 1) := by decide +kernel
theorem dX11_text_144 : decode cX11_text 144 = .ok (.iload_n 3, 1) := by decide +kernel
theorem dX11_text_145 : decode cX11_text 145 = .ok (.aload_n 0, 1) := by decide +kernel
theorem dX11_text_146 : decode cX11_text 146 = .ok (.getfield 13, 3) := by decide +kernel
theorem dX11_text_149 : decode cX11_text 149 = .ok (.iconst 2, 1) := by decide +kernel
theorem dX11_text_150 : decode cX11_text 150 = .ok (.iload 4, 2) := by decide +kernel
theorem dX11_text_152 : decode cX11_text 152 = .ok (.imul, 1) := by decide +kernel
theorem dX11_text_153 : decode cX11_text 153 = .ok (.iaload, 1) := by decide +kernel
theorem dX11_text_154 : decode cX11_text 154 = .ok (.aload_n 0, 1) := by decide +kernel
theorem dX11_text_155 : decode cX11_text 155 = .ok (.getfield 13, 3) := by decide +kernel
theorem dX11_text_158 : decode cX11_text 158 = .ok (.iconst 2, 1) := by decide +kernel
theorem dX11_text_159 : decode cX11_text 159 = .ok (.iload 4, 2) := by decide +kernel
theorem dX11_text_161 : decode cX11_text 161 = .ok (.imul, 1) := by decide +kernel
theorem dX11_text_162 : decode cX11_text 162 = .ok (.iconst 1, 1) := by decide +kernel
theorem dX11_text_163 : decode cX11_text 163 = .ok (.iadd, 1) := by decide +kernel
theorem dX11_text_164 : decode cX11_text 164 = .ok (.iaload, 1) := by decide +kernel
theorem dX11_text_165 : decode cX11_text 165 = .ok (.iload_n 2, 1) := by decide +kernel
theorem dX11_text_166 : decode cX11_text 166 = .ok (.invokevirtual 298, 3) := by decide +kernel
theorem dX11_text_169 : decode cX11_text 169 = .ok (.istore_n 3, 1) := by decide +kernel
theorem dX11_text_170 : decode cX11_text 170 = .ok (.iinc 4 1, 3) := by decide +kernel
theorem dX11_text_173 : decode cX11_text 173 = .ok (.goto (-39), 3) := by decide +kernel
theorem dX11_text_176 : decode cX11_text 176 = .ok (.aload_n 0, 1) := by decide +kernel
theorem dX11_text_177 : decode cX11_text 177 = .ok (.iload_n 3, 1) := by decide +kernel
theorem dX11_text_178 : decode cX11_text 178 = .ok (.iconst (-1), 1) := by decide +kernel
theorem dX11_text_179 : decode cX11_text 179 = .ok (.iconst (-1), 1) := by decide +kernel
theorem dX11_text_180 : decode cX11_text 180 = .ok (.invokevirtual 302, 3) := by decide +kernel
theorem dX11_text_183 : decode cX11_text 183 = .ok (.ireturn, 1) := by decide +kernel
theorem dX11_wide_0 : decode cX11_wide 0 = .ok (.aload_n 0, 1) := by decide +kernel
theorem dX11_wide_1 : decode cX11_wide 1 = .ok (.iconst 0, 1) := by decide +kernel
theorem dX11_wide_2 : decode cX11_wide 2 = .ok (.putfield 116, 3) := by decide +kernel
theorem dX11_wide_5 : decode cX11_wide 5 = .ok (.iload_n 1, 1) := by decide +kernel
theorem dX11_wide_6 : decode cX11_wide 6 = .ok (.i2l, 1) := by decide +kernel
theorem dX11_wide_7 : decode cX11_wide 7 = .ok (.ldc2_w 305, 3) := by decide +kernel
theorem dX11_wide_10 : decode cX11_wide 10 = .ok (.ldc2_w 307, 3) := by decide +kernel
theorem dX11_wide_13 : decode cX11_wide 13 = .ok (.invokestatic 174, 3) := by decide +kernel
theorem dX11_wide_16 : decode cX11_wide 16 = .ok (.ifCond .ne 9, 3) := by decide +kernel
theorem dX11_wide_19 : decode cX11_wide 19 = .ok (.aload_n 0, 1) := by decide +kernel
theorem dX11_wide_20 : decode cX11_wide 20 = .ok (.iconst 1, 1) := by decide +kernel
theorem dX11_wide_21 : decode cX11_wide 21 = .ok (.invokevirtual 292, 3) := by decide +kernel
theorem dX11_wide_24 : decode cX11_wide 24 = .ok (.ireturn, 1) := by decide +kernel
theorem dX11_wide_25 : decode cX11_wide 25 = .ok (.aload_n 0, 1) := by decide +kernel
theorem dX11_wide_26 : decode cX11_wide 26 = .ok (.iload_n 1, 1) := by decide +kernel
theorem dX11_wide_27 : decode cX11_wide 27 = .ok (.putfield 45, 3) := by decide +kernel
theorem dX11_wide_30 : decode cX11_wide 30 = .ok (.iconst 0, 1) := by decide +kernel
theorem dX11_wide_31 : decode cX11_wide 31 = .ok (.istore_n 2, 1) := by decide +kernel
theorem dX11_wide_32 : decode cX11_wide 32 = .ok (.iload_n 2, 1) := by decide +kernel
theorem dX11_wide_33 : decode cX11_wide 33 = .ok (.aload_n 0, 1) := by decide +kernel
theorem dX11_wide_34 : decode cX11_wide 34 = .ok (.getfield 261, 3) := by decide +kernel
theorem dX11_wide_37 : decode cX11_wide 37 = .ok (.if_icmp .ge 16, 3) := by decide +kernel
theorem dX11_wide_40 : decode cX11_wide 40 = .ok (.aload_n 0, 1) := by decide +kernel
theorem dX11_wide_41 : decode cX11_wide 41 = .ok (.getfield 88, 3) := by decide +kernel
theorem dX11_wide_44 : decode cX11_wide 44 = .ok (.iload_n 2, 1) := by decide +kernel
theorem dX11_wide_45 : decode cX11_wide 45 = .ok (.iconst 0, 1) := by decide +kernel
theorem dX11_wide_46 : decode cX11_wide 46 = .ok (.bastore, 1) := by decide +kernel
theorem dX11_wide_47 : decode cX11_wide 47 = .ok (.iinc 2 1, 3) := by decide +kernel
theorem dX11_wide_50 : decode cX11_wide 50 = .ok (.goto (-18), 3) := by decide +kernel
theorem dX11_wide_53 : decode cX11_wide 53 = .ok (.aload_n 0, 1) := by decide +kernel
theorem dX11_wide_54 : decode cX11_wide 54 = .ok (.iconst 0, 1) := by decide +kernel
theorem dX11_wide_55 : decode cX11_wide 55 = .ok (.putfield 261, 3) := by decide +kernel
theorem dX11_wide_58 : decode cX11_wide 58 = .ok (.aload_n 0, 1) := by decide +kernel
theorem dX11_wide_59 : decode cX11_wide 59 = .ok (.iconst 0, 1) := by decide +kernel
theorem dX11_wide_60 : decode cX11_wide 60 = .ok (.putfield 275, 3) := by decide +kernel
theorem dX11_wide_63 : decode cX11_wide 63 = .ok (.aload_n 0, 1) := by decide +kernel
theorem dX11_wide_64 : decode cX11_wide 64 = .ok (.iconst 0, 1) := by decide +kernel
theorem dX11_wide_65 : decode cX11_wide 65 = .ok (.putfield 268, 3) := by decide +kernel
theorem dX11_wide_68 : decode cX11_wide 68 = .ok (.aload_n 0, 1) := by decide +kernel
theorem dX11_wide_69 : decode cX11_wide 69 = .ok (.iconst 0, 1) := by decide +kernel
theorem dX11_wide_70 : decode cX11_wide 70 = .ok (.putfield 190, 3) := by decide +kernel
theorem dX11_wide_73 : decode cX11_wide 73 = .ok (.aload_n 0, 1) := by decide +kernel
theorem dX11_wide_74 : decode cX11_wide 74 = .ok (.iconst 0, 1) := by decide +kernel
theorem dX11_wide_75 : decode cX11_wide 75 = .ok (.putfield 264, 3) := by decide +kernel
theorem dX11_wide_78 : decode cX11_wide 78 = .ok (.aload_n 0, 1) := by decide +kernel
theorem dX11_wide_79 : decode cX11_wide 79 = .ok (.iconst 0, 1) := by decide +kernel
theorem dX11_wide_80 : decode cX11_wide 80 = .ok (.putfield 184, 3) := by decide +kernel
theorem dX11_wide_83 : decode cX11_wide 83 = .ok (.aload_n 0, 1) := by decide +kernel
theorem dX11_wide_84 : decode cX11_wide 84 = .ok (.iconst 0, 1) := by decide +kernel
theorem dX11_wide_85 : decode cX11_wide 85 = .ok (.putfield 187, 3) := by decide +kernel
theorem dX11_wide_88 : decode cX11_wide 88 = .ok (.iload_n 1, 1) := by decide +kernel
theorem dX11_wide_89 : decode cX11_wide 89 = .ok (.ireturn, 1) := by decide +kernel
theorem dX11_find_0 : decode cX11_find 0 = .ok (.aload_n 0, 1) := by decide +kernel
theorem dX11_find_1 : decode cX11_find 1 = .ok (.iconst 0, 1) := by decide +kernel
theorem dX11_find_2 : decode cX11_find 2 = .ok (.putfield 116, 3) := by decide +kernel
theorem dX11_find_5 : decode cX11_find 5 = .ok (.aload_n 0, 1) := by decide +kernel
theorem dX11_find_6 : decode cX11_find 6 = .ok (.iload_n 1, 1) := by decide +kernel
theorem dX11_find_7 : decode cX11_find 7 = .ok (.invokevirtual 309, 3) := by decide +kernel
theorem dX11_find_10 : decode cX11_find 10 = .ok (.ifCond .eq 17, 3) := by decide +kernel
theorem dX11_find_13 : decode cX11_find 13 = .ok (.aload_n 0, 1) := by decide +kernel
theorem dX11_find_14 : decode cX11_find 14 = .ok (.aload_n 0, 1) := by decide +kernel
theorem dX11_find_15 : decode cX11_find 15 = .ok (.getfield 67, 3) := by decide +kernel
theorem dX11_find_18 : decode cX11_find 18 = .ok (.iload_n 1, 1) := by decide +kernel
theorem dX11_find_19 : decode cX11_find 19 = .ok (.iaload, 1) := by decide +kernel
theorem dX11_find_20 : decode cX11_find 20 = .ok (.iload_n 2, 1) := by decide +kernel
theorem dX11_find_21 : decode cX11_find 21 = .ok (.invokevirtual 218, 3) := by decide +kernel
theorem dX11_find_24 : decode cX11_find 24 = .ok (.goto 5, 3) := by decide +kernel
theorem dX11_find_27 : decode cX11_find 27 = .ok (.ldc 170, 2) := by decide +kernel
theorem dX11_find_29 : decode cX11_find 29 = .ok (.ireturn, 1) := by decide +kernel
theorem dX11_key_0 : decode cX11_key 0 = .ok (.aload_n 0, 1) := by decide +kernel
theorem dX11_key_1 : decode cX11_key 1 = .ok (.iconst 1, 1) := by decide +kernel
theorem dX11_key_2 : decode cX11_key 2 = .ok (.putfield 116, 3) := by decide +kernel
theorem dX11_key_5 : decode cX11_key 5 = .ok (.aload_n 0, 1) := by decide +kernel
theorem dX11_key_6 : decode cX11_key 6 = .ok (.iload_n 1, 1) := by decide +kernel
theorem dX11_key_7 : decode cX11_key 7 = .ok (.invokevirtual 309, 3) := by decide +kernel
theorem dX11_key_10 : decode cX11_key 10 = .ok (.ifCond .eq 7, 3) := by decide +kernel
theorem dX11_key_13 : decode cX11_key 13 = .ok (.iload_n 2, 1) := by decide +kernel
theorem dX11_key_14 : decode cX11_key 14 = .ok (.ifCond .ge 5, 3) := by decide +kernel
theorem dX11_key_17 : decode cX11_key 17 = .ok (.iconst 0, 1) := by decide +kernel
theorem dX11_key_18 : decode cX11_key 18 = .ok (.ireturn, 1) := by decide +kernel
theorem dX11_key_19 : decode cX11_key 19 = .ok (.aload_n 0, 1) := by decide +kernel
theorem dX11_key_20 : decode cX11_key 20 = .ok (.aload_n 0, 1) := by decide +kernel
theorem dX11_key_21 : decode cX11_key 21 = .ok (.getfield 67, 3) := by decide +kernel
theorem dX11_key_24 : decode cX11_key 24 = .ok (.iload_n 1, 1) := by decide +kernel
theorem dX11_key_25 : decode cX11_key 25 = .ok (.iaload, 1) := by decide +kernel
theorem dX11_key_26 : decode cX11_key 26 = .ok (.invokevirtual 252, 3) := by decide +kernel
theorem dX11_key_29 : decode cX11_key 29 = .ok (.iload_n 2, 1) := by decide +kernel
theorem dX11_key_30 : decode cX11_key 30 = .ok (.aload_n 0, 1) := by decide +kernel
theorem dX11_key_31 : decode cX11_key 31 = .ok (.getfield 249, 3) := by decide +kernel
theorem dX11_key_34 : decode cX11_key 34 = .ok (.if_icmp .lt 5, 3) := by decide +kernel
theorem dX11_key_37 : decode cX11_key 37 = .ok (.iconst 0, 1) := by decide +kernel
theorem dX11_key_38 : decode cX11_key 38 = .ok (.ireturn, 1) := by decide +kernel
theorem dX11_key_39 : decode cX11_key 39 = .ok (.aload_n 0, 1) := by decide +kernel
theorem dX11_key_40 : decode cX11_key 40 = .ok (.iconst 0, 1) := by decide +kernel
theorem dX11_key_41 : decode cX11_key 41 = .ok (.putfield 116, 3) := by decide +kernel
theorem dX11_key_44 : decode cX11_key 44 = .ok (.aload_n 0, 1) := by decide +kernel
theorem dX11_key_45 : decode cX11_key 45 = .ok (.getfield 55, 3) := by decide +kernel
theorem dX11_key_48 : decode cX11_key 48 = .ok (.iload_n 2, 1) := by decide +kernel
theorem dX11_key_49 : decode cX11_key 49 = .ok (.iaload, 1) := by decide +kernel
theorem dX11_key_50 : decode cX11_key 50 = .ok (.ireturn, 1) := by decide +kernel
theorem dX11_leaves_0 : decode cX11_leaves 0 = .ok (.iconst 0, 1) := by decide +kernel
theorem dX11_leaves_1 : decode cX11_leaves 1 = .ok (.istore_n 1, 1) := by decide +kernel
theorem dX11_leaves_2 : decode cX11_leaves 2 = .ok (.iconst 0, 1) := by decide +kernel
theorem dX11_leaves_3 : decode cX11_leaves 3 = .ok (.istore_n 2, 1) := by decide +kernel
theorem dX11_leaves_4 : decode cX11_leaves 4 = .ok (.iload_n 2, 1) := by decide +kernel
theorem dX11_leaves_5 : decode cX11_leaves 5 = .ok (.aload_n 0, 1) := by decide +kernel
theorem dX11_leaves_6 : decode cX11_leaves 6 = .ok (.getfield 243, 3) := by decide +kernel
theorem dX11_leaves_9 : decode cX11_leaves 9 = .ok (.if_icmp .ge 23, 3) := by decide +kernel
theorem dX11_leaves_12 : decode cX11_leaves 12 = .ok (.iload_n 1, 1) := by decide +kernel
theorem dX11_leaves_13 : decode cX11_leaves 13 = .ok (.aload_n 0, 1) := by decide +kernel
theorem dX11_leaves_14 : decode cX11_leaves 14 = .ok (.getfield 23, 3) := by decide +kernel
theorem dX11_leaves_17 : decode cX11_leaves 17 = .ok (.aload_n 0, 1) := by decide +kernel
theorem dX11_leaves_18 : decode cX11_leaves 18 = .ok (.getfield 61, 3) := by decide +kernel
theorem dX11_leaves_21 : decode cX11_leaves 21 = .ok (.iload_n 2, 1) := by decide +kernel
theorem dX11_leaves_22 : decode cX11_leaves 22 = .ok (.iaload, 1) := by decide +kernel
theorem dX11_leaves_23 : decode cX11_leaves 23 = .ok (.iaload, 1) := by decide +kernel
theorem dX11_leaves_24 : decode cX11_leaves 24 = .ok (.iadd, 1) := by decide +kernel
theorem dX11_leaves_25 : decode cX11_leaves 25 = .ok (.istore_n 1, 1) := by decide +kernel
theorem dX11_leaves_26 : decode cX11_leaves 26 = .ok (.iinc 2 1, 3) := by decide +kernel
theorem dX11_leaves_29 : decode cX11_leaves 29 = .ok (.goto (-25), 3) := by decide +kernel
theorem dX11_leaves_32 : decode cX11_leaves 32 = .ok (.iload_n 1, 1) := by decide +kernel
theorem dX11_leaves_33 : decode cX11_leaves 33 = .ok (.ireturn, 1) := by decide +kernel
theorem dX11_levels_0 : decode cX11_levels 0 = .ok (.iconst 0, 1) := by decide +kernel
theorem dX11_levels_1 : decode cX11_levels 1 = .ok (.istore_n 1, 1) := by decide +kernel
theorem dX11_levels_2 : decode cX11_levels 2 = .ok (.iconst 0, 1) := by decide +kernel
theorem dX11_levels_3 : decode cX11_levels 3 = .ok (.istore_n 2, 1) := by decide +kernel
theorem dX11_levels_4 : decode cX11_levels 4 = .ok (.iload_n 2, 1) := by decide +kernel
theorem dX11_levels_5 : decode cX11_levels 5 = .ok (.aload_n 0, 1) := by decide +kernel
theorem dX11_levels_6 : decode cX11_levels 6 = .ok (.getfield 243, 3) := by decide +kernel
theorem dX11_levels_9 : decode cX11_levels 9 = .ok (.if_icmp .ge 22, 3) := by decide +kernel
theorem dX11_levels_12 : decode cX11_levels 12 = .ok (.iload_n 1, 1) := by decide +kernel
theorem dX11_levels_13 : decode cX11_levels 13 = .ok (.aload_n 0, 1) := by decide +kernel
theorem dX11_levels_14 : decode cX11_levels 14 = .ok (.getfield 64, 3) := by decide +kernel
theorem dX11_levels_17 : decode cX11_levels 17 = .ok (.iload_n 2, 1) := by decide +kernel
theorem dX11_levels_18 : decode cX11_levels 18 = .ok (.iaload, 1) := by decide +kernel
theorem dX11_levels_19 : decode cX11_levels 19 = .ok (.iconst 1, 1) := by decide +kernel
theorem dX11_levels_20 : decode cX11_levels 20 = .ok (.iadd, 1) := by decide +kernel
theorem dX11_levels_21 : decode cX11_levels 21 = .ok (.invokestatic 313, 3) := by decide +kernel
theorem dX11_levels_24 : decode cX11_levels 24 = .ok (.istore_n 1, 1) := by decide +kernel
theorem dX11_levels_25 : decode cX11_levels 25 = .ok (.iinc 2 1, 3) := by decide +kernel
theorem dX11_levels_28 : decode cX11_levels 28 = .ok (.goto (-24), 3) := by decide +kernel
theorem dX11_levels_31 : decode cX11_levels 31 = .ok (.iload_n 1, 1) := by decide +kernel
theorem dX11_levels_32 : decode cX11_levels 32 = .ok (.ireturn, 1) := by decide +kernel
theorem dX11_sumOf_0 : decode cX11_sumOf 0 = .ok (.iconst 0, 1) := by decide +kernel
theorem dX11_sumOf_1 : decode cX11_sumOf 1 = .ok (.istore_n 3, 1) := by decide +kernel
theorem dX11_sumOf_2 : decode cX11_sumOf 2 = .ok (.iconst 0, 1) := by decide +kernel
theorem dX11_sumOf_3 : decode cX11_sumOf 3 = .ok (.istore 4, 2) := by decide +kernel
theorem dX11_sumOf_5 : decode cX11_sumOf 5 = .ok (.iload 4, 2) := by decide +kernel
theorem dX11_sumOf_7 : decode cX11_sumOf 7 = .ok (.aload_n 0, 1) := by decide +kernel
theorem dX11_sumOf_8 : decode cX11_sumOf 8 = .ok (.getfield 249, 3) := by decide +kernel
theorem dX11_sumOf_11 : decode cX11_sumOf 11 = .ok (.if_icmp .ge 45, 3) := by decide +kernel
theorem dX11_sumOf_14 : decode cX11_sumOf 14 = .ok (.iload_n 3, 1) := by decide +kernel
theorem dX11_sumOf_15 : decode cX11_sumOf 15 = .ok (.aload_n 0, 1) := by decide +kernel
theorem dX11_sumOf_16 : decode cX11_sumOf 16 = .ok (.getfield 55, 3) := by decide +kernel
theorem dX11_sumOf_19 : decode cX11_sumOf 19 = .ok (.iload 4, 2) := by decide +kernel
theorem dX11_sumOf_21 : decode cX11_sumOf 21 = .ok (.iaload, 1) := by decide +kernel
theorem dX11_sumOf_22 : decode cX11_sumOf 22 = .ok (.iload_n 1, 1) := by decide +kernel
theorem dX11_sumOf_23 : decode cX11_sumOf 23 = .ok (.if_icmp .lt 24, 3) := by decide +kernel
theorem dX11_sumOf_26 : decode cX11_sumOf 26 = .ok (.aload_n 0, 1) := by decide +kernel
theorem dX11_sumOf_27 : decode cX11_sumOf 27 = .ok (.getfield 55, 3) := by decide +kernel
theorem dX11_sumOf_30 : decode cX11_sumOf 30 = .ok (.iload 4, 2) := by decide +kernel
theorem dX11_sumOf_32 : decode cX11_sumOf 32 = .ok (.iaload, 1) := by decide +kernel
theorem dX11_sumOf_33 : decode cX11_sumOf 33 = .ok (.iload_n 2, 1) := by decide +kernel
theorem dX11_sumOf_34 : decode cX11_sumOf 34 = .ok (.if_icmp .gt 13, 3) := by decide +kernel
theorem dX11_sumOf_37 : decode cX11_sumOf 37 = .ok (.aload_n 0, 1) := by decide +kernel
theorem dX11_sumOf_38 : decode cX11_sumOf 38 = .ok (.getfield 58, 3) := by decide +kernel
theorem dX11_sumOf_41 : decode cX11_sumOf 41 = .ok (.iload 4, 2) := by decide +kernel
theorem dX11_sumOf_43 : decode cX11_sumOf 43 = .ok (.iaload, 1) := by decide +kernel
theorem dX11_sumOf_44 : decode cX11_sumOf 44 = .ok (.goto 4, 3) := by decide +kernel
theorem dX11_sumOf_47 : decode cX11_sumOf 47 = .ok (.iconst 0, 1) := by decide +kernel
theorem dX11_sumOf_48 : decode cX11_sumOf 48 = .ok (.iadd, 1) := by decide +kernel
theorem dX11_sumOf_49 : decode cX11_sumOf 49 = .ok (.istore_n 3, 1) := by decide +kernel
theorem dX11_sumOf_50 : decode cX11_sumOf 50 = .ok (.iinc 4 1, 3) := by decide +kernel
theorem dX11_sumOf_53 : decode cX11_sumOf 53 = .ok (.goto (-48), 3) := by decide +kernel
theorem dX11_sumOf_56 : decode cX11_sumOf 56 = .ok (.iload_n 3, 1) := by decide +kernel
theorem dX11_sumOf_57 : decode cX11_sumOf 57 = .ok (.ireturn, 1) := by decide +kernel
theorem dX11_about_0 : decode cX11_about 0 = .ok (.aload_n 0, 1) := by decide +kernel
theorem dX11_about_1 : decode cX11_about 1 = .ok (.iconst 0, 1) := by decide +kernel
theorem dX11_about_2 : decode cX11_about 2 = .ok (.putfield 116, 3) := by decide +kernel
theorem dX11_about_5 : decode cX11_about 5 = .ok (.aload_n 0, 1) := by decide +kernel
theorem dX11_about_6 : decode cX11_about 6 = .ok (.iload_n 1, 1) := by decide +kernel
theorem dX11_about_7 : decode cX11_about 7 = .ok (.invokevirtual 309, 3) := by decide +kernel
theorem dX11_about_10 : decode cX11_about 10 = .ok (.ifCond .eq 15, 3) := by decide +kernel
theorem dX11_about_13 : decode cX11_about 13 = .ok (.iload_n 2, 1) := by decide +kernel
theorem dX11_about_14 : decode cX11_about 14 = .ok (.i2l, 1) := by decide +kernel
theorem dX11_about_15 : decode cX11_about 15 = .ok (.lconst 0, 1) := by decide +kernel
theorem dX11_about_16 : decode cX11_about 16 = .ok (.ldc2_w 307, 3) := by decide +kernel
theorem dX11_about_19 : decode cX11_about 19 = .ok (.invokestatic 174, 3) := by decide +kernel
theorem dX11_about_22 : decode cX11_about 22 = .ok (.ifCond .ne 6, 3) := by decide +kernel
theorem dX11_about_25 : decode cX11_about 25 = .ok (.ldc 170, 2) := by decide +kernel
theorem dX11_about_27 : decode cX11_about 27 = .ok (.ireturn, 1) := by decide +kernel
theorem dX11_about_28 : decode cX11_about 28 = .ok (.aload_n 0, 1) := by decide +kernel
theorem dX11_about_29 : decode cX11_about 29 = .ok (.aload_n 0, 1) := by decide +kernel
theorem dX11_about_30 : decode cX11_about 30 = .ok (.getfield 67, 3) := by decide +kernel
theorem dX11_about_33 : decode cX11_about 33 = .ok (.iload_n 1, 1) := by decide +kernel
theorem dX11_about_34 : decode cX11_about 34 = .ok (.iaload, 1) := by decide +kernel
theorem dX11_about_35 : decode cX11_about 35 = .ok (.invokevirtual 252, 3) := by decide +kernel
theorem dX11_about_38 : decode cX11_about 38 = .ok (.iload_n 2, 1) := by decide +kernel
theorem dX11_about_39 : decode cX11_about 39 = .ok (.tableswitch 73 0 5 #[37, 42, 47, 52, 57, 66], 37) := by decide +kernel
theorem dX11_about_76 : decode cX11_about 76 = .ok (.aload_n 0, 1) := by decide +kernel
theorem dX11_about_77 : decode cX11_about 77 = .ok (.getfield 249, 3) := by decide +kernel
theorem dX11_about_80 : decode cX11_about 80 = .ok (.ireturn, 1) := by decide +kernel
theorem dX11_about_81 : decode cX11_about 81 = .ok (.aload_n 0, 1) := by decide +kernel
theorem dX11_about_82 : decode cX11_about 82 = .ok (.invokevirtual 318, 3) := by decide +kernel
theorem dX11_about_85 : decode cX11_about 85 = .ok (.ireturn, 1) := by decide +kernel
theorem dX11_about_86 : decode cX11_about 86 = .ok (.aload_n 0, 1) := by decide +kernel
theorem dX11_about_87 : decode cX11_about 87 = .ok (.getfield 243, 3) := by decide +kernel
theorem dX11_about_90 : decode cX11_about 90 = .ok (.ireturn, 1) := by decide +kernel
theorem dX11_about_91 : decode cX11_about 91 = .ok (.aload_n 0, 1) := by decide +kernel
theorem dX11_about_92 : decode cX11_about 92 = .ok (.invokevirtual 321, 3) := by decide +kernel
theorem dX11_about_95 : decode cX11_about 95 = .ok (.ireturn, 1) := by decide +kernel
theorem dX11_about_96 : decode cX11_about 96 = .ok (.aload_n 0, 1) := by decide +kernel
theorem dX11_about_97 : decode cX11_about 97 = .ok (.iconst 0, 1) := by decide +kernel
theorem dX11_about_98 : decode cX11_about 98 = .ok (.sipush 999, 3) := by decide +kernel
theorem dX11_about_101 : decode cX11_about 101 = .ok (.invokevirtual 324, 3) := by decide +kernel
theorem dX11_about_104 : decode cX11_about 104 = .ok (.ireturn, 1) := by decide +kernel
theorem dX11_about_105 : decode cX11_about 105 = .ok (.aload_n 0, 1) := by decide +kernel
theorem dX11_about_106 : decode cX11_about 106 = .ok (.getfield 70, 3) := by decide +kernel
theorem dX11_about_109 : decode cX11_about 109 = .ok (.iload_n 1, 1) := by decide +kernel
theorem dX11_about_110 : decode cX11_about 110 = .ok (.iaload, 1) := by decide +kernel
theorem dX11_about_111 : decode cX11_about 111 = .ok (.ireturn, 1) := by decide +kernel
theorem dX11_about_112 : decode cX11_about 112 = .ok (.aload_n 0, 1) := by decide +kernel
theorem dX11_about_113 : decode cX11_about 113 = .ok (.getfield 73, 3) := by decide +kernel
theorem dX11_about_116 : decode cX11_about 116 = .ok (.iload_n 1, 1) := by decide +kernel
theorem dX11_about_117 : decode cX11_about 117 = .ok (.iaload, 1) := by decide +kernel
theorem dX11_about_118 : decode cX11_about 118 = .ok (.ireturn, 1) := by decide +kernel
theorem dX11_below_0 : decode cX11_below 0 = .ok (.aload_n 0, 1) := by decide +kernel
theorem dX11_below_1 : decode cX11_below 1 = .ok (.iconst 0, 1) := by decide +kernel
theorem dX11_below_2 : decode cX11_below 2 = .ok (.putfield 116, 3) := by decide +kernel
theorem dX11_below_5 : decode cX11_below 5 = .ok (.aload_n 0, 1) := by decide +kernel
theorem dX11_below_6 : decode cX11_below 6 = .ok (.iload_n 1, 1) := by decide +kernel
theorem dX11_below_7 : decode cX11_below 7 = .ok (.invokevirtual 309, 3) := by decide +kernel
theorem dX11_below_10 : decode cX11_below 10 = .ok (.ifCond .ne 5, 3) := by decide +kernel
theorem dX11_below_13 : decode cX11_below 13 = .ok (.iconst (-1), 1) := by decide +kernel
theorem dX11_below_14 : decode cX11_below 14 = .ok (.ireturn, 1) := by decide +kernel
theorem dX11_below_15 : decode cX11_below 15 = .ok (.aload_n 0, 1) := by decide +kernel
theorem dX11_below_16 : decode cX11_below 16 = .ok (.aload_n 0, 1) := by decide +kernel
theorem dX11_below_17 : decode cX11_below 17 = .ok (.getfield 67, 3) := by decide +kernel
theorem dX11_below_20 : decode cX11_below 20 = .ok (.iload_n 1, 1) := by decide +kernel
theorem dX11_below_21 : decode cX11_below 21 = .ok (.iaload, 1) := by decide +kernel
theorem dX11_below_22 : decode cX11_below 22 = .ok (.invokevirtual 252, 3) := by decide +kernel
theorem dX11_below_25 : decode cX11_below 25 = .ok (.iconst 0, 1) := by decide +kernel
theorem dX11_below_26 : decode cX11_below 26 = .ok (.istore_n 3, 1) := by decide +kernel
theorem dX11_below_27 : decode cX11_below 27 = .ok (.iload_n 3, 1) := by decide +kernel
theorem dX11_below_28 : decode cX11_below 28 = .ok (.aload_n 0, 1) := by decide +kernel
theorem dX11_below_29 : decode cX11_below 29 = .ok (.getfield 249, 3) := by decide +kernel
theorem dX11_below_32 : decode cX11_below 32 = .ok (.if_icmp .ge 19, 3) := by decide +kernel
theorem dX11_below_35 : decode cX11_below 35 = .ok (.aload_n 0, 1) := by decide +kernel
theorem dX11_below_36 : decode cX11_below 36 = .ok (.getfield 55, 3) := by decide +kernel
theorem dX11_below_39 : decode cX11_below 39 = .ok (.iload_n 3, 1) := by decide +kernel
theorem dX11_below_40 : decode cX11_below 40 = .ok (.iaload, 1) := by decide +kernel
theorem dX11_below_41 : decode cX11_below 41 = .ok (.iload_n 2, 1) := by decide +kernel
theorem dX11_below_42 : decode cX11_below 42 = .ok (.if_icmp .ge 9, 3) := by decide +kernel
theorem dX11_below_45 : decode cX11_below 45 = .ok (.iinc 3 1, 3) := by decide +kernel
theorem dX11_below_48 : decode cX11_below 48 = .ok (.goto (-21), 3) := by decide +kernel
theorem dX11_below_51 : decode cX11_below 51 = .ok (.iload_n 3, 1) := by decide +kernel
theorem dX11_below_52 : decode cX11_below 52 = .ok (.ireturn, 1) := by decide +kernel
theorem dX11_near_0 : decode cX11_near 0 = .ok (.aload_n 0, 1) := by decide +kernel
theorem dX11_near_1 : decode cX11_near 1 = .ok (.iconst 0, 1) := by decide +kernel
theorem dX11_near_2 : decode cX11_near 2 = .ok (.putfield 116, 3) := by decide +kernel
theorem dX11_near_5 : decode cX11_near 5 = .ok (.aload_n 0, 1) := by decide +kernel
theorem dX11_near_6 : decode cX11_near 6 = .ok (.iload_n 1, 1) := by decide +kernel
theorem dX11_near_7 : decode cX11_near 7 = .ok (.invokevirtual 309, 3) := by decide +kernel
theorem dX11_near_10 : decode cX11_near 10 = .ok (.ifCond .eq 15, 3) := by decide +kernel
theorem dX11_near_13 : decode cX11_near 13 = .ok (.iload_n 3, 1) := by decide +kernel
theorem dX11_near_14 : decode cX11_near 14 = .ok (.i2l, 1) := by decide +kernel
theorem dX11_near_15 : decode cX11_near 15 = .ok (.lconst 0, 1) := by decide +kernel
theorem dX11_near_16 : decode cX11_near 16 = .ok (.ldc2_w 305, 3) := by decide +kernel
theorem dX11_near_19 : decode cX11_near 19 = .ok (.invokestatic 174, 3) := by decide +kernel
theorem dX11_near_22 : decode cX11_near 22 = .ok (.ifCond .ne 5, 3) := by decide +kernel
theorem dX11_near_25 : decode cX11_near 25 = .ok (.iconst (-1), 1) := by decide +kernel
theorem dX11_near_26 : decode cX11_near 26 = .ok (.ireturn, 1) := by decide +kernel
theorem dX11_near_27 : decode cX11_near 27 = .ok (.aload_n 0, 1) := by decide +kernel
theorem dX11_near_28 : decode cX11_near 28 = .ok (.aload_n 0, 1) := by decide +kernel
theorem dX11_near_29 : decode cX11_near 29 = .ok (.getfield 67, 3) := by decide +kernel
theorem dX11_near_32 : decode cX11_near 32 = .ok (.iload_n 1, 1) := by decide +kernel
theorem dX11_near_33 : decode cX11_near 33 = .ok (.iaload, 1) := by decide +kernel
theorem dX11_near_34 : decode cX11_near 34 = .ok (.invokevirtual 252, 3) := by decide +kernel
theorem dX11_near_37 : decode cX11_near 37 = .ok (.iconst (-1), 1) := by decide +kernel
theorem dX11_near_38 : decode cX11_near 38 = .ok (.istore 4, 2) := by decide +kernel
theorem dX11_near_40 : decode cX11_near 40 = .ok (.iconst (-1), 1) := by decide +kernel
theorem dX11_near_41 : decode cX11_near 41 = .ok (.istore 5, 2) := by decide +kernel
theorem dX11_near_43 : decode cX11_near 43 = .ok (.iconst 0, 1) := by decide +kernel
theorem dX11_near_44 : decode cX11_near 44 = .ok (.istore 6, 2) := by decide +kernel
theorem dX11_near_46 : decode cX11_near 46 = .ok (.iload 6, 2) := by decide +kernel
theorem dX11_near_48 : decode cX11_near 48 = .ok (.aload_n 0, 1) := by decide +kernel
theorem dX11_near_49 : decode cX11_near 49 = .ok (.getfield 249, 3) := by decide +kernel
theorem dX11_near_52 : decode cX11_near 52 = .ok (.if_icmp .ge 86, 3) := by decide +kernel
theorem dX11_near_55 : decode cX11_near 55 = .ok (.aload_n 0, 1) := by decide +kernel
theorem dX11_near_56 : decode cX11_near 56 = .ok (.getfield 55, 3) := by decide +kernel
theorem dX11_near_59 : decode cX11_near 59 = .ok (.iload 6, 2) := by decide +kernel
theorem dX11_near_61 : decode cX11_near 61 = .ok (.iaload, 1) := by decide +kernel
theorem dX11_near_62 : decode cX11_near 62 = .ok (.iload_n 2, 1) := by decide +kernel
theorem dX11_near_63 : decode cX11_near 63 = .ok (.if_icmp .lt 18, 3) := by decide +kernel
theorem dX11_near_66 : decode cX11_near 66 = .ok (.iload_n 3, 1) := by decide +kernel
theorem dX11_near_67 : decode cX11_near 67 = .ok (.ifCond .ne 23, 3) := by decide +kernel
theorem dX11_near_70 : decode cX11_near 70 = .ok (.aload_n 0, 1) := by decide +kernel
theorem dX11_near_71 : decode cX11_near 71 = .ok (.getfield 55, 3) := by decide +kernel
theorem dX11_near_74 : decode cX11_near 74 = .ok (.iload 6, 2) := by decide +kernel
theorem dX11_near_76 : decode cX11_near 76 = .ok (.iaload, 1) := by decide +kernel
theorem dX11_near_77 : decode cX11_near 77 = .ok (.iload_n 2, 1) := by decide +kernel
theorem dX11_near_78 : decode cX11_near 78 = .ok (.if_icmp .ne 12, 3) := by decide +kernel
theorem dX11_near_81 : decode cX11_near 81 = .ok (.aload_n 0, 1) := by decide +kernel
theorem dX11_near_82 : decode cX11_near 82 = .ok (.getfield 55, 3) := by decide +kernel
theorem dX11_near_85 : decode cX11_near 85 = .ok (.iload 6, 2) := by decide +kernel
theorem dX11_near_87 : decode cX11_near 87 = .ok (.iaload, 1) := by decide +kernel
theorem dX11_near_88 : decode cX11_near 88 = .ok (.istore 4, 2) := by decide +kernel
theorem dX11_near_90 : decode cX11_near 90 = .ok (.iload 5, 2) := by decide +kernel
theorem dX11_near_92 : decode cX11_near 92 = .ok (.iconst (-1), 1) := by decide +kernel
theorem dX11_near_93 : decode cX11_near 93 = .ok (.if_icmp .ne 39, 3) := by decide +kernel
theorem dX11_near_96 : decode cX11_near 96 = .ok (.aload_n 0, 1) := by decide +kernel
theorem dX11_near_97 : decode cX11_near 97 = .ok (.getfield 55, 3) := by decide +kernel
theorem dX11_near_100 : decode cX11_near 100 = .ok (.iload 6, 2) := by decide +kernel
theorem dX11_near_102 : decode cX11_near 102 = .ok (.iaload, 1) := by decide +kernel
theorem dX11_near_103 : decode cX11_near 103 = .ok (.iload_n 2, 1) := by decide +kernel
theorem dX11_near_104 : decode cX11_near 104 = .ok (.if_icmp .gt 19, 3) := by decide +kernel
theorem dX11_near_107 : decode cX11_near 107 = .ok (.iload_n 3, 1) := by decide +kernel
theorem dX11_near_108 : decode cX11_near 108 = .ok (.iconst 1, 1) := by decide +kernel
theorem dX11_near_109 : decode cX11_near 109 = .ok (.if_icmp .ne 23, 3) := by decide +kernel
theorem dX11_near_112 : decode cX11_near 112 = .ok (.aload_n 0, 1) := by decide +kernel
theorem dX11_near_113 : decode cX11_near 113 = .ok (.getfield 55, 3) := by decide +kernel
theorem dX11_near_116 : decode cX11_near 116 = .ok (.iload 6, 2) := by decide +kernel
theorem dX11_near_118 : decode cX11_near 118 = .ok (.iaload, 1) := by decide +kernel
theorem dX11_near_119 : decode cX11_near 119 = .ok (.iload_n 2, 1) := by decide +kernel
theorem dX11_near_120 : decode cX11_near 120 = .ok (.if_icmp .ne 12, 3) := by decide +kernel
theorem dX11_near_123 : decode cX11_near 123 = .ok (.aload_n 0, 1) := by decide +kernel
theorem dX11_near_124 : decode cX11_near 124 = .ok (.getfield 55, 3) := by decide +kernel
theorem dX11_near_127 : decode cX11_near 127 = .ok (.iload 6, 2) := by decide +kernel
theorem dX11_near_129 : decode cX11_near 129 = .ok (.iaload, 1) := by decide +kernel
theorem dX11_near_130 : decode cX11_near 130 = .ok (.istore 5, 2) := by decide +kernel
theorem dX11_near_132 : decode cX11_near 132 = .ok (.iinc 6 1, 3) := by decide +kernel
theorem dX11_near_135 : decode cX11_near 135 = .ok (.goto (-89), 3) := by decide +kernel
theorem dX11_near_138 : decode cX11_near 138 = .ok (.iload_n 3, 1) := by decide +kernel
theorem dX11_near_139 : decode cX11_near 139 = .ok (.ifCond .eq 8, 3) := by decide +kernel
theorem dX11_near_142 : decode cX11_near 142 = .ok (.iload_n 3, 1) := by decide +kernel
theorem dX11_near_143 : decode cX11_near 143 = .ok (.iconst 2, 1) := by decide +kernel
theorem dX11_near_144 : decode cX11_near 144 = .ok (.if_icmp .ne 8, 3) := by decide +kernel
theorem dX11_near_147 : decode cX11_near 147 = .ok (.iload 4, 2) := by decide +kernel
theorem dX11_near_149 : decode cX11_near 149 = .ok (.goto 5, 3) := by decide +kernel
theorem dX11_near_152 : decode cX11_near 152 = .ok (.iload 5, 2) := by decide +kernel
theorem dX11_near_154 : decode cX11_near 154 = .ok (.ireturn, 1) := by decide +kernel
theorem dX11_total_0 : decode cX11_total 0 = .ok (.aload_n 0, 1) := by decide +kernel
theorem dX11_total_1 : decode cX11_total 1 = .ok (.iconst 0, 1) := by decide +kernel
theorem dX11_total_2 : decode cX11_total 2 = .ok (.putfield 116, 3) := by decide +kernel
theorem dX11_total_5 : decode cX11_total 5 = .ok (.aload_n 0, 1) := by decide +kernel
theorem dX11_total_6 : decode cX11_total 6 = .ok (.iload_n 1, 1) := by decide +kernel
theorem dX11_total_7 : decode cX11_total 7 = .ok (.invokevirtual 309, 3) := by decide +kernel
theorem dX11_total_10 : decode cX11_total 10 = .ok (.ifCond .ne 6, 3) := by decide +kernel
theorem dX11_total_13 : decode cX11_total 13 = .ok (.ldc 170, 2) := by decide +kernel
theorem dX11_total_15 : decode cX11_total 15 = .ok (.ireturn, 1) := by decide +kernel
theorem dX11_total_16 : decode cX11_total 16 = .ok (.aload_n 0, 1) := by decide +kernel
theorem dX11_total_17 : decode cX11_total 17 = .ok (.aload_n 0, 1) := by decide +kernel
theorem dX11_total_18 : decode cX11_total 18 = .ok (.getfield 67, 3) := by decide +kernel
theorem dX11_total_21 : decode cX11_total 21 = .ok (.iload_n 1, 1) := by decide +kernel
theorem dX11_total_22 : decode cX11_total 22 = .ok (.iaload, 1) := by decide +kernel
theorem dX11_total_23 : decode cX11_total 23 = .ok (.invokevirtual 252, 3) := by decide +kernel
theorem dX11_total_26 : decode cX11_total 26 = .ok (.aload_n 0, 1) := by decide +kernel
theorem dX11_total_27 : decode cX11_total 27 = .ok (.iload_n 2, 1) := by decide +kernel
theorem dX11_total_28 : decode cX11_total 28 = .ok (.iload_n 3, 1) := by decide +kernel
theorem dX11_total_29 : decode cX11_total 29 = .ok (.invokevirtual 324, 3) := by decide +kernel
theorem dX11_total_32 : decode cX11_total 32 = .ok (.ireturn, 1) := by decide +kernel
theorem dX11_holders_0 : decode cX11_holders 0 = .ok (.iconst 0, 1) := by decide +kernel
theorem dX11_holders_1 : decode cX11_holders 1 = .ok (.istore_n 2, 1) := by decide +kernel
theorem dX11_holders_2 : decode cX11_holders 2 = .ok (.iconst 0, 1) := by decide +kernel
theorem dX11_holders_3 : decode cX11_holders 3 = .ok (.istore_n 3, 1) := by decide +kernel
theorem dX11_holders_4 : decode cX11_holders 4 = .ok (.iload_n 3, 1) := by decide +kernel
theorem dX11_holders_5 : decode cX11_holders 5 = .ok (.aload_n 0, 1) := by decide +kernel
theorem dX11_holders_6 : decode cX11_holders 6 = .ok (.getfield 261, 3) := by decide +kernel
theorem dX11_holders_9 : decode cX11_holders 9 = .ok (.if_icmp .ge 64, 3) := by decide +kernel
theorem dX11_holders_12 : decode cX11_holders 12 = .ok (.aload_n 0, 1) := by decide +kernel
theorem dX11_holders_13 : decode cX11_holders 13 = .ok (.getfield 88, 3) := by decide +kernel
theorem dX11_holders_16 : decode cX11_holders 16 = .ok (.iload_n 3, 1) := by decide +kernel
theorem dX11_holders_17 : decode cX11_holders 17 = .ok (.baload, 1) := by decide +kernel
theorem dX11_holders_18 : decode cX11_holders 18 = .ok (.ifCond .ne 6, 3) := by decide +kernel
theorem dX11_holders_21 : decode cX11_holders 21 = .ok (.goto 46, 3) := by decide +kernel
theorem dX11_holders_24 : decode cX11_holders 24 = .ok (.aload_n 0, 1) := by decide +kernel
theorem dX11_holders_25 : decode cX11_holders 25 = .ok (.dup, 1) := by decide +kernel
theorem dX11_holders_26 : decode cX11_holders 26 = .ok (.getfield 255, 3) := by decide +kernel
theorem dX11_holders_29 : decode cX11_holders 29 = .ok (.iconst 1, 1) := by decide +kernel
theorem dX11_holders_30 : decode cX11_holders 30 = .ok (.iadd, 1) := by decide +kernel
theorem dX11_holders_31 : decode cX11_holders 31 = .ok (.putfield 255, 3) := by decide +kernel
theorem dX11_holders_34 : decode cX11_holders 34 = .ok (.aload_n 0, 1) := by decide +kernel
theorem dX11_holders_35 : decode cX11_holders 35 = .ok (.aload_n 0, 1) := by decide +kernel
theorem dX11_holders_36 : decode cX11_holders 36 = .ok (.getfield 67, 3) := by decide +kernel
theorem dX11_holders_39 : decode cX11_holders 39 = .ok (.iload_n 3, 1) := by decide +kernel
theorem dX11_holders_40 : decode cX11_holders 40 = .ok (.iaload, 1) := by decide +kernel
theorem dX11_holders_41 : decode cX11_holders 41 = .ok (.invokevirtual 258, 3) := by decide +kernel
theorem dX11_holders_44 : decode cX11_holders 44 = .ok (.istore 4, 2) := by decide +kernel
theorem dX11_holders_46 : decode cX11_holders 46 = .ok (.iload_n 2, 1) := by decide +kernel
theorem dX11_holders_47 : decode cX11_holders 47 = .ok (.aload_n 0, 1) := by decide +kernel
theorem dX11_holders_48 : decode cX11_holders 48 = .ok (.getfield 32, 3) := by decide +kernel
theorem dX11_holders_51 : decode cX11_holders 51 = .ok (.iload_n 1, 1) := by decide +kernel
theorem dX11_holders_52 : decode cX11_holders 52 = .ok (.iaload, 1) := by decide +kernel
theorem dX11_holders_53 : decode cX11_holders 53 = .ok (.aload_n 0, 1) := by decide +kernel
theorem dX11_holders_54 : decode cX11_holders 54 = .ok (.getfield 255, 3) := by decide +kernel
theorem dX11_holders_57 : decode cX11_holders 57 = .ok (.if_icmp .ne 7, 3) := by decide +kernel
theorem dX11_holders_60 : decode cX11_holders 60 = .ok (.iconst 1, 1) := by decide +kernel
theorem dX11_holders_61 : decode cX11_holders 61 = .ok (.goto 4, 3) := by decide +kernel
theorem dX11_holders_64 : decode cX11_holders 64 = .ok (.iconst 0, 1) := by decide +kernel
theorem dX11_holders_65 : decode cX11_holders 65 = .ok (.iadd, 1) := by decide +kernel
theorem dX11_holders_66 : decode cX11_holders 66 = .ok (.istore_n 2, 1) := by decide +kernel
theorem dX11_holders_67 : decode cX11_holders 67 = .ok (.iinc 3 1, 3) := by decide +kernel
theorem dX11_holders_70 : decode cX11_holders 70 = .ok (.goto (-66), 3) := by decide +kernel
theorem dX11_holders_73 : decode cX11_holders 73 = .ok (.iload_n 2, 1) := by decide +kernel
theorem dX11_holders_74 : decode cX11_holders 74 = .ok (.ireturn, 1) := by decide +kernel
theorem dX11_node_0 : decode cX11_node 0 = .ok (.aload_n 0, 1) := by decide +kernel
theorem dX11_node_1 : decode cX11_node 1 = .ok (.iconst 0, 1) := by decide +kernel
theorem dX11_node_2 : decode cX11_node 2 = .ok (.putfield 116, 3) := by decide +kernel
theorem dX11_node_5 : decode cX11_node 5 = .ok (.aload_n 0, 1) := by decide +kernel
theorem dX11_node_6 : decode cX11_node 6 = .ok (.iload_n 1, 1) := by decide +kernel
theorem dX11_node_7 : decode cX11_node 7 = .ok (.invokevirtual 309, 3) := by decide +kernel
theorem dX11_node_10 : decode cX11_node 10 = .ok (.ifCond .eq 19, 3) := by decide +kernel
theorem dX11_node_13 : decode cX11_node 13 = .ok (.iload_n 2, 1) := by decide +kernel
theorem dX11_node_14 : decode cX11_node 14 = .ok (.ifCond .lt 15, 3) := by decide +kernel
theorem dX11_node_17 : decode cX11_node 17 = .ok (.iload_n 3, 1) := by decide +kernel
theorem dX11_node_18 : decode cX11_node 18 = .ok (.i2l, 1) := by decide +kernel
theorem dX11_node_19 : decode cX11_node 19 = .ok (.lconst 0, 1) := by decide +kernel
theorem dX11_node_20 : decode cX11_node 20 = .ok (.ldc2_w 327, 3) := by decide +kernel
theorem dX11_node_23 : decode cX11_node 23 = .ok (.invokestatic 174, 3) := by decide +kernel
theorem dX11_node_26 : decode cX11_node 26 = .ok (.ifCond .ne 6, 3) := by decide +kernel
theorem dX11_node_29 : decode cX11_node 29 = .ok (.ldc 170, 2) := by decide +kernel
theorem dX11_node_31 : decode cX11_node 31 = .ok (.ireturn, 1) := by decide +kernel
theorem dX11_node_32 : decode cX11_node 32 = .ok (.aload_n 0, 1) := by decide +kernel
theorem dX11_node_33 : decode cX11_node 33 = .ok (.aload_n 0, 1) := by decide +kernel
theorem dX11_node_34 : decode cX11_node 34 = .ok (.getfield 67, 3) := by decide +kernel
theorem dX11_node_37 : decode cX11_node 37 = .ok (.iload_n 1, 1) := by decide +kernel
theorem dX11_node_38 : decode cX11_node 38 = .ok (.iaload, 1) := by decide +kernel
theorem dX11_node_39 : decode cX11_node 39 = .ok (.invokevirtual 252, 3) := by decide +kernel
theorem dX11_node_42 : decode cX11_node 42 = .ok (.iload_n 2, 1) := by decide +kernel
theorem dX11_node_43 : decode cX11_node 43 = .ok (.aload_n 0, 1) := by decide +kernel
theorem dX11_node_44 : decode cX11_node 44 = .ok (.getfield 243, 3) := by decide +kernel
theorem dX11_node_47 : decode cX11_node 47 = .ok (.if_icmp .lt 6, 3) := by decide +kernel
theorem dX11_node_50 : decode cX11_node 50 = .ok (.ldc 170, 2) := by decide +kernel
theorem dX11_node_52 : decode cX11_node 52 = .ok (.ireturn, 1) := by decide +kernel
theorem dX11_node_53 : decode cX11_node 53 = .ok (.aload_n 0, 1) := by decide +kernel
theorem dX11_node_54 : decode cX11_node 54 = .ok (.getfield 61, 3) := by decide +kernel
theorem dX11_node_57 : decode cX11_node 57 = .ok (.iload_n 2, 1) := by decide +kernel
theorem dX11_node_58 : decode cX11_node 58 = .ok (.iaload, 1) := by decide +kernel
theorem dX11_node_59 : decode cX11_node 59 = .ok (.istore 4, 2) := by decide +kernel
theorem dX11_node_61 : decode cX11_node 61 = .ok (.iload_n 3, 1) := by decide +kernel
theorem dX11_node_62 : decode cX11_node 62 = .ok (.tableswitch 71 0 4 #[34, 42, 50, 57, 64], 34) := by decide +kernel
theorem dX11_node_96 : decode cX11_node 96 = .ok (.aload_n 0, 1) := by decide +kernel
theorem dX11_node_97 : decode cX11_node 97 = .ok (.getfield 23, 3) := by decide +kernel
theorem dX11_node_100 : decode cX11_node 100 = .ok (.iload 4, 2) := by decide +kernel
theorem dX11_node_102 : decode cX11_node 102 = .ok (.iaload, 1) := by decide +kernel
theorem dX11_node_103 : decode cX11_node 103 = .ok (.ireturn, 1) := by decide +kernel
theorem dX11_node_104 : decode cX11_node 104 = .ok (.aload_n 0, 1) := by decide +kernel
theorem dX11_node_105 : decode cX11_node 105 = .ok (.getfield 26, 3) := by decide +kernel
theorem dX11_node_108 : decode cX11_node 108 = .ok (.iload 4, 2) := by decide +kernel
theorem dX11_node_110 : decode cX11_node 110 = .ok (.iaload, 1) := by decide +kernel
theorem dX11_node_111 : decode cX11_node 111 = .ok (.ireturn, 1) := by decide +kernel
theorem dX11_node_112 : decode cX11_node 112 = .ok (.aload_n 0, 1) := by decide +kernel
theorem dX11_node_113 : decode cX11_node 113 = .ok (.iload 4, 2) := by decide +kernel
theorem dX11_node_115 : decode cX11_node 115 = .ok (.invokevirtual 200, 3) := by decide +kernel
theorem dX11_node_118 : decode cX11_node 118 = .ok (.ireturn, 1) := by decide +kernel
theorem dX11_node_119 : decode cX11_node 119 = .ok (.aload_n 0, 1) := by decide +kernel
theorem dX11_node_120 : decode cX11_node 120 = .ok (.getfield 64, 3) := by decide +kernel
theorem dX11_node_123 : decode cX11_node 123 = .ok (.iload_n 2, 1) := by decide +kernel
theorem dX11_node_124 : decode cX11_node 124 = .ok (.iaload, 1) := by decide +kernel
theorem dX11_node_125 : decode cX11_node 125 = .ok (.ireturn, 1) := by decide +kernel
theorem dX11_node_126 : decode cX11_node 126 = .ok (.aload_n 0, 1) := by decide +kernel
theorem dX11_node_127 : decode cX11_node 127 = .ok (.iload 4, 2) := by decide +kernel
theorem dX11_node_129 : decode cX11_node 129 = .ok (.invokevirtual 329, 3) := by decide +kernel
theorem dX11_node_132 : decode cX11_node 132 = .ok (.ireturn, 1) := by decide +kernel
theorem dX11_node_133 : decode cX11_node 133 = .ok (.aload_n 0, 1) := by decide +kernel
theorem dX11_node_134 : decode cX11_node 134 = .ok (.iload 4, 2) := by decide +kernel
theorem dX11_node_136 : decode cX11_node 136 = .ok (.invokevirtual 332, 3) := by decide +kernel
theorem dX11_node_139 : decode cX11_node 139 = .ok (.ireturn, 1) := by decide +kernel
theorem dX11_having_0 : decode cX11_having 0 = .ok (.aload_n 0, 1) := by decide +kernel
theorem dX11_having_1 : decode cX11_having 1 = .ok (.iconst 0, 1) := by decide +kernel
theorem dX11_having_2 : decode cX11_having 2 = .ok (.putfield 116, 3) := by decide +kernel
theorem dX11_having_5 : decode cX11_having 5 = .ok (.aload_n 0, 1) := by decide +kernel
theorem dX11_having_6 : decode cX11_having 6 = .ok (.iload_n 1, 1) := by decide +kernel
theorem dX11_having_7 : decode cX11_having 7 = .ok (.invokevirtual 309, 3) := by decide +kernel
theorem dX11_having_10 : decode cX11_having 10 = .ok (.ifCond .ne 9, 3) := by decide +kernel
theorem dX11_having_13 : decode cX11_having 13 = .ok (.aload_n 0, 1) := by decide +kernel
theorem dX11_having_14 : decode cX11_having 14 = .ok (.iconst 0, 1) := by decide +kernel
theorem dX11_having_15 : decode cX11_having 15 = .ok (.invokevirtual 292, 3) := by decide +kernel
theorem dX11_having_18 : decode cX11_having 18 = .ok (.ireturn, 1) := by decide +kernel
theorem dX11_having_19 : decode cX11_having 19 = .ok (.iload_n 2, 1) := by decide +kernel
theorem dX11_having_20 : decode cX11_having 20 = .ok (.i2l, 1) := by decide +kernel
theorem dX11_having_21 : decode cX11_having 21 = .ok (.lconst 0, 1) := by decide +kernel
theorem dX11_having_22 : decode cX11_having 22 = .ok (.ldc2_w 335, 3) := by decide +kernel
theorem dX11_having_25 : decode cX11_having 25 = .ok (.invokestatic 174, 3) := by decide +kernel
theorem dX11_having_28 : decode cX11_having 28 = .ok (.ifCond .eq 17, 3) := by decide +kernel
theorem dX11_having_31 : decode cX11_having 31 = .ok (.iload_n 3, 1) := by decide +kernel
theorem dX11_having_32 : decode cX11_having 32 = .ok (.i2l, 1) := by decide +kernel
theorem dX11_having_33 : decode cX11_having 33 = .ok (.ldc2_w 337, 3) := by decide +kernel
theorem dX11_having_36 : decode cX11_having 36 = .ok (.ldc2_w 335, 3) := by decide +kernel
theorem dX11_having_39 : decode cX11_having 39 = .ok (.invokestatic 174, 3) := by decide +kernel
theorem dX11_having_42 : decode cX11_having 42 = .ok (.ifCond .ne 9, 3) := by decide +kernel
theorem dX11_having_45 : decode cX11_having 45 = .ok (.aload_n 0, 1) := by decide +kernel
theorem dX11_having_46 : decode cX11_having 46 = .ok (.iconst 1, 1) := by decide +kernel
theorem dX11_having_47 : decode cX11_having 47 = .ok (.invokevirtual 292, 3) := by decide +kernel
theorem dX11_having_50 : decode cX11_having 50 = .ok (.ireturn, 1) := by decide +kernel
theorem dX11_having_51 : decode cX11_having 51 = .ok (.aload_n 0, 1) := by decide +kernel
theorem dX11_having_52 : decode cX11_having 52 = .ok (.aload_n 0, 1) := by decide +kernel
theorem dX11_having_53 : decode cX11_having 53 = .ok (.getfield 67, 3) := by decide +kernel
theorem dX11_having_56 : decode cX11_having 56 = .ok (.iload_n 1, 1) := by decide +kernel
theorem dX11_having_57 : decode cX11_having 57 = .ok (.iaload, 1) := by decide +kernel
theorem dX11_having_58 : decode cX11_having 58 = .ok (.invokevirtual 332, 3) := by decide +kernel
theorem dX11_having_61 : decode cX11_having 61 = .ok (.bipush 60, 2) := by decide +kernel
theorem dX11_having_63 : decode cX11_having 63 = .ok (.if_icmp .ne 25, 3) := by decide +kernel
theorem dX11_having_66 : decode cX11_having 66 = .ok (.aload_n 0, 1) := by decide +kernel
theorem dX11_having_67 : decode cX11_having 67 = .ok (.aload_n 0, 1) := by decide +kernel
theorem dX11_having_68 : decode cX11_having 68 = .ok (.getfield 67, 3) := by decide +kernel
theorem dX11_having_71 : decode cX11_having 71 = .ok (.iload_n 1, 1) := by decide +kernel
theorem dX11_having_72 : decode cX11_having 72 = .ok (.iaload, 1) := by decide +kernel
theorem dX11_having_73 : decode cX11_having 73 = .ok (.iload_n 2, 1) := by decide +kernel
theorem dX11_having_74 : decode cX11_having 74 = .ok (.invokevirtual 218, 3) := by decide +kernel
theorem dX11_having_77 : decode cX11_having 77 = .ok (.ldc 170, 2) := by decide +kernel
theorem dX11_having_79 : decode cX11_having 79 = .ok (.if_icmp .ne 9, 3) := by decide +kernel
theorem dX11_having_82 : decode cX11_having 82 = .ok (.aload_n 0, 1) := by decide +kernel
theorem dX11_having_83 : decode cX11_having 83 = .ok (.iconst 3, 1) := by decide +kernel
theorem dX11_having_84 : decode cX11_having 84 = .ok (.invokevirtual 292, 3) := by decide +kernel
theorem dX11_having_87 : decode cX11_having 87 = .ok (.ireturn, 1) := by decide +kernel
theorem dX11_having_88 : decode cX11_having 88 = .ok (.aload_n 0, 1) := by decide +kernel
theorem dX11_having_89 : decode cX11_having 89 = .ok (.invokevirtual 289, 3) := by decide +kernel
theorem dX11_having_92 : decode cX11_having 92 = .ok (.ifCond .ne 9, 3) := by decide +kernel
theorem dX11_having_95 : decode cX11_having 95 = .ok (.aload_n 0, 1) := by decide +kernel
theorem dX11_having_96 : decode cX11_having 96 = .ok (.iconst 4, 1) := by decide +kernel
theorem dX11_having_97 : decode cX11_having 97 = .ok (.invokevirtual 292, 3) := by decide +kernel
theorem dX11_having_100 : decode cX11_having 100 = .ok (.ireturn, 1) := by decide +kernel
theorem dX11_having_101 : decode cX11_having 101 = .ok (.aload_n 0, 1) := by decide +kernel
theorem dX11_having_102 : decode cX11_having 102 = .ok (.aload_n 0, 1) := by decide +kernel
theorem dX11_having_103 : decode cX11_having 103 = .ok (.aload_n 0, 1) := by decide +kernel
theorem dX11_having_104 : decode cX11_having 104 = .ok (.getfield 67, 3) := by decide +kernel
theorem dX11_having_107 : decode cX11_having 107 = .ok (.iload_n 1, 1) := by decide +kernel
theorem dX11_having_108 : decode cX11_having 108 = .ok (.iaload, 1) := by decide +kernel
theorem dX11_having_109 : decode cX11_having 109 = .ok (.iload_n 2, 1) := by decide +kernel
theorem dX11_having_110 : decode cX11_having 110 = .ok (.iload_n 3, 1) := by decide +kernel
theorem dX11_having_111 : decode cX11_having 111 = .ok (.aload_n 0, 1) := by decide +kernel
theorem dX11_having_112 : decode cX11_having 112 = .ok (.invokevirtual 295, 3) := by decide +kernel
theorem dX11_having_115 : decode cX11_having 115 = .ok (.invokevirtual 298, 3) := by decide +kernel
theorem dX11_having_118 : decode cX11_having 118 = .ok (.iload_n 1, 1) := by decide +kernel
theorem dX11_having_119 : decode cX11_having 119 = .ok (.iconst (-1), 1) := by decide +kernel
theorem dX11_having_120 : decode cX11_having 120 = .ok (.invokevirtual 302, 3) := by decide +kernel
theorem dX11_having_123 : decode cX11_having 123 = .ok (.ireturn, 1) := by decide +kernel
theorem dX11_lacking_0 : decode cX11_lacking 0 = .ok (.aload_n 0, 1) := by decide +kernel
theorem dX11_lacking_1 : decode cX11_lacking 1 = .ok (.iconst 0, 1) := by decide +kernel
theorem dX11_lacking_2 : decode cX11_lacking 2 = .ok (.putfield 116, 3) := by decide +kernel
theorem dX11_lacking_5 : decode cX11_lacking 5 = .ok (.aload_n 0, 1) := by decide +kernel
theorem dX11_lacking_6 : decode cX11_lacking 6 = .ok (.iload_n 1, 1) := by decide +kernel
theorem dX11_lacking_7 : decode cX11_lacking 7 = .ok (.invokevirtual 309, 3) := by decide +kernel
theorem dX11_lacking_10 : decode cX11_lacking 10 = .ok (.ifCond .ne 9, 3) := by decide +kernel
theorem dX11_lacking_13 : decode cX11_lacking 13 = .ok (.aload_n 0, 1) := by decide +kernel
theorem dX11_lacking_14 : decode cX11_lacking 14 = .ok (.iconst 0, 1) := by decide +kernel
theorem dX11_lacking_15 : decode cX11_lacking 15 = .ok (.invokevirtual 292, 3) := by decide +kernel
theorem dX11_lacking_18 : decode cX11_lacking 18 = .ok (.ireturn, 1) := by decide +kernel
theorem dX11_lacking_19 : decode cX11_lacking 19 = .ok (.iload_n 2, 1) := by decide +kernel
theorem dX11_lacking_20 : decode cX11_lacking 20 = .ok (.i2l, 1) := by decide +kernel
theorem dX11_lacking_21 : decode cX11_lacking 21 = .ok (.lconst 0, 1) := by decide +kernel
theorem dX11_lacking_22 : decode cX11_lacking 22 = .ok (.ldc2_w 335, 3) := by decide +kernel
theorem dX11_lacking_25 : decode cX11_lacking 25 = .ok (.invokestatic 174, 3) := by decide +kernel
theorem dX11_lacking_28 : decode cX11_lacking 28 = .ok (.ifCond .ne 9, 3) := by decide +kernel
theorem dX11_lacking_31 : decode cX11_lacking 31 = .ok (.aload_n 0, 1) := by decide +kernel
theorem dX11_lacking_32 : decode cX11_lacking 32 = .ok (.iconst 1, 1) := by decide +kernel
theorem dX11_lacking_33 : decode cX11_lacking 33 = .ok (.invokevirtual 292, 3) := by decide +kernel
theorem dX11_lacking_36 : decode cX11_lacking 36 = .ok (.ireturn, 1) := by decide +kernel
theorem dX11_lacking_37 : decode cX11_lacking 37 = .ok (.aload_n 0, 1) := by decide +kernel
theorem dX11_lacking_38 : decode cX11_lacking 38 = .ok (.invokevirtual 289, 3) := by decide +kernel
theorem dX11_lacking_41 : decode cX11_lacking 41 = .ok (.ifCond .ne 9, 3) := by decide +kernel
theorem dX11_lacking_44 : decode cX11_lacking 44 = .ok (.aload_n 0, 1) := by decide +kernel
theorem dX11_lacking_45 : decode cX11_lacking 45 = .ok (.iconst 4, 1) := by decide +kernel
theorem dX11_lacking_46 : decode cX11_lacking 46 = .ok (.invokevirtual 292, 3) := by decide +kernel
theorem dX11_lacking_49 : decode cX11_lacking 49 = .ok (.ireturn, 1) := by decide +kernel
theorem dX11_lacking_50 : decode cX11_lacking 50 = .ok (.aload_n 0, 1) := by decide +kernel
theorem dX11_lacking_51 : decode cX11_lacking 51 = .ok (.aload_n 0, 1) := by decide +kernel
theorem dX11_lacking_52 : decode cX11_lacking 52 = .ok (.aload_n 0, 1) := by decide +kernel
theorem dX11_lacking_53 : decode cX11_lacking 53 = .ok (.getfield 67, 3) := by decide +kernel
theorem dX11_lacking_56 : decode cX11_lacking 56 = .ok (.iload_n 1, 1) := by decide +kernel
theorem dX11_lacking_57 : decode cX11_lacking 57 = .ok (.iaload, 1) := by decide +kernel
theorem dX11_lacking_58 : decode cX11_lacking 58 = .ok (.iload_n 2, 1) := by decide +kernel
theorem dX11_lacking_59 : decode cX11_lacking 59 = .ok (.aload_n 0, 1) := by decide +kernel
theorem dX11_lacking_60 : decode cX11_lacking 60 = .ok (.invokevirtual 295, 3) := by decide +kernel
theorem dX11_lacking_63 : decode cX11_lacking 63 = .ok (.invokevirtual 339, 3) := by decide +kernel
theorem dX11_lacking_66 : decode cX11_lacking 66 = .ok (.iload_n 1, 1) := by decide +kernel
theorem dX11_lacking_67 : decode cX11_lacking 67 = .ok (.iconst (-1), 1) := by decide +kernel
theorem dX11_lacking_68 : decode cX11_lacking 68 = .ok (.invokevirtual 302, 3) := by decide +kernel
theorem dX11_lacking_71 : decode cX11_lacking 71 = .ok (.ireturn, 1) := by decide +kernel
theorem dX11_laysThere_0 : decode cX11_laysThere 0 = .ok (.aload_n 0, 1) := by decide +kernel
theorem dX11_laysThere_1 : decode cX11_laysThere 1 = .ok (.iload_n 1, 1) := by decide +kernel
theorem dX11_laysThere_2 : decode cX11_laysThere 2 = .ok (.invokevirtual 252, 3) := by decide +kernel
theorem dX11_laysThere_5 : decode cX11_laysThere 5 = .ok (.iconst 0, 1) := by decide +kernel
theorem dX11_laysThere_6 : decode cX11_laysThere 6 = .ok (.istore_n 3, 1) := by decide +kernel
theorem dX11_laysThere_7 : decode cX11_laysThere 7 = .ok (.iload_n 3, 1) := by decide +kernel
theorem dX11_laysThere_8 : decode cX11_laysThere 8 = .ok (.aload_n 0, 1) := by decide +kernel
theorem dX11_laysThere_9 : decode cX11_laysThere 9 = .ok (.getfield 249, 3) := by decide +kernel
theorem dX11_laysThere_12 : decode cX11_laysThere 12 = .ok (.if_icmp .ge 47, 3) := by decide +kernel
theorem dX11_laysThere_15 : decode cX11_laysThere 15 = .ok (.aload_n 0, 1) := by decide +kernel
theorem dX11_laysThere_16 : decode cX11_laysThere 16 = .ok (.getfield 95, 3) := by decide +kernel
theorem dX11_laysThere_19 : decode cX11_laysThere 19 = .ok (.aload_n 0, 1) := by decide +kernel
theorem dX11_laysThere_20 : decode cX11_laysThere 20 = .ok (.getfield 55, 3) := by decide +kernel
theorem dX11_laysThere_23 : decode cX11_laysThere 23 = .ok (.iload_n 3, 1) := by decide +kernel
theorem dX11_laysThere_24 : decode cX11_laysThere 24 = .ok (.iaload, 1) := by decide +kernel
theorem dX11_laysThere_25 : decode cX11_laysThere 25 = .ok (.dup2, 1) := by decide +kernel
theorem dX11_laysThere_26 : decode cX11_laysThere 26 = .ok (.iaload, 1) := by decide +kernel
theorem dX11_laysThere_27 : decode cX11_laysThere 27 = .ok (.iconst 1, 1) := by decide +kernel
theorem dX11_laysThere_28 : decode cX11_laysThere 28 = .ok (.iload_n 2, 1) := by decide +kernel
theorem dX11_laysThere_29 : decode cX11_laysThere 29 = .ok (.ishl, 1) := by decide +kernel
theorem dX11_laysThere_30 : decode cX11_laysThere 30 = .ok (.ior, 1) := by decide +kernel
theorem dX11_laysThere_31 : decode cX11_laysThere 31 = .ok (.iastore, 1) := by decide +kernel
theorem dX11_laysThere_32 : decode cX11_laysThere 32 = .ok (.aload_n 0, 1) := by decide +kernel
theorem dX11_laysThere_33 : decode cX11_laysThere 33 = .ok (.getfield 98, 3) := by decide +kernel
theorem dX11_laysThere_36 : decode cX11_laysThere 36 = .ok (.iconst 3, 1) := by decide +kernel
theorem dX11_laysThere_37 : decode cX11_laysThere 37 = .ok (.aload_n 0, 1) := by decide +kernel
theorem dX11_laysThere_38 : decode cX11_laysThere 38 = .ok (.getfield 55, 3) := by decide +kernel
theorem dX11_laysThere_41 : decode cX11_laysThere 41 = .ok (.iload_n 3, 1) := by decide +kernel
theorem dX11_laysThere_42 : decode cX11_laysThere 42 = .ok (.iaload, 1) := by decide +kernel
theorem dX11_laysThere_43 : decode cX11_laysThere 43 = .ok (.imul, 1) := by decide +kernel
theorem dX11_laysThere_44 : decode cX11_laysThere 44 = .ok (.iload_n 2, 1) := by decide +kernel
theorem dX11_laysThere_45 : decode cX11_laysThere 45 = .ok (.iadd, 1) := by decide +kernel
theorem dX11_laysThere_46 : decode cX11_laysThere 46 = .ok (.aload_n 0, 1) := by decide +kernel
theorem dX11_laysThere_47 : decode cX11_laysThere 47 = .ok (.getfield 58, 3) := by decide +kernel
theorem dX11_laysThere_50 : decode cX11_laysThere 50 = .ok (.iload_n 3, 1) := by decide +kernel
theorem dX11_laysThere_51 : decode cX11_laysThere 51 = .ok (.iaload, 1) := by decide +kernel
theorem dX11_laysThere_52 : decode cX11_laysThere 52 = .ok (.iastore, 1) := by decide +kernel
theorem dX11_laysThere_53 : decode cX11_laysThere 53 = .ok (.iinc 3 1, 3) := by decide +kernel
theorem dX11_laysThere_56 : decode cX11_laysThere 56 = .ok (.goto (-49), 3) := by decide +kernel
theorem dX11_laysThere_59 : decode cX11_laysThere 59 = .ok (.return_, 1) := by decide +kernel
theorem dX11_laysTwo_0 : decode cX11_laysTwo 0 = .ok (.iconst 0, 1) := by decide +kernel
theorem dX11_laysTwo_1 : decode cX11_laysTwo 1 = .ok (.istore_n 3, 1) := by decide +kernel
theorem dX11_laysTwo_2 : decode cX11_laysTwo 2 = .ok (.iload_n 3, 1) := by decide +kernel
theorem dX11_laysTwo_3 : decode cX11_laysTwo 3 = .ok (.sipush 999, 3) := by decide +kernel
theorem dX11_laysTwo_6 : decode cX11_laysTwo 6 = .ok (.if_icmp .gt 16, 3) := by decide +kernel
theorem dX11_laysTwo_9 : decode cX11_laysTwo 9 = .ok (.aload_n 0, 1) := by decide +kernel
theorem dX11_laysTwo_10 : decode cX11_laysTwo 10 = .ok (.getfield 95, 3) := by decide +kernel
theorem dX11_laysTwo_13 : decode cX11_laysTwo 13 = .ok (.iload_n 3, 1) := by decide +kernel
theorem dX11_laysTwo_14 : decode cX11_laysTwo 14 = .ok (.iconst 0, 1) := by decide +kernel
theorem dX11_laysTwo_15 : decode cX11_laysTwo 15 = .ok (.iastore, 1) := by decide +kernel
theorem dX11_laysTwo_16 : decode cX11_laysTwo 16 = .ok (.iinc 3 1, 3) := by decide +kernel
theorem dX11_laysTwo_19 : decode cX11_laysTwo 19 = .ok (.goto (-17), 3) := by decide +kernel
theorem dX11_laysTwo_22 : decode cX11_laysTwo 22 = .ok (.aload_n 0, 1) := by decide +kernel
theorem dX11_laysTwo_23 : decode cX11_laysTwo 23 = .ok (.iload_n 1, 1) := by decide +kernel
theorem dX11_laysTwo_24 : decode cX11_laysTwo 24 = .ok (.iconst 0, 1) := by decide +kernel
theorem dX11_laysTwo_25 : decode cX11_laysTwo 25 = .ok (.invokevirtual 342, 3) := by decide +kernel
theorem dX11_laysTwo_28 : decode cX11_laysTwo 28 = .ok (.aload_n 0, 1) := by decide +kernel
theorem dX11_laysTwo_29 : decode cX11_laysTwo 29 = .ok (.iload_n 2, 1) := by decide +kernel
theorem dX11_laysTwo_30 : decode cX11_laysTwo 30 = .ok (.iconst 1, 1) := by decide +kernel
theorem dX11_laysTwo_31 : decode cX11_laysTwo 31 = .ok (.invokevirtual 342, 3) := by decide +kernel
theorem dX11_laysTwo_34 : decode cX11_laysTwo 34 = .ok (.return_, 1) := by decide +kernel
theorem dX11_held_0 : decode cX11_held 0 = .ok (.sipush (-999), 3) := by decide +kernel
theorem dX11_held_3 : decode cX11_held 3 = .ok (.sipush 999, 3) := by decide +kernel
theorem dX11_held_6 : decode cX11_held 6 = .ok (.iload_n 0, 1) := by decide +kernel
theorem dX11_held_7 : decode cX11_held 7 = .ok (.invokestatic 345, 3) := by decide +kernel
theorem dX11_held_10 : decode cX11_held 10 = .ok (.invokestatic 313, 3) := by decide +kernel
theorem dX11_held_13 : decode cX11_held 13 = .ok (.ireturn, 1) := by decide +kernel
theorem dX11_ruled_0 : decode cX11_ruled 0 = .ok (.iload_n 2, 1) := by decide +kernel
theorem dX11_ruled_1 : decode cX11_ruled 1 = .ok (.ifCond .ne 7, 3) := by decide +kernel
theorem dX11_ruled_4 : decode cX11_ruled 4 = .ok (.iload_n 0, 1) := by decide +kernel
theorem dX11_ruled_5 : decode cX11_ruled 5 = .ok (.goto 31, 3) := by decide +kernel
theorem dX11_ruled_8 : decode cX11_ruled 8 = .ok (.iload_n 2, 1) := by decide +kernel
theorem dX11_ruled_9 : decode cX11_ruled 9 = .ok (.iconst 1, 1) := by decide +kernel
theorem dX11_ruled_10 : decode cX11_ruled 10 = .ok (.if_icmp .ne 7, 3) := by decide +kernel
theorem dX11_ruled_13 : decode cX11_ruled 13 = .ok (.iload_n 1, 1) := by decide +kernel
theorem dX11_ruled_14 : decode cX11_ruled 14 = .ok (.goto 22, 3) := by decide +kernel
theorem dX11_ruled_17 : decode cX11_ruled 17 = .ok (.iload_n 2, 1) := by decide +kernel
theorem dX11_ruled_18 : decode cX11_ruled 18 = .ok (.iconst 2, 1) := by decide +kernel
theorem dX11_ruled_19 : decode cX11_ruled 19 = .ok (.if_icmp .ne 11, 3) := by decide +kernel
theorem dX11_ruled_22 : decode cX11_ruled 22 = .ok (.iload_n 0, 1) := by decide +kernel
theorem dX11_ruled_23 : decode cX11_ruled 23 = .ok (.iload_n 1, 1) := by decide +kernel
theorem dX11_ruled_24 : decode cX11_ruled 24 = .ok (.invokestatic 313, 3) := by decide +kernel
theorem dX11_ruled_27 : decode cX11_ruled 27 = .ok (.goto 9, 3) := by decide +kernel
theorem dX11_ruled_30 : decode cX11_ruled 30 = .ok (.iload_n 0, 1) := by decide +kernel
theorem dX11_ruled_31 : decode cX11_ruled 31 = .ok (.iload_n 1, 1) := by decide +kernel
theorem dX11_ruled_32 : decode cX11_ruled 32 = .ok (.iadd, 1) := by decide +kernel
theorem dX11_ruled_33 : decode cX11_ruled 33 = .ok (.invokestatic 348, 3) := by decide +kernel
theorem dX11_ruled_36 : decode cX11_ruled 36 = .ok (.ireturn, 1) := by decide +kernel
theorem dX11_laysOwn_0 : decode cX11_laysOwn 0 = .ok (.aload_n 0, 1) := by decide +kernel
theorem dX11_laysOwn_1 : decode cX11_laysOwn 1 = .ok (.getfield 32, 3) := by decide +kernel
theorem dX11_laysOwn_4 : decode cX11_laysOwn 4 = .ok (.iload_n 1, 1) := by decide +kernel
theorem dX11_laysOwn_5 : decode cX11_laysOwn 5 = .ok (.iaload, 1) := by decide +kernel
theorem dX11_laysOwn_6 : decode cX11_laysOwn 6 = .ok (.aload_n 0, 1) := by decide +kernel
theorem dX11_laysOwn_7 : decode cX11_laysOwn 7 = .ok (.getfield 255, 3) := by decide +kernel
theorem dX11_laysOwn_10 : decode cX11_laysOwn 10 = .ok (.if_icmp .ne 4, 3) := by decide +kernel
theorem dX11_laysOwn_13 : decode cX11_laysOwn 13 = .ok (.return_, 1) := by decide +kernel
theorem dX11_laysOwn_14 : decode cX11_laysOwn 14 = .ok (.iconst 0, 1) := by decide +kernel
theorem dX11_laysOwn_15 : decode cX11_laysOwn 15 = .ok (.istore_n 2, 1) := by decide +kernel
theorem dX11_laysOwn_16 : decode cX11_laysOwn 16 = .ok (.iload_n 2, 1) := by decide +kernel
theorem dX11_laysOwn_17 : decode cX11_laysOwn 17 = .ok (.aload_n 0, 1) := by decide +kernel
theorem dX11_laysOwn_18 : decode cX11_laysOwn 18 = .ok (.getfield 26, 3) := by decide +kernel
theorem dX11_laysOwn_21 : decode cX11_laysOwn 21 = .ok (.iload_n 1, 1) := by decide +kernel
theorem dX11_laysOwn_22 : decode cX11_laysOwn 22 = .ok (.iaload, 1) := by decide +kernel
theorem dX11_laysOwn_23 : decode cX11_laysOwn 23 = .ok (.if_icmp .ge 81, 3) := by decide +kernel
theorem dX11_laysOwn_26 : decode cX11_laysOwn 26 = .ok (.aload_n 0, 1) := by decide +kernel
theorem dX11_laysOwn_27 : decode cX11_laysOwn 27 = .ok (.getfield 23, 3) := by decide +kernel
theorem dX11_laysOwn_30 : decode cX11_laysOwn 30 = .ok (.iload_n 1, 1) := by decide +kernel
theorem dX11_laysOwn_31 : decode cX11_laysOwn 31 = .ok (.iaload, 1) := by decide +kernel
theorem dX11_laysOwn_32 : decode cX11_laysOwn 32 = .ok (.ifCond .ne 16, 3) := by decide +kernel
theorem dX11_laysOwn_35 : decode cX11_laysOwn 35 = .ok (.aload_n 0, 1) := by decide +kernel
theorem dX11_laysOwn_36 : decode cX11_laysOwn 36 = .ok (.aload_n 0, 1) := by decide +kernel
theorem dX11_laysOwn_37 : decode cX11_laysOwn 37 = .ok (.iload_n 1, 1) := by decide +kernel
theorem dX11_laysOwn_38 : decode cX11_laysOwn 38 = .ok (.iload_n 2, 1) := by decide +kernel
theorem dX11_laysOwn_39 : decode cX11_laysOwn 39 = .ok (.invokevirtual 197, 3) := by decide +kernel
theorem dX11_laysOwn_42 : decode cX11_laysOwn 42 = .ok (.invokevirtual 350, 3) := by decide +kernel
theorem dX11_laysOwn_45 : decode cX11_laysOwn 45 = .ok (.goto 53, 3) := by decide +kernel
theorem dX11_laysOwn_48 : decode cX11_laysOwn 48 = .ok (.aload_n 0, 1) := by decide +kernel
theorem dX11_laysOwn_49 : decode cX11_laysOwn 49 = .ok (.getfield 101, 3) := by decide +kernel
theorem dX11_laysOwn_52 : decode cX11_laysOwn 52 = .ok (.aload_n 0, 1) := by decide +kernel
theorem dX11_laysOwn_53 : decode cX11_laysOwn 53 = .ok (.getfield 353, 3) := by decide +kernel
theorem dX11_laysOwn_56 : decode cX11_laysOwn 56 = .ok (.aload_n 0, 1) := by decide +kernel
theorem dX11_laysOwn_57 : decode cX11_laysOwn 57 = .ok (.getfield 39, 3) := by decide +kernel
theorem dX11_laysOwn_60 : decode cX11_laysOwn 60 = .ok (.bipush 7, 2) := by decide +kernel
theorem dX11_laysOwn_62 : decode cX11_laysOwn 62 = .ok (.iload_n 1, 1) := by decide +kernel
theorem dX11_laysOwn_63 : decode cX11_laysOwn 63 = .ok (.imul, 1) := by decide +kernel
theorem dX11_laysOwn_64 : decode cX11_laysOwn 64 = .ok (.iload_n 2, 1) := by decide +kernel
theorem dX11_laysOwn_65 : decode cX11_laysOwn 65 = .ok (.iadd, 1) := by decide +kernel
theorem dX11_laysOwn_66 : decode cX11_laysOwn 66 = .ok (.iaload, 1) := by decide +kernel
theorem dX11_laysOwn_67 : decode cX11_laysOwn 67 = .ok (.iastore, 1) := by decide +kernel
theorem dX11_laysOwn_68 : decode cX11_laysOwn 68 = .ok (.aload_n 0, 1) := by decide +kernel
theorem dX11_laysOwn_69 : decode cX11_laysOwn 69 = .ok (.getfield 104, 3) := by decide +kernel
theorem dX11_laysOwn_72 : decode cX11_laysOwn 72 = .ok (.aload_n 0, 1) := by decide +kernel
theorem dX11_laysOwn_73 : decode cX11_laysOwn 73 = .ok (.getfield 353, 3) := by decide +kernel
theorem dX11_laysOwn_76 : decode cX11_laysOwn 76 = .ok (.aload_n 0, 1) := by decide +kernel
theorem dX11_laysOwn_77 : decode cX11_laysOwn 77 = .ok (.getfield 42, 3) := by decide +kernel
theorem dX11_laysOwn_80 : decode cX11_laysOwn 80 = .ok (.bipush 7, 2) := by decide +kernel
theorem dX11_laysOwn_82 : decode cX11_laysOwn 82 = .ok (.iload_n 1, 1) := by decide +kernel
theorem dX11_laysOwn_83 : decode cX11_laysOwn 83 = .ok (.imul, 1) := by decide +kernel
theorem dX11_laysOwn_84 : decode cX11_laysOwn 84 = .ok (.iload_n 2, 1) := by decide +kernel
theorem dX11_laysOwn_85 : decode cX11_laysOwn 85 = .ok (.iadd, 1) := by decide +kernel
theorem dX11_laysOwn_86 : decode cX11_laysOwn 86 = .ok (.iaload, 1) := by decide +kernel
theorem dX11_laysOwn_87 : decode cX11_laysOwn 87 = .ok (.iastore, 1) := by decide +kernel
theorem dX11_laysOwn_88 : decode cX11_laysOwn 88 = .ok (.aload_n 0, 1) := by decide +kernel
theorem dX11_laysOwn_89 : decode cX11_laysOwn 89 = .ok (.dup, 1) := by decide +kernel
theorem dX11_laysOwn_90 : decode cX11_laysOwn 90 = .ok (.getfield 353, 3) := by decide +kernel
theorem dX11_laysOwn_93 : decode cX11_laysOwn 93 = .ok (.iconst 1, 1) := by decide +kernel
theorem dX11_laysOwn_94 : decode cX11_laysOwn 94 = .ok (.iadd, 1) := by decide +kernel
theorem dX11_laysOwn_95 : decode cX11_laysOwn 95 = .ok (.putfield 353, 3) := by decide +kernel
theorem dX11_laysOwn_98 : decode cX11_laysOwn 98 = .ok (.iinc 2 1, 3) := by decide +kernel
theorem dX11_laysOwn_101 : decode cX11_laysOwn 101 = .ok (.goto (-85), 3) := by decide +kernel
theorem dX11_laysOwn_104 : decode cX11_laysOwn 104 = .ok (.return_, 1) := by decide +kernel
theorem dX11_merge_0 : decode cX11_merge 0 = .ok (.aload_n 0, 1) := by decide +kernel
theorem dX11_merge_1 : decode cX11_merge 1 = .ok (.iconst 0, 1) := by decide +kernel
theorem dX11_merge_2 : decode cX11_merge 2 = .ok (.putfield 116, 3) := by decide +kernel
theorem dX11_merge_5 : decode cX11_merge 5 = .ok (.aload_n 0, 1) := by decide +kernel
theorem dX11_merge_6 : decode cX11_merge 6 = .ok (.iload_n 1, 1) := by decide +kernel
theorem dX11_merge_7 : decode cX11_merge 7 = .ok (.invokevirtual 309, 3) := by decide +kernel
theorem dX11_merge_10 : decode cX11_merge 10 = .ok (.ifCond .eq 11, 3) := by decide +kernel
theorem dX11_merge_13 : decode cX11_merge 13 = .ok (.aload_n 0, 1) := by decide +kernel
theorem dX11_merge_14 : decode cX11_merge 14 = .ok (.iload_n 2, 1) := by decide +kernel
theorem dX11_merge_15 : decode cX11_merge 15 = .ok (.invokevirtual 309, 3) := by decide +kernel
theorem dX11_merge_18 : decode cX11_merge 18 = .ok (.ifCond .ne 9, 3) := by decide +kernel
theorem dX11_merge_21 : decode cX11_merge 21 = .ok (.aload_n 0, 1) := by decide +kernel
theorem dX11_merge_22 : decode cX11_merge 22 = .ok (.iconst 0, 1) := by decide +kernel
theorem dX11_merge_23 : decode cX11_merge 23 = .ok (.invokevirtual 292, 3) := by decide +kernel
theorem dX11_merge_26 : decode cX11_merge 26 = .ok (.ireturn, 1) := by decide +kernel
theorem dX11_merge_27 : decode cX11_merge 27 = .ok (.iload_n 3, 1) := by decide +kernel
theorem dX11_merge_28 : decode cX11_merge 28 = .ok (.i2l, 1) := by decide +kernel
theorem dX11_merge_29 : decode cX11_merge 29 = .ok (.lconst 0, 1) := by decide +kernel
theorem dX11_merge_30 : decode cX11_merge 30 = .ok (.ldc2_w 305, 3) := by decide +kernel
theorem dX11_merge_33 : decode cX11_merge 33 = .ok (.invokestatic 174, 3) := by decide +kernel
theorem dX11_merge_36 : decode cX11_merge 36 = .ok (.ifCond .ne 9, 3) := by decide +kernel
theorem dX11_merge_39 : decode cX11_merge 39 = .ok (.aload_n 0, 1) := by decide +kernel
theorem dX11_merge_40 : decode cX11_merge 40 = .ok (.iconst 1, 1) := by decide +kernel
theorem dX11_merge_41 : decode cX11_merge 41 = .ok (.invokevirtual 292, 3) := by decide +kernel
theorem dX11_merge_44 : decode cX11_merge 44 = .ok (.ireturn, 1) := by decide +kernel
theorem dX11_merge_45 : decode cX11_merge 45 = .ok (.aload_n 0, 1) := by decide +kernel
theorem dX11_merge_46 : decode cX11_merge 46 = .ok (.aload_n 0, 1) := by decide +kernel
theorem dX11_merge_47 : decode cX11_merge 47 = .ok (.getfield 67, 3) := by decide +kernel
theorem dX11_merge_50 : decode cX11_merge 50 = .ok (.iload_n 1, 1) := by decide +kernel
theorem dX11_merge_51 : decode cX11_merge 51 = .ok (.iaload, 1) := by decide +kernel
theorem dX11_merge_52 : decode cX11_merge 52 = .ok (.aload_n 0, 1) := by decide +kernel
theorem dX11_merge_53 : decode cX11_merge 53 = .ok (.getfield 67, 3) := by decide +kernel
theorem dX11_merge_56 : decode cX11_merge 56 = .ok (.iload_n 2, 1) := by decide +kernel
theorem dX11_merge_57 : decode cX11_merge 57 = .ok (.iaload, 1) := by decide +kernel
theorem dX11_merge_58 : decode cX11_merge 58 = .ok (.invokevirtual 356, 3) := by decide +kernel
theorem dX11_merge_61 : decode cX11_merge 61 = .ok (.iconst 0, 1) := by decide +kernel
theorem dX11_merge_62 : decode cX11_merge 62 = .ok (.istore 4, 2) := by decide +kernel
theorem dX11_merge_64 : decode cX11_merge 64 = .ok (.iconst 0, 1) := by decide +kernel
theorem dX11_merge_65 : decode cX11_merge 65 = .ok (.istore 5, 2) := by decide +kernel
theorem dX11_merge_67 : decode cX11_merge 67 = .ok (.iload 5, 2) := by decide +kernel
theorem dX11_merge_69 : decode cX11_merge 69 = .ok (.sipush 999, 3) := by decide +kernel
theorem dX11_merge_72 : decode cX11_merge 72 = .ok (.if_icmp .gt 29, 3) := by decide +kernel
theorem dX11_merge_75 : decode cX11_merge 75 = .ok (.iload 4, 2) := by decide +kernel
theorem dX11_merge_77 : decode cX11_merge 77 = .ok (.aload_n 0, 1) := by decide +kernel
theorem dX11_merge_78 : decode cX11_merge 78 = .ok (.getfield 95, 3) := by decide +kernel
theorem dX11_merge_81 : decode cX11_merge 81 = .ok (.iload 5, 2) := by decide +kernel
theorem dX11_merge_83 : decode cX11_merge 83 = .ok (.iaload, 1) := by decide +kernel
theorem dX11_merge_84 : decode cX11_merge 84 = .ok (.ifCond .ne 7, 3) := by decide +kernel
theorem dX11_merge_87 : decode cX11_merge 87 = .ok (.iconst 0, 1) := by decide +kernel
theorem dX11_merge_88 : decode cX11_merge 88 = .ok (.goto 4, 3) := by decide +kernel
theorem dX11_merge_91 : decode cX11_merge 91 = .ok (.iconst 1, 1) := by decide +kernel
theorem dX11_merge_92 : decode cX11_merge 92 = .ok (.iadd, 1) := by decide +kernel
theorem dX11_merge_93 : decode cX11_merge 93 = .ok (.istore 4, 2) := by decide +kernel
theorem dX11_merge_95 : decode cX11_merge 95 = .ok (.iinc 5 1, 3) := by decide +kernel
theorem dX11_merge_98 : decode cX11_merge 98 = .ok (.goto (-31), 3) := by decide +kernel
theorem dX11_merge_101 : decode cX11_merge 101 = .ok (.iload 4, 2) := by decide +kernel
theorem dX11_merge_103 : decode cX11_merge 103 = .ok (.bipush 60, 2) := by decide +kernel
theorem dX11_merge_105 : decode cX11_merge 105 = .ok (.if_icmp .le 9, 3) := by decide +kernel
theorem dX11_merge_108 : decode cX11_merge 108 = .ok (.aload_n 0, 1) := by decide +kernel
theorem dX11_merge_109 : decode cX11_merge 109 = .ok (.iconst 3, 1) := by decide +kernel
theorem dX11_merge_110 : decode cX11_merge 110 = .ok (.invokevirtual 292, 3) := by decide +kernel
theorem dX11_merge_113 : decode cX11_merge 113 = .ok (.ireturn, 1) := by decide +kernel
theorem dX11_merge_114 : decode cX11_merge 114 = .ok (.aload_n 0, 1) := by decide +kernel
theorem dX11_merge_115 : decode cX11_merge 115 = .ok (.invokevirtual 289, 3) := by decide +kernel
theorem dX11_merge_118 : decode cX11_merge 118 = .ok (.ifCond .ne 9, 3) := by decide +kernel
theorem dX11_merge_121 : decode cX11_merge 121 = .ok (.aload_n 0, 1) := by decide +kernel
theorem dX11_merge_122 : decode cX11_merge 122 = .ok (.iconst 4, 1) := by decide +kernel
theorem dX11_merge_123 : decode cX11_merge 123 = .ok (.invokevirtual 292, 3) := by decide +kernel
theorem dX11_merge_126 : decode cX11_merge 126 = .ok (.ireturn, 1) := by decide +kernel
theorem dX11_merge_127 : decode cX11_merge 127 = .ok (.aload_n 0, 1) := by decide +kernel
theorem dX11_merge_128 : decode cX11_merge 128 = .ok (.invokevirtual 295, 3) := by decide +kernel
theorem dX11_merge_131 : decode cX11_merge 131 = .ok (.istore 5, 2) := by decide +kernel
theorem dX11_merge_133 : decode cX11_merge 133 = .ok (.aload_n 0, 1) := by decide +kernel
theorem dX11_merge_134 : decode cX11_merge 134 = .ok (.dup, 1) := by decide +kernel
theorem dX11_merge_135 : decode cX11_merge 135 = .ok (.getfield 255, 3) := by decide +kernel
theorem dX11_merge_138 : decode cX11_merge 138 = .ok (.iconst 1, 1) := by decide +kernel
theorem dX11_merge_139 : decode cX11_merge 139 = .ok (.iadd, 1) := by decide +kernel
theorem dX11_merge_140 : decode cX11_merge 140 = .ok (.putfield 255, 3) := by decide +kernel
theorem dX11_merge_143 : decode cX11_merge 143 = .ok (.aload_n 0, 1) := by decide +kernel
theorem dX11_merge_144 : decode cX11_merge 144 = .ok (.aload_n 0, 1) := by decide +kernel
theorem dX11_merge_145 : decode cX11_merge 145 = .ok (.getfield 67, 3) := by decide +kernel
theorem dX11_merge_148 : decode cX11_merge 148 = .ok (.iload_n 1, 1) := by decide +kernel
theorem dX11_merge_149 : decode cX11_merge 149 = .ok (.iaload, 1) := by decide +kernel
theorem dX11_merge_150 : decode cX11_merge 150 = .ok (.invokevirtual 258, 3) := by decide +kernel
theorem dX11_merge_153 : decode cX11_merge 153 = .ok (.istore 6, 2) := by decide +kernel
theorem dX11_merge_155 : decode cX11_merge 155 = .ok (.aload_n 0, 1) := by decide +kernel
theorem dX11_merge_156 : decode cX11_merge 156 = .ok (.iconst 0, 1) := by decide +kernel
theorem dX11_merge_157 : decode cX11_merge 157 = .ok (.putfield 353, 3) := by decide +kernel
theorem dX11_merge_160 : decode cX11_merge 160 = .ok (.aload_n 0, 1) := by decide +kernel
theorem dX11_merge_161 : decode cX11_merge 161 = .ok (.aload_n 0, 1) := by decide +kernel
theorem dX11_merge_162 : decode cX11_merge 162 = .ok (.getfield 67, 3) := by decide +kernel
theorem dX11_merge_165 : decode cX11_merge 165 = .ok (.iload_n 2, 1) := by decide +kernel
theorem dX11_merge_166 : decode cX11_merge 166 = .ok (.iaload, 1) := by decide +kernel
theorem dX11_merge_167 : decode cX11_merge 167 = .ok (.invokevirtual 350, 3) := by decide +kernel
theorem dX11_merge_170 : decode cX11_merge 170 = .ok (.aload_n 0, 1) := by decide +kernel
theorem dX11_merge_171 : decode cX11_merge 171 = .ok (.getfield 67, 3) := by decide +kernel
theorem dX11_merge_174 : decode cX11_merge 174 = .ok (.iload_n 1, 1) := by decide +kernel
theorem dX11_merge_175 : decode cX11_merge 175 = .ok (.iaload, 1) := by decide +kernel
theorem dX11_merge_176 : decode cX11_merge 176 = .ok (.istore 7, 2) := by decide +kernel
theorem dX11_merge_178 : decode cX11_merge 178 = .ok (.iconst 0, 1) := by decide +kernel
theorem dX11_merge_179 : decode cX11_merge 179 = .ok (.istore 8, 2) := by decide +kernel
theorem dX11_merge_181 : decode cX11_merge 181 = .ok (.iload 8, 2) := by decide +kernel
theorem dX11_merge_183 : decode cX11_merge 183 = .ok (.aload_n 0, 1) := by decide +kernel
theorem dX11_merge_184 : decode cX11_merge 184 = .ok (.getfield 353, 3) := by decide +kernel
theorem dX11_merge_187 : decode cX11_merge 187 = .ok (.if_icmp .ge 74, 3) := by decide +kernel
theorem dX11_merge_190 : decode cX11_merge 190 = .ok (.aload_n 0, 1) := by decide +kernel
theorem dX11_merge_191 : decode cX11_merge 191 = .ok (.getfield 101, 3) := by decide +kernel
theorem dX11_merge_194 : decode cX11_merge 194 = .ok (.iload 8, 2) := by decide +kernel
theorem dX11_merge_196 : decode cX11_merge 196 = .ok (.iaload, 1) := by decide +kernel
theorem dX11_merge_197 : decode cX11_merge 197 = .ok (.istore 9, 2) := by decide +kernel
theorem dX11_merge_199 : decode cX11_merge 199 = .ok (.aload_n 0, 1) := by decide +kernel
theorem dX11_merge_200 : decode cX11_merge 200 = .ok (.iload 7, 2) := by decide +kernel
theorem dX11_merge_202 : decode cX11_merge 202 = .ok (.iload 9, 2) := by decide +kernel
theorem dX11_merge_204 : decode cX11_merge 204 = .ok (.aload_n 0, 1) := by decide +kernel
theorem dX11_merge_205 : decode cX11_merge 205 = .ok (.getfield 95, 3) := by decide +kernel
theorem dX11_merge_208 : decode cX11_merge 208 = .ok (.iload 9, 2) := by decide +kernel
theorem dX11_merge_210 : decode cX11_merge 210 = .ok (.iaload, 1) := by decide +kernel
theorem dX11_merge_211 : decode cX11_merge 211 = .ok (.iconst 0, 1) := by decide +kernel
theorem dX11_merge_212 : decode cX11_merge 212 = .ok (.invokestatic 271, 3) := by decide +kernel
theorem dX11_merge_215 : decode cX11_merge 215 = .ok (.ifCond .eq 26, 3) := by decide +kernel
theorem dX11_merge_218 : decode cX11_merge 218 = .ok (.aload_n 0, 1) := by decide +kernel
theorem dX11_merge_219 : decode cX11_merge 219 = .ok (.getfield 98, 3) := by decide +kernel
theorem dX11_merge_222 : decode cX11_merge 222 = .ok (.iconst 3, 1) := by decide +kernel
theorem dX11_merge_223 : decode cX11_merge 223 = .ok (.iload 9, 2) := by decide +kernel
theorem dX11_merge_225 : decode cX11_merge 225 = .ok (.imul, 1) := by decide +kernel
theorem dX11_merge_226 : decode cX11_merge 226 = .ok (.iaload, 1) := by decide +kernel
theorem dX11_merge_227 : decode cX11_merge 227 = .ok (.aload_n 0, 1) := by decide +kernel
theorem dX11_merge_228 : decode cX11_merge 228 = .ok (.getfield 104, 3) := by decide +kernel
theorem dX11_merge_231 : decode cX11_merge 231 = .ok (.iload 8, 2) := by decide +kernel
theorem dX11_merge_233 : decode cX11_merge 233 = .ok (.iaload, 1) := by decide +kernel
theorem dX11_merge_234 : decode cX11_merge 234 = .ok (.iload_n 3, 1) := by decide +kernel
theorem dX11_merge_235 : decode cX11_merge 235 = .ok (.invokestatic 359, 3) := by decide +kernel
theorem dX11_merge_238 : decode cX11_merge 238 = .ok (.goto 10, 3) := by decide +kernel
theorem dX11_merge_241 : decode cX11_merge 241 = .ok (.aload_n 0, 1) := by decide +kernel
theorem dX11_merge_242 : decode cX11_merge 242 = .ok (.getfield 104, 3) := by decide +kernel
theorem dX11_merge_245 : decode cX11_merge 245 = .ok (.iload 8, 2) := by decide +kernel
theorem dX11_merge_247 : decode cX11_merge 247 = .ok (.iaload, 1) := by decide +kernel
theorem dX11_merge_248 : decode cX11_merge 248 = .ok (.iload 5, 2) := by decide +kernel
theorem dX11_merge_250 : decode cX11_merge 250 = .ok (.invokevirtual 298, 3) := by decide +kernel
theorem dX11_merge_253 : decode cX11_merge 253 = .ok (.istore 7, 2) := by decide +kernel
theorem dX11_merge_255 : decode cX11_merge 255 = .ok (.iinc 8 1, 3) := by decide +kernel
theorem dX11_merge_258 : decode cX11_merge 258 = .ok (.goto (-77), 3) := by decide +kernel
theorem dX11_merge_261 : decode cX11_merge 261 = .ok (.aload_n 0, 1) := by decide +kernel
theorem dX11_merge_262 : decode cX11_merge 262 = .ok (.iload 7, 2) := by decide +kernel
theorem dX11_merge_264 : decode cX11_merge 264 = .ok (.iload_n 1, 1) := by decide +kernel
theorem dX11_merge_265 : decode cX11_merge 265 = .ok (.iload_n 2, 1) := by decide +kernel
theorem dX11_merge_266 : decode cX11_merge 266 = .ok (.invokevirtual 302, 3) := by decide +kernel
theorem dX11_merge_269 : decode cX11_merge 269 = .ok (.ireturn, 1) := by decide +kernel
theorem dX11_isUnlike_0 : decode cX11_isUnlike 0 = .ok (.aload_n 0, 1) := by decide +kernel
theorem dX11_isUnlike_1 : decode cX11_isUnlike 1 = .ok (.getfield 95, 3) := by decide +kernel
theorem dX11_isUnlike_4 : decode cX11_isUnlike 4 = .ok (.iload_n 1, 1) := by decide +kernel
theorem dX11_isUnlike_5 : decode cX11_isUnlike 5 = .ok (.iaload, 1) := by decide +kernel
theorem dX11_isUnlike_6 : decode cX11_isUnlike 6 = .ok (.iload_n 2, 1) := by decide +kernel
theorem dX11_isUnlike_7 : decode cX11_isUnlike 7 = .ok (.invokestatic 271, 3) := by decide +kernel
theorem dX11_isUnlike_10 : decode cX11_isUnlike 10 = .ok (.aload_n 0, 1) := by decide +kernel
theorem dX11_isUnlike_11 : decode cX11_isUnlike 11 = .ok (.getfield 95, 3) := by decide +kernel
theorem dX11_isUnlike_14 : decode cX11_isUnlike 14 = .ok (.iload_n 1, 1) := by decide +kernel
theorem dX11_isUnlike_15 : decode cX11_isUnlike 15 = .ok (.iaload, 1) := by decide +kernel
theorem dX11_isUnlike_16 : decode cX11_isUnlike 16 = .ok (.iload_n 3, 1) := by decide +kernel
theorem dX11_isUnlike_17 : decode cX11_isUnlike 17 = .ok (.invokestatic 271, 3) := by decide +kernel
theorem dX11_isUnlike_20 : decode cX11_isUnlike 20 = .ok (.if_icmp .eq 5, 3) := by decide +kernel
theorem dX11_isUnlike_23 : decode cX11_isUnlike 23 = .ok (.iconst 1, 1) := by decide +kernel
theorem dX11_isUnlike_24 : decode cX11_isUnlike 24 = .ok (.ireturn, 1) := by decide +kernel
theorem dX11_isUnlike_25 : decode cX11_isUnlike 25 = .ok (.aload_n 0, 1) := by decide +kernel
theorem dX11_isUnlike_26 : decode cX11_isUnlike 26 = .ok (.getfield 95, 3) := by decide +kernel
theorem dX11_isUnlike_29 : decode cX11_isUnlike 29 = .ok (.iload_n 1, 1) := by decide +kernel
theorem dX11_isUnlike_30 : decode cX11_isUnlike 30 = .ok (.iaload, 1) := by decide +kernel
theorem dX11_isUnlike_31 : decode cX11_isUnlike 31 = .ok (.iload_n 2, 1) := by decide +kernel
theorem dX11_isUnlike_32 : decode cX11_isUnlike 32 = .ok (.invokestatic 271, 3) := by decide +kernel
theorem dX11_isUnlike_35 : decode cX11_isUnlike 35 = .ok (.ifCond .eq 30, 3) := by decide +kernel
theorem dX11_isUnlike_38 : decode cX11_isUnlike 38 = .ok (.aload_n 0, 1) := by decide +kernel
theorem dX11_isUnlike_39 : decode cX11_isUnlike 39 = .ok (.getfield 98, 3) := by decide +kernel
theorem dX11_isUnlike_42 : decode cX11_isUnlike 42 = .ok (.iconst 3, 1) := by decide +kernel
theorem dX11_isUnlike_43 : decode cX11_isUnlike 43 = .ok (.iload_n 1, 1) := by decide +kernel
theorem dX11_isUnlike_44 : decode cX11_isUnlike 44 = .ok (.imul, 1) := by decide +kernel
theorem dX11_isUnlike_45 : decode cX11_isUnlike 45 = .ok (.iload_n 2, 1) := by decide +kernel
theorem dX11_isUnlike_46 : decode cX11_isUnlike 46 = .ok (.iadd, 1) := by decide +kernel
theorem dX11_isUnlike_47 : decode cX11_isUnlike 47 = .ok (.iaload, 1) := by decide +kernel
theorem dX11_isUnlike_48 : decode cX11_isUnlike 48 = .ok (.aload_n 0, 1) := by decide +kernel
theorem dX11_isUnlike_49 : decode cX11_isUnlike 49 = .ok (.getfield 98, 3) := by decide +kernel
theorem dX11_isUnlike_52 : decode cX11_isUnlike 52 = .ok (.iconst 3, 1) := by decide +kernel
theorem dX11_isUnlike_53 : decode cX11_isUnlike 53 = .ok (.iload_n 1, 1) := by decide +kernel
theorem dX11_isUnlike_54 : decode cX11_isUnlike 54 = .ok (.imul, 1) := by decide +kernel
theorem dX11_isUnlike_55 : decode cX11_isUnlike 55 = .ok (.iload_n 3, 1) := by decide +kernel
theorem dX11_isUnlike_56 : decode cX11_isUnlike 56 = .ok (.iadd, 1) := by decide +kernel
theorem dX11_isUnlike_57 : decode cX11_isUnlike 57 = .ok (.iaload, 1) := by decide +kernel
theorem dX11_isUnlike_58 : decode cX11_isUnlike 58 = .ok (.if_icmp .eq 7, 3) := by decide +kernel
theorem dX11_isUnlike_61 : decode cX11_isUnlike 61 = .ok (.iconst 1, 1) := by decide +kernel
theorem dX11_isUnlike_62 : decode cX11_isUnlike 62 = .ok (.goto 4, 3) := by decide +kernel
theorem dX11_isUnlike_65 : decode cX11_isUnlike 65 = .ok (.iconst 0, 1) := by decide +kernel
theorem dX11_isUnlike_66 : decode cX11_isUnlike 66 = .ok (.ireturn, 1) := by decide +kernel
theorem dX11_isConflict_0 : decode cX11_isConflict 0 = .ok (.aload_n 0, 1) := by decide +kernel
theorem dX11_isConflict_1 : decode cX11_isConflict 1 = .ok (.iload_n 1, 1) := by decide +kernel
theorem dX11_isConflict_2 : decode cX11_isConflict 2 = .ok (.iconst 2, 1) := by decide +kernel
theorem dX11_isConflict_3 : decode cX11_isConflict 3 = .ok (.iconst 0, 1) := by decide +kernel
theorem dX11_isConflict_4 : decode cX11_isConflict 4 = .ok (.invokevirtual 362, 3) := by decide +kernel
theorem dX11_isConflict_7 : decode cX11_isConflict 7 = .ok (.ifCond .eq 27, 3) := by decide +kernel
theorem dX11_isConflict_10 : decode cX11_isConflict 10 = .ok (.aload_n 0, 1) := by decide +kernel
theorem dX11_isConflict_11 : decode cX11_isConflict 11 = .ok (.iload_n 1, 1) := by decide +kernel
theorem dX11_isConflict_12 : decode cX11_isConflict 12 = .ok (.iconst 2, 1) := by decide +kernel
theorem dX11_isConflict_13 : decode cX11_isConflict 13 = .ok (.iconst 1, 1) := by decide +kernel
theorem dX11_isConflict_14 : decode cX11_isConflict 14 = .ok (.invokevirtual 362, 3) := by decide +kernel
theorem dX11_isConflict_17 : decode cX11_isConflict 17 = .ok (.ifCond .eq 17, 3) := by decide +kernel
theorem dX11_isConflict_20 : decode cX11_isConflict 20 = .ok (.aload_n 0, 1) := by decide +kernel
theorem dX11_isConflict_21 : decode cX11_isConflict 21 = .ok (.iload_n 1, 1) := by decide +kernel
theorem dX11_isConflict_22 : decode cX11_isConflict 22 = .ok (.iconst 1, 1) := by decide +kernel
theorem dX11_isConflict_23 : decode cX11_isConflict 23 = .ok (.iconst 0, 1) := by decide +kernel
theorem dX11_isConflict_24 : decode cX11_isConflict 24 = .ok (.invokevirtual 362, 3) := by decide +kernel
theorem dX11_isConflict_27 : decode cX11_isConflict 27 = .ok (.ifCond .eq 7, 3) := by decide +kernel
theorem dX11_isConflict_30 : decode cX11_isConflict 30 = .ok (.iconst 1, 1) := by decide +kernel
theorem dX11_isConflict_31 : decode cX11_isConflict 31 = .ok (.goto 4, 3) := by decide +kernel
theorem dX11_isConflict_34 : decode cX11_isConflict 34 = .ok (.iconst 0, 1) := by decide +kernel
theorem dX11_isConflict_35 : decode cX11_isConflict 35 = .ok (.ireturn, 1) := by decide +kernel
theorem dX11_asWhich_0 : decode cX11_asWhich 0 = .ok (.aload_n 0, 1) := by decide +kernel
theorem dX11_asWhich_1 : decode cX11_asWhich 1 = .ok (.iload_n 1, 1) := by decide +kernel
theorem dX11_asWhich_2 : decode cX11_asWhich 2 = .ok (.iconst 2, 1) := by decide +kernel
theorem dX11_asWhich_3 : decode cX11_asWhich 3 = .ok (.iconst 0, 1) := by decide +kernel
theorem dX11_asWhich_4 : decode cX11_asWhich 4 = .ok (.invokevirtual 362, 3) := by decide +kernel
theorem dX11_asWhich_7 : decode cX11_asWhich 7 = .ok (.ifCond .eq 13, 3) := by decide +kernel
theorem dX11_asWhich_10 : decode cX11_asWhich 10 = .ok (.aload_n 0, 1) := by decide +kernel
theorem dX11_asWhich_11 : decode cX11_asWhich 11 = .ok (.iload_n 1, 1) := by decide +kernel
theorem dX11_asWhich_12 : decode cX11_asWhich 12 = .ok (.iconst 2, 1) := by decide +kernel
theorem dX11_asWhich_13 : decode cX11_asWhich 13 = .ok (.iconst 1, 1) := by decide +kernel
theorem dX11_asWhich_14 : decode cX11_asWhich 14 = .ok (.invokevirtual 362, 3) := by decide +kernel
theorem dX11_asWhich_17 : decode cX11_asWhich 17 = .ok (.ifCond .ne 5, 3) := by decide +kernel
theorem dX11_asWhich_20 : decode cX11_asWhich 20 = .ok (.iconst 1, 1) := by decide +kernel
theorem dX11_asWhich_21 : decode cX11_asWhich 21 = .ok (.ireturn, 1) := by decide +kernel
theorem dX11_asWhich_22 : decode cX11_asWhich 22 = .ok (.aload_n 0, 1) := by decide +kernel
theorem dX11_asWhich_23 : decode cX11_asWhich 23 = .ok (.iload_n 1, 1) := by decide +kernel
theorem dX11_asWhich_24 : decode cX11_asWhich 24 = .ok (.invokevirtual 366, 3) := by decide +kernel
theorem dX11_asWhich_27 : decode cX11_asWhich 27 = .ok (.ifCond .ne 5, 3) := by decide +kernel
theorem dX11_asWhich_30 : decode cX11_asWhich 30 = .ok (.iconst 2, 1) := by decide +kernel
theorem dX11_asWhich_31 : decode cX11_asWhich 31 = .ok (.ireturn, 1) := by decide +kernel
theorem dX11_asWhich_32 : decode cX11_asWhich 32 = .ok (.iload_n 2, 1) := by decide +kernel
theorem dX11_asWhich_33 : decode cX11_asWhich 33 = .ok (.ifCond .ne 7, 3) := by decide +kernel
theorem dX11_asWhich_36 : decode cX11_asWhich 36 = .ok (.iconst 1, 1) := by decide +kernel
theorem dX11_asWhich_37 : decode cX11_asWhich 37 = .ok (.goto 13, 3) := by decide +kernel
theorem dX11_asWhich_40 : decode cX11_asWhich 40 = .ok (.iload_n 2, 1) := by decide +kernel
theorem dX11_asWhich_41 : decode cX11_asWhich 41 = .ok (.iconst 1, 1) := by decide +kernel
theorem dX11_asWhich_42 : decode cX11_asWhich 42 = .ok (.if_icmp .ne 7, 3) := by decide +kernel
theorem dX11_asWhich_45 : decode cX11_asWhich 45 = .ok (.iconst 2, 1) := by decide +kernel
theorem dX11_asWhich_46 : decode cX11_asWhich 46 = .ok (.goto 4, 3) := by decide +kernel
theorem dX11_asWhich_49 : decode cX11_asWhich 49 = .ok (.iconst 0, 1) := by decide +kernel
theorem dX11_asWhich_50 : decode cX11_asWhich 50 = .ok (.ireturn, 1) := by decide +kernel
theorem dX11_laysThree_0 : decode cX11_laysThree 0 = .ok (.iconst 0, 1) := by decide +kernel
theorem dX11_laysThree_1 : decode cX11_laysThree 1 = .ok (.istore 4, 2) := by decide +kernel
theorem dX11_laysThree_3 : decode cX11_laysThree 3 = .ok (.iload 4, 2) := by decide +kernel
theorem dX11_laysThree_5 : decode cX11_laysThree 5 = .ok (.sipush 999, 3) := by decide +kernel
theorem dX11_laysThree_8 : decode cX11_laysThree 8 = .ok (.if_icmp .gt 17, 3) := by decide +kernel
theorem dX11_laysThree_11 : decode cX11_laysThree 11 = .ok (.aload_n 0, 1) := by decide +kernel
theorem dX11_laysThree_12 : decode cX11_laysThree 12 = .ok (.getfield 95, 3) := by decide +kernel
theorem dX11_laysThree_15 : decode cX11_laysThree 15 = .ok (.iload 4, 2) := by decide +kernel
theorem dX11_laysThree_17 : decode cX11_laysThree 17 = .ok (.iconst 0, 1) := by decide +kernel
theorem dX11_laysThree_18 : decode cX11_laysThree 18 = .ok (.iastore, 1) := by decide +kernel
theorem dX11_laysThree_19 : decode cX11_laysThree 19 = .ok (.iinc 4 1, 3) := by decide +kernel
theorem dX11_laysThree_22 : decode cX11_laysThree 22 = .ok (.goto (-19), 3) := by decide +kernel
theorem dX11_laysThree_25 : decode cX11_laysThree 25 = .ok (.aload_n 0, 1) := by decide +kernel
theorem dX11_laysThree_26 : decode cX11_laysThree 26 = .ok (.aload_n 0, 1) := by decide +kernel
theorem dX11_laysThree_27 : decode cX11_laysThree 27 = .ok (.getfield 67, 3) := by decide +kernel
theorem dX11_laysThree_30 : decode cX11_laysThree 30 = .ok (.iload_n 1, 1) := by decide +kernel
theorem dX11_laysThree_31 : decode cX11_laysThree 31 = .ok (.iaload, 1) := by decide +kernel
theorem dX11_laysThree_32 : decode cX11_laysThree 32 = .ok (.iconst 0, 1) := by decide +kernel
theorem dX11_laysThree_33 : decode cX11_laysThree 33 = .ok (.invokevirtual 342, 3) := by decide +kernel
theorem dX11_laysThree_36 : decode cX11_laysThree 36 = .ok (.aload_n 0, 1) := by decide +kernel
theorem dX11_laysThree_37 : decode cX11_laysThree 37 = .ok (.aload_n 0, 1) := by decide +kernel
theorem dX11_laysThree_38 : decode cX11_laysThree 38 = .ok (.getfield 67, 3) := by decide +kernel
theorem dX11_laysThree_41 : decode cX11_laysThree 41 = .ok (.iload_n 2, 1) := by decide +kernel
theorem dX11_laysThree_42 : decode cX11_laysThree 42 = .ok (.iaload, 1) := by decide +kernel
theorem dX11_laysThree_43 : decode cX11_laysThree 43 = .ok (.iconst 1, 1) := by decide +kernel
theorem dX11_laysThree_44 : decode cX11_laysThree 44 = .ok (.invokevirtual 342, 3) := by decide +kernel
theorem dX11_laysThree_47 : decode cX11_laysThree 47 = .ok (.aload_n 0, 1) := by decide +kernel
theorem dX11_laysThree_48 : decode cX11_laysThree 48 = .ok (.aload_n 0, 1) := by decide +kernel
theorem dX11_laysThree_49 : decode cX11_laysThree 49 = .ok (.getfield 67, 3) := by decide +kernel
theorem dX11_laysThree_52 : decode cX11_laysThree 52 = .ok (.iload_n 3, 1) := by decide +kernel
theorem dX11_laysThree_53 : decode cX11_laysThree 53 = .ok (.iaload, 1) := by decide +kernel
theorem dX11_laysThree_54 : decode cX11_laysThree 54 = .ok (.iconst 2, 1) := by decide +kernel
theorem dX11_laysThree_55 : decode cX11_laysThree 55 = .ok (.invokevirtual 342, 3) := by decide +kernel
theorem dX11_laysThree_58 : decode cX11_laysThree 58 = .ok (.return_, 1) := by decide +kernel
theorem dX11_three_0 : decode cX11_three 0 = .ok (.aload_n 0, 1) := by decide +kernel
theorem dX11_three_1 : decode cX11_three 1 = .ok (.iconst 0, 1) := by decide +kernel
theorem dX11_three_2 : decode cX11_three 2 = .ok (.putfield 116, 3) := by decide +kernel
theorem dX11_three_5 : decode cX11_three 5 = .ok (.aload_n 0, 1) := by decide +kernel
theorem dX11_three_6 : decode cX11_three 6 = .ok (.iload_n 1, 1) := by decide +kernel
theorem dX11_three_7 : decode cX11_three 7 = .ok (.invokevirtual 309, 3) := by decide +kernel
theorem dX11_three_10 : decode cX11_three 10 = .ok (.ifCond .eq 19, 3) := by decide +kernel
theorem dX11_three_13 : decode cX11_three 13 = .ok (.aload_n 0, 1) := by decide +kernel
theorem dX11_three_14 : decode cX11_three 14 = .ok (.iload_n 2, 1) := by decide +kernel
theorem dX11_three_15 : decode cX11_three 15 = .ok (.invokevirtual 309, 3) := by decide +kernel
theorem dX11_three_18 : decode cX11_three 18 = .ok (.ifCond .eq 11, 3) := by decide +kernel
theorem dX11_three_21 : decode cX11_three 21 = .ok (.aload_n 0, 1) := by decide +kernel
theorem dX11_three_22 : decode cX11_three 22 = .ok (.iload_n 3, 1) := by decide +kernel
theorem dX11_three_23 : decode cX11_three 23 = .ok (.invokevirtual 309, 3) := by decide +kernel
theorem dX11_three_26 : decode cX11_three 26 = .ok (.ifCond .ne 9, 3) := by decide +kernel
theorem dX11_three_29 : decode cX11_three 29 = .ok (.aload_n 0, 1) := by decide +kernel
theorem dX11_three_30 : decode cX11_three 30 = .ok (.iconst 0, 1) := by decide +kernel
theorem dX11_three_31 : decode cX11_three 31 = .ok (.invokevirtual 292, 3) := by decide +kernel
theorem dX11_three_34 : decode cX11_three 34 = .ok (.ireturn, 1) := by decide +kernel
theorem dX11_three_35 : decode cX11_three 35 = .ok (.iload 4, 2) := by decide +kernel
theorem dX11_three_37 : decode cX11_three 37 = .ok (.i2l, 1) := by decide +kernel
theorem dX11_three_38 : decode cX11_three 38 = .ok (.lconst 0, 1) := by decide +kernel
theorem dX11_three_39 : decode cX11_three 39 = .ok (.ldc2_w 369, 3) := by decide +kernel
theorem dX11_three_42 : decode cX11_three 42 = .ok (.invokestatic 174, 3) := by decide +kernel
theorem dX11_three_45 : decode cX11_three 45 = .ok (.ifCond .ne 9, 3) := by decide +kernel
theorem dX11_three_48 : decode cX11_three 48 = .ok (.aload_n 0, 1) := by decide +kernel
theorem dX11_three_49 : decode cX11_three 49 = .ok (.iconst 1, 1) := by decide +kernel
theorem dX11_three_50 : decode cX11_three 50 = .ok (.invokevirtual 292, 3) := by decide +kernel
theorem dX11_three_53 : decode cX11_three 53 = .ok (.ireturn, 1) := by decide +kernel
theorem dX11_three_54 : decode cX11_three 54 = .ok (.aload_n 0, 1) := by decide +kernel
theorem dX11_three_55 : decode cX11_three 55 = .ok (.iload_n 1, 1) := by decide +kernel
theorem dX11_three_56 : decode cX11_three 56 = .ok (.iload_n 2, 1) := by decide +kernel
theorem dX11_three_57 : decode cX11_three 57 = .ok (.iload_n 3, 1) := by decide +kernel
theorem dX11_three_58 : decode cX11_three 58 = .ok (.invokevirtual 371, 3) := by decide +kernel
theorem dX11_three_61 : decode cX11_three 61 = .ok (.iconst 0, 1) := by decide +kernel
theorem dX11_three_62 : decode cX11_three 62 = .ok (.istore 5, 2) := by decide +kernel
theorem dX11_three_64 : decode cX11_three 64 = .ok (.iconst 0, 1) := by decide +kernel
theorem dX11_three_65 : decode cX11_three 65 = .ok (.istore 6, 2) := by decide +kernel
theorem dX11_three_67 : decode cX11_three 67 = .ok (.iload 6, 2) := by decide +kernel
theorem dX11_three_69 : decode cX11_three 69 = .ok (.sipush 999, 3) := by decide +kernel
theorem dX11_three_72 : decode cX11_three 72 = .ok (.if_icmp .gt 40, 3) := by decide +kernel
theorem dX11_three_75 : decode cX11_three 75 = .ok (.iload 5, 2) := by decide +kernel
theorem dX11_three_77 : decode cX11_three 77 = .ok (.aload_n 0, 1) := by decide +kernel
theorem dX11_three_78 : decode cX11_three 78 = .ok (.getfield 95, 3) := by decide +kernel
theorem dX11_three_81 : decode cX11_three 81 = .ok (.iload 6, 2) := by decide +kernel
theorem dX11_three_83 : decode cX11_three 83 = .ok (.iaload, 1) := by decide +kernel
theorem dX11_three_84 : decode cX11_three 84 = .ok (.aload_n 0, 1) := by decide +kernel
theorem dX11_three_85 : decode cX11_three 85 = .ok (.iload 6, 2) := by decide +kernel
theorem dX11_three_87 : decode cX11_three 87 = .ok (.iload 4, 2) := by decide +kernel
theorem dX11_three_89 : decode cX11_three 89 = .ok (.invokevirtual 374, 3) := by decide +kernel
theorem dX11_three_92 : decode cX11_three 92 = .ok (.invokestatic 271, 3) := by decide +kernel
theorem dX11_three_95 : decode cX11_three 95 = .ok (.ifCond .eq 7, 3) := by decide +kernel
theorem dX11_three_98 : decode cX11_three 98 = .ok (.iconst 1, 1) := by decide +kernel
theorem dX11_three_99 : decode cX11_three 99 = .ok (.goto 4, 3) := by decide +kernel
theorem dX11_three_102 : decode cX11_three 102 = .ok (.iconst 0, 1) := by decide +kernel
theorem dX11_three_103 : decode cX11_three 103 = .ok (.iadd, 1) := by decide +kernel
theorem dX11_three_104 : decode cX11_three 104 = .ok (.istore 5, 2) := by decide +kernel
theorem dX11_three_106 : decode cX11_three 106 = .ok (.iinc 6 1, 3) := by decide +kernel
theorem dX11_three_109 : decode cX11_three 109 = .ok (.goto (-42), 3) := by decide +kernel
theorem dX11_three_112 : decode cX11_three 112 = .ok (.iload 5, 2) := by decide +kernel
theorem dX11_three_114 : decode cX11_three 114 = .ok (.bipush 60, 2) := by decide +kernel
theorem dX11_three_116 : decode cX11_three 116 = .ok (.if_icmp .le 9, 3) := by decide +kernel
theorem dX11_three_119 : decode cX11_three 119 = .ok (.aload_n 0, 1) := by decide +kernel
theorem dX11_three_120 : decode cX11_three 120 = .ok (.iconst 3, 1) := by decide +kernel
theorem dX11_three_121 : decode cX11_three 121 = .ok (.invokevirtual 292, 3) := by decide +kernel
theorem dX11_three_124 : decode cX11_three 124 = .ok (.ireturn, 1) := by decide +kernel
theorem dX11_three_125 : decode cX11_three 125 = .ok (.aload_n 0, 1) := by decide +kernel
theorem dX11_three_126 : decode cX11_three 126 = .ok (.invokevirtual 289, 3) := by decide +kernel
theorem dX11_three_129 : decode cX11_three 129 = .ok (.ifCond .ne 9, 3) := by decide +kernel
theorem dX11_three_132 : decode cX11_three 132 = .ok (.aload_n 0, 1) := by decide +kernel
theorem dX11_three_133 : decode cX11_three 133 = .ok (.iconst 4, 1) := by decide +kernel
theorem dX11_three_134 : decode cX11_three 134 = .ok (.invokevirtual 292, 3) := by decide +kernel
theorem dX11_three_137 : decode cX11_three 137 = .ok (.ireturn, 1) := by decide +kernel
theorem dX11_three_138 : decode cX11_three 138 = .ok (.aload_n 0, 1) := by decide +kernel
theorem dX11_three_139 : decode cX11_three 139 = .ok (.invokevirtual 295, 3) := by decide +kernel
theorem dX11_three_142 : decode cX11_three 142 = .ok (.istore 6, 2) := by decide +kernel
theorem dX11_three_144 : decode cX11_three 144 = .ok (.aload_n 0, 1) := by decide +kernel
theorem dX11_three_145 : decode cX11_three 145 = .ok (.getfield 67, 3) := by decide +kernel
theorem dX11_three_148 : decode cX11_three 148 = .ok (.iload_n 2, 1) := by decide +kernel
theorem dX11_three_149 : decode cX11_three 149 = .ok (.iaload, 1) := by decide +kernel
theorem dX11_three_150 : decode cX11_three 150 = .ok (.istore 7, 2) := by decide +kernel
theorem dX11_three_152 : decode cX11_three 152 = .ok (.iconst 0, 1) := by decide +kernel
theorem dX11_three_153 : decode cX11_three 153 = .ok (.istore 8, 2) := by decide +kernel
theorem dX11_three_155 : decode cX11_three 155 = .ok (.iload 8, 2) := by decide +kernel
theorem dX11_three_157 : decode cX11_three 157 = .ok (.sipush 999, 3) := by decide +kernel
theorem dX11_three_160 : decode cX11_three 160 = .ok (.if_icmp .gt 80, 3) := by decide +kernel
theorem dX11_three_163 : decode cX11_three 163 = .ok (.aload_n 0, 1) := by decide +kernel
theorem dX11_three_164 : decode cX11_three 164 = .ok (.iload 8, 2) := by decide +kernel
theorem dX11_three_166 : decode cX11_three 166 = .ok (.iload 4, 2) := by decide +kernel
theorem dX11_three_168 : decode cX11_three 168 = .ok (.invokevirtual 374, 3) := by decide +kernel
theorem dX11_three_171 : decode cX11_three 171 = .ok (.istore 9, 2) := by decide +kernel
theorem dX11_three_173 : decode cX11_three 173 = .ok (.iload 9, 2) := by decide +kernel
theorem dX11_three_175 : decode cX11_three 175 = .ok (.iconst 1, 1) := by decide +kernel
theorem dX11_three_176 : decode cX11_three 176 = .ok (.if_icmp .ne 6, 3) := by decide +kernel
theorem dX11_three_179 : decode cX11_three 179 = .ok (.goto 55, 3) := by decide +kernel
theorem dX11_three_182 : decode cX11_three 182 = .ok (.aload_n 0, 1) := by decide +kernel
theorem dX11_three_183 : decode cX11_three 183 = .ok (.getfield 95, 3) := by decide +kernel
theorem dX11_three_186 : decode cX11_three 186 = .ok (.iload 8, 2) := by decide +kernel
theorem dX11_three_188 : decode cX11_three 188 = .ok (.iaload, 1) := by decide +kernel
theorem dX11_three_189 : decode cX11_three 189 = .ok (.iload 9, 2) := by decide +kernel
theorem dX11_three_191 : decode cX11_three 191 = .ok (.invokestatic 271, 3) := by decide +kernel
theorem dX11_three_194 : decode cX11_three 194 = .ok (.ifCond .eq 28, 3) := by decide +kernel
theorem dX11_three_197 : decode cX11_three 197 = .ok (.aload_n 0, 1) := by decide +kernel
theorem dX11_three_198 : decode cX11_three 198 = .ok (.iload 7, 2) := by decide +kernel
theorem dX11_three_200 : decode cX11_three 200 = .ok (.iload 8, 2) := by decide +kernel
theorem dX11_three_202 : decode cX11_three 202 = .ok (.aload_n 0, 1) := by decide +kernel
theorem dX11_three_203 : decode cX11_three 203 = .ok (.getfield 98, 3) := by decide +kernel
theorem dX11_three_206 : decode cX11_three 206 = .ok (.iconst 3, 1) := by decide +kernel
theorem dX11_three_207 : decode cX11_three 207 = .ok (.iload 8, 2) := by decide +kernel
theorem dX11_three_209 : decode cX11_three 209 = .ok (.imul, 1) := by decide +kernel
theorem dX11_three_210 : decode cX11_three 210 = .ok (.iload 9, 2) := by decide +kernel
theorem dX11_three_212 : decode cX11_three 212 = .ok (.iadd, 1) := by decide +kernel
theorem dX11_three_213 : decode cX11_three 213 = .ok (.iaload, 1) := by decide +kernel
theorem dX11_three_214 : decode cX11_three 214 = .ok (.iload 6, 2) := by decide +kernel
theorem dX11_three_216 : decode cX11_three 216 = .ok (.invokevirtual 298, 3) := by decide +kernel
theorem dX11_three_219 : decode cX11_three 219 = .ok (.goto 13, 3) := by decide +kernel
theorem dX11_three_222 : decode cX11_three 222 = .ok (.aload_n 0, 1) := by decide +kernel
theorem dX11_three_223 : decode cX11_three 223 = .ok (.iload 7, 2) := by decide +kernel
theorem dX11_three_225 : decode cX11_three 225 = .ok (.iload 8, 2) := by decide +kernel
theorem dX11_three_227 : decode cX11_three 227 = .ok (.iload 6, 2) := by decide +kernel
theorem dX11_three_229 : decode cX11_three 229 = .ok (.invokevirtual 339, 3) := by decide +kernel
theorem dX11_three_232 : decode cX11_three 232 = .ok (.istore 7, 2) := by decide +kernel
theorem dX11_three_234 : decode cX11_three 234 = .ok (.iinc 8 1, 3) := by decide +kernel
theorem dX11_three_237 : decode cX11_three 237 = .ok (.goto (-82), 3) := by decide +kernel
theorem dX11_three_240 : decode cX11_three 240 = .ok (.aload_n 0, 1) := by decide +kernel
theorem dX11_three_241 : decode cX11_three 241 = .ok (.iload 7, 2) := by decide +kernel
theorem dX11_three_243 : decode cX11_three 243 = .ok (.iload_n 2, 1) := by decide +kernel
theorem dX11_three_244 : decode cX11_three 244 = .ok (.iload_n 3, 1) := by decide +kernel
theorem dX11_three_245 : decode cX11_three 245 = .ok (.invokevirtual 302, 3) := by decide +kernel
theorem dX11_three_248 : decode cX11_three 248 = .ok (.ireturn, 1) := by decide +kernel
theorem dX11_conflicts_0 : decode cX11_conflicts 0 = .ok (.aload_n 0, 1) := by decide +kernel
theorem dX11_conflicts_1 : decode cX11_conflicts 1 = .ok (.iconst 0, 1) := by decide +kernel
theorem dX11_conflicts_2 : decode cX11_conflicts 2 = .ok (.putfield 116, 3) := by decide +kernel
theorem dX11_conflicts_5 : decode cX11_conflicts 5 = .ok (.aload_n 0, 1) := by decide +kernel
theorem dX11_conflicts_6 : decode cX11_conflicts 6 = .ok (.iload_n 1, 1) := by decide +kernel
theorem dX11_conflicts_7 : decode cX11_conflicts 7 = .ok (.invokevirtual 309, 3) := by decide +kernel
theorem dX11_conflicts_10 : decode cX11_conflicts 10 = .ok (.ifCond .eq 19, 3) := by decide +kernel
theorem dX11_conflicts_13 : decode cX11_conflicts 13 = .ok (.aload_n 0, 1) := by decide +kernel
theorem dX11_conflicts_14 : decode cX11_conflicts 14 = .ok (.iload_n 2, 1) := by decide +kernel
theorem dX11_conflicts_15 : decode cX11_conflicts 15 = .ok (.invokevirtual 309, 3) := by decide +kernel
theorem dX11_conflicts_18 : decode cX11_conflicts 18 = .ok (.ifCond .eq 11, 3) := by decide +kernel
theorem dX11_conflicts_21 : decode cX11_conflicts 21 = .ok (.aload_n 0, 1) := by decide +kernel
theorem dX11_conflicts_22 : decode cX11_conflicts 22 = .ok (.iload_n 3, 1) := by decide +kernel
theorem dX11_conflicts_23 : decode cX11_conflicts 23 = .ok (.invokevirtual 309, 3) := by decide +kernel
theorem dX11_conflicts_26 : decode cX11_conflicts 26 = .ok (.ifCond .ne 5, 3) := by decide +kernel
theorem dX11_conflicts_29 : decode cX11_conflicts 29 = .ok (.iconst (-1), 1) := by decide +kernel
theorem dX11_conflicts_30 : decode cX11_conflicts 30 = .ok (.ireturn, 1) := by decide +kernel
theorem dX11_conflicts_31 : decode cX11_conflicts 31 = .ok (.aload_n 0, 1) := by decide +kernel
theorem dX11_conflicts_32 : decode cX11_conflicts 32 = .ok (.iload_n 1, 1) := by decide +kernel
theorem dX11_conflicts_33 : decode cX11_conflicts 33 = .ok (.iload_n 2, 1) := by decide +kernel
theorem dX11_conflicts_34 : decode cX11_conflicts 34 = .ok (.iload_n 3, 1) := by decide +kernel
theorem dX11_conflicts_35 : decode cX11_conflicts 35 = .ok (.invokevirtual 371, 3) := by decide +kernel
theorem dX11_conflicts_38 : decode cX11_conflicts 38 = .ok (.iconst 0, 1) := by decide +kernel
theorem dX11_conflicts_39 : decode cX11_conflicts 39 = .ok (.istore 4, 2) := by decide +kernel
theorem dX11_conflicts_41 : decode cX11_conflicts 41 = .ok (.iconst 0, 1) := by decide +kernel
theorem dX11_conflicts_42 : decode cX11_conflicts 42 = .ok (.istore 5, 2) := by decide +kernel
theorem dX11_conflicts_44 : decode cX11_conflicts 44 = .ok (.iload 5, 2) := by decide +kernel
theorem dX11_conflicts_46 : decode cX11_conflicts 46 = .ok (.sipush 999, 3) := by decide +kernel
theorem dX11_conflicts_49 : decode cX11_conflicts 49 = .ok (.if_icmp .gt 28, 3) := by decide +kernel
theorem dX11_conflicts_52 : decode cX11_conflicts 52 = .ok (.iload 4, 2) := by decide +kernel
theorem dX11_conflicts_54 : decode cX11_conflicts 54 = .ok (.aload_n 0, 1) := by decide +kernel
theorem dX11_conflicts_55 : decode cX11_conflicts 55 = .ok (.iload 5, 2) := by decide +kernel
theorem dX11_conflicts_57 : decode cX11_conflicts 57 = .ok (.invokevirtual 366, 3) := by decide +kernel
theorem dX11_conflicts_60 : decode cX11_conflicts 60 = .ok (.ifCond .eq 7, 3) := by decide +kernel
theorem dX11_conflicts_63 : decode cX11_conflicts 63 = .ok (.iconst 1, 1) := by decide +kernel
theorem dX11_conflicts_64 : decode cX11_conflicts 64 = .ok (.goto 4, 3) := by decide +kernel
theorem dX11_conflicts_67 : decode cX11_conflicts 67 = .ok (.iconst 0, 1) := by decide +kernel
theorem dX11_conflicts_68 : decode cX11_conflicts 68 = .ok (.iadd, 1) := by decide +kernel
theorem dX11_conflicts_69 : decode cX11_conflicts 69 = .ok (.istore 4, 2) := by decide +kernel
theorem dX11_conflicts_71 : decode cX11_conflicts 71 = .ok (.iinc 5 1, 3) := by decide +kernel
theorem dX11_conflicts_74 : decode cX11_conflicts 74 = .ok (.goto (-30), 3) := by decide +kernel
theorem dX11_conflicts_77 : decode cX11_conflicts 77 = .ok (.iload 4, 2) := by decide +kernel
theorem dX11_conflicts_79 : decode cX11_conflicts 79 = .ok (.ireturn, 1) := by decide +kernel
theorem dX11_cuts_0 : decode cX11_cuts 0 = .ok (.aload_n 0, 1) := by decide +kernel
theorem dX11_cuts_1 : decode cX11_cuts 1 = .ok (.iload_n 1, 1) := by decide +kernel
theorem dX11_cuts_2 : decode cX11_cuts 2 = .ok (.invokevirtual 252, 3) := by decide +kernel
theorem dX11_cuts_5 : decode cX11_cuts 5 = .ok (.iconst 0, 1) := by decide +kernel
theorem dX11_cuts_6 : decode cX11_cuts 6 = .ok (.istore 6, 2) := by decide +kernel
theorem dX11_cuts_8 : decode cX11_cuts 8 = .ok (.iconst 0, 1) := by decide +kernel
theorem dX11_cuts_9 : decode cX11_cuts 9 = .ok (.istore 7, 2) := by decide +kernel
theorem dX11_cuts_11 : decode cX11_cuts 11 = .ok (.iload 7, 2) := by decide +kernel
theorem dX11_cuts_13 : decode cX11_cuts 13 = .ok (.aload_n 0, 1) := by decide +kernel
theorem dX11_cuts_14 : decode cX11_cuts 14 = .ok (.getfield 249, 3) := by decide +kernel
theorem dX11_cuts_17 : decode cX11_cuts 17 = .ok (.if_icmp .ge 49, 3) := by decide +kernel
theorem dX11_cuts_20 : decode cX11_cuts 20 = .ok (.aload_n 0, 1) := by decide +kernel
theorem dX11_cuts_21 : decode cX11_cuts 21 = .ok (.getfield 55, 3) := by decide +kernel
theorem dX11_cuts_24 : decode cX11_cuts 24 = .ok (.iload 7, 2) := by decide +kernel
theorem dX11_cuts_26 : decode cX11_cuts 26 = .ok (.iaload, 1) := by decide +kernel
theorem dX11_cuts_27 : decode cX11_cuts 27 = .ok (.i2l, 1) := by decide +kernel
theorem dX11_cuts_28 : decode cX11_cuts 28 = .ok (.iload_n 2, 1) := by decide +kernel
theorem dX11_cuts_29 : decode cX11_cuts 29 = .ok (.i2l, 1) := by decide +kernel
theorem dX11_cuts_30 : decode cX11_cuts 30 = .ok (.iload_n 3, 1) := by decide +kernel
theorem dX11_cuts_31 : decode cX11_cuts 31 = .ok (.i2l, 1) := by decide +kernel
theorem dX11_cuts_32 : decode cX11_cuts 32 = .ok (.invokestatic 174, 3) := by decide +kernel
theorem dX11_cuts_35 : decode cX11_cuts 35 = .ok (.iload 4, 2) := by decide +kernel
theorem dX11_cuts_37 : decode cX11_cuts 37 = .ok (.if_icmp .eq 6, 3) := by decide +kernel
theorem dX11_cuts_40 : decode cX11_cuts 40 = .ok (.goto 20, 3) := by decide +kernel
theorem dX11_cuts_43 : decode cX11_cuts 43 = .ok (.aload_n 0, 1) := by decide +kernel
theorem dX11_cuts_44 : decode cX11_cuts 44 = .ok (.getfield 101, 3) := by decide +kernel
theorem dX11_cuts_47 : decode cX11_cuts 47 = .ok (.iload 6, 2) := by decide +kernel
theorem dX11_cuts_49 : decode cX11_cuts 49 = .ok (.aload_n 0, 1) := by decide +kernel
theorem dX11_cuts_50 : decode cX11_cuts 50 = .ok (.getfield 55, 3) := by decide +kernel
theorem dX11_cuts_53 : decode cX11_cuts 53 = .ok (.iload 7, 2) := by decide +kernel
theorem dX11_cuts_55 : decode cX11_cuts 55 = .ok (.iaload, 1) := by decide +kernel
theorem dX11_cuts_56 : decode cX11_cuts 56 = .ok (.iastore, 1) := by decide +kernel
theorem dX11_cuts_57 : decode cX11_cuts 57 = .ok (.iinc 6 1, 3) := by decide +kernel
theorem dX11_cuts_60 : decode cX11_cuts 60 = .ok (.iinc 7 1, 3) := by decide +kernel
theorem dX11_cuts_63 : decode cX11_cuts 63 = .ok (.goto (-52), 3) := by decide +kernel
theorem dX11_cuts_66 : decode cX11_cuts 66 = .ok (.iconst 0, 1) := by decide +kernel
theorem dX11_cuts_67 : decode cX11_cuts 67 = .ok (.istore 7, 2) := by decide +kernel
theorem dX11_cuts_69 : decode cX11_cuts 69 = .ok (.iload 7, 2) := by decide +kernel
theorem dX11_cuts_71 : decode cX11_cuts 71 = .ok (.iload 6, 2) := by decide +kernel
theorem dX11_cuts_73 : decode cX11_cuts 73 = .ok (.if_icmp .ge 24, 3) := by decide +kernel
theorem dX11_cuts_76 : decode cX11_cuts 76 = .ok (.aload_n 0, 1) := by decide +kernel
theorem dX11_cuts_77 : decode cX11_cuts 77 = .ok (.iload_n 1, 1) := by decide +kernel
theorem dX11_cuts_78 : decode cX11_cuts 78 = .ok (.aload_n 0, 1) := by decide +kernel
theorem dX11_cuts_79 : decode cX11_cuts 79 = .ok (.getfield 101, 3) := by decide +kernel
theorem dX11_cuts_82 : decode cX11_cuts 82 = .ok (.iload 7, 2) := by decide +kernel
theorem dX11_cuts_84 : decode cX11_cuts 84 = .ok (.iaload, 1) := by decide +kernel
theorem dX11_cuts_85 : decode cX11_cuts 85 = .ok (.iload 5, 2) := by decide +kernel
theorem dX11_cuts_87 : decode cX11_cuts 87 = .ok (.invokevirtual 339, 3) := by decide +kernel
theorem dX11_cuts_90 : decode cX11_cuts 90 = .ok (.istore_n 1, 1) := by decide +kernel
theorem dX11_cuts_91 : decode cX11_cuts 91 = .ok (.iinc 7 1, 3) := by decide +kernel
theorem dX11_cuts_94 : decode cX11_cuts 94 = .ok (.goto (-25), 3) := by decide +kernel
theorem dX11_cuts_97 : decode cX11_cuts 97 = .ok (.iload_n 1, 1) := by decide +kernel
theorem dX11_cuts_98 : decode cX11_cuts 98 = .ok (.ireturn, 1) := by decide +kernel
theorem dX11_slice_0 : decode cX11_slice 0 = .ok (.aload_n 0, 1) := by decide +kernel
theorem dX11_slice_1 : decode cX11_slice 1 = .ok (.iconst 0, 1) := by decide +kernel
theorem dX11_slice_2 : decode cX11_slice 2 = .ok (.putfield 116, 3) := by decide +kernel
theorem dX11_slice_5 : decode cX11_slice 5 = .ok (.aload_n 0, 1) := by decide +kernel
theorem dX11_slice_6 : decode cX11_slice 6 = .ok (.iload_n 1, 1) := by decide +kernel
theorem dX11_slice_7 : decode cX11_slice 7 = .ok (.invokevirtual 309, 3) := by decide +kernel
theorem dX11_slice_10 : decode cX11_slice 10 = .ok (.ifCond .ne 9, 3) := by decide +kernel
theorem dX11_slice_13 : decode cX11_slice 13 = .ok (.aload_n 0, 1) := by decide +kernel
theorem dX11_slice_14 : decode cX11_slice 14 = .ok (.iconst 0, 1) := by decide +kernel
theorem dX11_slice_15 : decode cX11_slice 15 = .ok (.invokevirtual 292, 3) := by decide +kernel
theorem dX11_slice_18 : decode cX11_slice 18 = .ok (.ireturn, 1) := by decide +kernel
theorem dX11_slice_19 : decode cX11_slice 19 = .ok (.iload_n 2, 1) := by decide +kernel
theorem dX11_slice_20 : decode cX11_slice 20 = .ok (.i2l, 1) := by decide +kernel
theorem dX11_slice_21 : decode cX11_slice 21 = .ok (.lconst 0, 1) := by decide +kernel
theorem dX11_slice_22 : decode cX11_slice 22 = .ok (.ldc2_w 335, 3) := by decide +kernel
theorem dX11_slice_25 : decode cX11_slice 25 = .ok (.invokestatic 174, 3) := by decide +kernel
theorem dX11_slice_28 : decode cX11_slice 28 = .ok (.ifCond .eq 16, 3) := by decide +kernel
theorem dX11_slice_31 : decode cX11_slice 31 = .ok (.iload_n 3, 1) := by decide +kernel
theorem dX11_slice_32 : decode cX11_slice 32 = .ok (.i2l, 1) := by decide +kernel
theorem dX11_slice_33 : decode cX11_slice 33 = .ok (.iload_n 2, 1) := by decide +kernel
theorem dX11_slice_34 : decode cX11_slice 34 = .ok (.i2l, 1) := by decide +kernel
theorem dX11_slice_35 : decode cX11_slice 35 = .ok (.ldc2_w 335, 3) := by decide +kernel
theorem dX11_slice_38 : decode cX11_slice 38 = .ok (.invokestatic 174, 3) := by decide +kernel
theorem dX11_slice_41 : decode cX11_slice 41 = .ok (.ifCond .ne 9, 3) := by decide +kernel
theorem dX11_slice_44 : decode cX11_slice 44 = .ok (.aload_n 0, 1) := by decide +kernel
theorem dX11_slice_45 : decode cX11_slice 45 = .ok (.iconst 1, 1) := by decide +kernel
theorem dX11_slice_46 : decode cX11_slice 46 = .ok (.invokevirtual 292, 3) := by decide +kernel
theorem dX11_slice_49 : decode cX11_slice 49 = .ok (.ireturn, 1) := by decide +kernel
theorem dX11_slice_50 : decode cX11_slice 50 = .ok (.aload_n 0, 1) := by decide +kernel
theorem dX11_slice_51 : decode cX11_slice 51 = .ok (.invokevirtual 289, 3) := by decide +kernel
theorem dX11_slice_54 : decode cX11_slice 54 = .ok (.ifCond .ne 9, 3) := by decide +kernel
theorem dX11_slice_57 : decode cX11_slice 57 = .ok (.aload_n 0, 1) := by decide +kernel
theorem dX11_slice_58 : decode cX11_slice 58 = .ok (.iconst 4, 1) := by decide +kernel
theorem dX11_slice_59 : decode cX11_slice 59 = .ok (.invokevirtual 292, 3) := by decide +kernel
theorem dX11_slice_62 : decode cX11_slice 62 = .ok (.ireturn, 1) := by decide +kernel
theorem dX11_slice_63 : decode cX11_slice 63 = .ok (.aload_n 0, 1) := by decide +kernel
theorem dX11_slice_64 : decode cX11_slice 64 = .ok (.aload_n 0, 1) := by decide +kernel
theorem dX11_slice_65 : decode cX11_slice 65 = .ok (.aload_n 0, 1) := by decide +kernel
theorem dX11_slice_66 : decode cX11_slice 66 = .ok (.getfield 67, 3) := by decide +kernel
theorem dX11_slice_69 : decode cX11_slice 69 = .ok (.iload_n 1, 1) := by decide +kernel
theorem dX11_slice_70 : decode cX11_slice 70 = .ok (.iaload, 1) := by decide +kernel
theorem dX11_slice_71 : decode cX11_slice 71 = .ok (.iload_n 2, 1) := by decide +kernel
theorem dX11_slice_72 : decode cX11_slice 72 = .ok (.iload_n 3, 1) := by decide +kernel
theorem dX11_slice_73 : decode cX11_slice 73 = .ok (.iconst 0, 1) := by decide +kernel
theorem dX11_slice_74 : decode cX11_slice 74 = .ok (.aload_n 0, 1) := by decide +kernel
theorem dX11_slice_75 : decode cX11_slice 75 = .ok (.invokevirtual 295, 3) := by decide +kernel
theorem dX11_slice_78 : decode cX11_slice 78 = .ok (.invokevirtual 377, 3) := by decide +kernel
theorem dX11_slice_81 : decode cX11_slice 81 = .ok (.iload_n 1, 1) := by decide +kernel
theorem dX11_slice_82 : decode cX11_slice 82 = .ok (.iconst (-1), 1) := by decide +kernel
theorem dX11_slice_83 : decode cX11_slice 83 = .ok (.invokevirtual 302, 3) := by decide +kernel
theorem dX11_slice_86 : decode cX11_slice 86 = .ok (.ireturn, 1) := by decide +kernel
theorem dX11_drop_0 : decode cX11_drop 0 = .ok (.aload_n 0, 1) := by decide +kernel
theorem dX11_drop_1 : decode cX11_drop 1 = .ok (.iconst 0, 1) := by decide +kernel
theorem dX11_drop_2 : decode cX11_drop 2 = .ok (.putfield 116, 3) := by decide +kernel
theorem dX11_drop_5 : decode cX11_drop 5 = .ok (.aload_n 0, 1) := by decide +kernel
theorem dX11_drop_6 : decode cX11_drop 6 = .ok (.iload_n 1, 1) := by decide +kernel
theorem dX11_drop_7 : decode cX11_drop 7 = .ok (.invokevirtual 309, 3) := by decide +kernel
theorem dX11_drop_10 : decode cX11_drop 10 = .ok (.ifCond .ne 9, 3) := by decide +kernel
theorem dX11_drop_13 : decode cX11_drop 13 = .ok (.aload_n 0, 1) := by decide +kernel
theorem dX11_drop_14 : decode cX11_drop 14 = .ok (.iconst 0, 1) := by decide +kernel
theorem dX11_drop_15 : decode cX11_drop 15 = .ok (.invokevirtual 292, 3) := by decide +kernel
theorem dX11_drop_18 : decode cX11_drop 18 = .ok (.ireturn, 1) := by decide +kernel
theorem dX11_drop_19 : decode cX11_drop 19 = .ok (.aload_n 0, 1) := by decide +kernel
theorem dX11_drop_20 : decode cX11_drop 20 = .ok (.getfield 88, 3) := by decide +kernel
theorem dX11_drop_23 : decode cX11_drop 23 = .ok (.iload_n 1, 1) := by decide +kernel
theorem dX11_drop_24 : decode cX11_drop 24 = .ok (.iconst 0, 1) := by decide +kernel
theorem dX11_drop_25 : decode cX11_drop 25 = .ok (.bastore, 1) := by decide +kernel
theorem dX11_drop_26 : decode cX11_drop 26 = .ok (.aload_n 0, 1) := by decide +kernel
theorem dX11_drop_27 : decode cX11_drop 27 = .ok (.dup, 1) := by decide +kernel
theorem dX11_drop_28 : decode cX11_drop 28 = .ok (.getfield 275, 3) := by decide +kernel
theorem dX11_drop_31 : decode cX11_drop 31 = .ok (.iconst 1, 1) := by decide +kernel
theorem dX11_drop_32 : decode cX11_drop 32 = .ok (.isub, 1) := by decide +kernel
theorem dX11_drop_33 : decode cX11_drop 33 = .ok (.putfield 275, 3) := by decide +kernel
theorem dX11_drop_36 : decode cX11_drop 36 = .ok (.aload_n 0, 1) := by decide +kernel
theorem dX11_drop_37 : decode cX11_drop 37 = .ok (.getfield 275, 3) := by decide +kernel
theorem dX11_drop_40 : decode cX11_drop 40 = .ok (.ireturn, 1) := by decide +kernel
theorem dX11_isBuilder_0 : decode cX11_isBuilder 0 = .ok (.iload_n 1, 1) := by decide +kernel
theorem dX11_isBuilder_1 : decode cX11_isBuilder 1 = .ok (.i2l, 1) := by decide +kernel
theorem dX11_isBuilder_2 : decode cX11_isBuilder 2 = .ok (.lconst 0, 1) := by decide +kernel
theorem dX11_isBuilder_3 : decode cX11_isBuilder 3 = .ok (.ldc2_w 305, 3) := by decide +kernel
theorem dX11_isBuilder_6 : decode cX11_isBuilder 6 = .ok (.invokestatic 174, 3) := by decide +kernel
theorem dX11_isBuilder_9 : decode cX11_isBuilder 9 = .ok (.ireturn, 1) := by decide +kernel
theorem dX11_isOpen_0 : decode cX11_isOpen 0 = .ok (.aload_n 0, 1) := by decide +kernel
theorem dX11_isOpen_1 : decode cX11_isOpen 1 = .ok (.iload_n 1, 1) := by decide +kernel
theorem dX11_isOpen_2 : decode cX11_isOpen 2 = .ok (.invokevirtual 381, 3) := by decide +kernel
theorem dX11_isOpen_5 : decode cX11_isOpen 5 = .ok (.ifCond .eq 18, 3) := by decide +kernel
theorem dX11_isOpen_8 : decode cX11_isOpen 8 = .ok (.aload_n 0, 1) := by decide +kernel
theorem dX11_isOpen_9 : decode cX11_isOpen 9 = .ok (.getfield 268, 3) := by decide +kernel
theorem dX11_isOpen_12 : decode cX11_isOpen 12 = .ok (.iload_n 1, 1) := by decide +kernel
theorem dX11_isOpen_13 : decode cX11_isOpen 13 = .ok (.invokestatic 271, 3) := by decide +kernel
theorem dX11_isOpen_16 : decode cX11_isOpen 16 = .ok (.ifCond .eq 7, 3) := by decide +kernel
theorem dX11_isOpen_19 : decode cX11_isOpen 19 = .ok (.iconst 1, 1) := by decide +kernel
theorem dX11_isOpen_20 : decode cX11_isOpen 20 = .ok (.goto 4, 3) := by decide +kernel
theorem dX11_isOpen_23 : decode cX11_isOpen 23 = .ok (.iconst 0, 1) := by decide +kernel
theorem dX11_isOpen_24 : decode cX11_isOpen 24 = .ok (.ireturn, 1) := by decide +kernel
theorem dX11_build_0 : decode cX11_build 0 = .ok (.aload_n 0, 1) := by decide +kernel
theorem dX11_build_1 : decode cX11_build 1 = .ok (.iconst 0, 1) := by decide +kernel
theorem dX11_build_2 : decode cX11_build 2 = .ok (.putfield 116, 3) := by decide +kernel
theorem dX11_build_5 : decode cX11_build 5 = .ok (.aload_n 0, 1) := by decide +kernel
theorem dX11_build_6 : decode cX11_build 6 = .ok (.iload_n 1, 1) := by decide +kernel
theorem dX11_build_7 : decode cX11_build 7 = .ok (.invokevirtual 381, 3) := by decide +kernel
theorem dX11_build_10 : decode cX11_build 10 = .ok (.ifCond .eq 11, 3) := by decide +kernel
theorem dX11_build_13 : decode cX11_build 13 = .ok (.aload_n 0, 1) := by decide +kernel
theorem dX11_build_14 : decode cX11_build 14 = .ok (.iload_n 2, 1) := by decide +kernel
theorem dX11_build_15 : decode cX11_build 15 = .ok (.invokevirtual 309, 3) := by decide +kernel
theorem dX11_build_18 : decode cX11_build 18 = .ok (.ifCond .ne 9, 3) := by decide +kernel
theorem dX11_build_21 : decode cX11_build 21 = .ok (.aload_n 0, 1) := by decide +kernel
theorem dX11_build_22 : decode cX11_build 22 = .ok (.iconst 0, 1) := by decide +kernel
theorem dX11_build_23 : decode cX11_build 23 = .ok (.invokevirtual 292, 3) := by decide +kernel
theorem dX11_build_26 : decode cX11_build 26 = .ok (.ireturn, 1) := by decide +kernel
theorem dX11_build_27 : decode cX11_build 27 = .ok (.aload_n 0, 1) := by decide +kernel
theorem dX11_build_28 : decode cX11_build 28 = .ok (.getfield 76, 3) := by decide +kernel
theorem dX11_build_31 : decode cX11_build 31 = .ok (.iload_n 1, 1) := by decide +kernel
theorem dX11_build_32 : decode cX11_build 32 = .ok (.aload_n 0, 1) := by decide +kernel
theorem dX11_build_33 : decode cX11_build 33 = .ok (.getfield 67, 3) := by decide +kernel
theorem dX11_build_36 : decode cX11_build 36 = .ok (.iload_n 2, 1) := by decide +kernel
theorem dX11_build_37 : decode cX11_build 37 = .ok (.iaload, 1) := by decide +kernel
theorem dX11_build_38 : decode cX11_build 38 = .ok (.iastore, 1) := by decide +kernel
theorem dX11_build_39 : decode cX11_build 39 = .ok (.aload_n 0, 1) := by decide +kernel
theorem dX11_build_40 : decode cX11_build 40 = .ok (.getfield 82, 3) := by decide +kernel
theorem dX11_build_43 : decode cX11_build 43 = .ok (.iload_n 1, 1) := by decide +kernel
theorem dX11_build_44 : decode cX11_build 44 = .ok (.iload_n 2, 1) := by decide +kernel
theorem dX11_build_45 : decode cX11_build 45 = .ok (.iastore, 1) := by decide +kernel
theorem dX11_build_46 : decode cX11_build 46 = .ok (.aload_n 0, 1) := by decide +kernel
theorem dX11_build_47 : decode cX11_build 47 = .ok (.dup, 1) := by decide +kernel
theorem dX11_build_48 : decode cX11_build 48 = .ok (.getfield 268, 3) := by decide +kernel
theorem dX11_build_51 : decode cX11_build 51 = .ok (.iconst 1, 1) := by decide +kernel
theorem dX11_build_52 : decode cX11_build 52 = .ok (.iload_n 1, 1) := by decide +kernel
theorem dX11_build_53 : decode cX11_build 53 = .ok (.ishl, 1) := by decide +kernel
