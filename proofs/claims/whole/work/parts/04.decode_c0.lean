theorem dX11_init_0 : decode cX11_init 0 = .ok (.aload_n 0, 1) := by decide +kernel
theorem dX11_init_1 : decode cX11_init 1 = .ok (.invokespecial 1, 3) := by decide +kernel
theorem dX11_init_4 : decode cX11_init 4 = .ok (.aload_n 0, 1) := by decide +kernel
theorem dX11_init_5 : decode cX11_init 5 = .ok (.sipush 240, 3) := by decide +kernel
theorem dX11_init_8 : decode cX11_init 8 = .ok (.newarray .byte, 2) := by decide +kernel
theorem dX11_init_10 : decode cX11_init 10 = .ok (.putfield 9, 3) := by decide +kernel
theorem dX11_init_13 : decode cX11_init 13 = .ok (.aload_n 0, 1) := by decide +kernel
theorem dX11_init_14 : decode cX11_init 14 = .ok (.sipush 480, 3) := by decide +kernel
theorem dX11_init_17 : decode cX11_init 17 = .ok (.newarray .int, 2) := by decide +kernel
theorem dX11_init_19 : decode cX11_init 19 = .ok (.putfield 13, 3) := by decide +kernel
theorem dX11_init_22 : decode cX11_init 22 = .ok (.aload_n 0, 1) := by decide +kernel
theorem dX11_init_23 : decode cX11_init 23 = .ok (.sipush 320, 3) := by decide +kernel
theorem dX11_init_26 : decode cX11_init 26 = .ok (.newarray .int, 2) := by decide +kernel
theorem dX11_init_28 : decode cX11_init 28 = .ok (.putfield 17, 3) := by decide +kernel
theorem dX11_init_31 : decode cX11_init 31 = .ok (.aload_n 0, 1) := by decide +kernel
theorem dX11_init_32 : decode cX11_init 32 = .ok (.iconst 5, 1) := by decide +kernel
theorem dX11_init_33 : decode cX11_init 33 = .ok (.newarray .int, 2) := by decide +kernel
theorem dX11_init_35 : decode cX11_init 35 = .ok (.putfield 20, 3) := by decide +kernel
theorem dX11_init_38 : decode cX11_init 38 = .ok (.aload_n 0, 1) := by decide +kernel
theorem dX11_init_39 : decode cX11_init 39 = .ok (.sipush 12000, 3) := by decide +kernel
theorem dX11_init_42 : decode cX11_init 42 = .ok (.newarray .int, 2) := by decide +kernel
theorem dX11_init_44 : decode cX11_init 44 = .ok (.putfield 23, 3) := by decide +kernel
theorem dX11_init_47 : decode cX11_init 47 = .ok (.aload_n 0, 1) := by decide +kernel
theorem dX11_init_48 : decode cX11_init 48 = .ok (.sipush 12000, 3) := by decide +kernel
theorem dX11_init_51 : decode cX11_init 51 = .ok (.newarray .int, 2) := by decide +kernel
theorem dX11_init_53 : decode cX11_init 53 = .ok (.putfield 26, 3) := by decide +kernel
theorem dX11_init_56 : decode cX11_init 56 = .ok (.aload_n 0, 1) := by decide +kernel
theorem dX11_init_57 : decode cX11_init 57 = .ok (.sipush 12000, 3) := by decide +kernel
theorem dX11_init_60 : decode cX11_init 60 = .ok (.newarray .int, 2) := by decide +kernel
theorem dX11_init_62 : decode cX11_init 62 = .ok (.putfield 29, 3) := by decide +kernel
theorem dX11_init_65 : decode cX11_init 65 = .ok (.aload_n 0, 1) := by decide +kernel
theorem dX11_init_66 : decode cX11_init 66 = .ok (.sipush 12000, 3) := by decide +kernel
theorem dX11_init_69 : decode cX11_init 69 = .ok (.newarray .int, 2) := by decide +kernel
theorem dX11_init_71 : decode cX11_init 71 = .ok (.putfield 32, 3) := by decide +kernel
theorem dX11_init_74 : decode cX11_init 74 = .ok (.aload_n 0, 1) := by decide +kernel
theorem dX11_init_75 : decode cX11_init 75 = .ok (.sipush 12000, 3) := by decide +kernel
theorem dX11_init_78 : decode cX11_init 78 = .ok (.newarray .int, 2) := by decide +kernel
theorem dX11_init_80 : decode cX11_init 80 = .ok (.putfield 35, 3) := by decide +kernel
theorem dX11_init_83 : decode cX11_init 83 = .ok (.aload_n 0, 1) := by decide +kernel
theorem dX11_init_84 : decode cX11_init 84 = .ok (.ldc 38, 2) := by decide +kernel
theorem dX11_init_86 : decode cX11_init 86 = .ok (.newarray .int, 2) := by decide +kernel
theorem dX11_init_88 : decode cX11_init 88 = .ok (.putfield 39, 3) := by decide +kernel
theorem dX11_init_91 : decode cX11_init 91 = .ok (.aload_n 0, 1) := by decide +kernel
theorem dX11_init_92 : decode cX11_init 92 = .ok (.ldc 38, 2) := by decide +kernel
theorem dX11_init_94 : decode cX11_init 94 = .ok (.newarray .int, 2) := by decide +kernel
theorem dX11_init_96 : decode cX11_init 96 = .ok (.putfield 42, 3) := by decide +kernel
theorem dX11_init_99 : decode cX11_init 99 = .ok (.aload_n 0, 1) := by decide +kernel
theorem dX11_init_100 : decode cX11_init 100 = .ok (.iconst 4, 1) := by decide +kernel
theorem dX11_init_101 : decode cX11_init 101 = .ok (.putfield 45, 3) := by decide +kernel
theorem dX11_init_104 : decode cX11_init 104 = .ok (.aload_n 0, 1) := by decide +kernel
theorem dX11_init_105 : decode cX11_init 105 = .ok (.bipush 10, 2) := by decide +kernel
theorem dX11_init_107 : decode cX11_init 107 = .ok (.newarray .int, 2) := by decide +kernel
theorem dX11_init_109 : decode cX11_init 109 = .ok (.putfield 49, 3) := by decide +kernel
theorem dX11_init_112 : decode cX11_init 112 = .ok (.aload_n 0, 1) := by decide +kernel
theorem dX11_init_113 : decode cX11_init 113 = .ok (.bipush 10, 2) := by decide +kernel
theorem dX11_init_115 : decode cX11_init 115 = .ok (.newarray .int, 2) := by decide +kernel
theorem dX11_init_117 : decode cX11_init 117 = .ok (.putfield 52, 3) := by decide +kernel
theorem dX11_init_120 : decode cX11_init 120 = .ok (.aload_n 0, 1) := by decide +kernel
theorem dX11_init_121 : decode cX11_init 121 = .ok (.sipush 140, 3) := by decide +kernel
theorem dX11_init_124 : decode cX11_init 124 = .ok (.newarray .int, 2) := by decide +kernel
theorem dX11_init_126 : decode cX11_init 126 = .ok (.putfield 55, 3) := by decide +kernel
theorem dX11_init_129 : decode cX11_init 129 = .ok (.aload_n 0, 1) := by decide +kernel
theorem dX11_init_130 : decode cX11_init 130 = .ok (.sipush 140, 3) := by decide +kernel
theorem dX11_init_133 : decode cX11_init 133 = .ok (.newarray .int, 2) := by decide +kernel
theorem dX11_init_135 : decode cX11_init 135 = .ok (.putfield 58, 3) := by decide +kernel
theorem dX11_init_138 : decode cX11_init 138 = .ok (.aload_n 0, 1) := by decide +kernel
theorem dX11_init_139 : decode cX11_init 139 = .ok (.sipush 240, 3) := by decide +kernel
theorem dX11_init_142 : decode cX11_init 142 = .ok (.newarray .int, 2) := by decide +kernel
theorem dX11_init_144 : decode cX11_init 144 = .ok (.putfield 61, 3) := by decide +kernel
theorem dX11_init_147 : decode cX11_init 147 = .ok (.aload_n 0, 1) := by decide +kernel
theorem dX11_init_148 : decode cX11_init 148 = .ok (.sipush 240, 3) := by decide +kernel
theorem dX11_init_151 : decode cX11_init 151 = .ok (.newarray .int, 2) := by decide +kernel
theorem dX11_init_153 : decode cX11_init 153 = .ok (.putfield 64, 3) := by decide +kernel
theorem dX11_init_156 : decode cX11_init 156 = .ok (.aload_n 0, 1) := by decide +kernel
theorem dX11_init_157 : decode cX11_init 157 = .ok (.sipush 999, 3) := by decide +kernel
theorem dX11_init_160 : decode cX11_init 160 = .ok (.newarray .int, 2) := by decide +kernel
theorem dX11_init_162 : decode cX11_init 162 = .ok (.putfield 67, 3) := by decide +kernel
theorem dX11_init_165 : decode cX11_init 165 = .ok (.aload_n 0, 1) := by decide +kernel
theorem dX11_init_166 : decode cX11_init 166 = .ok (.sipush 999, 3) := by decide +kernel
theorem dX11_init_169 : decode cX11_init 169 = .ok (.newarray .int, 2) := by decide +kernel
theorem dX11_init_171 : decode cX11_init 171 = .ok (.putfield 70, 3) := by decide +kernel
theorem dX11_init_174 : decode cX11_init 174 = .ok (.aload_n 0, 1) := by decide +kernel
theorem dX11_init_175 : decode cX11_init 175 = .ok (.sipush 999, 3) := by decide +kernel
theorem dX11_init_178 : decode cX11_init 178 = .ok (.newarray .int, 2) := by decide +kernel
theorem dX11_init_180 : decode cX11_init 180 = .ok (.putfield 73, 3) := by decide +kernel
theorem dX11_init_183 : decode cX11_init 183 = .ok (.aload_n 0, 1) := by decide +kernel
theorem dX11_init_184 : decode cX11_init 184 = .ok (.iconst 4, 1) := by decide +kernel
theorem dX11_init_185 : decode cX11_init 185 = .ok (.newarray .int, 2) := by decide +kernel
theorem dX11_init_187 : decode cX11_init 187 = .ok (.putfield 76, 3) := by decide +kernel
theorem dX11_init_190 : decode cX11_init 190 = .ok (.aload_n 0, 1) := by decide +kernel
theorem dX11_init_191 : decode cX11_init 191 = .ok (.iconst 4, 1) := by decide +kernel
theorem dX11_init_192 : decode cX11_init 192 = .ok (.newarray .int, 2) := by decide +kernel
theorem dX11_init_194 : decode cX11_init 194 = .ok (.putfield 79, 3) := by decide +kernel
theorem dX11_init_197 : decode cX11_init 197 = .ok (.aload_n 0, 1) := by decide +kernel
theorem dX11_init_198 : decode cX11_init 198 = .ok (.iconst 4, 1) := by decide +kernel
theorem dX11_init_199 : decode cX11_init 199 = .ok (.newarray .int, 2) := by decide +kernel
theorem dX11_init_201 : decode cX11_init 201 = .ok (.putfield 82, 3) := by decide +kernel
theorem dX11_init_204 : decode cX11_init 204 = .ok (.aload_n 0, 1) := by decide +kernel
theorem dX11_init_205 : decode cX11_init 205 = .ok (.iconst 5, 1) := by decide +kernel
theorem dX11_init_206 : decode cX11_init 206 = .ok (.newarray .int, 2) := by decide +kernel
theorem dX11_init_208 : decode cX11_init 208 = .ok (.putfield 85, 3) := by decide +kernel
theorem dX11_init_211 : decode cX11_init 211 = .ok (.aload_n 0, 1) := by decide +kernel
theorem dX11_init_212 : decode cX11_init 212 = .ok (.sipush 999, 3) := by decide +kernel
theorem dX11_init_215 : decode cX11_init 215 = .ok (.newarray .boolean, 2) := by decide +kernel
theorem dX11_init_217 : decode cX11_init 217 = .ok (.putfield 88, 3) := by decide +kernel
theorem dX11_init_220 : decode cX11_init 220 = .ok (.aload_n 0, 1) := by decide +kernel
theorem dX11_init_221 : decode cX11_init 221 = .ok (.sipush 999, 3) := by decide +kernel
theorem dX11_init_224 : decode cX11_init 224 = .ok (.newarray .boolean, 2) := by decide +kernel
theorem dX11_init_226 : decode cX11_init 226 = .ok (.putfield 92, 3) := by decide +kernel
theorem dX11_init_229 : decode cX11_init 229 = .ok (.aload_n 0, 1) := by decide +kernel
theorem dX11_init_230 : decode cX11_init 230 = .ok (.sipush 1000, 3) := by decide +kernel
theorem dX11_init_233 : decode cX11_init 233 = .ok (.newarray .int, 2) := by decide +kernel
theorem dX11_init_235 : decode cX11_init 235 = .ok (.putfield 95, 3) := by decide +kernel
theorem dX11_init_238 : decode cX11_init 238 = .ok (.aload_n 0, 1) := by decide +kernel
theorem dX11_init_239 : decode cX11_init 239 = .ok (.sipush 3000, 3) := by decide +kernel
theorem dX11_init_242 : decode cX11_init 242 = .ok (.newarray .int, 2) := by decide +kernel
theorem dX11_init_244 : decode cX11_init 244 = .ok (.putfield 98, 3) := by decide +kernel
theorem dX11_init_247 : decode cX11_init 247 = .ok (.aload_n 0, 1) := by decide +kernel
theorem dX11_init_248 : decode cX11_init 248 = .ok (.bipush 60, 2) := by decide +kernel
theorem dX11_init_250 : decode cX11_init 250 = .ok (.newarray .int, 2) := by decide +kernel
theorem dX11_init_252 : decode cX11_init 252 = .ok (.putfield 101, 3) := by decide +kernel
theorem dX11_init_255 : decode cX11_init 255 = .ok (.aload_n 0, 1) := by decide +kernel
theorem dX11_init_256 : decode cX11_init 256 = .ok (.bipush 60, 2) := by decide +kernel
theorem dX11_init_258 : decode cX11_init 258 = .ok (.newarray .int, 2) := by decide +kernel
theorem dX11_init_260 : decode cX11_init 260 = .ok (.putfield 104, 3) := by decide +kernel
theorem dX11_init_263 : decode cX11_init 263 = .ok (.aload_n 0, 1) := by decide +kernel
theorem dX11_init_264 : decode cX11_init 264 = .ok (.sipush 1400, 3) := by decide +kernel
theorem dX11_init_267 : decode cX11_init 267 = .ok (.newarray .byte, 2) := by decide +kernel
theorem dX11_init_269 : decode cX11_init 269 = .ok (.putfield 107, 3) := by decide +kernel
theorem dX11_init_272 : decode cX11_init 272 = .ok (.aload_n 0, 1) := by decide +kernel
theorem dX11_init_273 : decode cX11_init 273 = .ok (.sipush 1400, 3) := by decide +kernel
theorem dX11_init_276 : decode cX11_init 276 = .ok (.newarray .byte, 2) := by decide +kernel
theorem dX11_init_278 : decode cX11_init 278 = .ok (.putfield 110, 3) := by decide +kernel
theorem dX11_init_281 : decode cX11_init 281 = .ok (.aload_n 0, 1) := by decide +kernel
theorem dX11_init_282 : decode cX11_init 282 = .ok (.sipush 999, 3) := by decide +kernel
theorem dX11_init_285 : decode cX11_init 285 = .ok (.newarray .int, 2) := by decide +kernel
theorem dX11_init_287 : decode cX11_init 287 = .ok (.putfield 113, 3) := by decide +kernel
theorem dX11_init_290 : decode cX11_init 290 = .ok (.return_, 1) := by decide +kernel
theorem dX11_thrown_0 : decode cX11_thrown 0 = .ok (.aload_n 0, 1) := by decide +kernel
theorem dX11_thrown_1 : decode cX11_thrown 1 = .ok (.getfield 116, 3) := by decide +kernel
theorem dX11_thrown_4 : decode cX11_thrown 4 = .ok (.ireturn, 1) := by decide +kernel
theorem dX11_isIn_0 : decode cX11_isIn 0 = .ok (.lload_n 0, 1) := by decide +kernel
theorem dX11_isIn_1 : decode cX11_isIn 1 = .ok (.lload_n 2, 1) := by decide +kernel
theorem dX11_isIn_2 : decode cX11_isIn 2 = .ok (.lcmp, 1) := by decide +kernel
theorem dX11_isIn_3 : decode cX11_isIn 3 = .ok (.ifCond .lt 14, 3) := by decide +kernel
theorem dX11_isIn_6 : decode cX11_isIn 6 = .ok (.lload_n 0, 1) := by decide +kernel
theorem dX11_isIn_7 : decode cX11_isIn 7 = .ok (.lload 4, 2) := by decide +kernel
theorem dX11_isIn_9 : decode cX11_isIn 9 = .ok (.lcmp, 1) := by decide +kernel
theorem dX11_isIn_10 : decode cX11_isIn 10 = .ok (.ifCond .gt 7, 3) := by decide +kernel
theorem dX11_isIn_13 : decode cX11_isIn 13 = .ok (.iconst 1, 1) := by decide +kernel
theorem dX11_isIn_14 : decode cX11_isIn 14 = .ok (.goto 4, 3) := by decide +kernel
theorem dX11_isIn_17 : decode cX11_isIn 17 = .ok (.iconst 0, 1) := by decide +kernel
theorem dX11_isIn_18 : decode cX11_isIn 18 = .ok (.ireturn, 1) := by decide +kernel
theorem dX11_has_0 : decode cX11_has 0 = .ok (.iload_n 0, 1) := by decide +kernel
theorem dX11_has_1 : decode cX11_has 1 = .ok (.iload_n 1, 1) := by decide +kernel
theorem dX11_has_2 : decode cX11_has 2 = .ok (.ishr, 1) := by decide +kernel
theorem dX11_has_3 : decode cX11_has 3 = .ok (.iconst 1, 1) := by decide +kernel
theorem dX11_has_4 : decode cX11_has 4 = .ok (.iand, 1) := by decide +kernel
theorem dX11_has_5 : decode cX11_has 5 = .ok (.iconst 1, 1) := by decide +kernel
theorem dX11_has_6 : decode cX11_has 6 = .ok (.if_icmp .ne 7, 3) := by decide +kernel
theorem dX11_has_9 : decode cX11_has 9 = .ok (.iconst 1, 1) := by decide +kernel
theorem dX11_has_10 : decode cX11_has 10 = .ok (.goto 4, 3) := by decide +kernel
theorem dX11_has_13 : decode cX11_has 13 = .ok (.iconst 0, 1) := by decide +kernel
theorem dX11_has_14 : decode cX11_has 14 = .ok (.ireturn, 1) := by decide +kernel
theorem dX11_bytesOf_0 : decode cX11_bytesOf 0 = .ok (.iconst 0, 1) := by decide +kernel
theorem dX11_bytesOf_1 : decode cX11_bytesOf 1 = .ok (.istore_n 1, 1) := by decide +kernel
theorem dX11_bytesOf_2 : decode cX11_bytesOf 2 = .ok (.iconst 0, 1) := by decide +kernel
theorem dX11_bytesOf_3 : decode cX11_bytesOf 3 = .ok (.istore_n 2, 1) := by decide +kernel
theorem dX11_bytesOf_4 : decode cX11_bytesOf 4 = .ok (.iload_n 2, 1) := by decide +kernel
theorem dX11_bytesOf_5 : decode cX11_bytesOf 5 = .ok (.iconst 4, 1) := by decide +kernel
theorem dX11_bytesOf_6 : decode cX11_bytesOf 6 = .ok (.if_icmp .ge 30, 3) := by decide +kernel
theorem dX11_bytesOf_9 : decode cX11_bytesOf 9 = .ok (.iload_n 1, 1) := by decide +kernel
theorem dX11_bytesOf_10 : decode cX11_bytesOf 10 = .ok (.iload_n 0, 1) := by decide +kernel
theorem dX11_bytesOf_11 : decode cX11_bytesOf 11 = .ok (.bipush 8, 2) := by decide +kernel
theorem dX11_bytesOf_13 : decode cX11_bytesOf 13 = .ok (.iload_n 2, 1) := by decide +kernel
theorem dX11_bytesOf_14 : decode cX11_bytesOf 14 = .ok (.imul, 1) := by decide +kernel
theorem dX11_bytesOf_15 : decode cX11_bytesOf 15 = .ok (.ishr, 1) := by decide +kernel
theorem dX11_bytesOf_16 : decode cX11_bytesOf 16 = .ok (.sipush 255, 3) := by decide +kernel
theorem dX11_bytesOf_19 : decode cX11_bytesOf 19 = .ok (.iand, 1) := by decide +kernel
theorem dX11_bytesOf_20 : decode cX11_bytesOf 20 = .ok (.ifCond .ne 7, 3) := by decide +kernel
theorem dX11_bytesOf_23 : decode cX11_bytesOf 23 = .ok (.iconst 0, 1) := by decide +kernel
theorem dX11_bytesOf_24 : decode cX11_bytesOf 24 = .ok (.goto 4, 3) := by decide +kernel
theorem dX11_bytesOf_27 : decode cX11_bytesOf 27 = .ok (.iconst 1, 1) := by decide +kernel
theorem dX11_bytesOf_28 : decode cX11_bytesOf 28 = .ok (.iadd, 1) := by decide +kernel
theorem dX11_bytesOf_29 : decode cX11_bytesOf 29 = .ok (.istore_n 1, 1) := by decide +kernel
theorem dX11_bytesOf_30 : decode cX11_bytesOf 30 = .ok (.iinc 2 1, 3) := by decide +kernel
theorem dX11_bytesOf_33 : decode cX11_bytesOf 33 = .ok (.goto (-29), 3) := by decide +kernel
theorem dX11_bytesOf_36 : decode cX11_bytesOf 36 = .ok (.iload_n 1, 1) := by decide +kernel
theorem dX11_bytesOf_37 : decode cX11_bytesOf 37 = .ok (.ireturn, 1) := by decide +kernel
theorem dX11_brings_0 : decode cX11_brings 0 = .ok (.bipush 24, 2) := by decide +kernel
theorem dX11_brings_2 : decode cX11_brings 2 = .ok (.istore_n 2, 1) := by decide +kernel
theorem dX11_brings_3 : decode cX11_brings 3 = .ok (.iload_n 2, 1) := by decide +kernel
theorem dX11_brings_4 : decode cX11_brings 4 = .ok (.ifCond .lt 45, 3) := by decide +kernel
theorem dX11_brings_7 : decode cX11_brings 7 = .ok (.iload_n 1, 1) := by decide +kernel
theorem dX11_brings_8 : decode cX11_brings 8 = .ok (.iload_n 2, 1) := by decide +kernel
theorem dX11_brings_9 : decode cX11_brings 9 = .ok (.ishr, 1) := by decide +kernel
theorem dX11_brings_10 : decode cX11_brings 10 = .ok (.sipush 255, 3) := by decide +kernel
theorem dX11_brings_13 : decode cX11_brings 13 = .ok (.iand, 1) := by decide +kernel
theorem dX11_brings_14 : decode cX11_brings 14 = .ok (.istore_n 3, 1) := by decide +kernel
theorem dX11_brings_15 : decode cX11_brings 15 = .ok (.iload_n 3, 1) := by decide +kernel
theorem dX11_brings_16 : decode cX11_brings 16 = .ok (.ifCond .ne 6, 3) := by decide +kernel
theorem dX11_brings_19 : decode cX11_brings 19 = .ok (.goto 24, 3) := by decide +kernel
theorem dX11_brings_22 : decode cX11_brings 22 = .ok (.aload_n 0, 1) := by decide +kernel
theorem dX11_brings_23 : decode cX11_brings 23 = .ok (.getfield 9, 3) := by decide +kernel
theorem dX11_brings_26 : decode cX11_brings 26 = .ok (.aload_n 0, 1) := by decide +kernel
theorem dX11_brings_27 : decode cX11_brings 27 = .ok (.getfield 119, 3) := by decide +kernel
theorem dX11_brings_30 : decode cX11_brings 30 = .ok (.iload_n 3, 1) := by decide +kernel
theorem dX11_brings_31 : decode cX11_brings 31 = .ok (.i2b, 1) := by decide +kernel
theorem dX11_brings_32 : decode cX11_brings 32 = .ok (.bastore, 1) := by decide +kernel
theorem dX11_brings_33 : decode cX11_brings 33 = .ok (.aload_n 0, 1) := by decide +kernel
theorem dX11_brings_34 : decode cX11_brings 34 = .ok (.dup, 1) := by decide +kernel
theorem dX11_brings_35 : decode cX11_brings 35 = .ok (.getfield 119, 3) := by decide +kernel
theorem dX11_brings_38 : decode cX11_brings 38 = .ok (.iconst 1, 1) := by decide +kernel
theorem dX11_brings_39 : decode cX11_brings 39 = .ok (.iadd, 1) := by decide +kernel
theorem dX11_brings_40 : decode cX11_brings 40 = .ok (.putfield 119, 3) := by decide +kernel
theorem dX11_brings_43 : decode cX11_brings 43 = .ok (.iinc 2 (-8), 3) := by decide +kernel
theorem dX11_brings_46 : decode cX11_brings 46 = .ok (.goto (-43), 3) := by decide +kernel
theorem dX11_brings_49 : decode cX11_brings 49 = .ok (.return_, 1) := by decide +kernel
theorem dX11_feed_0 : decode cX11_feed 0 = .ok (.aload_n 0, 1) := by decide +kernel
theorem dX11_feed_1 : decode cX11_feed 1 = .ok (.iconst 0, 1) := by decide +kernel
theorem dX11_feed_2 : decode cX11_feed 2 = .ok (.putfield 116, 3) := by decide +kernel
theorem dX11_feed_5 : decode cX11_feed 5 = .ok (.aload_n 0, 1) := by decide +kernel
theorem dX11_feed_6 : decode cX11_feed 6 = .ok (.getfield 119, 3) := by decide +kernel
theorem dX11_feed_9 : decode cX11_feed 9 = .ok (.iload_n 1, 1) := by decide +kernel
theorem dX11_feed_10 : decode cX11_feed 10 = .ok (.invokestatic 122, 3) := by decide +kernel
theorem dX11_feed_13 : decode cX11_feed 13 = .ok (.iadd, 1) := by decide +kernel
theorem dX11_feed_14 : decode cX11_feed 14 = .ok (.iload_n 2, 1) := by decide +kernel
theorem dX11_feed_15 : decode cX11_feed 15 = .ok (.invokestatic 122, 3) := by decide +kernel
theorem dX11_feed_18 : decode cX11_feed 18 = .ok (.iadd, 1) := by decide +kernel
theorem dX11_feed_19 : decode cX11_feed 19 = .ok (.iload_n 3, 1) := by decide +kernel
theorem dX11_feed_20 : decode cX11_feed 20 = .ok (.invokestatic 122, 3) := by decide +kernel
theorem dX11_feed_23 : decode cX11_feed 23 = .ok (.iadd, 1) := by decide +kernel
theorem dX11_feed_24 : decode cX11_feed 24 = .ok (.iload 4, 2) := by decide +kernel
theorem dX11_feed_26 : decode cX11_feed 26 = .ok (.invokestatic 122, 3) := by decide +kernel
theorem dX11_feed_29 : decode cX11_feed 29 = .ok (.iadd, 1) := by decide +kernel
theorem dX11_feed_30 : decode cX11_feed 30 = .ok (.iload 5, 2) := by decide +kernel
theorem dX11_feed_32 : decode cX11_feed 32 = .ok (.invokestatic 122, 3) := by decide +kernel
theorem dX11_feed_35 : decode cX11_feed 35 = .ok (.iadd, 1) := by decide +kernel
theorem dX11_feed_36 : decode cX11_feed 36 = .ok (.sipush 240, 3) := by decide +kernel
theorem dX11_feed_39 : decode cX11_feed 39 = .ok (.if_icmp .le 5, 3) := by decide +kernel
theorem dX11_feed_42 : decode cX11_feed 42 = .ok (.iconst (-1), 1) := by decide +kernel
theorem dX11_feed_43 : decode cX11_feed 43 = .ok (.ireturn, 1) := by decide +kernel
theorem dX11_feed_44 : decode cX11_feed 44 = .ok (.aload_n 0, 1) := by decide +kernel
theorem dX11_feed_45 : decode cX11_feed 45 = .ok (.iload_n 1, 1) := by decide +kernel
theorem dX11_feed_46 : decode cX11_feed 46 = .ok (.invokevirtual 126, 3) := by decide +kernel
theorem dX11_feed_49 : decode cX11_feed 49 = .ok (.aload_n 0, 1) := by decide +kernel
theorem dX11_feed_50 : decode cX11_feed 50 = .ok (.iload_n 2, 1) := by decide +kernel
theorem dX11_feed_51 : decode cX11_feed 51 = .ok (.invokevirtual 126, 3) := by decide +kernel
theorem dX11_feed_54 : decode cX11_feed 54 = .ok (.aload_n 0, 1) := by decide +kernel
theorem dX11_feed_55 : decode cX11_feed 55 = .ok (.iload_n 3, 1) := by decide +kernel
theorem dX11_feed_56 : decode cX11_feed 56 = .ok (.invokevirtual 126, 3) := by decide +kernel
theorem dX11_feed_59 : decode cX11_feed 59 = .ok (.aload_n 0, 1) := by decide +kernel
theorem dX11_feed_60 : decode cX11_feed 60 = .ok (.iload 4, 2) := by decide +kernel
theorem dX11_feed_62 : decode cX11_feed 62 = .ok (.invokevirtual 126, 3) := by decide +kernel
theorem dX11_feed_65 : decode cX11_feed 65 = .ok (.aload_n 0, 1) := by decide +kernel
theorem dX11_feed_66 : decode cX11_feed 66 = .ok (.iload 5, 2) := by decide +kernel
theorem dX11_feed_68 : decode cX11_feed 68 = .ok (.invokevirtual 126, 3) := by decide +kernel
theorem dX11_feed_71 : decode cX11_feed 71 = .ok (.aload_n 0, 1) := by decide +kernel
theorem dX11_feed_72 : decode cX11_feed 72 = .ok (.getfield 119, 3) := by decide +kernel
theorem dX11_feed_75 : decode cX11_feed 75 = .ok (.ireturn, 1) := by decide +kernel
theorem dX11_end_0 : decode cX11_end 0 = .ok (.aload_n 0, 1) := by decide +kernel
theorem dX11_end_1 : decode cX11_end 1 = .ok (.iconst 0, 1) := by decide +kernel
theorem dX11_end_2 : decode cX11_end 2 = .ok (.putfield 116, 3) := by decide +kernel
theorem dX11_end_5 : decode cX11_end 5 = .ok (.iload_n 1, 1) := by decide +kernel
theorem dX11_end_6 : decode cX11_end 6 = .ok (.ifCond .lt 11, 3) := by decide +kernel
theorem dX11_end_9 : decode cX11_end 9 = .ok (.iload_n 1, 1) := by decide +kernel
theorem dX11_end_10 : decode cX11_end 10 = .ok (.aload_n 0, 1) := by decide +kernel
theorem dX11_end_11 : decode cX11_end 11 = .ok (.getfield 119, 3) := by decide +kernel
theorem dX11_end_14 : decode cX11_end 14 = .ok (.if_icmp .le 5, 3) := by decide +kernel
theorem dX11_end_17 : decode cX11_end 17 = .ok (.iconst 0, 1) := by decide +kernel
theorem dX11_end_18 : decode cX11_end 18 = .ok (.ireturn, 1) := by decide +kernel
theorem dX11_end_19 : decode cX11_end 19 = .ok (.aload_n 0, 1) := by decide +kernel
theorem dX11_end_20 : decode cX11_end 20 = .ok (.iload_n 1, 1) := by decide +kernel
theorem dX11_end_21 : decode cX11_end 21 = .ok (.putfield 119, 3) := by decide +kernel
theorem dX11_end_24 : decode cX11_end 24 = .ok (.iconst 1, 1) := by decide +kernel
theorem dX11_end_25 : decode cX11_end 25 = .ok (.ireturn, 1) := by decide +kernel
theorem dX11_here_0 : decode cX11_here 0 = .ok (.aload_n 0, 1) := by decide +kernel
theorem dX11_here_1 : decode cX11_here 1 = .ok (.getfield 130, 3) := by decide +kernel
theorem dX11_here_4 : decode cX11_here 4 = .ok (.aload_n 0, 1) := by decide +kernel
theorem dX11_here_5 : decode cX11_here 5 = .ok (.getfield 119, 3) := by decide +kernel
theorem dX11_here_8 : decode cX11_here 8 = .ok (.if_icmp .ge 19, 3) := by decide +kernel
theorem dX11_here_11 : decode cX11_here 11 = .ok (.aload_n 0, 1) := by decide +kernel
theorem dX11_here_12 : decode cX11_here 12 = .ok (.getfield 9, 3) := by decide +kernel
theorem dX11_here_15 : decode cX11_here 15 = .ok (.aload_n 0, 1) := by decide +kernel
theorem dX11_here_16 : decode cX11_here 16 = .ok (.getfield 130, 3) := by decide +kernel
theorem dX11_here_19 : decode cX11_here 19 = .ok (.baload, 1) := by decide +kernel
theorem dX11_here_20 : decode cX11_here 20 = .ok (.sipush 255, 3) := by decide +kernel
theorem dX11_here_23 : decode cX11_here 23 = .ok (.iand, 1) := by decide +kernel
theorem dX11_here_24 : decode cX11_here 24 = .ok (.goto 4, 3) := by decide +kernel
theorem dX11_here_27 : decode cX11_here 27 = .ok (.iconst (-1), 1) := by decide +kernel
theorem dX11_here_28 : decode cX11_here 28 = .ok (.ireturn, 1) := by decide +kernel
theorem dX11_look_0 : decode cX11_look 0 = .ok (.aload_n 0, 1) := by decide +kernel
theorem dX11_look_1 : decode cX11_look 1 = .ok (.invokevirtual 133, 3) := by decide +kernel
theorem dX11_look_4 : decode cX11_look 4 = .ok (.bipush 32, 2) := by decide +kernel
theorem dX11_look_6 : decode cX11_look 6 = .ok (.if_icmp .ne 16, 3) := by decide +kernel
theorem dX11_look_9 : decode cX11_look 9 = .ok (.aload_n 0, 1) := by decide +kernel
theorem dX11_look_10 : decode cX11_look 10 = .ok (.dup, 1) := by decide +kernel
theorem dX11_look_11 : decode cX11_look 11 = .ok (.getfield 130, 3) := by decide +kernel
theorem dX11_look_14 : decode cX11_look 14 = .ok (.iconst 1, 1) := by decide +kernel
theorem dX11_look_15 : decode cX11_look 15 = .ok (.iadd, 1) := by decide +kernel
theorem dX11_look_16 : decode cX11_look 16 = .ok (.putfield 130, 3) := by decide +kernel
theorem dX11_look_19 : decode cX11_look 19 = .ok (.goto (-19), 3) := by decide +kernel
theorem dX11_look_22 : decode cX11_look 22 = .ok (.aload_n 0, 1) := by decide +kernel
theorem dX11_look_23 : decode cX11_look 23 = .ok (.invokevirtual 133, 3) := by decide +kernel
theorem dX11_look_26 : decode cX11_look 26 = .ok (.ireturn, 1) := by decide +kernel
theorem dX11_fails_0 : decode cX11_fails 0 = .ok (.aload_n 0, 1) := by decide +kernel
theorem dX11_fails_1 : decode cX11_fails 1 = .ok (.getfield 137, 3) := by decide +kernel
theorem dX11_fails_4 : decode cX11_fails 4 = .ok (.iconst (-1), 1) := by decide +kernel
theorem dX11_fails_5 : decode cX11_fails 5 = .ok (.if_icmp .ne 11, 3) := by decide +kernel
theorem dX11_fails_8 : decode cX11_fails 8 = .ok (.aload_n 0, 1) := by decide +kernel
theorem dX11_fails_9 : decode cX11_fails 9 = .ok (.aload_n 0, 1) := by decide +kernel
theorem dX11_fails_10 : decode cX11_fails 10 = .ok (.getfield 130, 3) := by decide +kernel
theorem dX11_fails_13 : decode cX11_fails 13 = .ok (.putfield 137, 3) := by decide +kernel
theorem dX11_fails_16 : decode cX11_fails 16 = .ok (.return_, 1) := by decide +kernel
theorem dX11_isDigit_0 : decode cX11_isDigit 0 = .ok (.aload_n 0, 1) := by decide +kernel
theorem dX11_isDigit_1 : decode cX11_isDigit 1 = .ok (.invokevirtual 133, 3) := by decide +kernel
theorem dX11_isDigit_4 : decode cX11_isDigit 4 = .ok (.bipush 48, 2) := by decide +kernel
theorem dX11_isDigit_6 : decode cX11_isDigit 6 = .ok (.if_icmp .lt 16, 3) := by decide +kernel
theorem dX11_isDigit_9 : decode cX11_isDigit 9 = .ok (.aload_n 0, 1) := by decide +kernel
theorem dX11_isDigit_10 : decode cX11_isDigit 10 = .ok (.invokevirtual 133, 3) := by decide +kernel
theorem dX11_isDigit_13 : decode cX11_isDigit 13 = .ok (.bipush 57, 2) := by decide +kernel
theorem dX11_isDigit_15 : decode cX11_isDigit 15 = .ok (.if_icmp .gt 7, 3) := by decide +kernel
theorem dX11_isDigit_18 : decode cX11_isDigit 18 = .ok (.iconst 1, 1) := by decide +kernel
theorem dX11_isDigit_19 : decode cX11_isDigit 19 = .ok (.goto 4, 3) := by decide +kernel
theorem dX11_isDigit_22 : decode cX11_isDigit 22 = .ok (.iconst 0, 1) := by decide +kernel
theorem dX11_isDigit_23 : decode cX11_isDigit 23 = .ok (.ireturn, 1) := by decide +kernel
theorem dX11_number_0 : decode cX11_number 0 = .ok (.aload_n 0, 1) := by decide +kernel
theorem dX11_number_1 : decode cX11_number 1 = .ok (.invokevirtual 140, 3) := by decide +kernel
theorem dX11_number_4 : decode cX11_number 4 = .ok (.pop, 1) := by decide +kernel
theorem dX11_number_5 : decode cX11_number 5 = .ok (.aload_n 0, 1) := by decide +kernel
theorem dX11_number_6 : decode cX11_number 6 = .ok (.invokevirtual 143, 3) := by decide +kernel
theorem dX11_number_9 : decode cX11_number 9 = .ok (.ifCond .ne 9, 3) := by decide +kernel
theorem dX11_number_12 : decode cX11_number 12 = .ok (.aload_n 0, 1) := by decide +kernel
theorem dX11_number_13 : decode cX11_number 13 = .ok (.invokevirtual 147, 3) := by decide +kernel
theorem dX11_number_16 : decode cX11_number 16 = .ok (.iconst 0, 1) := by decide +kernel
theorem dX11_number_17 : decode cX11_number 17 = .ok (.ireturn, 1) := by decide +kernel
theorem dX11_number_18 : decode cX11_number 18 = .ok (.iconst 0, 1) := by decide +kernel
theorem dX11_number_19 : decode cX11_number 19 = .ok (.istore_n 1, 1) := by decide +kernel
theorem dX11_number_20 : decode cX11_number 20 = .ok (.iconst 0, 1) := by decide +kernel
theorem dX11_number_21 : decode cX11_number 21 = .ok (.istore_n 2, 1) := by decide +kernel
theorem dX11_number_22 : decode cX11_number 22 = .ok (.iload_n 2, 1) := by decide +kernel
theorem dX11_number_23 : decode cX11_number 23 = .ok (.iconst 3, 1) := by decide +kernel
theorem dX11_number_24 : decode cX11_number 24 = .ok (.if_icmp .ge 39, 3) := by decide +kernel
theorem dX11_number_27 : decode cX11_number 27 = .ok (.aload_n 0, 1) := by decide +kernel
theorem dX11_number_28 : decode cX11_number 28 = .ok (.invokevirtual 143, 3) := by decide +kernel
theorem dX11_number_31 : decode cX11_number 31 = .ok (.ifCond .eq 32, 3) := by decide +kernel
theorem dX11_number_34 : decode cX11_number 34 = .ok (.bipush 10, 2) := by decide +kernel
theorem dX11_number_36 : decode cX11_number 36 = .ok (.iload_n 1, 1) := by decide +kernel
theorem dX11_number_37 : decode cX11_number 37 = .ok (.imul, 1) := by decide +kernel
theorem dX11_number_38 : decode cX11_number 38 = .ok (.aload_n 0, 1) := by decide +kernel
theorem dX11_number_39 : decode cX11_number 39 = .ok (.invokevirtual 133, 3) := by decide +kernel
theorem dX11_number_42 : decode cX11_number 42 = .ok (.iadd, 1) := by decide +kernel
theorem dX11_number_43 : decode cX11_number 43 = .ok (.bipush 48, 2) := by decide +kernel
theorem dX11_number_45 : decode cX11_number 45 = .ok (.isub, 1) := by decide +kernel
theorem dX11_number_46 : decode cX11_number 46 = .ok (.istore_n 1, 1) := by decide +kernel
theorem dX11_number_47 : decode cX11_number 47 = .ok (.aload_n 0, 1) := by decide +kernel
theorem dX11_number_48 : decode cX11_number 48 = .ok (.dup, 1) := by decide +kernel
theorem dX11_number_49 : decode cX11_number 49 = .ok (.getfield 130, 3) := by decide +kernel
theorem dX11_number_52 : decode cX11_number 52 = .ok (.iconst 1, 1) := by decide +kernel
theorem dX11_number_53 : decode cX11_number 53 = .ok (.iadd, 1) := by decide +kernel
theorem dX11_number_54 : decode cX11_number 54 = .ok (.putfield 130, 3) := by decide +kernel
theorem dX11_number_57 : decode cX11_number 57 = .ok (.iinc 2 1, 3) := by decide +kernel
theorem dX11_number_60 : decode cX11_number 60 = .ok (.goto (-38), 3) := by decide +kernel
theorem dX11_number_63 : decode cX11_number 63 = .ok (.aload_n 0, 1) := by decide +kernel
theorem dX11_number_64 : decode cX11_number 64 = .ok (.invokevirtual 143, 3) := by decide +kernel
theorem dX11_number_67 : decode cX11_number 67 = .ok (.ifCond .eq 7, 3) := by decide +kernel
theorem dX11_number_70 : decode cX11_number 70 = .ok (.aload_n 0, 1) := by decide +kernel
theorem dX11_number_71 : decode cX11_number 71 = .ok (.invokevirtual 147, 3) := by decide +kernel
theorem dX11_number_74 : decode cX11_number 74 = .ok (.iload_n 1, 1) := by decide +kernel
theorem dX11_number_75 : decode cX11_number 75 = .ok (.ireturn, 1) := by decide +kernel
theorem dX11_value_0 : decode cX11_value 0 = .ok (.aload_n 0, 1) := by decide +kernel
theorem dX11_value_1 : decode cX11_value 1 = .ok (.invokevirtual 140, 3) := by decide +kernel
theorem dX11_value_4 : decode cX11_value 4 = .ok (.bipush 45, 2) := by decide +kernel
theorem dX11_value_6 : decode cX11_value 6 = .ok (.if_icmp .ne 7, 3) := by decide +kernel
theorem dX11_value_9 : decode cX11_value 9 = .ok (.iconst 1, 1) := by decide +kernel
theorem dX11_value_10 : decode cX11_value 10 = .ok (.goto 4, 3) := by decide +kernel
theorem dX11_value_13 : decode cX11_value 13 = .ok (.iconst 0, 1) := by decide +kernel
theorem dX11_value_14 : decode cX11_value 14 = .ok (.istore_n 1, 1) := by decide +kernel
theorem dX11_value_15 : decode cX11_value 15 = .ok (.iload_n 1, 1) := by decide +kernel
theorem dX11_value_16 : decode cX11_value 16 = .ok (.ifCond .eq 13, 3) := by decide +kernel
theorem dX11_value_19 : decode cX11_value 19 = .ok (.aload_n 0, 1) := by decide +kernel
theorem dX11_value_20 : decode cX11_value 20 = .ok (.dup, 1) := by decide +kernel
theorem dX11_value_21 : decode cX11_value 21 = .ok (.getfield 130, 3) := by decide +kernel
theorem dX11_value_24 : decode cX11_value 24 = .ok (.iconst 1, 1) := by decide +kernel
theorem dX11_value_25 : decode cX11_value 25 = .ok (.iadd, 1) := by decide +kernel
theorem dX11_value_26 : decode cX11_value 26 = .ok (.putfield 130, 3) := by decide +kernel
theorem dX11_value_29 : decode cX11_value 29 = .ok (.iload_n 1, 1) := by decide +kernel
theorem dX11_value_30 : decode cX11_value 30 = .ok (.ifCond .eq 16, 3) := by decide +kernel
theorem dX11_value_33 : decode cX11_value 33 = .ok (.aload_n 0, 1) := by decide +kernel
theorem dX11_value_34 : decode cX11_value 34 = .ok (.invokevirtual 143, 3) := by decide +kernel
theorem dX11_value_37 : decode cX11_value 37 = .ok (.ifCond .ne 9, 3) := by decide +kernel
theorem dX11_value_40 : decode cX11_value 40 = .ok (.aload_n 0, 1) := by decide +kernel
theorem dX11_value_41 : decode cX11_value 41 = .ok (.invokevirtual 147, 3) := by decide +kernel
theorem dX11_value_44 : decode cX11_value 44 = .ok (.iconst 0, 1) := by decide +kernel
theorem dX11_value_45 : decode cX11_value 45 = .ok (.ireturn, 1) := by decide +kernel
theorem dX11_value_46 : decode cX11_value 46 = .ok (.aload_n 0, 1) := by decide +kernel
theorem dX11_value_47 : decode cX11_value 47 = .ok (.invokevirtual 150, 3) := by decide +kernel
theorem dX11_value_50 : decode cX11_value 50 = .ok (.istore_n 2, 1) := by decide +kernel
theorem dX11_value_51 : decode cX11_value 51 = .ok (.iload_n 1, 1) := by decide +kernel
theorem dX11_value_52 : decode cX11_value 52 = .ok (.ifCond .eq 8, 3) := by decide +kernel
theorem dX11_value_55 : decode cX11_value 55 = .ok (.iload_n 2, 1) := by decide +kernel
theorem dX11_value_56 : decode cX11_value 56 = .ok (.ineg, 1) := by decide +kernel
theorem dX11_value_57 : decode cX11_value 57 = .ok (.goto 4, 3) := by decide +kernel
theorem dX11_value_60 : decode cX11_value 60 = .ok (.iload_n 2, 1) := by decide +kernel
theorem dX11_value_61 : decode cX11_value 61 = .ok (.ireturn, 1) := by decide +kernel
theorem dX11_readEntries_0 : decode cX11_readEntries 0 = .ok (.aload_n 0, 1) := by decide +kernel
theorem dX11_readEntries_1 : decode cX11_readEntries 1 = .ok (.iconst 0, 1) := by decide +kernel
theorem dX11_readEntries_2 : decode cX11_readEntries 2 = .ok (.putfield 153, 3) := by decide +kernel
theorem dX11_readEntries_5 : decode cX11_readEntries 5 = .ok (.aload_n 0, 1) := by decide +kernel
theorem dX11_readEntries_6 : decode cX11_readEntries 6 = .ok (.invokevirtual 140, 3) := by decide +kernel
theorem dX11_readEntries_9 : decode cX11_readEntries 9 = .ok (.iconst (-1), 1) := by decide +kernel
theorem dX11_readEntries_10 : decode cX11_readEntries 10 = .ok (.if_icmp .ne 4, 3) := by decide +kernel
theorem dX11_readEntries_13 : decode cX11_readEntries 13 = .ok (.return_, 1) := by decide +kernel
theorem dX11_readEntries_14 : decode cX11_readEntries 14 = .ok (.iconst 1, 1) := by decide +kernel
theorem dX11_readEntries_15 : decode cX11_readEntries 15 = .ok (.istore_n 1, 1) := by decide +kernel
theorem dX11_readEntries_16 : decode cX11_readEntries 16 = .ok (.iload_n 1, 1) := by decide +kernel
theorem dX11_readEntries_17 : decode cX11_readEntries 17 = .ok (.ifCond .eq 141, 3) := by decide +kernel
theorem dX11_readEntries_20 : decode cX11_readEntries 20 = .ok (.aload_n 0, 1) := by decide +kernel
theorem dX11_readEntries_21 : decode cX11_readEntries 21 = .ok (.getfield 137, 3) := by decide +kernel
theorem dX11_readEntries_24 : decode cX11_readEntries 24 = .ok (.iconst (-1), 1) := by decide +kernel
theorem dX11_readEntries_25 : decode cX11_readEntries 25 = .ok (.if_icmp .ne 133, 3) := by decide +kernel
theorem dX11_readEntries_28 : decode cX11_readEntries 28 = .ok (.aload_n 0, 1) := by decide +kernel
theorem dX11_readEntries_29 : decode cX11_readEntries 29 = .ok (.invokevirtual 150, 3) := by decide +kernel
theorem dX11_readEntries_32 : decode cX11_readEntries 32 = .ok (.istore_n 2, 1) := by decide +kernel
theorem dX11_readEntries_33 : decode cX11_readEntries 33 = .ok (.aload_n 0, 1) := by decide +kernel
theorem dX11_readEntries_34 : decode cX11_readEntries 34 = .ok (.getfield 137, 3) := by decide +kernel
theorem dX11_readEntries_37 : decode cX11_readEntries 37 = .ok (.iconst (-1), 1) := by decide +kernel
theorem dX11_readEntries_38 : decode cX11_readEntries 38 = .ok (.if_icmp .ne 16, 3) := by decide +kernel
theorem dX11_readEntries_41 : decode cX11_readEntries 41 = .ok (.aload_n 0, 1) := by decide +kernel
theorem dX11_readEntries_42 : decode cX11_readEntries 42 = .ok (.invokevirtual 140, 3) := by decide +kernel
theorem dX11_readEntries_45 : decode cX11_readEntries 45 = .ok (.bipush 58, 2) := by decide +kernel
theorem dX11_readEntries_47 : decode cX11_readEntries 47 = .ok (.if_icmp .eq 7, 3) := by decide +kernel
theorem dX11_readEntries_50 : decode cX11_readEntries 50 = .ok (.aload_n 0, 1) := by decide +kernel
theorem dX11_readEntries_51 : decode cX11_readEntries 51 = .ok (.invokevirtual 147, 3) := by decide +kernel
theorem dX11_readEntries_54 : decode cX11_readEntries 54 = .ok (.aload_n 0, 1) := by decide +kernel
theorem dX11_readEntries_55 : decode cX11_readEntries 55 = .ok (.dup, 1) := by decide +kernel
theorem dX11_readEntries_56 : decode cX11_readEntries 56 = .ok (.getfield 130, 3) := by decide +kernel
theorem dX11_readEntries_59 : decode cX11_readEntries 59 = .ok (.iconst 1, 1) := by decide +kernel
theorem dX11_readEntries_60 : decode cX11_readEntries 60 = .ok (.iadd, 1) := by decide +kernel
theorem dX11_readEntries_61 : decode cX11_readEntries 61 = .ok (.putfield 130, 3) := by decide +kernel
theorem dX11_readEntries_64 : decode cX11_readEntries 64 = .ok (.aload_n 0, 1) := by decide +kernel
theorem dX11_readEntries_65 : decode cX11_readEntries 65 = .ok (.getfield 137, 3) := by decide +kernel
theorem dX11_readEntries_68 : decode cX11_readEntries 68 = .ok (.iconst (-1), 1) := by decide +kernel
theorem dX11_readEntries_69 : decode cX11_readEntries 69 = .ok (.if_icmp .ne 10, 3) := by decide +kernel
theorem dX11_readEntries_72 : decode cX11_readEntries 72 = .ok (.aload_n 0, 1) := by decide +kernel
theorem dX11_readEntries_73 : decode cX11_readEntries 73 = .ok (.invokevirtual 156, 3) := by decide +kernel
theorem dX11_readEntries_76 : decode cX11_readEntries 76 = .ok (.goto 4, 3) := by decide +kernel
theorem dX11_readEntries_79 : decode cX11_readEntries 79 = .ok (.iconst 0, 1) := by decide +kernel
theorem dX11_readEntries_80 : decode cX11_readEntries 80 = .ok (.istore_n 3, 1) := by decide +kernel
theorem dX11_readEntries_81 : decode cX11_readEntries 81 = .ok (.aload_n 0, 1) := by decide +kernel
theorem dX11_readEntries_82 : decode cX11_readEntries 82 = .ok (.getfield 137, 3) := by decide +kernel
theorem dX11_readEntries_85 : decode cX11_readEntries 85 = .ok (.iconst (-1), 1) := by decide +kernel
theorem dX11_readEntries_86 : decode cX11_readEntries 86 = .ok (.if_icmp .eq 4, 3) := by decide +kernel
theorem dX11_readEntries_89 : decode cX11_readEntries 89 = .ok (.return_, 1) := by decide +kernel
theorem dX11_readEntries_90 : decode cX11_readEntries 90 = .ok (.aload_n 0, 1) := by decide +kernel
theorem dX11_readEntries_91 : decode cX11_readEntries 91 = .ok (.getfield 13, 3) := by decide +kernel
theorem dX11_readEntries_94 : decode cX11_readEntries 94 = .ok (.iconst 2, 1) := by decide +kernel
theorem dX11_readEntries_95 : decode cX11_readEntries 95 = .ok (.aload_n 0, 1) := by decide +kernel
theorem dX11_readEntries_96 : decode cX11_readEntries 96 = .ok (.getfield 153, 3) := by decide +kernel
theorem dX11_readEntries_99 : decode cX11_readEntries 99 = .ok (.imul, 1) := by decide +kernel
theorem dX11_readEntries_100 : decode cX11_readEntries 100 = .ok (.iload_n 2, 1) := by decide +kernel
theorem dX11_readEntries_101 : decode cX11_readEntries 101 = .ok (.iastore, 1) := by decide +kernel
theorem dX11_readEntries_102 : decode cX11_readEntries 102 = .ok (.aload_n 0, 1) := by decide +kernel
theorem dX11_readEntries_103 : decode cX11_readEntries 103 = .ok (.getfield 13, 3) := by decide +kernel
theorem dX11_readEntries_106 : decode cX11_readEntries 106 = .ok (.iconst 2, 1) := by decide +kernel
theorem dX11_readEntries_107 : decode cX11_readEntries 107 = .ok (.aload_n 0, 1) := by decide +kernel
theorem dX11_readEntries_108 : decode cX11_readEntries 108 = .ok (.getfield 153, 3) := by decide +kernel
theorem dX11_readEntries_111 : decode cX11_readEntries 111 = .ok (.imul, 1) := by decide +kernel
theorem dX11_readEntries_112 : decode cX11_readEntries 112 = .ok (.iconst 1, 1) := by decide +kernel
theorem dX11_readEntries_113 : decode cX11_readEntries 113 = .ok (.iadd, 1) := by decide +kernel
theorem dX11_readEntries_114 : decode cX11_readEntries 114 = .ok (.iload_n 3, 1) := by decide +kernel
theorem dX11_readEntries_115 : decode cX11_readEntries 115 = .ok (.iastore, 1) := by decide +kernel
theorem dX11_readEntries_116 : decode cX11_readEntries 116 = .ok (.aload_n 0, 1) := by decide +kernel
theorem dX11_readEntries_117 : decode cX11_readEntries 117 = .ok (.dup, 1) := by decide +kernel
theorem dX11_readEntries_118 : decode cX11_readEntries 118 = .ok (.getfield 153, 3) := by decide +kernel
theorem dX11_readEntries_121 : decode cX11_readEntries 121 = .ok (.iconst 1, 1) := by decide +kernel
theorem dX11_readEntries_122 : decode cX11_readEntries 122 = .ok (.iadd, 1) := by decide +kernel
theorem dX11_readEntries_123 : decode cX11_readEntries 123 = .ok (.putfield 153, 3) := by decide +kernel
theorem dX11_readEntries_126 : decode cX11_readEntries 126 = .ok (.aload_n 0, 1) := by decide +kernel
theorem dX11_readEntries_127 : decode cX11_readEntries 127 = .ok (.invokevirtual 140, 3) := by decide +kernel
theorem dX11_readEntries_130 : decode cX11_readEntries 130 = .ok (.bipush 44, 2) := by decide +kernel
theorem dX11_readEntries_132 : decode cX11_readEntries 132 = .ok (.if_icmp .ne 7, 3) := by decide +kernel
theorem dX11_readEntries_135 : decode cX11_readEntries 135 = .ok (.iconst 1, 1) := by decide +kernel
theorem dX11_readEntries_136 : decode cX11_readEntries 136 = .ok (.goto 4, 3) := by decide +kernel
theorem dX11_readEntries_139 : decode cX11_readEntries 139 = .ok (.iconst 0, 1) := by decide +kernel
theorem dX11_readEntries_140 : decode cX11_readEntries 140 = .ok (.istore_n 1, 1) := by decide +kernel
theorem dX11_readEntries_141 : decode cX11_readEntries 141 = .ok (.iload_n 1, 1) := by decide +kernel
theorem dX11_readEntries_142 : decode cX11_readEntries 142 = .ok (.ifCond .eq 13, 3) := by decide +kernel
theorem dX11_readEntries_145 : decode cX11_readEntries 145 = .ok (.aload_n 0, 1) := by decide +kernel
theorem dX11_readEntries_146 : decode cX11_readEntries 146 = .ok (.dup, 1) := by decide +kernel
theorem dX11_readEntries_147 : decode cX11_readEntries 147 = .ok (.getfield 130, 3) := by decide +kernel
theorem dX11_readEntries_150 : decode cX11_readEntries 150 = .ok (.iconst 1, 1) := by decide +kernel
theorem dX11_readEntries_151 : decode cX11_readEntries 151 = .ok (.iadd, 1) := by decide +kernel
theorem dX11_readEntries_152 : decode cX11_readEntries 152 = .ok (.putfield 130, 3) := by decide +kernel
theorem dX11_readEntries_155 : decode cX11_readEntries 155 = .ok (.goto (-139), 3) := by decide +kernel
theorem dX11_readEntries_158 : decode cX11_readEntries 158 = .ok (.aload_n 0, 1) := by decide +kernel
theorem dX11_readEntries_159 : decode cX11_readEntries 159 = .ok (.getfield 137, 3) := by decide +kernel
theorem dX11_readEntries_162 : decode cX11_readEntries 162 = .ok (.iconst (-1), 1) := by decide +kernel
theorem dX11_readEntries_163 : decode cX11_readEntries 163 = .ok (.if_icmp .ne 15, 3) := by decide +kernel
theorem dX11_readEntries_166 : decode cX11_readEntries 166 = .ok (.aload_n 0, 1) := by decide +kernel
theorem dX11_readEntries_167 : decode cX11_readEntries 167 = .ok (.invokevirtual 140, 3) := by decide +kernel
theorem dX11_readEntries_170 : decode cX11_readEntries 170 = .ok (.iconst (-1), 1) := by decide +kernel
theorem dX11_readEntries_171 : decode cX11_readEntries 171 = .ok (.if_icmp .eq 7, 3) := by decide +kernel
theorem dX11_readEntries_174 : decode cX11_readEntries 174 = .ok (.aload_n 0, 1) := by decide +kernel
theorem dX11_readEntries_175 : decode cX11_readEntries 175 = .ok (.invokevirtual 147, 3) := by decide +kernel
theorem dX11_readEntries_178 : decode cX11_readEntries 178 = .ok (.return_, 1) := by decide +kernel
theorem dX11_word_0 : decode cX11_word 0 = .ok (.aload_n 0, 1) := by decide +kernel
theorem dX11_word_1 : decode cX11_word 1 = .ok (.invokevirtual 140, 3) := by decide +kernel
theorem dX11_word_4 : decode cX11_word 4 = .ok (.istore_n 1, 1) := by decide +kernel
theorem dX11_word_5 : decode cX11_word 5 = .ok (.iconst 0, 1) := by decide +kernel
theorem dX11_word_6 : decode cX11_word 6 = .ok (.istore_n 2, 1) := by decide +kernel
theorem dX11_word_7 : decode cX11_word 7 = .ok (.iload_n 2, 1) := by decide +kernel
theorem dX11_word_8 : decode cX11_word 8 = .ok (.bipush 6, 2) := by decide +kernel
theorem dX11_word_10 : decode cX11_word 10 = .ok (.if_icmp .ge 81, 3) := by decide +kernel
theorem dX11_word_13 : decode cX11_word 13 = .ok (.ldc 159, 2) := by decide +kernel
theorem dX11_word_15 : decode cX11_word 15 = .ok (.iconst 3, 1) := by decide +kernel
theorem dX11_word_16 : decode cX11_word 16 = .ok (.iload_n 2, 1) := by decide +kernel
theorem dX11_word_17 : decode cX11_word 17 = .ok (.imul, 1) := by decide +kernel
theorem dX11_word_18 : decode cX11_word 18 = .ok (.invokevirtual 161, 3) := by decide +kernel
theorem dX11_word_21 : decode cX11_word 21 = .ok (.iload_n 1, 1) := by decide +kernel
theorem dX11_word_22 : decode cX11_word 22 = .ok (.if_icmp .eq 6, 3) := by decide +kernel
theorem dX11_word_25 : decode cX11_word 25 = .ok (.goto 60, 3) := by decide +kernel
theorem dX11_word_28 : decode cX11_word 28 = .ok (.iconst 0, 1) := by decide +kernel
theorem dX11_word_29 : decode cX11_word 29 = .ok (.istore_n 3, 1) := by decide +kernel
theorem dX11_word_30 : decode cX11_word 30 = .ok (.iload_n 3, 1) := by decide +kernel
theorem dX11_word_31 : decode cX11_word 31 = .ok (.iload_n 2, 1) := by decide +kernel
theorem dX11_word_32 : decode cX11_word 32 = .ok (.iconst 5, 1) := by decide +kernel
theorem dX11_word_33 : decode cX11_word 33 = .ok (.if_icmp .ne 7, 3) := by decide +kernel
theorem dX11_word_36 : decode cX11_word 36 = .ok (.iconst 4, 1) := by decide +kernel
theorem dX11_word_37 : decode cX11_word 37 = .ok (.goto 4, 3) := by decide +kernel
theorem dX11_word_40 : decode cX11_word 40 = .ok (.iconst 3, 1) := by decide +kernel
theorem dX11_word_41 : decode cX11_word 41 = .ok (.if_icmp .ge 42, 3) := by decide +kernel
theorem dX11_word_44 : decode cX11_word 44 = .ok (.aload_n 0, 1) := by decide +kernel
theorem dX11_word_45 : decode cX11_word 45 = .ok (.invokevirtual 133, 3) := by decide +kernel
theorem dX11_word_48 : decode cX11_word 48 = .ok (.ldc 159, 2) := by decide +kernel
theorem dX11_word_50 : decode cX11_word 50 = .ok (.iconst 3, 1) := by decide +kernel
theorem dX11_word_51 : decode cX11_word 51 = .ok (.iload_n 2, 1) := by decide +kernel
theorem dX11_word_52 : decode cX11_word 52 = .ok (.imul, 1) := by decide +kernel
theorem dX11_word_53 : decode cX11_word 53 = .ok (.iload_n 3, 1) := by decide +kernel
theorem dX11_word_54 : decode cX11_word 54 = .ok (.iadd, 1) := by decide +kernel
theorem dX11_word_55 : decode cX11_word 55 = .ok (.invokevirtual 161, 3) := by decide +kernel
theorem dX11_word_58 : decode cX11_word 58 = .ok (.if_icmp .eq 9, 3) := by decide +kernel
theorem dX11_word_61 : decode cX11_word 61 = .ok (.aload_n 0, 1) := by decide +kernel
theorem dX11_word_62 : decode cX11_word 62 = .ok (.invokevirtual 147, 3) := by decide +kernel
theorem dX11_word_65 : decode cX11_word 65 = .ok (.iconst (-1), 1) := by decide +kernel
theorem dX11_word_66 : decode cX11_word 66 = .ok (.ireturn, 1) := by decide +kernel
theorem dX11_word_67 : decode cX11_word 67 = .ok (.aload_n 0, 1) := by decide +kernel
theorem dX11_word_68 : decode cX11_word 68 = .ok (.dup, 1) := by decide +kernel
theorem dX11_word_69 : decode cX11_word 69 = .ok (.getfield 130, 3) := by decide +kernel
theorem dX11_word_72 : decode cX11_word 72 = .ok (.iconst 1, 1) := by decide +kernel
theorem dX11_word_73 : decode cX11_word 73 = .ok (.iadd, 1) := by decide +kernel
theorem dX11_word_74 : decode cX11_word 74 = .ok (.putfield 130, 3) := by decide +kernel
theorem dX11_word_77 : decode cX11_word 77 = .ok (.iinc 3 1, 3) := by decide +kernel
theorem dX11_word_80 : decode cX11_word 80 = .ok (.goto (-50), 3) := by decide +kernel
theorem dX11_word_83 : decode cX11_word 83 = .ok (.iload_n 2, 1) := by decide +kernel
theorem dX11_word_84 : decode cX11_word 84 = .ok (.ireturn, 1) := by decide +kernel
theorem dX11_word_85 : decode cX11_word 85 = .ok (.iinc 2 1, 3) := by decide +kernel
theorem dX11_word_88 : decode cX11_word 88 = .ok (.goto (-81), 3) := by decide +kernel
theorem dX11_word_91 : decode cX11_word 91 = .ok (.aload_n 0, 1) := by decide +kernel
theorem dX11_word_92 : decode cX11_word 92 = .ok (.invokevirtual 147, 3) := by decide +kernel
theorem dX11_word_95 : decode cX11_word 95 = .ok (.iconst (-1), 1) := by decide +kernel
theorem dX11_word_96 : decode cX11_word 96 = .ok (.ireturn, 1) := by decide +kernel
theorem dX11_readStep_0 : decode cX11_readStep 0 = .ok (.aload_n 0, 1) := by decide +kernel
theorem dX11_readStep_1 : decode cX11_readStep 1 = .ok (.invokevirtual 167, 3) := by decide +kernel
theorem dX11_readStep_4 : decode cX11_readStep 4 = .ok (.istore_n 2, 1) := by decide +kernel
theorem dX11_readStep_5 : decode cX11_readStep 5 = .ok (.aload_n 0, 1) := by decide +kernel
theorem dX11_readStep_6 : decode cX11_readStep 6 = .ok (.getfield 137, 3) := by decide +kernel
theorem dX11_readStep_9 : decode cX11_readStep 9 = .ok (.iconst (-1), 1) := by decide +kernel
theorem dX11_readStep_10 : decode cX11_readStep 10 = .ok (.if_icmp .eq 4, 3) := by decide +kernel
theorem dX11_readStep_13 : decode cX11_readStep 13 = .ok (.return_, 1) := by decide +kernel
theorem dX11_readStep_14 : decode cX11_readStep 14 = .ok (.aload_n 0, 1) := by decide +kernel
theorem dX11_readStep_15 : decode cX11_readStep 15 = .ok (.getfield 17, 3) := by decide +kernel
theorem dX11_readStep_18 : decode cX11_readStep 18 = .ok (.iload_n 1, 1) := by decide +kernel
theorem dX11_readStep_19 : decode cX11_readStep 19 = .ok (.iload_n 2, 1) := by decide +kernel
theorem dX11_readStep_20 : decode cX11_readStep 20 = .ok (.iastore, 1) := by decide +kernel
theorem dX11_readStep_21 : decode cX11_readStep 21 = .ok (.iconst 1, 1) := by decide +kernel
theorem dX11_readStep_22 : decode cX11_readStep 22 = .ok (.istore_n 3, 1) := by decide +kernel
theorem dX11_readStep_23 : decode cX11_readStep 23 = .ok (.iload_n 3, 1) := by decide +kernel
theorem dX11_readStep_24 : decode cX11_readStep 24 = .ok (.iconst 4, 1) := by decide +kernel
theorem dX11_readStep_25 : decode cX11_readStep 25 = .ok (.if_icmp .ge 19, 3) := by decide +kernel
theorem dX11_readStep_28 : decode cX11_readStep 28 = .ok (.aload_n 0, 1) := by decide +kernel
theorem dX11_readStep_29 : decode cX11_readStep 29 = .ok (.getfield 17, 3) := by decide +kernel
theorem dX11_readStep_32 : decode cX11_readStep 32 = .ok (.iload_n 1, 1) := by decide +kernel
theorem dX11_readStep_33 : decode cX11_readStep 33 = .ok (.iload_n 3, 1) := by decide +kernel
theorem dX11_readStep_34 : decode cX11_readStep 34 = .ok (.iadd, 1) := by decide +kernel
theorem dX11_readStep_35 : decode cX11_readStep 35 = .ok (.ldc 170, 2) := by decide +kernel
theorem dX11_readStep_37 : decode cX11_readStep 37 = .ok (.iastore, 1) := by decide +kernel
theorem dX11_readStep_38 : decode cX11_readStep 38 = .ok (.iinc 3 1, 3) := by decide +kernel
theorem dX11_readStep_41 : decode cX11_readStep 41 = .ok (.goto (-18), 3) := by decide +kernel
theorem dX11_readStep_44 : decode cX11_readStep 44 = .ok (.iload_n 2, 1) := by decide +kernel
theorem dX11_readStep_45 : decode cX11_readStep 45 = .ok (.iconst 5, 1) := by decide +kernel
theorem dX11_readStep_46 : decode cX11_readStep 46 = .ok (.if_icmp .ne 4, 3) := by decide +kernel
theorem dX11_readStep_49 : decode cX11_readStep 49 = .ok (.return_, 1) := by decide +kernel
theorem dX11_readStep_50 : decode cX11_readStep 50 = .ok (.aload_n 0, 1) := by decide +kernel
theorem dX11_readStep_51 : decode cX11_readStep 51 = .ok (.getfield 17, 3) := by decide +kernel
theorem dX11_readStep_54 : decode cX11_readStep 54 = .ok (.iload_n 1, 1) := by decide +kernel
theorem dX11_readStep_55 : decode cX11_readStep 55 = .ok (.iconst 1, 1) := by decide +kernel
theorem dX11_readStep_56 : decode cX11_readStep 56 = .ok (.iadd, 1) := by decide +kernel
theorem dX11_readStep_57 : decode cX11_readStep 57 = .ok (.aload_n 0, 1) := by decide +kernel
theorem dX11_readStep_58 : decode cX11_readStep 58 = .ok (.invokevirtual 150, 3) := by decide +kernel
theorem dX11_readStep_61 : decode cX11_readStep 61 = .ok (.iastore, 1) := by decide +kernel
theorem dX11_readStep_62 : decode cX11_readStep 62 = .ok (.aload_n 0, 1) := by decide +kernel
theorem dX11_readStep_63 : decode cX11_readStep 63 = .ok (.getfield 137, 3) := by decide +kernel
theorem dX11_readStep_66 : decode cX11_readStep 66 = .ok (.iconst (-1), 1) := by decide +kernel
theorem dX11_readStep_67 : decode cX11_readStep 67 = .ok (.if_icmp .ne 8, 3) := by decide +kernel
theorem dX11_readStep_70 : decode cX11_readStep 70 = .ok (.iload_n 2, 1) := by decide +kernel
theorem dX11_readStep_71 : decode cX11_readStep 71 = .ok (.iconst 1, 1) := by decide +kernel
theorem dX11_readStep_72 : decode cX11_readStep 72 = .ok (.if_icmp .ne 4, 3) := by decide +kernel
theorem dX11_readStep_75 : decode cX11_readStep 75 = .ok (.return_, 1) := by decide +kernel
theorem dX11_readStep_76 : decode cX11_readStep 76 = .ok (.aload_n 0, 1) := by decide +kernel
theorem dX11_readStep_77 : decode cX11_readStep 77 = .ok (.getfield 17, 3) := by decide +kernel
theorem dX11_readStep_80 : decode cX11_readStep 80 = .ok (.iload_n 1, 1) := by decide +kernel
theorem dX11_readStep_81 : decode cX11_readStep 81 = .ok (.iconst 2, 1) := by decide +kernel
theorem dX11_readStep_82 : decode cX11_readStep 82 = .ok (.iadd, 1) := by decide +kernel
theorem dX11_readStep_83 : decode cX11_readStep 83 = .ok (.iload_n 2, 1) := by decide +kernel
theorem dX11_readStep_84 : decode cX11_readStep 84 = .ok (.iconst 3, 1) := by decide +kernel
theorem dX11_readStep_85 : decode cX11_readStep 85 = .ok (.if_icmp .eq 8, 3) := by decide +kernel
theorem dX11_readStep_88 : decode cX11_readStep 88 = .ok (.iload_n 2, 1) := by decide +kernel
theorem dX11_readStep_89 : decode cX11_readStep 89 = .ok (.iconst 4, 1) := by decide +kernel
theorem dX11_readStep_90 : decode cX11_readStep 90 = .ok (.if_icmp .ne 10, 3) := by decide +kernel
theorem dX11_readStep_93 : decode cX11_readStep 93 = .ok (.aload_n 0, 1) := by decide +kernel
theorem dX11_readStep_94 : decode cX11_readStep 94 = .ok (.invokevirtual 150, 3) := by decide +kernel
theorem dX11_readStep_97 : decode cX11_readStep 97 = .ok (.goto 7, 3) := by decide +kernel
theorem dX11_readStep_100 : decode cX11_readStep 100 = .ok (.aload_n 0, 1) := by decide +kernel
theorem dX11_readStep_101 : decode cX11_readStep 101 = .ok (.invokevirtual 156, 3) := by decide +kernel
theorem dX11_readStep_104 : decode cX11_readStep 104 = .ok (.iastore, 1) := by decide +kernel
theorem dX11_readStep_105 : decode cX11_readStep 105 = .ok (.aload_n 0, 1) := by decide +kernel
theorem dX11_readStep_106 : decode cX11_readStep 106 = .ok (.getfield 137, 3) := by decide +kernel
theorem dX11_readStep_109 : decode cX11_readStep 109 = .ok (.iconst (-1), 1) := by decide +kernel
theorem dX11_readStep_110 : decode cX11_readStep 110 = .ok (.if_icmp .ne 20, 3) := by decide +kernel
theorem dX11_readStep_113 : decode cX11_readStep 113 = .ok (.iload_n 2, 1) := by decide +kernel
theorem dX11_readStep_114 : decode cX11_readStep 114 = .ok (.iconst 4, 1) := by decide +kernel
theorem dX11_readStep_115 : decode cX11_readStep 115 = .ok (.if_icmp .ne 15, 3) := by decide +kernel
theorem dX11_readStep_118 : decode cX11_readStep 118 = .ok (.aload_n 0, 1) := by decide +kernel
theorem dX11_readStep_119 : decode cX11_readStep 119 = .ok (.getfield 17, 3) := by decide +kernel
theorem dX11_readStep_122 : decode cX11_readStep 122 = .ok (.iload_n 1, 1) := by decide +kernel
theorem dX11_readStep_123 : decode cX11_readStep 123 = .ok (.iconst 3, 1) := by decide +kernel
theorem dX11_readStep_124 : decode cX11_readStep 124 = .ok (.iadd, 1) := by decide +kernel
theorem dX11_readStep_125 : decode cX11_readStep 125 = .ok (.aload_n 0, 1) := by decide +kernel
theorem dX11_readStep_126 : decode cX11_readStep 126 = .ok (.invokevirtual 156, 3) := by decide +kernel
theorem dX11_readStep_129 : decode cX11_readStep 129 = .ok (.iastore, 1) := by decide +kernel
theorem dX11_readStep_130 : decode cX11_readStep 130 = .ok (.return_, 1) := by decide +kernel
theorem dX11_readPlan_0 : decode cX11_readPlan 0 = .ok (.iconst 0, 1) := by decide +kernel
theorem dX11_readPlan_1 : decode cX11_readPlan 1 = .ok (.istore_n 1, 1) := by decide +kernel
theorem dX11_readPlan_2 : decode cX11_readPlan 2 = .ok (.iconst 1, 1) := by decide +kernel
theorem dX11_readPlan_3 : decode cX11_readPlan 3 = .ok (.istore_n 2, 1) := by decide +kernel
theorem dX11_readPlan_4 : decode cX11_readPlan 4 = .ok (.iload_n 2, 1) := by decide +kernel
theorem dX11_readPlan_5 : decode cX11_readPlan 5 = .ok (.ifCond .eq 72, 3) := by decide +kernel
theorem dX11_readPlan_8 : decode cX11_readPlan 8 = .ok (.aload_n 0, 1) := by decide +kernel
theorem dX11_readPlan_9 : decode cX11_readPlan 9 = .ok (.iconst 4, 1) := by decide +kernel
theorem dX11_readPlan_10 : decode cX11_readPlan 10 = .ok (.bipush 64, 2) := by decide +kernel
theorem dX11_readPlan_12 : decode cX11_readPlan 12 = .ok (.iload_n 1, 1) := by decide +kernel
theorem dX11_readPlan_13 : decode cX11_readPlan 13 = .ok (.iadd, 1) := by decide +kernel
theorem dX11_readPlan_14 : decode cX11_readPlan 14 = .ok (.imul, 1) := by decide +kernel
theorem dX11_readPlan_15 : decode cX11_readPlan 15 = .ok (.invokevirtual 171, 3) := by decide +kernel
theorem dX11_readPlan_18 : decode cX11_readPlan 18 = .ok (.aload_n 0, 1) := by decide +kernel
theorem dX11_readPlan_19 : decode cX11_readPlan 19 = .ok (.getfield 137, 3) := by decide +kernel
theorem dX11_readPlan_22 : decode cX11_readPlan 22 = .ok (.iconst (-1), 1) := by decide +kernel
theorem dX11_readPlan_23 : decode cX11_readPlan 23 = .ok (.if_icmp .eq 4, 3) := by decide +kernel
theorem dX11_readPlan_26 : decode cX11_readPlan 26 = .ok (.return_, 1) := by decide +kernel
theorem dX11_readPlan_27 : decode cX11_readPlan 27 = .ok (.iinc 1 1, 3) := by decide +kernel
theorem dX11_readPlan_30 : decode cX11_readPlan 30 = .ok (.aload_n 0, 1) := by decide +kernel
theorem dX11_readPlan_31 : decode cX11_readPlan 31 = .ok (.invokevirtual 140, 3) := by decide +kernel
theorem dX11_readPlan_34 : decode cX11_readPlan 34 = .ok (.bipush 59, 2) := by decide +kernel
theorem dX11_readPlan_36 : decode cX11_readPlan 36 = .ok (.if_icmp .ne 7, 3) := by decide +kernel
theorem dX11_readPlan_39 : decode cX11_readPlan 39 = .ok (.iconst 1, 1) := by decide +kernel
theorem dX11_readPlan_40 : decode cX11_readPlan 40 = .ok (.goto 4, 3) := by decide +kernel
theorem dX11_readPlan_43 : decode cX11_readPlan 43 = .ok (.iconst 0, 1) := by decide +kernel
theorem dX11_readPlan_44 : decode cX11_readPlan 44 = .ok (.istore_n 2, 1) := by decide +kernel
theorem dX11_readPlan_45 : decode cX11_readPlan 45 = .ok (.iload_n 2, 1) := by decide +kernel
theorem dX11_readPlan_46 : decode cX11_readPlan 46 = .ok (.ifCond .eq 14, 3) := by decide +kernel
theorem dX11_readPlan_49 : decode cX11_readPlan 49 = .ok (.iload_n 1, 1) := by decide +kernel
theorem dX11_readPlan_50 : decode cX11_readPlan 50 = .ok (.bipush 16, 2) := by decide +kernel
theorem dX11_readPlan_52 : decode cX11_readPlan 52 = .ok (.if_icmp .ne 8, 3) := by decide +kernel
theorem dX11_readPlan_55 : decode cX11_readPlan 55 = .ok (.aload_n 0, 1) := by decide +kernel
theorem dX11_readPlan_56 : decode cX11_readPlan 56 = .ok (.invokevirtual 147, 3) := by decide +kernel
theorem dX11_readPlan_59 : decode cX11_readPlan 59 = .ok (.return_, 1) := by decide +kernel
theorem dX11_readPlan_60 : decode cX11_readPlan 60 = .ok (.iload_n 2, 1) := by decide +kernel
theorem dX11_readPlan_61 : decode cX11_readPlan 61 = .ok (.ifCond .eq (-57), 3) := by decide +kernel
theorem dX11_readPlan_64 : decode cX11_readPlan 64 = .ok (.aload_n 0, 1) := by decide +kernel
theorem dX11_readPlan_65 : decode cX11_readPlan 65 = .ok (.dup, 1) := by decide +kernel
theorem dX11_readPlan_66 : decode cX11_readPlan 66 = .ok (.getfield 130, 3) := by decide +kernel
theorem dX11_readPlan_69 : decode cX11_readPlan 69 = .ok (.iconst 1, 1) := by decide +kernel
theorem dX11_readPlan_70 : decode cX11_readPlan 70 = .ok (.iadd, 1) := by decide +kernel
theorem dX11_readPlan_71 : decode cX11_readPlan 71 = .ok (.putfield 130, 3) := by decide +kernel
theorem dX11_readPlan_74 : decode cX11_readPlan 74 = .ok (.goto (-70), 3) := by decide +kernel
theorem dX11_readPlan_77 : decode cX11_readPlan 77 = .ok (.aload_n 0, 1) := by decide +kernel
theorem dX11_readPlan_78 : decode cX11_readPlan 78 = .ok (.getfield 20, 3) := by decide +kernel
theorem dX11_readPlan_81 : decode cX11_readPlan 81 = .ok (.iconst 4, 1) := by decide +kernel
theorem dX11_readPlan_82 : decode cX11_readPlan 82 = .ok (.iload_n 1, 1) := by decide +kernel
theorem dX11_readPlan_83 : decode cX11_readPlan 83 = .ok (.iastore, 1) := by decide +kernel
theorem dX11_readPlan_84 : decode cX11_readPlan 84 = .ok (.aload_n 0, 1) := by decide +kernel
theorem dX11_readPlan_85 : decode cX11_readPlan 85 = .ok (.invokevirtual 140, 3) := by decide +kernel
theorem dX11_readPlan_88 : decode cX11_readPlan 88 = .ok (.iconst (-1), 1) := by decide +kernel
theorem dX11_readPlan_89 : decode cX11_readPlan 89 = .ok (.if_icmp .eq 7, 3) := by decide +kernel
theorem dX11_readPlan_92 : decode cX11_readPlan 92 = .ok (.aload_n 0, 1) := by decide +kernel
theorem dX11_readPlan_93 : decode cX11_readPlan 93 = .ok (.invokevirtual 147, 3) := by decide +kernel
theorem dX11_readPlan_96 : decode cX11_readPlan 96 = .ok (.return_, 1) := by decide +kernel
theorem dX11_fault_0 : decode cX11_fault 0 = .ok (.aload_n 0, 1) := by decide +kernel
theorem dX11_fault_1 : decode cX11_fault 1 = .ok (.iconst 0, 1) := by decide +kernel
theorem dX11_fault_2 : decode cX11_fault 2 = .ok (.putfield 116, 3) := by decide +kernel
theorem dX11_fault_5 : decode cX11_fault 5 = .ok (.iload_n 1, 1) := by decide +kernel
theorem dX11_fault_6 : decode cX11_fault 6 = .ok (.i2l, 1) := by decide +kernel
theorem dX11_fault_7 : decode cX11_fault 7 = .ok (.lconst 0, 1) := by decide +kernel
theorem dX11_fault_8 : decode cX11_fault 8 = .ok (.lconst 1, 1) := by decide +kernel
theorem dX11_fault_9 : decode cX11_fault 9 = .ok (.invokestatic 174, 3) := by decide +kernel
theorem dX11_fault_12 : decode cX11_fault 12 = .ok (.ifCond .ne 6, 3) := by decide +kernel
theorem dX11_fault_15 : decode cX11_fault 15 = .ok (.bipush (-2), 2) := by decide +kernel
theorem dX11_fault_17 : decode cX11_fault 17 = .ok (.ireturn, 1) := by decide +kernel
theorem dX11_fault_18 : decode cX11_fault 18 = .ok (.aload_n 0, 1) := by decide +kernel
theorem dX11_fault_19 : decode cX11_fault 19 = .ok (.iconst 0, 1) := by decide +kernel
theorem dX11_fault_20 : decode cX11_fault 20 = .ok (.putfield 130, 3) := by decide +kernel
theorem dX11_fault_23 : decode cX11_fault 23 = .ok (.aload_n 0, 1) := by decide +kernel
theorem dX11_fault_24 : decode cX11_fault 24 = .ok (.iconst (-1), 1) := by decide +kernel
theorem dX11_fault_25 : decode cX11_fault 25 = .ok (.putfield 137, 3) := by decide +kernel
theorem dX11_fault_28 : decode cX11_fault 28 = .ok (.iload_n 1, 1) := by decide +kernel
theorem dX11_fault_29 : decode cX11_fault 29 = .ok (.ifCond .ne 10, 3) := by decide +kernel
theorem dX11_fault_32 : decode cX11_fault 32 = .ok (.aload_n 0, 1) := by decide +kernel
theorem dX11_fault_33 : decode cX11_fault 33 = .ok (.invokevirtual 178, 3) := by decide +kernel
theorem dX11_fault_36 : decode cX11_fault 36 = .ok (.goto 7, 3) := by decide +kernel
theorem dX11_fault_39 : decode cX11_fault 39 = .ok (.aload_n 0, 1) := by decide +kernel
theorem dX11_fault_40 : decode cX11_fault 40 = .ok (.invokevirtual 181, 3) := by decide +kernel
theorem dX11_fault_43 : decode cX11_fault 43 = .ok (.aload_n 0, 1) := by decide +kernel
theorem dX11_fault_44 : decode cX11_fault 44 = .ok (.getfield 137, 3) := by decide +kernel
theorem dX11_fault_47 : decode cX11_fault 47 = .ok (.ireturn, 1) := by decide +kernel
theorem dX11_least_0 : decode cX11_least 0 = .ok (.aload_n 0, 1) := by decide +kernel
theorem dX11_least_1 : decode cX11_least 1 = .ok (.getfield 45, 3) := by decide +kernel
theorem dX11_least_4 : decode cX11_least 4 = .ok (.iconst 1, 1) := by decide +kernel
theorem dX11_least_5 : decode cX11_least 5 = .ok (.iadd, 1) := by decide +kernel
theorem dX11_least_6 : decode cX11_least 6 = .ok (.iconst 2, 1) := by decide +kernel
theorem dX11_least_7 : decode cX11_least 7 = .ok (.idiv, 1) := by decide +kernel
theorem dX11_least_8 : decode cX11_least 8 = .ok (.ireturn, 1) := by decide +kernel
theorem dX11_fresh_0 : decode cX11_fresh 0 = .ok (.aload_n 0, 1) := by decide +kernel
theorem dX11_fresh_1 : decode cX11_fresh 1 = .ok (.getfield 184, 3) := by decide +kernel
theorem dX11_fresh_4 : decode cX11_fresh 4 = .ok (.ifCond .le 26, 3) := by decide +kernel
theorem dX11_fresh_7 : decode cX11_fresh 7 = .ok (.aload_n 0, 1) := by decide +kernel
theorem dX11_fresh_8 : decode cX11_fresh 8 = .ok (.dup, 1) := by decide +kernel
theorem dX11_fresh_9 : decode cX11_fresh 9 = .ok (.getfield 184, 3) := by decide +kernel
theorem dX11_fresh_12 : decode cX11_fresh 12 = .ok (.iconst 1, 1) := by decide +kernel
theorem dX11_fresh_13 : decode cX11_fresh 13 = .ok (.isub, 1) := by decide +kernel
theorem dX11_fresh_14 : decode cX11_fresh 14 = .ok (.putfield 184, 3) := by decide +kernel
theorem dX11_fresh_17 : decode cX11_fresh 17 = .ok (.aload_n 0, 1) := by decide +kernel
theorem dX11_fresh_18 : decode cX11_fresh 18 = .ok (.getfield 35, 3) := by decide +kernel
theorem dX11_fresh_21 : decode cX11_fresh 21 = .ok (.aload_n 0, 1) := by decide +kernel
theorem dX11_fresh_22 : decode cX11_fresh 22 = .ok (.getfield 184, 3) := by decide +kernel
theorem dX11_fresh_25 : decode cX11_fresh 25 = .ok (.iaload, 1) := by decide +kernel
theorem dX11_fresh_26 : decode cX11_fresh 26 = .ok (.istore_n 3, 1) := by decide +kernel
theorem dX11_fresh_27 : decode cX11_fresh 27 = .ok (.goto 18, 3) := by decide +kernel
theorem dX11_fresh_30 : decode cX11_fresh 30 = .ok (.aload_n 0, 1) := by decide +kernel
theorem dX11_fresh_31 : decode cX11_fresh 31 = .ok (.getfield 187, 3) := by decide +kernel
theorem dX11_fresh_34 : decode cX11_fresh 34 = .ok (.istore_n 3, 1) := by decide +kernel
theorem dX11_fresh_35 : decode cX11_fresh 35 = .ok (.aload_n 0, 1) := by decide +kernel
theorem dX11_fresh_36 : decode cX11_fresh 36 = .ok (.dup, 1) := by decide +kernel
theorem dX11_fresh_37 : decode cX11_fresh 37 = .ok (.getfield 187, 3) := by decide +kernel
theorem dX11_fresh_40 : decode cX11_fresh 40 = .ok (.iconst 1, 1) := by decide +kernel
theorem dX11_fresh_41 : decode cX11_fresh 41 = .ok (.iadd, 1) := by decide +kernel
theorem dX11_fresh_42 : decode cX11_fresh 42 = .ok (.putfield 187, 3) := by decide +kernel
theorem dX11_fresh_45 : decode cX11_fresh 45 = .ok (.aload_n 0, 1) := by decide +kernel
theorem dX11_fresh_46 : decode cX11_fresh 46 = .ok (.getfield 23, 3) := by decide +kernel
theorem dX11_fresh_49 : decode cX11_fresh 49 = .ok (.iload_n 3, 1) := by decide +kernel
theorem dX11_fresh_50 : decode cX11_fresh 50 = .ok (.iload_n 1, 1) := by decide +kernel
theorem dX11_fresh_51 : decode cX11_fresh 51 = .ok (.iastore, 1) := by decide +kernel
theorem dX11_fresh_52 : decode cX11_fresh 52 = .ok (.aload_n 0, 1) := by decide +kernel
theorem dX11_fresh_53 : decode cX11_fresh 53 = .ok (.getfield 26, 3) := by decide +kernel
theorem dX11_fresh_56 : decode cX11_fresh 56 = .ok (.iload_n 3, 1) := by decide +kernel
theorem dX11_fresh_57 : decode cX11_fresh 57 = .ok (.iconst 0, 1) := by decide +kernel
theorem dX11_fresh_58 : decode cX11_fresh 58 = .ok (.iastore, 1) := by decide +kernel
theorem dX11_fresh_59 : decode cX11_fresh 59 = .ok (.aload_n 0, 1) := by decide +kernel
theorem dX11_fresh_60 : decode cX11_fresh 60 = .ok (.getfield 29, 3) := by decide +kernel
theorem dX11_fresh_63 : decode cX11_fresh 63 = .ok (.iload_n 3, 1) := by decide +kernel
theorem dX11_fresh_64 : decode cX11_fresh 64 = .ok (.iload_n 2, 1) := by decide +kernel
theorem dX11_fresh_65 : decode cX11_fresh 65 = .ok (.iastore, 1) := by decide +kernel
theorem dX11_fresh_66 : decode cX11_fresh 66 = .ok (.aload_n 0, 1) := by decide +kernel
theorem dX11_fresh_67 : decode cX11_fresh 67 = .ok (.dup, 1) := by decide +kernel
theorem dX11_fresh_68 : decode cX11_fresh 68 = .ok (.getfield 190, 3) := by decide +kernel
theorem dX11_fresh_71 : decode cX11_fresh 71 = .ok (.iconst 1, 1) := by decide +kernel
theorem dX11_fresh_72 : decode cX11_fresh 72 = .ok (.iadd, 1) := by decide +kernel
theorem dX11_fresh_73 : decode cX11_fresh 73 = .ok (.putfield 190, 3) := by decide +kernel
theorem dX11_fresh_76 : decode cX11_fresh 76 = .ok (.iload_n 3, 1) := by decide +kernel
theorem dX11_fresh_77 : decode cX11_fresh 77 = .ok (.ireturn, 1) := by decide +kernel
theorem dX11_edited_0 : decode cX11_edited 0 = .ok (.aload_n 0, 1) := by decide +kernel
theorem dX11_edited_1 : decode cX11_edited 1 = .ok (.getfield 29, 3) := by decide +kernel
theorem dX11_edited_4 : decode cX11_edited 4 = .ok (.iload_n 1, 1) := by decide +kernel
theorem dX11_edited_5 : decode cX11_edited 5 = .ok (.iaload, 1) := by decide +kernel
theorem dX11_edited_6 : decode cX11_edited 6 = .ok (.iload_n 2, 1) := by decide +kernel
theorem dX11_edited_7 : decode cX11_edited 7 = .ok (.if_icmp .ne 5, 3) := by decide +kernel
theorem dX11_edited_10 : decode cX11_edited 10 = .ok (.iload_n 1, 1) := by decide +kernel
theorem dX11_edited_11 : decode cX11_edited 11 = .ok (.ireturn, 1) := by decide +kernel
theorem dX11_edited_12 : decode cX11_edited 12 = .ok (.aload_n 0, 1) := by decide +kernel
theorem dX11_edited_13 : decode cX11_edited 13 = .ok (.aload_n 0, 1) := by decide +kernel
theorem dX11_edited_14 : decode cX11_edited 14 = .ok (.getfield 23, 3) := by decide +kernel
theorem dX11_edited_17 : decode cX11_edited 17 = .ok (.iload_n 1, 1) := by decide +kernel
theorem dX11_edited_18 : decode cX11_edited 18 = .ok (.iaload, 1) := by decide +kernel
theorem dX11_edited_19 : decode cX11_edited 19 = .ok (.iload_n 2, 1) := by decide +kernel
theorem dX11_edited_20 : decode cX11_edited 20 = .ok (.invokevirtual 193, 3) := by decide +kernel
theorem dX11_edited_23 : decode cX11_edited 23 = .ok (.istore_n 3, 1) := by decide +kernel
theorem dX11_edited_24 : decode cX11_edited 24 = .ok (.aload_n 0, 1) := by decide +kernel
theorem dX11_edited_25 : decode cX11_edited 25 = .ok (.getfield 26, 3) := by decide +kernel
theorem dX11_edited_28 : decode cX11_edited 28 = .ok (.iload_n 3, 1) := by decide +kernel
theorem dX11_edited_29 : decode cX11_edited 29 = .ok (.aload_n 0, 1) := by decide +kernel
theorem dX11_edited_30 : decode cX11_edited 30 = .ok (.getfield 26, 3) := by decide +kernel
theorem dX11_edited_33 : decode cX11_edited 33 = .ok (.iload_n 1, 1) := by decide +kernel
theorem dX11_edited_34 : decode cX11_edited 34 = .ok (.iaload, 1) := by decide +kernel
theorem dX11_edited_35 : decode cX11_edited 35 = .ok (.iastore, 1) := by decide +kernel
theorem dX11_edited_36 : decode cX11_edited 36 = .ok (.iconst 0, 1) := by decide +kernel
theorem dX11_edited_37 : decode cX11_edited 37 = .ok (.istore 4, 2) := by decide +kernel
theorem dX11_edited_39 : decode cX11_edited 39 = .ok (.iload 4, 2) := by decide +kernel
theorem dX11_edited_41 : decode cX11_edited 41 = .ok (.aload_n 0, 1) := by decide +kernel
theorem dX11_edited_42 : decode cX11_edited 42 = .ok (.getfield 26, 3) := by decide +kernel
theorem dX11_edited_45 : decode cX11_edited 45 = .ok (.iload_n 1, 1) := by decide +kernel
theorem dX11_edited_46 : decode cX11_edited 46 = .ok (.iaload, 1) := by decide +kernel
theorem dX11_edited_47 : decode cX11_edited 47 = .ok (.if_icmp .ge 57, 3) := by decide +kernel
theorem dX11_edited_50 : decode cX11_edited 50 = .ok (.aload_n 0, 1) := by decide +kernel
theorem dX11_edited_51 : decode cX11_edited 51 = .ok (.getfield 39, 3) := by decide +kernel
theorem dX11_edited_54 : decode cX11_edited 54 = .ok (.bipush 7, 2) := by decide +kernel
theorem dX11_edited_56 : decode cX11_edited 56 = .ok (.iload_n 3, 1) := by decide +kernel
theorem dX11_edited_57 : decode cX11_edited 57 = .ok (.imul, 1) := by decide +kernel
theorem dX11_edited_58 : decode cX11_edited 58 = .ok (.iload 4, 2) := by decide +kernel
theorem dX11_edited_60 : decode cX11_edited 60 = .ok (.iadd, 1) := by decide +kernel
theorem dX11_edited_61 : decode cX11_edited 61 = .ok (.aload_n 0, 1) := by decide +kernel
theorem dX11_edited_62 : decode cX11_edited 62 = .ok (.getfield 39, 3) := by decide +kernel
theorem dX11_edited_65 : decode cX11_edited 65 = .ok (.bipush 7, 2) := by decide +kernel
theorem dX11_edited_67 : decode cX11_edited 67 = .ok (.iload_n 1, 1) := by decide +kernel
theorem dX11_edited_68 : decode cX11_edited 68 = .ok (.imul, 1) := by decide +kernel
theorem dX11_edited_69 : decode cX11_edited 69 = .ok (.iload 4, 2) := by decide +kernel
theorem dX11_edited_71 : decode cX11_edited 71 = .ok (.iadd, 1) := by decide +kernel
theorem dX11_edited_72 : decode cX11_edited 72 = .ok (.iaload, 1) := by decide +kernel
theorem dX11_edited_73 : decode cX11_edited 73 = .ok (.iastore, 1) := by decide +kernel
theorem dX11_edited_74 : decode cX11_edited 74 = .ok (.aload_n 0, 1) := by decide +kernel
theorem dX11_edited_75 : decode cX11_edited 75 = .ok (.getfield 42, 3) := by decide +kernel
theorem dX11_edited_78 : decode cX11_edited 78 = .ok (.bipush 7, 2) := by decide +kernel
theorem dX11_edited_80 : decode cX11_edited 80 = .ok (.iload_n 3, 1) := by decide +kernel
theorem dX11_edited_81 : decode cX11_edited 81 = .ok (.imul, 1) := by decide +kernel
theorem dX11_edited_82 : decode cX11_edited 82 = .ok (.iload 4, 2) := by decide +kernel
theorem dX11_edited_84 : decode cX11_edited 84 = .ok (.iadd, 1) := by decide +kernel
theorem dX11_edited_85 : decode cX11_edited 85 = .ok (.aload_n 0, 1) := by decide +kernel
theorem dX11_edited_86 : decode cX11_edited 86 = .ok (.getfield 42, 3) := by decide +kernel
theorem dX11_edited_89 : decode cX11_edited 89 = .ok (.bipush 7, 2) := by decide +kernel
theorem dX11_edited_91 : decode cX11_edited 91 = .ok (.iload_n 1, 1) := by decide +kernel
theorem dX11_edited_92 : decode cX11_edited 92 = .ok (.imul, 1) := by decide +kernel
theorem dX11_edited_93 : decode cX11_edited 93 = .ok (.iload 4, 2) := by decide +kernel
theorem dX11_edited_95 : decode cX11_edited 95 = .ok (.iadd, 1) := by decide +kernel
theorem dX11_edited_96 : decode cX11_edited 96 = .ok (.iaload, 1) := by decide +kernel
theorem dX11_edited_97 : decode cX11_edited 97 = .ok (.iastore, 1) := by decide +kernel
theorem dX11_edited_98 : decode cX11_edited 98 = .ok (.iinc 4 1, 3) := by decide +kernel
theorem dX11_edited_101 : decode cX11_edited 101 = .ok (.goto (-62), 3) := by decide +kernel
theorem dX11_edited_104 : decode cX11_edited 104 = .ok (.iload_n 3, 1) := by decide +kernel
theorem dX11_edited_105 : decode cX11_edited 105 = .ok (.ireturn, 1) := by decide +kernel
theorem dX11_child_0 : decode cX11_child 0 = .ok (.aload_n 0, 1) := by decide +kernel
theorem dX11_child_1 : decode cX11_child 1 = .ok (.getfield 39, 3) := by decide +kernel
theorem dX11_child_4 : decode cX11_child 4 = .ok (.bipush 7, 2) := by decide +kernel
theorem dX11_child_6 : decode cX11_child 6 = .ok (.iload_n 1, 1) := by decide +kernel
theorem dX11_child_7 : decode cX11_child 7 = .ok (.imul, 1) := by decide +kernel
theorem dX11_child_8 : decode cX11_child 8 = .ok (.iload_n 2, 1) := by decide +kernel
theorem dX11_child_9 : decode cX11_child 9 = .ok (.iadd, 1) := by decide +kernel
theorem dX11_child_10 : decode cX11_child 10 = .ok (.iaload, 1) := by decide +kernel
theorem dX11_child_11 : decode cX11_child 11 = .ok (.ireturn, 1) := by decide +kernel
theorem dX11_lowest_0 : decode cX11_lowest 0 = .ok (.aload_n 0, 1) := by decide +kernel
theorem dX11_lowest_1 : decode cX11_lowest 1 = .ok (.getfield 23, 3) := by decide +kernel
theorem dX11_lowest_4 : decode cX11_lowest 4 = .ok (.iload_n 1, 1) := by decide +kernel
theorem dX11_lowest_5 : decode cX11_lowest 5 = .ok (.iaload, 1) := by decide +kernel
theorem dX11_lowest_6 : decode cX11_lowest 6 = .ok (.ifCond .ne 13, 3) := by decide +kernel
theorem dX11_lowest_9 : decode cX11_lowest 9 = .ok (.aload_n 0, 1) := by decide +kernel
theorem dX11_lowest_10 : decode cX11_lowest 10 = .ok (.iload_n 1, 1) := by decide +kernel
theorem dX11_lowest_11 : decode cX11_lowest 11 = .ok (.iconst 0, 1) := by decide +kernel
theorem dX11_lowest_12 : decode cX11_lowest 12 = .ok (.invokevirtual 197, 3) := by decide +kernel
theorem dX11_lowest_15 : decode cX11_lowest 15 = .ok (.istore_n 1, 1) := by decide +kernel
theorem dX11_lowest_16 : decode cX11_lowest 16 = .ok (.goto (-16), 3) := by decide +kernel
theorem dX11_lowest_19 : decode cX11_lowest 19 = .ok (.aload_n 0, 1) := by decide +kernel
theorem dX11_lowest_20 : decode cX11_lowest 20 = .ok (.getfield 26, 3) := by decide +kernel
theorem dX11_lowest_23 : decode cX11_lowest 23 = .ok (.iload_n 1, 1) := by decide +kernel
theorem dX11_lowest_24 : decode cX11_lowest 24 = .ok (.iaload, 1) := by decide +kernel
theorem dX11_lowest_25 : decode cX11_lowest 25 = .ok (.ifCond .ne 7, 3) := by decide +kernel
theorem dX11_lowest_28 : decode cX11_lowest 28 = .ok (.iconst (-1), 1) := by decide +kernel
theorem dX11_lowest_29 : decode cX11_lowest 29 = .ok (.goto 12, 3) := by decide +kernel
theorem dX11_lowest_32 : decode cX11_lowest 32 = .ok (.aload_n 0, 1) := by decide +kernel
theorem dX11_lowest_33 : decode cX11_lowest 33 = .ok (.getfield 39, 3) := by decide +kernel
theorem dX11_lowest_36 : decode cX11_lowest 36 = .ok (.bipush 7, 2) := by decide +kernel
theorem dX11_lowest_38 : decode cX11_lowest 38 = .ok (.iload_n 1, 1) := by decide +kernel
theorem dX11_lowest_39 : decode cX11_lowest 39 = .ok (.imul, 1) := by decide +kernel
theorem dX11_lowest_40 : decode cX11_lowest 40 = .ok (.iaload, 1) := by decide +kernel
theorem dX11_lowest_41 : decode cX11_lowest 41 = .ok (.ireturn, 1) := by decide +kernel
theorem dX11_spotFor_0 : decode cX11_spotFor 0 = .ok (.iconst 0, 1) := by decide +kernel
theorem dX11_spotFor_1 : decode cX11_spotFor 1 = .ok (.istore_n 3, 1) := by decide +kernel
theorem dX11_spotFor_2 : decode cX11_spotFor 2 = .ok (.iconst 1, 1) := by decide +kernel
theorem dX11_spotFor_3 : decode cX11_spotFor 3 = .ok (.istore 4, 2) := by decide +kernel
theorem dX11_spotFor_5 : decode cX11_spotFor 5 = .ok (.iload 4, 2) := by decide +kernel
theorem dX11_spotFor_7 : decode cX11_spotFor 7 = .ok (.aload_n 0, 1) := by decide +kernel
theorem dX11_spotFor_8 : decode cX11_spotFor 8 = .ok (.getfield 26, 3) := by decide +kernel
theorem dX11_spotFor_11 : decode cX11_spotFor 11 = .ok (.iload_n 1, 1) := by decide +kernel
theorem dX11_spotFor_12 : decode cX11_spotFor 12 = .ok (.iaload, 1) := by decide +kernel
theorem dX11_spotFor_13 : decode cX11_spotFor 13 = .ok (.if_icmp .ge 27, 3) := by decide +kernel
theorem dX11_spotFor_16 : decode cX11_spotFor 16 = .ok (.aload_n 0, 1) := by decide +kernel
theorem dX11_spotFor_17 : decode cX11_spotFor 17 = .ok (.aload_n 0, 1) := by decide +kernel
theorem dX11_spotFor_18 : decode cX11_spotFor 18 = .ok (.iload_n 1, 1) := by decide +kernel
theorem dX11_spotFor_19 : decode cX11_spotFor 19 = .ok (.iload 4, 2) := by decide +kernel
theorem dX11_spotFor_21 : decode cX11_spotFor 21 = .ok (.invokevirtual 197, 3) := by decide +kernel
theorem dX11_spotFor_24 : decode cX11_spotFor 24 = .ok (.invokevirtual 200, 3) := by decide +kernel
theorem dX11_spotFor_27 : decode cX11_spotFor 27 = .ok (.iload_n 2, 1) := by decide +kernel
theorem dX11_spotFor_28 : decode cX11_spotFor 28 = .ok (.if_icmp .gt 6, 3) := by decide +kernel
theorem dX11_spotFor_31 : decode cX11_spotFor 31 = .ok (.iload 4, 2) := by decide +kernel
theorem dX11_spotFor_33 : decode cX11_spotFor 33 = .ok (.istore_n 3, 1) := by decide +kernel
theorem dX11_spotFor_34 : decode cX11_spotFor 34 = .ok (.iinc 4 1, 3) := by decide +kernel
theorem dX11_spotFor_37 : decode cX11_spotFor 37 = .ok (.goto (-32), 3) := by decide +kernel
theorem dX11_spotFor_40 : decode cX11_spotFor 40 = .ok (.iload_n 3, 1) := by decide +kernel
theorem dX11_spotFor_41 : decode cX11_spotFor 41 = .ok (.ireturn, 1) := by decide +kernel
theorem dX11_leafFor_0 : decode cX11_leafFor 0 = .ok (.iload_n 1, 1) := by decide +kernel
theorem dX11_leafFor_1 : decode cX11_leafFor 1 = .ok (.istore_n 3, 1) := by decide +kernel
theorem dX11_leafFor_2 : decode cX11_leafFor 2 = .ok (.aload_n 0, 1) := by decide +kernel
theorem dX11_leafFor_3 : decode cX11_leafFor 3 = .ok (.getfield 23, 3) := by decide +kernel
theorem dX11_leafFor_6 : decode cX11_leafFor 6 = .ok (.iload_n 3, 1) := by decide +kernel
theorem dX11_leafFor_7 : decode cX11_leafFor 7 = .ok (.iaload, 1) := by decide +kernel
theorem dX11_leafFor_8 : decode cX11_leafFor 8 = .ok (.ifCond .ne 18, 3) := by decide +kernel
theorem dX11_leafFor_11 : decode cX11_leafFor 11 = .ok (.aload_n 0, 1) := by decide +kernel
theorem dX11_leafFor_12 : decode cX11_leafFor 12 = .ok (.iload_n 3, 1) := by decide +kernel
theorem dX11_leafFor_13 : decode cX11_leafFor 13 = .ok (.aload_n 0, 1) := by decide +kernel
theorem dX11_leafFor_14 : decode cX11_leafFor 14 = .ok (.iload_n 3, 1) := by decide +kernel
theorem dX11_leafFor_15 : decode cX11_leafFor 15 = .ok (.iload_n 2, 1) := by decide +kernel
theorem dX11_leafFor_16 : decode cX11_leafFor 16 = .ok (.invokevirtual 203, 3) := by decide +kernel
theorem dX11_leafFor_19 : decode cX11_leafFor 19 = .ok (.invokevirtual 197, 3) := by decide +kernel
theorem dX11_leafFor_22 : decode cX11_leafFor 22 = .ok (.istore_n 3, 1) := by decide +kernel
theorem dX11_leafFor_23 : decode cX11_leafFor 23 = .ok (.goto (-21), 3) := by decide +kernel
theorem dX11_leafFor_26 : decode cX11_leafFor 26 = .ok (.iload_n 3, 1) := by decide +kernel
theorem dX11_leafFor_27 : decode cX11_leafFor 27 = .ok (.ireturn, 1) := by decide +kernel
theorem dX11_spotIn_0 : decode cX11_spotIn 0 = .ok (.iconst 0, 1) := by decide +kernel
theorem dX11_spotIn_1 : decode cX11_spotIn 1 = .ok (.istore_n 3, 1) := by decide +kernel
theorem dX11_spotIn_2 : decode cX11_spotIn 2 = .ok (.iload_n 3, 1) := by decide +kernel
theorem dX11_spotIn_3 : decode cX11_spotIn 3 = .ok (.aload_n 0, 1) := by decide +kernel
theorem dX11_spotIn_4 : decode cX11_spotIn 4 = .ok (.getfield 26, 3) := by decide +kernel
theorem dX11_spotIn_7 : decode cX11_spotIn 7 = .ok (.iload_n 1, 1) := by decide +kernel
theorem dX11_spotIn_8 : decode cX11_spotIn 8 = .ok (.iaload, 1) := by decide +kernel
theorem dX11_spotIn_9 : decode cX11_spotIn 9 = .ok (.if_icmp .ge 26, 3) := by decide +kernel
theorem dX11_spotIn_12 : decode cX11_spotIn 12 = .ok (.aload_n 0, 1) := by decide +kernel
theorem dX11_spotIn_13 : decode cX11_spotIn 13 = .ok (.getfield 39, 3) := by decide +kernel
theorem dX11_spotIn_16 : decode cX11_spotIn 16 = .ok (.bipush 7, 2) := by decide +kernel
theorem dX11_spotIn_18 : decode cX11_spotIn 18 = .ok (.iload_n 1, 1) := by decide +kernel
theorem dX11_spotIn_19 : decode cX11_spotIn 19 = .ok (.imul, 1) := by decide +kernel
theorem dX11_spotIn_20 : decode cX11_spotIn 20 = .ok (.iload_n 3, 1) := by decide +kernel
theorem dX11_spotIn_21 : decode cX11_spotIn 21 = .ok (.iadd, 1) := by decide +kernel
theorem dX11_spotIn_22 : decode cX11_spotIn 22 = .ok (.iaload, 1) := by decide +kernel
theorem dX11_spotIn_23 : decode cX11_spotIn 23 = .ok (.iload_n 2, 1) := by decide +kernel
theorem dX11_spotIn_24 : decode cX11_spotIn 24 = .ok (.if_icmp .ne 5, 3) := by decide +kernel
theorem dX11_spotIn_27 : decode cX11_spotIn 27 = .ok (.iload_n 3, 1) := by decide +kernel
theorem dX11_spotIn_28 : decode cX11_spotIn 28 = .ok (.ireturn, 1) := by decide +kernel
theorem dX11_spotIn_29 : decode cX11_spotIn 29 = .ok (.iinc 3 1, 3) := by decide +kernel
theorem dX11_spotIn_32 : decode cX11_spotIn 32 = .ok (.goto (-30), 3) := by decide +kernel
theorem dX11_spotIn_35 : decode cX11_spotIn 35 = .ok (.iconst (-1), 1) := by decide +kernel
theorem dX11_spotIn_36 : decode cX11_spotIn 36 = .ok (.ireturn, 1) := by decide +kernel
theorem dX11_valueAt_0 : decode cX11_valueAt 0 = .ok (.aload_n 0, 1) := by decide +kernel
theorem dX11_valueAt_1 : decode cX11_valueAt 1 = .ok (.iload_n 1, 1) := by decide +kernel
theorem dX11_valueAt_2 : decode cX11_valueAt 2 = .ok (.iload_n 2, 1) := by decide +kernel
theorem dX11_valueAt_3 : decode cX11_valueAt 3 = .ok (.invokevirtual 206, 3) := by decide +kernel
theorem dX11_valueAt_6 : decode cX11_valueAt 6 = .ok (.istore_n 3, 1) := by decide +kernel
theorem dX11_valueAt_7 : decode cX11_valueAt 7 = .ok (.aload_n 0, 1) := by decide +kernel
theorem dX11_valueAt_8 : decode cX11_valueAt 8 = .ok (.iload_n 3, 1) := by decide +kernel
theorem dX11_valueAt_9 : decode cX11_valueAt 9 = .ok (.iload_n 2, 1) := by decide +kernel
theorem dX11_valueAt_10 : decode cX11_valueAt 10 = .ok (.invokevirtual 209, 3) := by decide +kernel
theorem dX11_valueAt_13 : decode cX11_valueAt 13 = .ok (.istore 4, 2) := by decide +kernel
theorem dX11_valueAt_15 : decode cX11_valueAt 15 = .ok (.iload 4, 2) := by decide +kernel
theorem dX11_valueAt_17 : decode cX11_valueAt 17 = .ok (.iconst (-1), 1) := by decide +kernel
theorem dX11_valueAt_18 : decode cX11_valueAt 18 = .ok (.if_icmp .ne 8, 3) := by decide +kernel
theorem dX11_valueAt_21 : decode cX11_valueAt 21 = .ok (.ldc 170, 2) := by decide +kernel
theorem dX11_valueAt_23 : decode cX11_valueAt 23 = .ok (.goto 15, 3) := by decide +kernel
theorem dX11_valueAt_26 : decode cX11_valueAt 26 = .ok (.aload_n 0, 1) := by decide +kernel
theorem dX11_valueAt_27 : decode cX11_valueAt 27 = .ok (.getfield 42, 3) := by decide +kernel
theorem dX11_valueAt_30 : decode cX11_valueAt 30 = .ok (.bipush 7, 2) := by decide +kernel
theorem dX11_valueAt_32 : decode cX11_valueAt 32 = .ok (.iload_n 3, 1) := by decide +kernel
theorem dX11_valueAt_33 : decode cX11_valueAt 33 = .ok (.imul, 1) := by decide +kernel
theorem dX11_valueAt_34 : decode cX11_valueAt 34 = .ok (.iload 4, 2) := by decide +kernel
theorem dX11_valueAt_36 : decode cX11_valueAt 36 = .ok (.iadd, 1) := by decide +kernel
theorem dX11_valueAt_37 : decode cX11_valueAt 37 = .ok (.iaload, 1) := by decide +kernel
theorem dX11_valueAt_38 : decode cX11_valueAt 38 = .ok (.ireturn, 1) := by decide +kernel
theorem dX11_putsIn_0 : decode cX11_putsIn 0 = .ok (.aload_n 0, 1) := by decide +kernel
theorem dX11_putsIn_1 : decode cX11_putsIn 1 = .ok (.getfield 26, 3) := by decide +kernel
theorem dX11_putsIn_4 : decode cX11_putsIn 4 = .ok (.iload_n 1, 1) := by decide +kernel
theorem dX11_putsIn_5 : decode cX11_putsIn 5 = .ok (.iaload, 1) := by decide +kernel
theorem dX11_putsIn_6 : decode cX11_putsIn 6 = .ok (.istore 5, 2) := by decide +kernel
theorem dX11_putsIn_8 : decode cX11_putsIn 8 = .ok (.iload 5, 2) := by decide +kernel
theorem dX11_putsIn_10 : decode cX11_putsIn 10 = .ok (.iload_n 2, 1) := by decide +kernel
theorem dX11_putsIn_11 : decode cX11_putsIn 11 = .ok (.if_icmp .le 61, 3) := by decide +kernel
theorem dX11_putsIn_14 : decode cX11_putsIn 14 = .ok (.aload_n 0, 1) := by decide +kernel
theorem dX11_putsIn_15 : decode cX11_putsIn 15 = .ok (.getfield 39, 3) := by decide +kernel
theorem dX11_putsIn_18 : decode cX11_putsIn 18 = .ok (.bipush 7, 2) := by decide +kernel
theorem dX11_putsIn_20 : decode cX11_putsIn 20 = .ok (.iload_n 1, 1) := by decide +kernel
theorem dX11_putsIn_21 : decode cX11_putsIn 21 = .ok (.imul, 1) := by decide +kernel
theorem dX11_putsIn_22 : decode cX11_putsIn 22 = .ok (.iload 5, 2) := by decide +kernel
theorem dX11_putsIn_24 : decode cX11_putsIn 24 = .ok (.iadd, 1) := by decide +kernel
theorem dX11_putsIn_25 : decode cX11_putsIn 25 = .ok (.aload_n 0, 1) := by decide +kernel
theorem dX11_putsIn_26 : decode cX11_putsIn 26 = .ok (.getfield 39, 3) := by decide +kernel
theorem dX11_putsIn_29 : decode cX11_putsIn 29 = .ok (.bipush 7, 2) := by decide +kernel
theorem dX11_putsIn_31 : decode cX11_putsIn 31 = .ok (.iload_n 1, 1) := by decide +kernel
theorem dX11_putsIn_32 : decode cX11_putsIn 32 = .ok (.imul, 1) := by decide +kernel
theorem dX11_putsIn_33 : decode cX11_putsIn 33 = .ok (.iload 5, 2) := by decide +kernel
theorem dX11_putsIn_35 : decode cX11_putsIn 35 = .ok (.iadd, 1) := by decide +kernel
theorem dX11_putsIn_36 : decode cX11_putsIn 36 = .ok (.iconst 1, 1) := by decide +kernel
theorem dX11_putsIn_37 : decode cX11_putsIn 37 = .ok (.isub, 1) := by decide +kernel
theorem dX11_putsIn_38 : decode cX11_putsIn 38 = .ok (.iaload, 1) := by decide +kernel
theorem dX11_putsIn_39 : decode cX11_putsIn 39 = .ok (.iastore, 1) := by decide +kernel
theorem dX11_putsIn_40 : decode cX11_putsIn 40 = .ok (.aload_n 0, 1) := by decide +kernel
theorem dX11_putsIn_41 : decode cX11_putsIn 41 = .ok (.getfield 42, 3) := by decide +kernel
theorem dX11_putsIn_44 : decode cX11_putsIn 44 = .ok (.bipush 7, 2) := by decide +kernel
theorem dX11_putsIn_46 : decode cX11_putsIn 46 = .ok (.iload_n 1, 1) := by decide +kernel
theorem dX11_putsIn_47 : decode cX11_putsIn 47 = .ok (.imul, 1) := by decide +kernel
theorem dX11_putsIn_48 : decode cX11_putsIn 48 = .ok (.iload 5, 2) := by decide +kernel
theorem dX11_putsIn_50 : decode cX11_putsIn 50 = .ok (.iadd, 1) := by decide +kernel
theorem dX11_putsIn_51 : decode cX11_putsIn 51 = .ok (.aload_n 0, 1) := by decide +kernel
theorem dX11_putsIn_52 : decode cX11_putsIn 52 = .ok (.getfield 42, 3) := by decide +kernel
theorem dX11_putsIn_55 : decode cX11_putsIn 55 = .ok (.bipush 7, 2) := by decide +kernel
theorem dX11_putsIn_57 : decode cX11_putsIn 57 = .ok (.iload_n 1, 1) := by decide +kernel
theorem dX11_putsIn_58 : decode cX11_putsIn 58 = .ok (.imul, 1) := by decide +kernel
theorem dX11_putsIn_59 : decode cX11_putsIn 59 = .ok (.iload 5, 2) := by decide +kernel
theorem dX11_putsIn_61 : decode cX11_putsIn 61 = .ok (.iadd, 1) := by decide +kernel
theorem dX11_putsIn_62 : decode cX11_putsIn 62 = .ok (.iconst 1, 1) := by decide +kernel
theorem dX11_putsIn_63 : decode cX11_putsIn 63 = .ok (.isub, 1) := by decide +kernel
theorem dX11_putsIn_64 : decode cX11_putsIn 64 = .ok (.iaload, 1) := by decide +kernel
theorem dX11_putsIn_65 : decode cX11_putsIn 65 = .ok (.iastore, 1) := by decide +kernel
theorem dX11_putsIn_66 : decode cX11_putsIn 66 = .ok (.iinc 5 (-1), 3) := by decide +kernel
theorem dX11_putsIn_69 : decode cX11_putsIn 69 = .ok (.goto (-61), 3) := by decide +kernel
theorem dX11_putsIn_72 : decode cX11_putsIn 72 = .ok (.aload_n 0, 1) := by decide +kernel
theorem dX11_putsIn_73 : decode cX11_putsIn 73 = .ok (.getfield 39, 3) := by decide +kernel
theorem dX11_putsIn_76 : decode cX11_putsIn 76 = .ok (.bipush 7, 2) := by decide +kernel
theorem dX11_putsIn_78 : decode cX11_putsIn 78 = .ok (.iload_n 1, 1) := by decide +kernel
theorem dX11_putsIn_79 : decode cX11_putsIn 79 = .ok (.imul, 1) := by decide +kernel
theorem dX11_putsIn_80 : decode cX11_putsIn 80 = .ok (.iload_n 2, 1) := by decide +kernel
theorem dX11_putsIn_81 : decode cX11_putsIn 81 = .ok (.iadd, 1) := by decide +kernel
theorem dX11_putsIn_82 : decode cX11_putsIn 82 = .ok (.iload_n 3, 1) := by decide +kernel
theorem dX11_putsIn_83 : decode cX11_putsIn 83 = .ok (.iastore, 1) := by decide +kernel
theorem dX11_putsIn_84 : decode cX11_putsIn 84 = .ok (.aload_n 0, 1) := by decide +kernel
theorem dX11_putsIn_85 : decode cX11_putsIn 85 = .ok (.getfield 42, 3) := by decide +kernel
theorem dX11_putsIn_88 : decode cX11_putsIn 88 = .ok (.bipush 7, 2) := by decide +kernel
theorem dX11_putsIn_90 : decode cX11_putsIn 90 = .ok (.iload_n 1, 1) := by decide +kernel
theorem dX11_putsIn_91 : decode cX11_putsIn 91 = .ok (.imul, 1) := by decide +kernel
theorem dX11_putsIn_92 : decode cX11_putsIn 92 = .ok (.iload_n 2, 1) := by decide +kernel
theorem dX11_putsIn_93 : decode cX11_putsIn 93 = .ok (.iadd, 1) := by decide +kernel
theorem dX11_putsIn_94 : decode cX11_putsIn 94 = .ok (.iload 4, 2) := by decide +kernel
theorem dX11_putsIn_96 : decode cX11_putsIn 96 = .ok (.iastore, 1) := by decide +kernel
theorem dX11_putsIn_97 : decode cX11_putsIn 97 = .ok (.aload_n 0, 1) := by decide +kernel
theorem dX11_putsIn_98 : decode cX11_putsIn 98 = .ok (.getfield 26, 3) := by decide +kernel
theorem dX11_putsIn_101 : decode cX11_putsIn 101 = .ok (.iload_n 1, 1) := by decide +kernel
theorem dX11_putsIn_102 : decode cX11_putsIn 102 = .ok (.dup2, 1) := by decide +kernel
theorem dX11_putsIn_103 : decode cX11_putsIn 103 = .ok (.iaload, 1) := by decide +kernel
theorem dX11_putsIn_104 : decode cX11_putsIn 104 = .ok (.iconst 1, 1) := by decide +kernel
theorem dX11_putsIn_105 : decode cX11_putsIn 105 = .ok (.iadd, 1) := by decide +kernel
theorem dX11_putsIn_106 : decode cX11_putsIn 106 = .ok (.iastore, 1) := by decide +kernel
theorem dX11_putsIn_107 : decode cX11_putsIn 107 = .ok (.return_, 1) := by decide +kernel
theorem dX11_takesFrom_0 : decode cX11_takesFrom 0 = .ok (.aload_n 0, 1) := by decide +kernel
theorem dX11_takesFrom_1 : decode cX11_takesFrom 1 = .ok (.getfield 26, 3) := by decide +kernel
theorem dX11_takesFrom_4 : decode cX11_takesFrom 4 = .ok (.iload_n 1, 1) := by decide +kernel
theorem dX11_takesFrom_5 : decode cX11_takesFrom 5 = .ok (.dup2, 1) := by decide +kernel
theorem dX11_takesFrom_6 : decode cX11_takesFrom 6 = .ok (.iaload, 1) := by decide +kernel
theorem dX11_takesFrom_7 : decode cX11_takesFrom 7 = .ok (.iconst 1, 1) := by decide +kernel
theorem dX11_takesFrom_8 : decode cX11_takesFrom 8 = .ok (.isub, 1) := by decide +kernel
theorem dX11_takesFrom_9 : decode cX11_takesFrom 9 = .ok (.iastore, 1) := by decide +kernel
theorem dX11_takesFrom_10 : decode cX11_takesFrom 10 = .ok (.iload_n 2, 1) := by decide +kernel
theorem dX11_takesFrom_11 : decode cX11_takesFrom 11 = .ok (.istore_n 3, 1) := by decide +kernel
theorem dX11_takesFrom_12 : decode cX11_takesFrom 12 = .ok (.iload_n 3, 1) := by decide +kernel
theorem dX11_takesFrom_13 : decode cX11_takesFrom 13 = .ok (.aload_n 0, 1) := by decide +kernel
theorem dX11_takesFrom_14 : decode cX11_takesFrom 14 = .ok (.getfield 26, 3) := by decide +kernel
theorem dX11_takesFrom_17 : decode cX11_takesFrom 17 = .ok (.iload_n 1, 1) := by decide +kernel
theorem dX11_takesFrom_18 : decode cX11_takesFrom 18 = .ok (.iaload, 1) := by decide +kernel
theorem dX11_takesFrom_19 : decode cX11_takesFrom 19 = .ok (.if_icmp .ge 57, 3) := by decide +kernel
theorem dX11_takesFrom_22 : decode cX11_takesFrom 22 = .ok (.aload_n 0, 1) := by decide +kernel
theorem dX11_takesFrom_23 : decode cX11_takesFrom 23 = .ok (.getfield 39, 3) := by decide +kernel
theorem dX11_takesFrom_26 : decode cX11_takesFrom 26 = .ok (.bipush 7, 2) := by decide +kernel
theorem dX11_takesFrom_28 : decode cX11_takesFrom 28 = .ok (.iload_n 1, 1) := by decide +kernel
theorem dX11_takesFrom_29 : decode cX11_takesFrom 29 = .ok (.imul, 1) := by decide +kernel
theorem dX11_takesFrom_30 : decode cX11_takesFrom 30 = .ok (.iload_n 3, 1) := by decide +kernel
theorem dX11_takesFrom_31 : decode cX11_takesFrom 31 = .ok (.iadd, 1) := by decide +kernel
theorem dX11_takesFrom_32 : decode cX11_takesFrom 32 = .ok (.aload_n 0, 1) := by decide +kernel
theorem dX11_takesFrom_33 : decode cX11_takesFrom 33 = .ok (.getfield 39, 3) := by decide +kernel
theorem dX11_takesFrom_36 : decode cX11_takesFrom 36 = .ok (.bipush 7, 2) := by decide +kernel
theorem dX11_takesFrom_38 : decode cX11_takesFrom 38 = .ok (.iload_n 1, 1) := by decide +kernel
theorem dX11_takesFrom_39 : decode cX11_takesFrom 39 = .ok (.imul, 1) := by decide +kernel
theorem dX11_takesFrom_40 : decode cX11_takesFrom 40 = .ok (.iload_n 3, 1) := by decide +kernel
theorem dX11_takesFrom_41 : decode cX11_takesFrom 41 = .ok (.iadd, 1) := by decide +kernel
theorem dX11_takesFrom_42 : decode cX11_takesFrom 42 = .ok (.iconst 1, 1) := by decide +kernel
theorem dX11_takesFrom_43 : decode cX11_takesFrom 43 = .ok (.iadd, 1) := by decide +kernel
theorem dX11_takesFrom_44 : decode cX11_takesFrom 44 = .ok (.iaload, 1) := by decide +kernel
theorem dX11_takesFrom_45 : decode cX11_takesFrom 45 = .ok (.iastore, 1) := by decide +kernel
theorem dX11_takesFrom_46 : decode cX11_takesFrom 46 = .ok (.aload_n 0, 1) := by decide +kernel
theorem dX11_takesFrom_47 : decode cX11_takesFrom 47 = .ok (.getfield 42, 3) := by decide +kernel
theorem dX11_takesFrom_50 : decode cX11_takesFrom 50 = .ok (.bipush 7, 2) := by decide +kernel
theorem dX11_takesFrom_52 : decode cX11_takesFrom 52 = .ok (.iload_n 1, 1) := by decide +kernel
theorem dX11_takesFrom_53 : decode cX11_takesFrom 53 = .ok (.imul, 1) := by decide +kernel
theorem dX11_takesFrom_54 : decode cX11_takesFrom 54 = .ok (.iload_n 3, 1) := by decide +kernel
theorem dX11_takesFrom_55 : decode cX11_takesFrom 55 = .ok (.iadd, 1) := by decide +kernel
theorem dX11_takesFrom_56 : decode cX11_takesFrom 56 = .ok (.aload_n 0, 1) := by decide +kernel
theorem dX11_takesFrom_57 : decode cX11_takesFrom 57 = .ok (.getfield 42, 3) := by decide +kernel
theorem dX11_takesFrom_60 : decode cX11_takesFrom 60 = .ok (.bipush 7, 2) := by decide +kernel
theorem dX11_takesFrom_62 : decode cX11_takesFrom 62 = .ok (.iload_n 1, 1) := by decide +kernel
theorem dX11_takesFrom_63 : decode cX11_takesFrom 63 = .ok (.imul, 1) := by decide +kernel
theorem dX11_takesFrom_64 : decode cX11_takesFrom 64 = .ok (.iload_n 3, 1) := by decide +kernel
theorem dX11_takesFrom_65 : decode cX11_takesFrom 65 = .ok (.iadd, 1) := by decide +kernel
theorem dX11_takesFrom_66 : decode cX11_takesFrom 66 = .ok (.iconst 1, 1) := by decide +kernel
theorem dX11_takesFrom_67 : decode cX11_takesFrom 67 = .ok (.iadd, 1) := by decide +kernel
theorem dX11_takesFrom_68 : decode cX11_takesFrom 68 = .ok (.iaload, 1) := by decide +kernel
theorem dX11_takesFrom_69 : decode cX11_takesFrom 69 = .ok (.iastore, 1) := by decide +kernel
theorem dX11_takesFrom_70 : decode cX11_takesFrom 70 = .ok (.iinc 3 1, 3) := by decide +kernel
theorem dX11_takesFrom_73 : decode cX11_takesFrom 73 = .ok (.goto (-61), 3) := by decide +kernel
theorem dX11_takesFrom_76 : decode cX11_takesFrom 76 = .ok (.return_, 1) := by decide +kernel
theorem dX11_goesDown_0 : decode cX11_goesDown 0 = .ok (.aload_n 0, 1) := by decide +kernel
theorem dX11_goesDown_1 : decode cX11_goesDown 1 = .ok (.iload_n 1, 1) := by decide +kernel
theorem dX11_goesDown_2 : decode cX11_goesDown 2 = .ok (.iload_n 3, 1) := by decide +kernel
theorem dX11_goesDown_3 : decode cX11_goesDown 3 = .ok (.invokevirtual 212, 3) := by decide +kernel
theorem dX11_goesDown_6 : decode cX11_goesDown 6 = .ok (.istore 4, 2) := by decide +kernel
theorem dX11_goesDown_8 : decode cX11_goesDown 8 = .ok (.iload 4, 2) := by decide +kernel
theorem dX11_goesDown_10 : decode cX11_goesDown 10 = .ok (.istore 5, 2) := by decide +kernel
theorem dX11_goesDown_12 : decode cX11_goesDown 12 = .ok (.aload_n 0, 1) := by decide +kernel
theorem dX11_goesDown_13 : decode cX11_goesDown 13 = .ok (.iconst 0, 1) := by decide +kernel
theorem dX11_goesDown_14 : decode cX11_goesDown 14 = .ok (.putfield 215, 3) := by decide +kernel
theorem dX11_goesDown_17 : decode cX11_goesDown 17 = .ok (.aload_n 0, 1) := by decide +kernel
theorem dX11_goesDown_18 : decode cX11_goesDown 18 = .ok (.getfield 23, 3) := by decide +kernel
theorem dX11_goesDown_21 : decode cX11_goesDown 21 = .ok (.iload 4, 2) := by decide +kernel
theorem dX11_goesDown_23 : decode cX11_goesDown 23 = .ok (.iaload, 1) := by decide +kernel
theorem dX11_goesDown_24 : decode cX11_goesDown 24 = .ok (.ifCond .ne 81, 3) := by decide +kernel
theorem dX11_goesDown_27 : decode cX11_goesDown 27 = .ok (.aload_n 0, 1) := by decide +kernel
theorem dX11_goesDown_28 : decode cX11_goesDown 28 = .ok (.iload 4, 2) := by decide +kernel
theorem dX11_goesDown_30 : decode cX11_goesDown 30 = .ok (.iload_n 2, 1) := by decide +kernel
theorem dX11_goesDown_31 : decode cX11_goesDown 31 = .ok (.invokevirtual 203, 3) := by decide +kernel
theorem dX11_goesDown_34 : decode cX11_goesDown 34 = .ok (.istore 6, 2) := by decide +kernel
theorem dX11_goesDown_36 : decode cX11_goesDown 36 = .ok (.aload_n 0, 1) := by decide +kernel
theorem dX11_goesDown_37 : decode cX11_goesDown 37 = .ok (.aload_n 0, 1) := by decide +kernel
theorem dX11_goesDown_38 : decode cX11_goesDown 38 = .ok (.iload 4, 2) := by decide +kernel
theorem dX11_goesDown_40 : decode cX11_goesDown 40 = .ok (.iload 6, 2) := by decide +kernel
theorem dX11_goesDown_42 : decode cX11_goesDown 42 = .ok (.invokevirtual 197, 3) := by decide +kernel
theorem dX11_goesDown_45 : decode cX11_goesDown 45 = .ok (.iload_n 3, 1) := by decide +kernel
theorem dX11_goesDown_46 : decode cX11_goesDown 46 = .ok (.invokevirtual 212, 3) := by decide +kernel
theorem dX11_goesDown_49 : decode cX11_goesDown 49 = .ok (.istore 7, 2) := by decide +kernel
theorem dX11_goesDown_51 : decode cX11_goesDown 51 = .ok (.aload_n 0, 1) := by decide +kernel
theorem dX11_goesDown_52 : decode cX11_goesDown 52 = .ok (.getfield 39, 3) := by decide +kernel
theorem dX11_goesDown_55 : decode cX11_goesDown 55 = .ok (.bipush 7, 2) := by decide +kernel
theorem dX11_goesDown_57 : decode cX11_goesDown 57 = .ok (.iload 4, 2) := by decide +kernel
theorem dX11_goesDown_59 : decode cX11_goesDown 59 = .ok (.imul, 1) := by decide +kernel
theorem dX11_goesDown_60 : decode cX11_goesDown 60 = .ok (.iload 6, 2) := by decide +kernel
theorem dX11_goesDown_62 : decode cX11_goesDown 62 = .ok (.iadd, 1) := by decide +kernel
theorem dX11_goesDown_63 : decode cX11_goesDown 63 = .ok (.iload 7, 2) := by decide +kernel
theorem dX11_goesDown_65 : decode cX11_goesDown 65 = .ok (.iastore, 1) := by decide +kernel
theorem dX11_goesDown_66 : decode cX11_goesDown 66 = .ok (.aload_n 0, 1) := by decide +kernel
theorem dX11_goesDown_67 : decode cX11_goesDown 67 = .ok (.getfield 49, 3) := by decide +kernel
theorem dX11_goesDown_70 : decode cX11_goesDown 70 = .ok (.aload_n 0, 1) := by decide +kernel
theorem dX11_goesDown_71 : decode cX11_goesDown 71 = .ok (.getfield 215, 3) := by decide +kernel
theorem dX11_goesDown_74 : decode cX11_goesDown 74 = .ok (.iload 4, 2) := by decide +kernel
theorem dX11_goesDown_76 : decode cX11_goesDown 76 = .ok (.iastore, 1) := by decide +kernel
theorem dX11_goesDown_77 : decode cX11_goesDown 77 = .ok (.aload_n 0, 1) := by decide +kernel
theorem dX11_goesDown_78 : decode cX11_goesDown 78 = .ok (.getfield 52, 3) := by decide +kernel
theorem dX11_goesDown_81 : decode cX11_goesDown 81 = .ok (.aload_n 0, 1) := by decide +kernel
theorem dX11_goesDown_82 : decode cX11_goesDown 82 = .ok (.getfield 215, 3) := by decide +kernel
theorem dX11_goesDown_85 : decode cX11_goesDown 85 = .ok (.iload 6, 2) := by decide +kernel
theorem dX11_goesDown_87 : decode cX11_goesDown 87 = .ok (.iastore, 1) := by decide +kernel
theorem dX11_goesDown_88 : decode cX11_goesDown 88 = .ok (.aload_n 0, 1) := by decide +kernel
theorem dX11_goesDown_89 : decode cX11_goesDown 89 = .ok (.dup, 1) := by decide +kernel
theorem dX11_goesDown_90 : decode cX11_goesDown 90 = .ok (.getfield 215, 3) := by decide +kernel
theorem dX11_goesDown_93 : decode cX11_goesDown 93 = .ok (.iconst 1, 1) := by decide +kernel
theorem dX11_goesDown_94 : decode cX11_goesDown 94 = .ok (.iadd, 1) := by decide +kernel
theorem dX11_goesDown_95 : decode cX11_goesDown 95 = .ok (.putfield 215, 3) := by decide +kernel
theorem dX11_goesDown_98 : decode cX11_goesDown 98 = .ok (.iload 7, 2) := by decide +kernel
theorem dX11_goesDown_100 : decode cX11_goesDown 100 = .ok (.istore 4, 2) := by decide +kernel
theorem dX11_goesDown_102 : decode cX11_goesDown 102 = .ok (.goto (-85), 3) := by decide +kernel
theorem dX11_goesDown_105 : decode cX11_goesDown 105 = .ok (.aload_n 0, 1) := by decide +kernel
theorem dX11_goesDown_106 : decode cX11_goesDown 106 = .ok (.getfield 49, 3) := by decide +kernel
theorem dX11_goesDown_109 : decode cX11_goesDown 109 = .ok (.aload_n 0, 1) := by decide +kernel
theorem dX11_goesDown_110 : decode cX11_goesDown 110 = .ok (.getfield 215, 3) := by decide +kernel
theorem dX11_goesDown_113 : decode cX11_goesDown 113 = .ok (.iload 4, 2) := by decide +kernel
theorem dX11_goesDown_115 : decode cX11_goesDown 115 = .ok (.iastore, 1) := by decide +kernel
theorem dX11_goesDown_116 : decode cX11_goesDown 116 = .ok (.iload 5, 2) := by decide +kernel
theorem dX11_goesDown_118 : decode cX11_goesDown 118 = .ok (.ireturn, 1) := by decide +kernel
theorem dX11_parted_0 : decode cX11_parted 0 = .ok (.aload_n 0, 1) := by decide +kernel
theorem dX11_parted_1 : decode cX11_parted 1 = .ok (.aload_n 0, 1) := by decide +kernel
theorem dX11_parted_2 : decode cX11_parted 2 = .ok (.getfield 23, 3) := by decide +kernel
theorem dX11_parted_5 : decode cX11_parted 5 = .ok (.iload_n 1, 1) := by decide +kernel
theorem dX11_parted_6 : decode cX11_parted 6 = .ok (.iaload, 1) := by decide +kernel
theorem dX11_parted_7 : decode cX11_parted 7 = .ok (.iload_n 2, 1) := by decide +kernel
theorem dX11_parted_8 : decode cX11_parted 8 = .ok (.invokevirtual 193, 3) := by decide +kernel
theorem dX11_parted_11 : decode cX11_parted 11 = .ok (.istore_n 3, 1) := by decide +kernel
theorem dX11_parted_12 : decode cX11_parted 12 = .ok (.aload_n 0, 1) := by decide +kernel
theorem dX11_parted_13 : decode cX11_parted 13 = .ok (.getfield 45, 3) := by decide +kernel
theorem dX11_parted_16 : decode cX11_parted 16 = .ok (.iconst 1, 1) := by decide +kernel
theorem dX11_parted_17 : decode cX11_parted 17 = .ok (.iadd, 1) := by decide +kernel
theorem dX11_parted_18 : decode cX11_parted 18 = .ok (.iconst 2, 1) := by decide +kernel
theorem dX11_parted_19 : decode cX11_parted 19 = .ok (.idiv, 1) := by decide +kernel
theorem dX11_parted_20 : decode cX11_parted 20 = .ok (.istore 4, 2) := by decide +kernel
theorem dX11_parted_22 : decode cX11_parted 22 = .ok (.aload_n 0, 1) := by decide +kernel
theorem dX11_parted_23 : decode cX11_parted 23 = .ok (.getfield 26, 3) := by decide +kernel
theorem dX11_parted_26 : decode cX11_parted 26 = .ok (.iload_n 1, 1) := by decide +kernel
theorem dX11_parted_27 : decode cX11_parted 27 = .ok (.iaload, 1) := by decide +kernel
theorem dX11_parted_28 : decode cX11_parted 28 = .ok (.iload 4, 2) := by decide +kernel
theorem dX11_parted_30 : decode cX11_parted 30 = .ok (.isub, 1) := by decide +kernel
theorem dX11_parted_31 : decode cX11_parted 31 = .ok (.istore 5, 2) := by decide +kernel
theorem dX11_parted_33 : decode cX11_parted 33 = .ok (.iconst 0, 1) := by decide +kernel
theorem dX11_parted_34 : decode cX11_parted 34 = .ok (.istore 6, 2) := by decide +kernel
theorem dX11_parted_36 : decode cX11_parted 36 = .ok (.iload 6, 2) := by decide +kernel
theorem dX11_parted_38 : decode cX11_parted 38 = .ok (.iload 4, 2) := by decide +kernel
theorem dX11_parted_40 : decode cX11_parted 40 = .ok (.if_icmp .ge 63, 3) := by decide +kernel
theorem dX11_parted_43 : decode cX11_parted 43 = .ok (.aload_n 0, 1) := by decide +kernel
theorem dX11_parted_44 : decode cX11_parted 44 = .ok (.getfield 39, 3) := by decide +kernel
theorem dX11_parted_47 : decode cX11_parted 47 = .ok (.bipush 7, 2) := by decide +kernel
theorem dX11_parted_49 : decode cX11_parted 49 = .ok (.iload_n 3, 1) := by decide +kernel
theorem dX11_parted_50 : decode cX11_parted 50 = .ok (.imul, 1) := by decide +kernel
theorem dX11_parted_51 : decode cX11_parted 51 = .ok (.iload 6, 2) := by decide +kernel
theorem dX11_parted_53 : decode cX11_parted 53 = .ok (.iadd, 1) := by decide +kernel
theorem dX11_parted_54 : decode cX11_parted 54 = .ok (.aload_n 0, 1) := by decide +kernel
theorem dX11_parted_55 : decode cX11_parted 55 = .ok (.getfield 39, 3) := by decide +kernel
theorem dX11_parted_58 : decode cX11_parted 58 = .ok (.bipush 7, 2) := by decide +kernel
theorem dX11_parted_60 : decode cX11_parted 60 = .ok (.iload_n 1, 1) := by decide +kernel
theorem dX11_parted_61 : decode cX11_parted 61 = .ok (.imul, 1) := by decide +kernel
theorem dX11_parted_62 : decode cX11_parted 62 = .ok (.iload 5, 2) := by decide +kernel
theorem dX11_parted_64 : decode cX11_parted 64 = .ok (.iadd, 1) := by decide +kernel
theorem dX11_parted_65 : decode cX11_parted 65 = .ok (.iload 6, 2) := by decide +kernel
theorem dX11_parted_67 : decode cX11_parted 67 = .ok (.iadd, 1) := by decide +kernel
theorem dX11_parted_68 : decode cX11_parted 68 = .ok (.iaload, 1) := by decide +kernel
theorem dX11_parted_69 : decode cX11_parted 69 = .ok (.iastore, 1) := by decide +kernel
theorem dX11_parted_70 : decode cX11_parted 70 = .ok (.aload_n 0, 1) := by decide +kernel
theorem dX11_parted_71 : decode cX11_parted 71 = .ok (.getfield 42, 3) := by decide +kernel
theorem dX11_parted_74 : decode cX11_parted 74 = .ok (.bipush 7, 2) := by decide +kernel
theorem dX11_parted_76 : decode cX11_parted 76 = .ok (.iload_n 3, 1) := by decide +kernel
theorem dX11_parted_77 : decode cX11_parted 77 = .ok (.imul, 1) := by decide +kernel
theorem dX11_parted_78 : decode cX11_parted 78 = .ok (.iload 6, 2) := by decide +kernel
theorem dX11_parted_80 : decode cX11_parted 80 = .ok (.iadd, 1) := by decide +kernel
theorem dX11_parted_81 : decode cX11_parted 81 = .ok (.aload_n 0, 1) := by decide +kernel
theorem dX11_parted_82 : decode cX11_parted 82 = .ok (.getfield 42, 3) := by decide +kernel
theorem dX11_parted_85 : decode cX11_parted 85 = .ok (.bipush 7, 2) := by decide +kernel
theorem dX11_parted_87 : decode cX11_parted 87 = .ok (.iload_n 1, 1) := by decide +kernel
theorem dX11_parted_88 : decode cX11_parted 88 = .ok (.imul, 1) := by decide +kernel
theorem dX11_parted_89 : decode cX11_parted 89 = .ok (.iload 5, 2) := by decide +kernel
theorem dX11_parted_91 : decode cX11_parted 91 = .ok (.iadd, 1) := by decide +kernel
theorem dX11_parted_92 : decode cX11_parted 92 = .ok (.iload 6, 2) := by decide +kernel
theorem dX11_parted_94 : decode cX11_parted 94 = .ok (.iadd, 1) := by decide +kernel
theorem dX11_parted_95 : decode cX11_parted 95 = .ok (.iaload, 1) := by decide +kernel
theorem dX11_parted_96 : decode cX11_parted 96 = .ok (.iastore, 1) := by decide +kernel
theorem dX11_parted_97 : decode cX11_parted 97 = .ok (.iinc 6 1, 3) := by decide +kernel
theorem dX11_parted_100 : decode cX11_parted 100 = .ok (.goto (-64), 3) := by decide +kernel
theorem dX11_parted_103 : decode cX11_parted 103 = .ok (.aload_n 0, 1) := by decide +kernel
theorem dX11_parted_104 : decode cX11_parted 104 = .ok (.getfield 26, 3) := by decide +kernel
theorem dX11_parted_107 : decode cX11_parted 107 = .ok (.iload_n 3, 1) := by decide +kernel
theorem dX11_parted_108 : decode cX11_parted 108 = .ok (.iload 4, 2) := by decide +kernel
theorem dX11_parted_110 : decode cX11_parted 110 = .ok (.iastore, 1) := by decide +kernel
theorem dX11_parted_111 : decode cX11_parted 111 = .ok (.aload_n 0, 1) := by decide +kernel
theorem dX11_parted_112 : decode cX11_parted 112 = .ok (.getfield 26, 3) := by decide +kernel
theorem dX11_parted_115 : decode cX11_parted 115 = .ok (.iload_n 1, 1) := by decide +kernel
theorem dX11_parted_116 : decode cX11_parted 116 = .ok (.iload 5, 2) := by decide +kernel
theorem dX11_parted_118 : decode cX11_parted 118 = .ok (.iastore, 1) := by decide +kernel
theorem dX11_parted_119 : decode cX11_parted 119 = .ok (.iload_n 3, 1) := by decide +kernel
theorem dX11_parted_120 : decode cX11_parted 120 = .ok (.ireturn, 1) := by decide +kernel
theorem dX11_puts_0 : decode cX11_puts 0 = .ok (.aload_n 0, 1) := by decide +kernel
theorem dX11_puts_1 : decode cX11_puts 1 = .ok (.iload_n 1, 1) := by decide +kernel
theorem dX11_puts_2 : decode cX11_puts 2 = .ok (.iload_n 2, 1) := by decide +kernel
theorem dX11_puts_3 : decode cX11_puts 3 = .ok (.invokevirtual 218, 3) := by decide +kernel
theorem dX11_puts_6 : decode cX11_puts 6 = .ok (.iload_n 3, 1) := by decide +kernel
theorem dX11_puts_7 : decode cX11_puts 7 = .ok (.if_icmp .ne 5, 3) := by decide +kernel
theorem dX11_puts_10 : decode cX11_puts 10 = .ok (.iload_n 1, 1) := by decide +kernel
theorem dX11_puts_11 : decode cX11_puts 11 = .ok (.ireturn, 1) := by decide +kernel
theorem dX11_puts_12 : decode cX11_puts 12 = .ok (.aload_n 0, 1) := by decide +kernel
theorem dX11_puts_13 : decode cX11_puts 13 = .ok (.iload_n 1, 1) := by decide +kernel
theorem dX11_puts_14 : decode cX11_puts 14 = .ok (.iload_n 2, 1) := by decide +kernel
theorem dX11_puts_15 : decode cX11_puts 15 = .ok (.iload 4, 2) := by decide +kernel
theorem dX11_puts_17 : decode cX11_puts 17 = .ok (.invokevirtual 221, 3) := by decide +kernel
theorem dX11_puts_20 : decode cX11_puts 20 = .ok (.istore 5, 2) := by decide +kernel
theorem dX11_puts_22 : decode cX11_puts 22 = .ok (.aload_n 0, 1) := by decide +kernel
theorem dX11_puts_23 : decode cX11_puts 23 = .ok (.getfield 49, 3) := by decide +kernel
theorem dX11_puts_26 : decode cX11_puts 26 = .ok (.aload_n 0, 1) := by decide +kernel
theorem dX11_puts_27 : decode cX11_puts 27 = .ok (.getfield 215, 3) := by decide +kernel
theorem dX11_puts_30 : decode cX11_puts 30 = .ok (.iaload, 1) := by decide +kernel
theorem dX11_puts_31 : decode cX11_puts 31 = .ok (.istore 6, 2) := by decide +kernel
theorem dX11_puts_33 : decode cX11_puts 33 = .ok (.aload_n 0, 1) := by decide +kernel
theorem dX11_puts_34 : decode cX11_puts 34 = .ok (.iload 6, 2) := by decide +kernel
theorem dX11_puts_36 : decode cX11_puts 36 = .ok (.iload_n 2, 1) := by decide +kernel
theorem dX11_puts_37 : decode cX11_puts 37 = .ok (.invokevirtual 209, 3) := by decide +kernel
theorem dX11_puts_40 : decode cX11_puts 40 = .ok (.istore 7, 2) := by decide +kernel
theorem dX11_puts_42 : decode cX11_puts 42 = .ok (.iload 7, 2) := by decide +kernel
theorem dX11_puts_44 : decode cX11_puts 44 = .ok (.iconst (-1), 1) := by decide +kernel
theorem dX11_puts_45 : decode cX11_puts 45 = .ok (.if_icmp .eq 20, 3) := by decide +kernel
theorem dX11_puts_48 : decode cX11_puts 48 = .ok (.aload_n 0, 1) := by decide +kernel
theorem dX11_puts_49 : decode cX11_puts 49 = .ok (.getfield 42, 3) := by decide +kernel
theorem dX11_puts_52 : decode cX11_puts 52 = .ok (.bipush 7, 2) := by decide +kernel
theorem dX11_puts_54 : decode cX11_puts 54 = .ok (.iload 6, 2) := by decide +kernel
theorem dX11_puts_56 : decode cX11_puts 56 = .ok (.imul, 1) := by decide +kernel
theorem dX11_puts_57 : decode cX11_puts 57 = .ok (.iload 7, 2) := by decide +kernel
theorem dX11_puts_59 : decode cX11_puts 59 = .ok (.iadd, 1) := by decide +kernel
theorem dX11_puts_60 : decode cX11_puts 60 = .ok (.iload_n 3, 1) := by decide +kernel
theorem dX11_puts_61 : decode cX11_puts 61 = .ok (.iastore, 1) := by decide +kernel
theorem dX11_puts_62 : decode cX11_puts 62 = .ok (.iload 5, 2) := by decide +kernel
theorem dX11_puts_64 : decode cX11_puts 64 = .ok (.ireturn, 1) := by decide +kernel
theorem dX11_puts_65 : decode cX11_puts 65 = .ok (.iconst 0, 1) := by decide +kernel
theorem dX11_puts_66 : decode cX11_puts 66 = .ok (.istore 7, 2) := by decide +kernel
theorem dX11_puts_68 : decode cX11_puts 68 = .ok (.iload 7, 2) := by decide +kernel
theorem dX11_puts_70 : decode cX11_puts 70 = .ok (.aload_n 0, 1) := by decide +kernel
theorem dX11_puts_71 : decode cX11_puts 71 = .ok (.getfield 26, 3) := by decide +kernel
theorem dX11_puts_74 : decode cX11_puts 74 = .ok (.iload 6, 2) := by decide +kernel
theorem dX11_puts_76 : decode cX11_puts 76 = .ok (.iaload, 1) := by decide +kernel
theorem dX11_puts_77 : decode cX11_puts 77 = .ok (.if_icmp .ge 26, 3) := by decide +kernel
theorem dX11_puts_80 : decode cX11_puts 80 = .ok (.aload_n 0, 1) := by decide +kernel
theorem dX11_puts_81 : decode cX11_puts 81 = .ok (.getfield 39, 3) := by decide +kernel
theorem dX11_puts_84 : decode cX11_puts 84 = .ok (.bipush 7, 2) := by decide +kernel
theorem dX11_puts_86 : decode cX11_puts 86 = .ok (.iload 6, 2) := by decide +kernel
theorem dX11_puts_88 : decode cX11_puts 88 = .ok (.imul, 1) := by decide +kernel
theorem dX11_puts_89 : decode cX11_puts 89 = .ok (.iload 7, 2) := by decide +kernel
theorem dX11_puts_91 : decode cX11_puts 91 = .ok (.iadd, 1) := by decide +kernel
theorem dX11_puts_92 : decode cX11_puts 92 = .ok (.iaload, 1) := by decide +kernel
theorem dX11_puts_93 : decode cX11_puts 93 = .ok (.iload_n 2, 1) := by decide +kernel
theorem dX11_puts_94 : decode cX11_puts 94 = .ok (.if_icmp .ge 9, 3) := by decide +kernel
theorem dX11_puts_97 : decode cX11_puts 97 = .ok (.iinc 7 1, 3) := by decide +kernel
theorem dX11_puts_100 : decode cX11_puts 100 = .ok (.goto (-32), 3) := by decide +kernel
theorem dX11_puts_103 : decode cX11_puts 103 = .ok (.aload_n 0, 1) := by decide +kernel
theorem dX11_puts_104 : decode cX11_puts 104 = .ok (.iload 6, 2) := by decide +kernel
theorem dX11_puts_106 : decode cX11_puts 106 = .ok (.iload 7, 2) := by decide +kernel
theorem dX11_puts_108 : decode cX11_puts 108 = .ok (.iload_n 2, 1) := by decide +kernel
theorem dX11_puts_109 : decode cX11_puts 109 = .ok (.iload_n 3, 1) := by decide +kernel
theorem dX11_puts_110 : decode cX11_puts 110 = .ok (.invokevirtual 225, 3) := by decide +kernel
theorem dX11_puts_113 : decode cX11_puts 113 = .ok (.aload_n 0, 1) := by decide +kernel
theorem dX11_puts_114 : decode cX11_puts 114 = .ok (.getfield 215, 3) := by decide +kernel
theorem dX11_puts_117 : decode cX11_puts 117 = .ok (.istore 8, 2) := by decide +kernel
theorem dX11_puts_119 : decode cX11_puts 119 = .ok (.iload 8, 2) := by decide +kernel
theorem dX11_puts_121 : decode cX11_puts 121 = .ok (.ifCond .lt 115, 3) := by decide +kernel
theorem dX11_puts_124 : decode cX11_puts 124 = .ok (.aload_n 0, 1) := by decide +kernel
theorem dX11_puts_125 : decode cX11_puts 125 = .ok (.getfield 26, 3) := by decide +kernel
theorem dX11_puts_128 : decode cX11_puts 128 = .ok (.aload_n 0, 1) := by decide +kernel
theorem dX11_puts_129 : decode cX11_puts 129 = .ok (.getfield 49, 3) := by decide +kernel
theorem dX11_puts_132 : decode cX11_puts 132 = .ok (.iload 8, 2) := by decide +kernel
theorem dX11_puts_134 : decode cX11_puts 134 = .ok (.iaload, 1) := by decide +kernel
theorem dX11_puts_135 : decode cX11_puts 135 = .ok (.iaload, 1) := by decide +kernel
theorem dX11_puts_136 : decode cX11_puts 136 = .ok (.aload_n 0, 1) := by decide +kernel
theorem dX11_puts_137 : decode cX11_puts 137 = .ok (.getfield 45, 3) := by decide +kernel
theorem dX11_puts_140 : decode cX11_puts 140 = .ok (.if_icmp .le 96, 3) := by decide +kernel
theorem dX11_puts_143 : decode cX11_puts 143 = .ok (.aload_n 0, 1) := by decide +kernel
theorem dX11_puts_144 : decode cX11_puts 144 = .ok (.aload_n 0, 1) := by decide +kernel
theorem dX11_puts_145 : decode cX11_puts 145 = .ok (.getfield 49, 3) := by decide +kernel
theorem dX11_puts_148 : decode cX11_puts 148 = .ok (.iload 8, 2) := by decide +kernel
theorem dX11_puts_150 : decode cX11_puts 150 = .ok (.iaload, 1) := by decide +kernel
theorem dX11_puts_151 : decode cX11_puts 151 = .ok (.iload 4, 2) := by decide +kernel
theorem dX11_puts_153 : decode cX11_puts 153 = .ok (.invokevirtual 229, 3) := by decide +kernel
theorem dX11_puts_156 : decode cX11_puts 156 = .ok (.istore 9, 2) := by decide +kernel
theorem dX11_puts_158 : decode cX11_puts 158 = .ok (.iload 8, 2) := by decide +kernel
theorem dX11_puts_160 : decode cX11_puts 160 = .ok (.ifCond .le 33, 3) := by decide +kernel
theorem dX11_puts_163 : decode cX11_puts 163 = .ok (.aload_n 0, 1) := by decide +kernel
theorem dX11_puts_164 : decode cX11_puts 164 = .ok (.aload_n 0, 1) := by decide +kernel
theorem dX11_puts_165 : decode cX11_puts 165 = .ok (.getfield 49, 3) := by decide +kernel
theorem dX11_puts_168 : decode cX11_puts 168 = .ok (.iload 8, 2) := by decide +kernel
theorem dX11_puts_170 : decode cX11_puts 170 = .ok (.iconst 1, 1) := by decide +kernel
theorem dX11_puts_171 : decode cX11_puts 171 = .ok (.isub, 1) := by decide +kernel
theorem dX11_puts_172 : decode cX11_puts 172 = .ok (.iaload, 1) := by decide +kernel
theorem dX11_puts_173 : decode cX11_puts 173 = .ok (.aload_n 0, 1) := by decide +kernel
theorem dX11_puts_174 : decode cX11_puts 174 = .ok (.getfield 52, 3) := by decide +kernel
theorem dX11_puts_177 : decode cX11_puts 177 = .ok (.iload 8, 2) := by decide +kernel
theorem dX11_puts_179 : decode cX11_puts 179 = .ok (.iconst 1, 1) := by decide +kernel
theorem dX11_puts_180 : decode cX11_puts 180 = .ok (.isub, 1) := by decide +kernel
theorem dX11_puts_181 : decode cX11_puts 181 = .ok (.iaload, 1) := by decide +kernel
theorem dX11_puts_182 : decode cX11_puts 182 = .ok (.iconst 1, 1) := by decide +kernel
theorem dX11_puts_183 : decode cX11_puts 183 = .ok (.iadd, 1) := by decide +kernel
theorem dX11_puts_184 : decode cX11_puts 184 = .ok (.iload 9, 2) := by decide +kernel
theorem dX11_puts_186 : decode cX11_puts 186 = .ok (.iconst 0, 1) := by decide +kernel
theorem dX11_puts_187 : decode cX11_puts 187 = .ok (.invokevirtual 225, 3) := by decide +kernel
theorem dX11_puts_190 : decode cX11_puts 190 = .ok (.goto 40, 3) := by decide +kernel
theorem dX11_puts_193 : decode cX11_puts 193 = .ok (.aload_n 0, 1) := by decide +kernel
theorem dX11_puts_194 : decode cX11_puts 194 = .ok (.iconst 0, 1) := by decide +kernel
theorem dX11_puts_195 : decode cX11_puts 195 = .ok (.iload 4, 2) := by decide +kernel
theorem dX11_puts_197 : decode cX11_puts 197 = .ok (.invokevirtual 193, 3) := by decide +kernel
theorem dX11_puts_200 : decode cX11_puts 200 = .ok (.istore 10, 2) := by decide +kernel
theorem dX11_puts_202 : decode cX11_puts 202 = .ok (.aload_n 0, 1) := by decide +kernel
theorem dX11_puts_203 : decode cX11_puts 203 = .ok (.iload 10, 2) := by decide +kernel
theorem dX11_puts_205 : decode cX11_puts 205 = .ok (.iconst 0, 1) := by decide +kernel
theorem dX11_puts_206 : decode cX11_puts 206 = .ok (.aload_n 0, 1) := by decide +kernel
theorem dX11_puts_207 : decode cX11_puts 207 = .ok (.getfield 49, 3) := by decide +kernel
theorem dX11_puts_210 : decode cX11_puts 210 = .ok (.iconst 0, 1) := by decide +kernel
theorem dX11_puts_211 : decode cX11_puts 211 = .ok (.iaload, 1) := by decide +kernel
theorem dX11_puts_212 : decode cX11_puts 212 = .ok (.iconst 0, 1) := by decide +kernel
theorem dX11_puts_213 : decode cX11_puts 213 = .ok (.invokevirtual 225, 3) := by decide +kernel
theorem dX11_puts_216 : decode cX11_puts 216 = .ok (.aload_n 0, 1) := by decide +kernel
theorem dX11_puts_217 : decode cX11_puts 217 = .ok (.iload 10, 2) := by decide +kernel
theorem dX11_puts_219 : decode cX11_puts 219 = .ok (.iconst 1, 1) := by decide +kernel
theorem dX11_puts_220 : decode cX11_puts 220 = .ok (.iload 9, 2) := by decide +kernel
theorem dX11_puts_222 : decode cX11_puts 222 = .ok (.iconst 0, 1) := by decide +kernel
theorem dX11_puts_223 : decode cX11_puts 223 = .ok (.invokevirtual 225, 3) := by decide +kernel
theorem dX11_puts_226 : decode cX11_puts 226 = .ok (.iload 10, 2) := by decide +kernel
theorem dX11_puts_228 : decode cX11_puts 228 = .ok (.istore 5, 2) := by decide +kernel
theorem dX11_puts_230 : decode cX11_puts 230 = .ok (.iinc 8 (-1), 3) := by decide +kernel
theorem dX11_puts_233 : decode cX11_puts 233 = .ok (.goto (-114), 3) := by decide +kernel
theorem dX11_puts_236 : decode cX11_puts 236 = .ok (.iload 5, 2) := by decide +kernel
theorem dX11_puts_238 : decode cX11_puts 238 = .ok (.ireturn, 1) := by decide +kernel
theorem dX11_fills_0 : decode cX11_fills 0 = .ok (.aload_n 0, 1) := by decide +kernel
theorem dX11_fills_1 : decode cX11_fills 1 = .ok (.iload_n 1, 1) := by decide +kernel
theorem dX11_fills_2 : decode cX11_fills 2 = .ok (.iload_n 2, 1) := by decide +kernel
theorem dX11_fills_3 : decode cX11_fills 3 = .ok (.invokevirtual 197, 3) := by decide +kernel
theorem dX11_fills_6 : decode cX11_fills 6 = .ok (.istore 4, 2) := by decide +kernel
theorem dX11_fills_8 : decode cX11_fills 8 = .ok (.iload_n 2, 1) := by decide +kernel
theorem dX11_fills_9 : decode cX11_fills 9 = .ok (.ifCond .le 14, 3) := by decide +kernel
theorem dX11_fills_12 : decode cX11_fills 12 = .ok (.aload_n 0, 1) := by decide +kernel
theorem dX11_fills_13 : decode cX11_fills 13 = .ok (.iload_n 1, 1) := by decide +kernel
theorem dX11_fills_14 : decode cX11_fills 14 = .ok (.iload_n 2, 1) := by decide +kernel
theorem dX11_fills_15 : decode cX11_fills 15 = .ok (.iconst 1, 1) := by decide +kernel
theorem dX11_fills_16 : decode cX11_fills 16 = .ok (.isub, 1) := by decide +kernel
theorem dX11_fills_17 : decode cX11_fills 17 = .ok (.invokevirtual 197, 3) := by decide +kernel
theorem dX11_fills_20 : decode cX11_fills 20 = .ok (.goto 4, 3) := by decide +kernel
theorem dX11_fills_23 : decode cX11_fills 23 = .ok (.iconst (-1), 1) := by decide +kernel
theorem dX11_fills_24 : decode cX11_fills 24 = .ok (.istore 5, 2) := by decide +kernel
theorem dX11_fills_26 : decode cX11_fills 26 = .ok (.iload_n 2, 1) := by decide +kernel
theorem dX11_fills_27 : decode cX11_fills 27 = .ok (.iconst 1, 1) := by decide +kernel
theorem dX11_fills_28 : decode cX11_fills 28 = .ok (.iadd, 1) := by decide +kernel
theorem dX11_fills_29 : decode cX11_fills 29 = .ok (.aload_n 0, 1) := by decide +kernel
theorem dX11_fills_30 : decode cX11_fills 30 = .ok (.getfield 26, 3) := by decide +kernel
theorem dX11_fills_33 : decode cX11_fills 33 = .ok (.iload_n 1, 1) := by decide +kernel
theorem dX11_fills_34 : decode cX11_fills 34 = .ok (.iaload, 1) := by decide +kernel
theorem dX11_fills_35 : decode cX11_fills 35 = .ok (.if_icmp .ge 14, 3) := by decide +kernel
theorem dX11_fills_38 : decode cX11_fills 38 = .ok (.aload_n 0, 1) := by decide +kernel
theorem dX11_fills_39 : decode cX11_fills 39 = .ok (.iload_n 1, 1) := by decide +kernel
theorem dX11_fills_40 : decode cX11_fills 40 = .ok (.iload_n 2, 1) := by decide +kernel
theorem dX11_fills_41 : decode cX11_fills 41 = .ok (.iconst 1, 1) := by decide +kernel
theorem dX11_fills_42 : decode cX11_fills 42 = .ok (.iadd, 1) := by decide +kernel
theorem dX11_fills_43 : decode cX11_fills 43 = .ok (.invokevirtual 197, 3) := by decide +kernel
theorem dX11_fills_46 : decode cX11_fills 46 = .ok (.goto 4, 3) := by decide +kernel
theorem dX11_fills_49 : decode cX11_fills 49 = .ok (.iconst (-1), 1) := by decide +kernel
theorem dX11_fills_50 : decode cX11_fills 50 = .ok (.istore 6, 2) := by decide +kernel
theorem dX11_fills_52 : decode cX11_fills 52 = .ok (.iload 5, 2) := by decide +kernel
theorem dX11_fills_54 : decode cX11_fills 54 = .ok (.iconst (-1), 1) := by decide +kernel
theorem dX11_fills_55 : decode cX11_fills 55 = .ok (.if_icmp .eq 93, 3) := by decide +kernel
theorem dX11_fills_58 : decode cX11_fills 58 = .ok (.aload_n 0, 1) := by decide +kernel
theorem dX11_fills_59 : decode cX11_fills 59 = .ok (.getfield 26, 3) := by decide +kernel
theorem dX11_fills_62 : decode cX11_fills 62 = .ok (.iload 5, 2) := by decide +kernel
theorem dX11_fills_64 : decode cX11_fills 64 = .ok (.iaload, 1) := by decide +kernel
theorem dX11_fills_65 : decode cX11_fills 65 = .ok (.aload_n 0, 1) := by decide +kernel
theorem dX11_fills_66 : decode cX11_fills 66 = .ok (.invokevirtual 232, 3) := by decide +kernel
theorem dX11_fills_69 : decode cX11_fills 69 = .ok (.if_icmp .le 79, 3) := by decide +kernel
theorem dX11_fills_72 : decode cX11_fills 72 = .ok (.aload_n 0, 1) := by decide +kernel
theorem dX11_fills_73 : decode cX11_fills 73 = .ok (.iload 5, 2) := by decide +kernel
theorem dX11_fills_75 : decode cX11_fills 75 = .ok (.iload_n 3, 1) := by decide +kernel
theorem dX11_fills_76 : decode cX11_fills 76 = .ok (.invokevirtual 212, 3) := by decide +kernel
theorem dX11_fills_79 : decode cX11_fills 79 = .ok (.istore 5, 2) := by decide +kernel
theorem dX11_fills_81 : decode cX11_fills 81 = .ok (.aload_n 0, 1) := by decide +kernel
theorem dX11_fills_82 : decode cX11_fills 82 = .ok (.getfield 39, 3) := by decide +kernel
theorem dX11_fills_85 : decode cX11_fills 85 = .ok (.bipush 7, 2) := by decide +kernel
theorem dX11_fills_87 : decode cX11_fills 87 = .ok (.iload_n 1, 1) := by decide +kernel
theorem dX11_fills_88 : decode cX11_fills 88 = .ok (.imul, 1) := by decide +kernel
theorem dX11_fills_89 : decode cX11_fills 89 = .ok (.iload_n 2, 1) := by decide +kernel
theorem dX11_fills_90 : decode cX11_fills 90 = .ok (.iadd, 1) := by decide +kernel
theorem dX11_fills_91 : decode cX11_fills 91 = .ok (.iconst 1, 1) := by decide +kernel
theorem dX11_fills_92 : decode cX11_fills 92 = .ok (.isub, 1) := by decide +kernel
theorem dX11_fills_93 : decode cX11_fills 93 = .ok (.iload 5, 2) := by decide +kernel
theorem dX11_fills_95 : decode cX11_fills 95 = .ok (.iastore, 1) := by decide +kernel
theorem dX11_fills_96 : decode cX11_fills 96 = .ok (.bipush 7, 2) := by decide +kernel
theorem dX11_fills_98 : decode cX11_fills 98 = .ok (.iload 5, 2) := by decide +kernel
theorem dX11_fills_100 : decode cX11_fills 100 = .ok (.imul, 1) := by decide +kernel
theorem dX11_fills_101 : decode cX11_fills 101 = .ok (.aload_n 0, 1) := by decide +kernel
theorem dX11_fills_102 : decode cX11_fills 102 = .ok (.getfield 26, 3) := by decide +kernel
theorem dX11_fills_105 : decode cX11_fills 105 = .ok (.iload 5, 2) := by decide +kernel
theorem dX11_fills_107 : decode cX11_fills 107 = .ok (.iaload, 1) := by decide +kernel
theorem dX11_fills_108 : decode cX11_fills 108 = .ok (.iadd, 1) := by decide +kernel
theorem dX11_fills_109 : decode cX11_fills 109 = .ok (.iconst 1, 1) := by decide +kernel
theorem dX11_fills_110 : decode cX11_fills 110 = .ok (.isub, 1) := by decide +kernel
theorem dX11_fills_111 : decode cX11_fills 111 = .ok (.istore 7, 2) := by decide +kernel
theorem dX11_fills_113 : decode cX11_fills 113 = .ok (.aload_n 0, 1) := by decide +kernel
theorem dX11_fills_114 : decode cX11_fills 114 = .ok (.iload 4, 2) := by decide +kernel
theorem dX11_fills_116 : decode cX11_fills 116 = .ok (.iconst 0, 1) := by decide +kernel
theorem dX11_fills_117 : decode cX11_fills 117 = .ok (.aload_n 0, 1) := by decide +kernel
theorem dX11_fills_118 : decode cX11_fills 118 = .ok (.getfield 39, 3) := by decide +kernel
theorem dX11_fills_121 : decode cX11_fills 121 = .ok (.iload 7, 2) := by decide +kernel
theorem dX11_fills_123 : decode cX11_fills 123 = .ok (.iaload, 1) := by decide +kernel
theorem dX11_fills_124 : decode cX11_fills 124 = .ok (.aload_n 0, 1) := by decide +kernel
theorem dX11_fills_125 : decode cX11_fills 125 = .ok (.getfield 42, 3) := by decide +kernel
theorem dX11_fills_128 : decode cX11_fills 128 = .ok (.iload 7, 2) := by decide +kernel
theorem dX11_fills_130 : decode cX11_fills 130 = .ok (.iaload, 1) := by decide +kernel
theorem dX11_fills_131 : decode cX11_fills 131 = .ok (.invokevirtual 225, 3) := by decide +kernel
theorem dX11_fills_134 : decode cX11_fills 134 = .ok (.aload_n 0, 1) := by decide +kernel
theorem dX11_fills_135 : decode cX11_fills 135 = .ok (.getfield 26, 3) := by decide +kernel
theorem dX11_fills_138 : decode cX11_fills 138 = .ok (.iload 5, 2) := by decide +kernel
theorem dX11_fills_140 : decode cX11_fills 140 = .ok (.dup2, 1) := by decide +kernel
theorem dX11_fills_141 : decode cX11_fills 141 = .ok (.iaload, 1) := by decide +kernel
theorem dX11_fills_142 : decode cX11_fills 142 = .ok (.iconst 1, 1) := by decide +kernel
theorem dX11_fills_143 : decode cX11_fills 143 = .ok (.isub, 1) := by decide +kernel
theorem dX11_fills_144 : decode cX11_fills 144 = .ok (.iastore, 1) := by decide +kernel
theorem dX11_fills_145 : decode cX11_fills 145 = .ok (.goto 257, 3) := by decide +kernel
theorem dX11_fills_148 : decode cX11_fills 148 = .ok (.iload 6, 2) := by decide +kernel
theorem dX11_fills_150 : decode cX11_fills 150 = .ok (.iconst (-1), 1) := by decide +kernel
theorem dX11_fills_151 : decode cX11_fills 151 = .ok (.if_icmp .eq 84, 3) := by decide +kernel
theorem dX11_fills_154 : decode cX11_fills 154 = .ok (.aload_n 0, 1) := by decide +kernel
theorem dX11_fills_155 : decode cX11_fills 155 = .ok (.getfield 26, 3) := by decide +kernel
theorem dX11_fills_158 : decode cX11_fills 158 = .ok (.iload 6, 2) := by decide +kernel
theorem dX11_fills_160 : decode cX11_fills 160 = .ok (.iaload, 1) := by decide +kernel
theorem dX11_fills_161 : decode cX11_fills 161 = .ok (.aload_n 0, 1) := by decide +kernel
theorem dX11_fills_162 : decode cX11_fills 162 = .ok (.invokevirtual 232, 3) := by decide +kernel
theorem dX11_fills_165 : decode cX11_fills 165 = .ok (.if_icmp .le 70, 3) := by decide +kernel
theorem dX11_fills_168 : decode cX11_fills 168 = .ok (.aload_n 0, 1) := by decide +kernel
theorem dX11_fills_169 : decode cX11_fills 169 = .ok (.iload 6, 2) := by decide +kernel
theorem dX11_fills_171 : decode cX11_fills 171 = .ok (.iload_n 3, 1) := by decide +kernel
theorem dX11_fills_172 : decode cX11_fills 172 = .ok (.invokevirtual 212, 3) := by decide +kernel
theorem dX11_fills_175 : decode cX11_fills 175 = .ok (.istore 6, 2) := by decide +kernel
theorem dX11_fills_177 : decode cX11_fills 177 = .ok (.aload_n 0, 1) := by decide +kernel
theorem dX11_fills_178 : decode cX11_fills 178 = .ok (.getfield 39, 3) := by decide +kernel
theorem dX11_fills_181 : decode cX11_fills 181 = .ok (.bipush 7, 2) := by decide +kernel
theorem dX11_fills_183 : decode cX11_fills 183 = .ok (.iload_n 1, 1) := by decide +kernel
theorem dX11_fills_184 : decode cX11_fills 184 = .ok (.imul, 1) := by decide +kernel
theorem dX11_fills_185 : decode cX11_fills 185 = .ok (.iload_n 2, 1) := by decide +kernel
theorem dX11_fills_186 : decode cX11_fills 186 = .ok (.iadd, 1) := by decide +kernel
theorem dX11_fills_187 : decode cX11_fills 187 = .ok (.iconst 1, 1) := by decide +kernel
theorem dX11_fills_188 : decode cX11_fills 188 = .ok (.iadd, 1) := by decide +kernel
theorem dX11_fills_189 : decode cX11_fills 189 = .ok (.iload 6, 2) := by decide +kernel
theorem dX11_fills_191 : decode cX11_fills 191 = .ok (.iastore, 1) := by decide +kernel
theorem dX11_fills_192 : decode cX11_fills 192 = .ok (.aload_n 0, 1) := by decide +kernel
theorem dX11_fills_193 : decode cX11_fills 193 = .ok (.iload 4, 2) := by decide +kernel
theorem dX11_fills_195 : decode cX11_fills 195 = .ok (.aload_n 0, 1) := by decide +kernel
theorem dX11_fills_196 : decode cX11_fills 196 = .ok (.getfield 26, 3) := by decide +kernel
theorem dX11_fills_199 : decode cX11_fills 199 = .ok (.iload 4, 2) := by decide +kernel
theorem dX11_fills_201 : decode cX11_fills 201 = .ok (.iaload, 1) := by decide +kernel
theorem dX11_fills_202 : decode cX11_fills 202 = .ok (.aload_n 0, 1) := by decide +kernel
theorem dX11_fills_203 : decode cX11_fills 203 = .ok (.getfield 39, 3) := by decide +kernel
theorem dX11_fills_206 : decode cX11_fills 206 = .ok (.bipush 7, 2) := by decide +kernel
theorem dX11_fills_208 : decode cX11_fills 208 = .ok (.iload 6, 2) := by decide +kernel
theorem dX11_fills_210 : decode cX11_fills 210 = .ok (.imul, 1) := by decide +kernel
theorem dX11_fills_211 : decode cX11_fills 211 = .ok (.iaload, 1) := by decide +kernel
theorem dX11_fills_212 : decode cX11_fills 212 = .ok (.aload_n 0, 1) := by decide +kernel
theorem dX11_fills_213 : decode cX11_fills 213 = .ok (.getfield 42, 3) := by decide +kernel
theorem dX11_fills_216 : decode cX11_fills 216 = .ok (.bipush 7, 2) := by decide +kernel
theorem dX11_fills_218 : decode cX11_fills 218 = .ok (.iload 6, 2) := by decide +kernel
theorem dX11_fills_220 : decode cX11_fills 220 = .ok (.imul, 1) := by decide +kernel
theorem dX11_fills_221 : decode cX11_fills 221 = .ok (.iaload, 1) := by decide +kernel
theorem dX11_fills_222 : decode cX11_fills 222 = .ok (.invokevirtual 225, 3) := by decide +kernel
theorem dX11_fills_225 : decode cX11_fills 225 = .ok (.aload_n 0, 1) := by decide +kernel
theorem dX11_fills_226 : decode cX11_fills 226 = .ok (.iload 6, 2) := by decide +kernel
theorem dX11_fills_228 : decode cX11_fills 228 = .ok (.iconst 0, 1) := by decide +kernel
theorem dX11_fills_229 : decode cX11_fills 229 = .ok (.invokevirtual 235, 3) := by decide +kernel
theorem dX11_fills_232 : decode cX11_fills 232 = .ok (.goto 170, 3) := by decide +kernel
theorem dX11_fills_235 : decode cX11_fills 235 = .ok (.iload 5, 2) := by decide +kernel
theorem dX11_fills_237 : decode cX11_fills 237 = .ok (.iconst (-1), 1) := by decide +kernel
theorem dX11_fills_238 : decode cX11_fills 238 = .ok (.if_icmp .eq 96, 3) := by decide +kernel
theorem dX11_fills_241 : decode cX11_fills 241 = .ok (.aload_n 0, 1) := by decide +kernel
theorem dX11_fills_242 : decode cX11_fills 242 = .ok (.iload 5, 2) := by decide +kernel
theorem dX11_fills_244 : decode cX11_fills 244 = .ok (.iload_n 3, 1) := by decide +kernel
theorem dX11_fills_245 : decode cX11_fills 245 = .ok (.invokevirtual 212, 3) := by decide +kernel
theorem dX11_fills_248 : decode cX11_fills 248 = .ok (.istore 5, 2) := by decide +kernel
theorem dX11_fills_250 : decode cX11_fills 250 = .ok (.aload_n 0, 1) := by decide +kernel
theorem dX11_fills_251 : decode cX11_fills 251 = .ok (.getfield 39, 3) := by decide +kernel
theorem dX11_fills_254 : decode cX11_fills 254 = .ok (.bipush 7, 2) := by decide +kernel
theorem dX11_fills_256 : decode cX11_fills 256 = .ok (.iload_n 1, 1) := by decide +kernel
theorem dX11_fills_257 : decode cX11_fills 257 = .ok (.imul, 1) := by decide +kernel
theorem dX11_fills_258 : decode cX11_fills 258 = .ok (.iload_n 2, 1) := by decide +kernel
theorem dX11_fills_259 : decode cX11_fills 259 = .ok (.iadd, 1) := by decide +kernel
theorem dX11_fills_260 : decode cX11_fills 260 = .ok (.iconst 1, 1) := by decide +kernel
theorem dX11_fills_261 : decode cX11_fills 261 = .ok (.isub, 1) := by decide +kernel
theorem dX11_fills_262 : decode cX11_fills 262 = .ok (.iload 5, 2) := by decide +kernel
theorem dX11_fills_264 : decode cX11_fills 264 = .ok (.iastore, 1) := by decide +kernel
theorem dX11_fills_265 : decode cX11_fills 265 = .ok (.iconst 0, 1) := by decide +kernel
theorem dX11_fills_266 : decode cX11_fills 266 = .ok (.istore 7, 2) := by decide +kernel
theorem dX11_fills_268 : decode cX11_fills 268 = .ok (.iload 7, 2) := by decide +kernel
theorem dX11_fills_270 : decode cX11_fills 270 = .ok (.aload_n 0, 1) := by decide +kernel
theorem dX11_fills_271 : decode cX11_fills 271 = .ok (.getfield 26, 3) := by decide +kernel
theorem dX11_fills_274 : decode cX11_fills 274 = .ok (.iload 4, 2) := by decide +kernel
theorem dX11_fills_276 : decode cX11_fills 276 = .ok (.iaload, 1) := by decide +kernel
theorem dX11_fills_277 : decode cX11_fills 277 = .ok (.if_icmp .ge 48, 3) := by decide +kernel
theorem dX11_fills_280 : decode cX11_fills 280 = .ok (.aload_n 0, 1) := by decide +kernel
theorem dX11_fills_281 : decode cX11_fills 281 = .ok (.iload 5, 2) := by decide +kernel
theorem dX11_fills_283 : decode cX11_fills 283 = .ok (.aload_n 0, 1) := by decide +kernel
theorem dX11_fills_284 : decode cX11_fills 284 = .ok (.getfield 26, 3) := by decide +kernel
theorem dX11_fills_287 : decode cX11_fills 287 = .ok (.iload 5, 2) := by decide +kernel
theorem dX11_fills_289 : decode cX11_fills 289 = .ok (.iaload, 1) := by decide +kernel
theorem dX11_fills_290 : decode cX11_fills 290 = .ok (.aload_n 0, 1) := by decide +kernel
theorem dX11_fills_291 : decode cX11_fills 291 = .ok (.getfield 39, 3) := by decide +kernel
theorem dX11_fills_294 : decode cX11_fills 294 = .ok (.bipush 7, 2) := by decide +kernel
theorem dX11_fills_296 : decode cX11_fills 296 = .ok (.iload 4, 2) := by decide +kernel
theorem dX11_fills_298 : decode cX11_fills 298 = .ok (.imul, 1) := by decide +kernel
theorem dX11_fills_299 : decode cX11_fills 299 = .ok (.iload 7, 2) := by decide +kernel
theorem dX11_fills_301 : decode cX11_fills 301 = .ok (.iadd, 1) := by decide +kernel
theorem dX11_fills_302 : decode cX11_fills 302 = .ok (.iaload, 1) := by decide +kernel
theorem dX11_fills_303 : decode cX11_fills 303 = .ok (.aload_n 0, 1) := by decide +kernel
theorem dX11_fills_304 : decode cX11_fills 304 = .ok (.getfield 42, 3) := by decide +kernel
theorem dX11_fills_307 : decode cX11_fills 307 = .ok (.bipush 7, 2) := by decide +kernel
theorem dX11_fills_309 : decode cX11_fills 309 = .ok (.iload 4, 2) := by decide +kernel
theorem dX11_fills_311 : decode cX11_fills 311 = .ok (.imul, 1) := by decide +kernel
theorem dX11_fills_312 : decode cX11_fills 312 = .ok (.iload 7, 2) := by decide +kernel
theorem dX11_fills_314 : decode cX11_fills 314 = .ok (.iadd, 1) := by decide +kernel
theorem dX11_fills_315 : decode cX11_fills 315 = .ok (.iaload, 1) := by decide +kernel
theorem dX11_fills_316 : decode cX11_fills 316 = .ok (.invokevirtual 225, 3) := by decide +kernel
theorem dX11_fills_319 : decode cX11_fills 319 = .ok (.iinc 7 1, 3) := by decide +kernel
theorem dX11_fills_322 : decode cX11_fills 322 = .ok (.goto (-54), 3) := by decide +kernel
theorem dX11_fills_325 : decode cX11_fills 325 = .ok (.aload_n 0, 1) := by decide +kernel
theorem dX11_fills_326 : decode cX11_fills 326 = .ok (.iload_n 1, 1) := by decide +kernel
theorem dX11_fills_327 : decode cX11_fills 327 = .ok (.iload_n 2, 1) := by decide +kernel
theorem dX11_fills_328 : decode cX11_fills 328 = .ok (.invokevirtual 235, 3) := by decide +kernel
theorem dX11_fills_331 : decode cX11_fills 331 = .ok (.goto 71, 3) := by decide +kernel
theorem dX11_fills_334 : decode cX11_fills 334 = .ok (.iconst 0, 1) := by decide +kernel
theorem dX11_fills_335 : decode cX11_fills 335 = .ok (.istore 7, 2) := by decide +kernel
theorem dX11_fills_337 : decode cX11_fills 337 = .ok (.iload 7, 2) := by decide +kernel
theorem dX11_fills_339 : decode cX11_fills 339 = .ok (.aload_n 0, 1) := by decide +kernel
theorem dX11_fills_340 : decode cX11_fills 340 = .ok (.getfield 26, 3) := by decide +kernel
theorem dX11_fills_343 : decode cX11_fills 343 = .ok (.iload 6, 2) := by decide +kernel
theorem dX11_fills_345 : decode cX11_fills 345 = .ok (.iaload, 1) := by decide +kernel
theorem dX11_fills_346 : decode cX11_fills 346 = .ok (.if_icmp .ge 48, 3) := by decide +kernel
theorem dX11_fills_349 : decode cX11_fills 349 = .ok (.aload_n 0, 1) := by decide +kernel
theorem dX11_fills_350 : decode cX11_fills 350 = .ok (.iload 4, 2) := by decide +kernel
theorem dX11_fills_352 : decode cX11_fills 352 = .ok (.aload_n 0, 1) := by decide +kernel
theorem dX11_fills_353 : decode cX11_fills 353 = .ok (.getfield 26, 3) := by decide +kernel
theorem dX11_fills_356 : decode cX11_fills 356 = .ok (.iload 4, 2) := by decide +kernel
theorem dX11_fills_358 : decode cX11_fills 358 = .ok (.iaload, 1) := by decide +kernel
theorem dX11_fills_359 : decode cX11_fills 359 = .ok (.aload_n 0, 1) := by decide +kernel
theorem dX11_fills_360 : decode cX11_fills 360 = .ok (.getfield 39, 3) := by decide +kernel
theorem dX11_fills_363 : decode cX11_fills 363 = .ok (.bipush 7, 2) := by decide +kernel
theorem dX11_fills_365 : decode cX11_fills 365 = .ok (.iload 6, 2) := by decide +kernel
theorem dX11_fills_367 : decode cX11_fills 367 = .ok (.imul, 1) := by decide +kernel
theorem dX11_fills_368 : decode cX11_fills 368 = .ok (.iload 7, 2) := by decide +kernel
theorem dX11_fills_370 : decode cX11_fills 370 = .ok (.iadd, 1) := by decide +kernel
theorem dX11_fills_371 : decode cX11_fills 371 = .ok (.iaload, 1) := by decide +kernel
theorem dX11_fills_372 : decode cX11_fills 372 = .ok (.aload_n 0, 1) := by decide +kernel
theorem dX11_fills_373 : decode cX11_fills 373 = .ok (.getfield 42, 3) := by decide +kernel
theorem dX11_fills_376 : decode cX11_fills 376 = .ok (.bipush 7, 2) := by decide +kernel
theorem dX11_fills_378 : decode cX11_fills 378 = .ok (.iload 6, 2) := by decide +kernel
theorem dX11_fills_380 : decode cX11_fills 380 = .ok (.imul, 1) := by decide +kernel
theorem dX11_fills_381 : decode cX11_fills 381 = .ok (.iload 7, 2) := by decide +kernel
theorem dX11_fills_383 : decode cX11_fills 383 = .ok (.iadd, 1) := by decide +kernel
theorem dX11_fills_384 : decode cX11_fills 384 = .ok (.iaload, 1) := by decide +kernel
theorem dX11_fills_385 : decode cX11_fills 385 = .ok (.invokevirtual 225, 3) := by decide +kernel
theorem dX11_fills_388 : decode cX11_fills 388 = .ok (.iinc 7 1, 3) := by decide +kernel
theorem dX11_fills_391 : decode cX11_fills 391 = .ok (.goto (-54), 3) := by decide +kernel
theorem dX11_fills_394 : decode cX11_fills 394 = .ok (.aload_n 0, 1) := by decide +kernel
theorem dX11_fills_395 : decode cX11_fills 395 = .ok (.iload_n 1, 1) := by decide +kernel
theorem dX11_fills_396 : decode cX11_fills 396 = .ok (.iload_n 2, 1) := by decide +kernel
theorem dX11_fills_397 : decode cX11_fills 397 = .ok (.iconst 1, 1) := by decide +kernel
theorem dX11_fills_398 : decode cX11_fills 398 = .ok (.iadd, 1) := by decide +kernel
theorem dX11_fills_399 : decode cX11_fills 399 = .ok (.invokevirtual 235, 3) := by decide +kernel
theorem dX11_fills_402 : decode cX11_fills 402 = .ok (.return_, 1) := by decide +kernel
theorem dX11_takes_0 : decode cX11_takes 0 = .ok (.aload_n 0, 1) := by decide +kernel
theorem dX11_takes_1 : decode cX11_takes 1 = .ok (.iload_n 1, 1) := by decide +kernel
theorem dX11_takes_2 : decode cX11_takes 2 = .ok (.iload_n 2, 1) := by decide +kernel
theorem dX11_takes_3 : decode cX11_takes 3 = .ok (.invokevirtual 218, 3) := by decide +kernel
theorem dX11_takes_6 : decode cX11_takes 6 = .ok (.ldc 170, 2) := by decide +kernel
theorem dX11_takes_8 : decode cX11_takes 8 = .ok (.if_icmp .ne 5, 3) := by decide +kernel
theorem dX11_takes_11 : decode cX11_takes 11 = .ok (.iload_n 1, 1) := by decide +kernel
theorem dX11_takes_12 : decode cX11_takes 12 = .ok (.ireturn, 1) := by decide +kernel
theorem dX11_takes_13 : decode cX11_takes 13 = .ok (.aload_n 0, 1) := by decide +kernel
theorem dX11_takes_14 : decode cX11_takes 14 = .ok (.iload_n 1, 1) := by decide +kernel
theorem dX11_takes_15 : decode cX11_takes 15 = .ok (.iload_n 2, 1) := by decide +kernel
theorem dX11_takes_16 : decode cX11_takes 16 = .ok (.iload_n 3, 1) := by decide +kernel
theorem dX11_takes_17 : decode cX11_takes 17 = .ok (.invokevirtual 221, 3) := by decide +kernel
theorem dX11_takes_20 : decode cX11_takes 20 = .ok (.istore 4, 2) := by decide +kernel
theorem dX11_takes_22 : decode cX11_takes 22 = .ok (.aload_n 0, 1) := by decide +kernel
theorem dX11_takes_23 : decode cX11_takes 23 = .ok (.getfield 49, 3) := by decide +kernel
theorem dX11_takes_26 : decode cX11_takes 26 = .ok (.aload_n 0, 1) := by decide +kernel
theorem dX11_takes_27 : decode cX11_takes 27 = .ok (.getfield 215, 3) := by decide +kernel
theorem dX11_takes_30 : decode cX11_takes 30 = .ok (.iaload, 1) := by decide +kernel
theorem dX11_takes_31 : decode cX11_takes 31 = .ok (.istore 5, 2) := by decide +kernel
theorem dX11_takes_33 : decode cX11_takes 33 = .ok (.aload_n 0, 1) := by decide +kernel
theorem dX11_takes_34 : decode cX11_takes 34 = .ok (.iload 5, 2) := by decide +kernel
theorem dX11_takes_36 : decode cX11_takes 36 = .ok (.aload_n 0, 1) := by decide +kernel
theorem dX11_takes_37 : decode cX11_takes 37 = .ok (.iload 5, 2) := by decide +kernel
theorem dX11_takes_39 : decode cX11_takes 39 = .ok (.iload_n 2, 1) := by decide +kernel
theorem dX11_takes_40 : decode cX11_takes 40 = .ok (.invokevirtual 209, 3) := by decide +kernel
theorem dX11_takes_43 : decode cX11_takes 43 = .ok (.invokevirtual 235, 3) := by decide +kernel
theorem dX11_takes_46 : decode cX11_takes 46 = .ok (.aload_n 0, 1) := by decide +kernel
theorem dX11_takes_47 : decode cX11_takes 47 = .ok (.getfield 215, 3) := by decide +kernel
theorem dX11_takes_50 : decode cX11_takes 50 = .ok (.iconst 1, 1) := by decide +kernel
theorem dX11_takes_51 : decode cX11_takes 51 = .ok (.isub, 1) := by decide +kernel
theorem dX11_takes_52 : decode cX11_takes 52 = .ok (.istore 6, 2) := by decide +kernel
theorem dX11_takes_54 : decode cX11_takes 54 = .ok (.iload 6, 2) := by decide +kernel
theorem dX11_takes_56 : decode cX11_takes 56 = .ok (.ifCond .lt 49, 3) := by decide +kernel
theorem dX11_takes_59 : decode cX11_takes 59 = .ok (.aload_n 0, 1) := by decide +kernel
theorem dX11_takes_60 : decode cX11_takes 60 = .ok (.getfield 26, 3) := by decide +kernel
theorem dX11_takes_63 : decode cX11_takes 63 = .ok (.aload_n 0, 1) := by decide +kernel
theorem dX11_takes_64 : decode cX11_takes 64 = .ok (.getfield 49, 3) := by decide +kernel
theorem dX11_takes_67 : decode cX11_takes 67 = .ok (.iload 6, 2) := by decide +kernel
theorem dX11_takes_69 : decode cX11_takes 69 = .ok (.iconst 1, 1) := by decide +kernel
theorem dX11_takes_70 : decode cX11_takes 70 = .ok (.iadd, 1) := by decide +kernel
theorem dX11_takes_71 : decode cX11_takes 71 = .ok (.iaload, 1) := by decide +kernel
theorem dX11_takes_72 : decode cX11_takes 72 = .ok (.iaload, 1) := by decide +kernel
theorem dX11_takes_73 : decode cX11_takes 73 = .ok (.aload_n 0, 1) := by decide +kernel
theorem dX11_takes_74 : decode cX11_takes 74 = .ok (.invokevirtual 232, 3) := by decide +kernel
theorem dX11_takes_77 : decode cX11_takes 77 = .ok (.if_icmp .ge 22, 3) := by decide +kernel
theorem dX11_takes_80 : decode cX11_takes 80 = .ok (.aload_n 0, 1) := by decide +kernel
theorem dX11_takes_81 : decode cX11_takes 81 = .ok (.aload_n 0, 1) := by decide +kernel
theorem dX11_takes_82 : decode cX11_takes 82 = .ok (.getfield 49, 3) := by decide +kernel
theorem dX11_takes_85 : decode cX11_takes 85 = .ok (.iload 6, 2) := by decide +kernel
theorem dX11_takes_87 : decode cX11_takes 87 = .ok (.iaload, 1) := by decide +kernel
theorem dX11_takes_88 : decode cX11_takes 88 = .ok (.aload_n 0, 1) := by decide +kernel
theorem dX11_takes_89 : decode cX11_takes 89 = .ok (.getfield 52, 3) := by decide +kernel
theorem dX11_takes_92 : decode cX11_takes 92 = .ok (.iload 6, 2) := by decide +kernel
theorem dX11_takes_94 : decode cX11_takes 94 = .ok (.iaload, 1) := by decide +kernel
theorem dX11_takes_95 : decode cX11_takes 95 = .ok (.iload_n 3, 1) := by decide +kernel
theorem dX11_takes_96 : decode cX11_takes 96 = .ok (.invokevirtual 239, 3) := by decide +kernel
theorem dX11_takes_99 : decode cX11_takes 99 = .ok (.iinc 6 (-1), 3) := by decide +kernel
theorem dX11_takes_102 : decode cX11_takes 102 = .ok (.goto (-48), 3) := by decide +kernel
theorem dX11_takes_105 : decode cX11_takes 105 = .ok (.aload_n 0, 1) := by decide +kernel
theorem dX11_takes_106 : decode cX11_takes 106 = .ok (.getfield 23, 3) := by decide +kernel
theorem dX11_takes_109 : decode cX11_takes 109 = .ok (.iload 4, 2) := by decide +kernel
theorem dX11_takes_111 : decode cX11_takes 111 = .ok (.iaload, 1) := by decide +kernel
theorem dX11_takes_112 : decode cX11_takes 112 = .ok (.ifCond .ne 26, 3) := by decide +kernel
theorem dX11_takes_115 : decode cX11_takes 115 = .ok (.aload_n 0, 1) := by decide +kernel
theorem dX11_takes_116 : decode cX11_takes 116 = .ok (.getfield 26, 3) := by decide +kernel
theorem dX11_takes_119 : decode cX11_takes 119 = .ok (.iload 4, 2) := by decide +kernel
theorem dX11_takes_121 : decode cX11_takes 121 = .ok (.iaload, 1) := by decide +kernel
theorem dX11_takes_122 : decode cX11_takes 122 = .ok (.iconst 1, 1) := by decide +kernel
theorem dX11_takes_123 : decode cX11_takes 123 = .ok (.if_icmp .ne 15, 3) := by decide +kernel
theorem dX11_takes_126 : decode cX11_takes 126 = .ok (.aload_n 0, 1) := by decide +kernel
theorem dX11_takes_127 : decode cX11_takes 127 = .ok (.iload 4, 2) := by decide +kernel
theorem dX11_takes_129 : decode cX11_takes 129 = .ok (.iconst 0, 1) := by decide +kernel
theorem dX11_takes_130 : decode cX11_takes 130 = .ok (.invokevirtual 197, 3) := by decide +kernel
theorem dX11_takes_133 : decode cX11_takes 133 = .ok (.istore 4, 2) := by decide +kernel
theorem dX11_takes_135 : decode cX11_takes 135 = .ok (.goto (-30), 3) := by decide +kernel
theorem dX11_takes_138 : decode cX11_takes 138 = .ok (.iload 4, 2) := by decide +kernel
theorem dX11_takes_140 : decode cX11_takes 140 = .ok (.ireturn, 1) := by decide +kernel
theorem dX11_goesThrough_0 : decode cX11_goesThrough 0 = .ok (.aload_n 0, 1) := by decide +kernel
theorem dX11_goesThrough_1 : decode cX11_goesThrough 1 = .ok (.getfield 61, 3) := by decide +kernel
theorem dX11_goesThrough_4 : decode cX11_goesThrough 4 = .ok (.aload_n 0, 1) := by decide +kernel
theorem dX11_goesThrough_5 : decode cX11_goesThrough 5 = .ok (.getfield 243, 3) := by decide +kernel
theorem dX11_goesThrough_8 : decode cX11_goesThrough 8 = .ok (.iload_n 1, 1) := by decide +kernel
theorem dX11_goesThrough_9 : decode cX11_goesThrough 9 = .ok (.iastore, 1) := by decide +kernel
theorem dX11_goesThrough_10 : decode cX11_goesThrough 10 = .ok (.aload_n 0, 1) := by decide +kernel
theorem dX11_goesThrough_11 : decode cX11_goesThrough 11 = .ok (.getfield 64, 3) := by decide +kernel
theorem dX11_goesThrough_14 : decode cX11_goesThrough 14 = .ok (.aload_n 0, 1) := by decide +kernel
theorem dX11_goesThrough_15 : decode cX11_goesThrough 15 = .ok (.getfield 243, 3) := by decide +kernel
theorem dX11_goesThrough_18 : decode cX11_goesThrough 18 = .ok (.iload_n 2, 1) := by decide +kernel
theorem dX11_goesThrough_19 : decode cX11_goesThrough 19 = .ok (.iastore, 1) := by decide +kernel
theorem dX11_goesThrough_20 : decode cX11_goesThrough 20 = .ok (.aload_n 0, 1) := by decide +kernel
theorem dX11_goesThrough_21 : decode cX11_goesThrough 21 = .ok (.dup, 1) := by decide +kernel
theorem dX11_goesThrough_22 : decode cX11_goesThrough 22 = .ok (.getfield 243, 3) := by decide +kernel
theorem dX11_goesThrough_25 : decode cX11_goesThrough 25 = .ok (.iconst 1, 1) := by decide +kernel
theorem dX11_goesThrough_26 : decode cX11_goesThrough 26 = .ok (.iadd, 1) := by decide +kernel
theorem dX11_goesThrough_27 : decode cX11_goesThrough 27 = .ok (.putfield 243, 3) := by decide +kernel
theorem dX11_goesThrough_30 : decode cX11_goesThrough 30 = .ok (.iconst 0, 1) := by decide +kernel
theorem dX11_goesThrough_31 : decode cX11_goesThrough 31 = .ok (.istore_n 3, 1) := by decide +kernel
theorem dX11_goesThrough_32 : decode cX11_goesThrough 32 = .ok (.iload_n 3, 1) := by decide +kernel
theorem dX11_goesThrough_33 : decode cX11_goesThrough 33 = .ok (.aload_n 0, 1) := by decide +kernel
theorem dX11_goesThrough_34 : decode cX11_goesThrough 34 = .ok (.getfield 26, 3) := by decide +kernel
theorem dX11_goesThrough_37 : decode cX11_goesThrough 37 = .ok (.iload_n 1, 1) := by decide +kernel
theorem dX11_goesThrough_38 : decode cX11_goesThrough 38 = .ok (.iaload, 1) := by decide +kernel
theorem dX11_goesThrough_39 : decode cX11_goesThrough 39 = .ok (.if_icmp .ge 84, 3) := by decide +kernel
theorem dX11_goesThrough_42 : decode cX11_goesThrough 42 = .ok (.aload_n 0, 1) := by decide +kernel
theorem dX11_goesThrough_43 : decode cX11_goesThrough 43 = .ok (.getfield 23, 3) := by decide +kernel
theorem dX11_goesThrough_46 : decode cX11_goesThrough 46 = .ok (.iload_n 1, 1) := by decide +kernel
theorem dX11_goesThrough_47 : decode cX11_goesThrough 47 = .ok (.iaload, 1) := by decide +kernel
theorem dX11_goesThrough_48 : decode cX11_goesThrough 48 = .ok (.ifCond .ne 19, 3) := by decide +kernel
theorem dX11_goesThrough_51 : decode cX11_goesThrough 51 = .ok (.aload_n 0, 1) := by decide +kernel
theorem dX11_goesThrough_52 : decode cX11_goesThrough 52 = .ok (.aload_n 0, 1) := by decide +kernel
theorem dX11_goesThrough_53 : decode cX11_goesThrough 53 = .ok (.iload_n 1, 1) := by decide +kernel
theorem dX11_goesThrough_54 : decode cX11_goesThrough 54 = .ok (.iload_n 3, 1) := by decide +kernel
theorem dX11_goesThrough_55 : decode cX11_goesThrough 55 = .ok (.invokevirtual 197, 3) := by decide +kernel
theorem dX11_goesThrough_58 : decode cX11_goesThrough 58 = .ok (.iload_n 2, 1) := by decide +kernel
theorem dX11_goesThrough_59 : decode cX11_goesThrough 59 = .ok (.iconst 1, 1) := by decide +kernel
theorem dX11_goesThrough_60 : decode cX11_goesThrough 60 = .ok (.iadd, 1) := by decide +kernel
theorem dX11_goesThrough_61 : decode cX11_goesThrough 61 = .ok (.invokevirtual 246, 3) := by decide +kernel
theorem dX11_goesThrough_64 : decode cX11_goesThrough 64 = .ok (.goto 53, 3) := by decide +kernel
theorem dX11_goesThrough_67 : decode cX11_goesThrough 67 = .ok (.aload_n 0, 1) := by decide +kernel
theorem dX11_goesThrough_68 : decode cX11_goesThrough 68 = .ok (.getfield 55, 3) := by decide +kernel
theorem dX11_goesThrough_71 : decode cX11_goesThrough 71 = .ok (.aload_n 0, 1) := by decide +kernel
theorem dX11_goesThrough_72 : decode cX11_goesThrough 72 = .ok (.getfield 249, 3) := by decide +kernel
theorem dX11_goesThrough_75 : decode cX11_goesThrough 75 = .ok (.aload_n 0, 1) := by decide +kernel
theorem dX11_goesThrough_76 : decode cX11_goesThrough 76 = .ok (.getfield 39, 3) := by decide +kernel
theorem dX11_goesThrough_79 : decode cX11_goesThrough 79 = .ok (.bipush 7, 2) := by decide +kernel
theorem dX11_goesThrough_81 : decode cX11_goesThrough 81 = .ok (.iload_n 1, 1) := by decide +kernel
theorem dX11_goesThrough_82 : decode cX11_goesThrough 82 = .ok (.imul, 1) := by decide +kernel
theorem dX11_goesThrough_83 : decode cX11_goesThrough 83 = .ok (.iload_n 3, 1) := by decide +kernel
theorem dX11_goesThrough_84 : decode cX11_goesThrough 84 = .ok (.iadd, 1) := by decide +kernel
theorem dX11_goesThrough_85 : decode cX11_goesThrough 85 = .ok (.iaload, 1) := by decide +kernel
theorem dX11_goesThrough_86 : decode cX11_goesThrough 86 = .ok (.iastore, 1) := by decide +kernel
theorem dX11_goesThrough_87 : decode cX11_goesThrough 87 = .ok (.aload_n 0, 1) := by decide +kernel
theorem dX11_goesThrough_88 : decode cX11_goesThrough 88 = .ok (.getfield 58, 3) := by decide +kernel
theorem dX11_goesThrough_91 : decode cX11_goesThrough 91 = .ok (.aload_n 0, 1) := by decide +kernel
