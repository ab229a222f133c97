theorem dJ9_floorDiv_7cf53_0 : decode cJ9_floorDiv_7cf53 0 = .ok (.iload_n 0, 1) := by decide +kernel
theorem dJ9_floorDiv_7cf53_1 : decode cJ9_floorDiv_7cf53 1 = .ok (.iload_n 1, 1) := by decide +kernel
theorem dJ9_floorDiv_7cf53_2 : decode cJ9_floorDiv_7cf53 2 = .ok (.idiv, 1) := by decide +kernel
theorem dJ9_floorDiv_7cf53_3 : decode cJ9_floorDiv_7cf53 3 = .ok (.istore_n 2, 1) := by decide +kernel
theorem dJ9_floorDiv_7cf53_4 : decode cJ9_floorDiv_7cf53 4 = .ok (.iload_n 0, 1) := by decide +kernel
theorem dJ9_floorDiv_7cf53_5 : decode cJ9_floorDiv_7cf53 5 = .ok (.iload_n 1, 1) := by decide +kernel
theorem dJ9_floorDiv_7cf53_6 : decode cJ9_floorDiv_7cf53 6 = .ok (.ixor, 1) := by decide +kernel
theorem dJ9_floorDiv_7cf53_7 : decode cJ9_floorDiv_7cf53 7 = .ok (.ifCond .ge 14, 3) := by decide +kernel
theorem dJ9_floorDiv_7cf53_10 : decode cJ9_floorDiv_7cf53 10 = .ok (.iload_n 2, 1) := by decide +kernel
theorem dJ9_floorDiv_7cf53_11 : decode cJ9_floorDiv_7cf53 11 = .ok (.iload_n 1, 1) := by decide +kernel
theorem dJ9_floorDiv_7cf53_12 : decode cJ9_floorDiv_7cf53 12 = .ok (.imul, 1) := by decide +kernel
theorem dJ9_floorDiv_7cf53_13 : decode cJ9_floorDiv_7cf53 13 = .ok (.iload_n 0, 1) := by decide +kernel
theorem dJ9_floorDiv_7cf53_14 : decode cJ9_floorDiv_7cf53 14 = .ok (.if_icmp .eq 7, 3) := by decide +kernel
theorem dJ9_floorDiv_7cf53_17 : decode cJ9_floorDiv_7cf53 17 = .ok (.iload_n 2, 1) := by decide +kernel
theorem dJ9_floorDiv_7cf53_18 : decode cJ9_floorDiv_7cf53 18 = .ok (.iconst 1, 1) := by decide +kernel
theorem dJ9_floorDiv_7cf53_19 : decode cJ9_floorDiv_7cf53 19 = .ok (.isub, 1) := by decide +kernel
theorem dJ9_floorDiv_7cf53_20 : decode cJ9_floorDiv_7cf53 20 = .ok (.ireturn, 1) := by decide +kernel
theorem dJ9_floorDiv_7cf53_21 : decode cJ9_floorDiv_7cf53 21 = .ok (.iload_n 2, 1) := by decide +kernel
theorem dJ9_floorDiv_7cf53_22 : decode cJ9_floorDiv_7cf53 22 = .ok (.ireturn, 1) := by decide +kernel
theorem dJ9_max_7cf53_0 : decode cJ9_max_7cf53 0 = .ok (.iload_n 0, 1) := by decide +kernel
theorem dJ9_max_7cf53_1 : decode cJ9_max_7cf53 1 = .ok (.iload_n 1, 1) := by decide +kernel
theorem dJ9_max_7cf53_2 : decode cJ9_max_7cf53 2 = .ok (.if_icmp .lt 7, 3) := by decide +kernel
theorem dJ9_max_7cf53_5 : decode cJ9_max_7cf53 5 = .ok (.iload_n 0, 1) := by decide +kernel
theorem dJ9_max_7cf53_6 : decode cJ9_max_7cf53 6 = .ok (.goto 4, 3) := by decide +kernel
theorem dJ9_max_7cf53_9 : decode cJ9_max_7cf53 9 = .ok (.iload_n 1, 1) := by decide +kernel
theorem dJ9_max_7cf53_10 : decode cJ9_max_7cf53 10 = .ok (.ireturn, 1) := by decide +kernel
theorem dJ9_min_7cf53_0 : decode cJ9_min_7cf53 0 = .ok (.iload_n 0, 1) := by decide +kernel
theorem dJ9_min_7cf53_1 : decode cJ9_min_7cf53 1 = .ok (.iload_n 1, 1) := by decide +kernel
theorem dJ9_min_7cf53_2 : decode cJ9_min_7cf53 2 = .ok (.if_icmp .gt 7, 3) := by decide +kernel
theorem dJ9_min_7cf53_5 : decode cJ9_min_7cf53 5 = .ok (.iload_n 0, 1) := by decide +kernel
theorem dJ9_min_7cf53_6 : decode cJ9_min_7cf53 6 = .ok (.goto 4, 3) := by decide +kernel
theorem dJ9_min_7cf53_9 : decode cJ9_min_7cf53 9 = .ok (.iload_n 1, 1) := by decide +kernel
theorem dJ9_min_7cf53_10 : decode cJ9_min_7cf53 10 = .ok (.ireturn, 1) := by decide +kernel
theorem dJ7_fill_d0a16_0 : decode cJ7_fill_d0a16 0 = .ok (.iconst 0, 1) := by decide +kernel
theorem dJ7_fill_d0a16_1 : decode cJ7_fill_d0a16 1 = .ok (.istore_n 3, 1) := by decide +kernel
theorem dJ7_fill_d0a16_2 : decode cJ7_fill_d0a16 2 = .ok (.aload_n 0, 1) := by decide +kernel
theorem dJ7_fill_d0a16_3 : decode cJ7_fill_d0a16 3 = .ok (.arraylength, 1) := by decide +kernel
theorem dJ7_fill_d0a16_4 : decode cJ7_fill_d0a16 4 = .ok (.istore 4, 2) := by decide +kernel
theorem dJ7_fill_d0a16_6 : decode cJ7_fill_d0a16 6 = .ok (.iload_n 3, 1) := by decide +kernel
theorem dJ7_fill_d0a16_7 : decode cJ7_fill_d0a16 7 = .ok (.iload 4, 2) := by decide +kernel
theorem dJ7_fill_d0a16_9 : decode cJ7_fill_d0a16 9 = .ok (.if_icmp .ge 13, 3) := by decide +kernel
theorem dJ7_fill_d0a16_12 : decode cJ7_fill_d0a16 12 = .ok (.aload_n 0, 1) := by decide +kernel
theorem dJ7_fill_d0a16_13 : decode cJ7_fill_d0a16 13 = .ok (.iload_n 3, 1) := by decide +kernel
theorem dJ7_fill_d0a16_14 : decode cJ7_fill_d0a16 14 = .ok (.lload_n 1, 1) := by decide +kernel
theorem dJ7_fill_d0a16_15 : decode cJ7_fill_d0a16 15 = .ok (.lastore, 1) := by decide +kernel
theorem dJ7_fill_d0a16_16 : decode cJ7_fill_d0a16 16 = .ok (.iinc 3 1, 3) := by decide +kernel
theorem dJ7_fill_d0a16_19 : decode cJ7_fill_d0a16 19 = .ok (.goto (-13), 3) := by decide +kernel
theorem dJ7_fill_d0a16_22 : decode cJ7_fill_d0a16 22 = .ok (.return_, 1) := by decide +kernel
theorem dX7_init_0 : decode cX7_init 0 = .ok (.aload_n 0, 1) := by decide +kernel
theorem dX7_init_1 : decode cX7_init 1 = .ok (.invokespecial 1, 3) := by decide +kernel
theorem dX7_init_4 : decode cX7_init 4 = .ok (.aload_n 0, 1) := by decide +kernel
theorem dX7_init_5 : decode cX7_init 5 = .ok (.bipush 6, 2) := by decide +kernel
theorem dX7_init_7 : decode cX7_init 7 = .ok (.newarray .int, 2) := by decide +kernel
theorem dX7_init_9 : decode cX7_init 9 = .ok (.putfield 7, 3) := by decide +kernel
theorem dX7_init_12 : decode cX7_init 12 = .ok (.aload_n 0, 1) := by decide +kernel
theorem dX7_init_13 : decode cX7_init 13 = .ok (.bipush 12, 2) := by decide +kernel
theorem dX7_init_15 : decode cX7_init 15 = .ok (.newarray .int, 2) := by decide +kernel
theorem dX7_init_17 : decode cX7_init 17 = .ok (.putfield 13, 3) := by decide +kernel
theorem dX7_init_20 : decode cX7_init 20 = .ok (.aload_n 0, 1) := by decide +kernel
theorem dX7_init_21 : decode cX7_init 21 = .ok (.bipush 6, 2) := by decide +kernel
theorem dX7_init_23 : decode cX7_init 23 = .ok (.newarray .int, 2) := by decide +kernel
theorem dX7_init_25 : decode cX7_init 25 = .ok (.putfield 16, 3) := by decide +kernel
theorem dX7_init_28 : decode cX7_init 28 = .ok (.aload_n 0, 1) := by decide +kernel
theorem dX7_init_29 : decode cX7_init 29 = .ok (.bipush 6, 2) := by decide +kernel
theorem dX7_init_31 : decode cX7_init 31 = .ok (.newarray .int, 2) := by decide +kernel
theorem dX7_init_33 : decode cX7_init 33 = .ok (.putfield 19, 3) := by decide +kernel
theorem dX7_init_36 : decode cX7_init 36 = .ok (.aload_n 0, 1) := by decide +kernel
theorem dX7_init_37 : decode cX7_init 37 = .ok (.bipush 6, 2) := by decide +kernel
theorem dX7_init_39 : decode cX7_init 39 = .ok (.newarray .int, 2) := by decide +kernel
theorem dX7_init_41 : decode cX7_init 41 = .ok (.putfield 22, 3) := by decide +kernel
theorem dX7_init_44 : decode cX7_init 44 = .ok (.aload_n 0, 1) := by decide +kernel
theorem dX7_init_45 : decode cX7_init 45 = .ok (.bipush 48, 2) := by decide +kernel
theorem dX7_init_47 : decode cX7_init 47 = .ok (.newarray .int, 2) := by decide +kernel
theorem dX7_init_49 : decode cX7_init 49 = .ok (.putfield 25, 3) := by decide +kernel
theorem dX7_init_52 : decode cX7_init 52 = .ok (.aload_n 0, 1) := by decide +kernel
theorem dX7_init_53 : decode cX7_init 53 = .ok (.bipush 6, 2) := by decide +kernel
theorem dX7_init_55 : decode cX7_init 55 = .ok (.newarray .int, 2) := by decide +kernel
theorem dX7_init_57 : decode cX7_init 57 = .ok (.putfield 28, 3) := by decide +kernel
theorem dX7_init_60 : decode cX7_init 60 = .ok (.aload_n 0, 1) := by decide +kernel
theorem dX7_init_61 : decode cX7_init 61 = .ok (.bipush 36, 2) := by decide +kernel
theorem dX7_init_63 : decode cX7_init 63 = .ok (.newarray .int, 2) := by decide +kernel
theorem dX7_init_65 : decode cX7_init 65 = .ok (.putfield 31, 3) := by decide +kernel
theorem dX7_init_68 : decode cX7_init 68 = .ok (.aload_n 0, 1) := by decide +kernel
theorem dX7_init_69 : decode cX7_init 69 = .ok (.bipush 64, 2) := by decide +kernel
theorem dX7_init_71 : decode cX7_init 71 = .ok (.newarray .int, 2) := by decide +kernel
theorem dX7_init_73 : decode cX7_init 73 = .ok (.putfield 34, 3) := by decide +kernel
theorem dX7_init_76 : decode cX7_init 76 = .ok (.aload_n 0, 1) := by decide +kernel
theorem dX7_init_77 : decode cX7_init 77 = .ok (.bipush 9, 2) := by decide +kernel
theorem dX7_init_79 : decode cX7_init 79 = .ok (.newarray .int, 2) := by decide +kernel
theorem dX7_init_81 : decode cX7_init 81 = .ok (.putfield 37, 3) := by decide +kernel
theorem dX7_init_84 : decode cX7_init 84 = .ok (.aload_n 0, 1) := by decide +kernel
theorem dX7_init_85 : decode cX7_init 85 = .ok (.bipush 9, 2) := by decide +kernel
theorem dX7_init_87 : decode cX7_init 87 = .ok (.newarray .int, 2) := by decide +kernel
theorem dX7_init_89 : decode cX7_init 89 = .ok (.putfield 40, 3) := by decide +kernel
theorem dX7_init_92 : decode cX7_init 92 = .ok (.aload_n 0, 1) := by decide +kernel
theorem dX7_init_93 : decode cX7_init 93 = .ok (.sipush 576, 3) := by decide +kernel
theorem dX7_init_96 : decode cX7_init 96 = .ok (.newarray .int, 2) := by decide +kernel
theorem dX7_init_98 : decode cX7_init 98 = .ok (.putfield 43, 3) := by decide +kernel
theorem dX7_init_101 : decode cX7_init 101 = .ok (.aload_n 0, 1) := by decide +kernel
theorem dX7_init_102 : decode cX7_init 102 = .ok (.sipush 576, 3) := by decide +kernel
theorem dX7_init_105 : decode cX7_init 105 = .ok (.newarray .int, 2) := by decide +kernel
theorem dX7_init_107 : decode cX7_init 107 = .ok (.putfield 46, 3) := by decide +kernel
theorem dX7_init_110 : decode cX7_init 110 = .ok (.aload_n 0, 1) := by decide +kernel
theorem dX7_init_111 : decode cX7_init 111 = .ok (.sipush 576, 3) := by decide +kernel
theorem dX7_init_114 : decode cX7_init 114 = .ok (.newarray .int, 2) := by decide +kernel
theorem dX7_init_116 : decode cX7_init 116 = .ok (.putfield 49, 3) := by decide +kernel
theorem dX7_init_119 : decode cX7_init 119 = .ok (.aload_n 0, 1) := by decide +kernel
theorem dX7_init_120 : decode cX7_init 120 = .ok (.bipush 9, 2) := by decide +kernel
theorem dX7_init_122 : decode cX7_init 122 = .ok (.newarray .int, 2) := by decide +kernel
theorem dX7_init_124 : decode cX7_init 124 = .ok (.putfield 52, 3) := by decide +kernel
theorem dX7_init_127 : decode cX7_init 127 = .ok (.aload_n 0, 1) := by decide +kernel
theorem dX7_init_128 : decode cX7_init 128 = .ok (.sipush 576, 3) := by decide +kernel
theorem dX7_init_131 : decode cX7_init 131 = .ok (.newarray .int, 2) := by decide +kernel
theorem dX7_init_133 : decode cX7_init 133 = .ok (.putfield 55, 3) := by decide +kernel
theorem dX7_init_136 : decode cX7_init 136 = .ok (.aload_n 0, 1) := by decide +kernel
theorem dX7_init_137 : decode cX7_init 137 = .ok (.sipush 576, 3) := by decide +kernel
theorem dX7_init_140 : decode cX7_init 140 = .ok (.newarray .int, 2) := by decide +kernel
theorem dX7_init_142 : decode cX7_init 142 = .ok (.putfield 58, 3) := by decide +kernel
theorem dX7_init_145 : decode cX7_init 145 = .ok (.aload_n 0, 1) := by decide +kernel
theorem dX7_init_146 : decode cX7_init 146 = .ok (.sipush 576, 3) := by decide +kernel
theorem dX7_init_149 : decode cX7_init 149 = .ok (.newarray .int, 2) := by decide +kernel
theorem dX7_init_151 : decode cX7_init 151 = .ok (.putfield 61, 3) := by decide +kernel
theorem dX7_init_154 : decode cX7_init 154 = .ok (.aload_n 0, 1) := by decide +kernel
theorem dX7_init_155 : decode cX7_init 155 = .ok (.bipush 9, 2) := by decide +kernel
theorem dX7_init_157 : decode cX7_init 157 = .ok (.newarray .int, 2) := by decide +kernel
theorem dX7_init_159 : decode cX7_init 159 = .ok (.putfield 64, 3) := by decide +kernel
theorem dX7_init_162 : decode cX7_init 162 = .ok (.aload_n 0, 1) := by decide +kernel
theorem dX7_init_163 : decode cX7_init 163 = .ok (.bipush 9, 2) := by decide +kernel
theorem dX7_init_165 : decode cX7_init 165 = .ok (.newarray .int, 2) := by decide +kernel
theorem dX7_init_167 : decode cX7_init 167 = .ok (.putfield 67, 3) := by decide +kernel
theorem dX7_init_170 : decode cX7_init 170 = .ok (.aload_n 0, 1) := by decide +kernel
theorem dX7_init_171 : decode cX7_init 171 = .ok (.bipush 9, 2) := by decide +kernel
theorem dX7_init_173 : decode cX7_init 173 = .ok (.newarray .int, 2) := by decide +kernel
theorem dX7_init_175 : decode cX7_init 175 = .ok (.putfield 70, 3) := by decide +kernel
theorem dX7_init_178 : decode cX7_init 178 = .ok (.aload_n 0, 1) := by decide +kernel
theorem dX7_init_179 : decode cX7_init 179 = .ok (.bipush 9, 2) := by decide +kernel
theorem dX7_init_181 : decode cX7_init 181 = .ok (.newarray .int, 2) := by decide +kernel
theorem dX7_init_183 : decode cX7_init 183 = .ok (.putfield 73, 3) := by decide +kernel
theorem dX7_init_186 : decode cX7_init 186 = .ok (.aload_n 0, 1) := by decide +kernel
theorem dX7_init_187 : decode cX7_init 187 = .ok (.bipush 9, 2) := by decide +kernel
theorem dX7_init_189 : decode cX7_init 189 = .ok (.newarray .int, 2) := by decide +kernel
theorem dX7_init_191 : decode cX7_init 191 = .ok (.putfield 76, 3) := by decide +kernel
theorem dX7_init_194 : decode cX7_init 194 = .ok (.aload_n 0, 1) := by decide +kernel
theorem dX7_init_195 : decode cX7_init 195 = .ok (.bipush 64, 2) := by decide +kernel
theorem dX7_init_197 : decode cX7_init 197 = .ok (.newarray .long, 2) := by decide +kernel
theorem dX7_init_199 : decode cX7_init 199 = .ok (.putfield 79, 3) := by decide +kernel
theorem dX7_init_202 : decode cX7_init 202 = .ok (.aload_n 0, 1) := by decide +kernel
theorem dX7_init_203 : decode cX7_init 203 = .ok (.bipush 64, 2) := by decide +kernel
theorem dX7_init_205 : decode cX7_init 205 = .ok (.newarray .long, 2) := by decide +kernel
theorem dX7_init_207 : decode cX7_init 207 = .ok (.putfield 83, 3) := by decide +kernel
theorem dX7_init_210 : decode cX7_init 210 = .ok (.aload_n 0, 1) := by decide +kernel
theorem dX7_init_211 : decode cX7_init 211 = .ok (.bipush 64, 2) := by decide +kernel
theorem dX7_init_213 : decode cX7_init 213 = .ok (.newarray .int, 2) := by decide +kernel
theorem dX7_init_215 : decode cX7_init 215 = .ok (.putfield 86, 3) := by decide +kernel
theorem dX7_init_218 : decode cX7_init 218 = .ok (.aload_n 0, 1) := by decide +kernel
theorem dX7_init_219 : decode cX7_init 219 = .ok (.bipush 6, 2) := by decide +kernel
theorem dX7_init_221 : decode cX7_init 221 = .ok (.newarray .int, 2) := by decide +kernel
theorem dX7_init_223 : decode cX7_init 223 = .ok (.putfield 89, 3) := by decide +kernel
theorem dX7_init_226 : decode cX7_init 226 = .ok (.aload_n 0, 1) := by decide +kernel
theorem dX7_init_227 : decode cX7_init 227 = .ok (.bipush 6, 2) := by decide +kernel
theorem dX7_init_229 : decode cX7_init 229 = .ok (.newarray .long, 2) := by decide +kernel
theorem dX7_init_231 : decode cX7_init 231 = .ok (.putfield 92, 3) := by decide +kernel
theorem dX7_init_234 : decode cX7_init 234 = .ok (.aload_n 0, 1) := by decide +kernel
theorem dX7_init_235 : decode cX7_init 235 = .ok (.iconst 1, 1) := by decide +kernel
theorem dX7_init_236 : decode cX7_init 236 = .ok (.putfield 95, 3) := by decide +kernel
theorem dX7_init_239 : decode cX7_init 239 = .ok (.aload_n 0, 1) := by decide +kernel
theorem dX7_init_240 : decode cX7_init 240 = .ok (.bipush 12, 2) := by decide +kernel
theorem dX7_init_242 : decode cX7_init 242 = .ok (.newarray .int, 2) := by decide +kernel
theorem dX7_init_244 : decode cX7_init 244 = .ok (.putfield 99, 3) := by decide +kernel
theorem dX7_init_247 : decode cX7_init 247 = .ok (.aload_n 0, 1) := by decide +kernel
theorem dX7_init_248 : decode cX7_init 248 = .ok (.bipush 12, 2) := by decide +kernel
theorem dX7_init_250 : decode cX7_init 250 = .ok (.newarray .int, 2) := by decide +kernel
theorem dX7_init_252 : decode cX7_init 252 = .ok (.putfield 102, 3) := by decide +kernel
theorem dX7_init_255 : decode cX7_init 255 = .ok (.aload_n 0, 1) := by decide +kernel
theorem dX7_init_256 : decode cX7_init 256 = .ok (.iconst 1, 1) := by decide +kernel
theorem dX7_init_257 : decode cX7_init 257 = .ok (.putfield 105, 3) := by decide +kernel
theorem dX7_init_260 : decode cX7_init 260 = .ok (.aload_n 0, 1) := by decide +kernel
theorem dX7_init_261 : decode cX7_init 261 = .ok (.getfield 99, 3) := by decide +kernel
theorem dX7_init_264 : decode cX7_init 264 = .ok (.iconst 0, 1) := by decide +kernel
theorem dX7_init_265 : decode cX7_init 265 = .ok (.iconst 1, 1) := by decide +kernel
theorem dX7_init_266 : decode cX7_init 266 = .ok (.iastore, 1) := by decide +kernel
theorem dX7_init_267 : decode cX7_init 267 = .ok (.aload_n 0, 1) := by decide +kernel
theorem dX7_init_268 : decode cX7_init 268 = .ok (.getfield 102, 3) := by decide +kernel
theorem dX7_init_271 : decode cX7_init 271 = .ok (.iconst 0, 1) := by decide +kernel
theorem dX7_init_272 : decode cX7_init 272 = .ok (.sipush 200, 3) := by decide +kernel
theorem dX7_init_275 : decode cX7_init 275 = .ok (.iastore, 1) := by decide +kernel
theorem dX7_init_276 : decode cX7_init 276 = .ok (.return_, 1) := by decide +kernel
theorem dX7_thrown_0 : decode cX7_thrown 0 = .ok (.aload_n 0, 1) := by decide +kernel
theorem dX7_thrown_1 : decode cX7_thrown 1 = .ok (.getfield 108, 3) := by decide +kernel
theorem dX7_thrown_4 : decode cX7_thrown 4 = .ok (.ireturn, 1) := by decide +kernel
theorem dX7_holds_0 : decode cX7_holds 0 = .ok (.aload_n 0, 1) := by decide +kernel
theorem dX7_holds_1 : decode cX7_holds 1 = .ok (.iload_n 1, 1) := by decide +kernel
theorem dX7_holds_2 : decode cX7_holds 2 = .ok (.putfield 108, 3) := by decide +kernel
theorem dX7_holds_5 : decode cX7_holds 5 = .ok (.iload_n 1, 1) := by decide +kernel
theorem dX7_holds_6 : decode cX7_holds 6 = .ok (.ifCond .ne 7, 3) := by decide +kernel
theorem dX7_holds_9 : decode cX7_holds 9 = .ok (.iconst 1, 1) := by decide +kernel
theorem dX7_holds_10 : decode cX7_holds 10 = .ok (.goto 4, 3) := by decide +kernel
theorem dX7_holds_13 : decode cX7_holds 13 = .ok (.iconst 0, 1) := by decide +kernel
theorem dX7_holds_14 : decode cX7_holds 14 = .ok (.ireturn, 1) := by decide +kernel
theorem dX7_isIn_0 : decode cX7_isIn 0 = .ok (.iload_n 0, 1) := by decide +kernel
theorem dX7_isIn_1 : decode cX7_isIn 1 = .ok (.iload_n 1, 1) := by decide +kernel
theorem dX7_isIn_2 : decode cX7_isIn 2 = .ok (.if_icmp .lt 12, 3) := by decide +kernel
theorem dX7_isIn_5 : decode cX7_isIn 5 = .ok (.iload_n 0, 1) := by decide +kernel
theorem dX7_isIn_6 : decode cX7_isIn 6 = .ok (.iload_n 2, 1) := by decide +kernel
theorem dX7_isIn_7 : decode cX7_isIn 7 = .ok (.if_icmp .gt 7, 3) := by decide +kernel
theorem dX7_isIn_10 : decode cX7_isIn 10 = .ok (.iconst 1, 1) := by decide +kernel
theorem dX7_isIn_11 : decode cX7_isIn 11 = .ok (.goto 4, 3) := by decide +kernel
theorem dX7_isIn_14 : decode cX7_isIn 14 = .ok (.iconst 0, 1) := by decide +kernel
theorem dX7_isIn_15 : decode cX7_isIn 15 = .ok (.ireturn, 1) := by decide +kernel
set_option maxRecDepth 20000 in
theorem ggX7_isInput_X7_isIn : GoodIn wsX7_isInput wsX7_isIn := goodIn_r _ [4] (by decide +kernel) (by decide +kernel)
set_option maxRecDepth 20000 in
theorem gX7_isInput_X7_isIn : GoodIn wsX7_isInput (va_wsS RX7 111 yX7_isIn wsX7_isIn) := goodIn_app (goodIn_of _ (by decide +kernel)) ggX7_isInput_X7_isIn
theorem dX7_isInput_0 : decode cX7_isInput 0 = .ok (.iload_n 0, 1) := by decide +kernel
theorem dX7_isInput_1 : decode cX7_isInput 1 = .ok (.iconst 0, 1) := by decide +kernel
theorem dX7_isInput_2 : decode cX7_isInput 2 = .ok (.iconst 5, 1) := by decide +kernel
theorem dX7_isInput_3 : decode cX7_isInput 3 = .ok (.invokestatic 111, 3) := by decide +kernel
theorem dX7_isInput_6 : decode cX7_isInput 6 = .ok (.ireturn, 1) := by decide +kernel
set_option maxRecDepth 20000 in
theorem ggX7_isModel_X7_isIn : GoodIn wsX7_isModel wsX7_isIn := goodIn_r _ [5] (by decide +kernel) (by decide +kernel)
set_option maxRecDepth 20000 in
theorem gX7_isModel_X7_isIn : GoodIn wsX7_isModel (va_wsS RX7 111 yX7_isIn wsX7_isIn) := goodIn_app (goodIn_of _ (by decide +kernel)) ggX7_isModel_X7_isIn
theorem dX7_isModel_0 : decode cX7_isModel 0 = .ok (.iload_n 1, 1) := by decide +kernel
theorem dX7_isModel_1 : decode cX7_isModel 1 = .ok (.iconst 0, 1) := by decide +kernel
theorem dX7_isModel_2 : decode cX7_isModel 2 = .ok (.aload_n 0, 1) := by decide +kernel
theorem dX7_isModel_3 : decode cX7_isModel 3 = .ok (.getfield 115, 3) := by decide +kernel
theorem dX7_isModel_6 : decode cX7_isModel 6 = .ok (.iconst 1, 1) := by decide +kernel
theorem dX7_isModel_7 : decode cX7_isModel 7 = .ok (.isub, 1) := by decide +kernel
theorem dX7_isModel_8 : decode cX7_isModel 8 = .ok (.invokestatic 111, 3) := by decide +kernel
theorem dX7_isModel_11 : decode cX7_isModel 11 = .ok (.ireturn, 1) := by decide +kernel
set_option maxRecDepth 20000 in
theorem ggX7_shape_X7_isIn : GoodIn wsX7_shape wsX7_isIn := goodIn_r _ [9] (by decide +kernel) (by decide +kernel)
set_option maxRecDepth 20000 in
theorem gX7_shape_X7_isIn : GoodIn wsX7_shape (va_wsS RX7 111 yX7_isIn wsX7_isIn) := goodIn_app (goodIn_of _ (by decide +kernel)) ggX7_shape_X7_isIn
set_option maxRecDepth 20000 in
theorem ggX7_shape_X7_isInput : GoodIn wsX7_shape wsX7_isInput := goodIn_r _ [12, 6, 7, 8, 9] (by decide +kernel) (by decide +kernel)
set_option maxRecDepth 20000 in
theorem gX7_shape_X7_isInput : GoodIn wsX7_shape (va_wsS RX7 118 yX7_isInput wsX7_isInput) := goodIn_app (goodIn_of _ (by decide +kernel)) ggX7_shape_X7_isInput
set_option maxRecDepth 20000 in
theorem ggX7_shape_X7_holds : GoodIn wsX7_shape wsX7_holds := goodIn_r _ [16, 17, 18, 19, 20, 21, 22, 23, 24, 25, 26, 27, 28, 29, 30, 31, 32, 33, 34, 35, 36, 37, 38, 39, 40, 41, 42, 43, 44, 45, 46, 47, 48, 49, 50, 51, 52, 53, 54] (by decide +kernel) (by decide +kernel)
set_option maxRecDepth 20000 in
theorem gX7_shape_X7_holds : GoodIn wsX7_shape (wsV RX7 122 RX7 yX7_holds wsX7_holds) := goodIn_app (goodIn_of _ (by decide +kernel)) ggX7_shape_X7_holds
theorem dX7_shape_0 : decode cX7_shape 0 = .ok (.iload_n 2, 1) := by decide +kernel
theorem dX7_shape_1 : decode cX7_shape 1 = .ok (.sipush (-999), 3) := by decide +kernel
theorem dX7_shape_4 : decode cX7_shape 4 = .ok (.sipush 999, 3) := by decide +kernel
theorem dX7_shape_7 : decode cX7_shape 7 = .ok (.invokestatic 111, 3) := by decide +kernel
theorem dX7_shape_10 : decode cX7_shape 10 = .ok (.ifCond .eq 35, 3) := by decide +kernel
theorem dX7_shape_13 : decode cX7_shape 13 = .ok (.iload_n 3, 1) := by decide +kernel
theorem dX7_shape_14 : decode cX7_shape 14 = .ok (.iconst 0, 1) := by decide +kernel
theorem dX7_shape_15 : decode cX7_shape 15 = .ok (.iconst 3, 1) := by decide +kernel
theorem dX7_shape_16 : decode cX7_shape 16 = .ok (.invokestatic 111, 3) := by decide +kernel
theorem dX7_shape_19 : decode cX7_shape 19 = .ok (.ifCond .eq 26, 3) := by decide +kernel
theorem dX7_shape_22 : decode cX7_shape 22 = .ok (.iload 4, 2) := by decide +kernel
theorem dX7_shape_24 : decode cX7_shape 24 = .ok (.iconst 0, 1) := by decide +kernel
theorem dX7_shape_25 : decode cX7_shape 25 = .ok (.iload_n 3, 1) := by decide +kernel
theorem dX7_shape_26 : decode cX7_shape 26 = .ok (.ifCond .ne 7, 3) := by decide +kernel
theorem dX7_shape_29 : decode cX7_shape 29 = .ok (.iconst 0, 1) := by decide +kernel
theorem dX7_shape_30 : decode cX7_shape 30 = .ok (.goto 5, 3) := by decide +kernel
theorem dX7_shape_33 : decode cX7_shape 33 = .ok (.bipush 99, 2) := by decide +kernel
theorem dX7_shape_35 : decode cX7_shape 35 = .ok (.invokestatic 111, 3) := by decide +kernel
theorem dX7_shape_38 : decode cX7_shape 38 = .ok (.ifCond .eq 7, 3) := by decide +kernel
theorem dX7_shape_41 : decode cX7_shape 41 = .ok (.iconst 1, 1) := by decide +kernel
theorem dX7_shape_42 : decode cX7_shape 42 = .ok (.goto 4, 3) := by decide +kernel
theorem dX7_shape_45 : decode cX7_shape 45 = .ok (.iconst 0, 1) := by decide +kernel
theorem dX7_shape_46 : decode cX7_shape 46 = .ok (.istore 5, 2) := by decide +kernel
theorem dX7_shape_48 : decode cX7_shape 48 = .ok (.aload_n 0, 1) := by decide +kernel
theorem dX7_shape_49 : decode cX7_shape 49 = .ok (.iload_n 1, 1) := by decide +kernel
theorem dX7_shape_50 : decode cX7_shape 50 = .ok (.invokestatic 118, 3) := by decide +kernel
theorem dX7_shape_53 : decode cX7_shape 53 = .ok (.ifCond .ne 7, 3) := by decide +kernel
theorem dX7_shape_56 : decode cX7_shape 56 = .ok (.iconst 1, 1) := by decide +kernel
theorem dX7_shape_57 : decode cX7_shape 57 = .ok (.goto 13, 3) := by decide +kernel
theorem dX7_shape_60 : decode cX7_shape 60 = .ok (.iload 5, 2) := by decide +kernel
theorem dX7_shape_62 : decode cX7_shape 62 = .ok (.ifCond .eq 7, 3) := by decide +kernel
theorem dX7_shape_65 : decode cX7_shape 65 = .ok (.iconst 0, 1) := by decide +kernel
theorem dX7_shape_66 : decode cX7_shape 66 = .ok (.goto 4, 3) := by decide +kernel
theorem dX7_shape_69 : decode cX7_shape 69 = .ok (.iconst 2, 1) := by decide +kernel
theorem dX7_shape_70 : decode cX7_shape 70 = .ok (.invokevirtual 122, 3) := by decide +kernel
theorem dX7_shape_73 : decode cX7_shape 73 = .ok (.ifCond .ne 5, 3) := by decide +kernel
theorem dX7_shape_76 : decode cX7_shape 76 = .ok (.iconst 0, 1) := by decide +kernel
theorem dX7_shape_77 : decode cX7_shape 77 = .ok (.ireturn, 1) := by decide +kernel
theorem dX7_shape_78 : decode cX7_shape 78 = .ok (.aload_n 0, 1) := by decide +kernel
theorem dX7_shape_79 : decode cX7_shape 79 = .ok (.getfield 7, 3) := by decide +kernel
theorem dX7_shape_82 : decode cX7_shape 82 = .ok (.iload_n 1, 1) := by decide +kernel
theorem dX7_shape_83 : decode cX7_shape 83 = .ok (.iload_n 2, 1) := by decide +kernel
theorem dX7_shape_84 : decode cX7_shape 84 = .ok (.iastore, 1) := by decide +kernel
theorem dX7_shape_85 : decode cX7_shape 85 = .ok (.aload_n 0, 1) := by decide +kernel
theorem dX7_shape_86 : decode cX7_shape 86 = .ok (.getfield 16, 3) := by decide +kernel
theorem dX7_shape_89 : decode cX7_shape 89 = .ok (.iload_n 1, 1) := by decide +kernel
theorem dX7_shape_90 : decode cX7_shape 90 = .ok (.iload_n 3, 1) := by decide +kernel
theorem dX7_shape_91 : decode cX7_shape 91 = .ok (.iastore, 1) := by decide +kernel
theorem dX7_shape_92 : decode cX7_shape 92 = .ok (.aload_n 0, 1) := by decide +kernel
theorem dX7_shape_93 : decode cX7_shape 93 = .ok (.getfield 19, 3) := by decide +kernel
theorem dX7_shape_96 : decode cX7_shape 96 = .ok (.iload_n 1, 1) := by decide +kernel
theorem dX7_shape_97 : decode cX7_shape 97 = .ok (.iload 4, 2) := by decide +kernel
theorem dX7_shape_99 : decode cX7_shape 99 = .ok (.iastore, 1) := by decide +kernel
theorem dX7_shape_100 : decode cX7_shape 100 = .ok (.aload_n 0, 1) := by decide +kernel
theorem dX7_shape_101 : decode cX7_shape 101 = .ok (.getfield 22, 3) := by decide +kernel
theorem dX7_shape_104 : decode cX7_shape 104 = .ok (.iload_n 1, 1) := by decide +kernel
theorem dX7_shape_105 : decode cX7_shape 105 = .ok (.iconst 0, 1) := by decide +kernel
theorem dX7_shape_106 : decode cX7_shape 106 = .ok (.iastore, 1) := by decide +kernel
theorem dX7_shape_107 : decode cX7_shape 107 = .ok (.aload_n 0, 1) := by decide +kernel
theorem dX7_shape_108 : decode cX7_shape 108 = .ok (.getfield 28, 3) := by decide +kernel
theorem dX7_shape_111 : decode cX7_shape 111 = .ok (.iload_n 1, 1) := by decide +kernel
theorem dX7_shape_112 : decode cX7_shape 112 = .ok (.iload_n 3, 1) := by decide +kernel
theorem dX7_shape_113 : decode cX7_shape 113 = .ok (.ifCond .ne 7, 3) := by decide +kernel
theorem dX7_shape_116 : decode cX7_shape 116 = .ok (.iconst 0, 1) := by decide +kernel
theorem dX7_shape_117 : decode cX7_shape 117 = .ok (.goto 29, 3) := by decide +kernel
theorem dX7_shape_120 : decode cX7_shape 120 = .ok (.iload 4, 2) := by decide +kernel
theorem dX7_shape_122 : decode cX7_shape 122 = .ok (.iload 4, 2) := by decide +kernel
theorem dX7_shape_124 : decode cX7_shape 124 = .ok (.imul, 1) := by decide +kernel
theorem dX7_shape_125 : decode cX7_shape 125 = .ok (.iload_n 3, 1) := by decide +kernel
theorem dX7_shape_126 : decode cX7_shape 126 = .ok (.iconst 1, 1) := by decide +kernel
theorem dX7_shape_127 : decode cX7_shape 127 = .ok (.if_icmp .ne 7, 3) := by decide +kernel
theorem dX7_shape_130 : decode cX7_shape 130 = .ok (.iconst 3, 1) := by decide +kernel
theorem dX7_shape_131 : decode cX7_shape 131 = .ok (.goto 14, 3) := by decide +kernel
theorem dX7_shape_134 : decode cX7_shape 134 = .ok (.iload_n 3, 1) := by decide +kernel
theorem dX7_shape_135 : decode cX7_shape 135 = .ok (.iconst 2, 1) := by decide +kernel
theorem dX7_shape_136 : decode cX7_shape 136 = .ok (.if_icmp .ne 8, 3) := by decide +kernel
theorem dX7_shape_139 : decode cX7_shape 139 = .ok (.bipush 6, 2) := by decide +kernel
theorem dX7_shape_141 : decode cX7_shape 141 = .ok (.goto 4, 3) := by decide +kernel
theorem dX7_shape_144 : decode cX7_shape 144 = .ok (.iconst 2, 1) := by decide +kernel
theorem dX7_shape_145 : decode cX7_shape 145 = .ok (.idiv, 1) := by decide +kernel
theorem dX7_shape_146 : decode cX7_shape 146 = .ok (.iastore, 1) := by decide +kernel
theorem dX7_shape_147 : decode cX7_shape 147 = .ok (.aload_n 0, 1) := by decide +kernel
theorem dX7_shape_148 : decode cX7_shape 148 = .ok (.getfield 28, 3) := by decide +kernel
theorem dX7_shape_151 : decode cX7_shape 151 = .ok (.iload_n 1, 1) := by decide +kernel
theorem dX7_shape_152 : decode cX7_shape 152 = .ok (.iaload, 1) := by decide +kernel
theorem dX7_shape_153 : decode cX7_shape 153 = .ok (.ireturn, 1) := by decide +kernel
theorem dX7_floor_0 : decode cX7_floor 0 = .ok (.iload_n 0, 1) := by decide +kernel
theorem dX7_floor_1 : decode cX7_floor 1 = .ok (.ifCond .lt 9, 3) := by decide +kernel
theorem dX7_floor_4 : decode cX7_floor 4 = .ok (.iload_n 0, 1) := by decide +kernel
theorem dX7_floor_5 : decode cX7_floor 5 = .ok (.iload_n 1, 1) := by decide +kernel
theorem dX7_floor_6 : decode cX7_floor 6 = .ok (.idiv, 1) := by decide +kernel
theorem dX7_floor_7 : decode cX7_floor 7 = .ok (.goto 11, 3) := by decide +kernel
theorem dX7_floor_10 : decode cX7_floor 10 = .ok (.iload_n 1, 1) := by decide +kernel
theorem dX7_floor_11 : decode cX7_floor 11 = .ok (.iconst 1, 1) := by decide +kernel
theorem dX7_floor_12 : decode cX7_floor 12 = .ok (.isub, 1) := by decide +kernel
theorem dX7_floor_13 : decode cX7_floor 13 = .ok (.iload_n 0, 1) := by decide +kernel
theorem dX7_floor_14 : decode cX7_floor 14 = .ok (.isub, 1) := by decide +kernel
theorem dX7_floor_15 : decode cX7_floor 15 = .ok (.iload_n 1, 1) := by decide +kernel
theorem dX7_floor_16 : decode cX7_floor 16 = .ok (.idiv, 1) := by decide +kernel
theorem dX7_floor_17 : decode cX7_floor 17 = .ok (.ineg, 1) := by decide +kernel
theorem dX7_floor_18 : decode cX7_floor 18 = .ok (.ireturn, 1) := by decide +kernel
set_option maxRecDepth 20000 in
theorem ggX7_read_X7_isInput : GoodIn wsX7_read wsX7_isInput := goodIn_r _ [10, 11, 12, 9, 13] (by decide +kernel) (by decide +kernel)
set_option maxRecDepth 20000 in
theorem gX7_read_X7_isInput : GoodIn wsX7_read (va_wsS RX7 118 yX7_isInput wsX7_isInput) := goodIn_app (goodIn_of _ (by decide +kernel)) ggX7_read_X7_isInput
set_option maxRecDepth 20000 in
theorem ggX7_read_X7_isIn : GoodIn wsX7_read wsX7_isIn := goodIn_r _ [13] (by decide +kernel) (by decide +kernel)
set_option maxRecDepth 20000 in
theorem gX7_read_X7_isIn : GoodIn wsX7_read (va_wsS RX7 111 yX7_isIn wsX7_isIn) := goodIn_app (goodIn_of _ (by decide +kernel)) ggX7_read_X7_isIn
set_option maxRecDepth 20000 in
theorem ggX7_read_X7_holds : GoodIn wsX7_read wsX7_holds := goodIn_r _ [17, 18, 22, 23, 24, 25, 26, 27, 28, 29, 30, 31, 32, 33, 34, 35, 36, 37, 38, 39, 40, 41, 42, 43, 44, 45, 46, 47, 48, 49, 50, 51, 52, 53, 54, 55, 56, 57, 58] (by decide +kernel) (by decide +kernel)
set_option maxRecDepth 20000 in
theorem gX7_read_X7_holds : GoodIn wsX7_read (wsV RX7 122 RX7 yX7_holds wsX7_holds) := goodIn_app (goodIn_of _ (by decide +kernel)) ggX7_read_X7_holds
set_option maxRecDepth 20000 in
theorem ggX7_read_X7_floor : GoodIn wsX7_read wsX7_floor := goodIn_r _ [21] (by decide +kernel) (by decide +kernel)
set_option maxRecDepth 20000 in
theorem gX7_read_X7_floor : GoodIn wsX7_read (va_wsS RX7 125 yX7_floor wsX7_floor) := goodIn_app (goodIn_of _ (by decide +kernel)) ggX7_read_X7_floor
theorem dX7_read_0 : decode cX7_read 0 = .ok (.iload_n 1, 1) := by decide +kernel
theorem dX7_read_1 : decode cX7_read 1 = .ok (.invokestatic 118, 3) := by decide +kernel
theorem dX7_read_4 : decode cX7_read 4 = .ok (.istore_n 3, 1) := by decide +kernel
theorem dX7_read_5 : decode cX7_read 5 = .ok (.aload_n 0, 1) := by decide +kernel
theorem dX7_read_6 : decode cX7_read 6 = .ok (.iload_n 3, 1) := by decide +kernel
theorem dX7_read_7 : decode cX7_read 7 = .ok (.ifCond .ne 7, 3) := by decide +kernel
theorem dX7_read_10 : decode cX7_read 10 = .ok (.iconst 1, 1) := by decide +kernel
theorem dX7_read_11 : decode cX7_read 11 = .ok (.goto 36, 3) := by decide +kernel
theorem dX7_read_14 : decode cX7_read 14 = .ok (.iload_n 2, 1) := by decide +kernel
theorem dX7_read_15 : decode cX7_read 15 = .ok (.sipush (-999), 3) := by decide +kernel
theorem dX7_read_18 : decode cX7_read 18 = .ok (.sipush 999, 3) := by decide +kernel
theorem dX7_read_21 : decode cX7_read 21 = .ok (.invokestatic 111, 3) := by decide +kernel
theorem dX7_read_24 : decode cX7_read 24 = .ok (.ifCond .ne 7, 3) := by decide +kernel
theorem dX7_read_27 : decode cX7_read 27 = .ok (.iconst 2, 1) := by decide +kernel
theorem dX7_read_28 : decode cX7_read 28 = .ok (.goto 19, 3) := by decide +kernel
theorem dX7_read_31 : decode cX7_read 31 = .ok (.aload_n 0, 1) := by decide +kernel
theorem dX7_read_32 : decode cX7_read 32 = .ok (.getfield 22, 3) := by decide +kernel
theorem dX7_read_35 : decode cX7_read 35 = .ok (.iload_n 1, 1) := by decide +kernel
theorem dX7_read_36 : decode cX7_read 36 = .ok (.iaload, 1) := by decide +kernel
theorem dX7_read_37 : decode cX7_read 37 = .ok (.bipush 8, 2) := by decide +kernel
theorem dX7_read_39 : decode cX7_read 39 = .ok (.if_icmp .ne 7, 3) := by decide +kernel
theorem dX7_read_42 : decode cX7_read 42 = .ok (.iconst 3, 1) := by decide +kernel
theorem dX7_read_43 : decode cX7_read 43 = .ok (.goto 4, 3) := by decide +kernel
theorem dX7_read_46 : decode cX7_read 46 = .ok (.iconst 0, 1) := by decide +kernel
theorem dX7_read_47 : decode cX7_read 47 = .ok (.invokevirtual 122, 3) := by decide +kernel
theorem dX7_read_50 : decode cX7_read 50 = .ok (.ifCond .ne 5, 3) := by decide +kernel
theorem dX7_read_53 : decode cX7_read 53 = .ok (.iconst 0, 1) := by decide +kernel
theorem dX7_read_54 : decode cX7_read 54 = .ok (.ireturn, 1) := by decide +kernel
theorem dX7_read_55 : decode cX7_read 55 = .ok (.aload_n 0, 1) := by decide +kernel
theorem dX7_read_56 : decode cX7_read 56 = .ok (.getfield 16, 3) := by decide +kernel
theorem dX7_read_59 : decode cX7_read 59 = .ok (.iload_n 1, 1) := by decide +kernel
theorem dX7_read_60 : decode cX7_read 60 = .ok (.iconst 4, 1) := by decide +kernel
theorem dX7_read_61 : decode cX7_read 61 = .ok (.iastore, 1) := by decide +kernel
theorem dX7_read_62 : decode cX7_read 62 = .ok (.aload_n 0, 1) := by decide +kernel
theorem dX7_read_63 : decode cX7_read 63 = .ok (.getfield 19, 3) := by decide +kernel
theorem dX7_read_66 : decode cX7_read 66 = .ok (.iload_n 1, 1) := by decide +kernel
theorem dX7_read_67 : decode cX7_read 67 = .ok (.iconst 0, 1) := by decide +kernel
theorem dX7_read_68 : decode cX7_read 68 = .ok (.iastore, 1) := by decide +kernel
theorem dX7_read_69 : decode cX7_read 69 = .ok (.aload_n 0, 1) := by decide +kernel
theorem dX7_read_70 : decode cX7_read 70 = .ok (.getfield 25, 3) := by decide +kernel
theorem dX7_read_73 : decode cX7_read 73 = .ok (.bipush 8, 2) := by decide +kernel
theorem dX7_read_75 : decode cX7_read 75 = .ok (.iload_n 1, 1) := by decide +kernel
theorem dX7_read_76 : decode cX7_read 76 = .ok (.imul, 1) := by decide +kernel
theorem dX7_read_77 : decode cX7_read 77 = .ok (.aload_n 0, 1) := by decide +kernel
theorem dX7_read_78 : decode cX7_read 78 = .ok (.getfield 22, 3) := by decide +kernel
theorem dX7_read_81 : decode cX7_read 81 = .ok (.iload_n 1, 1) := by decide +kernel
theorem dX7_read_82 : decode cX7_read 82 = .ok (.iaload, 1) := by decide +kernel
theorem dX7_read_83 : decode cX7_read 83 = .ok (.iadd, 1) := by decide +kernel
theorem dX7_read_84 : decode cX7_read 84 = .ok (.iload_n 2, 1) := by decide +kernel
theorem dX7_read_85 : decode cX7_read 85 = .ok (.iastore, 1) := by decide +kernel
theorem dX7_read_86 : decode cX7_read 86 = .ok (.aload_n 0, 1) := by decide +kernel
theorem dX7_read_87 : decode cX7_read 87 = .ok (.getfield 22, 3) := by decide +kernel
theorem dX7_read_90 : decode cX7_read 90 = .ok (.iload_n 1, 1) := by decide +kernel
theorem dX7_read_91 : decode cX7_read 91 = .ok (.dup2, 1) := by decide +kernel
theorem dX7_read_92 : decode cX7_read 92 = .ok (.iaload, 1) := by decide +kernel
theorem dX7_read_93 : decode cX7_read 93 = .ok (.iconst 1, 1) := by decide +kernel
theorem dX7_read_94 : decode cX7_read 94 = .ok (.iadd, 1) := by decide +kernel
theorem dX7_read_95 : decode cX7_read 95 = .ok (.iastore, 1) := by decide +kernel
theorem dX7_read_96 : decode cX7_read 96 = .ok (.aload_n 0, 1) := by decide +kernel
theorem dX7_read_97 : decode cX7_read 97 = .ok (.getfield 22, 3) := by decide +kernel
theorem dX7_read_100 : decode cX7_read 100 = .ok (.iload_n 1, 1) := by decide +kernel
theorem dX7_read_101 : decode cX7_read 101 = .ok (.iaload, 1) := by decide +kernel
theorem dX7_read_102 : decode cX7_read 102 = .ok (.istore 4, 2) := by decide +kernel
theorem dX7_read_104 : decode cX7_read 104 = .ok (.iconst 0, 1) := by decide +kernel
theorem dX7_read_105 : decode cX7_read 105 = .ok (.istore 5, 2) := by decide +kernel
theorem dX7_read_107 : decode cX7_read 107 = .ok (.iconst 0, 1) := by decide +kernel
theorem dX7_read_108 : decode cX7_read 108 = .ok (.istore 6, 2) := by decide +kernel
theorem dX7_read_110 : decode cX7_read 110 = .ok (.iconst 0, 1) := by decide +kernel
theorem dX7_read_111 : decode cX7_read 111 = .ok (.istore 7, 2) := by decide +kernel
theorem dX7_read_113 : decode cX7_read 113 = .ok (.iload 7, 2) := by decide +kernel
theorem dX7_read_115 : decode cX7_read 115 = .ok (.iload 4, 2) := by decide +kernel
theorem dX7_read_117 : decode cX7_read 117 = .ok (.if_icmp .ge 40, 3) := by decide +kernel
theorem dX7_read_120 : decode cX7_read 120 = .ok (.aload_n 0, 1) := by decide +kernel
theorem dX7_read_121 : decode cX7_read 121 = .ok (.getfield 25, 3) := by decide +kernel
theorem dX7_read_124 : decode cX7_read 124 = .ok (.bipush 8, 2) := by decide +kernel
theorem dX7_read_126 : decode cX7_read 126 = .ok (.iload_n 1, 1) := by decide +kernel
theorem dX7_read_127 : decode cX7_read 127 = .ok (.imul, 1) := by decide +kernel
theorem dX7_read_128 : decode cX7_read 128 = .ok (.iload 7, 2) := by decide +kernel
theorem dX7_read_130 : decode cX7_read 130 = .ok (.iadd, 1) := by decide +kernel
theorem dX7_read_131 : decode cX7_read 131 = .ok (.iaload, 1) := by decide +kernel
theorem dX7_read_132 : decode cX7_read 132 = .ok (.istore 8, 2) := by decide +kernel
theorem dX7_read_134 : decode cX7_read 134 = .ok (.iload 5, 2) := by decide +kernel
theorem dX7_read_136 : decode cX7_read 136 = .ok (.iload 8, 2) := by decide +kernel
theorem dX7_read_138 : decode cX7_read 138 = .ok (.iadd, 1) := by decide +kernel
theorem dX7_read_139 : decode cX7_read 139 = .ok (.istore 5, 2) := by decide +kernel
theorem dX7_read_141 : decode cX7_read 141 = .ok (.iload 6, 2) := by decide +kernel
theorem dX7_read_143 : decode cX7_read 143 = .ok (.iload 8, 2) := by decide +kernel
theorem dX7_read_145 : decode cX7_read 145 = .ok (.iload 8, 2) := by decide +kernel
theorem dX7_read_147 : decode cX7_read 147 = .ok (.imul, 1) := by decide +kernel
theorem dX7_read_148 : decode cX7_read 148 = .ok (.iadd, 1) := by decide +kernel
theorem dX7_read_149 : decode cX7_read 149 = .ok (.istore 6, 2) := by decide +kernel
theorem dX7_read_151 : decode cX7_read 151 = .ok (.iinc 7 1, 3) := by decide +kernel
theorem dX7_read_154 : decode cX7_read 154 = .ok (.goto (-41), 3) := by decide +kernel
theorem dX7_read_157 : decode cX7_read 157 = .ok (.aload_n 0, 1) := by decide +kernel
theorem dX7_read_158 : decode cX7_read 158 = .ok (.getfield 7, 3) := by decide +kernel
theorem dX7_read_161 : decode cX7_read 161 = .ok (.iload_n 1, 1) := by decide +kernel
theorem dX7_read_162 : decode cX7_read 162 = .ok (.iload 5, 2) := by decide +kernel
theorem dX7_read_164 : decode cX7_read 164 = .ok (.iload 4, 2) := by decide +kernel
theorem dX7_read_166 : decode cX7_read 166 = .ok (.invokestatic 125, 3) := by decide +kernel
theorem dX7_read_169 : decode cX7_read 169 = .ok (.iastore, 1) := by decide +kernel
theorem dX7_read_170 : decode cX7_read 170 = .ok (.aload_n 0, 1) := by decide +kernel
theorem dX7_read_171 : decode cX7_read 171 = .ok (.getfield 28, 3) := by decide +kernel
theorem dX7_read_174 : decode cX7_read 174 = .ok (.iload_n 1, 1) := by decide +kernel
theorem dX7_read_175 : decode cX7_read 175 = .ok (.iload 4, 2) := by decide +kernel
theorem dX7_read_177 : decode cX7_read 177 = .ok (.iconst 1, 1) := by decide +kernel
theorem dX7_read_178 : decode cX7_read 178 = .ok (.if_icmp .ne 7, 3) := by decide +kernel
theorem dX7_read_181 : decode cX7_read 181 = .ok (.iconst 0, 1) := by decide +kernel
theorem dX7_read_182 : decode cX7_read 182 = .ok (.goto 25, 3) := by decide +kernel
theorem dX7_read_185 : decode cX7_read 185 = .ok (.iload 4, 2) := by decide +kernel
theorem dX7_read_187 : decode cX7_read 187 = .ok (.iload 6, 2) := by decide +kernel
theorem dX7_read_189 : decode cX7_read 189 = .ok (.imul, 1) := by decide +kernel
theorem dX7_read_190 : decode cX7_read 190 = .ok (.iload 5, 2) := by decide +kernel
theorem dX7_read_192 : decode cX7_read 192 = .ok (.iload 5, 2) := by decide +kernel
theorem dX7_read_194 : decode cX7_read 194 = .ok (.imul, 1) := by decide +kernel
theorem dX7_read_195 : decode cX7_read 195 = .ok (.isub, 1) := by decide +kernel
theorem dX7_read_196 : decode cX7_read 196 = .ok (.iload 4, 2) := by decide +kernel
theorem dX7_read_198 : decode cX7_read 198 = .ok (.iload 4, 2) := by decide +kernel
theorem dX7_read_200 : decode cX7_read 200 = .ok (.imul, 1) := by decide +kernel
theorem dX7_read_201 : decode cX7_read 201 = .ok (.iload 4, 2) := by decide +kernel
theorem dX7_read_203 : decode cX7_read 203 = .ok (.iconst 1, 1) := by decide +kernel
theorem dX7_read_204 : decode cX7_read 204 = .ok (.isub, 1) := by decide +kernel
theorem dX7_read_205 : decode cX7_read 205 = .ok (.imul, 1) := by decide +kernel
theorem dX7_read_206 : decode cX7_read 206 = .ok (.idiv, 1) := by decide +kernel
theorem dX7_read_207 : decode cX7_read 207 = .ok (.iastore, 1) := by decide +kernel
theorem dX7_read_208 : decode cX7_read 208 = .ok (.aload_n 0, 1) := by decide +kernel
theorem dX7_read_209 : decode cX7_read 209 = .ok (.getfield 28, 3) := by decide +kernel
theorem dX7_read_212 : decode cX7_read 212 = .ok (.iload_n 1, 1) := by decide +kernel
theorem dX7_read_213 : decode cX7_read 213 = .ok (.iaload, 1) := by decide +kernel
theorem dX7_read_214 : decode cX7_read 214 = .ok (.ireturn, 1) := by decide +kernel
set_option maxRecDepth 20000 in
theorem ggX7_unit_X7_isInput : GoodIn wsX7_unit wsX7_isInput := goodIn_r _ [6, 7, 8, 5, 9] (by decide +kernel) (by decide +kernel)
set_option maxRecDepth 20000 in
theorem gX7_unit_X7_isInput : GoodIn wsX7_unit (va_wsS RX7 118 yX7_isInput wsX7_isInput) := goodIn_app (goodIn_of _ (by decide +kernel)) ggX7_unit_X7_isInput
set_option maxRecDepth 20000 in
theorem ggX7_unit_X7_isIn : GoodIn wsX7_unit wsX7_isIn := goodIn_r _ [9] (by decide +kernel) (by decide +kernel)
set_option maxRecDepth 20000 in
theorem gX7_unit_X7_isIn : GoodIn wsX7_unit (va_wsS RX7 111 yX7_isIn wsX7_isIn) := goodIn_app (goodIn_of _ (by decide +kernel)) ggX7_unit_X7_isIn
set_option maxRecDepth 20000 in
theorem ggX7_unit_X7_holds : GoodIn wsX7_unit wsX7_holds := goodIn_r _ [13, 14, 32, 33, 34, 35, 36, 37, 38, 39, 40, 41, 42, 43, 44, 45, 46, 47, 48, 49, 50, 51, 52, 53, 54, 55, 56, 57, 58, 59, 60, 61, 62, 63, 64, 65, 66, 67, 68] (by decide +kernel) (by decide +kernel)
set_option maxRecDepth 20000 in
theorem gX7_unit_X7_holds : GoodIn wsX7_unit (wsV RX7 122 RX7 yX7_holds wsX7_holds) := goodIn_app (goodIn_of _ (by decide +kernel)) ggX7_unit_X7_holds
set_option maxRecDepth 20000 in
theorem ggX7_unit_X7_fault : GoodIn wsX7_unit wsX7_fault := goodIn_r _ [18, 19, 20, 21, 22, 23, 24, 25, 26, 5, 27, 28, 29, 1, 30, 31, 32, 33, 34, 35, 36, 37, 38, 39, 40, 41, 42, 43, 44, 45, 46, 47, 48, 49, 50, 51, 52, 53, 54, 55, 56, 57, 58, 59, 60, 61, 62, 63, 64, 65, 66, 67, 68] (by decide +kernel) (by decide +kernel)
set_option maxRecDepth 20000 in
theorem gX7_unit_X7_fault : GoodIn wsX7_unit (wsV RX7 129 RX7 yX7_fault wsX7_fault) := goodIn_app (goodIn_of _ (by decide +kernel)) ggX7_unit_X7_fault
theorem dX7_unit_0 : decode cX7_unit 0 = .ok (.aload_n 0, 1) := by decide +kernel
theorem dX7_unit_1 : decode cX7_unit 1 = .ok (.iload_n 1, 1) := by decide +kernel
theorem dX7_unit_2 : decode cX7_unit 2 = .ok (.invokestatic 118, 3) := by decide +kernel
theorem dX7_unit_5 : decode cX7_unit 5 = .ok (.ifCond .ne 7, 3) := by decide +kernel
theorem dX7_unit_8 : decode cX7_unit 8 = .ok (.iconst 1, 1) := by decide +kernel
theorem dX7_unit_9 : decode cX7_unit 9 = .ok (.goto 28, 3) := by decide +kernel
theorem dX7_unit_12 : decode cX7_unit 12 = .ok (.iload_n 2, 1) := by decide +kernel
theorem dX7_unit_13 : decode cX7_unit 13 = .ok (.bipush (-3), 2) := by decide +kernel
theorem dX7_unit_15 : decode cX7_unit 15 = .ok (.iconst 3, 1) := by decide +kernel
theorem dX7_unit_16 : decode cX7_unit 16 = .ok (.invokestatic 111, 3) := by decide +kernel
theorem dX7_unit_19 : decode cX7_unit 19 = .ok (.ifCond .eq 17, 3) := by decide +kernel
theorem dX7_unit_22 : decode cX7_unit 22 = .ok (.iload_n 3, 1) := by decide +kernel
theorem dX7_unit_23 : decode cX7_unit 23 = .ok (.bipush (-3), 2) := by decide +kernel
theorem dX7_unit_25 : decode cX7_unit 25 = .ok (.iconst 3, 1) := by decide +kernel
theorem dX7_unit_26 : decode cX7_unit 26 = .ok (.invokestatic 111, 3) := by decide +kernel
theorem dX7_unit_29 : decode cX7_unit 29 = .ok (.ifCond .eq 7, 3) := by decide +kernel
theorem dX7_unit_32 : decode cX7_unit 32 = .ok (.iconst 0, 1) := by decide +kernel
theorem dX7_unit_33 : decode cX7_unit 33 = .ok (.goto 4, 3) := by decide +kernel
theorem dX7_unit_36 : decode cX7_unit 36 = .ok (.iconst 2, 1) := by decide +kernel
theorem dX7_unit_37 : decode cX7_unit 37 = .ok (.invokevirtual 122, 3) := by decide +kernel
theorem dX7_unit_40 : decode cX7_unit 40 = .ok (.ifCond .ne 5, 3) := by decide +kernel
theorem dX7_unit_43 : decode cX7_unit 43 = .ok (.iconst 0, 1) := by decide +kernel
theorem dX7_unit_44 : decode cX7_unit 44 = .ok (.ireturn, 1) := by decide +kernel
theorem dX7_unit_45 : decode cX7_unit 45 = .ok (.aload_n 0, 1) := by decide +kernel
theorem dX7_unit_46 : decode cX7_unit 46 = .ok (.getfield 13, 3) := by decide +kernel
theorem dX7_unit_49 : decode cX7_unit 49 = .ok (.iconst 2, 1) := by decide +kernel
theorem dX7_unit_50 : decode cX7_unit 50 = .ok (.iload_n 1, 1) := by decide +kernel
theorem dX7_unit_51 : decode cX7_unit 51 = .ok (.imul, 1) := by decide +kernel
theorem dX7_unit_52 : decode cX7_unit 52 = .ok (.iload_n 2, 1) := by decide +kernel
theorem dX7_unit_53 : decode cX7_unit 53 = .ok (.iastore, 1) := by decide +kernel
theorem dX7_unit_54 : decode cX7_unit 54 = .ok (.aload_n 0, 1) := by decide +kernel
theorem dX7_unit_55 : decode cX7_unit 55 = .ok (.getfield 13, 3) := by decide +kernel
theorem dX7_unit_58 : decode cX7_unit 58 = .ok (.iconst 2, 1) := by decide +kernel
theorem dX7_unit_59 : decode cX7_unit 59 = .ok (.iload_n 1, 1) := by decide +kernel
theorem dX7_unit_60 : decode cX7_unit 60 = .ok (.imul, 1) := by decide +kernel
theorem dX7_unit_61 : decode cX7_unit 61 = .ok (.iconst 1, 1) := by decide +kernel
theorem dX7_unit_62 : decode cX7_unit 62 = .ok (.iadd, 1) := by decide +kernel
theorem dX7_unit_63 : decode cX7_unit 63 = .ok (.iload_n 3, 1) := by decide +kernel
theorem dX7_unit_64 : decode cX7_unit 64 = .ok (.iastore, 1) := by decide +kernel
theorem dX7_unit_65 : decode cX7_unit 65 = .ok (.iconst 0, 1) := by decide +kernel
theorem dX7_unit_66 : decode cX7_unit 66 = .ok (.istore 4, 2) := by decide +kernel
theorem dX7_unit_68 : decode cX7_unit 68 = .ok (.iconst 0, 1) := by decide +kernel
theorem dX7_unit_69 : decode cX7_unit 69 = .ok (.istore 5, 2) := by decide +kernel
theorem dX7_unit_71 : decode cX7_unit 71 = .ok (.iload 5, 2) := by decide +kernel
theorem dX7_unit_73 : decode cX7_unit 73 = .ok (.aload_n 0, 1) := by decide +kernel
theorem dX7_unit_74 : decode cX7_unit 74 = .ok (.getfield 115, 3) := by decide +kernel
theorem dX7_unit_77 : decode cX7_unit 77 = .ok (.if_icmp .ge 29, 3) := by decide +kernel
theorem dX7_unit_80 : decode cX7_unit 80 = .ok (.iload 4, 2) := by decide +kernel
theorem dX7_unit_82 : decode cX7_unit 82 = .ok (.aload_n 0, 1) := by decide +kernel
theorem dX7_unit_83 : decode cX7_unit 83 = .ok (.iload 5, 2) := by decide +kernel
theorem dX7_unit_85 : decode cX7_unit 85 = .ok (.invokevirtual 129, 3) := by decide +kernel
theorem dX7_unit_88 : decode cX7_unit 88 = .ok (.iconst (-1), 1) := by decide +kernel
theorem dX7_unit_89 : decode cX7_unit 89 = .ok (.if_icmp .ne 7, 3) := by decide +kernel
theorem dX7_unit_92 : decode cX7_unit 92 = .ok (.iconst 0, 1) := by decide +kernel
theorem dX7_unit_93 : decode cX7_unit 93 = .ok (.goto 4, 3) := by decide +kernel
theorem dX7_unit_96 : decode cX7_unit 96 = .ok (.iconst 1, 1) := by decide +kernel
theorem dX7_unit_97 : decode cX7_unit 97 = .ok (.iadd, 1) := by decide +kernel
theorem dX7_unit_98 : decode cX7_unit 98 = .ok (.istore 4, 2) := by decide +kernel
theorem dX7_unit_100 : decode cX7_unit 100 = .ok (.iinc 5 1, 3) := by decide +kernel
theorem dX7_unit_103 : decode cX7_unit 103 = .ok (.goto (-32), 3) := by decide +kernel
theorem dX7_unit_106 : decode cX7_unit 106 = .ok (.iload 4, 2) := by decide +kernel
theorem dX7_unit_108 : decode cX7_unit 108 = .ok (.ireturn, 1) := by decide +kernel
set_option maxRecDepth 20000 in
theorem ggX7_together_X7_isInput : GoodIn wsX7_together wsX7_isInput := goodIn_r _ [5, 6, 7, 4, 8] (by decide +kernel) (by decide +kernel)
set_option maxRecDepth 20000 in
theorem gX7_together_X7_isInput : GoodIn wsX7_together (va_wsS RX7 118 yX7_isInput wsX7_isInput) := goodIn_app (goodIn_of _ (by decide +kernel)) ggX7_together_X7_isInput
set_option maxRecDepth 20000 in
theorem ggX7_together_X7_isIn : GoodIn wsX7_together wsX7_isIn := goodIn_r _ [8] (by decide +kernel) (by decide +kernel)
set_option maxRecDepth 20000 in
theorem gX7_together_X7_isIn : GoodIn wsX7_together (va_wsS RX7 111 yX7_isIn wsX7_isIn) := goodIn_app (goodIn_of _ (by decide +kernel)) ggX7_together_X7_isIn
set_option maxRecDepth 20000 in
theorem ggX7_together_X7_holds : GoodIn wsX7_together wsX7_holds := goodIn_r _ [12, 13, 14, 15, 16, 17, 18, 19, 20, 21, 22, 23, 24, 25, 26, 27, 28, 29, 30, 31, 32, 33, 34, 35, 36, 37, 38, 39, 40, 41, 42, 43, 44, 45, 46, 47, 48, 49, 50] (by decide +kernel) (by decide +kernel)
set_option maxRecDepth 20000 in
theorem gX7_together_X7_holds : GoodIn wsX7_together (wsV RX7 122 RX7 yX7_holds wsX7_holds) := goodIn_app (goodIn_of _ (by decide +kernel)) ggX7_together_X7_holds
theorem dX7_together_0 : decode cX7_together 0 = .ok (.iload_n 1, 1) := by decide +kernel
theorem dX7_together_1 : decode cX7_together 1 = .ok (.invokestatic 118, 3) := by decide +kernel
theorem dX7_together_4 : decode cX7_together 4 = .ok (.ifCond .eq 14, 3) := by decide +kernel
theorem dX7_together_7 : decode cX7_together 7 = .ok (.iload_n 2, 1) := by decide +kernel
theorem dX7_together_8 : decode cX7_together 8 = .ok (.invokestatic 118, 3) := by decide +kernel
theorem dX7_together_11 : decode cX7_together 11 = .ok (.ifCond .eq 7, 3) := by decide +kernel
theorem dX7_together_14 : decode cX7_together 14 = .ok (.iconst 1, 1) := by decide +kernel
theorem dX7_together_15 : decode cX7_together 15 = .ok (.goto 4, 3) := by decide +kernel
theorem dX7_together_18 : decode cX7_together 18 = .ok (.iconst 0, 1) := by decide +kernel
theorem dX7_together_19 : decode cX7_together 19 = .ok (.istore 4, 2) := by decide +kernel
theorem dX7_together_21 : decode cX7_together 21 = .ok (.aload_n 0, 1) := by decide +kernel
theorem dX7_together_22 : decode cX7_together 22 = .ok (.iload 4, 2) := by decide +kernel
theorem dX7_together_24 : decode cX7_together 24 = .ok (.ifCond .ne 7, 3) := by decide +kernel
theorem dX7_together_27 : decode cX7_together 27 = .ok (.iconst 1, 1) := by decide +kernel
theorem dX7_together_28 : decode cX7_together 28 = .ok (.goto 26, 3) := by decide +kernel
theorem dX7_together_31 : decode cX7_together 31 = .ok (.iload_n 1, 1) := by decide +kernel
theorem dX7_together_32 : decode cX7_together 32 = .ok (.iload_n 2, 1) := by decide +kernel
theorem dX7_together_33 : decode cX7_together 33 = .ok (.if_icmp .eq 16, 3) := by decide +kernel
theorem dX7_together_36 : decode cX7_together 36 = .ok (.iload_n 3, 1) := by decide +kernel
theorem dX7_together_37 : decode cX7_together 37 = .ok (.sipush (-9999), 3) := by decide +kernel
theorem dX7_together_40 : decode cX7_together 40 = .ok (.sipush 9999, 3) := by decide +kernel
theorem dX7_together_43 : decode cX7_together 43 = .ok (.invokestatic 111, 3) := by decide +kernel
theorem dX7_together_46 : decode cX7_together 46 = .ok (.ifCond .ne 7, 3) := by decide +kernel
theorem dX7_together_49 : decode cX7_together 49 = .ok (.iconst 2, 1) := by decide +kernel
theorem dX7_together_50 : decode cX7_together 50 = .ok (.goto 4, 3) := by decide +kernel
theorem dX7_together_53 : decode cX7_together 53 = .ok (.iconst 0, 1) := by decide +kernel
theorem dX7_together_54 : decode cX7_together 54 = .ok (.invokevirtual 122, 3) := by decide +kernel
theorem dX7_together_57 : decode cX7_together 57 = .ok (.ifCond .ne 5, 3) := by decide +kernel
theorem dX7_together_60 : decode cX7_together 60 = .ok (.iconst 0, 1) := by decide +kernel
theorem dX7_together_61 : decode cX7_together 61 = .ok (.ireturn, 1) := by decide +kernel
theorem dX7_together_62 : decode cX7_together 62 = .ok (.aload_n 0, 1) := by decide +kernel
theorem dX7_together_63 : decode cX7_together 63 = .ok (.getfield 31, 3) := by decide +kernel
theorem dX7_together_66 : decode cX7_together 66 = .ok (.bipush 6, 2) := by decide +kernel
theorem dX7_together_68 : decode cX7_together 68 = .ok (.iload_n 1, 1) := by decide +kernel
theorem dX7_together_69 : decode cX7_together 69 = .ok (.imul, 1) := by decide +kernel
theorem dX7_together_70 : decode cX7_together 70 = .ok (.iload_n 2, 1) := by decide +kernel
theorem dX7_together_71 : decode cX7_together 71 = .ok (.iadd, 1) := by decide +kernel
theorem dX7_together_72 : decode cX7_together 72 = .ok (.iaload, 1) := by decide +kernel
theorem dX7_together_73 : decode cX7_together 73 = .ok (.istore 5, 2) := by decide +kernel
theorem dX7_together_75 : decode cX7_together 75 = .ok (.aload_n 0, 1) := by decide +kernel
theorem dX7_together_76 : decode cX7_together 76 = .ok (.getfield 31, 3) := by decide +kernel
theorem dX7_together_79 : decode cX7_together 79 = .ok (.bipush 6, 2) := by decide +kernel
theorem dX7_together_81 : decode cX7_together 81 = .ok (.iload_n 1, 1) := by decide +kernel
theorem dX7_together_82 : decode cX7_together 82 = .ok (.imul, 1) := by decide +kernel
theorem dX7_together_83 : decode cX7_together 83 = .ok (.iload_n 2, 1) := by decide +kernel
theorem dX7_together_84 : decode cX7_together 84 = .ok (.iadd, 1) := by decide +kernel
theorem dX7_together_85 : decode cX7_together 85 = .ok (.iload_n 3, 1) := by decide +kernel
theorem dX7_together_86 : decode cX7_together 86 = .ok (.iastore, 1) := by decide +kernel
theorem dX7_together_87 : decode cX7_together 87 = .ok (.aload_n 0, 1) := by decide +kernel
theorem dX7_together_88 : decode cX7_together 88 = .ok (.getfield 31, 3) := by decide +kernel
theorem dX7_together_91 : decode cX7_together 91 = .ok (.bipush 6, 2) := by decide +kernel
theorem dX7_together_93 : decode cX7_together 93 = .ok (.iload_n 2, 1) := by decide +kernel
theorem dX7_together_94 : decode cX7_together 94 = .ok (.imul, 1) := by decide +kernel
theorem dX7_together_95 : decode cX7_together 95 = .ok (.iload_n 1, 1) := by decide +kernel
theorem dX7_together_96 : decode cX7_together 96 = .ok (.iadd, 1) := by decide +kernel
theorem dX7_together_97 : decode cX7_together 97 = .ok (.iload_n 3, 1) := by decide +kernel
theorem dX7_together_98 : decode cX7_together 98 = .ok (.iastore, 1) := by decide +kernel
theorem dX7_together_99 : decode cX7_together 99 = .ok (.iload 5, 2) := by decide +kernel
theorem dX7_together_101 : decode cX7_together 101 = .ok (.ireturn, 1) := by decide +kernel
theorem dX7_degreesOf_0 : decode cX7_degreesOf 0 = .ok (.aload_n 0, 1) := by decide +kernel
theorem dX7_degreesOf_1 : decode cX7_degreesOf 1 = .ok (.getfield 16, 3) := by decide +kernel
theorem dX7_degreesOf_4 : decode cX7_degreesOf 4 = .ok (.iload_n 1, 1) := by decide +kernel
theorem dX7_degreesOf_5 : decode cX7_degreesOf 5 = .ok (.iaload, 1) := by decide +kernel
theorem dX7_degreesOf_6 : decode cX7_degreesOf 6 = .ok (.iconst 4, 1) := by decide +kernel
theorem dX7_degreesOf_7 : decode cX7_degreesOf 7 = .ok (.if_icmp .ne 14, 3) := by decide +kernel
theorem dX7_degreesOf_10 : decode cX7_degreesOf 10 = .ok (.aload_n 0, 1) := by decide +kernel
theorem dX7_degreesOf_11 : decode cX7_degreesOf 11 = .ok (.getfield 22, 3) := by decide +kernel
theorem dX7_degreesOf_14 : decode cX7_degreesOf 14 = .ok (.iload_n 1, 1) := by decide +kernel
theorem dX7_degreesOf_15 : decode cX7_degreesOf 15 = .ok (.iaload, 1) := by decide +kernel
theorem dX7_degreesOf_16 : decode cX7_degreesOf 16 = .ok (.iconst 1, 1) := by decide +kernel
theorem dX7_degreesOf_17 : decode cX7_degreesOf 17 = .ok (.isub, 1) := by decide +kernel
theorem dX7_degreesOf_18 : decode cX7_degreesOf 18 = .ok (.goto 4, 3) := by decide +kernel
theorem dX7_degreesOf_21 : decode cX7_degreesOf 21 = .ok (.iconst 0, 1) := by decide +kernel
theorem dX7_degreesOf_22 : decode cX7_degreesOf 22 = .ok (.ireturn, 1) := by decide +kernel
set_option maxRecDepth 20000 in
theorem ggX7_input_X7_isInput : GoodIn wsX7_input wsX7_isInput := goodIn_r _ [9, 10, 11, 8, 12] (by decide +kernel) (by decide +kernel)
set_option maxRecDepth 20000 in
theorem gX7_input_X7_isInput : GoodIn wsX7_input (va_wsS RX7 118 yX7_isInput wsX7_isInput) := goodIn_app (goodIn_of _ (by decide +kernel)) ggX7_input_X7_isInput
set_option maxRecDepth 20000 in
theorem ggX7_input_X7_isIn : GoodIn wsX7_input wsX7_isIn := goodIn_r _ [12] (by decide +kernel) (by decide +kernel)
set_option maxRecDepth 20000 in
theorem gX7_input_X7_isIn : GoodIn wsX7_input (va_wsS RX7 111 yX7_isIn wsX7_isIn) := goodIn_app (goodIn_of _ (by decide +kernel)) ggX7_input_X7_isIn
set_option maxRecDepth 20000 in
theorem ggX7_input_X7_holds : GoodIn wsX7_input wsX7_holds := goodIn_r _ [16, 17, 22, 23, 24, 25, 26, 27, 28, 29, 30, 31, 32, 33, 34, 35, 36, 37, 38, 39, 40, 41, 42, 43, 44, 45, 46, 47, 48, 49, 50, 51, 52, 53, 54, 55, 56, 57, 58] (by decide +kernel) (by decide +kernel)
set_option maxRecDepth 20000 in
theorem gX7_input_X7_holds : GoodIn wsX7_input (wsV RX7 122 RX7 yX7_holds wsX7_holds) := goodIn_app (goodIn_of _ (by decide +kernel)) ggX7_input_X7_holds
set_option maxRecDepth 20000 in
theorem ggX7_input_X7_degreesOf : GoodIn wsX7_input wsX7_degreesOf := goodIn_r _ [21, 3, 4, 22, 23, 24, 25, 26, 27, 28, 29, 30, 31, 32, 33, 34, 35, 36, 37, 38, 39, 40, 41, 42, 43, 44, 45, 46, 47, 48, 49, 50, 51, 52, 53, 54, 55, 56, 57, 58] (by decide +kernel) (by decide +kernel)
set_option maxRecDepth 20000 in
theorem gX7_input_X7_degreesOf : GoodIn wsX7_input (wsV RX7 133 RX7 yX7_degreesOf wsX7_degreesOf) := goodIn_app (goodIn_of _ (by decide +kernel)) ggX7_input_X7_degreesOf
theorem dX7_input_0 : decode cX7_input 0 = .ok (.aload_n 0, 1) := by decide +kernel
theorem dX7_input_1 : decode cX7_input 1 = .ok (.iload_n 1, 1) := by decide +kernel
theorem dX7_input_2 : decode cX7_input 2 = .ok (.invokestatic 118, 3) := by decide +kernel
theorem dX7_input_5 : decode cX7_input 5 = .ok (.ifCond .ne 7, 3) := by decide +kernel
theorem dX7_input_8 : decode cX7_input 8 = .ok (.iconst 1, 1) := by decide +kernel
theorem dX7_input_9 : decode cX7_input 9 = .ok (.goto 17, 3) := by decide +kernel
theorem dX7_input_12 : decode cX7_input 12 = .ok (.iload_n 2, 1) := by decide +kernel
theorem dX7_input_13 : decode cX7_input 13 = .ok (.iconst 0, 1) := by decide +kernel
theorem dX7_input_14 : decode cX7_input 14 = .ok (.iconst 4, 1) := by decide +kernel
theorem dX7_input_15 : decode cX7_input 15 = .ok (.invokestatic 111, 3) := by decide +kernel
theorem dX7_input_18 : decode cX7_input 18 = .ok (.ifCond .eq 7, 3) := by decide +kernel
theorem dX7_input_21 : decode cX7_input 21 = .ok (.iconst 0, 1) := by decide +kernel
theorem dX7_input_22 : decode cX7_input 22 = .ok (.goto 4, 3) := by decide +kernel
theorem dX7_input_25 : decode cX7_input 25 = .ok (.iconst 2, 1) := by decide +kernel
theorem dX7_input_26 : decode cX7_input 26 = .ok (.invokevirtual 122, 3) := by decide +kernel
theorem dX7_input_29 : decode cX7_input 29 = .ok (.ifCond .ne 5, 3) := by decide +kernel
theorem dX7_input_32 : decode cX7_input 32 = .ok (.iconst 0, 1) := by decide +kernel
theorem dX7_input_33 : decode cX7_input 33 = .ok (.ireturn, 1) := by decide +kernel
theorem dX7_input_34 : decode cX7_input 34 = .ok (.iload_n 2, 1) := by decide +kernel
theorem dX7_input_35 : decode cX7_input 35 = .ok (.iconst 3, 1) := by decide +kernel
theorem dX7_input_36 : decode cX7_input 36 = .ok (.if_icmp .ne 9, 3) := by decide +kernel
theorem dX7_input_39 : decode cX7_input 39 = .ok (.aload_n 0, 1) := by decide +kernel
theorem dX7_input_40 : decode cX7_input 40 = .ok (.iload_n 1, 1) := by decide +kernel
theorem dX7_input_41 : decode cX7_input 41 = .ok (.invokevirtual 133, 3) := by decide +kernel
theorem dX7_input_44 : decode cX7_input 44 = .ok (.ireturn, 1) := by decide +kernel
theorem dX7_input_45 : decode cX7_input 45 = .ok (.iload_n 2, 1) := by decide +kernel
theorem dX7_input_46 : decode cX7_input 46 = .ok (.ifCond .ne 12, 3) := by decide +kernel
theorem dX7_input_49 : decode cX7_input 49 = .ok (.aload_n 0, 1) := by decide +kernel
theorem dX7_input_50 : decode cX7_input 50 = .ok (.getfield 7, 3) := by decide +kernel
theorem dX7_input_53 : decode cX7_input 53 = .ok (.iload_n 1, 1) := by decide +kernel
theorem dX7_input_54 : decode cX7_input 54 = .ok (.iaload, 1) := by decide +kernel
theorem dX7_input_55 : decode cX7_input 55 = .ok (.goto 56, 3) := by decide +kernel
theorem dX7_input_58 : decode cX7_input 58 = .ok (.iload_n 2, 1) := by decide +kernel
theorem dX7_input_59 : decode cX7_input 59 = .ok (.iconst 1, 1) := by decide +kernel
theorem dX7_input_60 : decode cX7_input 60 = .ok (.if_icmp .ne 12, 3) := by decide +kernel
theorem dX7_input_63 : decode cX7_input 63 = .ok (.aload_n 0, 1) := by decide +kernel
theorem dX7_input_64 : decode cX7_input 64 = .ok (.getfield 28, 3) := by decide +kernel
theorem dX7_input_67 : decode cX7_input 67 = .ok (.iload_n 1, 1) := by decide +kernel
theorem dX7_input_68 : decode cX7_input 68 = .ok (.iaload, 1) := by decide +kernel
theorem dX7_input_69 : decode cX7_input 69 = .ok (.goto 42, 3) := by decide +kernel
theorem dX7_input_72 : decode cX7_input 72 = .ok (.iload_n 2, 1) := by decide +kernel
theorem dX7_input_73 : decode cX7_input 73 = .ok (.iconst 2, 1) := by decide +kernel
theorem dX7_input_74 : decode cX7_input 74 = .ok (.if_icmp .ne 12, 3) := by decide +kernel
theorem dX7_input_77 : decode cX7_input 77 = .ok (.aload_n 0, 1) := by decide +kernel
theorem dX7_input_78 : decode cX7_input 78 = .ok (.getfield 16, 3) := by decide +kernel
theorem dX7_input_81 : decode cX7_input 81 = .ok (.iload_n 1, 1) := by decide +kernel
theorem dX7_input_82 : decode cX7_input 82 = .ok (.iaload, 1) := by decide +kernel
theorem dX7_input_83 : decode cX7_input 83 = .ok (.goto 28, 3) := by decide +kernel
theorem dX7_input_86 : decode cX7_input 86 = .ok (.aload_n 0, 1) := by decide +kernel
theorem dX7_input_87 : decode cX7_input 87 = .ok (.getfield 16, 3) := by decide +kernel
theorem dX7_input_90 : decode cX7_input 90 = .ok (.iload_n 1, 1) := by decide +kernel
theorem dX7_input_91 : decode cX7_input 91 = .ok (.iaload, 1) := by decide +kernel
theorem dX7_input_92 : decode cX7_input 92 = .ok (.iconst 4, 1) := by decide +kernel
theorem dX7_input_93 : decode cX7_input 93 = .ok (.if_icmp .ne 12, 3) := by decide +kernel
theorem dX7_input_96 : decode cX7_input 96 = .ok (.aload_n 0, 1) := by decide +kernel
theorem dX7_input_97 : decode cX7_input 97 = .ok (.getfield 22, 3) := by decide +kernel
theorem dX7_input_100 : decode cX7_input 100 = .ok (.iload_n 1, 1) := by decide +kernel
theorem dX7_input_101 : decode cX7_input 101 = .ok (.iaload, 1) := by decide +kernel
theorem dX7_input_102 : decode cX7_input 102 = .ok (.goto 9, 3) := by decide +kernel
theorem dX7_input_105 : decode cX7_input 105 = .ok (.aload_n 0, 1) := by decide +kernel
theorem dX7_input_106 : decode cX7_input 106 = .ok (.getfield 19, 3) := by decide +kernel
theorem dX7_input_109 : decode cX7_input 109 = .ok (.iload_n 1, 1) := by decide +kernel
theorem dX7_input_110 : decode cX7_input 110 = .ok (.iaload, 1) := by decide +kernel
theorem dX7_input_111 : decode cX7_input 111 = .ok (.ireturn, 1) := by decide +kernel
set_option maxRecDepth 20000 in
theorem ggX7_type_X7_isIn : GoodIn wsX7_type wsX7_isIn := goodIn_r _ [6] (by decide +kernel) (by decide +kernel)
set_option maxRecDepth 20000 in
theorem gX7_type_X7_isIn : GoodIn wsX7_type (va_wsS RX7 111 yX7_isIn wsX7_isIn) := goodIn_app (goodIn_of _ (by decide +kernel)) ggX7_type_X7_isIn
set_option maxRecDepth 20000 in
theorem ggX7_type_X7_holds : GoodIn wsX7_type wsX7_holds := goodIn_r _ [10, 11, 12, 13, 14, 15, 16, 17, 18, 19, 20, 21, 22, 23, 24, 25, 26, 27, 28, 29, 30, 31, 32, 33, 34, 35, 36, 37, 38, 39, 40, 41, 42, 43, 44, 45, 46, 47, 48] (by decide +kernel) (by decide +kernel)
set_option maxRecDepth 20000 in
theorem gX7_type_X7_holds : GoodIn wsX7_type (wsV RX7 122 RX7 yX7_holds wsX7_holds) := goodIn_app (goodIn_of _ (by decide +kernel)) ggX7_type_X7_holds
theorem dX7_type_0 : decode cX7_type 0 = .ok (.iconst 0, 1) := by decide +kernel
theorem dX7_type_1 : decode cX7_type 1 = .ok (.istore_n 3, 1) := by decide +kernel
theorem dX7_type_2 : decode cX7_type 2 = .ok (.iconst 1, 1) := by decide +kernel
theorem dX7_type_3 : decode cX7_type 3 = .ok (.istore 4, 2) := by decide +kernel
theorem dX7_type_5 : decode cX7_type 5 = .ok (.iconst 0, 1) := by decide +kernel
theorem dX7_type_6 : decode cX7_type 6 = .ok (.istore 5, 2) := by decide +kernel
theorem dX7_type_8 : decode cX7_type 8 = .ok (.iconst 0, 1) := by decide +kernel
theorem dX7_type_9 : decode cX7_type 9 = .ok (.istore 6, 2) := by decide +kernel
theorem dX7_type_11 : decode cX7_type 11 = .ok (.iload 6, 2) := by decide +kernel
theorem dX7_type_13 : decode cX7_type 13 = .ok (.bipush 8, 2) := by decide +kernel
theorem dX7_type_15 : decode cX7_type 15 = .ok (.if_icmp .ge 87, 3) := by decide +kernel
theorem dX7_type_18 : decode cX7_type 18 = .ok (.lload_n 1, 1) := by decide +kernel
theorem dX7_type_19 : decode cX7_type 19 = .ok (.bipush 8, 2) := by decide +kernel
theorem dX7_type_21 : decode cX7_type 21 = .ok (.iload 6, 2) := by decide +kernel
theorem dX7_type_23 : decode cX7_type 23 = .ok (.imul, 1) := by decide +kernel
theorem dX7_type_24 : decode cX7_type 24 = .ok (.lshr, 1) := by decide +kernel
theorem dX7_type_25 : decode cX7_type 25 = .ok (.l2i, 1) := by decide +kernel
theorem dX7_type_26 : decode cX7_type 26 = .ok (.sipush 255, 3) := by decide +kernel
theorem dX7_type_29 : decode cX7_type 29 = .ok (.iand, 1) := by decide +kernel
theorem dX7_type_30 : decode cX7_type 30 = .ok (.istore 7, 2) := by decide +kernel
theorem dX7_type_32 : decode cX7_type 32 = .ok (.iload 4, 2) := by decide +kernel
theorem dX7_type_34 : decode cX7_type 34 = .ok (.ifCond .eq 29, 3) := by decide +kernel
theorem dX7_type_37 : decode cX7_type 37 = .ok (.iload 7, 2) := by decide +kernel
theorem dX7_type_39 : decode cX7_type 39 = .ok (.ifCond .eq 20, 3) := by decide +kernel
theorem dX7_type_42 : decode cX7_type 42 = .ok (.iload 5, 2) := by decide +kernel
theorem dX7_type_44 : decode cX7_type 44 = .ok (.ifCond .ne 19, 3) := by decide +kernel
theorem dX7_type_47 : decode cX7_type 47 = .ok (.iload 7, 2) := by decide +kernel
theorem dX7_type_49 : decode cX7_type 49 = .ok (.bipush 32, 2) := by decide +kernel
theorem dX7_type_51 : decode cX7_type 51 = .ok (.bipush 126, 2) := by decide +kernel
theorem dX7_type_53 : decode cX7_type 53 = .ok (.invokestatic 111, 3) := by decide +kernel
theorem dX7_type_56 : decode cX7_type 56 = .ok (.ifCond .eq 7, 3) := by decide +kernel
theorem dX7_type_59 : decode cX7_type 59 = .ok (.iconst 1, 1) := by decide +kernel
theorem dX7_type_60 : decode cX7_type 60 = .ok (.goto 4, 3) := by decide +kernel
theorem dX7_type_63 : decode cX7_type 63 = .ok (.iconst 0, 1) := by decide +kernel
theorem dX7_type_64 : decode cX7_type 64 = .ok (.istore 4, 2) := by decide +kernel
theorem dX7_type_66 : decode cX7_type 66 = .ok (.iload 5, 2) := by decide +kernel
theorem dX7_type_68 : decode cX7_type 68 = .ok (.ifCond .ne 8, 3) := by decide +kernel
theorem dX7_type_71 : decode cX7_type 71 = .ok (.iload 7, 2) := by decide +kernel
theorem dX7_type_73 : decode cX7_type 73 = .ok (.ifCond .ne 7, 3) := by decide +kernel
theorem dX7_type_76 : decode cX7_type 76 = .ok (.iconst 1, 1) := by decide +kernel
theorem dX7_type_77 : decode cX7_type 77 = .ok (.goto 4, 3) := by decide +kernel
theorem dX7_type_80 : decode cX7_type 80 = .ok (.iconst 0, 1) := by decide +kernel
theorem dX7_type_81 : decode cX7_type 81 = .ok (.istore 5, 2) := by decide +kernel
theorem dX7_type_83 : decode cX7_type 83 = .ok (.iload_n 3, 1) := by decide +kernel
theorem dX7_type_84 : decode cX7_type 84 = .ok (.iload 5, 2) := by decide +kernel
theorem dX7_type_86 : decode cX7_type 86 = .ok (.ifCond .eq 7, 3) := by decide +kernel
theorem dX7_type_89 : decode cX7_type 89 = .ok (.iconst 0, 1) := by decide +kernel
theorem dX7_type_90 : decode cX7_type 90 = .ok (.goto 4, 3) := by decide +kernel
theorem dX7_type_93 : decode cX7_type 93 = .ok (.iconst 1, 1) := by decide +kernel
theorem dX7_type_94 : decode cX7_type 94 = .ok (.iadd, 1) := by decide +kernel
theorem dX7_type_95 : decode cX7_type 95 = .ok (.istore_n 3, 1) := by decide +kernel
theorem dX7_type_96 : decode cX7_type 96 = .ok (.iinc 6 1, 3) := by decide +kernel
theorem dX7_type_99 : decode cX7_type 99 = .ok (.goto (-88), 3) := by decide +kernel
theorem dX7_type_102 : decode cX7_type 102 = .ok (.aload_n 0, 1) := by decide +kernel
theorem dX7_type_103 : decode cX7_type 103 = .ok (.iload 4, 2) := by decide +kernel
theorem dX7_type_105 : decode cX7_type 105 = .ok (.ifCond .ne 7, 3) := by decide +kernel
theorem dX7_type_108 : decode cX7_type 108 = .ok (.iconst 1, 1) := by decide +kernel
theorem dX7_type_109 : decode cX7_type 109 = .ok (.goto 19, 3) := by decide +kernel
theorem dX7_type_112 : decode cX7_type 112 = .ok (.aload_n 0, 1) := by decide +kernel
theorem dX7_type_113 : decode cX7_type 113 = .ok (.getfield 136, 3) := by decide +kernel
theorem dX7_type_116 : decode cX7_type 116 = .ok (.iload_n 3, 1) := by decide +kernel
theorem dX7_type_117 : decode cX7_type 117 = .ok (.iadd, 1) := by decide +kernel
theorem dX7_type_118 : decode cX7_type 118 = .ok (.bipush 60, 2) := by decide +kernel
theorem dX7_type_120 : decode cX7_type 120 = .ok (.if_icmp .le 7, 3) := by decide +kernel
theorem dX7_type_123 : decode cX7_type 123 = .ok (.iconst 2, 1) := by decide +kernel
theorem dX7_type_124 : decode cX7_type 124 = .ok (.goto 4, 3) := by decide +kernel
theorem dX7_type_127 : decode cX7_type 127 = .ok (.iconst 0, 1) := by decide +kernel
theorem dX7_type_128 : decode cX7_type 128 = .ok (.invokevirtual 122, 3) := by decide +kernel
theorem dX7_type_131 : decode cX7_type 131 = .ok (.ifCond .ne 5, 3) := by decide +kernel
theorem dX7_type_134 : decode cX7_type 134 = .ok (.iconst 0, 1) := by decide +kernel
theorem dX7_type_135 : decode cX7_type 135 = .ok (.ireturn, 1) := by decide +kernel
theorem dX7_type_136 : decode cX7_type 136 = .ok (.iconst 0, 1) := by decide +kernel
theorem dX7_type_137 : decode cX7_type 137 = .ok (.istore 6, 2) := by decide +kernel
theorem dX7_type_139 : decode cX7_type 139 = .ok (.iload 6, 2) := by decide +kernel
theorem dX7_type_141 : decode cX7_type 141 = .ok (.iload_n 3, 1) := by decide +kernel
theorem dX7_type_142 : decode cX7_type 142 = .ok (.if_icmp .ge 40, 3) := by decide +kernel
theorem dX7_type_145 : decode cX7_type 145 = .ok (.aload_n 0, 1) := by decide +kernel
theorem dX7_type_146 : decode cX7_type 146 = .ok (.getfield 34, 3) := by decide +kernel
theorem dX7_type_149 : decode cX7_type 149 = .ok (.aload_n 0, 1) := by decide +kernel
theorem dX7_type_150 : decode cX7_type 150 = .ok (.getfield 136, 3) := by decide +kernel
theorem dX7_type_153 : decode cX7_type 153 = .ok (.lload_n 1, 1) := by decide +kernel
theorem dX7_type_154 : decode cX7_type 154 = .ok (.bipush 8, 2) := by decide +kernel
theorem dX7_type_156 : decode cX7_type 156 = .ok (.iload 6, 2) := by decide +kernel
theorem dX7_type_158 : decode cX7_type 158 = .ok (.imul, 1) := by decide +kernel
theorem dX7_type_159 : decode cX7_type 159 = .ok (.lshr, 1) := by decide +kernel
theorem dX7_type_160 : decode cX7_type 160 = .ok (.l2i, 1) := by decide +kernel
theorem dX7_type_161 : decode cX7_type 161 = .ok (.sipush 255, 3) := by decide +kernel
theorem dX7_type_164 : decode cX7_type 164 = .ok (.iand, 1) := by decide +kernel
theorem dX7_type_165 : decode cX7_type 165 = .ok (.iastore, 1) := by decide +kernel
theorem dX7_type_166 : decode cX7_type 166 = .ok (.aload_n 0, 1) := by decide +kernel
theorem dX7_type_167 : decode cX7_type 167 = .ok (.dup, 1) := by decide +kernel
theorem dX7_type_168 : decode cX7_type 168 = .ok (.getfield 136, 3) := by decide +kernel
theorem dX7_type_171 : decode cX7_type 171 = .ok (.iconst 1, 1) := by decide +kernel
theorem dX7_type_172 : decode cX7_type 172 = .ok (.iadd, 1) := by decide +kernel
theorem dX7_type_173 : decode cX7_type 173 = .ok (.putfield 136, 3) := by decide +kernel
theorem dX7_type_176 : decode cX7_type 176 = .ok (.iinc 6 1, 3) := by decide +kernel
theorem dX7_type_179 : decode cX7_type 179 = .ok (.goto (-40), 3) := by decide +kernel
theorem dX7_type_182 : decode cX7_type 182 = .ok (.aload_n 0, 1) := by decide +kernel
theorem dX7_type_183 : decode cX7_type 183 = .ok (.getfield 136, 3) := by decide +kernel
theorem dX7_type_186 : decode cX7_type 186 = .ok (.ireturn, 1) := by decide +kernel
theorem dX7_formula_0 : decode cX7_formula 0 = .ok (.sipush 512, 3) := by decide +kernel
theorem dX7_formula_3 : decode cX7_formula 3 = .ok (.istore 4, 2) := by decide +kernel
theorem dX7_formula_5 : decode cX7_formula 5 = .ok (.iconst 0, 1) := by decide +kernel
theorem dX7_formula_6 : decode cX7_formula 6 = .ok (.istore 5, 2) := by decide +kernel
theorem dX7_formula_8 : decode cX7_formula 8 = .ok (.iload 5, 2) := by decide +kernel
theorem dX7_formula_10 : decode cX7_formula 10 = .ok (.aload_n 0, 1) := by decide +kernel
theorem dX7_formula_11 : decode cX7_formula 11 = .ok (.getfield 37, 3) := by decide +kernel
theorem dX7_formula_14 : decode cX7_formula 14 = .ok (.bipush 8, 2) := by decide +kernel
theorem dX7_formula_16 : decode cX7_formula 16 = .ok (.iaload, 1) := by decide +kernel
theorem dX7_formula_17 : decode cX7_formula 17 = .ok (.if_icmp .ge 54, 3) := by decide +kernel
theorem dX7_formula_20 : decode cX7_formula 20 = .ok (.aload_n 0, 1) := by decide +kernel
theorem dX7_formula_21 : decode cX7_formula 21 = .ok (.getfield 43, 3) := by decide +kernel
theorem dX7_formula_24 : decode cX7_formula 24 = .ok (.iload 4, 2) := by decide +kernel
theorem dX7_formula_26 : decode cX7_formula 26 = .ok (.iload 5, 2) := by decide +kernel
theorem dX7_formula_28 : decode cX7_formula 28 = .ok (.iadd, 1) := by decide +kernel
theorem dX7_formula_29 : decode cX7_formula 29 = .ok (.iaload, 1) := by decide +kernel
theorem dX7_formula_30 : decode cX7_formula 30 = .ok (.iload_n 1, 1) := by decide +kernel
theorem dX7_formula_31 : decode cX7_formula 31 = .ok (.if_icmp .ne 34, 3) := by decide +kernel
theorem dX7_formula_34 : decode cX7_formula 34 = .ok (.aload_n 0, 1) := by decide +kernel
theorem dX7_formula_35 : decode cX7_formula 35 = .ok (.getfield 46, 3) := by decide +kernel
theorem dX7_formula_38 : decode cX7_formula 38 = .ok (.iload 4, 2) := by decide +kernel
theorem dX7_formula_40 : decode cX7_formula 40 = .ok (.iload 5, 2) := by decide +kernel
theorem dX7_formula_42 : decode cX7_formula 42 = .ok (.iadd, 1) := by decide +kernel
theorem dX7_formula_43 : decode cX7_formula 43 = .ok (.iaload, 1) := by decide +kernel
theorem dX7_formula_44 : decode cX7_formula 44 = .ok (.iload_n 2, 1) := by decide +kernel
theorem dX7_formula_45 : decode cX7_formula 45 = .ok (.if_icmp .ne 20, 3) := by decide +kernel
theorem dX7_formula_48 : decode cX7_formula 48 = .ok (.aload_n 0, 1) := by decide +kernel
theorem dX7_formula_49 : decode cX7_formula 49 = .ok (.getfield 49, 3) := by decide +kernel
theorem dX7_formula_52 : decode cX7_formula 52 = .ok (.iload 4, 2) := by decide +kernel
theorem dX7_formula_54 : decode cX7_formula 54 = .ok (.iload 5, 2) := by decide +kernel
theorem dX7_formula_56 : decode cX7_formula 56 = .ok (.iadd, 1) := by decide +kernel
theorem dX7_formula_57 : decode cX7_formula 57 = .ok (.iaload, 1) := by decide +kernel
theorem dX7_formula_58 : decode cX7_formula 58 = .ok (.iload_n 3, 1) := by decide +kernel
theorem dX7_formula_59 : decode cX7_formula 59 = .ok (.if_icmp .ne 6, 3) := by decide +kernel
theorem dX7_formula_62 : decode cX7_formula 62 = .ok (.iload 5, 2) := by decide +kernel
theorem dX7_formula_64 : decode cX7_formula 64 = .ok (.ireturn, 1) := by decide +kernel
theorem dX7_formula_65 : decode cX7_formula 65 = .ok (.iinc 5 1, 3) := by decide +kernel
theorem dX7_formula_68 : decode cX7_formula 68 = .ok (.goto (-60), 3) := by decide +kernel
theorem dX7_formula_71 : decode cX7_formula 71 = .ok (.aload_n 0, 1) := by decide +kernel
theorem dX7_formula_72 : decode cX7_formula 72 = .ok (.getfield 37, 3) := by decide +kernel
theorem dX7_formula_75 : decode cX7_formula 75 = .ok (.bipush 8, 2) := by decide +kernel
theorem dX7_formula_77 : decode cX7_formula 77 = .ok (.iaload, 1) := by decide +kernel
theorem dX7_formula_78 : decode cX7_formula 78 = .ok (.istore 5, 2) := by decide +kernel
theorem dX7_formula_80 : decode cX7_formula 80 = .ok (.aload_n 0, 1) := by decide +kernel
theorem dX7_formula_81 : decode cX7_formula 81 = .ok (.getfield 43, 3) := by decide +kernel
theorem dX7_formula_84 : decode cX7_formula 84 = .ok (.iload 4, 2) := by decide +kernel
theorem dX7_formula_86 : decode cX7_formula 86 = .ok (.iload 5, 2) := by decide +kernel
theorem dX7_formula_88 : decode cX7_formula 88 = .ok (.iadd, 1) := by decide +kernel
theorem dX7_formula_89 : decode cX7_formula 89 = .ok (.iload_n 1, 1) := by decide +kernel
theorem dX7_formula_90 : decode cX7_formula 90 = .ok (.iastore, 1) := by decide +kernel
theorem dX7_formula_91 : decode cX7_formula 91 = .ok (.aload_n 0, 1) := by decide +kernel
theorem dX7_formula_92 : decode cX7_formula 92 = .ok (.getfield 46, 3) := by decide +kernel
theorem dX7_formula_95 : decode cX7_formula 95 = .ok (.iload 4, 2) := by decide +kernel
theorem dX7_formula_97 : decode cX7_formula 97 = .ok (.iload 5, 2) := by decide +kernel
theorem dX7_formula_99 : decode cX7_formula 99 = .ok (.iadd, 1) := by decide +kernel
theorem dX7_formula_100 : decode cX7_formula 100 = .ok (.iload_n 2, 1) := by decide +kernel
theorem dX7_formula_101 : decode cX7_formula 101 = .ok (.iastore, 1) := by decide +kernel
theorem dX7_formula_102 : decode cX7_formula 102 = .ok (.aload_n 0, 1) := by decide +kernel
theorem dX7_formula_103 : decode cX7_formula 103 = .ok (.getfield 49, 3) := by decide +kernel
theorem dX7_formula_106 : decode cX7_formula 106 = .ok (.iload 4, 2) := by decide +kernel
theorem dX7_formula_108 : decode cX7_formula 108 = .ok (.iload 5, 2) := by decide +kernel
theorem dX7_formula_110 : decode cX7_formula 110 = .ok (.iadd, 1) := by decide +kernel
theorem dX7_formula_111 : decode cX7_formula 111 = .ok (.iload_n 3, 1) := by decide +kernel
theorem dX7_formula_112 : decode cX7_formula 112 = .ok (.iastore, 1) := by decide +kernel
theorem dX7_formula_113 : decode cX7_formula 113 = .ok (.aload_n 0, 1) := by decide +kernel
theorem dX7_formula_114 : decode cX7_formula 114 = .ok (.getfield 37, 3) := by decide +kernel
theorem dX7_formula_117 : decode cX7_formula 117 = .ok (.bipush 8, 2) := by decide +kernel
theorem dX7_formula_119 : decode cX7_formula 119 = .ok (.dup2, 1) := by decide +kernel
theorem dX7_formula_120 : decode cX7_formula 120 = .ok (.iaload, 1) := by decide +kernel
theorem dX7_formula_121 : decode cX7_formula 121 = .ok (.iconst 1, 1) := by decide +kernel
theorem dX7_formula_122 : decode cX7_formula 122 = .ok (.iadd, 1) := by decide +kernel
theorem dX7_formula_123 : decode cX7_formula 123 = .ok (.iastore, 1) := by decide +kernel
theorem dX7_formula_124 : decode cX7_formula 124 = .ok (.iload 5, 2) := by decide +kernel
theorem dX7_formula_126 : decode cX7_formula 126 = .ok (.ireturn, 1) := by decide +kernel
theorem dX7_sign_0 : decode cX7_sign 0 = .ok (.aload_n 0, 1) := by decide +kernel
theorem dX7_sign_1 : decode cX7_sign 1 = .ok (.getfield 139, 3) := by decide +kernel
theorem dX7_sign_4 : decode cX7_sign 4 = .ok (.aload_n 0, 1) := by decide +kernel
theorem dX7_sign_5 : decode cX7_sign 5 = .ok (.getfield 136, 3) := by decide +kernel
theorem dX7_sign_8 : decode cX7_sign 8 = .ok (.if_icmp .ge 15, 3) := by decide +kernel
theorem dX7_sign_11 : decode cX7_sign 11 = .ok (.aload_n 0, 1) := by decide +kernel
theorem dX7_sign_12 : decode cX7_sign 12 = .ok (.getfield 34, 3) := by decide +kernel
theorem dX7_sign_15 : decode cX7_sign 15 = .ok (.aload_n 0, 1) := by decide +kernel
theorem dX7_sign_16 : decode cX7_sign 16 = .ok (.getfield 139, 3) := by decide +kernel
theorem dX7_sign_19 : decode cX7_sign 19 = .ok (.iaload, 1) := by decide +kernel
theorem dX7_sign_20 : decode cX7_sign 20 = .ok (.goto 4, 3) := by decide +kernel
theorem dX7_sign_23 : decode cX7_sign 23 = .ok (.iconst 0, 1) := by decide +kernel
theorem dX7_sign_24 : decode cX7_sign 24 = .ok (.ireturn, 1) := by decide +kernel
set_option maxRecDepth 20000 in
theorem ggX7_isDigit_X7_isIn : GoodIn wsX7_isDigit wsX7_isIn := goodIn_r _ [4] (by decide +kernel) (by decide +kernel)
set_option maxRecDepth 20000 in
theorem gX7_isDigit_X7_isIn : GoodIn wsX7_isDigit (va_wsS RX7 111 yX7_isIn wsX7_isIn) := goodIn_app (goodIn_of _ (by decide +kernel)) ggX7_isDigit_X7_isIn
theorem dX7_isDigit_0 : decode cX7_isDigit 0 = .ok (.iload_n 0, 1) := by decide +kernel
theorem dX7_isDigit_1 : decode cX7_isDigit 1 = .ok (.bipush 48, 2) := by decide +kernel
theorem dX7_isDigit_3 : decode cX7_isDigit 3 = .ok (.bipush 57, 2) := by decide +kernel
theorem dX7_isDigit_5 : decode cX7_isDigit 5 = .ok (.invokestatic 111, 3) := by decide +kernel
theorem dX7_isDigit_8 : decode cX7_isDigit 8 = .ok (.ireturn, 1) := by decide +kernel
theorem dX7_opens_0 : decode cX7_opens 0 = .ok (.aload_n 0, 1) := by decide +kernel
theorem dX7_opens_1 : decode cX7_opens 1 = .ok (.dup, 1) := by decide +kernel
theorem dX7_opens_2 : decode cX7_opens 2 = .ok (.getfield 142, 3) := by decide +kernel
theorem dX7_opens_5 : decode cX7_opens 5 = .ok (.iconst 1, 1) := by decide +kernel
theorem dX7_opens_6 : decode cX7_opens 6 = .ok (.iadd, 1) := by decide +kernel
theorem dX7_opens_7 : decode cX7_opens 7 = .ok (.putfield 142, 3) := by decide +kernel
theorem dX7_opens_10 : decode cX7_opens 10 = .ok (.aload_n 0, 1) := by decide +kernel
theorem dX7_opens_11 : decode cX7_opens 11 = .ok (.getfield 64, 3) := by decide +kernel
theorem dX7_opens_14 : decode cX7_opens 14 = .ok (.aload_n 0, 1) := by decide +kernel
theorem dX7_opens_15 : decode cX7_opens 15 = .ok (.getfield 142, 3) := by decide +kernel
theorem dX7_opens_18 : decode cX7_opens 18 = .ok (.iload_n 1, 1) := by decide +kernel
theorem dX7_opens_19 : decode cX7_opens 19 = .ok (.iastore, 1) := by decide +kernel
theorem dX7_opens_20 : decode cX7_opens 20 = .ok (.aload_n 0, 1) := by decide +kernel
theorem dX7_opens_21 : decode cX7_opens 21 = .ok (.getfield 67, 3) := by decide +kernel
theorem dX7_opens_24 : decode cX7_opens 24 = .ok (.aload_n 0, 1) := by decide +kernel
theorem dX7_opens_25 : decode cX7_opens 25 = .ok (.getfield 142, 3) := by decide +kernel
theorem dX7_opens_28 : decode cX7_opens 28 = .ok (.iconst (-1), 1) := by decide +kernel
theorem dX7_opens_29 : decode cX7_opens 29 = .ok (.iastore, 1) := by decide +kernel
theorem dX7_opens_30 : decode cX7_opens 30 = .ok (.aload_n 0, 1) := by decide +kernel
theorem dX7_opens_31 : decode cX7_opens 31 = .ok (.getfield 76, 3) := by decide +kernel
theorem dX7_opens_34 : decode cX7_opens 34 = .ok (.aload_n 0, 1) := by decide +kernel
theorem dX7_opens_35 : decode cX7_opens 35 = .ok (.getfield 142, 3) := by decide +kernel
theorem dX7_opens_38 : decode cX7_opens 38 = .ok (.iconst (-1), 1) := by decide +kernel
theorem dX7_opens_39 : decode cX7_opens 39 = .ok (.iastore, 1) := by decide +kernel
theorem dX7_opens_40 : decode cX7_opens 40 = .ok (.return_, 1) := by decide +kernel
set_option maxRecDepth 20000 in
theorem ggX7_atom_X7_sign : GoodIn wsX7_atom wsX7_sign := goodIn_r _ [7, 1, 8, 2, 23, 24, 25, 26, 27, 28, 29, 30, 31, 32, 33, 34, 35, 36, 37, 38, 39, 40, 41, 42, 43, 44, 45, 46, 47, 48, 49, 50, 51, 52, 53, 54, 55, 56, 57, 58, 59] (by decide +kernel) (by decide +kernel)
set_option maxRecDepth 20000 in
theorem gX7_atom_X7_sign : GoodIn wsX7_atom (wsV RX7 145 RX7 yX7_sign wsX7_sign) := goodIn_app (goodIn_of _ (by decide +kernel)) ggX7_atom_X7_sign
set_option maxRecDepth 20000 in
theorem ggX7_atom_X7_isIn : GoodIn wsX7_atom wsX7_isIn := goodIn_r _ [11] (by decide +kernel) (by decide +kernel)
set_option maxRecDepth 20000 in
theorem gX7_atom_X7_isIn : GoodIn wsX7_atom (va_wsS RX7 111 yX7_isIn wsX7_isIn) := goodIn_app (goodIn_of _ (by decide +kernel)) ggX7_atom_X7_isIn
set_option maxRecDepth 20000 in
theorem ggX7_atom_X7_formula : GoodIn wsX7_atom wsX7_formula := goodIn_r _ [15, 16, 17, 18, 19, 23, 24, 25, 26, 27, 28, 29, 30, 31, 32, 33, 34, 35, 36, 37, 38, 39, 40, 41, 42, 43, 44, 45, 46, 47, 48, 49, 50, 51, 52, 53, 54, 55, 56, 57, 58, 59] (by decide +kernel) (by decide +kernel)
set_option maxRecDepth 20000 in
theorem gX7_atom_X7_formula : GoodIn wsX7_atom (wsV RX7 148 RX7 yX7_formula wsX7_formula) := goodIn_app (goodIn_of _ (by decide +kernel)) ggX7_atom_X7_formula
set_option maxRecDepth 20000 in
theorem ggX7_atom_X7_isDigit : GoodIn wsX7_atom wsX7_isDigit := goodIn_r _ [22, 9, 10, 6, 11] (by decide +kernel) (by decide +kernel)
set_option maxRecDepth 20000 in
theorem gX7_atom_X7_isDigit : GoodIn wsX7_atom (va_wsS RX7 152 yX7_isDigit wsX7_isDigit) := goodIn_app (goodIn_of _ (by decide +kernel)) ggX7_atom_X7_isDigit
theorem dX7_atom_0 : decode cX7_atom 0 = .ok (.aload_n 0, 1) := by decide +kernel
theorem dX7_atom_1 : decode cX7_atom 1 = .ok (.invokevirtual 145, 3) := by decide +kernel
theorem dX7_atom_4 : decode cX7_atom 4 = .ok (.bipush 97, 2) := by decide +kernel
theorem dX7_atom_6 : decode cX7_atom 6 = .ok (.bipush 102, 2) := by decide +kernel
theorem dX7_atom_8 : decode cX7_atom 8 = .ok (.invokestatic 111, 3) := by decide +kernel
theorem dX7_atom_11 : decode cX7_atom 11 = .ok (.ifCond .eq 34, 3) := by decide +kernel
theorem dX7_atom_14 : decode cX7_atom 14 = .ok (.aload_n 0, 1) := by decide +kernel
theorem dX7_atom_15 : decode cX7_atom 15 = .ok (.dup, 1) := by decide +kernel
theorem dX7_atom_16 : decode cX7_atom 16 = .ok (.getfield 139, 3) := by decide +kernel
theorem dX7_atom_19 : decode cX7_atom 19 = .ok (.iconst 1, 1) := by decide +kernel
theorem dX7_atom_20 : decode cX7_atom 20 = .ok (.iadd, 1) := by decide +kernel
theorem dX7_atom_21 : decode cX7_atom 21 = .ok (.putfield 139, 3) := by decide +kernel
theorem dX7_atom_24 : decode cX7_atom 24 = .ok (.aload_n 0, 1) := by decide +kernel
theorem dX7_atom_25 : decode cX7_atom 25 = .ok (.iconst 1, 1) := by decide +kernel
theorem dX7_atom_26 : decode cX7_atom 26 = .ok (.aload_n 0, 1) := by decide +kernel
theorem dX7_atom_27 : decode cX7_atom 27 = .ok (.getfield 34, 3) := by decide +kernel
theorem dX7_atom_30 : decode cX7_atom 30 = .ok (.aload_n 0, 1) := by decide +kernel
theorem dX7_atom_31 : decode cX7_atom 31 = .ok (.getfield 139, 3) := by decide +kernel
theorem dX7_atom_34 : decode cX7_atom 34 = .ok (.iconst 1, 1) := by decide +kernel
theorem dX7_atom_35 : decode cX7_atom 35 = .ok (.isub, 1) := by decide +kernel
theorem dX7_atom_36 : decode cX7_atom 36 = .ok (.iaload, 1) := by decide +kernel
theorem dX7_atom_37 : decode cX7_atom 37 = .ok (.bipush 97, 2) := by decide +kernel
theorem dX7_atom_39 : decode cX7_atom 39 = .ok (.isub, 1) := by decide +kernel
theorem dX7_atom_40 : decode cX7_atom 40 = .ok (.iconst 0, 1) := by decide +kernel
theorem dX7_atom_41 : decode cX7_atom 41 = .ok (.invokevirtual 148, 3) := by decide +kernel
theorem dX7_atom_44 : decode cX7_atom 44 = .ok (.ireturn, 1) := by decide +kernel
theorem dX7_atom_45 : decode cX7_atom 45 = .ok (.iconst 0, 1) := by decide +kernel
theorem dX7_atom_46 : decode cX7_atom 46 = .ok (.istore_n 1, 1) := by decide +kernel
theorem dX7_atom_47 : decode cX7_atom 47 = .ok (.iconst 0, 1) := by decide +kernel
theorem dX7_atom_48 : decode cX7_atom 48 = .ok (.istore_n 2, 1) := by decide +kernel
theorem dX7_atom_49 : decode cX7_atom 49 = .ok (.iload_n 2, 1) := by decide +kernel
theorem dX7_atom_50 : decode cX7_atom 50 = .ok (.iconst 4, 1) := by decide +kernel
theorem dX7_atom_51 : decode cX7_atom 51 = .ok (.if_icmp .ge 42, 3) := by decide +kernel
theorem dX7_atom_54 : decode cX7_atom 54 = .ok (.aload_n 0, 1) := by decide +kernel
theorem dX7_atom_55 : decode cX7_atom 55 = .ok (.invokevirtual 145, 3) := by decide +kernel
theorem dX7_atom_58 : decode cX7_atom 58 = .ok (.invokestatic 152, 3) := by decide +kernel
theorem dX7_atom_61 : decode cX7_atom 61 = .ok (.ifCond .eq 32, 3) := by decide +kernel
theorem dX7_atom_64 : decode cX7_atom 64 = .ok (.bipush 10, 2) := by decide +kernel
theorem dX7_atom_66 : decode cX7_atom 66 = .ok (.iload_n 1, 1) := by decide +kernel
theorem dX7_atom_67 : decode cX7_atom 67 = .ok (.imul, 1) := by decide +kernel
theorem dX7_atom_68 : decode cX7_atom 68 = .ok (.aload_n 0, 1) := by decide +kernel
theorem dX7_atom_69 : decode cX7_atom 69 = .ok (.invokevirtual 145, 3) := by decide +kernel
theorem dX7_atom_72 : decode cX7_atom 72 = .ok (.iadd, 1) := by decide +kernel
theorem dX7_atom_73 : decode cX7_atom 73 = .ok (.bipush 48, 2) := by decide +kernel
theorem dX7_atom_75 : decode cX7_atom 75 = .ok (.isub, 1) := by decide +kernel
theorem dX7_atom_76 : decode cX7_atom 76 = .ok (.istore_n 1, 1) := by decide +kernel
theorem dX7_atom_77 : decode cX7_atom 77 = .ok (.aload_n 0, 1) := by decide +kernel
theorem dX7_atom_78 : decode cX7_atom 78 = .ok (.dup, 1) := by decide +kernel
theorem dX7_atom_79 : decode cX7_atom 79 = .ok (.getfield 139, 3) := by decide +kernel
theorem dX7_atom_82 : decode cX7_atom 82 = .ok (.iconst 1, 1) := by decide +kernel
theorem dX7_atom_83 : decode cX7_atom 83 = .ok (.iadd, 1) := by decide +kernel
theorem dX7_atom_84 : decode cX7_atom 84 = .ok (.putfield 139, 3) := by decide +kernel
theorem dX7_atom_87 : decode cX7_atom 87 = .ok (.iinc 2 1, 3) := by decide +kernel
theorem dX7_atom_90 : decode cX7_atom 90 = .ok (.goto (-41), 3) := by decide +kernel
theorem dX7_atom_93 : decode cX7_atom 93 = .ok (.aload_n 0, 1) := by decide +kernel
theorem dX7_atom_94 : decode cX7_atom 94 = .ok (.iconst 0, 1) := by decide +kernel
theorem dX7_atom_95 : decode cX7_atom 95 = .ok (.iload_n 1, 1) := by decide +kernel
theorem dX7_atom_96 : decode cX7_atom 96 = .ok (.iconst 0, 1) := by decide +kernel
theorem dX7_atom_97 : decode cX7_atom 97 = .ok (.invokevirtual 148, 3) := by decide +kernel
theorem dX7_atom_100 : decode cX7_atom 100 = .ok (.ireturn, 1) := by decide +kernel
set_option maxRecDepth 20000 in
theorem ggX7_adds_X7_formula : GoodIn wsX7_adds wsX7_formula := goodIn_r _ [14, 15, 16, 17, 18, 19, 20, 21, 22, 23, 24, 25, 26, 27, 28, 29, 30, 31, 32, 33, 34, 35, 36, 37, 38, 39, 40, 41, 42, 43, 44, 45, 46, 47, 48, 49, 50, 51, 52, 53, 54, 55] (by decide +kernel) (by decide +kernel)
set_option maxRecDepth 20000 in
theorem gX7_adds_X7_formula : GoodIn wsX7_adds (wsV RX7 148 RX7 yX7_formula wsX7_formula) := goodIn_app (goodIn_of _ (by decide +kernel)) ggX7_adds_X7_formula
theorem dX7_adds_0 : decode cX7_adds 0 = .ok (.aload_n 0, 1) := by decide +kernel
theorem dX7_adds_1 : decode cX7_adds 1 = .ok (.getfield 67, 3) := by decide +kernel
theorem dX7_adds_4 : decode cX7_adds 4 = .ok (.aload_n 0, 1) := by decide +kernel
theorem dX7_adds_5 : decode cX7_adds 5 = .ok (.getfield 142, 3) := by decide +kernel
theorem dX7_adds_8 : decode cX7_adds 8 = .ok (.iaload, 1) := by decide +kernel
theorem dX7_adds_9 : decode cX7_adds 9 = .ok (.iconst (-1), 1) := by decide +kernel
theorem dX7_adds_10 : decode cX7_adds 10 = .ok (.if_icmp .ne 24, 3) := by decide +kernel
theorem dX7_adds_13 : decode cX7_adds 13 = .ok (.aload_n 0, 1) := by decide +kernel
theorem dX7_adds_14 : decode cX7_adds 14 = .ok (.getfield 67, 3) := by decide +kernel
theorem dX7_adds_17 : decode cX7_adds 17 = .ok (.aload_n 0, 1) := by decide +kernel
theorem dX7_adds_18 : decode cX7_adds 18 = .ok (.getfield 142, 3) := by decide +kernel
theorem dX7_adds_21 : decode cX7_adds 21 = .ok (.aload_n 0, 1) := by decide +kernel
theorem dX7_adds_22 : decode cX7_adds 22 = .ok (.getfield 76, 3) := by decide +kernel
theorem dX7_adds_25 : decode cX7_adds 25 = .ok (.aload_n 0, 1) := by decide +kernel
theorem dX7_adds_26 : decode cX7_adds 26 = .ok (.getfield 142, 3) := by decide +kernel
theorem dX7_adds_29 : decode cX7_adds 29 = .ok (.iaload, 1) := by decide +kernel
theorem dX7_adds_30 : decode cX7_adds 30 = .ok (.iastore, 1) := by decide +kernel
theorem dX7_adds_31 : decode cX7_adds 31 = .ok (.goto 121, 3) := by decide +kernel
theorem dX7_adds_34 : decode cX7_adds 34 = .ok (.sipush 512, 3) := by decide +kernel
theorem dX7_adds_37 : decode cX7_adds 37 = .ok (.aload_n 0, 1) := by decide +kernel
theorem dX7_adds_38 : decode cX7_adds 38 = .ok (.getfield 52, 3) := by decide +kernel
theorem dX7_adds_41 : decode cX7_adds 41 = .ok (.bipush 8, 2) := by decide +kernel
theorem dX7_adds_43 : decode cX7_adds 43 = .ok (.iaload, 1) := by decide +kernel
theorem dX7_adds_44 : decode cX7_adds 44 = .ok (.iadd, 1) := by decide +kernel
theorem dX7_adds_45 : decode cX7_adds 45 = .ok (.istore_n 1, 1) := by decide +kernel
theorem dX7_adds_46 : decode cX7_adds 46 = .ok (.aload_n 0, 1) := by decide +kernel
theorem dX7_adds_47 : decode cX7_adds 47 = .ok (.getfield 55, 3) := by decide +kernel
theorem dX7_adds_50 : decode cX7_adds 50 = .ok (.iload_n 1, 1) := by decide +kernel
theorem dX7_adds_51 : decode cX7_adds 51 = .ok (.aload_n 0, 1) := by decide +kernel
theorem dX7_adds_52 : decode cX7_adds 52 = .ok (.getfield 73, 3) := by decide +kernel
theorem dX7_adds_55 : decode cX7_adds 55 = .ok (.aload_n 0, 1) := by decide +kernel
theorem dX7_adds_56 : decode cX7_adds 56 = .ok (.getfield 142, 3) := by decide +kernel
theorem dX7_adds_59 : decode cX7_adds 59 = .ok (.iaload, 1) := by decide +kernel
theorem dX7_adds_60 : decode cX7_adds 60 = .ok (.iastore, 1) := by decide +kernel
theorem dX7_adds_61 : decode cX7_adds 61 = .ok (.aload_n 0, 1) := by decide +kernel
theorem dX7_adds_62 : decode cX7_adds 62 = .ok (.getfield 58, 3) := by decide +kernel
theorem dX7_adds_65 : decode cX7_adds 65 = .ok (.iload_n 1, 1) := by decide +kernel
theorem dX7_adds_66 : decode cX7_adds 66 = .ok (.aload_n 0, 1) := by decide +kernel
theorem dX7_adds_67 : decode cX7_adds 67 = .ok (.getfield 67, 3) := by decide +kernel
theorem dX7_adds_70 : decode cX7_adds 70 = .ok (.aload_n 0, 1) := by decide +kernel
theorem dX7_adds_71 : decode cX7_adds 71 = .ok (.getfield 142, 3) := by decide +kernel
theorem dX7_adds_74 : decode cX7_adds 74 = .ok (.iaload, 1) := by decide +kernel
theorem dX7_adds_75 : decode cX7_adds 75 = .ok (.iastore, 1) := by decide +kernel
theorem dX7_adds_76 : decode cX7_adds 76 = .ok (.aload_n 0, 1) := by decide +kernel
theorem dX7_adds_77 : decode cX7_adds 77 = .ok (.getfield 61, 3) := by decide +kernel
theorem dX7_adds_80 : decode cX7_adds 80 = .ok (.iload_n 1, 1) := by decide +kernel
theorem dX7_adds_81 : decode cX7_adds 81 = .ok (.aload_n 0, 1) := by decide +kernel
theorem dX7_adds_82 : decode cX7_adds 82 = .ok (.getfield 76, 3) := by decide +kernel
theorem dX7_adds_85 : decode cX7_adds 85 = .ok (.aload_n 0, 1) := by decide +kernel
theorem dX7_adds_86 : decode cX7_adds 86 = .ok (.getfield 142, 3) := by decide +kernel
theorem dX7_adds_89 : decode cX7_adds 89 = .ok (.iaload, 1) := by decide +kernel
theorem dX7_adds_90 : decode cX7_adds 90 = .ok (.iastore, 1) := by decide +kernel
theorem dX7_adds_91 : decode cX7_adds 91 = .ok (.aload_n 0, 1) := by decide +kernel
theorem dX7_adds_92 : decode cX7_adds 92 = .ok (.getfield 52, 3) := by decide +kernel
theorem dX7_adds_95 : decode cX7_adds 95 = .ok (.bipush 8, 2) := by decide +kernel
theorem dX7_adds_97 : decode cX7_adds 97 = .ok (.dup2, 1) := by decide +kernel
theorem dX7_adds_98 : decode cX7_adds 98 = .ok (.iaload, 1) := by decide +kernel
theorem dX7_adds_99 : decode cX7_adds 99 = .ok (.iconst 1, 1) := by decide +kernel
theorem dX7_adds_100 : decode cX7_adds 100 = .ok (.iadd, 1) := by decide +kernel
theorem dX7_adds_101 : decode cX7_adds 101 = .ok (.iastore, 1) := by decide +kernel
theorem dX7_adds_102 : decode cX7_adds 102 = .ok (.aload_n 0, 1) := by decide +kernel
theorem dX7_adds_103 : decode cX7_adds 103 = .ok (.getfield 67, 3) := by decide +kernel
theorem dX7_adds_106 : decode cX7_adds 106 = .ok (.aload_n 0, 1) := by decide +kernel
theorem dX7_adds_107 : decode cX7_adds 107 = .ok (.getfield 142, 3) := by decide +kernel
theorem dX7_adds_110 : decode cX7_adds 110 = .ok (.aload_n 0, 1) := by decide +kernel
theorem dX7_adds_111 : decode cX7_adds 111 = .ok (.aload_n 0, 1) := by decide +kernel
theorem dX7_adds_112 : decode cX7_adds 112 = .ok (.getfield 70, 3) := by decide +kernel
theorem dX7_adds_115 : decode cX7_adds 115 = .ok (.aload_n 0, 1) := by decide +kernel
theorem dX7_adds_116 : decode cX7_adds 116 = .ok (.getfield 142, 3) := by decide +kernel
theorem dX7_adds_119 : decode cX7_adds 119 = .ok (.iaload, 1) := by decide +kernel
theorem dX7_adds_120 : decode cX7_adds 120 = .ok (.bipush 43, 2) := by decide +kernel
theorem dX7_adds_122 : decode cX7_adds 122 = .ok (.if_icmp .ne 7, 3) := by decide +kernel
theorem dX7_adds_125 : decode cX7_adds 125 = .ok (.iconst 2, 1) := by decide +kernel
theorem dX7_adds_126 : decode cX7_adds 126 = .ok (.goto 4, 3) := by decide +kernel
theorem dX7_adds_129 : decode cX7_adds 129 = .ok (.iconst 3, 1) := by decide +kernel
theorem dX7_adds_130 : decode cX7_adds 130 = .ok (.aload_n 0, 1) := by decide +kernel
theorem dX7_adds_131 : decode cX7_adds 131 = .ok (.getfield 67, 3) := by decide +kernel
theorem dX7_adds_134 : decode cX7_adds 134 = .ok (.aload_n 0, 1) := by decide +kernel
theorem dX7_adds_135 : decode cX7_adds 135 = .ok (.getfield 142, 3) := by decide +kernel
theorem dX7_adds_138 : decode cX7_adds 138 = .ok (.iaload, 1) := by decide +kernel
theorem dX7_adds_139 : decode cX7_adds 139 = .ok (.aload_n 0, 1) := by decide +kernel
theorem dX7_adds_140 : decode cX7_adds 140 = .ok (.getfield 76, 3) := by decide +kernel
theorem dX7_adds_143 : decode cX7_adds 143 = .ok (.aload_n 0, 1) := by decide +kernel
theorem dX7_adds_144 : decode cX7_adds 144 = .ok (.getfield 142, 3) := by decide +kernel
theorem dX7_adds_147 : decode cX7_adds 147 = .ok (.iaload, 1) := by decide +kernel
theorem dX7_adds_148 : decode cX7_adds 148 = .ok (.invokevirtual 148, 3) := by decide +kernel
theorem dX7_adds_151 : decode cX7_adds 151 = .ok (.iastore, 1) := by decide +kernel
theorem dX7_adds_152 : decode cX7_adds 152 = .ok (.aload_n 0, 1) := by decide +kernel
theorem dX7_adds_153 : decode cX7_adds 153 = .ok (.getfield 76, 3) := by decide +kernel
theorem dX7_adds_156 : decode cX7_adds 156 = .ok (.aload_n 0, 1) := by decide +kernel
theorem dX7_adds_157 : decode cX7_adds 157 = .ok (.getfield 142, 3) := by decide +kernel
theorem dX7_adds_160 : decode cX7_adds 160 = .ok (.iconst (-1), 1) := by decide +kernel
theorem dX7_adds_161 : decode cX7_adds 161 = .ok (.iastore, 1) := by decide +kernel
theorem dX7_adds_162 : decode cX7_adds 162 = .ok (.return_, 1) := by decide +kernel
set_option maxRecDepth 20000 in
theorem ggX7_begins_X7_sign : GoodIn wsX7_begins wsX7_sign := goodIn_r _ [7, 2, 8, 9, 23, 24, 25, 26, 27, 28, 29, 30, 31, 32, 33, 34, 35, 36, 37, 38, 39, 40, 41, 42, 43, 44, 45, 46, 47, 48, 49, 50, 51, 52, 53, 54, 55, 56, 57, 58, 59] (by decide +kernel) (by decide +kernel)
set_option maxRecDepth 20000 in
theorem gX7_begins_X7_sign : GoodIn wsX7_begins (wsV RX7 145 RX7 yX7_sign wsX7_sign) := goodIn_app (goodIn_of _ (by decide +kernel)) ggX7_begins_X7_sign
set_option maxRecDepth 20000 in
theorem ggX7_begins_X7_opens : GoodIn wsX7_begins wsX7_opens := goodIn_r _ [13, 1, 14, 15, 16, 23, 24, 25, 26, 27, 28, 29, 30, 31, 32, 33, 34, 35, 36, 37, 38, 39, 40, 41, 42, 43, 44, 45, 46, 47, 48, 49, 50, 51, 52, 53, 54, 55, 56, 57, 58, 59] (by decide +kernel) (by decide +kernel)
set_option maxRecDepth 20000 in
theorem gX7_begins_X7_opens : GoodIn wsX7_begins (wsV RX7 155 RX7 yX7_opens wsX7_opens) := goodIn_app (goodIn_of _ (by decide +kernel)) ggX7_begins_X7_opens
set_option maxRecDepth 20000 in
theorem ggX7_begins_X7_isDigit : GoodIn wsX7_begins wsX7_isDigit := goodIn_r _ [19, 20, 21, 6, 22] (by decide +kernel) (by decide +kernel)
set_option maxRecDepth 20000 in
theorem gX7_begins_X7_isDigit : GoodIn wsX7_begins (va_wsS RX7 152 yX7_isDigit wsX7_isDigit) := goodIn_app (goodIn_of _ (by decide +kernel)) ggX7_begins_X7_isDigit
set_option maxRecDepth 20000 in
theorem ggX7_begins_X7_isIn : GoodIn wsX7_begins wsX7_isIn := goodIn_r _ [22] (by decide +kernel) (by decide +kernel)
set_option maxRecDepth 20000 in
theorem gX7_begins_X7_isIn : GoodIn wsX7_begins (va_wsS RX7 111 yX7_isIn wsX7_isIn) := goodIn_app (goodIn_of _ (by decide +kernel)) ggX7_begins_X7_isIn
theorem dX7_begins_0 : decode cX7_begins 0 = .ok (.aload_n 0, 1) := by decide +kernel
theorem dX7_begins_1 : decode cX7_begins 1 = .ok (.invokevirtual 145, 3) := by decide +kernel
theorem dX7_begins_4 : decode cX7_begins 4 = .ok (.bipush 45, 2) := by decide +kernel
theorem dX7_begins_6 : decode cX7_begins 6 = .ok (.if_icmp .eq 12, 3) := by decide +kernel
theorem dX7_begins_9 : decode cX7_begins 9 = .ok (.aload_n 0, 1) := by decide +kernel
theorem dX7_begins_10 : decode cX7_begins 10 = .ok (.invokevirtual 145, 3) := by decide +kernel
theorem dX7_begins_13 : decode cX7_begins 13 = .ok (.bipush 40, 2) := by decide +kernel
theorem dX7_begins_15 : decode cX7_begins 15 = .ok (.if_icmp .ne 45, 3) := by decide +kernel
theorem dX7_begins_18 : decode cX7_begins 18 = .ok (.aload_n 0, 1) := by decide +kernel
theorem dX7_begins_19 : decode cX7_begins 19 = .ok (.getfield 142, 3) := by decide +kernel
theorem dX7_begins_22 : decode cX7_begins 22 = .ok (.bipush 7, 2) := by decide +kernel
theorem dX7_begins_24 : decode cX7_begins 24 = .ok (.if_icmp .ne 5, 3) := by decide +kernel
theorem dX7_begins_27 : decode cX7_begins 27 = .ok (.iconst 0, 1) := by decide +kernel
theorem dX7_begins_28 : decode cX7_begins 28 = .ok (.ireturn, 1) := by decide +kernel
theorem dX7_begins_29 : decode cX7_begins 29 = .ok (.aload_n 0, 1) := by decide +kernel
theorem dX7_begins_30 : decode cX7_begins 30 = .ok (.aload_n 0, 1) := by decide +kernel
theorem dX7_begins_31 : decode cX7_begins 31 = .ok (.invokevirtual 145, 3) := by decide +kernel
theorem dX7_begins_34 : decode cX7_begins 34 = .ok (.bipush 45, 2) := by decide +kernel
theorem dX7_begins_36 : decode cX7_begins 36 = .ok (.if_icmp .ne 7, 3) := by decide +kernel
theorem dX7_begins_39 : decode cX7_begins 39 = .ok (.iconst 1, 1) := by decide +kernel
theorem dX7_begins_40 : decode cX7_begins 40 = .ok (.goto 4, 3) := by decide +kernel
theorem dX7_begins_43 : decode cX7_begins 43 = .ok (.iconst 0, 1) := by decide +kernel
theorem dX7_begins_44 : decode cX7_begins 44 = .ok (.invokevirtual 155, 3) := by decide +kernel
theorem dX7_begins_47 : decode cX7_begins 47 = .ok (.aload_n 0, 1) := by decide +kernel
theorem dX7_begins_48 : decode cX7_begins 48 = .ok (.dup, 1) := by decide +kernel
theorem dX7_begins_49 : decode cX7_begins 49 = .ok (.getfield 139, 3) := by decide +kernel
theorem dX7_begins_52 : decode cX7_begins 52 = .ok (.iconst 1, 1) := by decide +kernel
theorem dX7_begins_53 : decode cX7_begins 53 = .ok (.iadd, 1) := by decide +kernel
theorem dX7_begins_54 : decode cX7_begins 54 = .ok (.putfield 139, 3) := by decide +kernel
theorem dX7_begins_57 : decode cX7_begins 57 = .ok (.goto (-57), 3) := by decide +kernel
theorem dX7_begins_60 : decode cX7_begins 60 = .ok (.aload_n 0, 1) := by decide +kernel
theorem dX7_begins_61 : decode cX7_begins 61 = .ok (.invokevirtual 145, 3) := by decide +kernel
theorem dX7_begins_64 : decode cX7_begins 64 = .ok (.invokestatic 152, 3) := by decide +kernel
theorem dX7_begins_67 : decode cX7_begins 67 = .ok (.ifCond .ne 17, 3) := by decide +kernel
theorem dX7_begins_70 : decode cX7_begins 70 = .ok (.aload_n 0, 1) := by decide +kernel
theorem dX7_begins_71 : decode cX7_begins 71 = .ok (.invokevirtual 145, 3) := by decide +kernel
theorem dX7_begins_74 : decode cX7_begins 74 = .ok (.bipush 97, 2) := by decide +kernel
theorem dX7_begins_76 : decode cX7_begins 76 = .ok (.bipush 102, 2) := by decide +kernel
theorem dX7_begins_78 : decode cX7_begins 78 = .ok (.invokestatic 111, 3) := by decide +kernel
theorem dX7_begins_81 : decode cX7_begins 81 = .ok (.ifCond .eq 7, 3) := by decide +kernel
theorem dX7_begins_84 : decode cX7_begins 84 = .ok (.iconst 1, 1) := by decide +kernel
theorem dX7_begins_85 : decode cX7_begins 85 = .ok (.goto 4, 3) := by decide +kernel
theorem dX7_begins_88 : decode cX7_begins 88 = .ok (.iconst 0, 1) := by decide +kernel
theorem dX7_begins_89 : decode cX7_begins 89 = .ok (.ireturn, 1) := by decide +kernel
set_option maxRecDepth 20000 in
theorem ggX7_power_X7_sign : GoodIn wsX7_power wsX7_sign := goodIn_r _ [7, 1, 8, 2, 20, 21, 22, 23, 24, 25, 26, 27, 28, 29, 30, 31, 32, 33, 34, 35, 36, 37, 38, 39, 40, 41, 42, 43, 44, 45, 46, 47, 48, 49, 50, 51, 52, 53, 54, 55, 56] (by decide +kernel) (by decide +kernel)
set_option maxRecDepth 20000 in
theorem gX7_power_X7_sign : GoodIn wsX7_power (wsV RX7 145 RX7 yX7_sign wsX7_sign) := goodIn_app (goodIn_of _ (by decide +kernel)) ggX7_power_X7_sign
set_option maxRecDepth 20000 in
theorem ggX7_power_X7_isIn : GoodIn wsX7_power wsX7_isIn := goodIn_r _ [11] (by decide +kernel) (by decide +kernel)
set_option maxRecDepth 20000 in
theorem gX7_power_X7_isIn : GoodIn wsX7_power (va_wsS RX7 111 yX7_isIn wsX7_isIn) := goodIn_app (goodIn_of _ (by decide +kernel)) ggX7_power_X7_isIn
set_option maxRecDepth 20000 in
theorem ggX7_power_X7_formula : GoodIn wsX7_power wsX7_formula := goodIn_r _ [15, 16, 17, 18, 19, 20, 21, 22, 23, 24, 25, 26, 27, 28, 29, 30, 31, 32, 33, 34, 35, 36, 37, 38, 39, 40, 41, 42, 43, 44, 45, 46, 47, 48, 49, 50, 51, 52, 53, 54, 55, 56] (by decide +kernel) (by decide +kernel)
set_option maxRecDepth 20000 in
theorem gX7_power_X7_formula : GoodIn wsX7_power (wsV RX7 148 RX7 yX7_formula wsX7_formula) := goodIn_app (goodIn_of _ (by decide +kernel)) ggX7_power_X7_formula
theorem dX7_power_0 : decode cX7_power 0 = .ok (.aload_n 0, 1) := by decide +kernel
theorem dX7_power_1 : decode cX7_power 1 = .ok (.invokevirtual 145, 3) := by decide +kernel
theorem dX7_power_4 : decode cX7_power 4 = .ok (.bipush 94, 2) := by decide +kernel
theorem dX7_power_6 : decode cX7_power 6 = .ok (.if_icmp .eq 5, 3) := by decide +kernel
theorem dX7_power_9 : decode cX7_power 9 = .ok (.iload_n 1, 1) := by decide +kernel
theorem dX7_power_10 : decode cX7_power 10 = .ok (.ireturn, 1) := by decide +kernel
theorem dX7_power_11 : decode cX7_power 11 = .ok (.aload_n 0, 1) := by decide +kernel
theorem dX7_power_12 : decode cX7_power 12 = .ok (.dup, 1) := by decide +kernel
theorem dX7_power_13 : decode cX7_power 13 = .ok (.getfield 139, 3) := by decide +kernel
theorem dX7_power_16 : decode cX7_power 16 = .ok (.iconst 1, 1) := by decide +kernel
theorem dX7_power_17 : decode cX7_power 17 = .ok (.iadd, 1) := by decide +kernel
theorem dX7_power_18 : decode cX7_power 18 = .ok (.putfield 139, 3) := by decide +kernel
theorem dX7_power_21 : decode cX7_power 21 = .ok (.aload_n 0, 1) := by decide +kernel
theorem dX7_power_22 : decode cX7_power 22 = .ok (.invokevirtual 145, 3) := by decide +kernel
theorem dX7_power_25 : decode cX7_power 25 = .ok (.bipush 48, 2) := by decide +kernel
theorem dX7_power_27 : decode cX7_power 27 = .ok (.bipush 52, 2) := by decide +kernel
theorem dX7_power_29 : decode cX7_power 29 = .ok (.invokestatic 111, 3) := by decide +kernel
theorem dX7_power_32 : decode cX7_power 32 = .ok (.ifCond .ne 5, 3) := by decide +kernel
theorem dX7_power_35 : decode cX7_power 35 = .ok (.iconst (-1), 1) := by decide +kernel
theorem dX7_power_36 : decode cX7_power 36 = .ok (.ireturn, 1) := by decide +kernel
theorem dX7_power_37 : decode cX7_power 37 = .ok (.aload_n 0, 1) := by decide +kernel
theorem dX7_power_38 : decode cX7_power 38 = .ok (.dup, 1) := by decide +kernel
theorem dX7_power_39 : decode cX7_power 39 = .ok (.getfield 139, 3) := by decide +kernel
theorem dX7_power_42 : decode cX7_power 42 = .ok (.iconst 1, 1) := by decide +kernel
theorem dX7_power_43 : decode cX7_power 43 = .ok (.iadd, 1) := by decide +kernel
theorem dX7_power_44 : decode cX7_power 44 = .ok (.putfield 139, 3) := by decide +kernel
theorem dX7_power_47 : decode cX7_power 47 = .ok (.aload_n 0, 1) := by decide +kernel
theorem dX7_power_48 : decode cX7_power 48 = .ok (.iconst 5, 1) := by decide +kernel
theorem dX7_power_49 : decode cX7_power 49 = .ok (.iload_n 1, 1) := by decide +kernel
theorem dX7_power_50 : decode cX7_power 50 = .ok (.aload_n 0, 1) := by decide +kernel
theorem dX7_power_51 : decode cX7_power 51 = .ok (.getfield 34, 3) := by decide +kernel
theorem dX7_power_54 : decode cX7_power 54 = .ok (.aload_n 0, 1) := by decide +kernel
theorem dX7_power_55 : decode cX7_power 55 = .ok (.getfield 139, 3) := by decide +kernel
theorem dX7_power_58 : decode cX7_power 58 = .ok (.iconst 1, 1) := by decide +kernel
theorem dX7_power_59 : decode cX7_power 59 = .ok (.isub, 1) := by decide +kernel
theorem dX7_power_60 : decode cX7_power 60 = .ok (.iaload, 1) := by decide +kernel
theorem dX7_power_61 : decode cX7_power 61 = .ok (.bipush 48, 2) := by decide +kernel
theorem dX7_power_63 : decode cX7_power 63 = .ok (.isub, 1) := by decide +kernel
theorem dX7_power_64 : decode cX7_power 64 = .ok (.invokevirtual 148, 3) := by decide +kernel
theorem dX7_power_67 : decode cX7_power 67 = .ok (.ireturn, 1) := by decide +kernel
set_option maxRecDepth 20000 in
theorem ggX7_reads_X7_begins : GoodIn wsX7_reads wsX7_begins := goodIn_r _ [13, 2, 1, 14, 15, 16, 12, 17, 8, 18, 19, 20, 21, 22, 5, 6, 7, 23, 24, 25, 26, 27, 28, 57, 58, 59, 60, 61, 62, 63, 64, 65, 66, 67, 68, 69, 70, 71, 72, 73, 74, 75, 76, 77, 78, 79, 80, 81, 82, 83, 84, 85, 86, 87, 88, 89, 90, 91, 92, 93] (by decide +kernel) (by decide +kernel)
set_option maxRecDepth 20000 in
theorem gX7_reads_X7_begins : GoodIn wsX7_reads (wsV RX7 159 RX7 yX7_begins wsX7_begins) := goodIn_app (goodIn_of _ (by decide +kernel)) ggX7_reads_X7_begins
set_option maxRecDepth 20000 in
theorem ggX7_reads_X7_atom : GoodIn wsX7_reads wsX7_atom := goodIn_r _ [32, 1, 18, 14, 15, 16, 12, 17, 8, 26, 27, 28, 33, 34, 35, 36, 3, 37, 38, 39, 23, 24, 25, 57, 58, 59, 60, 61, 62, 63, 64, 65, 66, 67, 68, 69, 70, 71, 72, 73, 74, 75, 76, 77, 78, 79, 80, 81, 82, 83, 84, 85, 86, 87, 88, 89, 90, 91, 92, 93] (by decide +kernel) (by decide +kernel)
set_option maxRecDepth 20000 in
theorem gX7_reads_X7_atom : GoodIn wsX7_reads (wsV RX7 163 RX7 yX7_atom wsX7_atom) := goodIn_app (goodIn_of _ (by decide +kernel)) ggX7_reads_X7_atom
set_option maxRecDepth 20000 in
theorem ggX7_reads_X7_power : GoodIn wsX7_reads wsX7_power := goodIn_r _ [43, 1, 18, 14, 15, 16, 12, 17, 8, 26, 27, 28, 33, 34, 35, 36, 3, 37, 38, 39, 57, 58, 59, 60, 61, 62, 63, 64, 65, 66, 67, 68, 69, 70, 71, 72, 73, 74, 75, 76, 77, 78, 79, 80, 81, 82, 83, 84, 85, 86, 87, 88, 89, 90, 91, 92, 93] (by decide +kernel) (by decide +kernel)
set_option maxRecDepth 20000 in
theorem gX7_reads_X7_power : GoodIn wsX7_reads (wsV RX7 166 RX7 yX7_power wsX7_power) := goodIn_app (goodIn_of _ (by decide +kernel)) ggX7_reads_X7_power
set_option maxRecDepth 20000 in
theorem ggX7_reads_X7_formula : GoodIn wsX7_reads wsX7_formula := goodIn_r _ [36, 3, 37, 38, 39, 57, 58, 59, 60, 61, 62, 63, 64, 65, 66, 67, 68, 69, 70, 71, 72, 73, 74, 75, 76, 77, 78, 79, 80, 81, 82, 83, 84, 85, 86, 87, 88, 89, 90, 91, 92, 93] (by decide +kernel) (by decide +kernel)
set_option maxRecDepth 20000 in
theorem gX7_reads_X7_formula : GoodIn wsX7_reads (wsV RX7 148 RX7 yX7_formula wsX7_formula) := goodIn_app (goodIn_of _ (by decide +kernel)) ggX7_reads_X7_formula
set_option maxRecDepth 20000 in
theorem ggX7_reads_X7_sign : GoodIn wsX7_reads wsX7_sign := goodIn_r _ [17, 1, 8, 18, 57, 58, 59, 60, 61, 62, 63, 64, 65, 66, 67, 68, 69, 70, 71, 72, 73, 74, 75, 76, 77, 78, 79, 80, 81, 82, 83, 84, 85, 86, 87, 88, 89, 90, 91, 92, 93] (by decide +kernel) (by decide +kernel)
set_option maxRecDepth 20000 in
theorem gX7_reads_X7_sign : GoodIn wsX7_reads (wsV RX7 145 RX7 yX7_sign wsX7_sign) := goodIn_app (goodIn_of _ (by decide +kernel)) ggX7_reads_X7_sign
set_option maxRecDepth 20000 in
theorem ggX7_reads_X7_adds : GoodIn wsX7_reads wsX7_adds := goodIn_r _ [47, 6, 2, 7, 4, 48, 49, 50, 51, 52, 33, 34, 35, 12, 36, 3, 37, 38, 39, 57, 58, 59, 60, 61, 62, 63, 64, 65, 66, 67, 68, 69, 70, 71, 72, 73, 74, 75, 76, 77, 78, 79, 80, 81, 82, 83, 84, 85, 86, 87, 88, 89, 90, 91, 92, 93] (by decide +kernel) (by decide +kernel)
set_option maxRecDepth 20000 in
theorem gX7_reads_X7_adds : GoodIn wsX7_reads (wsV RX7 169 RX7 yX7_adds wsX7_adds) := goodIn_app (goodIn_of _ (by decide +kernel)) ggX7_reads_X7_adds
set_option maxRecDepth 20000 in
theorem ggX7_reads_X7_follows : GoodIn wsX7_reads wsX7_follows := goodIn_r _ [56, 52, 2, 49, 1, 14, 15, 16, 12, 17, 8, 18, 44, 45, 46, 47, 6, 7, 4, 48, 50, 51, 33, 34, 35, 36, 3, 37, 38, 39, 57, 58, 59, 60, 61, 62, 63, 64, 65, 66, 67, 68, 69, 70, 71, 72, 73, 74, 75, 76, 77, 78, 79, 80, 81, 82, 83, 84, 85, 86, 87, 88, 89, 90, 91, 92, 93] (by decide +kernel) (by decide +kernel)
set_option maxRecDepth 20000 in
theorem gX7_reads_X7_follows : GoodIn wsX7_reads (wsV RX7 172 RX7 yX7_follows wsX7_follows) := goodIn_app (goodIn_of _ (by decide +kernel)) ggX7_reads_X7_follows
theorem dX7_reads_0 : decode cX7_reads 0 = .ok (.aload_n 0, 1) := by decide +kernel
theorem dX7_reads_1 : decode cX7_reads 1 = .ok (.iconst 0, 1) := by decide +kernel
theorem dX7_reads_2 : decode cX7_reads 2 = .ok (.putfield 139, 3) := by decide +kernel
theorem dX7_reads_5 : decode cX7_reads 5 = .ok (.aload_n 0, 1) := by decide +kernel
theorem dX7_reads_6 : decode cX7_reads 6 = .ok (.iconst 0, 1) := by decide +kernel
theorem dX7_reads_7 : decode cX7_reads 7 = .ok (.putfield 142, 3) := by decide +kernel
theorem dX7_reads_10 : decode cX7_reads 10 = .ok (.aload_n 0, 1) := by decide +kernel
theorem dX7_reads_11 : decode cX7_reads 11 = .ok (.getfield 37, 3) := by decide +kernel
theorem dX7_reads_14 : decode cX7_reads 14 = .ok (.bipush 8, 2) := by decide +kernel
theorem dX7_reads_16 : decode cX7_reads 16 = .ok (.iconst 0, 1) := by decide +kernel
theorem dX7_reads_17 : decode cX7_reads 17 = .ok (.iastore, 1) := by decide +kernel
theorem dX7_reads_18 : decode cX7_reads 18 = .ok (.aload_n 0, 1) := by decide +kernel
theorem dX7_reads_19 : decode cX7_reads 19 = .ok (.getfield 52, 3) := by decide +kernel
theorem dX7_reads_22 : decode cX7_reads 22 = .ok (.bipush 8, 2) := by decide +kernel
theorem dX7_reads_24 : decode cX7_reads 24 = .ok (.iconst 0, 1) := by decide +kernel
theorem dX7_reads_25 : decode cX7_reads 25 = .ok (.iastore, 1) := by decide +kernel
theorem dX7_reads_26 : decode cX7_reads 26 = .ok (.aload_n 0, 1) := by decide +kernel
theorem dX7_reads_27 : decode cX7_reads 27 = .ok (.getfield 64, 3) := by decide +kernel
theorem dX7_reads_30 : decode cX7_reads 30 = .ok (.iconst 0, 1) := by decide +kernel
theorem dX7_reads_31 : decode cX7_reads 31 = .ok (.iconst 0, 1) := by decide +kernel
theorem dX7_reads_32 : decode cX7_reads 32 = .ok (.iastore, 1) := by decide +kernel
theorem dX7_reads_33 : decode cX7_reads 33 = .ok (.aload_n 0, 1) := by decide +kernel
theorem dX7_reads_34 : decode cX7_reads 34 = .ok (.getfield 67, 3) := by decide +kernel
theorem dX7_reads_37 : decode cX7_reads 37 = .ok (.iconst 0, 1) := by decide +kernel
theorem dX7_reads_38 : decode cX7_reads 38 = .ok (.iconst (-1), 1) := by decide +kernel
theorem dX7_reads_39 : decode cX7_reads 39 = .ok (.iastore, 1) := by decide +kernel
theorem dX7_reads_40 : decode cX7_reads 40 = .ok (.aload_n 0, 1) := by decide +kernel
theorem dX7_reads_41 : decode cX7_reads 41 = .ok (.getfield 76, 3) := by decide +kernel
theorem dX7_reads_44 : decode cX7_reads 44 = .ok (.iconst 0, 1) := by decide +kernel
theorem dX7_reads_45 : decode cX7_reads 45 = .ok (.iconst (-1), 1) := by decide +kernel
theorem dX7_reads_46 : decode cX7_reads 46 = .ok (.iastore, 1) := by decide +kernel
theorem dX7_reads_47 : decode cX7_reads 47 = .ok (.aload_n 0, 1) := by decide +kernel
theorem dX7_reads_48 : decode cX7_reads 48 = .ok (.invokevirtual 159, 3) := by decide +kernel
theorem dX7_reads_51 : decode cX7_reads 51 = .ok (.ifCond .eq 242, 3) := by decide +kernel
theorem dX7_reads_54 : decode cX7_reads 54 = .ok (.aload_n 0, 1) := by decide +kernel
theorem dX7_reads_55 : decode cX7_reads 55 = .ok (.aload_n 0, 1) := by decide +kernel
theorem dX7_reads_56 : decode cX7_reads 56 = .ok (.invokevirtual 163, 3) := by decide +kernel
theorem dX7_reads_59 : decode cX7_reads 59 = .ok (.invokevirtual 166, 3) := by decide +kernel
theorem dX7_reads_62 : decode cX7_reads 62 = .ok (.istore_n 1, 1) := by decide +kernel
theorem dX7_reads_63 : decode cX7_reads 63 = .ok (.iload_n 1, 1) := by decide +kernel
theorem dX7_reads_64 : decode cX7_reads 64 = .ok (.iconst (-1), 1) := by decide +kernel
theorem dX7_reads_65 : decode cX7_reads 65 = .ok (.if_icmp .eq 7, 3) := by decide +kernel
theorem dX7_reads_68 : decode cX7_reads 68 = .ok (.iconst 1, 1) := by decide +kernel
theorem dX7_reads_69 : decode cX7_reads 69 = .ok (.goto 4, 3) := by decide +kernel
theorem dX7_reads_72 : decode cX7_reads 72 = .ok (.iconst 0, 1) := by decide +kernel
theorem dX7_reads_73 : decode cX7_reads 73 = .ok (.istore_n 2, 1) := by decide +kernel
theorem dX7_reads_74 : decode cX7_reads 74 = .ok (.iload_n 2, 1) := by decide +kernel
theorem dX7_reads_75 : decode cX7_reads 75 = .ok (.ifCond .eq 166, 3) := by decide +kernel
theorem dX7_reads_78 : decode cX7_reads 78 = .ok (.aload_n 0, 1) := by decide +kernel
theorem dX7_reads_79 : decode cX7_reads 79 = .ok (.getfield 64, 3) := by decide +kernel
theorem dX7_reads_82 : decode cX7_reads 82 = .ok (.aload_n 0, 1) := by decide +kernel
theorem dX7_reads_83 : decode cX7_reads 83 = .ok (.getfield 142, 3) := by decide +kernel
theorem dX7_reads_86 : decode cX7_reads 86 = .ok (.iaload, 1) := by decide +kernel
theorem dX7_reads_87 : decode cX7_reads 87 = .ok (.iconst 1, 1) := by decide +kernel
theorem dX7_reads_88 : decode cX7_reads 88 = .ok (.if_icmp .ne 40, 3) := by decide +kernel
theorem dX7_reads_91 : decode cX7_reads 91 = .ok (.aload_n 0, 1) := by decide +kernel
theorem dX7_reads_92 : decode cX7_reads 92 = .ok (.dup, 1) := by decide +kernel
theorem dX7_reads_93 : decode cX7_reads 93 = .ok (.getfield 142, 3) := by decide +kernel
theorem dX7_reads_96 : decode cX7_reads 96 = .ok (.iconst 1, 1) := by decide +kernel
theorem dX7_reads_97 : decode cX7_reads 97 = .ok (.isub, 1) := by decide +kernel
theorem dX7_reads_98 : decode cX7_reads 98 = .ok (.putfield 142, 3) := by decide +kernel
theorem dX7_reads_101 : decode cX7_reads 101 = .ok (.aload_n 0, 1) := by decide +kernel
theorem dX7_reads_102 : decode cX7_reads 102 = .ok (.aload_n 0, 1) := by decide +kernel
theorem dX7_reads_103 : decode cX7_reads 103 = .ok (.bipush 6, 2) := by decide +kernel
theorem dX7_reads_105 : decode cX7_reads 105 = .ok (.iload_n 1, 1) := by decide +kernel
theorem dX7_reads_106 : decode cX7_reads 106 = .ok (.iconst 0, 1) := by decide +kernel
theorem dX7_reads_107 : decode cX7_reads 107 = .ok (.invokevirtual 148, 3) := by decide +kernel
theorem dX7_reads_110 : decode cX7_reads 110 = .ok (.invokevirtual 166, 3) := by decide +kernel
theorem dX7_reads_113 : decode cX7_reads 113 = .ok (.istore_n 1, 1) := by decide +kernel
theorem dX7_reads_114 : decode cX7_reads 114 = .ok (.iload_n 1, 1) := by decide +kernel
theorem dX7_reads_115 : decode cX7_reads 115 = .ok (.iconst (-1), 1) := by decide +kernel
theorem dX7_reads_116 : decode cX7_reads 116 = .ok (.if_icmp .eq 7, 3) := by decide +kernel
theorem dX7_reads_119 : decode cX7_reads 119 = .ok (.iconst 1, 1) := by decide +kernel
theorem dX7_reads_120 : decode cX7_reads 120 = .ok (.goto 4, 3) := by decide +kernel
theorem dX7_reads_123 : decode cX7_reads 123 = .ok (.iconst 0, 1) := by decide +kernel
theorem dX7_reads_124 : decode cX7_reads 124 = .ok (.istore_n 2, 1) := by decide +kernel
theorem dX7_reads_125 : decode cX7_reads 125 = .ok (.goto (-51), 3) := by decide +kernel
theorem dX7_reads_128 : decode cX7_reads 128 = .ok (.aload_n 0, 1) := by decide +kernel
theorem dX7_reads_129 : decode cX7_reads 129 = .ok (.getfield 76, 3) := by decide +kernel
theorem dX7_reads_132 : decode cX7_reads 132 = .ok (.aload_n 0, 1) := by decide +kernel
theorem dX7_reads_133 : decode cX7_reads 133 = .ok (.getfield 142, 3) := by decide +kernel
theorem dX7_reads_136 : decode cX7_reads 136 = .ok (.aload_n 0, 1) := by decide +kernel
theorem dX7_reads_137 : decode cX7_reads 137 = .ok (.getfield 76, 3) := by decide +kernel
theorem dX7_reads_140 : decode cX7_reads 140 = .ok (.aload_n 0, 1) := by decide +kernel
theorem dX7_reads_141 : decode cX7_reads 141 = .ok (.getfield 142, 3) := by decide +kernel
theorem dX7_reads_144 : decode cX7_reads 144 = .ok (.iaload, 1) := by decide +kernel
theorem dX7_reads_145 : decode cX7_reads 145 = .ok (.iconst (-1), 1) := by decide +kernel
theorem dX7_reads_146 : decode cX7_reads 146 = .ok (.if_icmp .ne 7, 3) := by decide +kernel
theorem dX7_reads_149 : decode cX7_reads 149 = .ok (.iload_n 1, 1) := by decide +kernel
theorem dX7_reads_150 : decode cX7_reads 150 = .ok (.goto 18, 3) := by decide +kernel
theorem dX7_reads_153 : decode cX7_reads 153 = .ok (.aload_n 0, 1) := by decide +kernel
theorem dX7_reads_154 : decode cX7_reads 154 = .ok (.iconst 4, 1) := by decide +kernel
theorem dX7_reads_155 : decode cX7_reads 155 = .ok (.aload_n 0, 1) := by decide +kernel
theorem dX7_reads_156 : decode cX7_reads 156 = .ok (.getfield 76, 3) := by decide +kernel
theorem dX7_reads_159 : decode cX7_reads 159 = .ok (.aload_n 0, 1) := by decide +kernel
theorem dX7_reads_160 : decode cX7_reads 160 = .ok (.getfield 142, 3) := by decide +kernel
theorem dX7_reads_163 : decode cX7_reads 163 = .ok (.iaload, 1) := by decide +kernel
theorem dX7_reads_164 : decode cX7_reads 164 = .ok (.iload_n 1, 1) := by decide +kernel
theorem dX7_reads_165 : decode cX7_reads 165 = .ok (.invokevirtual 148, 3) := by decide +kernel
theorem dX7_reads_168 : decode cX7_reads 168 = .ok (.iastore, 1) := by decide +kernel
theorem dX7_reads_169 : decode cX7_reads 169 = .ok (.iconst 0, 1) := by decide +kernel
theorem dX7_reads_170 : decode cX7_reads 170 = .ok (.istore_n 2, 1) := by decide +kernel
theorem dX7_reads_171 : decode cX7_reads 171 = .ok (.aload_n 0, 1) := by decide +kernel
theorem dX7_reads_172 : decode cX7_reads 172 = .ok (.invokevirtual 145, 3) := by decide +kernel
theorem dX7_reads_175 : decode cX7_reads 175 = .ok (.bipush 41, 2) := by decide +kernel
theorem dX7_reads_177 : decode cX7_reads 177 = .ok (.if_icmp .ne (-103), 3) := by decide +kernel
theorem dX7_reads_180 : decode cX7_reads 180 = .ok (.aload_n 0, 1) := by decide +kernel
theorem dX7_reads_181 : decode cX7_reads 181 = .ok (.getfield 142, 3) := by decide +kernel
theorem dX7_reads_184 : decode cX7_reads 184 = .ok (.ifCond .le (-110), 3) := by decide +kernel
theorem dX7_reads_187 : decode cX7_reads 187 = .ok (.aload_n 0, 1) := by decide +kernel
theorem dX7_reads_188 : decode cX7_reads 188 = .ok (.dup, 1) := by decide +kernel
theorem dX7_reads_189 : decode cX7_reads 189 = .ok (.getfield 139, 3) := by decide +kernel
theorem dX7_reads_192 : decode cX7_reads 192 = .ok (.iconst 1, 1) := by decide +kernel
theorem dX7_reads_193 : decode cX7_reads 193 = .ok (.iadd, 1) := by decide +kernel
theorem dX7_reads_194 : decode cX7_reads 194 = .ok (.putfield 139, 3) := by decide +kernel
theorem dX7_reads_197 : decode cX7_reads 197 = .ok (.aload_n 0, 1) := by decide +kernel
theorem dX7_reads_198 : decode cX7_reads 198 = .ok (.invokevirtual 169, 3) := by decide +kernel
theorem dX7_reads_201 : decode cX7_reads 201 = .ok (.aload_n 0, 1) := by decide +kernel
theorem dX7_reads_202 : decode cX7_reads 202 = .ok (.getfield 67, 3) := by decide +kernel
theorem dX7_reads_205 : decode cX7_reads 205 = .ok (.aload_n 0, 1) := by decide +kernel
theorem dX7_reads_206 : decode cX7_reads 206 = .ok (.getfield 142, 3) := by decide +kernel
theorem dX7_reads_209 : decode cX7_reads 209 = .ok (.iaload, 1) := by decide +kernel
theorem dX7_reads_210 : decode cX7_reads 210 = .ok (.istore_n 1, 1) := by decide +kernel
theorem dX7_reads_211 : decode cX7_reads 211 = .ok (.aload_n 0, 1) := by decide +kernel
theorem dX7_reads_212 : decode cX7_reads 212 = .ok (.dup, 1) := by decide +kernel
theorem dX7_reads_213 : decode cX7_reads 213 = .ok (.getfield 142, 3) := by decide +kernel
theorem dX7_reads_216 : decode cX7_reads 216 = .ok (.iconst 1, 1) := by decide +kernel
theorem dX7_reads_217 : decode cX7_reads 217 = .ok (.isub, 1) := by decide +kernel
theorem dX7_reads_218 : decode cX7_reads 218 = .ok (.putfield 142, 3) := by decide +kernel
theorem dX7_reads_221 : decode cX7_reads 221 = .ok (.aload_n 0, 1) := by decide +kernel
theorem dX7_reads_222 : decode cX7_reads 222 = .ok (.iload_n 1, 1) := by decide +kernel
theorem dX7_reads_223 : decode cX7_reads 223 = .ok (.invokevirtual 166, 3) := by decide +kernel
theorem dX7_reads_226 : decode cX7_reads 226 = .ok (.istore_n 1, 1) := by decide +kernel
theorem dX7_reads_227 : decode cX7_reads 227 = .ok (.iload_n 1, 1) := by decide +kernel
theorem dX7_reads_228 : decode cX7_reads 228 = .ok (.iconst (-1), 1) := by decide +kernel
theorem dX7_reads_229 : decode cX7_reads 229 = .ok (.if_icmp .eq 7, 3) := by decide +kernel
theorem dX7_reads_232 : decode cX7_reads 232 = .ok (.iconst 1, 1) := by decide +kernel
theorem dX7_reads_233 : decode cX7_reads 233 = .ok (.goto 4, 3) := by decide +kernel
theorem dX7_reads_236 : decode cX7_reads 236 = .ok (.iconst 0, 1) := by decide +kernel
theorem dX7_reads_237 : decode cX7_reads 237 = .ok (.istore_n 2, 1) := by decide +kernel
theorem dX7_reads_238 : decode cX7_reads 238 = .ok (.goto (-164), 3) := by decide +kernel
theorem dX7_reads_241 : decode cX7_reads 241 = .ok (.iload_n 1, 1) := by decide +kernel
theorem dX7_reads_242 : decode cX7_reads 242 = .ok (.iconst (-1), 1) := by decide +kernel
theorem dX7_reads_243 : decode cX7_reads 243 = .ok (.if_icmp .ne 5, 3) := by decide +kernel
theorem dX7_reads_246 : decode cX7_reads 246 = .ok (.iconst (-1), 1) := by decide +kernel
theorem dX7_reads_247 : decode cX7_reads 247 = .ok (.ireturn, 1) := by decide +kernel
theorem dX7_reads_248 : decode cX7_reads 248 = .ok (.aload_n 0, 1) := by decide +kernel
theorem dX7_reads_249 : decode cX7_reads 249 = .ok (.getfield 139, 3) := by decide +kernel
theorem dX7_reads_252 : decode cX7_reads 252 = .ok (.aload_n 0, 1) := by decide +kernel
theorem dX7_reads_253 : decode cX7_reads 253 = .ok (.getfield 136, 3) := by decide +kernel
theorem dX7_reads_256 : decode cX7_reads 256 = .ok (.if_icmp .ne 25, 3) := by decide +kernel
theorem dX7_reads_259 : decode cX7_reads 259 = .ok (.aload_n 0, 1) := by decide +kernel
theorem dX7_reads_260 : decode cX7_reads 260 = .ok (.invokevirtual 169, 3) := by decide +kernel
theorem dX7_reads_263 : decode cX7_reads 263 = .ok (.aload_n 0, 1) := by decide +kernel
theorem dX7_reads_264 : decode cX7_reads 264 = .ok (.getfield 142, 3) := by decide +kernel
theorem dX7_reads_267 : decode cX7_reads 267 = .ok (.ifCond .ne 12, 3) := by decide +kernel
theorem dX7_reads_270 : decode cX7_reads 270 = .ok (.aload_n 0, 1) := by decide +kernel
theorem dX7_reads_271 : decode cX7_reads 271 = .ok (.getfield 67, 3) := by decide +kernel
theorem dX7_reads_274 : decode cX7_reads 274 = .ok (.iconst 0, 1) := by decide +kernel
theorem dX7_reads_275 : decode cX7_reads 275 = .ok (.iaload, 1) := by decide +kernel
theorem dX7_reads_276 : decode cX7_reads 276 = .ok (.goto 4, 3) := by decide +kernel
theorem dX7_reads_279 : decode cX7_reads 279 = .ok (.iconst (-1), 1) := by decide +kernel
theorem dX7_reads_280 : decode cX7_reads 280 = .ok (.ireturn, 1) := by decide +kernel
theorem dX7_reads_281 : decode cX7_reads 281 = .ok (.aload_n 0, 1) := by decide +kernel
theorem dX7_reads_282 : decode cX7_reads 282 = .ok (.invokevirtual 172, 3) := by decide +kernel
theorem dX7_reads_285 : decode cX7_reads 285 = .ok (.ifCond .ne 5, 3) := by decide +kernel
theorem dX7_reads_288 : decode cX7_reads 288 = .ok (.iconst (-1), 1) := by decide +kernel
theorem dX7_reads_289 : decode cX7_reads 289 = .ok (.ireturn, 1) := by decide +kernel
theorem dX7_reads_290 : decode cX7_reads 290 = .ok (.goto (-243), 3) := by decide +kernel
theorem dX7_reads_293 : decode cX7_reads 293 = .ok (.iconst (-1), 1) := by decide +kernel
theorem dX7_reads_294 : decode cX7_reads 294 = .ok (.ireturn, 1) := by decide +kernel
set_option maxRecDepth 20000 in
theorem ggX7_follows_X7_sign : GoodIn wsX7_follows wsX7_sign := goodIn_r _ [9, 4, 10, 11, 30, 31, 32, 33, 34, 35, 36, 37, 38, 39, 40, 41, 42, 43, 44, 45, 46, 47, 48, 49, 50, 51, 52, 53, 54, 55, 56, 57, 58, 59, 60, 61, 62, 63, 64, 65, 66] (by decide +kernel) (by decide +kernel)
set_option maxRecDepth 20000 in
theorem gX7_follows_X7_sign : GoodIn wsX7_follows (wsV RX7 145 RX7 yX7_sign wsX7_sign) := goodIn_app (goodIn_of _ (by decide +kernel)) ggX7_follows_X7_sign
set_option maxRecDepth 20000 in
theorem ggX7_follows_X7_adds : GoodIn wsX7_follows wsX7_adds := goodIn_r _ [15, 16, 2, 17, 18, 19, 3, 20, 21, 1, 22, 23, 24, 8, 25, 26, 27, 28, 29, 30, 31, 32, 33, 34, 35, 36, 37, 38, 39, 40, 41, 42, 43, 44, 45, 46, 47, 48, 49, 50, 51, 52, 53, 54, 55, 56, 57, 58, 59, 60, 61, 62, 63, 64, 65, 66] (by decide +kernel) (by decide +kernel)
set_option maxRecDepth 20000 in
theorem gX7_follows_X7_adds : GoodIn wsX7_follows (wsV RX7 169 RX7 yX7_adds wsX7_adds) := goodIn_app (goodIn_of _ (by decide +kernel)) ggX7_follows_X7_adds
theorem dX7_follows_0 : decode cX7_follows 0 = .ok (.aload_n 0, 1) := by decide +kernel
theorem dX7_follows_1 : decode cX7_follows 1 = .ok (.invokevirtual 145, 3) := by decide +kernel
theorem dX7_follows_4 : decode cX7_follows 4 = .ok (.istore_n 1, 1) := by decide +kernel
theorem dX7_follows_5 : decode cX7_follows 5 = .ok (.iload_n 1, 1) := by decide +kernel
theorem dX7_follows_6 : decode cX7_follows 6 = .ok (.bipush 42, 2) := by decide +kernel
theorem dX7_follows_8 : decode cX7_follows 8 = .ok (.if_icmp .eq 17, 3) := by decide +kernel
theorem dX7_follows_11 : decode cX7_follows 11 = .ok (.iload_n 1, 1) := by decide +kernel
theorem dX7_follows_12 : decode cX7_follows 12 = .ok (.bipush 43, 2) := by decide +kernel
theorem dX7_follows_14 : decode cX7_follows 14 = .ok (.if_icmp .eq 11, 3) := by decide +kernel
theorem dX7_follows_17 : decode cX7_follows 17 = .ok (.iload_n 1, 1) := by decide +kernel
theorem dX7_follows_18 : decode cX7_follows 18 = .ok (.bipush 45, 2) := by decide +kernel
theorem dX7_follows_20 : decode cX7_follows 20 = .ok (.if_icmp .eq 5, 3) := by decide +kernel
theorem dX7_follows_23 : decode cX7_follows 23 = .ok (.iconst 0, 1) := by decide +kernel
theorem dX7_follows_24 : decode cX7_follows 24 = .ok (.ireturn, 1) := by decide +kernel
theorem dX7_follows_25 : decode cX7_follows 25 = .ok (.iload_n 1, 1) := by decide +kernel
theorem dX7_follows_26 : decode cX7_follows 26 = .ok (.bipush 42, 2) := by decide +kernel
theorem dX7_follows_28 : decode cX7_follows 28 = .ok (.if_icmp .eq 30, 3) := by decide +kernel
theorem dX7_follows_31 : decode cX7_follows 31 = .ok (.aload_n 0, 1) := by decide +kernel
theorem dX7_follows_32 : decode cX7_follows 32 = .ok (.invokevirtual 169, 3) := by decide +kernel
theorem dX7_follows_35 : decode cX7_follows 35 = .ok (.aload_n 0, 1) := by decide +kernel
theorem dX7_follows_36 : decode cX7_follows 36 = .ok (.getfield 70, 3) := by decide +kernel
theorem dX7_follows_39 : decode cX7_follows 39 = .ok (.aload_n 0, 1) := by decide +kernel
theorem dX7_follows_40 : decode cX7_follows 40 = .ok (.getfield 142, 3) := by decide +kernel
theorem dX7_follows_43 : decode cX7_follows 43 = .ok (.iload_n 1, 1) := by decide +kernel
theorem dX7_follows_44 : decode cX7_follows 44 = .ok (.iastore, 1) := by decide +kernel
theorem dX7_follows_45 : decode cX7_follows 45 = .ok (.aload_n 0, 1) := by decide +kernel
theorem dX7_follows_46 : decode cX7_follows 46 = .ok (.getfield 73, 3) := by decide +kernel
theorem dX7_follows_49 : decode cX7_follows 49 = .ok (.aload_n 0, 1) := by decide +kernel
theorem dX7_follows_50 : decode cX7_follows 50 = .ok (.getfield 142, 3) := by decide +kernel
theorem dX7_follows_53 : decode cX7_follows 53 = .ok (.aload_n 0, 1) := by decide +kernel
theorem dX7_follows_54 : decode cX7_follows 54 = .ok (.getfield 139, 3) := by decide +kernel
theorem dX7_follows_57 : decode cX7_follows 57 = .ok (.iastore, 1) := by decide +kernel
theorem dX7_follows_58 : decode cX7_follows 58 = .ok (.aload_n 0, 1) := by decide +kernel
theorem dX7_follows_59 : decode cX7_follows 59 = .ok (.dup, 1) := by decide +kernel
theorem dX7_follows_60 : decode cX7_follows 60 = .ok (.getfield 139, 3) := by decide +kernel
theorem dX7_follows_63 : decode cX7_follows 63 = .ok (.iconst 1, 1) := by decide +kernel
theorem dX7_follows_64 : decode cX7_follows 64 = .ok (.iadd, 1) := by decide +kernel
theorem dX7_follows_65 : decode cX7_follows 65 = .ok (.putfield 139, 3) := by decide +kernel
theorem dX7_follows_68 : decode cX7_follows 68 = .ok (.iconst 1, 1) := by decide +kernel
theorem dX7_follows_69 : decode cX7_follows 69 = .ok (.ireturn, 1) := by decide +kernel
theorem dX7_keeps_0 : decode cX7_keeps 0 = .ok (.sipush 512, 3) := by decide +kernel
theorem dX7_keeps_3 : decode cX7_keeps 3 = .ok (.istore_n 3, 1) := by decide +kernel
theorem dX7_keeps_4 : decode cX7_keeps 4 = .ok (.iconst 0, 1) := by decide +kernel
theorem dX7_keeps_5 : decode cX7_keeps 5 = .ok (.istore 4, 2) := by decide +kernel
theorem dX7_keeps_7 : decode cX7_keeps 7 = .ok (.iload 4, 2) := by decide +kernel
theorem dX7_keeps_9 : decode cX7_keeps 9 = .ok (.bipush 64, 2) := by decide +kernel
theorem dX7_keeps_11 : decode cX7_keeps 11 = .ok (.if_icmp .ge 135, 3) := by decide +kernel
theorem dX7_keeps_14 : decode cX7_keeps 14 = .ok (.aload_n 0, 1) := by decide +kernel
theorem dX7_keeps_15 : decode cX7_keeps 15 = .ok (.getfield 43, 3) := by decide +kernel
theorem dX7_keeps_18 : decode cX7_keeps 18 = .ok (.bipush 64, 2) := by decide +kernel
theorem dX7_keeps_20 : decode cX7_keeps 20 = .ok (.iload_n 1, 1) := by decide +kernel
theorem dX7_keeps_21 : decode cX7_keeps 21 = .ok (.imul, 1) := by decide +kernel
theorem dX7_keeps_22 : decode cX7_keeps 22 = .ok (.iload 4, 2) := by decide +kernel
theorem dX7_keeps_24 : decode cX7_keeps 24 = .ok (.iadd, 1) := by decide +kernel
theorem dX7_keeps_25 : decode cX7_keeps 25 = .ok (.aload_n 0, 1) := by decide +kernel
theorem dX7_keeps_26 : decode cX7_keeps 26 = .ok (.getfield 43, 3) := by decide +kernel
theorem dX7_keeps_29 : decode cX7_keeps 29 = .ok (.iload_n 3, 1) := by decide +kernel
theorem dX7_keeps_30 : decode cX7_keeps 30 = .ok (.iload 4, 2) := by decide +kernel
theorem dX7_keeps_32 : decode cX7_keeps 32 = .ok (.iadd, 1) := by decide +kernel
theorem dX7_keeps_33 : decode cX7_keeps 33 = .ok (.iaload, 1) := by decide +kernel
theorem dX7_keeps_34 : decode cX7_keeps 34 = .ok (.iastore, 1) := by decide +kernel
theorem dX7_keeps_35 : decode cX7_keeps 35 = .ok (.aload_n 0, 1) := by decide +kernel
theorem dX7_keeps_36 : decode cX7_keeps 36 = .ok (.getfield 46, 3) := by decide +kernel
theorem dX7_keeps_39 : decode cX7_keeps 39 = .ok (.bipush 64, 2) := by decide +kernel
theorem dX7_keeps_41 : decode cX7_keeps 41 = .ok (.iload_n 1, 1) := by decide +kernel
theorem dX7_keeps_42 : decode cX7_keeps 42 = .ok (.imul, 1) := by decide +kernel
theorem dX7_keeps_43 : decode cX7_keeps 43 = .ok (.iload 4, 2) := by decide +kernel
theorem dX7_keeps_45 : decode cX7_keeps 45 = .ok (.iadd, 1) := by decide +kernel
theorem dX7_keeps_46 : decode cX7_keeps 46 = .ok (.aload_n 0, 1) := by decide +kernel
theorem dX7_keeps_47 : decode cX7_keeps 47 = .ok (.getfield 46, 3) := by decide +kernel
theorem dX7_keeps_50 : decode cX7_keeps 50 = .ok (.iload_n 3, 1) := by decide +kernel
theorem dX7_keeps_51 : decode cX7_keeps 51 = .ok (.iload 4, 2) := by decide +kernel
theorem dX7_keeps_53 : decode cX7_keeps 53 = .ok (.iadd, 1) := by decide +kernel
theorem dX7_keeps_54 : decode cX7_keeps 54 = .ok (.iaload, 1) := by decide +kernel
theorem dX7_keeps_55 : decode cX7_keeps 55 = .ok (.iastore, 1) := by decide +kernel
theorem dX7_keeps_56 : decode cX7_keeps 56 = .ok (.aload_n 0, 1) := by decide +kernel
theorem dX7_keeps_57 : decode cX7_keeps 57 = .ok (.getfield 49, 3) := by decide +kernel
theorem dX7_keeps_60 : decode cX7_keeps 60 = .ok (.bipush 64, 2) := by decide +kernel
theorem dX7_keeps_62 : decode cX7_keeps 62 = .ok (.iload_n 1, 1) := by decide +kernel
theorem dX7_keeps_63 : decode cX7_keeps 63 = .ok (.imul, 1) := by decide +kernel
theorem dX7_keeps_64 : decode cX7_keeps 64 = .ok (.iload 4, 2) := by decide +kernel
theorem dX7_keeps_66 : decode cX7_keeps 66 = .ok (.iadd, 1) := by decide +kernel
theorem dX7_keeps_67 : decode cX7_keeps 67 = .ok (.aload_n 0, 1) := by decide +kernel
theorem dX7_keeps_68 : decode cX7_keeps 68 = .ok (.getfield 49, 3) := by decide +kernel
theorem dX7_keeps_71 : decode cX7_keeps 71 = .ok (.iload_n 3, 1) := by decide +kernel
theorem dX7_keeps_72 : decode cX7_keeps 72 = .ok (.iload 4, 2) := by decide +kernel
theorem dX7_keeps_74 : decode cX7_keeps 74 = .ok (.iadd, 1) := by decide +kernel
theorem dX7_keeps_75 : decode cX7_keeps 75 = .ok (.iaload, 1) := by decide +kernel
theorem dX7_keeps_76 : decode cX7_keeps 76 = .ok (.iastore, 1) := by decide +kernel
theorem dX7_keeps_77 : decode cX7_keeps 77 = .ok (.aload_n 0, 1) := by decide +kernel
theorem dX7_keeps_78 : decode cX7_keeps 78 = .ok (.getfield 55, 3) := by decide +kernel
theorem dX7_keeps_81 : decode cX7_keeps 81 = .ok (.bipush 64, 2) := by decide +kernel
theorem dX7_keeps_83 : decode cX7_keeps 83 = .ok (.iload_n 1, 1) := by decide +kernel
theorem dX7_keeps_84 : decode cX7_keeps 84 = .ok (.imul, 1) := by decide +kernel
theorem dX7_keeps_85 : decode cX7_keeps 85 = .ok (.iload 4, 2) := by decide +kernel
theorem dX7_keeps_87 : decode cX7_keeps 87 = .ok (.iadd, 1) := by decide +kernel
theorem dX7_keeps_88 : decode cX7_keeps 88 = .ok (.aload_n 0, 1) := by decide +kernel
theorem dX7_keeps_89 : decode cX7_keeps 89 = .ok (.getfield 55, 3) := by decide +kernel
theorem dX7_keeps_92 : decode cX7_keeps 92 = .ok (.iload_n 3, 1) := by decide +kernel
theorem dX7_keeps_93 : decode cX7_keeps 93 = .ok (.iload 4, 2) := by decide +kernel
theorem dX7_keeps_95 : decode cX7_keeps 95 = .ok (.iadd, 1) := by decide +kernel
theorem dX7_keeps_96 : decode cX7_keeps 96 = .ok (.iaload, 1) := by decide +kernel
theorem dX7_keeps_97 : decode cX7_keeps 97 = .ok (.iastore, 1) := by decide +kernel
theorem dX7_keeps_98 : decode cX7_keeps 98 = .ok (.aload_n 0, 1) := by decide +kernel
theorem dX7_keeps_99 : decode cX7_keeps 99 = .ok (.getfield 58, 3) := by decide +kernel
theorem dX7_keeps_102 : decode cX7_keeps 102 = .ok (.bipush 64, 2) := by decide +kernel
theorem dX7_keeps_104 : decode cX7_keeps 104 = .ok (.iload_n 1, 1) := by decide +kernel
theorem dX7_keeps_105 : decode cX7_keeps 105 = .ok (.imul, 1) := by decide +kernel
theorem dX7_keeps_106 : decode cX7_keeps 106 = .ok (.iload 4, 2) := by decide +kernel
theorem dX7_keeps_108 : decode cX7_keeps 108 = .ok (.iadd, 1) := by decide +kernel
theorem dX7_keeps_109 : decode cX7_keeps 109 = .ok (.aload_n 0, 1) := by decide +kernel
theorem dX7_keeps_110 : decode cX7_keeps 110 = .ok (.getfield 58, 3) := by decide +kernel
theorem dX7_keeps_113 : decode cX7_keeps 113 = .ok (.iload_n 3, 1) := by decide +kernel
theorem dX7_keeps_114 : decode cX7_keeps 114 = .ok (.iload 4, 2) := by decide +kernel
theorem dX7_keeps_116 : decode cX7_keeps 116 = .ok (.iadd, 1) := by decide +kernel
theorem dX7_keeps_117 : decode cX7_keeps 117 = .ok (.iaload, 1) := by decide +kernel
theorem dX7_keeps_118 : decode cX7_keeps 118 = .ok (.iastore, 1) := by decide +kernel
theorem dX7_keeps_119 : decode cX7_keeps 119 = .ok (.aload_n 0, 1) := by decide +kernel
theorem dX7_keeps_120 : decode cX7_keeps 120 = .ok (.getfield 61, 3) := by decide +kernel
theorem dX7_keeps_123 : decode cX7_keeps 123 = .ok (.bipush 64, 2) := by decide +kernel
theorem dX7_keeps_125 : decode cX7_keeps 125 = .ok (.iload_n 1, 1) := by decide +kernel
theorem dX7_keeps_126 : decode cX7_keeps 126 = .ok (.imul, 1) := by decide +kernel
theorem dX7_keeps_127 : decode cX7_keeps 127 = .ok (.iload 4, 2) := by decide +kernel
theorem dX7_keeps_129 : decode cX7_keeps 129 = .ok (.iadd, 1) := by decide +kernel
theorem dX7_keeps_130 : decode cX7_keeps 130 = .ok (.aload_n 0, 1) := by decide +kernel
theorem dX7_keeps_131 : decode cX7_keeps 131 = .ok (.getfield 61, 3) := by decide +kernel
theorem dX7_keeps_134 : decode cX7_keeps 134 = .ok (.iload_n 3, 1) := by decide +kernel
theorem dX7_keeps_135 : decode cX7_keeps 135 = .ok (.iload 4, 2) := by decide +kernel
theorem dX7_keeps_137 : decode cX7_keeps 137 = .ok (.iadd, 1) := by decide +kernel
theorem dX7_keeps_138 : decode cX7_keeps 138 = .ok (.iaload, 1) := by decide +kernel
theorem dX7_keeps_139 : decode cX7_keeps 139 = .ok (.iastore, 1) := by decide +kernel
theorem dX7_keeps_140 : decode cX7_keeps 140 = .ok (.iinc 4 1, 3) := by decide +kernel
theorem dX7_keeps_143 : decode cX7_keeps 143 = .ok (.goto (-136), 3) := by decide +kernel
theorem dX7_keeps_146 : decode cX7_keeps 146 = .ok (.aload_n 0, 1) := by decide +kernel
theorem dX7_keeps_147 : decode cX7_keeps 147 = .ok (.getfield 37, 3) := by decide +kernel
theorem dX7_keeps_150 : decode cX7_keeps 150 = .ok (.iload_n 1, 1) := by decide +kernel
theorem dX7_keeps_151 : decode cX7_keeps 151 = .ok (.aload_n 0, 1) := by decide +kernel
theorem dX7_keeps_152 : decode cX7_keeps 152 = .ok (.getfield 37, 3) := by decide +kernel
theorem dX7_keeps_155 : decode cX7_keeps 155 = .ok (.bipush 8, 2) := by decide +kernel
theorem dX7_keeps_157 : decode cX7_keeps 157 = .ok (.iaload, 1) := by decide +kernel
theorem dX7_keeps_158 : decode cX7_keeps 158 = .ok (.iastore, 1) := by decide +kernel
theorem dX7_keeps_159 : decode cX7_keeps 159 = .ok (.aload_n 0, 1) := by decide +kernel
theorem dX7_keeps_160 : decode cX7_keeps 160 = .ok (.getfield 52, 3) := by decide +kernel
theorem dX7_keeps_163 : decode cX7_keeps 163 = .ok (.iload_n 1, 1) := by decide +kernel
theorem dX7_keeps_164 : decode cX7_keeps 164 = .ok (.aload_n 0, 1) := by decide +kernel
theorem dX7_keeps_165 : decode cX7_keeps 165 = .ok (.getfield 52, 3) := by decide +kernel
theorem dX7_keeps_168 : decode cX7_keeps 168 = .ok (.bipush 8, 2) := by decide +kernel
theorem dX7_keeps_170 : decode cX7_keeps 170 = .ok (.iaload, 1) := by decide +kernel
theorem dX7_keeps_171 : decode cX7_keeps 171 = .ok (.iastore, 1) := by decide +kernel
theorem dX7_keeps_172 : decode cX7_keeps 172 = .ok (.aload_n 0, 1) := by decide +kernel
theorem dX7_keeps_173 : decode cX7_keeps 173 = .ok (.getfield 40, 3) := by decide +kernel
theorem dX7_keeps_176 : decode cX7_keeps 176 = .ok (.iload_n 1, 1) := by decide +kernel
theorem dX7_keeps_177 : decode cX7_keeps 177 = .ok (.iload_n 2, 1) := by decide +kernel
theorem dX7_keeps_178 : decode cX7_keeps 178 = .ok (.iastore, 1) := by decide +kernel
theorem dX7_keeps_179 : decode cX7_keeps 179 = .ok (.return_, 1) := by decide +kernel
set_option maxRecDepth 20000 in
theorem ggX7_model_X7_isIn : GoodIn wsX7_model wsX7_isIn := goodIn_r _ [8] (by decide +kernel) (by decide +kernel)
set_option maxRecDepth 20000 in
theorem gX7_model_X7_isIn : GoodIn wsX7_model (va_wsS RX7 111 yX7_isIn wsX7_isIn) := goodIn_app (goodIn_of _ (by decide +kernel)) ggX7_model_X7_isIn
set_option maxRecDepth 20000 in
theorem ggX7_model_X7_holds : GoodIn wsX7_model wsX7_holds := goodIn_r _ [12, 13, 72, 73, 74, 75, 76, 77, 78, 79, 80, 81, 82, 83, 84, 85, 86, 87, 88, 89, 90, 91, 92, 93, 94, 95, 96, 97, 98, 99, 100, 101, 102, 103, 104, 105, 106, 107, 108] (by decide +kernel) (by decide +kernel)
set_option maxRecDepth 20000 in
theorem gX7_model_X7_holds : GoodIn wsX7_model (wsV RX7 122 RX7 yX7_holds wsX7_holds) := goodIn_app (goodIn_of _ (by decide +kernel)) ggX7_model_X7_holds
set_option maxRecDepth 20000 in
theorem ggX7_model_X7_reads : GoodIn wsX7_model wsX7_reads := goodIn_r _ [17, 3, 18, 4, 19, 20, 21, 22, 2, 23, 24, 25, 7, 26, 27, 28, 29, 30, 31, 32, 33, 34, 35, 36, 37, 38, 5, 6, 8, 39, 40, 41, 42, 43, 44, 45, 46, 47, 48, 49, 50, 51, 52, 53, 54, 55, 56, 57, 58, 59, 60, 61, 62, 63, 64, 65, 66, 72, 73, 74, 75, 76, 77, 78, 79, 80, 81, 82, 83, 84, 85, 86, 87, 88, 89, 90, 91, 92, 93, 94, 95, 96, 97, 98, 99, 100, 101, 102, 103, 104, 105, 106, 107, 108] (by decide +kernel) (by decide +kernel)
set_option maxRecDepth 20000 in
theorem gX7_model_X7_reads : GoodIn wsX7_model (wsV RX7 175 RX7 yX7_reads wsX7_reads) := goodIn_app (goodIn_of _ (by decide +kernel)) ggX7_model_X7_reads
set_option maxRecDepth 20000 in
theorem ggX7_model_X7_keeps : GoodIn wsX7_model wsX7_keeps := goodIn_r _ [70, 47, 48, 49, 58, 60, 61, 4, 19, 71, 72, 73, 74, 75, 76, 77, 78, 79, 80, 81, 82, 83, 84, 85, 86, 87, 88, 89, 90, 91, 92, 93, 94, 95, 96, 97, 98, 99, 100, 101, 102, 103, 104, 105, 106, 107, 108] (by decide +kernel) (by decide +kernel)
set_option maxRecDepth 20000 in
theorem gX7_model_X7_keeps : GoodIn wsX7_model (wsV RX7 178 RX7 yX7_keeps wsX7_keeps) := goodIn_app (goodIn_of _ (by decide +kernel)) ggX7_model_X7_keeps
theorem dX7_model_0 : decode cX7_model 0 = .ok (.aload_n 0, 1) := by decide +kernel
theorem dX7_model_1 : decode cX7_model 1 = .ok (.iload_n 1, 1) := by decide +kernel
theorem dX7_model_2 : decode cX7_model 2 = .ok (.iconst 0, 1) := by decide +kernel
theorem dX7_model_3 : decode cX7_model 3 = .ok (.aload_n 0, 1) := by decide +kernel
theorem dX7_model_4 : decode cX7_model 4 = .ok (.getfield 115, 3) := by decide +kernel
theorem dX7_model_7 : decode cX7_model 7 = .ok (.invokestatic 111, 3) := by decide +kernel
theorem dX7_model_10 : decode cX7_model 10 = .ok (.ifCond .ne 7, 3) := by decide +kernel
theorem dX7_model_13 : decode cX7_model 13 = .ok (.iconst 1, 1) := by decide +kernel
theorem dX7_model_14 : decode cX7_model 14 = .ok (.goto 14, 3) := by decide +kernel
theorem dX7_model_17 : decode cX7_model 17 = .ok (.iload_n 1, 1) := by decide +kernel
theorem dX7_model_18 : decode cX7_model 18 = .ok (.bipush 8, 2) := by decide +kernel
theorem dX7_model_20 : decode cX7_model 20 = .ok (.if_icmp .ne 7, 3) := by decide +kernel
theorem dX7_model_23 : decode cX7_model 23 = .ok (.iconst 2, 1) := by decide +kernel
theorem dX7_model_24 : decode cX7_model 24 = .ok (.goto 4, 3) := by decide +kernel
theorem dX7_model_27 : decode cX7_model 27 = .ok (.iconst 0, 1) := by decide +kernel
theorem dX7_model_28 : decode cX7_model 28 = .ok (.invokevirtual 122, 3) := by decide +kernel
theorem dX7_model_31 : decode cX7_model 31 = .ok (.ifCond .ne 5, 3) := by decide +kernel
theorem dX7_model_34 : decode cX7_model 34 = .ok (.iconst 0, 1) := by decide +kernel
theorem dX7_model_35 : decode cX7_model 35 = .ok (.ireturn, 1) := by decide +kernel
theorem dX7_model_36 : decode cX7_model 36 = .ok (.aload_n 0, 1) := by decide +kernel
theorem dX7_model_37 : decode cX7_model 37 = .ok (.invokevirtual 175, 3) := by decide +kernel
theorem dX7_model_40 : decode cX7_model 40 = .ok (.istore_n 2, 1) := by decide +kernel
theorem dX7_model_41 : decode cX7_model 41 = .ok (.aload_n 0, 1) := by decide +kernel
theorem dX7_model_42 : decode cX7_model 42 = .ok (.iconst 0, 1) := by decide +kernel
theorem dX7_model_43 : decode cX7_model 43 = .ok (.putfield 136, 3) := by decide +kernel
theorem dX7_model_46 : decode cX7_model 46 = .ok (.iload_n 2, 1) := by decide +kernel
theorem dX7_model_47 : decode cX7_model 47 = .ok (.iconst (-1), 1) := by decide +kernel
theorem dX7_model_48 : decode cX7_model 48 = .ok (.if_icmp .ne 10, 3) := by decide +kernel
theorem dX7_model_51 : decode cX7_model 51 = .ok (.iconst (-1), 1) := by decide +kernel
theorem dX7_model_52 : decode cX7_model 52 = .ok (.aload_n 0, 1) := by decide +kernel
theorem dX7_model_53 : decode cX7_model 53 = .ok (.getfield 139, 3) := by decide +kernel
theorem dX7_model_56 : decode cX7_model 56 = .ok (.isub, 1) := by decide +kernel
theorem dX7_model_57 : decode cX7_model 57 = .ok (.ireturn, 1) := by decide +kernel
theorem dX7_model_58 : decode cX7_model 58 = .ok (.aload_n 0, 1) := by decide +kernel
theorem dX7_model_59 : decode cX7_model 59 = .ok (.iload_n 1, 1) := by decide +kernel
theorem dX7_model_60 : decode cX7_model 60 = .ok (.iload_n 2, 1) := by decide +kernel
theorem dX7_model_61 : decode cX7_model 61 = .ok (.invokevirtual 178, 3) := by decide +kernel
theorem dX7_model_64 : decode cX7_model 64 = .ok (.aload_n 0, 1) := by decide +kernel
theorem dX7_model_65 : decode cX7_model 65 = .ok (.dup, 1) := by decide +kernel
theorem dX7_model_66 : decode cX7_model 66 = .ok (.getfield 115, 3) := by decide +kernel
theorem dX7_model_69 : decode cX7_model 69 = .ok (.iload_n 1, 1) := by decide +kernel
theorem dX7_model_70 : decode cX7_model 70 = .ok (.aload_n 0, 1) := by decide +kernel
theorem dX7_model_71 : decode cX7_model 71 = .ok (.getfield 115, 3) := by decide +kernel
theorem dX7_model_74 : decode cX7_model 74 = .ok (.if_icmp .ne 7, 3) := by decide +kernel
theorem dX7_model_77 : decode cX7_model 77 = .ok (.iconst 1, 1) := by decide +kernel
theorem dX7_model_78 : decode cX7_model 78 = .ok (.goto 4, 3) := by decide +kernel
theorem dX7_model_81 : decode cX7_model 81 = .ok (.iconst 0, 1) := by decide +kernel
theorem dX7_model_82 : decode cX7_model 82 = .ok (.iadd, 1) := by decide +kernel
theorem dX7_model_83 : decode cX7_model 83 = .ok (.putfield 115, 3) := by decide +kernel
theorem dX7_model_86 : decode cX7_model 86 = .ok (.aload_n 0, 1) := by decide +kernel
theorem dX7_model_87 : decode cX7_model 87 = .ok (.getfield 37, 3) := by decide +kernel
theorem dX7_model_90 : decode cX7_model 90 = .ok (.iload_n 1, 1) := by decide +kernel
theorem dX7_model_91 : decode cX7_model 91 = .ok (.iaload, 1) := by decide +kernel
theorem dX7_model_92 : decode cX7_model 92 = .ok (.ireturn, 1) := by decide +kernel
theorem dX7_laysExponents_0 : decode cX7_laysExponents 0 = .ok (.iconst 0, 1) := by decide +kernel
theorem dX7_laysExponents_1 : decode cX7_laysExponents 1 = .ok (.istore_n 3, 1) := by decide +kernel
theorem dX7_laysExponents_2 : decode cX7_laysExponents 2 = .ok (.iload_n 3, 1) := by decide +kernel
theorem dX7_laysExponents_3 : decode cX7_laysExponents 3 = .ok (.aload_n 0, 1) := by decide +kernel
theorem dX7_laysExponents_4 : decode cX7_laysExponents 4 = .ok (.getfield 37, 3) := by decide +kernel
theorem dX7_laysExponents_7 : decode cX7_laysExponents 7 = .ok (.iload_n 1, 1) := by decide +kernel
theorem dX7_laysExponents_8 : decode cX7_laysExponents 8 = .ok (.iaload, 1) := by decide +kernel
theorem dX7_laysExponents_9 : decode cX7_laysExponents 9 = .ok (.if_icmp .ge 148, 3) := by decide +kernel
theorem dX7_laysExponents_12 : decode cX7_laysExponents 12 = .ok (.bipush 64, 2) := by decide +kernel
theorem dX7_laysExponents_14 : decode cX7_laysExponents 14 = .ok (.iload_n 1, 1) := by decide +kernel
theorem dX7_laysExponents_15 : decode cX7_laysExponents 15 = .ok (.imul, 1) := by decide +kernel
theorem dX7_laysExponents_16 : decode cX7_laysExponents 16 = .ok (.iload_n 3, 1) := by decide +kernel
theorem dX7_laysExponents_17 : decode cX7_laysExponents 17 = .ok (.iadd, 1) := by decide +kernel
theorem dX7_laysExponents_18 : decode cX7_laysExponents 18 = .ok (.istore 4, 2) := by decide +kernel
theorem dX7_laysExponents_20 : decode cX7_laysExponents 20 = .ok (.aload_n 0, 1) := by decide +kernel
theorem dX7_laysExponents_21 : decode cX7_laysExponents 21 = .ok (.getfield 43, 3) := by decide +kernel
theorem dX7_laysExponents_24 : decode cX7_laysExponents 24 = .ok (.iload 4, 2) := by decide +kernel
theorem dX7_laysExponents_26 : decode cX7_laysExponents 26 = .ok (.iaload, 1) := by decide +kernel
theorem dX7_laysExponents_27 : decode cX7_laysExponents 27 = .ok (.istore 5, 2) := by decide +kernel
theorem dX7_laysExponents_29 : decode cX7_laysExponents 29 = .ok (.iload 5, 2) := by decide +kernel
theorem dX7_laysExponents_31 : decode cX7_laysExponents 31 = .ok (.ifCond .ne 13, 3) := by decide +kernel
theorem dX7_laysExponents_34 : decode cX7_laysExponents 34 = .ok (.aload_n 0, 1) := by decide +kernel
theorem dX7_laysExponents_35 : decode cX7_laysExponents 35 = .ok (.getfield 86, 3) := by decide +kernel
theorem dX7_laysExponents_38 : decode cX7_laysExponents 38 = .ok (.iload_n 3, 1) := by decide +kernel
theorem dX7_laysExponents_39 : decode cX7_laysExponents 39 = .ok (.iconst 0, 1) := by decide +kernel
theorem dX7_laysExponents_40 : decode cX7_laysExponents 40 = .ok (.iastore, 1) := by decide +kernel
theorem dX7_laysExponents_41 : decode cX7_laysExponents 41 = .ok (.goto 110, 3) := by decide +kernel
theorem dX7_laysExponents_44 : decode cX7_laysExponents 44 = .ok (.iload 5, 2) := by decide +kernel
theorem dX7_laysExponents_46 : decode cX7_laysExponents 46 = .ok (.iconst 1, 1) := by decide +kernel
theorem dX7_laysExponents_47 : decode cX7_laysExponents 47 = .ok (.if_icmp .ne 28, 3) := by decide +kernel
theorem dX7_laysExponents_50 : decode cX7_laysExponents 50 = .ok (.aload_n 0, 1) := by decide +kernel
theorem dX7_laysExponents_51 : decode cX7_laysExponents 51 = .ok (.getfield 86, 3) := by decide +kernel
theorem dX7_laysExponents_54 : decode cX7_laysExponents 54 = .ok (.iload_n 3, 1) := by decide +kernel
theorem dX7_laysExponents_55 : decode cX7_laysExponents 55 = .ok (.aload_n 0, 1) := by decide +kernel
theorem dX7_laysExponents_56 : decode cX7_laysExponents 56 = .ok (.getfield 13, 3) := by decide +kernel
theorem dX7_laysExponents_59 : decode cX7_laysExponents 59 = .ok (.iconst 2, 1) := by decide +kernel
theorem dX7_laysExponents_60 : decode cX7_laysExponents 60 = .ok (.aload_n 0, 1) := by decide +kernel
theorem dX7_laysExponents_61 : decode cX7_laysExponents 61 = .ok (.getfield 46, 3) := by decide +kernel
theorem dX7_laysExponents_64 : decode cX7_laysExponents 64 = .ok (.iload 4, 2) := by decide +kernel
theorem dX7_laysExponents_66 : decode cX7_laysExponents 66 = .ok (.iaload, 1) := by decide +kernel
theorem dX7_laysExponents_67 : decode cX7_laysExponents 67 = .ok (.imul, 1) := by decide +kernel
theorem dX7_laysExponents_68 : decode cX7_laysExponents 68 = .ok (.iload_n 2, 1) := by decide +kernel
theorem dX7_laysExponents_69 : decode cX7_laysExponents 69 = .ok (.iadd, 1) := by decide +kernel
theorem dX7_laysExponents_70 : decode cX7_laysExponents 70 = .ok (.iaload, 1) := by decide +kernel
theorem dX7_laysExponents_71 : decode cX7_laysExponents 71 = .ok (.iastore, 1) := by decide +kernel
theorem dX7_laysExponents_72 : decode cX7_laysExponents 72 = .ok (.goto 79, 3) := by decide +kernel
theorem dX7_laysExponents_75 : decode cX7_laysExponents 75 = .ok (.iload 5, 2) := by decide +kernel
theorem dX7_laysExponents_77 : decode cX7_laysExponents 77 = .ok (.iconst 4, 1) := by decide +kernel
theorem dX7_laysExponents_78 : decode cX7_laysExponents 78 = .ok (.if_icmp .ne 37, 3) := by decide +kernel
theorem dX7_laysExponents_81 : decode cX7_laysExponents 81 = .ok (.aload_n 0, 1) := by decide +kernel
theorem dX7_laysExponents_82 : decode cX7_laysExponents 82 = .ok (.getfield 86, 3) := by decide +kernel
theorem dX7_laysExponents_85 : decode cX7_laysExponents 85 = .ok (.iload_n 3, 1) := by decide +kernel
theorem dX7_laysExponents_86 : decode cX7_laysExponents 86 = .ok (.aload_n 0, 1) := by decide +kernel
theorem dX7_laysExponents_87 : decode cX7_laysExponents 87 = .ok (.getfield 86, 3) := by decide +kernel
theorem dX7_laysExponents_90 : decode cX7_laysExponents 90 = .ok (.aload_n 0, 1) := by decide +kernel
theorem dX7_laysExponents_91 : decode cX7_laysExponents 91 = .ok (.getfield 46, 3) := by decide +kernel
theorem dX7_laysExponents_94 : decode cX7_laysExponents 94 = .ok (.iload 4, 2) := by decide +kernel
theorem dX7_laysExponents_96 : decode cX7_laysExponents 96 = .ok (.iaload, 1) := by decide +kernel
theorem dX7_laysExponents_97 : decode cX7_laysExponents 97 = .ok (.iaload, 1) := by decide +kernel
theorem dX7_laysExponents_98 : decode cX7_laysExponents 98 = .ok (.aload_n 0, 1) := by decide +kernel
theorem dX7_laysExponents_99 : decode cX7_laysExponents 99 = .ok (.getfield 86, 3) := by decide +kernel
theorem dX7_laysExponents_102 : decode cX7_laysExponents 102 = .ok (.aload_n 0, 1) := by decide +kernel
theorem dX7_laysExponents_103 : decode cX7_laysExponents 103 = .ok (.getfield 49, 3) := by decide +kernel
theorem dX7_laysExponents_106 : decode cX7_laysExponents 106 = .ok (.iload 4, 2) := by decide +kernel
theorem dX7_laysExponents_108 : decode cX7_laysExponents 108 = .ok (.iaload, 1) := by decide +kernel
theorem dX7_laysExponents_109 : decode cX7_laysExponents 109 = .ok (.iaload, 1) := by decide +kernel
theorem dX7_laysExponents_110 : decode cX7_laysExponents 110 = .ok (.iadd, 1) := by decide +kernel
theorem dX7_laysExponents_111 : decode cX7_laysExponents 111 = .ok (.iastore, 1) := by decide +kernel
theorem dX7_laysExponents_112 : decode cX7_laysExponents 112 = .ok (.goto 39, 3) := by decide +kernel
theorem dX7_laysExponents_115 : decode cX7_laysExponents 115 = .ok (.aload_n 0, 1) := by decide +kernel
theorem dX7_laysExponents_116 : decode cX7_laysExponents 116 = .ok (.getfield 86, 3) := by decide +kernel
theorem dX7_laysExponents_119 : decode cX7_laysExponents 119 = .ok (.iload_n 3, 1) := by decide +kernel
theorem dX7_laysExponents_120 : decode cX7_laysExponents 120 = .ok (.aload_n 0, 1) := by decide +kernel
theorem dX7_laysExponents_121 : decode cX7_laysExponents 121 = .ok (.getfield 86, 3) := by decide +kernel
theorem dX7_laysExponents_124 : decode cX7_laysExponents 124 = .ok (.aload_n 0, 1) := by decide +kernel
theorem dX7_laysExponents_125 : decode cX7_laysExponents 125 = .ok (.getfield 46, 3) := by decide +kernel
theorem dX7_laysExponents_128 : decode cX7_laysExponents 128 = .ok (.iload 4, 2) := by decide +kernel
theorem dX7_laysExponents_130 : decode cX7_laysExponents 130 = .ok (.iaload, 1) := by decide +kernel
theorem dX7_laysExponents_131 : decode cX7_laysExponents 131 = .ok (.iaload, 1) := by decide +kernel
theorem dX7_laysExponents_132 : decode cX7_laysExponents 132 = .ok (.iload 5, 2) := by decide +kernel
theorem dX7_laysExponents_134 : decode cX7_laysExponents 134 = .ok (.iconst 5, 1) := by decide +kernel
theorem dX7_laysExponents_135 : decode cX7_laysExponents 135 = .ok (.if_icmp .ne 13, 3) := by decide +kernel
theorem dX7_laysExponents_138 : decode cX7_laysExponents 138 = .ok (.aload_n 0, 1) := by decide +kernel
theorem dX7_laysExponents_139 : decode cX7_laysExponents 139 = .ok (.getfield 49, 3) := by decide +kernel
theorem dX7_laysExponents_142 : decode cX7_laysExponents 142 = .ok (.iload 4, 2) := by decide +kernel
theorem dX7_laysExponents_144 : decode cX7_laysExponents 144 = .ok (.iaload, 1) := by decide +kernel
theorem dX7_laysExponents_145 : decode cX7_laysExponents 145 = .ok (.goto 4, 3) := by decide +kernel
theorem dX7_laysExponents_148 : decode cX7_laysExponents 148 = .ok (.iconst 1, 1) := by decide +kernel
theorem dX7_laysExponents_149 : decode cX7_laysExponents 149 = .ok (.imul, 1) := by decide +kernel
theorem dX7_laysExponents_150 : decode cX7_laysExponents 150 = .ok (.iastore, 1) := by decide +kernel
theorem dX7_laysExponents_151 : decode cX7_laysExponents 151 = .ok (.iinc 3 1, 3) := by decide +kernel
theorem dX7_laysExponents_154 : decode cX7_laysExponents 154 = .ok (.goto (-152), 3) := by decide +kernel
theorem dX7_laysExponents_157 : decode cX7_laysExponents 157 = .ok (.return_, 1) := by decide +kernel
set_option maxRecDepth 20000 in
theorem ggX7_fault_X7_laysExponents : GoodIn wsX7_fault wsX7_laysExponents := goodIn_r _ [10, 11, 12, 2, 13, 14, 15, 16, 17, 18, 19, 20, 21, 22, 23, 24, 25, 26, 27, 28, 29, 30, 31, 32, 33, 34, 35, 36, 37, 38, 39, 40, 41, 42, 43, 44, 45, 46, 47, 48, 49, 50, 51, 52] (by decide +kernel) (by decide +kernel)
set_option maxRecDepth 20000 in
theorem gX7_fault_X7_laysExponents : GoodIn wsX7_fault (wsV RX7 182 RX7 yX7_laysExponents wsX7_laysExponents) := goodIn_app (goodIn_of _ (by decide +kernel)) ggX7_fault_X7_laysExponents
theorem dX7_fault_0 : decode cX7_fault 0 = .ok (.iconst (-1), 1) := by decide +kernel
theorem dX7_fault_1 : decode cX7_fault 1 = .ok (.istore_n 2, 1) := by decide +kernel
theorem dX7_fault_2 : decode cX7_fault 2 = .ok (.iconst 0, 1) := by decide +kernel
theorem dX7_fault_3 : decode cX7_fault 3 = .ok (.istore_n 3, 1) := by decide +kernel
theorem dX7_fault_4 : decode cX7_fault 4 = .ok (.iload_n 3, 1) := by decide +kernel
theorem dX7_fault_5 : decode cX7_fault 5 = .ok (.iconst 2, 1) := by decide +kernel
theorem dX7_fault_6 : decode cX7_fault 6 = .ok (.if_icmp .ge 111, 3) := by decide +kernel
theorem dX7_fault_9 : decode cX7_fault 9 = .ok (.aload_n 0, 1) := by decide +kernel
theorem dX7_fault_10 : decode cX7_fault 10 = .ok (.iload_n 1, 1) := by decide +kernel
theorem dX7_fault_11 : decode cX7_fault 11 = .ok (.iload_n 3, 1) := by decide +kernel
theorem dX7_fault_12 : decode cX7_fault 12 = .ok (.invokevirtual 182, 3) := by decide +kernel
theorem dX7_fault_15 : decode cX7_fault 15 = .ok (.iconst 0, 1) := by decide +kernel
theorem dX7_fault_16 : decode cX7_fault 16 = .ok (.istore 4, 2) := by decide +kernel
theorem dX7_fault_18 : decode cX7_fault 18 = .ok (.iload 4, 2) := by decide +kernel
theorem dX7_fault_20 : decode cX7_fault 20 = .ok (.aload_n 0, 1) := by decide +kernel
theorem dX7_fault_21 : decode cX7_fault 21 = .ok (.getfield 52, 3) := by decide +kernel
theorem dX7_fault_24 : decode cX7_fault 24 = .ok (.iload_n 1, 1) := by decide +kernel
theorem dX7_fault_25 : decode cX7_fault 25 = .ok (.iaload, 1) := by decide +kernel
theorem dX7_fault_26 : decode cX7_fault 26 = .ok (.if_icmp .ge 85, 3) := by decide +kernel
theorem dX7_fault_29 : decode cX7_fault 29 = .ok (.bipush 64, 2) := by decide +kernel
theorem dX7_fault_31 : decode cX7_fault 31 = .ok (.iload_n 1, 1) := by decide +kernel
theorem dX7_fault_32 : decode cX7_fault 32 = .ok (.imul, 1) := by decide +kernel
theorem dX7_fault_33 : decode cX7_fault 33 = .ok (.iload 4, 2) := by decide +kernel
theorem dX7_fault_35 : decode cX7_fault 35 = .ok (.iadd, 1) := by decide +kernel
theorem dX7_fault_36 : decode cX7_fault 36 = .ok (.istore 5, 2) := by decide +kernel
theorem dX7_fault_38 : decode cX7_fault 38 = .ok (.aload_n 0, 1) := by decide +kernel
theorem dX7_fault_39 : decode cX7_fault 39 = .ok (.getfield 86, 3) := by decide +kernel
theorem dX7_fault_42 : decode cX7_fault 42 = .ok (.aload_n 0, 1) := by decide +kernel
theorem dX7_fault_43 : decode cX7_fault 43 = .ok (.getfield 58, 3) := by decide +kernel
theorem dX7_fault_46 : decode cX7_fault 46 = .ok (.iload 5, 2) := by decide +kernel
theorem dX7_fault_48 : decode cX7_fault 48 = .ok (.iaload, 1) := by decide +kernel
theorem dX7_fault_49 : decode cX7_fault 49 = .ok (.iaload, 1) := by decide +kernel
theorem dX7_fault_50 : decode cX7_fault 50 = .ok (.aload_n 0, 1) := by decide +kernel
theorem dX7_fault_51 : decode cX7_fault 51 = .ok (.getfield 86, 3) := by decide +kernel
theorem dX7_fault_54 : decode cX7_fault 54 = .ok (.aload_n 0, 1) := by decide +kernel
theorem dX7_fault_55 : decode cX7_fault 55 = .ok (.getfield 61, 3) := by decide +kernel
theorem dX7_fault_58 : decode cX7_fault 58 = .ok (.iload 5, 2) := by decide +kernel
theorem dX7_fault_60 : decode cX7_fault 60 = .ok (.iaload, 1) := by decide +kernel
theorem dX7_fault_61 : decode cX7_fault 61 = .ok (.iaload, 1) := by decide +kernel
theorem dX7_fault_62 : decode cX7_fault 62 = .ok (.if_icmp .eq 23, 3) := by decide +kernel
theorem dX7_fault_65 : decode cX7_fault 65 = .ok (.iload_n 2, 1) := by decide +kernel
theorem dX7_fault_66 : decode cX7_fault 66 = .ok (.iconst (-1), 1) := by decide +kernel
theorem dX7_fault_67 : decode cX7_fault 67 = .ok (.if_icmp .eq 14, 3) := by decide +kernel
theorem dX7_fault_70 : decode cX7_fault 70 = .ok (.aload_n 0, 1) := by decide +kernel
theorem dX7_fault_71 : decode cX7_fault 71 = .ok (.getfield 55, 3) := by decide +kernel
theorem dX7_fault_74 : decode cX7_fault 74 = .ok (.iload 5, 2) := by decide +kernel
theorem dX7_fault_76 : decode cX7_fault 76 = .ok (.iaload, 1) := by decide +kernel
theorem dX7_fault_77 : decode cX7_fault 77 = .ok (.iload_n 2, 1) := by decide +kernel
theorem dX7_fault_78 : decode cX7_fault 78 = .ok (.if_icmp .ge 7, 3) := by decide +kernel
theorem dX7_fault_81 : decode cX7_fault 81 = .ok (.iconst 1, 1) := by decide +kernel
theorem dX7_fault_82 : decode cX7_fault 82 = .ok (.goto 4, 3) := by decide +kernel
theorem dX7_fault_85 : decode cX7_fault 85 = .ok (.iconst 0, 1) := by decide +kernel
theorem dX7_fault_86 : decode cX7_fault 86 = .ok (.istore 6, 2) := by decide +kernel
theorem dX7_fault_88 : decode cX7_fault 88 = .ok (.iload 6, 2) := by decide +kernel
theorem dX7_fault_90 : decode cX7_fault 90 = .ok (.ifCond .eq 13, 3) := by decide +kernel
theorem dX7_fault_93 : decode cX7_fault 93 = .ok (.aload_n 0, 1) := by decide +kernel
theorem dX7_fault_94 : decode cX7_fault 94 = .ok (.getfield 55, 3) := by decide +kernel
theorem dX7_fault_97 : decode cX7_fault 97 = .ok (.iload 5, 2) := by decide +kernel
theorem dX7_fault_99 : decode cX7_fault 99 = .ok (.iaload, 1) := by decide +kernel
theorem dX7_fault_100 : decode cX7_fault 100 = .ok (.goto 4, 3) := by decide +kernel
theorem dX7_fault_103 : decode cX7_fault 103 = .ok (.iload_n 2, 1) := by decide +kernel
theorem dX7_fault_104 : decode cX7_fault 104 = .ok (.istore_n 2, 1) := by decide +kernel
theorem dX7_fault_105 : decode cX7_fault 105 = .ok (.iinc 4 1, 3) := by decide +kernel
theorem dX7_fault_108 : decode cX7_fault 108 = .ok (.goto (-90), 3) := by decide +kernel
theorem dX7_fault_111 : decode cX7_fault 111 = .ok (.iinc 3 1, 3) := by decide +kernel
theorem dX7_fault_114 : decode cX7_fault 114 = .ok (.goto (-110), 3) := by decide +kernel
theorem dX7_fault_117 : decode cX7_fault 117 = .ok (.iload_n 2, 1) := by decide +kernel
theorem dX7_fault_118 : decode cX7_fault 118 = .ok (.ireturn, 1) := by decide +kernel
set_option maxRecDepth 20000 in
theorem ggX7_disagrees_X7_isModel : GoodIn wsX7_disagrees wsX7_isModel := goodIn_r _ [5, 6, 7, 8, 4, 9, 33, 34, 35, 36, 37, 38, 39, 40, 41, 42, 43, 44, 45, 46, 47, 48, 49, 50, 51, 52, 53, 54, 55, 56, 57, 58, 59, 60, 61, 62, 63, 64, 65, 66, 67, 68, 69] (by decide +kernel) (by decide +kernel)
set_option maxRecDepth 20000 in
theorem gX7_disagrees_X7_isModel : GoodIn wsX7_disagrees (wsV RX7 185 RX7 yX7_isModel wsX7_isModel) := goodIn_app (goodIn_of _ (by decide +kernel)) ggX7_disagrees_X7_isModel
set_option maxRecDepth 20000 in
theorem ggX7_disagrees_X7_holds : GoodIn wsX7_disagrees wsX7_holds := goodIn_r _ [13, 14, 33, 34, 35, 36, 37, 38, 39, 40, 41, 42, 43, 44, 45, 46, 47, 48, 49, 50, 51, 52, 53, 54, 55, 56, 57, 58, 59, 60, 61, 62, 63, 64, 65, 66, 67, 68, 69] (by decide +kernel) (by decide +kernel)
set_option maxRecDepth 20000 in
theorem gX7_disagrees_X7_holds : GoodIn wsX7_disagrees (wsV RX7 122 RX7 yX7_holds wsX7_holds) := goodIn_app (goodIn_of _ (by decide +kernel)) ggX7_disagrees_X7_holds
set_option maxRecDepth 20000 in
theorem ggX7_disagrees_X7_fault : GoodIn wsX7_disagrees wsX7_fault := goodIn_r _ [18, 19, 20, 21, 22, 23, 24, 25, 26, 4, 27, 28, 29, 30, 31, 32, 33, 34, 35, 36, 37, 38, 39, 40, 41, 42, 43, 44, 45, 46, 47, 48, 49, 50, 51, 52, 53, 54, 55, 56, 57, 58, 59, 60, 61, 62, 63, 64, 65, 66, 67, 68, 69] (by decide +kernel) (by decide +kernel)
set_option maxRecDepth 20000 in
theorem gX7_disagrees_X7_fault : GoodIn wsX7_disagrees (wsV RX7 129 RX7 yX7_fault wsX7_fault) := goodIn_app (goodIn_of _ (by decide +kernel)) ggX7_disagrees_X7_fault
theorem dX7_disagrees_0 : decode cX7_disagrees 0 = .ok (.aload_n 0, 1) := by decide +kernel
theorem dX7_disagrees_1 : decode cX7_disagrees 1 = .ok (.aload_n 0, 1) := by decide +kernel
theorem dX7_disagrees_2 : decode cX7_disagrees 2 = .ok (.iload_n 1, 1) := by decide +kernel
theorem dX7_disagrees_3 : decode cX7_disagrees 3 = .ok (.invokevirtual 185, 3) := by decide +kernel
theorem dX7_disagrees_6 : decode cX7_disagrees 6 = .ok (.ifCond .eq 7, 3) := by decide +kernel
theorem dX7_disagrees_9 : decode cX7_disagrees 9 = .ok (.iconst 0, 1) := by decide +kernel
theorem dX7_disagrees_10 : decode cX7_disagrees 10 = .ok (.goto 4, 3) := by decide +kernel
theorem dX7_disagrees_13 : decode cX7_disagrees 13 = .ok (.iconst 1, 1) := by decide +kernel
theorem dX7_disagrees_14 : decode cX7_disagrees 14 = .ok (.invokevirtual 122, 3) := by decide +kernel
theorem dX7_disagrees_17 : decode cX7_disagrees 17 = .ok (.ifCond .eq 11, 3) := by decide +kernel
theorem dX7_disagrees_20 : decode cX7_disagrees 20 = .ok (.aload_n 0, 1) := by decide +kernel
theorem dX7_disagrees_21 : decode cX7_disagrees 21 = .ok (.iload_n 1, 1) := by decide +kernel
theorem dX7_disagrees_22 : decode cX7_disagrees 22 = .ok (.invokevirtual 129, 3) := by decide +kernel
theorem dX7_disagrees_25 : decode cX7_disagrees 25 = .ok (.goto 4, 3) := by decide +kernel
theorem dX7_disagrees_28 : decode cX7_disagrees 28 = .ok (.iconst 0, 1) := by decide +kernel
theorem dX7_disagrees_29 : decode cX7_disagrees 29 = .ok (.ireturn, 1) := by decide +kernel
set_option maxRecDepth 20000 in
theorem ggX7_unitOf_X7_isModel : GoodIn wsX7_unitOf wsX7_isModel := goodIn_r _ [7, 8, 9, 10, 6, 11, 26, 27, 28, 29, 30, 31, 32, 33, 34, 35, 36, 37, 38, 39, 40, 41, 42, 43, 44, 45, 46, 47, 48, 49, 50, 51, 52, 53, 54, 55, 56, 57, 58, 59, 60, 61, 62] (by decide +kernel) (by decide +kernel)
set_option maxRecDepth 20000 in
theorem gX7_unitOf_X7_isModel : GoodIn wsX7_unitOf (wsV RX7 185 RX7 yX7_isModel wsX7_isModel) := goodIn_app (goodIn_of _ (by decide +kernel)) ggX7_unitOf_X7_isModel
set_option maxRecDepth 20000 in
theorem ggX7_unitOf_X7_holds : GoodIn wsX7_unitOf wsX7_holds := goodIn_r _ [15, 16, 26, 27, 28, 29, 30, 31, 32, 33, 34, 35, 36, 37, 38, 39, 40, 41, 42, 43, 44, 45, 46, 47, 48, 49, 50, 51, 52, 53, 54, 55, 56, 57, 58, 59, 60, 61, 62] (by decide +kernel) (by decide +kernel)
set_option maxRecDepth 20000 in
theorem gX7_unitOf_X7_holds : GoodIn wsX7_unitOf (wsV RX7 122 RX7 yX7_holds wsX7_holds) := goodIn_app (goodIn_of _ (by decide +kernel)) ggX7_unitOf_X7_holds
set_option maxRecDepth 20000 in
theorem ggX7_unitOf_X7_laysExponents : GoodIn wsX7_unitOf wsX7_laysExponents := goodIn_r _ [20, 21, 22, 1, 23, 24, 25, 26, 27, 28, 29, 30, 31, 32, 33, 34, 35, 36, 37, 38, 39, 40, 41, 42, 43, 44, 45, 46, 47, 48, 49, 50, 51, 52, 53, 54, 55, 56, 57, 58, 59, 60, 61, 62] (by decide +kernel) (by decide +kernel)
set_option maxRecDepth 20000 in
theorem gX7_unitOf_X7_laysExponents : GoodIn wsX7_unitOf (wsV RX7 182 RX7 yX7_laysExponents wsX7_laysExponents) := goodIn_app (goodIn_of _ (by decide +kernel)) ggX7_unitOf_X7_laysExponents
theorem dX7_unitOf_0 : decode cX7_unitOf 0 = .ok (.aload_n 0, 1) := by decide +kernel
theorem dX7_unitOf_1 : decode cX7_unitOf 1 = .ok (.aload_n 0, 1) := by decide +kernel
theorem dX7_unitOf_2 : decode cX7_unitOf 2 = .ok (.iload_n 1, 1) := by decide +kernel
theorem dX7_unitOf_3 : decode cX7_unitOf 3 = .ok (.invokevirtual 185, 3) := by decide +kernel
theorem dX7_unitOf_6 : decode cX7_unitOf 6 = .ok (.ifCond .eq 7, 3) := by decide +kernel
theorem dX7_unitOf_9 : decode cX7_unitOf 9 = .ok (.iconst 0, 1) := by decide +kernel
theorem dX7_unitOf_10 : decode cX7_unitOf 10 = .ok (.goto 4, 3) := by decide +kernel
theorem dX7_unitOf_13 : decode cX7_unitOf 13 = .ok (.iconst 1, 1) := by decide +kernel
theorem dX7_unitOf_14 : decode cX7_unitOf 14 = .ok (.invokevirtual 122, 3) := by decide +kernel
theorem dX7_unitOf_17 : decode cX7_unitOf 17 = .ok (.ifCond .ne 5, 3) := by decide +kernel
theorem dX7_unitOf_20 : decode cX7_unitOf 20 = .ok (.iconst 0, 1) := by decide +kernel
theorem dX7_unitOf_21 : decode cX7_unitOf 21 = .ok (.ireturn, 1) := by decide +kernel
theorem dX7_unitOf_22 : decode cX7_unitOf 22 = .ok (.aload_n 0, 1) := by decide +kernel
theorem dX7_unitOf_23 : decode cX7_unitOf 23 = .ok (.iload_n 1, 1) := by decide +kernel
theorem dX7_unitOf_24 : decode cX7_unitOf 24 = .ok (.iload_n 2, 1) := by decide +kernel
theorem dX7_unitOf_25 : decode cX7_unitOf 25 = .ok (.ifCond .eq 7, 3) := by decide +kernel
theorem dX7_unitOf_28 : decode cX7_unitOf 28 = .ok (.iconst 1, 1) := by decide +kernel
theorem dX7_unitOf_29 : decode cX7_unitOf 29 = .ok (.goto 4, 3) := by decide +kernel
theorem dX7_unitOf_32 : decode cX7_unitOf 32 = .ok (.iconst 0, 1) := by decide +kernel
theorem dX7_unitOf_33 : decode cX7_unitOf 33 = .ok (.invokevirtual 182, 3) := by decide +kernel
theorem dX7_unitOf_36 : decode cX7_unitOf 36 = .ok (.aload_n 0, 1) := by decide +kernel
theorem dX7_unitOf_37 : decode cX7_unitOf 37 = .ok (.getfield 86, 3) := by decide +kernel
theorem dX7_unitOf_40 : decode cX7_unitOf 40 = .ok (.aload_n 0, 1) := by decide +kernel
theorem dX7_unitOf_41 : decode cX7_unitOf 41 = .ok (.getfield 40, 3) := by decide +kernel
theorem dX7_unitOf_44 : decode cX7_unitOf 44 = .ok (.iload_n 1, 1) := by decide +kernel
theorem dX7_unitOf_45 : decode cX7_unitOf 45 = .ok (.iaload, 1) := by decide +kernel
theorem dX7_unitOf_46 : decode cX7_unitOf 46 = .ok (.iaload, 1) := by decide +kernel
theorem dX7_unitOf_47 : decode cX7_unitOf 47 = .ok (.ireturn, 1) := by decide +kernel
theorem dX7_power__0 : decode cX7_power_ 0 = .ok (.lconst 1, 1) := by decide +kernel
theorem dX7_power__1 : decode cX7_power_ 1 = .ok (.lstore_n 3, 1) := by decide +kernel
theorem dX7_power__2 : decode cX7_power_ 2 = .ok (.iconst 0, 1) := by decide +kernel
theorem dX7_power__3 : decode cX7_power_ 3 = .ok (.istore 5, 2) := by decide +kernel
theorem dX7_power__5 : decode cX7_power_ 5 = .ok (.iload 5, 2) := by decide +kernel
theorem dX7_power__7 : decode cX7_power_ 7 = .ok (.iload_n 2, 1) := by decide +kernel
theorem dX7_power__8 : decode cX7_power_ 8 = .ok (.if_icmp .ge 13, 3) := by decide +kernel
theorem dX7_power__11 : decode cX7_power_ 11 = .ok (.lload_n 3, 1) := by decide +kernel
theorem dX7_power__12 : decode cX7_power_ 12 = .ok (.lload_n 0, 1) := by decide +kernel
theorem dX7_power__13 : decode cX7_power_ 13 = .ok (.lmul, 1) := by decide +kernel
theorem dX7_power__14 : decode cX7_power_ 14 = .ok (.lstore_n 3, 1) := by decide +kernel
theorem dX7_power__15 : decode cX7_power_ 15 = .ok (.iinc 5 1, 3) := by decide +kernel
theorem dX7_power__18 : decode cX7_power_ 18 = .ok (.goto (-13), 3) := by decide +kernel
theorem dX7_power__21 : decode cX7_power_ 21 = .ok (.lload_n 3, 1) := by decide +kernel
theorem dX7_power__22 : decode cX7_power_ 22 = .ok (.lreturn, 1) := by decide +kernel
set_option maxRecDepth 20000 in
theorem ggX7_values_X7_power_ : GoodIn wsX7_values wsX7_power_ := goodIn_r _ [12] (by decide +kernel) (by decide +kernel)
set_option maxRecDepth 20000 in
theorem gX7_values_X7_power_ : GoodIn wsX7_values (va_wsS RX7 188 yX7_power_ wsX7_power_) := goodIn_app (goodIn_of _ (by decide +kernel)) ggX7_values_X7_power_
theorem dX7_values_0 : decode cX7_values 0 = .ok (.iconst 0, 1) := by decide +kernel
theorem dX7_values_1 : decode cX7_values 1 = .ok (.istore_n 3, 1) := by decide +kernel
theorem dX7_values_2 : decode cX7_values 2 = .ok (.iload_n 3, 1) := by decide +kernel
theorem dX7_values_3 : decode cX7_values 3 = .ok (.aload_n 0, 1) := by decide +kernel
theorem dX7_values_4 : decode cX7_values 4 = .ok (.getfield 37, 3) := by decide +kernel
theorem dX7_values_7 : decode cX7_values 7 = .ok (.iload_n 1, 1) := by decide +kernel
theorem dX7_values_8 : decode cX7_values 8 = .ok (.iaload, 1) := by decide +kernel
theorem dX7_values_9 : decode cX7_values 9 = .ok (.if_icmp .ge 212, 3) := by decide +kernel
theorem dX7_values_12 : decode cX7_values 12 = .ok (.bipush 64, 2) := by decide +kernel
theorem dX7_values_14 : decode cX7_values 14 = .ok (.iload_n 1, 1) := by decide +kernel
theorem dX7_values_15 : decode cX7_values 15 = .ok (.imul, 1) := by decide +kernel
theorem dX7_values_16 : decode cX7_values 16 = .ok (.iload_n 3, 1) := by decide +kernel
theorem dX7_values_17 : decode cX7_values 17 = .ok (.iadd, 1) := by decide +kernel
theorem dX7_values_18 : decode cX7_values 18 = .ok (.istore 4, 2) := by decide +kernel
theorem dX7_values_20 : decode cX7_values 20 = .ok (.aload_n 0, 1) := by decide +kernel
theorem dX7_values_21 : decode cX7_values 21 = .ok (.getfield 43, 3) := by decide +kernel
theorem dX7_values_24 : decode cX7_values 24 = .ok (.iload 4, 2) := by decide +kernel
theorem dX7_values_26 : decode cX7_values 26 = .ok (.iaload, 1) := by decide +kernel
theorem dX7_values_27 : decode cX7_values 27 = .ok (.istore 5, 2) := by decide +kernel
theorem dX7_values_29 : decode cX7_values 29 = .ok (.iload 5, 2) := by decide +kernel
theorem dX7_values_31 : decode cX7_values 31 = .ok (.ifCond .eq 9, 3) := by decide +kernel
theorem dX7_values_34 : decode cX7_values 34 = .ok (.iload 5, 2) := by decide +kernel
theorem dX7_values_36 : decode cX7_values 36 = .ok (.iconst 1, 1) := by decide +kernel
theorem dX7_values_37 : decode cX7_values 37 = .ok (.if_icmp .ne 61, 3) := by decide +kernel
theorem dX7_values_40 : decode cX7_values 40 = .ok (.aload_n 0, 1) := by decide +kernel
theorem dX7_values_41 : decode cX7_values 41 = .ok (.getfield 79, 3) := by decide +kernel
theorem dX7_values_44 : decode cX7_values 44 = .ok (.iload_n 3, 1) := by decide +kernel
theorem dX7_values_45 : decode cX7_values 45 = .ok (.iload 5, 2) := by decide +kernel
theorem dX7_values_47 : decode cX7_values 47 = .ok (.ifCond .ne 14, 3) := by decide +kernel
theorem dX7_values_50 : decode cX7_values 50 = .ok (.aload_n 0, 1) := by decide +kernel
theorem dX7_values_51 : decode cX7_values 51 = .ok (.getfield 46, 3) := by decide +kernel
theorem dX7_values_54 : decode cX7_values 54 = .ok (.iload 4, 2) := by decide +kernel
theorem dX7_values_56 : decode cX7_values 56 = .ok (.iaload, 1) := by decide +kernel
theorem dX7_values_57 : decode cX7_values 57 = .ok (.i2l, 1) := by decide +kernel
theorem dX7_values_58 : decode cX7_values 58 = .ok (.goto 36, 3) := by decide +kernel
theorem dX7_values_61 : decode cX7_values 61 = .ok (.iload_n 2, 1) := by decide +kernel
theorem dX7_values_62 : decode cX7_values 62 = .ok (.ifCond .eq 19, 3) := by decide +kernel
theorem dX7_values_65 : decode cX7_values 65 = .ok (.aload_n 0, 1) := by decide +kernel
theorem dX7_values_66 : decode cX7_values 66 = .ok (.getfield 89, 3) := by decide +kernel
theorem dX7_values_69 : decode cX7_values 69 = .ok (.aload_n 0, 1) := by decide +kernel
theorem dX7_values_70 : decode cX7_values 70 = .ok (.getfield 46, 3) := by decide +kernel
theorem dX7_values_73 : decode cX7_values 73 = .ok (.iload 4, 2) := by decide +kernel
theorem dX7_values_75 : decode cX7_values 75 = .ok (.iaload, 1) := by decide +kernel
theorem dX7_values_76 : decode cX7_values 76 = .ok (.iaload, 1) := by decide +kernel
theorem dX7_values_77 : decode cX7_values 77 = .ok (.i2l, 1) := by decide +kernel
theorem dX7_values_78 : decode cX7_values 78 = .ok (.goto 16, 3) := by decide +kernel
theorem dX7_values_81 : decode cX7_values 81 = .ok (.aload_n 0, 1) := by decide +kernel
theorem dX7_values_82 : decode cX7_values 82 = .ok (.getfield 7, 3) := by decide +kernel
theorem dX7_values_85 : decode cX7_values 85 = .ok (.aload_n 0, 1) := by decide +kernel
theorem dX7_values_86 : decode cX7_values 86 = .ok (.getfield 46, 3) := by decide +kernel
theorem dX7_values_89 : decode cX7_values 89 = .ok (.iload 4, 2) := by decide +kernel
theorem dX7_values_91 : decode cX7_values 91 = .ok (.iaload, 1) := by decide +kernel
theorem dX7_values_92 : decode cX7_values 92 = .ok (.iaload, 1) := by decide +kernel
theorem dX7_values_93 : decode cX7_values 93 = .ok (.i2l, 1) := by decide +kernel
theorem dX7_values_94 : decode cX7_values 94 = .ok (.lastore, 1) := by decide +kernel
theorem dX7_values_95 : decode cX7_values 95 = .ok (.goto 120, 3) := by decide +kernel
theorem dX7_values_98 : decode cX7_values 98 = .ok (.aload_n 0, 1) := by decide +kernel
theorem dX7_values_99 : decode cX7_values 99 = .ok (.getfield 79, 3) := by decide +kernel
theorem dX7_values_102 : decode cX7_values 102 = .ok (.aload_n 0, 1) := by decide +kernel
theorem dX7_values_103 : decode cX7_values 103 = .ok (.getfield 46, 3) := by decide +kernel
theorem dX7_values_106 : decode cX7_values 106 = .ok (.iload 4, 2) := by decide +kernel
theorem dX7_values_108 : decode cX7_values 108 = .ok (.iaload, 1) := by decide +kernel
theorem dX7_values_109 : decode cX7_values 109 = .ok (.laload, 1) := by decide +kernel
theorem dX7_values_110 : decode cX7_values 110 = .ok (.lstore 6, 2) := by decide +kernel
theorem dX7_values_112 : decode cX7_values 112 = .ok (.iload 5, 2) := by decide +kernel
theorem dX7_values_114 : decode cX7_values 114 = .ok (.iconst 5, 1) := by decide +kernel
theorem dX7_values_115 : decode cX7_values 115 = .ok (.if_icmp .eq 10, 3) := by decide +kernel
theorem dX7_values_118 : decode cX7_values 118 = .ok (.iload 5, 2) := by decide +kernel
theorem dX7_values_120 : decode cX7_values 120 = .ok (.bipush 6, 2) := by decide +kernel
theorem dX7_values_122 : decode cX7_values 122 = .ok (.if_icmp .ne 7, 3) := by decide +kernel
theorem dX7_values_125 : decode cX7_values 125 = .ok (.lconst 0, 1) := by decide +kernel
theorem dX7_values_126 : decode cX7_values 126 = .ok (.goto 15, 3) := by decide +kernel
theorem dX7_values_129 : decode cX7_values 129 = .ok (.aload_n 0, 1) := by decide +kernel
theorem dX7_values_130 : decode cX7_values 130 = .ok (.getfield 79, 3) := by decide +kernel
theorem dX7_values_133 : decode cX7_values 133 = .ok (.aload_n 0, 1) := by decide +kernel
theorem dX7_values_134 : decode cX7_values 134 = .ok (.getfield 49, 3) := by decide +kernel
theorem dX7_values_137 : decode cX7_values 137 = .ok (.iload 4, 2) := by decide +kernel
theorem dX7_values_139 : decode cX7_values 139 = .ok (.iaload, 1) := by decide +kernel
theorem dX7_values_140 : decode cX7_values 140 = .ok (.laload, 1) := by decide +kernel
theorem dX7_values_141 : decode cX7_values 141 = .ok (.lstore 8, 2) := by decide +kernel
theorem dX7_values_143 : decode cX7_values 143 = .ok (.aload_n 0, 1) := by decide +kernel
theorem dX7_values_144 : decode cX7_values 144 = .ok (.getfield 79, 3) := by decide +kernel
theorem dX7_values_147 : decode cX7_values 147 = .ok (.iload_n 3, 1) := by decide +kernel
theorem dX7_values_148 : decode cX7_values 148 = .ok (.iload 5, 2) := by decide +kernel
theorem dX7_values_150 : decode cX7_values 150 = .ok (.iconst 2, 1) := by decide +kernel
theorem dX7_values_151 : decode cX7_values 151 = .ok (.if_icmp .ne 11, 3) := by decide +kernel
theorem dX7_values_154 : decode cX7_values 154 = .ok (.lload 6, 2) := by decide +kernel
theorem dX7_values_156 : decode cX7_values 156 = .ok (.lload 8, 2) := by decide +kernel
theorem dX7_values_158 : decode cX7_values 158 = .ok (.ladd, 1) := by decide +kernel
theorem dX7_values_159 : decode cX7_values 159 = .ok (.goto 55, 3) := by decide +kernel
theorem dX7_values_162 : decode cX7_values 162 = .ok (.iload 5, 2) := by decide +kernel
theorem dX7_values_164 : decode cX7_values 164 = .ok (.iconst 3, 1) := by decide +kernel
theorem dX7_values_165 : decode cX7_values 165 = .ok (.if_icmp .ne 11, 3) := by decide +kernel
theorem dX7_values_168 : decode cX7_values 168 = .ok (.lload 6, 2) := by decide +kernel
theorem dX7_values_170 : decode cX7_values 170 = .ok (.lload 8, 2) := by decide +kernel
theorem dX7_values_172 : decode cX7_values 172 = .ok (.lsub, 1) := by decide +kernel
theorem dX7_values_173 : decode cX7_values 173 = .ok (.goto 41, 3) := by decide +kernel
theorem dX7_values_176 : decode cX7_values 176 = .ok (.iload 5, 2) := by decide +kernel
theorem dX7_values_178 : decode cX7_values 178 = .ok (.iconst 4, 1) := by decide +kernel
theorem dX7_values_179 : decode cX7_values 179 = .ok (.if_icmp .ne 11, 3) := by decide +kernel
theorem dX7_values_182 : decode cX7_values 182 = .ok (.lload 6, 2) := by decide +kernel
theorem dX7_values_184 : decode cX7_values 184 = .ok (.lload 8, 2) := by decide +kernel
theorem dX7_values_186 : decode cX7_values 186 = .ok (.lmul, 1) := by decide +kernel
theorem dX7_values_187 : decode cX7_values 187 = .ok (.goto 27, 3) := by decide +kernel
theorem dX7_values_190 : decode cX7_values 190 = .ok (.iload 5, 2) := by decide +kernel
theorem dX7_values_192 : decode cX7_values 192 = .ok (.iconst 5, 1) := by decide +kernel
theorem dX7_values_193 : decode cX7_values 193 = .ok (.if_icmp .ne 18, 3) := by decide +kernel
theorem dX7_values_196 : decode cX7_values 196 = .ok (.lload 6, 2) := by decide +kernel
theorem dX7_values_198 : decode cX7_values 198 = .ok (.aload_n 0, 1) := by decide +kernel
theorem dX7_values_199 : decode cX7_values 199 = .ok (.getfield 49, 3) := by decide +kernel
theorem dX7_values_202 : decode cX7_values 202 = .ok (.iload 4, 2) := by decide +kernel
theorem dX7_values_204 : decode cX7_values 204 = .ok (.iaload, 1) := by decide +kernel
theorem dX7_values_205 : decode cX7_values 205 = .ok (.invokestatic 188, 3) := by decide +kernel
theorem dX7_values_208 : decode cX7_values 208 = .ok (.goto 6, 3) := by decide +kernel
theorem dX7_values_211 : decode cX7_values 211 = .ok (.lload 6, 2) := by decide +kernel
theorem dX7_values_213 : decode cX7_values 213 = .ok (.lneg, 1) := by decide +kernel
theorem dX7_values_214 : decode cX7_values 214 = .ok (.lastore, 1) := by decide +kernel
theorem dX7_values_215 : decode cX7_values 215 = .ok (.iinc 3 1, 3) := by decide +kernel
theorem dX7_values_218 : decode cX7_values 218 = .ok (.goto (-216), 3) := by decide +kernel
theorem dX7_values_221 : decode cX7_values 221 = .ok (.aload_n 0, 1) := by decide +kernel
theorem dX7_values_222 : decode cX7_values 222 = .ok (.getfield 79, 3) := by decide +kernel
theorem dX7_values_225 : decode cX7_values 225 = .ok (.aload_n 0, 1) := by decide +kernel
theorem dX7_values_226 : decode cX7_values 226 = .ok (.getfield 40, 3) := by decide +kernel
theorem dX7_values_229 : decode cX7_values 229 = .ok (.iload_n 1, 1) := by decide +kernel
theorem dX7_values_230 : decode cX7_values 230 = .ok (.iaload, 1) := by decide +kernel
theorem dX7_values_231 : decode cX7_values 231 = .ok (.laload, 1) := by decide +kernel
theorem dX7_values_232 : decode cX7_values 232 = .ok (.lreturn, 1) := by decide +kernel
set_option maxRecDepth 20000 in
theorem ggX7_value_X7_isModel : GoodIn wsX7_value wsX7_isModel := goodIn_r _ [5, 6, 7, 8, 4, 9, 30, 31, 32, 33, 34, 35, 36, 37, 38, 39, 40, 41, 42, 43, 44, 45, 46, 47, 48, 49, 50, 51, 52, 53, 54, 55, 56, 57, 58, 59, 60, 61, 62, 63, 64, 65, 66] (by decide +kernel) (by decide +kernel)
set_option maxRecDepth 20000 in
theorem gX7_value_X7_isModel : GoodIn wsX7_value (wsV RX7 185 RX7 yX7_isModel wsX7_isModel) := goodIn_app (goodIn_of _ (by decide +kernel)) ggX7_value_X7_isModel
set_option maxRecDepth 20000 in
theorem ggX7_value_X7_holds : GoodIn wsX7_value wsX7_holds := goodIn_r _ [13, 14, 30, 31, 32, 33, 34, 35, 36, 37, 38, 39, 40, 41, 42, 43, 44, 45, 46, 47, 48, 49, 50, 51, 52, 53, 54, 55, 56, 57, 58, 59, 60, 61, 62, 63, 64, 65, 66] (by decide +kernel) (by decide +kernel)
set_option maxRecDepth 20000 in
theorem gX7_value_X7_holds : GoodIn wsX7_value (wsV RX7 122 RX7 yX7_holds wsX7_holds) := goodIn_app (goodIn_of _ (by decide +kernel)) ggX7_value_X7_holds
set_option maxRecDepth 20000 in
theorem ggX7_value_X7_values : GoodIn wsX7_value wsX7_values := goodIn_r _ [18, 19, 20, 21, 22, 23, 24, 25, 26, 27, 28, 4, 29, 30, 31, 32, 33, 34, 35, 36, 37, 38, 39, 40, 41, 42, 43, 44, 45, 46, 47, 48, 49, 50, 51, 52, 53, 54, 55, 56, 57, 58, 59, 60, 61, 62, 63, 64, 65, 66] (by decide +kernel) (by decide +kernel)
set_option maxRecDepth 20000 in
theorem gX7_value_X7_values : GoodIn wsX7_value (wsV RX7 191 RX7 yX7_values wsX7_values) := goodIn_app (goodIn_of _ (by decide +kernel)) ggX7_value_X7_values
theorem dX7_value_0 : decode cX7_value 0 = .ok (.aload_n 0, 1) := by decide +kernel
theorem dX7_value_1 : decode cX7_value 1 = .ok (.aload_n 0, 1) := by decide +kernel
theorem dX7_value_2 : decode cX7_value 2 = .ok (.iload_n 1, 1) := by decide +kernel
theorem dX7_value_3 : decode cX7_value 3 = .ok (.invokevirtual 185, 3) := by decide +kernel
theorem dX7_value_6 : decode cX7_value 6 = .ok (.ifCond .eq 7, 3) := by decide +kernel
theorem dX7_value_9 : decode cX7_value 9 = .ok (.iconst 0, 1) := by decide +kernel
theorem dX7_value_10 : decode cX7_value 10 = .ok (.goto 4, 3) := by decide +kernel
theorem dX7_value_13 : decode cX7_value 13 = .ok (.iconst 1, 1) := by decide +kernel
theorem dX7_value_14 : decode cX7_value 14 = .ok (.invokevirtual 122, 3) := by decide +kernel
theorem dX7_value_17 : decode cX7_value 17 = .ok (.ifCond .eq 12, 3) := by decide +kernel
theorem dX7_value_20 : decode cX7_value 20 = .ok (.aload_n 0, 1) := by decide +kernel
theorem dX7_value_21 : decode cX7_value 21 = .ok (.iload_n 1, 1) := by decide +kernel
theorem dX7_value_22 : decode cX7_value 22 = .ok (.iconst 0, 1) := by decide +kernel
theorem dX7_value_23 : decode cX7_value 23 = .ok (.invokevirtual 191, 3) := by decide +kernel
theorem dX7_value_26 : decode cX7_value 26 = .ok (.goto 4, 3) := by decide +kernel
theorem dX7_value_29 : decode cX7_value 29 = .ok (.lconst 0, 1) := by decide +kernel
theorem dX7_value_30 : decode cX7_value 30 = .ok (.lreturn, 1) := by decide +kernel
set_option maxRecDepth 20000 in
theorem ggX7_slopeOf_X7_power_ : GoodIn wsX7_slopeOf wsX7_power_ := goodIn_r _ [11] (by decide +kernel) (by decide +kernel)
set_option maxRecDepth 20000 in
theorem gX7_slopeOf_X7_power_ : GoodIn wsX7_slopeOf (va_wsS RX7 188 yX7_power_ wsX7_power_) := goodIn_app (goodIn_of _ (by decide +kernel)) ggX7_slopeOf_X7_power_
theorem dX7_slopeOf_0 : decode cX7_slopeOf 0 = .ok (.iconst 0, 1) := by decide +kernel
theorem dX7_slopeOf_1 : decode cX7_slopeOf 1 = .ok (.istore_n 3, 1) := by decide +kernel
theorem dX7_slopeOf_2 : decode cX7_slopeOf 2 = .ok (.iload_n 3, 1) := by decide +kernel
theorem dX7_slopeOf_3 : decode cX7_slopeOf 3 = .ok (.aload_n 0, 1) := by decide +kernel
theorem dX7_slopeOf_4 : decode cX7_slopeOf 4 = .ok (.getfield 37, 3) := by decide +kernel
theorem dX7_slopeOf_7 : decode cX7_slopeOf 7 = .ok (.iload_n 1, 1) := by decide +kernel
theorem dX7_slopeOf_8 : decode cX7_slopeOf 8 = .ok (.iaload, 1) := by decide +kernel
theorem dX7_slopeOf_9 : decode cX7_slopeOf 9 = .ok (.if_icmp .ge 265, 3) := by decide +kernel
theorem dX7_slopeOf_12 : decode cX7_slopeOf 12 = .ok (.bipush 64, 2) := by decide +kernel
theorem dX7_slopeOf_14 : decode cX7_slopeOf 14 = .ok (.iload_n 1, 1) := by decide +kernel
theorem dX7_slopeOf_15 : decode cX7_slopeOf 15 = .ok (.imul, 1) := by decide +kernel
theorem dX7_slopeOf_16 : decode cX7_slopeOf 16 = .ok (.iload_n 3, 1) := by decide +kernel
theorem dX7_slopeOf_17 : decode cX7_slopeOf 17 = .ok (.iadd, 1) := by decide +kernel
theorem dX7_slopeOf_18 : decode cX7_slopeOf 18 = .ok (.istore 4, 2) := by decide +kernel
theorem dX7_slopeOf_20 : decode cX7_slopeOf 20 = .ok (.aload_n 0, 1) := by decide +kernel
theorem dX7_slopeOf_21 : decode cX7_slopeOf 21 = .ok (.getfield 43, 3) := by decide +kernel
theorem dX7_slopeOf_24 : decode cX7_slopeOf 24 = .ok (.iload 4, 2) := by decide +kernel
theorem dX7_slopeOf_26 : decode cX7_slopeOf 26 = .ok (.iaload, 1) := by decide +kernel
theorem dX7_slopeOf_27 : decode cX7_slopeOf 27 = .ok (.istore 5, 2) := by decide +kernel
theorem dX7_slopeOf_29 : decode cX7_slopeOf 29 = .ok (.iload 5, 2) := by decide +kernel
theorem dX7_slopeOf_31 : decode cX7_slopeOf 31 = .ok (.ifCond .eq 9, 3) := by decide +kernel
theorem dX7_slopeOf_34 : decode cX7_slopeOf 34 = .ok (.iload 5, 2) := by decide +kernel
theorem dX7_slopeOf_36 : decode cX7_slopeOf 36 = .ok (.iconst 1, 1) := by decide +kernel
theorem dX7_slopeOf_37 : decode cX7_slopeOf 37 = .ok (.if_icmp .ne 34, 3) := by decide +kernel
theorem dX7_slopeOf_40 : decode cX7_slopeOf 40 = .ok (.aload_n 0, 1) := by decide +kernel
theorem dX7_slopeOf_41 : decode cX7_slopeOf 41 = .ok (.getfield 83, 3) := by decide +kernel
theorem dX7_slopeOf_44 : decode cX7_slopeOf 44 = .ok (.iload_n 3, 1) := by decide +kernel
theorem dX7_slopeOf_45 : decode cX7_slopeOf 45 = .ok (.iload 5, 2) := by decide +kernel
theorem dX7_slopeOf_47 : decode cX7_slopeOf 47 = .ok (.iconst 1, 1) := by decide +kernel
theorem dX7_slopeOf_48 : decode cX7_slopeOf 48 = .ok (.if_icmp .ne 18, 3) := by decide +kernel
theorem dX7_slopeOf_51 : decode cX7_slopeOf 51 = .ok (.aload_n 0, 1) := by decide +kernel
theorem dX7_slopeOf_52 : decode cX7_slopeOf 52 = .ok (.getfield 46, 3) := by decide +kernel
theorem dX7_slopeOf_55 : decode cX7_slopeOf 55 = .ok (.iload 4, 2) := by decide +kernel
theorem dX7_slopeOf_57 : decode cX7_slopeOf 57 = .ok (.iaload, 1) := by decide +kernel
theorem dX7_slopeOf_58 : decode cX7_slopeOf 58 = .ok (.iload_n 2, 1) := by decide +kernel
theorem dX7_slopeOf_59 : decode cX7_slopeOf 59 = .ok (.if_icmp .ne 7, 3) := by decide +kernel
theorem dX7_slopeOf_62 : decode cX7_slopeOf 62 = .ok (.lconst 1, 1) := by decide +kernel
theorem dX7_slopeOf_63 : decode cX7_slopeOf 63 = .ok (.goto 4, 3) := by decide +kernel
theorem dX7_slopeOf_66 : decode cX7_slopeOf 66 = .ok (.lconst 0, 1) := by decide +kernel
theorem dX7_slopeOf_67 : decode cX7_slopeOf 67 = .ok (.lastore, 1) := by decide +kernel
theorem dX7_slopeOf_68 : decode cX7_slopeOf 68 = .ok (.goto 200, 3) := by decide +kernel
theorem dX7_slopeOf_71 : decode cX7_slopeOf 71 = .ok (.iload 5, 2) := by decide +kernel
theorem dX7_slopeOf_73 : decode cX7_slopeOf 73 = .ok (.iconst 5, 1) := by decide +kernel
theorem dX7_slopeOf_74 : decode cX7_slopeOf 74 = .ok (.if_icmp .ne 72, 3) := by decide +kernel
theorem dX7_slopeOf_77 : decode cX7_slopeOf 77 = .ok (.aload_n 0, 1) := by decide +kernel
theorem dX7_slopeOf_78 : decode cX7_slopeOf 78 = .ok (.getfield 83, 3) := by decide +kernel
theorem dX7_slopeOf_81 : decode cX7_slopeOf 81 = .ok (.iload_n 3, 1) := by decide +kernel
theorem dX7_slopeOf_82 : decode cX7_slopeOf 82 = .ok (.aload_n 0, 1) := by decide +kernel
theorem dX7_slopeOf_83 : decode cX7_slopeOf 83 = .ok (.getfield 49, 3) := by decide +kernel
theorem dX7_slopeOf_86 : decode cX7_slopeOf 86 = .ok (.iload 4, 2) := by decide +kernel
theorem dX7_slopeOf_88 : decode cX7_slopeOf 88 = .ok (.iaload, 1) := by decide +kernel
theorem dX7_slopeOf_89 : decode cX7_slopeOf 89 = .ok (.ifCond .ne 7, 3) := by decide +kernel
theorem dX7_slopeOf_92 : decode cX7_slopeOf 92 = .ok (.lconst 0, 1) := by decide +kernel
theorem dX7_slopeOf_93 : decode cX7_slopeOf 93 = .ok (.goto 49, 3) := by decide +kernel
theorem dX7_slopeOf_96 : decode cX7_slopeOf 96 = .ok (.aload_n 0, 1) := by decide +kernel
theorem dX7_slopeOf_97 : decode cX7_slopeOf 97 = .ok (.getfield 49, 3) := by decide +kernel
theorem dX7_slopeOf_100 : decode cX7_slopeOf 100 = .ok (.iload 4, 2) := by decide +kernel
theorem dX7_slopeOf_102 : decode cX7_slopeOf 102 = .ok (.iaload, 1) := by decide +kernel
theorem dX7_slopeOf_103 : decode cX7_slopeOf 103 = .ok (.i2l, 1) := by decide +kernel
theorem dX7_slopeOf_104 : decode cX7_slopeOf 104 = .ok (.aload_n 0, 1) := by decide +kernel
theorem dX7_slopeOf_105 : decode cX7_slopeOf 105 = .ok (.getfield 79, 3) := by decide +kernel
theorem dX7_slopeOf_108 : decode cX7_slopeOf 108 = .ok (.aload_n 0, 1) := by decide +kernel
theorem dX7_slopeOf_109 : decode cX7_slopeOf 109 = .ok (.getfield 46, 3) := by decide +kernel
theorem dX7_slopeOf_112 : decode cX7_slopeOf 112 = .ok (.iload 4, 2) := by decide +kernel
theorem dX7_slopeOf_114 : decode cX7_slopeOf 114 = .ok (.iaload, 1) := by decide +kernel
theorem dX7_slopeOf_115 : decode cX7_slopeOf 115 = .ok (.laload, 1) := by decide +kernel
theorem dX7_slopeOf_116 : decode cX7_slopeOf 116 = .ok (.aload_n 0, 1) := by decide +kernel
theorem dX7_slopeOf_117 : decode cX7_slopeOf 117 = .ok (.getfield 49, 3) := by decide +kernel
theorem dX7_slopeOf_120 : decode cX7_slopeOf 120 = .ok (.iload 4, 2) := by decide +kernel
theorem dX7_slopeOf_122 : decode cX7_slopeOf 122 = .ok (.iaload, 1) := by decide +kernel
theorem dX7_slopeOf_123 : decode cX7_slopeOf 123 = .ok (.iconst 1, 1) := by decide +kernel
theorem dX7_slopeOf_124 : decode cX7_slopeOf 124 = .ok (.isub, 1) := by decide +kernel
theorem dX7_slopeOf_125 : decode cX7_slopeOf 125 = .ok (.invokestatic 188, 3) := by decide +kernel
theorem dX7_slopeOf_128 : decode cX7_slopeOf 128 = .ok (.lmul, 1) := by decide +kernel
theorem dX7_slopeOf_129 : decode cX7_slopeOf 129 = .ok (.aload_n 0, 1) := by decide +kernel
theorem dX7_slopeOf_130 : decode cX7_slopeOf 130 = .ok (.getfield 83, 3) := by decide +kernel
theorem dX7_slopeOf_133 : decode cX7_slopeOf 133 = .ok (.aload_n 0, 1) := by decide +kernel
theorem dX7_slopeOf_134 : decode cX7_slopeOf 134 = .ok (.getfield 46, 3) := by decide +kernel
theorem dX7_slopeOf_137 : decode cX7_slopeOf 137 = .ok (.iload 4, 2) := by decide +kernel
theorem dX7_slopeOf_139 : decode cX7_slopeOf 139 = .ok (.iaload, 1) := by decide +kernel
theorem dX7_slopeOf_140 : decode cX7_slopeOf 140 = .ok (.laload, 1) := by decide +kernel
theorem dX7_slopeOf_141 : decode cX7_slopeOf 141 = .ok (.lmul, 1) := by decide +kernel
theorem dX7_slopeOf_142 : decode cX7_slopeOf 142 = .ok (.lastore, 1) := by decide +kernel
theorem dX7_slopeOf_143 : decode cX7_slopeOf 143 = .ok (.goto 125, 3) := by decide +kernel
theorem dX7_slopeOf_146 : decode cX7_slopeOf 146 = .ok (.iload 5, 2) := by decide +kernel
theorem dX7_slopeOf_148 : decode cX7_slopeOf 148 = .ok (.bipush 6, 2) := by decide +kernel
theorem dX7_slopeOf_150 : decode cX7_slopeOf 150 = .ok (.if_icmp .ne 25, 3) := by decide +kernel
theorem dX7_slopeOf_153 : decode cX7_slopeOf 153 = .ok (.aload_n 0, 1) := by decide +kernel
theorem dX7_slopeOf_154 : decode cX7_slopeOf 154 = .ok (.getfield 83, 3) := by decide +kernel
theorem dX7_slopeOf_157 : decode cX7_slopeOf 157 = .ok (.iload_n 3, 1) := by decide +kernel
theorem dX7_slopeOf_158 : decode cX7_slopeOf 158 = .ok (.aload_n 0, 1) := by decide +kernel
theorem dX7_slopeOf_159 : decode cX7_slopeOf 159 = .ok (.getfield 83, 3) := by decide +kernel
theorem dX7_slopeOf_162 : decode cX7_slopeOf 162 = .ok (.aload_n 0, 1) := by decide +kernel
theorem dX7_slopeOf_163 : decode cX7_slopeOf 163 = .ok (.getfield 46, 3) := by decide +kernel
theorem dX7_slopeOf_166 : decode cX7_slopeOf 166 = .ok (.iload 4, 2) := by decide +kernel
theorem dX7_slopeOf_168 : decode cX7_slopeOf 168 = .ok (.iaload, 1) := by decide +kernel
theorem dX7_slopeOf_169 : decode cX7_slopeOf 169 = .ok (.laload, 1) := by decide +kernel
theorem dX7_slopeOf_170 : decode cX7_slopeOf 170 = .ok (.lneg, 1) := by decide +kernel
theorem dX7_slopeOf_171 : decode cX7_slopeOf 171 = .ok (.lastore, 1) := by decide +kernel
theorem dX7_slopeOf_172 : decode cX7_slopeOf 172 = .ok (.goto 96, 3) := by decide +kernel
theorem dX7_slopeOf_175 : decode cX7_slopeOf 175 = .ok (.aload_n 0, 1) := by decide +kernel
theorem dX7_slopeOf_176 : decode cX7_slopeOf 176 = .ok (.getfield 83, 3) := by decide +kernel
theorem dX7_slopeOf_179 : decode cX7_slopeOf 179 = .ok (.aload_n 0, 1) := by decide +kernel
theorem dX7_slopeOf_180 : decode cX7_slopeOf 180 = .ok (.getfield 46, 3) := by decide +kernel
theorem dX7_slopeOf_183 : decode cX7_slopeOf 183 = .ok (.iload 4, 2) := by decide +kernel
theorem dX7_slopeOf_185 : decode cX7_slopeOf 185 = .ok (.iaload, 1) := by decide +kernel
theorem dX7_slopeOf_186 : decode cX7_slopeOf 186 = .ok (.laload, 1) := by decide +kernel
theorem dX7_slopeOf_187 : decode cX7_slopeOf 187 = .ok (.lstore 6, 2) := by decide +kernel
theorem dX7_slopeOf_189 : decode cX7_slopeOf 189 = .ok (.aload_n 0, 1) := by decide +kernel
theorem dX7_slopeOf_190 : decode cX7_slopeOf 190 = .ok (.getfield 83, 3) := by decide +kernel
theorem dX7_slopeOf_193 : decode cX7_slopeOf 193 = .ok (.aload_n 0, 1) := by decide +kernel
theorem dX7_slopeOf_194 : decode cX7_slopeOf 194 = .ok (.getfield 49, 3) := by decide +kernel
theorem dX7_slopeOf_197 : decode cX7_slopeOf 197 = .ok (.iload 4, 2) := by decide +kernel
theorem dX7_slopeOf_199 : decode cX7_slopeOf 199 = .ok (.iaload, 1) := by decide +kernel
theorem dX7_slopeOf_200 : decode cX7_slopeOf 200 = .ok (.laload, 1) := by decide +kernel
theorem dX7_slopeOf_201 : decode cX7_slopeOf 201 = .ok (.lstore 8, 2) := by decide +kernel
theorem dX7_slopeOf_203 : decode cX7_slopeOf 203 = .ok (.aload_n 0, 1) := by decide +kernel
theorem dX7_slopeOf_204 : decode cX7_slopeOf 204 = .ok (.getfield 83, 3) := by decide +kernel
theorem dX7_slopeOf_207 : decode cX7_slopeOf 207 = .ok (.iload_n 3, 1) := by decide +kernel
theorem dX7_slopeOf_208 : decode cX7_slopeOf 208 = .ok (.iload 5, 2) := by decide +kernel
theorem dX7_slopeOf_210 : decode cX7_slopeOf 210 = .ok (.iconst 2, 1) := by decide +kernel
theorem dX7_slopeOf_211 : decode cX7_slopeOf 211 = .ok (.if_icmp .ne 11, 3) := by decide +kernel
theorem dX7_slopeOf_214 : decode cX7_slopeOf 214 = .ok (.lload 6, 2) := by decide +kernel
theorem dX7_slopeOf_216 : decode cX7_slopeOf 216 = .ok (.lload 8, 2) := by decide +kernel
theorem dX7_slopeOf_218 : decode cX7_slopeOf 218 = .ok (.ladd, 1) := by decide +kernel
theorem dX7_slopeOf_219 : decode cX7_slopeOf 219 = .ok (.goto 48, 3) := by decide +kernel
theorem dX7_slopeOf_222 : decode cX7_slopeOf 222 = .ok (.iload 5, 2) := by decide +kernel
theorem dX7_slopeOf_224 : decode cX7_slopeOf 224 = .ok (.iconst 3, 1) := by decide +kernel
theorem dX7_slopeOf_225 : decode cX7_slopeOf 225 = .ok (.if_icmp .ne 11, 3) := by decide +kernel
theorem dX7_slopeOf_228 : decode cX7_slopeOf 228 = .ok (.lload 6, 2) := by decide +kernel
theorem dX7_slopeOf_230 : decode cX7_slopeOf 230 = .ok (.lload 8, 2) := by decide +kernel
theorem dX7_slopeOf_232 : decode cX7_slopeOf 232 = .ok (.lsub, 1) := by decide +kernel
theorem dX7_slopeOf_233 : decode cX7_slopeOf 233 = .ok (.goto 34, 3) := by decide +kernel
theorem dX7_slopeOf_236 : decode cX7_slopeOf 236 = .ok (.aload_n 0, 1) := by decide +kernel
theorem dX7_slopeOf_237 : decode cX7_slopeOf 237 = .ok (.getfield 79, 3) := by decide +kernel
theorem dX7_slopeOf_240 : decode cX7_slopeOf 240 = .ok (.aload_n 0, 1) := by decide +kernel
theorem dX7_slopeOf_241 : decode cX7_slopeOf 241 = .ok (.getfield 46, 3) := by decide +kernel
theorem dX7_slopeOf_244 : decode cX7_slopeOf 244 = .ok (.iload 4, 2) := by decide +kernel
theorem dX7_slopeOf_246 : decode cX7_slopeOf 246 = .ok (.iaload, 1) := by decide +kernel
theorem dX7_slopeOf_247 : decode cX7_slopeOf 247 = .ok (.laload, 1) := by decide +kernel
theorem dX7_slopeOf_248 : decode cX7_slopeOf 248 = .ok (.lload 8, 2) := by decide +kernel
theorem dX7_slopeOf_250 : decode cX7_slopeOf 250 = .ok (.lmul, 1) := by decide +kernel
theorem dX7_slopeOf_251 : decode cX7_slopeOf 251 = .ok (.lload 6, 2) := by decide +kernel
theorem dX7_slopeOf_253 : decode cX7_slopeOf 253 = .ok (.aload_n 0, 1) := by decide +kernel
theorem dX7_slopeOf_254 : decode cX7_slopeOf 254 = .ok (.getfield 79, 3) := by decide +kernel
theorem dX7_slopeOf_257 : decode cX7_slopeOf 257 = .ok (.aload_n 0, 1) := by decide +kernel
theorem dX7_slopeOf_258 : decode cX7_slopeOf 258 = .ok (.getfield 49, 3) := by decide +kernel
theorem dX7_slopeOf_261 : decode cX7_slopeOf 261 = .ok (.iload 4, 2) := by decide +kernel
theorem dX7_slopeOf_263 : decode cX7_slopeOf 263 = .ok (.iaload, 1) := by decide +kernel
theorem dX7_slopeOf_264 : decode cX7_slopeOf 264 = .ok (.laload, 1) := by decide +kernel
theorem dX7_slopeOf_265 : decode cX7_slopeOf 265 = .ok (.lmul, 1) := by decide +kernel
theorem dX7_slopeOf_266 : decode cX7_slopeOf 266 = .ok (.ladd, 1) := by decide +kernel
theorem dX7_slopeOf_267 : decode cX7_slopeOf 267 = .ok (.lastore, 1) := by decide +kernel
theorem dX7_slopeOf_268 : decode cX7_slopeOf 268 = .ok (.iinc 3 1, 3) := by decide +kernel
theorem dX7_slopeOf_271 : decode cX7_slopeOf 271 = .ok (.goto (-269), 3) := by decide +kernel
theorem dX7_slopeOf_274 : decode cX7_slopeOf 274 = .ok (.aload_n 0, 1) := by decide +kernel
theorem dX7_slopeOf_275 : decode cX7_slopeOf 275 = .ok (.getfield 83, 3) := by decide +kernel
theorem dX7_slopeOf_278 : decode cX7_slopeOf 278 = .ok (.aload_n 0, 1) := by decide +kernel
theorem dX7_slopeOf_279 : decode cX7_slopeOf 279 = .ok (.getfield 40, 3) := by decide +kernel
theorem dX7_slopeOf_282 : decode cX7_slopeOf 282 = .ok (.iload_n 1, 1) := by decide +kernel
theorem dX7_slopeOf_283 : decode cX7_slopeOf 283 = .ok (.iaload, 1) := by decide +kernel
theorem dX7_slopeOf_284 : decode cX7_slopeOf 284 = .ok (.laload, 1) := by decide +kernel
theorem dX7_slopeOf_285 : decode cX7_slopeOf 285 = .ok (.lreturn, 1) := by decide +kernel
set_option maxRecDepth 20000 in
theorem ggX7_sensitivity_X7_isModel : GoodIn wsX7_sensitivity wsX7_isModel := goodIn_r _ [5, 6, 7, 8, 4, 9, 38, 39, 40, 41, 42, 43, 44, 45, 46, 47, 48, 49, 50, 51, 52, 53, 54, 55, 56, 57, 58, 59, 60, 61, 62, 63, 64, 65, 66, 67, 68, 69, 70, 71, 72, 73, 74] (by decide +kernel) (by decide +kernel)
set_option maxRecDepth 20000 in
theorem gX7_sensitivity_X7_isModel : GoodIn wsX7_sensitivity (wsV RX7 185 RX7 yX7_isModel wsX7_isModel) := goodIn_app (goodIn_of _ (by decide +kernel)) ggX7_sensitivity_X7_isModel
set_option maxRecDepth 20000 in
theorem ggX7_sensitivity_X7_isInput : GoodIn wsX7_sensitivity wsX7_isInput := goodIn_r _ [12, 7, 8, 4, 9] (by decide +kernel) (by decide +kernel)
set_option maxRecDepth 20000 in
theorem gX7_sensitivity_X7_isInput : GoodIn wsX7_sensitivity (va_wsS RX7 118 yX7_isInput wsX7_isInput) := goodIn_app (goodIn_of _ (by decide +kernel)) ggX7_sensitivity_X7_isInput
set_option maxRecDepth 20000 in
theorem ggX7_sensitivity_X7_holds : GoodIn wsX7_sensitivity wsX7_holds := goodIn_r _ [16, 17, 38, 39, 40, 41, 42, 43, 44, 45, 46, 47, 48, 49, 50, 51, 52, 53, 54, 55, 56, 57, 58, 59, 60, 61, 62, 63, 64, 65, 66, 67, 68, 69, 70, 71, 72, 73, 74] (by decide +kernel) (by decide +kernel)
set_option maxRecDepth 20000 in
theorem gX7_sensitivity_X7_holds : GoodIn wsX7_sensitivity (wsV RX7 122 RX7 yX7_holds wsX7_holds) := goodIn_app (goodIn_of _ (by decide +kernel)) ggX7_sensitivity_X7_holds
set_option maxRecDepth 20000 in
theorem ggX7_sensitivity_X7_values : GoodIn wsX7_sensitivity wsX7_values := goodIn_r _ [21, 22, 23, 24, 25, 26, 27, 28, 29, 30, 31, 4, 32, 38, 39, 40, 41, 42, 43, 44, 45, 46, 47, 48, 49, 50, 51, 52, 53, 54, 55, 56, 57, 58, 59, 60, 61, 62, 63, 64, 65, 66, 67, 68, 69, 70, 71, 72, 73, 74] (by decide +kernel) (by decide +kernel)
set_option maxRecDepth 20000 in
theorem gX7_sensitivity_X7_values : GoodIn wsX7_sensitivity (wsV RX7 191 RX7 yX7_values wsX7_values) := goodIn_app (goodIn_of _ (by decide +kernel)) ggX7_sensitivity_X7_values
set_option maxRecDepth 20000 in
theorem ggX7_sensitivity_X7_slopeOf : GoodIn wsX7_sensitivity wsX7_slopeOf := goodIn_r _ [36, 22, 23, 37, 25, 28, 24, 29, 30, 31, 4, 32, 38, 39, 40, 41, 42, 43, 44, 45, 46, 47, 48, 49, 50, 51, 52, 53, 54, 55, 56, 57, 58, 59, 60, 61, 62, 63, 64, 65, 66, 67, 68, 69, 70, 71, 72, 73, 74] (by decide +kernel) (by decide +kernel)
set_option maxRecDepth 20000 in
theorem gX7_sensitivity_X7_slopeOf : GoodIn wsX7_sensitivity (wsV RX7 195 RX7 yX7_slopeOf wsX7_slopeOf) := goodIn_app (goodIn_of _ (by decide +kernel)) ggX7_sensitivity_X7_slopeOf
theorem dX7_sensitivity_0 : decode cX7_sensitivity 0 = .ok (.aload_n 0, 1) := by decide +kernel
theorem dX7_sensitivity_1 : decode cX7_sensitivity 1 = .ok (.aload_n 0, 1) := by decide +kernel
theorem dX7_sensitivity_2 : decode cX7_sensitivity 2 = .ok (.iload_n 1, 1) := by decide +kernel
theorem dX7_sensitivity_3 : decode cX7_sensitivity 3 = .ok (.invokevirtual 185, 3) := by decide +kernel
theorem dX7_sensitivity_6 : decode cX7_sensitivity 6 = .ok (.ifCond .eq 14, 3) := by decide +kernel
theorem dX7_sensitivity_9 : decode cX7_sensitivity 9 = .ok (.iload_n 2, 1) := by decide +kernel
theorem dX7_sensitivity_10 : decode cX7_sensitivity 10 = .ok (.invokestatic 118, 3) := by decide +kernel
theorem dX7_sensitivity_13 : decode cX7_sensitivity 13 = .ok (.ifCond .eq 7, 3) := by decide +kernel
theorem dX7_sensitivity_16 : decode cX7_sensitivity 16 = .ok (.iconst 0, 1) := by decide +kernel
theorem dX7_sensitivity_17 : decode cX7_sensitivity 17 = .ok (.goto 4, 3) := by decide +kernel
theorem dX7_sensitivity_20 : decode cX7_sensitivity 20 = .ok (.iconst 1, 1) := by decide +kernel
theorem dX7_sensitivity_21 : decode cX7_sensitivity 21 = .ok (.invokevirtual 122, 3) := by decide +kernel
theorem dX7_sensitivity_24 : decode cX7_sensitivity 24 = .ok (.ifCond .ne 5, 3) := by decide +kernel
theorem dX7_sensitivity_27 : decode cX7_sensitivity 27 = .ok (.lconst 0, 1) := by decide +kernel
theorem dX7_sensitivity_28 : decode cX7_sensitivity 28 = .ok (.lreturn, 1) := by decide +kernel
theorem dX7_sensitivity_29 : decode cX7_sensitivity 29 = .ok (.aload_n 0, 1) := by decide +kernel
theorem dX7_sensitivity_30 : decode cX7_sensitivity 30 = .ok (.iload_n 1, 1) := by decide +kernel
theorem dX7_sensitivity_31 : decode cX7_sensitivity 31 = .ok (.iconst 0, 1) := by decide +kernel
theorem dX7_sensitivity_32 : decode cX7_sensitivity 32 = .ok (.invokevirtual 191, 3) := by decide +kernel
theorem dX7_sensitivity_35 : decode cX7_sensitivity 35 = .ok (.pop2, 1) := by decide +kernel
theorem dX7_sensitivity_36 : decode cX7_sensitivity 36 = .ok (.aload_n 0, 1) := by decide +kernel
theorem dX7_sensitivity_37 : decode cX7_sensitivity 37 = .ok (.iload_n 1, 1) := by decide +kernel
theorem dX7_sensitivity_38 : decode cX7_sensitivity 38 = .ok (.iload_n 2, 1) := by decide +kernel
theorem dX7_sensitivity_39 : decode cX7_sensitivity 39 = .ok (.invokevirtual 195, 3) := by decide +kernel
theorem dX7_sensitivity_42 : decode cX7_sensitivity 42 = .ok (.lreturn, 1) := by decide +kernel
set_option maxRecDepth 20000 in
theorem ggX7_sensitivityAnew_X7_sensitivity : GoodIn wsX7_sensitivityAnew wsX7_sensitivity := goodIn_r _ [5, 6, 7, 8, 4, 9, 10, 11, 12, 13, 14, 15, 16, 17, 18, 19, 20, 21, 22, 23, 24, 25, 26, 27, 28, 29, 30, 31, 32, 33, 34, 35, 36, 37, 38, 39, 40, 41, 42, 43, 44, 45, 46, 47, 48, 49, 50, 51, 52, 53, 54, 55, 56, 57, 58, 59, 60, 61, 62, 63, 64, 65, 66, 67, 68, 69, 70, 71, 72, 73, 74, 75, 76, 77, 78] (by decide +kernel) (by decide +kernel)
set_option maxRecDepth 20000 in
theorem gX7_sensitivityAnew_X7_sensitivity : GoodIn wsX7_sensitivityAnew (wsV RX7 199 RX7 yX7_sensitivity wsX7_sensitivity) := goodIn_app (goodIn_of _ (by decide +kernel)) ggX7_sensitivityAnew_X7_sensitivity
theorem dX7_sensitivityAnew_0 : decode cX7_sensitivityAnew 0 = .ok (.aload_n 0, 1) := by decide +kernel
theorem dX7_sensitivityAnew_1 : decode cX7_sensitivityAnew 1 = .ok (.iload_n 1, 1) := by decide +kernel
theorem dX7_sensitivityAnew_2 : decode cX7_sensitivityAnew 2 = .ok (.iload_n 2, 1) := by decide +kernel
theorem dX7_sensitivityAnew_3 : decode cX7_sensitivityAnew 3 = .ok (.invokevirtual 199, 3) := by decide +kernel
theorem dX7_sensitivityAnew_6 : decode cX7_sensitivityAnew 6 = .ok (.lreturn, 1) := by decide +kernel
set_option maxRecDepth 20000 in
theorem ggX7_laysSlopes_X7_values : GoodIn wsX7_laysSlopes wsX7_values := goodIn_r _ [6, 7, 8, 9, 10, 11, 12, 13, 14, 15, 16, 5, 17, 23, 24, 25, 26, 27, 28, 29, 30, 31, 32, 33, 34, 35, 36, 37, 38, 39, 40, 41, 42, 43, 44, 45, 46, 47, 48, 49, 50, 51, 52, 53, 54, 55, 56, 57, 58, 59] (by decide +kernel) (by decide +kernel)
set_option maxRecDepth 20000 in
theorem gX7_laysSlopes_X7_values : GoodIn wsX7_laysSlopes (wsV RX7 191 RX7 yX7_values wsX7_values) := goodIn_app (goodIn_of _ (by decide +kernel)) ggX7_laysSlopes_X7_values
set_option maxRecDepth 20000 in
theorem ggX7_laysSlopes_X7_slopeOf : GoodIn wsX7_laysSlopes wsX7_slopeOf := goodIn_r _ [21, 7, 8, 22, 10, 13, 9, 14, 15, 16, 5, 17, 23, 24, 25, 26, 27, 28, 29, 30, 31, 32, 33, 34, 35, 36, 37, 38, 39, 40, 41, 42, 43, 44, 45, 46, 47, 48, 49, 50, 51, 52, 53, 54, 55, 56, 57, 58, 59] (by decide +kernel) (by decide +kernel)
set_option maxRecDepth 20000 in
theorem gX7_laysSlopes_X7_slopeOf : GoodIn wsX7_laysSlopes (wsV RX7 195 RX7 yX7_slopeOf wsX7_slopeOf) := goodIn_app (goodIn_of _ (by decide +kernel)) ggX7_laysSlopes_X7_slopeOf
theorem dX7_laysSlopes_0 : decode cX7_laysSlopes 0 = .ok (.aload_n 0, 1) := by decide +kernel
theorem dX7_laysSlopes_1 : decode cX7_laysSlopes 1 = .ok (.iload_n 1, 1) := by decide +kernel
theorem dX7_laysSlopes_2 : decode cX7_laysSlopes 2 = .ok (.iconst 0, 1) := by decide +kernel
theorem dX7_laysSlopes_3 : decode cX7_laysSlopes 3 = .ok (.invokevirtual 191, 3) := by decide +kernel
theorem dX7_laysSlopes_6 : decode cX7_laysSlopes 6 = .ok (.pop2, 1) := by decide +kernel
theorem dX7_laysSlopes_7 : decode cX7_laysSlopes 7 = .ok (.iconst 0, 1) := by decide +kernel
theorem dX7_laysSlopes_8 : decode cX7_laysSlopes 8 = .ok (.istore_n 2, 1) := by decide +kernel
theorem dX7_laysSlopes_9 : decode cX7_laysSlopes 9 = .ok (.iload_n 2, 1) := by decide +kernel
theorem dX7_laysSlopes_10 : decode cX7_laysSlopes 10 = .ok (.bipush 6, 2) := by decide +kernel
theorem dX7_laysSlopes_12 : decode cX7_laysSlopes 12 = .ok (.if_icmp .ge 21, 3) := by decide +kernel
theorem dX7_laysSlopes_15 : decode cX7_laysSlopes 15 = .ok (.aload_n 0, 1) := by decide +kernel
theorem dX7_laysSlopes_16 : decode cX7_laysSlopes 16 = .ok (.getfield 92, 3) := by decide +kernel
theorem dX7_laysSlopes_19 : decode cX7_laysSlopes 19 = .ok (.iload_n 2, 1) := by decide +kernel
theorem dX7_laysSlopes_20 : decode cX7_laysSlopes 20 = .ok (.aload_n 0, 1) := by decide +kernel
theorem dX7_laysSlopes_21 : decode cX7_laysSlopes 21 = .ok (.iload_n 1, 1) := by decide +kernel
theorem dX7_laysSlopes_22 : decode cX7_laysSlopes 22 = .ok (.iload_n 2, 1) := by decide +kernel
theorem dX7_laysSlopes_23 : decode cX7_laysSlopes 23 = .ok (.invokevirtual 195, 3) := by decide +kernel
theorem dX7_laysSlopes_26 : decode cX7_laysSlopes 26 = .ok (.lastore, 1) := by decide +kernel
theorem dX7_laysSlopes_27 : decode cX7_laysSlopes 27 = .ok (.iinc 2 1, 3) := by decide +kernel
theorem dX7_laysSlopes_30 : decode cX7_laysSlopes 30 = .ok (.goto (-21), 3) := by decide +kernel
theorem dX7_laysSlopes_33 : decode cX7_laysSlopes 33 = .ok (.return_, 1) := by decide +kernel
theorem dX7_part_0 : decode cX7_part 0 = .ok (.aload_n 0, 1) := by decide +kernel
theorem dX7_part_1 : decode cX7_part 1 = .ok (.getfield 92, 3) := by decide +kernel
theorem dX7_part_4 : decode cX7_part 4 = .ok (.iload_n 1, 1) := by decide +kernel
theorem dX7_part_5 : decode cX7_part 5 = .ok (.laload, 1) := by decide +kernel
theorem dX7_part_6 : decode cX7_part 6 = .ok (.aload_n 0, 1) := by decide +kernel
theorem dX7_part_7 : decode cX7_part 7 = .ok (.getfield 92, 3) := by decide +kernel
theorem dX7_part_10 : decode cX7_part 10 = .ok (.iload_n 1, 1) := by decide +kernel
theorem dX7_part_11 : decode cX7_part 11 = .ok (.laload, 1) := by decide +kernel
theorem dX7_part_12 : decode cX7_part 12 = .ok (.lmul, 1) := by decide +kernel
theorem dX7_part_13 : decode cX7_part 13 = .ok (.aload_n 0, 1) := by decide +kernel
theorem dX7_part_14 : decode cX7_part 14 = .ok (.getfield 28, 3) := by decide +kernel
theorem dX7_part_17 : decode cX7_part 17 = .ok (.iload_n 1, 1) := by decide +kernel
theorem dX7_part_18 : decode cX7_part 18 = .ok (.iaload, 1) := by decide +kernel
theorem dX7_part_19 : decode cX7_part 19 = .ok (.i2l, 1) := by decide +kernel
theorem dX7_part_20 : decode cX7_part 20 = .ok (.lmul, 1) := by decide +kernel
theorem dX7_part_21 : decode cX7_part 21 = .ok (.lreturn, 1) := by decide +kernel
set_option maxRecDepth 20000 in
theorem ggX7_varianceOf_X7_part : GoodIn wsX7_varianceOf wsX7_part := goodIn_r _ [8, 2, 9, 10, 11, 12, 13, 14, 15, 16, 17, 18, 19, 20, 21, 22, 23, 24, 25, 26, 27, 28, 29, 30, 31, 32, 33, 34, 35, 36, 37, 38, 39, 40, 41, 42, 43, 44, 45, 46] (by decide +kernel) (by decide +kernel)
set_option maxRecDepth 20000 in
theorem gX7_varianceOf_X7_part : GoodIn wsX7_varianceOf (wsV RX7 202 RX7 yX7_part wsX7_part) := goodIn_app (goodIn_of _ (by decide +kernel)) ggX7_varianceOf_X7_part
theorem dX7_varianceOf_0 : decode cX7_varianceOf 0 = .ok (.lconst 0, 1) := by decide +kernel
theorem dX7_varianceOf_1 : decode cX7_varianceOf 1 = .ok (.lstore_n 1, 1) := by decide +kernel
theorem dX7_varianceOf_2 : decode cX7_varianceOf 2 = .ok (.iconst 0, 1) := by decide +kernel
theorem dX7_varianceOf_3 : decode cX7_varianceOf 3 = .ok (.istore_n 3, 1) := by decide +kernel
theorem dX7_varianceOf_4 : decode cX7_varianceOf 4 = .ok (.iload_n 3, 1) := by decide +kernel
theorem dX7_varianceOf_5 : decode cX7_varianceOf 5 = .ok (.bipush 6, 2) := by decide +kernel
theorem dX7_varianceOf_7 : decode cX7_varianceOf 7 = .ok (.if_icmp .ge 70, 3) := by decide +kernel
theorem dX7_varianceOf_10 : decode cX7_varianceOf 10 = .ok (.lload_n 1, 1) := by decide +kernel
theorem dX7_varianceOf_11 : decode cX7_varianceOf 11 = .ok (.aload_n 0, 1) := by decide +kernel
theorem dX7_varianceOf_12 : decode cX7_varianceOf 12 = .ok (.iload_n 3, 1) := by decide +kernel
theorem dX7_varianceOf_13 : decode cX7_varianceOf 13 = .ok (.invokevirtual 202, 3) := by decide +kernel
theorem dX7_varianceOf_16 : decode cX7_varianceOf 16 = .ok (.ladd, 1) := by decide +kernel
theorem dX7_varianceOf_17 : decode cX7_varianceOf 17 = .ok (.lstore_n 1, 1) := by decide +kernel
theorem dX7_varianceOf_18 : decode cX7_varianceOf 18 = .ok (.iload_n 3, 1) := by decide +kernel
theorem dX7_varianceOf_19 : decode cX7_varianceOf 19 = .ok (.iconst 1, 1) := by decide +kernel
theorem dX7_varianceOf_20 : decode cX7_varianceOf 20 = .ok (.iadd, 1) := by decide +kernel
theorem dX7_varianceOf_21 : decode cX7_varianceOf 21 = .ok (.istore 4, 2) := by decide +kernel
theorem dX7_varianceOf_23 : decode cX7_varianceOf 23 = .ok (.iload 4, 2) := by decide +kernel
theorem dX7_varianceOf_25 : decode cX7_varianceOf 25 = .ok (.bipush 6, 2) := by decide +kernel
theorem dX7_varianceOf_27 : decode cX7_varianceOf 27 = .ok (.if_icmp .ge 44, 3) := by decide +kernel
theorem dX7_varianceOf_30 : decode cX7_varianceOf 30 = .ok (.lload_n 1, 1) := by decide +kernel
theorem dX7_varianceOf_31 : decode cX7_varianceOf 31 = .ok (.ldc2_w 206, 3) := by decide +kernel
theorem dX7_varianceOf_34 : decode cX7_varianceOf 34 = .ok (.aload_n 0, 1) := by decide +kernel
theorem dX7_varianceOf_35 : decode cX7_varianceOf 35 = .ok (.getfield 92, 3) := by decide +kernel
theorem dX7_varianceOf_38 : decode cX7_varianceOf 38 = .ok (.iload_n 3, 1) := by decide +kernel
theorem dX7_varianceOf_39 : decode cX7_varianceOf 39 = .ok (.laload, 1) := by decide +kernel
theorem dX7_varianceOf_40 : decode cX7_varianceOf 40 = .ok (.aload_n 0, 1) := by decide +kernel
theorem dX7_varianceOf_41 : decode cX7_varianceOf 41 = .ok (.getfield 92, 3) := by decide +kernel
theorem dX7_varianceOf_44 : decode cX7_varianceOf 44 = .ok (.iload 4, 2) := by decide +kernel
theorem dX7_varianceOf_46 : decode cX7_varianceOf 46 = .ok (.laload, 1) := by decide +kernel
theorem dX7_varianceOf_47 : decode cX7_varianceOf 47 = .ok (.lmul, 1) := by decide +kernel
theorem dX7_varianceOf_48 : decode cX7_varianceOf 48 = .ok (.aload_n 0, 1) := by decide +kernel
theorem dX7_varianceOf_49 : decode cX7_varianceOf 49 = .ok (.getfield 31, 3) := by decide +kernel
theorem dX7_varianceOf_52 : decode cX7_varianceOf 52 = .ok (.bipush 6, 2) := by decide +kernel
theorem dX7_varianceOf_54 : decode cX7_varianceOf 54 = .ok (.iload_n 3, 1) := by decide +kernel
theorem dX7_varianceOf_55 : decode cX7_varianceOf 55 = .ok (.imul, 1) := by decide +kernel
theorem dX7_varianceOf_56 : decode cX7_varianceOf 56 = .ok (.iload 4, 2) := by decide +kernel
theorem dX7_varianceOf_58 : decode cX7_varianceOf 58 = .ok (.iadd, 1) := by decide +kernel
theorem dX7_varianceOf_59 : decode cX7_varianceOf 59 = .ok (.iaload, 1) := by decide +kernel
theorem dX7_varianceOf_60 : decode cX7_varianceOf 60 = .ok (.i2l, 1) := by decide +kernel
theorem dX7_varianceOf_61 : decode cX7_varianceOf 61 = .ok (.lmul, 1) := by decide +kernel
theorem dX7_varianceOf_62 : decode cX7_varianceOf 62 = .ok (.lmul, 1) := by decide +kernel
theorem dX7_varianceOf_63 : decode cX7_varianceOf 63 = .ok (.ladd, 1) := by decide +kernel
theorem dX7_varianceOf_64 : decode cX7_varianceOf 64 = .ok (.lstore_n 1, 1) := by decide +kernel
theorem dX7_varianceOf_65 : decode cX7_varianceOf 65 = .ok (.iinc 4 1, 3) := by decide +kernel
theorem dX7_varianceOf_68 : decode cX7_varianceOf 68 = .ok (.goto (-45), 3) := by decide +kernel
theorem dX7_varianceOf_71 : decode cX7_varianceOf 71 = .ok (.iinc 3 1, 3) := by decide +kernel
theorem dX7_varianceOf_74 : decode cX7_varianceOf 74 = .ok (.goto (-70), 3) := by decide +kernel
theorem dX7_varianceOf_77 : decode cX7_varianceOf 77 = .ok (.lload_n 1, 1) := by decide +kernel
theorem dX7_varianceOf_78 : decode cX7_varianceOf 78 = .ok (.lreturn, 1) := by decide +kernel
theorem dX7_root_0 : decode cX7_root 0 = .ok (.lload_n 0, 1) := by decide +kernel
theorem dX7_root_1 : decode cX7_root 1 = .ok (.lconst 0, 1) := by decide +kernel
theorem dX7_root_2 : decode cX7_root 2 = .ok (.lcmp, 1) := by decide +kernel
theorem dX7_root_3 : decode cX7_root 3 = .ok (.ifCond .ge 7, 3) := by decide +kernel
theorem dX7_root_6 : decode cX7_root 6 = .ok (.ldc2_w 208, 3) := by decide +kernel
theorem dX7_root_9 : decode cX7_root 9 = .ok (.lreturn, 1) := by decide +kernel
theorem dX7_root_10 : decode cX7_root 10 = .ok (.lconst 0, 1) := by decide +kernel
theorem dX7_root_11 : decode cX7_root 11 = .ok (.lstore_n 2, 1) := by decide +kernel
theorem dX7_root_12 : decode cX7_root 12 = .ok (.bipush 31, 2) := by decide +kernel
theorem dX7_root_14 : decode cX7_root 14 = .ok (.istore 4, 2) := by decide +kernel
theorem dX7_root_16 : decode cX7_root 16 = .ok (.iload 4, 2) := by decide +kernel
theorem dX7_root_18 : decode cX7_root 18 = .ok (.ifCond .lt 34, 3) := by decide +kernel
theorem dX7_root_21 : decode cX7_root 21 = .ok (.lload_n 2, 1) := by decide +kernel
theorem dX7_root_22 : decode cX7_root 22 = .ok (.lconst 1, 1) := by decide +kernel
theorem dX7_root_23 : decode cX7_root 23 = .ok (.iload 4, 2) := by decide +kernel
theorem dX7_root_25 : decode cX7_root 25 = .ok (.lshl, 1) := by decide +kernel
theorem dX7_root_26 : decode cX7_root 26 = .ok (.ladd, 1) := by decide +kernel
theorem dX7_root_27 : decode cX7_root 27 = .ok (.lstore 5, 2) := by decide +kernel
theorem dX7_root_29 : decode cX7_root 29 = .ok (.lload 5, 2) := by decide +kernel
theorem dX7_root_31 : decode cX7_root 31 = .ok (.lload_n 0, 1) := by decide +kernel
theorem dX7_root_32 : decode cX7_root 32 = .ok (.lload 5, 2) := by decide +kernel
theorem dX7_root_34 : decode cX7_root 34 = .ok (.ldiv, 1) := by decide +kernel
theorem dX7_root_35 : decode cX7_root 35 = .ok (.lcmp, 1) := by decide +kernel
theorem dX7_root_36 : decode cX7_root 36 = .ok (.ifCond .gt 8, 3) := by decide +kernel
theorem dX7_root_39 : decode cX7_root 39 = .ok (.lload 5, 2) := by decide +kernel
theorem dX7_root_41 : decode cX7_root 41 = .ok (.goto 4, 3) := by decide +kernel
theorem dX7_root_44 : decode cX7_root 44 = .ok (.lload_n 2, 1) := by decide +kernel
theorem dX7_root_45 : decode cX7_root 45 = .ok (.lstore_n 2, 1) := by decide +kernel
theorem dX7_root_46 : decode cX7_root 46 = .ok (.iinc 4 (-1), 3) := by decide +kernel
theorem dX7_root_49 : decode cX7_root 49 = .ok (.goto (-33), 3) := by decide +kernel
theorem dX7_root_52 : decode cX7_root 52 = .ok (.lload_n 2, 1) := by decide +kernel
theorem dX7_root_53 : decode cX7_root 53 = .ok (.lreturn, 1) := by decide +kernel
set_option maxRecDepth 20000 in
theorem ggX7_shareOf_X7_part : GoodIn wsX7_shareOf wsX7_part := goodIn_r _ [6, 7, 8, 9, 10, 11, 12, 13, 14, 15, 16, 17, 18, 19, 20, 21, 22, 23, 24, 25, 26, 27, 28, 29, 30, 31, 32, 33, 34, 35, 36, 37, 38, 39, 40, 41, 42, 43, 44, 45] (by decide +kernel) (by decide +kernel)
set_option maxRecDepth 20000 in
theorem gX7_shareOf_X7_part : GoodIn wsX7_shareOf (wsV RX7 202 RX7 yX7_part wsX7_part) := goodIn_app (goodIn_of _ (by decide +kernel)) ggX7_shareOf_X7_part
theorem dX7_shareOf_0 : decode cX7_shareOf 0 = .ok (.lload_n 2, 1) := by decide +kernel
theorem dX7_shareOf_1 : decode cX7_shareOf 1 = .ok (.lconst 0, 1) := by decide +kernel
theorem dX7_shareOf_2 : decode cX7_shareOf 2 = .ok (.lcmp, 1) := by decide +kernel
theorem dX7_shareOf_3 : decode cX7_shareOf 3 = .ok (.ifCond .ne 7, 3) := by decide +kernel
theorem dX7_shareOf_6 : decode cX7_shareOf 6 = .ok (.lconst 0, 1) := by decide +kernel
theorem dX7_shareOf_7 : decode cX7_shareOf 7 = .ok (.goto 14, 3) := by decide +kernel
theorem dX7_shareOf_10 : decode cX7_shareOf 10 = .ok (.ldc2_w 210, 3) := by decide +kernel
theorem dX7_shareOf_13 : decode cX7_shareOf 13 = .ok (.aload_n 0, 1) := by decide +kernel
theorem dX7_shareOf_14 : decode cX7_shareOf 14 = .ok (.iload_n 1, 1) := by decide +kernel
theorem dX7_shareOf_15 : decode cX7_shareOf 15 = .ok (.invokevirtual 202, 3) := by decide +kernel
theorem dX7_shareOf_18 : decode cX7_shareOf 18 = .ok (.lmul, 1) := by decide +kernel
theorem dX7_shareOf_19 : decode cX7_shareOf 19 = .ok (.lload_n 2, 1) := by decide +kernel
theorem dX7_shareOf_20 : decode cX7_shareOf 20 = .ok (.ldiv, 1) := by decide +kernel
theorem dX7_shareOf_21 : decode cX7_shareOf 21 = .ok (.lreturn, 1) := by decide +kernel
set_option maxRecDepth 20000 in
theorem ggX7_degreesSum_X7_degreesOf : GoodIn wsX7_degreesSum wsX7_degreesOf := goodIn_r _ [5, 6, 7, 19, 20, 21, 22, 23, 24, 25, 26, 27, 28, 29, 30, 31, 32, 33, 34, 35, 36, 37, 38, 39, 40, 41, 42, 43, 44, 45, 46, 47, 48, 49, 50, 51, 52, 53, 54, 55] (by decide +kernel) (by decide +kernel)
set_option maxRecDepth 20000 in
theorem gX7_degreesSum_X7_degreesOf : GoodIn wsX7_degreesSum (wsV RX7 133 RX7 yX7_degreesOf wsX7_degreesOf) := goodIn_app (goodIn_of _ (by decide +kernel)) ggX7_degreesSum_X7_degreesOf
set_option maxRecDepth 20000 in
theorem ggX7_degreesSum_X7_shareOf : GoodIn wsX7_degreesSum wsX7_shareOf := goodIn_r _ [11, 12, 13, 14, 15, 4, 16, 17, 18, 19, 20, 21, 22, 23, 24, 25, 26, 27, 28, 29, 30, 31, 32, 33, 34, 35, 36, 37, 38, 39, 40, 41, 42, 43, 44, 45, 46, 47, 48, 49, 50, 51, 52, 53, 54, 55] (by decide +kernel) (by decide +kernel)
set_option maxRecDepth 20000 in
theorem gX7_degreesSum_X7_shareOf : GoodIn wsX7_degreesSum (wsV RX7 212 RX7 yX7_shareOf wsX7_shareOf) := goodIn_app (goodIn_of _ (by decide +kernel)) ggX7_degreesSum_X7_shareOf
theorem dX7_degreesSum_0 : decode cX7_degreesSum 0 = .ok (.lconst 0, 1) := by decide +kernel
theorem dX7_degreesSum_1 : decode cX7_degreesSum 1 = .ok (.lstore_n 3, 1) := by decide +kernel
theorem dX7_degreesSum_2 : decode cX7_degreesSum 2 = .ok (.iconst 0, 1) := by decide +kernel
theorem dX7_degreesSum_3 : decode cX7_degreesSum 3 = .ok (.istore 5, 2) := by decide +kernel
theorem dX7_degreesSum_5 : decode cX7_degreesSum 5 = .ok (.iload 5, 2) := by decide +kernel
theorem dX7_degreesSum_7 : decode cX7_degreesSum 7 = .ok (.bipush 6, 2) := by decide +kernel
theorem dX7_degreesSum_9 : decode cX7_degreesSum 9 = .ok (.if_icmp .ge 43, 3) := by decide +kernel
theorem dX7_degreesSum_12 : decode cX7_degreesSum 12 = .ok (.aload_n 0, 1) := by decide +kernel
theorem dX7_degreesSum_13 : decode cX7_degreesSum 13 = .ok (.iload 5, 2) := by decide +kernel
theorem dX7_degreesSum_15 : decode cX7_degreesSum 15 = .ok (.invokevirtual 133, 3) := by decide +kernel
theorem dX7_degreesSum_18 : decode cX7_degreesSum 18 = .ok (.ifCond .le 28, 3) := by decide +kernel
theorem dX7_degreesSum_21 : decode cX7_degreesSum 21 = .ok (.aload_n 0, 1) := by decide +kernel
theorem dX7_degreesSum_22 : decode cX7_degreesSum 22 = .ok (.iload 5, 2) := by decide +kernel
theorem dX7_degreesSum_24 : decode cX7_degreesSum 24 = .ok (.lload_n 1, 1) := by decide +kernel
theorem dX7_degreesSum_25 : decode cX7_degreesSum 25 = .ok (.invokevirtual 212, 3) := by decide +kernel
theorem dX7_degreesSum_28 : decode cX7_degreesSum 28 = .ok (.lstore 6, 2) := by decide +kernel
theorem dX7_degreesSum_30 : decode cX7_degreesSum 30 = .ok (.lload_n 3, 1) := by decide +kernel
theorem dX7_degreesSum_31 : decode cX7_degreesSum 31 = .ok (.lload 6, 2) := by decide +kernel
theorem dX7_degreesSum_33 : decode cX7_degreesSum 33 = .ok (.lload 6, 2) := by decide +kernel
theorem dX7_degreesSum_35 : decode cX7_degreesSum 35 = .ok (.lmul, 1) := by decide +kernel
theorem dX7_degreesSum_36 : decode cX7_degreesSum 36 = .ok (.aload_n 0, 1) := by decide +kernel
theorem dX7_degreesSum_37 : decode cX7_degreesSum 37 = .ok (.iload 5, 2) := by decide +kernel
theorem dX7_degreesSum_39 : decode cX7_degreesSum 39 = .ok (.invokevirtual 133, 3) := by decide +kernel
theorem dX7_degreesSum_42 : decode cX7_degreesSum 42 = .ok (.i2l, 1) := by decide +kernel
theorem dX7_degreesSum_43 : decode cX7_degreesSum 43 = .ok (.ldiv, 1) := by decide +kernel
theorem dX7_degreesSum_44 : decode cX7_degreesSum 44 = .ok (.ladd, 1) := by decide +kernel
theorem dX7_degreesSum_45 : decode cX7_degreesSum 45 = .ok (.lstore_n 3, 1) := by decide +kernel
theorem dX7_degreesSum_46 : decode cX7_degreesSum 46 = .ok (.iinc 5 1, 3) := by decide +kernel
theorem dX7_degreesSum_49 : decode cX7_degreesSum 49 = .ok (.goto (-44), 3) := by decide +kernel
theorem dX7_degreesSum_52 : decode cX7_degreesSum 52 = .ok (.lload_n 3, 1) := by decide +kernel
theorem dX7_degreesSum_53 : decode cX7_degreesSum 53 = .ok (.lreturn, 1) := by decide +kernel
set_option maxRecDepth 20000 in
theorem ggX7_degrees_X7_degreesSum : GoodIn wsX7_degrees wsX7_degreesSum := goodIn_r _ [7, 8, 9, 10, 6, 11, 12, 13, 14, 15, 16, 17, 18, 19, 20, 21, 22, 23, 24, 25, 26, 27, 28, 29, 30, 31, 32, 33, 34, 35, 36, 37, 38, 39, 40, 41, 42, 43, 44, 45, 46, 47, 48, 49, 50, 51, 52, 53, 54, 55, 56, 57, 58, 59, 60, 61] (by decide +kernel) (by decide +kernel)
set_option maxRecDepth 20000 in
theorem gX7_degrees_X7_degreesSum : GoodIn wsX7_degrees (wsV RX7 216 RX7 yX7_degreesSum wsX7_degreesSum) := goodIn_app (goodIn_of _ (by decide +kernel)) ggX7_degrees_X7_degreesSum
theorem dX7_degrees_0 : decode cX7_degrees 0 = .ok (.aload_n 0, 1) := by decide +kernel
theorem dX7_degrees_1 : decode cX7_degrees 1 = .ok (.lload_n 1, 1) := by decide +kernel
theorem dX7_degrees_2 : decode cX7_degrees 2 = .ok (.invokevirtual 216, 3) := by decide +kernel
theorem dX7_degrees_5 : decode cX7_degrees 5 = .ok (.lstore_n 3, 1) := by decide +kernel
theorem dX7_degrees_6 : decode cX7_degrees 6 = .ok (.lload_n 3, 1) := by decide +kernel
theorem dX7_degrees_7 : decode cX7_degrees 7 = .ok (.lconst 0, 1) := by decide +kernel
theorem dX7_degrees_8 : decode cX7_degrees 8 = .ok (.lcmp, 1) := by decide +kernel
theorem dX7_degrees_9 : decode cX7_degrees 9 = .ok (.ifCond .ne 9, 3) := by decide +kernel
theorem dX7_degrees_12 : decode cX7_degrees 12 = .ok (.ldc2_w 208, 3) := by decide +kernel
theorem dX7_degrees_15 : decode cX7_degrees 15 = .ok (.goto 8, 3) := by decide +kernel
theorem dX7_degrees_18 : decode cX7_degrees 18 = .ok (.ldc2_w 220, 3) := by decide +kernel
theorem dX7_degrees_21 : decode cX7_degrees 21 = .ok (.lload_n 3, 1) := by decide +kernel
theorem dX7_degrees_22 : decode cX7_degrees 22 = .ok (.ldiv, 1) := by decide +kernel
theorem dX7_degrees_23 : decode cX7_degrees 23 = .ok (.lreturn, 1) := by decide +kernel
theorem dX7_factorFor_0 : decode cX7_factorFor 0 = .ok (.iconst (-1), 1) := by decide +kernel
theorem dX7_factorFor_1 : decode cX7_factorFor 1 = .ok (.istore 4, 2) := by decide +kernel
theorem dX7_factorFor_3 : decode cX7_factorFor 3 = .ok (.iconst 0, 1) := by decide +kernel
theorem dX7_factorFor_4 : decode cX7_factorFor 4 = .ok (.istore 5, 2) := by decide +kernel
theorem dX7_factorFor_6 : decode cX7_factorFor 6 = .ok (.iload 5, 2) := by decide +kernel
theorem dX7_factorFor_8 : decode cX7_factorFor 8 = .ok (.aload_n 0, 1) := by decide +kernel
theorem dX7_factorFor_9 : decode cX7_factorFor 9 = .ok (.getfield 95, 3) := by decide +kernel
theorem dX7_factorFor_12 : decode cX7_factorFor 12 = .ok (.if_icmp .ge 70, 3) := by decide +kernel
theorem dX7_factorFor_15 : decode cX7_factorFor 15 = .ok (.iload_n 3, 1) := by decide +kernel
theorem dX7_factorFor_16 : decode cX7_factorFor 16 = .ok (.ifCond .ne 16, 3) := by decide +kernel
theorem dX7_factorFor_19 : decode cX7_factorFor 19 = .ok (.aload_n 0, 1) := by decide +kernel
theorem dX7_factorFor_20 : decode cX7_factorFor 20 = .ok (.getfield 99, 3) := by decide +kernel
theorem dX7_factorFor_23 : decode cX7_factorFor 23 = .ok (.iload 5, 2) := by decide +kernel
theorem dX7_factorFor_25 : decode cX7_factorFor 25 = .ok (.iaload, 1) := by decide +kernel
theorem dX7_factorFor_26 : decode cX7_factorFor 26 = .ok (.i2l, 1) := by decide +kernel
theorem dX7_factorFor_27 : decode cX7_factorFor 27 = .ok (.lload_n 1, 1) := by decide +kernel
theorem dX7_factorFor_28 : decode cX7_factorFor 28 = .ok (.lcmp, 1) := by decide +kernel
theorem dX7_factorFor_29 : decode cX7_factorFor 29 = .ok (.ifCond .gt 30, 3) := by decide +kernel
theorem dX7_factorFor_32 : decode cX7_factorFor 32 = .ok (.iload 4, 2) := by decide +kernel
theorem dX7_factorFor_34 : decode cX7_factorFor 34 = .ok (.iconst (-1), 1) := by decide +kernel
theorem dX7_factorFor_35 : decode cX7_factorFor 35 = .ok (.if_icmp .eq 20, 3) := by decide +kernel
theorem dX7_factorFor_38 : decode cX7_factorFor 38 = .ok (.aload_n 0, 1) := by decide +kernel
theorem dX7_factorFor_39 : decode cX7_factorFor 39 = .ok (.getfield 99, 3) := by decide +kernel
theorem dX7_factorFor_42 : decode cX7_factorFor 42 = .ok (.iload 5, 2) := by decide +kernel
theorem dX7_factorFor_44 : decode cX7_factorFor 44 = .ok (.iaload, 1) := by decide +kernel
theorem dX7_factorFor_45 : decode cX7_factorFor 45 = .ok (.aload_n 0, 1) := by decide +kernel
theorem dX7_factorFor_46 : decode cX7_factorFor 46 = .ok (.getfield 99, 3) := by decide +kernel
theorem dX7_factorFor_49 : decode cX7_factorFor 49 = .ok (.iload 4, 2) := by decide +kernel
theorem dX7_factorFor_51 : decode cX7_factorFor 51 = .ok (.iaload, 1) := by decide +kernel
theorem dX7_factorFor_52 : decode cX7_factorFor 52 = .ok (.if_icmp .le 7, 3) := by decide +kernel
theorem dX7_factorFor_55 : decode cX7_factorFor 55 = .ok (.iconst 1, 1) := by decide +kernel
theorem dX7_factorFor_56 : decode cX7_factorFor 56 = .ok (.goto 4, 3) := by decide +kernel
theorem dX7_factorFor_59 : decode cX7_factorFor 59 = .ok (.iconst 0, 1) := by decide +kernel
theorem dX7_factorFor_60 : decode cX7_factorFor 60 = .ok (.istore 6, 2) := by decide +kernel
theorem dX7_factorFor_62 : decode cX7_factorFor 62 = .ok (.iload 6, 2) := by decide +kernel
theorem dX7_factorFor_64 : decode cX7_factorFor 64 = .ok (.ifCond .eq 8, 3) := by decide +kernel
theorem dX7_factorFor_67 : decode cX7_factorFor 67 = .ok (.iload 5, 2) := by decide +kernel
theorem dX7_factorFor_69 : decode cX7_factorFor 69 = .ok (.goto 5, 3) := by decide +kernel
theorem dX7_factorFor_72 : decode cX7_factorFor 72 = .ok (.iload 4, 2) := by decide +kernel
theorem dX7_factorFor_74 : decode cX7_factorFor 74 = .ok (.istore 4, 2) := by decide +kernel
theorem dX7_factorFor_76 : decode cX7_factorFor 76 = .ok (.iinc 5 1, 3) := by decide +kernel
theorem dX7_factorFor_79 : decode cX7_factorFor 79 = .ok (.goto (-73), 3) := by decide +kernel
theorem dX7_factorFor_82 : decode cX7_factorFor 82 = .ok (.iload 4, 2) := by decide +kernel
theorem dX7_factorFor_84 : decode cX7_factorFor 84 = .ok (.iconst (-1), 1) := by decide +kernel
theorem dX7_factorFor_85 : decode cX7_factorFor 85 = .ok (.if_icmp .ne 7, 3) := by decide +kernel
theorem dX7_factorFor_88 : decode cX7_factorFor 88 = .ok (.iconst (-1), 1) := by decide +kernel
theorem dX7_factorFor_89 : decode cX7_factorFor 89 = .ok (.goto 10, 3) := by decide +kernel
theorem dX7_factorFor_92 : decode cX7_factorFor 92 = .ok (.aload_n 0, 1) := by decide +kernel
theorem dX7_factorFor_93 : decode cX7_factorFor 93 = .ok (.getfield 102, 3) := by decide +kernel
theorem dX7_factorFor_96 : decode cX7_factorFor 96 = .ok (.iload 4, 2) := by decide +kernel
theorem dX7_factorFor_98 : decode cX7_factorFor 98 = .ok (.iaload, 1) := by decide +kernel
theorem dX7_factorFor_99 : decode cX7_factorFor 99 = .ok (.ireturn, 1) := by decide +kernel
set_option maxRecDepth 20000 in
theorem ggX7_hasNone_X7_degreesSum : GoodIn wsX7_hasNone wsX7_degreesSum := goodIn_r _ [5, 6, 7, 8, 4, 9, 10, 11, 12, 13, 14, 15, 16, 17, 18, 19, 20, 21, 22, 23, 24, 25, 26, 27, 28, 29, 30, 31, 32, 33, 34, 35, 36, 37, 38, 39, 40, 41, 42, 43, 44, 45, 46, 47, 48, 49, 50, 51, 52, 53, 54, 55, 56, 57, 58, 59] (by decide +kernel) (by decide +kernel)
set_option maxRecDepth 20000 in
theorem gX7_hasNone_X7_degreesSum : GoodIn wsX7_hasNone (wsV RX7 216 RX7 yX7_degreesSum wsX7_degreesSum) := goodIn_app (goodIn_of _ (by decide +kernel)) ggX7_hasNone_X7_degreesSum
theorem dX7_hasNone_0 : decode cX7_hasNone 0 = .ok (.aload_n 0, 1) := by decide +kernel
theorem dX7_hasNone_1 : decode cX7_hasNone 1 = .ok (.lload_n 1, 1) := by decide +kernel
theorem dX7_hasNone_2 : decode cX7_hasNone 2 = .ok (.invokevirtual 216, 3) := by decide +kernel
theorem dX7_hasNone_5 : decode cX7_hasNone 5 = .ok (.lconst 0, 1) := by decide +kernel
theorem dX7_hasNone_6 : decode cX7_hasNone 6 = .ok (.lcmp, 1) := by decide +kernel
theorem dX7_hasNone_7 : decode cX7_hasNone 7 = .ok (.ifCond .ne 7, 3) := by decide +kernel
theorem dX7_hasNone_10 : decode cX7_hasNone 10 = .ok (.iconst 1, 1) := by decide +kernel
theorem dX7_hasNone_11 : decode cX7_hasNone 11 = .ok (.goto 4, 3) := by decide +kernel
theorem dX7_hasNone_14 : decode cX7_hasNone 14 = .ok (.iconst 0, 1) := by decide +kernel
theorem dX7_hasNone_15 : decode cX7_hasNone 15 = .ok (.ireturn, 1) := by decide +kernel
set_option maxRecDepth 20000 in
theorem ggX7_statedOf_X7_root : GoodIn wsX7_statedOf wsX7_root := goodIn_r _ [6, 1] (by decide +kernel) (by decide +kernel)
set_option maxRecDepth 20000 in
theorem gX7_statedOf_X7_root : GoodIn wsX7_statedOf (va_wsS RX7 222 yX7_root wsX7_root) := goodIn_app (goodIn_of _ (by decide +kernel)) ggX7_statedOf_X7_root
set_option maxRecDepth 20000 in
theorem ggX7_statedOf_X7_degrees : GoodIn wsX7_statedOf wsX7_degrees := goodIn_r _ [10, 1, 11, 12, 13, 14, 5, 15, 16, 17, 18, 19, 20, 21, 22, 23, 24, 25, 2, 26, 27, 28, 29, 30, 31, 43, 44, 45, 46, 47, 48, 49, 50, 51, 52, 53, 54, 55, 56, 57, 58, 59, 60, 61, 62, 63, 64, 65, 66, 67, 68, 69, 70, 71, 72, 73, 74, 75, 76, 77, 78, 79] (by decide +kernel) (by decide +kernel)
set_option maxRecDepth 20000 in
theorem gX7_statedOf_X7_degrees : GoodIn wsX7_statedOf (wsV RX7 224 RX7 yX7_degrees wsX7_degrees) := goodIn_app (goodIn_of _ (by decide +kernel)) ggX7_statedOf_X7_degrees
set_option maxRecDepth 20000 in
theorem ggX7_statedOf_X7_hasNone : GoodIn wsX7_statedOf wsX7_hasNone := goodIn_r _ [35, 12, 13, 14, 5, 15, 16, 17, 18, 19, 20, 21, 22, 23, 24, 25, 2, 26, 27, 28, 29, 30, 31, 43, 44, 45, 46, 47, 48, 49, 50, 51, 52, 53, 54, 55, 56, 57, 58, 59, 60, 61, 62, 63, 64, 65, 66, 67, 68, 69, 70, 71, 72, 73, 74, 75, 76, 77, 78, 79] (by decide +kernel) (by decide +kernel)
set_option maxRecDepth 20000 in
theorem gX7_statedOf_X7_hasNone : GoodIn wsX7_statedOf (wsV RX7 227 RX7 yX7_hasNone wsX7_hasNone) := goodIn_app (goodIn_of _ (by decide +kernel)) ggX7_statedOf_X7_hasNone
set_option maxRecDepth 20000 in
theorem ggX7_statedOf_X7_factorFor : GoodIn wsX7_statedOf wsX7_factorFor := goodIn_r _ [39, 40, 41, 42, 43, 44, 45, 46, 47, 48, 49, 50, 51, 52, 53, 54, 55, 56, 57, 58, 59, 60, 61, 62, 63, 64, 65, 66, 67, 68, 69, 70, 71, 72, 73, 74, 75, 76, 77, 78, 79] (by decide +kernel) (by decide +kernel)
set_option maxRecDepth 20000 in
theorem gX7_statedOf_X7_factorFor : GoodIn wsX7_statedOf (wsV RX7 231 RX7 yX7_factorFor wsX7_factorFor) := goodIn_app (goodIn_of _ (by decide +kernel)) ggX7_statedOf_X7_factorFor
theorem dX7_statedOf_0 : decode cX7_statedOf 0 = .ok (.lload_n 1, 1) := by decide +kernel
theorem dX7_statedOf_1 : decode cX7_statedOf 1 = .ok (.invokestatic 222, 3) := by decide +kernel
theorem dX7_statedOf_4 : decode cX7_statedOf 4 = .ok (.lstore_n 3, 1) := by decide +kernel
theorem dX7_statedOf_5 : decode cX7_statedOf 5 = .ok (.aload_n 0, 1) := by decide +kernel
theorem dX7_statedOf_6 : decode cX7_statedOf 6 = .ok (.aload_n 0, 1) := by decide +kernel
theorem dX7_statedOf_7 : decode cX7_statedOf 7 = .ok (.lload_n 1, 1) := by decide +kernel
theorem dX7_statedOf_8 : decode cX7_statedOf 8 = .ok (.invokevirtual 224, 3) := by decide +kernel
theorem dX7_statedOf_11 : decode cX7_statedOf 11 = .ok (.aload_n 0, 1) := by decide +kernel
theorem dX7_statedOf_12 : decode cX7_statedOf 12 = .ok (.lload_n 1, 1) := by decide +kernel
theorem dX7_statedOf_13 : decode cX7_statedOf 13 = .ok (.invokevirtual 227, 3) := by decide +kernel
theorem dX7_statedOf_16 : decode cX7_statedOf 16 = .ok (.invokevirtual 231, 3) := by decide +kernel
theorem dX7_statedOf_19 : decode cX7_statedOf 19 = .ok (.istore 5, 2) := by decide +kernel
theorem dX7_statedOf_21 : decode cX7_statedOf 21 = .ok (.lload_n 3, 1) := by decide +kernel
theorem dX7_statedOf_22 : decode cX7_statedOf 22 = .ok (.ldc2_w 208, 3) := by decide +kernel
theorem dX7_statedOf_25 : decode cX7_statedOf 25 = .ok (.lcmp, 1) := by decide +kernel
theorem dX7_statedOf_26 : decode cX7_statedOf 26 = .ok (.ifCond .eq 9, 3) := by decide +kernel
theorem dX7_statedOf_29 : decode cX7_statedOf 29 = .ok (.iload 5, 2) := by decide +kernel
theorem dX7_statedOf_31 : decode cX7_statedOf 31 = .ok (.iconst (-1), 1) := by decide +kernel
theorem dX7_statedOf_32 : decode cX7_statedOf 32 = .ok (.if_icmp .ne 9, 3) := by decide +kernel
theorem dX7_statedOf_35 : decode cX7_statedOf 35 = .ok (.ldc2_w 208, 3) := by decide +kernel
theorem dX7_statedOf_38 : decode cX7_statedOf 38 = .ok (.goto 12, 3) := by decide +kernel
theorem dX7_statedOf_41 : decode cX7_statedOf 41 = .ok (.lload_n 3, 1) := by decide +kernel
theorem dX7_statedOf_42 : decode cX7_statedOf 42 = .ok (.iload 5, 2) := by decide +kernel
theorem dX7_statedOf_44 : decode cX7_statedOf 44 = .ok (.i2l, 1) := by decide +kernel
theorem dX7_statedOf_45 : decode cX7_statedOf 45 = .ok (.lmul, 1) := by decide +kernel
theorem dX7_statedOf_46 : decode cX7_statedOf 46 = .ok (.ldc2_w 210, 3) := by decide +kernel
theorem dX7_statedOf_49 : decode cX7_statedOf 49 = .ok (.ldiv, 1) := by decide +kernel
theorem dX7_statedOf_50 : decode cX7_statedOf 50 = .ok (.lreturn, 1) := by decide +kernel
set_option maxRecDepth 20000 in
theorem ggX7_budget_X7_isModel : GoodIn wsX7_budget wsX7_isModel := goodIn_r _ [5, 6, 7, 8, 4, 9, 90, 91, 92, 93, 94, 95, 96, 97, 98, 99, 100, 101, 102, 103, 104, 105, 106, 107, 108, 109, 110, 111, 112, 113, 114, 115, 116, 117, 118, 119, 120, 121, 122, 123, 124, 125, 126] (by decide +kernel) (by decide +kernel)
set_option maxRecDepth 20000 in
theorem gX7_budget_X7_isModel : GoodIn wsX7_budget (wsV RX7 185 RX7 yX7_isModel wsX7_isModel) := goodIn_app (goodIn_of _ (by decide +kernel)) ggX7_budget_X7_isModel
set_option maxRecDepth 20000 in
theorem ggX7_budget_X7_isIn : GoodIn wsX7_budget wsX7_isIn := goodIn_r _ [9] (by decide +kernel) (by decide +kernel)
set_option maxRecDepth 20000 in
theorem gX7_budget_X7_isIn : GoodIn wsX7_budget (va_wsS RX7 111 yX7_isIn wsX7_isIn) := goodIn_app (goodIn_of _ (by decide +kernel)) ggX7_budget_X7_isIn
set_option maxRecDepth 20000 in
theorem ggX7_budget_X7_holds : GoodIn wsX7_budget wsX7_holds := goodIn_r _ [13, 14, 90, 91, 92, 93, 94, 95, 96, 97, 98, 99, 100, 101, 102, 103, 104, 105, 106, 107, 108, 109, 110, 111, 112, 113, 114, 115, 116, 117, 118, 119, 120, 121, 122, 123, 124, 125, 126] (by decide +kernel) (by decide +kernel)
set_option maxRecDepth 20000 in
theorem gX7_budget_X7_holds : GoodIn wsX7_budget (wsV RX7 122 RX7 yX7_holds wsX7_holds) := goodIn_app (goodIn_of _ (by decide +kernel)) ggX7_budget_X7_holds
set_option maxRecDepth 20000 in
theorem ggX7_budget_X7_laysSlopes : GoodIn wsX7_budget wsX7_laysSlopes := goodIn_r _ [18, 19, 20, 21, 22, 4, 23, 24, 25, 26, 27, 28, 29, 30, 31, 32, 33, 34, 35, 36, 37, 38, 39, 90, 91, 92, 93, 94, 95, 96, 97, 98, 99, 100, 101, 102, 103, 104, 105, 106, 107, 108, 109, 110, 111, 112, 113, 114, 115, 116, 117, 118, 119, 120, 121, 122, 123, 124, 125, 126] (by decide +kernel) (by decide +kernel)
set_option maxRecDepth 20000 in
theorem gX7_budget_X7_laysSlopes : GoodIn wsX7_budget (wsV RX7 235 RX7 yX7_laysSlopes wsX7_laysSlopes) := goodIn_app (goodIn_of _ (by decide +kernel)) ggX7_budget_X7_laysSlopes
set_option maxRecDepth 20000 in
theorem ggX7_budget_X7_varianceOf : GoodIn wsX7_budget wsX7_varianceOf := goodIn_r _ [43, 44, 19, 45, 46, 47, 48, 4, 49, 50, 90, 91, 92, 93, 94, 95, 96, 97, 98, 99, 100, 101, 102, 103, 104, 105, 106, 107, 108, 109, 110, 111, 112, 113, 114, 115, 116, 117, 118, 119, 120, 121, 122, 123, 124, 125, 126] (by decide +kernel) (by decide +kernel)
set_option maxRecDepth 20000 in
theorem gX7_budget_X7_varianceOf : GoodIn wsX7_budget (wsV RX7 238 RX7 yX7_varianceOf wsX7_varianceOf) := goodIn_app (goodIn_of _ (by decide +kernel)) ggX7_budget_X7_varianceOf
set_option maxRecDepth 20000 in
theorem ggX7_budget_X7_root : GoodIn wsX7_budget wsX7_root := goodIn_r _ [53, 54] (by decide +kernel) (by decide +kernel)
set_option maxRecDepth 20000 in
theorem gX7_budget_X7_root : GoodIn wsX7_budget (va_wsS RX7 222 yX7_root wsX7_root) := goodIn_app (goodIn_of _ (by decide +kernel)) ggX7_budget_X7_root
set_option maxRecDepth 20000 in
theorem ggX7_budget_X7_degrees : GoodIn wsX7_budget wsX7_degrees := goodIn_r _ [58, 54, 59, 60, 61, 62, 4, 63, 64, 65, 66, 67, 68, 69, 70, 71, 72, 73, 74, 46, 47, 48, 49, 19, 50, 90, 91, 92, 93, 94, 95, 96, 97, 98, 99, 100, 101, 102, 103, 104, 105, 106, 107, 108, 109, 110, 111, 112, 113, 114, 115, 116, 117, 118, 119, 120, 121, 122, 123, 124, 125, 126] (by decide +kernel) (by decide +kernel)
set_option maxRecDepth 20000 in
theorem gX7_budget_X7_degrees : GoodIn wsX7_budget (wsV RX7 224 RX7 yX7_degrees wsX7_degrees) := goodIn_app (goodIn_of _ (by decide +kernel)) ggX7_budget_X7_degrees
set_option maxRecDepth 20000 in
theorem ggX7_budget_X7_hasNone : GoodIn wsX7_budget wsX7_hasNone := goodIn_r _ [78, 60, 61, 62, 4, 63, 64, 65, 66, 67, 68, 69, 70, 71, 72, 73, 74, 46, 47, 48, 49, 19, 50, 90, 91, 92, 93, 94, 95, 96, 97, 98, 99, 100, 101, 102, 103, 104, 105, 106, 107, 108, 109, 110, 111, 112, 113, 114, 115, 116, 117, 118, 119, 120, 121, 122, 123, 124, 125, 126] (by decide +kernel) (by decide +kernel)
set_option maxRecDepth 20000 in
theorem gX7_budget_X7_hasNone : GoodIn wsX7_budget (wsV RX7 227 RX7 yX7_hasNone wsX7_hasNone) := goodIn_app (goodIn_of _ (by decide +kernel)) ggX7_budget_X7_hasNone
set_option maxRecDepth 20000 in
theorem ggX7_budget_X7_factorFor : GoodIn wsX7_budget wsX7_factorFor := goodIn_r _ [82, 83, 84, 85, 90, 91, 92, 93, 94, 95, 96, 97, 98, 99, 100, 101, 102, 103, 104, 105, 106, 107, 108, 109, 110, 111, 112, 113, 114, 115, 116, 117, 118, 119, 120, 121, 122, 123, 124, 125, 126] (by decide +kernel) (by decide +kernel)
set_option maxRecDepth 20000 in
theorem gX7_budget_X7_factorFor : GoodIn wsX7_budget (wsV RX7 231 RX7 yX7_factorFor wsX7_factorFor) := goodIn_app (goodIn_of _ (by decide +kernel)) ggX7_budget_X7_factorFor
set_option maxRecDepth 20000 in
theorem ggX7_budget_X7_statedOf : GoodIn wsX7_budget wsX7_statedOf := goodIn_r _ [89, 54, 74, 51, 52, 4, 53, 55, 56, 57, 58, 59, 60, 61, 62, 63, 64, 65, 66, 67, 68, 69, 70, 71, 72, 73, 46, 47, 48, 49, 19, 50, 75, 76, 77, 78, 79, 80, 81, 82, 83, 84, 85, 90, 91, 92, 93, 94, 95, 96, 97, 98, 99, 100, 101, 102, 103, 104, 105, 106, 107, 108, 109, 110, 111, 112, 113, 114, 115, 116, 117, 118, 119, 120, 121, 122, 123, 124, 125, 126] (by decide +kernel) (by decide +kernel)
set_option maxRecDepth 20000 in
theorem gX7_budget_X7_statedOf : GoodIn wsX7_budget (wsV RX7 242 RX7 yX7_statedOf wsX7_statedOf) := goodIn_app (goodIn_of _ (by decide +kernel)) ggX7_budget_X7_statedOf
theorem dX7_budget_0 : decode cX7_budget 0 = .ok (.aload_n 0, 1) := by decide +kernel
theorem dX7_budget_1 : decode cX7_budget 1 = .ok (.aload_n 0, 1) := by decide +kernel
theorem dX7_budget_2 : decode cX7_budget 2 = .ok (.iload_n 1, 1) := by decide +kernel
theorem dX7_budget_3 : decode cX7_budget 3 = .ok (.invokevirtual 185, 3) := by decide +kernel
theorem dX7_budget_6 : decode cX7_budget 6 = .ok (.ifCond .ne 7, 3) := by decide +kernel
theorem dX7_budget_9 : decode cX7_budget 9 = .ok (.iconst 1, 1) := by decide +kernel
theorem dX7_budget_10 : decode cX7_budget 10 = .ok (.goto 17, 3) := by decide +kernel
theorem dX7_budget_13 : decode cX7_budget 13 = .ok (.iload_n 2, 1) := by decide +kernel
theorem dX7_budget_14 : decode cX7_budget 14 = .ok (.iconst 0, 1) := by decide +kernel
theorem dX7_budget_15 : decode cX7_budget 15 = .ok (.iconst 4, 1) := by decide +kernel
theorem dX7_budget_16 : decode cX7_budget 16 = .ok (.invokestatic 111, 3) := by decide +kernel
theorem dX7_budget_19 : decode cX7_budget 19 = .ok (.ifCond .eq 7, 3) := by decide +kernel
theorem dX7_budget_22 : decode cX7_budget 22 = .ok (.iconst 0, 1) := by decide +kernel
theorem dX7_budget_23 : decode cX7_budget 23 = .ok (.goto 4, 3) := by decide +kernel
theorem dX7_budget_26 : decode cX7_budget 26 = .ok (.iconst 2, 1) := by decide +kernel
theorem dX7_budget_27 : decode cX7_budget 27 = .ok (.invokevirtual 122, 3) := by decide +kernel
theorem dX7_budget_30 : decode cX7_budget 30 = .ok (.ifCond .ne 5, 3) := by decide +kernel
theorem dX7_budget_33 : decode cX7_budget 33 = .ok (.lconst 0, 1) := by decide +kernel
theorem dX7_budget_34 : decode cX7_budget 34 = .ok (.lreturn, 1) := by decide +kernel
theorem dX7_budget_35 : decode cX7_budget 35 = .ok (.aload_n 0, 1) := by decide +kernel
theorem dX7_budget_36 : decode cX7_budget 36 = .ok (.iload_n 1, 1) := by decide +kernel
theorem dX7_budget_37 : decode cX7_budget 37 = .ok (.invokevirtual 235, 3) := by decide +kernel
theorem dX7_budget_40 : decode cX7_budget 40 = .ok (.aload_n 0, 1) := by decide +kernel
theorem dX7_budget_41 : decode cX7_budget 41 = .ok (.invokevirtual 238, 3) := by decide +kernel
theorem dX7_budget_44 : decode cX7_budget 44 = .ok (.lstore_n 3, 1) := by decide +kernel
theorem dX7_budget_45 : decode cX7_budget 45 = .ok (.iload_n 2, 1) := by decide +kernel
theorem dX7_budget_46 : decode cX7_budget 46 = .ok (.iconst 2, 1) := by decide +kernel
theorem dX7_budget_47 : decode cX7_budget 47 = .ok (.if_icmp .ge 16, 3) := by decide +kernel
theorem dX7_budget_50 : decode cX7_budget 50 = .ok (.iload_n 2, 1) := by decide +kernel
theorem dX7_budget_51 : decode cX7_budget 51 = .ok (.ifCond .ne 7, 3) := by decide +kernel
theorem dX7_budget_54 : decode cX7_budget 54 = .ok (.lload_n 3, 1) := by decide +kernel
theorem dX7_budget_55 : decode cX7_budget 55 = .ok (.goto 7, 3) := by decide +kernel
theorem dX7_budget_58 : decode cX7_budget 58 = .ok (.lload_n 3, 1) := by decide +kernel
theorem dX7_budget_59 : decode cX7_budget 59 = .ok (.invokestatic 222, 3) := by decide +kernel
theorem dX7_budget_62 : decode cX7_budget 62 = .ok (.lreturn, 1) := by decide +kernel
theorem dX7_budget_63 : decode cX7_budget 63 = .ok (.iload_n 2, 1) := by decide +kernel
theorem dX7_budget_64 : decode cX7_budget 64 = .ok (.iconst 2, 1) := by decide +kernel
theorem dX7_budget_65 : decode cX7_budget 65 = .ok (.if_icmp .ne 11, 3) := by decide +kernel
theorem dX7_budget_68 : decode cX7_budget 68 = .ok (.aload_n 0, 1) := by decide +kernel
theorem dX7_budget_69 : decode cX7_budget 69 = .ok (.lload_n 3, 1) := by decide +kernel
theorem dX7_budget_70 : decode cX7_budget 70 = .ok (.invokevirtual 224, 3) := by decide +kernel
theorem dX7_budget_73 : decode cX7_budget 73 = .ok (.goto 31, 3) := by decide +kernel
theorem dX7_budget_76 : decode cX7_budget 76 = .ok (.iload_n 2, 1) := by decide +kernel
theorem dX7_budget_77 : decode cX7_budget 77 = .ok (.iconst 3, 1) := by decide +kernel
theorem dX7_budget_78 : decode cX7_budget 78 = .ok (.if_icmp .ne 21, 3) := by decide +kernel
theorem dX7_budget_81 : decode cX7_budget 81 = .ok (.aload_n 0, 1) := by decide +kernel
theorem dX7_budget_82 : decode cX7_budget 82 = .ok (.aload_n 0, 1) := by decide +kernel
theorem dX7_budget_83 : decode cX7_budget 83 = .ok (.lload_n 3, 1) := by decide +kernel
theorem dX7_budget_84 : decode cX7_budget 84 = .ok (.invokevirtual 224, 3) := by decide +kernel
theorem dX7_budget_87 : decode cX7_budget 87 = .ok (.aload_n 0, 1) := by decide +kernel
theorem dX7_budget_88 : decode cX7_budget 88 = .ok (.lload_n 3, 1) := by decide +kernel
theorem dX7_budget_89 : decode cX7_budget 89 = .ok (.invokevirtual 227, 3) := by decide +kernel
theorem dX7_budget_92 : decode cX7_budget 92 = .ok (.invokevirtual 231, 3) := by decide +kernel
theorem dX7_budget_95 : decode cX7_budget 95 = .ok (.i2l, 1) := by decide +kernel
theorem dX7_budget_96 : decode cX7_budget 96 = .ok (.goto 8, 3) := by decide +kernel
theorem dX7_budget_99 : decode cX7_budget 99 = .ok (.aload_n 0, 1) := by decide +kernel
theorem dX7_budget_100 : decode cX7_budget 100 = .ok (.lload_n 3, 1) := by decide +kernel
theorem dX7_budget_101 : decode cX7_budget 101 = .ok (.invokevirtual 242, 3) := by decide +kernel
theorem dX7_budget_104 : decode cX7_budget 104 = .ok (.lreturn, 1) := by decide +kernel
set_option maxRecDepth 20000 in
theorem ggX7_contribution_X7_isModel : GoodIn wsX7_contribution wsX7_isModel := goodIn_r _ [5, 6, 7, 8, 4, 9, 59, 60, 61, 62, 63, 64, 65, 66, 67, 68, 69, 70, 71, 72, 73, 74, 75, 76, 77, 78, 79, 80, 81, 82, 83, 84, 85, 86, 87, 88, 89, 90, 91, 92, 93, 94, 95] (by decide +kernel) (by decide +kernel)
set_option maxRecDepth 20000 in
theorem gX7_contribution_X7_isModel : GoodIn wsX7_contribution (wsV RX7 185 RX7 yX7_isModel wsX7_isModel) := goodIn_app (goodIn_of _ (by decide +kernel)) ggX7_contribution_X7_isModel
set_option maxRecDepth 20000 in
theorem ggX7_contribution_X7_isInput : GoodIn wsX7_contribution wsX7_isInput := goodIn_r _ [12, 7, 8, 4, 9] (by decide +kernel) (by decide +kernel)
set_option maxRecDepth 20000 in
theorem gX7_contribution_X7_isInput : GoodIn wsX7_contribution (va_wsS RX7 118 yX7_isInput wsX7_isInput) := goodIn_app (goodIn_of _ (by decide +kernel)) ggX7_contribution_X7_isInput
set_option maxRecDepth 20000 in
theorem ggX7_contribution_X7_holds : GoodIn wsX7_contribution wsX7_holds := goodIn_r _ [16, 17, 59, 60, 61, 62, 63, 64, 65, 66, 67, 68, 69, 70, 71, 72, 73, 74, 75, 76, 77, 78, 79, 80, 81, 82, 83, 84, 85, 86, 87, 88, 89, 90, 91, 92, 93, 94, 95] (by decide +kernel) (by decide +kernel)
set_option maxRecDepth 20000 in
theorem gX7_contribution_X7_holds : GoodIn wsX7_contribution (wsV RX7 122 RX7 yX7_holds wsX7_holds) := goodIn_app (goodIn_of _ (by decide +kernel)) ggX7_contribution_X7_holds
set_option maxRecDepth 20000 in
theorem ggX7_contribution_X7_laysSlopes : GoodIn wsX7_contribution wsX7_laysSlopes := goodIn_r _ [21, 22, 23, 24, 25, 4, 26, 27, 28, 29, 30, 31, 32, 33, 34, 35, 36, 37, 38, 39, 40, 41, 42, 59, 60, 61, 62, 63, 64, 65, 66, 67, 68, 69, 70, 71, 72, 73, 74, 75, 76, 77, 78, 79, 80, 81, 82, 83, 84, 85, 86, 87, 88, 89, 90, 91, 92, 93, 94, 95] (by decide +kernel) (by decide +kernel)
set_option maxRecDepth 20000 in
theorem gX7_contribution_X7_laysSlopes : GoodIn wsX7_contribution (wsV RX7 235 RX7 yX7_laysSlopes wsX7_laysSlopes) := goodIn_app (goodIn_of _ (by decide +kernel)) ggX7_contribution_X7_laysSlopes
set_option maxRecDepth 20000 in
theorem ggX7_contribution_X7_varianceOf : GoodIn wsX7_contribution wsX7_varianceOf := goodIn_r _ [46, 47, 22, 48, 49, 50, 51, 4, 52, 53, 59, 60, 61, 62, 63, 64, 65, 66, 67, 68, 69, 70, 71, 72, 73, 74, 75, 76, 77, 78, 79, 80, 81, 82, 83, 84, 85, 86, 87, 88, 89, 90, 91, 92, 93, 94, 95] (by decide +kernel) (by decide +kernel)
set_option maxRecDepth 20000 in
theorem gX7_contribution_X7_varianceOf : GoodIn wsX7_contribution (wsV RX7 238 RX7 yX7_varianceOf wsX7_varianceOf) := goodIn_app (goodIn_of _ (by decide +kernel)) ggX7_contribution_X7_varianceOf
set_option maxRecDepth 20000 in
theorem ggX7_contribution_X7_shareOf : GoodIn wsX7_contribution wsX7_shareOf := goodIn_r _ [57, 58, 49, 50, 51, 4, 52, 22, 53, 59, 60, 61, 62, 63, 64, 65, 66, 67, 68, 69, 70, 71, 72, 73, 74, 75, 76, 77, 78, 79, 80, 81, 82, 83, 84, 85, 86, 87, 88, 89, 90, 91, 92, 93, 94, 95] (by decide +kernel) (by decide +kernel)
set_option maxRecDepth 20000 in
theorem gX7_contribution_X7_shareOf : GoodIn wsX7_contribution (wsV RX7 212 RX7 yX7_shareOf wsX7_shareOf) := goodIn_app (goodIn_of _ (by decide +kernel)) ggX7_contribution_X7_shareOf
set_option maxRecDepth 20000 in
theorem ggX7_contribution_X7_part : GoodIn wsX7_contribution wsX7_part := goodIn_r _ [52, 22, 53, 59, 60, 61, 62, 63, 64, 65, 66, 67, 68, 69, 70, 71, 72, 73, 74, 75, 76, 77, 78, 79, 80, 81, 82, 83, 84, 85, 86, 87, 88, 89, 90, 91, 92, 93, 94, 95] (by decide +kernel) (by decide +kernel)
set_option maxRecDepth 20000 in
theorem gX7_contribution_X7_part : GoodIn wsX7_contribution (wsV RX7 202 RX7 yX7_part wsX7_part) := goodIn_app (goodIn_of _ (by decide +kernel)) ggX7_contribution_X7_part
theorem dX7_contribution_0 : decode cX7_contribution 0 = .ok (.aload_n 0, 1) := by decide +kernel
theorem dX7_contribution_1 : decode cX7_contribution 1 = .ok (.aload_n 0, 1) := by decide +kernel
theorem dX7_contribution_2 : decode cX7_contribution 2 = .ok (.iload_n 1, 1) := by decide +kernel
theorem dX7_contribution_3 : decode cX7_contribution 3 = .ok (.invokevirtual 185, 3) := by decide +kernel
theorem dX7_contribution_6 : decode cX7_contribution 6 = .ok (.ifCond .eq 14, 3) := by decide +kernel
theorem dX7_contribution_9 : decode cX7_contribution 9 = .ok (.iload_n 2, 1) := by decide +kernel
theorem dX7_contribution_10 : decode cX7_contribution 10 = .ok (.invokestatic 118, 3) := by decide +kernel
theorem dX7_contribution_13 : decode cX7_contribution 13 = .ok (.ifCond .eq 7, 3) := by decide +kernel
theorem dX7_contribution_16 : decode cX7_contribution 16 = .ok (.iconst 0, 1) := by decide +kernel
theorem dX7_contribution_17 : decode cX7_contribution 17 = .ok (.goto 4, 3) := by decide +kernel
theorem dX7_contribution_20 : decode cX7_contribution 20 = .ok (.iconst 1, 1) := by decide +kernel
theorem dX7_contribution_21 : decode cX7_contribution 21 = .ok (.invokevirtual 122, 3) := by decide +kernel
theorem dX7_contribution_24 : decode cX7_contribution 24 = .ok (.ifCond .ne 5, 3) := by decide +kernel
theorem dX7_contribution_27 : decode cX7_contribution 27 = .ok (.lconst 0, 1) := by decide +kernel
theorem dX7_contribution_28 : decode cX7_contribution 28 = .ok (.lreturn, 1) := by decide +kernel
theorem dX7_contribution_29 : decode cX7_contribution 29 = .ok (.aload_n 0, 1) := by decide +kernel
theorem dX7_contribution_30 : decode cX7_contribution 30 = .ok (.iload_n 1, 1) := by decide +kernel
theorem dX7_contribution_31 : decode cX7_contribution 31 = .ok (.invokevirtual 235, 3) := by decide +kernel
theorem dX7_contribution_34 : decode cX7_contribution 34 = .ok (.iload_n 3, 1) := by decide +kernel
theorem dX7_contribution_35 : decode cX7_contribution 35 = .ok (.ifCond .eq 15, 3) := by decide +kernel
theorem dX7_contribution_38 : decode cX7_contribution 38 = .ok (.aload_n 0, 1) := by decide +kernel
theorem dX7_contribution_39 : decode cX7_contribution 39 = .ok (.iload_n 2, 1) := by decide +kernel
theorem dX7_contribution_40 : decode cX7_contribution 40 = .ok (.aload_n 0, 1) := by decide +kernel
theorem dX7_contribution_41 : decode cX7_contribution 41 = .ok (.invokevirtual 238, 3) := by decide +kernel
theorem dX7_contribution_44 : decode cX7_contribution 44 = .ok (.invokevirtual 212, 3) := by decide +kernel
theorem dX7_contribution_47 : decode cX7_contribution 47 = .ok (.goto 8, 3) := by decide +kernel
theorem dX7_contribution_50 : decode cX7_contribution 50 = .ok (.aload_n 0, 1) := by decide +kernel
theorem dX7_contribution_51 : decode cX7_contribution 51 = .ok (.iload_n 2, 1) := by decide +kernel
theorem dX7_contribution_52 : decode cX7_contribution 52 = .ok (.invokevirtual 202, 3) := by decide +kernel
theorem dX7_contribution_55 : decode cX7_contribution 55 = .ok (.lreturn, 1) := by decide +kernel
set_option maxRecDepth 20000 in
theorem ggX7_ranked_X7_isModel : GoodIn wsX7_ranked wsX7_isModel := goodIn_r _ [5, 6, 7, 8, 4, 9, 45, 46, 47, 48, 49, 50, 51, 52, 53, 54, 55, 56, 57, 58, 59, 60, 61, 62, 63, 64, 65, 66, 67, 68, 69, 70, 71, 72, 73, 74, 75, 76, 77, 78, 79, 80, 81] (by decide +kernel) (by decide +kernel)
set_option maxRecDepth 20000 in
theorem gX7_ranked_X7_isModel : GoodIn wsX7_ranked (wsV RX7 185 RX7 yX7_isModel wsX7_isModel) := goodIn_app (goodIn_of _ (by decide +kernel)) ggX7_ranked_X7_isModel
set_option maxRecDepth 20000 in
theorem ggX7_ranked_X7_holds : GoodIn wsX7_ranked wsX7_holds := goodIn_r _ [13, 14, 45, 46, 47, 48, 49, 50, 51, 52, 53, 54, 55, 56, 57, 58, 59, 60, 61, 62, 63, 64, 65, 66, 67, 68, 69, 70, 71, 72, 73, 74, 75, 76, 77, 78, 79, 80, 81] (by decide +kernel) (by decide +kernel)
set_option maxRecDepth 20000 in
theorem gX7_ranked_X7_holds : GoodIn wsX7_ranked (wsV RX7 122 RX7 yX7_holds wsX7_holds) := goodIn_app (goodIn_of _ (by decide +kernel)) ggX7_ranked_X7_holds
set_option maxRecDepth 20000 in
theorem ggX7_ranked_X7_laysSlopes : GoodIn wsX7_ranked wsX7_laysSlopes := goodIn_r _ [18, 19, 20, 21, 22, 4, 23, 24, 25, 26, 27, 28, 29, 30, 31, 32, 33, 34, 35, 36, 37, 38, 39, 45, 46, 47, 48, 49, 50, 51, 52, 53, 54, 55, 56, 57, 58, 59, 60, 61, 62, 63, 64, 65, 66, 67, 68, 69, 70, 71, 72, 73, 74, 75, 76, 77, 78, 79, 80, 81] (by decide +kernel) (by decide +kernel)
set_option maxRecDepth 20000 in
theorem gX7_ranked_X7_laysSlopes : GoodIn wsX7_ranked (wsV RX7 235 RX7 yX7_laysSlopes wsX7_laysSlopes) := goodIn_app (goodIn_of _ (by decide +kernel)) ggX7_ranked_X7_laysSlopes
set_option maxRecDepth 20000 in
theorem ggX7_ranked_X7_part : GoodIn wsX7_ranked wsX7_part := goodIn_r _ [43, 19, 44, 45, 46, 47, 48, 49, 50, 51, 52, 53, 54, 55, 56, 57, 58, 59, 60, 61, 62, 63, 64, 65, 66, 67, 68, 69, 70, 71, 72, 73, 74, 75, 76, 77, 78, 79, 80, 81] (by decide +kernel) (by decide +kernel)
set_option maxRecDepth 20000 in
theorem gX7_ranked_X7_part : GoodIn wsX7_ranked (wsV RX7 202 RX7 yX7_part wsX7_part) := goodIn_app (goodIn_of _ (by decide +kernel)) ggX7_ranked_X7_part
theorem dX7_ranked_0 : decode cX7_ranked 0 = .ok (.aload_n 0, 1) := by decide +kernel
theorem dX7_ranked_1 : decode cX7_ranked 1 = .ok (.aload_n 0, 1) := by decide +kernel
theorem dX7_ranked_2 : decode cX7_ranked 2 = .ok (.iload_n 1, 1) := by decide +kernel
theorem dX7_ranked_3 : decode cX7_ranked 3 = .ok (.invokevirtual 185, 3) := by decide +kernel
theorem dX7_ranked_6 : decode cX7_ranked 6 = .ok (.ifCond .eq 11, 3) := by decide +kernel
theorem dX7_ranked_9 : decode cX7_ranked 9 = .ok (.iload_n 2, 1) := by decide +kernel
theorem dX7_ranked_10 : decode cX7_ranked 10 = .ok (.ifCond .lt 7, 3) := by decide +kernel
theorem dX7_ranked_13 : decode cX7_ranked 13 = .ok (.iconst 0, 1) := by decide +kernel
theorem dX7_ranked_14 : decode cX7_ranked 14 = .ok (.goto 4, 3) := by decide +kernel
theorem dX7_ranked_17 : decode cX7_ranked 17 = .ok (.iconst 1, 1) := by decide +kernel
theorem dX7_ranked_18 : decode cX7_ranked 18 = .ok (.invokevirtual 122, 3) := by decide +kernel
theorem dX7_ranked_21 : decode cX7_ranked 21 = .ok (.ifCond .ne 5, 3) := by decide +kernel
theorem dX7_ranked_24 : decode cX7_ranked 24 = .ok (.iconst 0, 1) := by decide +kernel
theorem dX7_ranked_25 : decode cX7_ranked 25 = .ok (.ireturn, 1) := by decide +kernel
theorem dX7_ranked_26 : decode cX7_ranked 26 = .ok (.aload_n 0, 1) := by decide +kernel
theorem dX7_ranked_27 : decode cX7_ranked 27 = .ok (.iload_n 1, 1) := by decide +kernel
theorem dX7_ranked_28 : decode cX7_ranked 28 = .ok (.invokevirtual 235, 3) := by decide +kernel
theorem dX7_ranked_31 : decode cX7_ranked 31 = .ok (.iconst 0, 1) := by decide +kernel
theorem dX7_ranked_32 : decode cX7_ranked 32 = .ok (.istore_n 3, 1) := by decide +kernel
theorem dX7_ranked_33 : decode cX7_ranked 33 = .ok (.iload_n 3, 1) := by decide +kernel
theorem dX7_ranked_34 : decode cX7_ranked 34 = .ok (.bipush 6, 2) := by decide +kernel
theorem dX7_ranked_36 : decode cX7_ranked 36 = .ok (.if_icmp .ge 82, 3) := by decide +kernel
theorem dX7_ranked_39 : decode cX7_ranked 39 = .ok (.iconst 0, 1) := by decide +kernel
theorem dX7_ranked_40 : decode cX7_ranked 40 = .ok (.istore 4, 2) := by decide +kernel
theorem dX7_ranked_42 : decode cX7_ranked 42 = .ok (.iconst 0, 1) := by decide +kernel
theorem dX7_ranked_43 : decode cX7_ranked 43 = .ok (.istore 5, 2) := by decide +kernel
theorem dX7_ranked_45 : decode cX7_ranked 45 = .ok (.iload 5, 2) := by decide +kernel
theorem dX7_ranked_47 : decode cX7_ranked 47 = .ok (.bipush 6, 2) := by decide +kernel
theorem dX7_ranked_49 : decode cX7_ranked 49 = .ok (.if_icmp .ge 55, 3) := by decide +kernel
theorem dX7_ranked_52 : decode cX7_ranked 52 = .ok (.iload 4, 2) := by decide +kernel
theorem dX7_ranked_54 : decode cX7_ranked 54 = .ok (.aload_n 0, 1) := by decide +kernel
theorem dX7_ranked_55 : decode cX7_ranked 55 = .ok (.iload 5, 2) := by decide +kernel
theorem dX7_ranked_57 : decode cX7_ranked 57 = .ok (.invokevirtual 202, 3) := by decide +kernel
theorem dX7_ranked_60 : decode cX7_ranked 60 = .ok (.aload_n 0, 1) := by decide +kernel
theorem dX7_ranked_61 : decode cX7_ranked 61 = .ok (.iload_n 3, 1) := by decide +kernel
theorem dX7_ranked_62 : decode cX7_ranked 62 = .ok (.invokevirtual 202, 3) := by decide +kernel
theorem dX7_ranked_65 : decode cX7_ranked 65 = .ok (.lcmp, 1) := by decide +kernel
theorem dX7_ranked_66 : decode cX7_ranked 66 = .ok (.ifCond .gt 24, 3) := by decide +kernel
theorem dX7_ranked_69 : decode cX7_ranked 69 = .ok (.aload_n 0, 1) := by decide +kernel
theorem dX7_ranked_70 : decode cX7_ranked 70 = .ok (.iload 5, 2) := by decide +kernel
theorem dX7_ranked_72 : decode cX7_ranked 72 = .ok (.invokevirtual 202, 3) := by decide +kernel
theorem dX7_ranked_75 : decode cX7_ranked 75 = .ok (.aload_n 0, 1) := by decide +kernel
theorem dX7_ranked_76 : decode cX7_ranked 76 = .ok (.iload_n 3, 1) := by decide +kernel
theorem dX7_ranked_77 : decode cX7_ranked 77 = .ok (.invokevirtual 202, 3) := by decide +kernel
theorem dX7_ranked_80 : decode cX7_ranked 80 = .ok (.lcmp, 1) := by decide +kernel
theorem dX7_ranked_81 : decode cX7_ranked 81 = .ok (.ifCond .ne 13, 3) := by decide +kernel
theorem dX7_ranked_84 : decode cX7_ranked 84 = .ok (.iload 5, 2) := by decide +kernel
theorem dX7_ranked_86 : decode cX7_ranked 86 = .ok (.iload_n 3, 1) := by decide +kernel
theorem dX7_ranked_87 : decode cX7_ranked 87 = .ok (.if_icmp .ge 7, 3) := by decide +kernel
theorem dX7_ranked_90 : decode cX7_ranked 90 = .ok (.iconst 1, 1) := by decide +kernel
theorem dX7_ranked_91 : decode cX7_ranked 91 = .ok (.goto 4, 3) := by decide +kernel
theorem dX7_ranked_94 : decode cX7_ranked 94 = .ok (.iconst 0, 1) := by decide +kernel
theorem dX7_ranked_95 : decode cX7_ranked 95 = .ok (.iadd, 1) := by decide +kernel
theorem dX7_ranked_96 : decode cX7_ranked 96 = .ok (.istore 4, 2) := by decide +kernel
theorem dX7_ranked_98 : decode cX7_ranked 98 = .ok (.iinc 5 1, 3) := by decide +kernel
theorem dX7_ranked_101 : decode cX7_ranked 101 = .ok (.goto (-56), 3) := by decide +kernel
theorem dX7_ranked_104 : decode cX7_ranked 104 = .ok (.iload 4, 2) := by decide +kernel
theorem dX7_ranked_106 : decode cX7_ranked 106 = .ok (.iload_n 2, 1) := by decide +kernel
theorem dX7_ranked_107 : decode cX7_ranked 107 = .ok (.if_icmp .ne 5, 3) := by decide +kernel
theorem dX7_ranked_110 : decode cX7_ranked 110 = .ok (.iload_n 3, 1) := by decide +kernel
theorem dX7_ranked_111 : decode cX7_ranked 111 = .ok (.ireturn, 1) := by decide +kernel
theorem dX7_ranked_112 : decode cX7_ranked 112 = .ok (.iinc 3 1, 3) := by decide +kernel
theorem dX7_ranked_115 : decode cX7_ranked 115 = .ok (.goto (-82), 3) := by decide +kernel
theorem dX7_ranked_118 : decode cX7_ranked 118 = .ok (.iconst (-1), 1) := by decide +kernel
theorem dX7_ranked_119 : decode cX7_ranked 119 = .ok (.ireturn, 1) := by decide +kernel
set_option maxRecDepth 20000 in
theorem ggX7_table_X7_isIn : GoodIn wsX7_table wsX7_isIn := goodIn_r _ [7] (by decide +kernel) (by decide +kernel)
set_option maxRecDepth 20000 in
theorem gX7_table_X7_isIn : GoodIn wsX7_table (va_wsS RX7 111 yX7_isIn wsX7_isIn) := goodIn_app (goodIn_of _ (by decide +kernel)) ggX7_table_X7_isIn
set_option maxRecDepth 20000 in
theorem ggX7_table_X7_holds : GoodIn wsX7_table wsX7_holds := goodIn_r _ [11, 12, 13, 14, 15, 16, 17, 18, 19, 20, 21, 22, 23, 24, 25, 26, 27, 28, 29, 30, 31, 32, 33, 34, 35, 36, 37, 38, 39, 40, 41, 42, 43, 44, 45, 46, 47, 48, 49] (by decide +kernel) (by decide +kernel)
set_option maxRecDepth 20000 in
theorem gX7_table_X7_holds : GoodIn wsX7_table (wsV RX7 122 RX7 yX7_holds wsX7_holds) := goodIn_app (goodIn_of _ (by decide +kernel)) ggX7_table_X7_holds
theorem dX7_table_0 : decode cX7_table 0 = .ok (.iconst (-1), 1) := by decide +kernel
theorem dX7_table_1 : decode cX7_table 1 = .ok (.istore_n 3, 1) := by decide +kernel
theorem dX7_table_2 : decode cX7_table 2 = .ok (.iconst 0, 1) := by decide +kernel
theorem dX7_table_3 : decode cX7_table 3 = .ok (.istore 4, 2) := by decide +kernel
theorem dX7_table_5 : decode cX7_table 5 = .ok (.iload 4, 2) := by decide +kernel
theorem dX7_table_7 : decode cX7_table 7 = .ok (.aload_n 0, 1) := by decide +kernel
theorem dX7_table_8 : decode cX7_table 8 = .ok (.getfield 95, 3) := by decide +kernel
theorem dX7_table_11 : decode cX7_table 11 = .ok (.if_icmp .ge 27, 3) := by decide +kernel
theorem dX7_table_14 : decode cX7_table 14 = .ok (.aload_n 0, 1) := by decide +kernel
theorem dX7_table_15 : decode cX7_table 15 = .ok (.getfield 99, 3) := by decide +kernel
theorem dX7_table_18 : decode cX7_table 18 = .ok (.iload 4, 2) := by decide +kernel
theorem dX7_table_20 : decode cX7_table 20 = .ok (.iaload, 1) := by decide +kernel
theorem dX7_table_21 : decode cX7_table 21 = .ok (.iload_n 1, 1) := by decide +kernel
theorem dX7_table_22 : decode cX7_table 22 = .ok (.if_icmp .ne 8, 3) := by decide +kernel
theorem dX7_table_25 : decode cX7_table 25 = .ok (.iload 4, 2) := by decide +kernel
theorem dX7_table_27 : decode cX7_table 27 = .ok (.goto 4, 3) := by decide +kernel
theorem dX7_table_30 : decode cX7_table 30 = .ok (.iload_n 3, 1) := by decide +kernel
theorem dX7_table_31 : decode cX7_table 31 = .ok (.istore_n 3, 1) := by decide +kernel
theorem dX7_table_32 : decode cX7_table 32 = .ok (.iinc 4 1, 3) := by decide +kernel
theorem dX7_table_35 : decode cX7_table 35 = .ok (.goto (-30), 3) := by decide +kernel
theorem dX7_table_38 : decode cX7_table 38 = .ok (.iload_n 1, 1) := by decide +kernel
theorem dX7_table_39 : decode cX7_table 39 = .ok (.iconst 1, 1) := by decide +kernel
theorem dX7_table_40 : decode cX7_table 40 = .ok (.sipush 9999, 3) := by decide +kernel
theorem dX7_table_43 : decode cX7_table 43 = .ok (.invokestatic 111, 3) := by decide +kernel
theorem dX7_table_46 : decode cX7_table 46 = .ok (.ifCond .eq 18, 3) := by decide +kernel
theorem dX7_table_49 : decode cX7_table 49 = .ok (.iload_n 2, 1) := by decide +kernel
theorem dX7_table_50 : decode cX7_table 50 = .ok (.iconst (-1), 1) := by decide +kernel
theorem dX7_table_51 : decode cX7_table 51 = .ok (.sipush 999, 3) := by decide +kernel
theorem dX7_table_54 : decode cX7_table 54 = .ok (.invokestatic 111, 3) := by decide +kernel
theorem dX7_table_57 : decode cX7_table 57 = .ok (.ifCond .eq 7, 3) := by decide +kernel
theorem dX7_table_60 : decode cX7_table 60 = .ok (.iconst 1, 1) := by decide +kernel
theorem dX7_table_61 : decode cX7_table 61 = .ok (.goto 4, 3) := by decide +kernel
theorem dX7_table_64 : decode cX7_table 64 = .ok (.iconst 0, 1) := by decide +kernel
theorem dX7_table_65 : decode cX7_table 65 = .ok (.istore 4, 2) := by decide +kernel
theorem dX7_table_67 : decode cX7_table 67 = .ok (.aload_n 0, 1) := by decide +kernel
theorem dX7_table_68 : decode cX7_table 68 = .ok (.iload 4, 2) := by decide +kernel
theorem dX7_table_70 : decode cX7_table 70 = .ok (.ifCond .ne 7, 3) := by decide +kernel
theorem dX7_table_73 : decode cX7_table 73 = .ok (.iconst 1, 1) := by decide +kernel
theorem dX7_table_74 : decode cX7_table 74 = .ok (.goto 27, 3) := by decide +kernel
theorem dX7_table_77 : decode cX7_table 77 = .ok (.iload_n 3, 1) := by decide +kernel
theorem dX7_table_78 : decode cX7_table 78 = .ok (.iconst (-1), 1) := by decide +kernel
theorem dX7_table_79 : decode cX7_table 79 = .ok (.if_icmp .ne 21, 3) := by decide +kernel
theorem dX7_table_82 : decode cX7_table 82 = .ok (.iload_n 2, 1) := by decide +kernel
theorem dX7_table_83 : decode cX7_table 83 = .ok (.iconst (-1), 1) := by decide +kernel
theorem dX7_table_84 : decode cX7_table 84 = .ok (.if_icmp .eq 16, 3) := by decide +kernel
theorem dX7_table_87 : decode cX7_table 87 = .ok (.aload_n 0, 1) := by decide +kernel
theorem dX7_table_88 : decode cX7_table 88 = .ok (.getfield 95, 3) := by decide +kernel
theorem dX7_table_91 : decode cX7_table 91 = .ok (.bipush 12, 2) := by decide +kernel
theorem dX7_table_93 : decode cX7_table 93 = .ok (.if_icmp .ne 7, 3) := by decide +kernel
theorem dX7_table_96 : decode cX7_table 96 = .ok (.iconst 2, 1) := by decide +kernel
theorem dX7_table_97 : decode cX7_table 97 = .ok (.goto 4, 3) := by decide +kernel
theorem dX7_table_100 : decode cX7_table 100 = .ok (.iconst 0, 1) := by decide +kernel
theorem dX7_table_101 : decode cX7_table 101 = .ok (.invokevirtual 122, 3) := by decide +kernel
theorem dX7_table_104 : decode cX7_table 104 = .ok (.ifCond .ne 5, 3) := by decide +kernel
theorem dX7_table_107 : decode cX7_table 107 = .ok (.iconst 0, 1) := by decide +kernel
theorem dX7_table_108 : decode cX7_table 108 = .ok (.ireturn, 1) := by decide +kernel
theorem dX7_table_109 : decode cX7_table 109 = .ok (.iload_n 2, 1) := by decide +kernel
theorem dX7_table_110 : decode cX7_table 110 = .ok (.iconst (-1), 1) := by decide +kernel
theorem dX7_table_111 : decode cX7_table 111 = .ok (.if_icmp .ne 62, 3) := by decide +kernel
theorem dX7_table_114 : decode cX7_table 114 = .ok (.aload_n 0, 1) := by decide +kernel
theorem dX7_table_115 : decode cX7_table 115 = .ok (.dup, 1) := by decide +kernel
theorem dX7_table_116 : decode cX7_table 116 = .ok (.getfield 95, 3) := by decide +kernel
theorem dX7_table_119 : decode cX7_table 119 = .ok (.iload_n 3, 1) := by decide +kernel
theorem dX7_table_120 : decode cX7_table 120 = .ok (.iconst (-1), 1) := by decide +kernel
theorem dX7_table_121 : decode cX7_table 121 = .ok (.if_icmp .ne 7, 3) := by decide +kernel
theorem dX7_table_124 : decode cX7_table 124 = .ok (.iconst 0, 1) := by decide +kernel
theorem dX7_table_125 : decode cX7_table 125 = .ok (.goto 4, 3) := by decide +kernel
theorem dX7_table_128 : decode cX7_table 128 = .ok (.iconst 1, 1) := by decide +kernel
theorem dX7_table_129 : decode cX7_table 129 = .ok (.isub, 1) := by decide +kernel
theorem dX7_table_130 : decode cX7_table 130 = .ok (.putfield 95, 3) := by decide +kernel
theorem dX7_table_133 : decode cX7_table 133 = .ok (.iload_n 3, 1) := by decide +kernel
theorem dX7_table_134 : decode cX7_table 134 = .ok (.iconst (-1), 1) := by decide +kernel
theorem dX7_table_135 : decode cX7_table 135 = .ok (.if_icmp .eq 33, 3) := by decide +kernel
theorem dX7_table_138 : decode cX7_table 138 = .ok (.aload_n 0, 1) := by decide +kernel
theorem dX7_table_139 : decode cX7_table 139 = .ok (.getfield 99, 3) := by decide +kernel
theorem dX7_table_142 : decode cX7_table 142 = .ok (.iload_n 3, 1) := by decide +kernel
theorem dX7_table_143 : decode cX7_table 143 = .ok (.aload_n 0, 1) := by decide +kernel
theorem dX7_table_144 : decode cX7_table 144 = .ok (.getfield 99, 3) := by decide +kernel
theorem dX7_table_147 : decode cX7_table 147 = .ok (.aload_n 0, 1) := by decide +kernel
theorem dX7_table_148 : decode cX7_table 148 = .ok (.getfield 95, 3) := by decide +kernel
theorem dX7_table_151 : decode cX7_table 151 = .ok (.iaload, 1) := by decide +kernel
theorem dX7_table_152 : decode cX7_table 152 = .ok (.iastore, 1) := by decide +kernel
theorem dX7_table_153 : decode cX7_table 153 = .ok (.aload_n 0, 1) := by decide +kernel
theorem dX7_table_154 : decode cX7_table 154 = .ok (.getfield 102, 3) := by decide +kernel
theorem dX7_table_157 : decode cX7_table 157 = .ok (.iload_n 3, 1) := by decide +kernel
theorem dX7_table_158 : decode cX7_table 158 = .ok (.aload_n 0, 1) := by decide +kernel
theorem dX7_table_159 : decode cX7_table 159 = .ok (.getfield 102, 3) := by decide +kernel
theorem dX7_table_162 : decode cX7_table 162 = .ok (.aload_n 0, 1) := by decide +kernel
theorem dX7_table_163 : decode cX7_table 163 = .ok (.getfield 95, 3) := by decide +kernel
theorem dX7_table_166 : decode cX7_table 166 = .ok (.iaload, 1) := by decide +kernel
theorem dX7_table_167 : decode cX7_table 167 = .ok (.iastore, 1) := by decide +kernel
theorem dX7_table_168 : decode cX7_table 168 = .ok (.aload_n 0, 1) := by decide +kernel
theorem dX7_table_169 : decode cX7_table 169 = .ok (.getfield 95, 3) := by decide +kernel
theorem dX7_table_172 : decode cX7_table 172 = .ok (.ireturn, 1) := by decide +kernel
theorem dX7_table_173 : decode cX7_table 173 = .ok (.iload_n 3, 1) := by decide +kernel
theorem dX7_table_174 : decode cX7_table 174 = .ok (.iconst (-1), 1) := by decide +kernel
theorem dX7_table_175 : decode cX7_table 175 = .ok (.if_icmp .ne 10, 3) := by decide +kernel
theorem dX7_table_178 : decode cX7_table 178 = .ok (.aload_n 0, 1) := by decide +kernel
theorem dX7_table_179 : decode cX7_table 179 = .ok (.getfield 95, 3) := by decide +kernel
theorem dX7_table_182 : decode cX7_table 182 = .ok (.goto 4, 3) := by decide +kernel
theorem dX7_table_185 : decode cX7_table 185 = .ok (.iload_n 3, 1) := by decide +kernel
theorem dX7_table_186 : decode cX7_table 186 = .ok (.istore 5, 2) := by decide +kernel
theorem dX7_table_188 : decode cX7_table 188 = .ok (.aload_n 0, 1) := by decide +kernel
theorem dX7_table_189 : decode cX7_table 189 = .ok (.dup, 1) := by decide +kernel
theorem dX7_table_190 : decode cX7_table 190 = .ok (.getfield 95, 3) := by decide +kernel
theorem dX7_table_193 : decode cX7_table 193 = .ok (.iload_n 3, 1) := by decide +kernel
theorem dX7_table_194 : decode cX7_table 194 = .ok (.iconst (-1), 1) := by decide +kernel
theorem dX7_table_195 : decode cX7_table 195 = .ok (.if_icmp .ne 7, 3) := by decide +kernel
theorem dX7_table_198 : decode cX7_table 198 = .ok (.iconst 1, 1) := by decide +kernel
theorem dX7_table_199 : decode cX7_table 199 = .ok (.goto 4, 3) := by decide +kernel
theorem dX7_table_202 : decode cX7_table 202 = .ok (.iconst 0, 1) := by decide +kernel
theorem dX7_table_203 : decode cX7_table 203 = .ok (.iadd, 1) := by decide +kernel
theorem dX7_table_204 : decode cX7_table 204 = .ok (.putfield 95, 3) := by decide +kernel
theorem dX7_table_207 : decode cX7_table 207 = .ok (.aload_n 0, 1) := by decide +kernel
theorem dX7_table_208 : decode cX7_table 208 = .ok (.getfield 99, 3) := by decide +kernel
theorem dX7_table_211 : decode cX7_table 211 = .ok (.iload 5, 2) := by decide +kernel
theorem dX7_table_213 : decode cX7_table 213 = .ok (.iload_n 1, 1) := by decide +kernel
theorem dX7_table_214 : decode cX7_table 214 = .ok (.iastore, 1) := by decide +kernel
theorem dX7_table_215 : decode cX7_table 215 = .ok (.aload_n 0, 1) := by decide +kernel
theorem dX7_table_216 : decode cX7_table 216 = .ok (.getfield 102, 3) := by decide +kernel
theorem dX7_table_219 : decode cX7_table 219 = .ok (.iload 5, 2) := by decide +kernel
theorem dX7_table_221 : decode cX7_table 221 = .ok (.iload_n 2, 1) := by decide +kernel
theorem dX7_table_222 : decode cX7_table 222 = .ok (.iastore, 1) := by decide +kernel
theorem dX7_table_223 : decode cX7_table 223 = .ok (.aload_n 0, 1) := by decide +kernel
theorem dX7_table_224 : decode cX7_table 224 = .ok (.getfield 95, 3) := by decide +kernel
theorem dX7_table_227 : decode cX7_table 227 = .ok (.ireturn, 1) := by decide +kernel
set_option maxRecDepth 20000 in
theorem ggX7_seed_X7_isIn : GoodIn wsX7_seed wsX7_isIn := goodIn_r _ [6] (by decide +kernel) (by decide +kernel)
set_option maxRecDepth 20000 in
theorem gX7_seed_X7_isIn : GoodIn wsX7_seed (va_wsS RX7 111 yX7_isIn wsX7_isIn) := goodIn_app (goodIn_of _ (by decide +kernel)) ggX7_seed_X7_isIn
set_option maxRecDepth 20000 in
theorem ggX7_seed_X7_holds : GoodIn wsX7_seed wsX7_holds := goodIn_r _ [10, 11, 12, 13, 14, 15, 16, 17, 18, 19, 20, 21, 22, 23, 24, 25, 26, 27, 28, 29, 30, 31, 32, 33, 34, 35, 36, 37, 38, 39, 40, 41, 42, 43, 44, 45, 46, 47, 48] (by decide +kernel) (by decide +kernel)
set_option maxRecDepth 20000 in
theorem gX7_seed_X7_holds : GoodIn wsX7_seed (wsV RX7 122 RX7 yX7_holds wsX7_holds) := goodIn_app (goodIn_of _ (by decide +kernel)) ggX7_seed_X7_holds
theorem dX7_seed_0 : decode cX7_seed 0 = .ok (.aload_n 0, 1) := by decide +kernel
theorem dX7_seed_1 : decode cX7_seed 1 = .ok (.iload_n 1, 1) := by decide +kernel
theorem dX7_seed_2 : decode cX7_seed 2 = .ok (.iconst 0, 1) := by decide +kernel
theorem dX7_seed_3 : decode cX7_seed 3 = .ok (.ldc 245, 2) := by decide +kernel
theorem dX7_seed_5 : decode cX7_seed 5 = .ok (.invokestatic 111, 3) := by decide +kernel
theorem dX7_seed_8 : decode cX7_seed 8 = .ok (.ifCond .eq 7, 3) := by decide +kernel
theorem dX7_seed_11 : decode cX7_seed 11 = .ok (.iconst 0, 1) := by decide +kernel
theorem dX7_seed_12 : decode cX7_seed 12 = .ok (.goto 4, 3) := by decide +kernel
theorem dX7_seed_15 : decode cX7_seed 15 = .ok (.iconst 1, 1) := by decide +kernel
theorem dX7_seed_16 : decode cX7_seed 16 = .ok (.invokevirtual 122, 3) := by decide +kernel
theorem dX7_seed_19 : decode cX7_seed 19 = .ok (.ifCond .ne 5, 3) := by decide +kernel
theorem dX7_seed_22 : decode cX7_seed 22 = .ok (.iconst 0, 1) := by decide +kernel
theorem dX7_seed_23 : decode cX7_seed 23 = .ok (.ireturn, 1) := by decide +kernel
theorem dX7_seed_24 : decode cX7_seed 24 = .ok (.aload_n 0, 1) := by decide +kernel
theorem dX7_seed_25 : decode cX7_seed 25 = .ok (.getfield 105, 3) := by decide +kernel
theorem dX7_seed_28 : decode cX7_seed 28 = .ok (.istore_n 2, 1) := by decide +kernel
theorem dX7_seed_29 : decode cX7_seed 29 = .ok (.aload_n 0, 1) := by decide +kernel
theorem dX7_seed_30 : decode cX7_seed 30 = .ok (.iload_n 1, 1) := by decide +kernel
theorem dX7_seed_31 : decode cX7_seed 31 = .ok (.putfield 105, 3) := by decide +kernel
theorem dX7_seed_34 : decode cX7_seed 34 = .ok (.iload_n 2, 1) := by decide +kernel
theorem dX7_seed_35 : decode cX7_seed 35 = .ok (.ireturn, 1) := by decide +kernel
theorem dX7_chance_0 : decode cX7_chance 0 = .ok (.aload_n 0, 1) := by decide +kernel
theorem dX7_chance_1 : decode cX7_chance 1 = .ok (.bipush 75, 2) := by decide +kernel
theorem dX7_chance_3 : decode cX7_chance 3 = .ok (.aload_n 0, 1) := by decide +kernel
theorem dX7_chance_4 : decode cX7_chance 4 = .ok (.getfield 105, 3) := by decide +kernel
theorem dX7_chance_7 : decode cX7_chance 7 = .ok (.imul, 1) := by decide +kernel
theorem dX7_chance_8 : decode cX7_chance 8 = .ok (.bipush 74, 2) := by decide +kernel
theorem dX7_chance_10 : decode cX7_chance 10 = .ok (.iadd, 1) := by decide +kernel
theorem dX7_chance_11 : decode cX7_chance 11 = .ok (.ldc 246, 2) := by decide +kernel
theorem dX7_chance_13 : decode cX7_chance 13 = .ok (.irem, 1) := by decide +kernel
theorem dX7_chance_14 : decode cX7_chance 14 = .ok (.putfield 105, 3) := by decide +kernel
theorem dX7_chance_17 : decode cX7_chance 17 = .ok (.aload_n 0, 1) := by decide +kernel
theorem dX7_chance_18 : decode cX7_chance 18 = .ok (.getfield 105, 3) := by decide +kernel
theorem dX7_chance_21 : decode cX7_chance 21 = .ok (.ireturn, 1) := by decide +kernel
set_option maxRecDepth 20000 in
theorem ggX7_draws_X7_chance : GoodIn wsX7_draws wsX7_chance := goodIn_r _ [10, 11, 12, 13, 14, 15, 16, 17, 18, 19, 20, 21, 22, 23, 24, 25, 26, 27, 28, 29, 30, 31, 32, 33, 34, 35, 36, 37, 38, 39, 40, 41, 42, 43, 44, 45, 46, 47, 48, 49] (by decide +kernel) (by decide +kernel)
set_option maxRecDepth 20000 in
theorem gX7_draws_X7_chance : GoodIn wsX7_draws (wsV RX7 247 RX7 yX7_chance wsX7_chance) := goodIn_app (goodIn_of _ (by decide +kernel)) ggX7_draws_X7_chance
theorem dX7_draws_0 : decode cX7_draws 0 = .ok (.aload_n 0, 1) := by decide +kernel
theorem dX7_draws_1 : decode cX7_draws 1 = .ok (.getfield 19, 3) := by decide +kernel
theorem dX7_draws_4 : decode cX7_draws 4 = .ok (.iload_n 1, 1) := by decide +kernel
theorem dX7_draws_5 : decode cX7_draws 5 = .ok (.iaload, 1) := by decide +kernel
theorem dX7_draws_6 : decode cX7_draws 6 = .ok (.istore_n 2, 1) := by decide +kernel
theorem dX7_draws_7 : decode cX7_draws 7 = .ok (.aload_n 0, 1) := by decide +kernel
theorem dX7_draws_8 : decode cX7_draws 8 = .ok (.getfield 16, 3) := by decide +kernel
theorem dX7_draws_11 : decode cX7_draws 11 = .ok (.iload_n 1, 1) := by decide +kernel
theorem dX7_draws_12 : decode cX7_draws 12 = .ok (.iaload, 1) := by decide +kernel
theorem dX7_draws_13 : decode cX7_draws 13 = .ok (.iconst 1, 1) := by decide +kernel
theorem dX7_draws_14 : decode cX7_draws 14 = .ok (.if_icmp .ne 23, 3) := by decide +kernel
theorem dX7_draws_17 : decode cX7_draws 17 = .ok (.aload_n 0, 1) := by decide +kernel
theorem dX7_draws_18 : decode cX7_draws 18 = .ok (.getfield 7, 3) := by decide +kernel
theorem dX7_draws_21 : decode cX7_draws 21 = .ok (.iload_n 1, 1) := by decide +kernel
theorem dX7_draws_22 : decode cX7_draws 22 = .ok (.iaload, 1) := by decide +kernel
theorem dX7_draws_23 : decode cX7_draws 23 = .ok (.iload_n 2, 1) := by decide +kernel
theorem dX7_draws_24 : decode cX7_draws 24 = .ok (.isub, 1) := by decide +kernel
theorem dX7_draws_25 : decode cX7_draws 25 = .ok (.aload_n 0, 1) := by decide +kernel
theorem dX7_draws_26 : decode cX7_draws 26 = .ok (.invokevirtual 247, 3) := by decide +kernel
theorem dX7_draws_29 : decode cX7_draws 29 = .ok (.iconst 2, 1) := by decide +kernel
theorem dX7_draws_30 : decode cX7_draws 30 = .ok (.iload_n 2, 1) := by decide +kernel
theorem dX7_draws_31 : decode cX7_draws 31 = .ok (.imul, 1) := by decide +kernel
theorem dX7_draws_32 : decode cX7_draws 32 = .ok (.iconst 1, 1) := by decide +kernel
theorem dX7_draws_33 : decode cX7_draws 33 = .ok (.iadd, 1) := by decide +kernel
theorem dX7_draws_34 : decode cX7_draws 34 = .ok (.irem, 1) := by decide +kernel
theorem dX7_draws_35 : decode cX7_draws 35 = .ok (.iadd, 1) := by decide +kernel
theorem dX7_draws_36 : decode cX7_draws 36 = .ok (.ireturn, 1) := by decide +kernel
theorem dX7_draws_37 : decode cX7_draws 37 = .ok (.aload_n 0, 1) := by decide +kernel
theorem dX7_draws_38 : decode cX7_draws 38 = .ok (.getfield 16, 3) := by decide +kernel
theorem dX7_draws_41 : decode cX7_draws 41 = .ok (.iload_n 1, 1) := by decide +kernel
theorem dX7_draws_42 : decode cX7_draws 42 = .ok (.iaload, 1) := by decide +kernel
theorem dX7_draws_43 : decode cX7_draws 43 = .ok (.iconst 2, 1) := by decide +kernel
theorem dX7_draws_44 : decode cX7_draws 44 = .ok (.if_icmp .ne 32, 3) := by decide +kernel
theorem dX7_draws_47 : decode cX7_draws 47 = .ok (.aload_n 0, 1) := by decide +kernel
theorem dX7_draws_48 : decode cX7_draws 48 = .ok (.invokevirtual 247, 3) := by decide +kernel
theorem dX7_draws_51 : decode cX7_draws 51 = .ok (.iload_n 2, 1) := by decide +kernel
theorem dX7_draws_52 : decode cX7_draws 52 = .ok (.iconst 1, 1) := by decide +kernel
theorem dX7_draws_53 : decode cX7_draws 53 = .ok (.iadd, 1) := by decide +kernel
theorem dX7_draws_54 : decode cX7_draws 54 = .ok (.irem, 1) := by decide +kernel
theorem dX7_draws_55 : decode cX7_draws 55 = .ok (.istore_n 3, 1) := by decide +kernel
theorem dX7_draws_56 : decode cX7_draws 56 = .ok (.aload_n 0, 1) := by decide +kernel
theorem dX7_draws_57 : decode cX7_draws 57 = .ok (.getfield 7, 3) := by decide +kernel
theorem dX7_draws_60 : decode cX7_draws 60 = .ok (.iload_n 1, 1) := by decide +kernel
theorem dX7_draws_61 : decode cX7_draws 61 = .ok (.iaload, 1) := by decide +kernel
theorem dX7_draws_62 : decode cX7_draws 62 = .ok (.iload_n 2, 1) := by decide +kernel
theorem dX7_draws_63 : decode cX7_draws 63 = .ok (.isub, 1) := by decide +kernel
theorem dX7_draws_64 : decode cX7_draws 64 = .ok (.iload_n 3, 1) := by decide +kernel
theorem dX7_draws_65 : decode cX7_draws 65 = .ok (.iadd, 1) := by decide +kernel
theorem dX7_draws_66 : decode cX7_draws 66 = .ok (.aload_n 0, 1) := by decide +kernel
theorem dX7_draws_67 : decode cX7_draws 67 = .ok (.invokevirtual 247, 3) := by decide +kernel
theorem dX7_draws_70 : decode cX7_draws 70 = .ok (.iload_n 2, 1) := by decide +kernel
theorem dX7_draws_71 : decode cX7_draws 71 = .ok (.iconst 1, 1) := by decide +kernel
theorem dX7_draws_72 : decode cX7_draws 72 = .ok (.iadd, 1) := by decide +kernel
theorem dX7_draws_73 : decode cX7_draws 73 = .ok (.irem, 1) := by decide +kernel
theorem dX7_draws_74 : decode cX7_draws 74 = .ok (.iadd, 1) := by decide +kernel
theorem dX7_draws_75 : decode cX7_draws 75 = .ok (.ireturn, 1) := by decide +kernel
theorem dX7_draws_76 : decode cX7_draws 76 = .ok (.aload_n 0, 1) := by decide +kernel
theorem dX7_draws_77 : decode cX7_draws 77 = .ok (.getfield 16, 3) := by decide +kernel
theorem dX7_draws_80 : decode cX7_draws 80 = .ok (.iload_n 1, 1) := by decide +kernel
theorem dX7_draws_81 : decode cX7_draws 81 = .ok (.iaload, 1) := by decide +kernel
theorem dX7_draws_82 : decode cX7_draws 82 = .ok (.iconst 3, 1) := by decide +kernel
theorem dX7_draws_83 : decode cX7_draws 83 = .ok (.if_icmp .ne 26, 3) := by decide +kernel
theorem dX7_draws_86 : decode cX7_draws 86 = .ok (.aload_n 0, 1) := by decide +kernel
theorem dX7_draws_87 : decode cX7_draws 87 = .ok (.getfield 7, 3) := by decide +kernel
theorem dX7_draws_90 : decode cX7_draws 90 = .ok (.iload_n 1, 1) := by decide +kernel
theorem dX7_draws_91 : decode cX7_draws 91 = .ok (.iaload, 1) := by decide +kernel
theorem dX7_draws_92 : decode cX7_draws 92 = .ok (.aload_n 0, 1) := by decide +kernel
theorem dX7_draws_93 : decode cX7_draws 93 = .ok (.invokevirtual 247, 3) := by decide +kernel
theorem dX7_draws_96 : decode cX7_draws 96 = .ok (.iconst 2, 1) := by decide +kernel
theorem dX7_draws_97 : decode cX7_draws 97 = .ok (.irem, 1) := by decide +kernel
theorem dX7_draws_98 : decode cX7_draws 98 = .ok (.ifCond .ne 8, 3) := by decide +kernel
theorem dX7_draws_101 : decode cX7_draws 101 = .ok (.iload_n 2, 1) := by decide +kernel
theorem dX7_draws_102 : decode cX7_draws 102 = .ok (.ineg, 1) := by decide +kernel
theorem dX7_draws_103 : decode cX7_draws 103 = .ok (.goto 4, 3) := by decide +kernel
theorem dX7_draws_106 : decode cX7_draws 106 = .ok (.iload_n 2, 1) := by decide +kernel
theorem dX7_draws_107 : decode cX7_draws 107 = .ok (.iadd, 1) := by decide +kernel
theorem dX7_draws_108 : decode cX7_draws 108 = .ok (.ireturn, 1) := by decide +kernel
theorem dX7_draws_109 : decode cX7_draws 109 = .ok (.aload_n 0, 1) := by decide +kernel
theorem dX7_draws_110 : decode cX7_draws 110 = .ok (.getfield 16, 3) := by decide +kernel
theorem dX7_draws_113 : decode cX7_draws 113 = .ok (.iload_n 1, 1) := by decide +kernel
theorem dX7_draws_114 : decode cX7_draws 114 = .ok (.iaload, 1) := by decide +kernel
theorem dX7_draws_115 : decode cX7_draws 115 = .ok (.iconst 4, 1) := by decide +kernel
theorem dX7_draws_116 : decode cX7_draws 116 = .ok (.if_icmp .ne 27, 3) := by decide +kernel
theorem dX7_draws_119 : decode cX7_draws 119 = .ok (.aload_n 0, 1) := by decide +kernel
theorem dX7_draws_120 : decode cX7_draws 120 = .ok (.getfield 25, 3) := by decide +kernel
theorem dX7_draws_123 : decode cX7_draws 123 = .ok (.bipush 8, 2) := by decide +kernel
theorem dX7_draws_125 : decode cX7_draws 125 = .ok (.iload_n 1, 1) := by decide +kernel
theorem dX7_draws_126 : decode cX7_draws 126 = .ok (.imul, 1) := by decide +kernel
theorem dX7_draws_127 : decode cX7_draws 127 = .ok (.aload_n 0, 1) := by decide +kernel
theorem dX7_draws_128 : decode cX7_draws 128 = .ok (.invokevirtual 247, 3) := by decide +kernel
theorem dX7_draws_131 : decode cX7_draws 131 = .ok (.aload_n 0, 1) := by decide +kernel
theorem dX7_draws_132 : decode cX7_draws 132 = .ok (.getfield 22, 3) := by decide +kernel
theorem dX7_draws_135 : decode cX7_draws 135 = .ok (.iload_n 1, 1) := by decide +kernel
theorem dX7_draws_136 : decode cX7_draws 136 = .ok (.iaload, 1) := by decide +kernel
theorem dX7_draws_137 : decode cX7_draws 137 = .ok (.irem, 1) := by decide +kernel
theorem dX7_draws_138 : decode cX7_draws 138 = .ok (.iadd, 1) := by decide +kernel
theorem dX7_draws_139 : decode cX7_draws 139 = .ok (.iaload, 1) := by decide +kernel
theorem dX7_draws_140 : decode cX7_draws 140 = .ok (.goto 9, 3) := by decide +kernel
theorem dX7_draws_143 : decode cX7_draws 143 = .ok (.aload_n 0, 1) := by decide +kernel
theorem dX7_draws_144 : decode cX7_draws 144 = .ok (.getfield 7, 3) := by decide +kernel
theorem dX7_draws_147 : decode cX7_draws 147 = .ok (.iload_n 1, 1) := by decide +kernel
theorem dX7_draws_148 : decode cX7_draws 148 = .ok (.iaload, 1) := by decide +kernel
theorem dX7_draws_149 : decode cX7_draws 149 = .ok (.ireturn, 1) := by decide +kernel
set_option maxRecDepth 20000 in
theorem ggX7_draw_X7_isModel : GoodIn wsX7_draw wsX7_isModel := goodIn_r _ [7, 8, 9, 10, 6, 11, 102, 103, 104, 105, 106, 107, 108, 109, 110, 111, 112, 113, 114, 115, 116, 117, 118, 119, 120, 121, 122, 123, 124, 125, 126, 127, 128, 129, 130, 131, 132, 133, 134, 135, 136, 137, 138] (by decide +kernel) (by decide +kernel)
set_option maxRecDepth 20000 in
theorem gX7_draw_X7_isModel : GoodIn wsX7_draw (wsV RX7 185 RX7 yX7_isModel wsX7_isModel) := goodIn_app (goodIn_of _ (by decide +kernel)) ggX7_draw_X7_isModel
set_option maxRecDepth 20000 in
theorem ggX7_draw_X7_isIn : GoodIn wsX7_draw wsX7_isIn := goodIn_r _ [11] (by decide +kernel) (by decide +kernel)
set_option maxRecDepth 20000 in
theorem gX7_draw_X7_isIn : GoodIn wsX7_draw (va_wsS RX7 111 yX7_isIn wsX7_isIn) := goodIn_app (goodIn_of _ (by decide +kernel)) ggX7_draw_X7_isIn
set_option maxRecDepth 20000 in
theorem ggX7_draw_X7_holds : GoodIn wsX7_draw wsX7_holds := goodIn_r _ [15, 16, 102, 103, 104, 105, 106, 107, 108, 109, 110, 111, 112, 113, 114, 115, 116, 117, 118, 119, 120, 121, 122, 123, 124, 125, 126, 127, 128, 129, 130, 131, 132, 133, 134, 135, 136, 137, 138] (by decide +kernel) (by decide +kernel)
set_option maxRecDepth 20000 in
theorem gX7_draw_X7_holds : GoodIn wsX7_draw (wsV RX7 122 RX7 yX7_holds wsX7_holds) := goodIn_app (goodIn_of _ (by decide +kernel)) ggX7_draw_X7_holds
set_option maxRecDepth 20000 in
theorem ggX7_draw_X7_laysSlopes : GoodIn wsX7_draw wsX7_laysSlopes := goodIn_r _ [20, 21, 22, 23, 24, 6, 25, 26, 27, 28, 29, 1, 30, 31, 32, 33, 34, 35, 36, 37, 38, 39, 40, 102, 103, 104, 105, 106, 107, 108, 109, 110, 111, 112, 113, 114, 115, 116, 117, 118, 119, 120, 121, 122, 123, 124, 125, 126, 127, 128, 129, 130, 131, 132, 133, 134, 135, 136, 137, 138] (by decide +kernel) (by decide +kernel)
set_option maxRecDepth 20000 in
theorem gX7_draw_X7_laysSlopes : GoodIn wsX7_draw (wsV RX7 235 RX7 yX7_laysSlopes wsX7_laysSlopes) := goodIn_app (goodIn_of _ (by decide +kernel)) ggX7_draw_X7_laysSlopes
set_option maxRecDepth 20000 in
theorem ggX7_draw_X7_varianceOf : GoodIn wsX7_draw wsX7_varianceOf := goodIn_r _ [44, 45, 21, 46, 47, 48, 49, 6, 50, 51, 102, 103, 104, 105, 106, 107, 108, 109, 110, 111, 112, 113, 114, 115, 116, 117, 118, 119, 120, 121, 122, 123, 124, 125, 126, 127, 128, 129, 130, 131, 132, 133, 134, 135, 136, 137, 138] (by decide +kernel) (by decide +kernel)
set_option maxRecDepth 20000 in
theorem gX7_draw_X7_varianceOf : GoodIn wsX7_draw (wsV RX7 238 RX7 yX7_varianceOf wsX7_varianceOf) := goodIn_app (goodIn_of _ (by decide +kernel)) ggX7_draw_X7_varianceOf
set_option maxRecDepth 20000 in
theorem ggX7_draw_X7_statedOf : GoodIn wsX7_draw wsX7_statedOf := goodIn_r _ [55, 2, 56, 57, 58, 6, 59, 60, 61, 62, 63, 64, 65, 66, 67, 68, 69, 70, 71, 72, 73, 74, 75, 76, 77, 78, 47, 48, 49, 50, 21, 51, 79, 80, 81, 82, 83, 84, 85, 86, 87, 88, 89, 102, 103, 104, 105, 106, 107, 108, 109, 110, 111, 112, 113, 114, 115, 116, 117, 118, 119, 120, 121, 122, 123, 124, 125, 126, 127, 128, 129, 130, 131, 132, 133, 134, 135, 136, 137, 138] (by decide +kernel) (by decide +kernel)
set_option maxRecDepth 20000 in
theorem gX7_draw_X7_statedOf : GoodIn wsX7_draw (wsV RX7 242 RX7 yX7_statedOf wsX7_statedOf) := goodIn_app (goodIn_of _ (by decide +kernel)) ggX7_draw_X7_statedOf
set_option maxRecDepth 20000 in
theorem ggX7_draw_X7_values : GoodIn wsX7_draw wsX7_values := goodIn_r _ [25, 26, 27, 28, 29, 1, 30, 31, 32, 33, 34, 6, 35, 102, 103, 104, 105, 106, 107, 108, 109, 110, 111, 112, 113, 114, 115, 116, 117, 118, 119, 120, 121, 122, 123, 124, 125, 126, 127, 128, 129, 130, 131, 132, 133, 134, 135, 136, 137, 138] (by decide +kernel) (by decide +kernel)
set_option maxRecDepth 20000 in
theorem gX7_draw_X7_values : GoodIn wsX7_draw (wsV RX7 191 RX7 yX7_values wsX7_values) := goodIn_app (goodIn_of _ (by decide +kernel)) ggX7_draw_X7_values
set_option maxRecDepth 20000 in
theorem ggX7_draw_X7_draws : GoodIn wsX7_draw wsX7_draws := goodIn_r _ [93, 94, 73, 30, 95, 74, 96, 97, 98, 6, 99, 100, 101, 102, 103, 104, 105, 106, 107, 108, 109, 110, 111, 112, 113, 114, 115, 116, 117, 118, 119, 120, 121, 122, 123, 124, 125, 126, 127, 128, 129, 130, 131, 132, 133, 134, 135, 136, 137, 138] (by decide +kernel) (by decide +kernel)
set_option maxRecDepth 20000 in
theorem gX7_draw_X7_draws : GoodIn wsX7_draw (wsV RX7 250 RX7 yX7_draws wsX7_draws) := goodIn_app (goodIn_of _ (by decide +kernel)) ggX7_draw_X7_draws
theorem dX7_draw_0 : decode cX7_draw 0 = .ok (.aload_n 0, 1) := by decide +kernel
theorem dX7_draw_1 : decode cX7_draw 1 = .ok (.aload_n 0, 1) := by decide +kernel
theorem dX7_draw_2 : decode cX7_draw 2 = .ok (.iload_n 1, 1) := by decide +kernel
theorem dX7_draw_3 : decode cX7_draw 3 = .ok (.invokevirtual 185, 3) := by decide +kernel
theorem dX7_draw_6 : decode cX7_draw 6 = .ok (.ifCond .ne 7, 3) := by decide +kernel
theorem dX7_draw_9 : decode cX7_draw 9 = .ok (.iconst 1, 1) := by decide +kernel
theorem dX7_draw_10 : decode cX7_draw 10 = .ok (.goto 18, 3) := by decide +kernel
theorem dX7_draw_13 : decode cX7_draw 13 = .ok (.iload_n 2, 1) := by decide +kernel
theorem dX7_draw_14 : decode cX7_draw 14 = .ok (.iconst 1, 1) := by decide +kernel
theorem dX7_draw_15 : decode cX7_draw 15 = .ok (.bipush 100, 2) := by decide +kernel
theorem dX7_draw_17 : decode cX7_draw 17 = .ok (.invokestatic 111, 3) := by decide +kernel
theorem dX7_draw_20 : decode cX7_draw 20 = .ok (.ifCond .eq 7, 3) := by decide +kernel
theorem dX7_draw_23 : decode cX7_draw 23 = .ok (.iconst 0, 1) := by decide +kernel
theorem dX7_draw_24 : decode cX7_draw 24 = .ok (.goto 4, 3) := by decide +kernel
theorem dX7_draw_27 : decode cX7_draw 27 = .ok (.iconst 2, 1) := by decide +kernel
theorem dX7_draw_28 : decode cX7_draw 28 = .ok (.invokevirtual 122, 3) := by decide +kernel
theorem dX7_draw_31 : decode cX7_draw 31 = .ok (.ifCond .ne 5, 3) := by decide +kernel
theorem dX7_draw_34 : decode cX7_draw 34 = .ok (.iconst 0, 1) := by decide +kernel
theorem dX7_draw_35 : decode cX7_draw 35 = .ok (.ireturn, 1) := by decide +kernel
theorem dX7_draw_36 : decode cX7_draw 36 = .ok (.aload_n 0, 1) := by decide +kernel
theorem dX7_draw_37 : decode cX7_draw 37 = .ok (.iload_n 1, 1) := by decide +kernel
theorem dX7_draw_38 : decode cX7_draw 38 = .ok (.invokevirtual 235, 3) := by decide +kernel
theorem dX7_draw_41 : decode cX7_draw 41 = .ok (.aload_n 0, 1) := by decide +kernel
theorem dX7_draw_42 : decode cX7_draw 42 = .ok (.aload_n 0, 1) := by decide +kernel
theorem dX7_draw_43 : decode cX7_draw 43 = .ok (.invokevirtual 238, 3) := by decide +kernel
theorem dX7_draw_46 : decode cX7_draw 46 = .ok (.invokevirtual 242, 3) := by decide +kernel
theorem dX7_draw_49 : decode cX7_draw 49 = .ok (.lstore_n 3, 1) := by decide +kernel
theorem dX7_draw_50 : decode cX7_draw 50 = .ok (.aload_n 0, 1) := by decide +kernel
theorem dX7_draw_51 : decode cX7_draw 51 = .ok (.iload_n 1, 1) := by decide +kernel
theorem dX7_draw_52 : decode cX7_draw 52 = .ok (.iconst 0, 1) := by decide +kernel
theorem dX7_draw_53 : decode cX7_draw 53 = .ok (.invokevirtual 191, 3) := by decide +kernel
theorem dX7_draw_56 : decode cX7_draw 56 = .ok (.lstore 5, 2) := by decide +kernel
theorem dX7_draw_58 : decode cX7_draw 58 = .ok (.iconst 0, 1) := by decide +kernel
theorem dX7_draw_59 : decode cX7_draw 59 = .ok (.istore 7, 2) := by decide +kernel
theorem dX7_draw_61 : decode cX7_draw 61 = .ok (.iconst 0, 1) := by decide +kernel
theorem dX7_draw_62 : decode cX7_draw 62 = .ok (.istore 8, 2) := by decide +kernel
theorem dX7_draw_64 : decode cX7_draw 64 = .ok (.iload 8, 2) := by decide +kernel
theorem dX7_draw_66 : decode cX7_draw 66 = .ok (.iload_n 2, 1) := by decide +kernel
theorem dX7_draw_67 : decode cX7_draw 67 = .ok (.if_icmp .ge 82, 3) := by decide +kernel
theorem dX7_draw_70 : decode cX7_draw 70 = .ok (.iconst 0, 1) := by decide +kernel
theorem dX7_draw_71 : decode cX7_draw 71 = .ok (.istore 9, 2) := by decide +kernel
theorem dX7_draw_73 : decode cX7_draw 73 = .ok (.iload 9, 2) := by decide +kernel
theorem dX7_draw_75 : decode cX7_draw 75 = .ok (.bipush 6, 2) := by decide +kernel
theorem dX7_draw_77 : decode cX7_draw 77 = .ok (.if_icmp .ge 22, 3) := by decide +kernel
theorem dX7_draw_80 : decode cX7_draw 80 = .ok (.aload_n 0, 1) := by decide +kernel
theorem dX7_draw_81 : decode cX7_draw 81 = .ok (.getfield 89, 3) := by decide +kernel
theorem dX7_draw_84 : decode cX7_draw 84 = .ok (.iload 9, 2) := by decide +kernel
theorem dX7_draw_86 : decode cX7_draw 86 = .ok (.aload_n 0, 1) := by decide +kernel
theorem dX7_draw_87 : decode cX7_draw 87 = .ok (.iload 9, 2) := by decide +kernel
theorem dX7_draw_89 : decode cX7_draw 89 = .ok (.invokevirtual 250, 3) := by decide +kernel
theorem dX7_draw_92 : decode cX7_draw 92 = .ok (.iastore, 1) := by decide +kernel
theorem dX7_draw_93 : decode cX7_draw 93 = .ok (.iinc 9 1, 3) := by decide +kernel
theorem dX7_draw_96 : decode cX7_draw 96 = .ok (.goto (-23), 3) := by decide +kernel
theorem dX7_draw_99 : decode cX7_draw 99 = .ok (.aload_n 0, 1) := by decide +kernel
theorem dX7_draw_100 : decode cX7_draw 100 = .ok (.iload_n 1, 1) := by decide +kernel
theorem dX7_draw_101 : decode cX7_draw 101 = .ok (.iconst 1, 1) := by decide +kernel
theorem dX7_draw_102 : decode cX7_draw 102 = .ok (.invokevirtual 191, 3) := by decide +kernel
theorem dX7_draw_105 : decode cX7_draw 105 = .ok (.lload 5, 2) := by decide +kernel
theorem dX7_draw_107 : decode cX7_draw 107 = .ok (.lsub, 1) := by decide +kernel
theorem dX7_draw_108 : decode cX7_draw 108 = .ok (.lstore 9, 2) := by decide +kernel
theorem dX7_draw_110 : decode cX7_draw 110 = .ok (.iload 7, 2) := by decide +kernel
theorem dX7_draw_112 : decode cX7_draw 112 = .ok (.lload_n 3, 1) := by decide +kernel
theorem dX7_draw_113 : decode cX7_draw 113 = .ok (.ldc2_w 208, 3) := by decide +kernel
theorem dX7_draw_116 : decode cX7_draw 116 = .ok (.lcmp, 1) := by decide +kernel
theorem dX7_draw_117 : decode cX7_draw 117 = .ok (.ifCond .eq 22, 3) := by decide +kernel
theorem dX7_draw_120 : decode cX7_draw 120 = .ok (.lload 9, 2) := by decide +kernel
theorem dX7_draw_122 : decode cX7_draw 122 = .ok (.lload_n 3, 1) := by decide +kernel
theorem dX7_draw_123 : decode cX7_draw 123 = .ok (.lcmp, 1) := by decide +kernel
theorem dX7_draw_124 : decode cX7_draw 124 = .ok (.ifCond .gt 15, 3) := by decide +kernel
theorem dX7_draw_127 : decode cX7_draw 127 = .ok (.lload 9, 2) := by decide +kernel
theorem dX7_draw_129 : decode cX7_draw 129 = .ok (.lload_n 3, 1) := by decide +kernel
theorem dX7_draw_130 : decode cX7_draw 130 = .ok (.lneg, 1) := by decide +kernel
theorem dX7_draw_131 : decode cX7_draw 131 = .ok (.lcmp, 1) := by decide +kernel
theorem dX7_draw_132 : decode cX7_draw 132 = .ok (.ifCond .lt 7, 3) := by decide +kernel
theorem dX7_draw_135 : decode cX7_draw 135 = .ok (.iconst 1, 1) := by decide +kernel
theorem dX7_draw_136 : decode cX7_draw 136 = .ok (.goto 4, 3) := by decide +kernel
theorem dX7_draw_139 : decode cX7_draw 139 = .ok (.iconst 0, 1) := by decide +kernel
theorem dX7_draw_140 : decode cX7_draw 140 = .ok (.iadd, 1) := by decide +kernel
theorem dX7_draw_141 : decode cX7_draw 141 = .ok (.istore 7, 2) := by decide +kernel
theorem dX7_draw_143 : decode cX7_draw 143 = .ok (.iinc 8 1, 3) := by decide +kernel
theorem dX7_draw_146 : decode cX7_draw 146 = .ok (.goto (-82), 3) := by decide +kernel
theorem dX7_draw_149 : decode cX7_draw 149 = .ok (.iload 7, 2) := by decide +kernel
theorem dX7_draw_151 : decode cX7_draw 151 = .ok (.ireturn, 1) := by decide +kernel
