theorem dX7_init_0 : decode cX7_init 0 = .ok (.aload_n 0, 1) := by decide +kernel
theorem dX7_init_1 : decode cX7_init 1 = .ok (.invokespecial 1, 3) := by decide +kernel
theorem dX7_init_4 : decode cX7_init 4 = .ok (.aload_n 0, 1) := by decide +kernel
theorem dX7_init_5 : decode cX7_init 5 = .ok (.bipush 24, 2) := by decide +kernel
theorem dX7_init_7 : decode cX7_init 7 = .ok (.newarray .int, 2) := by decide +kernel
theorem dX7_init_9 : decode cX7_init 9 = .ok (.putfield 7, 3) := by decide +kernel
theorem dX7_init_12 : decode cX7_init 12 = .ok (.aload_n 0, 1) := by decide +kernel
theorem dX7_init_13 : decode cX7_init 13 = .ok (.bipush 96, 2) := by decide +kernel
theorem dX7_init_15 : decode cX7_init 15 = .ok (.newarray .int, 2) := by decide +kernel
theorem dX7_init_17 : decode cX7_init 17 = .ok (.putfield 13, 3) := by decide +kernel
theorem dX7_init_20 : decode cX7_init 20 = .ok (.aload_n 0, 1) := by decide +kernel
theorem dX7_init_21 : decode cX7_init 21 = .ok (.bipush 96, 2) := by decide +kernel
theorem dX7_init_23 : decode cX7_init 23 = .ok (.newarray .int, 2) := by decide +kernel
theorem dX7_init_25 : decode cX7_init 25 = .ok (.putfield 16, 3) := by decide +kernel
theorem dX7_init_28 : decode cX7_init 28 = .ok (.aload_n 0, 1) := by decide +kernel
theorem dX7_init_29 : decode cX7_init 29 = .ok (.bipush 96, 2) := by decide +kernel
theorem dX7_init_31 : decode cX7_init 31 = .ok (.newarray .int, 2) := by decide +kernel
theorem dX7_init_33 : decode cX7_init 33 = .ok (.putfield 19, 3) := by decide +kernel
theorem dX7_init_36 : decode cX7_init 36 = .ok (.aload_n 0, 1) := by decide +kernel
theorem dX7_init_37 : decode cX7_init 37 = .ok (.lconst 1, 1) := by decide +kernel
theorem dX7_init_38 : decode cX7_init 38 = .ok (.putfield 22, 3) := by decide +kernel
theorem dX7_init_41 : decode cX7_init 41 = .ok (.aload_n 0, 1) := by decide +kernel
theorem dX7_init_42 : decode cX7_init 42 = .ok (.sipush 3721, 3) := by decide +kernel
theorem dX7_init_45 : decode cX7_init 45 = .ok (.newarray .long, 2) := by decide +kernel
theorem dX7_init_47 : decode cX7_init 47 = .ok (.putfield 26, 3) := by decide +kernel
theorem dX7_init_50 : decode cX7_init 50 = .ok (.aload_n 0, 1) := by decide +kernel
theorem dX7_init_51 : decode cX7_init 51 = .ok (.iconst 2, 1) := by decide +kernel
theorem dX7_init_52 : decode cX7_init 52 = .ok (.newarray .int, 2) := by decide +kernel
theorem dX7_init_54 : decode cX7_init 54 = .ok (.putfield 30, 3) := by decide +kernel
theorem dX7_init_57 : decode cX7_init 57 = .ok (.aload_n 0, 1) := by decide +kernel
theorem dX7_init_58 : decode cX7_init 58 = .ok (.iconst 2, 1) := by decide +kernel
theorem dX7_init_59 : decode cX7_init 59 = .ok (.newarray .int, 2) := by decide +kernel
theorem dX7_init_61 : decode cX7_init 61 = .ok (.putfield 33, 3) := by decide +kernel
theorem dX7_init_64 : decode cX7_init 64 = .ok (.aload_n 0, 1) := by decide +kernel
theorem dX7_init_65 : decode cX7_init 65 = .ok (.iconst 2, 1) := by decide +kernel
theorem dX7_init_66 : decode cX7_init 66 = .ok (.newarray .int, 2) := by decide +kernel
theorem dX7_init_68 : decode cX7_init 68 = .ok (.putfield 36, 3) := by decide +kernel
theorem dX7_init_71 : decode cX7_init 71 = .ok (.aload_n 0, 1) := by decide +kernel
theorem dX7_init_72 : decode cX7_init 72 = .ok (.iconst 2, 1) := by decide +kernel
theorem dX7_init_73 : decode cX7_init 73 = .ok (.newarray .boolean, 2) := by decide +kernel
theorem dX7_init_75 : decode cX7_init 75 = .ok (.putfield 39, 3) := by decide +kernel
theorem dX7_init_78 : decode cX7_init 78 = .ok (.aload_n 0, 1) := by decide +kernel
theorem dX7_init_79 : decode cX7_init 79 = .ok (.bipush 24, 2) := by decide +kernel
theorem dX7_init_81 : decode cX7_init 81 = .ok (.newarray .int, 2) := by decide +kernel
theorem dX7_init_83 : decode cX7_init 83 = .ok (.putfield 43, 3) := by decide +kernel
theorem dX7_init_86 : decode cX7_init 86 = .ok (.aload_n 0, 1) := by decide +kernel
theorem dX7_init_87 : decode cX7_init 87 = .ok (.bipush 8, 2) := by decide +kernel
theorem dX7_init_89 : decode cX7_init 89 = .ok (.newarray .int, 2) := by decide +kernel
theorem dX7_init_91 : decode cX7_init 91 = .ok (.putfield 46, 3) := by decide +kernel
theorem dX7_init_94 : decode cX7_init 94 = .ok (.aload_n 0, 1) := by decide +kernel
theorem dX7_init_95 : decode cX7_init 95 = .ok (.bipush 8, 2) := by decide +kernel
theorem dX7_init_97 : decode cX7_init 97 = .ok (.newarray .int, 2) := by decide +kernel
theorem dX7_init_99 : decode cX7_init 99 = .ok (.putfield 49, 3) := by decide +kernel
theorem dX7_init_102 : decode cX7_init 102 = .ok (.aload_n 0, 1) := by decide +kernel
theorem dX7_init_103 : decode cX7_init 103 = .ok (.bipush 8, 2) := by decide +kernel
theorem dX7_init_105 : decode cX7_init 105 = .ok (.newarray .int, 2) := by decide +kernel
theorem dX7_init_107 : decode cX7_init 107 = .ok (.putfield 52, 3) := by decide +kernel
theorem dX7_init_110 : decode cX7_init 110 = .ok (.aload_n 0, 1) := by decide +kernel
theorem dX7_init_111 : decode cX7_init 111 = .ok (.sipush 480, 3) := by decide +kernel
theorem dX7_init_114 : decode cX7_init 114 = .ok (.newarray .int, 2) := by decide +kernel
theorem dX7_init_116 : decode cX7_init 116 = .ok (.putfield 55, 3) := by decide +kernel
theorem dX7_init_119 : decode cX7_init 119 = .ok (.aload_n 0, 1) := by decide +kernel
theorem dX7_init_120 : decode cX7_init 120 = .ok (.bipush 60, 2) := by decide +kernel
theorem dX7_init_122 : decode cX7_init 122 = .ok (.newarray .int, 2) := by decide +kernel
theorem dX7_init_124 : decode cX7_init 124 = .ok (.putfield 58, 3) := by decide +kernel
theorem dX7_init_127 : decode cX7_init 127 = .ok (.aload_n 0, 1) := by decide +kernel
theorem dX7_init_128 : decode cX7_init 128 = .ok (.bipush 60, 2) := by decide +kernel
theorem dX7_init_130 : decode cX7_init 130 = .ok (.newarray .int, 2) := by decide +kernel
theorem dX7_init_132 : decode cX7_init 132 = .ok (.putfield 61, 3) := by decide +kernel
theorem dX7_init_135 : decode cX7_init 135 = .ok (.aload_n 0, 1) := by decide +kernel
theorem dX7_init_136 : decode cX7_init 136 = .ok (.bipush 60, 2) := by decide +kernel
theorem dX7_init_138 : decode cX7_init 138 = .ok (.newarray .int, 2) := by decide +kernel
theorem dX7_init_140 : decode cX7_init 140 = .ok (.putfield 64, 3) := by decide +kernel
theorem dX7_init_143 : decode cX7_init 143 = .ok (.aload_n 0, 1) := by decide +kernel
theorem dX7_init_144 : decode cX7_init 144 = .ok (.bipush 60, 2) := by decide +kernel
theorem dX7_init_146 : decode cX7_init 146 = .ok (.newarray .int, 2) := by decide +kernel
theorem dX7_init_148 : decode cX7_init 148 = .ok (.putfield 67, 3) := by decide +kernel
theorem dX7_init_151 : decode cX7_init 151 = .ok (.aload_n 0, 1) := by decide +kernel
theorem dX7_init_152 : decode cX7_init 152 = .ok (.bipush 60, 2) := by decide +kernel
theorem dX7_init_154 : decode cX7_init 154 = .ok (.newarray .int, 2) := by decide +kernel
theorem dX7_init_156 : decode cX7_init 156 = .ok (.putfield 70, 3) := by decide +kernel
theorem dX7_init_159 : decode cX7_init 159 = .ok (.aload_n 0, 1) := by decide +kernel
theorem dX7_init_160 : decode cX7_init 160 = .ok (.sipush 3600, 3) := by decide +kernel
theorem dX7_init_163 : decode cX7_init 163 = .ok (.newarray .int, 2) := by decide +kernel
theorem dX7_init_165 : decode cX7_init 165 = .ok (.putfield 73, 3) := by decide +kernel
theorem dX7_init_168 : decode cX7_init 168 = .ok (.aload_n 0, 1) := by decide +kernel
theorem dX7_init_169 : decode cX7_init 169 = .ok (.iconst 4, 1) := by decide +kernel
theorem dX7_init_170 : decode cX7_init 170 = .ok (.newarray .int, 2) := by decide +kernel
theorem dX7_init_172 : decode cX7_init 172 = .ok (.putfield 76, 3) := by decide +kernel
theorem dX7_init_175 : decode cX7_init 175 = .ok (.aload_n 0, 1) := by decide +kernel
theorem dX7_init_176 : decode cX7_init 176 = .ok (.bipush 62, 2) := by decide +kernel
theorem dX7_init_178 : decode cX7_init 178 = .ok (.newarray .long, 2) := by decide +kernel
theorem dX7_init_180 : decode cX7_init 180 = .ok (.putfield 79, 3) := by decide +kernel
theorem dX7_init_183 : decode cX7_init 183 = .ok (.aload_n 0, 1) := by decide +kernel
theorem dX7_init_184 : decode cX7_init 184 = .ok (.bipush 62, 2) := by decide +kernel
theorem dX7_init_186 : decode cX7_init 186 = .ok (.newarray .long, 2) := by decide +kernel
theorem dX7_init_188 : decode cX7_init 188 = .ok (.putfield 82, 3) := by decide +kernel
theorem dX7_init_191 : decode cX7_init 191 = .ok (.aload_n 0, 1) := by decide +kernel
theorem dX7_init_192 : decode cX7_init 192 = .ok (.sipush 210, 3) := by decide +kernel
theorem dX7_init_195 : decode cX7_init 195 = .ok (.newarray .boolean, 2) := by decide +kernel
theorem dX7_init_197 : decode cX7_init 197 = .ok (.putfield 85, 3) := by decide +kernel
theorem dX7_init_200 : decode cX7_init 200 = .ok (.aload_n 0, 1) := by decide +kernel
theorem dX7_init_201 : decode cX7_init 201 = .ok (.sipush 210, 3) := by decide +kernel
theorem dX7_init_204 : decode cX7_init 204 = .ok (.newarray .boolean, 2) := by decide +kernel
theorem dX7_init_206 : decode cX7_init 206 = .ok (.putfield 88, 3) := by decide +kernel
theorem dX7_init_209 : decode cX7_init 209 = .ok (.iconst 0, 1) := by decide +kernel
theorem dX7_init_210 : decode cX7_init 210 = .ok (.istore_n 1, 1) := by decide +kernel
theorem dX7_init_211 : decode cX7_init 211 = .ok (.iload_n 1, 1) := by decide +kernel
theorem dX7_init_212 : decode cX7_init 212 = .ok (.bipush 60, 2) := by decide +kernel
theorem dX7_init_214 : decode cX7_init 214 = .ok (.if_icmp .gt 79, 3) := by decide +kernel
theorem dX7_init_217 : decode cX7_init 217 = .ok (.iconst 0, 1) := by decide +kernel
theorem dX7_init_218 : decode cX7_init 218 = .ok (.istore_n 2, 1) := by decide +kernel
theorem dX7_init_219 : decode cX7_init 219 = .ok (.iload_n 2, 1) := by decide +kernel
theorem dX7_init_220 : decode cX7_init 220 = .ok (.iload_n 1, 1) := by decide +kernel
theorem dX7_init_221 : decode cX7_init 221 = .ok (.if_icmp .gt 66, 3) := by decide +kernel
theorem dX7_init_224 : decode cX7_init 224 = .ok (.aload_n 0, 1) := by decide +kernel
theorem dX7_init_225 : decode cX7_init 225 = .ok (.getfield 26, 3) := by decide +kernel
theorem dX7_init_228 : decode cX7_init 228 = .ok (.bipush 61, 2) := by decide +kernel
theorem dX7_init_230 : decode cX7_init 230 = .ok (.iload_n 1, 1) := by decide +kernel
theorem dX7_init_231 : decode cX7_init 231 = .ok (.imul, 1) := by decide +kernel
theorem dX7_init_232 : decode cX7_init 232 = .ok (.iload_n 2, 1) := by decide +kernel
theorem dX7_init_233 : decode cX7_init 233 = .ok (.iadd, 1) := by decide +kernel
theorem dX7_init_234 : decode cX7_init 234 = .ok (.iload_n 2, 1) := by decide +kernel
theorem dX7_init_235 : decode cX7_init 235 = .ok (.ifCond .ne 7, 3) := by decide +kernel
theorem dX7_init_238 : decode cX7_init 238 = .ok (.lconst 1, 1) := by decide +kernel
theorem dX7_init_239 : decode cX7_init 239 = .ok (.goto 41, 3) := by decide +kernel
theorem dX7_init_242 : decode cX7_init 242 = .ok (.aload_n 0, 1) := by decide +kernel
theorem dX7_init_243 : decode cX7_init 243 = .ok (.getfield 26, 3) := by decide +kernel
theorem dX7_init_246 : decode cX7_init 246 = .ok (.bipush 61, 2) := by decide +kernel
theorem dX7_init_248 : decode cX7_init 248 = .ok (.iload_n 1, 1) := by decide +kernel
theorem dX7_init_249 : decode cX7_init 249 = .ok (.iconst 1, 1) := by decide +kernel
theorem dX7_init_250 : decode cX7_init 250 = .ok (.isub, 1) := by decide +kernel
theorem dX7_init_251 : decode cX7_init 251 = .ok (.imul, 1) := by decide +kernel
theorem dX7_init_252 : decode cX7_init 252 = .ok (.iload_n 2, 1) := by decide +kernel
theorem dX7_init_253 : decode cX7_init 253 = .ok (.iadd, 1) := by decide +kernel
theorem dX7_init_254 : decode cX7_init 254 = .ok (.iconst 1, 1) := by decide +kernel
theorem dX7_init_255 : decode cX7_init 255 = .ok (.isub, 1) := by decide +kernel
theorem dX7_init_256 : decode cX7_init 256 = .ok (.laload, 1) := by decide +kernel
theorem dX7_init_257 : decode cX7_init 257 = .ok (.iload_n 2, 1) := by decide +kernel
theorem dX7_init_258 : decode cX7_init 258 = .ok (.iload_n 1, 1) := by decide +kernel
theorem dX7_init_259 : decode cX7_init 259 = .ok (.if_icmp .ge 19, 3) := by decide +kernel
theorem dX7_init_262 : decode cX7_init 262 = .ok (.aload_n 0, 1) := by decide +kernel
theorem dX7_init_263 : decode cX7_init 263 = .ok (.getfield 26, 3) := by decide +kernel
theorem dX7_init_266 : decode cX7_init 266 = .ok (.bipush 61, 2) := by decide +kernel
theorem dX7_init_268 : decode cX7_init 268 = .ok (.iload_n 1, 1) := by decide +kernel
theorem dX7_init_269 : decode cX7_init 269 = .ok (.iconst 1, 1) := by decide +kernel
theorem dX7_init_270 : decode cX7_init 270 = .ok (.isub, 1) := by decide +kernel
theorem dX7_init_271 : decode cX7_init 271 = .ok (.imul, 1) := by decide +kernel
theorem dX7_init_272 : decode cX7_init 272 = .ok (.iload_n 2, 1) := by decide +kernel
theorem dX7_init_273 : decode cX7_init 273 = .ok (.iadd, 1) := by decide +kernel
theorem dX7_init_274 : decode cX7_init 274 = .ok (.laload, 1) := by decide +kernel
theorem dX7_init_275 : decode cX7_init 275 = .ok (.goto 4, 3) := by decide +kernel
theorem dX7_init_278 : decode cX7_init 278 = .ok (.lconst 0, 1) := by decide +kernel
theorem dX7_init_279 : decode cX7_init 279 = .ok (.ladd, 1) := by decide +kernel
theorem dX7_init_280 : decode cX7_init 280 = .ok (.lastore, 1) := by decide +kernel
theorem dX7_init_281 : decode cX7_init 281 = .ok (.iinc 2 1, 3) := by decide +kernel
theorem dX7_init_284 : decode cX7_init 284 = .ok (.goto (-65), 3) := by decide +kernel
theorem dX7_init_287 : decode cX7_init 287 = .ok (.iinc 1 1, 3) := by decide +kernel
theorem dX7_init_290 : decode cX7_init 290 = .ok (.goto (-79), 3) := by decide +kernel
theorem dX7_init_293 : decode cX7_init 293 = .ok (.return_, 1) := by decide +kernel
theorem dX7_in_0 : decode cX7_in 0 = .ok (.iload_n 0, 1) := by decide +kernel
theorem dX7_in_1 : decode cX7_in 1 = .ok (.iload_n 1, 1) := by decide +kernel
theorem dX7_in_2 : decode cX7_in 2 = .ok (.if_icmp .lt 12, 3) := by decide +kernel
theorem dX7_in_5 : decode cX7_in 5 = .ok (.iload_n 0, 1) := by decide +kernel
theorem dX7_in_6 : decode cX7_in 6 = .ok (.iload_n 2, 1) := by decide +kernel
theorem dX7_in_7 : decode cX7_in 7 = .ok (.if_icmp .gt 7, 3) := by decide +kernel
theorem dX7_in_10 : decode cX7_in 10 = .ok (.iconst 1, 1) := by decide +kernel
theorem dX7_in_11 : decode cX7_in 11 = .ok (.goto 4, 3) := by decide +kernel
theorem dX7_in_14 : decode cX7_in 14 = .ok (.iconst 0, 1) := by decide +kernel
theorem dX7_in_15 : decode cX7_in 15 = .ok (.ireturn, 1) := by decide +kernel
theorem dX7_ways_0 : decode cX7_ways 0 = .ok (.iload_n 2, 1) := by decide +kernel
theorem dX7_ways_1 : decode cX7_ways 1 = .ok (.ifCond .lt 8, 3) := by decide +kernel
theorem dX7_ways_4 : decode cX7_ways 4 = .ok (.iload_n 2, 1) := by decide +kernel
theorem dX7_ways_5 : decode cX7_ways 5 = .ok (.iload_n 1, 1) := by decide +kernel
theorem dX7_ways_6 : decode cX7_ways 6 = .ok (.if_icmp .le 7, 3) := by decide +kernel
theorem dX7_ways_9 : decode cX7_ways 9 = .ok (.lconst 0, 1) := by decide +kernel
theorem dX7_ways_10 : decode cX7_ways 10 = .ok (.goto 14, 3) := by decide +kernel
theorem dX7_ways_13 : decode cX7_ways 13 = .ok (.aload_n 0, 1) := by decide +kernel
theorem dX7_ways_14 : decode cX7_ways 14 = .ok (.getfield 26, 3) := by decide +kernel
theorem dX7_ways_17 : decode cX7_ways 17 = .ok (.bipush 61, 2) := by decide +kernel
theorem dX7_ways_19 : decode cX7_ways 19 = .ok (.iload_n 1, 1) := by decide +kernel
theorem dX7_ways_20 : decode cX7_ways 20 = .ok (.imul, 1) := by decide +kernel
theorem dX7_ways_21 : decode cX7_ways 21 = .ok (.iload_n 2, 1) := by decide +kernel
theorem dX7_ways_22 : decode cX7_ways 22 = .ok (.iadd, 1) := by decide +kernel
theorem dX7_ways_23 : decode cX7_ways 23 = .ok (.laload, 1) := by decide +kernel
theorem dX7_ways_24 : decode cX7_ways 24 = .ok (.lreturn, 1) := by decide +kernel
theorem dX7_isPlan_0 : decode cX7_isPlan 0 = .ok (.iload_n 1, 1) := by decide +kernel
theorem dX7_isPlan_1 : decode cX7_isPlan 1 = .ok (.iconst 0, 1) := by decide +kernel
theorem dX7_isPlan_2 : decode cX7_isPlan 2 = .ok (.aload_n 0, 1) := by decide +kernel
theorem dX7_isPlan_3 : decode cX7_isPlan 3 = .ok (.getfield 91, 3) := by decide +kernel
theorem dX7_isPlan_6 : decode cX7_isPlan 6 = .ok (.iconst 1, 1) := by decide +kernel
theorem dX7_isPlan_7 : decode cX7_isPlan 7 = .ok (.isub, 1) := by decide +kernel
theorem dX7_isPlan_8 : decode cX7_isPlan 8 = .ok (.invokestatic 95, 3) := by decide +kernel
theorem dX7_isPlan_11 : decode cX7_isPlan 11 = .ok (.ireturn, 1) := by decide +kernel
theorem dX7_isClosed_0 : decode cX7_isClosed 0 = .ok (.aload_n 0, 1) := by decide +kernel
theorem dX7_isClosed_1 : decode cX7_isClosed 1 = .ok (.iload_n 1, 1) := by decide +kernel
theorem dX7_isClosed_2 : decode cX7_isClosed 2 = .ok (.invokevirtual 99, 3) := by decide +kernel
theorem dX7_isClosed_5 : decode cX7_isClosed 5 = .ok (.ifCond .eq 55, 3) := by decide +kernel
theorem dX7_isClosed_8 : decode cX7_isClosed 8 = .ok (.aload_n 0, 1) := by decide +kernel
theorem dX7_isClosed_9 : decode cX7_isClosed 9 = .ok (.getfield 7, 3) := by decide +kernel
theorem dX7_isClosed_12 : decode cX7_isClosed 12 = .ok (.iload_n 1, 1) := by decide +kernel
theorem dX7_isClosed_13 : decode cX7_isClosed 13 = .ok (.iaload, 1) := by decide +kernel
theorem dX7_isClosed_14 : decode cX7_isClosed 14 = .ok (.ifCond .le 46, 3) := by decide +kernel
theorem dX7_isClosed_17 : decode cX7_isClosed 17 = .ok (.aload_n 0, 1) := by decide +kernel
theorem dX7_isClosed_18 : decode cX7_isClosed 18 = .ok (.getfield 19, 3) := by decide +kernel
theorem dX7_isClosed_21 : decode cX7_isClosed 21 = .ok (.iconst 4, 1) := by decide +kernel
theorem dX7_isClosed_22 : decode cX7_isClosed 22 = .ok (.iload_n 1, 1) := by decide +kernel
theorem dX7_isClosed_23 : decode cX7_isClosed 23 = .ok (.imul, 1) := by decide +kernel
theorem dX7_isClosed_24 : decode cX7_isClosed 24 = .ok (.aload_n 0, 1) := by decide +kernel
theorem dX7_isClosed_25 : decode cX7_isClosed 25 = .ok (.getfield 7, 3) := by decide +kernel
theorem dX7_isClosed_28 : decode cX7_isClosed 28 = .ok (.iload_n 1, 1) := by decide +kernel
theorem dX7_isClosed_29 : decode cX7_isClosed 29 = .ok (.iaload, 1) := by decide +kernel
theorem dX7_isClosed_30 : decode cX7_isClosed 30 = .ok (.iadd, 1) := by decide +kernel
theorem dX7_isClosed_31 : decode cX7_isClosed 31 = .ok (.iconst 1, 1) := by decide +kernel
theorem dX7_isClosed_32 : decode cX7_isClosed 32 = .ok (.isub, 1) := by decide +kernel
theorem dX7_isClosed_33 : decode cX7_isClosed 33 = .ok (.iaload, 1) := by decide +kernel
theorem dX7_isClosed_34 : decode cX7_isClosed 34 = .ok (.aload_n 0, 1) := by decide +kernel
theorem dX7_isClosed_35 : decode cX7_isClosed 35 = .ok (.getfield 16, 3) := by decide +kernel
theorem dX7_isClosed_38 : decode cX7_isClosed 38 = .ok (.iconst 4, 1) := by decide +kernel
theorem dX7_isClosed_39 : decode cX7_isClosed 39 = .ok (.iload_n 1, 1) := by decide +kernel
theorem dX7_isClosed_40 : decode cX7_isClosed 40 = .ok (.imul, 1) := by decide +kernel
theorem dX7_isClosed_41 : decode cX7_isClosed 41 = .ok (.aload_n 0, 1) := by decide +kernel
theorem dX7_isClosed_42 : decode cX7_isClosed 42 = .ok (.getfield 7, 3) := by decide +kernel
theorem dX7_isClosed_45 : decode cX7_isClosed 45 = .ok (.iload_n 1, 1) := by decide +kernel
theorem dX7_isClosed_46 : decode cX7_isClosed 46 = .ok (.iaload, 1) := by decide +kernel
theorem dX7_isClosed_47 : decode cX7_isClosed 47 = .ok (.iadd, 1) := by decide +kernel
theorem dX7_isClosed_48 : decode cX7_isClosed 48 = .ok (.iconst 1, 1) := by decide +kernel
theorem dX7_isClosed_49 : decode cX7_isClosed 49 = .ok (.isub, 1) := by decide +kernel
theorem dX7_isClosed_50 : decode cX7_isClosed 50 = .ok (.iaload, 1) := by decide +kernel
theorem dX7_isClosed_51 : decode cX7_isClosed 51 = .ok (.iconst 1, 1) := by decide +kernel
theorem dX7_isClosed_52 : decode cX7_isClosed 52 = .ok (.iadd, 1) := by decide +kernel
theorem dX7_isClosed_53 : decode cX7_isClosed 53 = .ok (.if_icmp .ne 7, 3) := by decide +kernel
theorem dX7_isClosed_56 : decode cX7_isClosed 56 = .ok (.iconst 1, 1) := by decide +kernel
theorem dX7_isClosed_57 : decode cX7_isClosed 57 = .ok (.goto 4, 3) := by decide +kernel
theorem dX7_isClosed_60 : decode cX7_isClosed 60 = .ok (.iconst 0, 1) := by decide +kernel
theorem dX7_isClosed_61 : decode cX7_isClosed 61 = .ok (.ireturn, 1) := by decide +kernel
theorem dX7_upTo_0 : decode cX7_upTo 0 = .ok (.iconst 0, 1) := by decide +kernel
theorem dX7_upTo_1 : decode cX7_upTo 1 = .ok (.istore_n 3, 1) := by decide +kernel
theorem dX7_upTo_2 : decode cX7_upTo 2 = .ok (.iconst 0, 1) := by decide +kernel
theorem dX7_upTo_3 : decode cX7_upTo 3 = .ok (.istore 4, 2) := by decide +kernel
theorem dX7_upTo_5 : decode cX7_upTo 5 = .ok (.iload 4, 2) := by decide +kernel
theorem dX7_upTo_7 : decode cX7_upTo 7 = .ok (.iload_n 2, 1) := by decide +kernel
theorem dX7_upTo_8 : decode cX7_upTo 8 = .ok (.if_icmp .gt 23, 3) := by decide +kernel
theorem dX7_upTo_11 : decode cX7_upTo 11 = .ok (.iload_n 3, 1) := by decide +kernel
theorem dX7_upTo_12 : decode cX7_upTo 12 = .ok (.aload_n 0, 1) := by decide +kernel
theorem dX7_upTo_13 : decode cX7_upTo 13 = .ok (.getfield 13, 3) := by decide +kernel
theorem dX7_upTo_16 : decode cX7_upTo 16 = .ok (.iconst 4, 1) := by decide +kernel
theorem dX7_upTo_17 : decode cX7_upTo 17 = .ok (.iload_n 1, 1) := by decide +kernel
theorem dX7_upTo_18 : decode cX7_upTo 18 = .ok (.imul, 1) := by decide +kernel
theorem dX7_upTo_19 : decode cX7_upTo 19 = .ok (.iload 4, 2) := by decide +kernel
theorem dX7_upTo_21 : decode cX7_upTo 21 = .ok (.iadd, 1) := by decide +kernel
theorem dX7_upTo_22 : decode cX7_upTo 22 = .ok (.iaload, 1) := by decide +kernel
theorem dX7_upTo_23 : decode cX7_upTo 23 = .ok (.iadd, 1) := by decide +kernel
theorem dX7_upTo_24 : decode cX7_upTo 24 = .ok (.istore_n 3, 1) := by decide +kernel
theorem dX7_upTo_25 : decode cX7_upTo 25 = .ok (.iinc 4 1, 3) := by decide +kernel
theorem dX7_upTo_28 : decode cX7_upTo 28 = .ok (.goto (-23), 3) := by decide +kernel
theorem dX7_upTo_31 : decode cX7_upTo 31 = .ok (.iload_n 3, 1) := by decide +kernel
theorem dX7_upTo_32 : decode cX7_upTo 32 = .ok (.ireturn, 1) := by decide +kernel
theorem dX7_all_0 : decode cX7_all 0 = .ok (.aload_n 0, 1) := by decide +kernel
theorem dX7_all_1 : decode cX7_all 1 = .ok (.iload_n 1, 1) := by decide +kernel
theorem dX7_all_2 : decode cX7_all 2 = .ok (.aload_n 0, 1) := by decide +kernel
theorem dX7_all_3 : decode cX7_all 3 = .ok (.getfield 7, 3) := by decide +kernel
theorem dX7_all_6 : decode cX7_all 6 = .ok (.iload_n 1, 1) := by decide +kernel
theorem dX7_all_7 : decode cX7_all 7 = .ok (.iaload, 1) := by decide +kernel
theorem dX7_all_8 : decode cX7_all 8 = .ok (.iconst 1, 1) := by decide +kernel
theorem dX7_all_9 : decode cX7_all 9 = .ok (.isub, 1) := by decide +kernel
theorem dX7_all_10 : decode cX7_all 10 = .ok (.invokevirtual 103, 3) := by decide +kernel
theorem dX7_all_13 : decode cX7_all 13 = .ok (.ireturn, 1) := by decide +kernel
theorem dX7_plan_0 : decode cX7_plan 0 = .ok (.aload_n 0, 1) := by decide +kernel
theorem dX7_plan_1 : decode cX7_plan 1 = .ok (.getfield 91, 3) := by decide +kernel
theorem dX7_plan_4 : decode cX7_plan 4 = .ok (.bipush 24, 2) := by decide +kernel
theorem dX7_plan_6 : decode cX7_plan 6 = .ok (.if_icmp .ne 6, 3) := by decide +kernel
theorem dX7_plan_9 : decode cX7_plan 9 = .ok (.bipush (-2), 2) := by decide +kernel
theorem dX7_plan_11 : decode cX7_plan 11 = .ok (.ireturn, 1) := by decide +kernel
theorem dX7_plan_12 : decode cX7_plan 12 = .ok (.aload_n 0, 1) := by decide +kernel
theorem dX7_plan_13 : decode cX7_plan 13 = .ok (.getfield 7, 3) := by decide +kernel
theorem dX7_plan_16 : decode cX7_plan 16 = .ok (.aload_n 0, 1) := by decide +kernel
theorem dX7_plan_17 : decode cX7_plan 17 = .ok (.getfield 91, 3) := by decide +kernel
theorem dX7_plan_20 : decode cX7_plan 20 = .ok (.iconst 0, 1) := by decide +kernel
theorem dX7_plan_21 : decode cX7_plan 21 = .ok (.iastore, 1) := by decide +kernel
theorem dX7_plan_22 : decode cX7_plan 22 = .ok (.aload_n 0, 1) := by decide +kernel
theorem dX7_plan_23 : decode cX7_plan 23 = .ok (.dup, 1) := by decide +kernel
theorem dX7_plan_24 : decode cX7_plan 24 = .ok (.getfield 91, 3) := by decide +kernel
theorem dX7_plan_27 : decode cX7_plan 27 = .ok (.iconst 1, 1) := by decide +kernel
theorem dX7_plan_28 : decode cX7_plan 28 = .ok (.iadd, 1) := by decide +kernel
theorem dX7_plan_29 : decode cX7_plan 29 = .ok (.putfield 91, 3) := by decide +kernel
theorem dX7_plan_32 : decode cX7_plan 32 = .ok (.aload_n 0, 1) := by decide +kernel
theorem dX7_plan_33 : decode cX7_plan 33 = .ok (.getfield 91, 3) := by decide +kernel
theorem dX7_plan_36 : decode cX7_plan 36 = .ok (.iconst 1, 1) := by decide +kernel
theorem dX7_plan_37 : decode cX7_plan 37 = .ok (.isub, 1) := by decide +kernel
theorem dX7_plan_38 : decode cX7_plan 38 = .ok (.ireturn, 1) := by decide +kernel
theorem dX7_stage_0 : decode cX7_stage 0 = .ok (.aload_n 0, 1) := by decide +kernel
theorem dX7_stage_1 : decode cX7_stage 1 = .ok (.iload_n 1, 1) := by decide +kernel
theorem dX7_stage_2 : decode cX7_stage 2 = .ok (.invokevirtual 99, 3) := by decide +kernel
theorem dX7_stage_5 : decode cX7_stage 5 = .ok (.ifCond .eq 42, 3) := by decide +kernel
theorem dX7_stage_8 : decode cX7_stage 8 = .ok (.aload_n 0, 1) := by decide +kernel
theorem dX7_stage_9 : decode cX7_stage 9 = .ok (.iload_n 1, 1) := by decide +kernel
theorem dX7_stage_10 : decode cX7_stage 10 = .ok (.invokevirtual 107, 3) := by decide +kernel
theorem dX7_stage_13 : decode cX7_stage 13 = .ok (.ifCond .ne 34, 3) := by decide +kernel
theorem dX7_stage_16 : decode cX7_stage 16 = .ok (.aload_n 0, 1) := by decide +kernel
theorem dX7_stage_17 : decode cX7_stage 17 = .ok (.getfield 7, 3) := by decide +kernel
theorem dX7_stage_20 : decode cX7_stage 20 = .ok (.iload_n 1, 1) := by decide +kernel
theorem dX7_stage_21 : decode cX7_stage 21 = .ok (.iaload, 1) := by decide +kernel
theorem dX7_stage_22 : decode cX7_stage 22 = .ok (.iconst 4, 1) := by decide +kernel
theorem dX7_stage_23 : decode cX7_stage 23 = .ok (.if_icmp .eq 24, 3) := by decide +kernel
theorem dX7_stage_26 : decode cX7_stage 26 = .ok (.aload_n 0, 1) := by decide +kernel
theorem dX7_stage_27 : decode cX7_stage 27 = .ok (.getfield 7, 3) := by decide +kernel
theorem dX7_stage_30 : decode cX7_stage 30 = .ok (.iload_n 1, 1) := by decide +kernel
theorem dX7_stage_31 : decode cX7_stage 31 = .ok (.iaload, 1) := by decide +kernel
theorem dX7_stage_32 : decode cX7_stage 32 = .ok (.iconst 3, 1) := by decide +kernel
theorem dX7_stage_33 : decode cX7_stage 33 = .ok (.if_icmp .ne 17, 3) := by decide +kernel
theorem dX7_stage_36 : decode cX7_stage 36 = .ok (.iload 4, 2) := by decide +kernel
theorem dX7_stage_38 : decode cX7_stage 38 = .ok (.i2l, 1) := by decide +kernel
theorem dX7_stage_39 : decode cX7_stage 39 = .ok (.iload_n 3, 1) := by decide +kernel
theorem dX7_stage_40 : decode cX7_stage 40 = .ok (.i2l, 1) := by decide +kernel
theorem dX7_stage_41 : decode cX7_stage 41 = .ok (.lconst 1, 1) := by decide +kernel
theorem dX7_stage_42 : decode cX7_stage 42 = .ok (.ladd, 1) := by decide +kernel
theorem dX7_stage_43 : decode cX7_stage 43 = .ok (.lcmp, 1) := by decide +kernel
theorem dX7_stage_44 : decode cX7_stage 44 = .ok (.ifCond .eq 6, 3) := by decide +kernel
theorem dX7_stage_47 : decode cX7_stage 47 = .ok (.bipush (-2), 2) := by decide +kernel
theorem dX7_stage_49 : decode cX7_stage 49 = .ok (.ireturn, 1) := by decide +kernel
theorem dX7_stage_50 : decode cX7_stage 50 = .ok (.iload_n 2, 1) := by decide +kernel
theorem dX7_stage_51 : decode cX7_stage 51 = .ok (.iconst 1, 1) := by decide +kernel
theorem dX7_stage_52 : decode cX7_stage 52 = .ok (.bipush 60, 2) := by decide +kernel
theorem dX7_stage_54 : decode cX7_stage 54 = .ok (.invokestatic 95, 3) := by decide +kernel
theorem dX7_stage_57 : decode cX7_stage 57 = .ok (.ifCond .eq 38, 3) := by decide +kernel
theorem dX7_stage_60 : decode cX7_stage 60 = .ok (.iload_n 3, 1) := by decide +kernel
theorem dX7_stage_61 : decode cX7_stage 61 = .ok (.iconst (-1), 1) := by decide +kernel
theorem dX7_stage_62 : decode cX7_stage 62 = .ok (.bipush 60, 2) := by decide +kernel
theorem dX7_stage_64 : decode cX7_stage 64 = .ok (.invokestatic 95, 3) := by decide +kernel
theorem dX7_stage_67 : decode cX7_stage 67 = .ok (.ifCond .eq 28, 3) := by decide +kernel
theorem dX7_stage_70 : decode cX7_stage 70 = .ok (.iload 4, 2) := by decide +kernel
theorem dX7_stage_72 : decode cX7_stage 72 = .ok (.iload_n 3, 1) := by decide +kernel
theorem dX7_stage_73 : decode cX7_stage 73 = .ok (.if_icmp .le 22, 3) := by decide +kernel
theorem dX7_stage_76 : decode cX7_stage 76 = .ok (.iload 4, 2) := by decide +kernel
theorem dX7_stage_78 : decode cX7_stage 78 = .ok (.bipush 61, 2) := by decide +kernel
theorem dX7_stage_80 : decode cX7_stage 80 = .ok (.if_icmp .gt 15, 3) := by decide +kernel
theorem dX7_stage_83 : decode cX7_stage 83 = .ok (.aload_n 0, 1) := by decide +kernel
theorem dX7_stage_84 : decode cX7_stage 84 = .ok (.iload_n 1, 1) := by decide +kernel
theorem dX7_stage_85 : decode cX7_stage 85 = .ok (.invokevirtual 110, 3) := by decide +kernel
theorem dX7_stage_88 : decode cX7_stage 88 = .ok (.iload_n 2, 1) := by decide +kernel
theorem dX7_stage_89 : decode cX7_stage 89 = .ok (.iadd, 1) := by decide +kernel
theorem dX7_stage_90 : decode cX7_stage 90 = .ok (.bipush 60, 2) := by decide +kernel
theorem dX7_stage_92 : decode cX7_stage 92 = .ok (.if_icmp .le 6, 3) := by decide +kernel
theorem dX7_stage_95 : decode cX7_stage 95 = .ok (.bipush (-2), 2) := by decide +kernel
theorem dX7_stage_97 : decode cX7_stage 97 = .ok (.ireturn, 1) := by decide +kernel
theorem dX7_stage_98 : decode cX7_stage 98 = .ok (.iconst 4, 1) := by decide +kernel
theorem dX7_stage_99 : decode cX7_stage 99 = .ok (.iload_n 1, 1) := by decide +kernel
theorem dX7_stage_100 : decode cX7_stage 100 = .ok (.imul, 1) := by decide +kernel
theorem dX7_stage_101 : decode cX7_stage 101 = .ok (.aload_n 0, 1) := by decide +kernel
theorem dX7_stage_102 : decode cX7_stage 102 = .ok (.getfield 7, 3) := by decide +kernel
theorem dX7_stage_105 : decode cX7_stage 105 = .ok (.iload_n 1, 1) := by decide +kernel
theorem dX7_stage_106 : decode cX7_stage 106 = .ok (.iaload, 1) := by decide +kernel
theorem dX7_stage_107 : decode cX7_stage 107 = .ok (.iadd, 1) := by decide +kernel
theorem dX7_stage_108 : decode cX7_stage 108 = .ok (.istore 5, 2) := by decide +kernel
theorem dX7_stage_110 : decode cX7_stage 110 = .ok (.aload_n 0, 1) := by decide +kernel
theorem dX7_stage_111 : decode cX7_stage 111 = .ok (.getfield 13, 3) := by decide +kernel
theorem dX7_stage_114 : decode cX7_stage 114 = .ok (.iload 5, 2) := by decide +kernel
theorem dX7_stage_116 : decode cX7_stage 116 = .ok (.iload_n 2, 1) := by decide +kernel
theorem dX7_stage_117 : decode cX7_stage 117 = .ok (.iastore, 1) := by decide +kernel
theorem dX7_stage_118 : decode cX7_stage 118 = .ok (.aload_n 0, 1) := by decide +kernel
theorem dX7_stage_119 : decode cX7_stage 119 = .ok (.getfield 16, 3) := by decide +kernel
theorem dX7_stage_122 : decode cX7_stage 122 = .ok (.iload 5, 2) := by decide +kernel
theorem dX7_stage_124 : decode cX7_stage 124 = .ok (.iload_n 3, 1) := by decide +kernel
theorem dX7_stage_125 : decode cX7_stage 125 = .ok (.iastore, 1) := by decide +kernel
theorem dX7_stage_126 : decode cX7_stage 126 = .ok (.aload_n 0, 1) := by decide +kernel
theorem dX7_stage_127 : decode cX7_stage 127 = .ok (.getfield 19, 3) := by decide +kernel
theorem dX7_stage_130 : decode cX7_stage 130 = .ok (.iload 5, 2) := by decide +kernel
theorem dX7_stage_132 : decode cX7_stage 132 = .ok (.iload 4, 2) := by decide +kernel
theorem dX7_stage_134 : decode cX7_stage 134 = .ok (.iastore, 1) := by decide +kernel
theorem dX7_stage_135 : decode cX7_stage 135 = .ok (.aload_n 0, 1) := by decide +kernel
theorem dX7_stage_136 : decode cX7_stage 136 = .ok (.getfield 7, 3) := by decide +kernel
theorem dX7_stage_139 : decode cX7_stage 139 = .ok (.iload_n 1, 1) := by decide +kernel
theorem dX7_stage_140 : decode cX7_stage 140 = .ok (.dup2, 1) := by decide +kernel
theorem dX7_stage_141 : decode cX7_stage 141 = .ok (.iaload, 1) := by decide +kernel
theorem dX7_stage_142 : decode cX7_stage 142 = .ok (.iconst 1, 1) := by decide +kernel
theorem dX7_stage_143 : decode cX7_stage 143 = .ok (.iadd, 1) := by decide +kernel
theorem dX7_stage_144 : decode cX7_stage 144 = .ok (.iastore, 1) := by decide +kernel
theorem dX7_stage_145 : decode cX7_stage 145 = .ok (.aload_n 0, 1) := by decide +kernel
theorem dX7_stage_146 : decode cX7_stage 146 = .ok (.getfield 7, 3) := by decide +kernel
theorem dX7_stage_149 : decode cX7_stage 149 = .ok (.iload_n 1, 1) := by decide +kernel
theorem dX7_stage_150 : decode cX7_stage 150 = .ok (.iaload, 1) := by decide +kernel
theorem dX7_stage_151 : decode cX7_stage 151 = .ok (.ireturn, 1) := by decide +kernel
theorem dX7_of_0 : decode cX7_of 0 = .ok (.aload_n 0, 1) := by decide +kernel
theorem dX7_of_1 : decode cX7_of 1 = .ok (.iload_n 1, 1) := by decide +kernel
theorem dX7_of_2 : decode cX7_of 2 = .ok (.invokevirtual 99, 3) := by decide +kernel
theorem dX7_of_5 : decode cX7_of 5 = .ok (.ifCond .eq 19, 3) := by decide +kernel
theorem dX7_of_8 : decode cX7_of 8 = .ok (.iload_n 2, 1) := by decide +kernel
theorem dX7_of_9 : decode cX7_of 9 = .ok (.iconst 0, 1) := by decide +kernel
theorem dX7_of_10 : decode cX7_of 10 = .ok (.aload_n 0, 1) := by decide +kernel
theorem dX7_of_11 : decode cX7_of 11 = .ok (.getfield 7, 3) := by decide +kernel
theorem dX7_of_14 : decode cX7_of 14 = .ok (.iload_n 1, 1) := by decide +kernel
theorem dX7_of_15 : decode cX7_of 15 = .ok (.iaload, 1) := by decide +kernel
theorem dX7_of_16 : decode cX7_of 16 = .ok (.iconst 1, 1) := by decide +kernel
theorem dX7_of_17 : decode cX7_of 17 = .ok (.isub, 1) := by decide +kernel
theorem dX7_of_18 : decode cX7_of 18 = .ok (.invokestatic 95, 3) := by decide +kernel
theorem dX7_of_21 : decode cX7_of 21 = .ok (.ifCond .ne 6, 3) := by decide +kernel
theorem dX7_of_24 : decode cX7_of 24 = .ok (.bipush (-2), 2) := by decide +kernel
theorem dX7_of_26 : decode cX7_of 26 = .ok (.ireturn, 1) := by decide +kernel
theorem dX7_of_27 : decode cX7_of 27 = .ok (.iload_n 3, 1) := by decide +kernel
theorem dX7_of_28 : decode cX7_of 28 = .ok (.ifCond .ne 16, 3) := by decide +kernel
theorem dX7_of_31 : decode cX7_of 31 = .ok (.aload_n 0, 1) := by decide +kernel
theorem dX7_of_32 : decode cX7_of 32 = .ok (.getfield 13, 3) := by decide +kernel
theorem dX7_of_35 : decode cX7_of 35 = .ok (.iconst 4, 1) := by decide +kernel
theorem dX7_of_36 : decode cX7_of 36 = .ok (.iload_n 1, 1) := by decide +kernel
theorem dX7_of_37 : decode cX7_of 37 = .ok (.imul, 1) := by decide +kernel
theorem dX7_of_38 : decode cX7_of 38 = .ok (.iload_n 2, 1) := by decide +kernel
theorem dX7_of_39 : decode cX7_of 39 = .ok (.iadd, 1) := by decide +kernel
theorem dX7_of_40 : decode cX7_of 40 = .ok (.iaload, 1) := by decide +kernel
theorem dX7_of_41 : decode cX7_of 41 = .ok (.goto 41, 3) := by decide +kernel
theorem dX7_of_44 : decode cX7_of 44 = .ok (.iload_n 3, 1) := by decide +kernel
theorem dX7_of_45 : decode cX7_of 45 = .ok (.iconst 1, 1) := by decide +kernel
theorem dX7_of_46 : decode cX7_of 46 = .ok (.if_icmp .ne 16, 3) := by decide +kernel
theorem dX7_of_49 : decode cX7_of 49 = .ok (.aload_n 0, 1) := by decide +kernel
theorem dX7_of_50 : decode cX7_of 50 = .ok (.getfield 16, 3) := by decide +kernel
theorem dX7_of_53 : decode cX7_of 53 = .ok (.iconst 4, 1) := by decide +kernel
theorem dX7_of_54 : decode cX7_of 54 = .ok (.iload_n 1, 1) := by decide +kernel
theorem dX7_of_55 : decode cX7_of 55 = .ok (.imul, 1) := by decide +kernel
theorem dX7_of_56 : decode cX7_of 56 = .ok (.iload_n 2, 1) := by decide +kernel
theorem dX7_of_57 : decode cX7_of 57 = .ok (.iadd, 1) := by decide +kernel
theorem dX7_of_58 : decode cX7_of 58 = .ok (.iaload, 1) := by decide +kernel
theorem dX7_of_59 : decode cX7_of 59 = .ok (.goto 23, 3) := by decide +kernel
theorem dX7_of_62 : decode cX7_of 62 = .ok (.iload_n 3, 1) := by decide +kernel
theorem dX7_of_63 : decode cX7_of 63 = .ok (.iconst 2, 1) := by decide +kernel
theorem dX7_of_64 : decode cX7_of 64 = .ok (.if_icmp .ne 16, 3) := by decide +kernel
theorem dX7_of_67 : decode cX7_of 67 = .ok (.aload_n 0, 1) := by decide +kernel
theorem dX7_of_68 : decode cX7_of 68 = .ok (.getfield 19, 3) := by decide +kernel
theorem dX7_of_71 : decode cX7_of 71 = .ok (.iconst 4, 1) := by decide +kernel
theorem dX7_of_72 : decode cX7_of 72 = .ok (.iload_n 1, 1) := by decide +kernel
theorem dX7_of_73 : decode cX7_of 73 = .ok (.imul, 1) := by decide +kernel
theorem dX7_of_74 : decode cX7_of 74 = .ok (.iload_n 2, 1) := by decide +kernel
theorem dX7_of_75 : decode cX7_of 75 = .ok (.iadd, 1) := by decide +kernel
theorem dX7_of_76 : decode cX7_of 76 = .ok (.iaload, 1) := by decide +kernel
theorem dX7_of_77 : decode cX7_of 77 = .ok (.goto 5, 3) := by decide +kernel
theorem dX7_of_80 : decode cX7_of 80 = .ok (.bipush (-2), 2) := by decide +kernel
theorem dX7_of_82 : decode cX7_of 82 = .ok (.ireturn, 1) := by decide +kernel
theorem dX7_go_0 : decode cX7_go 0 = .ok (.aload_n 0, 1) := by decide +kernel
theorem dX7_go_1 : decode cX7_go 1 = .ok (.lconst 0, 1) := by decide +kernel
theorem dX7_go_2 : decode cX7_go 2 = .ok (.putfield 114, 3) := by decide +kernel
theorem dX7_go_5 : decode cX7_go 5 = .ok (.aload_n 0, 1) := by decide +kernel
theorem dX7_go_6 : decode cX7_go 6 = .ok (.lconst 0, 1) := by decide +kernel
theorem dX7_go_7 : decode cX7_go 7 = .ok (.putfield 117, 3) := by decide +kernel
theorem dX7_go_10 : decode cX7_go 10 = .ok (.aload_n 0, 1) := by decide +kernel
theorem dX7_go_11 : decode cX7_go 11 = .ok (.lconst 0, 1) := by decide +kernel
theorem dX7_go_12 : decode cX7_go 12 = .ok (.putfield 120, 3) := by decide +kernel
theorem dX7_go_15 : decode cX7_go 15 = .ok (.iconst 0, 1) := by decide +kernel
theorem dX7_go_16 : decode cX7_go 16 = .ok (.istore 4, 2) := by decide +kernel
theorem dX7_go_18 : decode cX7_go 18 = .ok (.iload 4, 2) := by decide +kernel
theorem dX7_go_20 : decode cX7_go 20 = .ok (.bipush 62, 2) := by decide +kernel
theorem dX7_go_22 : decode cX7_go 22 = .ok (.if_icmp .ge 17, 3) := by decide +kernel
theorem dX7_go_25 : decode cX7_go 25 = .ok (.aload_n 0, 1) := by decide +kernel
theorem dX7_go_26 : decode cX7_go 26 = .ok (.getfield 79, 3) := by decide +kernel
theorem dX7_go_29 : decode cX7_go 29 = .ok (.iload 4, 2) := by decide +kernel
theorem dX7_go_31 : decode cX7_go 31 = .ok (.lconst 0, 1) := by decide +kernel
theorem dX7_go_32 : decode cX7_go 32 = .ok (.lastore, 1) := by decide +kernel
theorem dX7_go_33 : decode cX7_go 33 = .ok (.iinc 4 1, 3) := by decide +kernel
theorem dX7_go_36 : decode cX7_go 36 = .ok (.goto (-18), 3) := by decide +kernel
theorem dX7_go_39 : decode cX7_go 39 = .ok (.aload_n 0, 1) := by decide +kernel
theorem dX7_go_40 : decode cX7_go 40 = .ok (.getfield 79, 3) := by decide +kernel
theorem dX7_go_43 : decode cX7_go 43 = .ok (.iconst 0, 1) := by decide +kernel
theorem dX7_go_44 : decode cX7_go 44 = .ok (.lconst 1, 1) := by decide +kernel
theorem dX7_go_45 : decode cX7_go 45 = .ok (.lastore, 1) := by decide +kernel
theorem dX7_go_46 : decode cX7_go 46 = .ok (.iconst 0, 1) := by decide +kernel
theorem dX7_go_47 : decode cX7_go 47 = .ok (.istore 4, 2) := by decide +kernel
theorem dX7_go_49 : decode cX7_go 49 = .ok (.aload_n 0, 1) := by decide +kernel
theorem dX7_go_50 : decode cX7_go 50 = .ok (.iload_n 1, 1) := by decide +kernel
theorem dX7_go_51 : decode cX7_go 51 = .ok (.invokevirtual 110, 3) := by decide +kernel
theorem dX7_go_54 : decode cX7_go 54 = .ok (.istore 5, 2) := by decide +kernel
theorem dX7_go_56 : decode cX7_go 56 = .ok (.iconst 1, 1) := by decide +kernel
theorem dX7_go_57 : decode cX7_go 57 = .ok (.istore 6, 2) := by decide +kernel
theorem dX7_go_59 : decode cX7_go 59 = .ok (.iload 6, 2) := by decide +kernel
theorem dX7_go_61 : decode cX7_go 61 = .ok (.iload 5, 2) := by decide +kernel
theorem dX7_go_63 : decode cX7_go 63 = .ok (.if_icmp .gt 284, 3) := by decide +kernel
theorem dX7_go_66 : decode cX7_go 66 = .ok (.iconst 0, 1) := by decide +kernel
theorem dX7_go_67 : decode cX7_go 67 = .ok (.istore 7, 2) := by decide +kernel
theorem dX7_go_69 : decode cX7_go 69 = .ok (.iload 7, 2) := by decide +kernel
theorem dX7_go_71 : decode cX7_go 71 = .ok (.bipush 62, 2) := by decide +kernel
theorem dX7_go_73 : decode cX7_go 73 = .ok (.if_icmp .ge 42, 3) := by decide +kernel
theorem dX7_go_76 : decode cX7_go 76 = .ok (.aload_n 0, 1) := by decide +kernel
theorem dX7_go_77 : decode cX7_go 77 = .ok (.getfield 82, 3) := by decide +kernel
theorem dX7_go_80 : decode cX7_go 80 = .ok (.iload 7, 2) := by decide +kernel
theorem dX7_go_82 : decode cX7_go 82 = .ok (.aload_n 0, 1) := by decide +kernel
theorem dX7_go_83 : decode cX7_go 83 = .ok (.getfield 79, 3) := by decide +kernel
theorem dX7_go_86 : decode cX7_go 86 = .ok (.iload 7, 2) := by decide +kernel
theorem dX7_go_88 : decode cX7_go 88 = .ok (.laload, 1) := by decide +kernel
theorem dX7_go_89 : decode cX7_go 89 = .ok (.iload 7, 2) := by decide +kernel
theorem dX7_go_91 : decode cX7_go 91 = .ok (.ifCond .le 15, 3) := by decide +kernel
theorem dX7_go_94 : decode cX7_go 94 = .ok (.aload_n 0, 1) := by decide +kernel
theorem dX7_go_95 : decode cX7_go 95 = .ok (.getfield 79, 3) := by decide +kernel
theorem dX7_go_98 : decode cX7_go 98 = .ok (.iload 7, 2) := by decide +kernel
theorem dX7_go_100 : decode cX7_go 100 = .ok (.iconst 1, 1) := by decide +kernel
theorem dX7_go_101 : decode cX7_go 101 = .ok (.isub, 1) := by decide +kernel
theorem dX7_go_102 : decode cX7_go 102 = .ok (.laload, 1) := by decide +kernel
theorem dX7_go_103 : decode cX7_go 103 = .ok (.goto 4, 3) := by decide +kernel
theorem dX7_go_106 : decode cX7_go 106 = .ok (.lconst 0, 1) := by decide +kernel
theorem dX7_go_107 : decode cX7_go 107 = .ok (.ladd, 1) := by decide +kernel
theorem dX7_go_108 : decode cX7_go 108 = .ok (.lastore, 1) := by decide +kernel
theorem dX7_go_109 : decode cX7_go 109 = .ok (.iinc 7 1, 3) := by decide +kernel
theorem dX7_go_112 : decode cX7_go 112 = .ok (.goto (-43), 3) := by decide +kernel
theorem dX7_go_115 : decode cX7_go 115 = .ok (.aload_n 0, 1) := by decide +kernel
theorem dX7_go_116 : decode cX7_go 116 = .ok (.iload_n 1, 1) := by decide +kernel
theorem dX7_go_117 : decode cX7_go 117 = .ok (.iload 4, 2) := by decide +kernel
theorem dX7_go_119 : decode cX7_go 119 = .ok (.invokevirtual 103, 3) := by decide +kernel
theorem dX7_go_122 : decode cX7_go 122 = .ok (.istore 7, 2) := by decide +kernel
theorem dX7_go_124 : decode cX7_go 124 = .ok (.iconst 0, 1) := by decide +kernel
theorem dX7_go_125 : decode cX7_go 125 = .ok (.istore 8, 2) := by decide +kernel
theorem dX7_go_127 : decode cX7_go 127 = .ok (.iload 8, 2) := by decide +kernel
theorem dX7_go_129 : decode cX7_go 129 = .ok (.bipush 62, 2) := by decide +kernel
theorem dX7_go_131 : decode cX7_go 131 = .ok (.if_icmp .ge 200, 3) := by decide +kernel
theorem dX7_go_134 : decode cX7_go 134 = .ok (.aload_n 0, 1) := by decide +kernel
theorem dX7_go_135 : decode cX7_go 135 = .ok (.getfield 79, 3) := by decide +kernel
theorem dX7_go_138 : decode cX7_go 138 = .ok (.iload 8, 2) := by decide +kernel
theorem dX7_go_140 : decode cX7_go 140 = .ok (.aload_n 0, 1) := by decide +kernel
theorem dX7_go_141 : decode cX7_go 141 = .ok (.getfield 82, 3) := by decide +kernel
theorem dX7_go_144 : decode cX7_go 144 = .ok (.iload 8, 2) := by decide +kernel
theorem dX7_go_146 : decode cX7_go 146 = .ok (.laload, 1) := by decide +kernel
theorem dX7_go_147 : decode cX7_go 147 = .ok (.lastore, 1) := by decide +kernel
theorem dX7_go_148 : decode cX7_go 148 = .ok (.aload_n 0, 1) := by decide +kernel
theorem dX7_go_149 : decode cX7_go 149 = .ok (.getfield 82, 3) := by decide +kernel
theorem dX7_go_152 : decode cX7_go 152 = .ok (.iload 8, 2) := by decide +kernel
theorem dX7_go_154 : decode cX7_go 154 = .ok (.laload, 1) := by decide +kernel
theorem dX7_go_155 : decode cX7_go 155 = .ok (.lconst 0, 1) := by decide +kernel
theorem dX7_go_156 : decode cX7_go 156 = .ok (.lcmp, 1) := by decide +kernel
theorem dX7_go_157 : decode cX7_go 157 = .ok (.ifCond .ne 6, 3) := by decide +kernel
theorem dX7_go_160 : decode cX7_go 160 = .ok (.goto 165, 3) := by decide +kernel
theorem dX7_go_163 : decode cX7_go 163 = .ok (.iload 8, 2) := by decide +kernel
theorem dX7_go_165 : decode cX7_go 165 = .ok (.aload_n 0, 1) := by decide +kernel
theorem dX7_go_166 : decode cX7_go 166 = .ok (.getfield 19, 3) := by decide +kernel
theorem dX7_go_169 : decode cX7_go 169 = .ok (.iconst 4, 1) := by decide +kernel
theorem dX7_go_170 : decode cX7_go 170 = .ok (.iload_n 1, 1) := by decide +kernel
theorem dX7_go_171 : decode cX7_go 171 = .ok (.imul, 1) := by decide +kernel
theorem dX7_go_172 : decode cX7_go 172 = .ok (.iload 4, 2) := by decide +kernel
theorem dX7_go_174 : decode cX7_go 174 = .ok (.iadd, 1) := by decide +kernel
theorem dX7_go_175 : decode cX7_go 175 = .ok (.iaload, 1) := by decide +kernel
theorem dX7_go_176 : decode cX7_go 176 = .ok (.if_icmp .lt 7, 3) := by decide +kernel
theorem dX7_go_179 : decode cX7_go 179 = .ok (.iconst 1, 1) := by decide +kernel
theorem dX7_go_180 : decode cX7_go 180 = .ok (.goto 4, 3) := by decide +kernel
theorem dX7_go_183 : decode cX7_go 183 = .ok (.iconst 0, 1) := by decide +kernel
theorem dX7_go_184 : decode cX7_go 184 = .ok (.istore 9, 2) := by decide +kernel
theorem dX7_go_186 : decode cX7_go 186 = .ok (.iload 9, 2) := by decide +kernel
theorem dX7_go_188 : decode cX7_go 188 = .ok (.ifCond .ne 30, 3) := by decide +kernel
theorem dX7_go_191 : decode cX7_go 191 = .ok (.iload 6, 2) := by decide +kernel
theorem dX7_go_193 : decode cX7_go 193 = .ok (.iload 7, 2) := by decide +kernel
theorem dX7_go_195 : decode cX7_go 195 = .ok (.if_icmp .ne 23, 3) := by decide +kernel
theorem dX7_go_198 : decode cX7_go 198 = .ok (.iload 8, 2) := by decide +kernel
theorem dX7_go_200 : decode cX7_go 200 = .ok (.aload_n 0, 1) := by decide +kernel
theorem dX7_go_201 : decode cX7_go 201 = .ok (.getfield 16, 3) := by decide +kernel
theorem dX7_go_204 : decode cX7_go 204 = .ok (.iconst 4, 1) := by decide +kernel
theorem dX7_go_205 : decode cX7_go 205 = .ok (.iload_n 1, 1) := by decide +kernel
theorem dX7_go_206 : decode cX7_go 206 = .ok (.imul, 1) := by decide +kernel
theorem dX7_go_207 : decode cX7_go 207 = .ok (.iload 4, 2) := by decide +kernel
theorem dX7_go_209 : decode cX7_go 209 = .ok (.iadd, 1) := by decide +kernel
theorem dX7_go_210 : decode cX7_go 210 = .ok (.iaload, 1) := by decide +kernel
theorem dX7_go_211 : decode cX7_go 211 = .ok (.if_icmp .gt 7, 3) := by decide +kernel
theorem dX7_go_214 : decode cX7_go 214 = .ok (.iconst 1, 1) := by decide +kernel
theorem dX7_go_215 : decode cX7_go 215 = .ok (.goto 4, 3) := by decide +kernel
theorem dX7_go_218 : decode cX7_go 218 = .ok (.iconst 0, 1) := by decide +kernel
theorem dX7_go_219 : decode cX7_go 219 = .ok (.istore 10, 2) := by decide +kernel
theorem dX7_go_221 : decode cX7_go 221 = .ok (.iload 9, 2) := by decide +kernel
theorem dX7_go_223 : decode cX7_go 223 = .ok (.ifCond .ne 11, 3) := by decide +kernel
theorem dX7_go_226 : decode cX7_go 226 = .ok (.iload 10, 2) := by decide +kernel
theorem dX7_go_228 : decode cX7_go 228 = .ok (.ifCond .ne 6, 3) := by decide +kernel
theorem dX7_go_231 : decode cX7_go 231 = .ok (.goto 94, 3) := by decide +kernel
theorem dX7_go_234 : decode cX7_go 234 = .ok (.aload_n 0, 1) := by decide +kernel
theorem dX7_go_235 : decode cX7_go 235 = .ok (.getfield 82, 3) := by decide +kernel
theorem dX7_go_238 : decode cX7_go 238 = .ok (.iload 8, 2) := by decide +kernel
theorem dX7_go_240 : decode cX7_go 240 = .ok (.laload, 1) := by decide +kernel
theorem dX7_go_241 : decode cX7_go 241 = .ok (.aload_n 0, 1) := by decide +kernel
theorem dX7_go_242 : decode cX7_go 242 = .ok (.iload_n 2, 1) := by decide +kernel
theorem dX7_go_243 : decode cX7_go 243 = .ok (.iload 6, 2) := by decide +kernel
theorem dX7_go_245 : decode cX7_go 245 = .ok (.isub, 1) := by decide +kernel
theorem dX7_go_246 : decode cX7_go 246 = .ok (.iload_n 3, 1) := by decide +kernel
theorem dX7_go_247 : decode cX7_go 247 = .ok (.iload 8, 2) := by decide +kernel
theorem dX7_go_249 : decode cX7_go 249 = .ok (.isub, 1) := by decide +kernel
theorem dX7_go_250 : decode cX7_go 250 = .ok (.invokevirtual 123, 3) := by decide +kernel
theorem dX7_go_253 : decode cX7_go 253 = .ok (.lmul, 1) := by decide +kernel
theorem dX7_go_254 : decode cX7_go 254 = .ok (.lstore 11, 2) := by decide +kernel
theorem dX7_go_256 : decode cX7_go 256 = .ok (.aload_n 0, 1) := by decide +kernel
theorem dX7_go_257 : decode cX7_go 257 = .ok (.dup, 1) := by decide +kernel
theorem dX7_go_258 : decode cX7_go 258 = .ok (.getfield 117, 3) := by decide +kernel
theorem dX7_go_261 : decode cX7_go 261 = .ok (.lload 11, 2) := by decide +kernel
theorem dX7_go_263 : decode cX7_go 263 = .ok (.iload 7, 2) := by decide +kernel
theorem dX7_go_265 : decode cX7_go 265 = .ok (.i2l, 1) := by decide +kernel
theorem dX7_go_266 : decode cX7_go 266 = .ok (.lmul, 1) := by decide +kernel
theorem dX7_go_267 : decode cX7_go 267 = .ok (.ladd, 1) := by decide +kernel
theorem dX7_go_268 : decode cX7_go 268 = .ok (.putfield 117, 3) := by decide +kernel
theorem dX7_go_271 : decode cX7_go 271 = .ok (.aload_n 0, 1) := by decide +kernel
theorem dX7_go_272 : decode cX7_go 272 = .ok (.dup, 1) := by decide +kernel
theorem dX7_go_273 : decode cX7_go 273 = .ok (.getfield 114, 3) := by decide +kernel
theorem dX7_go_276 : decode cX7_go 276 = .ok (.iload 10, 2) := by decide +kernel
theorem dX7_go_278 : decode cX7_go 278 = .ok (.ifCond .eq 8, 3) := by decide +kernel
theorem dX7_go_281 : decode cX7_go 281 = .ok (.lload 11, 2) := by decide +kernel
theorem dX7_go_283 : decode cX7_go 283 = .ok (.goto 4, 3) := by decide +kernel
theorem dX7_go_286 : decode cX7_go 286 = .ok (.lconst 0, 1) := by decide +kernel
theorem dX7_go_287 : decode cX7_go 287 = .ok (.ladd, 1) := by decide +kernel
theorem dX7_go_288 : decode cX7_go 288 = .ok (.putfield 114, 3) := by decide +kernel
theorem dX7_go_291 : decode cX7_go 291 = .ok (.aload_n 0, 1) := by decide +kernel
theorem dX7_go_292 : decode cX7_go 292 = .ok (.dup, 1) := by decide +kernel
theorem dX7_go_293 : decode cX7_go 293 = .ok (.getfield 120, 3) := by decide +kernel
theorem dX7_go_296 : decode cX7_go 296 = .ok (.iload 10, 2) := by decide +kernel
theorem dX7_go_298 : decode cX7_go 298 = .ok (.ifCond .eq 14, 3) := by decide +kernel
theorem dX7_go_301 : decode cX7_go 301 = .ok (.lload 11, 2) := by decide +kernel
theorem dX7_go_303 : decode cX7_go 303 = .ok (.iload_n 3, 1) := by decide +kernel
theorem dX7_go_304 : decode cX7_go 304 = .ok (.iload 8, 2) := by decide +kernel
theorem dX7_go_306 : decode cX7_go 306 = .ok (.isub, 1) := by decide +kernel
theorem dX7_go_307 : decode cX7_go 307 = .ok (.i2l, 1) := by decide +kernel
theorem dX7_go_308 : decode cX7_go 308 = .ok (.lmul, 1) := by decide +kernel
theorem dX7_go_309 : decode cX7_go 309 = .ok (.goto 4, 3) := by decide +kernel
theorem dX7_go_312 : decode cX7_go 312 = .ok (.lconst 0, 1) := by decide +kernel
theorem dX7_go_313 : decode cX7_go 313 = .ok (.ladd, 1) := by decide +kernel
theorem dX7_go_314 : decode cX7_go 314 = .ok (.putfield 120, 3) := by decide +kernel
theorem dX7_go_317 : decode cX7_go 317 = .ok (.aload_n 0, 1) := by decide +kernel
theorem dX7_go_318 : decode cX7_go 318 = .ok (.getfield 79, 3) := by decide +kernel
theorem dX7_go_321 : decode cX7_go 321 = .ok (.iload 8, 2) := by decide +kernel
theorem dX7_go_323 : decode cX7_go 323 = .ok (.lconst 0, 1) := by decide +kernel
theorem dX7_go_324 : decode cX7_go 324 = .ok (.lastore, 1) := by decide +kernel
theorem dX7_go_325 : decode cX7_go 325 = .ok (.iinc 8 1, 3) := by decide +kernel
theorem dX7_go_328 : decode cX7_go 328 = .ok (.goto (-201), 3) := by decide +kernel
theorem dX7_go_331 : decode cX7_go 331 = .ok (.iload 6, 2) := by decide +kernel
theorem dX7_go_333 : decode cX7_go 333 = .ok (.iload 7, 2) := by decide +kernel
theorem dX7_go_335 : decode cX7_go 335 = .ok (.if_icmp .ne 6, 3) := by decide +kernel
theorem dX7_go_338 : decode cX7_go 338 = .ok (.iinc 4 1, 3) := by decide +kernel
theorem dX7_go_341 : decode cX7_go 341 = .ok (.iinc 6 1, 3) := by decide +kernel
theorem dX7_go_344 : decode cX7_go 344 = .ok (.goto (-285), 3) := by decide +kernel
theorem dX7_go_347 : decode cX7_go 347 = .ok (.return_, 1) := by decide +kernel
theorem dX7_common_0 : decode cX7_common 0 = .ok (.lload_n 0, 1) := by decide +kernel
theorem dX7_common_1 : decode cX7_common 1 = .ok (.lstore 4, 2) := by decide +kernel
theorem dX7_common_3 : decode cX7_common 3 = .ok (.lload_n 2, 1) := by decide +kernel
theorem dX7_common_4 : decode cX7_common 4 = .ok (.lstore 6, 2) := by decide +kernel
theorem dX7_common_6 : decode cX7_common 6 = .ok (.lload 6, 2) := by decide +kernel
theorem dX7_common_8 : decode cX7_common 8 = .ok (.lconst 0, 1) := by decide +kernel
theorem dX7_common_9 : decode cX7_common 9 = .ok (.lcmp, 1) := by decide +kernel
theorem dX7_common_10 : decode cX7_common 10 = .ok (.ifCond .eq 21, 3) := by decide +kernel
theorem dX7_common_13 : decode cX7_common 13 = .ok (.lload 4, 2) := by decide +kernel
theorem dX7_common_15 : decode cX7_common 15 = .ok (.lload 6, 2) := by decide +kernel
theorem dX7_common_17 : decode cX7_common 17 = .ok (.lrem, 1) := by decide +kernel
theorem dX7_common_18 : decode cX7_common 18 = .ok (.lstore 8, 2) := by decide +kernel
theorem dX7_common_20 : decode cX7_common 20 = .ok (.lload 6, 2) := by decide +kernel
theorem dX7_common_22 : decode cX7_common 22 = .ok (.lstore 4, 2) := by decide +kernel
theorem dX7_common_24 : decode cX7_common 24 = .ok (.lload 8, 2) := by decide +kernel
theorem dX7_common_26 : decode cX7_common 26 = .ok (.lstore 6, 2) := by decide +kernel
theorem dX7_common_28 : decode cX7_common 28 = .ok (.goto (-22), 3) := by decide +kernel
theorem dX7_common_31 : decode cX7_common 31 = .ok (.lload 4, 2) := by decide +kernel
theorem dX7_common_33 : decode cX7_common 33 = .ok (.lreturn, 1) := by decide +kernel
theorem dX7_fits_0 : decode cX7_fits 0 = .ok (.aload_n 0, 1) := by decide +kernel
theorem dX7_fits_1 : decode cX7_fits 1 = .ok (.iload_n 1, 1) := by decide +kernel
theorem dX7_fits_2 : decode cX7_fits 2 = .ok (.invokevirtual 107, 3) := by decide +kernel
theorem dX7_fits_5 : decode cX7_fits 5 = .ok (.ifCond .eq 26, 3) := by decide +kernel
theorem dX7_fits_8 : decode cX7_fits 8 = .ok (.iload_n 2, 1) := by decide +kernel
theorem dX7_fits_9 : decode cX7_fits 9 = .ok (.iconst 1, 1) := by decide +kernel
theorem dX7_fits_10 : decode cX7_fits 10 = .ok (.bipush 60, 2) := by decide +kernel
theorem dX7_fits_12 : decode cX7_fits 12 = .ok (.invokestatic 95, 3) := by decide +kernel
theorem dX7_fits_15 : decode cX7_fits 15 = .ok (.ifCond .eq 16, 3) := by decide +kernel
theorem dX7_fits_18 : decode cX7_fits 18 = .ok (.aload_n 0, 1) := by decide +kernel
theorem dX7_fits_19 : decode cX7_fits 19 = .ok (.iload_n 1, 1) := by decide +kernel
theorem dX7_fits_20 : decode cX7_fits 20 = .ok (.invokevirtual 110, 3) := by decide +kernel
theorem dX7_fits_23 : decode cX7_fits 23 = .ok (.iload_n 2, 1) := by decide +kernel
theorem dX7_fits_24 : decode cX7_fits 24 = .ok (.if_icmp .gt 7, 3) := by decide +kernel
theorem dX7_fits_27 : decode cX7_fits 27 = .ok (.iconst 1, 1) := by decide +kernel
theorem dX7_fits_28 : decode cX7_fits 28 = .ok (.goto 4, 3) := by decide +kernel
theorem dX7_fits_31 : decode cX7_fits 31 = .ok (.iconst 0, 1) := by decide +kernel
theorem dX7_fits_32 : decode cX7_fits 32 = .ok (.ireturn, 1) := by decide +kernel
theorem dX7_part_0 : decode cX7_part 0 = .ok (.aload_n 0, 1) := by decide +kernel
theorem dX7_part_1 : decode cX7_part 1 = .ok (.iload_n 1, 1) := by decide +kernel
theorem dX7_part_2 : decode cX7_part 2 = .ok (.iload_n 2, 1) := by decide +kernel
theorem dX7_part_3 : decode cX7_part 3 = .ok (.invokevirtual 127, 3) := by decide +kernel
theorem dX7_part_6 : decode cX7_part 6 = .ok (.ifCond .eq 22, 3) := by decide +kernel
theorem dX7_part_9 : decode cX7_part 9 = .ok (.iload_n 3, 1) := by decide +kernel
theorem dX7_part_10 : decode cX7_part 10 = .ok (.iconst 0, 1) := by decide +kernel
theorem dX7_part_11 : decode cX7_part 11 = .ok (.iload_n 2, 1) := by decide +kernel
theorem dX7_part_12 : decode cX7_part 12 = .ok (.invokestatic 95, 3) := by decide +kernel
theorem dX7_part_15 : decode cX7_part 15 = .ok (.ifCond .eq 13, 3) := by decide +kernel
theorem dX7_part_18 : decode cX7_part 18 = .ok (.iload 4, 2) := by decide +kernel
theorem dX7_part_20 : decode cX7_part 20 = .ok (.iconst 0, 1) := by decide +kernel
theorem dX7_part_21 : decode cX7_part 21 = .ok (.iconst 2, 1) := by decide +kernel
theorem dX7_part_22 : decode cX7_part 22 = .ok (.invokestatic 95, 3) := by decide +kernel
theorem dX7_part_25 : decode cX7_part 25 = .ok (.ifCond .ne 6, 3) := by decide +kernel
theorem dX7_part_28 : decode cX7_part 28 = .ok (.bipush (-2), 2) := by decide +kernel
theorem dX7_part_30 : decode cX7_part 30 = .ok (.ireturn, 1) := by decide +kernel
theorem dX7_part_31 : decode cX7_part 31 = .ok (.aload_n 0, 1) := by decide +kernel
theorem dX7_part_32 : decode cX7_part 32 = .ok (.iload_n 1, 1) := by decide +kernel
theorem dX7_part_33 : decode cX7_part 33 = .ok (.iload_n 2, 1) := by decide +kernel
theorem dX7_part_34 : decode cX7_part 34 = .ok (.iload_n 3, 1) := by decide +kernel
theorem dX7_part_35 : decode cX7_part 35 = .ok (.invokevirtual 131, 3) := by decide +kernel
theorem dX7_part_38 : decode cX7_part 38 = .ok (.iload 4, 2) := by decide +kernel
theorem dX7_part_40 : decode cX7_part 40 = .ok (.ifCond .ne 10, 3) := by decide +kernel
theorem dX7_part_43 : decode cX7_part 43 = .ok (.aload_n 0, 1) := by decide +kernel
theorem dX7_part_44 : decode cX7_part 44 = .ok (.getfield 114, 3) := by decide +kernel
theorem dX7_part_47 : decode cX7_part 47 = .ok (.goto 20, 3) := by decide +kernel
theorem dX7_part_50 : decode cX7_part 50 = .ok (.iload 4, 2) := by decide +kernel
theorem dX7_part_52 : decode cX7_part 52 = .ok (.iconst 1, 1) := by decide +kernel
theorem dX7_part_53 : decode cX7_part 53 = .ok (.if_icmp .ne 10, 3) := by decide +kernel
theorem dX7_part_56 : decode cX7_part 56 = .ok (.aload_n 0, 1) := by decide +kernel
theorem dX7_part_57 : decode cX7_part 57 = .ok (.getfield 117, 3) := by decide +kernel
theorem dX7_part_60 : decode cX7_part 60 = .ok (.goto 7, 3) := by decide +kernel
theorem dX7_part_63 : decode cX7_part 63 = .ok (.aload_n 0, 1) := by decide +kernel
theorem dX7_part_64 : decode cX7_part 64 = .ok (.getfield 120, 3) := by decide +kernel
theorem dX7_part_67 : decode cX7_part 67 = .ok (.lstore 5, 2) := by decide +kernel
theorem dX7_part_69 : decode cX7_part 69 = .ok (.iload 4, 2) := by decide +kernel
theorem dX7_part_71 : decode cX7_part 71 = .ok (.iconst 2, 1) := by decide +kernel
theorem dX7_part_72 : decode cX7_part 72 = .ok (.if_icmp .ne 15, 3) := by decide +kernel
theorem dX7_part_75 : decode cX7_part 75 = .ok (.iload_n 2, 1) := by decide +kernel
theorem dX7_part_76 : decode cX7_part 76 = .ok (.i2l, 1) := by decide +kernel
theorem dX7_part_77 : decode cX7_part 77 = .ok (.aload_n 0, 1) := by decide +kernel
theorem dX7_part_78 : decode cX7_part 78 = .ok (.iload_n 2, 1) := by decide +kernel
theorem dX7_part_79 : decode cX7_part 79 = .ok (.iload_n 3, 1) := by decide +kernel
theorem dX7_part_80 : decode cX7_part 80 = .ok (.invokevirtual 123, 3) := by decide +kernel
theorem dX7_part_83 : decode cX7_part 83 = .ok (.lmul, 1) := by decide +kernel
theorem dX7_part_84 : decode cX7_part 84 = .ok (.goto 9, 3) := by decide +kernel
theorem dX7_part_87 : decode cX7_part 87 = .ok (.aload_n 0, 1) := by decide +kernel
theorem dX7_part_88 : decode cX7_part 88 = .ok (.iload_n 2, 1) := by decide +kernel
theorem dX7_part_89 : decode cX7_part 89 = .ok (.iload_n 3, 1) := by decide +kernel
theorem dX7_part_90 : decode cX7_part 90 = .ok (.invokevirtual 123, 3) := by decide +kernel
theorem dX7_part_93 : decode cX7_part 93 = .ok (.lstore 7, 2) := by decide +kernel
theorem dX7_part_95 : decode cX7_part 95 = .ok (.lload 5, 2) := by decide +kernel
theorem dX7_part_97 : decode cX7_part 97 = .ok (.lload 7, 2) := by decide +kernel
theorem dX7_part_99 : decode cX7_part 99 = .ok (.invokestatic 135, 3) := by decide +kernel
theorem dX7_part_102 : decode cX7_part 102 = .ok (.lstore 9, 2) := by decide +kernel
theorem dX7_part_104 : decode cX7_part 104 = .ok (.aload_n 0, 1) := by decide +kernel
theorem dX7_part_105 : decode cX7_part 105 = .ok (.lload 5, 2) := by decide +kernel
theorem dX7_part_107 : decode cX7_part 107 = .ok (.lload 9, 2) := by decide +kernel
theorem dX7_part_109 : decode cX7_part 109 = .ok (.ldiv, 1) := by decide +kernel
theorem dX7_part_110 : decode cX7_part 110 = .ok (.putfield 139, 3) := by decide +kernel
theorem dX7_part_113 : decode cX7_part 113 = .ok (.aload_n 0, 1) := by decide +kernel
theorem dX7_part_114 : decode cX7_part 114 = .ok (.lload 7, 2) := by decide +kernel
theorem dX7_part_116 : decode cX7_part 116 = .ok (.lload 9, 2) := by decide +kernel
theorem dX7_part_118 : decode cX7_part 118 = .ok (.ldiv, 1) := by decide +kernel
theorem dX7_part_119 : decode cX7_part 119 = .ok (.putfield 22, 3) := by decide +kernel
theorem dX7_part_122 : decode cX7_part 122 = .ok (.iconst 1, 1) := by decide +kernel
theorem dX7_part_123 : decode cX7_part 123 = .ok (.ireturn, 1) := by decide +kernel
theorem dX7_up_0 : decode cX7_up 0 = .ok (.aload_n 0, 1) := by decide +kernel
theorem dX7_up_1 : decode cX7_up 1 = .ok (.getfield 139, 3) := by decide +kernel
theorem dX7_up_4 : decode cX7_up 4 = .ok (.lreturn, 1) := by decide +kernel
theorem dX7_down_0 : decode cX7_down 0 = .ok (.aload_n 0, 1) := by decide +kernel
theorem dX7_down_1 : decode cX7_down 1 = .ok (.getfield 22, 3) := by decide +kernel
theorem dX7_down_4 : decode cX7_down 4 = .ok (.lreturn, 1) := by decide +kernel
theorem dX7_rounded_0 : decode cX7_rounded 0 = .ok (.iload_n 1, 1) := by decide +kernel
theorem dX7_rounded_1 : decode cX7_rounded 1 = .ok (.iconst 0, 1) := by decide +kernel
theorem dX7_rounded_2 : decode cX7_rounded 2 = .ok (.bipush 6, 2) := by decide +kernel
theorem dX7_rounded_4 : decode cX7_rounded 4 = .ok (.invokestatic 95, 3) := by decide +kernel
theorem dX7_rounded_7 : decode cX7_rounded 7 = .ok (.ifCond .ne 7, 3) := by decide +kernel
theorem dX7_rounded_10 : decode cX7_rounded 10 = .ok (.ldc2_w 142, 3) := by decide +kernel
theorem dX7_rounded_13 : decode cX7_rounded 13 = .ok (.lreturn, 1) := by decide +kernel
theorem dX7_rounded_14 : decode cX7_rounded 14 = .ok (.aload_n 0, 1) := by decide +kernel
theorem dX7_rounded_15 : decode cX7_rounded 15 = .ok (.getfield 139, 3) := by decide +kernel
theorem dX7_rounded_18 : decode cX7_rounded 18 = .ok (.aload_n 0, 1) := by decide +kernel
theorem dX7_rounded_19 : decode cX7_rounded 19 = .ok (.getfield 22, 3) := by decide +kernel
theorem dX7_rounded_22 : decode cX7_rounded 22 = .ok (.ldiv, 1) := by decide +kernel
theorem dX7_rounded_23 : decode cX7_rounded 23 = .ok (.lstore_n 2, 1) := by decide +kernel
theorem dX7_rounded_24 : decode cX7_rounded 24 = .ok (.aload_n 0, 1) := by decide +kernel
theorem dX7_rounded_25 : decode cX7_rounded 25 = .ok (.getfield 139, 3) := by decide +kernel
theorem dX7_rounded_28 : decode cX7_rounded 28 = .ok (.aload_n 0, 1) := by decide +kernel
theorem dX7_rounded_29 : decode cX7_rounded 29 = .ok (.getfield 22, 3) := by decide +kernel
theorem dX7_rounded_32 : decode cX7_rounded 32 = .ok (.lrem, 1) := by decide +kernel
theorem dX7_rounded_33 : decode cX7_rounded 33 = .ok (.lstore 4, 2) := by decide +kernel
theorem dX7_rounded_35 : decode cX7_rounded 35 = .ok (.iconst 0, 1) := by decide +kernel
theorem dX7_rounded_36 : decode cX7_rounded 36 = .ok (.istore 6, 2) := by decide +kernel
theorem dX7_rounded_38 : decode cX7_rounded 38 = .ok (.iload 6, 2) := by decide +kernel
theorem dX7_rounded_40 : decode cX7_rounded 40 = .ok (.iload_n 1, 1) := by decide +kernel
theorem dX7_rounded_41 : decode cX7_rounded 41 = .ok (.if_icmp .ge 83, 3) := by decide +kernel
theorem dX7_rounded_44 : decode cX7_rounded 44 = .ok (.lconst 0, 1) := by decide +kernel
theorem dX7_rounded_45 : decode cX7_rounded 45 = .ok (.lstore 7, 2) := by decide +kernel
theorem dX7_rounded_47 : decode cX7_rounded 47 = .ok (.iconst 0, 1) := by decide +kernel
theorem dX7_rounded_48 : decode cX7_rounded 48 = .ok (.istore 9, 2) := by decide +kernel
theorem dX7_rounded_50 : decode cX7_rounded 50 = .ok (.iconst 0, 1) := by decide +kernel
theorem dX7_rounded_51 : decode cX7_rounded 51 = .ok (.istore 10, 2) := by decide +kernel
theorem dX7_rounded_53 : decode cX7_rounded 53 = .ok (.iload 10, 2) := by decide +kernel
theorem dX7_rounded_55 : decode cX7_rounded 55 = .ok (.bipush 10, 2) := by decide +kernel
theorem dX7_rounded_57 : decode cX7_rounded 57 = .ok (.if_icmp .ge 47, 3) := by decide +kernel
theorem dX7_rounded_60 : decode cX7_rounded 60 = .ok (.lload 7, 2) := by decide +kernel
theorem dX7_rounded_62 : decode cX7_rounded 62 = .ok (.aload_n 0, 1) := by decide +kernel
theorem dX7_rounded_63 : decode cX7_rounded 63 = .ok (.getfield 22, 3) := by decide +kernel
theorem dX7_rounded_66 : decode cX7_rounded 66 = .ok (.lload 4, 2) := by decide +kernel
theorem dX7_rounded_68 : decode cX7_rounded 68 = .ok (.lsub, 1) := by decide +kernel
theorem dX7_rounded_69 : decode cX7_rounded 69 = .ok (.lcmp, 1) := by decide +kernel
theorem dX7_rounded_70 : decode cX7_rounded 70 = .ok (.ifCond .lt 21, 3) := by decide +kernel
theorem dX7_rounded_73 : decode cX7_rounded 73 = .ok (.lload 7, 2) := by decide +kernel
theorem dX7_rounded_75 : decode cX7_rounded 75 = .ok (.aload_n 0, 1) := by decide +kernel
theorem dX7_rounded_76 : decode cX7_rounded 76 = .ok (.getfield 22, 3) := by decide +kernel
theorem dX7_rounded_79 : decode cX7_rounded 79 = .ok (.lload 4, 2) := by decide +kernel
theorem dX7_rounded_81 : decode cX7_rounded 81 = .ok (.lsub, 1) := by decide +kernel
theorem dX7_rounded_82 : decode cX7_rounded 82 = .ok (.lsub, 1) := by decide +kernel
theorem dX7_rounded_83 : decode cX7_rounded 83 = .ok (.lstore 7, 2) := by decide +kernel
theorem dX7_rounded_85 : decode cX7_rounded 85 = .ok (.iinc 9 1, 3) := by decide +kernel
theorem dX7_rounded_88 : decode cX7_rounded 88 = .ok (.goto 10, 3) := by decide +kernel
theorem dX7_rounded_91 : decode cX7_rounded 91 = .ok (.lload 7, 2) := by decide +kernel
theorem dX7_rounded_93 : decode cX7_rounded 93 = .ok (.lload 4, 2) := by decide +kernel
theorem dX7_rounded_95 : decode cX7_rounded 95 = .ok (.ladd, 1) := by decide +kernel
theorem dX7_rounded_96 : decode cX7_rounded 96 = .ok (.lstore 7, 2) := by decide +kernel
theorem dX7_rounded_98 : decode cX7_rounded 98 = .ok (.iinc 10 1, 3) := by decide +kernel
theorem dX7_rounded_101 : decode cX7_rounded 101 = .ok (.goto (-48), 3) := by decide +kernel
theorem dX7_rounded_104 : decode cX7_rounded 104 = .ok (.ldc2_w 144, 3) := by decide +kernel
theorem dX7_rounded_107 : decode cX7_rounded 107 = .ok (.lload_n 2, 1) := by decide +kernel
theorem dX7_rounded_108 : decode cX7_rounded 108 = .ok (.lmul, 1) := by decide +kernel
theorem dX7_rounded_109 : decode cX7_rounded 109 = .ok (.iload 9, 2) := by decide +kernel
theorem dX7_rounded_111 : decode cX7_rounded 111 = .ok (.i2l, 1) := by decide +kernel
theorem dX7_rounded_112 : decode cX7_rounded 112 = .ok (.ladd, 1) := by decide +kernel
theorem dX7_rounded_113 : decode cX7_rounded 113 = .ok (.lstore_n 2, 1) := by decide +kernel
theorem dX7_rounded_114 : decode cX7_rounded 114 = .ok (.lload 7, 2) := by decide +kernel
theorem dX7_rounded_116 : decode cX7_rounded 116 = .ok (.lstore 4, 2) := by decide +kernel
theorem dX7_rounded_118 : decode cX7_rounded 118 = .ok (.iinc 6 1, 3) := by decide +kernel
theorem dX7_rounded_121 : decode cX7_rounded 121 = .ok (.goto (-83), 3) := by decide +kernel
theorem dX7_rounded_124 : decode cX7_rounded 124 = .ok (.aload_n 0, 1) := by decide +kernel
theorem dX7_rounded_125 : decode cX7_rounded 125 = .ok (.getfield 22, 3) := by decide +kernel
theorem dX7_rounded_128 : decode cX7_rounded 128 = .ok (.lload 4, 2) := by decide +kernel
theorem dX7_rounded_130 : decode cX7_rounded 130 = .ok (.lsub, 1) := by decide +kernel
theorem dX7_rounded_131 : decode cX7_rounded 131 = .ok (.lstore 6, 2) := by decide +kernel
theorem dX7_rounded_133 : decode cX7_rounded 133 = .ok (.lload 4, 2) := by decide +kernel
theorem dX7_rounded_135 : decode cX7_rounded 135 = .ok (.lload 6, 2) := by decide +kernel
theorem dX7_rounded_137 : decode cX7_rounded 137 = .ok (.lcmp, 1) := by decide +kernel
theorem dX7_rounded_138 : decode cX7_rounded 138 = .ok (.ifCond .gt 21, 3) := by decide +kernel
theorem dX7_rounded_141 : decode cX7_rounded 141 = .ok (.lload 4, 2) := by decide +kernel
theorem dX7_rounded_143 : decode cX7_rounded 143 = .ok (.lload 6, 2) := by decide +kernel
theorem dX7_rounded_145 : decode cX7_rounded 145 = .ok (.lcmp, 1) := by decide +kernel
theorem dX7_rounded_146 : decode cX7_rounded 146 = .ok (.ifCond .ne 19, 3) := by decide +kernel
theorem dX7_rounded_149 : decode cX7_rounded 149 = .ok (.lload_n 2, 1) := by decide +kernel
theorem dX7_rounded_150 : decode cX7_rounded 150 = .ok (.ldc2_w 146, 3) := by decide +kernel
theorem dX7_rounded_153 : decode cX7_rounded 153 = .ok (.lrem, 1) := by decide +kernel
theorem dX7_rounded_154 : decode cX7_rounded 154 = .ok (.lconst 1, 1) := by decide +kernel
theorem dX7_rounded_155 : decode cX7_rounded 155 = .ok (.lcmp, 1) := by decide +kernel
theorem dX7_rounded_156 : decode cX7_rounded 156 = .ok (.ifCond .ne 9, 3) := by decide +kernel
theorem dX7_rounded_159 : decode cX7_rounded 159 = .ok (.lload_n 2, 1) := by decide +kernel
theorem dX7_rounded_160 : decode cX7_rounded 160 = .ok (.lconst 1, 1) := by decide +kernel
theorem dX7_rounded_161 : decode cX7_rounded 161 = .ok (.ladd, 1) := by decide +kernel
theorem dX7_rounded_162 : decode cX7_rounded 162 = .ok (.goto 4, 3) := by decide +kernel
theorem dX7_rounded_165 : decode cX7_rounded 165 = .ok (.lload_n 2, 1) := by decide +kernel
theorem dX7_rounded_166 : decode cX7_rounded 166 = .ok (.lreturn, 1) := by decide +kernel
theorem dX7_compared_0 : decode cX7_compared 0 = .ok (.aload_n 0, 1) := by decide +kernel
theorem dX7_compared_1 : decode cX7_compared 1 = .ok (.iload_n 1, 1) := by decide +kernel
theorem dX7_compared_2 : decode cX7_compared 2 = .ok (.iload_n 3, 1) := by decide +kernel
theorem dX7_compared_3 : decode cX7_compared 3 = .ok (.iload 4, 2) := by decide +kernel
theorem dX7_compared_5 : decode cX7_compared 5 = .ok (.invokevirtual 131, 3) := by decide +kernel
theorem dX7_compared_8 : decode cX7_compared 8 = .ok (.aload_n 0, 1) := by decide +kernel
theorem dX7_compared_9 : decode cX7_compared 9 = .ok (.getfield 114, 3) := by decide +kernel
theorem dX7_compared_12 : decode cX7_compared 12 = .ok (.lstore 5, 2) := by decide +kernel
theorem dX7_compared_14 : decode cX7_compared 14 = .ok (.aload_n 0, 1) := by decide +kernel
theorem dX7_compared_15 : decode cX7_compared 15 = .ok (.iload_n 2, 1) := by decide +kernel
theorem dX7_compared_16 : decode cX7_compared 16 = .ok (.iload_n 3, 1) := by decide +kernel
theorem dX7_compared_17 : decode cX7_compared 17 = .ok (.iload 4, 2) := by decide +kernel
theorem dX7_compared_19 : decode cX7_compared 19 = .ok (.invokevirtual 131, 3) := by decide +kernel
theorem dX7_compared_22 : decode cX7_compared 22 = .ok (.lload 5, 2) := by decide +kernel
theorem dX7_compared_24 : decode cX7_compared 24 = .ok (.aload_n 0, 1) := by decide +kernel
theorem dX7_compared_25 : decode cX7_compared 25 = .ok (.getfield 114, 3) := by decide +kernel
theorem dX7_compared_28 : decode cX7_compared 28 = .ok (.lcmp, 1) := by decide +kernel
theorem dX7_compared_29 : decode cX7_compared 29 = .ok (.ifCond .le 7, 3) := by decide +kernel
theorem dX7_compared_32 : decode cX7_compared 32 = .ok (.iconst 1, 1) := by decide +kernel
theorem dX7_compared_33 : decode cX7_compared 33 = .ok (.goto 18, 3) := by decide +kernel
theorem dX7_compared_36 : decode cX7_compared 36 = .ok (.lload 5, 2) := by decide +kernel
theorem dX7_compared_38 : decode cX7_compared 38 = .ok (.aload_n 0, 1) := by decide +kernel
theorem dX7_compared_39 : decode cX7_compared 39 = .ok (.getfield 114, 3) := by decide +kernel
theorem dX7_compared_42 : decode cX7_compared 42 = .ok (.lcmp, 1) := by decide +kernel
theorem dX7_compared_43 : decode cX7_compared 43 = .ok (.ifCond .ge 7, 3) := by decide +kernel
theorem dX7_compared_46 : decode cX7_compared 46 = .ok (.iconst (-1), 1) := by decide +kernel
theorem dX7_compared_47 : decode cX7_compared 47 = .ok (.goto 4, 3) := by decide +kernel
theorem dX7_compared_50 : decode cX7_compared 50 = .ok (.iconst 0, 1) := by decide +kernel
theorem dX7_compared_51 : decode cX7_compared 51 = .ok (.ireturn, 1) := by decide +kernel
theorem dX7_compare_0 : decode cX7_compare 0 = .ok (.aload_n 0, 1) := by decide +kernel
theorem dX7_compare_1 : decode cX7_compare 1 = .ok (.iload_n 1, 1) := by decide +kernel
theorem dX7_compare_2 : decode cX7_compare 2 = .ok (.iload_n 3, 1) := by decide +kernel
theorem dX7_compare_3 : decode cX7_compare 3 = .ok (.invokevirtual 127, 3) := by decide +kernel
theorem dX7_compare_6 : decode cX7_compare 6 = .ok (.ifCond .eq 34, 3) := by decide +kernel
theorem dX7_compare_9 : decode cX7_compare 9 = .ok (.aload_n 0, 1) := by decide +kernel
theorem dX7_compare_10 : decode cX7_compare 10 = .ok (.iload_n 2, 1) := by decide +kernel
theorem dX7_compare_11 : decode cX7_compare 11 = .ok (.iload_n 3, 1) := by decide +kernel
theorem dX7_compare_12 : decode cX7_compare 12 = .ok (.invokevirtual 127, 3) := by decide +kernel
theorem dX7_compare_15 : decode cX7_compare 15 = .ok (.ifCond .eq 25, 3) := by decide +kernel
theorem dX7_compare_18 : decode cX7_compare 18 = .ok (.iload 4, 2) := by decide +kernel
theorem dX7_compare_20 : decode cX7_compare 20 = .ok (.iconst 0, 1) := by decide +kernel
theorem dX7_compare_21 : decode cX7_compare 21 = .ok (.iload_n 3, 1) := by decide +kernel
theorem dX7_compare_22 : decode cX7_compare 22 = .ok (.invokestatic 95, 3) := by decide +kernel
theorem dX7_compare_25 : decode cX7_compare 25 = .ok (.ifCond .eq 15, 3) := by decide +kernel
theorem dX7_compare_28 : decode cX7_compare 28 = .ok (.aload_n 0, 1) := by decide +kernel
theorem dX7_compare_29 : decode cX7_compare 29 = .ok (.iload_n 1, 1) := by decide +kernel
theorem dX7_compare_30 : decode cX7_compare 30 = .ok (.iload_n 2, 1) := by decide +kernel
theorem dX7_compare_31 : decode cX7_compare 31 = .ok (.iload_n 3, 1) := by decide +kernel
theorem dX7_compare_32 : decode cX7_compare 32 = .ok (.iload 4, 2) := by decide +kernel
theorem dX7_compare_34 : decode cX7_compare 34 = .ok (.invokevirtual 148, 3) := by decide +kernel
theorem dX7_compare_37 : decode cX7_compare 37 = .ok (.goto 5, 3) := by decide +kernel
theorem dX7_compare_40 : decode cX7_compare 40 = .ok (.bipush (-2), 2) := by decide +kernel
theorem dX7_compare_42 : decode cX7_compare 42 = .ok (.ireturn, 1) := by decide +kernel
theorem dX7_crossing_0 : decode cX7_crossing 0 = .ok (.aload_n 0, 1) := by decide +kernel
theorem dX7_crossing_1 : decode cX7_crossing 1 = .ok (.iload_n 1, 1) := by decide +kernel
theorem dX7_crossing_2 : decode cX7_crossing 2 = .ok (.iload_n 3, 1) := by decide +kernel
theorem dX7_crossing_3 : decode cX7_crossing 3 = .ok (.invokevirtual 127, 3) := by decide +kernel
theorem dX7_crossing_6 : decode cX7_crossing 6 = .ok (.ifCond .eq 17, 3) := by decide +kernel
theorem dX7_crossing_9 : decode cX7_crossing 9 = .ok (.aload_n 0, 1) := by decide +kernel
theorem dX7_crossing_10 : decode cX7_crossing 10 = .ok (.iload_n 2, 1) := by decide +kernel
theorem dX7_crossing_11 : decode cX7_crossing 11 = .ok (.iload_n 3, 1) := by decide +kernel
theorem dX7_crossing_12 : decode cX7_crossing 12 = .ok (.invokevirtual 127, 3) := by decide +kernel
theorem dX7_crossing_15 : decode cX7_crossing 15 = .ok (.ifCond .eq 8, 3) := by decide +kernel
theorem dX7_crossing_18 : decode cX7_crossing 18 = .ok (.iload 4, 2) := by decide +kernel
theorem dX7_crossing_20 : decode cX7_crossing 20 = .ok (.ifCond .ge 6, 3) := by decide +kernel
theorem dX7_crossing_23 : decode cX7_crossing 23 = .ok (.bipush (-2), 2) := by decide +kernel
theorem dX7_crossing_25 : decode cX7_crossing 25 = .ok (.ireturn, 1) := by decide +kernel
theorem dX7_crossing_26 : decode cX7_crossing 26 = .ok (.iconst 0, 1) := by decide +kernel
theorem dX7_crossing_27 : decode cX7_crossing 27 = .ok (.istore 5, 2) := by decide +kernel
theorem dX7_crossing_29 : decode cX7_crossing 29 = .ok (.iconst 0, 1) := by decide +kernel
theorem dX7_crossing_30 : decode cX7_crossing 30 = .ok (.istore 6, 2) := by decide +kernel
theorem dX7_crossing_32 : decode cX7_crossing 32 = .ok (.iload 6, 2) := by decide +kernel
theorem dX7_crossing_34 : decode cX7_crossing 34 = .ok (.iload_n 3, 1) := by decide +kernel
theorem dX7_crossing_35 : decode cX7_crossing 35 = .ok (.if_icmp .ge 50, 3) := by decide +kernel
theorem dX7_crossing_38 : decode cX7_crossing 38 = .ok (.aload_n 0, 1) := by decide +kernel
theorem dX7_crossing_39 : decode cX7_crossing 39 = .ok (.iload_n 1, 1) := by decide +kernel
theorem dX7_crossing_40 : decode cX7_crossing 40 = .ok (.iload_n 2, 1) := by decide +kernel
theorem dX7_crossing_41 : decode cX7_crossing 41 = .ok (.iload_n 3, 1) := by decide +kernel
theorem dX7_crossing_42 : decode cX7_crossing 42 = .ok (.iload 6, 2) := by decide +kernel
theorem dX7_crossing_44 : decode cX7_crossing 44 = .ok (.invokevirtual 148, 3) := by decide +kernel
theorem dX7_crossing_47 : decode cX7_crossing 47 = .ok (.aload_n 0, 1) := by decide +kernel
theorem dX7_crossing_48 : decode cX7_crossing 48 = .ok (.iload_n 1, 1) := by decide +kernel
theorem dX7_crossing_49 : decode cX7_crossing 49 = .ok (.iload_n 2, 1) := by decide +kernel
theorem dX7_crossing_50 : decode cX7_crossing 50 = .ok (.iload_n 3, 1) := by decide +kernel
theorem dX7_crossing_51 : decode cX7_crossing 51 = .ok (.iload 6, 2) := by decide +kernel
theorem dX7_crossing_53 : decode cX7_crossing 53 = .ok (.iconst 1, 1) := by decide +kernel
theorem dX7_crossing_54 : decode cX7_crossing 54 = .ok (.iadd, 1) := by decide +kernel
theorem dX7_crossing_55 : decode cX7_crossing 55 = .ok (.invokevirtual 148, 3) := by decide +kernel
theorem dX7_crossing_58 : decode cX7_crossing 58 = .ok (.imul, 1) := by decide +kernel
theorem dX7_crossing_59 : decode cX7_crossing 59 = .ok (.iconst (-1), 1) := by decide +kernel
theorem dX7_crossing_60 : decode cX7_crossing 60 = .ok (.if_icmp .eq 6, 3) := by decide +kernel
theorem dX7_crossing_63 : decode cX7_crossing 63 = .ok (.goto 16, 3) := by decide +kernel
theorem dX7_crossing_66 : decode cX7_crossing 66 = .ok (.iload 5, 2) := by decide +kernel
theorem dX7_crossing_68 : decode cX7_crossing 68 = .ok (.iload 4, 2) := by decide +kernel
theorem dX7_crossing_70 : decode cX7_crossing 70 = .ok (.if_icmp .ne 6, 3) := by decide +kernel
theorem dX7_crossing_73 : decode cX7_crossing 73 = .ok (.iload 6, 2) := by decide +kernel
theorem dX7_crossing_75 : decode cX7_crossing 75 = .ok (.ireturn, 1) := by decide +kernel
theorem dX7_crossing_76 : decode cX7_crossing 76 = .ok (.iinc 5 1, 3) := by decide +kernel
theorem dX7_crossing_79 : decode cX7_crossing 79 = .ok (.iinc 6 1, 3) := by decide +kernel
theorem dX7_crossing_82 : decode cX7_crossing 82 = .ok (.goto (-50), 3) := by decide +kernel
theorem dX7_crossing_85 : decode cX7_crossing 85 = .ok (.iconst (-1), 1) := by decide +kernel
theorem dX7_crossing_86 : decode cX7_crossing 86 = .ok (.ireturn, 1) := by decide +kernel
theorem dX7_risk_0 : decode cX7_risk 0 = .ok (.iload_n 1, 1) := by decide +kernel
theorem dX7_risk_1 : decode cX7_risk 1 = .ok (.iconst 0, 1) := by decide +kernel
theorem dX7_risk_2 : decode cX7_risk 2 = .ok (.iconst 1, 1) := by decide +kernel
theorem dX7_risk_3 : decode cX7_risk 3 = .ok (.invokestatic 95, 3) := by decide +kernel
theorem dX7_risk_6 : decode cX7_risk 6 = .ok (.ifCond .eq 35, 3) := by decide +kernel
theorem dX7_risk_9 : decode cX7_risk 9 = .ok (.iload_n 2, 1) := by decide +kernel
theorem dX7_risk_10 : decode cX7_risk 10 = .ok (.iconst 0, 1) := by decide +kernel
theorem dX7_risk_11 : decode cX7_risk 11 = .ok (.bipush 60, 2) := by decide +kernel
theorem dX7_risk_13 : decode cX7_risk 13 = .ok (.invokestatic 95, 3) := by decide +kernel
theorem dX7_risk_16 : decode cX7_risk 16 = .ok (.ifCond .eq 25, 3) := by decide +kernel
theorem dX7_risk_19 : decode cX7_risk 19 = .ok (.iload 4, 2) := by decide +kernel
theorem dX7_risk_21 : decode cX7_risk 21 = .ok (.iconst 1, 1) := by decide +kernel
theorem dX7_risk_22 : decode cX7_risk 22 = .ok (.sipush 1000, 3) := by decide +kernel
theorem dX7_risk_25 : decode cX7_risk 25 = .ok (.invokestatic 95, 3) := by decide +kernel
theorem dX7_risk_28 : decode cX7_risk 28 = .ok (.ifCond .eq 13, 3) := by decide +kernel
theorem dX7_risk_31 : decode cX7_risk 31 = .ok (.iload_n 3, 1) := by decide +kernel
theorem dX7_risk_32 : decode cX7_risk 32 = .ok (.iconst 0, 1) := by decide +kernel
theorem dX7_risk_33 : decode cX7_risk 33 = .ok (.iload 4, 2) := by decide +kernel
theorem dX7_risk_35 : decode cX7_risk 35 = .ok (.invokestatic 95, 3) := by decide +kernel
theorem dX7_risk_38 : decode cX7_risk 38 = .ok (.ifCond .ne 6, 3) := by decide +kernel
theorem dX7_risk_41 : decode cX7_risk 41 = .ok (.bipush (-2), 2) := by decide +kernel
theorem dX7_risk_43 : decode cX7_risk 43 = .ok (.ireturn, 1) := by decide +kernel
theorem dX7_risk_44 : decode cX7_risk 44 = .ok (.aload_n 0, 1) := by decide +kernel
theorem dX7_risk_45 : decode cX7_risk 45 = .ok (.getfield 39, 3) := by decide +kernel
theorem dX7_risk_48 : decode cX7_risk 48 = .ok (.iload_n 1, 1) := by decide +kernel
theorem dX7_risk_49 : decode cX7_risk 49 = .ok (.iconst 1, 1) := by decide +kernel
theorem dX7_risk_50 : decode cX7_risk 50 = .ok (.bastore, 1) := by decide +kernel
theorem dX7_risk_51 : decode cX7_risk 51 = .ok (.aload_n 0, 1) := by decide +kernel
theorem dX7_risk_52 : decode cX7_risk 52 = .ok (.getfield 30, 3) := by decide +kernel
theorem dX7_risk_55 : decode cX7_risk 55 = .ok (.iload_n 1, 1) := by decide +kernel
theorem dX7_risk_56 : decode cX7_risk 56 = .ok (.iload_n 2, 1) := by decide +kernel
theorem dX7_risk_57 : decode cX7_risk 57 = .ok (.iastore, 1) := by decide +kernel
theorem dX7_risk_58 : decode cX7_risk 58 = .ok (.aload_n 0, 1) := by decide +kernel
theorem dX7_risk_59 : decode cX7_risk 59 = .ok (.getfield 33, 3) := by decide +kernel
theorem dX7_risk_62 : decode cX7_risk 62 = .ok (.iload_n 1, 1) := by decide +kernel
theorem dX7_risk_63 : decode cX7_risk 63 = .ok (.iload_n 3, 1) := by decide +kernel
theorem dX7_risk_64 : decode cX7_risk 64 = .ok (.iastore, 1) := by decide +kernel
theorem dX7_risk_65 : decode cX7_risk 65 = .ok (.aload_n 0, 1) := by decide +kernel
theorem dX7_risk_66 : decode cX7_risk 66 = .ok (.getfield 36, 3) := by decide +kernel
theorem dX7_risk_69 : decode cX7_risk 69 = .ok (.iload_n 1, 1) := by decide +kernel
theorem dX7_risk_70 : decode cX7_risk 70 = .ok (.iload 4, 2) := by decide +kernel
theorem dX7_risk_72 : decode cX7_risk 72 = .ok (.iastore, 1) := by decide +kernel
theorem dX7_risk_73 : decode cX7_risk 73 = .ok (.iconst 1, 1) := by decide +kernel
theorem dX7_risk_74 : decode cX7_risk 74 = .ok (.ireturn, 1) := by decide +kernel
theorem dX7_risks_0 : decode cX7_risks 0 = .ok (.aload_n 0, 1) := by decide +kernel
theorem dX7_risks_1 : decode cX7_risks 1 = .ok (.getfield 39, 3) := by decide +kernel
theorem dX7_risks_4 : decode cX7_risks 4 = .ok (.iconst 0, 1) := by decide +kernel
theorem dX7_risks_5 : decode cX7_risks 5 = .ok (.baload, 1) := by decide +kernel
theorem dX7_risks_6 : decode cX7_risks 6 = .ok (.ifCond .eq 7, 3) := by decide +kernel
theorem dX7_risks_9 : decode cX7_risks 9 = .ok (.iconst 1, 1) := by decide +kernel
theorem dX7_risks_10 : decode cX7_risks 10 = .ok (.goto 4, 3) := by decide +kernel
theorem dX7_risks_13 : decode cX7_risks 13 = .ok (.iconst 0, 1) := by decide +kernel
theorem dX7_risks_14 : decode cX7_risks 14 = .ok (.aload_n 0, 1) := by decide +kernel
theorem dX7_risks_15 : decode cX7_risks 15 = .ok (.getfield 39, 3) := by decide +kernel
theorem dX7_risks_18 : decode cX7_risks 18 = .ok (.iconst 1, 1) := by decide +kernel
theorem dX7_risks_19 : decode cX7_risks 19 = .ok (.baload, 1) := by decide +kernel
theorem dX7_risks_20 : decode cX7_risks 20 = .ok (.ifCond .eq 7, 3) := by decide +kernel
theorem dX7_risks_23 : decode cX7_risks 23 = .ok (.iconst 1, 1) := by decide +kernel
theorem dX7_risks_24 : decode cX7_risks 24 = .ok (.goto 4, 3) := by decide +kernel
theorem dX7_risks_27 : decode cX7_risks 27 = .ok (.iconst 0, 1) := by decide +kernel
theorem dX7_risks_28 : decode cX7_risks 28 = .ok (.iadd, 1) := by decide +kernel
theorem dX7_risks_29 : decode cX7_risks 29 = .ok (.ireturn, 1) := by decide +kernel
theorem dX7_forget_0 : decode cX7_forget 0 = .ok (.aload_n 0, 1) := by decide +kernel
theorem dX7_forget_1 : decode cX7_forget 1 = .ok (.invokevirtual 152, 3) := by decide +kernel
theorem dX7_forget_4 : decode cX7_forget 4 = .ok (.istore_n 1, 1) := by decide +kernel
theorem dX7_forget_5 : decode cX7_forget 5 = .ok (.aload_n 0, 1) := by decide +kernel
theorem dX7_forget_6 : decode cX7_forget 6 = .ok (.getfield 39, 3) := by decide +kernel
theorem dX7_forget_9 : decode cX7_forget 9 = .ok (.iconst 0, 1) := by decide +kernel
theorem dX7_forget_10 : decode cX7_forget 10 = .ok (.iconst 0, 1) := by decide +kernel
theorem dX7_forget_11 : decode cX7_forget 11 = .ok (.bastore, 1) := by decide +kernel
theorem dX7_forget_12 : decode cX7_forget 12 = .ok (.aload_n 0, 1) := by decide +kernel
theorem dX7_forget_13 : decode cX7_forget 13 = .ok (.getfield 39, 3) := by decide +kernel
theorem dX7_forget_16 : decode cX7_forget 16 = .ok (.iconst 1, 1) := by decide +kernel
theorem dX7_forget_17 : decode cX7_forget 17 = .ok (.iconst 0, 1) := by decide +kernel
theorem dX7_forget_18 : decode cX7_forget 18 = .ok (.bastore, 1) := by decide +kernel
theorem dX7_forget_19 : decode cX7_forget 19 = .ok (.iload_n 1, 1) := by decide +kernel
theorem dX7_forget_20 : decode cX7_forget 20 = .ok (.ireturn, 1) := by decide +kernel
theorem dX7_against_0 : decode cX7_against 0 = .ok (.lload_n 0, 1) := by decide +kernel
theorem dX7_against_1 : decode cX7_against 1 = .ok (.ldc2_w 156, 3) := by decide +kernel
theorem dX7_against_4 : decode cX7_against 4 = .ok (.lrem, 1) := by decide +kernel
theorem dX7_against_5 : decode cX7_against 5 = .ok (.iload_n 2, 1) := by decide +kernel
theorem dX7_against_6 : decode cX7_against 6 = .ok (.i2l, 1) := by decide +kernel
theorem dX7_against_7 : decode cX7_against 7 = .ok (.lmul, 1) := by decide +kernel
theorem dX7_against_8 : decode cX7_against 8 = .ok (.lstore 6, 2) := by decide +kernel
theorem dX7_against_10 : decode cX7_against 10 = .ok (.lload_n 0, 1) := by decide +kernel
theorem dX7_against_11 : decode cX7_against 11 = .ok (.ldc2_w 156, 3) := by decide +kernel
theorem dX7_against_14 : decode cX7_against 14 = .ok (.ldiv, 1) := by decide +kernel
theorem dX7_against_15 : decode cX7_against 15 = .ok (.iload_n 2, 1) := by decide +kernel
theorem dX7_against_16 : decode cX7_against 16 = .ok (.i2l, 1) := by decide +kernel
theorem dX7_against_17 : decode cX7_against 17 = .ok (.lmul, 1) := by decide +kernel
theorem dX7_against_18 : decode cX7_against 18 = .ok (.lload 6, 2) := by decide +kernel
theorem dX7_against_20 : decode cX7_against 20 = .ok (.ldc2_w 156, 3) := by decide +kernel
theorem dX7_against_23 : decode cX7_against 23 = .ok (.ldiv, 1) := by decide +kernel
theorem dX7_against_24 : decode cX7_against 24 = .ok (.ladd, 1) := by decide +kernel
theorem dX7_against_25 : decode cX7_against 25 = .ok (.lstore 8, 2) := by decide +kernel
theorem dX7_against_27 : decode cX7_against 27 = .ok (.lload_n 3, 1) := by decide +kernel
theorem dX7_against_28 : decode cX7_against 28 = .ok (.ldc2_w 156, 3) := by decide +kernel
theorem dX7_against_31 : decode cX7_against 31 = .ok (.lrem, 1) := by decide +kernel
theorem dX7_against_32 : decode cX7_against 32 = .ok (.iload 5, 2) := by decide +kernel
theorem dX7_against_34 : decode cX7_against 34 = .ok (.i2l, 1) := by decide +kernel
theorem dX7_against_35 : decode cX7_against 35 = .ok (.lmul, 1) := by decide +kernel
theorem dX7_against_36 : decode cX7_against 36 = .ok (.lstore 10, 2) := by decide +kernel
theorem dX7_against_38 : decode cX7_against 38 = .ok (.lload_n 3, 1) := by decide +kernel
theorem dX7_against_39 : decode cX7_against 39 = .ok (.ldc2_w 156, 3) := by decide +kernel
theorem dX7_against_42 : decode cX7_against 42 = .ok (.ldiv, 1) := by decide +kernel
theorem dX7_against_43 : decode cX7_against 43 = .ok (.iload 5, 2) := by decide +kernel
theorem dX7_against_45 : decode cX7_against 45 = .ok (.i2l, 1) := by decide +kernel
theorem dX7_against_46 : decode cX7_against 46 = .ok (.lmul, 1) := by decide +kernel
theorem dX7_against_47 : decode cX7_against 47 = .ok (.lload 10, 2) := by decide +kernel
theorem dX7_against_49 : decode cX7_against 49 = .ok (.ldc2_w 156, 3) := by decide +kernel
theorem dX7_against_52 : decode cX7_against 52 = .ok (.ldiv, 1) := by decide +kernel
theorem dX7_against_53 : decode cX7_against 53 = .ok (.ladd, 1) := by decide +kernel
theorem dX7_against_54 : decode cX7_against 54 = .ok (.lstore 12, 2) := by decide +kernel
theorem dX7_against_56 : decode cX7_against 56 = .ok (.lload 8, 2) := by decide +kernel
theorem dX7_against_58 : decode cX7_against 58 = .ok (.lload 12, 2) := by decide +kernel
theorem dX7_against_60 : decode cX7_against 60 = .ok (.lcmp, 1) := by decide +kernel
theorem dX7_against_61 : decode cX7_against 61 = .ok (.ifCond .eq 17, 3) := by decide +kernel
theorem dX7_against_64 : decode cX7_against 64 = .ok (.lload 8, 2) := by decide +kernel
theorem dX7_against_66 : decode cX7_against 66 = .ok (.lload 12, 2) := by decide +kernel
theorem dX7_against_68 : decode cX7_against 68 = .ok (.lcmp, 1) := by decide +kernel
theorem dX7_against_69 : decode cX7_against 69 = .ok (.ifCond .ge 7, 3) := by decide +kernel
theorem dX7_against_72 : decode cX7_against 72 = .ok (.iconst (-1), 1) := by decide +kernel
theorem dX7_against_73 : decode cX7_against 73 = .ok (.goto 4, 3) := by decide +kernel
theorem dX7_against_76 : decode cX7_against 76 = .ok (.iconst 1, 1) := by decide +kernel
theorem dX7_against_77 : decode cX7_against 77 = .ok (.ireturn, 1) := by decide +kernel
theorem dX7_against_78 : decode cX7_against 78 = .ok (.lload 6, 2) := by decide +kernel
theorem dX7_against_80 : decode cX7_against 80 = .ok (.ldc2_w 156, 3) := by decide +kernel
theorem dX7_against_83 : decode cX7_against 83 = .ok (.lrem, 1) := by decide +kernel
theorem dX7_against_84 : decode cX7_against 84 = .ok (.lstore 14, 2) := by decide +kernel
theorem dX7_against_86 : decode cX7_against 86 = .ok (.lload 10, 2) := by decide +kernel
theorem dX7_against_88 : decode cX7_against 88 = .ok (.ldc2_w 156, 3) := by decide +kernel
theorem dX7_against_91 : decode cX7_against 91 = .ok (.lrem, 1) := by decide +kernel
theorem dX7_against_92 : decode cX7_against 92 = .ok (.lstore 16, 2) := by decide +kernel
theorem dX7_against_94 : decode cX7_against 94 = .ok (.lload 14, 2) := by decide +kernel
theorem dX7_against_96 : decode cX7_against 96 = .ok (.lload 16, 2) := by decide +kernel
theorem dX7_against_98 : decode cX7_against 98 = .ok (.lcmp, 1) := by decide +kernel
theorem dX7_against_99 : decode cX7_against 99 = .ok (.ifCond .ge 7, 3) := by decide +kernel
theorem dX7_against_102 : decode cX7_against 102 = .ok (.iconst (-1), 1) := by decide +kernel
theorem dX7_against_103 : decode cX7_against 103 = .ok (.goto 16, 3) := by decide +kernel
theorem dX7_against_106 : decode cX7_against 106 = .ok (.lload 14, 2) := by decide +kernel
theorem dX7_against_108 : decode cX7_against 108 = .ok (.lload 16, 2) := by decide +kernel
theorem dX7_against_110 : decode cX7_against 110 = .ok (.lcmp, 1) := by decide +kernel
theorem dX7_against_111 : decode cX7_against 111 = .ok (.ifCond .le 7, 3) := by decide +kernel
theorem dX7_against_114 : decode cX7_against 114 = .ok (.iconst 1, 1) := by decide +kernel
theorem dX7_against_115 : decode cX7_against 115 = .ok (.goto 4, 3) := by decide +kernel
theorem dX7_against_118 : decode cX7_against 118 = .ok (.iconst 0, 1) := by decide +kernel
theorem dX7_against_119 : decode cX7_against 119 = .ok (.ireturn, 1) := by decide +kernel
theorem dX7_holds_0 : decode cX7_holds 0 = .ok (.iconst 1, 1) := by decide +kernel
theorem dX7_holds_1 : decode cX7_holds 1 = .ok (.istore 4, 2) := by decide +kernel
theorem dX7_holds_3 : decode cX7_holds 3 = .ok (.iconst 0, 1) := by decide +kernel
theorem dX7_holds_4 : decode cX7_holds 4 = .ok (.istore 5, 2) := by decide +kernel
theorem dX7_holds_6 : decode cX7_holds 6 = .ok (.iload 5, 2) := by decide +kernel
theorem dX7_holds_8 : decode cX7_holds 8 = .ok (.iconst 2, 1) := by decide +kernel
theorem dX7_holds_9 : decode cX7_holds 9 = .ok (.if_icmp .ge 132, 3) := by decide +kernel
theorem dX7_holds_12 : decode cX7_holds 12 = .ok (.aload_n 0, 1) := by decide +kernel
theorem dX7_holds_13 : decode cX7_holds 13 = .ok (.getfield 39, 3) := by decide +kernel
theorem dX7_holds_16 : decode cX7_holds 16 = .ok (.iload 5, 2) := by decide +kernel
theorem dX7_holds_18 : decode cX7_holds 18 = .ok (.baload, 1) := by decide +kernel
theorem dX7_holds_19 : decode cX7_holds 19 = .ok (.ifCond .ne 6, 3) := by decide +kernel
theorem dX7_holds_22 : decode cX7_holds 22 = .ok (.goto 113, 3) := by decide +kernel
theorem dX7_holds_25 : decode cX7_holds 25 = .ok (.aload_n 0, 1) := by decide +kernel
theorem dX7_holds_26 : decode cX7_holds 26 = .ok (.getfield 30, 3) := by decide +kernel
theorem dX7_holds_29 : decode cX7_holds 29 = .ok (.iload 5, 2) := by decide +kernel
theorem dX7_holds_31 : decode cX7_holds 31 = .ok (.iaload, 1) := by decide +kernel
theorem dX7_holds_32 : decode cX7_holds 32 = .ok (.istore 6, 2) := by decide +kernel
theorem dX7_holds_34 : decode cX7_holds 34 = .ok (.lconst 0, 1) := by decide +kernel
theorem dX7_holds_35 : decode cX7_holds 35 = .ok (.lstore 7, 2) := by decide +kernel
theorem dX7_holds_37 : decode cX7_holds 37 = .ok (.iconst 0, 1) := by decide +kernel
theorem dX7_holds_38 : decode cX7_holds 38 = .ok (.istore 9, 2) := by decide +kernel
theorem dX7_holds_40 : decode cX7_holds 40 = .ok (.iload 9, 2) := by decide +kernel
theorem dX7_holds_42 : decode cX7_holds 42 = .ok (.iload_n 2, 1) := by decide +kernel
theorem dX7_holds_43 : decode cX7_holds 43 = .ok (.if_icmp .gt 34, 3) := by decide +kernel
theorem dX7_holds_46 : decode cX7_holds 46 = .ok (.lload 7, 2) := by decide +kernel
theorem dX7_holds_48 : decode cX7_holds 48 = .ok (.aload_n 0, 1) := by decide +kernel
theorem dX7_holds_49 : decode cX7_holds 49 = .ok (.iload_n 1, 1) := by decide +kernel
theorem dX7_holds_50 : decode cX7_holds 50 = .ok (.iload 9, 2) := by decide +kernel
theorem dX7_holds_52 : decode cX7_holds 52 = .ok (.invokevirtual 123, 3) := by decide +kernel
theorem dX7_holds_55 : decode cX7_holds 55 = .ok (.aload_n 0, 1) := by decide +kernel
theorem dX7_holds_56 : decode cX7_holds 56 = .ok (.iload_n 3, 1) := by decide +kernel
theorem dX7_holds_57 : decode cX7_holds 57 = .ok (.iload_n 1, 1) := by decide +kernel
theorem dX7_holds_58 : decode cX7_holds 58 = .ok (.isub, 1) := by decide +kernel
theorem dX7_holds_59 : decode cX7_holds 59 = .ok (.iload 6, 2) := by decide +kernel
theorem dX7_holds_61 : decode cX7_holds 61 = .ok (.iload 9, 2) := by decide +kernel
theorem dX7_holds_63 : decode cX7_holds 63 = .ok (.isub, 1) := by decide +kernel
theorem dX7_holds_64 : decode cX7_holds 64 = .ok (.invokevirtual 123, 3) := by decide +kernel
theorem dX7_holds_67 : decode cX7_holds 67 = .ok (.lmul, 1) := by decide +kernel
theorem dX7_holds_68 : decode cX7_holds 68 = .ok (.ladd, 1) := by decide +kernel
theorem dX7_holds_69 : decode cX7_holds 69 = .ok (.lstore 7, 2) := by decide +kernel
theorem dX7_holds_71 : decode cX7_holds 71 = .ok (.iinc 9 1, 3) := by decide +kernel
theorem dX7_holds_74 : decode cX7_holds 74 = .ok (.goto (-34), 3) := by decide +kernel
theorem dX7_holds_77 : decode cX7_holds 77 = .ok (.lload 7, 2) := by decide +kernel
theorem dX7_holds_79 : decode cX7_holds 79 = .ok (.aload_n 0, 1) := by decide +kernel
theorem dX7_holds_80 : decode cX7_holds 80 = .ok (.getfield 36, 3) := by decide +kernel
theorem dX7_holds_83 : decode cX7_holds 83 = .ok (.iload 5, 2) := by decide +kernel
theorem dX7_holds_85 : decode cX7_holds 85 = .ok (.iaload, 1) := by decide +kernel
theorem dX7_holds_86 : decode cX7_holds 86 = .ok (.aload_n 0, 1) := by decide +kernel
theorem dX7_holds_87 : decode cX7_holds 87 = .ok (.iload_n 3, 1) := by decide +kernel
theorem dX7_holds_88 : decode cX7_holds 88 = .ok (.iload 6, 2) := by decide +kernel
theorem dX7_holds_90 : decode cX7_holds 90 = .ok (.invokevirtual 123, 3) := by decide +kernel
theorem dX7_holds_93 : decode cX7_holds 93 = .ok (.aload_n 0, 1) := by decide +kernel
theorem dX7_holds_94 : decode cX7_holds 94 = .ok (.getfield 33, 3) := by decide +kernel
theorem dX7_holds_97 : decode cX7_holds 97 = .ok (.iload 5, 2) := by decide +kernel
theorem dX7_holds_99 : decode cX7_holds 99 = .ok (.iaload, 1) := by decide +kernel
theorem dX7_holds_100 : decode cX7_holds 100 = .ok (.invokestatic 158, 3) := by decide +kernel
theorem dX7_holds_103 : decode cX7_holds 103 = .ok (.istore 9, 2) := by decide +kernel
theorem dX7_holds_105 : decode cX7_holds 105 = .ok (.iload 4, 2) := by decide +kernel
theorem dX7_holds_107 : decode cX7_holds 107 = .ok (.ifCond .eq 25, 3) := by decide +kernel
theorem dX7_holds_110 : decode cX7_holds 110 = .ok (.iload 5, 2) := by decide +kernel
theorem dX7_holds_112 : decode cX7_holds 112 = .ok (.ifCond .ne 11, 3) := by decide +kernel
theorem dX7_holds_115 : decode cX7_holds 115 = .ok (.iload 9, 2) := by decide +kernel
theorem dX7_holds_117 : decode cX7_holds 117 = .ok (.ifCond .lt 15, 3) := by decide +kernel
theorem dX7_holds_120 : decode cX7_holds 120 = .ok (.goto 8, 3) := by decide +kernel
theorem dX7_holds_123 : decode cX7_holds 123 = .ok (.iload 9, 2) := by decide +kernel
theorem dX7_holds_125 : decode cX7_holds 125 = .ok (.ifCond .gt 7, 3) := by decide +kernel
theorem dX7_holds_128 : decode cX7_holds 128 = .ok (.iconst 1, 1) := by decide +kernel
theorem dX7_holds_129 : decode cX7_holds 129 = .ok (.goto 4, 3) := by decide +kernel
theorem dX7_holds_132 : decode cX7_holds 132 = .ok (.iconst 0, 1) := by decide +kernel
theorem dX7_holds_133 : decode cX7_holds 133 = .ok (.istore 4, 2) := by decide +kernel
theorem dX7_holds_135 : decode cX7_holds 135 = .ok (.iinc 5 1, 3) := by decide +kernel
theorem dX7_holds_138 : decode cX7_holds 138 = .ok (.goto (-132), 3) := by decide +kernel
theorem dX7_holds_141 : decode cX7_holds 141 = .ok (.iload 4, 2) := by decide +kernel
theorem dX7_holds_143 : decode cX7_holds 143 = .ok (.ireturn, 1) := by decide +kernel
theorem dX7_maySearch_0 : decode cX7_maySearch 0 = .ok (.iload_n 1, 1) := by decide +kernel
theorem dX7_maySearch_1 : decode cX7_maySearch 1 = .ok (.iconst 1, 1) := by decide +kernel
theorem dX7_maySearch_2 : decode cX7_maySearch 2 = .ok (.bipush 60, 2) := by decide +kernel
theorem dX7_maySearch_4 : decode cX7_maySearch 4 = .ok (.invokestatic 95, 3) := by decide +kernel
theorem dX7_maySearch_7 : decode cX7_maySearch 7 = .ok (.ifCond .eq 45, 3) := by decide +kernel
theorem dX7_maySearch_10 : decode cX7_maySearch 10 = .ok (.aload_n 0, 1) := by decide +kernel
theorem dX7_maySearch_11 : decode cX7_maySearch 11 = .ok (.getfield 39, 3) := by decide +kernel
theorem dX7_maySearch_14 : decode cX7_maySearch 14 = .ok (.iconst 0, 1) := by decide +kernel
theorem dX7_maySearch_15 : decode cX7_maySearch 15 = .ok (.baload, 1) := by decide +kernel
theorem dX7_maySearch_16 : decode cX7_maySearch 16 = .ok (.ifCond .eq 13, 3) := by decide +kernel
theorem dX7_maySearch_19 : decode cX7_maySearch 19 = .ok (.aload_n 0, 1) := by decide +kernel
theorem dX7_maySearch_20 : decode cX7_maySearch 20 = .ok (.getfield 30, 3) := by decide +kernel
theorem dX7_maySearch_23 : decode cX7_maySearch 23 = .ok (.iconst 0, 1) := by decide +kernel
theorem dX7_maySearch_24 : decode cX7_maySearch 24 = .ok (.iaload, 1) := by decide +kernel
theorem dX7_maySearch_25 : decode cX7_maySearch 25 = .ok (.iload_n 1, 1) := by decide +kernel
theorem dX7_maySearch_26 : decode cX7_maySearch 26 = .ok (.if_icmp .gt 26, 3) := by decide +kernel
theorem dX7_maySearch_29 : decode cX7_maySearch 29 = .ok (.aload_n 0, 1) := by decide +kernel
theorem dX7_maySearch_30 : decode cX7_maySearch 30 = .ok (.getfield 39, 3) := by decide +kernel
theorem dX7_maySearch_33 : decode cX7_maySearch 33 = .ok (.iconst 1, 1) := by decide +kernel
theorem dX7_maySearch_34 : decode cX7_maySearch 34 = .ok (.baload, 1) := by decide +kernel
theorem dX7_maySearch_35 : decode cX7_maySearch 35 = .ok (.ifCond .eq 13, 3) := by decide +kernel
theorem dX7_maySearch_38 : decode cX7_maySearch 38 = .ok (.aload_n 0, 1) := by decide +kernel
theorem dX7_maySearch_39 : decode cX7_maySearch 39 = .ok (.getfield 30, 3) := by decide +kernel
theorem dX7_maySearch_42 : decode cX7_maySearch 42 = .ok (.iconst 1, 1) := by decide +kernel
theorem dX7_maySearch_43 : decode cX7_maySearch 43 = .ok (.iaload, 1) := by decide +kernel
theorem dX7_maySearch_44 : decode cX7_maySearch 44 = .ok (.iload_n 1, 1) := by decide +kernel
theorem dX7_maySearch_45 : decode cX7_maySearch 45 = .ok (.if_icmp .gt 7, 3) := by decide +kernel
theorem dX7_maySearch_48 : decode cX7_maySearch 48 = .ok (.iconst 1, 1) := by decide +kernel
theorem dX7_maySearch_49 : decode cX7_maySearch 49 = .ok (.goto 4, 3) := by decide +kernel
theorem dX7_maySearch_52 : decode cX7_maySearch 52 = .ok (.iconst 0, 1) := by decide +kernel
theorem dX7_maySearch_53 : decode cX7_maySearch 53 = .ok (.ireturn, 1) := by decide +kernel
theorem dX7_search_0 : decode cX7_search 0 = .ok (.aload_n 0, 1) := by decide +kernel
theorem dX7_search_1 : decode cX7_search 1 = .ok (.iload_n 1, 1) := by decide +kernel
theorem dX7_search_2 : decode cX7_search 2 = .ok (.invokevirtual 162, 3) := by decide +kernel
theorem dX7_search_5 : decode cX7_search 5 = .ok (.ifCond .ne 6, 3) := by decide +kernel
theorem dX7_search_8 : decode cX7_search 8 = .ok (.bipush (-2), 2) := by decide +kernel
theorem dX7_search_10 : decode cX7_search 10 = .ok (.ireturn, 1) := by decide +kernel
theorem dX7_search_11 : decode cX7_search 11 = .ok (.iconst 1, 1) := by decide +kernel
theorem dX7_search_12 : decode cX7_search 12 = .ok (.istore_n 2, 1) := by decide +kernel
theorem dX7_search_13 : decode cX7_search 13 = .ok (.iload_n 2, 1) := by decide +kernel
theorem dX7_search_14 : decode cX7_search 14 = .ok (.iload_n 1, 1) := by decide +kernel
theorem dX7_search_15 : decode cX7_search 15 = .ok (.if_icmp .gt 39, 3) := by decide +kernel
theorem dX7_search_18 : decode cX7_search 18 = .ok (.iconst 0, 1) := by decide +kernel
theorem dX7_search_19 : decode cX7_search 19 = .ok (.istore_n 3, 1) := by decide +kernel
theorem dX7_search_20 : decode cX7_search 20 = .ok (.iload_n 3, 1) := by decide +kernel
theorem dX7_search_21 : decode cX7_search 21 = .ok (.iload_n 2, 1) := by decide +kernel
theorem dX7_search_22 : decode cX7_search 22 = .ok (.if_icmp .gt 26, 3) := by decide +kernel
theorem dX7_search_25 : decode cX7_search 25 = .ok (.aload_n 0, 1) := by decide +kernel
theorem dX7_search_26 : decode cX7_search 26 = .ok (.iload_n 2, 1) := by decide +kernel
theorem dX7_search_27 : decode cX7_search 27 = .ok (.iload_n 3, 1) := by decide +kernel
theorem dX7_search_28 : decode cX7_search 28 = .ok (.iload_n 1, 1) := by decide +kernel
theorem dX7_search_29 : decode cX7_search 29 = .ok (.invokevirtual 165, 3) := by decide +kernel
theorem dX7_search_32 : decode cX7_search 32 = .ok (.ifCond .eq 10, 3) := by decide +kernel
theorem dX7_search_35 : decode cX7_search 35 = .ok (.bipush 100, 2) := by decide +kernel
theorem dX7_search_37 : decode cX7_search 37 = .ok (.iload_n 2, 1) := by decide +kernel
theorem dX7_search_38 : decode cX7_search 38 = .ok (.imul, 1) := by decide +kernel
theorem dX7_search_39 : decode cX7_search 39 = .ok (.iload_n 3, 1) := by decide +kernel
theorem dX7_search_40 : decode cX7_search 40 = .ok (.iadd, 1) := by decide +kernel
theorem dX7_search_41 : decode cX7_search 41 = .ok (.ireturn, 1) := by decide +kernel
theorem dX7_search_42 : decode cX7_search 42 = .ok (.iinc 3 1, 3) := by decide +kernel
theorem dX7_search_45 : decode cX7_search 45 = .ok (.goto (-25), 3) := by decide +kernel
theorem dX7_search_48 : decode cX7_search 48 = .ok (.iinc 2 1, 3) := by decide +kernel
theorem dX7_search_51 : decode cX7_search 51 = .ok (.goto (-38), 3) := by decide +kernel
theorem dX7_search_54 : decode cX7_search 54 = .ok (.iconst (-1), 1) := by decide +kernel
theorem dX7_search_55 : decode cX7_search 55 = .ok (.ireturn, 1) := by decide +kernel
theorem dX7_minimal_0 : decode cX7_minimal 0 = .ok (.aload_n 0, 1) := by decide +kernel
theorem dX7_minimal_1 : decode cX7_minimal 1 = .ok (.iload_n 1, 1) := by decide +kernel
theorem dX7_minimal_2 : decode cX7_minimal 2 = .ok (.invokevirtual 162, 3) := by decide +kernel
theorem dX7_minimal_5 : decode cX7_minimal 5 = .ok (.ifCond .eq 7, 3) := by decide +kernel
theorem dX7_minimal_8 : decode cX7_minimal 8 = .ok (.iload_n 2, 1) := by decide +kernel
theorem dX7_minimal_9 : decode cX7_minimal 9 = .ok (.ifCond .ge 6, 3) := by decide +kernel
theorem dX7_minimal_12 : decode cX7_minimal 12 = .ok (.bipush (-2), 2) := by decide +kernel
theorem dX7_minimal_14 : decode cX7_minimal 14 = .ok (.ireturn, 1) := by decide +kernel
theorem dX7_minimal_15 : decode cX7_minimal 15 = .ok (.iconst 0, 1) := by decide +kernel
theorem dX7_minimal_16 : decode cX7_minimal 16 = .ok (.istore_n 3, 1) := by decide +kernel
theorem dX7_minimal_17 : decode cX7_minimal 17 = .ok (.sipush 1000, 3) := by decide +kernel
theorem dX7_minimal_20 : decode cX7_minimal 20 = .ok (.istore 4, 2) := by decide +kernel
theorem dX7_minimal_22 : decode cX7_minimal 22 = .ok (.iconst 1, 1) := by decide +kernel
theorem dX7_minimal_23 : decode cX7_minimal 23 = .ok (.istore 5, 2) := by decide +kernel
theorem dX7_minimal_25 : decode cX7_minimal 25 = .ok (.iload 5, 2) := by decide +kernel
theorem dX7_minimal_27 : decode cX7_minimal 27 = .ok (.iload_n 1, 1) := by decide +kernel
theorem dX7_minimal_28 : decode cX7_minimal 28 = .ok (.if_icmp .gt 85, 3) := by decide +kernel
theorem dX7_minimal_31 : decode cX7_minimal 31 = .ok (.iconst (-1), 1) := by decide +kernel
theorem dX7_minimal_32 : decode cX7_minimal 32 = .ok (.istore 6, 2) := by decide +kernel
theorem dX7_minimal_34 : decode cX7_minimal 34 = .ok (.iconst 0, 1) := by decide +kernel
theorem dX7_minimal_35 : decode cX7_minimal 35 = .ok (.istore 7, 2) := by decide +kernel
theorem dX7_minimal_37 : decode cX7_minimal 37 = .ok (.iload 7, 2) := by decide +kernel
theorem dX7_minimal_39 : decode cX7_minimal 39 = .ok (.iload 5, 2) := by decide +kernel
theorem dX7_minimal_41 : decode cX7_minimal 41 = .ok (.if_icmp .gt 30, 3) := by decide +kernel
theorem dX7_minimal_44 : decode cX7_minimal 44 = .ok (.iload 6, 2) := by decide +kernel
theorem dX7_minimal_46 : decode cX7_minimal 46 = .ok (.ifCond .ge 25, 3) := by decide +kernel
theorem dX7_minimal_49 : decode cX7_minimal 49 = .ok (.aload_n 0, 1) := by decide +kernel
theorem dX7_minimal_50 : decode cX7_minimal 50 = .ok (.iload 5, 2) := by decide +kernel
theorem dX7_minimal_52 : decode cX7_minimal 52 = .ok (.iload 7, 2) := by decide +kernel
theorem dX7_minimal_54 : decode cX7_minimal 54 = .ok (.iload_n 1, 1) := by decide +kernel
theorem dX7_minimal_55 : decode cX7_minimal 55 = .ok (.invokevirtual 165, 3) := by decide +kernel
theorem dX7_minimal_58 : decode cX7_minimal 58 = .ok (.ifCond .eq 7, 3) := by decide +kernel
theorem dX7_minimal_61 : decode cX7_minimal 61 = .ok (.iload 7, 2) := by decide +kernel
theorem dX7_minimal_63 : decode cX7_minimal 63 = .ok (.istore 6, 2) := by decide +kernel
theorem dX7_minimal_65 : decode cX7_minimal 65 = .ok (.iinc 7 1, 3) := by decide +kernel
theorem dX7_minimal_68 : decode cX7_minimal 68 = .ok (.goto (-31), 3) := by decide +kernel
theorem dX7_minimal_71 : decode cX7_minimal 71 = .ok (.iload 6, 2) := by decide +kernel
theorem dX7_minimal_73 : decode cX7_minimal 73 = .ok (.ifCond .lt 34, 3) := by decide +kernel
theorem dX7_minimal_76 : decode cX7_minimal 76 = .ok (.iload 6, 2) := by decide +kernel
theorem dX7_minimal_78 : decode cX7_minimal 78 = .ok (.iload 4, 2) := by decide +kernel
theorem dX7_minimal_80 : decode cX7_minimal 80 = .ok (.if_icmp .lt 6, 3) := by decide +kernel
theorem dX7_minimal_83 : decode cX7_minimal 83 = .ok (.goto 24, 3) := by decide +kernel
theorem dX7_minimal_86 : decode cX7_minimal 86 = .ok (.iload 6, 2) := by decide +kernel
theorem dX7_minimal_88 : decode cX7_minimal 88 = .ok (.istore 4, 2) := by decide +kernel
theorem dX7_minimal_90 : decode cX7_minimal 90 = .ok (.iload_n 3, 1) := by decide +kernel
theorem dX7_minimal_91 : decode cX7_minimal 91 = .ok (.iload_n 2, 1) := by decide +kernel
theorem dX7_minimal_92 : decode cX7_minimal 92 = .ok (.if_icmp .ne 12, 3) := by decide +kernel
theorem dX7_minimal_95 : decode cX7_minimal 95 = .ok (.bipush 100, 2) := by decide +kernel
theorem dX7_minimal_97 : decode cX7_minimal 97 = .ok (.iload 5, 2) := by decide +kernel
theorem dX7_minimal_99 : decode cX7_minimal 99 = .ok (.imul, 1) := by decide +kernel
theorem dX7_minimal_100 : decode cX7_minimal 100 = .ok (.iload 6, 2) := by decide +kernel
theorem dX7_minimal_102 : decode cX7_minimal 102 = .ok (.iadd, 1) := by decide +kernel
theorem dX7_minimal_103 : decode cX7_minimal 103 = .ok (.ireturn, 1) := by decide +kernel
theorem dX7_minimal_104 : decode cX7_minimal 104 = .ok (.iinc 3 1, 3) := by decide +kernel
theorem dX7_minimal_107 : decode cX7_minimal 107 = .ok (.iinc 5 1, 3) := by decide +kernel
theorem dX7_minimal_110 : decode cX7_minimal 110 = .ok (.goto (-85), 3) := by decide +kernel
theorem dX7_minimal_113 : decode cX7_minimal 113 = .ok (.iconst (-1), 1) := by decide +kernel
theorem dX7_minimal_114 : decode cX7_minimal 114 = .ok (.ireturn, 1) := by decide +kernel
theorem dX7_isSupplier_0 : decode cX7_isSupplier 0 = .ok (.iload_n 1, 1) := by decide +kernel
theorem dX7_isSupplier_1 : decode cX7_isSupplier 1 = .ok (.iconst 0, 1) := by decide +kernel
theorem dX7_isSupplier_2 : decode cX7_isSupplier 2 = .ok (.aload_n 0, 1) := by decide +kernel
theorem dX7_isSupplier_3 : decode cX7_isSupplier 3 = .ok (.getfield 168, 3) := by decide +kernel
theorem dX7_isSupplier_6 : decode cX7_isSupplier 6 = .ok (.iconst 1, 1) := by decide +kernel
theorem dX7_isSupplier_7 : decode cX7_isSupplier 7 = .ok (.isub, 1) := by decide +kernel
theorem dX7_isSupplier_8 : decode cX7_isSupplier 8 = .ok (.invokestatic 95, 3) := by decide +kernel
theorem dX7_isSupplier_11 : decode cX7_isSupplier 11 = .ok (.ireturn, 1) := by decide +kernel
theorem dX7_isLot_0 : decode cX7_isLot 0 = .ok (.iload_n 1, 1) := by decide +kernel
theorem dX7_isLot_1 : decode cX7_isLot 1 = .ok (.iconst 0, 1) := by decide +kernel
theorem dX7_isLot_2 : decode cX7_isLot 2 = .ok (.aload_n 0, 1) := by decide +kernel
theorem dX7_isLot_3 : decode cX7_isLot 3 = .ok (.getfield 171, 3) := by decide +kernel
theorem dX7_isLot_6 : decode cX7_isLot 6 = .ok (.iconst 1, 1) := by decide +kernel
theorem dX7_isLot_7 : decode cX7_isLot 7 = .ok (.isub, 1) := by decide +kernel
theorem dX7_isLot_8 : decode cX7_isLot 8 = .ok (.invokestatic 95, 3) := by decide +kernel
theorem dX7_isLot_11 : decode cX7_isLot 11 = .ok (.ireturn, 1) := by decide +kernel
theorem dX7_supplier_0 : decode cX7_supplier 0 = .ok (.aload_n 0, 1) := by decide +kernel
theorem dX7_supplier_1 : decode cX7_supplier 1 = .ok (.iload_n 1, 1) := by decide +kernel
theorem dX7_supplier_2 : decode cX7_supplier 2 = .ok (.invokevirtual 107, 3) := by decide +kernel
theorem dX7_supplier_5 : decode cX7_supplier 5 = .ok (.ifCond .eq 28, 3) := by decide +kernel
theorem dX7_supplier_8 : decode cX7_supplier 8 = .ok (.aload_n 0, 1) := by decide +kernel
theorem dX7_supplier_9 : decode cX7_supplier 9 = .ok (.iload_n 2, 1) := by decide +kernel
theorem dX7_supplier_10 : decode cX7_supplier 10 = .ok (.invokevirtual 107, 3) := by decide +kernel
theorem dX7_supplier_13 : decode cX7_supplier 13 = .ok (.ifCond .eq 20, 3) := by decide +kernel
theorem dX7_supplier_16 : decode cX7_supplier 16 = .ok (.aload_n 0, 1) := by decide +kernel
theorem dX7_supplier_17 : decode cX7_supplier 17 = .ok (.iload_n 3, 1) := by decide +kernel
theorem dX7_supplier_18 : decode cX7_supplier 18 = .ok (.invokevirtual 107, 3) := by decide +kernel
theorem dX7_supplier_21 : decode cX7_supplier 21 = .ok (.ifCond .eq 12, 3) := by decide +kernel
theorem dX7_supplier_24 : decode cX7_supplier 24 = .ok (.aload_n 0, 1) := by decide +kernel
theorem dX7_supplier_25 : decode cX7_supplier 25 = .ok (.getfield 168, 3) := by decide +kernel
theorem dX7_supplier_28 : decode cX7_supplier 28 = .ok (.bipush 8, 2) := by decide +kernel
theorem dX7_supplier_30 : decode cX7_supplier 30 = .ok (.if_icmp .ne 6, 3) := by decide +kernel
theorem dX7_supplier_33 : decode cX7_supplier 33 = .ok (.bipush (-2), 2) := by decide +kernel
theorem dX7_supplier_35 : decode cX7_supplier 35 = .ok (.ireturn, 1) := by decide +kernel
theorem dX7_supplier_36 : decode cX7_supplier 36 = .ok (.aload_n 0, 1) := by decide +kernel
theorem dX7_supplier_37 : decode cX7_supplier 37 = .ok (.getfield 43, 3) := by decide +kernel
theorem dX7_supplier_40 : decode cX7_supplier 40 = .ok (.iconst 3, 1) := by decide +kernel
theorem dX7_supplier_41 : decode cX7_supplier 41 = .ok (.aload_n 0, 1) := by decide +kernel
theorem dX7_supplier_42 : decode cX7_supplier 42 = .ok (.getfield 168, 3) := by decide +kernel
theorem dX7_supplier_45 : decode cX7_supplier 45 = .ok (.imul, 1) := by decide +kernel
theorem dX7_supplier_46 : decode cX7_supplier 46 = .ok (.iload_n 1, 1) := by decide +kernel
theorem dX7_supplier_47 : decode cX7_supplier 47 = .ok (.iastore, 1) := by decide +kernel
theorem dX7_supplier_48 : decode cX7_supplier 48 = .ok (.aload_n 0, 1) := by decide +kernel
theorem dX7_supplier_49 : decode cX7_supplier 49 = .ok (.getfield 43, 3) := by decide +kernel
theorem dX7_supplier_52 : decode cX7_supplier 52 = .ok (.iconst 3, 1) := by decide +kernel
theorem dX7_supplier_53 : decode cX7_supplier 53 = .ok (.aload_n 0, 1) := by decide +kernel
theorem dX7_supplier_54 : decode cX7_supplier 54 = .ok (.getfield 168, 3) := by decide +kernel
theorem dX7_supplier_57 : decode cX7_supplier 57 = .ok (.imul, 1) := by decide +kernel
theorem dX7_supplier_58 : decode cX7_supplier 58 = .ok (.iconst 1, 1) := by decide +kernel
theorem dX7_supplier_59 : decode cX7_supplier 59 = .ok (.iadd, 1) := by decide +kernel
theorem dX7_supplier_60 : decode cX7_supplier 60 = .ok (.iload_n 2, 1) := by decide +kernel
theorem dX7_supplier_61 : decode cX7_supplier 61 = .ok (.iastore, 1) := by decide +kernel
theorem dX7_supplier_62 : decode cX7_supplier 62 = .ok (.aload_n 0, 1) := by decide +kernel
theorem dX7_supplier_63 : decode cX7_supplier 63 = .ok (.getfield 43, 3) := by decide +kernel
theorem dX7_supplier_66 : decode cX7_supplier 66 = .ok (.iconst 3, 1) := by decide +kernel
theorem dX7_supplier_67 : decode cX7_supplier 67 = .ok (.aload_n 0, 1) := by decide +kernel
theorem dX7_supplier_68 : decode cX7_supplier 68 = .ok (.getfield 168, 3) := by decide +kernel
theorem dX7_supplier_71 : decode cX7_supplier 71 = .ok (.imul, 1) := by decide +kernel
theorem dX7_supplier_72 : decode cX7_supplier 72 = .ok (.iconst 2, 1) := by decide +kernel
theorem dX7_supplier_73 : decode cX7_supplier 73 = .ok (.iadd, 1) := by decide +kernel
theorem dX7_supplier_74 : decode cX7_supplier 74 = .ok (.iload_n 3, 1) := by decide +kernel
theorem dX7_supplier_75 : decode cX7_supplier 75 = .ok (.iastore, 1) := by decide +kernel
theorem dX7_supplier_76 : decode cX7_supplier 76 = .ok (.aload_n 0, 1) := by decide +kernel
theorem dX7_supplier_77 : decode cX7_supplier 77 = .ok (.getfield 46, 3) := by decide +kernel
theorem dX7_supplier_80 : decode cX7_supplier 80 = .ok (.aload_n 0, 1) := by decide +kernel
theorem dX7_supplier_81 : decode cX7_supplier 81 = .ok (.getfield 168, 3) := by decide +kernel
theorem dX7_supplier_84 : decode cX7_supplier 84 = .ok (.iconst 0, 1) := by decide +kernel
theorem dX7_supplier_85 : decode cX7_supplier 85 = .ok (.iastore, 1) := by decide +kernel
theorem dX7_supplier_86 : decode cX7_supplier 86 = .ok (.aload_n 0, 1) := by decide +kernel
theorem dX7_supplier_87 : decode cX7_supplier 87 = .ok (.dup, 1) := by decide +kernel
theorem dX7_supplier_88 : decode cX7_supplier 88 = .ok (.getfield 168, 3) := by decide +kernel
theorem dX7_supplier_91 : decode cX7_supplier 91 = .ok (.iconst 1, 1) := by decide +kernel
theorem dX7_supplier_92 : decode cX7_supplier 92 = .ok (.iadd, 1) := by decide +kernel
theorem dX7_supplier_93 : decode cX7_supplier 93 = .ok (.putfield 168, 3) := by decide +kernel
theorem dX7_supplier_96 : decode cX7_supplier 96 = .ok (.aload_n 0, 1) := by decide +kernel
theorem dX7_supplier_97 : decode cX7_supplier 97 = .ok (.getfield 168, 3) := by decide +kernel
theorem dX7_supplier_100 : decode cX7_supplier 100 = .ok (.iconst 1, 1) := by decide +kernel
theorem dX7_supplier_101 : decode cX7_supplier 101 = .ok (.isub, 1) := by decide +kernel
theorem dX7_supplier_102 : decode cX7_supplier 102 = .ok (.ireturn, 1) := by decide +kernel
theorem dX7_lot_0 : decode cX7_lot 0 = .ok (.aload_n 0, 1) := by decide +kernel
theorem dX7_lot_1 : decode cX7_lot 1 = .ok (.iload_n 1, 1) := by decide +kernel
theorem dX7_lot_2 : decode cX7_lot 2 = .ok (.invokevirtual 174, 3) := by decide +kernel
theorem dX7_lot_5 : decode cX7_lot 5 = .ok (.ifCond .eq 45, 3) := by decide +kernel
theorem dX7_lot_8 : decode cX7_lot 8 = .ok (.iload_n 2, 1) := by decide +kernel
theorem dX7_lot_9 : decode cX7_lot 9 = .ok (.iconst 1, 1) := by decide +kernel
theorem dX7_lot_10 : decode cX7_lot 10 = .ok (.bipush 60, 2) := by decide +kernel
theorem dX7_lot_12 : decode cX7_lot 12 = .ok (.invokestatic 95, 3) := by decide +kernel
theorem dX7_lot_15 : decode cX7_lot 15 = .ok (.ifCond .eq 35, 3) := by decide +kernel
theorem dX7_lot_18 : decode cX7_lot 18 = .ok (.iload_n 2, 1) := by decide +kernel
theorem dX7_lot_19 : decode cX7_lot 19 = .ok (.aload_n 0, 1) := by decide +kernel
theorem dX7_lot_20 : decode cX7_lot 20 = .ok (.aload_n 0, 1) := by decide +kernel
theorem dX7_lot_21 : decode cX7_lot 21 = .ok (.getfield 43, 3) := by decide +kernel
theorem dX7_lot_24 : decode cX7_lot 24 = .ok (.iconst 3, 1) := by decide +kernel
theorem dX7_lot_25 : decode cX7_lot 25 = .ok (.iload_n 1, 1) := by decide +kernel
theorem dX7_lot_26 : decode cX7_lot 26 = .ok (.imul, 1) := by decide +kernel
theorem dX7_lot_27 : decode cX7_lot 27 = .ok (.aload_n 0, 1) := by decide +kernel
theorem dX7_lot_28 : decode cX7_lot 28 = .ok (.getfield 46, 3) := by decide +kernel
theorem dX7_lot_31 : decode cX7_lot 31 = .ok (.iload_n 1, 1) := by decide +kernel
theorem dX7_lot_32 : decode cX7_lot 32 = .ok (.iaload, 1) := by decide +kernel
theorem dX7_lot_33 : decode cX7_lot 33 = .ok (.iadd, 1) := by decide +kernel
theorem dX7_lot_34 : decode cX7_lot 34 = .ok (.iaload, 1) := by decide +kernel
theorem dX7_lot_35 : decode cX7_lot 35 = .ok (.invokevirtual 110, 3) := by decide +kernel
theorem dX7_lot_38 : decode cX7_lot 38 = .ok (.if_icmp .lt 12, 3) := by decide +kernel
theorem dX7_lot_41 : decode cX7_lot 41 = .ok (.aload_n 0, 1) := by decide +kernel
theorem dX7_lot_42 : decode cX7_lot 42 = .ok (.getfield 171, 3) := by decide +kernel
theorem dX7_lot_45 : decode cX7_lot 45 = .ok (.bipush 60, 2) := by decide +kernel
theorem dX7_lot_47 : decode cX7_lot 47 = .ok (.if_icmp .ne 6, 3) := by decide +kernel
theorem dX7_lot_50 : decode cX7_lot 50 = .ok (.bipush (-2), 2) := by decide +kernel
theorem dX7_lot_52 : decode cX7_lot 52 = .ok (.ireturn, 1) := by decide +kernel
theorem dX7_lot_53 : decode cX7_lot 53 = .ok (.aload_n 0, 1) := by decide +kernel
theorem dX7_lot_54 : decode cX7_lot 54 = .ok (.getfield 58, 3) := by decide +kernel
theorem dX7_lot_57 : decode cX7_lot 57 = .ok (.aload_n 0, 1) := by decide +kernel
theorem dX7_lot_58 : decode cX7_lot 58 = .ok (.getfield 171, 3) := by decide +kernel
theorem dX7_lot_61 : decode cX7_lot 61 = .ok (.iload_n 1, 1) := by decide +kernel
theorem dX7_lot_62 : decode cX7_lot 62 = .ok (.iastore, 1) := by decide +kernel
theorem dX7_lot_63 : decode cX7_lot 63 = .ok (.aload_n 0, 1) := by decide +kernel
theorem dX7_lot_64 : decode cX7_lot 64 = .ok (.getfield 61, 3) := by decide +kernel
theorem dX7_lot_67 : decode cX7_lot 67 = .ok (.aload_n 0, 1) := by decide +kernel
theorem dX7_lot_68 : decode cX7_lot 68 = .ok (.getfield 171, 3) := by decide +kernel
theorem dX7_lot_71 : decode cX7_lot 71 = .ok (.iload_n 2, 1) := by decide +kernel
theorem dX7_lot_72 : decode cX7_lot 72 = .ok (.iastore, 1) := by decide +kernel
theorem dX7_lot_73 : decode cX7_lot 73 = .ok (.aload_n 0, 1) := by decide +kernel
theorem dX7_lot_74 : decode cX7_lot 74 = .ok (.getfield 67, 3) := by decide +kernel
theorem dX7_lot_77 : decode cX7_lot 77 = .ok (.aload_n 0, 1) := by decide +kernel
theorem dX7_lot_78 : decode cX7_lot 78 = .ok (.getfield 171, 3) := by decide +kernel
theorem dX7_lot_81 : decode cX7_lot 81 = .ok (.aload_n 0, 1) := by decide +kernel
theorem dX7_lot_82 : decode cX7_lot 82 = .ok (.getfield 46, 3) := by decide +kernel
theorem dX7_lot_85 : decode cX7_lot 85 = .ok (.iload_n 1, 1) := by decide +kernel
theorem dX7_lot_86 : decode cX7_lot 86 = .ok (.iaload, 1) := by decide +kernel
theorem dX7_lot_87 : decode cX7_lot 87 = .ok (.iastore, 1) := by decide +kernel
theorem dX7_lot_88 : decode cX7_lot 88 = .ok (.aload_n 0, 1) := by decide +kernel
theorem dX7_lot_89 : decode cX7_lot 89 = .ok (.getfield 64, 3) := by decide +kernel
theorem dX7_lot_92 : decode cX7_lot 92 = .ok (.aload_n 0, 1) := by decide +kernel
theorem dX7_lot_93 : decode cX7_lot 93 = .ok (.getfield 171, 3) := by decide +kernel
theorem dX7_lot_96 : decode cX7_lot 96 = .ok (.aload_n 0, 1) := by decide +kernel
theorem dX7_lot_97 : decode cX7_lot 97 = .ok (.getfield 43, 3) := by decide +kernel
theorem dX7_lot_100 : decode cX7_lot 100 = .ok (.iconst 3, 1) := by decide +kernel
theorem dX7_lot_101 : decode cX7_lot 101 = .ok (.iload_n 1, 1) := by decide +kernel
theorem dX7_lot_102 : decode cX7_lot 102 = .ok (.imul, 1) := by decide +kernel
theorem dX7_lot_103 : decode cX7_lot 103 = .ok (.aload_n 0, 1) := by decide +kernel
theorem dX7_lot_104 : decode cX7_lot 104 = .ok (.getfield 46, 3) := by decide +kernel
theorem dX7_lot_107 : decode cX7_lot 107 = .ok (.iload_n 1, 1) := by decide +kernel
theorem dX7_lot_108 : decode cX7_lot 108 = .ok (.iaload, 1) := by decide +kernel
theorem dX7_lot_109 : decode cX7_lot 109 = .ok (.iadd, 1) := by decide +kernel
theorem dX7_lot_110 : decode cX7_lot 110 = .ok (.iaload, 1) := by decide +kernel
theorem dX7_lot_111 : decode cX7_lot 111 = .ok (.iastore, 1) := by decide +kernel
theorem dX7_lot_112 : decode cX7_lot 112 = .ok (.aload_n 0, 1) := by decide +kernel
theorem dX7_lot_113 : decode cX7_lot 113 = .ok (.getfield 70, 3) := by decide +kernel
theorem dX7_lot_116 : decode cX7_lot 116 = .ok (.aload_n 0, 1) := by decide +kernel
theorem dX7_lot_117 : decode cX7_lot 117 = .ok (.getfield 171, 3) := by decide +kernel
theorem dX7_lot_120 : decode cX7_lot 120 = .ok (.iconst 0, 1) := by decide +kernel
theorem dX7_lot_121 : decode cX7_lot 121 = .ok (.iastore, 1) := by decide +kernel
theorem dX7_lot_122 : decode cX7_lot 122 = .ok (.aload_n 0, 1) := by decide +kernel
theorem dX7_lot_123 : decode cX7_lot 123 = .ok (.dup, 1) := by decide +kernel
theorem dX7_lot_124 : decode cX7_lot 124 = .ok (.getfield 171, 3) := by decide +kernel
theorem dX7_lot_127 : decode cX7_lot 127 = .ok (.iconst 1, 1) := by decide +kernel
theorem dX7_lot_128 : decode cX7_lot 128 = .ok (.iadd, 1) := by decide +kernel
theorem dX7_lot_129 : decode cX7_lot 129 = .ok (.putfield 171, 3) := by decide +kernel
theorem dX7_lot_132 : decode cX7_lot 132 = .ok (.aload_n 0, 1) := by decide +kernel
theorem dX7_lot_133 : decode cX7_lot 133 = .ok (.getfield 171, 3) := by decide +kernel
theorem dX7_lot_136 : decode cX7_lot 136 = .ok (.iconst 1, 1) := by decide +kernel
theorem dX7_lot_137 : decode cX7_lot 137 = .ok (.isub, 1) := by decide +kernel
theorem dX7_lot_138 : decode cX7_lot 138 = .ok (.ireturn, 1) := by decide +kernel
theorem dX7_judge_0 : decode cX7_judge 0 = .ok (.aload_n 0, 1) := by decide +kernel
theorem dX7_judge_1 : decode cX7_judge 1 = .ok (.iconst 0, 1) := by decide +kernel
theorem dX7_judge_2 : decode cX7_judge 2 = .ok (.putfield 177, 3) := by decide +kernel
theorem dX7_judge_5 : decode cX7_judge 5 = .ok (.aload_n 0, 1) := by decide +kernel
theorem dX7_judge_6 : decode cX7_judge 6 = .ok (.iconst 0, 1) := by decide +kernel
theorem dX7_judge_7 : decode cX7_judge 7 = .ok (.putfield 180, 3) := by decide +kernel
theorem dX7_judge_10 : decode cX7_judge 10 = .ok (.aload_n 0, 1) := by decide +kernel
theorem dX7_judge_11 : decode cX7_judge 11 = .ok (.iconst 0, 1) := by decide +kernel
theorem dX7_judge_12 : decode cX7_judge 12 = .ok (.putfield 183, 3) := by decide +kernel
theorem dX7_judge_15 : decode cX7_judge 15 = .ok (.aload_n 0, 1) := by decide +kernel
theorem dX7_judge_16 : decode cX7_judge 16 = .ok (.iconst 0, 1) := by decide +kernel
theorem dX7_judge_17 : decode cX7_judge 17 = .ok (.putfield 186, 3) := by decide +kernel
theorem dX7_judge_20 : decode cX7_judge 20 = .ok (.aload_n 0, 1) := by decide +kernel
theorem dX7_judge_21 : decode cX7_judge 21 = .ok (.getfield 64, 3) := by decide +kernel
theorem dX7_judge_24 : decode cX7_judge 24 = .ok (.iload_n 1, 1) := by decide +kernel
theorem dX7_judge_25 : decode cX7_judge 25 = .ok (.iaload, 1) := by decide +kernel
theorem dX7_judge_26 : decode cX7_judge 26 = .ok (.istore_n 2, 1) := by decide +kernel
theorem dX7_judge_27 : decode cX7_judge 27 = .ok (.iconst 0, 1) := by decide +kernel
theorem dX7_judge_28 : decode cX7_judge 28 = .ok (.istore_n 3, 1) := by decide +kernel
theorem dX7_judge_29 : decode cX7_judge 29 = .ok (.iconst 0, 1) := by decide +kernel
theorem dX7_judge_30 : decode cX7_judge 30 = .ok (.istore 4, 2) := by decide +kernel
theorem dX7_judge_32 : decode cX7_judge 32 = .ok (.aload_n 0, 1) := by decide +kernel
theorem dX7_judge_33 : decode cX7_judge 33 = .ok (.getfield 177, 3) := by decide +kernel
theorem dX7_judge_36 : decode cX7_judge 36 = .ok (.ifCond .ne 173, 3) := by decide +kernel
theorem dX7_judge_39 : decode cX7_judge 39 = .ok (.aload_n 0, 1) := by decide +kernel
theorem dX7_judge_40 : decode cX7_judge 40 = .ok (.getfield 180, 3) := by decide +kernel
theorem dX7_judge_43 : decode cX7_judge 43 = .ok (.aload_n 0, 1) := by decide +kernel
theorem dX7_judge_44 : decode cX7_judge 44 = .ok (.getfield 70, 3) := by decide +kernel
theorem dX7_judge_47 : decode cX7_judge 47 = .ok (.iload_n 1, 1) := by decide +kernel
theorem dX7_judge_48 : decode cX7_judge 48 = .ok (.iaload, 1) := by decide +kernel
theorem dX7_judge_49 : decode cX7_judge 49 = .ok (.if_icmp .ge 160, 3) := by decide +kernel
theorem dX7_judge_52 : decode cX7_judge 52 = .ok (.aload_n 0, 1) := by decide +kernel
theorem dX7_judge_53 : decode cX7_judge 53 = .ok (.getfield 73, 3) := by decide +kernel
theorem dX7_judge_56 : decode cX7_judge 56 = .ok (.bipush 60, 2) := by decide +kernel
theorem dX7_judge_58 : decode cX7_judge 58 = .ok (.iload_n 1, 1) := by decide +kernel
theorem dX7_judge_59 : decode cX7_judge 59 = .ok (.imul, 1) := by decide +kernel
theorem dX7_judge_60 : decode cX7_judge 60 = .ok (.aload_n 0, 1) := by decide +kernel
theorem dX7_judge_61 : decode cX7_judge 61 = .ok (.getfield 180, 3) := by decide +kernel
theorem dX7_judge_64 : decode cX7_judge 64 = .ok (.iadd, 1) := by decide +kernel
theorem dX7_judge_65 : decode cX7_judge 65 = .ok (.iaload, 1) := by decide +kernel
theorem dX7_judge_66 : decode cX7_judge 66 = .ok (.istore 5, 2) := by decide +kernel
theorem dX7_judge_68 : decode cX7_judge 68 = .ok (.aload_n 0, 1) := by decide +kernel
theorem dX7_judge_69 : decode cX7_judge 69 = .ok (.dup, 1) := by decide +kernel
theorem dX7_judge_70 : decode cX7_judge 70 = .ok (.getfield 180, 3) := by decide +kernel
theorem dX7_judge_73 : decode cX7_judge 73 = .ok (.iconst 1, 1) := by decide +kernel
theorem dX7_judge_74 : decode cX7_judge 74 = .ok (.iadd, 1) := by decide +kernel
theorem dX7_judge_75 : decode cX7_judge 75 = .ok (.putfield 180, 3) := by decide +kernel
theorem dX7_judge_78 : decode cX7_judge 78 = .ok (.iload_n 3, 1) := by decide +kernel
theorem dX7_judge_79 : decode cX7_judge 79 = .ok (.iload 5, 2) := by decide +kernel
theorem dX7_judge_81 : decode cX7_judge 81 = .ok (.iconst 1, 1) := by decide +kernel
theorem dX7_judge_82 : decode cX7_judge 82 = .ok (.if_icmp .ne 7, 3) := by decide +kernel
theorem dX7_judge_85 : decode cX7_judge 85 = .ok (.iconst 1, 1) := by decide +kernel
theorem dX7_judge_86 : decode cX7_judge 86 = .ok (.goto 4, 3) := by decide +kernel
theorem dX7_judge_89 : decode cX7_judge 89 = .ok (.iconst 0, 1) := by decide +kernel
theorem dX7_judge_90 : decode cX7_judge 90 = .ok (.iadd, 1) := by decide +kernel
theorem dX7_judge_91 : decode cX7_judge 91 = .ok (.istore_n 3, 1) := by decide +kernel
theorem dX7_judge_92 : decode cX7_judge 92 = .ok (.iload 4, 2) := by decide +kernel
theorem dX7_judge_94 : decode cX7_judge 94 = .ok (.iload 5, 2) := by decide +kernel
theorem dX7_judge_96 : decode cX7_judge 96 = .ok (.iconst 1, 1) := by decide +kernel
theorem dX7_judge_97 : decode cX7_judge 97 = .ok (.if_icmp .le 7, 3) := by decide +kernel
theorem dX7_judge_100 : decode cX7_judge 100 = .ok (.iconst 1, 1) := by decide +kernel
theorem dX7_judge_101 : decode cX7_judge 101 = .ok (.goto 4, 3) := by decide +kernel
theorem dX7_judge_104 : decode cX7_judge 104 = .ok (.iconst 0, 1) := by decide +kernel
theorem dX7_judge_105 : decode cX7_judge 105 = .ok (.iadd, 1) := by decide +kernel
theorem dX7_judge_106 : decode cX7_judge 106 = .ok (.istore 4, 2) := by decide +kernel
theorem dX7_judge_108 : decode cX7_judge 108 = .ok (.aload_n 0, 1) := by decide +kernel
theorem dX7_judge_109 : decode cX7_judge 109 = .ok (.iload 4, 2) := by decide +kernel
theorem dX7_judge_111 : decode cX7_judge 111 = .ok (.iload_n 3, 1) := by decide +kernel
theorem dX7_judge_112 : decode cX7_judge 112 = .ok (.iconst 3, 1) := by decide +kernel
theorem dX7_judge_113 : decode cX7_judge 113 = .ok (.idiv, 1) := by decide +kernel
theorem dX7_judge_114 : decode cX7_judge 114 = .ok (.iadd, 1) := by decide +kernel
theorem dX7_judge_115 : decode cX7_judge 115 = .ok (.putfield 183, 3) := by decide +kernel
theorem dX7_judge_118 : decode cX7_judge 118 = .ok (.iload 5, 2) := by decide +kernel
theorem dX7_judge_120 : decode cX7_judge 120 = .ok (.iconst 3, 1) := by decide +kernel
theorem dX7_judge_121 : decode cX7_judge 121 = .ok (.if_icmp .eq 23, 3) := by decide +kernel
theorem dX7_judge_124 : decode cX7_judge 124 = .ok (.aload_n 0, 1) := by decide +kernel
theorem dX7_judge_125 : decode cX7_judge 125 = .ok (.getfield 183, 3) := by decide +kernel
theorem dX7_judge_128 : decode cX7_judge 128 = .ok (.aload_n 0, 1) := by decide +kernel
theorem dX7_judge_129 : decode cX7_judge 129 = .ok (.getfield 19, 3) := by decide +kernel
theorem dX7_judge_132 : decode cX7_judge 132 = .ok (.iconst 4, 1) := by decide +kernel
theorem dX7_judge_133 : decode cX7_judge 133 = .ok (.iload_n 2, 1) := by decide +kernel
theorem dX7_judge_134 : decode cX7_judge 134 = .ok (.imul, 1) := by decide +kernel
theorem dX7_judge_135 : decode cX7_judge 135 = .ok (.aload_n 0, 1) := by decide +kernel
theorem dX7_judge_136 : decode cX7_judge 136 = .ok (.getfield 186, 3) := by decide +kernel
theorem dX7_judge_139 : decode cX7_judge 139 = .ok (.iadd, 1) := by decide +kernel
theorem dX7_judge_140 : decode cX7_judge 140 = .ok (.iaload, 1) := by decide +kernel
theorem dX7_judge_141 : decode cX7_judge 141 = .ok (.if_icmp .lt 11, 3) := by decide +kernel
theorem dX7_judge_144 : decode cX7_judge 144 = .ok (.aload_n 0, 1) := by decide +kernel
theorem dX7_judge_145 : decode cX7_judge 145 = .ok (.iconst 2, 1) := by decide +kernel
theorem dX7_judge_146 : decode cX7_judge 146 = .ok (.putfield 177, 3) := by decide +kernel
theorem dX7_judge_149 : decode cX7_judge 149 = .ok (.goto 57, 3) := by decide +kernel
theorem dX7_judge_152 : decode cX7_judge 152 = .ok (.aload_n 0, 1) := by decide +kernel
theorem dX7_judge_153 : decode cX7_judge 153 = .ok (.getfield 180, 3) := by decide +kernel
theorem dX7_judge_156 : decode cX7_judge 156 = .ok (.aload_n 0, 1) := by decide +kernel
theorem dX7_judge_157 : decode cX7_judge 157 = .ok (.iload_n 2, 1) := by decide +kernel
theorem dX7_judge_158 : decode cX7_judge 158 = .ok (.aload_n 0, 1) := by decide +kernel
theorem dX7_judge_159 : decode cX7_judge 159 = .ok (.getfield 186, 3) := by decide +kernel
theorem dX7_judge_162 : decode cX7_judge 162 = .ok (.invokevirtual 103, 3) := by decide +kernel
theorem dX7_judge_165 : decode cX7_judge 165 = .ok (.if_icmp .ne 41, 3) := by decide +kernel
theorem dX7_judge_168 : decode cX7_judge 168 = .ok (.aload_n 0, 1) := by decide +kernel
theorem dX7_judge_169 : decode cX7_judge 169 = .ok (.getfield 183, 3) := by decide +kernel
theorem dX7_judge_172 : decode cX7_judge 172 = .ok (.aload_n 0, 1) := by decide +kernel
theorem dX7_judge_173 : decode cX7_judge 173 = .ok (.getfield 16, 3) := by decide +kernel
theorem dX7_judge_176 : decode cX7_judge 176 = .ok (.iconst 4, 1) := by decide +kernel
theorem dX7_judge_177 : decode cX7_judge 177 = .ok (.iload_n 2, 1) := by decide +kernel
theorem dX7_judge_178 : decode cX7_judge 178 = .ok (.imul, 1) := by decide +kernel
theorem dX7_judge_179 : decode cX7_judge 179 = .ok (.aload_n 0, 1) := by decide +kernel
theorem dX7_judge_180 : decode cX7_judge 180 = .ok (.getfield 186, 3) := by decide +kernel
theorem dX7_judge_183 : decode cX7_judge 183 = .ok (.iadd, 1) := by decide +kernel
theorem dX7_judge_184 : decode cX7_judge 184 = .ok (.iaload, 1) := by decide +kernel
theorem dX7_judge_185 : decode cX7_judge 185 = .ok (.if_icmp .gt 11, 3) := by decide +kernel
theorem dX7_judge_188 : decode cX7_judge 188 = .ok (.aload_n 0, 1) := by decide +kernel
theorem dX7_judge_189 : decode cX7_judge 189 = .ok (.iconst 1, 1) := by decide +kernel
theorem dX7_judge_190 : decode cX7_judge 190 = .ok (.putfield 177, 3) := by decide +kernel
theorem dX7_judge_193 : decode cX7_judge 193 = .ok (.goto 13, 3) := by decide +kernel
theorem dX7_judge_196 : decode cX7_judge 196 = .ok (.aload_n 0, 1) := by decide +kernel
theorem dX7_judge_197 : decode cX7_judge 197 = .ok (.dup, 1) := by decide +kernel
theorem dX7_judge_198 : decode cX7_judge 198 = .ok (.getfield 186, 3) := by decide +kernel
theorem dX7_judge_201 : decode cX7_judge 201 = .ok (.iconst 1, 1) := by decide +kernel
theorem dX7_judge_202 : decode cX7_judge 202 = .ok (.iadd, 1) := by decide +kernel
theorem dX7_judge_203 : decode cX7_judge 203 = .ok (.putfield 186, 3) := by decide +kernel
theorem dX7_judge_206 : decode cX7_judge 206 = .ok (.goto (-174), 3) := by decide +kernel
theorem dX7_judge_209 : decode cX7_judge 209 = .ok (.return_, 1) := by decide +kernel
theorem dX7_isOpen_0 : decode cX7_isOpen 0 = .ok (.aload_n 0, 1) := by decide +kernel
theorem dX7_isOpen_1 : decode cX7_isOpen 1 = .ok (.iload_n 1, 1) := by decide +kernel
theorem dX7_isOpen_2 : decode cX7_isOpen 2 = .ok (.invokevirtual 189, 3) := by decide +kernel
theorem dX7_isOpen_5 : decode cX7_isOpen 5 = .ok (.ifCond .ne 5, 3) := by decide +kernel
theorem dX7_isOpen_8 : decode cX7_isOpen 8 = .ok (.iconst 0, 1) := by decide +kernel
theorem dX7_isOpen_9 : decode cX7_isOpen 9 = .ok (.ireturn, 1) := by decide +kernel
theorem dX7_isOpen_10 : decode cX7_isOpen 10 = .ok (.aload_n 0, 1) := by decide +kernel
theorem dX7_isOpen_11 : decode cX7_isOpen 11 = .ok (.iload_n 1, 1) := by decide +kernel
theorem dX7_isOpen_12 : decode cX7_isOpen 12 = .ok (.invokevirtual 192, 3) := by decide +kernel
theorem dX7_isOpen_15 : decode cX7_isOpen 15 = .ok (.aload_n 0, 1) := by decide +kernel
theorem dX7_isOpen_16 : decode cX7_isOpen 16 = .ok (.getfield 177, 3) := by decide +kernel
theorem dX7_isOpen_19 : decode cX7_isOpen 19 = .ok (.ifCond .ne 7, 3) := by decide +kernel
theorem dX7_isOpen_22 : decode cX7_isOpen 22 = .ok (.iconst 1, 1) := by decide +kernel
theorem dX7_isOpen_23 : decode cX7_isOpen 23 = .ok (.goto 4, 3) := by decide +kernel
theorem dX7_isOpen_26 : decode cX7_isOpen 26 = .ok (.iconst 0, 1) := by decide +kernel
theorem dX7_isOpen_27 : decode cX7_isOpen 27 = .ok (.ireturn, 1) := by decide +kernel
theorem dX7_hears_0 : decode cX7_hears 0 = .ok (.aload_n 0, 1) := by decide +kernel
theorem dX7_hears_1 : decode cX7_hears 1 = .ok (.iload_n 1, 1) := by decide +kernel
theorem dX7_hears_2 : decode cX7_hears 2 = .ok (.invokevirtual 192, 3) := by decide +kernel
theorem dX7_hears_5 : decode cX7_hears 5 = .ok (.aload_n 0, 1) := by decide +kernel
theorem dX7_hears_6 : decode cX7_hears 6 = .ok (.getfield 70, 3) := by decide +kernel
theorem dX7_hears_9 : decode cX7_hears 9 = .ok (.iload_n 1, 1) := by decide +kernel
theorem dX7_hears_10 : decode cX7_hears 10 = .ok (.aload_n 0, 1) := by decide +kernel
theorem dX7_hears_11 : decode cX7_hears 11 = .ok (.getfield 180, 3) := by decide +kernel
theorem dX7_hears_14 : decode cX7_hears 14 = .ok (.iastore, 1) := by decide +kernel
theorem dX7_hears_15 : decode cX7_hears 15 = .ok (.aload_n 0, 1) := by decide +kernel
theorem dX7_hears_16 : decode cX7_hears 16 = .ok (.getfield 177, 3) := by decide +kernel
theorem dX7_hears_19 : decode cX7_hears 19 = .ok (.ifCond .ne 5, 3) := by decide +kernel
theorem dX7_hears_22 : decode cX7_hears 22 = .ok (.iconst 0, 1) := by decide +kernel
theorem dX7_hears_23 : decode cX7_hears 23 = .ok (.ireturn, 1) := by decide +kernel
theorem dX7_hears_24 : decode cX7_hears 24 = .ok (.aload_n 0, 1) := by decide +kernel
theorem dX7_hears_25 : decode cX7_hears 25 = .ok (.getfield 177, 3) := by decide +kernel
theorem dX7_hears_28 : decode cX7_hears 28 = .ok (.istore_n 2, 1) := by decide +kernel
theorem dX7_hears_29 : decode cX7_hears 29 = .ok (.aload_n 0, 1) := by decide +kernel
theorem dX7_hears_30 : decode cX7_hears 30 = .ok (.getfield 58, 3) := by decide +kernel
theorem dX7_hears_33 : decode cX7_hears 33 = .ok (.iload_n 1, 1) := by decide +kernel
theorem dX7_hears_34 : decode cX7_hears 34 = .ok (.iaload, 1) := by decide +kernel
theorem dX7_hears_35 : decode cX7_hears 35 = .ok (.istore_n 3, 1) := by decide +kernel
theorem dX7_hears_36 : decode cX7_hears 36 = .ok (.aload_n 0, 1) := by decide +kernel
theorem dX7_hears_37 : decode cX7_hears 37 = .ok (.getfield 55, 3) := by decide +kernel
theorem dX7_hears_40 : decode cX7_hears 40 = .ok (.bipush 60, 2) := by decide +kernel
theorem dX7_hears_42 : decode cX7_hears 42 = .ok (.iload_n 3, 1) := by decide +kernel
theorem dX7_hears_43 : decode cX7_hears 43 = .ok (.imul, 1) := by decide +kernel
theorem dX7_hears_44 : decode cX7_hears 44 = .ok (.aload_n 0, 1) := by decide +kernel
theorem dX7_hears_45 : decode cX7_hears 45 = .ok (.getfield 52, 3) := by decide +kernel
theorem dX7_hears_48 : decode cX7_hears 48 = .ok (.iload_n 3, 1) := by decide +kernel
theorem dX7_hears_49 : decode cX7_hears 49 = .ok (.iaload, 1) := by decide +kernel
theorem dX7_hears_50 : decode cX7_hears 50 = .ok (.iadd, 1) := by decide +kernel
theorem dX7_hears_51 : decode cX7_hears 51 = .ok (.iload_n 2, 1) := by decide +kernel
theorem dX7_hears_52 : decode cX7_hears 52 = .ok (.iastore, 1) := by decide +kernel
theorem dX7_hears_53 : decode cX7_hears 53 = .ok (.aload_n 0, 1) := by decide +kernel
theorem dX7_hears_54 : decode cX7_hears 54 = .ok (.getfield 52, 3) := by decide +kernel
theorem dX7_hears_57 : decode cX7_hears 57 = .ok (.iload_n 3, 1) := by decide +kernel
theorem dX7_hears_58 : decode cX7_hears 58 = .ok (.dup2, 1) := by decide +kernel
theorem dX7_hears_59 : decode cX7_hears 59 = .ok (.iaload, 1) := by decide +kernel
theorem dX7_hears_60 : decode cX7_hears 60 = .ok (.iconst 1, 1) := by decide +kernel
theorem dX7_hears_61 : decode cX7_hears 61 = .ok (.iadd, 1) := by decide +kernel
theorem dX7_hears_62 : decode cX7_hears 62 = .ok (.iastore, 1) := by decide +kernel
theorem dX7_hears_63 : decode cX7_hears 63 = .ok (.aload_n 0, 1) := by decide +kernel
theorem dX7_hears_64 : decode cX7_hears 64 = .ok (.getfield 46, 3) := by decide +kernel
theorem dX7_hears_67 : decode cX7_hears 67 = .ok (.iload_n 3, 1) := by decide +kernel
theorem dX7_hears_68 : decode cX7_hears 68 = .ok (.iaload, 1) := by decide +kernel
theorem dX7_hears_69 : decode cX7_hears 69 = .ok (.istore 4, 2) := by decide +kernel
theorem dX7_hears_71 : decode cX7_hears 71 = .ok (.iconst 0, 1) := by decide +kernel
theorem dX7_hears_72 : decode cX7_hears 72 = .ok (.istore 5, 2) := by decide +kernel
theorem dX7_hears_74 : decode cX7_hears 74 = .ok (.iconst 0, 1) := by decide +kernel
theorem dX7_hears_75 : decode cX7_hears 75 = .ok (.istore 6, 2) := by decide +kernel
theorem dX7_hears_77 : decode cX7_hears 77 = .ok (.iload 6, 2) := by decide +kernel
theorem dX7_hears_79 : decode cX7_hears 79 = .ok (.iconst 5, 1) := by decide +kernel
theorem dX7_hears_80 : decode cX7_hears 80 = .ok (.if_icmp .ge 30, 3) := by decide +kernel
theorem dX7_hears_83 : decode cX7_hears 83 = .ok (.iload 5, 2) := by decide +kernel
theorem dX7_hears_85 : decode cX7_hears 85 = .ok (.aload_n 0, 1) := by decide +kernel
theorem dX7_hears_86 : decode cX7_hears 86 = .ok (.iload_n 3, 1) := by decide +kernel
theorem dX7_hears_87 : decode cX7_hears 87 = .ok (.iload 6, 2) := by decide +kernel
theorem dX7_hears_89 : decode cX7_hears 89 = .ok (.invokevirtual 196, 3) := by decide +kernel
theorem dX7_hears_92 : decode cX7_hears 92 = .ok (.iconst 2, 1) := by decide +kernel
theorem dX7_hears_93 : decode cX7_hears 93 = .ok (.if_icmp .ne 7, 3) := by decide +kernel
theorem dX7_hears_96 : decode cX7_hears 96 = .ok (.iconst 1, 1) := by decide +kernel
theorem dX7_hears_97 : decode cX7_hears 97 = .ok (.goto 4, 3) := by decide +kernel
theorem dX7_hears_100 : decode cX7_hears 100 = .ok (.iconst 0, 1) := by decide +kernel
theorem dX7_hears_101 : decode cX7_hears 101 = .ok (.iadd, 1) := by decide +kernel
theorem dX7_hears_102 : decode cX7_hears 102 = .ok (.istore 5, 2) := by decide +kernel
theorem dX7_hears_104 : decode cX7_hears 104 = .ok (.iinc 6 1, 3) := by decide +kernel
theorem dX7_hears_107 : decode cX7_hears 107 = .ok (.goto (-30), 3) := by decide +kernel
theorem dX7_hears_110 : decode cX7_hears 110 = .ok (.iconst 0, 1) := by decide +kernel
theorem dX7_hears_111 : decode cX7_hears 111 = .ok (.istore 6, 2) := by decide +kernel
theorem dX7_hears_113 : decode cX7_hears 113 = .ok (.aload_n 0, 1) := by decide +kernel
theorem dX7_hears_114 : decode cX7_hears 114 = .ok (.iload_n 3, 1) := by decide +kernel
theorem dX7_hears_115 : decode cX7_hears 115 = .ok (.iload 6, 2) := by decide +kernel
theorem dX7_hears_117 : decode cX7_hears 117 = .ok (.invokevirtual 196, 3) := by decide +kernel
theorem dX7_hears_120 : decode cX7_hears 120 = .ok (.iconst 1, 1) := by decide +kernel
theorem dX7_hears_121 : decode cX7_hears 121 = .ok (.if_icmp .ne 9, 3) := by decide +kernel
theorem dX7_hears_124 : decode cX7_hears 124 = .ok (.iinc 6 1, 3) := by decide +kernel
theorem dX7_hears_127 : decode cX7_hears 127 = .ok (.goto (-14), 3) := by decide +kernel
theorem dX7_hears_130 : decode cX7_hears 130 = .ok (.iload 4, 2) := by decide +kernel
theorem dX7_hears_132 : decode cX7_hears 132 = .ok (.ifCond .ne 30, 3) := by decide +kernel
theorem dX7_hears_135 : decode cX7_hears 135 = .ok (.iload 5, 2) := by decide +kernel
theorem dX7_hears_137 : decode cX7_hears 137 = .ok (.iconst 2, 1) := by decide +kernel
theorem dX7_hears_138 : decode cX7_hears 138 = .ok (.if_icmp .lt 7, 3) := by decide +kernel
theorem dX7_hears_141 : decode cX7_hears 141 = .ok (.iconst 1, 1) := by decide +kernel
theorem dX7_hears_142 : decode cX7_hears 142 = .ok (.goto 15, 3) := by decide +kernel
theorem dX7_hears_145 : decode cX7_hears 145 = .ok (.iload 6, 2) := by decide +kernel
theorem dX7_hears_147 : decode cX7_hears 147 = .ok (.bipush 6, 2) := by decide +kernel
theorem dX7_hears_149 : decode cX7_hears 149 = .ok (.if_icmp .lt 7, 3) := by decide +kernel
theorem dX7_hears_152 : decode cX7_hears 152 = .ok (.iconst 2, 1) := by decide +kernel
theorem dX7_hears_153 : decode cX7_hears 153 = .ok (.goto 4, 3) := by decide +kernel
theorem dX7_hears_156 : decode cX7_hears 156 = .ok (.iconst 0, 1) := by decide +kernel
theorem dX7_hears_157 : decode cX7_hears 157 = .ok (.istore 4, 2) := by decide +kernel
theorem dX7_hears_159 : decode cX7_hears 159 = .ok (.goto 37, 3) := by decide +kernel
theorem dX7_hears_162 : decode cX7_hears 162 = .ok (.iload 4, 2) := by decide +kernel
theorem dX7_hears_164 : decode cX7_hears 164 = .ok (.iconst 1, 1) := by decide +kernel
theorem dX7_hears_165 : decode cX7_hears 165 = .ok (.if_icmp .ne 19, 3) := by decide +kernel
theorem dX7_hears_168 : decode cX7_hears 168 = .ok (.iload 6, 2) := by decide +kernel
theorem dX7_hears_170 : decode cX7_hears 170 = .ok (.iconst 5, 1) := by decide +kernel
theorem dX7_hears_171 : decode cX7_hears 171 = .ok (.if_icmp .lt 7, 3) := by decide +kernel
theorem dX7_hears_174 : decode cX7_hears 174 = .ok (.iconst 0, 1) := by decide +kernel
theorem dX7_hears_175 : decode cX7_hears 175 = .ok (.goto 4, 3) := by decide +kernel
theorem dX7_hears_178 : decode cX7_hears 178 = .ok (.iconst 1, 1) := by decide +kernel
theorem dX7_hears_179 : decode cX7_hears 179 = .ok (.istore 4, 2) := by decide +kernel
theorem dX7_hears_181 : decode cX7_hears 181 = .ok (.goto 15, 3) := by decide +kernel
theorem dX7_hears_184 : decode cX7_hears 184 = .ok (.iload_n 2, 1) := by decide +kernel
theorem dX7_hears_185 : decode cX7_hears 185 = .ok (.iconst 2, 1) := by decide +kernel
theorem dX7_hears_186 : decode cX7_hears 186 = .ok (.if_icmp .ne 7, 3) := by decide +kernel
theorem dX7_hears_189 : decode cX7_hears 189 = .ok (.iconst 0, 1) := by decide +kernel
theorem dX7_hears_190 : decode cX7_hears 190 = .ok (.goto 4, 3) := by decide +kernel
theorem dX7_hears_193 : decode cX7_hears 193 = .ok (.iconst 2, 1) := by decide +kernel
theorem dX7_hears_194 : decode cX7_hears 194 = .ok (.istore 4, 2) := by decide +kernel
theorem dX7_hears_196 : decode cX7_hears 196 = .ok (.iload 4, 2) := by decide +kernel
theorem dX7_hears_198 : decode cX7_hears 198 = .ok (.aload_n 0, 1) := by decide +kernel
theorem dX7_hears_199 : decode cX7_hears 199 = .ok (.getfield 46, 3) := by decide +kernel
theorem dX7_hears_202 : decode cX7_hears 202 = .ok (.iload_n 3, 1) := by decide +kernel
theorem dX7_hears_203 : decode cX7_hears 203 = .ok (.iaload, 1) := by decide +kernel
theorem dX7_hears_204 : decode cX7_hears 204 = .ok (.if_icmp .eq 28, 3) := by decide +kernel
theorem dX7_hears_207 : decode cX7_hears 207 = .ok (.aload_n 0, 1) := by decide +kernel
theorem dX7_hears_208 : decode cX7_hears 208 = .ok (.getfield 46, 3) := by decide +kernel
theorem dX7_hears_211 : decode cX7_hears 211 = .ok (.iload_n 3, 1) := by decide +kernel
theorem dX7_hears_212 : decode cX7_hears 212 = .ok (.iload 4, 2) := by decide +kernel
theorem dX7_hears_214 : decode cX7_hears 214 = .ok (.iastore, 1) := by decide +kernel
theorem dX7_hears_215 : decode cX7_hears 215 = .ok (.aload_n 0, 1) := by decide +kernel
theorem dX7_hears_216 : decode cX7_hears 216 = .ok (.getfield 49, 3) := by decide +kernel
theorem dX7_hears_219 : decode cX7_hears 219 = .ok (.iload_n 3, 1) := by decide +kernel
theorem dX7_hears_220 : decode cX7_hears 220 = .ok (.dup2, 1) := by decide +kernel
theorem dX7_hears_221 : decode cX7_hears 221 = .ok (.iaload, 1) := by decide +kernel
theorem dX7_hears_222 : decode cX7_hears 222 = .ok (.iconst 1, 1) := by decide +kernel
theorem dX7_hears_223 : decode cX7_hears 223 = .ok (.iadd, 1) := by decide +kernel
theorem dX7_hears_224 : decode cX7_hears 224 = .ok (.iastore, 1) := by decide +kernel
theorem dX7_hears_225 : decode cX7_hears 225 = .ok (.aload_n 0, 1) := by decide +kernel
theorem dX7_hears_226 : decode cX7_hears 226 = .ok (.getfield 52, 3) := by decide +kernel
theorem dX7_hears_229 : decode cX7_hears 229 = .ok (.iload_n 3, 1) := by decide +kernel
theorem dX7_hears_230 : decode cX7_hears 230 = .ok (.iconst 0, 1) := by decide +kernel
theorem dX7_hears_231 : decode cX7_hears 231 = .ok (.iastore, 1) := by decide +kernel
theorem dX7_hears_232 : decode cX7_hears 232 = .ok (.iload_n 2, 1) := by decide +kernel
theorem dX7_hears_233 : decode cX7_hears 233 = .ok (.ireturn, 1) := by decide +kernel
theorem dX7_item_0 : decode cX7_item 0 = .ok (.aload_n 0, 1) := by decide +kernel
theorem dX7_item_1 : decode cX7_item 1 = .ok (.iload_n 1, 1) := by decide +kernel
theorem dX7_item_2 : decode cX7_item 2 = .ok (.invokevirtual 198, 3) := by decide +kernel
theorem dX7_item_5 : decode cX7_item 5 = .ok (.ifCond .eq 12, 3) := by decide +kernel
theorem dX7_item_8 : decode cX7_item 8 = .ok (.iload_n 2, 1) := by decide +kernel
theorem dX7_item_9 : decode cX7_item 9 = .ok (.iconst 0, 1) := by decide +kernel
theorem dX7_item_10 : decode cX7_item 10 = .ok (.iconst 3, 1) := by decide +kernel
theorem dX7_item_11 : decode cX7_item 11 = .ok (.invokestatic 95, 3) := by decide +kernel
theorem dX7_item_14 : decode cX7_item 14 = .ok (.ifCond .ne 6, 3) := by decide +kernel
theorem dX7_item_17 : decode cX7_item 17 = .ok (.bipush (-2), 2) := by decide +kernel
theorem dX7_item_19 : decode cX7_item 19 = .ok (.ireturn, 1) := by decide +kernel
theorem dX7_item_20 : decode cX7_item 20 = .ok (.aload_n 0, 1) := by decide +kernel
theorem dX7_item_21 : decode cX7_item 21 = .ok (.getfield 73, 3) := by decide +kernel
theorem dX7_item_24 : decode cX7_item 24 = .ok (.bipush 60, 2) := by decide +kernel
theorem dX7_item_26 : decode cX7_item 26 = .ok (.iload_n 1, 1) := by decide +kernel
theorem dX7_item_27 : decode cX7_item 27 = .ok (.imul, 1) := by decide +kernel
theorem dX7_item_28 : decode cX7_item 28 = .ok (.aload_n 0, 1) := by decide +kernel
theorem dX7_item_29 : decode cX7_item 29 = .ok (.getfield 70, 3) := by decide +kernel
theorem dX7_item_32 : decode cX7_item 32 = .ok (.iload_n 1, 1) := by decide +kernel
theorem dX7_item_33 : decode cX7_item 33 = .ok (.iaload, 1) := by decide +kernel
theorem dX7_item_34 : decode cX7_item 34 = .ok (.iadd, 1) := by decide +kernel
theorem dX7_item_35 : decode cX7_item 35 = .ok (.iload_n 2, 1) := by decide +kernel
theorem dX7_item_36 : decode cX7_item 36 = .ok (.iastore, 1) := by decide +kernel
theorem dX7_item_37 : decode cX7_item 37 = .ok (.aload_n 0, 1) := by decide +kernel
theorem dX7_item_38 : decode cX7_item 38 = .ok (.getfield 70, 3) := by decide +kernel
theorem dX7_item_41 : decode cX7_item 41 = .ok (.iload_n 1, 1) := by decide +kernel
theorem dX7_item_42 : decode cX7_item 42 = .ok (.dup2, 1) := by decide +kernel
theorem dX7_item_43 : decode cX7_item 43 = .ok (.iaload, 1) := by decide +kernel
theorem dX7_item_44 : decode cX7_item 44 = .ok (.iconst 1, 1) := by decide +kernel
theorem dX7_item_45 : decode cX7_item 45 = .ok (.iadd, 1) := by decide +kernel
theorem dX7_item_46 : decode cX7_item 46 = .ok (.iastore, 1) := by decide +kernel
theorem dX7_item_47 : decode cX7_item 47 = .ok (.aload_n 0, 1) := by decide +kernel
theorem dX7_item_48 : decode cX7_item 48 = .ok (.iload_n 1, 1) := by decide +kernel
theorem dX7_item_49 : decode cX7_item 49 = .ok (.invokevirtual 201, 3) := by decide +kernel
theorem dX7_item_52 : decode cX7_item 52 = .ok (.ireturn, 1) := by decide +kernel
theorem dX7_undo_0 : decode cX7_undo 0 = .ok (.aload_n 0, 1) := by decide +kernel
theorem dX7_undo_1 : decode cX7_undo 1 = .ok (.iload_n 1, 1) := by decide +kernel
theorem dX7_undo_2 : decode cX7_undo 2 = .ok (.invokevirtual 198, 3) := by decide +kernel
theorem dX7_undo_5 : decode cX7_undo 5 = .ok (.ifCond .eq 12, 3) := by decide +kernel
theorem dX7_undo_8 : decode cX7_undo 8 = .ok (.aload_n 0, 1) := by decide +kernel
theorem dX7_undo_9 : decode cX7_undo 9 = .ok (.getfield 70, 3) := by decide +kernel
theorem dX7_undo_12 : decode cX7_undo 12 = .ok (.iload_n 1, 1) := by decide +kernel
theorem dX7_undo_13 : decode cX7_undo 13 = .ok (.iaload, 1) := by decide +kernel
theorem dX7_undo_14 : decode cX7_undo 14 = .ok (.ifCond .ne 6, 3) := by decide +kernel
theorem dX7_undo_17 : decode cX7_undo 17 = .ok (.bipush (-2), 2) := by decide +kernel
theorem dX7_undo_19 : decode cX7_undo 19 = .ok (.ireturn, 1) := by decide +kernel
theorem dX7_undo_20 : decode cX7_undo 20 = .ok (.aload_n 0, 1) := by decide +kernel
theorem dX7_undo_21 : decode cX7_undo 21 = .ok (.getfield 70, 3) := by decide +kernel
theorem dX7_undo_24 : decode cX7_undo 24 = .ok (.iload_n 1, 1) := by decide +kernel
theorem dX7_undo_25 : decode cX7_undo 25 = .ok (.dup2, 1) := by decide +kernel
theorem dX7_undo_26 : decode cX7_undo 26 = .ok (.iaload, 1) := by decide +kernel
theorem dX7_undo_27 : decode cX7_undo 27 = .ok (.iconst 1, 1) := by decide +kernel
theorem dX7_undo_28 : decode cX7_undo 28 = .ok (.isub, 1) := by decide +kernel
theorem dX7_undo_29 : decode cX7_undo 29 = .ok (.iastore, 1) := by decide +kernel
theorem dX7_undo_30 : decode cX7_undo 30 = .ok (.aload_n 0, 1) := by decide +kernel
theorem dX7_undo_31 : decode cX7_undo 31 = .ok (.getfield 70, 3) := by decide +kernel
theorem dX7_undo_34 : decode cX7_undo 34 = .ok (.iload_n 1, 1) := by decide +kernel
theorem dX7_undo_35 : decode cX7_undo 35 = .ok (.iaload, 1) := by decide +kernel
theorem dX7_undo_36 : decode cX7_undo 36 = .ok (.ireturn, 1) := by decide +kernel
theorem dX7_correct_0 : decode cX7_correct 0 = .ok (.aload_n 0, 1) := by decide +kernel
theorem dX7_correct_1 : decode cX7_correct 1 = .ok (.iload_n 1, 1) := by decide +kernel
theorem dX7_correct_2 : decode cX7_correct 2 = .ok (.invokevirtual 198, 3) := by decide +kernel
theorem dX7_correct_5 : decode cX7_correct 5 = .ok (.ifCond .eq 28, 3) := by decide +kernel
theorem dX7_correct_8 : decode cX7_correct 8 = .ok (.iload_n 2, 1) := by decide +kernel
theorem dX7_correct_9 : decode cX7_correct 9 = .ok (.iconst 0, 1) := by decide +kernel
theorem dX7_correct_10 : decode cX7_correct 10 = .ok (.aload_n 0, 1) := by decide +kernel
theorem dX7_correct_11 : decode cX7_correct 11 = .ok (.getfield 70, 3) := by decide +kernel
theorem dX7_correct_14 : decode cX7_correct 14 = .ok (.iload_n 1, 1) := by decide +kernel
theorem dX7_correct_15 : decode cX7_correct 15 = .ok (.iaload, 1) := by decide +kernel
theorem dX7_correct_16 : decode cX7_correct 16 = .ok (.iconst 1, 1) := by decide +kernel
theorem dX7_correct_17 : decode cX7_correct 17 = .ok (.isub, 1) := by decide +kernel
theorem dX7_correct_18 : decode cX7_correct 18 = .ok (.invokestatic 95, 3) := by decide +kernel
theorem dX7_correct_21 : decode cX7_correct 21 = .ok (.ifCond .eq 12, 3) := by decide +kernel
theorem dX7_correct_24 : decode cX7_correct 24 = .ok (.iload_n 3, 1) := by decide +kernel
theorem dX7_correct_25 : decode cX7_correct 25 = .ok (.iconst 0, 1) := by decide +kernel
theorem dX7_correct_26 : decode cX7_correct 26 = .ok (.iconst 3, 1) := by decide +kernel
theorem dX7_correct_27 : decode cX7_correct 27 = .ok (.invokestatic 95, 3) := by decide +kernel
theorem dX7_correct_30 : decode cX7_correct 30 = .ok (.ifCond .ne 6, 3) := by decide +kernel
theorem dX7_correct_33 : decode cX7_correct 33 = .ok (.bipush (-2), 2) := by decide +kernel
theorem dX7_correct_35 : decode cX7_correct 35 = .ok (.ireturn, 1) := by decide +kernel
theorem dX7_correct_36 : decode cX7_correct 36 = .ok (.aload_n 0, 1) := by decide +kernel
theorem dX7_correct_37 : decode cX7_correct 37 = .ok (.getfield 73, 3) := by decide +kernel
theorem dX7_correct_40 : decode cX7_correct 40 = .ok (.bipush 60, 2) := by decide +kernel
theorem dX7_correct_42 : decode cX7_correct 42 = .ok (.iload_n 1, 1) := by decide +kernel
theorem dX7_correct_43 : decode cX7_correct 43 = .ok (.imul, 1) := by decide +kernel
theorem dX7_correct_44 : decode cX7_correct 44 = .ok (.iload_n 2, 1) := by decide +kernel
theorem dX7_correct_45 : decode cX7_correct 45 = .ok (.iadd, 1) := by decide +kernel
theorem dX7_correct_46 : decode cX7_correct 46 = .ok (.iload_n 3, 1) := by decide +kernel
theorem dX7_correct_47 : decode cX7_correct 47 = .ok (.iastore, 1) := by decide +kernel
theorem dX7_correct_48 : decode cX7_correct 48 = .ok (.aload_n 0, 1) := by decide +kernel
theorem dX7_correct_49 : decode cX7_correct 49 = .ok (.iload_n 1, 1) := by decide +kernel
theorem dX7_correct_50 : decode cX7_correct 50 = .ok (.invokevirtual 201, 3) := by decide +kernel
theorem dX7_correct_53 : decode cX7_correct 53 = .ok (.ireturn, 1) := by decide +kernel
theorem dX7_about_0 : decode cX7_about 0 = .ok (.aload_n 0, 1) := by decide +kernel
theorem dX7_about_1 : decode cX7_about 1 = .ok (.iload_n 1, 1) := by decide +kernel
theorem dX7_about_2 : decode cX7_about 2 = .ok (.invokevirtual 189, 3) := by decide +kernel
theorem dX7_about_5 : decode cX7_about 5 = .ok (.ifCond .ne 6, 3) := by decide +kernel
theorem dX7_about_8 : decode cX7_about 8 = .ok (.bipush (-2), 2) := by decide +kernel
theorem dX7_about_10 : decode cX7_about 10 = .ok (.ireturn, 1) := by decide +kernel
theorem dX7_about_11 : decode cX7_about 11 = .ok (.aload_n 0, 1) := by decide +kernel
theorem dX7_about_12 : decode cX7_about 12 = .ok (.iload_n 1, 1) := by decide +kernel
theorem dX7_about_13 : decode cX7_about 13 = .ok (.invokevirtual 192, 3) := by decide +kernel
theorem dX7_about_16 : decode cX7_about 16 = .ok (.iload_n 2, 1) := by decide +kernel
theorem dX7_about_17 : decode cX7_about 17 = .ok (.tableswitch 86 0 6 #[43, 48, 55, 60, 65, 72, 79], 43) := by decide +kernel
theorem dX7_about_60 : decode cX7_about 60 = .ok (.aload_n 0, 1) := by decide +kernel
theorem dX7_about_61 : decode cX7_about 61 = .ok (.getfield 177, 3) := by decide +kernel
theorem dX7_about_64 : decode cX7_about 64 = .ok (.ireturn, 1) := by decide +kernel
theorem dX7_about_65 : decode cX7_about 65 = .ok (.aload_n 0, 1) := by decide +kernel
theorem dX7_about_66 : decode cX7_about 66 = .ok (.getfield 70, 3) := by decide +kernel
theorem dX7_about_69 : decode cX7_about 69 = .ok (.iload_n 1, 1) := by decide +kernel
theorem dX7_about_70 : decode cX7_about 70 = .ok (.iaload, 1) := by decide +kernel
theorem dX7_about_71 : decode cX7_about 71 = .ok (.ireturn, 1) := by decide +kernel
theorem dX7_about_72 : decode cX7_about 72 = .ok (.aload_n 0, 1) := by decide +kernel
theorem dX7_about_73 : decode cX7_about 73 = .ok (.getfield 183, 3) := by decide +kernel
theorem dX7_about_76 : decode cX7_about 76 = .ok (.ireturn, 1) := by decide +kernel
theorem dX7_about_77 : decode cX7_about 77 = .ok (.aload_n 0, 1) := by decide +kernel
theorem dX7_about_78 : decode cX7_about 78 = .ok (.getfield 186, 3) := by decide +kernel
theorem dX7_about_81 : decode cX7_about 81 = .ok (.ireturn, 1) := by decide +kernel
theorem dX7_about_82 : decode cX7_about 82 = .ok (.aload_n 0, 1) := by decide +kernel
theorem dX7_about_83 : decode cX7_about 83 = .ok (.getfield 64, 3) := by decide +kernel
theorem dX7_about_86 : decode cX7_about 86 = .ok (.iload_n 1, 1) := by decide +kernel
theorem dX7_about_87 : decode cX7_about 87 = .ok (.iaload, 1) := by decide +kernel
theorem dX7_about_88 : decode cX7_about 88 = .ok (.ireturn, 1) := by decide +kernel
theorem dX7_about_89 : decode cX7_about 89 = .ok (.aload_n 0, 1) := by decide +kernel
theorem dX7_about_90 : decode cX7_about 90 = .ok (.getfield 61, 3) := by decide +kernel
theorem dX7_about_93 : decode cX7_about 93 = .ok (.iload_n 1, 1) := by decide +kernel
theorem dX7_about_94 : decode cX7_about 94 = .ok (.iaload, 1) := by decide +kernel
theorem dX7_about_95 : decode cX7_about 95 = .ok (.ireturn, 1) := by decide +kernel
theorem dX7_about_96 : decode cX7_about 96 = .ok (.aload_n 0, 1) := by decide +kernel
theorem dX7_about_97 : decode cX7_about 97 = .ok (.getfield 67, 3) := by decide +kernel
theorem dX7_about_100 : decode cX7_about 100 = .ok (.iload_n 1, 1) := by decide +kernel
theorem dX7_about_101 : decode cX7_about 101 = .ok (.iaload, 1) := by decide +kernel
theorem dX7_about_102 : decode cX7_about 102 = .ok (.ireturn, 1) := by decide +kernel
theorem dX7_about_103 : decode cX7_about 103 = .ok (.bipush (-2), 2) := by decide +kernel
theorem dX7_about_105 : decode cX7_about 105 = .ok (.ireturn, 1) := by decide +kernel
theorem dX7_needed_0 : decode cX7_needed 0 = .ok (.aload_n 0, 1) := by decide +kernel
theorem dX7_needed_1 : decode cX7_needed 1 = .ok (.iload_n 1, 1) := by decide +kernel
theorem dX7_needed_2 : decode cX7_needed 2 = .ok (.invokevirtual 189, 3) := by decide +kernel
theorem dX7_needed_5 : decode cX7_needed 5 = .ok (.ifCond .ne 6, 3) := by decide +kernel
theorem dX7_needed_8 : decode cX7_needed 8 = .ok (.bipush (-2), 2) := by decide +kernel
theorem dX7_needed_10 : decode cX7_needed 10 = .ok (.ireturn, 1) := by decide +kernel
theorem dX7_needed_11 : decode cX7_needed 11 = .ok (.aload_n 0, 1) := by decide +kernel
theorem dX7_needed_12 : decode cX7_needed 12 = .ok (.iload_n 1, 1) := by decide +kernel
theorem dX7_needed_13 : decode cX7_needed 13 = .ok (.invokevirtual 192, 3) := by decide +kernel
theorem dX7_needed_16 : decode cX7_needed 16 = .ok (.aload_n 0, 1) := by decide +kernel
theorem dX7_needed_17 : decode cX7_needed 17 = .ok (.getfield 177, 3) := by decide +kernel
theorem dX7_needed_20 : decode cX7_needed 20 = .ok (.ifCond .eq 5, 3) := by decide +kernel
theorem dX7_needed_23 : decode cX7_needed 23 = .ok (.iconst 0, 1) := by decide +kernel
theorem dX7_needed_24 : decode cX7_needed 24 = .ok (.ireturn, 1) := by decide +kernel
theorem dX7_needed_25 : decode cX7_needed 25 = .ok (.aload_n 0, 1) := by decide +kernel
theorem dX7_needed_26 : decode cX7_needed 26 = .ok (.getfield 64, 3) := by decide +kernel
theorem dX7_needed_29 : decode cX7_needed 29 = .ok (.iload_n 1, 1) := by decide +kernel
theorem dX7_needed_30 : decode cX7_needed 30 = .ok (.iaload, 1) := by decide +kernel
theorem dX7_needed_31 : decode cX7_needed 31 = .ok (.istore_n 2, 1) := by decide +kernel
theorem dX7_needed_32 : decode cX7_needed 32 = .ok (.iconst 0, 1) := by decide +kernel
theorem dX7_needed_33 : decode cX7_needed 33 = .ok (.istore_n 3, 1) := by decide +kernel
theorem dX7_needed_34 : decode cX7_needed 34 = .ok (.iconst 0, 1) := by decide +kernel
theorem dX7_needed_35 : decode cX7_needed 35 = .ok (.istore 4, 2) := by decide +kernel
theorem dX7_needed_37 : decode cX7_needed 37 = .ok (.iload 4, 2) := by decide +kernel
theorem dX7_needed_39 : decode cX7_needed 39 = .ok (.aload_n 0, 1) := by decide +kernel
theorem dX7_needed_40 : decode cX7_needed 40 = .ok (.getfield 70, 3) := by decide +kernel
theorem dX7_needed_43 : decode cX7_needed 43 = .ok (.iload_n 1, 1) := by decide +kernel
theorem dX7_needed_44 : decode cX7_needed 44 = .ok (.iaload, 1) := by decide +kernel
theorem dX7_needed_45 : decode cX7_needed 45 = .ok (.if_icmp .ge 33, 3) := by decide +kernel
theorem dX7_needed_48 : decode cX7_needed 48 = .ok (.iload_n 3, 1) := by decide +kernel
theorem dX7_needed_49 : decode cX7_needed 49 = .ok (.aload_n 0, 1) := by decide +kernel
theorem dX7_needed_50 : decode cX7_needed 50 = .ok (.getfield 73, 3) := by decide +kernel
theorem dX7_needed_53 : decode cX7_needed 53 = .ok (.bipush 60, 2) := by decide +kernel
theorem dX7_needed_55 : decode cX7_needed 55 = .ok (.iload_n 1, 1) := by decide +kernel
theorem dX7_needed_56 : decode cX7_needed 56 = .ok (.imul, 1) := by decide +kernel
theorem dX7_needed_57 : decode cX7_needed 57 = .ok (.iload 4, 2) := by decide +kernel
theorem dX7_needed_59 : decode cX7_needed 59 = .ok (.iadd, 1) := by decide +kernel
theorem dX7_needed_60 : decode cX7_needed 60 = .ok (.iaload, 1) := by decide +kernel
theorem dX7_needed_61 : decode cX7_needed 61 = .ok (.iconst 1, 1) := by decide +kernel
theorem dX7_needed_62 : decode cX7_needed 62 = .ok (.if_icmp .ne 7, 3) := by decide +kernel
theorem dX7_needed_65 : decode cX7_needed 65 = .ok (.iconst 1, 1) := by decide +kernel
theorem dX7_needed_66 : decode cX7_needed 66 = .ok (.goto 4, 3) := by decide +kernel
theorem dX7_needed_69 : decode cX7_needed 69 = .ok (.iconst 0, 1) := by decide +kernel
theorem dX7_needed_70 : decode cX7_needed 70 = .ok (.iadd, 1) := by decide +kernel
theorem dX7_needed_71 : decode cX7_needed 71 = .ok (.istore_n 3, 1) := by decide +kernel
theorem dX7_needed_72 : decode cX7_needed 72 = .ok (.iinc 4 1, 3) := by decide +kernel
theorem dX7_needed_75 : decode cX7_needed 75 = .ok (.goto (-38), 3) := by decide +kernel
theorem dX7_needed_78 : decode cX7_needed 78 = .ok (.iconst 0, 1) := by decide +kernel
theorem dX7_needed_79 : decode cX7_needed 79 = .ok (.istore 4, 2) := by decide +kernel
theorem dX7_needed_81 : decode cX7_needed 81 = .ok (.iload 4, 2) := by decide +kernel
theorem dX7_needed_83 : decode cX7_needed 83 = .ok (.sipush 210, 3) := by decide +kernel
theorem dX7_needed_86 : decode cX7_needed 86 = .ok (.if_icmp .ge 17, 3) := by decide +kernel
theorem dX7_needed_89 : decode cX7_needed 89 = .ok (.aload_n 0, 1) := by decide +kernel
theorem dX7_needed_90 : decode cX7_needed 90 = .ok (.getfield 85, 3) := by decide +kernel
theorem dX7_needed_93 : decode cX7_needed 93 = .ok (.iload 4, 2) := by decide +kernel
theorem dX7_needed_95 : decode cX7_needed 95 = .ok (.iconst 0, 1) := by decide +kernel
theorem dX7_needed_96 : decode cX7_needed 96 = .ok (.bastore, 1) := by decide +kernel
theorem dX7_needed_97 : decode cX7_needed 97 = .ok (.iinc 4 1, 3) := by decide +kernel
theorem dX7_needed_100 : decode cX7_needed 100 = .ok (.goto (-19), 3) := by decide +kernel
theorem dX7_needed_103 : decode cX7_needed 103 = .ok (.aload_n 0, 1) := by decide +kernel
theorem dX7_needed_104 : decode cX7_needed 104 = .ok (.getfield 85, 3) := by decide +kernel
theorem dX7_needed_107 : decode cX7_needed 107 = .ok (.iconst 3, 1) := by decide +kernel
theorem dX7_needed_108 : decode cX7_needed 108 = .ok (.aload_n 0, 1) := by decide +kernel
theorem dX7_needed_109 : decode cX7_needed 109 = .ok (.getfield 183, 3) := by decide +kernel
theorem dX7_needed_112 : decode cX7_needed 112 = .ok (.imul, 1) := by decide +kernel
theorem dX7_needed_113 : decode cX7_needed 113 = .ok (.iload_n 3, 1) := by decide +kernel
theorem dX7_needed_114 : decode cX7_needed 114 = .ok (.iconst 3, 1) := by decide +kernel
theorem dX7_needed_115 : decode cX7_needed 115 = .ok (.irem, 1) := by decide +kernel
theorem dX7_needed_116 : decode cX7_needed 116 = .ok (.iadd, 1) := by decide +kernel
theorem dX7_needed_117 : decode cX7_needed 117 = .ok (.iconst 1, 1) := by decide +kernel
theorem dX7_needed_118 : decode cX7_needed 118 = .ok (.bastore, 1) := by decide +kernel
theorem dX7_needed_119 : decode cX7_needed 119 = .ok (.aload_n 0, 1) := by decide +kernel
theorem dX7_needed_120 : decode cX7_needed 120 = .ok (.getfield 186, 3) := by decide +kernel
theorem dX7_needed_123 : decode cX7_needed 123 = .ok (.istore 4, 2) := by decide +kernel
theorem dX7_needed_125 : decode cX7_needed 125 = .ok (.iconst 1, 1) := by decide +kernel
theorem dX7_needed_126 : decode cX7_needed 126 = .ok (.istore 5, 2) := by decide +kernel
theorem dX7_needed_128 : decode cX7_needed 128 = .ok (.iload 5, 2) := by decide +kernel
theorem dX7_needed_130 : decode cX7_needed 130 = .ok (.bipush 60, 2) := by decide +kernel
theorem dX7_needed_132 : decode cX7_needed 132 = .ok (.if_icmp .gt 228, 3) := by decide +kernel
theorem dX7_needed_135 : decode cX7_needed 135 = .ok (.iconst 0, 1) := by decide +kernel
theorem dX7_needed_136 : decode cX7_needed 136 = .ok (.istore 6, 2) := by decide +kernel
theorem dX7_needed_138 : decode cX7_needed 138 = .ok (.iload 6, 2) := by decide +kernel
theorem dX7_needed_140 : decode cX7_needed 140 = .ok (.sipush 210, 3) := by decide +kernel
theorem dX7_needed_143 : decode cX7_needed 143 = .ok (.if_icmp .ge 23, 3) := by decide +kernel
theorem dX7_needed_146 : decode cX7_needed 146 = .ok (.aload_n 0, 1) := by decide +kernel
theorem dX7_needed_147 : decode cX7_needed 147 = .ok (.getfield 88, 3) := by decide +kernel
theorem dX7_needed_150 : decode cX7_needed 150 = .ok (.iload 6, 2) := by decide +kernel
theorem dX7_needed_152 : decode cX7_needed 152 = .ok (.aload_n 0, 1) := by decide +kernel
theorem dX7_needed_153 : decode cX7_needed 153 = .ok (.getfield 85, 3) := by decide +kernel
theorem dX7_needed_156 : decode cX7_needed 156 = .ok (.iload 6, 2) := by decide +kernel
theorem dX7_needed_158 : decode cX7_needed 158 = .ok (.baload, 1) := by decide +kernel
theorem dX7_needed_159 : decode cX7_needed 159 = .ok (.bastore, 1) := by decide +kernel
theorem dX7_needed_160 : decode cX7_needed 160 = .ok (.iinc 6 1, 3) := by decide +kernel
theorem dX7_needed_163 : decode cX7_needed 163 = .ok (.goto (-25), 3) := by decide +kernel
theorem dX7_needed_166 : decode cX7_needed 166 = .ok (.iconst 0, 1) := by decide +kernel
theorem dX7_needed_167 : decode cX7_needed 167 = .ok (.istore 6, 2) := by decide +kernel
theorem dX7_needed_169 : decode cX7_needed 169 = .ok (.iload 6, 2) := by decide +kernel
theorem dX7_needed_171 : decode cX7_needed 171 = .ok (.sipush 210, 3) := by decide +kernel
theorem dX7_needed_174 : decode cX7_needed 174 = .ok (.if_icmp .ge 17, 3) := by decide +kernel
theorem dX7_needed_177 : decode cX7_needed 177 = .ok (.aload_n 0, 1) := by decide +kernel
theorem dX7_needed_178 : decode cX7_needed 178 = .ok (.getfield 85, 3) := by decide +kernel
theorem dX7_needed_181 : decode cX7_needed 181 = .ok (.iload 6, 2) := by decide +kernel
theorem dX7_needed_183 : decode cX7_needed 183 = .ok (.iconst 0, 1) := by decide +kernel
theorem dX7_needed_184 : decode cX7_needed 184 = .ok (.bastore, 1) := by decide +kernel
theorem dX7_needed_185 : decode cX7_needed 185 = .ok (.iinc 6 1, 3) := by decide +kernel
theorem dX7_needed_188 : decode cX7_needed 188 = .ok (.goto (-19), 3) := by decide +kernel
theorem dX7_needed_191 : decode cX7_needed 191 = .ok (.iconst 0, 1) := by decide +kernel
theorem dX7_needed_192 : decode cX7_needed 192 = .ok (.istore 6, 2) := by decide +kernel
theorem dX7_needed_194 : decode cX7_needed 194 = .ok (.iload 6, 2) := by decide +kernel
theorem dX7_needed_196 : decode cX7_needed 196 = .ok (.sipush 200, 3) := by decide +kernel
theorem dX7_needed_199 : decode cX7_needed 199 = .ok (.if_icmp .ge 50, 3) := by decide +kernel
theorem dX7_needed_202 : decode cX7_needed 202 = .ok (.aload_n 0, 1) := by decide +kernel
theorem dX7_needed_203 : decode cX7_needed 203 = .ok (.getfield 88, 3) := by decide +kernel
theorem dX7_needed_206 : decode cX7_needed 206 = .ok (.iload 6, 2) := by decide +kernel
theorem dX7_needed_208 : decode cX7_needed 208 = .ok (.baload, 1) := by decide +kernel
theorem dX7_needed_209 : decode cX7_needed 209 = .ok (.ifCond .ne 6, 3) := by decide +kernel
theorem dX7_needed_212 : decode cX7_needed 212 = .ok (.goto 31, 3) := by decide +kernel
theorem dX7_needed_215 : decode cX7_needed 215 = .ok (.aload_n 0, 1) := by decide +kernel
theorem dX7_needed_216 : decode cX7_needed 216 = .ok (.getfield 85, 3) := by decide +kernel
theorem dX7_needed_219 : decode cX7_needed 219 = .ok (.iload 6, 2) := by decide +kernel
theorem dX7_needed_221 : decode cX7_needed 221 = .ok (.iconst 1, 1) := by decide +kernel
theorem dX7_needed_222 : decode cX7_needed 222 = .ok (.bastore, 1) := by decide +kernel
theorem dX7_needed_223 : decode cX7_needed 223 = .ok (.aload_n 0, 1) := by decide +kernel
theorem dX7_needed_224 : decode cX7_needed 224 = .ok (.getfield 85, 3) := by decide +kernel
theorem dX7_needed_227 : decode cX7_needed 227 = .ok (.iload 6, 2) := by decide +kernel
theorem dX7_needed_229 : decode cX7_needed 229 = .ok (.iconst 1, 1) := by decide +kernel
theorem dX7_needed_230 : decode cX7_needed 230 = .ok (.iadd, 1) := by decide +kernel
theorem dX7_needed_231 : decode cX7_needed 231 = .ok (.iconst 1, 1) := by decide +kernel
theorem dX7_needed_232 : decode cX7_needed 232 = .ok (.bastore, 1) := by decide +kernel
theorem dX7_needed_233 : decode cX7_needed 233 = .ok (.aload_n 0, 1) := by decide +kernel
theorem dX7_needed_234 : decode cX7_needed 234 = .ok (.getfield 85, 3) := by decide +kernel
theorem dX7_needed_237 : decode cX7_needed 237 = .ok (.iload 6, 2) := by decide +kernel
theorem dX7_needed_239 : decode cX7_needed 239 = .ok (.iconst 3, 1) := by decide +kernel
theorem dX7_needed_240 : decode cX7_needed 240 = .ok (.iadd, 1) := by decide +kernel
theorem dX7_needed_241 : decode cX7_needed 241 = .ok (.iconst 1, 1) := by decide +kernel
theorem dX7_needed_242 : decode cX7_needed 242 = .ok (.bastore, 1) := by decide +kernel
theorem dX7_needed_243 : decode cX7_needed 243 = .ok (.iinc 6 1, 3) := by decide +kernel
theorem dX7_needed_246 : decode cX7_needed 246 = .ok (.goto (-52), 3) := by decide +kernel
theorem dX7_needed_249 : decode cX7_needed 249 = .ok (.aload_n 0, 1) := by decide +kernel
theorem dX7_needed_250 : decode cX7_needed 250 = .ok (.getfield 70, 3) := by decide +kernel
theorem dX7_needed_253 : decode cX7_needed 253 = .ok (.iload_n 1, 1) := by decide +kernel
theorem dX7_needed_254 : decode cX7_needed 254 = .ok (.iaload, 1) := by decide +kernel
theorem dX7_needed_255 : decode cX7_needed 255 = .ok (.iload 5, 2) := by decide +kernel
theorem dX7_needed_257 : decode cX7_needed 257 = .ok (.iadd, 1) := by decide +kernel
theorem dX7_needed_258 : decode cX7_needed 258 = .ok (.aload_n 0, 1) := by decide +kernel
theorem dX7_needed_259 : decode cX7_needed 259 = .ok (.iload_n 2, 1) := by decide +kernel
theorem dX7_needed_260 : decode cX7_needed 260 = .ok (.iload 4, 2) := by decide +kernel
theorem dX7_needed_262 : decode cX7_needed 262 = .ok (.invokevirtual 103, 3) := by decide +kernel
theorem dX7_needed_265 : decode cX7_needed 265 = .ok (.if_icmp .ne 7, 3) := by decide +kernel
theorem dX7_needed_268 : decode cX7_needed 268 = .ok (.iconst 1, 1) := by decide +kernel
theorem dX7_needed_269 : decode cX7_needed 269 = .ok (.goto 4, 3) := by decide +kernel
theorem dX7_needed_272 : decode cX7_needed 272 = .ok (.iconst 0, 1) := by decide +kernel
theorem dX7_needed_273 : decode cX7_needed 273 = .ok (.istore 6, 2) := by decide +kernel
theorem dX7_needed_275 : decode cX7_needed 275 = .ok (.iconst 0, 1) := by decide +kernel
theorem dX7_needed_276 : decode cX7_needed 276 = .ok (.istore 7, 2) := by decide +kernel
theorem dX7_needed_278 : decode cX7_needed 278 = .ok (.iload 7, 2) := by decide +kernel
theorem dX7_needed_280 : decode cX7_needed 280 = .ok (.sipush 210, 3) := by decide +kernel
theorem dX7_needed_283 : decode cX7_needed 283 = .ok (.if_icmp .ge 63, 3) := by decide +kernel
theorem dX7_needed_286 : decode cX7_needed 286 = .ok (.aload_n 0, 1) := by decide +kernel
theorem dX7_needed_287 : decode cX7_needed 287 = .ok (.getfield 85, 3) := by decide +kernel
theorem dX7_needed_290 : decode cX7_needed 290 = .ok (.iload 7, 2) := by decide +kernel
theorem dX7_needed_292 : decode cX7_needed 292 = .ok (.baload, 1) := by decide +kernel
theorem dX7_needed_293 : decode cX7_needed 293 = .ok (.ifCond .eq 47, 3) := by decide +kernel
theorem dX7_needed_296 : decode cX7_needed 296 = .ok (.iload 7, 2) := by decide +kernel
theorem dX7_needed_298 : decode cX7_needed 298 = .ok (.iconst 3, 1) := by decide +kernel
theorem dX7_needed_299 : decode cX7_needed 299 = .ok (.idiv, 1) := by decide +kernel
theorem dX7_needed_300 : decode cX7_needed 300 = .ok (.aload_n 0, 1) := by decide +kernel
theorem dX7_needed_301 : decode cX7_needed 301 = .ok (.getfield 19, 3) := by decide +kernel
theorem dX7_needed_304 : decode cX7_needed 304 = .ok (.iconst 4, 1) := by decide +kernel
theorem dX7_needed_305 : decode cX7_needed 305 = .ok (.iload_n 2, 1) := by decide +kernel
theorem dX7_needed_306 : decode cX7_needed 306 = .ok (.imul, 1) := by decide +kernel
theorem dX7_needed_307 : decode cX7_needed 307 = .ok (.iload 4, 2) := by decide +kernel
theorem dX7_needed_309 : decode cX7_needed 309 = .ok (.iadd, 1) := by decide +kernel
theorem dX7_needed_310 : decode cX7_needed 310 = .ok (.iaload, 1) := by decide +kernel
theorem dX7_needed_311 : decode cX7_needed 311 = .ok (.if_icmp .ge 26, 3) := by decide +kernel
theorem dX7_needed_314 : decode cX7_needed 314 = .ok (.iload 6, 2) := by decide +kernel
theorem dX7_needed_316 : decode cX7_needed 316 = .ok (.ifCond .eq 24, 3) := by decide +kernel
theorem dX7_needed_319 : decode cX7_needed 319 = .ok (.iload 7, 2) := by decide +kernel
theorem dX7_needed_321 : decode cX7_needed 321 = .ok (.iconst 3, 1) := by decide +kernel
theorem dX7_needed_322 : decode cX7_needed 322 = .ok (.idiv, 1) := by decide +kernel
theorem dX7_needed_323 : decode cX7_needed 323 = .ok (.aload_n 0, 1) := by decide +kernel
theorem dX7_needed_324 : decode cX7_needed 324 = .ok (.getfield 16, 3) := by decide +kernel
theorem dX7_needed_327 : decode cX7_needed 327 = .ok (.iconst 4, 1) := by decide +kernel
theorem dX7_needed_328 : decode cX7_needed 328 = .ok (.iload_n 2, 1) := by decide +kernel
theorem dX7_needed_329 : decode cX7_needed 329 = .ok (.imul, 1) := by decide +kernel
theorem dX7_needed_330 : decode cX7_needed 330 = .ok (.iload 4, 2) := by decide +kernel
theorem dX7_needed_332 : decode cX7_needed 332 = .ok (.iadd, 1) := by decide +kernel
theorem dX7_needed_333 : decode cX7_needed 333 = .ok (.iaload, 1) := by decide +kernel
theorem dX7_needed_334 : decode cX7_needed 334 = .ok (.if_icmp .gt 6, 3) := by decide +kernel
theorem dX7_needed_337 : decode cX7_needed 337 = .ok (.iload 5, 2) := by decide +kernel
theorem dX7_needed_339 : decode cX7_needed 339 = .ok (.ireturn, 1) := by decide +kernel
theorem dX7_needed_340 : decode cX7_needed 340 = .ok (.iinc 7 1, 3) := by decide +kernel
theorem dX7_needed_343 : decode cX7_needed 343 = .ok (.goto (-65), 3) := by decide +kernel
theorem dX7_needed_346 : decode cX7_needed 346 = .ok (.iload 6, 2) := by decide +kernel
theorem dX7_needed_348 : decode cX7_needed 348 = .ok (.ifCond .eq 6, 3) := by decide +kernel
theorem dX7_needed_351 : decode cX7_needed 351 = .ok (.iinc 4 1, 3) := by decide +kernel
theorem dX7_needed_354 : decode cX7_needed 354 = .ok (.iinc 5 1, 3) := by decide +kernel
theorem dX7_needed_357 : decode cX7_needed 357 = .ok (.goto (-229), 3) := by decide +kernel
theorem dX7_needed_360 : decode cX7_needed 360 = .ok (.iconst (-1), 1) := by decide +kernel
theorem dX7_needed_361 : decode cX7_needed 361 = .ok (.ireturn, 1) := by decide +kernel
theorem dX7_rule_0 : decode cX7_rule 0 = .ok (.aload_n 0, 1) := by decide +kernel
theorem dX7_rule_1 : decode cX7_rule 1 = .ok (.iload_n 1, 1) := by decide +kernel
theorem dX7_rule_2 : decode cX7_rule 2 = .ok (.invokevirtual 174, 3) := by decide +kernel
theorem dX7_rule_5 : decode cX7_rule 5 = .ok (.ifCond .eq 12, 3) := by decide +kernel
theorem dX7_rule_8 : decode cX7_rule 8 = .ok (.aload_n 0, 1) := by decide +kernel
theorem dX7_rule_9 : decode cX7_rule 9 = .ok (.getfield 46, 3) := by decide +kernel
theorem dX7_rule_12 : decode cX7_rule 12 = .ok (.iload_n 1, 1) := by decide +kernel
theorem dX7_rule_13 : decode cX7_rule 13 = .ok (.iaload, 1) := by decide +kernel
theorem dX7_rule_14 : decode cX7_rule 14 = .ok (.goto 5, 3) := by decide +kernel
theorem dX7_rule_17 : decode cX7_rule 17 = .ok (.bipush (-2), 2) := by decide +kernel
theorem dX7_rule_19 : decode cX7_rule 19 = .ok (.ireturn, 1) := by decide +kernel
theorem dX7_run_0 : decode cX7_run 0 = .ok (.aload_n 0, 1) := by decide +kernel
theorem dX7_run_1 : decode cX7_run 1 = .ok (.iload_n 1, 1) := by decide +kernel
theorem dX7_run_2 : decode cX7_run 2 = .ok (.invokevirtual 174, 3) := by decide +kernel
theorem dX7_run_5 : decode cX7_run 5 = .ok (.ifCond .eq 7, 3) := by decide +kernel
theorem dX7_run_8 : decode cX7_run 8 = .ok (.iload_n 2, 1) := by decide +kernel
theorem dX7_run_9 : decode cX7_run 9 = .ok (.ifCond .ge 6, 3) := by decide +kernel
theorem dX7_run_12 : decode cX7_run 12 = .ok (.bipush (-2), 2) := by decide +kernel
theorem dX7_run_14 : decode cX7_run 14 = .ok (.ireturn, 1) := by decide +kernel
theorem dX7_run_15 : decode cX7_run 15 = .ok (.iload_n 2, 1) := by decide +kernel
theorem dX7_run_16 : decode cX7_run 16 = .ok (.aload_n 0, 1) := by decide +kernel
theorem dX7_run_17 : decode cX7_run 17 = .ok (.getfield 52, 3) := by decide +kernel
theorem dX7_run_20 : decode cX7_run 20 = .ok (.iload_n 1, 1) := by decide +kernel
theorem dX7_run_21 : decode cX7_run 21 = .ok (.iaload, 1) := by decide +kernel
theorem dX7_run_22 : decode cX7_run 22 = .ok (.if_icmp .ge 26, 3) := by decide +kernel
theorem dX7_run_25 : decode cX7_run 25 = .ok (.aload_n 0, 1) := by decide +kernel
theorem dX7_run_26 : decode cX7_run 26 = .ok (.getfield 55, 3) := by decide +kernel
theorem dX7_run_29 : decode cX7_run 29 = .ok (.bipush 60, 2) := by decide +kernel
theorem dX7_run_31 : decode cX7_run 31 = .ok (.iload_n 1, 1) := by decide +kernel
theorem dX7_run_32 : decode cX7_run 32 = .ok (.imul, 1) := by decide +kernel
theorem dX7_run_33 : decode cX7_run 33 = .ok (.aload_n 0, 1) := by decide +kernel
theorem dX7_run_34 : decode cX7_run 34 = .ok (.getfield 52, 3) := by decide +kernel
theorem dX7_run_37 : decode cX7_run 37 = .ok (.iload_n 1, 1) := by decide +kernel
theorem dX7_run_38 : decode cX7_run 38 = .ok (.iaload, 1) := by decide +kernel
theorem dX7_run_39 : decode cX7_run 39 = .ok (.iadd, 1) := by decide +kernel
theorem dX7_run_40 : decode cX7_run 40 = .ok (.iconst 1, 1) := by decide +kernel
theorem dX7_run_41 : decode cX7_run 41 = .ok (.isub, 1) := by decide +kernel
theorem dX7_run_42 : decode cX7_run 42 = .ok (.iload_n 2, 1) := by decide +kernel
theorem dX7_run_43 : decode cX7_run 43 = .ok (.isub, 1) := by decide +kernel
theorem dX7_run_44 : decode cX7_run 44 = .ok (.iaload, 1) := by decide +kernel
theorem dX7_run_45 : decode cX7_run 45 = .ok (.goto 4, 3) := by decide +kernel
theorem dX7_run_48 : decode cX7_run 48 = .ok (.iconst 0, 1) := by decide +kernel
theorem dX7_run_49 : decode cX7_run 49 = .ok (.ireturn, 1) := by decide +kernel
theorem dX7_cost_0 : decode cX7_cost 0 = .ok (.iload_n 1, 1) := by decide +kernel
theorem dX7_cost_1 : decode cX7_cost 1 = .ok (.iconst 0, 1) := by decide +kernel
theorem dX7_cost_2 : decode cX7_cost 2 = .ok (.iconst 3, 1) := by decide +kernel
theorem dX7_cost_3 : decode cX7_cost 3 = .ok (.invokestatic 95, 3) := by decide +kernel
theorem dX7_cost_6 : decode cX7_cost 6 = .ok (.ifCond .eq 13, 3) := by decide +kernel
theorem dX7_cost_9 : decode cX7_cost 9 = .ok (.iload_n 2, 1) := by decide +kernel
theorem dX7_cost_10 : decode cX7_cost 10 = .ok (.iconst 0, 1) := by decide +kernel
theorem dX7_cost_11 : decode cX7_cost 11 = .ok (.ldc 204, 2) := by decide +kernel
theorem dX7_cost_13 : decode cX7_cost 13 = .ok (.invokestatic 95, 3) := by decide +kernel
theorem dX7_cost_16 : decode cX7_cost 16 = .ok (.ifCond .ne 6, 3) := by decide +kernel
theorem dX7_cost_19 : decode cX7_cost 19 = .ok (.bipush (-2), 2) := by decide +kernel
theorem dX7_cost_21 : decode cX7_cost 21 = .ok (.ireturn, 1) := by decide +kernel
theorem dX7_cost_22 : decode cX7_cost 22 = .ok (.aload_n 0, 1) := by decide +kernel
theorem dX7_cost_23 : decode cX7_cost 23 = .ok (.getfield 76, 3) := by decide +kernel
theorem dX7_cost_26 : decode cX7_cost 26 = .ok (.iload_n 1, 1) := by decide +kernel
theorem dX7_cost_27 : decode cX7_cost 27 = .ok (.iaload, 1) := by decide +kernel
theorem dX7_cost_28 : decode cX7_cost 28 = .ok (.istore_n 3, 1) := by decide +kernel
theorem dX7_cost_29 : decode cX7_cost 29 = .ok (.aload_n 0, 1) := by decide +kernel
theorem dX7_cost_30 : decode cX7_cost 30 = .ok (.getfield 76, 3) := by decide +kernel
theorem dX7_cost_33 : decode cX7_cost 33 = .ok (.iload_n 1, 1) := by decide +kernel
theorem dX7_cost_34 : decode cX7_cost 34 = .ok (.iload_n 2, 1) := by decide +kernel
theorem dX7_cost_35 : decode cX7_cost 35 = .ok (.iastore, 1) := by decide +kernel
theorem dX7_cost_36 : decode cX7_cost 36 = .ok (.iload_n 3, 1) := by decide +kernel
theorem dX7_cost_37 : decode cX7_cost 37 = .ok (.ireturn, 1) := by decide +kernel
theorem dX7_score_0 : decode cX7_score 0 = .ok (.aload_n 0, 1) := by decide +kernel
theorem dX7_score_1 : decode cX7_score 1 = .ok (.iload_n 1, 1) := by decide +kernel
theorem dX7_score_2 : decode cX7_score 2 = .ok (.invokevirtual 174, 3) := by decide +kernel
theorem dX7_score_5 : decode cX7_score 5 = .ok (.ifCond .eq 13, 3) := by decide +kernel
theorem dX7_score_8 : decode cX7_score 8 = .ok (.iload_n 2, 1) := by decide +kernel
theorem dX7_score_9 : decode cX7_score 9 = .ok (.iconst 0, 1) := by decide +kernel
theorem dX7_score_10 : decode cX7_score 10 = .ok (.bipush 6, 2) := by decide +kernel
theorem dX7_score_12 : decode cX7_score 12 = .ok (.invokestatic 95, 3) := by decide +kernel
theorem dX7_score_15 : decode cX7_score 15 = .ok (.ifCond .ne 7, 3) := by decide +kernel
theorem dX7_score_18 : decode cX7_score 18 = .ok (.ldc2_w 142, 3) := by decide +kernel
theorem dX7_score_21 : decode cX7_score 21 = .ok (.lreturn, 1) := by decide +kernel
theorem dX7_score_22 : decode cX7_score 22 = .ok (.iload_n 2, 1) := by decide +kernel
theorem dX7_score_23 : decode cX7_score 23 = .ok (.bipush 6, 2) := by decide +kernel
theorem dX7_score_25 : decode cX7_score 25 = .ok (.if_icmp .ne 11, 3) := by decide +kernel
theorem dX7_score_28 : decode cX7_score 28 = .ok (.aload_n 0, 1) := by decide +kernel
theorem dX7_score_29 : decode cX7_score 29 = .ok (.getfield 49, 3) := by decide +kernel
theorem dX7_score_32 : decode cX7_score 32 = .ok (.iload_n 1, 1) := by decide +kernel
theorem dX7_score_33 : decode cX7_score 33 = .ok (.iaload, 1) := by decide +kernel
theorem dX7_score_34 : decode cX7_score 34 = .ok (.i2l, 1) := by decide +kernel
theorem dX7_score_35 : decode cX7_score 35 = .ok (.lreturn, 1) := by decide +kernel
theorem dX7_score_36 : decode cX7_score 36 = .ok (.lconst 0, 1) := by decide +kernel
theorem dX7_score_37 : decode cX7_score 37 = .ok (.lstore_n 3, 1) := by decide +kernel
theorem dX7_score_38 : decode cX7_score 38 = .ok (.iconst 0, 1) := by decide +kernel
theorem dX7_score_39 : decode cX7_score 39 = .ok (.istore 5, 2) := by decide +kernel
theorem dX7_score_41 : decode cX7_score 41 = .ok (.iload 5, 2) := by decide +kernel
theorem dX7_score_43 : decode cX7_score 43 = .ok (.aload_n 0, 1) := by decide +kernel
theorem dX7_score_44 : decode cX7_score 44 = .ok (.getfield 171, 3) := by decide +kernel
theorem dX7_score_47 : decode cX7_score 47 = .ok (.if_icmp .ge 146, 3) := by decide +kernel
theorem dX7_score_50 : decode cX7_score 50 = .ok (.aload_n 0, 1) := by decide +kernel
theorem dX7_score_51 : decode cX7_score 51 = .ok (.getfield 58, 3) := by decide +kernel
theorem dX7_score_54 : decode cX7_score 54 = .ok (.iload 5, 2) := by decide +kernel
theorem dX7_score_56 : decode cX7_score 56 = .ok (.iaload, 1) := by decide +kernel
theorem dX7_score_57 : decode cX7_score 57 = .ok (.iload_n 1, 1) := by decide +kernel
theorem dX7_score_58 : decode cX7_score 58 = .ok (.if_icmp .eq 6, 3) := by decide +kernel
theorem dX7_score_61 : decode cX7_score 61 = .ok (.goto 126, 3) := by decide +kernel
theorem dX7_score_64 : decode cX7_score 64 = .ok (.aload_n 0, 1) := by decide +kernel
theorem dX7_score_65 : decode cX7_score 65 = .ok (.iload 5, 2) := by decide +kernel
theorem dX7_score_67 : decode cX7_score 67 = .ok (.invokevirtual 192, 3) := by decide +kernel
theorem dX7_score_70 : decode cX7_score 70 = .ok (.iload_n 2, 1) := by decide +kernel
theorem dX7_score_71 : decode cX7_score 71 = .ok (.iconst 3, 1) := by decide +kernel
theorem dX7_score_72 : decode cX7_score 72 = .ok (.if_icmp .ge 36, 3) := by decide +kernel
theorem dX7_score_75 : decode cX7_score 75 = .ok (.lload_n 3, 1) := by decide +kernel
theorem dX7_score_76 : decode cX7_score 76 = .ok (.aload_n 0, 1) := by decide +kernel
theorem dX7_score_77 : decode cX7_score 77 = .ok (.getfield 177, 3) := by decide +kernel
theorem dX7_score_80 : decode cX7_score 80 = .ok (.iload_n 2, 1) := by decide +kernel
theorem dX7_score_81 : decode cX7_score 81 = .ok (.ifCond .ne 7, 3) := by decide +kernel
theorem dX7_score_84 : decode cX7_score 84 = .ok (.iconst 1, 1) := by decide +kernel
theorem dX7_score_85 : decode cX7_score 85 = .ok (.goto 13, 3) := by decide +kernel
theorem dX7_score_88 : decode cX7_score 88 = .ok (.iload_n 2, 1) := by decide +kernel
theorem dX7_score_89 : decode cX7_score 89 = .ok (.iconst 1, 1) := by decide +kernel
theorem dX7_score_90 : decode cX7_score 90 = .ok (.if_icmp .ne 7, 3) := by decide +kernel
theorem dX7_score_93 : decode cX7_score 93 = .ok (.iconst 2, 1) := by decide +kernel
theorem dX7_score_94 : decode cX7_score 94 = .ok (.goto 4, 3) := by decide +kernel
theorem dX7_score_97 : decode cX7_score 97 = .ok (.iconst 0, 1) := by decide +kernel
theorem dX7_score_98 : decode cX7_score 98 = .ok (.if_icmp .ne 7, 3) := by decide +kernel
theorem dX7_score_101 : decode cX7_score 101 = .ok (.lconst 1, 1) := by decide +kernel
theorem dX7_score_102 : decode cX7_score 102 = .ok (.goto 4, 3) := by decide +kernel
theorem dX7_score_105 : decode cX7_score 105 = .ok (.lconst 0, 1) := by decide +kernel
theorem dX7_score_106 : decode cX7_score 106 = .ok (.ladd, 1) := by decide +kernel
theorem dX7_score_107 : decode cX7_score 107 = .ok (.lstore_n 3, 1) := by decide +kernel
theorem dX7_score_108 : decode cX7_score 108 = .ok (.iconst 0, 1) := by decide +kernel
theorem dX7_score_109 : decode cX7_score 109 = .ok (.istore 6, 2) := by decide +kernel
theorem dX7_score_111 : decode cX7_score 111 = .ok (.iload 6, 2) := by decide +kernel
theorem dX7_score_113 : decode cX7_score 113 = .ok (.aload_n 0, 1) := by decide +kernel
theorem dX7_score_114 : decode cX7_score 114 = .ok (.getfield 70, 3) := by decide +kernel
theorem dX7_score_117 : decode cX7_score 117 = .ok (.iload 5, 2) := by decide +kernel
theorem dX7_score_119 : decode cX7_score 119 = .ok (.iaload, 1) := by decide +kernel
theorem dX7_score_120 : decode cX7_score 120 = .ok (.if_icmp .ge 67, 3) := by decide +kernel
theorem dX7_score_123 : decode cX7_score 123 = .ok (.iload_n 2, 1) := by decide +kernel
theorem dX7_score_124 : decode cX7_score 124 = .ok (.iconst 2, 1) := by decide +kernel
theorem dX7_score_125 : decode cX7_score 125 = .ok (.if_icmp .le 62, 3) := by decide +kernel
theorem dX7_score_128 : decode cX7_score 128 = .ok (.aload_n 0, 1) := by decide +kernel
theorem dX7_score_129 : decode cX7_score 129 = .ok (.getfield 73, 3) := by decide +kernel
theorem dX7_score_132 : decode cX7_score 132 = .ok (.bipush 60, 2) := by decide +kernel
theorem dX7_score_134 : decode cX7_score 134 = .ok (.iload 5, 2) := by decide +kernel
theorem dX7_score_136 : decode cX7_score 136 = .ok (.imul, 1) := by decide +kernel
theorem dX7_score_137 : decode cX7_score 137 = .ok (.iload 6, 2) := by decide +kernel
theorem dX7_score_139 : decode cX7_score 139 = .ok (.iadd, 1) := by decide +kernel
theorem dX7_score_140 : decode cX7_score 140 = .ok (.iaload, 1) := by decide +kernel
theorem dX7_score_141 : decode cX7_score 141 = .ok (.istore 7, 2) := by decide +kernel
theorem dX7_score_143 : decode cX7_score 143 = .ok (.lload_n 3, 1) := by decide +kernel
theorem dX7_score_144 : decode cX7_score 144 = .ok (.iload_n 2, 1) := by decide +kernel
theorem dX7_score_145 : decode cX7_score 145 = .ok (.iconst 3, 1) := by decide +kernel
theorem dX7_score_146 : decode cX7_score 146 = .ok (.if_icmp .ne 7, 3) := by decide +kernel
theorem dX7_score_149 : decode cX7_score 149 = .ok (.lconst 1, 1) := by decide +kernel
theorem dX7_score_150 : decode cX7_score 150 = .ok (.goto 29, 3) := by decide +kernel
theorem dX7_score_153 : decode cX7_score 153 = .ok (.iload_n 2, 1) := by decide +kernel
theorem dX7_score_154 : decode cX7_score 154 = .ok (.iconst 4, 1) := by decide +kernel
theorem dX7_score_155 : decode cX7_score 155 = .ok (.if_icmp .ne 16, 3) := by decide +kernel
theorem dX7_score_158 : decode cX7_score 158 = .ok (.iload 7, 2) := by decide +kernel
theorem dX7_score_160 : decode cX7_score 160 = .ok (.ifCond .le 7, 3) := by decide +kernel
theorem dX7_score_163 : decode cX7_score 163 = .ok (.lconst 1, 1) := by decide +kernel
theorem dX7_score_164 : decode cX7_score 164 = .ok (.goto 15, 3) := by decide +kernel
theorem dX7_score_167 : decode cX7_score 167 = .ok (.lconst 0, 1) := by decide +kernel
theorem dX7_score_168 : decode cX7_score 168 = .ok (.goto 11, 3) := by decide +kernel
theorem dX7_score_171 : decode cX7_score 171 = .ok (.aload_n 0, 1) := by decide +kernel
theorem dX7_score_172 : decode cX7_score 172 = .ok (.getfield 76, 3) := by decide +kernel
theorem dX7_score_175 : decode cX7_score 175 = .ok (.iload 7, 2) := by decide +kernel
theorem dX7_score_177 : decode cX7_score 177 = .ok (.iaload, 1) := by decide +kernel
theorem dX7_score_178 : decode cX7_score 178 = .ok (.i2l, 1) := by decide +kernel
theorem dX7_score_179 : decode cX7_score 179 = .ok (.ladd, 1) := by decide +kernel
theorem dX7_score_180 : decode cX7_score 180 = .ok (.lstore_n 3, 1) := by decide +kernel
theorem dX7_score_181 : decode cX7_score 181 = .ok (.iinc 6 1, 3) := by decide +kernel
theorem dX7_score_184 : decode cX7_score 184 = .ok (.goto (-73), 3) := by decide +kernel
theorem dX7_score_187 : decode cX7_score 187 = .ok (.iinc 5 1, 3) := by decide +kernel
theorem dX7_score_190 : decode cX7_score 190 = .ok (.goto (-149), 3) := by decide +kernel
theorem dX7_score_193 : decode cX7_score 193 = .ok (.lload_n 3, 1) := by decide +kernel
theorem dX7_score_194 : decode cX7_score 194 = .ok (.lreturn, 1) := by decide +kernel
theorem dX7_count_0 : decode cX7_count 0 = .ok (.iconst 0, 1) := by decide +kernel
theorem dX7_count_1 : decode cX7_count 1 = .ok (.istore_n 2, 1) := by decide +kernel
theorem dX7_count_2 : decode cX7_count 2 = .ok (.iload_n 1, 1) := by decide +kernel
theorem dX7_count_3 : decode cX7_count 3 = .ok (.tableswitch 125 0 5 #[37, 42, 76, 81, 86, 120], 37) := by decide +kernel
theorem dX7_count_40 : decode cX7_count 40 = .ok (.aload_n 0, 1) := by decide +kernel
theorem dX7_count_41 : decode cX7_count 41 = .ok (.getfield 91, 3) := by decide +kernel
theorem dX7_count_44 : decode cX7_count 44 = .ok (.ireturn, 1) := by decide +kernel
theorem dX7_count_45 : decode cX7_count 45 = .ok (.iconst 0, 1) := by decide +kernel
theorem dX7_count_46 : decode cX7_count 46 = .ok (.istore_n 3, 1) := by decide +kernel
theorem dX7_count_47 : decode cX7_count 47 = .ok (.iload_n 3, 1) := by decide +kernel
theorem dX7_count_48 : decode cX7_count 48 = .ok (.aload_n 0, 1) := by decide +kernel
theorem dX7_count_49 : decode cX7_count 49 = .ok (.getfield 91, 3) := by decide +kernel
theorem dX7_count_52 : decode cX7_count 52 = .ok (.if_icmp .ge 25, 3) := by decide +kernel
theorem dX7_count_55 : decode cX7_count 55 = .ok (.iload_n 2, 1) := by decide +kernel
theorem dX7_count_56 : decode cX7_count 56 = .ok (.aload_n 0, 1) := by decide +kernel
theorem dX7_count_57 : decode cX7_count 57 = .ok (.iload_n 3, 1) := by decide +kernel
theorem dX7_count_58 : decode cX7_count 58 = .ok (.invokevirtual 107, 3) := by decide +kernel
theorem dX7_count_61 : decode cX7_count 61 = .ok (.ifCond .eq 7, 3) := by decide +kernel
theorem dX7_count_64 : decode cX7_count 64 = .ok (.iconst 1, 1) := by decide +kernel
theorem dX7_count_65 : decode cX7_count 65 = .ok (.goto 4, 3) := by decide +kernel
theorem dX7_count_68 : decode cX7_count 68 = .ok (.iconst 0, 1) := by decide +kernel
theorem dX7_count_69 : decode cX7_count 69 = .ok (.iadd, 1) := by decide +kernel
theorem dX7_count_70 : decode cX7_count 70 = .ok (.istore_n 2, 1) := by decide +kernel
theorem dX7_count_71 : decode cX7_count 71 = .ok (.iinc 3 1, 3) := by decide +kernel
theorem dX7_count_74 : decode cX7_count 74 = .ok (.goto (-27), 3) := by decide +kernel
theorem dX7_count_77 : decode cX7_count 77 = .ok (.iload_n 2, 1) := by decide +kernel
theorem dX7_count_78 : decode cX7_count 78 = .ok (.ireturn, 1) := by decide +kernel
theorem dX7_count_79 : decode cX7_count 79 = .ok (.aload_n 0, 1) := by decide +kernel
theorem dX7_count_80 : decode cX7_count 80 = .ok (.getfield 168, 3) := by decide +kernel
theorem dX7_count_83 : decode cX7_count 83 = .ok (.ireturn, 1) := by decide +kernel
theorem dX7_count_84 : decode cX7_count 84 = .ok (.aload_n 0, 1) := by decide +kernel
theorem dX7_count_85 : decode cX7_count 85 = .ok (.getfield 171, 3) := by decide +kernel
theorem dX7_count_88 : decode cX7_count 88 = .ok (.ireturn, 1) := by decide +kernel
theorem dX7_count_89 : decode cX7_count 89 = .ok (.iconst 0, 1) := by decide +kernel
theorem dX7_count_90 : decode cX7_count 90 = .ok (.istore_n 3, 1) := by decide +kernel
theorem dX7_count_91 : decode cX7_count 91 = .ok (.iload_n 3, 1) := by decide +kernel
theorem dX7_count_92 : decode cX7_count 92 = .ok (.aload_n 0, 1) := by decide +kernel
theorem dX7_count_93 : decode cX7_count 93 = .ok (.getfield 171, 3) := by decide +kernel
theorem dX7_count_96 : decode cX7_count 96 = .ok (.if_icmp .ge 25, 3) := by decide +kernel
theorem dX7_count_99 : decode cX7_count 99 = .ok (.iload_n 2, 1) := by decide +kernel
theorem dX7_count_100 : decode cX7_count 100 = .ok (.aload_n 0, 1) := by decide +kernel
theorem dX7_count_101 : decode cX7_count 101 = .ok (.iload_n 3, 1) := by decide +kernel
theorem dX7_count_102 : decode cX7_count 102 = .ok (.invokevirtual 198, 3) := by decide +kernel
theorem dX7_count_105 : decode cX7_count 105 = .ok (.ifCond .eq 7, 3) := by decide +kernel
theorem dX7_count_108 : decode cX7_count 108 = .ok (.iconst 0, 1) := by decide +kernel
theorem dX7_count_109 : decode cX7_count 109 = .ok (.goto 4, 3) := by decide +kernel
theorem dX7_count_112 : decode cX7_count 112 = .ok (.iconst 1, 1) := by decide +kernel
theorem dX7_count_113 : decode cX7_count 113 = .ok (.iadd, 1) := by decide +kernel
theorem dX7_count_114 : decode cX7_count 114 = .ok (.istore_n 2, 1) := by decide +kernel
theorem dX7_count_115 : decode cX7_count 115 = .ok (.iinc 3 1, 3) := by decide +kernel
theorem dX7_count_118 : decode cX7_count 118 = .ok (.goto (-27), 3) := by decide +kernel
theorem dX7_count_121 : decode cX7_count 121 = .ok (.iload_n 2, 1) := by decide +kernel
theorem dX7_count_122 : decode cX7_count 122 = .ok (.ireturn, 1) := by decide +kernel
theorem dX7_count_123 : decode cX7_count 123 = .ok (.aload_n 0, 1) := by decide +kernel
theorem dX7_count_124 : decode cX7_count 124 = .ok (.invokevirtual 152, 3) := by decide +kernel
theorem dX7_count_127 : decode cX7_count 127 = .ok (.ireturn, 1) := by decide +kernel
theorem dX7_count_128 : decode cX7_count 128 = .ok (.bipush (-2), 2) := by decide +kernel
theorem dX7_count_130 : decode cX7_count 130 = .ok (.ireturn, 1) := by decide +kernel
