theorem dX9_init_0 : decode cX9_init 0 = .ok (.aload_n 0, 1) := by decide +kernel
theorem dX9_init_1 : decode cX9_init 1 = .ok (.invokespecial 1, 3) := by decide +kernel
theorem dX9_init_4 : decode cX9_init 4 = .ok (.aload_n 0, 1) := by decide +kernel
theorem dX9_init_5 : decode cX9_init 5 = .ok (.bipush 6, 2) := by decide +kernel
theorem dX9_init_7 : decode cX9_init 7 = .ok (.newarray .int, 2) := by decide +kernel
theorem dX9_init_9 : decode cX9_init 9 = .ok (.putfield 7, 3) := by decide +kernel
theorem dX9_init_12 : decode cX9_init 12 = .ok (.aload_n 0, 1) := by decide +kernel
theorem dX9_init_13 : decode cX9_init 13 = .ok (.bipush 6, 2) := by decide +kernel
theorem dX9_init_15 : decode cX9_init 15 = .ok (.newarray .int, 2) := by decide +kernel
theorem dX9_init_17 : decode cX9_init 17 = .ok (.putfield 13, 3) := by decide +kernel
theorem dX9_init_20 : decode cX9_init 20 = .ok (.aload_n 0, 1) := by decide +kernel
theorem dX9_init_21 : decode cX9_init 21 = .ok (.bipush 6, 2) := by decide +kernel
theorem dX9_init_23 : decode cX9_init 23 = .ok (.newarray .int, 2) := by decide +kernel
theorem dX9_init_25 : decode cX9_init 25 = .ok (.putfield 16, 3) := by decide +kernel
theorem dX9_init_28 : decode cX9_init 28 = .ok (.aload_n 0, 1) := by decide +kernel
theorem dX9_init_29 : decode cX9_init 29 = .ok (.bipush 24, 2) := by decide +kernel
theorem dX9_init_31 : decode cX9_init 31 = .ok (.newarray .int, 2) := by decide +kernel
theorem dX9_init_33 : decode cX9_init 33 = .ok (.putfield 19, 3) := by decide +kernel
theorem dX9_init_36 : decode cX9_init 36 = .ok (.aload_n 0, 1) := by decide +kernel
theorem dX9_init_37 : decode cX9_init 37 = .ok (.bipush 24, 2) := by decide +kernel
theorem dX9_init_39 : decode cX9_init 39 = .ok (.newarray .int, 2) := by decide +kernel
theorem dX9_init_41 : decode cX9_init 41 = .ok (.putfield 22, 3) := by decide +kernel
theorem dX9_init_44 : decode cX9_init 44 = .ok (.aload_n 0, 1) := by decide +kernel
theorem dX9_init_45 : decode cX9_init 45 = .ok (.bipush 24, 2) := by decide +kernel
theorem dX9_init_47 : decode cX9_init 47 = .ok (.newarray .int, 2) := by decide +kernel
theorem dX9_init_49 : decode cX9_init 49 = .ok (.putfield 25, 3) := by decide +kernel
theorem dX9_init_52 : decode cX9_init 52 = .ok (.aload_n 0, 1) := by decide +kernel
theorem dX9_init_53 : decode cX9_init 53 = .ok (.bipush 24, 2) := by decide +kernel
theorem dX9_init_55 : decode cX9_init 55 = .ok (.newarray .int, 2) := by decide +kernel
theorem dX9_init_57 : decode cX9_init 57 = .ok (.putfield 28, 3) := by decide +kernel
theorem dX9_init_60 : decode cX9_init 60 = .ok (.aload_n 0, 1) := by decide +kernel
theorem dX9_init_61 : decode cX9_init 61 = .ok (.bipush 24, 2) := by decide +kernel
theorem dX9_init_63 : decode cX9_init 63 = .ok (.newarray .int, 2) := by decide +kernel
theorem dX9_init_65 : decode cX9_init 65 = .ok (.putfield 31, 3) := by decide +kernel
theorem dX9_init_68 : decode cX9_init 68 = .ok (.aload_n 0, 1) := by decide +kernel
theorem dX9_init_69 : decode cX9_init 69 = .ok (.bipush 24, 2) := by decide +kernel
theorem dX9_init_71 : decode cX9_init 71 = .ok (.newarray .int, 2) := by decide +kernel
theorem dX9_init_73 : decode cX9_init 73 = .ok (.putfield 34, 3) := by decide +kernel
theorem dX9_init_76 : decode cX9_init 76 = .ok (.aload_n 0, 1) := by decide +kernel
theorem dX9_init_77 : decode cX9_init 77 = .ok (.bipush 24, 2) := by decide +kernel
theorem dX9_init_79 : decode cX9_init 79 = .ok (.newarray .int, 2) := by decide +kernel
theorem dX9_init_81 : decode cX9_init 81 = .ok (.putfield 37, 3) := by decide +kernel
theorem dX9_init_84 : decode cX9_init 84 = .ok (.aload_n 0, 1) := by decide +kernel
theorem dX9_init_85 : decode cX9_init 85 = .ok (.bipush 24, 2) := by decide +kernel
theorem dX9_init_87 : decode cX9_init 87 = .ok (.newarray .int, 2) := by decide +kernel
theorem dX9_init_89 : decode cX9_init 89 = .ok (.putfield 40, 3) := by decide +kernel
theorem dX9_init_92 : decode cX9_init 92 = .ok (.aload_n 0, 1) := by decide +kernel
theorem dX9_init_93 : decode cX9_init 93 = .ok (.bipush 24, 2) := by decide +kernel
theorem dX9_init_95 : decode cX9_init 95 = .ok (.newarray .boolean, 2) := by decide +kernel
theorem dX9_init_97 : decode cX9_init 97 = .ok (.putfield 43, 3) := by decide +kernel
theorem dX9_init_100 : decode cX9_init 100 = .ok (.aload_n 0, 1) := by decide +kernel
theorem dX9_init_101 : decode cX9_init 101 = .ok (.sipush 384, 3) := by decide +kernel
theorem dX9_init_104 : decode cX9_init 104 = .ok (.newarray .int, 2) := by decide +kernel
theorem dX9_init_106 : decode cX9_init 106 = .ok (.putfield 47, 3) := by decide +kernel
theorem dX9_init_109 : decode cX9_init 109 = .ok (.aload_n 0, 1) := by decide +kernel
theorem dX9_init_110 : decode cX9_init 110 = .ok (.sipush 192, 3) := by decide +kernel
theorem dX9_init_113 : decode cX9_init 113 = .ok (.newarray .int, 2) := by decide +kernel
theorem dX9_init_115 : decode cX9_init 115 = .ok (.putfield 50, 3) := by decide +kernel
theorem dX9_init_118 : decode cX9_init 118 = .ok (.aload_n 0, 1) := by decide +kernel
theorem dX9_init_119 : decode cX9_init 119 = .ok (.sipush 192, 3) := by decide +kernel
theorem dX9_init_122 : decode cX9_init 122 = .ok (.newarray .int, 2) := by decide +kernel
theorem dX9_init_124 : decode cX9_init 124 = .ok (.putfield 53, 3) := by decide +kernel
theorem dX9_init_127 : decode cX9_init 127 = .ok (.aload_n 0, 1) := by decide +kernel
theorem dX9_init_128 : decode cX9_init 128 = .ok (.bipush 48, 2) := by decide +kernel
theorem dX9_init_130 : decode cX9_init 130 = .ok (.newarray .int, 2) := by decide +kernel
theorem dX9_init_132 : decode cX9_init 132 = .ok (.putfield 56, 3) := by decide +kernel
theorem dX9_init_135 : decode cX9_init 135 = .ok (.aload_n 0, 1) := by decide +kernel
theorem dX9_init_136 : decode cX9_init 136 = .ok (.bipush 24, 2) := by decide +kernel
theorem dX9_init_138 : decode cX9_init 138 = .ok (.newarray .int, 2) := by decide +kernel
theorem dX9_init_140 : decode cX9_init 140 = .ok (.putfield 59, 3) := by decide +kernel
theorem dX9_init_143 : decode cX9_init 143 = .ok (.aload_n 0, 1) := by decide +kernel
theorem dX9_init_144 : decode cX9_init 144 = .ok (.bipush 8, 2) := by decide +kernel
theorem dX9_init_146 : decode cX9_init 146 = .ok (.newarray .int, 2) := by decide +kernel
theorem dX9_init_148 : decode cX9_init 148 = .ok (.putfield 62, 3) := by decide +kernel
theorem dX9_init_151 : decode cX9_init 151 = .ok (.aload_n 0, 1) := by decide +kernel
theorem dX9_init_152 : decode cX9_init 152 = .ok (.bipush 8, 2) := by decide +kernel
theorem dX9_init_154 : decode cX9_init 154 = .ok (.newarray .int, 2) := by decide +kernel
theorem dX9_init_156 : decode cX9_init 156 = .ok (.putfield 65, 3) := by decide +kernel
theorem dX9_init_159 : decode cX9_init 159 = .ok (.aload_n 0, 1) := by decide +kernel
theorem dX9_init_160 : decode cX9_init 160 = .ok (.sipush 144, 3) := by decide +kernel
theorem dX9_init_163 : decode cX9_init 163 = .ok (.newarray .int, 2) := by decide +kernel
theorem dX9_init_165 : decode cX9_init 165 = .ok (.putfield 68, 3) := by decide +kernel
theorem dX9_init_168 : decode cX9_init 168 = .ok (.aload_n 0, 1) := by decide +kernel
theorem dX9_init_169 : decode cX9_init 169 = .ok (.bipush 8, 2) := by decide +kernel
theorem dX9_init_171 : decode cX9_init 171 = .ok (.newarray .int, 2) := by decide +kernel
theorem dX9_init_173 : decode cX9_init 173 = .ok (.putfield 71, 3) := by decide +kernel
theorem dX9_init_176 : decode cX9_init 176 = .ok (.aload_n 0, 1) := by decide +kernel
theorem dX9_init_177 : decode cX9_init 177 = .ok (.bipush 120, 2) := by decide +kernel
theorem dX9_init_179 : decode cX9_init 179 = .ok (.newarray .int, 2) := by decide +kernel
theorem dX9_init_181 : decode cX9_init 181 = .ok (.putfield 74, 3) := by decide +kernel
theorem dX9_init_184 : decode cX9_init 184 = .ok (.aload_n 0, 1) := by decide +kernel
theorem dX9_init_185 : decode cX9_init 185 = .ok (.bipush 20, 2) := by decide +kernel
theorem dX9_init_187 : decode cX9_init 187 = .ok (.newarray .int, 2) := by decide +kernel
theorem dX9_init_189 : decode cX9_init 189 = .ok (.putfield 77, 3) := by decide +kernel
theorem dX9_init_192 : decode cX9_init 192 = .ok (.aload_n 0, 1) := by decide +kernel
theorem dX9_init_193 : decode cX9_init 193 = .ok (.iconst 4, 1) := by decide +kernel
theorem dX9_init_194 : decode cX9_init 194 = .ok (.newarray .int, 2) := by decide +kernel
theorem dX9_init_196 : decode cX9_init 196 = .ok (.putfield 80, 3) := by decide +kernel
theorem dX9_init_199 : decode cX9_init 199 = .ok (.aload_n 0, 1) := by decide +kernel
theorem dX9_init_200 : decode cX9_init 200 = .ok (.iconst 4, 1) := by decide +kernel
theorem dX9_init_201 : decode cX9_init 201 = .ok (.newarray .int, 2) := by decide +kernel
theorem dX9_init_203 : decode cX9_init 203 = .ok (.putfield 83, 3) := by decide +kernel
theorem dX9_init_206 : decode cX9_init 206 = .ok (.iconst 0, 1) := by decide +kernel
theorem dX9_init_207 : decode cX9_init 207 = .ok (.istore_n 1, 1) := by decide +kernel
theorem dX9_init_208 : decode cX9_init 208 = .ok (.iload_n 1, 1) := by decide +kernel
theorem dX9_init_209 : decode cX9_init 209 = .ok (.sipush 384, 3) := by decide +kernel
theorem dX9_init_212 : decode cX9_init 212 = .ok (.if_icmp .ge 16, 3) := by decide +kernel
theorem dX9_init_215 : decode cX9_init 215 = .ok (.aload_n 0, 1) := by decide +kernel
theorem dX9_init_216 : decode cX9_init 216 = .ok (.getfield 47, 3) := by decide +kernel
theorem dX9_init_219 : decode cX9_init 219 = .ok (.iload_n 1, 1) := by decide +kernel
theorem dX9_init_220 : decode cX9_init 220 = .ok (.iconst (-1), 1) := by decide +kernel
theorem dX9_init_221 : decode cX9_init 221 = .ok (.iastore, 1) := by decide +kernel
theorem dX9_init_222 : decode cX9_init 222 = .ok (.iinc 1 1, 3) := by decide +kernel
theorem dX9_init_225 : decode cX9_init 225 = .ok (.goto (-17), 3) := by decide +kernel
theorem dX9_init_228 : decode cX9_init 228 = .ok (.iconst 0, 1) := by decide +kernel
theorem dX9_init_229 : decode cX9_init 229 = .ok (.istore_n 1, 1) := by decide +kernel
theorem dX9_init_230 : decode cX9_init 230 = .ok (.iload_n 1, 1) := by decide +kernel
theorem dX9_init_231 : decode cX9_init 231 = .ok (.sipush 192, 3) := by decide +kernel
theorem dX9_init_234 : decode cX9_init 234 = .ok (.if_icmp .ge 16, 3) := by decide +kernel
theorem dX9_init_237 : decode cX9_init 237 = .ok (.aload_n 0, 1) := by decide +kernel
theorem dX9_init_238 : decode cX9_init 238 = .ok (.getfield 50, 3) := by decide +kernel
theorem dX9_init_241 : decode cX9_init 241 = .ok (.iload_n 1, 1) := by decide +kernel
theorem dX9_init_242 : decode cX9_init 242 = .ok (.iconst (-1), 1) := by decide +kernel
theorem dX9_init_243 : decode cX9_init 243 = .ok (.iastore, 1) := by decide +kernel
theorem dX9_init_244 : decode cX9_init 244 = .ok (.iinc 1 1, 3) := by decide +kernel
theorem dX9_init_247 : decode cX9_init 247 = .ok (.goto (-17), 3) := by decide +kernel
theorem dX9_init_250 : decode cX9_init 250 = .ok (.iconst 0, 1) := by decide +kernel
theorem dX9_init_251 : decode cX9_init 251 = .ok (.istore_n 1, 1) := by decide +kernel
theorem dX9_init_252 : decode cX9_init 252 = .ok (.iload_n 1, 1) := by decide +kernel
theorem dX9_init_253 : decode cX9_init 253 = .ok (.bipush 48, 2) := by decide +kernel
theorem dX9_init_255 : decode cX9_init 255 = .ok (.if_icmp .ge 26, 3) := by decide +kernel
theorem dX9_init_258 : decode cX9_init 258 = .ok (.aload_n 0, 1) := by decide +kernel
theorem dX9_init_259 : decode cX9_init 259 = .ok (.getfield 56, 3) := by decide +kernel
theorem dX9_init_262 : decode cX9_init 262 = .ok (.iload_n 1, 1) := by decide +kernel
theorem dX9_init_263 : decode cX9_init 263 = .ok (.iload_n 1, 1) := by decide +kernel
theorem dX9_init_264 : decode cX9_init 264 = .ok (.iconst 2, 1) := by decide +kernel
theorem dX9_init_265 : decode cX9_init 265 = .ok (.irem, 1) := by decide +kernel
theorem dX9_init_266 : decode cX9_init 266 = .ok (.ifCond .ne 7, 3) := by decide +kernel
theorem dX9_init_269 : decode cX9_init 269 = .ok (.iconst 1, 1) := by decide +kernel
theorem dX9_init_270 : decode cX9_init 270 = .ok (.goto 4, 3) := by decide +kernel
theorem dX9_init_273 : decode cX9_init 273 = .ok (.iconst 0, 1) := by decide +kernel
theorem dX9_init_274 : decode cX9_init 274 = .ok (.iastore, 1) := by decide +kernel
theorem dX9_init_275 : decode cX9_init 275 = .ok (.iinc 1 1, 3) := by decide +kernel
theorem dX9_init_278 : decode cX9_init 278 = .ok (.goto (-26), 3) := by decide +kernel
theorem dX9_init_281 : decode cX9_init 281 = .ok (.iconst 0, 1) := by decide +kernel
theorem dX9_init_282 : decode cX9_init 282 = .ok (.istore_n 1, 1) := by decide +kernel
theorem dX9_init_283 : decode cX9_init 283 = .ok (.iload_n 1, 1) := by decide +kernel
theorem dX9_init_284 : decode cX9_init 284 = .ok (.bipush 24, 2) := by decide +kernel
theorem dX9_init_286 : decode cX9_init 286 = .ok (.if_icmp .ge 16, 3) := by decide +kernel
theorem dX9_init_289 : decode cX9_init 289 = .ok (.aload_n 0, 1) := by decide +kernel
theorem dX9_init_290 : decode cX9_init 290 = .ok (.getfield 59, 3) := by decide +kernel
theorem dX9_init_293 : decode cX9_init 293 = .ok (.iload_n 1, 1) := by decide +kernel
theorem dX9_init_294 : decode cX9_init 294 = .ok (.iconst (-1), 1) := by decide +kernel
theorem dX9_init_295 : decode cX9_init 295 = .ok (.iastore, 1) := by decide +kernel
theorem dX9_init_296 : decode cX9_init 296 = .ok (.iinc 1 1, 3) := by decide +kernel
theorem dX9_init_299 : decode cX9_init 299 = .ok (.goto (-16), 3) := by decide +kernel
theorem dX9_init_302 : decode cX9_init 302 = .ok (.return_, 1) := by decide +kernel
theorem dX9_thrown_0 : decode cX9_thrown 0 = .ok (.aload_n 0, 1) := by decide +kernel
theorem dX9_thrown_1 : decode cX9_thrown 1 = .ok (.getfield 86, 3) := by decide +kernel
theorem dX9_thrown_4 : decode cX9_thrown 4 = .ok (.ireturn, 1) := by decide +kernel
theorem dX9_fails_0 : decode cX9_fails 0 = .ok (.aload_n 0, 1) := by decide +kernel
theorem dX9_fails_1 : decode cX9_fails 1 = .ok (.iload_n 1, 1) := by decide +kernel
theorem dX9_fails_2 : decode cX9_fails 2 = .ok (.putfield 86, 3) := by decide +kernel
theorem dX9_fails_5 : decode cX9_fails 5 = .ok (.iconst 0, 1) := by decide +kernel
theorem dX9_fails_6 : decode cX9_fails 6 = .ok (.ireturn, 1) := by decide +kernel
theorem dX9_asks_0 : decode cX9_asks 0 = .ok (.aload_n 0, 1) := by decide +kernel
theorem dX9_asks_1 : decode cX9_asks 1 = .ok (.iload_n 1, 1) := by decide +kernel
theorem dX9_asks_2 : decode cX9_asks 2 = .ok (.ifCond .eq 7, 3) := by decide +kernel
theorem dX9_asks_5 : decode cX9_asks 5 = .ok (.iconst 0, 1) := by decide +kernel
theorem dX9_asks_6 : decode cX9_asks 6 = .ok (.goto 4, 3) := by decide +kernel
theorem dX9_asks_9 : decode cX9_asks 9 = .ok (.iconst 1, 1) := by decide +kernel
theorem dX9_asks_10 : decode cX9_asks 10 = .ok (.putfield 86, 3) := by decide +kernel
theorem dX9_asks_13 : decode cX9_asks 13 = .ok (.iload_n 1, 1) := by decide +kernel
theorem dX9_asks_14 : decode cX9_asks 14 = .ok (.ireturn, 1) := by decide +kernel
theorem dX9_in_0 : decode cX9_in 0 = .ok (.iload_n 0, 1) := by decide +kernel
theorem dX9_in_1 : decode cX9_in 1 = .ok (.iload_n 1, 1) := by decide +kernel
theorem dX9_in_2 : decode cX9_in 2 = .ok (.if_icmp .lt 12, 3) := by decide +kernel
theorem dX9_in_5 : decode cX9_in 5 = .ok (.iload_n 0, 1) := by decide +kernel
theorem dX9_in_6 : decode cX9_in 6 = .ok (.iload_n 2, 1) := by decide +kernel
theorem dX9_in_7 : decode cX9_in 7 = .ok (.if_icmp .gt 7, 3) := by decide +kernel
theorem dX9_in_10 : decode cX9_in 10 = .ok (.iconst 1, 1) := by decide +kernel
theorem dX9_in_11 : decode cX9_in 11 = .ok (.goto 4, 3) := by decide +kernel
theorem dX9_in_14 : decode cX9_in 14 = .ok (.iconst 0, 1) := by decide +kernel
theorem dX9_in_15 : decode cX9_in 15 = .ok (.ireturn, 1) := by decide +kernel
theorem dX9_isTroop_0 : decode cX9_isTroop 0 = .ok (.iload_n 1, 1) := by decide +kernel
theorem dX9_isTroop_1 : decode cX9_isTroop 1 = .ok (.iconst 0, 1) := by decide +kernel
theorem dX9_isTroop_2 : decode cX9_isTroop 2 = .ok (.aload_n 0, 1) := by decide +kernel
theorem dX9_isTroop_3 : decode cX9_isTroop 3 = .ok (.getfield 90, 3) := by decide +kernel
theorem dX9_isTroop_6 : decode cX9_isTroop 6 = .ok (.iconst 1, 1) := by decide +kernel
theorem dX9_isTroop_7 : decode cX9_isTroop 7 = .ok (.isub, 1) := by decide +kernel
theorem dX9_isTroop_8 : decode cX9_isTroop 8 = .ok (.invokestatic 93, 3) := by decide +kernel
theorem dX9_isTroop_11 : decode cX9_isTroop 11 = .ok (.ireturn, 1) := by decide +kernel
theorem dX9_isChild_0 : decode cX9_isChild 0 = .ok (.iload_n 1, 1) := by decide +kernel
theorem dX9_isChild_1 : decode cX9_isChild 1 = .ok (.iconst 0, 1) := by decide +kernel
theorem dX9_isChild_2 : decode cX9_isChild 2 = .ok (.aload_n 0, 1) := by decide +kernel
theorem dX9_isChild_3 : decode cX9_isChild 3 = .ok (.getfield 97, 3) := by decide +kernel
theorem dX9_isChild_6 : decode cX9_isChild 6 = .ok (.iconst 1, 1) := by decide +kernel
theorem dX9_isChild_7 : decode cX9_isChild 7 = .ok (.isub, 1) := by decide +kernel
theorem dX9_isChild_8 : decode cX9_isChild 8 = .ok (.invokestatic 93, 3) := by decide +kernel
theorem dX9_isChild_11 : decode cX9_isChild 11 = .ok (.ireturn, 1) := by decide +kernel
theorem dX9_isLeader_0 : decode cX9_isLeader 0 = .ok (.iload_n 1, 1) := by decide +kernel
theorem dX9_isLeader_1 : decode cX9_isLeader 1 = .ok (.iconst 0, 1) := by decide +kernel
theorem dX9_isLeader_2 : decode cX9_isLeader 2 = .ok (.aload_n 0, 1) := by decide +kernel
theorem dX9_isLeader_3 : decode cX9_isLeader 3 = .ok (.getfield 100, 3) := by decide +kernel
theorem dX9_isLeader_6 : decode cX9_isLeader 6 = .ok (.iconst 1, 1) := by decide +kernel
theorem dX9_isLeader_7 : decode cX9_isLeader 7 = .ok (.isub, 1) := by decide +kernel
theorem dX9_isLeader_8 : decode cX9_isLeader 8 = .ok (.invokestatic 93, 3) := by decide +kernel
theorem dX9_isLeader_11 : decode cX9_isLeader 11 = .ok (.ireturn, 1) := by decide +kernel
theorem dX9_isSkills_0 : decode cX9_isSkills 0 = .ok (.iload_n 0, 1) := by decide +kernel
theorem dX9_isSkills_1 : decode cX9_isSkills 1 = .ok (.iconst 0, 1) := by decide +kernel
theorem dX9_isSkills_2 : decode cX9_isSkills 2 = .ok (.ldc 103, 2) := by decide +kernel
theorem dX9_isSkills_4 : decode cX9_isSkills 4 = .ok (.invokestatic 93, 3) := by decide +kernel
theorem dX9_isSkills_7 : decode cX9_isSkills 7 = .ok (.ireturn, 1) := by decide +kernel
theorem dX9_ones_0 : decode cX9_ones 0 = .ok (.iconst 0, 1) := by decide +kernel
theorem dX9_ones_1 : decode cX9_ones 1 = .ok (.istore_n 1, 1) := by decide +kernel
theorem dX9_ones_2 : decode cX9_ones 2 = .ok (.iconst 0, 1) := by decide +kernel
theorem dX9_ones_3 : decode cX9_ones 3 = .ok (.istore_n 2, 1) := by decide +kernel
theorem dX9_ones_4 : decode cX9_ones 4 = .ok (.iload_n 2, 1) := by decide +kernel
theorem dX9_ones_5 : decode cX9_ones 5 = .ok (.bipush 16, 2) := by decide +kernel
theorem dX9_ones_7 : decode cX9_ones 7 = .ok (.if_icmp .ge 17, 3) := by decide +kernel
theorem dX9_ones_10 : decode cX9_ones 10 = .ok (.iload_n 1, 1) := by decide +kernel
theorem dX9_ones_11 : decode cX9_ones 11 = .ok (.iload_n 0, 1) := by decide +kernel
theorem dX9_ones_12 : decode cX9_ones 12 = .ok (.iload_n 2, 1) := by decide +kernel
theorem dX9_ones_13 : decode cX9_ones 13 = .ok (.ishr, 1) := by decide +kernel
theorem dX9_ones_14 : decode cX9_ones 14 = .ok (.iconst 1, 1) := by decide +kernel
theorem dX9_ones_15 : decode cX9_ones 15 = .ok (.iand, 1) := by decide +kernel
theorem dX9_ones_16 : decode cX9_ones 16 = .ok (.iadd, 1) := by decide +kernel
theorem dX9_ones_17 : decode cX9_ones 17 = .ok (.istore_n 1, 1) := by decide +kernel
theorem dX9_ones_18 : decode cX9_ones 18 = .ok (.iinc 2 1, 3) := by decide +kernel
theorem dX9_ones_21 : decode cX9_ones 21 = .ok (.goto (-17), 3) := by decide +kernel
theorem dX9_ones_24 : decode cX9_ones 24 = .ok (.iload_n 1, 1) := by decide +kernel
theorem dX9_ones_25 : decode cX9_ones 25 = .ok (.ireturn, 1) := by decide +kernel
theorem dX9_troop_0 : decode cX9_troop 0 = .ok (.aload_n 0, 1) := by decide +kernel
theorem dX9_troop_1 : decode cX9_troop 1 = .ok (.iload_n 1, 1) := by decide +kernel
theorem dX9_troop_2 : decode cX9_troop 2 = .ok (.iconst 5, 1) := by decide +kernel
theorem dX9_troop_3 : decode cX9_troop 3 = .ok (.bipush 20, 2) := by decide +kernel
theorem dX9_troop_5 : decode cX9_troop 5 = .ok (.invokestatic 93, 3) := by decide +kernel
theorem dX9_troop_8 : decode cX9_troop 8 = .ok (.ifCond .eq 27, 3) := by decide +kernel
theorem dX9_troop_11 : decode cX9_troop 11 = .ok (.iload_n 2, 1) := by decide +kernel
theorem dX9_troop_12 : decode cX9_troop 12 = .ok (.iload_n 1, 1) := by decide +kernel
theorem dX9_troop_13 : decode cX9_troop 13 = .ok (.bipush 20, 2) := by decide +kernel
theorem dX9_troop_15 : decode cX9_troop 15 = .ok (.invokestatic 93, 3) := by decide +kernel
theorem dX9_troop_18 : decode cX9_troop 18 = .ok (.ifCond .eq 17, 3) := by decide +kernel
theorem dX9_troop_21 : decode cX9_troop 21 = .ok (.iload_n 3, 1) := by decide +kernel
theorem dX9_troop_22 : decode cX9_troop 22 = .ok (.iconst 1, 1) := by decide +kernel
theorem dX9_troop_23 : decode cX9_troop 23 = .ok (.bipush 12, 2) := by decide +kernel
theorem dX9_troop_25 : decode cX9_troop 25 = .ok (.invokestatic 93, 3) := by decide +kernel
theorem dX9_troop_28 : decode cX9_troop 28 = .ok (.ifCond .eq 7, 3) := by decide +kernel
theorem dX9_troop_31 : decode cX9_troop 31 = .ok (.iconst 1, 1) := by decide +kernel
theorem dX9_troop_32 : decode cX9_troop 32 = .ok (.goto 4, 3) := by decide +kernel
theorem dX9_troop_35 : decode cX9_troop 35 = .ok (.iconst 0, 1) := by decide +kernel
theorem dX9_troop_36 : decode cX9_troop 36 = .ok (.invokevirtual 104, 3) := by decide +kernel
theorem dX9_troop_39 : decode cX9_troop 39 = .ok (.ifCond .ne 5, 3) := by decide +kernel
theorem dX9_troop_42 : decode cX9_troop 42 = .ok (.iconst 0, 1) := by decide +kernel
theorem dX9_troop_43 : decode cX9_troop 43 = .ok (.ireturn, 1) := by decide +kernel
theorem dX9_troop_44 : decode cX9_troop 44 = .ok (.aload_n 0, 1) := by decide +kernel
theorem dX9_troop_45 : decode cX9_troop 45 = .ok (.getfield 90, 3) := by decide +kernel
theorem dX9_troop_48 : decode cX9_troop 48 = .ok (.bipush 6, 2) := by decide +kernel
theorem dX9_troop_50 : decode cX9_troop 50 = .ok (.if_icmp .ne 9, 3) := by decide +kernel
theorem dX9_troop_53 : decode cX9_troop 53 = .ok (.aload_n 0, 1) := by decide +kernel
theorem dX9_troop_54 : decode cX9_troop 54 = .ok (.iconst 2, 1) := by decide +kernel
theorem dX9_troop_55 : decode cX9_troop 55 = .ok (.invokevirtual 108, 3) := by decide +kernel
theorem dX9_troop_58 : decode cX9_troop 58 = .ok (.ireturn, 1) := by decide +kernel
theorem dX9_troop_59 : decode cX9_troop 59 = .ok (.aload_n 0, 1) := by decide +kernel
theorem dX9_troop_60 : decode cX9_troop 60 = .ok (.getfield 7, 3) := by decide +kernel
theorem dX9_troop_63 : decode cX9_troop 63 = .ok (.aload_n 0, 1) := by decide +kernel
theorem dX9_troop_64 : decode cX9_troop 64 = .ok (.getfield 90, 3) := by decide +kernel
theorem dX9_troop_67 : decode cX9_troop 67 = .ok (.iload_n 1, 1) := by decide +kernel
theorem dX9_troop_68 : decode cX9_troop 68 = .ok (.iastore, 1) := by decide +kernel
theorem dX9_troop_69 : decode cX9_troop 69 = .ok (.aload_n 0, 1) := by decide +kernel
theorem dX9_troop_70 : decode cX9_troop 70 = .ok (.getfield 13, 3) := by decide +kernel
theorem dX9_troop_73 : decode cX9_troop 73 = .ok (.aload_n 0, 1) := by decide +kernel
theorem dX9_troop_74 : decode cX9_troop 74 = .ok (.getfield 90, 3) := by decide +kernel
theorem dX9_troop_77 : decode cX9_troop 77 = .ok (.iload_n 2, 1) := by decide +kernel
theorem dX9_troop_78 : decode cX9_troop 78 = .ok (.iastore, 1) := by decide +kernel
theorem dX9_troop_79 : decode cX9_troop 79 = .ok (.aload_n 0, 1) := by decide +kernel
theorem dX9_troop_80 : decode cX9_troop 80 = .ok (.getfield 16, 3) := by decide +kernel
theorem dX9_troop_83 : decode cX9_troop 83 = .ok (.aload_n 0, 1) := by decide +kernel
theorem dX9_troop_84 : decode cX9_troop 84 = .ok (.getfield 90, 3) := by decide +kernel
theorem dX9_troop_87 : decode cX9_troop 87 = .ok (.iload_n 3, 1) := by decide +kernel
theorem dX9_troop_88 : decode cX9_troop 88 = .ok (.iastore, 1) := by decide +kernel
theorem dX9_troop_89 : decode cX9_troop 89 = .ok (.aload_n 0, 1) := by decide +kernel
theorem dX9_troop_90 : decode cX9_troop 90 = .ok (.dup, 1) := by decide +kernel
theorem dX9_troop_91 : decode cX9_troop 91 = .ok (.getfield 90, 3) := by decide +kernel
theorem dX9_troop_94 : decode cX9_troop 94 = .ok (.iconst 1, 1) := by decide +kernel
theorem dX9_troop_95 : decode cX9_troop 95 = .ok (.iadd, 1) := by decide +kernel
theorem dX9_troop_96 : decode cX9_troop 96 = .ok (.putfield 90, 3) := by decide +kernel
theorem dX9_troop_99 : decode cX9_troop 99 = .ok (.aload_n 0, 1) := by decide +kernel
theorem dX9_troop_100 : decode cX9_troop 100 = .ok (.getfield 90, 3) := by decide +kernel
theorem dX9_troop_103 : decode cX9_troop 103 = .ok (.iconst 1, 1) := by decide +kernel
theorem dX9_troop_104 : decode cX9_troop 104 = .ok (.isub, 1) := by decide +kernel
theorem dX9_troop_105 : decode cX9_troop 105 = .ok (.ireturn, 1) := by decide +kernel
theorem dX9_child_0 : decode cX9_child 0 = .ok (.aload_n 0, 1) := by decide +kernel
theorem dX9_child_1 : decode cX9_child 1 = .ok (.iload_n 1, 1) := by decide +kernel
theorem dX9_child_2 : decode cX9_child 2 = .ok (.iconst 5, 1) := by decide +kernel
theorem dX9_child_3 : decode cX9_child 3 = .ok (.bipush 17, 2) := by decide +kernel
theorem dX9_child_5 : decode cX9_child 5 = .ok (.invokestatic 93, 3) := by decide +kernel
theorem dX9_child_8 : decode cX9_child 8 = .ok (.invokevirtual 104, 3) := by decide +kernel
theorem dX9_child_11 : decode cX9_child 11 = .ok (.ifCond .ne 5, 3) := by decide +kernel
theorem dX9_child_14 : decode cX9_child 14 = .ok (.iconst 0, 1) := by decide +kernel
theorem dX9_child_15 : decode cX9_child 15 = .ok (.ireturn, 1) := by decide +kernel
theorem dX9_child_16 : decode cX9_child 16 = .ok (.aload_n 0, 1) := by decide +kernel
theorem dX9_child_17 : decode cX9_child 17 = .ok (.getfield 97, 3) := by decide +kernel
theorem dX9_child_20 : decode cX9_child 20 = .ok (.bipush 24, 2) := by decide +kernel
theorem dX9_child_22 : decode cX9_child 22 = .ok (.if_icmp .ne 9, 3) := by decide +kernel
theorem dX9_child_25 : decode cX9_child 25 = .ok (.aload_n 0, 1) := by decide +kernel
theorem dX9_child_26 : decode cX9_child 26 = .ok (.iconst 2, 1) := by decide +kernel
theorem dX9_child_27 : decode cX9_child 27 = .ok (.invokevirtual 108, 3) := by decide +kernel
theorem dX9_child_30 : decode cX9_child 30 = .ok (.ireturn, 1) := by decide +kernel
theorem dX9_child_31 : decode cX9_child 31 = .ok (.aload_n 0, 1) := by decide +kernel
theorem dX9_child_32 : decode cX9_child 32 = .ok (.getfield 19, 3) := by decide +kernel
theorem dX9_child_35 : decode cX9_child 35 = .ok (.aload_n 0, 1) := by decide +kernel
theorem dX9_child_36 : decode cX9_child 36 = .ok (.getfield 97, 3) := by decide +kernel
theorem dX9_child_39 : decode cX9_child 39 = .ok (.iload_n 1, 1) := by decide +kernel
theorem dX9_child_40 : decode cX9_child 40 = .ok (.iastore, 1) := by decide +kernel
theorem dX9_child_41 : decode cX9_child 41 = .ok (.aload_n 0, 1) := by decide +kernel
theorem dX9_child_42 : decode cX9_child 42 = .ok (.getfield 22, 3) := by decide +kernel
theorem dX9_child_45 : decode cX9_child 45 = .ok (.aload_n 0, 1) := by decide +kernel
theorem dX9_child_46 : decode cX9_child 46 = .ok (.getfield 97, 3) := by decide +kernel
theorem dX9_child_49 : decode cX9_child 49 = .ok (.iconst (-1), 1) := by decide +kernel
theorem dX9_child_50 : decode cX9_child 50 = .ok (.iastore, 1) := by decide +kernel
theorem dX9_child_51 : decode cX9_child 51 = .ok (.aload_n 0, 1) := by decide +kernel
theorem dX9_child_52 : decode cX9_child 52 = .ok (.getfield 25, 3) := by decide +kernel
theorem dX9_child_55 : decode cX9_child 55 = .ok (.aload_n 0, 1) := by decide +kernel
theorem dX9_child_56 : decode cX9_child 56 = .ok (.getfield 97, 3) := by decide +kernel
theorem dX9_child_59 : decode cX9_child 59 = .ok (.iconst (-1), 1) := by decide +kernel
theorem dX9_child_60 : decode cX9_child 60 = .ok (.iastore, 1) := by decide +kernel
theorem dX9_child_61 : decode cX9_child 61 = .ok (.aload_n 0, 1) := by decide +kernel
theorem dX9_child_62 : decode cX9_child 62 = .ok (.getfield 31, 3) := by decide +kernel
theorem dX9_child_65 : decode cX9_child 65 = .ok (.aload_n 0, 1) := by decide +kernel
theorem dX9_child_66 : decode cX9_child 66 = .ok (.getfield 97, 3) := by decide +kernel
theorem dX9_child_69 : decode cX9_child 69 = .ok (.iconst (-1), 1) := by decide +kernel
theorem dX9_child_70 : decode cX9_child 70 = .ok (.iastore, 1) := by decide +kernel
theorem dX9_child_71 : decode cX9_child 71 = .ok (.aload_n 0, 1) := by decide +kernel
theorem dX9_child_72 : decode cX9_child 72 = .ok (.dup, 1) := by decide +kernel
theorem dX9_child_73 : decode cX9_child 73 = .ok (.getfield 97, 3) := by decide +kernel
theorem dX9_child_76 : decode cX9_child 76 = .ok (.iconst 1, 1) := by decide +kernel
theorem dX9_child_77 : decode cX9_child 77 = .ok (.iadd, 1) := by decide +kernel
theorem dX9_child_78 : decode cX9_child 78 = .ok (.putfield 97, 3) := by decide +kernel
theorem dX9_child_81 : decode cX9_child 81 = .ok (.aload_n 0, 1) := by decide +kernel
theorem dX9_child_82 : decode cX9_child 82 = .ok (.getfield 97, 3) := by decide +kernel
theorem dX9_child_85 : decode cX9_child 85 = .ok (.iconst 1, 1) := by decide +kernel
theorem dX9_child_86 : decode cX9_child 86 = .ok (.isub, 1) := by decide +kernel
theorem dX9_child_87 : decode cX9_child 87 = .ok (.ireturn, 1) := by decide +kernel
theorem dX9_inTroop_0 : decode cX9_inTroop 0 = .ok (.iconst 0, 1) := by decide +kernel
theorem dX9_inTroop_1 : decode cX9_inTroop 1 = .ok (.istore_n 2, 1) := by decide +kernel
theorem dX9_inTroop_2 : decode cX9_inTroop 2 = .ok (.iconst 0, 1) := by decide +kernel
theorem dX9_inTroop_3 : decode cX9_inTroop 3 = .ok (.istore_n 3, 1) := by decide +kernel
theorem dX9_inTroop_4 : decode cX9_inTroop 4 = .ok (.iload_n 3, 1) := by decide +kernel
theorem dX9_inTroop_5 : decode cX9_inTroop 5 = .ok (.aload_n 0, 1) := by decide +kernel
theorem dX9_inTroop_6 : decode cX9_inTroop 6 = .ok (.getfield 97, 3) := by decide +kernel
theorem dX9_inTroop_9 : decode cX9_inTroop 9 = .ok (.if_icmp .ge 27, 3) := by decide +kernel
theorem dX9_inTroop_12 : decode cX9_inTroop 12 = .ok (.iload_n 2, 1) := by decide +kernel
theorem dX9_inTroop_13 : decode cX9_inTroop 13 = .ok (.aload_n 0, 1) := by decide +kernel
theorem dX9_inTroop_14 : decode cX9_inTroop 14 = .ok (.getfield 22, 3) := by decide +kernel
theorem dX9_inTroop_17 : decode cX9_inTroop 17 = .ok (.iload_n 3, 1) := by decide +kernel
theorem dX9_inTroop_18 : decode cX9_inTroop 18 = .ok (.iaload, 1) := by decide +kernel
theorem dX9_inTroop_19 : decode cX9_inTroop 19 = .ok (.iload_n 1, 1) := by decide +kernel
theorem dX9_inTroop_20 : decode cX9_inTroop 20 = .ok (.if_icmp .ne 7, 3) := by decide +kernel
theorem dX9_inTroop_23 : decode cX9_inTroop 23 = .ok (.iconst 1, 1) := by decide +kernel
theorem dX9_inTroop_24 : decode cX9_inTroop 24 = .ok (.goto 4, 3) := by decide +kernel
theorem dX9_inTroop_27 : decode cX9_inTroop 27 = .ok (.iconst 0, 1) := by decide +kernel
theorem dX9_inTroop_28 : decode cX9_inTroop 28 = .ok (.iadd, 1) := by decide +kernel
theorem dX9_inTroop_29 : decode cX9_inTroop 29 = .ok (.istore_n 2, 1) := by decide +kernel
theorem dX9_inTroop_30 : decode cX9_inTroop 30 = .ok (.iinc 3 1, 3) := by decide +kernel
theorem dX9_inTroop_33 : decode cX9_inTroop 33 = .ok (.goto (-29), 3) := by decide +kernel
theorem dX9_inTroop_36 : decode cX9_inTroop 36 = .ok (.iload_n 2, 1) := by decide +kernel
theorem dX9_inTroop_37 : decode cX9_inTroop 37 = .ok (.ireturn, 1) := by decide +kernel
theorem dX9_waiting_0 : decode cX9_waiting 0 = .ok (.iconst 0, 1) := by decide +kernel
theorem dX9_waiting_1 : decode cX9_waiting 1 = .ok (.istore_n 2, 1) := by decide +kernel
theorem dX9_waiting_2 : decode cX9_waiting 2 = .ok (.iconst 0, 1) := by decide +kernel
theorem dX9_waiting_3 : decode cX9_waiting 3 = .ok (.istore_n 3, 1) := by decide +kernel
theorem dX9_waiting_4 : decode cX9_waiting 4 = .ok (.iload_n 3, 1) := by decide +kernel
theorem dX9_waiting_5 : decode cX9_waiting 5 = .ok (.aload_n 0, 1) := by decide +kernel
theorem dX9_waiting_6 : decode cX9_waiting 6 = .ok (.getfield 97, 3) := by decide +kernel
theorem dX9_waiting_9 : decode cX9_waiting 9 = .ok (.if_icmp .ge 27, 3) := by decide +kernel
theorem dX9_waiting_12 : decode cX9_waiting 12 = .ok (.iload_n 2, 1) := by decide +kernel
theorem dX9_waiting_13 : decode cX9_waiting 13 = .ok (.aload_n 0, 1) := by decide +kernel
theorem dX9_waiting_14 : decode cX9_waiting 14 = .ok (.getfield 25, 3) := by decide +kernel
theorem dX9_waiting_17 : decode cX9_waiting 17 = .ok (.iload_n 3, 1) := by decide +kernel
theorem dX9_waiting_18 : decode cX9_waiting 18 = .ok (.iaload, 1) := by decide +kernel
theorem dX9_waiting_19 : decode cX9_waiting 19 = .ok (.iload_n 1, 1) := by decide +kernel
theorem dX9_waiting_20 : decode cX9_waiting 20 = .ok (.if_icmp .ne 7, 3) := by decide +kernel
theorem dX9_waiting_23 : decode cX9_waiting 23 = .ok (.iconst 1, 1) := by decide +kernel
theorem dX9_waiting_24 : decode cX9_waiting 24 = .ok (.goto 4, 3) := by decide +kernel
theorem dX9_waiting_27 : decode cX9_waiting 27 = .ok (.iconst 0, 1) := by decide +kernel
theorem dX9_waiting_28 : decode cX9_waiting 28 = .ok (.iadd, 1) := by decide +kernel
theorem dX9_waiting_29 : decode cX9_waiting 29 = .ok (.istore_n 2, 1) := by decide +kernel
theorem dX9_waiting_30 : decode cX9_waiting 30 = .ok (.iinc 3 1, 3) := by decide +kernel
theorem dX9_waiting_33 : decode cX9_waiting 33 = .ok (.goto (-29), 3) := by decide +kernel
theorem dX9_waiting_36 : decode cX9_waiting 36 = .ok (.iload_n 2, 1) := by decide +kernel
theorem dX9_waiting_37 : decode cX9_waiting 37 = .ok (.ireturn, 1) := by decide +kernel
theorem dX9_inPatrol_0 : decode cX9_inPatrol 0 = .ok (.iconst 0, 1) := by decide +kernel
theorem dX9_inPatrol_1 : decode cX9_inPatrol 1 = .ok (.istore_n 3, 1) := by decide +kernel
theorem dX9_inPatrol_2 : decode cX9_inPatrol 2 = .ok (.iconst 0, 1) := by decide +kernel
theorem dX9_inPatrol_3 : decode cX9_inPatrol 3 = .ok (.istore 4, 2) := by decide +kernel
theorem dX9_inPatrol_5 : decode cX9_inPatrol 5 = .ok (.iload 4, 2) := by decide +kernel
theorem dX9_inPatrol_7 : decode cX9_inPatrol 7 = .ok (.aload_n 0, 1) := by decide +kernel
theorem dX9_inPatrol_8 : decode cX9_inPatrol 8 = .ok (.getfield 97, 3) := by decide +kernel
theorem dX9_inPatrol_11 : decode cX9_inPatrol 11 = .ok (.if_icmp .ge 39, 3) := by decide +kernel
theorem dX9_inPatrol_14 : decode cX9_inPatrol 14 = .ok (.iload_n 3, 1) := by decide +kernel
theorem dX9_inPatrol_15 : decode cX9_inPatrol 15 = .ok (.aload_n 0, 1) := by decide +kernel
theorem dX9_inPatrol_16 : decode cX9_inPatrol 16 = .ok (.getfield 22, 3) := by decide +kernel
theorem dX9_inPatrol_19 : decode cX9_inPatrol 19 = .ok (.iload 4, 2) := by decide +kernel
theorem dX9_inPatrol_21 : decode cX9_inPatrol 21 = .ok (.iaload, 1) := by decide +kernel
theorem dX9_inPatrol_22 : decode cX9_inPatrol 22 = .ok (.iload_n 1, 1) := by decide +kernel
theorem dX9_inPatrol_23 : decode cX9_inPatrol 23 = .ok (.if_icmp .ne 18, 3) := by decide +kernel
theorem dX9_inPatrol_26 : decode cX9_inPatrol 26 = .ok (.aload_n 0, 1) := by decide +kernel
theorem dX9_inPatrol_27 : decode cX9_inPatrol 27 = .ok (.getfield 31, 3) := by decide +kernel
theorem dX9_inPatrol_30 : decode cX9_inPatrol 30 = .ok (.iload 4, 2) := by decide +kernel
theorem dX9_inPatrol_32 : decode cX9_inPatrol 32 = .ok (.iaload, 1) := by decide +kernel
theorem dX9_inPatrol_33 : decode cX9_inPatrol 33 = .ok (.iload_n 2, 1) := by decide +kernel
theorem dX9_inPatrol_34 : decode cX9_inPatrol 34 = .ok (.if_icmp .ne 7, 3) := by decide +kernel
theorem dX9_inPatrol_37 : decode cX9_inPatrol 37 = .ok (.iconst 1, 1) := by decide +kernel
theorem dX9_inPatrol_38 : decode cX9_inPatrol 38 = .ok (.goto 4, 3) := by decide +kernel
theorem dX9_inPatrol_41 : decode cX9_inPatrol 41 = .ok (.iconst 0, 1) := by decide +kernel
theorem dX9_inPatrol_42 : decode cX9_inPatrol 42 = .ok (.iadd, 1) := by decide +kernel
theorem dX9_inPatrol_43 : decode cX9_inPatrol 43 = .ok (.istore_n 3, 1) := by decide +kernel
theorem dX9_inPatrol_44 : decode cX9_inPatrol 44 = .ok (.iinc 4 1, 3) := by decide +kernel
theorem dX9_inPatrol_47 : decode cX9_inPatrol 47 = .ok (.goto (-42), 3) := by decide +kernel
theorem dX9_inPatrol_50 : decode cX9_inPatrol 50 = .ok (.iload_n 3, 1) := by decide +kernel
theorem dX9_inPatrol_51 : decode cX9_inPatrol 51 = .ok (.ireturn, 1) := by decide +kernel
theorem dX9_comesIn_0 : decode cX9_comesIn 0 = .ok (.iconst 0, 1) := by decide +kernel
theorem dX9_comesIn_1 : decode cX9_comesIn 1 = .ok (.istore_n 3, 1) := by decide +kernel
theorem dX9_comesIn_2 : decode cX9_comesIn 2 = .ok (.iconst 1, 1) := by decide +kernel
theorem dX9_comesIn_3 : decode cX9_comesIn 3 = .ok (.istore 4, 2) := by decide +kernel
theorem dX9_comesIn_5 : decode cX9_comesIn 5 = .ok (.iload 4, 2) := by decide +kernel
theorem dX9_comesIn_7 : decode cX9_comesIn 7 = .ok (.iconst 4, 1) := by decide +kernel
theorem dX9_comesIn_8 : decode cX9_comesIn 8 = .ok (.if_icmp .ge 32, 3) := by decide +kernel
theorem dX9_comesIn_11 : decode cX9_comesIn 11 = .ok (.aload_n 0, 1) := by decide +kernel
theorem dX9_comesIn_12 : decode cX9_comesIn 12 = .ok (.iload_n 2, 1) := by decide +kernel
theorem dX9_comesIn_13 : decode cX9_comesIn 13 = .ok (.iload 4, 2) := by decide +kernel
theorem dX9_comesIn_15 : decode cX9_comesIn 15 = .ok (.invokevirtual 112, 3) := by decide +kernel
theorem dX9_comesIn_18 : decode cX9_comesIn 18 = .ok (.aload_n 0, 1) := by decide +kernel
theorem dX9_comesIn_19 : decode cX9_comesIn 19 = .ok (.iload_n 2, 1) := by decide +kernel
theorem dX9_comesIn_20 : decode cX9_comesIn 20 = .ok (.iload_n 3, 1) := by decide +kernel
theorem dX9_comesIn_21 : decode cX9_comesIn 21 = .ok (.invokevirtual 112, 3) := by decide +kernel
theorem dX9_comesIn_24 : decode cX9_comesIn 24 = .ok (.if_icmp .ge 8, 3) := by decide +kernel
theorem dX9_comesIn_27 : decode cX9_comesIn 27 = .ok (.iload 4, 2) := by decide +kernel
theorem dX9_comesIn_29 : decode cX9_comesIn 29 = .ok (.goto 4, 3) := by decide +kernel
theorem dX9_comesIn_32 : decode cX9_comesIn 32 = .ok (.iload_n 3, 1) := by decide +kernel
theorem dX9_comesIn_33 : decode cX9_comesIn 33 = .ok (.istore_n 3, 1) := by decide +kernel
theorem dX9_comesIn_34 : decode cX9_comesIn 34 = .ok (.iinc 4 1, 3) := by decide +kernel
theorem dX9_comesIn_37 : decode cX9_comesIn 37 = .ok (.goto (-32), 3) := by decide +kernel
theorem dX9_comesIn_40 : decode cX9_comesIn 40 = .ok (.aload_n 0, 1) := by decide +kernel
theorem dX9_comesIn_41 : decode cX9_comesIn 41 = .ok (.getfield 25, 3) := by decide +kernel
theorem dX9_comesIn_44 : decode cX9_comesIn 44 = .ok (.iload_n 1, 1) := by decide +kernel
theorem dX9_comesIn_45 : decode cX9_comesIn 45 = .ok (.iconst (-1), 1) := by decide +kernel
theorem dX9_comesIn_46 : decode cX9_comesIn 46 = .ok (.iastore, 1) := by decide +kernel
theorem dX9_comesIn_47 : decode cX9_comesIn 47 = .ok (.aload_n 0, 1) := by decide +kernel
theorem dX9_comesIn_48 : decode cX9_comesIn 48 = .ok (.getfield 22, 3) := by decide +kernel
theorem dX9_comesIn_51 : decode cX9_comesIn 51 = .ok (.iload_n 1, 1) := by decide +kernel
theorem dX9_comesIn_52 : decode cX9_comesIn 52 = .ok (.iload_n 2, 1) := by decide +kernel
theorem dX9_comesIn_53 : decode cX9_comesIn 53 = .ok (.iastore, 1) := by decide +kernel
theorem dX9_comesIn_54 : decode cX9_comesIn 54 = .ok (.aload_n 0, 1) := by decide +kernel
theorem dX9_comesIn_55 : decode cX9_comesIn 55 = .ok (.getfield 31, 3) := by decide +kernel
theorem dX9_comesIn_58 : decode cX9_comesIn 58 = .ok (.iload_n 1, 1) := by decide +kernel
theorem dX9_comesIn_59 : decode cX9_comesIn 59 = .ok (.iload_n 3, 1) := by decide +kernel
theorem dX9_comesIn_60 : decode cX9_comesIn 60 = .ok (.iastore, 1) := by decide +kernel
theorem dX9_comesIn_61 : decode cX9_comesIn 61 = .ok (.return_, 1) := by decide +kernel
theorem dX9_joins_0 : decode cX9_joins 0 = .ok (.aload_n 0, 1) := by decide +kernel
theorem dX9_joins_1 : decode cX9_joins 1 = .ok (.iload_n 2, 1) := by decide +kernel
theorem dX9_joins_2 : decode cX9_joins 2 = .ok (.invokevirtual 116, 3) := by decide +kernel
theorem dX9_joins_5 : decode cX9_joins 5 = .ok (.aload_n 0, 1) := by decide +kernel
theorem dX9_joins_6 : decode cX9_joins 6 = .ok (.getfield 16, 3) := by decide +kernel
theorem dX9_joins_9 : decode cX9_joins 9 = .ok (.iload_n 2, 1) := by decide +kernel
theorem dX9_joins_10 : decode cX9_joins 10 = .ok (.iaload, 1) := by decide +kernel
theorem dX9_joins_11 : decode cX9_joins 11 = .ok (.if_icmp .ge 11, 3) := by decide +kernel
theorem dX9_joins_14 : decode cX9_joins 14 = .ok (.aload_n 0, 1) := by decide +kernel
theorem dX9_joins_15 : decode cX9_joins 15 = .ok (.iload_n 1, 1) := by decide +kernel
theorem dX9_joins_16 : decode cX9_joins 16 = .ok (.iload_n 2, 1) := by decide +kernel
theorem dX9_joins_17 : decode cX9_joins 17 = .ok (.invokevirtual 119, 3) := by decide +kernel
theorem dX9_joins_20 : decode cX9_joins 20 = .ok (.iconst 0, 1) := by decide +kernel
theorem dX9_joins_21 : decode cX9_joins 21 = .ok (.ireturn, 1) := by decide +kernel
theorem dX9_joins_22 : decode cX9_joins 22 = .ok (.aload_n 0, 1) := by decide +kernel
theorem dX9_joins_23 : decode cX9_joins 23 = .ok (.getfield 25, 3) := by decide +kernel
theorem dX9_joins_26 : decode cX9_joins 26 = .ok (.iload_n 1, 1) := by decide +kernel
theorem dX9_joins_27 : decode cX9_joins 27 = .ok (.iload_n 2, 1) := by decide +kernel
theorem dX9_joins_28 : decode cX9_joins 28 = .ok (.iastore, 1) := by decide +kernel
theorem dX9_joins_29 : decode cX9_joins 29 = .ok (.aload_n 0, 1) := by decide +kernel
theorem dX9_joins_30 : decode cX9_joins 30 = .ok (.getfield 28, 3) := by decide +kernel
theorem dX9_joins_33 : decode cX9_joins 33 = .ok (.iload_n 1, 1) := by decide +kernel
theorem dX9_joins_34 : decode cX9_joins 34 = .ok (.aload_n 0, 1) := by decide +kernel
theorem dX9_joins_35 : decode cX9_joins 35 = .ok (.getfield 123, 3) := by decide +kernel
theorem dX9_joins_38 : decode cX9_joins 38 = .ok (.iastore, 1) := by decide +kernel
theorem dX9_joins_39 : decode cX9_joins 39 = .ok (.aload_n 0, 1) := by decide +kernel
theorem dX9_joins_40 : decode cX9_joins 40 = .ok (.dup, 1) := by decide +kernel
theorem dX9_joins_41 : decode cX9_joins 41 = .ok (.getfield 123, 3) := by decide +kernel
theorem dX9_joins_44 : decode cX9_joins 44 = .ok (.iconst 1, 1) := by decide +kernel
theorem dX9_joins_45 : decode cX9_joins 45 = .ok (.iadd, 1) := by decide +kernel
theorem dX9_joins_46 : decode cX9_joins 46 = .ok (.putfield 123, 3) := by decide +kernel
theorem dX9_joins_49 : decode cX9_joins 49 = .ok (.aload_n 0, 1) := by decide +kernel
theorem dX9_joins_50 : decode cX9_joins 50 = .ok (.iload_n 2, 1) := by decide +kernel
theorem dX9_joins_51 : decode cX9_joins 51 = .ok (.invokevirtual 126, 3) := by decide +kernel
theorem dX9_joins_54 : decode cX9_joins 54 = .ok (.ireturn, 1) := by decide +kernel
theorem dX9_isFor_0 : decode cX9_isFor 0 = .ok (.aload_n 0, 1) := by decide +kernel
theorem dX9_isFor_1 : decode cX9_isFor 1 = .ok (.getfield 19, 3) := by decide +kernel
theorem dX9_isFor_4 : decode cX9_isFor 4 = .ok (.iload_n 2, 1) := by decide +kernel
theorem dX9_isFor_5 : decode cX9_isFor 5 = .ok (.iaload, 1) := by decide +kernel
theorem dX9_isFor_6 : decode cX9_isFor 6 = .ok (.aload_n 0, 1) := by decide +kernel
theorem dX9_isFor_7 : decode cX9_isFor 7 = .ok (.getfield 7, 3) := by decide +kernel
theorem dX9_isFor_10 : decode cX9_isFor 10 = .ok (.iload_n 1, 1) := by decide +kernel
theorem dX9_isFor_11 : decode cX9_isFor 11 = .ok (.iaload, 1) := by decide +kernel
theorem dX9_isFor_12 : decode cX9_isFor 12 = .ok (.aload_n 0, 1) := by decide +kernel
theorem dX9_isFor_13 : decode cX9_isFor 13 = .ok (.getfield 13, 3) := by decide +kernel
theorem dX9_isFor_16 : decode cX9_isFor 16 = .ok (.iload_n 1, 1) := by decide +kernel
theorem dX9_isFor_17 : decode cX9_isFor 17 = .ok (.iaload, 1) := by decide +kernel
theorem dX9_isFor_18 : decode cX9_isFor 18 = .ok (.invokestatic 93, 3) := by decide +kernel
theorem dX9_isFor_21 : decode cX9_isFor 21 = .ok (.ireturn, 1) := by decide +kernel
theorem dX9_join_0 : decode cX9_join 0 = .ok (.aload_n 0, 1) := by decide +kernel
theorem dX9_join_1 : decode cX9_join 1 = .ok (.aload_n 0, 1) := by decide +kernel
theorem dX9_join_2 : decode cX9_join 2 = .ok (.iload_n 1, 1) := by decide +kernel
theorem dX9_join_3 : decode cX9_join 3 = .ok (.invokevirtual 129, 3) := by decide +kernel
theorem dX9_join_6 : decode cX9_join 6 = .ok (.ifCond .eq 15, 3) := by decide +kernel
theorem dX9_join_9 : decode cX9_join 9 = .ok (.aload_n 0, 1) := by decide +kernel
theorem dX9_join_10 : decode cX9_join 10 = .ok (.iload_n 2, 1) := by decide +kernel
theorem dX9_join_11 : decode cX9_join 11 = .ok (.invokevirtual 133, 3) := by decide +kernel
theorem dX9_join_14 : decode cX9_join 14 = .ok (.ifCond .eq 7, 3) := by decide +kernel
theorem dX9_join_17 : decode cX9_join 17 = .ok (.iconst 1, 1) := by decide +kernel
theorem dX9_join_18 : decode cX9_join 18 = .ok (.goto 4, 3) := by decide +kernel
theorem dX9_join_21 : decode cX9_join 21 = .ok (.iconst 0, 1) := by decide +kernel
theorem dX9_join_22 : decode cX9_join 22 = .ok (.invokevirtual 104, 3) := by decide +kernel
theorem dX9_join_25 : decode cX9_join 25 = .ok (.ifCond .ne 5, 3) := by decide +kernel
theorem dX9_join_28 : decode cX9_join 28 = .ok (.iconst 0, 1) := by decide +kernel
theorem dX9_join_29 : decode cX9_join 29 = .ok (.ireturn, 1) := by decide +kernel
theorem dX9_join_30 : decode cX9_join 30 = .ok (.aload_n 0, 1) := by decide +kernel
theorem dX9_join_31 : decode cX9_join 31 = .ok (.getfield 22, 3) := by decide +kernel
theorem dX9_join_34 : decode cX9_join 34 = .ok (.iload_n 1, 1) := by decide +kernel
theorem dX9_join_35 : decode cX9_join 35 = .ok (.iaload, 1) := by decide +kernel
theorem dX9_join_36 : decode cX9_join 36 = .ok (.iconst (-1), 1) := by decide +kernel
theorem dX9_join_37 : decode cX9_join 37 = .ok (.if_icmp .ne 22, 3) := by decide +kernel
theorem dX9_join_40 : decode cX9_join 40 = .ok (.aload_n 0, 1) := by decide +kernel
theorem dX9_join_41 : decode cX9_join 41 = .ok (.getfield 25, 3) := by decide +kernel
theorem dX9_join_44 : decode cX9_join 44 = .ok (.iload_n 1, 1) := by decide +kernel
theorem dX9_join_45 : decode cX9_join 45 = .ok (.iaload, 1) := by decide +kernel
theorem dX9_join_46 : decode cX9_join 46 = .ok (.iconst (-1), 1) := by decide +kernel
theorem dX9_join_47 : decode cX9_join 47 = .ok (.if_icmp .ne 12, 3) := by decide +kernel
theorem dX9_join_50 : decode cX9_join 50 = .ok (.aload_n 0, 1) := by decide +kernel
theorem dX9_join_51 : decode cX9_join 51 = .ok (.iload_n 2, 1) := by decide +kernel
theorem dX9_join_52 : decode cX9_join 52 = .ok (.iload_n 1, 1) := by decide +kernel
theorem dX9_join_53 : decode cX9_join 53 = .ok (.invokevirtual 136, 3) := by decide +kernel
theorem dX9_join_56 : decode cX9_join 56 = .ok (.ifCond .ne 9, 3) := by decide +kernel
theorem dX9_join_59 : decode cX9_join 59 = .ok (.aload_n 0, 1) := by decide +kernel
theorem dX9_join_60 : decode cX9_join 60 = .ok (.iconst 2, 1) := by decide +kernel
theorem dX9_join_61 : decode cX9_join 61 = .ok (.invokevirtual 108, 3) := by decide +kernel
theorem dX9_join_64 : decode cX9_join 64 = .ok (.ireturn, 1) := by decide +kernel
theorem dX9_join_65 : decode cX9_join 65 = .ok (.aload_n 0, 1) := by decide +kernel
theorem dX9_join_66 : decode cX9_join 66 = .ok (.iload_n 1, 1) := by decide +kernel
theorem dX9_join_67 : decode cX9_join 67 = .ok (.iload_n 2, 1) := by decide +kernel
theorem dX9_join_68 : decode cX9_join 68 = .ok (.invokevirtual 140, 3) := by decide +kernel
theorem dX9_join_71 : decode cX9_join 71 = .ok (.ireturn, 1) := by decide +kernel
theorem dX9_firstWaiting_0 : decode cX9_firstWaiting 0 = .ok (.iconst (-1), 1) := by decide +kernel
theorem dX9_firstWaiting_1 : decode cX9_firstWaiting 1 = .ok (.istore_n 2, 1) := by decide +kernel
theorem dX9_firstWaiting_2 : decode cX9_firstWaiting 2 = .ok (.iconst 0, 1) := by decide +kernel
theorem dX9_firstWaiting_3 : decode cX9_firstWaiting 3 = .ok (.istore_n 3, 1) := by decide +kernel
theorem dX9_firstWaiting_4 : decode cX9_firstWaiting 4 = .ok (.iload_n 3, 1) := by decide +kernel
theorem dX9_firstWaiting_5 : decode cX9_firstWaiting 5 = .ok (.aload_n 0, 1) := by decide +kernel
theorem dX9_firstWaiting_6 : decode cX9_firstWaiting 6 = .ok (.getfield 97, 3) := by decide +kernel
theorem dX9_firstWaiting_9 : decode cX9_firstWaiting 9 = .ok (.if_icmp .ge 45, 3) := by decide +kernel
theorem dX9_firstWaiting_12 : decode cX9_firstWaiting 12 = .ok (.aload_n 0, 1) := by decide +kernel
theorem dX9_firstWaiting_13 : decode cX9_firstWaiting 13 = .ok (.getfield 25, 3) := by decide +kernel
theorem dX9_firstWaiting_16 : decode cX9_firstWaiting 16 = .ok (.iload_n 3, 1) := by decide +kernel
theorem dX9_firstWaiting_17 : decode cX9_firstWaiting 17 = .ok (.iaload, 1) := by decide +kernel
theorem dX9_firstWaiting_18 : decode cX9_firstWaiting 18 = .ok (.iload_n 1, 1) := by decide +kernel
theorem dX9_firstWaiting_19 : decode cX9_firstWaiting 19 = .ok (.if_icmp .ne 27, 3) := by decide +kernel
theorem dX9_firstWaiting_22 : decode cX9_firstWaiting 22 = .ok (.iload_n 2, 1) := by decide +kernel
theorem dX9_firstWaiting_23 : decode cX9_firstWaiting 23 = .ok (.iconst (-1), 1) := by decide +kernel
theorem dX9_firstWaiting_24 : decode cX9_firstWaiting 24 = .ok (.if_icmp .eq 18, 3) := by decide +kernel
theorem dX9_firstWaiting_27 : decode cX9_firstWaiting 27 = .ok (.aload_n 0, 1) := by decide +kernel
theorem dX9_firstWaiting_28 : decode cX9_firstWaiting 28 = .ok (.getfield 28, 3) := by decide +kernel
theorem dX9_firstWaiting_31 : decode cX9_firstWaiting 31 = .ok (.iload_n 3, 1) := by decide +kernel
theorem dX9_firstWaiting_32 : decode cX9_firstWaiting 32 = .ok (.iaload, 1) := by decide +kernel
theorem dX9_firstWaiting_33 : decode cX9_firstWaiting 33 = .ok (.aload_n 0, 1) := by decide +kernel
theorem dX9_firstWaiting_34 : decode cX9_firstWaiting 34 = .ok (.getfield 28, 3) := by decide +kernel
theorem dX9_firstWaiting_37 : decode cX9_firstWaiting 37 = .ok (.iload_n 2, 1) := by decide +kernel
theorem dX9_firstWaiting_38 : decode cX9_firstWaiting 38 = .ok (.iaload, 1) := by decide +kernel
theorem dX9_firstWaiting_39 : decode cX9_firstWaiting 39 = .ok (.if_icmp .ge 7, 3) := by decide +kernel
theorem dX9_firstWaiting_42 : decode cX9_firstWaiting 42 = .ok (.iload_n 3, 1) := by decide +kernel
theorem dX9_firstWaiting_43 : decode cX9_firstWaiting 43 = .ok (.goto 4, 3) := by decide +kernel
theorem dX9_firstWaiting_46 : decode cX9_firstWaiting 46 = .ok (.iload_n 2, 1) := by decide +kernel
theorem dX9_firstWaiting_47 : decode cX9_firstWaiting 47 = .ok (.istore_n 2, 1) := by decide +kernel
theorem dX9_firstWaiting_48 : decode cX9_firstWaiting 48 = .ok (.iinc 3 1, 3) := by decide +kernel
theorem dX9_firstWaiting_51 : decode cX9_firstWaiting 51 = .ok (.goto (-47), 3) := by decide +kernel
theorem dX9_firstWaiting_54 : decode cX9_firstWaiting 54 = .ok (.iload_n 2, 1) := by decide +kernel
theorem dX9_firstWaiting_55 : decode cX9_firstWaiting 55 = .ok (.ireturn, 1) := by decide +kernel
theorem dX9_goesOut_0 : decode cX9_goesOut 0 = .ok (.aload_n 0, 1) := by decide +kernel
theorem dX9_goesOut_1 : decode cX9_goesOut 1 = .ok (.getfield 22, 3) := by decide +kernel
theorem dX9_goesOut_4 : decode cX9_goesOut 4 = .ok (.iload_n 1, 1) := by decide +kernel
theorem dX9_goesOut_5 : decode cX9_goesOut 5 = .ok (.iconst (-1), 1) := by decide +kernel
theorem dX9_goesOut_6 : decode cX9_goesOut 6 = .ok (.iastore, 1) := by decide +kernel
theorem dX9_goesOut_7 : decode cX9_goesOut 7 = .ok (.aload_n 0, 1) := by decide +kernel
theorem dX9_goesOut_8 : decode cX9_goesOut 8 = .ok (.getfield 31, 3) := by decide +kernel
theorem dX9_goesOut_11 : decode cX9_goesOut 11 = .ok (.iload_n 1, 1) := by decide +kernel
theorem dX9_goesOut_12 : decode cX9_goesOut 12 = .ok (.iconst (-1), 1) := by decide +kernel
theorem dX9_goesOut_13 : decode cX9_goesOut 13 = .ok (.iastore, 1) := by decide +kernel
theorem dX9_goesOut_14 : decode cX9_goesOut 14 = .ok (.return_, 1) := by decide +kernel
theorem dX9_leave_0 : decode cX9_leave 0 = .ok (.aload_n 0, 1) := by decide +kernel
theorem dX9_leave_1 : decode cX9_leave 1 = .ok (.aload_n 0, 1) := by decide +kernel
theorem dX9_leave_2 : decode cX9_leave 2 = .ok (.iload_n 1, 1) := by decide +kernel
theorem dX9_leave_3 : decode cX9_leave 3 = .ok (.invokevirtual 129, 3) := by decide +kernel
theorem dX9_leave_6 : decode cX9_leave 6 = .ok (.invokevirtual 104, 3) := by decide +kernel
theorem dX9_leave_9 : decode cX9_leave 9 = .ok (.ifCond .ne 5, 3) := by decide +kernel
theorem dX9_leave_12 : decode cX9_leave 12 = .ok (.iconst 0, 1) := by decide +kernel
theorem dX9_leave_13 : decode cX9_leave 13 = .ok (.ireturn, 1) := by decide +kernel
theorem dX9_leave_14 : decode cX9_leave 14 = .ok (.aload_n 0, 1) := by decide +kernel
theorem dX9_leave_15 : decode cX9_leave 15 = .ok (.getfield 22, 3) := by decide +kernel
theorem dX9_leave_18 : decode cX9_leave 18 = .ok (.iload_n 1, 1) := by decide +kernel
theorem dX9_leave_19 : decode cX9_leave 19 = .ok (.iaload, 1) := by decide +kernel
theorem dX9_leave_20 : decode cX9_leave 20 = .ok (.istore_n 2, 1) := by decide +kernel
theorem dX9_leave_21 : decode cX9_leave 21 = .ok (.iload_n 2, 1) := by decide +kernel
theorem dX9_leave_22 : decode cX9_leave 22 = .ok (.iconst (-1), 1) := by decide +kernel
theorem dX9_leave_23 : decode cX9_leave 23 = .ok (.if_icmp .ne 19, 3) := by decide +kernel
theorem dX9_leave_26 : decode cX9_leave 26 = .ok (.aload_n 0, 1) := by decide +kernel
theorem dX9_leave_27 : decode cX9_leave 27 = .ok (.getfield 25, 3) := by decide +kernel
theorem dX9_leave_30 : decode cX9_leave 30 = .ok (.iload_n 1, 1) := by decide +kernel
theorem dX9_leave_31 : decode cX9_leave 31 = .ok (.iaload, 1) := by decide +kernel
theorem dX9_leave_32 : decode cX9_leave 32 = .ok (.iconst (-1), 1) := by decide +kernel
theorem dX9_leave_33 : decode cX9_leave 33 = .ok (.if_icmp .ne 9, 3) := by decide +kernel
theorem dX9_leave_36 : decode cX9_leave 36 = .ok (.aload_n 0, 1) := by decide +kernel
theorem dX9_leave_37 : decode cX9_leave 37 = .ok (.iconst 2, 1) := by decide +kernel
theorem dX9_leave_38 : decode cX9_leave 38 = .ok (.invokevirtual 108, 3) := by decide +kernel
theorem dX9_leave_41 : decode cX9_leave 41 = .ok (.ireturn, 1) := by decide +kernel
theorem dX9_leave_42 : decode cX9_leave 42 = .ok (.aload_n 0, 1) := by decide +kernel
theorem dX9_leave_43 : decode cX9_leave 43 = .ok (.getfield 25, 3) := by decide +kernel
theorem dX9_leave_46 : decode cX9_leave 46 = .ok (.iload_n 1, 1) := by decide +kernel
theorem dX9_leave_47 : decode cX9_leave 47 = .ok (.iconst (-1), 1) := by decide +kernel
theorem dX9_leave_48 : decode cX9_leave 48 = .ok (.iastore, 1) := by decide +kernel
theorem dX9_leave_49 : decode cX9_leave 49 = .ok (.aload_n 0, 1) := by decide +kernel
theorem dX9_leave_50 : decode cX9_leave 50 = .ok (.iload_n 1, 1) := by decide +kernel
theorem dX9_leave_51 : decode cX9_leave 51 = .ok (.invokevirtual 143, 3) := by decide +kernel
theorem dX9_leave_54 : decode cX9_leave 54 = .ok (.iload_n 2, 1) := by decide +kernel
theorem dX9_leave_55 : decode cX9_leave 55 = .ok (.iconst (-1), 1) := by decide +kernel
theorem dX9_leave_56 : decode cX9_leave 56 = .ok (.if_icmp .ne 7, 3) := by decide +kernel
theorem dX9_leave_59 : decode cX9_leave 59 = .ok (.iconst (-1), 1) := by decide +kernel
theorem dX9_leave_60 : decode cX9_leave 60 = .ok (.goto 8, 3) := by decide +kernel
theorem dX9_leave_63 : decode cX9_leave 63 = .ok (.aload_n 0, 1) := by decide +kernel
theorem dX9_leave_64 : decode cX9_leave 64 = .ok (.iload_n 2, 1) := by decide +kernel
theorem dX9_leave_65 : decode cX9_leave 65 = .ok (.invokevirtual 147, 3) := by decide +kernel
theorem dX9_leave_68 : decode cX9_leave 68 = .ok (.istore_n 3, 1) := by decide +kernel
theorem dX9_leave_69 : decode cX9_leave 69 = .ok (.iload_n 3, 1) := by decide +kernel
theorem dX9_leave_70 : decode cX9_leave 70 = .ok (.iconst (-1), 1) := by decide +kernel
theorem dX9_leave_71 : decode cX9_leave 71 = .ok (.if_icmp .eq 9, 3) := by decide +kernel
theorem dX9_leave_74 : decode cX9_leave 74 = .ok (.aload_n 0, 1) := by decide +kernel
theorem dX9_leave_75 : decode cX9_leave 75 = .ok (.iload_n 3, 1) := by decide +kernel
theorem dX9_leave_76 : decode cX9_leave 76 = .ok (.iload_n 2, 1) := by decide +kernel
theorem dX9_leave_77 : decode cX9_leave 77 = .ok (.invokevirtual 119, 3) := by decide +kernel
theorem dX9_leave_80 : decode cX9_leave 80 = .ok (.iload_n 3, 1) := by decide +kernel
theorem dX9_leave_81 : decode cX9_leave 81 = .ok (.ireturn, 1) := by decide +kernel
theorem dX9_patrol_0 : decode cX9_patrol 0 = .ok (.aload_n 0, 1) := by decide +kernel
theorem dX9_patrol_1 : decode cX9_patrol 1 = .ok (.aload_n 0, 1) := by decide +kernel
theorem dX9_patrol_2 : decode cX9_patrol 2 = .ok (.iload_n 1, 1) := by decide +kernel
theorem dX9_patrol_3 : decode cX9_patrol 3 = .ok (.invokevirtual 129, 3) := by decide +kernel
theorem dX9_patrol_6 : decode cX9_patrol 6 = .ok (.invokevirtual 104, 3) := by decide +kernel
theorem dX9_patrol_9 : decode cX9_patrol 9 = .ok (.ifCond .ne 5, 3) := by decide +kernel
theorem dX9_patrol_12 : decode cX9_patrol 12 = .ok (.iconst 0, 1) := by decide +kernel
theorem dX9_patrol_13 : decode cX9_patrol 13 = .ok (.ireturn, 1) := by decide +kernel
theorem dX9_patrol_14 : decode cX9_patrol 14 = .ok (.iload_n 2, 1) := by decide +kernel
theorem dX9_patrol_15 : decode cX9_patrol 15 = .ok (.iconst 0, 1) := by decide +kernel
theorem dX9_patrol_16 : decode cX9_patrol 16 = .ok (.iconst 3, 1) := by decide +kernel
theorem dX9_patrol_17 : decode cX9_patrol 17 = .ok (.invokestatic 93, 3) := by decide +kernel
theorem dX9_patrol_20 : decode cX9_patrol 20 = .ok (.ifCond .ne 9, 3) := by decide +kernel
theorem dX9_patrol_23 : decode cX9_patrol 23 = .ok (.aload_n 0, 1) := by decide +kernel
theorem dX9_patrol_24 : decode cX9_patrol 24 = .ok (.iconst 2, 1) := by decide +kernel
theorem dX9_patrol_25 : decode cX9_patrol 25 = .ok (.invokevirtual 108, 3) := by decide +kernel
theorem dX9_patrol_28 : decode cX9_patrol 28 = .ok (.ireturn, 1) := by decide +kernel
theorem dX9_patrol_29 : decode cX9_patrol 29 = .ok (.aload_n 0, 1) := by decide +kernel
theorem dX9_patrol_30 : decode cX9_patrol 30 = .ok (.getfield 22, 3) := by decide +kernel
theorem dX9_patrol_33 : decode cX9_patrol 33 = .ok (.iload_n 1, 1) := by decide +kernel
theorem dX9_patrol_34 : decode cX9_patrol 34 = .ok (.iaload, 1) := by decide +kernel
theorem dX9_patrol_35 : decode cX9_patrol 35 = .ok (.iconst (-1), 1) := by decide +kernel
theorem dX9_patrol_36 : decode cX9_patrol 36 = .ok (.if_icmp .ne 9, 3) := by decide +kernel
theorem dX9_patrol_39 : decode cX9_patrol 39 = .ok (.aload_n 0, 1) := by decide +kernel
theorem dX9_patrol_40 : decode cX9_patrol 40 = .ok (.iconst 3, 1) := by decide +kernel
theorem dX9_patrol_41 : decode cX9_patrol 41 = .ok (.invokevirtual 108, 3) := by decide +kernel
theorem dX9_patrol_44 : decode cX9_patrol 44 = .ok (.ireturn, 1) := by decide +kernel
theorem dX9_patrol_45 : decode cX9_patrol 45 = .ok (.aload_n 0, 1) := by decide +kernel
theorem dX9_patrol_46 : decode cX9_patrol 46 = .ok (.getfield 31, 3) := by decide +kernel
theorem dX9_patrol_49 : decode cX9_patrol 49 = .ok (.iload_n 1, 1) := by decide +kernel
theorem dX9_patrol_50 : decode cX9_patrol 50 = .ok (.iaload, 1) := by decide +kernel
theorem dX9_patrol_51 : decode cX9_patrol 51 = .ok (.istore_n 3, 1) := by decide +kernel
theorem dX9_patrol_52 : decode cX9_patrol 52 = .ok (.aload_n 0, 1) := by decide +kernel
theorem dX9_patrol_53 : decode cX9_patrol 53 = .ok (.getfield 31, 3) := by decide +kernel
theorem dX9_patrol_56 : decode cX9_patrol 56 = .ok (.iload_n 1, 1) := by decide +kernel
theorem dX9_patrol_57 : decode cX9_patrol 57 = .ok (.iload_n 2, 1) := by decide +kernel
theorem dX9_patrol_58 : decode cX9_patrol 58 = .ok (.iastore, 1) := by decide +kernel
theorem dX9_patrol_59 : decode cX9_patrol 59 = .ok (.iload_n 3, 1) := by decide +kernel
theorem dX9_patrol_60 : decode cX9_patrol 60 = .ok (.ireturn, 1) := by decide +kernel
theorem dX9_isDay_0 : decode cX9_isDay 0 = .ok (.iload_n 0, 1) := by decide +kernel
theorem dX9_isDay_1 : decode cX9_isDay 1 = .ok (.iconst 0, 1) := by decide +kernel
theorem dX9_isDay_2 : decode cX9_isDay 2 = .ok (.sipush 9999, 3) := by decide +kernel
theorem dX9_isDay_5 : decode cX9_isDay 5 = .ok (.invokestatic 93, 3) := by decide +kernel
theorem dX9_isDay_8 : decode cX9_isDay 8 = .ok (.ireturn, 1) := by decide +kernel
theorem dX9_duty_0 : decode cX9_duty 0 = .ok (.aload_n 0, 1) := by decide +kernel
theorem dX9_duty_1 : decode cX9_duty 1 = .ok (.aload_n 0, 1) := by decide +kernel
theorem dX9_duty_2 : decode cX9_duty 2 = .ok (.iload_n 1, 1) := by decide +kernel
theorem dX9_duty_3 : decode cX9_duty 3 = .ok (.invokevirtual 133, 3) := by decide +kernel
theorem dX9_duty_6 : decode cX9_duty 6 = .ok (.invokevirtual 104, 3) := by decide +kernel
theorem dX9_duty_9 : decode cX9_duty 9 = .ok (.ifCond .ne 5, 3) := by decide +kernel
theorem dX9_duty_12 : decode cX9_duty 12 = .ok (.iconst 0, 1) := by decide +kernel
theorem dX9_duty_13 : decode cX9_duty 13 = .ok (.ireturn, 1) := by decide +kernel
theorem dX9_duty_14 : decode cX9_duty 14 = .ok (.iload_n 2, 1) := by decide +kernel
theorem dX9_duty_15 : decode cX9_duty 15 = .ok (.invokestatic 150, 3) := by decide +kernel
theorem dX9_duty_18 : decode cX9_duty 18 = .ok (.ifCond .ne 9, 3) := by decide +kernel
theorem dX9_duty_21 : decode cX9_duty 21 = .ok (.aload_n 0, 1) := by decide +kernel
theorem dX9_duty_22 : decode cX9_duty 22 = .ok (.iconst 2, 1) := by decide +kernel
theorem dX9_duty_23 : decode cX9_duty 23 = .ok (.invokevirtual 108, 3) := by decide +kernel
theorem dX9_duty_26 : decode cX9_duty 26 = .ok (.ireturn, 1) := by decide +kernel
theorem dX9_duty_27 : decode cX9_duty 27 = .ok (.iconst 0, 1) := by decide +kernel
theorem dX9_duty_28 : decode cX9_duty 28 = .ok (.istore_n 3, 1) := by decide +kernel
theorem dX9_duty_29 : decode cX9_duty 29 = .ok (.iconst 0, 1) := by decide +kernel
theorem dX9_duty_30 : decode cX9_duty 30 = .ok (.istore 4, 2) := by decide +kernel
theorem dX9_duty_32 : decode cX9_duty 32 = .ok (.iload 4, 2) := by decide +kernel
theorem dX9_duty_34 : decode cX9_duty 34 = .ok (.iconst 4, 1) := by decide +kernel
theorem dX9_duty_35 : decode cX9_duty 35 = .ok (.if_icmp .ge 27, 3) := by decide +kernel
theorem dX9_duty_38 : decode cX9_duty 38 = .ok (.iload_n 3, 1) := by decide +kernel
theorem dX9_duty_39 : decode cX9_duty 39 = .ok (.aload_n 0, 1) := by decide +kernel
theorem dX9_duty_40 : decode cX9_duty 40 = .ok (.iload_n 1, 1) := by decide +kernel
theorem dX9_duty_41 : decode cX9_duty 41 = .ok (.iload 4, 2) := by decide +kernel
theorem dX9_duty_43 : decode cX9_duty 43 = .ok (.invokevirtual 112, 3) := by decide +kernel
theorem dX9_duty_46 : decode cX9_duty 46 = .ok (.ifCond .le 7, 3) := by decide +kernel
theorem dX9_duty_49 : decode cX9_duty 49 = .ok (.iconst 1, 1) := by decide +kernel
theorem dX9_duty_50 : decode cX9_duty 50 = .ok (.goto 4, 3) := by decide +kernel
theorem dX9_duty_53 : decode cX9_duty 53 = .ok (.iconst 0, 1) := by decide +kernel
theorem dX9_duty_54 : decode cX9_duty 54 = .ok (.iadd, 1) := by decide +kernel
theorem dX9_duty_55 : decode cX9_duty 55 = .ok (.istore_n 3, 1) := by decide +kernel
theorem dX9_duty_56 : decode cX9_duty 56 = .ok (.iinc 4 1, 3) := by decide +kernel
theorem dX9_duty_59 : decode cX9_duty 59 = .ok (.goto (-27), 3) := by decide +kernel
theorem dX9_duty_62 : decode cX9_duty 62 = .ok (.iload_n 3, 1) := by decide +kernel
theorem dX9_duty_63 : decode cX9_duty 63 = .ok (.ifCond .ne 7, 3) := by decide +kernel
theorem dX9_duty_66 : decode cX9_duty 66 = .ok (.iconst 0, 1) := by decide +kernel
theorem dX9_duty_67 : decode cX9_duty 67 = .ok (.goto 6, 3) := by decide +kernel
theorem dX9_duty_70 : decode cX9_duty 70 = .ok (.iload_n 2, 1) := by decide +kernel
theorem dX9_duty_71 : decode cX9_duty 71 = .ok (.iload_n 3, 1) := by decide +kernel
theorem dX9_duty_72 : decode cX9_duty 72 = .ok (.irem, 1) := by decide +kernel
theorem dX9_duty_73 : decode cX9_duty 73 = .ok (.istore 4, 2) := by decide +kernel
theorem dX9_duty_75 : decode cX9_duty 75 = .ok (.iconst (-1), 1) := by decide +kernel
theorem dX9_duty_76 : decode cX9_duty 76 = .ok (.istore 5, 2) := by decide +kernel
theorem dX9_duty_78 : decode cX9_duty 78 = .ok (.iconst 0, 1) := by decide +kernel
theorem dX9_duty_79 : decode cX9_duty 79 = .ok (.istore 6, 2) := by decide +kernel
theorem dX9_duty_81 : decode cX9_duty 81 = .ok (.iload 6, 2) := by decide +kernel
theorem dX9_duty_83 : decode cX9_duty 83 = .ok (.iconst 4, 1) := by decide +kernel
theorem dX9_duty_84 : decode cX9_duty 84 = .ok (.if_icmp .ge 60, 3) := by decide +kernel
theorem dX9_duty_87 : decode cX9_duty 87 = .ok (.aload_n 0, 1) := by decide +kernel
theorem dX9_duty_88 : decode cX9_duty 88 = .ok (.iload_n 1, 1) := by decide +kernel
theorem dX9_duty_89 : decode cX9_duty 89 = .ok (.iload 6, 2) := by decide +kernel
theorem dX9_duty_91 : decode cX9_duty 91 = .ok (.invokevirtual 112, 3) := by decide +kernel
theorem dX9_duty_94 : decode cX9_duty 94 = .ok (.ifCond .le 7, 3) := by decide +kernel
theorem dX9_duty_97 : decode cX9_duty 97 = .ok (.iconst 1, 1) := by decide +kernel
theorem dX9_duty_98 : decode cX9_duty 98 = .ok (.goto 4, 3) := by decide +kernel
theorem dX9_duty_101 : decode cX9_duty 101 = .ok (.iconst 0, 1) := by decide +kernel
theorem dX9_duty_102 : decode cX9_duty 102 = .ok (.istore 7, 2) := by decide +kernel
theorem dX9_duty_104 : decode cX9_duty 104 = .ok (.iload 7, 2) := by decide +kernel
theorem dX9_duty_106 : decode cX9_duty 106 = .ok (.ifCond .eq 13, 3) := by decide +kernel
theorem dX9_duty_109 : decode cX9_duty 109 = .ok (.iload 4, 2) := by decide +kernel
theorem dX9_duty_111 : decode cX9_duty 111 = .ok (.ifCond .ne 8, 3) := by decide +kernel
theorem dX9_duty_114 : decode cX9_duty 114 = .ok (.iload 6, 2) := by decide +kernel
theorem dX9_duty_116 : decode cX9_duty 116 = .ok (.goto 5, 3) := by decide +kernel
theorem dX9_duty_119 : decode cX9_duty 119 = .ok (.iload 5, 2) := by decide +kernel
theorem dX9_duty_121 : decode cX9_duty 121 = .ok (.istore 5, 2) := by decide +kernel
theorem dX9_duty_123 : decode cX9_duty 123 = .ok (.iload 4, 2) := by decide +kernel
theorem dX9_duty_125 : decode cX9_duty 125 = .ok (.iload 7, 2) := by decide +kernel
theorem dX9_duty_127 : decode cX9_duty 127 = .ok (.ifCond .eq 7, 3) := by decide +kernel
theorem dX9_duty_130 : decode cX9_duty 130 = .ok (.iconst 1, 1) := by decide +kernel
theorem dX9_duty_131 : decode cX9_duty 131 = .ok (.goto 4, 3) := by decide +kernel
theorem dX9_duty_134 : decode cX9_duty 134 = .ok (.iconst 0, 1) := by decide +kernel
theorem dX9_duty_135 : decode cX9_duty 135 = .ok (.isub, 1) := by decide +kernel
theorem dX9_duty_136 : decode cX9_duty 136 = .ok (.istore 4, 2) := by decide +kernel
theorem dX9_duty_138 : decode cX9_duty 138 = .ok (.iinc 6 1, 3) := by decide +kernel
theorem dX9_duty_141 : decode cX9_duty 141 = .ok (.goto (-60), 3) := by decide +kernel
theorem dX9_duty_144 : decode cX9_duty 144 = .ok (.iload 5, 2) := by decide +kernel
theorem dX9_duty_146 : decode cX9_duty 146 = .ok (.ireturn, 1) := by decide +kernel
theorem dX9_pass_0 : decode cX9_pass 0 = .ok (.aload_n 0, 1) := by decide +kernel
theorem dX9_pass_1 : decode cX9_pass 1 = .ok (.iload_n 1, 1) := by decide +kernel
theorem dX9_pass_2 : decode cX9_pass 2 = .ok (.iconst 1, 1) := by decide +kernel
theorem dX9_pass_3 : decode cX9_pass 3 = .ok (.sipush 400, 3) := by decide +kernel
theorem dX9_pass_6 : decode cX9_pass 6 = .ok (.invokestatic 93, 3) := by decide +kernel
theorem dX9_pass_9 : decode cX9_pass 9 = .ok (.invokevirtual 104, 3) := by decide +kernel
theorem dX9_pass_12 : decode cX9_pass 12 = .ok (.ifCond .ne 5, 3) := by decide +kernel
theorem dX9_pass_15 : decode cX9_pass 15 = .ok (.iconst 0, 1) := by decide +kernel
theorem dX9_pass_16 : decode cX9_pass 16 = .ok (.ireturn, 1) := by decide +kernel
theorem dX9_pass_17 : decode cX9_pass 17 = .ok (.aload_n 0, 1) := by decide +kernel
theorem dX9_pass_18 : decode cX9_pass 18 = .ok (.getfield 153, 3) := by decide +kernel
theorem dX9_pass_21 : decode cX9_pass 21 = .ok (.iload_n 1, 1) := by decide +kernel
theorem dX9_pass_22 : decode cX9_pass 22 = .ok (.iadd, 1) := by decide +kernel
theorem dX9_pass_23 : decode cX9_pass 23 = .ok (.sipush 9999, 3) := by decide +kernel
theorem dX9_pass_26 : decode cX9_pass 26 = .ok (.if_icmp .le 9, 3) := by decide +kernel
theorem dX9_pass_29 : decode cX9_pass 29 = .ok (.aload_n 0, 1) := by decide +kernel
theorem dX9_pass_30 : decode cX9_pass 30 = .ok (.iconst 2, 1) := by decide +kernel
theorem dX9_pass_31 : decode cX9_pass 31 = .ok (.invokevirtual 108, 3) := by decide +kernel
theorem dX9_pass_34 : decode cX9_pass 34 = .ok (.ireturn, 1) := by decide +kernel
theorem dX9_pass_35 : decode cX9_pass 35 = .ok (.aload_n 0, 1) := by decide +kernel
theorem dX9_pass_36 : decode cX9_pass 36 = .ok (.dup, 1) := by decide +kernel
theorem dX9_pass_37 : decode cX9_pass 37 = .ok (.getfield 153, 3) := by decide +kernel
theorem dX9_pass_40 : decode cX9_pass 40 = .ok (.iload_n 1, 1) := by decide +kernel
theorem dX9_pass_41 : decode cX9_pass 41 = .ok (.iadd, 1) := by decide +kernel
theorem dX9_pass_42 : decode cX9_pass 42 = .ok (.putfield 153, 3) := by decide +kernel
theorem dX9_pass_45 : decode cX9_pass 45 = .ok (.aload_n 0, 1) := by decide +kernel
theorem dX9_pass_46 : decode cX9_pass 46 = .ok (.getfield 153, 3) := by decide +kernel
theorem dX9_pass_49 : decode cX9_pass 49 = .ok (.ireturn, 1) := by decide +kernel
theorem dX9_joinsLowest_0 : decode cX9_joinsLowest 0 = .ok (.iconst (-1), 1) := by decide +kernel
theorem dX9_joinsLowest_1 : decode cX9_joinsLowest 1 = .ok (.istore_n 2, 1) := by decide +kernel
theorem dX9_joinsLowest_2 : decode cX9_joinsLowest 2 = .ok (.aload_n 0, 1) := by decide +kernel
theorem dX9_joinsLowest_3 : decode cX9_joinsLowest 3 = .ok (.getfield 90, 3) := by decide +kernel
theorem dX9_joinsLowest_6 : decode cX9_joinsLowest 6 = .ok (.iconst 1, 1) := by decide +kernel
theorem dX9_joinsLowest_7 : decode cX9_joinsLowest 7 = .ok (.isub, 1) := by decide +kernel
theorem dX9_joinsLowest_8 : decode cX9_joinsLowest 8 = .ok (.istore_n 3, 1) := by decide +kernel
theorem dX9_joinsLowest_9 : decode cX9_joinsLowest 9 = .ok (.iload_n 3, 1) := by decide +kernel
theorem dX9_joinsLowest_10 : decode cX9_joinsLowest 10 = .ok (.ifCond .lt 24, 3) := by decide +kernel
theorem dX9_joinsLowest_13 : decode cX9_joinsLowest 13 = .ok (.aload_n 0, 1) := by decide +kernel
theorem dX9_joinsLowest_14 : decode cX9_joinsLowest 14 = .ok (.iload_n 3, 1) := by decide +kernel
theorem dX9_joinsLowest_15 : decode cX9_joinsLowest 15 = .ok (.iload_n 1, 1) := by decide +kernel
theorem dX9_joinsLowest_16 : decode cX9_joinsLowest 16 = .ok (.invokevirtual 136, 3) := by decide +kernel
theorem dX9_joinsLowest_19 : decode cX9_joinsLowest 19 = .ok (.ifCond .eq 7, 3) := by decide +kernel
theorem dX9_joinsLowest_22 : decode cX9_joinsLowest 22 = .ok (.iload_n 3, 1) := by decide +kernel
theorem dX9_joinsLowest_23 : decode cX9_joinsLowest 23 = .ok (.goto 4, 3) := by decide +kernel
theorem dX9_joinsLowest_26 : decode cX9_joinsLowest 26 = .ok (.iload_n 2, 1) := by decide +kernel
theorem dX9_joinsLowest_27 : decode cX9_joinsLowest 27 = .ok (.istore_n 2, 1) := by decide +kernel
theorem dX9_joinsLowest_28 : decode cX9_joinsLowest 28 = .ok (.iinc 3 (-1), 3) := by decide +kernel
theorem dX9_joinsLowest_31 : decode cX9_joinsLowest 31 = .ok (.goto (-22), 3) := by decide +kernel
theorem dX9_joinsLowest_34 : decode cX9_joinsLowest 34 = .ok (.iload_n 2, 1) := by decide +kernel
theorem dX9_joinsLowest_35 : decode cX9_joinsLowest 35 = .ok (.iconst (-1), 1) := by decide +kernel
theorem dX9_joinsLowest_36 : decode cX9_joinsLowest 36 = .ok (.if_icmp .eq 10, 3) := by decide +kernel
theorem dX9_joinsLowest_39 : decode cX9_joinsLowest 39 = .ok (.aload_n 0, 1) := by decide +kernel
theorem dX9_joinsLowest_40 : decode cX9_joinsLowest 40 = .ok (.iload_n 1, 1) := by decide +kernel
theorem dX9_joinsLowest_41 : decode cX9_joinsLowest 41 = .ok (.iload_n 2, 1) := by decide +kernel
theorem dX9_joinsLowest_42 : decode cX9_joinsLowest 42 = .ok (.invokevirtual 140, 3) := by decide +kernel
theorem dX9_joinsLowest_45 : decode cX9_joinsLowest 45 = .ok (.pop, 1) := by decide +kernel
theorem dX9_joinsLowest_46 : decode cX9_joinsLowest 46 = .ok (.return_, 1) := by decide +kernel
theorem dX9_season_0 : decode cX9_season 0 = .ok (.aload_n 0, 1) := by decide +kernel
theorem dX9_season_1 : decode cX9_season 1 = .ok (.iconst 0, 1) := by decide +kernel
theorem dX9_season_2 : decode cX9_season 2 = .ok (.putfield 86, 3) := by decide +kernel
theorem dX9_season_5 : decode cX9_season 5 = .ok (.iconst 0, 1) := by decide +kernel
theorem dX9_season_6 : decode cX9_season 6 = .ok (.istore_n 1, 1) := by decide +kernel
theorem dX9_season_7 : decode cX9_season 7 = .ok (.iconst 0, 1) := by decide +kernel
theorem dX9_season_8 : decode cX9_season 8 = .ok (.istore_n 2, 1) := by decide +kernel
theorem dX9_season_9 : decode cX9_season 9 = .ok (.iload_n 2, 1) := by decide +kernel
theorem dX9_season_10 : decode cX9_season 10 = .ok (.aload_n 0, 1) := by decide +kernel
theorem dX9_season_11 : decode cX9_season 11 = .ok (.getfield 97, 3) := by decide +kernel
theorem dX9_season_14 : decode cX9_season 14 = .ok (.if_icmp .ge 102, 3) := by decide +kernel
theorem dX9_season_17 : decode cX9_season 17 = .ok (.aload_n 0, 1) := by decide +kernel
theorem dX9_season_18 : decode cX9_season 18 = .ok (.getfield 19, 3) := by decide +kernel
theorem dX9_season_21 : decode cX9_season 21 = .ok (.iload_n 2, 1) := by decide +kernel
theorem dX9_season_22 : decode cX9_season 22 = .ok (.dup2, 1) := by decide +kernel
theorem dX9_season_23 : decode cX9_season 23 = .ok (.iaload, 1) := by decide +kernel
theorem dX9_season_24 : decode cX9_season 24 = .ok (.iconst 1, 1) := by decide +kernel
theorem dX9_season_25 : decode cX9_season 25 = .ok (.iadd, 1) := by decide +kernel
theorem dX9_season_26 : decode cX9_season 26 = .ok (.iastore, 1) := by decide +kernel
theorem dX9_season_27 : decode cX9_season 27 = .ok (.aload_n 0, 1) := by decide +kernel
theorem dX9_season_28 : decode cX9_season 28 = .ok (.getfield 43, 3) := by decide +kernel
theorem dX9_season_31 : decode cX9_season 31 = .ok (.iload_n 2, 1) := by decide +kernel
theorem dX9_season_32 : decode cX9_season 32 = .ok (.aload_n 0, 1) := by decide +kernel
theorem dX9_season_33 : decode cX9_season 33 = .ok (.getfield 22, 3) := by decide +kernel
theorem dX9_season_36 : decode cX9_season 36 = .ok (.iload_n 2, 1) := by decide +kernel
theorem dX9_season_37 : decode cX9_season 37 = .ok (.iaload, 1) := by decide +kernel
theorem dX9_season_38 : decode cX9_season 38 = .ok (.iconst (-1), 1) := by decide +kernel
theorem dX9_season_39 : decode cX9_season 39 = .ok (.if_icmp .eq 21, 3) := by decide +kernel
theorem dX9_season_42 : decode cX9_season 42 = .ok (.aload_n 0, 1) := by decide +kernel
theorem dX9_season_43 : decode cX9_season 43 = .ok (.aload_n 0, 1) := by decide +kernel
theorem dX9_season_44 : decode cX9_season 44 = .ok (.getfield 22, 3) := by decide +kernel
theorem dX9_season_47 : decode cX9_season 47 = .ok (.iload_n 2, 1) := by decide +kernel
theorem dX9_season_48 : decode cX9_season 48 = .ok (.iaload, 1) := by decide +kernel
theorem dX9_season_49 : decode cX9_season 49 = .ok (.iload_n 2, 1) := by decide +kernel
theorem dX9_season_50 : decode cX9_season 50 = .ok (.invokevirtual 136, 3) := by decide +kernel
theorem dX9_season_53 : decode cX9_season 53 = .ok (.ifCond .ne 7, 3) := by decide +kernel
theorem dX9_season_56 : decode cX9_season 56 = .ok (.iconst 1, 1) := by decide +kernel
theorem dX9_season_57 : decode cX9_season 57 = .ok (.goto 4, 3) := by decide +kernel
theorem dX9_season_60 : decode cX9_season 60 = .ok (.iconst 0, 1) := by decide +kernel
theorem dX9_season_61 : decode cX9_season 61 = .ok (.bastore, 1) := by decide +kernel
theorem dX9_season_62 : decode cX9_season 62 = .ok (.aload_n 0, 1) := by decide +kernel
theorem dX9_season_63 : decode cX9_season 63 = .ok (.getfield 43, 3) := by decide +kernel
theorem dX9_season_66 : decode cX9_season 66 = .ok (.iload_n 2, 1) := by decide +kernel
theorem dX9_season_67 : decode cX9_season 67 = .ok (.baload, 1) := by decide +kernel
theorem dX9_season_68 : decode cX9_season 68 = .ok (.ifCond .eq 11, 3) := by decide +kernel
theorem dX9_season_71 : decode cX9_season 71 = .ok (.aload_n 0, 1) := by decide +kernel
theorem dX9_season_72 : decode cX9_season 72 = .ok (.iload_n 2, 1) := by decide +kernel
theorem dX9_season_73 : decode cX9_season 73 = .ok (.invokevirtual 143, 3) := by decide +kernel
theorem dX9_season_76 : decode cX9_season 76 = .ok (.iinc 1 1, 3) := by decide +kernel
theorem dX9_season_79 : decode cX9_season 79 = .ok (.aload_n 0, 1) := by decide +kernel
theorem dX9_season_80 : decode cX9_season 80 = .ok (.getfield 25, 3) := by decide +kernel
theorem dX9_season_83 : decode cX9_season 83 = .ok (.iload_n 2, 1) := by decide +kernel
theorem dX9_season_84 : decode cX9_season 84 = .ok (.iaload, 1) := by decide +kernel
theorem dX9_season_85 : decode cX9_season 85 = .ok (.iconst (-1), 1) := by decide +kernel
theorem dX9_season_86 : decode cX9_season 86 = .ok (.if_icmp .eq 24, 3) := by decide +kernel
theorem dX9_season_89 : decode cX9_season 89 = .ok (.aload_n 0, 1) := by decide +kernel
theorem dX9_season_90 : decode cX9_season 90 = .ok (.aload_n 0, 1) := by decide +kernel
theorem dX9_season_91 : decode cX9_season 91 = .ok (.getfield 25, 3) := by decide +kernel
theorem dX9_season_94 : decode cX9_season 94 = .ok (.iload_n 2, 1) := by decide +kernel
theorem dX9_season_95 : decode cX9_season 95 = .ok (.iaload, 1) := by decide +kernel
theorem dX9_season_96 : decode cX9_season 96 = .ok (.iload_n 2, 1) := by decide +kernel
theorem dX9_season_97 : decode cX9_season 97 = .ok (.invokevirtual 136, 3) := by decide +kernel
theorem dX9_season_100 : decode cX9_season 100 = .ok (.ifCond .ne 10, 3) := by decide +kernel
theorem dX9_season_103 : decode cX9_season 103 = .ok (.aload_n 0, 1) := by decide +kernel
theorem dX9_season_104 : decode cX9_season 104 = .ok (.getfield 25, 3) := by decide +kernel
theorem dX9_season_107 : decode cX9_season 107 = .ok (.iload_n 2, 1) := by decide +kernel
theorem dX9_season_108 : decode cX9_season 108 = .ok (.iconst (-1), 1) := by decide +kernel
theorem dX9_season_109 : decode cX9_season 109 = .ok (.iastore, 1) := by decide +kernel
theorem dX9_season_110 : decode cX9_season 110 = .ok (.iinc 2 1, 3) := by decide +kernel
theorem dX9_season_113 : decode cX9_season 113 = .ok (.goto (-104), 3) := by decide +kernel
theorem dX9_season_116 : decode cX9_season 116 = .ok (.iconst 0, 1) := by decide +kernel
theorem dX9_season_117 : decode cX9_season 117 = .ok (.istore_n 2, 1) := by decide +kernel
theorem dX9_season_118 : decode cX9_season 118 = .ok (.iload_n 2, 1) := by decide +kernel
theorem dX9_season_119 : decode cX9_season 119 = .ok (.aload_n 0, 1) := by decide +kernel
theorem dX9_season_120 : decode cX9_season 120 = .ok (.getfield 90, 3) := by decide +kernel
theorem dX9_season_123 : decode cX9_season 123 = .ok (.if_icmp .ge 45, 3) := by decide +kernel
theorem dX9_season_126 : decode cX9_season 126 = .ok (.aload_n 0, 1) := by decide +kernel
theorem dX9_season_127 : decode cX9_season 127 = .ok (.iload_n 2, 1) := by decide +kernel
theorem dX9_season_128 : decode cX9_season 128 = .ok (.invokevirtual 116, 3) := by decide +kernel
theorem dX9_season_131 : decode cX9_season 131 = .ok (.aload_n 0, 1) := by decide +kernel
theorem dX9_season_132 : decode cX9_season 132 = .ok (.getfield 16, 3) := by decide +kernel
theorem dX9_season_135 : decode cX9_season 135 = .ok (.iload_n 2, 1) := by decide +kernel
theorem dX9_season_136 : decode cX9_season 136 = .ok (.iaload, 1) := by decide +kernel
theorem dX9_season_137 : decode cX9_season 137 = .ok (.if_icmp .ge 25, 3) := by decide +kernel
theorem dX9_season_140 : decode cX9_season 140 = .ok (.aload_n 0, 1) := by decide +kernel
theorem dX9_season_141 : decode cX9_season 141 = .ok (.iload_n 2, 1) := by decide +kernel
theorem dX9_season_142 : decode cX9_season 142 = .ok (.invokevirtual 147, 3) := by decide +kernel
theorem dX9_season_145 : decode cX9_season 145 = .ok (.iconst (-1), 1) := by decide +kernel
theorem dX9_season_146 : decode cX9_season 146 = .ok (.if_icmp .eq 16, 3) := by decide +kernel
theorem dX9_season_149 : decode cX9_season 149 = .ok (.aload_n 0, 1) := by decide +kernel
theorem dX9_season_150 : decode cX9_season 150 = .ok (.aload_n 0, 1) := by decide +kernel
theorem dX9_season_151 : decode cX9_season 151 = .ok (.iload_n 2, 1) := by decide +kernel
theorem dX9_season_152 : decode cX9_season 152 = .ok (.invokevirtual 147, 3) := by decide +kernel
theorem dX9_season_155 : decode cX9_season 155 = .ok (.iload_n 2, 1) := by decide +kernel
theorem dX9_season_156 : decode cX9_season 156 = .ok (.invokevirtual 119, 3) := by decide +kernel
theorem dX9_season_159 : decode cX9_season 159 = .ok (.goto (-33), 3) := by decide +kernel
theorem dX9_season_162 : decode cX9_season 162 = .ok (.iinc 2 1, 3) := by decide +kernel
theorem dX9_season_165 : decode cX9_season 165 = .ok (.goto (-47), 3) := by decide +kernel
theorem dX9_season_168 : decode cX9_season 168 = .ok (.iconst 0, 1) := by decide +kernel
theorem dX9_season_169 : decode cX9_season 169 = .ok (.istore_n 2, 1) := by decide +kernel
theorem dX9_season_170 : decode cX9_season 170 = .ok (.iload_n 2, 1) := by decide +kernel
theorem dX9_season_171 : decode cX9_season 171 = .ok (.aload_n 0, 1) := by decide +kernel
theorem dX9_season_172 : decode cX9_season 172 = .ok (.getfield 97, 3) := by decide +kernel
theorem dX9_season_175 : decode cX9_season 175 = .ok (.if_icmp .ge 23, 3) := by decide +kernel
theorem dX9_season_178 : decode cX9_season 178 = .ok (.aload_n 0, 1) := by decide +kernel
theorem dX9_season_179 : decode cX9_season 179 = .ok (.getfield 43, 3) := by decide +kernel
theorem dX9_season_182 : decode cX9_season 182 = .ok (.iload_n 2, 1) := by decide +kernel
theorem dX9_season_183 : decode cX9_season 183 = .ok (.baload, 1) := by decide +kernel
theorem dX9_season_184 : decode cX9_season 184 = .ok (.ifCond .eq 8, 3) := by decide +kernel
theorem dX9_season_187 : decode cX9_season 187 = .ok (.aload_n 0, 1) := by decide +kernel
theorem dX9_season_188 : decode cX9_season 188 = .ok (.iload_n 2, 1) := by decide +kernel
theorem dX9_season_189 : decode cX9_season 189 = .ok (.invokevirtual 156, 3) := by decide +kernel
theorem dX9_season_192 : decode cX9_season 192 = .ok (.iinc 2 1, 3) := by decide +kernel
theorem dX9_season_195 : decode cX9_season 195 = .ok (.goto (-25), 3) := by decide +kernel
theorem dX9_season_198 : decode cX9_season 198 = .ok (.iload_n 1, 1) := by decide +kernel
theorem dX9_season_199 : decode cX9_season 199 = .ok (.ireturn, 1) := by decide +kernel
theorem dX9_leader_0 : decode cX9_leader 0 = .ok (.aload_n 0, 1) := by decide +kernel
theorem dX9_leader_1 : decode cX9_leader 1 = .ok (.aload_n 0, 1) := by decide +kernel
theorem dX9_leader_2 : decode cX9_leader 2 = .ok (.getfield 100, 3) := by decide +kernel
theorem dX9_leader_5 : decode cX9_leader 5 = .ok (.bipush 8, 2) := by decide +kernel
theorem dX9_leader_7 : decode cX9_leader 7 = .ok (.if_icmp .ge 7, 3) := by decide +kernel
theorem dX9_leader_10 : decode cX9_leader 10 = .ok (.iconst 1, 1) := by decide +kernel
theorem dX9_leader_11 : decode cX9_leader 11 = .ok (.goto 4, 3) := by decide +kernel
theorem dX9_leader_14 : decode cX9_leader 14 = .ok (.iconst 0, 1) := by decide +kernel
theorem dX9_leader_15 : decode cX9_leader 15 = .ok (.invokevirtual 104, 3) := by decide +kernel
theorem dX9_leader_18 : decode cX9_leader 18 = .ok (.ifCond .ne 5, 3) := by decide +kernel
theorem dX9_leader_21 : decode cX9_leader 21 = .ok (.iconst 0, 1) := by decide +kernel
theorem dX9_leader_22 : decode cX9_leader 22 = .ok (.ireturn, 1) := by decide +kernel
theorem dX9_leader_23 : decode cX9_leader 23 = .ok (.aload_n 0, 1) := by decide +kernel
theorem dX9_leader_24 : decode cX9_leader 24 = .ok (.dup, 1) := by decide +kernel
theorem dX9_leader_25 : decode cX9_leader 25 = .ok (.getfield 100, 3) := by decide +kernel
theorem dX9_leader_28 : decode cX9_leader 28 = .ok (.iconst 1, 1) := by decide +kernel
theorem dX9_leader_29 : decode cX9_leader 29 = .ok (.iadd, 1) := by decide +kernel
theorem dX9_leader_30 : decode cX9_leader 30 = .ok (.putfield 100, 3) := by decide +kernel
theorem dX9_leader_33 : decode cX9_leader 33 = .ok (.aload_n 0, 1) := by decide +kernel
theorem dX9_leader_34 : decode cX9_leader 34 = .ok (.getfield 100, 3) := by decide +kernel
theorem dX9_leader_37 : decode cX9_leader 37 = .ok (.iconst 1, 1) := by decide +kernel
theorem dX9_leader_38 : decode cX9_leader 38 = .ok (.isub, 1) := by decide +kernel
theorem dX9_leader_39 : decode cX9_leader 39 = .ok (.ireturn, 1) := by decide +kernel
theorem dX9_isLand_0 : decode cX9_isLand 0 = .ok (.iload_n 0, 1) := by decide +kernel
theorem dX9_isLand_1 : decode cX9_isLand 1 = .ok (.iconst 0, 1) := by decide +kernel
theorem dX9_isLand_2 : decode cX9_isLand 2 = .ok (.iconst 2, 1) := by decide +kernel
theorem dX9_isLand_3 : decode cX9_isLand 3 = .ok (.invokestatic 93, 3) := by decide +kernel
theorem dX9_isLand_6 : decode cX9_isLand 6 = .ok (.ireturn, 1) := by decide +kernel
theorem dX9_vet_0 : decode cX9_vet 0 = .ok (.aload_n 0, 1) := by decide +kernel
theorem dX9_vet_1 : decode cX9_vet 1 = .ok (.aload_n 0, 1) := by decide +kernel
theorem dX9_vet_2 : decode cX9_vet 2 = .ok (.iload_n 1, 1) := by decide +kernel
theorem dX9_vet_3 : decode cX9_vet 3 = .ok (.invokevirtual 159, 3) := by decide +kernel
theorem dX9_vet_6 : decode cX9_vet 6 = .ok (.ifCond .eq 14, 3) := by decide +kernel
theorem dX9_vet_9 : decode cX9_vet 9 = .ok (.iload_n 2, 1) := by decide +kernel
theorem dX9_vet_10 : decode cX9_vet 10 = .ok (.invokestatic 162, 3) := by decide +kernel
theorem dX9_vet_13 : decode cX9_vet 13 = .ok (.ifCond .eq 7, 3) := by decide +kernel
theorem dX9_vet_16 : decode cX9_vet 16 = .ok (.iconst 1, 1) := by decide +kernel
theorem dX9_vet_17 : decode cX9_vet 17 = .ok (.goto 4, 3) := by decide +kernel
theorem dX9_vet_20 : decode cX9_vet 20 = .ok (.iconst 0, 1) := by decide +kernel
theorem dX9_vet_21 : decode cX9_vet 21 = .ok (.invokevirtual 104, 3) := by decide +kernel
theorem dX9_vet_24 : decode cX9_vet 24 = .ok (.ifCond .ne 4, 3) := by decide +kernel
theorem dX9_vet_27 : decode cX9_vet 27 = .ok (.return_, 1) := by decide +kernel
theorem dX9_vet_28 : decode cX9_vet 28 = .ok (.iload_n 3, 1) := by decide +kernel
theorem dX9_vet_29 : decode cX9_vet 29 = .ok (.invokestatic 150, 3) := by decide +kernel
theorem dX9_vet_32 : decode cX9_vet 32 = .ok (.ifCond .eq 15, 3) := by decide +kernel
theorem dX9_vet_35 : decode cX9_vet 35 = .ok (.iload 4, 2) := by decide +kernel
theorem dX9_vet_37 : decode cX9_vet 37 = .ok (.iload_n 3, 1) := by decide +kernel
theorem dX9_vet_38 : decode cX9_vet 38 = .ok (.sipush 9999, 3) := by decide +kernel
theorem dX9_vet_41 : decode cX9_vet 41 = .ok (.invokestatic 93, 3) := by decide +kernel
theorem dX9_vet_44 : decode cX9_vet 44 = .ok (.ifCond .ne 9, 3) := by decide +kernel
theorem dX9_vet_47 : decode cX9_vet 47 = .ok (.aload_n 0, 1) := by decide +kernel
theorem dX9_vet_48 : decode cX9_vet 48 = .ok (.iconst 2, 1) := by decide +kernel
theorem dX9_vet_49 : decode cX9_vet 49 = .ok (.putfield 86, 3) := by decide +kernel
theorem dX9_vet_52 : decode cX9_vet 52 = .ok (.return_, 1) := by decide +kernel
theorem dX9_vet_53 : decode cX9_vet 53 = .ok (.aload_n 0, 1) := by decide +kernel
theorem dX9_vet_54 : decode cX9_vet 54 = .ok (.getfield 56, 3) := by decide +kernel
theorem dX9_vet_57 : decode cX9_vet 57 = .ok (.bipush 6, 2) := by decide +kernel
theorem dX9_vet_59 : decode cX9_vet 59 = .ok (.iload_n 1, 1) := by decide +kernel
theorem dX9_vet_60 : decode cX9_vet 60 = .ok (.imul, 1) := by decide +kernel
theorem dX9_vet_61 : decode cX9_vet 61 = .ok (.iconst 2, 1) := by decide +kernel
theorem dX9_vet_62 : decode cX9_vet 62 = .ok (.iload_n 2, 1) := by decide +kernel
theorem dX9_vet_63 : decode cX9_vet 63 = .ok (.imul, 1) := by decide +kernel
theorem dX9_vet_64 : decode cX9_vet 64 = .ok (.iadd, 1) := by decide +kernel
theorem dX9_vet_65 : decode cX9_vet 65 = .ok (.iload_n 3, 1) := by decide +kernel
theorem dX9_vet_66 : decode cX9_vet 66 = .ok (.iastore, 1) := by decide +kernel
theorem dX9_vet_67 : decode cX9_vet 67 = .ok (.aload_n 0, 1) := by decide +kernel
theorem dX9_vet_68 : decode cX9_vet 68 = .ok (.getfield 56, 3) := by decide +kernel
theorem dX9_vet_71 : decode cX9_vet 71 = .ok (.bipush 6, 2) := by decide +kernel
theorem dX9_vet_73 : decode cX9_vet 73 = .ok (.iload_n 1, 1) := by decide +kernel
theorem dX9_vet_74 : decode cX9_vet 74 = .ok (.imul, 1) := by decide +kernel
theorem dX9_vet_75 : decode cX9_vet 75 = .ok (.iconst 2, 1) := by decide +kernel
theorem dX9_vet_76 : decode cX9_vet 76 = .ok (.iload_n 2, 1) := by decide +kernel
theorem dX9_vet_77 : decode cX9_vet 77 = .ok (.imul, 1) := by decide +kernel
theorem dX9_vet_78 : decode cX9_vet 78 = .ok (.iadd, 1) := by decide +kernel
theorem dX9_vet_79 : decode cX9_vet 79 = .ok (.iconst 1, 1) := by decide +kernel
theorem dX9_vet_80 : decode cX9_vet 80 = .ok (.iadd, 1) := by decide +kernel
theorem dX9_vet_81 : decode cX9_vet 81 = .ok (.iload 4, 2) := by decide +kernel
theorem dX9_vet_83 : decode cX9_vet 83 = .ok (.iastore, 1) := by decide +kernel
theorem dX9_vet_84 : decode cX9_vet 84 = .ok (.return_, 1) := by decide +kernel
theorem dX9_isVetted_0 : decode cX9_isVetted 0 = .ok (.iload_n 3, 1) := by decide +kernel
theorem dX9_isVetted_1 : decode cX9_isVetted 1 = .ok (.aload_n 0, 1) := by decide +kernel
theorem dX9_isVetted_2 : decode cX9_isVetted 2 = .ok (.getfield 56, 3) := by decide +kernel
theorem dX9_isVetted_5 : decode cX9_isVetted 5 = .ok (.bipush 6, 2) := by decide +kernel
theorem dX9_isVetted_7 : decode cX9_isVetted 7 = .ok (.iload_n 1, 1) := by decide +kernel
theorem dX9_isVetted_8 : decode cX9_isVetted 8 = .ok (.imul, 1) := by decide +kernel
theorem dX9_isVetted_9 : decode cX9_isVetted 9 = .ok (.iconst 2, 1) := by decide +kernel
theorem dX9_isVetted_10 : decode cX9_isVetted 10 = .ok (.iload_n 2, 1) := by decide +kernel
theorem dX9_isVetted_11 : decode cX9_isVetted 11 = .ok (.imul, 1) := by decide +kernel
theorem dX9_isVetted_12 : decode cX9_isVetted 12 = .ok (.iadd, 1) := by decide +kernel
theorem dX9_isVetted_13 : decode cX9_isVetted 13 = .ok (.iaload, 1) := by decide +kernel
theorem dX9_isVetted_14 : decode cX9_isVetted 14 = .ok (.aload_n 0, 1) := by decide +kernel
theorem dX9_isVetted_15 : decode cX9_isVetted 15 = .ok (.getfield 56, 3) := by decide +kernel
theorem dX9_isVetted_18 : decode cX9_isVetted 18 = .ok (.bipush 6, 2) := by decide +kernel
theorem dX9_isVetted_20 : decode cX9_isVetted 20 = .ok (.iload_n 1, 1) := by decide +kernel
theorem dX9_isVetted_21 : decode cX9_isVetted 21 = .ok (.imul, 1) := by decide +kernel
theorem dX9_isVetted_22 : decode cX9_isVetted 22 = .ok (.iconst 2, 1) := by decide +kernel
theorem dX9_isVetted_23 : decode cX9_isVetted 23 = .ok (.iload_n 2, 1) := by decide +kernel
theorem dX9_isVetted_24 : decode cX9_isVetted 24 = .ok (.imul, 1) := by decide +kernel
theorem dX9_isVetted_25 : decode cX9_isVetted 25 = .ok (.iadd, 1) := by decide +kernel
theorem dX9_isVetted_26 : decode cX9_isVetted 26 = .ok (.iconst 1, 1) := by decide +kernel
theorem dX9_isVetted_27 : decode cX9_isVetted 27 = .ok (.iadd, 1) := by decide +kernel
theorem dX9_isVetted_28 : decode cX9_isVetted 28 = .ok (.iaload, 1) := by decide +kernel
theorem dX9_isVetted_29 : decode cX9_isVetted 29 = .ok (.invokestatic 93, 3) := by decide +kernel
theorem dX9_isVetted_32 : decode cX9_isVetted 32 = .ok (.ireturn, 1) := by decide +kernel
theorem dX9_permit_0 : decode cX9_permit 0 = .ok (.aload_n 0, 1) := by decide +kernel
theorem dX9_permit_1 : decode cX9_permit 1 = .ok (.aload_n 0, 1) := by decide +kernel
theorem dX9_permit_2 : decode cX9_permit 2 = .ok (.iload_n 1, 1) := by decide +kernel
theorem dX9_permit_3 : decode cX9_permit 3 = .ok (.invokevirtual 159, 3) := by decide +kernel
theorem dX9_permit_6 : decode cX9_permit 6 = .ok (.invokevirtual 104, 3) := by decide +kernel
theorem dX9_permit_9 : decode cX9_permit 9 = .ok (.ifCond .ne 5, 3) := by decide +kernel
theorem dX9_permit_12 : decode cX9_permit 12 = .ok (.iconst 0, 1) := by decide +kernel
theorem dX9_permit_13 : decode cX9_permit 13 = .ok (.ireturn, 1) := by decide +kernel
theorem dX9_permit_14 : decode cX9_permit 14 = .ok (.iload_n 2, 1) := by decide +kernel
theorem dX9_permit_15 : decode cX9_permit 15 = .ok (.iconst 1, 1) := by decide +kernel
theorem dX9_permit_16 : decode cX9_permit 16 = .ok (.iconst 3, 1) := by decide +kernel
theorem dX9_permit_17 : decode cX9_permit 17 = .ok (.invokestatic 93, 3) := by decide +kernel
theorem dX9_permit_20 : decode cX9_permit 20 = .ok (.ifCond .eq 14, 3) := by decide +kernel
theorem dX9_permit_23 : decode cX9_permit 23 = .ok (.iload_n 3, 1) := by decide +kernel
theorem dX9_permit_24 : decode cX9_permit 24 = .ok (.iconst (-1), 1) := by decide +kernel
theorem dX9_permit_25 : decode cX9_permit 25 = .ok (.sipush 9999, 3) := by decide +kernel
theorem dX9_permit_28 : decode cX9_permit 28 = .ok (.invokestatic 93, 3) := by decide +kernel
theorem dX9_permit_31 : decode cX9_permit 31 = .ok (.ifCond .ne 9, 3) := by decide +kernel
theorem dX9_permit_34 : decode cX9_permit 34 = .ok (.aload_n 0, 1) := by decide +kernel
theorem dX9_permit_35 : decode cX9_permit 35 = .ok (.iconst 2, 1) := by decide +kernel
theorem dX9_permit_36 : decode cX9_permit 36 = .ok (.invokevirtual 108, 3) := by decide +kernel
theorem dX9_permit_39 : decode cX9_permit 39 = .ok (.ireturn, 1) := by decide +kernel
theorem dX9_permit_40 : decode cX9_permit 40 = .ok (.aload_n 0, 1) := by decide +kernel
theorem dX9_permit_41 : decode cX9_permit 41 = .ok (.getfield 59, 3) := by decide +kernel
theorem dX9_permit_44 : decode cX9_permit 44 = .ok (.iconst 3, 1) := by decide +kernel
theorem dX9_permit_45 : decode cX9_permit 45 = .ok (.iload_n 1, 1) := by decide +kernel
theorem dX9_permit_46 : decode cX9_permit 46 = .ok (.imul, 1) := by decide +kernel
theorem dX9_permit_47 : decode cX9_permit 47 = .ok (.iload_n 2, 1) := by decide +kernel
theorem dX9_permit_48 : decode cX9_permit 48 = .ok (.iadd, 1) := by decide +kernel
theorem dX9_permit_49 : decode cX9_permit 49 = .ok (.iconst 1, 1) := by decide +kernel
theorem dX9_permit_50 : decode cX9_permit 50 = .ok (.isub, 1) := by decide +kernel
theorem dX9_permit_51 : decode cX9_permit 51 = .ok (.iaload, 1) := by decide +kernel
theorem dX9_permit_52 : decode cX9_permit 52 = .ok (.istore 4, 2) := by decide +kernel
theorem dX9_permit_54 : decode cX9_permit 54 = .ok (.aload_n 0, 1) := by decide +kernel
theorem dX9_permit_55 : decode cX9_permit 55 = .ok (.getfield 59, 3) := by decide +kernel
theorem dX9_permit_58 : decode cX9_permit 58 = .ok (.iconst 3, 1) := by decide +kernel
theorem dX9_permit_59 : decode cX9_permit 59 = .ok (.iload_n 1, 1) := by decide +kernel
theorem dX9_permit_60 : decode cX9_permit 60 = .ok (.imul, 1) := by decide +kernel
theorem dX9_permit_61 : decode cX9_permit 61 = .ok (.iload_n 2, 1) := by decide +kernel
theorem dX9_permit_62 : decode cX9_permit 62 = .ok (.iadd, 1) := by decide +kernel
theorem dX9_permit_63 : decode cX9_permit 63 = .ok (.iconst 1, 1) := by decide +kernel
theorem dX9_permit_64 : decode cX9_permit 64 = .ok (.isub, 1) := by decide +kernel
theorem dX9_permit_65 : decode cX9_permit 65 = .ok (.iload_n 3, 1) := by decide +kernel
theorem dX9_permit_66 : decode cX9_permit 66 = .ok (.iastore, 1) := by decide +kernel
theorem dX9_permit_67 : decode cX9_permit 67 = .ok (.iload 4, 2) := by decide +kernel
theorem dX9_permit_69 : decode cX9_permit 69 = .ok (.ireturn, 1) := by decide +kernel
theorem dX9_teach_0 : decode cX9_teach 0 = .ok (.aload_n 0, 1) := by decide +kernel
theorem dX9_teach_1 : decode cX9_teach 1 = .ok (.aload_n 0, 1) := by decide +kernel
theorem dX9_teach_2 : decode cX9_teach 2 = .ok (.iload_n 1, 1) := by decide +kernel
theorem dX9_teach_3 : decode cX9_teach 3 = .ok (.invokevirtual 159, 3) := by decide +kernel
theorem dX9_teach_6 : decode cX9_teach 6 = .ok (.invokevirtual 104, 3) := by decide +kernel
theorem dX9_teach_9 : decode cX9_teach 9 = .ok (.ifCond .ne 5, 3) := by decide +kernel
theorem dX9_teach_12 : decode cX9_teach 12 = .ok (.iconst 0, 1) := by decide +kernel
theorem dX9_teach_13 : decode cX9_teach 13 = .ok (.ireturn, 1) := by decide +kernel
theorem dX9_teach_14 : decode cX9_teach 14 = .ok (.iload_n 2, 1) := by decide +kernel
theorem dX9_teach_15 : decode cX9_teach 15 = .ok (.invokestatic 165, 3) := by decide +kernel
theorem dX9_teach_18 : decode cX9_teach 18 = .ok (.ifCond .ne 9, 3) := by decide +kernel
theorem dX9_teach_21 : decode cX9_teach 21 = .ok (.aload_n 0, 1) := by decide +kernel
theorem dX9_teach_22 : decode cX9_teach 22 = .ok (.iconst 2, 1) := by decide +kernel
theorem dX9_teach_23 : decode cX9_teach 23 = .ok (.invokevirtual 108, 3) := by decide +kernel
theorem dX9_teach_26 : decode cX9_teach 26 = .ok (.ireturn, 1) := by decide +kernel
theorem dX9_teach_27 : decode cX9_teach 27 = .ok (.aload_n 0, 1) := by decide +kernel
theorem dX9_teach_28 : decode cX9_teach 28 = .ok (.getfield 62, 3) := by decide +kernel
theorem dX9_teach_31 : decode cX9_teach 31 = .ok (.iload_n 1, 1) := by decide +kernel
theorem dX9_teach_32 : decode cX9_teach 32 = .ok (.iaload, 1) := by decide +kernel
theorem dX9_teach_33 : decode cX9_teach 33 = .ok (.istore_n 3, 1) := by decide +kernel
theorem dX9_teach_34 : decode cX9_teach 34 = .ok (.aload_n 0, 1) := by decide +kernel
theorem dX9_teach_35 : decode cX9_teach 35 = .ok (.getfield 62, 3) := by decide +kernel
theorem dX9_teach_38 : decode cX9_teach 38 = .ok (.iload_n 1, 1) := by decide +kernel
theorem dX9_teach_39 : decode cX9_teach 39 = .ok (.iload_n 2, 1) := by decide +kernel
theorem dX9_teach_40 : decode cX9_teach 40 = .ok (.iastore, 1) := by decide +kernel
theorem dX9_teach_41 : decode cX9_teach 41 = .ok (.iload_n 3, 1) := by decide +kernel
theorem dX9_teach_42 : decode cX9_teach 42 = .ok (.ireturn, 1) := by decide +kernel
theorem dX9_isBadge_0 : decode cX9_isBadge 0 = .ok (.iload_n 0, 1) := by decide +kernel
theorem dX9_isBadge_1 : decode cX9_isBadge 1 = .ok (.iconst 0, 1) := by decide +kernel
theorem dX9_isBadge_2 : decode cX9_isBadge 2 = .ok (.bipush 7, 2) := by decide +kernel
theorem dX9_isBadge_4 : decode cX9_isBadge 4 = .ok (.invokestatic 93, 3) := by decide +kernel
theorem dX9_isBadge_7 : decode cX9_isBadge 7 = .ok (.ireturn, 1) := by decide +kernel
theorem dX9_edition_0 : decode cX9_edition 0 = .ok (.aload_n 0, 1) := by decide +kernel
theorem dX9_edition_1 : decode cX9_edition 1 = .ok (.iload_n 1, 1) := by decide +kernel
theorem dX9_edition_2 : decode cX9_edition 2 = .ok (.invokestatic 168, 3) := by decide +kernel
theorem dX9_edition_5 : decode cX9_edition 5 = .ok (.invokevirtual 104, 3) := by decide +kernel
theorem dX9_edition_8 : decode cX9_edition 8 = .ok (.ifCond .ne 5, 3) := by decide +kernel
theorem dX9_edition_11 : decode cX9_edition 11 = .ok (.iconst 0, 1) := by decide +kernel
theorem dX9_edition_12 : decode cX9_edition 12 = .ok (.ireturn, 1) := by decide +kernel
theorem dX9_edition_13 : decode cX9_edition 13 = .ok (.iload_n 2, 1) := by decide +kernel
theorem dX9_edition_14 : decode cX9_edition 14 = .ok (.invokestatic 165, 3) := by decide +kernel
theorem dX9_edition_17 : decode cX9_edition 17 = .ok (.ifCond .eq 20, 3) := by decide +kernel
theorem dX9_edition_20 : decode cX9_edition 20 = .ok (.iload_n 3, 1) := by decide +kernel
theorem dX9_edition_21 : decode cX9_edition 21 = .ok (.invokestatic 165, 3) := by decide +kernel
theorem dX9_edition_24 : decode cX9_edition 24 = .ok (.ifCond .eq 13, 3) := by decide +kernel
theorem dX9_edition_27 : decode cX9_edition 27 = .ok (.iload_n 2, 1) := by decide +kernel
theorem dX9_edition_28 : decode cX9_edition 28 = .ok (.iload_n 3, 1) := by decide +kernel
theorem dX9_edition_29 : decode cX9_edition 29 = .ok (.iand, 1) := by decide +kernel
theorem dX9_edition_30 : decode cX9_edition 30 = .ok (.ifCond .ne 7, 3) := by decide +kernel
theorem dX9_edition_33 : decode cX9_edition 33 = .ok (.iconst 1, 1) := by decide +kernel
theorem dX9_edition_34 : decode cX9_edition 34 = .ok (.goto 4, 3) := by decide +kernel
theorem dX9_edition_37 : decode cX9_edition 37 = .ok (.iconst 0, 1) := by decide +kernel
theorem dX9_edition_38 : decode cX9_edition 38 = .ok (.istore 8, 2) := by decide +kernel
theorem dX9_edition_40 : decode cX9_edition 40 = .ok (.iload 8, 2) := by decide +kernel
theorem dX9_edition_42 : decode cX9_edition 42 = .ok (.ifCond .eq 58, 3) := by decide +kernel
theorem dX9_edition_45 : decode cX9_edition 45 = .ok (.iload 4, 2) := by decide +kernel
theorem dX9_edition_47 : decode cX9_edition 47 = .ok (.iconst 0, 1) := by decide +kernel
theorem dX9_edition_48 : decode cX9_edition 48 = .ok (.iload_n 3, 1) := by decide +kernel
theorem dX9_edition_49 : decode cX9_edition 49 = .ok (.invokestatic 171, 3) := by decide +kernel
theorem dX9_edition_52 : decode cX9_edition 52 = .ok (.invokestatic 93, 3) := by decide +kernel
theorem dX9_edition_55 : decode cX9_edition 55 = .ok (.ifCond .eq 45, 3) := by decide +kernel
theorem dX9_edition_58 : decode cX9_edition 58 = .ok (.iload 5, 2) := by decide +kernel
theorem dX9_edition_60 : decode cX9_edition 60 = .ok (.iconst (-1), 1) := by decide +kernel
theorem dX9_edition_61 : decode cX9_edition 61 = .ok (.iload_n 1, 1) := by decide +kernel
theorem dX9_edition_62 : decode cX9_edition 62 = .ok (.iconst 1, 1) := by decide +kernel
theorem dX9_edition_63 : decode cX9_edition 63 = .ok (.isub, 1) := by decide +kernel
theorem dX9_edition_64 : decode cX9_edition 64 = .ok (.invokestatic 93, 3) := by decide +kernel
theorem dX9_edition_67 : decode cX9_edition 67 = .ok (.ifCond .eq 33, 3) := by decide +kernel
theorem dX9_edition_70 : decode cX9_edition 70 = .ok (.iload 5, 2) := by decide +kernel
theorem dX9_edition_72 : decode cX9_edition 72 = .ok (.iconst (-1), 1) := by decide +kernel
theorem dX9_edition_73 : decode cX9_edition 73 = .ok (.if_icmp .eq 15, 3) := by decide +kernel
theorem dX9_edition_76 : decode cX9_edition 76 = .ok (.iload 6, 2) := by decide +kernel
theorem dX9_edition_78 : decode cX9_edition 78 = .ok (.iconst 0, 1) := by decide +kernel
theorem dX9_edition_79 : decode cX9_edition 79 = .ok (.sipush 400, 3) := by decide +kernel
theorem dX9_edition_82 : decode cX9_edition 82 = .ok (.invokestatic 93, 3) := by decide +kernel
theorem dX9_edition_85 : decode cX9_edition 85 = .ok (.ifCond .eq 15, 3) := by decide +kernel
theorem dX9_edition_88 : decode cX9_edition 88 = .ok (.iload 7, 2) := by decide +kernel
theorem dX9_edition_90 : decode cX9_edition 90 = .ok (.iconst 0, 1) := by decide +kernel
theorem dX9_edition_91 : decode cX9_edition 91 = .ok (.sipush 4000, 3) := by decide +kernel
theorem dX9_edition_94 : decode cX9_edition 94 = .ok (.invokestatic 93, 3) := by decide +kernel
theorem dX9_edition_97 : decode cX9_edition 97 = .ok (.ifCond .ne 9, 3) := by decide +kernel
theorem dX9_edition_100 : decode cX9_edition 100 = .ok (.aload_n 0, 1) := by decide +kernel
theorem dX9_edition_101 : decode cX9_edition 101 = .ok (.iconst 2, 1) := by decide +kernel
theorem dX9_edition_102 : decode cX9_edition 102 = .ok (.invokevirtual 108, 3) := by decide +kernel
theorem dX9_edition_105 : decode cX9_edition 105 = .ok (.ireturn, 1) := by decide +kernel
theorem dX9_edition_106 : decode cX9_edition 106 = .ok (.aload_n 0, 1) := by decide +kernel
theorem dX9_edition_107 : decode cX9_edition 107 = .ok (.getfield 65, 3) := by decide +kernel
theorem dX9_edition_110 : decode cX9_edition 110 = .ok (.iload_n 1, 1) := by decide +kernel
theorem dX9_edition_111 : decode cX9_edition 111 = .ok (.iaload, 1) := by decide +kernel
theorem dX9_edition_112 : decode cX9_edition 112 = .ok (.iconst 3, 1) := by decide +kernel
theorem dX9_edition_113 : decode cX9_edition 113 = .ok (.if_icmp .ne 9, 3) := by decide +kernel
theorem dX9_edition_116 : decode cX9_edition 116 = .ok (.aload_n 0, 1) := by decide +kernel
theorem dX9_edition_117 : decode cX9_edition 117 = .ok (.iconst 3, 1) := by decide +kernel
theorem dX9_edition_118 : decode cX9_edition 118 = .ok (.invokevirtual 108, 3) := by decide +kernel
theorem dX9_edition_121 : decode cX9_edition 121 = .ok (.ireturn, 1) := by decide +kernel
theorem dX9_edition_122 : decode cX9_edition 122 = .ok (.bipush 18, 2) := by decide +kernel
theorem dX9_edition_124 : decode cX9_edition 124 = .ok (.iload_n 1, 1) := by decide +kernel
theorem dX9_edition_125 : decode cX9_edition 125 = .ok (.imul, 1) := by decide +kernel
theorem dX9_edition_126 : decode cX9_edition 126 = .ok (.bipush 6, 2) := by decide +kernel
theorem dX9_edition_128 : decode cX9_edition 128 = .ok (.aload_n 0, 1) := by decide +kernel
theorem dX9_edition_129 : decode cX9_edition 129 = .ok (.getfield 65, 3) := by decide +kernel
theorem dX9_edition_132 : decode cX9_edition 132 = .ok (.iload_n 1, 1) := by decide +kernel
theorem dX9_edition_133 : decode cX9_edition 133 = .ok (.iaload, 1) := by decide +kernel
theorem dX9_edition_134 : decode cX9_edition 134 = .ok (.imul, 1) := by decide +kernel
theorem dX9_edition_135 : decode cX9_edition 135 = .ok (.iadd, 1) := by decide +kernel
theorem dX9_edition_136 : decode cX9_edition 136 = .ok (.istore 9, 2) := by decide +kernel
theorem dX9_edition_138 : decode cX9_edition 138 = .ok (.aload_n 0, 1) := by decide +kernel
theorem dX9_edition_139 : decode cX9_edition 139 = .ok (.getfield 68, 3) := by decide +kernel
theorem dX9_edition_142 : decode cX9_edition 142 = .ok (.iload 9, 2) := by decide +kernel
theorem dX9_edition_144 : decode cX9_edition 144 = .ok (.iload_n 2, 1) := by decide +kernel
theorem dX9_edition_145 : decode cX9_edition 145 = .ok (.iastore, 1) := by decide +kernel
theorem dX9_edition_146 : decode cX9_edition 146 = .ok (.aload_n 0, 1) := by decide +kernel
theorem dX9_edition_147 : decode cX9_edition 147 = .ok (.getfield 68, 3) := by decide +kernel
theorem dX9_edition_150 : decode cX9_edition 150 = .ok (.iload 9, 2) := by decide +kernel
theorem dX9_edition_152 : decode cX9_edition 152 = .ok (.iconst 1, 1) := by decide +kernel
theorem dX9_edition_153 : decode cX9_edition 153 = .ok (.iadd, 1) := by decide +kernel
theorem dX9_edition_154 : decode cX9_edition 154 = .ok (.iload_n 3, 1) := by decide +kernel
theorem dX9_edition_155 : decode cX9_edition 155 = .ok (.iastore, 1) := by decide +kernel
theorem dX9_edition_156 : decode cX9_edition 156 = .ok (.aload_n 0, 1) := by decide +kernel
theorem dX9_edition_157 : decode cX9_edition 157 = .ok (.getfield 68, 3) := by decide +kernel
theorem dX9_edition_160 : decode cX9_edition 160 = .ok (.iload 9, 2) := by decide +kernel
theorem dX9_edition_162 : decode cX9_edition 162 = .ok (.iconst 2, 1) := by decide +kernel
theorem dX9_edition_163 : decode cX9_edition 163 = .ok (.iadd, 1) := by decide +kernel
theorem dX9_edition_164 : decode cX9_edition 164 = .ok (.iload 4, 2) := by decide +kernel
theorem dX9_edition_166 : decode cX9_edition 166 = .ok (.iastore, 1) := by decide +kernel
theorem dX9_edition_167 : decode cX9_edition 167 = .ok (.aload_n 0, 1) := by decide +kernel
theorem dX9_edition_168 : decode cX9_edition 168 = .ok (.getfield 68, 3) := by decide +kernel
theorem dX9_edition_171 : decode cX9_edition 171 = .ok (.iload 9, 2) := by decide +kernel
theorem dX9_edition_173 : decode cX9_edition 173 = .ok (.iconst 3, 1) := by decide +kernel
theorem dX9_edition_174 : decode cX9_edition 174 = .ok (.iadd, 1) := by decide +kernel
theorem dX9_edition_175 : decode cX9_edition 175 = .ok (.iload 5, 2) := by decide +kernel
theorem dX9_edition_177 : decode cX9_edition 177 = .ok (.iastore, 1) := by decide +kernel
theorem dX9_edition_178 : decode cX9_edition 178 = .ok (.aload_n 0, 1) := by decide +kernel
theorem dX9_edition_179 : decode cX9_edition 179 = .ok (.getfield 68, 3) := by decide +kernel
theorem dX9_edition_182 : decode cX9_edition 182 = .ok (.iload 9, 2) := by decide +kernel
theorem dX9_edition_184 : decode cX9_edition 184 = .ok (.iconst 4, 1) := by decide +kernel
theorem dX9_edition_185 : decode cX9_edition 185 = .ok (.iadd, 1) := by decide +kernel
theorem dX9_edition_186 : decode cX9_edition 186 = .ok (.iload 6, 2) := by decide +kernel
theorem dX9_edition_188 : decode cX9_edition 188 = .ok (.iastore, 1) := by decide +kernel
theorem dX9_edition_189 : decode cX9_edition 189 = .ok (.aload_n 0, 1) := by decide +kernel
theorem dX9_edition_190 : decode cX9_edition 190 = .ok (.getfield 68, 3) := by decide +kernel
theorem dX9_edition_193 : decode cX9_edition 193 = .ok (.iload 9, 2) := by decide +kernel
theorem dX9_edition_195 : decode cX9_edition 195 = .ok (.iconst 5, 1) := by decide +kernel
theorem dX9_edition_196 : decode cX9_edition 196 = .ok (.iadd, 1) := by decide +kernel
theorem dX9_edition_197 : decode cX9_edition 197 = .ok (.iload 7, 2) := by decide +kernel
theorem dX9_edition_199 : decode cX9_edition 199 = .ok (.iastore, 1) := by decide +kernel
theorem dX9_edition_200 : decode cX9_edition 200 = .ok (.aload_n 0, 1) := by decide +kernel
theorem dX9_edition_201 : decode cX9_edition 201 = .ok (.getfield 65, 3) := by decide +kernel
theorem dX9_edition_204 : decode cX9_edition 204 = .ok (.iload_n 1, 1) := by decide +kernel
theorem dX9_edition_205 : decode cX9_edition 205 = .ok (.dup2, 1) := by decide +kernel
theorem dX9_edition_206 : decode cX9_edition 206 = .ok (.iaload, 1) := by decide +kernel
theorem dX9_edition_207 : decode cX9_edition 207 = .ok (.iconst 1, 1) := by decide +kernel
theorem dX9_edition_208 : decode cX9_edition 208 = .ok (.iadd, 1) := by decide +kernel
theorem dX9_edition_209 : decode cX9_edition 209 = .ok (.iastore, 1) := by decide +kernel
theorem dX9_edition_210 : decode cX9_edition 210 = .ok (.aload_n 0, 1) := by decide +kernel
theorem dX9_edition_211 : decode cX9_edition 211 = .ok (.getfield 65, 3) := by decide +kernel
theorem dX9_edition_214 : decode cX9_edition 214 = .ok (.iload_n 1, 1) := by decide +kernel
theorem dX9_edition_215 : decode cX9_edition 215 = .ok (.iaload, 1) := by decide +kernel
theorem dX9_edition_216 : decode cX9_edition 216 = .ok (.iconst 1, 1) := by decide +kernel
theorem dX9_edition_217 : decode cX9_edition 217 = .ok (.isub, 1) := by decide +kernel
theorem dX9_edition_218 : decode cX9_edition 218 = .ok (.ireturn, 1) := by decide +kernel
theorem dX9_begin_0 : decode cX9_begin 0 = .ok (.aload_n 0, 1) := by decide +kernel
theorem dX9_begin_1 : decode cX9_begin 1 = .ok (.aload_n 0, 1) := by decide +kernel
theorem dX9_begin_2 : decode cX9_begin 2 = .ok (.iload_n 1, 1) := by decide +kernel
theorem dX9_begin_3 : decode cX9_begin 3 = .ok (.invokevirtual 129, 3) := by decide +kernel
theorem dX9_begin_6 : decode cX9_begin 6 = .ok (.ifCond .eq 14, 3) := by decide +kernel
theorem dX9_begin_9 : decode cX9_begin 9 = .ok (.iload_n 2, 1) := by decide +kernel
theorem dX9_begin_10 : decode cX9_begin 10 = .ok (.invokestatic 168, 3) := by decide +kernel
theorem dX9_begin_13 : decode cX9_begin 13 = .ok (.ifCond .eq 7, 3) := by decide +kernel
theorem dX9_begin_16 : decode cX9_begin 16 = .ok (.iconst 1, 1) := by decide +kernel
theorem dX9_begin_17 : decode cX9_begin 17 = .ok (.goto 4, 3) := by decide +kernel
theorem dX9_begin_20 : decode cX9_begin 20 = .ok (.iconst 0, 1) := by decide +kernel
theorem dX9_begin_21 : decode cX9_begin 21 = .ok (.invokevirtual 104, 3) := by decide +kernel
theorem dX9_begin_24 : decode cX9_begin 24 = .ok (.ifCond .ne 5, 3) := by decide +kernel
theorem dX9_begin_27 : decode cX9_begin 27 = .ok (.iconst 0, 1) := by decide +kernel
theorem dX9_begin_28 : decode cX9_begin 28 = .ok (.ireturn, 1) := by decide +kernel
theorem dX9_begin_29 : decode cX9_begin 29 = .ok (.aload_n 0, 1) := by decide +kernel
theorem dX9_begin_30 : decode cX9_begin 30 = .ok (.getfield 65, 3) := by decide +kernel
theorem dX9_begin_33 : decode cX9_begin 33 = .ok (.iload_n 2, 1) := by decide +kernel
theorem dX9_begin_34 : decode cX9_begin 34 = .ok (.iaload, 1) := by decide +kernel
theorem dX9_begin_35 : decode cX9_begin 35 = .ok (.ifCond .eq 18, 3) := by decide +kernel
theorem dX9_begin_38 : decode cX9_begin 38 = .ok (.aload_n 0, 1) := by decide +kernel
theorem dX9_begin_39 : decode cX9_begin 39 = .ok (.getfield 50, 3) := by decide +kernel
theorem dX9_begin_42 : decode cX9_begin 42 = .ok (.bipush 8, 2) := by decide +kernel
theorem dX9_begin_44 : decode cX9_begin 44 = .ok (.iload_n 1, 1) := by decide +kernel
theorem dX9_begin_45 : decode cX9_begin 45 = .ok (.imul, 1) := by decide +kernel
theorem dX9_begin_46 : decode cX9_begin 46 = .ok (.iload_n 2, 1) := by decide +kernel
theorem dX9_begin_47 : decode cX9_begin 47 = .ok (.iadd, 1) := by decide +kernel
theorem dX9_begin_48 : decode cX9_begin 48 = .ok (.iaload, 1) := by decide +kernel
theorem dX9_begin_49 : decode cX9_begin 49 = .ok (.iconst (-1), 1) := by decide +kernel
theorem dX9_begin_50 : decode cX9_begin 50 = .ok (.if_icmp .eq 9, 3) := by decide +kernel
theorem dX9_begin_53 : decode cX9_begin 53 = .ok (.aload_n 0, 1) := by decide +kernel
theorem dX9_begin_54 : decode cX9_begin 54 = .ok (.iconst 2, 1) := by decide +kernel
theorem dX9_begin_55 : decode cX9_begin 55 = .ok (.invokevirtual 108, 3) := by decide +kernel
theorem dX9_begin_58 : decode cX9_begin 58 = .ok (.ireturn, 1) := by decide +kernel
theorem dX9_begin_59 : decode cX9_begin 59 = .ok (.aload_n 0, 1) := by decide +kernel
theorem dX9_begin_60 : decode cX9_begin 60 = .ok (.getfield 50, 3) := by decide +kernel
theorem dX9_begin_63 : decode cX9_begin 63 = .ok (.bipush 8, 2) := by decide +kernel
theorem dX9_begin_65 : decode cX9_begin 65 = .ok (.iload_n 1, 1) := by decide +kernel
theorem dX9_begin_66 : decode cX9_begin 66 = .ok (.imul, 1) := by decide +kernel
theorem dX9_begin_67 : decode cX9_begin 67 = .ok (.iload_n 2, 1) := by decide +kernel
theorem dX9_begin_68 : decode cX9_begin 68 = .ok (.iadd, 1) := by decide +kernel
theorem dX9_begin_69 : decode cX9_begin 69 = .ok (.aload_n 0, 1) := by decide +kernel
theorem dX9_begin_70 : decode cX9_begin 70 = .ok (.getfield 153, 3) := by decide +kernel
theorem dX9_begin_73 : decode cX9_begin 73 = .ok (.iastore, 1) := by decide +kernel
theorem dX9_begin_74 : decode cX9_begin 74 = .ok (.aload_n 0, 1) := by decide +kernel
theorem dX9_begin_75 : decode cX9_begin 75 = .ok (.getfield 53, 3) := by decide +kernel
theorem dX9_begin_78 : decode cX9_begin 78 = .ok (.bipush 8, 2) := by decide +kernel
theorem dX9_begin_80 : decode cX9_begin 80 = .ok (.iload_n 1, 1) := by decide +kernel
theorem dX9_begin_81 : decode cX9_begin 81 = .ok (.imul, 1) := by decide +kernel
theorem dX9_begin_82 : decode cX9_begin 82 = .ok (.iload_n 2, 1) := by decide +kernel
theorem dX9_begin_83 : decode cX9_begin 83 = .ok (.iadd, 1) := by decide +kernel
theorem dX9_begin_84 : decode cX9_begin 84 = .ok (.aload_n 0, 1) := by decide +kernel
theorem dX9_begin_85 : decode cX9_begin 85 = .ok (.getfield 65, 3) := by decide +kernel
theorem dX9_begin_88 : decode cX9_begin 88 = .ok (.iload_n 2, 1) := by decide +kernel
theorem dX9_begin_89 : decode cX9_begin 89 = .ok (.iaload, 1) := by decide +kernel
theorem dX9_begin_90 : decode cX9_begin 90 = .ok (.iconst 1, 1) := by decide +kernel
theorem dX9_begin_91 : decode cX9_begin 91 = .ok (.isub, 1) := by decide +kernel
theorem dX9_begin_92 : decode cX9_begin 92 = .ok (.iastore, 1) := by decide +kernel
theorem dX9_begin_93 : decode cX9_begin 93 = .ok (.aload_n 0, 1) := by decide +kernel
theorem dX9_begin_94 : decode cX9_begin 94 = .ok (.getfield 65, 3) := by decide +kernel
theorem dX9_begin_97 : decode cX9_begin 97 = .ok (.iload_n 2, 1) := by decide +kernel
theorem dX9_begin_98 : decode cX9_begin 98 = .ok (.iaload, 1) := by decide +kernel
theorem dX9_begin_99 : decode cX9_begin 99 = .ok (.iconst 1, 1) := by decide +kernel
theorem dX9_begin_100 : decode cX9_begin 100 = .ok (.isub, 1) := by decide +kernel
theorem dX9_begin_101 : decode cX9_begin 101 = .ok (.ireturn, 1) := by decide +kernel
theorem dX9_later_0 : decode cX9_later 0 = .ok (.iload_n 0, 1) := by decide +kernel
theorem dX9_later_1 : decode cX9_later 1 = .ok (.iload_n 1, 1) := by decide +kernel
theorem dX9_later_2 : decode cX9_later 2 = .ok (.if_icmp .le 7, 3) := by decide +kernel
theorem dX9_later_5 : decode cX9_later 5 = .ok (.iload_n 0, 1) := by decide +kernel
theorem dX9_later_6 : decode cX9_later 6 = .ok (.goto 4, 3) := by decide +kernel
theorem dX9_later_9 : decode cX9_later 9 = .ok (.iload_n 1, 1) := by decide +kernel
theorem dX9_later_10 : decode cX9_later 10 = .ok (.ireturn, 1) := by decide +kernel
theorem dX9_provenOn_0 : decode cX9_provenOn 0 = .ok (.aload_n 0, 1) := by decide +kernel
theorem dX9_provenOn_1 : decode cX9_provenOn 1 = .ok (.getfield 47, 3) := by decide +kernel
theorem dX9_provenOn_4 : decode cX9_provenOn 4 = .ok (.bipush 16, 2) := by decide +kernel
theorem dX9_provenOn_6 : decode cX9_provenOn 6 = .ok (.iload_n 1, 1) := by decide +kernel
theorem dX9_provenOn_7 : decode cX9_provenOn 7 = .ok (.imul, 1) := by decide +kernel
theorem dX9_provenOn_8 : decode cX9_provenOn 8 = .ok (.iload_n 2, 1) := by decide +kernel
theorem dX9_provenOn_9 : decode cX9_provenOn 9 = .ok (.iadd, 1) := by decide +kernel
theorem dX9_provenOn_10 : decode cX9_provenOn 10 = .ok (.iaload, 1) := by decide +kernel
theorem dX9_provenOn_11 : decode cX9_provenOn 11 = .ok (.istore_n 3, 1) := by decide +kernel
theorem dX9_provenOn_12 : decode cX9_provenOn 12 = .ok (.iload_n 3, 1) := by decide +kernel
theorem dX9_provenOn_13 : decode cX9_provenOn 13 = .ok (.iconst (-1), 1) := by decide +kernel
theorem dX9_provenOn_14 : decode cX9_provenOn 14 = .ok (.if_icmp .ne 8, 3) := by decide +kernel
theorem dX9_provenOn_17 : decode cX9_provenOn 17 = .ok (.ldc 174, 2) := by decide +kernel
theorem dX9_provenOn_19 : decode cX9_provenOn 19 = .ok (.goto 4, 3) := by decide +kernel
theorem dX9_provenOn_22 : decode cX9_provenOn 22 = .ok (.iload_n 3, 1) := by decide +kernel
theorem dX9_provenOn_23 : decode cX9_provenOn 23 = .ok (.ireturn, 1) := by decide +kernel
theorem dX9_dayOfMany_0 : decode cX9_dayOfMany 0 = .ok (.iload_n 3, 1) := by decide +kernel
theorem dX9_dayOfMany_1 : decode cX9_dayOfMany 1 = .ok (.ifCond .ne 7, 3) := by decide +kernel
theorem dX9_dayOfMany_4 : decode cX9_dayOfMany 4 = .ok (.iconst 0, 1) := by decide +kernel
theorem dX9_dayOfMany_5 : decode cX9_dayOfMany 5 = .ok (.goto 5, 3) := by decide +kernel
theorem dX9_dayOfMany_8 : decode cX9_dayOfMany 8 = .ok (.ldc 174, 2) := by decide +kernel
theorem dX9_dayOfMany_10 : decode cX9_dayOfMany 10 = .ok (.istore 4, 2) := by decide +kernel
theorem dX9_dayOfMany_12 : decode cX9_dayOfMany 12 = .ok (.iconst 0, 1) := by decide +kernel
theorem dX9_dayOfMany_13 : decode cX9_dayOfMany 13 = .ok (.istore 5, 2) := by decide +kernel
theorem dX9_dayOfMany_15 : decode cX9_dayOfMany 15 = .ok (.iload 5, 2) := by decide +kernel
theorem dX9_dayOfMany_17 : decode cX9_dayOfMany 17 = .ok (.bipush 16, 2) := by decide +kernel
theorem dX9_dayOfMany_19 : decode cX9_dayOfMany 19 = .ok (.if_icmp .ge 105, 3) := by decide +kernel
theorem dX9_dayOfMany_22 : decode cX9_dayOfMany 22 = .ok (.iload_n 3, 1) := by decide +kernel
theorem dX9_dayOfMany_23 : decode cX9_dayOfMany 23 = .ok (.ifCond .le 101, 3) := by decide +kernel
theorem dX9_dayOfMany_26 : decode cX9_dayOfMany 26 = .ok (.aload_n 0, 1) := by decide +kernel
theorem dX9_dayOfMany_27 : decode cX9_dayOfMany 27 = .ok (.iload_n 1, 1) := by decide +kernel
theorem dX9_dayOfMany_28 : decode cX9_dayOfMany 28 = .ok (.iload 5, 2) := by decide +kernel
theorem dX9_dayOfMany_30 : decode cX9_dayOfMany 30 = .ok (.invokevirtual 175, 3) := by decide +kernel
theorem dX9_dayOfMany_33 : decode cX9_dayOfMany 33 = .ok (.istore 6, 2) := by decide +kernel
theorem dX9_dayOfMany_35 : decode cX9_dayOfMany 35 = .ok (.iconst 0, 1) := by decide +kernel
theorem dX9_dayOfMany_36 : decode cX9_dayOfMany 36 = .ok (.istore 7, 2) := by decide +kernel
theorem dX9_dayOfMany_38 : decode cX9_dayOfMany 38 = .ok (.iconst 0, 1) := by decide +kernel
theorem dX9_dayOfMany_39 : decode cX9_dayOfMany 39 = .ok (.istore 8, 2) := by decide +kernel
theorem dX9_dayOfMany_41 : decode cX9_dayOfMany 41 = .ok (.iload 8, 2) := by decide +kernel
theorem dX9_dayOfMany_43 : decode cX9_dayOfMany 43 = .ok (.bipush 16, 2) := by decide +kernel
theorem dX9_dayOfMany_45 : decode cX9_dayOfMany 45 = .ok (.if_icmp .ge 41, 3) := by decide +kernel
theorem dX9_dayOfMany_48 : decode cX9_dayOfMany 48 = .ok (.iload 7, 2) := by decide +kernel
theorem dX9_dayOfMany_50 : decode cX9_dayOfMany 50 = .ok (.iload_n 2, 1) := by decide +kernel
theorem dX9_dayOfMany_51 : decode cX9_dayOfMany 51 = .ok (.iload 8, 2) := by decide +kernel
theorem dX9_dayOfMany_53 : decode cX9_dayOfMany 53 = .ok (.ishr, 1) := by decide +kernel
theorem dX9_dayOfMany_54 : decode cX9_dayOfMany 54 = .ok (.iconst 1, 1) := by decide +kernel
theorem dX9_dayOfMany_55 : decode cX9_dayOfMany 55 = .ok (.iand, 1) := by decide +kernel
theorem dX9_dayOfMany_56 : decode cX9_dayOfMany 56 = .ok (.iconst 1, 1) := by decide +kernel
theorem dX9_dayOfMany_57 : decode cX9_dayOfMany 57 = .ok (.if_icmp .ne 19, 3) := by decide +kernel
theorem dX9_dayOfMany_60 : decode cX9_dayOfMany 60 = .ok (.aload_n 0, 1) := by decide +kernel
theorem dX9_dayOfMany_61 : decode cX9_dayOfMany 61 = .ok (.iload_n 1, 1) := by decide +kernel
theorem dX9_dayOfMany_62 : decode cX9_dayOfMany 62 = .ok (.iload 8, 2) := by decide +kernel
theorem dX9_dayOfMany_64 : decode cX9_dayOfMany 64 = .ok (.invokevirtual 175, 3) := by decide +kernel
theorem dX9_dayOfMany_67 : decode cX9_dayOfMany 67 = .ok (.iload 6, 2) := by decide +kernel
theorem dX9_dayOfMany_69 : decode cX9_dayOfMany 69 = .ok (.if_icmp .gt 7, 3) := by decide +kernel
theorem dX9_dayOfMany_72 : decode cX9_dayOfMany 72 = .ok (.iconst 1, 1) := by decide +kernel
theorem dX9_dayOfMany_73 : decode cX9_dayOfMany 73 = .ok (.goto 4, 3) := by decide +kernel
theorem dX9_dayOfMany_76 : decode cX9_dayOfMany 76 = .ok (.iconst 0, 1) := by decide +kernel
theorem dX9_dayOfMany_77 : decode cX9_dayOfMany 77 = .ok (.iadd, 1) := by decide +kernel
theorem dX9_dayOfMany_78 : decode cX9_dayOfMany 78 = .ok (.istore 7, 2) := by decide +kernel
theorem dX9_dayOfMany_80 : decode cX9_dayOfMany 80 = .ok (.iinc 8 1, 3) := by decide +kernel
theorem dX9_dayOfMany_83 : decode cX9_dayOfMany 83 = .ok (.goto (-42), 3) := by decide +kernel
theorem dX9_dayOfMany_86 : decode cX9_dayOfMany 86 = .ok (.iload_n 2, 1) := by decide +kernel
theorem dX9_dayOfMany_87 : decode cX9_dayOfMany 87 = .ok (.iload 5, 2) := by decide +kernel
theorem dX9_dayOfMany_89 : decode cX9_dayOfMany 89 = .ok (.ishr, 1) := by decide +kernel
theorem dX9_dayOfMany_90 : decode cX9_dayOfMany 90 = .ok (.iconst 1, 1) := by decide +kernel
theorem dX9_dayOfMany_91 : decode cX9_dayOfMany 91 = .ok (.iand, 1) := by decide +kernel
theorem dX9_dayOfMany_92 : decode cX9_dayOfMany 92 = .ok (.iconst 1, 1) := by decide +kernel
theorem dX9_dayOfMany_93 : decode cX9_dayOfMany 93 = .ok (.if_icmp .ne 21, 3) := by decide +kernel
theorem dX9_dayOfMany_96 : decode cX9_dayOfMany 96 = .ok (.iload 7, 2) := by decide +kernel
theorem dX9_dayOfMany_98 : decode cX9_dayOfMany 98 = .ok (.iload_n 3, 1) := by decide +kernel
theorem dX9_dayOfMany_99 : decode cX9_dayOfMany 99 = .ok (.if_icmp .lt 15, 3) := by decide +kernel
theorem dX9_dayOfMany_102 : decode cX9_dayOfMany 102 = .ok (.iload 6, 2) := by decide +kernel
theorem dX9_dayOfMany_104 : decode cX9_dayOfMany 104 = .ok (.iload 4, 2) := by decide +kernel
theorem dX9_dayOfMany_106 : decode cX9_dayOfMany 106 = .ok (.if_icmp .ge 8, 3) := by decide +kernel
theorem dX9_dayOfMany_109 : decode cX9_dayOfMany 109 = .ok (.iload 6, 2) := by decide +kernel
theorem dX9_dayOfMany_111 : decode cX9_dayOfMany 111 = .ok (.goto 5, 3) := by decide +kernel
theorem dX9_dayOfMany_114 : decode cX9_dayOfMany 114 = .ok (.iload 4, 2) := by decide +kernel
theorem dX9_dayOfMany_116 : decode cX9_dayOfMany 116 = .ok (.istore 4, 2) := by decide +kernel
theorem dX9_dayOfMany_118 : decode cX9_dayOfMany 118 = .ok (.iinc 5 1, 3) := by decide +kernel
theorem dX9_dayOfMany_121 : decode cX9_dayOfMany 121 = .ok (.goto (-106), 3) := by decide +kernel
theorem dX9_dayOfMany_124 : decode cX9_dayOfMany 124 = .ok (.iload 4, 2) := by decide +kernel
theorem dX9_dayOfMany_126 : decode cX9_dayOfMany 126 = .ok (.ireturn, 1) := by decide +kernel
theorem dX9_findsDays_0 : decode cX9_findsDays 0 = .ok (.iconst 0, 1) := by decide +kernel
theorem dX9_findsDays_1 : decode cX9_findsDays 1 = .ok (.istore_n 2, 1) := by decide +kernel
theorem dX9_findsDays_2 : decode cX9_findsDays 2 = .ok (.iload_n 2, 1) := by decide +kernel
theorem dX9_findsDays_3 : decode cX9_findsDays 3 = .ok (.bipush 8, 2) := by decide +kernel
theorem dX9_findsDays_5 : decode cX9_findsDays 5 = .ok (.if_icmp .ge 198, 3) := by decide +kernel
theorem dX9_findsDays_8 : decode cX9_findsDays 8 = .ok (.bipush 18, 2) := by decide +kernel
theorem dX9_findsDays_10 : decode cX9_findsDays 10 = .ok (.iload_n 2, 1) := by decide +kernel
theorem dX9_findsDays_11 : decode cX9_findsDays 11 = .ok (.imul, 1) := by decide +kernel
theorem dX9_findsDays_12 : decode cX9_findsDays 12 = .ok (.bipush 6, 2) := by decide +kernel
theorem dX9_findsDays_14 : decode cX9_findsDays 14 = .ok (.aload_n 0, 1) := by decide +kernel
theorem dX9_findsDays_15 : decode cX9_findsDays 15 = .ok (.getfield 53, 3) := by decide +kernel
theorem dX9_findsDays_18 : decode cX9_findsDays 18 = .ok (.bipush 8, 2) := by decide +kernel
theorem dX9_findsDays_20 : decode cX9_findsDays 20 = .ok (.iload_n 1, 1) := by decide +kernel
theorem dX9_findsDays_21 : decode cX9_findsDays 21 = .ok (.imul, 1) := by decide +kernel
theorem dX9_findsDays_22 : decode cX9_findsDays 22 = .ok (.iload_n 2, 1) := by decide +kernel
theorem dX9_findsDays_23 : decode cX9_findsDays 23 = .ok (.iadd, 1) := by decide +kernel
theorem dX9_findsDays_24 : decode cX9_findsDays 24 = .ok (.iaload, 1) := by decide +kernel
theorem dX9_findsDays_25 : decode cX9_findsDays 25 = .ok (.imul, 1) := by decide +kernel
theorem dX9_findsDays_26 : decode cX9_findsDays 26 = .ok (.iadd, 1) := by decide +kernel
theorem dX9_findsDays_27 : decode cX9_findsDays 27 = .ok (.istore_n 3, 1) := by decide +kernel
theorem dX9_findsDays_28 : decode cX9_findsDays 28 = .ok (.aload_n 0, 1) := by decide +kernel
theorem dX9_findsDays_29 : decode cX9_findsDays 29 = .ok (.getfield 50, 3) := by decide +kernel
theorem dX9_findsDays_32 : decode cX9_findsDays 32 = .ok (.bipush 8, 2) := by decide +kernel
theorem dX9_findsDays_34 : decode cX9_findsDays 34 = .ok (.iload_n 1, 1) := by decide +kernel
theorem dX9_findsDays_35 : decode cX9_findsDays 35 = .ok (.imul, 1) := by decide +kernel
theorem dX9_findsDays_36 : decode cX9_findsDays 36 = .ok (.iload_n 2, 1) := by decide +kernel
theorem dX9_findsDays_37 : decode cX9_findsDays 37 = .ok (.iadd, 1) := by decide +kernel
theorem dX9_findsDays_38 : decode cX9_findsDays 38 = .ok (.iaload, 1) := by decide +kernel
theorem dX9_findsDays_39 : decode cX9_findsDays 39 = .ok (.istore 4, 2) := by decide +kernel
theorem dX9_findsDays_41 : decode cX9_findsDays 41 = .ok (.aload_n 0, 1) := by decide +kernel
theorem dX9_findsDays_42 : decode cX9_findsDays 42 = .ok (.getfield 71, 3) := by decide +kernel
theorem dX9_findsDays_45 : decode cX9_findsDays 45 = .ok (.iload_n 2, 1) := by decide +kernel
theorem dX9_findsDays_46 : decode cX9_findsDays 46 = .ok (.ldc 174, 2) := by decide +kernel
theorem dX9_findsDays_48 : decode cX9_findsDays 48 = .ok (.iastore, 1) := by decide +kernel
theorem dX9_findsDays_49 : decode cX9_findsDays 49 = .ok (.iload 4, 2) := by decide +kernel
theorem dX9_findsDays_51 : decode cX9_findsDays 51 = .ok (.iconst (-1), 1) := by decide +kernel
theorem dX9_findsDays_52 : decode cX9_findsDays 52 = .ok (.if_icmp .eq 145, 3) := by decide +kernel
theorem dX9_findsDays_55 : decode cX9_findsDays 55 = .ok (.iconst 0, 1) := by decide +kernel
theorem dX9_findsDays_56 : decode cX9_findsDays 56 = .ok (.istore 5, 2) := by decide +kernel
theorem dX9_findsDays_58 : decode cX9_findsDays 58 = .ok (.iload 5, 2) := by decide +kernel
theorem dX9_findsDays_60 : decode cX9_findsDays 60 = .ok (.bipush 16, 2) := by decide +kernel
theorem dX9_findsDays_62 : decode cX9_findsDays 62 = .ok (.if_icmp .ge 43, 3) := by decide +kernel
theorem dX9_findsDays_65 : decode cX9_findsDays 65 = .ok (.aload_n 0, 1) := by decide +kernel
theorem dX9_findsDays_66 : decode cX9_findsDays 66 = .ok (.getfield 68, 3) := by decide +kernel
theorem dX9_findsDays_69 : decode cX9_findsDays 69 = .ok (.iload_n 3, 1) := by decide +kernel
theorem dX9_findsDays_70 : decode cX9_findsDays 70 = .ok (.iaload, 1) := by decide +kernel
theorem dX9_findsDays_71 : decode cX9_findsDays 71 = .ok (.iload 5, 2) := by decide +kernel
theorem dX9_findsDays_73 : decode cX9_findsDays 73 = .ok (.ishr, 1) := by decide +kernel
theorem dX9_findsDays_74 : decode cX9_findsDays 74 = .ok (.iconst 1, 1) := by decide +kernel
theorem dX9_findsDays_75 : decode cX9_findsDays 75 = .ok (.iand, 1) := by decide +kernel
theorem dX9_findsDays_76 : decode cX9_findsDays 76 = .ok (.iconst 1, 1) := by decide +kernel
theorem dX9_findsDays_77 : decode cX9_findsDays 77 = .ok (.if_icmp .ne 18, 3) := by decide +kernel
theorem dX9_findsDays_80 : decode cX9_findsDays 80 = .ok (.iload 4, 2) := by decide +kernel
theorem dX9_findsDays_82 : decode cX9_findsDays 82 = .ok (.aload_n 0, 1) := by decide +kernel
theorem dX9_findsDays_83 : decode cX9_findsDays 83 = .ok (.iload_n 1, 1) := by decide +kernel
theorem dX9_findsDays_84 : decode cX9_findsDays 84 = .ok (.iload 5, 2) := by decide +kernel
theorem dX9_findsDays_86 : decode cX9_findsDays 86 = .ok (.invokevirtual 175, 3) := by decide +kernel
theorem dX9_findsDays_89 : decode cX9_findsDays 89 = .ok (.invokestatic 178, 3) := by decide +kernel
theorem dX9_findsDays_92 : decode cX9_findsDays 92 = .ok (.goto 5, 3) := by decide +kernel
theorem dX9_findsDays_95 : decode cX9_findsDays 95 = .ok (.iload 4, 2) := by decide +kernel
theorem dX9_findsDays_97 : decode cX9_findsDays 97 = .ok (.istore 4, 2) := by decide +kernel
theorem dX9_findsDays_99 : decode cX9_findsDays 99 = .ok (.iinc 5 1, 3) := by decide +kernel
theorem dX9_findsDays_102 : decode cX9_findsDays 102 = .ok (.goto (-44), 3) := by decide +kernel
theorem dX9_findsDays_105 : decode cX9_findsDays 105 = .ok (.iload 4, 2) := by decide +kernel
theorem dX9_findsDays_107 : decode cX9_findsDays 107 = .ok (.aload_n 0, 1) := by decide +kernel
theorem dX9_findsDays_108 : decode cX9_findsDays 108 = .ok (.iload_n 1, 1) := by decide +kernel
theorem dX9_findsDays_109 : decode cX9_findsDays 109 = .ok (.aload_n 0, 1) := by decide +kernel
theorem dX9_findsDays_110 : decode cX9_findsDays 110 = .ok (.getfield 68, 3) := by decide +kernel
theorem dX9_findsDays_113 : decode cX9_findsDays 113 = .ok (.iload_n 3, 1) := by decide +kernel
theorem dX9_findsDays_114 : decode cX9_findsDays 114 = .ok (.iconst 1, 1) := by decide +kernel
theorem dX9_findsDays_115 : decode cX9_findsDays 115 = .ok (.iadd, 1) := by decide +kernel
theorem dX9_findsDays_116 : decode cX9_findsDays 116 = .ok (.iaload, 1) := by decide +kernel
theorem dX9_findsDays_117 : decode cX9_findsDays 117 = .ok (.aload_n 0, 1) := by decide +kernel
theorem dX9_findsDays_118 : decode cX9_findsDays 118 = .ok (.getfield 68, 3) := by decide +kernel
theorem dX9_findsDays_121 : decode cX9_findsDays 121 = .ok (.iload_n 3, 1) := by decide +kernel
theorem dX9_findsDays_122 : decode cX9_findsDays 122 = .ok (.iconst 2, 1) := by decide +kernel
theorem dX9_findsDays_123 : decode cX9_findsDays 123 = .ok (.iadd, 1) := by decide +kernel
theorem dX9_findsDays_124 : decode cX9_findsDays 124 = .ok (.iaload, 1) := by decide +kernel
theorem dX9_findsDays_125 : decode cX9_findsDays 125 = .ok (.invokevirtual 181, 3) := by decide +kernel
theorem dX9_findsDays_128 : decode cX9_findsDays 128 = .ok (.invokestatic 178, 3) := by decide +kernel
theorem dX9_findsDays_131 : decode cX9_findsDays 131 = .ok (.istore 4, 2) := by decide +kernel
theorem dX9_findsDays_133 : decode cX9_findsDays 133 = .ok (.aload_n 0, 1) := by decide +kernel
theorem dX9_findsDays_134 : decode cX9_findsDays 134 = .ok (.getfield 68, 3) := by decide +kernel
theorem dX9_findsDays_137 : decode cX9_findsDays 137 = .ok (.iload_n 3, 1) := by decide +kernel
theorem dX9_findsDays_138 : decode cX9_findsDays 138 = .ok (.iconst 3, 1) := by decide +kernel
theorem dX9_findsDays_139 : decode cX9_findsDays 139 = .ok (.iadd, 1) := by decide +kernel
theorem dX9_findsDays_140 : decode cX9_findsDays 140 = .ok (.iaload, 1) := by decide +kernel
theorem dX9_findsDays_141 : decode cX9_findsDays 141 = .ok (.istore 5, 2) := by decide +kernel
theorem dX9_findsDays_143 : decode cX9_findsDays 143 = .ok (.iload 5, 2) := by decide +kernel
theorem dX9_findsDays_145 : decode cX9_findsDays 145 = .ok (.iconst (-1), 1) := by decide +kernel
theorem dX9_findsDays_146 : decode cX9_findsDays 146 = .ok (.if_icmp .ne 8, 3) := by decide +kernel
theorem dX9_findsDays_149 : decode cX9_findsDays 149 = .ok (.iload 4, 2) := by decide +kernel
theorem dX9_findsDays_151 : decode cX9_findsDays 151 = .ok (.goto 24, 3) := by decide +kernel
theorem dX9_findsDays_154 : decode cX9_findsDays 154 = .ok (.iload 4, 2) := by decide +kernel
theorem dX9_findsDays_156 : decode cX9_findsDays 156 = .ok (.aload_n 0, 1) := by decide +kernel
theorem dX9_findsDays_157 : decode cX9_findsDays 157 = .ok (.getfield 71, 3) := by decide +kernel
theorem dX9_findsDays_160 : decode cX9_findsDays 160 = .ok (.iload 5, 2) := by decide +kernel
theorem dX9_findsDays_162 : decode cX9_findsDays 162 = .ok (.iaload, 1) := by decide +kernel
theorem dX9_findsDays_163 : decode cX9_findsDays 163 = .ok (.aload_n 0, 1) := by decide +kernel
theorem dX9_findsDays_164 : decode cX9_findsDays 164 = .ok (.getfield 68, 3) := by decide +kernel
theorem dX9_findsDays_167 : decode cX9_findsDays 167 = .ok (.iload_n 3, 1) := by decide +kernel
theorem dX9_findsDays_168 : decode cX9_findsDays 168 = .ok (.iconst 4, 1) := by decide +kernel
theorem dX9_findsDays_169 : decode cX9_findsDays 169 = .ok (.iadd, 1) := by decide +kernel
theorem dX9_findsDays_170 : decode cX9_findsDays 170 = .ok (.iaload, 1) := by decide +kernel
theorem dX9_findsDays_171 : decode cX9_findsDays 171 = .ok (.iadd, 1) := by decide +kernel
theorem dX9_findsDays_172 : decode cX9_findsDays 172 = .ok (.invokestatic 178, 3) := by decide +kernel
theorem dX9_findsDays_175 : decode cX9_findsDays 175 = .ok (.istore 4, 2) := by decide +kernel
theorem dX9_findsDays_177 : decode cX9_findsDays 177 = .ok (.aload_n 0, 1) := by decide +kernel
theorem dX9_findsDays_178 : decode cX9_findsDays 178 = .ok (.getfield 71, 3) := by decide +kernel
theorem dX9_findsDays_181 : decode cX9_findsDays 181 = .ok (.iload_n 2, 1) := by decide +kernel
theorem dX9_findsDays_182 : decode cX9_findsDays 182 = .ok (.iload 4, 2) := by decide +kernel
theorem dX9_findsDays_184 : decode cX9_findsDays 184 = .ok (.ldc 174, 2) := by decide +kernel
theorem dX9_findsDays_186 : decode cX9_findsDays 186 = .ok (.if_icmp .ge 8, 3) := by decide +kernel
theorem dX9_findsDays_189 : decode cX9_findsDays 189 = .ok (.iload 4, 2) := by decide +kernel
theorem dX9_findsDays_191 : decode cX9_findsDays 191 = .ok (.goto 5, 3) := by decide +kernel
theorem dX9_findsDays_194 : decode cX9_findsDays 194 = .ok (.ldc 174, 2) := by decide +kernel
theorem dX9_findsDays_196 : decode cX9_findsDays 196 = .ok (.iastore, 1) := by decide +kernel
theorem dX9_findsDays_197 : decode cX9_findsDays 197 = .ok (.iinc 2 1, 3) := by decide +kernel
theorem dX9_findsDays_200 : decode cX9_findsDays 200 = .ok (.goto (-198), 3) := by decide +kernel
theorem dX9_findsDays_203 : decode cX9_findsDays 203 = .ok (.return_, 1) := by decide +kernel
theorem dX9_earnedBy_0 : decode cX9_earnedBy 0 = .ok (.aload_n 0, 1) := by decide +kernel
theorem dX9_earnedBy_1 : decode cX9_earnedBy 1 = .ok (.iload_n 1, 1) := by decide +kernel
theorem dX9_earnedBy_2 : decode cX9_earnedBy 2 = .ok (.invokevirtual 185, 3) := by decide +kernel
theorem dX9_earnedBy_5 : decode cX9_earnedBy 5 = .ok (.iconst 0, 1) := by decide +kernel
theorem dX9_earnedBy_6 : decode cX9_earnedBy 6 = .ok (.istore_n 2, 1) := by decide +kernel
theorem dX9_earnedBy_7 : decode cX9_earnedBy 7 = .ok (.iconst 0, 1) := by decide +kernel
theorem dX9_earnedBy_8 : decode cX9_earnedBy 8 = .ok (.istore_n 3, 1) := by decide +kernel
theorem dX9_earnedBy_9 : decode cX9_earnedBy 9 = .ok (.iload_n 3, 1) := by decide +kernel
theorem dX9_earnedBy_10 : decode cX9_earnedBy 10 = .ok (.bipush 8, 2) := by decide +kernel
theorem dX9_earnedBy_12 : decode cX9_earnedBy 12 = .ok (.if_icmp .ge 30, 3) := by decide +kernel
theorem dX9_earnedBy_15 : decode cX9_earnedBy 15 = .ok (.iload_n 2, 1) := by decide +kernel
theorem dX9_earnedBy_16 : decode cX9_earnedBy 16 = .ok (.aload_n 0, 1) := by decide +kernel
theorem dX9_earnedBy_17 : decode cX9_earnedBy 17 = .ok (.getfield 71, 3) := by decide +kernel
theorem dX9_earnedBy_20 : decode cX9_earnedBy 20 = .ok (.iload_n 3, 1) := by decide +kernel
theorem dX9_earnedBy_21 : decode cX9_earnedBy 21 = .ok (.iaload, 1) := by decide +kernel
theorem dX9_earnedBy_22 : decode cX9_earnedBy 22 = .ok (.aload_n 0, 1) := by decide +kernel
theorem dX9_earnedBy_23 : decode cX9_earnedBy 23 = .ok (.getfield 153, 3) := by decide +kernel
theorem dX9_earnedBy_26 : decode cX9_earnedBy 26 = .ok (.if_icmp .gt 7, 3) := by decide +kernel
theorem dX9_earnedBy_29 : decode cX9_earnedBy 29 = .ok (.iconst 1, 1) := by decide +kernel
theorem dX9_earnedBy_30 : decode cX9_earnedBy 30 = .ok (.goto 4, 3) := by decide +kernel
theorem dX9_earnedBy_33 : decode cX9_earnedBy 33 = .ok (.iconst 0, 1) := by decide +kernel
theorem dX9_earnedBy_34 : decode cX9_earnedBy 34 = .ok (.iadd, 1) := by decide +kernel
theorem dX9_earnedBy_35 : decode cX9_earnedBy 35 = .ok (.istore_n 2, 1) := by decide +kernel
theorem dX9_earnedBy_36 : decode cX9_earnedBy 36 = .ok (.iinc 3 1, 3) := by decide +kernel
theorem dX9_earnedBy_39 : decode cX9_earnedBy 39 = .ok (.goto (-30), 3) := by decide +kernel
theorem dX9_earnedBy_42 : decode cX9_earnedBy 42 = .ok (.iload_n 2, 1) := by decide +kernel
theorem dX9_earnedBy_43 : decode cX9_earnedBy 43 = .ok (.ireturn, 1) := by decide +kernel
theorem dX9_prove_0 : decode cX9_prove 0 = .ok (.aload_n 0, 1) := by decide +kernel
theorem dX9_prove_1 : decode cX9_prove 1 = .ok (.aload_n 0, 1) := by decide +kernel
theorem dX9_prove_2 : decode cX9_prove 2 = .ok (.iload_n 1, 1) := by decide +kernel
theorem dX9_prove_3 : decode cX9_prove 3 = .ok (.invokevirtual 129, 3) := by decide +kernel
theorem dX9_prove_6 : decode cX9_prove 6 = .ok (.ifCond .eq 25, 3) := by decide +kernel
theorem dX9_prove_9 : decode cX9_prove 9 = .ok (.iload_n 2, 1) := by decide +kernel
theorem dX9_prove_10 : decode cX9_prove 10 = .ok (.iconst 0, 1) := by decide +kernel
theorem dX9_prove_11 : decode cX9_prove 11 = .ok (.bipush 15, 2) := by decide +kernel
theorem dX9_prove_13 : decode cX9_prove 13 = .ok (.invokestatic 93, 3) := by decide +kernel
theorem dX9_prove_16 : decode cX9_prove 16 = .ok (.ifCond .eq 15, 3) := by decide +kernel
theorem dX9_prove_19 : decode cX9_prove 19 = .ok (.aload_n 0, 1) := by decide +kernel
theorem dX9_prove_20 : decode cX9_prove 20 = .ok (.iload_n 3, 1) := by decide +kernel
theorem dX9_prove_21 : decode cX9_prove 21 = .ok (.invokevirtual 159, 3) := by decide +kernel
theorem dX9_prove_24 : decode cX9_prove 24 = .ok (.ifCond .eq 7, 3) := by decide +kernel
theorem dX9_prove_27 : decode cX9_prove 27 = .ok (.iconst 1, 1) := by decide +kernel
theorem dX9_prove_28 : decode cX9_prove 28 = .ok (.goto 4, 3) := by decide +kernel
theorem dX9_prove_31 : decode cX9_prove 31 = .ok (.iconst 0, 1) := by decide +kernel
theorem dX9_prove_32 : decode cX9_prove 32 = .ok (.invokevirtual 104, 3) := by decide +kernel
theorem dX9_prove_35 : decode cX9_prove 35 = .ok (.ifCond .ne 5, 3) := by decide +kernel
theorem dX9_prove_38 : decode cX9_prove 38 = .ok (.iconst 0, 1) := by decide +kernel
theorem dX9_prove_39 : decode cX9_prove 39 = .ok (.ireturn, 1) := by decide +kernel
theorem dX9_prove_40 : decode cX9_prove 40 = .ok (.iconst 0, 1) := by decide +kernel
theorem dX9_prove_41 : decode cX9_prove 41 = .ok (.istore 4, 2) := by decide +kernel
theorem dX9_prove_43 : decode cX9_prove 43 = .ok (.iconst 0, 1) := by decide +kernel
theorem dX9_prove_44 : decode cX9_prove 44 = .ok (.istore 5, 2) := by decide +kernel
theorem dX9_prove_46 : decode cX9_prove 46 = .ok (.iload 5, 2) := by decide +kernel
theorem dX9_prove_48 : decode cX9_prove 48 = .ok (.iconst 3, 1) := by decide +kernel
theorem dX9_prove_49 : decode cX9_prove 49 = .ok (.if_icmp .ge 35, 3) := by decide +kernel
theorem dX9_prove_52 : decode cX9_prove 52 = .ok (.iload 4, 2) := by decide +kernel
theorem dX9_prove_54 : decode cX9_prove 54 = .ok (.ifCond .ne 17, 3) := by decide +kernel
theorem dX9_prove_57 : decode cX9_prove 57 = .ok (.aload_n 0, 1) := by decide +kernel
theorem dX9_prove_58 : decode cX9_prove 58 = .ok (.iload_n 3, 1) := by decide +kernel
theorem dX9_prove_59 : decode cX9_prove 59 = .ok (.iload 5, 2) := by decide +kernel
theorem dX9_prove_61 : decode cX9_prove 61 = .ok (.aload_n 0, 1) := by decide +kernel
theorem dX9_prove_62 : decode cX9_prove 62 = .ok (.getfield 153, 3) := by decide +kernel
theorem dX9_prove_65 : decode cX9_prove 65 = .ok (.invokevirtual 188, 3) := by decide +kernel
theorem dX9_prove_68 : decode cX9_prove 68 = .ok (.ifCond .eq 7, 3) := by decide +kernel
theorem dX9_prove_71 : decode cX9_prove 71 = .ok (.iconst 1, 1) := by decide +kernel
theorem dX9_prove_72 : decode cX9_prove 72 = .ok (.goto 4, 3) := by decide +kernel
theorem dX9_prove_75 : decode cX9_prove 75 = .ok (.iconst 0, 1) := by decide +kernel
theorem dX9_prove_76 : decode cX9_prove 76 = .ok (.istore 4, 2) := by decide +kernel
theorem dX9_prove_78 : decode cX9_prove 78 = .ok (.iinc 5 1, 3) := by decide +kernel
theorem dX9_prove_81 : decode cX9_prove 81 = .ok (.goto (-35), 3) := by decide +kernel
theorem dX9_prove_84 : decode cX9_prove 84 = .ok (.iload 4, 2) := by decide +kernel
theorem dX9_prove_86 : decode cX9_prove 86 = .ok (.ifCond .eq 31, 3) := by decide +kernel
theorem dX9_prove_89 : decode cX9_prove 89 = .ok (.aload_n 0, 1) := by decide +kernel
theorem dX9_prove_90 : decode cX9_prove 90 = .ok (.getfield 62, 3) := by decide +kernel
theorem dX9_prove_93 : decode cX9_prove 93 = .ok (.iload_n 3, 1) := by decide +kernel
theorem dX9_prove_94 : decode cX9_prove 94 = .ok (.iaload, 1) := by decide +kernel
theorem dX9_prove_95 : decode cX9_prove 95 = .ok (.iload_n 2, 1) := by decide +kernel
theorem dX9_prove_96 : decode cX9_prove 96 = .ok (.ishr, 1) := by decide +kernel
theorem dX9_prove_97 : decode cX9_prove 97 = .ok (.iconst 1, 1) := by decide +kernel
theorem dX9_prove_98 : decode cX9_prove 98 = .ok (.iand, 1) := by decide +kernel
theorem dX9_prove_99 : decode cX9_prove 99 = .ok (.ifCond .eq 18, 3) := by decide +kernel
theorem dX9_prove_102 : decode cX9_prove 102 = .ok (.aload_n 0, 1) := by decide +kernel
theorem dX9_prove_103 : decode cX9_prove 103 = .ok (.getfield 47, 3) := by decide +kernel
theorem dX9_prove_106 : decode cX9_prove 106 = .ok (.bipush 16, 2) := by decide +kernel
theorem dX9_prove_108 : decode cX9_prove 108 = .ok (.iload_n 1, 1) := by decide +kernel
theorem dX9_prove_109 : decode cX9_prove 109 = .ok (.imul, 1) := by decide +kernel
theorem dX9_prove_110 : decode cX9_prove 110 = .ok (.iload_n 2, 1) := by decide +kernel
theorem dX9_prove_111 : decode cX9_prove 111 = .ok (.iadd, 1) := by decide +kernel
theorem dX9_prove_112 : decode cX9_prove 112 = .ok (.iaload, 1) := by decide +kernel
theorem dX9_prove_113 : decode cX9_prove 113 = .ok (.iconst (-1), 1) := by decide +kernel
theorem dX9_prove_114 : decode cX9_prove 114 = .ok (.if_icmp .eq 9, 3) := by decide +kernel
theorem dX9_prove_117 : decode cX9_prove 117 = .ok (.aload_n 0, 1) := by decide +kernel
theorem dX9_prove_118 : decode cX9_prove 118 = .ok (.iconst 2, 1) := by decide +kernel
theorem dX9_prove_119 : decode cX9_prove 119 = .ok (.invokevirtual 108, 3) := by decide +kernel
theorem dX9_prove_122 : decode cX9_prove 122 = .ok (.ireturn, 1) := by decide +kernel
theorem dX9_prove_123 : decode cX9_prove 123 = .ok (.aload_n 0, 1) := by decide +kernel
theorem dX9_prove_124 : decode cX9_prove 124 = .ok (.getfield 47, 3) := by decide +kernel
theorem dX9_prove_127 : decode cX9_prove 127 = .ok (.bipush 16, 2) := by decide +kernel
theorem dX9_prove_129 : decode cX9_prove 129 = .ok (.iload_n 1, 1) := by decide +kernel
theorem dX9_prove_130 : decode cX9_prove 130 = .ok (.imul, 1) := by decide +kernel
theorem dX9_prove_131 : decode cX9_prove 131 = .ok (.iload_n 2, 1) := by decide +kernel
theorem dX9_prove_132 : decode cX9_prove 132 = .ok (.iadd, 1) := by decide +kernel
theorem dX9_prove_133 : decode cX9_prove 133 = .ok (.aload_n 0, 1) := by decide +kernel
theorem dX9_prove_134 : decode cX9_prove 134 = .ok (.getfield 153, 3) := by decide +kernel
theorem dX9_prove_137 : decode cX9_prove 137 = .ok (.iastore, 1) := by decide +kernel
theorem dX9_prove_138 : decode cX9_prove 138 = .ok (.aload_n 0, 1) := by decide +kernel
theorem dX9_prove_139 : decode cX9_prove 139 = .ok (.iload_n 1, 1) := by decide +kernel
theorem dX9_prove_140 : decode cX9_prove 140 = .ok (.invokevirtual 191, 3) := by decide +kernel
theorem dX9_prove_143 : decode cX9_prove 143 = .ok (.ireturn, 1) := by decide +kernel
theorem dX9_event_0 : decode cX9_event 0 = .ok (.aload_n 0, 1) := by decide +kernel
theorem dX9_event_1 : decode cX9_event 1 = .ok (.aload_n 0, 1) := by decide +kernel
theorem dX9_event_2 : decode cX9_event 2 = .ok (.iload_n 1, 1) := by decide +kernel
theorem dX9_event_3 : decode cX9_event 3 = .ok (.invokevirtual 133, 3) := by decide +kernel
theorem dX9_event_6 : decode cX9_event 6 = .ok (.ifCond .eq 14, 3) := by decide +kernel
theorem dX9_event_9 : decode cX9_event 9 = .ok (.iload_n 2, 1) := by decide +kernel
theorem dX9_event_10 : decode cX9_event 10 = .ok (.invokestatic 162, 3) := by decide +kernel
theorem dX9_event_13 : decode cX9_event 13 = .ok (.ifCond .eq 7, 3) := by decide +kernel
theorem dX9_event_16 : decode cX9_event 16 = .ok (.iconst 1, 1) := by decide +kernel
theorem dX9_event_17 : decode cX9_event 17 = .ok (.goto 4, 3) := by decide +kernel
theorem dX9_event_20 : decode cX9_event 20 = .ok (.iconst 0, 1) := by decide +kernel
theorem dX9_event_21 : decode cX9_event 21 = .ok (.invokevirtual 104, 3) := by decide +kernel
theorem dX9_event_24 : decode cX9_event 24 = .ok (.ifCond .ne 5, 3) := by decide +kernel
theorem dX9_event_27 : decode cX9_event 27 = .ok (.iconst 0, 1) := by decide +kernel
theorem dX9_event_28 : decode cX9_event 28 = .ok (.ireturn, 1) := by decide +kernel
theorem dX9_event_29 : decode cX9_event 29 = .ok (.iload_n 3, 1) := by decide +kernel
theorem dX9_event_30 : decode cX9_event 30 = .ok (.iconst 0, 1) := by decide +kernel
theorem dX9_event_31 : decode cX9_event 31 = .ok (.iconst 3, 1) := by decide +kernel
theorem dX9_event_32 : decode cX9_event 32 = .ok (.invokestatic 93, 3) := by decide +kernel
theorem dX9_event_35 : decode cX9_event 35 = .ok (.ifCond .eq 43, 3) := by decide +kernel
theorem dX9_event_38 : decode cX9_event 38 = .ok (.iload 4, 2) := by decide +kernel
theorem dX9_event_40 : decode cX9_event 40 = .ok (.aload_n 0, 1) := by decide +kernel
theorem dX9_event_41 : decode cX9_event 41 = .ok (.getfield 153, 3) := by decide +kernel
theorem dX9_event_44 : decode cX9_event 44 = .ok (.sipush 9999, 3) := by decide +kernel
theorem dX9_event_47 : decode cX9_event 47 = .ok (.invokestatic 93, 3) := by decide +kernel
theorem dX9_event_50 : decode cX9_event 50 = .ok (.ifCond .eq 28, 3) := by decide +kernel
theorem dX9_event_53 : decode cX9_event 53 = .ok (.iload 5, 2) := by decide +kernel
theorem dX9_event_55 : decode cX9_event 55 = .ok (.iconst 0, 1) := by decide +kernel
theorem dX9_event_56 : decode cX9_event 56 = .ok (.bipush 23, 2) := by decide +kernel
theorem dX9_event_58 : decode cX9_event 58 = .ok (.invokestatic 93, 3) := by decide +kernel
theorem dX9_event_61 : decode cX9_event 61 = .ok (.ifCond .eq 17, 3) := by decide +kernel
theorem dX9_event_64 : decode cX9_event 64 = .ok (.iload 6, 2) := by decide +kernel
theorem dX9_event_66 : decode cX9_event 66 = .ok (.iconst 1, 1) := by decide +kernel
theorem dX9_event_67 : decode cX9_event 67 = .ok (.bipush 24, 2) := by decide +kernel
theorem dX9_event_69 : decode cX9_event 69 = .ok (.iload 5, 2) := by decide +kernel
theorem dX9_event_71 : decode cX9_event 71 = .ok (.isub, 1) := by decide +kernel
theorem dX9_event_72 : decode cX9_event 72 = .ok (.invokestatic 93, 3) := by decide +kernel
theorem dX9_event_75 : decode cX9_event 75 = .ok (.ifCond .ne 9, 3) := by decide +kernel
theorem dX9_event_78 : decode cX9_event 78 = .ok (.aload_n 0, 1) := by decide +kernel
theorem dX9_event_79 : decode cX9_event 79 = .ok (.iconst 2, 1) := by decide +kernel
theorem dX9_event_80 : decode cX9_event 80 = .ok (.invokevirtual 108, 3) := by decide +kernel
theorem dX9_event_83 : decode cX9_event 83 = .ok (.ireturn, 1) := by decide +kernel
theorem dX9_event_84 : decode cX9_event 84 = .ok (.aload_n 0, 1) := by decide +kernel
theorem dX9_event_85 : decode cX9_event 85 = .ok (.getfield 194, 3) := by decide +kernel
theorem dX9_event_88 : decode cX9_event 88 = .ok (.bipush 20, 2) := by decide +kernel
theorem dX9_event_90 : decode cX9_event 90 = .ok (.if_icmp .ne 9, 3) := by decide +kernel
theorem dX9_event_93 : decode cX9_event 93 = .ok (.aload_n 0, 1) := by decide +kernel
theorem dX9_event_94 : decode cX9_event 94 = .ok (.iconst 3, 1) := by decide +kernel
theorem dX9_event_95 : decode cX9_event 95 = .ok (.invokevirtual 108, 3) := by decide +kernel
theorem dX9_event_98 : decode cX9_event 98 = .ok (.ireturn, 1) := by decide +kernel
theorem dX9_event_99 : decode cX9_event 99 = .ok (.bipush 6, 2) := by decide +kernel
theorem dX9_event_101 : decode cX9_event 101 = .ok (.aload_n 0, 1) := by decide +kernel
theorem dX9_event_102 : decode cX9_event 102 = .ok (.getfield 194, 3) := by decide +kernel
theorem dX9_event_105 : decode cX9_event 105 = .ok (.imul, 1) := by decide +kernel
theorem dX9_event_106 : decode cX9_event 106 = .ok (.istore 7, 2) := by decide +kernel
theorem dX9_event_108 : decode cX9_event 108 = .ok (.aload_n 0, 1) := by decide +kernel
theorem dX9_event_109 : decode cX9_event 109 = .ok (.getfield 74, 3) := by decide +kernel
theorem dX9_event_112 : decode cX9_event 112 = .ok (.iload 7, 2) := by decide +kernel
theorem dX9_event_114 : decode cX9_event 114 = .ok (.iload_n 1, 1) := by decide +kernel
theorem dX9_event_115 : decode cX9_event 115 = .ok (.iastore, 1) := by decide +kernel
theorem dX9_event_116 : decode cX9_event 116 = .ok (.aload_n 0, 1) := by decide +kernel
theorem dX9_event_117 : decode cX9_event 117 = .ok (.getfield 74, 3) := by decide +kernel
theorem dX9_event_120 : decode cX9_event 120 = .ok (.iload 7, 2) := by decide +kernel
theorem dX9_event_122 : decode cX9_event 122 = .ok (.iconst 1, 1) := by decide +kernel
theorem dX9_event_123 : decode cX9_event 123 = .ok (.iadd, 1) := by decide +kernel
theorem dX9_event_124 : decode cX9_event 124 = .ok (.iload_n 2, 1) := by decide +kernel
theorem dX9_event_125 : decode cX9_event 125 = .ok (.iastore, 1) := by decide +kernel
theorem dX9_event_126 : decode cX9_event 126 = .ok (.aload_n 0, 1) := by decide +kernel
theorem dX9_event_127 : decode cX9_event 127 = .ok (.getfield 74, 3) := by decide +kernel
theorem dX9_event_130 : decode cX9_event 130 = .ok (.iload 7, 2) := by decide +kernel
theorem dX9_event_132 : decode cX9_event 132 = .ok (.iconst 2, 1) := by decide +kernel
theorem dX9_event_133 : decode cX9_event 133 = .ok (.iadd, 1) := by decide +kernel
theorem dX9_event_134 : decode cX9_event 134 = .ok (.iload_n 3, 1) := by decide +kernel
theorem dX9_event_135 : decode cX9_event 135 = .ok (.iastore, 1) := by decide +kernel
theorem dX9_event_136 : decode cX9_event 136 = .ok (.aload_n 0, 1) := by decide +kernel
theorem dX9_event_137 : decode cX9_event 137 = .ok (.getfield 74, 3) := by decide +kernel
theorem dX9_event_140 : decode cX9_event 140 = .ok (.iload 7, 2) := by decide +kernel
theorem dX9_event_142 : decode cX9_event 142 = .ok (.iconst 3, 1) := by decide +kernel
theorem dX9_event_143 : decode cX9_event 143 = .ok (.iadd, 1) := by decide +kernel
theorem dX9_event_144 : decode cX9_event 144 = .ok (.iload 4, 2) := by decide +kernel
theorem dX9_event_146 : decode cX9_event 146 = .ok (.iastore, 1) := by decide +kernel
theorem dX9_event_147 : decode cX9_event 147 = .ok (.aload_n 0, 1) := by decide +kernel
theorem dX9_event_148 : decode cX9_event 148 = .ok (.getfield 74, 3) := by decide +kernel
theorem dX9_event_151 : decode cX9_event 151 = .ok (.iload 7, 2) := by decide +kernel
theorem dX9_event_153 : decode cX9_event 153 = .ok (.iconst 4, 1) := by decide +kernel
theorem dX9_event_154 : decode cX9_event 154 = .ok (.iadd, 1) := by decide +kernel
theorem dX9_event_155 : decode cX9_event 155 = .ok (.iload 5, 2) := by decide +kernel
theorem dX9_event_157 : decode cX9_event 157 = .ok (.iastore, 1) := by decide +kernel
theorem dX9_event_158 : decode cX9_event 158 = .ok (.aload_n 0, 1) := by decide +kernel
theorem dX9_event_159 : decode cX9_event 159 = .ok (.getfield 74, 3) := by decide +kernel
theorem dX9_event_162 : decode cX9_event 162 = .ok (.iload 7, 2) := by decide +kernel
theorem dX9_event_164 : decode cX9_event 164 = .ok (.iconst 5, 1) := by decide +kernel
theorem dX9_event_165 : decode cX9_event 165 = .ok (.iadd, 1) := by decide +kernel
theorem dX9_event_166 : decode cX9_event 166 = .ok (.iload 6, 2) := by decide +kernel
theorem dX9_event_168 : decode cX9_event 168 = .ok (.iastore, 1) := by decide +kernel
theorem dX9_event_169 : decode cX9_event 169 = .ok (.aload_n 0, 1) := by decide +kernel
theorem dX9_event_170 : decode cX9_event 170 = .ok (.dup, 1) := by decide +kernel
theorem dX9_event_171 : decode cX9_event 171 = .ok (.getfield 194, 3) := by decide +kernel
theorem dX9_event_174 : decode cX9_event 174 = .ok (.iconst 1, 1) := by decide +kernel
theorem dX9_event_175 : decode cX9_event 175 = .ok (.iadd, 1) := by decide +kernel
theorem dX9_event_176 : decode cX9_event 176 = .ok (.putfield 194, 3) := by decide +kernel
theorem dX9_event_179 : decode cX9_event 179 = .ok (.aload_n 0, 1) := by decide +kernel
theorem dX9_event_180 : decode cX9_event 180 = .ok (.getfield 194, 3) := by decide +kernel
theorem dX9_event_183 : decode cX9_event 183 = .ok (.iconst 1, 1) := by decide +kernel
theorem dX9_event_184 : decode cX9_event 184 = .ok (.isub, 1) := by decide +kernel
theorem dX9_event_185 : decode cX9_event 185 = .ok (.ireturn, 1) := by decide +kernel
theorem dX9_isEvent_0 : decode cX9_isEvent 0 = .ok (.iload_n 1, 1) := by decide +kernel
theorem dX9_isEvent_1 : decode cX9_isEvent 1 = .ok (.iconst 0, 1) := by decide +kernel
theorem dX9_isEvent_2 : decode cX9_isEvent 2 = .ok (.aload_n 0, 1) := by decide +kernel
theorem dX9_isEvent_3 : decode cX9_isEvent 3 = .ok (.getfield 194, 3) := by decide +kernel
theorem dX9_isEvent_6 : decode cX9_isEvent 6 = .ok (.iconst 1, 1) := by decide +kernel
theorem dX9_isEvent_7 : decode cX9_isEvent 7 = .ok (.isub, 1) := by decide +kernel
theorem dX9_isEvent_8 : decode cX9_isEvent 8 = .ok (.invokestatic 93, 3) := by decide +kernel
theorem dX9_isEvent_11 : decode cX9_isEvent 11 = .ok (.ireturn, 1) := by decide +kernel
theorem dX9_meet_0 : decode cX9_meet 0 = .ok (.bipush 6, 2) := by decide +kernel
theorem dX9_meet_2 : decode cX9_meet 2 = .ok (.iload_n 1, 1) := by decide +kernel
theorem dX9_meet_3 : decode cX9_meet 3 = .ok (.imul, 1) := by decide +kernel
theorem dX9_meet_4 : decode cX9_meet 4 = .ok (.istore_n 3, 1) := by decide +kernel
theorem dX9_meet_5 : decode cX9_meet 5 = .ok (.bipush 6, 2) := by decide +kernel
theorem dX9_meet_7 : decode cX9_meet 7 = .ok (.iload_n 2, 1) := by decide +kernel
theorem dX9_meet_8 : decode cX9_meet 8 = .ok (.imul, 1) := by decide +kernel
theorem dX9_meet_9 : decode cX9_meet 9 = .ok (.istore 4, 2) := by decide +kernel
theorem dX9_meet_11 : decode cX9_meet 11 = .ok (.aload_n 0, 1) := by decide +kernel
theorem dX9_meet_12 : decode cX9_meet 12 = .ok (.getfield 74, 3) := by decide +kernel
theorem dX9_meet_15 : decode cX9_meet 15 = .ok (.iload_n 3, 1) := by decide +kernel
theorem dX9_meet_16 : decode cX9_meet 16 = .ok (.iconst 3, 1) := by decide +kernel
theorem dX9_meet_17 : decode cX9_meet 17 = .ok (.iadd, 1) := by decide +kernel
theorem dX9_meet_18 : decode cX9_meet 18 = .ok (.iaload, 1) := by decide +kernel
theorem dX9_meet_19 : decode cX9_meet 19 = .ok (.aload_n 0, 1) := by decide +kernel
theorem dX9_meet_20 : decode cX9_meet 20 = .ok (.getfield 74, 3) := by decide +kernel
theorem dX9_meet_23 : decode cX9_meet 23 = .ok (.iload 4, 2) := by decide +kernel
theorem dX9_meet_25 : decode cX9_meet 25 = .ok (.iconst 3, 1) := by decide +kernel
theorem dX9_meet_26 : decode cX9_meet 26 = .ok (.iadd, 1) := by decide +kernel
theorem dX9_meet_27 : decode cX9_meet 27 = .ok (.iaload, 1) := by decide +kernel
theorem dX9_meet_28 : decode cX9_meet 28 = .ok (.if_icmp .ne 66, 3) := by decide +kernel
theorem dX9_meet_31 : decode cX9_meet 31 = .ok (.aload_n 0, 1) := by decide +kernel
theorem dX9_meet_32 : decode cX9_meet 32 = .ok (.getfield 74, 3) := by decide +kernel
theorem dX9_meet_35 : decode cX9_meet 35 = .ok (.iload_n 3, 1) := by decide +kernel
theorem dX9_meet_36 : decode cX9_meet 36 = .ok (.iconst 4, 1) := by decide +kernel
theorem dX9_meet_37 : decode cX9_meet 37 = .ok (.iadd, 1) := by decide +kernel
theorem dX9_meet_38 : decode cX9_meet 38 = .ok (.iaload, 1) := by decide +kernel
theorem dX9_meet_39 : decode cX9_meet 39 = .ok (.aload_n 0, 1) := by decide +kernel
theorem dX9_meet_40 : decode cX9_meet 40 = .ok (.getfield 74, 3) := by decide +kernel
theorem dX9_meet_43 : decode cX9_meet 43 = .ok (.iload 4, 2) := by decide +kernel
theorem dX9_meet_45 : decode cX9_meet 45 = .ok (.iconst 4, 1) := by decide +kernel
theorem dX9_meet_46 : decode cX9_meet 46 = .ok (.iadd, 1) := by decide +kernel
theorem dX9_meet_47 : decode cX9_meet 47 = .ok (.iaload, 1) := by decide +kernel
theorem dX9_meet_48 : decode cX9_meet 48 = .ok (.aload_n 0, 1) := by decide +kernel
theorem dX9_meet_49 : decode cX9_meet 49 = .ok (.getfield 74, 3) := by decide +kernel
theorem dX9_meet_52 : decode cX9_meet 52 = .ok (.iload 4, 2) := by decide +kernel
theorem dX9_meet_54 : decode cX9_meet 54 = .ok (.iconst 5, 1) := by decide +kernel
theorem dX9_meet_55 : decode cX9_meet 55 = .ok (.iadd, 1) := by decide +kernel
theorem dX9_meet_56 : decode cX9_meet 56 = .ok (.iaload, 1) := by decide +kernel
theorem dX9_meet_57 : decode cX9_meet 57 = .ok (.iadd, 1) := by decide +kernel
theorem dX9_meet_58 : decode cX9_meet 58 = .ok (.if_icmp .ge 36, 3) := by decide +kernel
theorem dX9_meet_61 : decode cX9_meet 61 = .ok (.aload_n 0, 1) := by decide +kernel
theorem dX9_meet_62 : decode cX9_meet 62 = .ok (.getfield 74, 3) := by decide +kernel
theorem dX9_meet_65 : decode cX9_meet 65 = .ok (.iload 4, 2) := by decide +kernel
theorem dX9_meet_67 : decode cX9_meet 67 = .ok (.iconst 4, 1) := by decide +kernel
theorem dX9_meet_68 : decode cX9_meet 68 = .ok (.iadd, 1) := by decide +kernel
theorem dX9_meet_69 : decode cX9_meet 69 = .ok (.iaload, 1) := by decide +kernel
theorem dX9_meet_70 : decode cX9_meet 70 = .ok (.aload_n 0, 1) := by decide +kernel
theorem dX9_meet_71 : decode cX9_meet 71 = .ok (.getfield 74, 3) := by decide +kernel
theorem dX9_meet_74 : decode cX9_meet 74 = .ok (.iload_n 3, 1) := by decide +kernel
theorem dX9_meet_75 : decode cX9_meet 75 = .ok (.iconst 4, 1) := by decide +kernel
theorem dX9_meet_76 : decode cX9_meet 76 = .ok (.iadd, 1) := by decide +kernel
theorem dX9_meet_77 : decode cX9_meet 77 = .ok (.iaload, 1) := by decide +kernel
theorem dX9_meet_78 : decode cX9_meet 78 = .ok (.aload_n 0, 1) := by decide +kernel
theorem dX9_meet_79 : decode cX9_meet 79 = .ok (.getfield 74, 3) := by decide +kernel
theorem dX9_meet_82 : decode cX9_meet 82 = .ok (.iload_n 3, 1) := by decide +kernel
theorem dX9_meet_83 : decode cX9_meet 83 = .ok (.iconst 5, 1) := by decide +kernel
theorem dX9_meet_84 : decode cX9_meet 84 = .ok (.iadd, 1) := by decide +kernel
theorem dX9_meet_85 : decode cX9_meet 85 = .ok (.iaload, 1) := by decide +kernel
theorem dX9_meet_86 : decode cX9_meet 86 = .ok (.iadd, 1) := by decide +kernel
theorem dX9_meet_87 : decode cX9_meet 87 = .ok (.if_icmp .ge 7, 3) := by decide +kernel
theorem dX9_meet_90 : decode cX9_meet 90 = .ok (.iconst 1, 1) := by decide +kernel
theorem dX9_meet_91 : decode cX9_meet 91 = .ok (.goto 4, 3) := by decide +kernel
theorem dX9_meet_94 : decode cX9_meet 94 = .ok (.iconst 0, 1) := by decide +kernel
theorem dX9_meet_95 : decode cX9_meet 95 = .ok (.ireturn, 1) := by decide +kernel
theorem dX9_staff_0 : decode cX9_staff 0 = .ok (.aload_n 0, 1) := by decide +kernel
theorem dX9_staff_1 : decode cX9_staff 1 = .ok (.aload_n 0, 1) := by decide +kernel
theorem dX9_staff_2 : decode cX9_staff 2 = .ok (.iload_n 1, 1) := by decide +kernel
theorem dX9_staff_3 : decode cX9_staff 3 = .ok (.invokevirtual 197, 3) := by decide +kernel
theorem dX9_staff_6 : decode cX9_staff 6 = .ok (.ifCond .eq 15, 3) := by decide +kernel
theorem dX9_staff_9 : decode cX9_staff 9 = .ok (.aload_n 0, 1) := by decide +kernel
theorem dX9_staff_10 : decode cX9_staff 10 = .ok (.iload_n 2, 1) := by decide +kernel
theorem dX9_staff_11 : decode cX9_staff 11 = .ok (.invokevirtual 159, 3) := by decide +kernel
theorem dX9_staff_14 : decode cX9_staff 14 = .ok (.ifCond .eq 7, 3) := by decide +kernel
theorem dX9_staff_17 : decode cX9_staff 17 = .ok (.iconst 1, 1) := by decide +kernel
theorem dX9_staff_18 : decode cX9_staff 18 = .ok (.goto 4, 3) := by decide +kernel
theorem dX9_staff_21 : decode cX9_staff 21 = .ok (.iconst 0, 1) := by decide +kernel
theorem dX9_staff_22 : decode cX9_staff 22 = .ok (.invokevirtual 104, 3) := by decide +kernel
theorem dX9_staff_25 : decode cX9_staff 25 = .ok (.ifCond .ne 5, 3) := by decide +kernel
theorem dX9_staff_28 : decode cX9_staff 28 = .ok (.iconst 0, 1) := by decide +kernel
theorem dX9_staff_29 : decode cX9_staff 29 = .ok (.ireturn, 1) := by decide +kernel
theorem dX9_staff_30 : decode cX9_staff 30 = .ok (.iconst 0, 1) := by decide +kernel
theorem dX9_staff_31 : decode cX9_staff 31 = .ok (.istore 4, 2) := by decide +kernel
theorem dX9_staff_33 : decode cX9_staff 33 = .ok (.iconst 0, 1) := by decide +kernel
theorem dX9_staff_34 : decode cX9_staff 34 = .ok (.istore 5, 2) := by decide +kernel
theorem dX9_staff_36 : decode cX9_staff 36 = .ok (.iload 5, 2) := by decide +kernel
theorem dX9_staff_38 : decode cX9_staff 38 = .ok (.aload_n 0, 1) := by decide +kernel
theorem dX9_staff_39 : decode cX9_staff 39 = .ok (.getfield 194, 3) := by decide +kernel
theorem dX9_staff_42 : decode cX9_staff 42 = .ok (.if_icmp .ge 52, 3) := by decide +kernel
theorem dX9_staff_45 : decode cX9_staff 45 = .ok (.iload 4, 2) := by decide +kernel
theorem dX9_staff_47 : decode cX9_staff 47 = .ok (.ifCond .ne 34, 3) := by decide +kernel
theorem dX9_staff_50 : decode cX9_staff 50 = .ok (.iload 5, 2) := by decide +kernel
theorem dX9_staff_52 : decode cX9_staff 52 = .ok (.iload_n 1, 1) := by decide +kernel
theorem dX9_staff_53 : decode cX9_staff 53 = .ok (.if_icmp .eq 32, 3) := by decide +kernel
theorem dX9_staff_56 : decode cX9_staff 56 = .ok (.aload_n 0, 1) := by decide +kernel
theorem dX9_staff_57 : decode cX9_staff 57 = .ok (.getfield 77, 3) := by decide +kernel
theorem dX9_staff_60 : decode cX9_staff 60 = .ok (.iload 5, 2) := by decide +kernel
theorem dX9_staff_62 : decode cX9_staff 62 = .ok (.iaload, 1) := by decide +kernel
theorem dX9_staff_63 : decode cX9_staff 63 = .ok (.iload_n 2, 1) := by decide +kernel
theorem dX9_staff_64 : decode cX9_staff 64 = .ok (.ishr, 1) := by decide +kernel
theorem dX9_staff_65 : decode cX9_staff 65 = .ok (.iconst 1, 1) := by decide +kernel
theorem dX9_staff_66 : decode cX9_staff 66 = .ok (.iand, 1) := by decide +kernel
theorem dX9_staff_67 : decode cX9_staff 67 = .ok (.iconst 1, 1) := by decide +kernel
theorem dX9_staff_68 : decode cX9_staff 68 = .ok (.if_icmp .ne 17, 3) := by decide +kernel
theorem dX9_staff_71 : decode cX9_staff 71 = .ok (.aload_n 0, 1) := by decide +kernel
theorem dX9_staff_72 : decode cX9_staff 72 = .ok (.iload 5, 2) := by decide +kernel
theorem dX9_staff_74 : decode cX9_staff 74 = .ok (.iload_n 1, 1) := by decide +kernel
theorem dX9_staff_75 : decode cX9_staff 75 = .ok (.invokevirtual 200, 3) := by decide +kernel
theorem dX9_staff_78 : decode cX9_staff 78 = .ok (.ifCond .eq 7, 3) := by decide +kernel
theorem dX9_staff_81 : decode cX9_staff 81 = .ok (.iconst 1, 1) := by decide +kernel
theorem dX9_staff_82 : decode cX9_staff 82 = .ok (.goto 4, 3) := by decide +kernel
theorem dX9_staff_85 : decode cX9_staff 85 = .ok (.iconst 0, 1) := by decide +kernel
theorem dX9_staff_86 : decode cX9_staff 86 = .ok (.istore 4, 2) := by decide +kernel
theorem dX9_staff_88 : decode cX9_staff 88 = .ok (.iinc 5 1, 3) := by decide +kernel
theorem dX9_staff_91 : decode cX9_staff 91 = .ok (.goto (-55), 3) := by decide +kernel
theorem dX9_staff_94 : decode cX9_staff 94 = .ok (.iload_n 3, 1) := by decide +kernel
theorem dX9_staff_95 : decode cX9_staff 95 = .ok (.ifCond .eq 14, 3) := by decide +kernel
theorem dX9_staff_98 : decode cX9_staff 98 = .ok (.iload 4, 2) := by decide +kernel
theorem dX9_staff_100 : decode cX9_staff 100 = .ok (.ifCond .eq 9, 3) := by decide +kernel
theorem dX9_staff_103 : decode cX9_staff 103 = .ok (.aload_n 0, 1) := by decide +kernel
theorem dX9_staff_104 : decode cX9_staff 104 = .ok (.iconst 2, 1) := by decide +kernel
theorem dX9_staff_105 : decode cX9_staff 105 = .ok (.invokevirtual 108, 3) := by decide +kernel
theorem dX9_staff_108 : decode cX9_staff 108 = .ok (.ireturn, 1) := by decide +kernel
theorem dX9_staff_109 : decode cX9_staff 109 = .ok (.aload_n 0, 1) := by decide +kernel
theorem dX9_staff_110 : decode cX9_staff 110 = .ok (.getfield 77, 3) := by decide +kernel
theorem dX9_staff_113 : decode cX9_staff 113 = .ok (.iload_n 1, 1) := by decide +kernel
theorem dX9_staff_114 : decode cX9_staff 114 = .ok (.iload_n 3, 1) := by decide +kernel
theorem dX9_staff_115 : decode cX9_staff 115 = .ok (.ifCond .eq 16, 3) := by decide +kernel
theorem dX9_staff_118 : decode cX9_staff 118 = .ok (.aload_n 0, 1) := by decide +kernel
theorem dX9_staff_119 : decode cX9_staff 119 = .ok (.getfield 77, 3) := by decide +kernel
theorem dX9_staff_122 : decode cX9_staff 122 = .ok (.iload_n 1, 1) := by decide +kernel
theorem dX9_staff_123 : decode cX9_staff 123 = .ok (.iaload, 1) := by decide +kernel
theorem dX9_staff_124 : decode cX9_staff 124 = .ok (.iconst 1, 1) := by decide +kernel
theorem dX9_staff_125 : decode cX9_staff 125 = .ok (.iload_n 2, 1) := by decide +kernel
theorem dX9_staff_126 : decode cX9_staff 126 = .ok (.ishl, 1) := by decide +kernel
theorem dX9_staff_127 : decode cX9_staff 127 = .ok (.ior, 1) := by decide +kernel
theorem dX9_staff_128 : decode cX9_staff 128 = .ok (.goto 15, 3) := by decide +kernel
theorem dX9_staff_131 : decode cX9_staff 131 = .ok (.aload_n 0, 1) := by decide +kernel
theorem dX9_staff_132 : decode cX9_staff 132 = .ok (.getfield 77, 3) := by decide +kernel
theorem dX9_staff_135 : decode cX9_staff 135 = .ok (.iload_n 1, 1) := by decide +kernel
theorem dX9_staff_136 : decode cX9_staff 136 = .ok (.iaload, 1) := by decide +kernel
theorem dX9_staff_137 : decode cX9_staff 137 = .ok (.iconst 1, 1) := by decide +kernel
theorem dX9_staff_138 : decode cX9_staff 138 = .ok (.iload_n 2, 1) := by decide +kernel
theorem dX9_staff_139 : decode cX9_staff 139 = .ok (.ishl, 1) := by decide +kernel
theorem dX9_staff_140 : decode cX9_staff 140 = .ok (.iconst (-1), 1) := by decide +kernel
theorem dX9_staff_141 : decode cX9_staff 141 = .ok (.ixor, 1) := by decide +kernel
theorem dX9_staff_142 : decode cX9_staff 142 = .ok (.iand, 1) := by decide +kernel
theorem dX9_staff_143 : decode cX9_staff 143 = .ok (.iastore, 1) := by decide +kernel
theorem dX9_staff_144 : decode cX9_staff 144 = .ok (.aload_n 0, 1) := by decide +kernel
theorem dX9_staff_145 : decode cX9_staff 145 = .ok (.getfield 77, 3) := by decide +kernel
theorem dX9_staff_148 : decode cX9_staff 148 = .ok (.iload_n 1, 1) := by decide +kernel
theorem dX9_staff_149 : decode cX9_staff 149 = .ok (.iaload, 1) := by decide +kernel
theorem dX9_staff_150 : decode cX9_staff 150 = .ok (.invokestatic 171, 3) := by decide +kernel
theorem dX9_staff_153 : decode cX9_staff 153 = .ok (.ireturn, 1) := by decide +kernel
theorem dX9_ratio_0 : decode cX9_ratio 0 = .ok (.iload_n 0, 1) := by decide +kernel
theorem dX9_ratio_1 : decode cX9_ratio 1 = .ok (.ifCond .ne 8, 3) := by decide +kernel
theorem dX9_ratio_4 : decode cX9_ratio 4 = .ok (.bipush 8, 2) := by decide +kernel
theorem dX9_ratio_6 : decode cX9_ratio 6 = .ok (.goto 23, 3) := by decide +kernel
theorem dX9_ratio_9 : decode cX9_ratio 9 = .ok (.iload_n 0, 1) := by decide +kernel
theorem dX9_ratio_10 : decode cX9_ratio 10 = .ok (.iconst 1, 1) := by decide +kernel
theorem dX9_ratio_11 : decode cX9_ratio 11 = .ok (.if_icmp .ne 7, 3) := by decide +kernel
theorem dX9_ratio_14 : decode cX9_ratio 14 = .ok (.iconst 4, 1) := by decide +kernel
theorem dX9_ratio_15 : decode cX9_ratio 15 = .ok (.goto 14, 3) := by decide +kernel
theorem dX9_ratio_18 : decode cX9_ratio 18 = .ok (.iload_n 0, 1) := by decide +kernel
theorem dX9_ratio_19 : decode cX9_ratio 19 = .ok (.iconst 2, 1) := by decide +kernel
theorem dX9_ratio_20 : decode cX9_ratio 20 = .ok (.if_icmp .ne 7, 3) := by decide +kernel
theorem dX9_ratio_23 : decode cX9_ratio 23 = .ok (.iconst 3, 1) := by decide +kernel
theorem dX9_ratio_24 : decode cX9_ratio 24 = .ok (.goto 5, 3) := by decide +kernel
theorem dX9_ratio_27 : decode cX9_ratio 27 = .ok (.bipush 6, 2) := by decide +kernel
theorem dX9_ratio_29 : decode cX9_ratio 29 = .ok (.ireturn, 1) := by decide +kernel
theorem dX9_reason_0 : decode cX9_reason 0 = .ok (.bipush 6, 2) := by decide +kernel
theorem dX9_reason_2 : decode cX9_reason 2 = .ok (.iload_n 1, 1) := by decide +kernel
theorem dX9_reason_3 : decode cX9_reason 3 = .ok (.imul, 1) := by decide +kernel
theorem dX9_reason_4 : decode cX9_reason 4 = .ok (.istore_n 3, 1) := by decide +kernel
theorem dX9_reason_5 : decode cX9_reason 5 = .ok (.aload_n 0, 1) := by decide +kernel
theorem dX9_reason_6 : decode cX9_reason 6 = .ok (.aload_n 0, 1) := by decide +kernel
theorem dX9_reason_7 : decode cX9_reason 7 = .ok (.getfield 74, 3) := by decide +kernel
theorem dX9_reason_10 : decode cX9_reason 10 = .ok (.iload_n 3, 1) := by decide +kernel
theorem dX9_reason_11 : decode cX9_reason 11 = .ok (.iaload, 1) := by decide +kernel
theorem dX9_reason_12 : decode cX9_reason 12 = .ok (.invokevirtual 116, 3) := by decide +kernel
theorem dX9_reason_15 : decode cX9_reason 15 = .ok (.istore 4, 2) := by decide +kernel
theorem dX9_reason_17 : decode cX9_reason 17 = .ok (.aload_n 0, 1) := by decide +kernel
theorem dX9_reason_18 : decode cX9_reason 18 = .ok (.getfield 74, 3) := by decide +kernel
theorem dX9_reason_21 : decode cX9_reason 21 = .ok (.iload_n 3, 1) := by decide +kernel
theorem dX9_reason_22 : decode cX9_reason 22 = .ok (.iconst 2, 1) := by decide +kernel
theorem dX9_reason_23 : decode cX9_reason 23 = .ok (.iadd, 1) := by decide +kernel
theorem dX9_reason_24 : decode cX9_reason 24 = .ok (.iaload, 1) := by decide +kernel
theorem dX9_reason_25 : decode cX9_reason 25 = .ok (.istore 5, 2) := by decide +kernel
theorem dX9_reason_27 : decode cX9_reason 27 = .ok (.iload 4, 2) := by decide +kernel
theorem dX9_reason_29 : decode cX9_reason 29 = .ok (.ifCond .ne 5, 3) := by decide +kernel
theorem dX9_reason_32 : decode cX9_reason 32 = .ok (.iconst 0, 1) := by decide +kernel
theorem dX9_reason_33 : decode cX9_reason 33 = .ok (.ireturn, 1) := by decide +kernel
theorem dX9_reason_34 : decode cX9_reason 34 = .ok (.iload_n 2, 1) := by decide +kernel
theorem dX9_reason_35 : decode cX9_reason 35 = .ok (.invokestatic 171, 3) := by decide +kernel
theorem dX9_reason_38 : decode cX9_reason 38 = .ok (.iload 5, 2) := by decide +kernel
theorem dX9_reason_40 : decode cX9_reason 40 = .ok (.invokestatic 203, 3) := by decide +kernel
theorem dX9_reason_43 : decode cX9_reason 43 = .ok (.imul, 1) := by decide +kernel
theorem dX9_reason_44 : decode cX9_reason 44 = .ok (.iload 4, 2) := by decide +kernel
theorem dX9_reason_46 : decode cX9_reason 46 = .ok (.if_icmp .ge 5, 3) := by decide +kernel
theorem dX9_reason_49 : decode cX9_reason 49 = .ok (.iconst 1, 1) := by decide +kernel
theorem dX9_reason_50 : decode cX9_reason 50 = .ok (.ireturn, 1) := by decide +kernel
theorem dX9_reason_51 : decode cX9_reason 51 = .ok (.iload 5, 2) := by decide +kernel
theorem dX9_reason_53 : decode cX9_reason 53 = .ok (.ifCond .ne 7, 3) := by decide +kernel
theorem dX9_reason_56 : decode cX9_reason 56 = .ok (.iconst 1, 1) := by decide +kernel
theorem dX9_reason_57 : decode cX9_reason 57 = .ok (.goto 4, 3) := by decide +kernel
theorem dX9_reason_60 : decode cX9_reason 60 = .ok (.iconst 0, 1) := by decide +kernel
theorem dX9_reason_61 : decode cX9_reason 61 = .ok (.istore 6, 2) := by decide +kernel
theorem dX9_reason_63 : decode cX9_reason 63 = .ok (.iconst 0, 1) := by decide +kernel
theorem dX9_reason_64 : decode cX9_reason 64 = .ok (.istore 7, 2) := by decide +kernel
theorem dX9_reason_66 : decode cX9_reason 66 = .ok (.iload 7, 2) := by decide +kernel
theorem dX9_reason_68 : decode cX9_reason 68 = .ok (.aload_n 0, 1) := by decide +kernel
theorem dX9_reason_69 : decode cX9_reason 69 = .ok (.getfield 100, 3) := by decide +kernel
theorem dX9_reason_72 : decode cX9_reason 72 = .ok (.if_icmp .ge 100, 3) := by decide +kernel
theorem dX9_reason_75 : decode cX9_reason 75 = .ok (.iload_n 2, 1) := by decide +kernel
theorem dX9_reason_76 : decode cX9_reason 76 = .ok (.iload 7, 2) := by decide +kernel
theorem dX9_reason_78 : decode cX9_reason 78 = .ok (.ishr, 1) := by decide +kernel
theorem dX9_reason_79 : decode cX9_reason 79 = .ok (.iconst 1, 1) := by decide +kernel
theorem dX9_reason_80 : decode cX9_reason 80 = .ok (.iand, 1) := by decide +kernel
theorem dX9_reason_81 : decode cX9_reason 81 = .ok (.iconst 1, 1) := by decide +kernel
theorem dX9_reason_82 : decode cX9_reason 82 = .ok (.if_icmp .ne 7, 3) := by decide +kernel
theorem dX9_reason_85 : decode cX9_reason 85 = .ok (.iconst 1, 1) := by decide +kernel
theorem dX9_reason_86 : decode cX9_reason 86 = .ok (.goto 4, 3) := by decide +kernel
theorem dX9_reason_89 : decode cX9_reason 89 = .ok (.iconst 0, 1) := by decide +kernel
theorem dX9_reason_90 : decode cX9_reason 90 = .ok (.istore 8, 2) := by decide +kernel
theorem dX9_reason_92 : decode cX9_reason 92 = .ok (.iload 8, 2) := by decide +kernel
theorem dX9_reason_94 : decode cX9_reason 94 = .ok (.ifCond .eq 30, 3) := by decide +kernel
theorem dX9_reason_97 : decode cX9_reason 97 = .ok (.aload_n 0, 1) := by decide +kernel
theorem dX9_reason_98 : decode cX9_reason 98 = .ok (.iload 7, 2) := by decide +kernel
theorem dX9_reason_100 : decode cX9_reason 100 = .ok (.aload_n 0, 1) := by decide +kernel
theorem dX9_reason_101 : decode cX9_reason 101 = .ok (.getfield 74, 3) := by decide +kernel
theorem dX9_reason_104 : decode cX9_reason 104 = .ok (.iload_n 3, 1) := by decide +kernel
theorem dX9_reason_105 : decode cX9_reason 105 = .ok (.iconst 1, 1) := by decide +kernel
theorem dX9_reason_106 : decode cX9_reason 106 = .ok (.iadd, 1) := by decide +kernel
theorem dX9_reason_107 : decode cX9_reason 107 = .ok (.iaload, 1) := by decide +kernel
theorem dX9_reason_108 : decode cX9_reason 108 = .ok (.aload_n 0, 1) := by decide +kernel
theorem dX9_reason_109 : decode cX9_reason 109 = .ok (.getfield 74, 3) := by decide +kernel
theorem dX9_reason_112 : decode cX9_reason 112 = .ok (.iload_n 3, 1) := by decide +kernel
theorem dX9_reason_113 : decode cX9_reason 113 = .ok (.iconst 3, 1) := by decide +kernel
theorem dX9_reason_114 : decode cX9_reason 114 = .ok (.iadd, 1) := by decide +kernel
theorem dX9_reason_115 : decode cX9_reason 115 = .ok (.iaload, 1) := by decide +kernel
theorem dX9_reason_116 : decode cX9_reason 116 = .ok (.invokevirtual 188, 3) := by decide +kernel
theorem dX9_reason_119 : decode cX9_reason 119 = .ok (.ifCond .ne 5, 3) := by decide +kernel
theorem dX9_reason_122 : decode cX9_reason 122 = .ok (.iconst 2, 1) := by decide +kernel
theorem dX9_reason_123 : decode cX9_reason 123 = .ok (.ireturn, 1) := by decide +kernel
theorem dX9_reason_124 : decode cX9_reason 124 = .ok (.iload 6, 2) := by decide +kernel
theorem dX9_reason_126 : decode cX9_reason 126 = .ok (.ifCond .ne 33, 3) := by decide +kernel
theorem dX9_reason_129 : decode cX9_reason 129 = .ok (.iload 8, 2) := by decide +kernel
theorem dX9_reason_131 : decode cX9_reason 131 = .ok (.ifCond .eq 32, 3) := by decide +kernel
theorem dX9_reason_134 : decode cX9_reason 134 = .ok (.aload_n 0, 1) := by decide +kernel
theorem dX9_reason_135 : decode cX9_reason 135 = .ok (.getfield 59, 3) := by decide +kernel
theorem dX9_reason_138 : decode cX9_reason 138 = .ok (.iconst 3, 1) := by decide +kernel
theorem dX9_reason_139 : decode cX9_reason 139 = .ok (.iload 7, 2) := by decide +kernel
theorem dX9_reason_141 : decode cX9_reason 141 = .ok (.imul, 1) := by decide +kernel
theorem dX9_reason_142 : decode cX9_reason 142 = .ok (.iload 5, 2) := by decide +kernel
theorem dX9_reason_144 : decode cX9_reason 144 = .ok (.iadd, 1) := by decide +kernel
theorem dX9_reason_145 : decode cX9_reason 145 = .ok (.iconst 1, 1) := by decide +kernel
theorem dX9_reason_146 : decode cX9_reason 146 = .ok (.isub, 1) := by decide +kernel
theorem dX9_reason_147 : decode cX9_reason 147 = .ok (.iaload, 1) := by decide +kernel
theorem dX9_reason_148 : decode cX9_reason 148 = .ok (.aload_n 0, 1) := by decide +kernel
theorem dX9_reason_149 : decode cX9_reason 149 = .ok (.getfield 74, 3) := by decide +kernel
theorem dX9_reason_152 : decode cX9_reason 152 = .ok (.iload_n 3, 1) := by decide +kernel
theorem dX9_reason_153 : decode cX9_reason 153 = .ok (.iconst 3, 1) := by decide +kernel
theorem dX9_reason_154 : decode cX9_reason 154 = .ok (.iadd, 1) := by decide +kernel
theorem dX9_reason_155 : decode cX9_reason 155 = .ok (.iaload, 1) := by decide +kernel
theorem dX9_reason_156 : decode cX9_reason 156 = .ok (.if_icmp .lt 7, 3) := by decide +kernel
theorem dX9_reason_159 : decode cX9_reason 159 = .ok (.iconst 1, 1) := by decide +kernel
theorem dX9_reason_160 : decode cX9_reason 160 = .ok (.goto 4, 3) := by decide +kernel
theorem dX9_reason_163 : decode cX9_reason 163 = .ok (.iconst 0, 1) := by decide +kernel
theorem dX9_reason_164 : decode cX9_reason 164 = .ok (.istore 6, 2) := by decide +kernel
theorem dX9_reason_166 : decode cX9_reason 166 = .ok (.iinc 7 1, 3) := by decide +kernel
theorem dX9_reason_169 : decode cX9_reason 169 = .ok (.goto (-103), 3) := by decide +kernel
theorem dX9_reason_172 : decode cX9_reason 172 = .ok (.iload 6, 2) := by decide +kernel
theorem dX9_reason_174 : decode cX9_reason 174 = .ok (.ifCond .ne 7, 3) := by decide +kernel
theorem dX9_reason_177 : decode cX9_reason 177 = .ok (.iconst 3, 1) := by decide +kernel
theorem dX9_reason_178 : decode cX9_reason 178 = .ok (.goto 22, 3) := by decide +kernel
theorem dX9_reason_181 : decode cX9_reason 181 = .ok (.iload 4, 2) := by decide +kernel
theorem dX9_reason_183 : decode cX9_reason 183 = .ok (.iconst 1, 1) := by decide +kernel
theorem dX9_reason_184 : decode cX9_reason 184 = .ok (.if_icmp .ne 15, 3) := by decide +kernel
theorem dX9_reason_187 : decode cX9_reason 187 = .ok (.iload_n 2, 1) := by decide +kernel
theorem dX9_reason_188 : decode cX9_reason 188 = .ok (.invokestatic 171, 3) := by decide +kernel
theorem dX9_reason_191 : decode cX9_reason 191 = .ok (.iconst 1, 1) := by decide +kernel
theorem dX9_reason_192 : decode cX9_reason 192 = .ok (.if_icmp .ne 7, 3) := by decide +kernel
theorem dX9_reason_195 : decode cX9_reason 195 = .ok (.iconst 4, 1) := by decide +kernel
theorem dX9_reason_196 : decode cX9_reason 196 = .ok (.goto 4, 3) := by decide +kernel
theorem dX9_reason_199 : decode cX9_reason 199 = .ok (.iconst 0, 1) := by decide +kernel
theorem dX9_reason_200 : decode cX9_reason 200 = .ok (.ireturn, 1) := by decide +kernel
theorem dX9_why_0 : decode cX9_why 0 = .ok (.aload_n 0, 1) := by decide +kernel
theorem dX9_why_1 : decode cX9_why 1 = .ok (.aload_n 0, 1) := by decide +kernel
theorem dX9_why_2 : decode cX9_why 2 = .ok (.iload_n 1, 1) := by decide +kernel
theorem dX9_why_3 : decode cX9_why 3 = .ok (.invokevirtual 197, 3) := by decide +kernel
theorem dX9_why_6 : decode cX9_why 6 = .ok (.invokevirtual 104, 3) := by decide +kernel
theorem dX9_why_9 : decode cX9_why 9 = .ok (.ifCond .eq 17, 3) := by decide +kernel
theorem dX9_why_12 : decode cX9_why 12 = .ok (.aload_n 0, 1) := by decide +kernel
theorem dX9_why_13 : decode cX9_why 13 = .ok (.iload_n 1, 1) := by decide +kernel
theorem dX9_why_14 : decode cX9_why 14 = .ok (.aload_n 0, 1) := by decide +kernel
theorem dX9_why_15 : decode cX9_why 15 = .ok (.getfield 77, 3) := by decide +kernel
theorem dX9_why_18 : decode cX9_why 18 = .ok (.iload_n 1, 1) := by decide +kernel
theorem dX9_why_19 : decode cX9_why 19 = .ok (.iaload, 1) := by decide +kernel
theorem dX9_why_20 : decode cX9_why 20 = .ok (.invokevirtual 206, 3) := by decide +kernel
theorem dX9_why_23 : decode cX9_why 23 = .ok (.goto 4, 3) := by decide +kernel
theorem dX9_why_26 : decode cX9_why 26 = .ok (.iconst 0, 1) := by decide +kernel
theorem dX9_why_27 : decode cX9_why 27 = .ok (.ireturn, 1) := by decide +kernel
theorem dX9_couldStaff_0 : decode cX9_couldStaff 0 = .ok (.aload_n 0, 1) := by decide +kernel
theorem dX9_couldStaff_1 : decode cX9_couldStaff 1 = .ok (.iload_n 1, 1) := by decide +kernel
theorem dX9_couldStaff_2 : decode cX9_couldStaff 2 = .ok (.invokestatic 150, 3) := by decide +kernel
theorem dX9_couldStaff_5 : decode cX9_couldStaff 5 = .ok (.ifCond .eq 33, 3) := by decide +kernel
theorem dX9_couldStaff_8 : decode cX9_couldStaff 8 = .ok (.iload_n 2, 1) := by decide +kernel
theorem dX9_couldStaff_9 : decode cX9_couldStaff 9 = .ok (.iconst 0, 1) := by decide +kernel
theorem dX9_couldStaff_10 : decode cX9_couldStaff 10 = .ok (.bipush 23, 2) := by decide +kernel
theorem dX9_couldStaff_12 : decode cX9_couldStaff 12 = .ok (.invokestatic 93, 3) := by decide +kernel
theorem dX9_couldStaff_15 : decode cX9_couldStaff 15 = .ok (.ifCond .eq 23, 3) := by decide +kernel
theorem dX9_couldStaff_18 : decode cX9_couldStaff 18 = .ok (.iload_n 3, 1) := by decide +kernel
theorem dX9_couldStaff_19 : decode cX9_couldStaff 19 = .ok (.iconst 0, 1) := by decide +kernel
theorem dX9_couldStaff_20 : decode cX9_couldStaff 20 = .ok (.iconst 1, 1) := by decide +kernel
theorem dX9_couldStaff_21 : decode cX9_couldStaff 21 = .ok (.aload_n 0, 1) := by decide +kernel
theorem dX9_couldStaff_22 : decode cX9_couldStaff 22 = .ok (.getfield 100, 3) := by decide +kernel
theorem dX9_couldStaff_25 : decode cX9_couldStaff 25 = .ok (.ishl, 1) := by decide +kernel
theorem dX9_couldStaff_26 : decode cX9_couldStaff 26 = .ok (.iconst 1, 1) := by decide +kernel
theorem dX9_couldStaff_27 : decode cX9_couldStaff 27 = .ok (.isub, 1) := by decide +kernel
theorem dX9_couldStaff_28 : decode cX9_couldStaff 28 = .ok (.invokestatic 93, 3) := by decide +kernel
theorem dX9_couldStaff_31 : decode cX9_couldStaff 31 = .ok (.ifCond .eq 7, 3) := by decide +kernel
theorem dX9_couldStaff_34 : decode cX9_couldStaff 34 = .ok (.iconst 1, 1) := by decide +kernel
theorem dX9_couldStaff_35 : decode cX9_couldStaff 35 = .ok (.goto 4, 3) := by decide +kernel
theorem dX9_couldStaff_38 : decode cX9_couldStaff 38 = .ok (.iconst 0, 1) := by decide +kernel
theorem dX9_couldStaff_39 : decode cX9_couldStaff 39 = .ok (.invokevirtual 104, 3) := by decide +kernel
theorem dX9_couldStaff_42 : decode cX9_couldStaff 42 = .ok (.ifCond .ne 5, 3) := by decide +kernel
theorem dX9_couldStaff_45 : decode cX9_couldStaff 45 = .ok (.iconst 0, 1) := by decide +kernel
theorem dX9_couldStaff_46 : decode cX9_couldStaff 46 = .ok (.ireturn, 1) := by decide +kernel
theorem dX9_couldStaff_47 : decode cX9_couldStaff 47 = .ok (.iconst 0, 1) := by decide +kernel
theorem dX9_couldStaff_48 : decode cX9_couldStaff 48 = .ok (.istore 4, 2) := by decide +kernel
theorem dX9_couldStaff_50 : decode cX9_couldStaff 50 = .ok (.iconst 0, 1) := by decide +kernel
theorem dX9_couldStaff_51 : decode cX9_couldStaff 51 = .ok (.istore 5, 2) := by decide +kernel
theorem dX9_couldStaff_53 : decode cX9_couldStaff 53 = .ok (.iload 5, 2) := by decide +kernel
theorem dX9_couldStaff_55 : decode cX9_couldStaff 55 = .ok (.aload_n 0, 1) := by decide +kernel
theorem dX9_couldStaff_56 : decode cX9_couldStaff 56 = .ok (.getfield 194, 3) := by decide +kernel
theorem dX9_couldStaff_59 : decode cX9_couldStaff 59 = .ok (.if_icmp .ge 132, 3) := by decide +kernel
theorem dX9_couldStaff_62 : decode cX9_couldStaff 62 = .ok (.bipush 6, 2) := by decide +kernel
theorem dX9_couldStaff_64 : decode cX9_couldStaff 64 = .ok (.iload 5, 2) := by decide +kernel
theorem dX9_couldStaff_66 : decode cX9_couldStaff 66 = .ok (.imul, 1) := by decide +kernel
theorem dX9_couldStaff_67 : decode cX9_couldStaff 67 = .ok (.istore 6, 2) := by decide +kernel
theorem dX9_couldStaff_69 : decode cX9_couldStaff 69 = .ok (.aload_n 0, 1) := by decide +kernel
theorem dX9_couldStaff_70 : decode cX9_couldStaff 70 = .ok (.getfield 74, 3) := by decide +kernel
theorem dX9_couldStaff_73 : decode cX9_couldStaff 73 = .ok (.iload 6, 2) := by decide +kernel
theorem dX9_couldStaff_75 : decode cX9_couldStaff 75 = .ok (.iconst 3, 1) := by decide +kernel
theorem dX9_couldStaff_76 : decode cX9_couldStaff 76 = .ok (.iadd, 1) := by decide +kernel
theorem dX9_couldStaff_77 : decode cX9_couldStaff 77 = .ok (.iaload, 1) := by decide +kernel
theorem dX9_couldStaff_78 : decode cX9_couldStaff 78 = .ok (.iload_n 1, 1) := by decide +kernel
theorem dX9_couldStaff_79 : decode cX9_couldStaff 79 = .ok (.if_icmp .ne 44, 3) := by decide +kernel
theorem dX9_couldStaff_82 : decode cX9_couldStaff 82 = .ok (.iload_n 2, 1) := by decide +kernel
theorem dX9_couldStaff_83 : decode cX9_couldStaff 83 = .ok (.aload_n 0, 1) := by decide +kernel
theorem dX9_couldStaff_84 : decode cX9_couldStaff 84 = .ok (.getfield 74, 3) := by decide +kernel
theorem dX9_couldStaff_87 : decode cX9_couldStaff 87 = .ok (.iload 6, 2) := by decide +kernel
theorem dX9_couldStaff_89 : decode cX9_couldStaff 89 = .ok (.iconst 4, 1) := by decide +kernel
theorem dX9_couldStaff_90 : decode cX9_couldStaff 90 = .ok (.iadd, 1) := by decide +kernel
theorem dX9_couldStaff_91 : decode cX9_couldStaff 91 = .ok (.iaload, 1) := by decide +kernel
theorem dX9_couldStaff_92 : decode cX9_couldStaff 92 = .ok (.aload_n 0, 1) := by decide +kernel
theorem dX9_couldStaff_93 : decode cX9_couldStaff 93 = .ok (.getfield 74, 3) := by decide +kernel
theorem dX9_couldStaff_96 : decode cX9_couldStaff 96 = .ok (.iload 6, 2) := by decide +kernel
theorem dX9_couldStaff_98 : decode cX9_couldStaff 98 = .ok (.iconst 4, 1) := by decide +kernel
theorem dX9_couldStaff_99 : decode cX9_couldStaff 99 = .ok (.iadd, 1) := by decide +kernel
theorem dX9_couldStaff_100 : decode cX9_couldStaff 100 = .ok (.iaload, 1) := by decide +kernel
theorem dX9_couldStaff_101 : decode cX9_couldStaff 101 = .ok (.aload_n 0, 1) := by decide +kernel
theorem dX9_couldStaff_102 : decode cX9_couldStaff 102 = .ok (.getfield 74, 3) := by decide +kernel
theorem dX9_couldStaff_105 : decode cX9_couldStaff 105 = .ok (.iload 6, 2) := by decide +kernel
theorem dX9_couldStaff_107 : decode cX9_couldStaff 107 = .ok (.iconst 5, 1) := by decide +kernel
theorem dX9_couldStaff_108 : decode cX9_couldStaff 108 = .ok (.iadd, 1) := by decide +kernel
theorem dX9_couldStaff_109 : decode cX9_couldStaff 109 = .ok (.iaload, 1) := by decide +kernel
theorem dX9_couldStaff_110 : decode cX9_couldStaff 110 = .ok (.iadd, 1) := by decide +kernel
theorem dX9_couldStaff_111 : decode cX9_couldStaff 111 = .ok (.iconst 1, 1) := by decide +kernel
theorem dX9_couldStaff_112 : decode cX9_couldStaff 112 = .ok (.isub, 1) := by decide +kernel
theorem dX9_couldStaff_113 : decode cX9_couldStaff 113 = .ok (.invokestatic 93, 3) := by decide +kernel
theorem dX9_couldStaff_116 : decode cX9_couldStaff 116 = .ok (.ifCond .eq 7, 3) := by decide +kernel
theorem dX9_couldStaff_119 : decode cX9_couldStaff 119 = .ok (.iconst 1, 1) := by decide +kernel
theorem dX9_couldStaff_120 : decode cX9_couldStaff 120 = .ok (.goto 4, 3) := by decide +kernel
theorem dX9_couldStaff_123 : decode cX9_couldStaff 123 = .ok (.iconst 0, 1) := by decide +kernel
theorem dX9_couldStaff_124 : decode cX9_couldStaff 124 = .ok (.istore 7, 2) := by decide +kernel
theorem dX9_couldStaff_126 : decode cX9_couldStaff 126 = .ok (.aload_n 0, 1) := by decide +kernel
theorem dX9_couldStaff_127 : decode cX9_couldStaff 127 = .ok (.getfield 80, 3) := by decide +kernel
theorem dX9_couldStaff_130 : decode cX9_couldStaff 130 = .ok (.iload 4, 2) := by decide +kernel
theorem dX9_couldStaff_132 : decode cX9_couldStaff 132 = .ok (.iconst 4, 1) := by decide +kernel
theorem dX9_couldStaff_133 : decode cX9_couldStaff 133 = .ok (.if_icmp .ge 8, 3) := by decide +kernel
theorem dX9_couldStaff_136 : decode cX9_couldStaff 136 = .ok (.iload 4, 2) := by decide +kernel
theorem dX9_couldStaff_138 : decode cX9_couldStaff 138 = .ok (.goto 4, 3) := by decide +kernel
theorem dX9_couldStaff_141 : decode cX9_couldStaff 141 = .ok (.iconst 3, 1) := by decide +kernel
theorem dX9_couldStaff_142 : decode cX9_couldStaff 142 = .ok (.iload 7, 2) := by decide +kernel
theorem dX9_couldStaff_144 : decode cX9_couldStaff 144 = .ok (.ifCond .eq 8, 3) := by decide +kernel
theorem dX9_couldStaff_147 : decode cX9_couldStaff 147 = .ok (.iload 5, 2) := by decide +kernel
theorem dX9_couldStaff_149 : decode cX9_couldStaff 149 = .ok (.goto 20, 3) := by decide +kernel
theorem dX9_couldStaff_152 : decode cX9_couldStaff 152 = .ok (.aload_n 0, 1) := by decide +kernel
theorem dX9_couldStaff_153 : decode cX9_couldStaff 153 = .ok (.getfield 80, 3) := by decide +kernel
theorem dX9_couldStaff_156 : decode cX9_couldStaff 156 = .ok (.iload 4, 2) := by decide +kernel
theorem dX9_couldStaff_158 : decode cX9_couldStaff 158 = .ok (.iconst 4, 1) := by decide +kernel
theorem dX9_couldStaff_159 : decode cX9_couldStaff 159 = .ok (.if_icmp .ge 8, 3) := by decide +kernel
theorem dX9_couldStaff_162 : decode cX9_couldStaff 162 = .ok (.iload 4, 2) := by decide +kernel
theorem dX9_couldStaff_164 : decode cX9_couldStaff 164 = .ok (.goto 4, 3) := by decide +kernel
theorem dX9_couldStaff_167 : decode cX9_couldStaff 167 = .ok (.iconst 3, 1) := by decide +kernel
theorem dX9_couldStaff_168 : decode cX9_couldStaff 168 = .ok (.iaload, 1) := by decide +kernel
theorem dX9_couldStaff_169 : decode cX9_couldStaff 169 = .ok (.iastore, 1) := by decide +kernel
theorem dX9_couldStaff_170 : decode cX9_couldStaff 170 = .ok (.iload 4, 2) := by decide +kernel
theorem dX9_couldStaff_172 : decode cX9_couldStaff 172 = .ok (.iload 7, 2) := by decide +kernel
theorem dX9_couldStaff_174 : decode cX9_couldStaff 174 = .ok (.ifCond .eq 7, 3) := by decide +kernel
theorem dX9_couldStaff_177 : decode cX9_couldStaff 177 = .ok (.iconst 1, 1) := by decide +kernel
theorem dX9_couldStaff_178 : decode cX9_couldStaff 178 = .ok (.goto 4, 3) := by decide +kernel
theorem dX9_couldStaff_181 : decode cX9_couldStaff 181 = .ok (.iconst 0, 1) := by decide +kernel
theorem dX9_couldStaff_182 : decode cX9_couldStaff 182 = .ok (.iadd, 1) := by decide +kernel
theorem dX9_couldStaff_183 : decode cX9_couldStaff 183 = .ok (.istore 4, 2) := by decide +kernel
theorem dX9_couldStaff_185 : decode cX9_couldStaff 185 = .ok (.iinc 5 1, 3) := by decide +kernel
theorem dX9_couldStaff_188 : decode cX9_couldStaff 188 = .ok (.goto (-135), 3) := by decide +kernel
theorem dX9_couldStaff_191 : decode cX9_couldStaff 191 = .ok (.iload 4, 2) := by decide +kernel
theorem dX9_couldStaff_193 : decode cX9_couldStaff 193 = .ok (.iconst 3, 1) := by decide +kernel
theorem dX9_couldStaff_194 : decode cX9_couldStaff 194 = .ok (.if_icmp .le 10, 3) := by decide +kernel
theorem dX9_couldStaff_197 : decode cX9_couldStaff 197 = .ok (.aload_n 0, 1) := by decide +kernel
theorem dX9_couldStaff_198 : decode cX9_couldStaff 198 = .ok (.iconst 2, 1) := by decide +kernel
theorem dX9_couldStaff_199 : decode cX9_couldStaff 199 = .ok (.putfield 86, 3) := by decide +kernel
theorem dX9_couldStaff_202 : decode cX9_couldStaff 202 = .ok (.iconst 0, 1) := by decide +kernel
theorem dX9_couldStaff_203 : decode cX9_couldStaff 203 = .ok (.ireturn, 1) := by decide +kernel
theorem dX9_couldStaff_204 : decode cX9_couldStaff 204 = .ok (.iconst 1, 1) := by decide +kernel
theorem dX9_couldStaff_205 : decode cX9_couldStaff 205 = .ok (.istore 5, 2) := by decide +kernel
theorem dX9_couldStaff_207 : decode cX9_couldStaff 207 = .ok (.iconst 0, 1) := by decide +kernel
theorem dX9_couldStaff_208 : decode cX9_couldStaff 208 = .ok (.istore 6, 2) := by decide +kernel
theorem dX9_couldStaff_210 : decode cX9_couldStaff 210 = .ok (.iload 6, 2) := by decide +kernel
theorem dX9_couldStaff_212 : decode cX9_couldStaff 212 = .ok (.aload_n 0, 1) := by decide +kernel
theorem dX9_couldStaff_213 : decode cX9_couldStaff 213 = .ok (.getfield 100, 3) := by decide +kernel
theorem dX9_couldStaff_216 : decode cX9_couldStaff 216 = .ok (.if_icmp .ge 32, 3) := by decide +kernel
theorem dX9_couldStaff_219 : decode cX9_couldStaff 219 = .ok (.iload 5, 2) := by decide +kernel
theorem dX9_couldStaff_221 : decode cX9_couldStaff 221 = .ok (.iload_n 3, 1) := by decide +kernel
theorem dX9_couldStaff_222 : decode cX9_couldStaff 222 = .ok (.iload 6, 2) := by decide +kernel
theorem dX9_couldStaff_224 : decode cX9_couldStaff 224 = .ok (.ishr, 1) := by decide +kernel
theorem dX9_couldStaff_225 : decode cX9_couldStaff 225 = .ok (.iconst 1, 1) := by decide +kernel
theorem dX9_couldStaff_226 : decode cX9_couldStaff 226 = .ok (.iand, 1) := by decide +kernel
theorem dX9_couldStaff_227 : decode cX9_couldStaff 227 = .ok (.iconst 1, 1) := by decide +kernel
theorem dX9_couldStaff_228 : decode cX9_couldStaff 228 = .ok (.if_icmp .ne 10, 3) := by decide +kernel
theorem dX9_couldStaff_231 : decode cX9_couldStaff 231 = .ok (.iload 4, 2) := by decide +kernel
theorem dX9_couldStaff_233 : decode cX9_couldStaff 233 = .ok (.iconst 1, 1) := by decide +kernel
theorem dX9_couldStaff_234 : decode cX9_couldStaff 234 = .ok (.iadd, 1) := by decide +kernel
theorem dX9_couldStaff_235 : decode cX9_couldStaff 235 = .ok (.goto 4, 3) := by decide +kernel
theorem dX9_couldStaff_238 : decode cX9_couldStaff 238 = .ok (.iconst 1, 1) := by decide +kernel
theorem dX9_couldStaff_239 : decode cX9_couldStaff 239 = .ok (.imul, 1) := by decide +kernel
theorem dX9_couldStaff_240 : decode cX9_couldStaff 240 = .ok (.istore 5, 2) := by decide +kernel
theorem dX9_couldStaff_242 : decode cX9_couldStaff 242 = .ok (.iinc 6 1, 3) := by decide +kernel
theorem dX9_couldStaff_245 : decode cX9_couldStaff 245 = .ok (.goto (-35), 3) := by decide +kernel
theorem dX9_couldStaff_248 : decode cX9_couldStaff 248 = .ok (.iload 4, 2) := by decide +kernel
theorem dX9_couldStaff_250 : decode cX9_couldStaff 250 = .ok (.ifCond .ne 7, 3) := by decide +kernel
theorem dX9_couldStaff_253 : decode cX9_couldStaff 253 = .ok (.iconst 1, 1) := by decide +kernel
theorem dX9_couldStaff_254 : decode cX9_couldStaff 254 = .ok (.goto 4, 3) := by decide +kernel
theorem dX9_couldStaff_257 : decode cX9_couldStaff 257 = .ok (.iconst 0, 1) := by decide +kernel
theorem dX9_couldStaff_258 : decode cX9_couldStaff 258 = .ok (.istore 6, 2) := by decide +kernel
theorem dX9_couldStaff_260 : decode cX9_couldStaff 260 = .ok (.iconst 0, 1) := by decide +kernel
theorem dX9_couldStaff_261 : decode cX9_couldStaff 261 = .ok (.istore 7, 2) := by decide +kernel
theorem dX9_couldStaff_263 : decode cX9_couldStaff 263 = .ok (.iload 7, 2) := by decide +kernel
theorem dX9_couldStaff_265 : decode cX9_couldStaff 265 = .ok (.iload 5, 2) := by decide +kernel
theorem dX9_couldStaff_267 : decode cX9_couldStaff 267 = .ok (.if_icmp .ge 25, 3) := by decide +kernel
theorem dX9_couldStaff_270 : decode cX9_couldStaff 270 = .ok (.iload 6, 2) := by decide +kernel
theorem dX9_couldStaff_272 : decode cX9_couldStaff 272 = .ok (.ifCond .ne 20, 3) := by decide +kernel
theorem dX9_couldStaff_275 : decode cX9_couldStaff 275 = .ok (.aload_n 0, 1) := by decide +kernel
theorem dX9_couldStaff_276 : decode cX9_couldStaff 276 = .ok (.iload 7, 2) := by decide +kernel
theorem dX9_couldStaff_278 : decode cX9_couldStaff 278 = .ok (.iload 4, 2) := by decide +kernel
theorem dX9_couldStaff_280 : decode cX9_couldStaff 280 = .ok (.iload_n 3, 1) := by decide +kernel
theorem dX9_couldStaff_281 : decode cX9_couldStaff 281 = .ok (.invokevirtual 209, 3) := by decide +kernel
theorem dX9_couldStaff_284 : decode cX9_couldStaff 284 = .ok (.istore 6, 2) := by decide +kernel
theorem dX9_couldStaff_286 : decode cX9_couldStaff 286 = .ok (.iinc 7 1, 3) := by decide +kernel
theorem dX9_couldStaff_289 : decode cX9_couldStaff 289 = .ok (.goto (-26), 3) := by decide +kernel
theorem dX9_couldStaff_292 : decode cX9_couldStaff 292 = .ok (.iload 6, 2) := by decide +kernel
theorem dX9_couldStaff_294 : decode cX9_couldStaff 294 = .ok (.ireturn, 1) := by decide +kernel
theorem dX9_areLawful_0 : decode cX9_areLawful 0 = .ok (.iconst 0, 1) := by decide +kernel
theorem dX9_areLawful_1 : decode cX9_areLawful 1 = .ok (.istore 4, 2) := by decide +kernel
theorem dX9_areLawful_3 : decode cX9_areLawful 3 = .ok (.iload 4, 2) := by decide +kernel
theorem dX9_areLawful_5 : decode cX9_areLawful 5 = .ok (.iconst 4, 1) := by decide +kernel
theorem dX9_areLawful_6 : decode cX9_areLawful 6 = .ok (.if_icmp .ge 17, 3) := by decide +kernel
theorem dX9_areLawful_9 : decode cX9_areLawful 9 = .ok (.aload_n 0, 1) := by decide +kernel
theorem dX9_areLawful_10 : decode cX9_areLawful 10 = .ok (.getfield 83, 3) := by decide +kernel
theorem dX9_areLawful_13 : decode cX9_areLawful 13 = .ok (.iload 4, 2) := by decide +kernel
theorem dX9_areLawful_15 : decode cX9_areLawful 15 = .ok (.iconst 0, 1) := by decide +kernel
theorem dX9_areLawful_16 : decode cX9_areLawful 16 = .ok (.iastore, 1) := by decide +kernel
theorem dX9_areLawful_17 : decode cX9_areLawful 17 = .ok (.iinc 4 1, 3) := by decide +kernel
theorem dX9_areLawful_20 : decode cX9_areLawful 20 = .ok (.goto (-17), 3) := by decide +kernel
theorem dX9_areLawful_23 : decode cX9_areLawful 23 = .ok (.iload_n 1, 1) := by decide +kernel
theorem dX9_areLawful_24 : decode cX9_areLawful 24 = .ok (.istore 4, 2) := by decide +kernel
theorem dX9_areLawful_26 : decode cX9_areLawful 26 = .ok (.iconst 0, 1) := by decide +kernel
theorem dX9_areLawful_27 : decode cX9_areLawful 27 = .ok (.istore 5, 2) := by decide +kernel
theorem dX9_areLawful_29 : decode cX9_areLawful 29 = .ok (.iload 5, 2) := by decide +kernel
theorem dX9_areLawful_31 : decode cX9_areLawful 31 = .ok (.aload_n 0, 1) := by decide +kernel
theorem dX9_areLawful_32 : decode cX9_areLawful 32 = .ok (.getfield 100, 3) := by decide +kernel
theorem dX9_areLawful_35 : decode cX9_areLawful 35 = .ok (.if_icmp .ge 45, 3) := by decide +kernel
theorem dX9_areLawful_38 : decode cX9_areLawful 38 = .ok (.iload_n 3, 1) := by decide +kernel
theorem dX9_areLawful_39 : decode cX9_areLawful 39 = .ok (.iload 5, 2) := by decide +kernel
theorem dX9_areLawful_41 : decode cX9_areLawful 41 = .ok (.ishr, 1) := by decide +kernel
theorem dX9_areLawful_42 : decode cX9_areLawful 42 = .ok (.iconst 1, 1) := by decide +kernel
theorem dX9_areLawful_43 : decode cX9_areLawful 43 = .ok (.iand, 1) := by decide +kernel
theorem dX9_areLawful_44 : decode cX9_areLawful 44 = .ok (.iconst 1, 1) := by decide +kernel
theorem dX9_areLawful_45 : decode cX9_areLawful 45 = .ok (.if_icmp .ne 29, 3) := by decide +kernel
theorem dX9_areLawful_48 : decode cX9_areLawful 48 = .ok (.aload_n 0, 1) := by decide +kernel
theorem dX9_areLawful_49 : decode cX9_areLawful 49 = .ok (.getfield 83, 3) := by decide +kernel
theorem dX9_areLawful_52 : decode cX9_areLawful 52 = .ok (.iload 4, 2) := by decide +kernel
theorem dX9_areLawful_54 : decode cX9_areLawful 54 = .ok (.iload_n 2, 1) := by decide +kernel
theorem dX9_areLawful_55 : decode cX9_areLawful 55 = .ok (.iconst 1, 1) := by decide +kernel
theorem dX9_areLawful_56 : decode cX9_areLawful 56 = .ok (.iadd, 1) := by decide +kernel
theorem dX9_areLawful_57 : decode cX9_areLawful 57 = .ok (.irem, 1) := by decide +kernel
theorem dX9_areLawful_58 : decode cX9_areLawful 58 = .ok (.dup2, 1) := by decide +kernel
theorem dX9_areLawful_59 : decode cX9_areLawful 59 = .ok (.iaload, 1) := by decide +kernel
theorem dX9_areLawful_60 : decode cX9_areLawful 60 = .ok (.iconst 1, 1) := by decide +kernel
theorem dX9_areLawful_61 : decode cX9_areLawful 61 = .ok (.iload 5, 2) := by decide +kernel
theorem dX9_areLawful_63 : decode cX9_areLawful 63 = .ok (.ishl, 1) := by decide +kernel
theorem dX9_areLawful_64 : decode cX9_areLawful 64 = .ok (.ior, 1) := by decide +kernel
theorem dX9_areLawful_65 : decode cX9_areLawful 65 = .ok (.iastore, 1) := by decide +kernel
theorem dX9_areLawful_66 : decode cX9_areLawful 66 = .ok (.iload 4, 2) := by decide +kernel
theorem dX9_areLawful_68 : decode cX9_areLawful 68 = .ok (.iload_n 2, 1) := by decide +kernel
theorem dX9_areLawful_69 : decode cX9_areLawful 69 = .ok (.iconst 1, 1) := by decide +kernel
theorem dX9_areLawful_70 : decode cX9_areLawful 70 = .ok (.iadd, 1) := by decide +kernel
theorem dX9_areLawful_71 : decode cX9_areLawful 71 = .ok (.idiv, 1) := by decide +kernel
theorem dX9_areLawful_72 : decode cX9_areLawful 72 = .ok (.istore 4, 2) := by decide +kernel
theorem dX9_areLawful_74 : decode cX9_areLawful 74 = .ok (.iinc 5 1, 3) := by decide +kernel
theorem dX9_areLawful_77 : decode cX9_areLawful 77 = .ok (.goto (-48), 3) := by decide +kernel
theorem dX9_areLawful_80 : decode cX9_areLawful 80 = .ok (.iconst 1, 1) := by decide +kernel
theorem dX9_areLawful_81 : decode cX9_areLawful 81 = .ok (.istore 5, 2) := by decide +kernel
theorem dX9_areLawful_83 : decode cX9_areLawful 83 = .ok (.iconst 0, 1) := by decide +kernel
theorem dX9_areLawful_84 : decode cX9_areLawful 84 = .ok (.istore 6, 2) := by decide +kernel
theorem dX9_areLawful_86 : decode cX9_areLawful 86 = .ok (.iload 6, 2) := by decide +kernel
theorem dX9_areLawful_88 : decode cX9_areLawful 88 = .ok (.iload_n 2, 1) := by decide +kernel
theorem dX9_areLawful_89 : decode cX9_areLawful 89 = .ok (.if_icmp .ge 42, 3) := by decide +kernel
theorem dX9_areLawful_92 : decode cX9_areLawful 92 = .ok (.iload 5, 2) := by decide +kernel
theorem dX9_areLawful_94 : decode cX9_areLawful 94 = .ok (.ifCond .eq 37, 3) := by decide +kernel
theorem dX9_areLawful_97 : decode cX9_areLawful 97 = .ok (.aload_n 0, 1) := by decide +kernel
theorem dX9_areLawful_98 : decode cX9_areLawful 98 = .ok (.aload_n 0, 1) := by decide +kernel
theorem dX9_areLawful_99 : decode cX9_areLawful 99 = .ok (.getfield 80, 3) := by decide +kernel
theorem dX9_areLawful_102 : decode cX9_areLawful 102 = .ok (.iload 6, 2) := by decide +kernel
theorem dX9_areLawful_104 : decode cX9_areLawful 104 = .ok (.iaload, 1) := by decide +kernel
theorem dX9_areLawful_105 : decode cX9_areLawful 105 = .ok (.aload_n 0, 1) := by decide +kernel
theorem dX9_areLawful_106 : decode cX9_areLawful 106 = .ok (.getfield 83, 3) := by decide +kernel
theorem dX9_areLawful_109 : decode cX9_areLawful 109 = .ok (.iload 6, 2) := by decide +kernel
theorem dX9_areLawful_111 : decode cX9_areLawful 111 = .ok (.iaload, 1) := by decide +kernel
theorem dX9_areLawful_112 : decode cX9_areLawful 112 = .ok (.invokevirtual 206, 3) := by decide +kernel
theorem dX9_areLawful_115 : decode cX9_areLawful 115 = .ok (.ifCond .ne 7, 3) := by decide +kernel
theorem dX9_areLawful_118 : decode cX9_areLawful 118 = .ok (.iconst 1, 1) := by decide +kernel
theorem dX9_areLawful_119 : decode cX9_areLawful 119 = .ok (.goto 4, 3) := by decide +kernel
theorem dX9_areLawful_122 : decode cX9_areLawful 122 = .ok (.iconst 0, 1) := by decide +kernel
theorem dX9_areLawful_123 : decode cX9_areLawful 123 = .ok (.istore 5, 2) := by decide +kernel
theorem dX9_areLawful_125 : decode cX9_areLawful 125 = .ok (.iinc 6 1, 3) := by decide +kernel
theorem dX9_areLawful_128 : decode cX9_areLawful 128 = .ok (.goto (-42), 3) := by decide +kernel
theorem dX9_areLawful_131 : decode cX9_areLawful 131 = .ok (.iload 5, 2) := by decide +kernel
theorem dX9_areLawful_133 : decode cX9_areLawful 133 = .ok (.ireturn, 1) := by decide +kernel
theorem dX9_boxes_0 : decode cX9_boxes 0 = .ok (.aload_n 0, 1) := by decide +kernel
theorem dX9_boxes_1 : decode cX9_boxes 1 = .ok (.aload_n 0, 1) := by decide +kernel
theorem dX9_boxes_2 : decode cX9_boxes 2 = .ok (.iload_n 1, 1) := by decide +kernel
theorem dX9_boxes_3 : decode cX9_boxes 3 = .ok (.invokevirtual 129, 3) := by decide +kernel
theorem dX9_boxes_6 : decode cX9_boxes 6 = .ok (.invokevirtual 104, 3) := by decide +kernel
theorem dX9_boxes_9 : decode cX9_boxes 9 = .ok (.ifCond .ne 5, 3) := by decide +kernel
theorem dX9_boxes_12 : decode cX9_boxes 12 = .ok (.iconst 0, 1) := by decide +kernel
theorem dX9_boxes_13 : decode cX9_boxes 13 = .ok (.ireturn, 1) := by decide +kernel
theorem dX9_boxes_14 : decode cX9_boxes 14 = .ok (.iload_n 2, 1) := by decide +kernel
theorem dX9_boxes_15 : decode cX9_boxes 15 = .ok (.iconst 1, 1) := by decide +kernel
theorem dX9_boxes_16 : decode cX9_boxes 16 = .ok (.bipush 99, 2) := by decide +kernel
theorem dX9_boxes_18 : decode cX9_boxes 18 = .ok (.invokestatic 93, 3) := by decide +kernel
theorem dX9_boxes_21 : decode cX9_boxes 21 = .ok (.ifCond .ne 9, 3) := by decide +kernel
theorem dX9_boxes_24 : decode cX9_boxes 24 = .ok (.aload_n 0, 1) := by decide +kernel
theorem dX9_boxes_25 : decode cX9_boxes 25 = .ok (.iconst 2, 1) := by decide +kernel
theorem dX9_boxes_26 : decode cX9_boxes 26 = .ok (.invokevirtual 108, 3) := by decide +kernel
theorem dX9_boxes_29 : decode cX9_boxes 29 = .ok (.ireturn, 1) := by decide +kernel
theorem dX9_boxes_30 : decode cX9_boxes 30 = .ok (.aload_n 0, 1) := by decide +kernel
theorem dX9_boxes_31 : decode cX9_boxes 31 = .ok (.getfield 34, 3) := by decide +kernel
theorem dX9_boxes_34 : decode cX9_boxes 34 = .ok (.iload_n 1, 1) := by decide +kernel
theorem dX9_boxes_35 : decode cX9_boxes 35 = .ok (.iaload, 1) := by decide +kernel
theorem dX9_boxes_36 : decode cX9_boxes 36 = .ok (.ifCond .le 22, 3) := by decide +kernel
theorem dX9_boxes_39 : decode cX9_boxes 39 = .ok (.aload_n 0, 1) := by decide +kernel
theorem dX9_boxes_40 : decode cX9_boxes 40 = .ok (.getfield 37, 3) := by decide +kernel
theorem dX9_boxes_43 : decode cX9_boxes 43 = .ok (.iload_n 1, 1) := by decide +kernel
theorem dX9_boxes_44 : decode cX9_boxes 44 = .ok (.iaload, 1) := by decide +kernel
theorem dX9_boxes_45 : decode cX9_boxes 45 = .ok (.aload_n 0, 1) := by decide +kernel
theorem dX9_boxes_46 : decode cX9_boxes 46 = .ok (.getfield 22, 3) := by decide +kernel
theorem dX9_boxes_49 : decode cX9_boxes 49 = .ok (.iload_n 1, 1) := by decide +kernel
theorem dX9_boxes_50 : decode cX9_boxes 50 = .ok (.iaload, 1) := by decide +kernel
theorem dX9_boxes_51 : decode cX9_boxes 51 = .ok (.if_icmp .eq 7, 3) := by decide +kernel
theorem dX9_boxes_54 : decode cX9_boxes 54 = .ok (.iconst 1, 1) := by decide +kernel
theorem dX9_boxes_55 : decode cX9_boxes 55 = .ok (.goto 4, 3) := by decide +kernel
theorem dX9_boxes_58 : decode cX9_boxes 58 = .ok (.iconst 0, 1) := by decide +kernel
theorem dX9_boxes_59 : decode cX9_boxes 59 = .ok (.istore_n 3, 1) := by decide +kernel
theorem dX9_boxes_60 : decode cX9_boxes 60 = .ok (.aload_n 0, 1) := by decide +kernel
theorem dX9_boxes_61 : decode cX9_boxes 61 = .ok (.getfield 22, 3) := by decide +kernel
theorem dX9_boxes_64 : decode cX9_boxes 64 = .ok (.iload_n 1, 1) := by decide +kernel
theorem dX9_boxes_65 : decode cX9_boxes 65 = .ok (.iaload, 1) := by decide +kernel
theorem dX9_boxes_66 : decode cX9_boxes 66 = .ok (.iconst (-1), 1) := by decide +kernel
theorem dX9_boxes_67 : decode cX9_boxes 67 = .ok (.if_icmp .eq 21, 3) := by decide +kernel
theorem dX9_boxes_70 : decode cX9_boxes 70 = .ok (.iload_n 3, 1) := by decide +kernel
theorem dX9_boxes_71 : decode cX9_boxes 71 = .ok (.ifCond .ne 17, 3) := by decide +kernel
theorem dX9_boxes_74 : decode cX9_boxes 74 = .ok (.aload_n 0, 1) := by decide +kernel
theorem dX9_boxes_75 : decode cX9_boxes 75 = .ok (.getfield 40, 3) := by decide +kernel
theorem dX9_boxes_78 : decode cX9_boxes 78 = .ok (.iload_n 1, 1) := by decide +kernel
theorem dX9_boxes_79 : decode cX9_boxes 79 = .ok (.iaload, 1) := by decide +kernel
theorem dX9_boxes_80 : decode cX9_boxes 80 = .ok (.iload_n 2, 1) := by decide +kernel
theorem dX9_boxes_81 : decode cX9_boxes 81 = .ok (.iadd, 1) := by decide +kernel
theorem dX9_boxes_82 : decode cX9_boxes 82 = .ok (.sipush 9999, 3) := by decide +kernel
theorem dX9_boxes_85 : decode cX9_boxes 85 = .ok (.if_icmp .le 9, 3) := by decide +kernel
theorem dX9_boxes_88 : decode cX9_boxes 88 = .ok (.aload_n 0, 1) := by decide +kernel
theorem dX9_boxes_89 : decode cX9_boxes 89 = .ok (.iconst 3, 1) := by decide +kernel
theorem dX9_boxes_90 : decode cX9_boxes 90 = .ok (.invokevirtual 108, 3) := by decide +kernel
theorem dX9_boxes_93 : decode cX9_boxes 93 = .ok (.ireturn, 1) := by decide +kernel
theorem dX9_boxes_94 : decode cX9_boxes 94 = .ok (.aload_n 0, 1) := by decide +kernel
theorem dX9_boxes_95 : decode cX9_boxes 95 = .ok (.getfield 37, 3) := by decide +kernel
theorem dX9_boxes_98 : decode cX9_boxes 98 = .ok (.iload_n 1, 1) := by decide +kernel
theorem dX9_boxes_99 : decode cX9_boxes 99 = .ok (.aload_n 0, 1) := by decide +kernel
theorem dX9_boxes_100 : decode cX9_boxes 100 = .ok (.getfield 22, 3) := by decide +kernel
theorem dX9_boxes_103 : decode cX9_boxes 103 = .ok (.iload_n 1, 1) := by decide +kernel
theorem dX9_boxes_104 : decode cX9_boxes 104 = .ok (.iaload, 1) := by decide +kernel
theorem dX9_boxes_105 : decode cX9_boxes 105 = .ok (.iastore, 1) := by decide +kernel
theorem dX9_boxes_106 : decode cX9_boxes 106 = .ok (.aload_n 0, 1) := by decide +kernel
theorem dX9_boxes_107 : decode cX9_boxes 107 = .ok (.getfield 40, 3) := by decide +kernel
theorem dX9_boxes_110 : decode cX9_boxes 110 = .ok (.iload_n 1, 1) := by decide +kernel
theorem dX9_boxes_111 : decode cX9_boxes 111 = .ok (.dup2, 1) := by decide +kernel
theorem dX9_boxes_112 : decode cX9_boxes 112 = .ok (.iaload, 1) := by decide +kernel
theorem dX9_boxes_113 : decode cX9_boxes 113 = .ok (.iload_n 2, 1) := by decide +kernel
theorem dX9_boxes_114 : decode cX9_boxes 114 = .ok (.iadd, 1) := by decide +kernel
theorem dX9_boxes_115 : decode cX9_boxes 115 = .ok (.iastore, 1) := by decide +kernel
theorem dX9_boxes_116 : decode cX9_boxes 116 = .ok (.aload_n 0, 1) := by decide +kernel
theorem dX9_boxes_117 : decode cX9_boxes 117 = .ok (.getfield 34, 3) := by decide +kernel
theorem dX9_boxes_120 : decode cX9_boxes 120 = .ok (.iload_n 1, 1) := by decide +kernel
theorem dX9_boxes_121 : decode cX9_boxes 121 = .ok (.dup2, 1) := by decide +kernel
theorem dX9_boxes_122 : decode cX9_boxes 122 = .ok (.iaload, 1) := by decide +kernel
theorem dX9_boxes_123 : decode cX9_boxes 123 = .ok (.iconst 4, 1) := by decide +kernel
theorem dX9_boxes_124 : decode cX9_boxes 124 = .ok (.iload_n 2, 1) := by decide +kernel
theorem dX9_boxes_125 : decode cX9_boxes 125 = .ok (.imul, 1) := by decide +kernel
theorem dX9_boxes_126 : decode cX9_boxes 126 = .ok (.iadd, 1) := by decide +kernel
theorem dX9_boxes_127 : decode cX9_boxes 127 = .ok (.iastore, 1) := by decide +kernel
theorem dX9_boxes_128 : decode cX9_boxes 128 = .ok (.aload_n 0, 1) := by decide +kernel
theorem dX9_boxes_129 : decode cX9_boxes 129 = .ok (.getfield 34, 3) := by decide +kernel
theorem dX9_boxes_132 : decode cX9_boxes 132 = .ok (.iload_n 1, 1) := by decide +kernel
theorem dX9_boxes_133 : decode cX9_boxes 133 = .ok (.iaload, 1) := by decide +kernel
theorem dX9_boxes_134 : decode cX9_boxes 134 = .ok (.ireturn, 1) := by decide +kernel
theorem dX9_pay_0 : decode cX9_pay 0 = .ok (.aload_n 0, 1) := by decide +kernel
theorem dX9_pay_1 : decode cX9_pay 1 = .ok (.aload_n 0, 1) := by decide +kernel
theorem dX9_pay_2 : decode cX9_pay 2 = .ok (.iload_n 1, 1) := by decide +kernel
theorem dX9_pay_3 : decode cX9_pay 3 = .ok (.invokevirtual 129, 3) := by decide +kernel
theorem dX9_pay_6 : decode cX9_pay 6 = .ok (.invokevirtual 104, 3) := by decide +kernel
theorem dX9_pay_9 : decode cX9_pay 9 = .ok (.ifCond .ne 5, 3) := by decide +kernel
theorem dX9_pay_12 : decode cX9_pay 12 = .ok (.iconst 0, 1) := by decide +kernel
theorem dX9_pay_13 : decode cX9_pay 13 = .ok (.ireturn, 1) := by decide +kernel
theorem dX9_pay_14 : decode cX9_pay 14 = .ok (.iload_n 2, 1) := by decide +kernel
theorem dX9_pay_15 : decode cX9_pay 15 = .ok (.iconst 1, 1) := by decide +kernel
theorem dX9_pay_16 : decode cX9_pay 16 = .ok (.sipush 396, 3) := by decide +kernel
theorem dX9_pay_19 : decode cX9_pay 19 = .ok (.invokestatic 93, 3) := by decide +kernel
theorem dX9_pay_22 : decode cX9_pay 22 = .ok (.ifCond .ne 9, 3) := by decide +kernel
theorem dX9_pay_25 : decode cX9_pay 25 = .ok (.aload_n 0, 1) := by decide +kernel
theorem dX9_pay_26 : decode cX9_pay 26 = .ok (.iconst 2, 1) := by decide +kernel
theorem dX9_pay_27 : decode cX9_pay 27 = .ok (.invokevirtual 108, 3) := by decide +kernel
theorem dX9_pay_30 : decode cX9_pay 30 = .ok (.ireturn, 1) := by decide +kernel
theorem dX9_pay_31 : decode cX9_pay 31 = .ok (.aload_n 0, 1) := by decide +kernel
theorem dX9_pay_32 : decode cX9_pay 32 = .ok (.getfield 34, 3) := by decide +kernel
theorem dX9_pay_35 : decode cX9_pay 35 = .ok (.iload_n 1, 1) := by decide +kernel
theorem dX9_pay_36 : decode cX9_pay 36 = .ok (.iaload, 1) := by decide +kernel
theorem dX9_pay_37 : decode cX9_pay 37 = .ok (.iload_n 2, 1) := by decide +kernel
theorem dX9_pay_38 : decode cX9_pay 38 = .ok (.if_icmp .ge 9, 3) := by decide +kernel
theorem dX9_pay_41 : decode cX9_pay 41 = .ok (.aload_n 0, 1) := by decide +kernel
theorem dX9_pay_42 : decode cX9_pay 42 = .ok (.iconst 3, 1) := by decide +kernel
theorem dX9_pay_43 : decode cX9_pay 43 = .ok (.invokevirtual 108, 3) := by decide +kernel
theorem dX9_pay_46 : decode cX9_pay 46 = .ok (.ireturn, 1) := by decide +kernel
theorem dX9_pay_47 : decode cX9_pay 47 = .ok (.aload_n 0, 1) := by decide +kernel
theorem dX9_pay_48 : decode cX9_pay 48 = .ok (.getfield 34, 3) := by decide +kernel
theorem dX9_pay_51 : decode cX9_pay 51 = .ok (.iload_n 1, 1) := by decide +kernel
theorem dX9_pay_52 : decode cX9_pay 52 = .ok (.dup2, 1) := by decide +kernel
theorem dX9_pay_53 : decode cX9_pay 53 = .ok (.iaload, 1) := by decide +kernel
theorem dX9_pay_54 : decode cX9_pay 54 = .ok (.iload_n 2, 1) := by decide +kernel
theorem dX9_pay_55 : decode cX9_pay 55 = .ok (.isub, 1) := by decide +kernel
theorem dX9_pay_56 : decode cX9_pay 56 = .ok (.iastore, 1) := by decide +kernel
theorem dX9_pay_57 : decode cX9_pay 57 = .ok (.aload_n 0, 1) := by decide +kernel
theorem dX9_pay_58 : decode cX9_pay 58 = .ok (.getfield 34, 3) := by decide +kernel
theorem dX9_pay_61 : decode cX9_pay 61 = .ok (.iload_n 1, 1) := by decide +kernel
theorem dX9_pay_62 : decode cX9_pay 62 = .ok (.iaload, 1) := by decide +kernel
theorem dX9_pay_63 : decode cX9_pay 63 = .ok (.ireturn, 1) := by decide +kernel
theorem dX9_owed_0 : decode cX9_owed 0 = .ok (.aload_n 0, 1) := by decide +kernel
theorem dX9_owed_1 : decode cX9_owed 1 = .ok (.aload_n 0, 1) := by decide +kernel
theorem dX9_owed_2 : decode cX9_owed 2 = .ok (.iload_n 1, 1) := by decide +kernel
theorem dX9_owed_3 : decode cX9_owed 3 = .ok (.invokevirtual 133, 3) := by decide +kernel
theorem dX9_owed_6 : decode cX9_owed 6 = .ok (.invokevirtual 104, 3) := by decide +kernel
theorem dX9_owed_9 : decode cX9_owed 9 = .ok (.ifCond .ne 5, 3) := by decide +kernel
theorem dX9_owed_12 : decode cX9_owed 12 = .ok (.iconst 0, 1) := by decide +kernel
theorem dX9_owed_13 : decode cX9_owed 13 = .ok (.ireturn, 1) := by decide +kernel
theorem dX9_owed_14 : decode cX9_owed 14 = .ok (.iconst 0, 1) := by decide +kernel
theorem dX9_owed_15 : decode cX9_owed 15 = .ok (.istore_n 2, 1) := by decide +kernel
theorem dX9_owed_16 : decode cX9_owed 16 = .ok (.iconst 0, 1) := by decide +kernel
theorem dX9_owed_17 : decode cX9_owed 17 = .ok (.istore_n 3, 1) := by decide +kernel
theorem dX9_owed_18 : decode cX9_owed 18 = .ok (.iload_n 3, 1) := by decide +kernel
theorem dX9_owed_19 : decode cX9_owed 19 = .ok (.aload_n 0, 1) := by decide +kernel
theorem dX9_owed_20 : decode cX9_owed 20 = .ok (.getfield 97, 3) := by decide +kernel
theorem dX9_owed_23 : decode cX9_owed 23 = .ok (.if_icmp .ge 41, 3) := by decide +kernel
theorem dX9_owed_26 : decode cX9_owed 26 = .ok (.iload_n 2, 1) := by decide +kernel
theorem dX9_owed_27 : decode cX9_owed 27 = .ok (.aload_n 0, 1) := by decide +kernel
theorem dX9_owed_28 : decode cX9_owed 28 = .ok (.getfield 34, 3) := by decide +kernel
theorem dX9_owed_31 : decode cX9_owed 31 = .ok (.iload_n 3, 1) := by decide +kernel
theorem dX9_owed_32 : decode cX9_owed 32 = .ok (.iaload, 1) := by decide +kernel
theorem dX9_owed_33 : decode cX9_owed 33 = .ok (.ifCond .le 22, 3) := by decide +kernel
theorem dX9_owed_36 : decode cX9_owed 36 = .ok (.aload_n 0, 1) := by decide +kernel
theorem dX9_owed_37 : decode cX9_owed 37 = .ok (.getfield 37, 3) := by decide +kernel
theorem dX9_owed_40 : decode cX9_owed 40 = .ok (.iload_n 3, 1) := by decide +kernel
theorem dX9_owed_41 : decode cX9_owed 41 = .ok (.iaload, 1) := by decide +kernel
theorem dX9_owed_42 : decode cX9_owed 42 = .ok (.iload_n 1, 1) := by decide +kernel
theorem dX9_owed_43 : decode cX9_owed 43 = .ok (.if_icmp .ne 12, 3) := by decide +kernel
theorem dX9_owed_46 : decode cX9_owed 46 = .ok (.aload_n 0, 1) := by decide +kernel
theorem dX9_owed_47 : decode cX9_owed 47 = .ok (.getfield 34, 3) := by decide +kernel
theorem dX9_owed_50 : decode cX9_owed 50 = .ok (.iload_n 3, 1) := by decide +kernel
theorem dX9_owed_51 : decode cX9_owed 51 = .ok (.iaload, 1) := by decide +kernel
theorem dX9_owed_52 : decode cX9_owed 52 = .ok (.goto 4, 3) := by decide +kernel
theorem dX9_owed_55 : decode cX9_owed 55 = .ok (.iconst 0, 1) := by decide +kernel
theorem dX9_owed_56 : decode cX9_owed 56 = .ok (.iadd, 1) := by decide +kernel
theorem dX9_owed_57 : decode cX9_owed 57 = .ok (.istore_n 2, 1) := by decide +kernel
theorem dX9_owed_58 : decode cX9_owed 58 = .ok (.iinc 3 1, 3) := by decide +kernel
theorem dX9_owed_61 : decode cX9_owed 61 = .ok (.goto (-43), 3) := by decide +kernel
theorem dX9_owed_64 : decode cX9_owed 64 = .ok (.iload_n 2, 1) := by decide +kernel
theorem dX9_owed_65 : decode cX9_owed 65 = .ok (.ireturn, 1) := by decide +kernel
theorem dX9_today_0 : decode cX9_today 0 = .ok (.aload_n 0, 1) := by decide +kernel
theorem dX9_today_1 : decode cX9_today 1 = .ok (.iconst 0, 1) := by decide +kernel
theorem dX9_today_2 : decode cX9_today 2 = .ok (.putfield 86, 3) := by decide +kernel
theorem dX9_today_5 : decode cX9_today 5 = .ok (.aload_n 0, 1) := by decide +kernel
theorem dX9_today_6 : decode cX9_today 6 = .ok (.getfield 153, 3) := by decide +kernel
theorem dX9_today_9 : decode cX9_today 9 = .ok (.ireturn, 1) := by decide +kernel
theorem dX9_ofChild_0 : decode cX9_ofChild 0 = .ok (.aload_n 0, 1) := by decide +kernel
theorem dX9_ofChild_1 : decode cX9_ofChild 1 = .ok (.aload_n 0, 1) := by decide +kernel
theorem dX9_ofChild_2 : decode cX9_ofChild 2 = .ok (.iload_n 1, 1) := by decide +kernel
theorem dX9_ofChild_3 : decode cX9_ofChild 3 = .ok (.invokevirtual 129, 3) := by decide +kernel
theorem dX9_ofChild_6 : decode cX9_ofChild 6 = .ok (.invokevirtual 104, 3) := by decide +kernel
theorem dX9_ofChild_9 : decode cX9_ofChild 9 = .ok (.ifCond .ne 5, 3) := by decide +kernel
theorem dX9_ofChild_12 : decode cX9_ofChild 12 = .ok (.iconst 0, 1) := by decide +kernel
theorem dX9_ofChild_13 : decode cX9_ofChild 13 = .ok (.ireturn, 1) := by decide +kernel
theorem dX9_ofChild_14 : decode cX9_ofChild 14 = .ok (.iload_n 2, 1) := by decide +kernel
theorem dX9_ofChild_15 : decode cX9_ofChild 15 = .ok (.tableswitch 78 0 5 #[37, 44, 51, 58, 65, 71], 37) := by decide +kernel
theorem dX9_ofChild_52 : decode cX9_ofChild 52 = .ok (.aload_n 0, 1) := by decide +kernel
theorem dX9_ofChild_53 : decode cX9_ofChild 53 = .ok (.getfield 19, 3) := by decide +kernel
theorem dX9_ofChild_56 : decode cX9_ofChild 56 = .ok (.iload_n 1, 1) := by decide +kernel
theorem dX9_ofChild_57 : decode cX9_ofChild 57 = .ok (.iaload, 1) := by decide +kernel
theorem dX9_ofChild_58 : decode cX9_ofChild 58 = .ok (.ireturn, 1) := by decide +kernel
theorem dX9_ofChild_59 : decode cX9_ofChild 59 = .ok (.aload_n 0, 1) := by decide +kernel
theorem dX9_ofChild_60 : decode cX9_ofChild 60 = .ok (.getfield 22, 3) := by decide +kernel
theorem dX9_ofChild_63 : decode cX9_ofChild 63 = .ok (.iload_n 1, 1) := by decide +kernel
theorem dX9_ofChild_64 : decode cX9_ofChild 64 = .ok (.iaload, 1) := by decide +kernel
theorem dX9_ofChild_65 : decode cX9_ofChild 65 = .ok (.ireturn, 1) := by decide +kernel
theorem dX9_ofChild_66 : decode cX9_ofChild 66 = .ok (.aload_n 0, 1) := by decide +kernel
theorem dX9_ofChild_67 : decode cX9_ofChild 67 = .ok (.getfield 25, 3) := by decide +kernel
theorem dX9_ofChild_70 : decode cX9_ofChild 70 = .ok (.iload_n 1, 1) := by decide +kernel
theorem dX9_ofChild_71 : decode cX9_ofChild 71 = .ok (.iaload, 1) := by decide +kernel
theorem dX9_ofChild_72 : decode cX9_ofChild 72 = .ok (.ireturn, 1) := by decide +kernel
theorem dX9_ofChild_73 : decode cX9_ofChild 73 = .ok (.aload_n 0, 1) := by decide +kernel
theorem dX9_ofChild_74 : decode cX9_ofChild 74 = .ok (.getfield 31, 3) := by decide +kernel
theorem dX9_ofChild_77 : decode cX9_ofChild 77 = .ok (.iload_n 1, 1) := by decide +kernel
theorem dX9_ofChild_78 : decode cX9_ofChild 78 = .ok (.iaload, 1) := by decide +kernel
theorem dX9_ofChild_79 : decode cX9_ofChild 79 = .ok (.ireturn, 1) := by decide +kernel
theorem dX9_ofChild_80 : decode cX9_ofChild 80 = .ok (.aload_n 0, 1) := by decide +kernel
theorem dX9_ofChild_81 : decode cX9_ofChild 81 = .ok (.iload_n 1, 1) := by decide +kernel
theorem dX9_ofChild_82 : decode cX9_ofChild 82 = .ok (.invokevirtual 191, 3) := by decide +kernel
theorem dX9_ofChild_85 : decode cX9_ofChild 85 = .ok (.ireturn, 1) := by decide +kernel
theorem dX9_ofChild_86 : decode cX9_ofChild 86 = .ok (.aload_n 0, 1) := by decide +kernel
theorem dX9_ofChild_87 : decode cX9_ofChild 87 = .ok (.getfield 34, 3) := by decide +kernel
theorem dX9_ofChild_90 : decode cX9_ofChild 90 = .ok (.iload_n 1, 1) := by decide +kernel
theorem dX9_ofChild_91 : decode cX9_ofChild 91 = .ok (.iaload, 1) := by decide +kernel
theorem dX9_ofChild_92 : decode cX9_ofChild 92 = .ok (.ireturn, 1) := by decide +kernel
theorem dX9_ofChild_93 : decode cX9_ofChild 93 = .ok (.aload_n 0, 1) := by decide +kernel
theorem dX9_ofChild_94 : decode cX9_ofChild 94 = .ok (.iconst 2, 1) := by decide +kernel
theorem dX9_ofChild_95 : decode cX9_ofChild 95 = .ok (.invokevirtual 108, 3) := by decide +kernel
theorem dX9_ofChild_98 : decode cX9_ofChild 98 = .ok (.ireturn, 1) := by decide +kernel
theorem dX9_ofTroop_0 : decode cX9_ofTroop 0 = .ok (.aload_n 0, 1) := by decide +kernel
theorem dX9_ofTroop_1 : decode cX9_ofTroop 1 = .ok (.aload_n 0, 1) := by decide +kernel
theorem dX9_ofTroop_2 : decode cX9_ofTroop 2 = .ok (.iload_n 1, 1) := by decide +kernel
theorem dX9_ofTroop_3 : decode cX9_ofTroop 3 = .ok (.invokevirtual 133, 3) := by decide +kernel
theorem dX9_ofTroop_6 : decode cX9_ofTroop 6 = .ok (.invokevirtual 104, 3) := by decide +kernel
theorem dX9_ofTroop_9 : decode cX9_ofTroop 9 = .ok (.ifCond .ne 5, 3) := by decide +kernel
theorem dX9_ofTroop_12 : decode cX9_ofTroop 12 = .ok (.iconst 0, 1) := by decide +kernel
theorem dX9_ofTroop_13 : decode cX9_ofTroop 13 = .ok (.ireturn, 1) := by decide +kernel
theorem dX9_ofTroop_14 : decode cX9_ofTroop 14 = .ok (.iload_n 2, 1) := by decide +kernel
theorem dX9_ofTroop_15 : decode cX9_ofTroop 15 = .ok (.ifCond .eq 11, 3) := by decide +kernel
theorem dX9_ofTroop_18 : decode cX9_ofTroop 18 = .ok (.aload_n 0, 1) := by decide +kernel
theorem dX9_ofTroop_19 : decode cX9_ofTroop 19 = .ok (.iload_n 1, 1) := by decide +kernel
theorem dX9_ofTroop_20 : decode cX9_ofTroop 20 = .ok (.invokevirtual 126, 3) := by decide +kernel
theorem dX9_ofTroop_23 : decode cX9_ofTroop 23 = .ok (.goto 8, 3) := by decide +kernel
theorem dX9_ofTroop_26 : decode cX9_ofTroop 26 = .ok (.aload_n 0, 1) := by decide +kernel
theorem dX9_ofTroop_27 : decode cX9_ofTroop 27 = .ok (.iload_n 1, 1) := by decide +kernel
theorem dX9_ofTroop_28 : decode cX9_ofTroop 28 = .ok (.invokevirtual 116, 3) := by decide +kernel
theorem dX9_ofTroop_31 : decode cX9_ofTroop 31 = .ok (.ireturn, 1) := by decide +kernel
theorem dX9_earned_0 : decode cX9_earned 0 = .ok (.aload_n 0, 1) := by decide +kernel
theorem dX9_earned_1 : decode cX9_earned 1 = .ok (.aload_n 0, 1) := by decide +kernel
theorem dX9_earned_2 : decode cX9_earned 2 = .ok (.iload_n 1, 1) := by decide +kernel
theorem dX9_earned_3 : decode cX9_earned 3 = .ok (.invokevirtual 129, 3) := by decide +kernel
theorem dX9_earned_6 : decode cX9_earned 6 = .ok (.ifCond .eq 14, 3) := by decide +kernel
theorem dX9_earned_9 : decode cX9_earned 9 = .ok (.iload_n 2, 1) := by decide +kernel
theorem dX9_earned_10 : decode cX9_earned 10 = .ok (.invokestatic 168, 3) := by decide +kernel
theorem dX9_earned_13 : decode cX9_earned 13 = .ok (.ifCond .eq 7, 3) := by decide +kernel
theorem dX9_earned_16 : decode cX9_earned 16 = .ok (.iconst 1, 1) := by decide +kernel
theorem dX9_earned_17 : decode cX9_earned 17 = .ok (.goto 4, 3) := by decide +kernel
theorem dX9_earned_20 : decode cX9_earned 20 = .ok (.iconst 0, 1) := by decide +kernel
theorem dX9_earned_21 : decode cX9_earned 21 = .ok (.invokevirtual 104, 3) := by decide +kernel
theorem dX9_earned_24 : decode cX9_earned 24 = .ok (.ifCond .ne 5, 3) := by decide +kernel
theorem dX9_earned_27 : decode cX9_earned 27 = .ok (.iconst 0, 1) := by decide +kernel
theorem dX9_earned_28 : decode cX9_earned 28 = .ok (.ireturn, 1) := by decide +kernel
theorem dX9_earned_29 : decode cX9_earned 29 = .ok (.aload_n 0, 1) := by decide +kernel
theorem dX9_earned_30 : decode cX9_earned 30 = .ok (.iload_n 1, 1) := by decide +kernel
theorem dX9_earned_31 : decode cX9_earned 31 = .ok (.invokevirtual 185, 3) := by decide +kernel
theorem dX9_earned_34 : decode cX9_earned 34 = .ok (.aload_n 0, 1) := by decide +kernel
theorem dX9_earned_35 : decode cX9_earned 35 = .ok (.getfield 71, 3) := by decide +kernel
theorem dX9_earned_38 : decode cX9_earned 38 = .ok (.iload_n 2, 1) := by decide +kernel
theorem dX9_earned_39 : decode cX9_earned 39 = .ok (.iaload, 1) := by decide +kernel
theorem dX9_earned_40 : decode cX9_earned 40 = .ok (.aload_n 0, 1) := by decide +kernel
theorem dX9_earned_41 : decode cX9_earned 41 = .ok (.getfield 153, 3) := by decide +kernel
theorem dX9_earned_44 : decode cX9_earned 44 = .ok (.if_icmp .gt 12, 3) := by decide +kernel
theorem dX9_earned_47 : decode cX9_earned 47 = .ok (.aload_n 0, 1) := by decide +kernel
theorem dX9_earned_48 : decode cX9_earned 48 = .ok (.getfield 71, 3) := by decide +kernel
theorem dX9_earned_51 : decode cX9_earned 51 = .ok (.iload_n 2, 1) := by decide +kernel
theorem dX9_earned_52 : decode cX9_earned 52 = .ok (.iaload, 1) := by decide +kernel
theorem dX9_earned_53 : decode cX9_earned 53 = .ok (.goto 4, 3) := by decide +kernel
theorem dX9_earned_56 : decode cX9_earned 56 = .ok (.iconst (-1), 1) := by decide +kernel
theorem dX9_earned_57 : decode cX9_earned 57 = .ok (.ireturn, 1) := by decide +kernel
theorem dX9_holds_0 : decode cX9_holds 0 = .ok (.aload_n 0, 1) := by decide +kernel
theorem dX9_holds_1 : decode cX9_holds 1 = .ok (.aload_n 0, 1) := by decide +kernel
theorem dX9_holds_2 : decode cX9_holds 2 = .ok (.iload_n 1, 1) := by decide +kernel
theorem dX9_holds_3 : decode cX9_holds 3 = .ok (.invokevirtual 129, 3) := by decide +kernel
theorem dX9_holds_6 : decode cX9_holds 6 = .ok (.ifCond .eq 14, 3) := by decide +kernel
theorem dX9_holds_9 : decode cX9_holds 9 = .ok (.iload_n 2, 1) := by decide +kernel
theorem dX9_holds_10 : decode cX9_holds 10 = .ok (.invokestatic 168, 3) := by decide +kernel
theorem dX9_holds_13 : decode cX9_holds 13 = .ok (.ifCond .eq 7, 3) := by decide +kernel
theorem dX9_holds_16 : decode cX9_holds 16 = .ok (.iconst 1, 1) := by decide +kernel
theorem dX9_holds_17 : decode cX9_holds 17 = .ok (.goto 4, 3) := by decide +kernel
theorem dX9_holds_20 : decode cX9_holds 20 = .ok (.iconst 0, 1) := by decide +kernel
theorem dX9_holds_21 : decode cX9_holds 21 = .ok (.invokevirtual 104, 3) := by decide +kernel
theorem dX9_holds_24 : decode cX9_holds 24 = .ok (.ifCond .ne 5, 3) := by decide +kernel
theorem dX9_holds_27 : decode cX9_holds 27 = .ok (.iconst 0, 1) := by decide +kernel
theorem dX9_holds_28 : decode cX9_holds 28 = .ok (.ireturn, 1) := by decide +kernel
theorem dX9_holds_29 : decode cX9_holds 29 = .ok (.aload_n 0, 1) := by decide +kernel
theorem dX9_holds_30 : decode cX9_holds 30 = .ok (.iload_n 1, 1) := by decide +kernel
theorem dX9_holds_31 : decode cX9_holds 31 = .ok (.invokevirtual 185, 3) := by decide +kernel
theorem dX9_holds_34 : decode cX9_holds 34 = .ok (.aload_n 0, 1) := by decide +kernel
theorem dX9_holds_35 : decode cX9_holds 35 = .ok (.getfield 68, 3) := by decide +kernel
theorem dX9_holds_38 : decode cX9_holds 38 = .ok (.bipush 18, 2) := by decide +kernel
theorem dX9_holds_40 : decode cX9_holds 40 = .ok (.iload_n 2, 1) := by decide +kernel
theorem dX9_holds_41 : decode cX9_holds 41 = .ok (.imul, 1) := by decide +kernel
theorem dX9_holds_42 : decode cX9_holds 42 = .ok (.bipush 6, 2) := by decide +kernel
theorem dX9_holds_44 : decode cX9_holds 44 = .ok (.aload_n 0, 1) := by decide +kernel
theorem dX9_holds_45 : decode cX9_holds 45 = .ok (.getfield 53, 3) := by decide +kernel
theorem dX9_holds_48 : decode cX9_holds 48 = .ok (.bipush 8, 2) := by decide +kernel
theorem dX9_holds_50 : decode cX9_holds 50 = .ok (.iload_n 1, 1) := by decide +kernel
theorem dX9_holds_51 : decode cX9_holds 51 = .ok (.imul, 1) := by decide +kernel
theorem dX9_holds_52 : decode cX9_holds 52 = .ok (.iload_n 2, 1) := by decide +kernel
theorem dX9_holds_53 : decode cX9_holds 53 = .ok (.iadd, 1) := by decide +kernel
theorem dX9_holds_54 : decode cX9_holds 54 = .ok (.iaload, 1) := by decide +kernel
theorem dX9_holds_55 : decode cX9_holds 55 = .ok (.imul, 1) := by decide +kernel
theorem dX9_holds_56 : decode cX9_holds 56 = .ok (.iadd, 1) := by decide +kernel
theorem dX9_holds_57 : decode cX9_holds 57 = .ok (.iconst 5, 1) := by decide +kernel
theorem dX9_holds_58 : decode cX9_holds 58 = .ok (.iadd, 1) := by decide +kernel
theorem dX9_holds_59 : decode cX9_holds 59 = .ok (.iaload, 1) := by decide +kernel
theorem dX9_holds_60 : decode cX9_holds 60 = .ok (.istore_n 3, 1) := by decide +kernel
theorem dX9_holds_61 : decode cX9_holds 61 = .ok (.aload_n 0, 1) := by decide +kernel
theorem dX9_holds_62 : decode cX9_holds 62 = .ok (.getfield 71, 3) := by decide +kernel
theorem dX9_holds_65 : decode cX9_holds 65 = .ok (.iload_n 2, 1) := by decide +kernel
theorem dX9_holds_66 : decode cX9_holds 66 = .ok (.iaload, 1) := by decide +kernel
theorem dX9_holds_67 : decode cX9_holds 67 = .ok (.aload_n 0, 1) := by decide +kernel
theorem dX9_holds_68 : decode cX9_holds 68 = .ok (.getfield 153, 3) := by decide +kernel
theorem dX9_holds_71 : decode cX9_holds 71 = .ok (.if_icmp .gt 26, 3) := by decide +kernel
theorem dX9_holds_74 : decode cX9_holds 74 = .ok (.iload_n 3, 1) := by decide +kernel
theorem dX9_holds_75 : decode cX9_holds 75 = .ok (.ifCond .eq 18, 3) := by decide +kernel
theorem dX9_holds_78 : decode cX9_holds 78 = .ok (.aload_n 0, 1) := by decide +kernel
theorem dX9_holds_79 : decode cX9_holds 79 = .ok (.getfield 153, 3) := by decide +kernel
theorem dX9_holds_82 : decode cX9_holds 82 = .ok (.aload_n 0, 1) := by decide +kernel
theorem dX9_holds_83 : decode cX9_holds 83 = .ok (.getfield 71, 3) := by decide +kernel
theorem dX9_holds_86 : decode cX9_holds 86 = .ok (.iload_n 2, 1) := by decide +kernel
theorem dX9_holds_87 : decode cX9_holds 87 = .ok (.iaload, 1) := by decide +kernel
theorem dX9_holds_88 : decode cX9_holds 88 = .ok (.iload_n 3, 1) := by decide +kernel
theorem dX9_holds_89 : decode cX9_holds 89 = .ok (.iadd, 1) := by decide +kernel
theorem dX9_holds_90 : decode cX9_holds 90 = .ok (.if_icmp .ge 7, 3) := by decide +kernel
theorem dX9_holds_93 : decode cX9_holds 93 = .ok (.iconst 1, 1) := by decide +kernel
theorem dX9_holds_94 : decode cX9_holds 94 = .ok (.goto 4, 3) := by decide +kernel
theorem dX9_holds_97 : decode cX9_holds 97 = .ok (.iconst 0, 1) := by decide +kernel
theorem dX9_holds_98 : decode cX9_holds 98 = .ok (.ireturn, 1) := by decide +kernel
theorem dX9_lacks_0 : decode cX9_lacks 0 = .ok (.aload_n 0, 1) := by decide +kernel
theorem dX9_lacks_1 : decode cX9_lacks 1 = .ok (.aload_n 0, 1) := by decide +kernel
theorem dX9_lacks_2 : decode cX9_lacks 2 = .ok (.iload_n 1, 1) := by decide +kernel
theorem dX9_lacks_3 : decode cX9_lacks 3 = .ok (.invokevirtual 129, 3) := by decide +kernel
theorem dX9_lacks_6 : decode cX9_lacks 6 = .ok (.ifCond .eq 14, 3) := by decide +kernel
theorem dX9_lacks_9 : decode cX9_lacks 9 = .ok (.iload_n 2, 1) := by decide +kernel
theorem dX9_lacks_10 : decode cX9_lacks 10 = .ok (.invokestatic 168, 3) := by decide +kernel
theorem dX9_lacks_13 : decode cX9_lacks 13 = .ok (.ifCond .eq 7, 3) := by decide +kernel
theorem dX9_lacks_16 : decode cX9_lacks 16 = .ok (.iconst 1, 1) := by decide +kernel
theorem dX9_lacks_17 : decode cX9_lacks 17 = .ok (.goto 4, 3) := by decide +kernel
theorem dX9_lacks_20 : decode cX9_lacks 20 = .ok (.iconst 0, 1) := by decide +kernel
theorem dX9_lacks_21 : decode cX9_lacks 21 = .ok (.invokevirtual 104, 3) := by decide +kernel
theorem dX9_lacks_24 : decode cX9_lacks 24 = .ok (.ifCond .ne 5, 3) := by decide +kernel
theorem dX9_lacks_27 : decode cX9_lacks 27 = .ok (.iconst 0, 1) := by decide +kernel
theorem dX9_lacks_28 : decode cX9_lacks 28 = .ok (.ireturn, 1) := by decide +kernel
theorem dX9_lacks_29 : decode cX9_lacks 29 = .ok (.aload_n 0, 1) := by decide +kernel
theorem dX9_lacks_30 : decode cX9_lacks 30 = .ok (.getfield 50, 3) := by decide +kernel
theorem dX9_lacks_33 : decode cX9_lacks 33 = .ok (.bipush 8, 2) := by decide +kernel
theorem dX9_lacks_35 : decode cX9_lacks 35 = .ok (.iload_n 1, 1) := by decide +kernel
theorem dX9_lacks_36 : decode cX9_lacks 36 = .ok (.imul, 1) := by decide +kernel
theorem dX9_lacks_37 : decode cX9_lacks 37 = .ok (.iload_n 2, 1) := by decide +kernel
theorem dX9_lacks_38 : decode cX9_lacks 38 = .ok (.iadd, 1) := by decide +kernel
theorem dX9_lacks_39 : decode cX9_lacks 39 = .ok (.iaload, 1) := by decide +kernel
theorem dX9_lacks_40 : decode cX9_lacks 40 = .ok (.iconst (-1), 1) := by decide +kernel
theorem dX9_lacks_41 : decode cX9_lacks 41 = .ok (.if_icmp .ne 9, 3) := by decide +kernel
theorem dX9_lacks_44 : decode cX9_lacks 44 = .ok (.aload_n 0, 1) := by decide +kernel
theorem dX9_lacks_45 : decode cX9_lacks 45 = .ok (.iconst 2, 1) := by decide +kernel
theorem dX9_lacks_46 : decode cX9_lacks 46 = .ok (.invokevirtual 108, 3) := by decide +kernel
theorem dX9_lacks_49 : decode cX9_lacks 49 = .ok (.ireturn, 1) := by decide +kernel
theorem dX9_lacks_50 : decode cX9_lacks 50 = .ok (.aload_n 0, 1) := by decide +kernel
theorem dX9_lacks_51 : decode cX9_lacks 51 = .ok (.getfield 68, 3) := by decide +kernel
theorem dX9_lacks_54 : decode cX9_lacks 54 = .ok (.bipush 18, 2) := by decide +kernel
theorem dX9_lacks_56 : decode cX9_lacks 56 = .ok (.iload_n 2, 1) := by decide +kernel
theorem dX9_lacks_57 : decode cX9_lacks 57 = .ok (.imul, 1) := by decide +kernel
theorem dX9_lacks_58 : decode cX9_lacks 58 = .ok (.bipush 6, 2) := by decide +kernel
theorem dX9_lacks_60 : decode cX9_lacks 60 = .ok (.aload_n 0, 1) := by decide +kernel
theorem dX9_lacks_61 : decode cX9_lacks 61 = .ok (.getfield 53, 3) := by decide +kernel
theorem dX9_lacks_64 : decode cX9_lacks 64 = .ok (.bipush 8, 2) := by decide +kernel
theorem dX9_lacks_66 : decode cX9_lacks 66 = .ok (.iload_n 1, 1) := by decide +kernel
theorem dX9_lacks_67 : decode cX9_lacks 67 = .ok (.imul, 1) := by decide +kernel
theorem dX9_lacks_68 : decode cX9_lacks 68 = .ok (.iload_n 2, 1) := by decide +kernel
theorem dX9_lacks_69 : decode cX9_lacks 69 = .ok (.iadd, 1) := by decide +kernel
theorem dX9_lacks_70 : decode cX9_lacks 70 = .ok (.iaload, 1) := by decide +kernel
theorem dX9_lacks_71 : decode cX9_lacks 71 = .ok (.imul, 1) := by decide +kernel
theorem dX9_lacks_72 : decode cX9_lacks 72 = .ok (.iadd, 1) := by decide +kernel
theorem dX9_lacks_73 : decode cX9_lacks 73 = .ok (.iaload, 1) := by decide +kernel
theorem dX9_lacks_74 : decode cX9_lacks 74 = .ok (.istore_n 3, 1) := by decide +kernel
theorem dX9_lacks_75 : decode cX9_lacks 75 = .ok (.iconst 0, 1) := by decide +kernel
theorem dX9_lacks_76 : decode cX9_lacks 76 = .ok (.istore 4, 2) := by decide +kernel
theorem dX9_lacks_78 : decode cX9_lacks 78 = .ok (.iconst 0, 1) := by decide +kernel
theorem dX9_lacks_79 : decode cX9_lacks 79 = .ok (.istore 5, 2) := by decide +kernel
theorem dX9_lacks_81 : decode cX9_lacks 81 = .ok (.iload 5, 2) := by decide +kernel
theorem dX9_lacks_83 : decode cX9_lacks 83 = .ok (.bipush 16, 2) := by decide +kernel
theorem dX9_lacks_85 : decode cX9_lacks 85 = .ok (.if_icmp .ge 48, 3) := by decide +kernel
theorem dX9_lacks_88 : decode cX9_lacks 88 = .ok (.iload 4, 2) := by decide +kernel
theorem dX9_lacks_90 : decode cX9_lacks 90 = .ok (.iload_n 3, 1) := by decide +kernel
theorem dX9_lacks_91 : decode cX9_lacks 91 = .ok (.iload 5, 2) := by decide +kernel
theorem dX9_lacks_93 : decode cX9_lacks 93 = .ok (.ishr, 1) := by decide +kernel
theorem dX9_lacks_94 : decode cX9_lacks 94 = .ok (.iconst 1, 1) := by decide +kernel
theorem dX9_lacks_95 : decode cX9_lacks 95 = .ok (.iand, 1) := by decide +kernel
theorem dX9_lacks_96 : decode cX9_lacks 96 = .ok (.iconst 1, 1) := by decide +kernel
theorem dX9_lacks_97 : decode cX9_lacks 97 = .ok (.if_icmp .ne 26, 3) := by decide +kernel
theorem dX9_lacks_100 : decode cX9_lacks 100 = .ok (.aload_n 0, 1) := by decide +kernel
theorem dX9_lacks_101 : decode cX9_lacks 101 = .ok (.getfield 47, 3) := by decide +kernel
theorem dX9_lacks_104 : decode cX9_lacks 104 = .ok (.bipush 16, 2) := by decide +kernel
theorem dX9_lacks_106 : decode cX9_lacks 106 = .ok (.iload_n 1, 1) := by decide +kernel
theorem dX9_lacks_107 : decode cX9_lacks 107 = .ok (.imul, 1) := by decide +kernel
theorem dX9_lacks_108 : decode cX9_lacks 108 = .ok (.iload 5, 2) := by decide +kernel
theorem dX9_lacks_110 : decode cX9_lacks 110 = .ok (.iadd, 1) := by decide +kernel
theorem dX9_lacks_111 : decode cX9_lacks 111 = .ok (.iaload, 1) := by decide +kernel
theorem dX9_lacks_112 : decode cX9_lacks 112 = .ok (.iconst (-1), 1) := by decide +kernel
theorem dX9_lacks_113 : decode cX9_lacks 113 = .ok (.if_icmp .ne 10, 3) := by decide +kernel
theorem dX9_lacks_116 : decode cX9_lacks 116 = .ok (.iconst 1, 1) := by decide +kernel
theorem dX9_lacks_117 : decode cX9_lacks 117 = .ok (.iload 5, 2) := by decide +kernel
theorem dX9_lacks_119 : decode cX9_lacks 119 = .ok (.ishl, 1) := by decide +kernel
theorem dX9_lacks_120 : decode cX9_lacks 120 = .ok (.goto 4, 3) := by decide +kernel
theorem dX9_lacks_123 : decode cX9_lacks 123 = .ok (.iconst 0, 1) := by decide +kernel
theorem dX9_lacks_124 : decode cX9_lacks 124 = .ok (.ior, 1) := by decide +kernel
theorem dX9_lacks_125 : decode cX9_lacks 125 = .ok (.istore 4, 2) := by decide +kernel
theorem dX9_lacks_127 : decode cX9_lacks 127 = .ok (.iinc 5 1, 3) := by decide +kernel
theorem dX9_lacks_130 : decode cX9_lacks 130 = .ok (.goto (-49), 3) := by decide +kernel
theorem dX9_lacks_133 : decode cX9_lacks 133 = .ok (.iload 4, 2) := by decide +kernel
theorem dX9_lacks_135 : decode cX9_lacks 135 = .ok (.ireturn, 1) := by decide +kernel
