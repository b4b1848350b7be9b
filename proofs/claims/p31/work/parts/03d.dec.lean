theorem dL_cell_0 : decode cL_cell 0 = .ok (.iload_n 1, 1) := by decide +kernel
theorem dL_cell_1 : decode cL_cell 1 = .ok (.aload_n 0, 1) := by decide +kernel
theorem dL_cell_2 : decode cL_cell 2 = .ok (.arraylength, 1) := by decide +kernel
theorem dL_cell_3 : decode cL_cell 3 = .ok (.if_icmp .ge 9, 3) := by decide +kernel
theorem dL_cell_6 : decode cL_cell 6 = .ok (.aload_n 0, 1) := by decide +kernel
theorem dL_cell_7 : decode cL_cell 7 = .ok (.iload_n 1, 1) := by decide +kernel
theorem dL_cell_8 : decode cL_cell 8 = .ok (.iaload, 1) := by decide +kernel
theorem dL_cell_9 : decode cL_cell 9 = .ok (.goto 10, 3) := by decide +kernel
theorem dL_cell_12 : decode cL_cell 12 = .ok (.ldc 7, 2) := by decide +kernel
theorem dL_cell_14 : decode cL_cell 14 = .ok (.iload_n 1, 1) := by decide +kernel
theorem dL_cell_15 : decode cL_cell 15 = .ok (.bipush 103, 2) := by decide +kernel
theorem dL_cell_17 : decode cL_cell 17 = .ok (.iadd, 1) := by decide +kernel
theorem dL_cell_18 : decode cL_cell 18 = .ok (.imul, 1) := by decide +kernel
theorem dL_cell_19 : decode cL_cell 19 = .ok (.istore_n 2, 1) := by decide +kernel
theorem dL_cell_20 : decode cL_cell 20 = .ok (.iload_n 2, 1) := by decide +kernel
theorem dL_cell_21 : decode cL_cell 21 = .ok (.iload_n 2, 1) := by decide +kernel
theorem dL_cell_22 : decode cL_cell 22 = .ok (.bipush 16, 2) := by decide +kernel
theorem dL_cell_24 : decode cL_cell 24 = .ok (.iushr, 1) := by decide +kernel
theorem dL_cell_25 : decode cL_cell 25 = .ok (.ixor, 1) := by decide +kernel
theorem dL_cell_26 : decode cL_cell 26 = .ok (.ldc 8, 2) := by decide +kernel
theorem dL_cell_28 : decode cL_cell 28 = .ok (.imul, 1) := by decide +kernel
theorem dL_cell_29 : decode cL_cell 29 = .ok (.sipush 311, 3) := by decide +kernel
theorem dL_cell_32 : decode cL_cell 32 = .ok (.iload_n 1, 1) := by decide +kernel
theorem dL_cell_33 : decode cL_cell 33 = .ok (.imul, 1) := by decide +kernel
theorem dL_cell_34 : decode cL_cell 34 = .ok (.iadd, 1) := by decide +kernel
theorem dL_cell_35 : decode cL_cell 35 = .ok (.ireturn, 1) := by decide +kernel
theorem dL_some_0 : decode cL_some 0 = .ok (.iload_n 0, 1) := by decide +kernel
theorem dL_some_1 : decode cL_some 1 = .ok (.iconst 1, 1) := by decide +kernel
theorem dL_some_2 : decode cL_some 2 = .ok (.iushr, 1) := by decide +kernel
theorem dL_some_3 : decode cL_some 3 = .ok (.iload_n 1, 1) := by decide +kernel
theorem dL_some_4 : decode cL_some 4 = .ok (.irem, 1) := by decide +kernel
theorem dL_some_5 : decode cL_some 5 = .ok (.ireturn, 1) := by decide +kernel
theorem dL_call_0 : decode cL_call 0 = .ok (.aload_n 0, 1) := by decide +kernel
theorem dL_call_1 : decode cL_call 1 = .ok (.iload_n 1, 1) := by decide +kernel
theorem dL_call_2 : decode cL_call 2 = .ok (.iload_n 2, 1) := by decide +kernel
theorem dL_call_3 : decode cL_call 3 = .ok (.iload_n 3, 1) := by decide +kernel
theorem dL_call_4 : decode cL_call 4 = .ok (.iload 4, 2) := by decide +kernel
theorem dL_call_6 : decode cL_call 6 = .ok (.iload 5, 2) := by decide +kernel
theorem dL_call_8 : decode cL_call 8 = .ok (.invokestatic 9, 3) := by decide +kernel
theorem dL_call_11 : decode cL_call 11 = .ok (.ireturn, 1) := by decide +kernel
theorem dL_call_12 : decode cL_call 12 = .ok (.astore 6, 2) := by decide +kernel
theorem dL_call_14 : decode cL_call 14 = .ok (.ldc 17, 2) := by decide +kernel
theorem dL_call_16 : decode cL_call 16 = .ok (.ireturn, 1) := by decide +kernel
theorem dL_call_17 : decode cL_call 17 = .ok (.astore 6, 2) := by decide +kernel
theorem dL_call_19 : decode cL_call 19 = .ok (.ldc 20, 2) := by decide +kernel
theorem dL_call_21 : decode cL_call 21 = .ok (.ireturn, 1) := by decide +kernel
theorem dL_call_22 : decode cL_call 22 = .ok (.astore 6, 2) := by decide +kernel
theorem dL_call_24 : decode cL_call 24 = .ok (.ldc 23, 2) := by decide +kernel
theorem dL_call_26 : decode cL_call 26 = .ok (.ireturn, 1) := by decide +kernel
theorem dL_does_0 : decode cL_does 0 = .ok (.iload_n 1, 1) := by decide +kernel
theorem dL_does_1 : decode cL_does 1 = .ok (.tableswitch 319 0 23 #[111, 120, 126, 133, 139, 146, 153, 159, 164, 169, 181, 190, 197, 204, 213, 231, 237, 254, 261, 268, 274, 281, 297, 304], 111) := by decide +kernel
theorem dL_does_112 : decode cL_does 112 = .ok (.aload_n 0, 1) := by decide +kernel
theorem dL_does_113 : decode cL_does 113 = .ok (.iload_n 2, 1) := by decide +kernel
theorem dL_does_114 : decode cL_does 114 = .ok (.iload_n 3, 1) := by decide +kernel
theorem dL_does_115 : decode cL_does 115 = .ok (.iload 4, 2) := by decide +kernel
theorem dL_does_117 : decode cL_does 117 = .ok (.invokevirtual 24, 3) := by decide +kernel
theorem dL_does_120 : decode cL_does 120 = .ok (.ireturn, 1) := by decide +kernel
theorem dL_does_121 : decode cL_does 121 = .ok (.aload_n 0, 1) := by decide +kernel
theorem dL_does_122 : decode cL_does 122 = .ok (.iload_n 2, 1) := by decide +kernel
theorem dL_does_123 : decode cL_does 123 = .ok (.invokevirtual 30, 3) := by decide +kernel
theorem dL_does_126 : decode cL_does 126 = .ok (.ireturn, 1) := by decide +kernel
theorem dL_does_127 : decode cL_does 127 = .ok (.aload_n 0, 1) := by decide +kernel
theorem dL_does_128 : decode cL_does 128 = .ok (.iload_n 2, 1) := by decide +kernel
theorem dL_does_129 : decode cL_does 129 = .ok (.iload_n 3, 1) := by decide +kernel
theorem dL_does_130 : decode cL_does 130 = .ok (.invokevirtual 34, 3) := by decide +kernel
theorem dL_does_133 : decode cL_does 133 = .ok (.ireturn, 1) := by decide +kernel
theorem dL_does_134 : decode cL_does 134 = .ok (.aload_n 0, 1) := by decide +kernel
theorem dL_does_135 : decode cL_does 135 = .ok (.iload_n 2, 1) := by decide +kernel
theorem dL_does_136 : decode cL_does 136 = .ok (.invokevirtual 38, 3) := by decide +kernel
theorem dL_does_139 : decode cL_does 139 = .ok (.ireturn, 1) := by decide +kernel
theorem dL_does_140 : decode cL_does 140 = .ok (.aload_n 0, 1) := by decide +kernel
theorem dL_does_141 : decode cL_does 141 = .ok (.iload_n 2, 1) := by decide +kernel
theorem dL_does_142 : decode cL_does 142 = .ok (.iload_n 3, 1) := by decide +kernel
theorem dL_does_143 : decode cL_does 143 = .ok (.invokevirtual 41, 3) := by decide +kernel
theorem dL_does_146 : decode cL_does 146 = .ok (.ireturn, 1) := by decide +kernel
theorem dL_does_147 : decode cL_does 147 = .ok (.aload_n 0, 1) := by decide +kernel
theorem dL_does_148 : decode cL_does 148 = .ok (.iload_n 2, 1) := by decide +kernel
theorem dL_does_149 : decode cL_does 149 = .ok (.iload_n 3, 1) := by decide +kernel
theorem dL_does_150 : decode cL_does 150 = .ok (.invokevirtual 44, 3) := by decide +kernel
theorem dL_does_153 : decode cL_does 153 = .ok (.ireturn, 1) := by decide +kernel
theorem dL_does_154 : decode cL_does 154 = .ok (.aload_n 0, 1) := by decide +kernel
theorem dL_does_155 : decode cL_does 155 = .ok (.iload_n 2, 1) := by decide +kernel
theorem dL_does_156 : decode cL_does 156 = .ok (.invokevirtual 47, 3) := by decide +kernel
theorem dL_does_159 : decode cL_does 159 = .ok (.ireturn, 1) := by decide +kernel
theorem dL_does_160 : decode cL_does 160 = .ok (.aload_n 0, 1) := by decide +kernel
theorem dL_does_161 : decode cL_does 161 = .ok (.invokevirtual 50, 3) := by decide +kernel
theorem dL_does_164 : decode cL_does 164 = .ok (.ireturn, 1) := by decide +kernel
theorem dL_does_165 : decode cL_does 165 = .ok (.aload_n 0, 1) := by decide +kernel
theorem dL_does_166 : decode cL_does 166 = .ok (.invokevirtual 54, 3) := by decide +kernel
theorem dL_does_169 : decode cL_does 169 = .ok (.ireturn, 1) := by decide +kernel
theorem dL_does_170 : decode cL_does 170 = .ok (.aload_n 0, 1) := by decide +kernel
theorem dL_does_171 : decode cL_does 171 = .ok (.iload_n 2, 1) := by decide +kernel
theorem dL_does_172 : decode cL_does 172 = .ok (.iload_n 3, 1) := by decide +kernel
theorem dL_does_173 : decode cL_does 173 = .ok (.iload 4, 2) := by decide +kernel
theorem dL_does_175 : decode cL_does 175 = .ok (.iload 5, 2) := by decide +kernel
theorem dL_does_177 : decode cL_does 177 = .ok (.invokevirtual 57, 3) := by decide +kernel
theorem dL_does_180 : decode cL_does 180 = .ok (.iconst 0, 1) := by decide +kernel
theorem dL_does_181 : decode cL_does 181 = .ok (.ireturn, 1) := by decide +kernel
theorem dL_does_182 : decode cL_does 182 = .ok (.aload_n 0, 1) := by decide +kernel
theorem dL_does_183 : decode cL_does 183 = .ok (.iload_n 2, 1) := by decide +kernel
theorem dL_does_184 : decode cL_does 184 = .ok (.iload_n 3, 1) := by decide +kernel
theorem dL_does_185 : decode cL_does 185 = .ok (.iload 4, 2) := by decide +kernel
theorem dL_does_187 : decode cL_does 187 = .ok (.invokevirtual 61, 3) := by decide +kernel
theorem dL_does_190 : decode cL_does 190 = .ok (.ireturn, 1) := by decide +kernel
theorem dL_does_191 : decode cL_does 191 = .ok (.aload_n 0, 1) := by decide +kernel
theorem dL_does_192 : decode cL_does 192 = .ok (.iload_n 2, 1) := by decide +kernel
theorem dL_does_193 : decode cL_does 193 = .ok (.iload_n 3, 1) := by decide +kernel
theorem dL_does_194 : decode cL_does 194 = .ok (.invokevirtual 64, 3) := by decide +kernel
theorem dL_does_197 : decode cL_does 197 = .ok (.ireturn, 1) := by decide +kernel
theorem dL_does_198 : decode cL_does 198 = .ok (.aload_n 0, 1) := by decide +kernel
theorem dL_does_199 : decode cL_does 199 = .ok (.iload_n 2, 1) := by decide +kernel
theorem dL_does_200 : decode cL_does 200 = .ok (.iload_n 3, 1) := by decide +kernel
theorem dL_does_201 : decode cL_does 201 = .ok (.invokevirtual 67, 3) := by decide +kernel
theorem dL_does_204 : decode cL_does 204 = .ok (.ireturn, 1) := by decide +kernel
theorem dL_does_205 : decode cL_does 205 = .ok (.aload_n 0, 1) := by decide +kernel
theorem dL_does_206 : decode cL_does 206 = .ok (.iload_n 2, 1) := by decide +kernel
theorem dL_does_207 : decode cL_does 207 = .ok (.iload_n 3, 1) := by decide +kernel
theorem dL_does_208 : decode cL_does 208 = .ok (.iload 4, 2) := by decide +kernel
theorem dL_does_210 : decode cL_does 210 = .ok (.invokevirtual 70, 3) := by decide +kernel
theorem dL_does_213 : decode cL_does 213 = .ok (.ireturn, 1) := by decide +kernel
theorem dL_does_214 : decode cL_does 214 = .ok (.aload_n 0, 1) := by decide +kernel
theorem dL_does_215 : decode cL_does 215 = .ok (.iload_n 2, 1) := by decide +kernel
theorem dL_does_216 : decode cL_does 216 = .ok (.iload_n 3, 1) := by decide +kernel
theorem dL_does_217 : decode cL_does 217 = .ok (.iload 4, 2) := by decide +kernel
theorem dL_does_219 : decode cL_does 219 = .ok (.iconst 1, 1) := by decide +kernel
theorem dL_does_220 : decode cL_does 220 = .ok (.if_icmp .ne 7, 3) := by decide +kernel
theorem dL_does_223 : decode cL_does 223 = .ok (.iconst 1, 1) := by decide +kernel
theorem dL_does_224 : decode cL_does 224 = .ok (.goto 4, 3) := by decide +kernel
theorem dL_does_227 : decode cL_does 227 = .ok (.iconst 0, 1) := by decide +kernel
theorem dL_does_228 : decode cL_does 228 = .ok (.invokevirtual 73, 3) := by decide +kernel
theorem dL_does_231 : decode cL_does 231 = .ok (.ireturn, 1) := by decide +kernel
theorem dL_does_232 : decode cL_does 232 = .ok (.aload_n 0, 1) := by decide +kernel
theorem dL_does_233 : decode cL_does 233 = .ok (.iload_n 2, 1) := by decide +kernel
theorem dL_does_234 : decode cL_does 234 = .ok (.invokevirtual 77, 3) := by decide +kernel
theorem dL_does_237 : decode cL_does 237 = .ok (.ireturn, 1) := by decide +kernel
theorem dL_does_238 : decode cL_does 238 = .ok (.aload_n 0, 1) := by decide +kernel
theorem dL_does_239 : decode cL_does 239 = .ok (.iload_n 2, 1) := by decide +kernel
theorem dL_does_240 : decode cL_does 240 = .ok (.iload_n 3, 1) := by decide +kernel
theorem dL_does_241 : decode cL_does 241 = .ok (.iload 4, 2) := by decide +kernel
theorem dL_does_243 : decode cL_does 243 = .ok (.invokevirtual 80, 3) := by decide +kernel
theorem dL_does_246 : decode cL_does 246 = .ok (.ifCond .eq 7, 3) := by decide +kernel
theorem dL_does_249 : decode cL_does 249 = .ok (.iconst 1, 1) := by decide +kernel
theorem dL_does_250 : decode cL_does 250 = .ok (.goto 4, 3) := by decide +kernel
theorem dL_does_253 : decode cL_does 253 = .ok (.iconst 0, 1) := by decide +kernel
theorem dL_does_254 : decode cL_does 254 = .ok (.ireturn, 1) := by decide +kernel
theorem dL_does_255 : decode cL_does 255 = .ok (.aload_n 0, 1) := by decide +kernel
theorem dL_does_256 : decode cL_does 256 = .ok (.iload_n 2, 1) := by decide +kernel
theorem dL_does_257 : decode cL_does 257 = .ok (.iload_n 3, 1) := by decide +kernel
theorem dL_does_258 : decode cL_does 258 = .ok (.invokevirtual 84, 3) := by decide +kernel
theorem dL_does_261 : decode cL_does 261 = .ok (.ireturn, 1) := by decide +kernel
theorem dL_does_262 : decode cL_does 262 = .ok (.aload_n 0, 1) := by decide +kernel
theorem dL_does_263 : decode cL_does 263 = .ok (.iload_n 2, 1) := by decide +kernel
theorem dL_does_264 : decode cL_does 264 = .ok (.iload_n 3, 1) := by decide +kernel
theorem dL_does_265 : decode cL_does 265 = .ok (.invokevirtual 87, 3) := by decide +kernel
theorem dL_does_268 : decode cL_does 268 = .ok (.ireturn, 1) := by decide +kernel
theorem dL_does_269 : decode cL_does 269 = .ok (.aload_n 0, 1) := by decide +kernel
theorem dL_does_270 : decode cL_does 270 = .ok (.iload_n 2, 1) := by decide +kernel
theorem dL_does_271 : decode cL_does 271 = .ok (.invokevirtual 90, 3) := by decide +kernel
theorem dL_does_274 : decode cL_does 274 = .ok (.ireturn, 1) := by decide +kernel
theorem dL_does_275 : decode cL_does 275 = .ok (.aload_n 0, 1) := by decide +kernel
theorem dL_does_276 : decode cL_does 276 = .ok (.iload_n 2, 1) := by decide +kernel
theorem dL_does_277 : decode cL_does 277 = .ok (.iload_n 3, 1) := by decide +kernel
theorem dL_does_278 : decode cL_does 278 = .ok (.invokevirtual 93, 3) := by decide +kernel
theorem dL_does_281 : decode cL_does 281 = .ok (.ireturn, 1) := by decide +kernel
theorem dL_does_282 : decode cL_does 282 = .ok (.aload_n 0, 1) := by decide +kernel
theorem dL_does_283 : decode cL_does 283 = .ok (.iload_n 2, 1) := by decide +kernel
theorem dL_does_284 : decode cL_does 284 = .ok (.iload_n 3, 1) := by decide +kernel
theorem dL_does_285 : decode cL_does 285 = .ok (.iconst 1, 1) := by decide +kernel
theorem dL_does_286 : decode cL_does 286 = .ok (.if_icmp .ne 7, 3) := by decide +kernel
theorem dL_does_289 : decode cL_does 289 = .ok (.iconst 1, 1) := by decide +kernel
theorem dL_does_290 : decode cL_does 290 = .ok (.goto 4, 3) := by decide +kernel
theorem dL_does_293 : decode cL_does 293 = .ok (.iconst 0, 1) := by decide +kernel
theorem dL_does_294 : decode cL_does 294 = .ok (.invokevirtual 96, 3) := by decide +kernel
theorem dL_does_297 : decode cL_does 297 = .ok (.ireturn, 1) := by decide +kernel
theorem dL_does_298 : decode cL_does 298 = .ok (.aload_n 0, 1) := by decide +kernel
theorem dL_does_299 : decode cL_does 299 = .ok (.iload_n 2, 1) := by decide +kernel
theorem dL_does_300 : decode cL_does 300 = .ok (.iload_n 3, 1) := by decide +kernel
theorem dL_does_301 : decode cL_does 301 = .ok (.invokevirtual 100, 3) := by decide +kernel
theorem dL_does_304 : decode cL_does 304 = .ok (.ireturn, 1) := by decide +kernel
theorem dL_does_305 : decode cL_does 305 = .ok (.aload_n 0, 1) := by decide +kernel
theorem dL_does_306 : decode cL_does 306 = .ok (.iload_n 2, 1) := by decide +kernel
theorem dL_does_307 : decode cL_does 307 = .ok (.iload_n 3, 1) := by decide +kernel
theorem dL_does_308 : decode cL_does 308 = .ok (.invokevirtual 103, 3) := by decide +kernel
theorem dL_does_311 : decode cL_does 311 = .ok (.ifCond .eq 7, 3) := by decide +kernel
theorem dL_does_314 : decode cL_does 314 = .ok (.iconst 1, 1) := by decide +kernel
theorem dL_does_315 : decode cL_does 315 = .ok (.goto 4, 3) := by decide +kernel
theorem dL_does_318 : decode cL_does 318 = .ok (.iconst 0, 1) := by decide +kernel
theorem dL_does_319 : decode cL_does 319 = .ok (.ireturn, 1) := by decide +kernel
theorem dL_does_320 : decode cL_does 320 = .ok (.aload_n 0, 1) := by decide +kernel
theorem dL_does_321 : decode cL_does 321 = .ok (.iload_n 2, 1) := by decide +kernel
theorem dL_does_322 : decode cL_does 322 = .ok (.iload_n 3, 1) := by decide +kernel
theorem dL_does_323 : decode cL_does 323 = .ok (.invokevirtual 107, 3) := by decide +kernel
theorem dL_does_326 : decode cL_does 326 = .ok (.ireturn, 1) := by decide +kernel
theorem dL_edition_0 : decode cL_edition 0 = .ok (.aload_n 0, 1) := by decide +kernel
theorem dL_edition_1 : decode cL_edition 1 = .ok (.iload_n 1, 1) := by decide +kernel
theorem dL_edition_2 : decode cL_edition 2 = .ok (.iload_n 2, 1) := by decide +kernel
theorem dL_edition_3 : decode cL_edition 3 = .ok (.iload_n 3, 1) := by decide +kernel
theorem dL_edition_4 : decode cL_edition 4 = .ok (.iload 4, 2) := by decide +kernel
theorem dL_edition_6 : decode cL_edition 6 = .ok (.iload 5, 2) := by decide +kernel
theorem dL_edition_8 : decode cL_edition 8 = .ok (.iload 6, 2) := by decide +kernel
theorem dL_edition_10 : decode cL_edition 10 = .ok (.iload 7, 2) := by decide +kernel
theorem dL_edition_12 : decode cL_edition 12 = .ok (.invokevirtual 110, 3) := by decide +kernel
theorem dL_edition_15 : decode cL_edition 15 = .ok (.ireturn, 1) := by decide +kernel
theorem dL_edition_16 : decode cL_edition 16 = .ok (.astore 8, 2) := by decide +kernel
theorem dL_edition_18 : decode cL_edition 18 = .ok (.ldc 17, 2) := by decide +kernel
theorem dL_edition_20 : decode cL_edition 20 = .ok (.ireturn, 1) := by decide +kernel
theorem dL_edition_21 : decode cL_edition 21 = .ok (.astore 8, 2) := by decide +kernel
theorem dL_edition_23 : decode cL_edition 23 = .ok (.ldc 20, 2) := by decide +kernel
theorem dL_edition_25 : decode cL_edition 25 = .ok (.ireturn, 1) := by decide +kernel
theorem dL_edition_26 : decode cL_edition 26 = .ok (.astore 8, 2) := by decide +kernel
theorem dL_edition_28 : decode cL_edition 28 = .ok (.ldc 23, 2) := by decide +kernel
theorem dL_edition_30 : decode cL_edition 30 = .ok (.ireturn, 1) := by decide +kernel
theorem dL_event_0 : decode cL_event 0 = .ok (.aload_n 0, 1) := by decide +kernel
theorem dL_event_1 : decode cL_event 1 = .ok (.iload_n 1, 1) := by decide +kernel
theorem dL_event_2 : decode cL_event 2 = .ok (.iload_n 2, 1) := by decide +kernel
theorem dL_event_3 : decode cL_event 3 = .ok (.iload_n 3, 1) := by decide +kernel
theorem dL_event_4 : decode cL_event 4 = .ok (.iload 4, 2) := by decide +kernel
theorem dL_event_6 : decode cL_event 6 = .ok (.iload 5, 2) := by decide +kernel
theorem dL_event_8 : decode cL_event 8 = .ok (.iload 6, 2) := by decide +kernel
theorem dL_event_10 : decode cL_event 10 = .ok (.invokevirtual 114, 3) := by decide +kernel
theorem dL_event_13 : decode cL_event 13 = .ok (.ireturn, 1) := by decide +kernel
theorem dL_event_14 : decode cL_event 14 = .ok (.astore 7, 2) := by decide +kernel
theorem dL_event_16 : decode cL_event 16 = .ok (.ldc 17, 2) := by decide +kernel
theorem dL_event_18 : decode cL_event 18 = .ok (.ireturn, 1) := by decide +kernel
theorem dL_event_19 : decode cL_event 19 = .ok (.astore 7, 2) := by decide +kernel
theorem dL_event_21 : decode cL_event 21 = .ok (.ldc 20, 2) := by decide +kernel
theorem dL_event_23 : decode cL_event 23 = .ok (.ireturn, 1) := by decide +kernel
theorem dL_event_24 : decode cL_event 24 = .ok (.astore 7, 2) := by decide +kernel
theorem dL_event_26 : decode cL_event 26 = .ok (.ldc 23, 2) := by decide +kernel
theorem dL_event_28 : decode cL_event 28 = .ok (.ireturn, 1) := by decide +kernel
theorem dL_all_0 : decode cL_all 0 = .ok (.ldc2_w 118, 3) := by decide +kernel
theorem dL_all_3 : decode cL_all 3 = .ok (.aload_n 0, 1) := by decide +kernel
theorem dL_all_4 : decode cL_all 4 = .ok (.invokevirtual 120, 3) := by decide +kernel
theorem dL_all_7 : decode cL_all 7 = .ok (.i2l, 1) := by decide +kernel
theorem dL_all_8 : decode cL_all 8 = .ok (.ladd, 1) := by decide +kernel
theorem dL_all_9 : decode cL_all 9 = .ok (.lstore_n 2, 1) := by decide +kernel
theorem dL_all_10 : decode cL_all 10 = .ok (.iconst 0, 1) := by decide +kernel
theorem dL_all_11 : decode cL_all 11 = .ok (.istore 4, 2) := by decide +kernel
theorem dL_all_13 : decode cL_all 13 = .ok (.iload 4, 2) := by decide +kernel
theorem dL_all_15 : decode cL_all 15 = .ok (.aload_n 1, 1) := by decide +kernel
theorem dL_all_16 : decode cL_all 16 = .ok (.iconst 0, 1) := by decide +kernel
theorem dL_all_17 : decode cL_all 17 = .ok (.iaload, 1) := by decide +kernel
theorem dL_all_18 : decode cL_all 18 = .ok (.if_icmp .ge 92, 3) := by decide +kernel
theorem dL_all_21 : decode cL_all 21 = .ok (.iconst 0, 1) := by decide +kernel
theorem dL_all_22 : decode cL_all 22 = .ok (.istore 5, 2) := by decide +kernel
theorem dL_all_24 : decode cL_all 24 = .ok (.iload 5, 2) := by decide +kernel
theorem dL_all_26 : decode cL_all 26 = .ok (.bipush 6, 2) := by decide +kernel
theorem dL_all_28 : decode cL_all 28 = .ok (.if_icmp .ge 25, 3) := by decide +kernel
theorem dL_all_31 : decode cL_all 31 = .ok (.lload_n 2, 1) := by decide +kernel
theorem dL_all_32 : decode cL_all 32 = .ok (.ldc2_w 123, 3) := by decide +kernel
theorem dL_all_35 : decode cL_all 35 = .ok (.lmul, 1) := by decide +kernel
theorem dL_all_36 : decode cL_all 36 = .ok (.aload_n 0, 1) := by decide +kernel
theorem dL_all_37 : decode cL_all 37 = .ok (.iload 4, 2) := by decide +kernel
theorem dL_all_39 : decode cL_all 39 = .ok (.iload 5, 2) := by decide +kernel
theorem dL_all_41 : decode cL_all 41 = .ok (.invokevirtual 93, 3) := by decide +kernel
theorem dL_all_44 : decode cL_all 44 = .ok (.i2l, 1) := by decide +kernel
theorem dL_all_45 : decode cL_all 45 = .ok (.ladd, 1) := by decide +kernel
theorem dL_all_46 : decode cL_all 46 = .ok (.lstore_n 2, 1) := by decide +kernel
theorem dL_all_47 : decode cL_all 47 = .ok (.iinc 5 1, 3) := by decide +kernel
theorem dL_all_50 : decode cL_all 50 = .ok (.goto (-26), 3) := by decide +kernel
theorem dL_all_53 : decode cL_all 53 = .ok (.iconst 0, 1) := by decide +kernel
theorem dL_all_54 : decode cL_all 54 = .ok (.istore 5, 2) := by decide +kernel
theorem dL_all_56 : decode cL_all 56 = .ok (.iload 5, 2) := by decide +kernel
theorem dL_all_58 : decode cL_all 58 = .ok (.bipush 8, 2) := by decide +kernel
theorem dL_all_60 : decode cL_all 60 = .ok (.if_icmp .ge 44, 3) := by decide +kernel
theorem dL_all_63 : decode cL_all 63 = .ok (.lload_n 2, 1) := by decide +kernel
theorem dL_all_64 : decode cL_all 64 = .ok (.ldc2_w 123, 3) := by decide +kernel
theorem dL_all_67 : decode cL_all 67 = .ok (.lmul, 1) := by decide +kernel
theorem dL_all_68 : decode cL_all 68 = .ok (.aload_n 0, 1) := by decide +kernel
theorem dL_all_69 : decode cL_all 69 = .ok (.iload 4, 2) := by decide +kernel
theorem dL_all_71 : decode cL_all 71 = .ok (.iload 5, 2) := by decide +kernel
theorem dL_all_73 : decode cL_all 73 = .ok (.invokevirtual 100, 3) := by decide +kernel
theorem dL_all_76 : decode cL_all 76 = .ok (.i2l, 1) := by decide +kernel
theorem dL_all_77 : decode cL_all 77 = .ok (.ladd, 1) := by decide +kernel
theorem dL_all_78 : decode cL_all 78 = .ok (.aload_n 0, 1) := by decide +kernel
theorem dL_all_79 : decode cL_all 79 = .ok (.iload 4, 2) := by decide +kernel
theorem dL_all_81 : decode cL_all 81 = .ok (.iload 5, 2) := by decide +kernel
theorem dL_all_83 : decode cL_all 83 = .ok (.invokevirtual 103, 3) := by decide +kernel
theorem dL_all_86 : decode cL_all 86 = .ok (.ifCond .eq 9, 3) := by decide +kernel
theorem dL_all_89 : decode cL_all 89 = .ok (.ldc2_w 125, 3) := by decide +kernel
theorem dL_all_92 : decode cL_all 92 = .ok (.goto 4, 3) := by decide +kernel
theorem dL_all_95 : decode cL_all 95 = .ok (.lconst 0, 1) := by decide +kernel
theorem dL_all_96 : decode cL_all 96 = .ok (.ladd, 1) := by decide +kernel
theorem dL_all_97 : decode cL_all 97 = .ok (.lstore_n 2, 1) := by decide +kernel
theorem dL_all_98 : decode cL_all 98 = .ok (.iinc 5 1, 3) := by decide +kernel
theorem dL_all_101 : decode cL_all 101 = .ok (.goto (-45), 3) := by decide +kernel
theorem dL_all_104 : decode cL_all 104 = .ok (.iinc 4 1, 3) := by decide +kernel
theorem dL_all_107 : decode cL_all 107 = .ok (.goto (-94), 3) := by decide +kernel
theorem dL_all_110 : decode cL_all 110 = .ok (.iconst 0, 1) := by decide +kernel
theorem dL_all_111 : decode cL_all 111 = .ok (.istore 4, 2) := by decide +kernel
theorem dL_all_113 : decode cL_all 113 = .ok (.iload 4, 2) := by decide +kernel
theorem dL_all_115 : decode cL_all 115 = .ok (.aload_n 1, 1) := by decide +kernel
theorem dL_all_116 : decode cL_all 116 = .ok (.iconst 1, 1) := by decide +kernel
theorem dL_all_117 : decode cL_all 117 = .ok (.iaload, 1) := by decide +kernel
theorem dL_all_118 : decode cL_all 118 = .ok (.if_icmp .ge 65, 3) := by decide +kernel
theorem dL_all_121 : decode cL_all 121 = .ok (.lload_n 2, 1) := by decide +kernel
theorem dL_all_122 : decode cL_all 122 = .ok (.ldc2_w 127, 3) := by decide +kernel
theorem dL_all_125 : decode cL_all 125 = .ok (.lmul, 1) := by decide +kernel
theorem dL_all_126 : decode cL_all 126 = .ok (.aload_n 0, 1) := by decide +kernel
theorem dL_all_127 : decode cL_all 127 = .ok (.iload 4, 2) := by decide +kernel
theorem dL_all_129 : decode cL_all 129 = .ok (.iconst 0, 1) := by decide +kernel
theorem dL_all_130 : decode cL_all 130 = .ok (.invokevirtual 96, 3) := by decide +kernel
theorem dL_all_133 : decode cL_all 133 = .ok (.i2l, 1) := by decide +kernel
theorem dL_all_134 : decode cL_all 134 = .ok (.ladd, 1) := by decide +kernel
theorem dL_all_135 : decode cL_all 135 = .ok (.ldc2_w 127, 3) := by decide +kernel
theorem dL_all_138 : decode cL_all 138 = .ok (.lmul, 1) := by decide +kernel
theorem dL_all_139 : decode cL_all 139 = .ok (.aload_n 0, 1) := by decide +kernel
theorem dL_all_140 : decode cL_all 140 = .ok (.iload 4, 2) := by decide +kernel
theorem dL_all_142 : decode cL_all 142 = .ok (.iconst 1, 1) := by decide +kernel
theorem dL_all_143 : decode cL_all 143 = .ok (.invokevirtual 96, 3) := by decide +kernel
theorem dL_all_146 : decode cL_all 146 = .ok (.i2l, 1) := by decide +kernel
theorem dL_all_147 : decode cL_all 147 = .ok (.ladd, 1) := by decide +kernel
theorem dL_all_148 : decode cL_all 148 = .ok (.ldc2_w 123, 3) := by decide +kernel
theorem dL_all_151 : decode cL_all 151 = .ok (.lmul, 1) := by decide +kernel
theorem dL_all_152 : decode cL_all 152 = .ok (.aload_n 0, 1) := by decide +kernel
theorem dL_all_153 : decode cL_all 153 = .ok (.iload 4, 2) := by decide +kernel
theorem dL_all_155 : decode cL_all 155 = .ok (.invokevirtual 90, 3) := by decide +kernel
theorem dL_all_158 : decode cL_all 158 = .ok (.i2l, 1) := by decide +kernel
theorem dL_all_159 : decode cL_all 159 = .ok (.ladd, 1) := by decide +kernel
theorem dL_all_160 : decode cL_all 160 = .ok (.lstore_n 2, 1) := by decide +kernel
theorem dL_all_161 : decode cL_all 161 = .ok (.lload_n 2, 1) := by decide +kernel
theorem dL_all_162 : decode cL_all 162 = .ok (.ldc2_w 127, 3) := by decide +kernel
theorem dL_all_165 : decode cL_all 165 = .ok (.lmul, 1) := by decide +kernel
theorem dL_all_166 : decode cL_all 166 = .ok (.aload_n 0, 1) := by decide +kernel
theorem dL_all_167 : decode cL_all 167 = .ok (.iload 4, 2) := by decide +kernel
theorem dL_all_169 : decode cL_all 169 = .ok (.bipush 77, 2) := by decide +kernel
theorem dL_all_171 : decode cL_all 171 = .ok (.invokevirtual 44, 3) := by decide +kernel
theorem dL_all_174 : decode cL_all 174 = .ok (.i2l, 1) := by decide +kernel
theorem dL_all_175 : decode cL_all 175 = .ok (.ladd, 1) := by decide +kernel
theorem dL_all_176 : decode cL_all 176 = .ok (.lstore_n 2, 1) := by decide +kernel
theorem dL_all_177 : decode cL_all 177 = .ok (.iinc 4 1, 3) := by decide +kernel
theorem dL_all_180 : decode cL_all 180 = .ok (.goto (-67), 3) := by decide +kernel
theorem dL_all_183 : decode cL_all 183 = .ok (.iconst 0, 1) := by decide +kernel
theorem dL_all_184 : decode cL_all 184 = .ok (.istore 4, 2) := by decide +kernel
theorem dL_all_186 : decode cL_all 186 = .ok (.iload 4, 2) := by decide +kernel
theorem dL_all_188 : decode cL_all 188 = .ok (.aload_n 1, 1) := by decide +kernel
theorem dL_all_189 : decode cL_all 189 = .ok (.iconst 3, 1) := by decide +kernel
theorem dL_all_190 : decode cL_all 190 = .ok (.iaload, 1) := by decide +kernel
theorem dL_all_191 : decode cL_all 191 = .ok (.if_icmp .ge 23, 3) := by decide +kernel
theorem dL_all_194 : decode cL_all 194 = .ok (.lload_n 2, 1) := by decide +kernel
theorem dL_all_195 : decode cL_all 195 = .ok (.ldc2_w 129, 3) := by decide +kernel
theorem dL_all_198 : decode cL_all 198 = .ok (.lmul, 1) := by decide +kernel
theorem dL_all_199 : decode cL_all 199 = .ok (.aload_n 0, 1) := by decide +kernel
theorem dL_all_200 : decode cL_all 200 = .ok (.iload 4, 2) := by decide +kernel
theorem dL_all_202 : decode cL_all 202 = .ok (.invokevirtual 77, 3) := by decide +kernel
theorem dL_all_205 : decode cL_all 205 = .ok (.i2l, 1) := by decide +kernel
theorem dL_all_206 : decode cL_all 206 = .ok (.ladd, 1) := by decide +kernel
theorem dL_all_207 : decode cL_all 207 = .ok (.lstore_n 2, 1) := by decide +kernel
theorem dL_all_208 : decode cL_all 208 = .ok (.iinc 4 1, 3) := by decide +kernel
theorem dL_all_211 : decode cL_all 211 = .ok (.goto (-25), 3) := by decide +kernel
theorem dL_all_214 : decode cL_all 214 = .ok (.lload_n 2, 1) := by decide +kernel
theorem dL_all_215 : decode cL_all 215 = .ok (.lreturn, 1) := by decide +kernel
theorem dL_both_0 : decode cL_both 0 = .ok (.aload_n 0, 1) := by decide +kernel
theorem dL_both_1 : decode cL_both 1 = .ok (.iload_n 2, 1) := by decide +kernel
theorem dL_both_2 : decode cL_both 2 = .ok (.iload_n 3, 1) := by decide +kernel
theorem dL_both_3 : decode cL_both 3 = .ok (.iload 4, 2) := by decide +kernel
theorem dL_both_5 : decode cL_both 5 = .ok (.iload 5, 2) := by decide +kernel
theorem dL_both_7 : decode cL_both 7 = .ok (.iload 6, 2) := by decide +kernel
theorem dL_both_9 : decode cL_both 9 = .ok (.invokestatic 131, 3) := by decide +kernel
theorem dL_both_12 : decode cL_both 12 = .ok (.istore 7, 2) := by decide +kernel
theorem dL_both_14 : decode cL_both 14 = .ok (.iload 7, 2) := by decide +kernel
theorem dL_both_16 : decode cL_both 16 = .ok (.aload_n 1, 1) := by decide +kernel
theorem dL_both_17 : decode cL_both 17 = .ok (.iload_n 2, 1) := by decide +kernel
theorem dL_both_18 : decode cL_both 18 = .ok (.iload_n 3, 1) := by decide +kernel
theorem dL_both_19 : decode cL_both 19 = .ok (.iload 4, 2) := by decide +kernel
theorem dL_both_21 : decode cL_both 21 = .ok (.iload 5, 2) := by decide +kernel
theorem dL_both_23 : decode cL_both 23 = .ok (.iload 6, 2) := by decide +kernel
theorem dL_both_25 : decode cL_both 25 = .ok (.invokestatic 131, 3) := by decide +kernel
theorem dL_both_28 : decode cL_both 28 = .ok (.if_icmp .ne 8, 3) := by decide +kernel
theorem dL_both_31 : decode cL_both 31 = .ok (.iload 7, 2) := by decide +kernel
theorem dL_both_33 : decode cL_both 33 = .ok (.goto 5, 3) := by decide +kernel
theorem dL_both_36 : decode cL_both 36 = .ok (.ldc 134, 2) := by decide +kernel
theorem dL_both_38 : decode cL_both 38 = .ok (.ireturn, 1) := by decide +kernel
theorem dL_children_0 : decode cL_children 0 = .ok (.iload_n 3, 1) := by decide +kernel
theorem dL_children_1 : decode cL_children 1 = .ok (.bipush 12, 2) := by decide +kernel
theorem dL_children_3 : decode cL_children 3 = .ok (.invokestatic 135, 3) := by decide +kernel
theorem dL_children_6 : decode cL_children 6 = .ok (.istore 5, 2) := by decide +kernel
theorem dL_children_8 : decode cL_children 8 = .ok (.iload 5, 2) := by decide +kernel
theorem dL_children_10 : decode cL_children 10 = .ok (.iconst 3, 1) := by decide +kernel
theorem dL_children_11 : decode cL_children 11 = .ok (.if_icmp .lt 9, 3) := by decide +kernel
theorem dL_children_14 : decode cL_children 14 = .ok (.aload_n 2, 1) := by decide +kernel
theorem dL_children_15 : decode cL_children 15 = .ok (.iconst 0, 1) := by decide +kernel
theorem dL_children_16 : decode cL_children 16 = .ok (.iaload, 1) := by decide +kernel
theorem dL_children_17 : decode cL_children 17 = .ok (.ifCond .ne 118, 3) := by decide +kernel
theorem dL_children_20 : decode cL_children 20 = .ok (.aload_n 0, 1) := by decide +kernel
theorem dL_children_21 : decode cL_children 21 = .ok (.aload_n 1, 1) := by decide +kernel
theorem dL_children_22 : decode cL_children 22 = .ok (.iconst 1, 1) := by decide +kernel
theorem dL_children_23 : decode cL_children 23 = .ok (.iconst 5, 1) := by decide +kernel
theorem dL_children_24 : decode cL_children 24 = .ok (.iload 4, 2) := by decide +kernel
theorem dL_children_26 : decode cL_children 26 = .ok (.bipush 10, 2) := by decide +kernel
theorem dL_children_28 : decode cL_children 28 = .ok (.invokestatic 135, 3) := by decide +kernel
theorem dL_children_31 : decode cL_children 31 = .ok (.iadd, 1) := by decide +kernel
theorem dL_children_32 : decode cL_children 32 = .ok (.iconst 0, 1) := by decide +kernel
theorem dL_children_33 : decode cL_children 33 = .ok (.iconst 0, 1) := by decide +kernel
theorem dL_children_34 : decode cL_children 34 = .ok (.iconst 0, 1) := by decide +kernel
theorem dL_children_35 : decode cL_children 35 = .ok (.invokestatic 138, 3) := by decide +kernel
theorem dL_children_38 : decode cL_children 38 = .ok (.istore 6, 2) := by decide +kernel
theorem dL_children_40 : decode cL_children 40 = .ok (.aload_n 2, 1) := by decide +kernel
theorem dL_children_41 : decode cL_children 41 = .ok (.iconst 0, 1) := by decide +kernel
theorem dL_children_42 : decode cL_children 42 = .ok (.dup2, 1) := by decide +kernel
theorem dL_children_43 : decode cL_children 43 = .ok (.iaload, 1) := by decide +kernel
theorem dL_children_44 : decode cL_children 44 = .ok (.iload 6, 2) := by decide +kernel
theorem dL_children_46 : decode cL_children 46 = .ok (.ifCond .lt 7, 3) := by decide +kernel
theorem dL_children_49 : decode cL_children 49 = .ok (.iconst 1, 1) := by decide +kernel
theorem dL_children_50 : decode cL_children 50 = .ok (.goto 4, 3) := by decide +kernel
theorem dL_children_53 : decode cL_children 53 = .ok (.iconst 0, 1) := by decide +kernel
theorem dL_children_54 : decode cL_children 54 = .ok (.iadd, 1) := by decide +kernel
theorem dL_children_55 : decode cL_children 55 = .ok (.iastore, 1) := by decide +kernel
theorem dL_children_56 : decode cL_children 56 = .ok (.iload 6, 2) := by decide +kernel
theorem dL_children_58 : decode cL_children 58 = .ok (.ldc 23, 2) := by decide +kernel
theorem dL_children_60 : decode cL_children 60 = .ok (.if_icmp .ne 19, 3) := by decide +kernel
theorem dL_children_63 : decode cL_children 63 = .ok (.aload_n 2, 1) := by decide +kernel
theorem dL_children_64 : decode cL_children 64 = .ok (.iconst 0, 1) := by decide +kernel
theorem dL_children_65 : decode cL_children 65 = .ok (.iaload, 1) := by decide +kernel
theorem dL_children_66 : decode cL_children 66 = .ok (.bipush 24, 2) := by decide +kernel
theorem dL_children_68 : decode cL_children 68 = .ok (.if_icmp .ne 7, 3) := by decide +kernel
theorem dL_children_71 : decode cL_children 71 = .ok (.iconst 1, 1) := by decide +kernel
theorem dL_children_72 : decode cL_children 72 = .ok (.goto 62, 3) := by decide +kernel
theorem dL_children_75 : decode cL_children 75 = .ok (.iconst 0, 1) := by decide +kernel
theorem dL_children_76 : decode cL_children 76 = .ok (.goto 58, 3) := by decide +kernel
theorem dL_children_79 : decode cL_children 79 = .ok (.iload 6, 2) := by decide +kernel
theorem dL_children_81 : decode cL_children 81 = .ok (.aload_n 2, 1) := by decide +kernel
theorem dL_children_82 : decode cL_children 82 = .ok (.iconst 0, 1) := by decide +kernel
theorem dL_children_83 : decode cL_children 83 = .ok (.iaload, 1) := by decide +kernel
theorem dL_children_84 : decode cL_children 84 = .ok (.iconst 1, 1) := by decide +kernel
theorem dL_children_85 : decode cL_children 85 = .ok (.isub, 1) := by decide +kernel
theorem dL_children_86 : decode cL_children 86 = .ok (.if_icmp .ne 47, 3) := by decide +kernel
theorem dL_children_89 : decode cL_children 89 = .ok (.aload_n 0, 1) := by decide +kernel
theorem dL_children_90 : decode cL_children 90 = .ok (.iload 6, 2) := by decide +kernel
theorem dL_children_92 : decode cL_children 92 = .ok (.iconst 0, 1) := by decide +kernel
theorem dL_children_93 : decode cL_children 93 = .ok (.invokevirtual 93, 3) := by decide +kernel
theorem dL_children_96 : decode cL_children 96 = .ok (.iconst 5, 1) := by decide +kernel
theorem dL_children_97 : decode cL_children 97 = .ok (.iload 4, 2) := by decide +kernel
theorem dL_children_99 : decode cL_children 99 = .ok (.bipush 10, 2) := by decide +kernel
theorem dL_children_101 : decode cL_children 101 = .ok (.invokestatic 135, 3) := by decide +kernel
theorem dL_children_104 : decode cL_children 104 = .ok (.iadd, 1) := by decide +kernel
theorem dL_children_105 : decode cL_children 105 = .ok (.if_icmp .ne 28, 3) := by decide +kernel
theorem dL_children_108 : decode cL_children 108 = .ok (.aload_n 0, 1) := by decide +kernel
theorem dL_children_109 : decode cL_children 109 = .ok (.iload 6, 2) := by decide +kernel
theorem dL_children_111 : decode cL_children 111 = .ok (.iconst 1, 1) := by decide +kernel
theorem dL_children_112 : decode cL_children 112 = .ok (.invokevirtual 93, 3) := by decide +kernel
theorem dL_children_115 : decode cL_children 115 = .ok (.iconst (-1), 1) := by decide +kernel
theorem dL_children_116 : decode cL_children 116 = .ok (.if_icmp .ne 17, 3) := by decide +kernel
theorem dL_children_119 : decode cL_children 119 = .ok (.aload_n 0, 1) := by decide +kernel
theorem dL_children_120 : decode cL_children 120 = .ok (.iload 6, 2) := by decide +kernel
theorem dL_children_122 : decode cL_children 122 = .ok (.iconst 5, 1) := by decide +kernel
theorem dL_children_123 : decode cL_children 123 = .ok (.invokevirtual 93, 3) := by decide +kernel
theorem dL_children_126 : decode cL_children 126 = .ok (.ifCond .ne 7, 3) := by decide +kernel
theorem dL_children_129 : decode cL_children 129 = .ok (.iconst 1, 1) := by decide +kernel
theorem dL_children_130 : decode cL_children 130 = .ok (.goto 4, 3) := by decide +kernel
theorem dL_children_133 : decode cL_children 133 = .ok (.iconst 0, 1) := by decide +kernel
theorem dL_children_134 : decode cL_children 134 = .ok (.ireturn, 1) := by decide +kernel
theorem dL_children_135 : decode cL_children 135 = .ok (.iload 4, 2) := by decide +kernel
theorem dL_children_137 : decode cL_children 137 = .ok (.aload_n 2, 1) := by decide +kernel
theorem dL_children_138 : decode cL_children 138 = .ok (.iconst 0, 1) := by decide +kernel
theorem dL_children_139 : decode cL_children 139 = .ok (.iaload, 1) := by decide +kernel
theorem dL_children_140 : decode cL_children 140 = .ok (.invokestatic 135, 3) := by decide +kernel
theorem dL_children_143 : decode cL_children 143 = .ok (.istore 6, 2) := by decide +kernel
theorem dL_children_145 : decode cL_children 145 = .ok (.aload_n 0, 1) := by decide +kernel
theorem dL_children_146 : decode cL_children 146 = .ok (.iload 6, 2) := by decide +kernel
theorem dL_children_148 : decode cL_children 148 = .ok (.iconst 1, 1) := by decide +kernel
theorem dL_children_149 : decode cL_children 149 = .ok (.invokevirtual 93, 3) := by decide +kernel
theorem dL_children_152 : decode cL_children 152 = .ok (.istore 7, 2) := by decide +kernel
theorem dL_children_154 : decode cL_children 154 = .ok (.aload_n 0, 1) := by decide +kernel
theorem dL_children_155 : decode cL_children 155 = .ok (.iload 6, 2) := by decide +kernel
theorem dL_children_157 : decode cL_children 157 = .ok (.iconst 2, 1) := by decide +kernel
theorem dL_children_158 : decode cL_children 158 = .ok (.invokevirtual 93, 3) := by decide +kernel
theorem dL_children_161 : decode cL_children 161 = .ok (.istore 8, 2) := by decide +kernel
theorem dL_children_163 : decode cL_children 163 = .ok (.iload 4, 2) := by decide +kernel
theorem dL_children_165 : decode cL_children 165 = .ok (.iconst 5, 1) := by decide +kernel
theorem dL_children_166 : decode cL_children 166 = .ok (.ishr, 1) := by decide +kernel
theorem dL_children_167 : decode cL_children 167 = .ok (.aload_n 2, 1) := by decide +kernel
theorem dL_children_168 : decode cL_children 168 = .ok (.iconst 1, 1) := by decide +kernel
theorem dL_children_169 : decode cL_children 169 = .ok (.iaload, 1) := by decide +kernel
theorem dL_children_170 : decode cL_children 170 = .ok (.invokestatic 135, 3) := by decide +kernel
theorem dL_children_173 : decode cL_children 173 = .ok (.istore 9, 2) := by decide +kernel
theorem dL_children_175 : decode cL_children 175 = .ok (.iload 5, 2) := by decide +kernel
theorem dL_children_177 : decode cL_children 177 = .ok (.bipush 7, 2) := by decide +kernel
theorem dL_children_179 : decode cL_children 179 = .ok (.if_icmp .ge 141, 3) := by decide +kernel
theorem dL_children_182 : decode cL_children 182 = .ok (.aload_n 0, 1) := by decide +kernel
theorem dL_children_183 : decode cL_children 183 = .ok (.iload 9, 2) := by decide +kernel
theorem dL_children_185 : decode cL_children 185 = .ok (.iconst 0, 1) := by decide +kernel
theorem dL_children_186 : decode cL_children 186 = .ok (.invokevirtual 96, 3) := by decide +kernel
theorem dL_children_189 : decode cL_children 189 = .ok (.istore 10, 2) := by decide +kernel
theorem dL_children_191 : decode cL_children 191 = .ok (.aload_n 0, 1) := by decide +kernel
theorem dL_children_192 : decode cL_children 192 = .ok (.aload_n 1, 1) := by decide +kernel
theorem dL_children_193 : decode cL_children 193 = .ok (.iconst 2, 1) := by decide +kernel
theorem dL_children_194 : decode cL_children 194 = .ok (.iload 6, 2) := by decide +kernel
theorem dL_children_196 : decode cL_children 196 = .ok (.iload 9, 2) := by decide +kernel
theorem dL_children_198 : decode cL_children 198 = .ok (.iconst 0, 1) := by decide +kernel
theorem dL_children_199 : decode cL_children 199 = .ok (.iconst 0, 1) := by decide +kernel
theorem dL_children_200 : decode cL_children 200 = .ok (.invokestatic 138, 3) := by decide +kernel
theorem dL_children_203 : decode cL_children 203 = .ok (.istore 11, 2) := by decide +kernel
theorem dL_children_205 : decode cL_children 205 = .ok (.iload 11, 2) := by decide +kernel
theorem dL_children_207 : decode cL_children 207 = .ok (.ldc 23, 2) := by decide +kernel
theorem dL_children_209 : decode cL_children 209 = .ok (.if_icmp .ne 35, 3) := by decide +kernel
theorem dL_children_212 : decode cL_children 212 = .ok (.aload_n 0, 1) := by decide +kernel
theorem dL_children_213 : decode cL_children 213 = .ok (.iload 6, 2) := by decide +kernel
theorem dL_children_215 : decode cL_children 215 = .ok (.iconst 1, 1) := by decide +kernel
theorem dL_children_216 : decode cL_children 216 = .ok (.invokevirtual 93, 3) := by decide +kernel
theorem dL_children_219 : decode cL_children 219 = .ok (.iload 7, 2) := by decide +kernel
theorem dL_children_221 : decode cL_children 221 = .ok (.if_icmp .ne 19, 3) := by decide +kernel
theorem dL_children_224 : decode cL_children 224 = .ok (.aload_n 0, 1) := by decide +kernel
theorem dL_children_225 : decode cL_children 225 = .ok (.iload 6, 2) := by decide +kernel
theorem dL_children_227 : decode cL_children 227 = .ok (.iconst 2, 1) := by decide +kernel
theorem dL_children_228 : decode cL_children 228 = .ok (.invokevirtual 93, 3) := by decide +kernel
theorem dL_children_231 : decode cL_children 231 = .ok (.iload 8, 2) := by decide +kernel
theorem dL_children_233 : decode cL_children 233 = .ok (.if_icmp .ne 7, 3) := by decide +kernel
theorem dL_children_236 : decode cL_children 236 = .ok (.iconst 1, 1) := by decide +kernel
theorem dL_children_237 : decode cL_children 237 = .ok (.goto 82, 3) := by decide +kernel
theorem dL_children_240 : decode cL_children 240 = .ok (.iconst 0, 1) := by decide +kernel
theorem dL_children_241 : decode cL_children 241 = .ok (.goto 78, 3) := by decide +kernel
theorem dL_children_244 : decode cL_children 244 = .ok (.iload 7, 2) := by decide +kernel
theorem dL_children_246 : decode cL_children 246 = .ok (.iconst (-1), 1) := by decide +kernel
theorem dL_children_247 : decode cL_children 247 = .ok (.if_icmp .ne 71, 3) := by decide +kernel
theorem dL_children_250 : decode cL_children 250 = .ok (.iload 8, 2) := by decide +kernel
theorem dL_children_252 : decode cL_children 252 = .ok (.iconst (-1), 1) := by decide +kernel
theorem dL_children_253 : decode cL_children 253 = .ok (.if_icmp .ne 65, 3) := by decide +kernel
theorem dL_children_256 : decode cL_children 256 = .ok (.iload 11, 2) := by decide +kernel
theorem dL_children_258 : decode cL_children 258 = .ok (.ifCond .ne 32, 3) := by decide +kernel
theorem dL_children_261 : decode cL_children 261 = .ok (.aload_n 0, 1) := by decide +kernel
theorem dL_children_262 : decode cL_children 262 = .ok (.iload 6, 2) := by decide +kernel
theorem dL_children_264 : decode cL_children 264 = .ok (.iconst 1, 1) := by decide +kernel
theorem dL_children_265 : decode cL_children 265 = .ok (.invokevirtual 93, 3) := by decide +kernel
theorem dL_children_268 : decode cL_children 268 = .ok (.iload 9, 2) := by decide +kernel
theorem dL_children_270 : decode cL_children 270 = .ok (.if_icmp .ne 48, 3) := by decide +kernel
theorem dL_children_273 : decode cL_children 273 = .ok (.aload_n 0, 1) := by decide +kernel
theorem dL_children_274 : decode cL_children 274 = .ok (.iload 9, 2) := by decide +kernel
theorem dL_children_276 : decode cL_children 276 = .ok (.iconst 0, 1) := by decide +kernel
theorem dL_children_277 : decode cL_children 277 = .ok (.invokevirtual 96, 3) := by decide +kernel
theorem dL_children_280 : decode cL_children 280 = .ok (.iload 10, 2) := by decide +kernel
theorem dL_children_282 : decode cL_children 282 = .ok (.iconst 1, 1) := by decide +kernel
theorem dL_children_283 : decode cL_children 283 = .ok (.iadd, 1) := by decide +kernel
theorem dL_children_284 : decode cL_children 284 = .ok (.if_icmp .ne 34, 3) := by decide +kernel
theorem dL_children_287 : decode cL_children 287 = .ok (.goto 27, 3) := by decide +kernel
theorem dL_children_290 : decode cL_children 290 = .ok (.aload_n 0, 1) := by decide +kernel
theorem dL_children_291 : decode cL_children 291 = .ok (.iload 6, 2) := by decide +kernel
theorem dL_children_293 : decode cL_children 293 = .ok (.iconst 2, 1) := by decide +kernel
theorem dL_children_294 : decode cL_children 294 = .ok (.invokevirtual 93, 3) := by decide +kernel
theorem dL_children_297 : decode cL_children 297 = .ok (.iload 9, 2) := by decide +kernel
theorem dL_children_299 : decode cL_children 299 = .ok (.if_icmp .ne 19, 3) := by decide +kernel
theorem dL_children_302 : decode cL_children 302 = .ok (.iload 11, 2) := by decide +kernel
theorem dL_children_304 : decode cL_children 304 = .ok (.aload_n 0, 1) := by decide +kernel
theorem dL_children_305 : decode cL_children 305 = .ok (.iload 9, 2) := by decide +kernel
theorem dL_children_307 : decode cL_children 307 = .ok (.iconst 1, 1) := by decide +kernel
theorem dL_children_308 : decode cL_children 308 = .ok (.invokevirtual 96, 3) := by decide +kernel
theorem dL_children_311 : decode cL_children 311 = .ok (.if_icmp .ne 7, 3) := by decide +kernel
theorem dL_children_314 : decode cL_children 314 = .ok (.iconst 1, 1) := by decide +kernel
theorem dL_children_315 : decode cL_children 315 = .ok (.goto 4, 3) := by decide +kernel
theorem dL_children_318 : decode cL_children 318 = .ok (.iconst 0, 1) := by decide +kernel
theorem dL_children_319 : decode cL_children 319 = .ok (.ireturn, 1) := by decide +kernel
theorem dL_children_320 : decode cL_children 320 = .ok (.iload 5, 2) := by decide +kernel
theorem dL_children_322 : decode cL_children 322 = .ok (.bipush 9, 2) := by decide +kernel
theorem dL_children_324 : decode cL_children 324 = .ok (.if_icmp .ge 127, 3) := by decide +kernel
theorem dL_children_327 : decode cL_children 327 = .ok (.aload_n 0, 1) := by decide +kernel
theorem dL_children_328 : decode cL_children 328 = .ok (.iload 6, 2) := by decide +kernel
theorem dL_children_330 : decode cL_children 330 = .ok (.iconst 5, 1) := by decide +kernel
theorem dL_children_331 : decode cL_children 331 = .ok (.invokevirtual 93, 3) := by decide +kernel
theorem dL_children_334 : decode cL_children 334 = .ok (.istore 10, 2) := by decide +kernel
theorem dL_children_336 : decode cL_children 336 = .ok (.aload_n 0, 1) := by decide +kernel
theorem dL_children_337 : decode cL_children 337 = .ok (.aload_n 1, 1) := by decide +kernel
theorem dL_children_338 : decode cL_children 338 = .ok (.iconst 3, 1) := by decide +kernel
theorem dL_children_339 : decode cL_children 339 = .ok (.iload 6, 2) := by decide +kernel
theorem dL_children_341 : decode cL_children 341 = .ok (.iconst 0, 1) := by decide +kernel
theorem dL_children_342 : decode cL_children 342 = .ok (.iconst 0, 1) := by decide +kernel
theorem dL_children_343 : decode cL_children 343 = .ok (.iconst 0, 1) := by decide +kernel
theorem dL_children_344 : decode cL_children 344 = .ok (.invokestatic 138, 3) := by decide +kernel
theorem dL_children_347 : decode cL_children 347 = .ok (.istore 11, 2) := by decide +kernel
theorem dL_children_349 : decode cL_children 349 = .ok (.iload 11, 2) := by decide +kernel
theorem dL_children_351 : decode cL_children 351 = .ok (.ldc 23, 2) := by decide +kernel
theorem dL_children_353 : decode cL_children 353 = .ok (.if_icmp .ne 23, 3) := by decide +kernel
theorem dL_children_356 : decode cL_children 356 = .ok (.iload 7, 2) := by decide +kernel
theorem dL_children_358 : decode cL_children 358 = .ok (.iconst (-1), 1) := by decide +kernel
theorem dL_children_359 : decode cL_children 359 = .ok (.if_icmp .ne 13, 3) := by decide +kernel
theorem dL_children_362 : decode cL_children 362 = .ok (.iload 8, 2) := by decide +kernel
theorem dL_children_364 : decode cL_children 364 = .ok (.iconst (-1), 1) := by decide +kernel
theorem dL_children_365 : decode cL_children 365 = .ok (.if_icmp .ne 7, 3) := by decide +kernel
theorem dL_children_368 : decode cL_children 368 = .ok (.iconst 1, 1) := by decide +kernel
theorem dL_children_369 : decode cL_children 369 = .ok (.goto 81, 3) := by decide +kernel
theorem dL_children_372 : decode cL_children 372 = .ok (.iconst 0, 1) := by decide +kernel
theorem dL_children_373 : decode cL_children 373 = .ok (.goto 77, 3) := by decide +kernel
theorem dL_children_376 : decode cL_children 376 = .ok (.aload_n 0, 1) := by decide +kernel
theorem dL_children_377 : decode cL_children 377 = .ok (.iload 6, 2) := by decide +kernel
theorem dL_children_379 : decode cL_children 379 = .ok (.iconst 1, 1) := by decide +kernel
theorem dL_children_380 : decode cL_children 380 = .ok (.invokevirtual 93, 3) := by decide +kernel
theorem dL_children_383 : decode cL_children 383 = .ok (.iconst (-1), 1) := by decide +kernel
theorem dL_children_384 : decode cL_children 384 = .ok (.if_icmp .ne 65, 3) := by decide +kernel
theorem dL_children_387 : decode cL_children 387 = .ok (.aload_n 0, 1) := by decide +kernel
theorem dL_children_388 : decode cL_children 388 = .ok (.iload 6, 2) := by decide +kernel
theorem dL_children_390 : decode cL_children 390 = .ok (.iconst 2, 1) := by decide +kernel
theorem dL_children_391 : decode cL_children 391 = .ok (.invokevirtual 93, 3) := by decide +kernel
theorem dL_children_394 : decode cL_children 394 = .ok (.iconst (-1), 1) := by decide +kernel
theorem dL_children_395 : decode cL_children 395 = .ok (.if_icmp .ne 54, 3) := by decide +kernel
theorem dL_children_398 : decode cL_children 398 = .ok (.aload_n 0, 1) := by decide +kernel
theorem dL_children_399 : decode cL_children 399 = .ok (.iload 6, 2) := by decide +kernel
theorem dL_children_401 : decode cL_children 401 = .ok (.iconst 3, 1) := by decide +kernel
theorem dL_children_402 : decode cL_children 402 = .ok (.invokevirtual 93, 3) := by decide +kernel
theorem dL_children_405 : decode cL_children 405 = .ok (.iconst (-1), 1) := by decide +kernel
theorem dL_children_406 : decode cL_children 406 = .ok (.if_icmp .ne 43, 3) := by decide +kernel
theorem dL_children_409 : decode cL_children 409 = .ok (.aload_n 0, 1) := by decide +kernel
theorem dL_children_410 : decode cL_children 410 = .ok (.iload 6, 2) := by decide +kernel
theorem dL_children_412 : decode cL_children 412 = .ok (.iconst 5, 1) := by decide +kernel
theorem dL_children_413 : decode cL_children 413 = .ok (.invokevirtual 93, 3) := by decide +kernel
theorem dL_children_416 : decode cL_children 416 = .ok (.iload 10, 2) := by decide +kernel
theorem dL_children_418 : decode cL_children 418 = .ok (.if_icmp .ne 31, 3) := by decide +kernel
theorem dL_children_421 : decode cL_children 421 = .ok (.iload 11, 2) := by decide +kernel
theorem dL_children_423 : decode cL_children 423 = .ok (.iconst (-1), 1) := by decide +kernel
theorem dL_children_424 : decode cL_children 424 = .ok (.if_icmp .eq 21, 3) := by decide +kernel
theorem dL_children_427 : decode cL_children 427 = .ok (.iload 7, 2) := by decide +kernel
theorem dL_children_429 : decode cL_children 429 = .ok (.iconst (-1), 1) := by decide +kernel
theorem dL_children_430 : decode cL_children 430 = .ok (.if_icmp .eq 19, 3) := by decide +kernel
theorem dL_children_433 : decode cL_children 433 = .ok (.aload_n 0, 1) := by decide +kernel
theorem dL_children_434 : decode cL_children 434 = .ok (.iload 11, 2) := by decide +kernel
theorem dL_children_436 : decode cL_children 436 = .ok (.iconst 1, 1) := by decide +kernel
theorem dL_children_437 : decode cL_children 437 = .ok (.invokevirtual 93, 3) := by decide +kernel
theorem dL_children_440 : decode cL_children 440 = .ok (.iload 7, 2) := by decide +kernel
theorem dL_children_442 : decode cL_children 442 = .ok (.if_icmp .ne 7, 3) := by decide +kernel
theorem dL_children_445 : decode cL_children 445 = .ok (.iconst 1, 1) := by decide +kernel
theorem dL_children_446 : decode cL_children 446 = .ok (.goto 4, 3) := by decide +kernel
theorem dL_children_449 : decode cL_children 449 = .ok (.iconst 0, 1) := by decide +kernel
theorem dL_children_450 : decode cL_children 450 = .ok (.ireturn, 1) := by decide +kernel
theorem dL_children_451 : decode cL_children 451 = .ok (.iload 5, 2) := by decide +kernel
theorem dL_children_453 : decode cL_children 453 = .ok (.bipush 10, 2) := by decide +kernel
theorem dL_children_455 : decode cL_children 455 = .ok (.if_icmp .ge 84, 3) := by decide +kernel
theorem dL_children_458 : decode cL_children 458 = .ok (.aload_n 0, 1) := by decide +kernel
theorem dL_children_459 : decode cL_children 459 = .ok (.iload 6, 2) := by decide +kernel
theorem dL_children_461 : decode cL_children 461 = .ok (.iconst 3, 1) := by decide +kernel
theorem dL_children_462 : decode cL_children 462 = .ok (.invokevirtual 93, 3) := by decide +kernel
theorem dL_children_465 : decode cL_children 465 = .ok (.istore 10, 2) := by decide +kernel
theorem dL_children_467 : decode cL_children 467 = .ok (.aload_n 0, 1) := by decide +kernel
theorem dL_children_468 : decode cL_children 468 = .ok (.aload_n 1, 1) := by decide +kernel
theorem dL_children_469 : decode cL_children 469 = .ok (.iconst 4, 1) := by decide +kernel
theorem dL_children_470 : decode cL_children 470 = .ok (.iload 6, 2) := by decide +kernel
theorem dL_children_472 : decode cL_children 472 = .ok (.iload 4, 2) := by decide +kernel
theorem dL_children_474 : decode cL_children 474 = .ok (.iconst 5, 1) := by decide +kernel
theorem dL_children_475 : decode cL_children 475 = .ok (.ishr, 1) := by decide +kernel
theorem dL_children_476 : decode cL_children 476 = .ok (.iconst 4, 1) := by decide +kernel
theorem dL_children_477 : decode cL_children 477 = .ok (.invokestatic 135, 3) := by decide +kernel
theorem dL_children_480 : decode cL_children 480 = .ok (.iconst 0, 1) := by decide +kernel
theorem dL_children_481 : decode cL_children 481 = .ok (.iconst 0, 1) := by decide +kernel
theorem dL_children_482 : decode cL_children 482 = .ok (.invokestatic 138, 3) := by decide +kernel
theorem dL_children_485 : decode cL_children 485 = .ok (.istore 11, 2) := by decide +kernel
theorem dL_children_487 : decode cL_children 487 = .ok (.iload 11, 2) := by decide +kernel
theorem dL_children_489 : decode cL_children 489 = .ok (.ldc 23, 2) := by decide +kernel
theorem dL_children_491 : decode cL_children 491 = .ok (.if_icmp .ne 17, 3) := by decide +kernel
theorem dL_children_494 : decode cL_children 494 = .ok (.iload 7, 2) := by decide +kernel
theorem dL_children_496 : decode cL_children 496 = .ok (.iconst (-1), 1) := by decide +kernel
theorem dL_children_497 : decode cL_children 497 = .ok (.if_icmp .ne 7, 3) := by decide +kernel
theorem dL_children_500 : decode cL_children 500 = .ok (.iconst 1, 1) := by decide +kernel
theorem dL_children_501 : decode cL_children 501 = .ok (.goto 37, 3) := by decide +kernel
theorem dL_children_504 : decode cL_children 504 = .ok (.iconst 0, 1) := by decide +kernel
theorem dL_children_505 : decode cL_children 505 = .ok (.goto 33, 3) := by decide +kernel
theorem dL_children_508 : decode cL_children 508 = .ok (.iload 11, 2) := by decide +kernel
theorem dL_children_510 : decode cL_children 510 = .ok (.iload 10, 2) := by decide +kernel
theorem dL_children_512 : decode cL_children 512 = .ok (.if_icmp .ne 25, 3) := by decide +kernel
theorem dL_children_515 : decode cL_children 515 = .ok (.aload_n 0, 1) := by decide +kernel
theorem dL_children_516 : decode cL_children 516 = .ok (.iload 6, 2) := by decide +kernel
theorem dL_children_518 : decode cL_children 518 = .ok (.iconst 3, 1) := by decide +kernel
theorem dL_children_519 : decode cL_children 519 = .ok (.invokevirtual 93, 3) := by decide +kernel
theorem dL_children_522 : decode cL_children 522 = .ok (.iload 4, 2) := by decide +kernel
theorem dL_children_524 : decode cL_children 524 = .ok (.iconst 5, 1) := by decide +kernel
theorem dL_children_525 : decode cL_children 525 = .ok (.ishr, 1) := by decide +kernel
theorem dL_children_526 : decode cL_children 526 = .ok (.iconst 4, 1) := by decide +kernel
theorem dL_children_527 : decode cL_children 527 = .ok (.invokestatic 135, 3) := by decide +kernel
theorem dL_children_530 : decode cL_children 530 = .ok (.if_icmp .ne 7, 3) := by decide +kernel
theorem dL_children_533 : decode cL_children 533 = .ok (.iconst 1, 1) := by decide +kernel
theorem dL_children_534 : decode cL_children 534 = .ok (.goto 4, 3) := by decide +kernel
theorem dL_children_537 : decode cL_children 537 = .ok (.iconst 0, 1) := by decide +kernel
theorem dL_children_538 : decode cL_children 538 = .ok (.ireturn, 1) := by decide +kernel
theorem dL_children_539 : decode cL_children 539 = .ok (.aload_n 0, 1) := by decide +kernel
theorem dL_children_540 : decode cL_children 540 = .ok (.iload 6, 2) := by decide +kernel
theorem dL_children_542 : decode cL_children 542 = .ok (.iconst 5, 1) := by decide +kernel
theorem dL_children_543 : decode cL_children 543 = .ok (.invokevirtual 93, 3) := by decide +kernel
theorem dL_children_546 : decode cL_children 546 = .ok (.istore 10, 2) := by decide +kernel
theorem dL_children_548 : decode cL_children 548 = .ok (.iload 5, 2) := by decide +kernel
theorem dL_children_550 : decode cL_children 550 = .ok (.bipush 11, 2) := by decide +kernel
theorem dL_children_552 : decode cL_children 552 = .ok (.if_icmp .ge 109, 3) := by decide +kernel
theorem dL_children_555 : decode cL_children 555 = .ok (.iconst 1, 1) := by decide +kernel
theorem dL_children_556 : decode cL_children 556 = .ok (.iload 4, 2) := by decide +kernel
theorem dL_children_558 : decode cL_children 558 = .ok (.iconst 5, 1) := by decide +kernel
theorem dL_children_559 : decode cL_children 559 = .ok (.ishr, 1) := by decide +kernel
theorem dL_children_560 : decode cL_children 560 = .ok (.bipush 99, 2) := by decide +kernel
theorem dL_children_562 : decode cL_children 562 = .ok (.invokestatic 135, 3) := by decide +kernel
theorem dL_children_565 : decode cL_children 565 = .ok (.iadd, 1) := by decide +kernel
theorem dL_children_566 : decode cL_children 566 = .ok (.istore 11, 2) := by decide +kernel
theorem dL_children_568 : decode cL_children 568 = .ok (.aload_n 0, 1) := by decide +kernel
theorem dL_children_569 : decode cL_children 569 = .ok (.aload_n 1, 1) := by decide +kernel
theorem dL_children_570 : decode cL_children 570 = .ok (.bipush 17, 2) := by decide +kernel
theorem dL_children_572 : decode cL_children 572 = .ok (.iload 6, 2) := by decide +kernel
theorem dL_children_574 : decode cL_children 574 = .ok (.iload 11, 2) := by decide +kernel
theorem dL_children_576 : decode cL_children 576 = .ok (.iconst 0, 1) := by decide +kernel
theorem dL_children_577 : decode cL_children 577 = .ok (.iconst 0, 1) := by decide +kernel
theorem dL_children_578 : decode cL_children 578 = .ok (.invokestatic 138, 3) := by decide +kernel
theorem dL_children_581 : decode cL_children 581 = .ok (.istore 12, 2) := by decide +kernel
theorem dL_children_583 : decode cL_children 583 = .ok (.iload 12, 2) := by decide +kernel
theorem dL_children_585 : decode cL_children 585 = .ok (.ldc 23, 2) := by decide +kernel
theorem dL_children_587 : decode cL_children 587 = .ok (.if_icmp .ne 39, 3) := by decide +kernel
theorem dL_children_590 : decode cL_children 590 = .ok (.aload_n 0, 1) := by decide +kernel
theorem dL_children_591 : decode cL_children 591 = .ok (.iload 6, 2) := by decide +kernel
theorem dL_children_593 : decode cL_children 593 = .ok (.iconst 5, 1) := by decide +kernel
theorem dL_children_594 : decode cL_children 594 = .ok (.invokevirtual 93, 3) := by decide +kernel
theorem dL_children_597 : decode cL_children 597 = .ok (.iload 10, 2) := by decide +kernel
theorem dL_children_599 : decode cL_children 599 = .ok (.if_icmp .ne 23, 3) := by decide +kernel
theorem dL_children_602 : decode cL_children 602 = .ok (.iload 7, 2) := by decide +kernel
theorem dL_children_604 : decode cL_children 604 = .ok (.iconst (-1), 1) := by decide +kernel
theorem dL_children_605 : decode cL_children 605 = .ok (.if_icmp .eq 13, 3) := by decide +kernel
theorem dL_children_608 : decode cL_children 608 = .ok (.iload 10, 2) := by decide +kernel
theorem dL_children_610 : decode cL_children 610 = .ok (.ifCond .gt 8, 3) := by decide +kernel
theorem dL_children_613 : decode cL_children 613 = .ok (.iload 10, 2) := by decide +kernel
theorem dL_children_615 : decode cL_children 615 = .ok (.ifCond .ne 7, 3) := by decide +kernel
theorem dL_children_618 : decode cL_children 618 = .ok (.iconst 1, 1) := by decide +kernel
theorem dL_children_619 : decode cL_children 619 = .ok (.goto 41, 3) := by decide +kernel
theorem dL_children_622 : decode cL_children 622 = .ok (.iconst 0, 1) := by decide +kernel
theorem dL_children_623 : decode cL_children 623 = .ok (.goto 37, 3) := by decide +kernel
theorem dL_children_626 : decode cL_children 626 = .ok (.iload 7, 2) := by decide +kernel
theorem dL_children_628 : decode cL_children 628 = .ok (.iconst (-1), 1) := by decide +kernel
theorem dL_children_629 : decode cL_children 629 = .ok (.if_icmp .eq 30, 3) := by decide +kernel
theorem dL_children_632 : decode cL_children 632 = .ok (.iload 12, 2) := by decide +kernel
theorem dL_children_634 : decode cL_children 634 = .ok (.iload 10, 2) := by decide +kernel
theorem dL_children_636 : decode cL_children 636 = .ok (.iconst 4, 1) := by decide +kernel
theorem dL_children_637 : decode cL_children 637 = .ok (.iload 11, 2) := by decide +kernel
theorem dL_children_639 : decode cL_children 639 = .ok (.imul, 1) := by decide +kernel
theorem dL_children_640 : decode cL_children 640 = .ok (.iadd, 1) := by decide +kernel
theorem dL_children_641 : decode cL_children 641 = .ok (.if_icmp .ne 18, 3) := by decide +kernel
theorem dL_children_644 : decode cL_children 644 = .ok (.aload_n 0, 1) := by decide +kernel
theorem dL_children_645 : decode cL_children 645 = .ok (.iload 7, 2) := by decide +kernel
theorem dL_children_647 : decode cL_children 647 = .ok (.invokevirtual 90, 3) := by decide +kernel
theorem dL_children_650 : decode cL_children 650 = .ok (.iload 12, 2) := by decide +kernel
theorem dL_children_652 : decode cL_children 652 = .ok (.if_icmp .lt 7, 3) := by decide +kernel
theorem dL_children_655 : decode cL_children 655 = .ok (.iconst 1, 1) := by decide +kernel
theorem dL_children_656 : decode cL_children 656 = .ok (.goto 4, 3) := by decide +kernel
theorem dL_children_659 : decode cL_children 659 = .ok (.iconst 0, 1) := by decide +kernel
theorem dL_children_660 : decode cL_children 660 = .ok (.ireturn, 1) := by decide +kernel
theorem dL_children_661 : decode cL_children 661 = .ok (.iconst 1, 1) := by decide +kernel
theorem dL_children_662 : decode cL_children 662 = .ok (.iload 4, 2) := by decide +kernel
theorem dL_children_664 : decode cL_children 664 = .ok (.iconst 5, 1) := by decide +kernel
theorem dL_children_665 : decode cL_children 665 = .ok (.ishr, 1) := by decide +kernel
theorem dL_children_666 : decode cL_children 666 = .ok (.sipush 396, 3) := by decide +kernel
theorem dL_children_669 : decode cL_children 669 = .ok (.invokestatic 135, 3) := by decide +kernel
theorem dL_children_672 : decode cL_children 672 = .ok (.iadd, 1) := by decide +kernel
theorem dL_children_673 : decode cL_children 673 = .ok (.istore 11, 2) := by decide +kernel
theorem dL_children_675 : decode cL_children 675 = .ok (.aload_n 0, 1) := by decide +kernel
theorem dL_children_676 : decode cL_children 676 = .ok (.aload_n 1, 1) := by decide +kernel
theorem dL_children_677 : decode cL_children 677 = .ok (.bipush 18, 2) := by decide +kernel
theorem dL_children_679 : decode cL_children 679 = .ok (.iload 6, 2) := by decide +kernel
theorem dL_children_681 : decode cL_children 681 = .ok (.iload 11, 2) := by decide +kernel
theorem dL_children_683 : decode cL_children 683 = .ok (.iconst 0, 1) := by decide +kernel
theorem dL_children_684 : decode cL_children 684 = .ok (.iconst 0, 1) := by decide +kernel
theorem dL_children_685 : decode cL_children 685 = .ok (.invokestatic 138, 3) := by decide +kernel
theorem dL_children_688 : decode cL_children 688 = .ok (.istore 12, 2) := by decide +kernel
theorem dL_children_690 : decode cL_children 690 = .ok (.iload 12, 2) := by decide +kernel
theorem dL_children_692 : decode cL_children 692 = .ok (.ldc 23, 2) := by decide +kernel
theorem dL_children_694 : decode cL_children 694 = .ok (.if_icmp .ne 18, 3) := by decide +kernel
theorem dL_children_697 : decode cL_children 697 = .ok (.iload 10, 2) := by decide +kernel
theorem dL_children_699 : decode cL_children 699 = .ok (.iload 11, 2) := by decide +kernel
theorem dL_children_701 : decode cL_children 701 = .ok (.if_icmp .ge 7, 3) := by decide +kernel
theorem dL_children_704 : decode cL_children 704 = .ok (.iconst 1, 1) := by decide +kernel
theorem dL_children_705 : decode cL_children 705 = .ok (.goto 22, 3) := by decide +kernel
theorem dL_children_708 : decode cL_children 708 = .ok (.iconst 0, 1) := by decide +kernel
theorem dL_children_709 : decode cL_children 709 = .ok (.goto 18, 3) := by decide +kernel
theorem dL_children_712 : decode cL_children 712 = .ok (.iload 12, 2) := by decide +kernel
theorem dL_children_714 : decode cL_children 714 = .ok (.iload 10, 2) := by decide +kernel
theorem dL_children_716 : decode cL_children 716 = .ok (.iload 11, 2) := by decide +kernel
theorem dL_children_718 : decode cL_children 718 = .ok (.isub, 1) := by decide +kernel
theorem dL_children_719 : decode cL_children 719 = .ok (.if_icmp .ne 7, 3) := by decide +kernel
theorem dL_children_722 : decode cL_children 722 = .ok (.iconst 1, 1) := by decide +kernel
theorem dL_children_723 : decode cL_children 723 = .ok (.goto 4, 3) := by decide +kernel
theorem dL_children_726 : decode cL_children 726 = .ok (.iconst 0, 1) := by decide +kernel
theorem dL_children_727 : decode cL_children 727 = .ok (.ireturn, 1) := by decide +kernel
theorem dL_badges_0 : decode cL_badges 0 = .ok (.iload_n 3, 1) := by decide +kernel
theorem dL_badges_1 : decode cL_badges 1 = .ok (.bipush 12, 2) := by decide +kernel
theorem dL_badges_3 : decode cL_badges 3 = .ok (.invokestatic 135, 3) := by decide +kernel
theorem dL_badges_6 : decode cL_badges 6 = .ok (.istore 5, 2) := by decide +kernel
theorem dL_badges_8 : decode cL_badges 8 = .ok (.iload 4, 2) := by decide +kernel
theorem dL_badges_10 : decode cL_badges 10 = .ok (.bipush 8, 2) := by decide +kernel
theorem dL_badges_12 : decode cL_badges 12 = .ok (.invokestatic 135, 3) := by decide +kernel
theorem dL_badges_15 : decode cL_badges 15 = .ok (.istore 6, 2) := by decide +kernel
theorem dL_badges_17 : decode cL_badges 17 = .ok (.iload 5, 2) := by decide +kernel
theorem dL_badges_19 : decode cL_badges 19 = .ok (.iconst 3, 1) := by decide +kernel
theorem dL_badges_20 : decode cL_badges 20 = .ok (.if_icmp .ge 208, 3) := by decide +kernel
theorem dL_badges_23 : decode cL_badges 23 = .ok (.iload 4, 2) := by decide +kernel
theorem dL_badges_25 : decode cL_badges 25 = .ok (.iconst 3, 1) := by decide +kernel
theorem dL_badges_26 : decode cL_badges 26 = .ok (.ishr, 1) := by decide +kernel
theorem dL_badges_27 : decode cL_badges 27 = .ok (.bipush 64, 2) := by decide +kernel
theorem dL_badges_29 : decode cL_badges 29 = .ok (.invokestatic 135, 3) := by decide +kernel
theorem dL_badges_32 : decode cL_badges 32 = .ok (.istore 7, 2) := by decide +kernel
theorem dL_badges_34 : decode cL_badges 34 = .ok (.iload 4, 2) := by decide +kernel
theorem dL_badges_36 : decode cL_badges 36 = .ok (.bipush 6, 2) := by decide +kernel
theorem dL_badges_38 : decode cL_badges 38 = .ok (.ishr, 1) := by decide +kernel
theorem dL_badges_39 : decode cL_badges 39 = .ok (.sipush 1024, 3) := by decide +kernel
theorem dL_badges_42 : decode cL_badges 42 = .ok (.invokestatic 135, 3) := by decide +kernel
theorem dL_badges_45 : decode cL_badges 45 = .ok (.iload 7, 2) := by decide +kernel
theorem dL_badges_47 : decode cL_badges 47 = .ok (.iconst (-1), 1) := by decide +kernel
theorem dL_badges_48 : decode cL_badges 48 = .ok (.ixor, 1) := by decide +kernel
theorem dL_badges_49 : decode cL_badges 49 = .ok (.iand, 1) := by decide +kernel
theorem dL_badges_50 : decode cL_badges 50 = .ok (.istore 8, 2) := by decide +kernel
theorem dL_badges_52 : decode cL_badges 52 = .ok (.iload 8, 2) := by decide +kernel
theorem dL_badges_54 : decode cL_badges 54 = .ok (.ifCond .ne 7, 3) := by decide +kernel
theorem dL_badges_57 : decode cL_badges 57 = .ok (.iconst 0, 1) := by decide +kernel
theorem dL_badges_58 : decode cL_badges 58 = .ok (.goto 4, 3) := by decide +kernel
theorem dL_badges_61 : decode cL_badges 61 = .ok (.iconst 1, 1) := by decide +kernel
theorem dL_badges_62 : decode cL_badges 62 = .ok (.istore 9, 2) := by decide +kernel
theorem dL_badges_64 : decode cL_badges 64 = .ok (.iload 6, 2) := by decide +kernel
theorem dL_badges_66 : decode cL_badges 66 = .ok (.ifCond .ne 7, 3) := by decide +kernel
theorem dL_badges_69 : decode cL_badges 69 = .ok (.iconst (-1), 1) := by decide +kernel
theorem dL_badges_70 : decode cL_badges 70 = .ok (.goto 15, 3) := by decide +kernel
theorem dL_badges_73 : decode cL_badges 73 = .ok (.iload_n 3, 1) := by decide +kernel
theorem dL_badges_74 : decode cL_badges 74 = .ok (.iconst 4, 1) := by decide +kernel
theorem dL_badges_75 : decode cL_badges 75 = .ok (.ishr, 1) := by decide +kernel
theorem dL_badges_76 : decode cL_badges 76 = .ok (.iload 6, 2) := by decide +kernel
theorem dL_badges_78 : decode cL_badges 78 = .ok (.iconst 1, 1) := by decide +kernel
theorem dL_badges_79 : decode cL_badges 79 = .ok (.iadd, 1) := by decide +kernel
theorem dL_badges_80 : decode cL_badges 80 = .ok (.invokestatic 135, 3) := by decide +kernel
theorem dL_badges_83 : decode cL_badges 83 = .ok (.iconst 1, 1) := by decide +kernel
theorem dL_badges_84 : decode cL_badges 84 = .ok (.isub, 1) := by decide +kernel
theorem dL_badges_85 : decode cL_badges 85 = .ok (.istore 10, 2) := by decide +kernel
theorem dL_badges_87 : decode cL_badges 87 = .ok (.aload_n 0, 1) := by decide +kernel
theorem dL_badges_88 : decode cL_badges 88 = .ok (.iload 6, 2) := by decide +kernel
theorem dL_badges_90 : decode cL_badges 90 = .ok (.iload 7, 2) := by decide +kernel
theorem dL_badges_92 : decode cL_badges 92 = .ok (.iload 8, 2) := by decide +kernel
theorem dL_badges_94 : decode cL_badges 94 = .ok (.iload 9, 2) := by decide +kernel
theorem dL_badges_96 : decode cL_badges 96 = .ok (.iload 10, 2) := by decide +kernel
theorem dL_badges_98 : decode cL_badges 98 = .ok (.iload_n 3, 1) := by decide +kernel
theorem dL_badges_99 : decode cL_badges 99 = .ok (.bipush 7, 2) := by decide +kernel
theorem dL_badges_101 : decode cL_badges 101 = .ok (.ishr, 1) := by decide +kernel
theorem dL_badges_102 : decode cL_badges 102 = .ok (.bipush 30, 2) := by decide +kernel
theorem dL_badges_104 : decode cL_badges 104 = .ok (.invokestatic 135, 3) := by decide +kernel
theorem dL_badges_107 : decode cL_badges 107 = .ok (.iload_n 3, 1) := by decide +kernel
theorem dL_badges_108 : decode cL_badges 108 = .ok (.bipush 9, 2) := by decide +kernel
theorem dL_badges_110 : decode cL_badges 110 = .ok (.ishr, 1) := by decide +kernel
theorem dL_badges_111 : decode cL_badges 111 = .ok (.bipush 40, 2) := by decide +kernel
theorem dL_badges_113 : decode cL_badges 113 = .ok (.invokestatic 135, 3) := by decide +kernel
theorem dL_badges_116 : decode cL_badges 116 = .ok (.invokestatic 142, 3) := by decide +kernel
theorem dL_badges_119 : decode cL_badges 119 = .ok (.istore 11, 2) := by decide +kernel
theorem dL_badges_121 : decode cL_badges 121 = .ok (.iload 11, 2) := by decide +kernel
theorem dL_badges_123 : decode cL_badges 123 = .ok (.aload_n 1, 1) := by decide +kernel
theorem dL_badges_124 : decode cL_badges 124 = .ok (.iload 6, 2) := by decide +kernel
theorem dL_badges_126 : decode cL_badges 126 = .ok (.iload 7, 2) := by decide +kernel
theorem dL_badges_128 : decode cL_badges 128 = .ok (.iload 8, 2) := by decide +kernel
theorem dL_badges_130 : decode cL_badges 130 = .ok (.iload 9, 2) := by decide +kernel
theorem dL_badges_132 : decode cL_badges 132 = .ok (.iload 10, 2) := by decide +kernel
theorem dL_badges_134 : decode cL_badges 134 = .ok (.iload_n 3, 1) := by decide +kernel
theorem dL_badges_135 : decode cL_badges 135 = .ok (.bipush 7, 2) := by decide +kernel
theorem dL_badges_137 : decode cL_badges 137 = .ok (.ishr, 1) := by decide +kernel
theorem dL_badges_138 : decode cL_badges 138 = .ok (.bipush 30, 2) := by decide +kernel
theorem dL_badges_140 : decode cL_badges 140 = .ok (.invokestatic 135, 3) := by decide +kernel
theorem dL_badges_143 : decode cL_badges 143 = .ok (.iload_n 3, 1) := by decide +kernel
theorem dL_badges_144 : decode cL_badges 144 = .ok (.bipush 9, 2) := by decide +kernel
theorem dL_badges_146 : decode cL_badges 146 = .ok (.ishr, 1) := by decide +kernel
theorem dL_badges_147 : decode cL_badges 147 = .ok (.bipush 40, 2) := by decide +kernel
theorem dL_badges_149 : decode cL_badges 149 = .ok (.invokestatic 135, 3) := by decide +kernel
theorem dL_badges_152 : decode cL_badges 152 = .ok (.invokestatic 142, 3) := by decide +kernel
theorem dL_badges_155 : decode cL_badges 155 = .ok (.if_icmp .ne 7, 3) := by decide +kernel
theorem dL_badges_158 : decode cL_badges 158 = .ok (.iconst 1, 1) := by decide +kernel
theorem dL_badges_159 : decode cL_badges 159 = .ok (.goto 4, 3) := by decide +kernel
theorem dL_badges_162 : decode cL_badges 162 = .ok (.iconst 0, 1) := by decide +kernel
theorem dL_badges_163 : decode cL_badges 163 = .ok (.istore 12, 2) := by decide +kernel
theorem dL_badges_165 : decode cL_badges 165 = .ok (.aload_n 2, 1) := by decide +kernel
theorem dL_badges_166 : decode cL_badges 166 = .ok (.iconst 4, 1) := by decide +kernel
theorem dL_badges_167 : decode cL_badges 167 = .ok (.iload 6, 2) := by decide +kernel
theorem dL_badges_169 : decode cL_badges 169 = .ok (.iadd, 1) := by decide +kernel
theorem dL_badges_170 : decode cL_badges 170 = .ok (.dup2, 1) := by decide +kernel
theorem dL_badges_171 : decode cL_badges 171 = .ok (.iaload, 1) := by decide +kernel
theorem dL_badges_172 : decode cL_badges 172 = .ok (.iload 11, 2) := by decide +kernel
theorem dL_badges_174 : decode cL_badges 174 = .ok (.ifCond .lt 7, 3) := by decide +kernel
theorem dL_badges_177 : decode cL_badges 177 = .ok (.iconst 1, 1) := by decide +kernel
theorem dL_badges_178 : decode cL_badges 178 = .ok (.goto 4, 3) := by decide +kernel
theorem dL_badges_181 : decode cL_badges 181 = .ok (.iconst 0, 1) := by decide +kernel
theorem dL_badges_182 : decode cL_badges 182 = .ok (.iadd, 1) := by decide +kernel
theorem dL_badges_183 : decode cL_badges 183 = .ok (.iastore, 1) := by decide +kernel
theorem dL_badges_184 : decode cL_badges 184 = .ok (.iload 12, 2) := by decide +kernel
theorem dL_badges_186 : decode cL_badges 186 = .ok (.ifCond .eq 40, 3) := by decide +kernel
theorem dL_badges_189 : decode cL_badges 189 = .ok (.iload 11, 2) := by decide +kernel
theorem dL_badges_191 : decode cL_badges 191 = .ok (.ldc 23, 2) := by decide +kernel
theorem dL_badges_193 : decode cL_badges 193 = .ok (.if_icmp .ne 16, 3) := by decide +kernel
theorem dL_badges_196 : decode cL_badges 196 = .ok (.aload_n 2, 1) := by decide +kernel
theorem dL_badges_197 : decode cL_badges 197 = .ok (.iconst 4, 1) := by decide +kernel
theorem dL_badges_198 : decode cL_badges 198 = .ok (.iload 6, 2) := by decide +kernel
theorem dL_badges_200 : decode cL_badges 200 = .ok (.iadd, 1) := by decide +kernel
theorem dL_badges_201 : decode cL_badges 201 = .ok (.iaload, 1) := by decide +kernel
theorem dL_badges_202 : decode cL_badges 202 = .ok (.iconst 3, 1) := by decide +kernel
theorem dL_badges_203 : decode cL_badges 203 = .ok (.if_icmp .ne 23, 3) := by decide +kernel
theorem dL_badges_206 : decode cL_badges 206 = .ok (.goto 16, 3) := by decide +kernel
theorem dL_badges_209 : decode cL_badges 209 = .ok (.iload 11, 2) := by decide +kernel
theorem dL_badges_211 : decode cL_badges 211 = .ok (.aload_n 2, 1) := by decide +kernel
theorem dL_badges_212 : decode cL_badges 212 = .ok (.iconst 4, 1) := by decide +kernel
theorem dL_badges_213 : decode cL_badges 213 = .ok (.iload 6, 2) := by decide +kernel
theorem dL_badges_215 : decode cL_badges 215 = .ok (.iadd, 1) := by decide +kernel
theorem dL_badges_216 : decode cL_badges 216 = .ok (.iaload, 1) := by decide +kernel
theorem dL_badges_217 : decode cL_badges 217 = .ok (.iconst 1, 1) := by decide +kernel
theorem dL_badges_218 : decode cL_badges 218 = .ok (.isub, 1) := by decide +kernel
theorem dL_badges_219 : decode cL_badges 219 = .ok (.if_icmp .ne 7, 3) := by decide +kernel
theorem dL_badges_222 : decode cL_badges 222 = .ok (.iconst 1, 1) := by decide +kernel
theorem dL_badges_223 : decode cL_badges 223 = .ok (.goto 4, 3) := by decide +kernel
theorem dL_badges_226 : decode cL_badges 226 = .ok (.iconst 0, 1) := by decide +kernel
theorem dL_badges_227 : decode cL_badges 227 = .ok (.ireturn, 1) := by decide +kernel
theorem dL_badges_228 : decode cL_badges 228 = .ok (.aload_n 2, 1) := by decide +kernel
theorem dL_badges_229 : decode cL_badges 229 = .ok (.iconst 0, 1) := by decide +kernel
theorem dL_badges_230 : decode cL_badges 230 = .ok (.iaload, 1) := by decide +kernel
theorem dL_badges_231 : decode cL_badges 231 = .ok (.ifCond .eq 9, 3) := by decide +kernel
theorem dL_badges_234 : decode cL_badges 234 = .ok (.aload_n 2, 1) := by decide +kernel
theorem dL_badges_235 : decode cL_badges 235 = .ok (.iconst 2, 1) := by decide +kernel
theorem dL_badges_236 : decode cL_badges 236 = .ok (.iaload, 1) := by decide +kernel
theorem dL_badges_237 : decode cL_badges 237 = .ok (.ifCond .ne 28, 3) := by decide +kernel
theorem dL_badges_240 : decode cL_badges 240 = .ok (.aload_n 0, 1) := by decide +kernel
theorem dL_badges_241 : decode cL_badges 241 = .ok (.bipush 13, 2) := by decide +kernel
theorem dL_badges_243 : decode cL_badges 243 = .ok (.aload_n 2, 1) := by decide +kernel
theorem dL_badges_244 : decode cL_badges 244 = .ok (.iconst 0, 1) := by decide +kernel
theorem dL_badges_245 : decode cL_badges 245 = .ok (.iaload, 1) := by decide +kernel
theorem dL_badges_246 : decode cL_badges 246 = .ok (.iconst 0, 1) := by decide +kernel
theorem dL_badges_247 : decode cL_badges 247 = .ok (.aload_n 2, 1) := by decide +kernel
theorem dL_badges_248 : decode cL_badges 248 = .ok (.iconst 2, 1) := by decide +kernel
theorem dL_badges_249 : decode cL_badges 249 = .ok (.iaload, 1) := by decide +kernel
theorem dL_badges_250 : decode cL_badges 250 = .ok (.iconst 0, 1) := by decide +kernel
theorem dL_badges_251 : decode cL_badges 251 = .ok (.invokestatic 131, 3) := by decide +kernel
theorem dL_badges_254 : decode cL_badges 254 = .ok (.ldc 17, 2) := by decide +kernel
theorem dL_badges_256 : decode cL_badges 256 = .ok (.if_icmp .ne 7, 3) := by decide +kernel
theorem dL_badges_259 : decode cL_badges 259 = .ok (.iconst 1, 1) := by decide +kernel
theorem dL_badges_260 : decode cL_badges 260 = .ok (.goto 4, 3) := by decide +kernel
theorem dL_badges_263 : decode cL_badges 263 = .ok (.iconst 0, 1) := by decide +kernel
theorem dL_badges_264 : decode cL_badges 264 = .ok (.ireturn, 1) := by decide +kernel
theorem dL_badges_265 : decode cL_badges 265 = .ok (.iload 4, 2) := by decide +kernel
theorem dL_badges_267 : decode cL_badges 267 = .ok (.iconst 3, 1) := by decide +kernel
theorem dL_badges_268 : decode cL_badges 268 = .ok (.ishr, 1) := by decide +kernel
theorem dL_badges_269 : decode cL_badges 269 = .ok (.aload_n 2, 1) := by decide +kernel
theorem dL_badges_270 : decode cL_badges 270 = .ok (.iconst 0, 1) := by decide +kernel
theorem dL_badges_271 : decode cL_badges 271 = .ok (.iaload, 1) := by decide +kernel
theorem dL_badges_272 : decode cL_badges 272 = .ok (.invokestatic 135, 3) := by decide +kernel
theorem dL_badges_275 : decode cL_badges 275 = .ok (.istore 7, 2) := by decide +kernel
theorem dL_badges_277 : decode cL_badges 277 = .ok (.aload_n 0, 1) := by decide +kernel
theorem dL_badges_278 : decode cL_badges 278 = .ok (.iload 7, 2) := by decide +kernel
theorem dL_badges_280 : decode cL_badges 280 = .ok (.iconst 4, 1) := by decide +kernel
theorem dL_badges_281 : decode cL_badges 281 = .ok (.invokevirtual 93, 3) := by decide +kernel
theorem dL_badges_284 : decode cL_badges 284 = .ok (.istore 8, 2) := by decide +kernel
theorem dL_badges_286 : decode cL_badges 286 = .ok (.iload 5, 2) := by decide +kernel
theorem dL_badges_288 : decode cL_badges 288 = .ok (.bipush 6, 2) := by decide +kernel
theorem dL_badges_290 : decode cL_badges 290 = .ok (.if_icmp .ge 139, 3) := by decide +kernel
theorem dL_badges_293 : decode cL_badges 293 = .ok (.aload_n 0, 1) := by decide +kernel
theorem dL_badges_294 : decode cL_badges 294 = .ok (.aload_n 1, 1) := by decide +kernel
theorem dL_badges_295 : decode cL_badges 295 = .ok (.bipush 12, 2) := by decide +kernel
theorem dL_badges_297 : decode cL_badges 297 = .ok (.iload 7, 2) := by decide +kernel
theorem dL_badges_299 : decode cL_badges 299 = .ok (.iload 6, 2) := by decide +kernel
theorem dL_badges_301 : decode cL_badges 301 = .ok (.iconst 0, 1) := by decide +kernel
theorem dL_badges_302 : decode cL_badges 302 = .ok (.iconst 0, 1) := by decide +kernel
theorem dL_badges_303 : decode cL_badges 303 = .ok (.invokestatic 138, 3) := by decide +kernel
theorem dL_badges_306 : decode cL_badges 306 = .ok (.istore 9, 2) := by decide +kernel
theorem dL_badges_308 : decode cL_badges 308 = .ok (.aload_n 0, 1) := by decide +kernel
theorem dL_badges_309 : decode cL_badges 309 = .ok (.bipush 24, 2) := by decide +kernel
theorem dL_badges_311 : decode cL_badges 311 = .ok (.iload 7, 2) := by decide +kernel
theorem dL_badges_313 : decode cL_badges 313 = .ok (.iload 6, 2) := by decide +kernel
theorem dL_badges_315 : decode cL_badges 315 = .ok (.iconst 0, 1) := by decide +kernel
theorem dL_badges_316 : decode cL_badges 316 = .ok (.iconst 0, 1) := by decide +kernel
theorem dL_badges_317 : decode cL_badges 317 = .ok (.invokestatic 131, 3) := by decide +kernel
theorem dL_badges_320 : decode cL_badges 320 = .ok (.istore 10, 2) := by decide +kernel
theorem dL_badges_322 : decode cL_badges 322 = .ok (.iload 9, 2) := by decide +kernel
theorem dL_badges_324 : decode cL_badges 324 = .ok (.ldc 23, 2) := by decide +kernel
theorem dL_badges_326 : decode cL_badges 326 = .ok (.if_icmp .ne 40, 3) := by decide +kernel
theorem dL_badges_329 : decode cL_badges 329 = .ok (.aload_n 2, 1) := by decide +kernel
theorem dL_badges_330 : decode cL_badges 330 = .ok (.iconst 4, 1) := by decide +kernel
theorem dL_badges_331 : decode cL_badges 331 = .ok (.iload 6, 2) := by decide +kernel
theorem dL_badges_333 : decode cL_badges 333 = .ok (.iadd, 1) := by decide +kernel
theorem dL_badges_334 : decode cL_badges 334 = .ok (.iaload, 1) := by decide +kernel
theorem dL_badges_335 : decode cL_badges 335 = .ok (.ifCond .ne 7, 3) := by decide +kernel
theorem dL_badges_338 : decode cL_badges 338 = .ok (.iconst 1, 1) := by decide +kernel
theorem dL_badges_339 : decode cL_badges 339 = .ok (.goto 4, 3) := by decide +kernel
theorem dL_badges_342 : decode cL_badges 342 = .ok (.iconst 0, 1) := by decide +kernel
theorem dL_badges_343 : decode cL_badges 343 = .ok (.iload 10, 2) := by decide +kernel
theorem dL_badges_345 : decode cL_badges 345 = .ok (.ldc 23, 2) := by decide +kernel
theorem dL_badges_347 : decode cL_badges 347 = .ok (.if_icmp .ne 7, 3) := by decide +kernel
theorem dL_badges_350 : decode cL_badges 350 = .ok (.iconst 1, 1) := by decide +kernel
theorem dL_badges_351 : decode cL_badges 351 = .ok (.goto 4, 3) := by decide +kernel
theorem dL_badges_354 : decode cL_badges 354 = .ok (.iconst 0, 1) := by decide +kernel
theorem dL_badges_355 : decode cL_badges 355 = .ok (.if_icmp .ne 7, 3) := by decide +kernel
theorem dL_badges_358 : decode cL_badges 358 = .ok (.iconst 1, 1) := by decide +kernel
theorem dL_badges_359 : decode cL_badges 359 = .ok (.goto 69, 3) := by decide +kernel
theorem dL_badges_362 : decode cL_badges 362 = .ok (.iconst 0, 1) := by decide +kernel
theorem dL_badges_363 : decode cL_badges 363 = .ok (.goto 65, 3) := by decide +kernel
theorem dL_badges_366 : decode cL_badges 366 = .ok (.iload 9, 2) := by decide +kernel
theorem dL_badges_368 : decode cL_badges 368 = .ok (.aload_n 2, 1) := by decide +kernel
theorem dL_badges_369 : decode cL_badges 369 = .ok (.iconst 4, 1) := by decide +kernel
theorem dL_badges_370 : decode cL_badges 370 = .ok (.iload 6, 2) := by decide +kernel
theorem dL_badges_372 : decode cL_badges 372 = .ok (.iadd, 1) := by decide +kernel
theorem dL_badges_373 : decode cL_badges 373 = .ok (.iaload, 1) := by decide +kernel
theorem dL_badges_374 : decode cL_badges 374 = .ok (.iconst 1, 1) := by decide +kernel
theorem dL_badges_375 : decode cL_badges 375 = .ok (.isub, 1) := by decide +kernel
theorem dL_badges_376 : decode cL_badges 376 = .ok (.if_icmp .ne 51, 3) := by decide +kernel
theorem dL_badges_379 : decode cL_badges 379 = .ok (.iload 10, 2) := by decide +kernel
theorem dL_badges_381 : decode cL_badges 381 = .ok (.ifCond .lt 46, 3) := by decide +kernel
theorem dL_badges_384 : decode cL_badges 384 = .ok (.aload_n 0, 1) := by decide +kernel
theorem dL_badges_385 : decode cL_badges 385 = .ok (.iload 7, 2) := by decide +kernel
theorem dL_badges_387 : decode cL_badges 387 = .ok (.iload 6, 2) := by decide +kernel
theorem dL_badges_389 : decode cL_badges 389 = .ok (.invokevirtual 100, 3) := by decide +kernel
theorem dL_badges_392 : decode cL_badges 392 = .ok (.iconst (-1), 1) := by decide +kernel
theorem dL_badges_393 : decode cL_badges 393 = .ok (.if_icmp .eq 18, 3) := by decide +kernel
theorem dL_badges_396 : decode cL_badges 396 = .ok (.aload_n 0, 1) := by decide +kernel
theorem dL_badges_397 : decode cL_badges 397 = .ok (.iload 7, 2) := by decide +kernel
theorem dL_badges_399 : decode cL_badges 399 = .ok (.iload 6, 2) := by decide +kernel
theorem dL_badges_401 : decode cL_badges 401 = .ok (.invokevirtual 100, 3) := by decide +kernel
theorem dL_badges_404 : decode cL_badges 404 = .ok (.aload_n 0, 1) := by decide +kernel
theorem dL_badges_405 : decode cL_badges 405 = .ok (.invokevirtual 120, 3) := by decide +kernel
theorem dL_badges_408 : decode cL_badges 408 = .ok (.if_icmp .ne 19, 3) := by decide +kernel
theorem dL_badges_411 : decode cL_badges 411 = .ok (.aload_n 0, 1) := by decide +kernel
theorem dL_badges_412 : decode cL_badges 412 = .ok (.iload 7, 2) := by decide +kernel
theorem dL_badges_414 : decode cL_badges 414 = .ok (.iconst 4, 1) := by decide +kernel
theorem dL_badges_415 : decode cL_badges 415 = .ok (.invokevirtual 93, 3) := by decide +kernel
theorem dL_badges_418 : decode cL_badges 418 = .ok (.iload 8, 2) := by decide +kernel
theorem dL_badges_420 : decode cL_badges 420 = .ok (.if_icmp .lt 7, 3) := by decide +kernel
theorem dL_badges_423 : decode cL_badges 423 = .ok (.iconst 1, 1) := by decide +kernel
theorem dL_badges_424 : decode cL_badges 424 = .ok (.goto 4, 3) := by decide +kernel
theorem dL_badges_427 : decode cL_badges 427 = .ok (.iconst 0, 1) := by decide +kernel
theorem dL_badges_428 : decode cL_badges 428 = .ok (.ireturn, 1) := by decide +kernel
theorem dL_badges_429 : decode cL_badges 429 = .ok (.iload 4, 2) := by decide +kernel
theorem dL_badges_431 : decode cL_badges 431 = .ok (.bipush 6, 2) := by decide +kernel
theorem dL_badges_433 : decode cL_badges 433 = .ok (.ishr, 1) := by decide +kernel
theorem dL_badges_434 : decode cL_badges 434 = .ok (.bipush 12, 2) := by decide +kernel
theorem dL_badges_436 : decode cL_badges 436 = .ok (.invokestatic 135, 3) := by decide +kernel
theorem dL_badges_439 : decode cL_badges 439 = .ok (.istore 9, 2) := by decide +kernel
theorem dL_badges_441 : decode cL_badges 441 = .ok (.aload_n 0, 1) := by decide +kernel
theorem dL_badges_442 : decode cL_badges 442 = .ok (.aload_n 1, 1) := by decide +kernel
theorem dL_badges_443 : decode cL_badges 443 = .ok (.bipush 13, 2) := by decide +kernel
theorem dL_badges_445 : decode cL_badges 445 = .ok (.iload 7, 2) := by decide +kernel
theorem dL_badges_447 : decode cL_badges 447 = .ok (.iload 9, 2) := by decide +kernel
theorem dL_badges_449 : decode cL_badges 449 = .ok (.iload_n 3, 1) := by decide +kernel
theorem dL_badges_450 : decode cL_badges 450 = .ok (.iconst 4, 1) := by decide +kernel
theorem dL_badges_451 : decode cL_badges 451 = .ok (.ishr, 1) := by decide +kernel
theorem dL_badges_452 : decode cL_badges 452 = .ok (.aload_n 2, 1) := by decide +kernel
theorem dL_badges_453 : decode cL_badges 453 = .ok (.iconst 2, 1) := by decide +kernel
theorem dL_badges_454 : decode cL_badges 454 = .ok (.iaload, 1) := by decide +kernel
theorem dL_badges_455 : decode cL_badges 455 = .ok (.invokestatic 135, 3) := by decide +kernel
theorem dL_badges_458 : decode cL_badges 458 = .ok (.iconst 0, 1) := by decide +kernel
theorem dL_badges_459 : decode cL_badges 459 = .ok (.invokestatic 138, 3) := by decide +kernel
theorem dL_badges_462 : decode cL_badges 462 = .ok (.istore 10, 2) := by decide +kernel
theorem dL_badges_464 : decode cL_badges 464 = .ok (.iload 10, 2) := by decide +kernel
theorem dL_badges_466 : decode cL_badges 466 = .ok (.ldc 23, 2) := by decide +kernel
theorem dL_badges_468 : decode cL_badges 468 = .ok (.if_icmp .ne 23, 3) := by decide +kernel
theorem dL_badges_471 : decode cL_badges 471 = .ok (.aload_n 0, 1) := by decide +kernel
theorem dL_badges_472 : decode cL_badges 472 = .ok (.iload 7, 2) := by decide +kernel
theorem dL_badges_474 : decode cL_badges 474 = .ok (.iconst 4, 1) := by decide +kernel
theorem dL_badges_475 : decode cL_badges 475 = .ok (.invokevirtual 93, 3) := by decide +kernel
theorem dL_badges_478 : decode cL_badges 478 = .ok (.iload 8, 2) := by decide +kernel
theorem dL_badges_480 : decode cL_badges 480 = .ok (.if_icmp .ne 7, 3) := by decide +kernel
theorem dL_badges_483 : decode cL_badges 483 = .ok (.iconst 1, 1) := by decide +kernel
theorem dL_badges_484 : decode cL_badges 484 = .ok (.goto 56, 3) := by decide +kernel
theorem dL_badges_487 : decode cL_badges 487 = .ok (.iconst 0, 1) := by decide +kernel
theorem dL_badges_488 : decode cL_badges 488 = .ok (.goto 52, 3) := by decide +kernel
theorem dL_badges_491 : decode cL_badges 491 = .ok (.iload 10, 2) := by decide +kernel
theorem dL_badges_493 : decode cL_badges 493 = .ok (.iload 8, 2) := by decide +kernel
theorem dL_badges_495 : decode cL_badges 495 = .ok (.if_icmp .lt 44, 3) := by decide +kernel
theorem dL_badges_498 : decode cL_badges 498 = .ok (.iload 10, 2) := by decide +kernel
theorem dL_badges_500 : decode cL_badges 500 = .ok (.aload_n 0, 1) := by decide +kernel
theorem dL_badges_501 : decode cL_badges 501 = .ok (.iload 7, 2) := by decide +kernel
theorem dL_badges_503 : decode cL_badges 503 = .ok (.iconst 4, 1) := by decide +kernel
theorem dL_badges_504 : decode cL_badges 504 = .ok (.invokevirtual 93, 3) := by decide +kernel
theorem dL_badges_507 : decode cL_badges 507 = .ok (.if_icmp .ne 32, 3) := by decide +kernel
theorem dL_badges_510 : decode cL_badges 510 = .ok (.aload_n 0, 1) := by decide +kernel
theorem dL_badges_511 : decode cL_badges 511 = .ok (.bipush 13, 2) := by decide +kernel
theorem dL_badges_513 : decode cL_badges 513 = .ok (.iload 7, 2) := by decide +kernel
theorem dL_badges_515 : decode cL_badges 515 = .ok (.iload 9, 2) := by decide +kernel
theorem dL_badges_517 : decode cL_badges 517 = .ok (.iload_n 3, 1) := by decide +kernel
theorem dL_badges_518 : decode cL_badges 518 = .ok (.iconst 4, 1) := by decide +kernel
theorem dL_badges_519 : decode cL_badges 519 = .ok (.ishr, 1) := by decide +kernel
theorem dL_badges_520 : decode cL_badges 520 = .ok (.aload_n 2, 1) := by decide +kernel
theorem dL_badges_521 : decode cL_badges 521 = .ok (.iconst 2, 1) := by decide +kernel
theorem dL_badges_522 : decode cL_badges 522 = .ok (.iaload, 1) := by decide +kernel
theorem dL_badges_523 : decode cL_badges 523 = .ok (.invokestatic 135, 3) := by decide +kernel
theorem dL_badges_526 : decode cL_badges 526 = .ok (.iconst 0, 1) := by decide +kernel
theorem dL_badges_527 : decode cL_badges 527 = .ok (.invokestatic 131, 3) := by decide +kernel
theorem dL_badges_530 : decode cL_badges 530 = .ok (.ldc 23, 2) := by decide +kernel
theorem dL_badges_532 : decode cL_badges 532 = .ok (.if_icmp .ne 7, 3) := by decide +kernel
theorem dL_badges_535 : decode cL_badges 535 = .ok (.iconst 1, 1) := by decide +kernel
theorem dL_badges_536 : decode cL_badges 536 = .ok (.goto 4, 3) := by decide +kernel
theorem dL_badges_539 : decode cL_badges 539 = .ok (.iconst 0, 1) := by decide +kernel
theorem dL_badges_540 : decode cL_badges 540 = .ok (.istore 11, 2) := by decide +kernel
theorem dL_badges_542 : decode cL_badges 542 = .ok (.iconst 0, 1) := by decide +kernel
theorem dL_badges_543 : decode cL_badges 543 = .ok (.istore 12, 2) := by decide +kernel
theorem dL_badges_545 : decode cL_badges 545 = .ok (.iload 12, 2) := by decide +kernel
theorem dL_badges_547 : decode cL_badges 547 = .ok (.bipush 8, 2) := by decide +kernel
theorem dL_badges_549 : decode cL_badges 549 = .ok (.if_icmp .ge 96, 3) := by decide +kernel
theorem dL_badges_552 : decode cL_badges 552 = .ok (.iload 11, 2) := by decide +kernel
theorem dL_badges_554 : decode cL_badges 554 = .ok (.ifCond .eq 91, 3) := by decide +kernel
theorem dL_badges_557 : decode cL_badges 557 = .ok (.iload 10, 2) := by decide +kernel
theorem dL_badges_559 : decode cL_badges 559 = .ok (.ifCond .lt 86, 3) := by decide +kernel
theorem dL_badges_562 : decode cL_badges 562 = .ok (.aload_n 0, 1) := by decide +kernel
theorem dL_badges_563 : decode cL_badges 563 = .ok (.bipush 24, 2) := by decide +kernel
theorem dL_badges_565 : decode cL_badges 565 = .ok (.iload 7, 2) := by decide +kernel
theorem dL_badges_567 : decode cL_badges 567 = .ok (.iload 12, 2) := by decide +kernel
theorem dL_badges_569 : decode cL_badges 569 = .ok (.iconst 0, 1) := by decide +kernel
theorem dL_badges_570 : decode cL_badges 570 = .ok (.iconst 0, 1) := by decide +kernel
theorem dL_badges_571 : decode cL_badges 571 = .ok (.invokestatic 131, 3) := by decide +kernel
theorem dL_badges_574 : decode cL_badges 574 = .ok (.istore 13, 2) := by decide +kernel
theorem dL_badges_576 : decode cL_badges 576 = .ok (.iload 13, 2) := by decide +kernel
theorem dL_badges_578 : decode cL_badges 578 = .ok (.ldc 23, 2) := by decide +kernel
theorem dL_badges_580 : decode cL_badges 580 = .ok (.if_icmp .eq 13, 3) := by decide +kernel
theorem dL_badges_583 : decode cL_badges 583 = .ok (.iload 13, 2) := by decide +kernel
theorem dL_badges_585 : decode cL_badges 585 = .ok (.iload 9, 2) := by decide +kernel
theorem dL_badges_587 : decode cL_badges 587 = .ok (.ishr, 1) := by decide +kernel
theorem dL_badges_588 : decode cL_badges 588 = .ok (.iconst 1, 1) := by decide +kernel
theorem dL_badges_589 : decode cL_badges 589 = .ok (.iand, 1) := by decide +kernel
theorem dL_badges_590 : decode cL_badges 590 = .ok (.ifCond .ne 46, 3) := by decide +kernel
theorem dL_badges_593 : decode cL_badges 593 = .ok (.aload_n 0, 1) := by decide +kernel
theorem dL_badges_594 : decode cL_badges 594 = .ok (.iload 7, 2) := by decide +kernel
theorem dL_badges_596 : decode cL_badges 596 = .ok (.iload 12, 2) := by decide +kernel
theorem dL_badges_598 : decode cL_badges 598 = .ok (.invokevirtual 100, 3) := by decide +kernel
theorem dL_badges_601 : decode cL_badges 601 = .ok (.iconst (-1), 1) := by decide +kernel
theorem dL_badges_602 : decode cL_badges 602 = .ok (.if_icmp .eq 8, 3) := by decide +kernel
theorem dL_badges_605 : decode cL_badges 605 = .ok (.iload 13, 2) := by decide +kernel
theorem dL_badges_607 : decode cL_badges 607 = .ok (.ifCond .ne 29, 3) := by decide +kernel
theorem dL_badges_610 : decode cL_badges 610 = .ok (.aload_n 0, 1) := by decide +kernel
theorem dL_badges_611 : decode cL_badges 611 = .ok (.iload 7, 2) := by decide +kernel
theorem dL_badges_613 : decode cL_badges 613 = .ok (.iload 12, 2) := by decide +kernel
theorem dL_badges_615 : decode cL_badges 615 = .ok (.invokevirtual 103, 3) := by decide +kernel
theorem dL_badges_618 : decode cL_badges 618 = .ok (.ifCond .eq 14, 3) := by decide +kernel
theorem dL_badges_621 : decode cL_badges 621 = .ok (.aload_n 0, 1) := by decide +kernel
theorem dL_badges_622 : decode cL_badges 622 = .ok (.iload 7, 2) := by decide +kernel
theorem dL_badges_624 : decode cL_badges 624 = .ok (.iload 12, 2) := by decide +kernel
theorem dL_badges_626 : decode cL_badges 626 = .ok (.invokevirtual 100, 3) := by decide +kernel
theorem dL_badges_629 : decode cL_badges 629 = .ok (.ifCond .lt 7, 3) := by decide +kernel
theorem dL_badges_632 : decode cL_badges 632 = .ok (.iconst 1, 1) := by decide +kernel
theorem dL_badges_633 : decode cL_badges 633 = .ok (.goto 4, 3) := by decide +kernel
theorem dL_badges_636 : decode cL_badges 636 = .ok (.iconst 0, 1) := by decide +kernel
theorem dL_badges_637 : decode cL_badges 637 = .ok (.istore 11, 2) := by decide +kernel
theorem dL_badges_639 : decode cL_badges 639 = .ok (.iinc 12 1, 3) := by decide +kernel
theorem dL_badges_642 : decode cL_badges 642 = .ok (.goto (-97), 3) := by decide +kernel
theorem dL_badges_645 : decode cL_badges 645 = .ok (.iload 11, 2) := by decide +kernel
theorem dL_badges_647 : decode cL_badges 647 = .ok (.ireturn, 1) := by decide +kernel
theorem dL_leaders_0 : decode cL_leaders 0 = .ok (.iload_n 3, 1) := by decide +kernel
theorem dL_leaders_1 : decode cL_leaders 1 = .ok (.bipush 10, 2) := by decide +kernel
theorem dL_leaders_3 : decode cL_leaders 3 = .ok (.invokestatic 135, 3) := by decide +kernel
theorem dL_leaders_6 : decode cL_leaders 6 = .ok (.istore 5, 2) := by decide +kernel
theorem dL_leaders_8 : decode cL_leaders 8 = .ok (.iload 5, 2) := by decide +kernel
theorem dL_leaders_10 : decode cL_leaders 10 = .ok (.iconst 2, 1) := by decide +kernel
theorem dL_leaders_11 : decode cL_leaders 11 = .ok (.if_icmp .lt 9, 3) := by decide +kernel
theorem dL_leaders_14 : decode cL_leaders 14 = .ok (.aload_n 2, 1) := by decide +kernel
theorem dL_leaders_15 : decode cL_leaders 15 = .ok (.iconst 2, 1) := by decide +kernel
theorem dL_leaders_16 : decode cL_leaders 16 = .ok (.iaload, 1) := by decide +kernel
theorem dL_leaders_17 : decode cL_leaders 17 = .ok (.ifCond .ne 71, 3) := by decide +kernel
theorem dL_leaders_20 : decode cL_leaders 20 = .ok (.aload_n 0, 1) := by decide +kernel
theorem dL_leaders_21 : decode cL_leaders 21 = .ok (.aload_n 1, 1) := by decide +kernel
theorem dL_leaders_22 : decode cL_leaders 22 = .ok (.bipush 8, 2) := by decide +kernel
theorem dL_leaders_24 : decode cL_leaders 24 = .ok (.iconst 0, 1) := by decide +kernel
theorem dL_leaders_25 : decode cL_leaders 25 = .ok (.iconst 0, 1) := by decide +kernel
theorem dL_leaders_26 : decode cL_leaders 26 = .ok (.iconst 0, 1) := by decide +kernel
theorem dL_leaders_27 : decode cL_leaders 27 = .ok (.iconst 0, 1) := by decide +kernel
theorem dL_leaders_28 : decode cL_leaders 28 = .ok (.invokestatic 138, 3) := by decide +kernel
theorem dL_leaders_31 : decode cL_leaders 31 = .ok (.istore 6, 2) := by decide +kernel
theorem dL_leaders_33 : decode cL_leaders 33 = .ok (.aload_n 2, 1) := by decide +kernel
theorem dL_leaders_34 : decode cL_leaders 34 = .ok (.iconst 2, 1) := by decide +kernel
theorem dL_leaders_35 : decode cL_leaders 35 = .ok (.dup2, 1) := by decide +kernel
theorem dL_leaders_36 : decode cL_leaders 36 = .ok (.iaload, 1) := by decide +kernel
theorem dL_leaders_37 : decode cL_leaders 37 = .ok (.iload 6, 2) := by decide +kernel
theorem dL_leaders_39 : decode cL_leaders 39 = .ok (.ifCond .lt 7, 3) := by decide +kernel
theorem dL_leaders_42 : decode cL_leaders 42 = .ok (.iconst 1, 1) := by decide +kernel
theorem dL_leaders_43 : decode cL_leaders 43 = .ok (.goto 4, 3) := by decide +kernel
theorem dL_leaders_46 : decode cL_leaders 46 = .ok (.iconst 0, 1) := by decide +kernel
theorem dL_leaders_47 : decode cL_leaders 47 = .ok (.iadd, 1) := by decide +kernel
theorem dL_leaders_48 : decode cL_leaders 48 = .ok (.iastore, 1) := by decide +kernel
theorem dL_leaders_49 : decode cL_leaders 49 = .ok (.iload 6, 2) := by decide +kernel
theorem dL_leaders_51 : decode cL_leaders 51 = .ok (.ldc 23, 2) := by decide +kernel
theorem dL_leaders_53 : decode cL_leaders 53 = .ok (.if_icmp .ne 19, 3) := by decide +kernel
theorem dL_leaders_56 : decode cL_leaders 56 = .ok (.aload_n 2, 1) := by decide +kernel
theorem dL_leaders_57 : decode cL_leaders 57 = .ok (.iconst 2, 1) := by decide +kernel
theorem dL_leaders_58 : decode cL_leaders 58 = .ok (.iaload, 1) := by decide +kernel
theorem dL_leaders_59 : decode cL_leaders 59 = .ok (.bipush 8, 2) := by decide +kernel
theorem dL_leaders_61 : decode cL_leaders 61 = .ok (.if_icmp .ne 7, 3) := by decide +kernel
theorem dL_leaders_64 : decode cL_leaders 64 = .ok (.iconst 1, 1) := by decide +kernel
theorem dL_leaders_65 : decode cL_leaders 65 = .ok (.goto 22, 3) := by decide +kernel
theorem dL_leaders_68 : decode cL_leaders 68 = .ok (.iconst 0, 1) := by decide +kernel
theorem dL_leaders_69 : decode cL_leaders 69 = .ok (.goto 18, 3) := by decide +kernel
theorem dL_leaders_72 : decode cL_leaders 72 = .ok (.iload 6, 2) := by decide +kernel
theorem dL_leaders_74 : decode cL_leaders 74 = .ok (.aload_n 2, 1) := by decide +kernel
theorem dL_leaders_75 : decode cL_leaders 75 = .ok (.iconst 2, 1) := by decide +kernel
theorem dL_leaders_76 : decode cL_leaders 76 = .ok (.iaload, 1) := by decide +kernel
theorem dL_leaders_77 : decode cL_leaders 77 = .ok (.iconst 1, 1) := by decide +kernel
theorem dL_leaders_78 : decode cL_leaders 78 = .ok (.isub, 1) := by decide +kernel
theorem dL_leaders_79 : decode cL_leaders 79 = .ok (.if_icmp .ne 7, 3) := by decide +kernel
theorem dL_leaders_82 : decode cL_leaders 82 = .ok (.iconst 1, 1) := by decide +kernel
theorem dL_leaders_83 : decode cL_leaders 83 = .ok (.goto 4, 3) := by decide +kernel
theorem dL_leaders_86 : decode cL_leaders 86 = .ok (.iconst 0, 1) := by decide +kernel
theorem dL_leaders_87 : decode cL_leaders 87 = .ok (.ireturn, 1) := by decide +kernel
theorem dL_leaders_88 : decode cL_leaders 88 = .ok (.iload 4, 2) := by decide +kernel
theorem dL_leaders_90 : decode cL_leaders 90 = .ok (.aload_n 2, 1) := by decide +kernel
theorem dL_leaders_91 : decode cL_leaders 91 = .ok (.iconst 2, 1) := by decide +kernel
theorem dL_leaders_92 : decode cL_leaders 92 = .ok (.iaload, 1) := by decide +kernel
theorem dL_leaders_93 : decode cL_leaders 93 = .ok (.invokestatic 135, 3) := by decide +kernel
theorem dL_leaders_96 : decode cL_leaders 96 = .ok (.istore 6, 2) := by decide +kernel
theorem dL_leaders_98 : decode cL_leaders 98 = .ok (.iload 5, 2) := by decide +kernel
theorem dL_leaders_100 : decode cL_leaders 100 = .ok (.bipush 6, 2) := by decide +kernel
theorem dL_leaders_102 : decode cL_leaders 102 = .ok (.if_icmp .ge 57, 3) := by decide +kernel
theorem dL_leaders_105 : decode cL_leaders 105 = .ok (.iload 4, 2) := by decide +kernel
theorem dL_leaders_107 : decode cL_leaders 107 = .ok (.iconst 3, 1) := by decide +kernel
theorem dL_leaders_108 : decode cL_leaders 108 = .ok (.ishr, 1) := by decide +kernel
theorem dL_leaders_109 : decode cL_leaders 109 = .ok (.bipush 20, 2) := by decide +kernel
theorem dL_leaders_111 : decode cL_leaders 111 = .ok (.invokestatic 135, 3) := by decide +kernel
theorem dL_leaders_114 : decode cL_leaders 114 = .ok (.istore 7, 2) := by decide +kernel
theorem dL_leaders_116 : decode cL_leaders 116 = .ok (.aload_n 0, 1) := by decide +kernel
theorem dL_leaders_117 : decode cL_leaders 117 = .ok (.aload_n 1, 1) := by decide +kernel
theorem dL_leaders_118 : decode cL_leaders 118 = .ok (.bipush 9, 2) := by decide +kernel
theorem dL_leaders_120 : decode cL_leaders 120 = .ok (.iload 6, 2) := by decide +kernel
theorem dL_leaders_122 : decode cL_leaders 122 = .ok (.iload 4, 2) := by decide +kernel
theorem dL_leaders_124 : decode cL_leaders 124 = .ok (.bipush 6, 2) := by decide +kernel
theorem dL_leaders_126 : decode cL_leaders 126 = .ok (.ishr, 1) := by decide +kernel
theorem dL_leaders_127 : decode cL_leaders 127 = .ok (.iconst 3, 1) := by decide +kernel
theorem dL_leaders_128 : decode cL_leaders 128 = .ok (.invokestatic 135, 3) := by decide +kernel
theorem dL_leaders_131 : decode cL_leaders 131 = .ok (.iload 7, 2) := by decide +kernel
theorem dL_leaders_133 : decode cL_leaders 133 = .ok (.iload 7, 2) := by decide +kernel
theorem dL_leaders_135 : decode cL_leaders 135 = .ok (.iload 4, 2) := by decide +kernel
theorem dL_leaders_137 : decode cL_leaders 137 = .ok (.bipush 8, 2) := by decide +kernel
theorem dL_leaders_139 : decode cL_leaders 139 = .ok (.ishr, 1) := by decide +kernel
theorem dL_leaders_140 : decode cL_leaders 140 = .ok (.sipush 400, 3) := by decide +kernel
theorem dL_leaders_143 : decode cL_leaders 143 = .ok (.invokestatic 135, 3) := by decide +kernel
theorem dL_leaders_146 : decode cL_leaders 146 = .ok (.iadd, 1) := by decide +kernel
theorem dL_leaders_147 : decode cL_leaders 147 = .ok (.invokestatic 138, 3) := by decide +kernel
theorem dL_leaders_150 : decode cL_leaders 150 = .ok (.ifCond .ne 7, 3) := by decide +kernel
theorem dL_leaders_153 : decode cL_leaders 153 = .ok (.iconst 1, 1) := by decide +kernel
theorem dL_leaders_154 : decode cL_leaders 154 = .ok (.goto 4, 3) := by decide +kernel
theorem dL_leaders_157 : decode cL_leaders 157 = .ok (.iconst 0, 1) := by decide +kernel
theorem dL_leaders_158 : decode cL_leaders 158 = .ok (.ireturn, 1) := by decide +kernel
theorem dL_leaders_159 : decode cL_leaders 159 = .ok (.iload 5, 2) := by decide +kernel
theorem dL_leaders_161 : decode cL_leaders 161 = .ok (.bipush 8, 2) := by decide +kernel
theorem dL_leaders_163 : decode cL_leaders 163 = .ok (.if_icmp .ge 76, 3) := by decide +kernel
theorem dL_leaders_166 : decode cL_leaders 166 = .ok (.iconst 1, 1) := by decide +kernel
theorem dL_leaders_167 : decode cL_leaders 167 = .ok (.iload 4, 2) := by decide +kernel
theorem dL_leaders_169 : decode cL_leaders 169 = .ok (.iconst 3, 1) := by decide +kernel
theorem dL_leaders_170 : decode cL_leaders 170 = .ok (.ishr, 1) := by decide +kernel
theorem dL_leaders_171 : decode cL_leaders 171 = .ok (.iconst 3, 1) := by decide +kernel
theorem dL_leaders_172 : decode cL_leaders 172 = .ok (.invokestatic 135, 3) := by decide +kernel
theorem dL_leaders_175 : decode cL_leaders 175 = .ok (.iadd, 1) := by decide +kernel
theorem dL_leaders_176 : decode cL_leaders 176 = .ok (.istore 7, 2) := by decide +kernel
theorem dL_leaders_178 : decode cL_leaders 178 = .ok (.iload 4, 2) := by decide +kernel
theorem dL_leaders_180 : decode cL_leaders 180 = .ok (.iconst 5, 1) := by decide +kernel
theorem dL_leaders_181 : decode cL_leaders 181 = .ok (.ishr, 1) := by decide +kernel
theorem dL_leaders_182 : decode cL_leaders 182 = .ok (.sipush 400, 3) := by decide +kernel
theorem dL_leaders_185 : decode cL_leaders 185 = .ok (.invokestatic 135, 3) := by decide +kernel
theorem dL_leaders_188 : decode cL_leaders 188 = .ok (.iconst 1, 1) := by decide +kernel
theorem dL_leaders_189 : decode cL_leaders 189 = .ok (.isub, 1) := by decide +kernel
theorem dL_leaders_190 : decode cL_leaders 190 = .ok (.istore 8, 2) := by decide +kernel
theorem dL_leaders_192 : decode cL_leaders 192 = .ok (.aload_n 0, 1) := by decide +kernel
theorem dL_leaders_193 : decode cL_leaders 193 = .ok (.aload_n 1, 1) := by decide +kernel
theorem dL_leaders_194 : decode cL_leaders 194 = .ok (.bipush 10, 2) := by decide +kernel
theorem dL_leaders_196 : decode cL_leaders 196 = .ok (.iload 6, 2) := by decide +kernel
theorem dL_leaders_198 : decode cL_leaders 198 = .ok (.iload 7, 2) := by decide +kernel
theorem dL_leaders_200 : decode cL_leaders 200 = .ok (.iload 8, 2) := by decide +kernel
theorem dL_leaders_202 : decode cL_leaders 202 = .ok (.iconst 0, 1) := by decide +kernel
theorem dL_leaders_203 : decode cL_leaders 203 = .ok (.invokestatic 138, 3) := by decide +kernel
theorem dL_leaders_206 : decode cL_leaders 206 = .ok (.istore 9, 2) := by decide +kernel
theorem dL_leaders_208 : decode cL_leaders 208 = .ok (.iload 9, 2) := by decide +kernel
theorem dL_leaders_210 : decode cL_leaders 210 = .ok (.iconst (-1), 1) := by decide +kernel
theorem dL_leaders_211 : decode cL_leaders 211 = .ok (.if_icmp .lt 26, 3) := by decide +kernel
theorem dL_leaders_214 : decode cL_leaders 214 = .ok (.aload_n 0, 1) := by decide +kernel
theorem dL_leaders_215 : decode cL_leaders 215 = .ok (.aload_n 1, 1) := by decide +kernel
theorem dL_leaders_216 : decode cL_leaders 216 = .ok (.bipush 10, 2) := by decide +kernel
theorem dL_leaders_218 : decode cL_leaders 218 = .ok (.iload 6, 2) := by decide +kernel
theorem dL_leaders_220 : decode cL_leaders 220 = .ok (.iload 7, 2) := by decide +kernel
theorem dL_leaders_222 : decode cL_leaders 222 = .ok (.iload 8, 2) := by decide +kernel
theorem dL_leaders_224 : decode cL_leaders 224 = .ok (.iconst 0, 1) := by decide +kernel
theorem dL_leaders_225 : decode cL_leaders 225 = .ok (.invokestatic 138, 3) := by decide +kernel
theorem dL_leaders_228 : decode cL_leaders 228 = .ok (.iload 8, 2) := by decide +kernel
theorem dL_leaders_230 : decode cL_leaders 230 = .ok (.if_icmp .ne 7, 3) := by decide +kernel
theorem dL_leaders_233 : decode cL_leaders 233 = .ok (.iconst 1, 1) := by decide +kernel
theorem dL_leaders_234 : decode cL_leaders 234 = .ok (.goto 4, 3) := by decide +kernel
theorem dL_leaders_237 : decode cL_leaders 237 = .ok (.iconst 0, 1) := by decide +kernel
theorem dL_leaders_238 : decode cL_leaders 238 = .ok (.ireturn, 1) := by decide +kernel
theorem dL_leaders_239 : decode cL_leaders 239 = .ok (.iload 4, 2) := by decide +kernel
theorem dL_leaders_241 : decode cL_leaders 241 = .ok (.iconst 3, 1) := by decide +kernel
theorem dL_leaders_242 : decode cL_leaders 242 = .ok (.ishr, 1) := by decide +kernel
theorem dL_leaders_243 : decode cL_leaders 243 = .ok (.ldc 145, 2) := by decide +kernel
theorem dL_leaders_245 : decode cL_leaders 245 = .ok (.invokestatic 135, 3) := by decide +kernel
theorem dL_leaders_248 : decode cL_leaders 248 = .ok (.istore 7, 2) := by decide +kernel
theorem dL_leaders_250 : decode cL_leaders 250 = .ok (.aload_n 0, 1) := by decide +kernel
theorem dL_leaders_251 : decode cL_leaders 251 = .ok (.aload_n 1, 1) := by decide +kernel
theorem dL_leaders_252 : decode cL_leaders 252 = .ok (.bipush 11, 2) := by decide +kernel
theorem dL_leaders_254 : decode cL_leaders 254 = .ok (.iload 6, 2) := by decide +kernel
theorem dL_leaders_256 : decode cL_leaders 256 = .ok (.iload 7, 2) := by decide +kernel
theorem dL_leaders_258 : decode cL_leaders 258 = .ok (.iconst 0, 1) := by decide +kernel
theorem dL_leaders_259 : decode cL_leaders 259 = .ok (.iconst 0, 1) := by decide +kernel
theorem dL_leaders_260 : decode cL_leaders 260 = .ok (.invokestatic 138, 3) := by decide +kernel
theorem dL_leaders_263 : decode cL_leaders 263 = .ok (.ifCond .lt 25, 3) := by decide +kernel
theorem dL_leaders_266 : decode cL_leaders 266 = .ok (.aload_n 0, 1) := by decide +kernel
theorem dL_leaders_267 : decode cL_leaders 267 = .ok (.aload_n 1, 1) := by decide +kernel
theorem dL_leaders_268 : decode cL_leaders 268 = .ok (.bipush 11, 2) := by decide +kernel
theorem dL_leaders_270 : decode cL_leaders 270 = .ok (.iload 6, 2) := by decide +kernel
theorem dL_leaders_272 : decode cL_leaders 272 = .ok (.iload 7, 2) := by decide +kernel
theorem dL_leaders_274 : decode cL_leaders 274 = .ok (.iconst 0, 1) := by decide +kernel
theorem dL_leaders_275 : decode cL_leaders 275 = .ok (.iconst 0, 1) := by decide +kernel
theorem dL_leaders_276 : decode cL_leaders 276 = .ok (.invokestatic 138, 3) := by decide +kernel
theorem dL_leaders_279 : decode cL_leaders 279 = .ok (.iload 7, 2) := by decide +kernel
theorem dL_leaders_281 : decode cL_leaders 281 = .ok (.if_icmp .ne 7, 3) := by decide +kernel
theorem dL_leaders_284 : decode cL_leaders 284 = .ok (.iconst 1, 1) := by decide +kernel
theorem dL_leaders_285 : decode cL_leaders 285 = .ok (.goto 4, 3) := by decide +kernel
theorem dL_leaders_288 : decode cL_leaders 288 = .ok (.iconst 0, 1) := by decide +kernel
theorem dL_leaders_289 : decode cL_leaders 289 = .ok (.ireturn, 1) := by decide +kernel
theorem dL_events_0 : decode cL_events 0 = .ok (.iload_n 3, 1) := by decide +kernel
theorem dL_events_1 : decode cL_events 1 = .ok (.bipush 9, 2) := by decide +kernel
theorem dL_events_3 : decode cL_events 3 = .ok (.invokestatic 135, 3) := by decide +kernel
theorem dL_events_6 : decode cL_events 6 = .ok (.istore 5, 2) := by decide +kernel
theorem dL_events_8 : decode cL_events 8 = .ok (.iload 5, 2) := by decide +kernel
theorem dL_events_10 : decode cL_events 10 = .ok (.iconst 3, 1) := by decide +kernel
theorem dL_events_11 : decode cL_events 11 = .ok (.if_icmp .lt 9, 3) := by decide +kernel
theorem dL_events_14 : decode cL_events 14 = .ok (.aload_n 2, 1) := by decide +kernel
theorem dL_events_15 : decode cL_events 15 = .ok (.iconst 3, 1) := by decide +kernel
theorem dL_events_16 : decode cL_events 16 = .ok (.iaload, 1) := by decide +kernel
theorem dL_events_17 : decode cL_events 17 = .ok (.ifCond .ne 250, 3) := by decide +kernel
theorem dL_events_20 : decode cL_events 20 = .ok (.iload 4, 2) := by decide +kernel
theorem dL_events_22 : decode cL_events 22 = .ok (.iconst 4, 1) := by decide +kernel
theorem dL_events_23 : decode cL_events 23 = .ok (.ishr, 1) := by decide +kernel
theorem dL_events_24 : decode cL_events 24 = .ok (.bipush 24, 2) := by decide +kernel
theorem dL_events_26 : decode cL_events 26 = .ok (.invokestatic 135, 3) := by decide +kernel
theorem dL_events_29 : decode cL_events 29 = .ok (.istore 6, 2) := by decide +kernel
theorem dL_events_31 : decode cL_events 31 = .ok (.aload_n 0, 1) := by decide +kernel
theorem dL_events_32 : decode cL_events 32 = .ok (.invokevirtual 120, 3) := by decide +kernel
theorem dL_events_35 : decode cL_events 35 = .ok (.iload 4, 2) := by decide +kernel
theorem dL_events_37 : decode cL_events 37 = .ok (.bipush 8, 2) := by decide +kernel
theorem dL_events_39 : decode cL_events 39 = .ok (.ishr, 1) := by decide +kernel
theorem dL_events_40 : decode cL_events 40 = .ok (.iconst 3, 1) := by decide +kernel
theorem dL_events_41 : decode cL_events 41 = .ok (.invokestatic 135, 3) := by decide +kernel
theorem dL_events_44 : decode cL_events 44 = .ok (.iadd, 1) := by decide +kernel
theorem dL_events_45 : decode cL_events 45 = .ok (.istore 7, 2) := by decide +kernel
theorem dL_events_47 : decode cL_events 47 = .ok (.aload_n 0, 1) := by decide +kernel
theorem dL_events_48 : decode cL_events 48 = .ok (.iload 4, 2) := by decide +kernel
theorem dL_events_50 : decode cL_events 50 = .ok (.aload_n 2, 1) := by decide +kernel
theorem dL_events_51 : decode cL_events 51 = .ok (.iconst 1, 1) := by decide +kernel
theorem dL_events_52 : decode cL_events 52 = .ok (.iaload, 1) := by decide +kernel
theorem dL_events_53 : decode cL_events 53 = .ok (.invokestatic 135, 3) := by decide +kernel
theorem dL_events_56 : decode cL_events 56 = .ok (.iload 4, 2) := by decide +kernel
theorem dL_events_58 : decode cL_events 58 = .ok (.iconst 3, 1) := by decide +kernel
theorem dL_events_59 : decode cL_events 59 = .ok (.ishr, 1) := by decide +kernel
theorem dL_events_60 : decode cL_events 60 = .ok (.iconst 3, 1) := by decide +kernel
theorem dL_events_61 : decode cL_events 61 = .ok (.invokestatic 135, 3) := by decide +kernel
theorem dL_events_64 : decode cL_events 64 = .ok (.iload 4, 2) := by decide +kernel
theorem dL_events_66 : decode cL_events 66 = .ok (.bipush 6, 2) := by decide +kernel
theorem dL_events_68 : decode cL_events 68 = .ok (.ishr, 1) := by decide +kernel
theorem dL_events_69 : decode cL_events 69 = .ok (.iconst 4, 1) := by decide +kernel
theorem dL_events_70 : decode cL_events 70 = .ok (.invokestatic 135, 3) := by decide +kernel
theorem dL_events_73 : decode cL_events 73 = .ok (.iload 7, 2) := by decide +kernel
theorem dL_events_75 : decode cL_events 75 = .ok (.iload 6, 2) := by decide +kernel
theorem dL_events_77 : decode cL_events 77 = .ok (.iconst 1, 1) := by decide +kernel
theorem dL_events_78 : decode cL_events 78 = .ok (.iload 4, 2) := by decide +kernel
theorem dL_events_80 : decode cL_events 80 = .ok (.bipush 9, 2) := by decide +kernel
theorem dL_events_82 : decode cL_events 82 = .ok (.ishr, 1) := by decide +kernel
theorem dL_events_83 : decode cL_events 83 = .ok (.bipush 24, 2) := by decide +kernel
theorem dL_events_85 : decode cL_events 85 = .ok (.iload 6, 2) := by decide +kernel
theorem dL_events_87 : decode cL_events 87 = .ok (.isub, 1) := by decide +kernel
theorem dL_events_88 : decode cL_events 88 = .ok (.invokestatic 135, 3) := by decide +kernel
theorem dL_events_91 : decode cL_events 91 = .ok (.iadd, 1) := by decide +kernel
theorem dL_events_92 : decode cL_events 92 = .ok (.invokestatic 146, 3) := by decide +kernel
theorem dL_events_95 : decode cL_events 95 = .ok (.istore 8, 2) := by decide +kernel
theorem dL_events_97 : decode cL_events 97 = .ok (.iload 8, 2) := by decide +kernel
theorem dL_events_99 : decode cL_events 99 = .ok (.aload_n 1, 1) := by decide +kernel
theorem dL_events_100 : decode cL_events 100 = .ok (.iload 4, 2) := by decide +kernel
theorem dL_events_102 : decode cL_events 102 = .ok (.aload_n 2, 1) := by decide +kernel
theorem dL_events_103 : decode cL_events 103 = .ok (.iconst 1, 1) := by decide +kernel
theorem dL_events_104 : decode cL_events 104 = .ok (.iaload, 1) := by decide +kernel
theorem dL_events_105 : decode cL_events 105 = .ok (.invokestatic 135, 3) := by decide +kernel
theorem dL_events_108 : decode cL_events 108 = .ok (.iload 4, 2) := by decide +kernel
theorem dL_events_110 : decode cL_events 110 = .ok (.iconst 3, 1) := by decide +kernel
theorem dL_events_111 : decode cL_events 111 = .ok (.ishr, 1) := by decide +kernel
theorem dL_events_112 : decode cL_events 112 = .ok (.iconst 3, 1) := by decide +kernel
theorem dL_events_113 : decode cL_events 113 = .ok (.invokestatic 135, 3) := by decide +kernel
theorem dL_events_116 : decode cL_events 116 = .ok (.iload 4, 2) := by decide +kernel
theorem dL_events_118 : decode cL_events 118 = .ok (.bipush 6, 2) := by decide +kernel
theorem dL_events_120 : decode cL_events 120 = .ok (.ishr, 1) := by decide +kernel
theorem dL_events_121 : decode cL_events 121 = .ok (.iconst 4, 1) := by decide +kernel
theorem dL_events_122 : decode cL_events 122 = .ok (.invokestatic 135, 3) := by decide +kernel
theorem dL_events_125 : decode cL_events 125 = .ok (.iload 7, 2) := by decide +kernel
theorem dL_events_127 : decode cL_events 127 = .ok (.iload 6, 2) := by decide +kernel
theorem dL_events_129 : decode cL_events 129 = .ok (.iconst 1, 1) := by decide +kernel
theorem dL_events_130 : decode cL_events 130 = .ok (.iload 4, 2) := by decide +kernel
theorem dL_events_132 : decode cL_events 132 = .ok (.bipush 9, 2) := by decide +kernel
theorem dL_events_134 : decode cL_events 134 = .ok (.ishr, 1) := by decide +kernel
theorem dL_events_135 : decode cL_events 135 = .ok (.bipush 24, 2) := by decide +kernel
theorem dL_events_137 : decode cL_events 137 = .ok (.iload 6, 2) := by decide +kernel
theorem dL_events_139 : decode cL_events 139 = .ok (.isub, 1) := by decide +kernel
theorem dL_events_140 : decode cL_events 140 = .ok (.invokestatic 135, 3) := by decide +kernel
theorem dL_events_143 : decode cL_events 143 = .ok (.iadd, 1) := by decide +kernel
theorem dL_events_144 : decode cL_events 144 = .ok (.invokestatic 146, 3) := by decide +kernel
theorem dL_events_147 : decode cL_events 147 = .ok (.if_icmp .ne 7, 3) := by decide +kernel
theorem dL_events_150 : decode cL_events 150 = .ok (.iconst 1, 1) := by decide +kernel
theorem dL_events_151 : decode cL_events 151 = .ok (.goto 4, 3) := by decide +kernel
theorem dL_events_154 : decode cL_events 154 = .ok (.iconst 0, 1) := by decide +kernel
theorem dL_events_155 : decode cL_events 155 = .ok (.istore 9, 2) := by decide +kernel
theorem dL_events_157 : decode cL_events 157 = .ok (.aload_n 2, 1) := by decide +kernel
theorem dL_events_158 : decode cL_events 158 = .ok (.bipush 12, 2) := by decide +kernel
theorem dL_events_160 : decode cL_events 160 = .ok (.iload 8, 2) := by decide +kernel
theorem dL_events_162 : decode cL_events 162 = .ok (.ifCond .lt 8, 3) := by decide +kernel
theorem dL_events_165 : decode cL_events 165 = .ok (.iload 8, 2) := by decide +kernel
theorem dL_events_167 : decode cL_events 167 = .ok (.goto 5, 3) := by decide +kernel
theorem dL_events_170 : decode cL_events 170 = .ok (.bipush 20, 2) := by decide +kernel
theorem dL_events_172 : decode cL_events 172 = .ok (.iadd, 1) := by decide +kernel
theorem dL_events_173 : decode cL_events 173 = .ok (.iconst 0, 1) := by decide +kernel
theorem dL_events_174 : decode cL_events 174 = .ok (.iastore, 1) := by decide +kernel
theorem dL_events_175 : decode cL_events 175 = .ok (.aload_n 2, 1) := by decide +kernel
theorem dL_events_176 : decode cL_events 176 = .ok (.iconst 3, 1) := by decide +kernel
theorem dL_events_177 : decode cL_events 177 = .ok (.dup2, 1) := by decide +kernel
theorem dL_events_178 : decode cL_events 178 = .ok (.iaload, 1) := by decide +kernel
theorem dL_events_179 : decode cL_events 179 = .ok (.iload 8, 2) := by decide +kernel
theorem dL_events_181 : decode cL_events 181 = .ok (.ifCond .lt 7, 3) := by decide +kernel
theorem dL_events_184 : decode cL_events 184 = .ok (.iconst 1, 1) := by decide +kernel
theorem dL_events_185 : decode cL_events 185 = .ok (.goto 4, 3) := by decide +kernel
theorem dL_events_188 : decode cL_events 188 = .ok (.iconst 0, 1) := by decide +kernel
theorem dL_events_189 : decode cL_events 189 = .ok (.iadd, 1) := by decide +kernel
theorem dL_events_190 : decode cL_events 190 = .ok (.iastore, 1) := by decide +kernel
theorem dL_events_191 : decode cL_events 191 = .ok (.iload 9, 2) := by decide +kernel
theorem dL_events_193 : decode cL_events 193 = .ok (.ifCond .eq 72, 3) := by decide +kernel
theorem dL_events_196 : decode cL_events 196 = .ok (.iload 8, 2) := by decide +kernel
theorem dL_events_198 : decode cL_events 198 = .ok (.ldc 23, 2) := by decide +kernel
theorem dL_events_200 : decode cL_events 200 = .ok (.if_icmp .ne 14, 3) := by decide +kernel
theorem dL_events_203 : decode cL_events 203 = .ok (.aload_n 2, 1) := by decide +kernel
theorem dL_events_204 : decode cL_events 204 = .ok (.iconst 3, 1) := by decide +kernel
theorem dL_events_205 : decode cL_events 205 = .ok (.iaload, 1) := by decide +kernel
theorem dL_events_206 : decode cL_events 206 = .ok (.bipush 20, 2) := by decide +kernel
theorem dL_events_208 : decode cL_events 208 = .ok (.if_icmp .ne 57, 3) := by decide +kernel
theorem dL_events_211 : decode cL_events 211 = .ok (.goto 50, 3) := by decide +kernel
theorem dL_events_214 : decode cL_events 214 = .ok (.iload 8, 2) := by decide +kernel
theorem dL_events_216 : decode cL_events 216 = .ok (.ldc 20, 2) := by decide +kernel
theorem dL_events_218 : decode cL_events 218 = .ok (.if_icmp .ne 14, 3) := by decide +kernel
theorem dL_events_221 : decode cL_events 221 = .ok (.iload 7, 2) := by decide +kernel
theorem dL_events_223 : decode cL_events 223 = .ok (.sipush 9999, 3) := by decide +kernel
theorem dL_events_226 : decode cL_events 226 = .ok (.if_icmp .le 39, 3) := by decide +kernel
theorem dL_events_229 : decode cL_events 229 = .ok (.goto 32, 3) := by decide +kernel
theorem dL_events_232 : decode cL_events 232 = .ok (.iload 8, 2) := by decide +kernel
theorem dL_events_234 : decode cL_events 234 = .ok (.aload_n 2, 1) := by decide +kernel
theorem dL_events_235 : decode cL_events 235 = .ok (.iconst 3, 1) := by decide +kernel
theorem dL_events_236 : decode cL_events 236 = .ok (.iaload, 1) := by decide +kernel
theorem dL_events_237 : decode cL_events 237 = .ok (.iconst 1, 1) := by decide +kernel
theorem dL_events_238 : decode cL_events 238 = .ok (.isub, 1) := by decide +kernel
theorem dL_events_239 : decode cL_events 239 = .ok (.if_icmp .ne 26, 3) := by decide +kernel
theorem dL_events_242 : decode cL_events 242 = .ok (.aload_n 0, 1) := by decide +kernel
theorem dL_events_243 : decode cL_events 243 = .ok (.iload 8, 2) := by decide +kernel
theorem dL_events_245 : decode cL_events 245 = .ok (.invokevirtual 77, 3) := by decide +kernel
theorem dL_events_248 : decode cL_events 248 = .ok (.iconst 1, 1) := by decide +kernel
theorem dL_events_249 : decode cL_events 249 = .ok (.if_icmp .eq 12, 3) := by decide +kernel
theorem dL_events_252 : decode cL_events 252 = .ok (.aload_n 0, 1) := by decide +kernel
theorem dL_events_253 : decode cL_events 253 = .ok (.iload 8, 2) := by decide +kernel
theorem dL_events_255 : decode cL_events 255 = .ok (.invokevirtual 77, 3) := by decide +kernel
theorem dL_events_258 : decode cL_events 258 = .ok (.ifCond .ne 7, 3) := by decide +kernel
theorem dL_events_261 : decode cL_events 261 = .ok (.iconst 1, 1) := by decide +kernel
theorem dL_events_262 : decode cL_events 262 = .ok (.goto 4, 3) := by decide +kernel
theorem dL_events_265 : decode cL_events 265 = .ok (.iconst 0, 1) := by decide +kernel
theorem dL_events_266 : decode cL_events 266 = .ok (.ireturn, 1) := by decide +kernel
theorem dL_events_267 : decode cL_events 267 = .ok (.iload 4, 2) := by decide +kernel
theorem dL_events_269 : decode cL_events 269 = .ok (.aload_n 2, 1) := by decide +kernel
theorem dL_events_270 : decode cL_events 270 = .ok (.iconst 3, 1) := by decide +kernel
theorem dL_events_271 : decode cL_events 271 = .ok (.iaload, 1) := by decide +kernel
theorem dL_events_272 : decode cL_events 272 = .ok (.invokestatic 135, 3) := by decide +kernel
theorem dL_events_275 : decode cL_events 275 = .ok (.istore 6, 2) := by decide +kernel
theorem dL_events_277 : decode cL_events 277 = .ok (.iload 5, 2) := by decide +kernel
theorem dL_events_279 : decode cL_events 279 = .ok (.bipush 7, 2) := by decide +kernel
theorem dL_events_281 : decode cL_events 281 = .ok (.if_icmp .ge 222, 3) := by decide +kernel
theorem dL_events_284 : decode cL_events 284 = .ok (.aload_n 2, 1) := by decide +kernel
theorem dL_events_285 : decode cL_events 285 = .ok (.iconst 2, 1) := by decide +kernel
theorem dL_events_286 : decode cL_events 286 = .ok (.iaload, 1) := by decide +kernel
theorem dL_events_287 : decode cL_events 287 = .ok (.ifCond .le 216, 3) := by decide +kernel
theorem dL_events_290 : decode cL_events 290 = .ok (.iload 4, 2) := by decide +kernel
theorem dL_events_292 : decode cL_events 292 = .ok (.iconst 5, 1) := by decide +kernel
theorem dL_events_293 : decode cL_events 293 = .ok (.ishr, 1) := by decide +kernel
theorem dL_events_294 : decode cL_events 294 = .ok (.aload_n 2, 1) := by decide +kernel
theorem dL_events_295 : decode cL_events 295 = .ok (.iconst 2, 1) := by decide +kernel
theorem dL_events_296 : decode cL_events 296 = .ok (.iaload, 1) := by decide +kernel
theorem dL_events_297 : decode cL_events 297 = .ok (.invokestatic 135, 3) := by decide +kernel
theorem dL_events_300 : decode cL_events 300 = .ok (.istore 7, 2) := by decide +kernel
theorem dL_events_302 : decode cL_events 302 = .ok (.iload_n 3, 1) := by decide +kernel
theorem dL_events_303 : decode cL_events 303 = .ok (.iconst 4, 1) := by decide +kernel
theorem dL_events_304 : decode cL_events 304 = .ok (.ishr, 1) := by decide +kernel
theorem dL_events_305 : decode cL_events 305 = .ok (.iconst 4, 1) := by decide +kernel
theorem dL_events_306 : decode cL_events 306 = .ok (.invokestatic 135, 3) := by decide +kernel
theorem dL_events_309 : decode cL_events 309 = .ok (.ifCond .le 7, 3) := by decide +kernel
theorem dL_events_312 : decode cL_events 312 = .ok (.iconst 1, 1) := by decide +kernel
theorem dL_events_313 : decode cL_events 313 = .ok (.goto 4, 3) := by decide +kernel
theorem dL_events_316 : decode cL_events 316 = .ok (.iconst 0, 1) := by decide +kernel
theorem dL_events_317 : decode cL_events 317 = .ok (.istore 8, 2) := by decide +kernel
theorem dL_events_319 : decode cL_events 319 = .ok (.aload_n 0, 1) := by decide +kernel
theorem dL_events_320 : decode cL_events 320 = .ok (.aload_n 1, 1) := by decide +kernel
theorem dL_events_321 : decode cL_events 321 = .ok (.bipush 14, 2) := by decide +kernel
theorem dL_events_323 : decode cL_events 323 = .ok (.iload 6, 2) := by decide +kernel
theorem dL_events_325 : decode cL_events 325 = .ok (.iload 7, 2) := by decide +kernel
theorem dL_events_327 : decode cL_events 327 = .ok (.iload 8, 2) := by decide +kernel
theorem dL_events_329 : decode cL_events 329 = .ok (.iconst 0, 1) := by decide +kernel
theorem dL_events_330 : decode cL_events 330 = .ok (.invokestatic 138, 3) := by decide +kernel
theorem dL_events_333 : decode cL_events 333 = .ok (.istore 9, 2) := by decide +kernel
theorem dL_events_335 : decode cL_events 335 = .ok (.iload 9, 2) := by decide +kernel
theorem dL_events_337 : decode cL_events 337 = .ok (.ldc 23, 2) := by decide +kernel
theorem dL_events_339 : decode cL_events 339 = .ok (.if_icmp .ne 30, 3) := by decide +kernel
theorem dL_events_342 : decode cL_events 342 = .ok (.iload 8, 2) := by decide +kernel
theorem dL_events_344 : decode cL_events 344 = .ok (.iconst 1, 1) := by decide +kernel
theorem dL_events_345 : decode cL_events 345 = .ok (.if_icmp .ne 22, 3) := by decide +kernel
theorem dL_events_348 : decode cL_events 348 = .ok (.aload_n 2, 1) := by decide +kernel
theorem dL_events_349 : decode cL_events 349 = .ok (.bipush 12, 2) := by decide +kernel
theorem dL_events_351 : decode cL_events 351 = .ok (.iload 6, 2) := by decide +kernel
theorem dL_events_353 : decode cL_events 353 = .ok (.iadd, 1) := by decide +kernel
theorem dL_events_354 : decode cL_events 354 = .ok (.iaload, 1) := by decide +kernel
theorem dL_events_355 : decode cL_events 355 = .ok (.iload 7, 2) := by decide +kernel
theorem dL_events_357 : decode cL_events 357 = .ok (.ishr, 1) := by decide +kernel
theorem dL_events_358 : decode cL_events 358 = .ok (.iconst 1, 1) := by decide +kernel
theorem dL_events_359 : decode cL_events 359 = .ok (.iand, 1) := by decide +kernel
theorem dL_events_360 : decode cL_events 360 = .ok (.ifCond .ne 7, 3) := by decide +kernel
theorem dL_events_363 : decode cL_events 363 = .ok (.iconst 1, 1) := by decide +kernel
theorem dL_events_364 : decode cL_events 364 = .ok (.goto 4, 3) := by decide +kernel
theorem dL_events_367 : decode cL_events 367 = .ok (.iconst 0, 1) := by decide +kernel
theorem dL_events_368 : decode cL_events 368 = .ok (.ireturn, 1) := by decide +kernel
theorem dL_events_369 : decode cL_events 369 = .ok (.aload_n 2, 1) := by decide +kernel
theorem dL_events_370 : decode cL_events 370 = .ok (.bipush 12, 2) := by decide +kernel
theorem dL_events_372 : decode cL_events 372 = .ok (.iload 6, 2) := by decide +kernel
theorem dL_events_374 : decode cL_events 374 = .ok (.iadd, 1) := by decide +kernel
theorem dL_events_375 : decode cL_events 375 = .ok (.iload 8, 2) := by decide +kernel
theorem dL_events_377 : decode cL_events 377 = .ok (.iconst 1, 1) := by decide +kernel
theorem dL_events_378 : decode cL_events 378 = .ok (.if_icmp .ne 18, 3) := by decide +kernel
theorem dL_events_381 : decode cL_events 381 = .ok (.aload_n 2, 1) := by decide +kernel
theorem dL_events_382 : decode cL_events 382 = .ok (.bipush 12, 2) := by decide +kernel
theorem dL_events_384 : decode cL_events 384 = .ok (.iload 6, 2) := by decide +kernel
theorem dL_events_386 : decode cL_events 386 = .ok (.iadd, 1) := by decide +kernel
theorem dL_events_387 : decode cL_events 387 = .ok (.iaload, 1) := by decide +kernel
theorem dL_events_388 : decode cL_events 388 = .ok (.iconst 1, 1) := by decide +kernel
theorem dL_events_389 : decode cL_events 389 = .ok (.iload 7, 2) := by decide +kernel
theorem dL_events_391 : decode cL_events 391 = .ok (.ishl, 1) := by decide +kernel
theorem dL_events_392 : decode cL_events 392 = .ok (.ior, 1) := by decide +kernel
theorem dL_events_393 : decode cL_events 393 = .ok (.goto 17, 3) := by decide +kernel
theorem dL_events_396 : decode cL_events 396 = .ok (.aload_n 2, 1) := by decide +kernel
theorem dL_events_397 : decode cL_events 397 = .ok (.bipush 12, 2) := by decide +kernel
theorem dL_events_399 : decode cL_events 399 = .ok (.iload 6, 2) := by decide +kernel
theorem dL_events_401 : decode cL_events 401 = .ok (.iadd, 1) := by decide +kernel
theorem dL_events_402 : decode cL_events 402 = .ok (.iaload, 1) := by decide +kernel
theorem dL_events_403 : decode cL_events 403 = .ok (.iconst 1, 1) := by decide +kernel
theorem dL_events_404 : decode cL_events 404 = .ok (.iload 7, 2) := by decide +kernel
theorem dL_events_406 : decode cL_events 406 = .ok (.ishl, 1) := by decide +kernel
theorem dL_events_407 : decode cL_events 407 = .ok (.iconst (-1), 1) := by decide +kernel
theorem dL_events_408 : decode cL_events 408 = .ok (.ixor, 1) := by decide +kernel
theorem dL_events_409 : decode cL_events 409 = .ok (.iand, 1) := by decide +kernel
theorem dL_events_410 : decode cL_events 410 = .ok (.iastore, 1) := by decide +kernel
theorem dL_events_411 : decode cL_events 411 = .ok (.iconst 0, 1) := by decide +kernel
theorem dL_events_412 : decode cL_events 412 = .ok (.istore 10, 2) := by decide +kernel
theorem dL_events_414 : decode cL_events 414 = .ok (.iconst 0, 1) := by decide +kernel
theorem dL_events_415 : decode cL_events 415 = .ok (.istore 11, 2) := by decide +kernel
theorem dL_events_417 : decode cL_events 417 = .ok (.iload 11, 2) := by decide +kernel
theorem dL_events_419 : decode cL_events 419 = .ok (.bipush 8, 2) := by decide +kernel
theorem dL_events_421 : decode cL_events 421 = .ok (.if_icmp .ge 26, 3) := by decide +kernel
theorem dL_events_424 : decode cL_events 424 = .ok (.iload 10, 2) := by decide +kernel
theorem dL_events_426 : decode cL_events 426 = .ok (.aload_n 2, 1) := by decide +kernel
theorem dL_events_427 : decode cL_events 427 = .ok (.bipush 12, 2) := by decide +kernel
theorem dL_events_429 : decode cL_events 429 = .ok (.iload 6, 2) := by decide +kernel
theorem dL_events_431 : decode cL_events 431 = .ok (.iadd, 1) := by decide +kernel
theorem dL_events_432 : decode cL_events 432 = .ok (.iaload, 1) := by decide +kernel
theorem dL_events_433 : decode cL_events 433 = .ok (.iload 11, 2) := by decide +kernel
theorem dL_events_435 : decode cL_events 435 = .ok (.ishr, 1) := by decide +kernel
theorem dL_events_436 : decode cL_events 436 = .ok (.iconst 1, 1) := by decide +kernel
theorem dL_events_437 : decode cL_events 437 = .ok (.iand, 1) := by decide +kernel
theorem dL_events_438 : decode cL_events 438 = .ok (.iadd, 1) := by decide +kernel
theorem dL_events_439 : decode cL_events 439 = .ok (.istore 10, 2) := by decide +kernel
theorem dL_events_441 : decode cL_events 441 = .ok (.iinc 11 1, 3) := by decide +kernel
theorem dL_events_444 : decode cL_events 444 = .ok (.goto (-27), 3) := by decide +kernel
theorem dL_events_447 : decode cL_events 447 = .ok (.iload 9, 2) := by decide +kernel
theorem dL_events_449 : decode cL_events 449 = .ok (.iload 10, 2) := by decide +kernel
theorem dL_events_451 : decode cL_events 451 = .ok (.if_icmp .ne 50, 3) := by decide +kernel
theorem dL_events_454 : decode cL_events 454 = .ok (.aload_n 0, 1) := by decide +kernel
theorem dL_events_455 : decode cL_events 455 = .ok (.iload 6, 2) := by decide +kernel
theorem dL_events_457 : decode cL_events 457 = .ok (.invokevirtual 77, 3) := by decide +kernel
theorem dL_events_460 : decode cL_events 460 = .ok (.ifCond .lt 41, 3) := by decide +kernel
theorem dL_events_463 : decode cL_events 463 = .ok (.aload_n 0, 1) := by decide +kernel
theorem dL_events_464 : decode cL_events 464 = .ok (.iload 6, 2) := by decide +kernel
theorem dL_events_466 : decode cL_events 466 = .ok (.invokevirtual 77, 3) := by decide +kernel
theorem dL_events_469 : decode cL_events 469 = .ok (.iconst 4, 1) := by decide +kernel
theorem dL_events_470 : decode cL_events 470 = .ok (.if_icmp .gt 31, 3) := by decide +kernel
theorem dL_events_473 : decode cL_events 473 = .ok (.iload 10, 2) := by decide +kernel
theorem dL_events_475 : decode cL_events 475 = .ok (.ifCond .gt 22, 3) := by decide +kernel
theorem dL_events_478 : decode cL_events 478 = .ok (.aload_n 0, 1) := by decide +kernel
theorem dL_events_479 : decode cL_events 479 = .ok (.iload 6, 2) := by decide +kernel
theorem dL_events_481 : decode cL_events 481 = .ok (.invokevirtual 77, 3) := by decide +kernel
theorem dL_events_484 : decode cL_events 484 = .ok (.iconst 1, 1) := by decide +kernel
theorem dL_events_485 : decode cL_events 485 = .ok (.if_icmp .eq 12, 3) := by decide +kernel
theorem dL_events_488 : decode cL_events 488 = .ok (.aload_n 0, 1) := by decide +kernel
theorem dL_events_489 : decode cL_events 489 = .ok (.iload 6, 2) := by decide +kernel
theorem dL_events_491 : decode cL_events 491 = .ok (.invokevirtual 77, 3) := by decide +kernel
theorem dL_events_494 : decode cL_events 494 = .ok (.ifCond .ne 7, 3) := by decide +kernel
theorem dL_events_497 : decode cL_events 497 = .ok (.iconst 1, 1) := by decide +kernel
theorem dL_events_498 : decode cL_events 498 = .ok (.goto 4, 3) := by decide +kernel
theorem dL_events_501 : decode cL_events 501 = .ok (.iconst 0, 1) := by decide +kernel
theorem dL_events_502 : decode cL_events 502 = .ok (.ireturn, 1) := by decide +kernel
theorem dL_events_503 : decode cL_events 503 = .ok (.aload_n 0, 1) := by decide +kernel
theorem dL_events_504 : decode cL_events 504 = .ok (.invokevirtual 120, 3) := by decide +kernel
theorem dL_events_507 : decode cL_events 507 = .ok (.iload 4, 2) := by decide +kernel
theorem dL_events_509 : decode cL_events 509 = .ok (.iconst 4, 1) := by decide +kernel
theorem dL_events_510 : decode cL_events 510 = .ok (.ishr, 1) := by decide +kernel
theorem dL_events_511 : decode cL_events 511 = .ok (.iconst 3, 1) := by decide +kernel
theorem dL_events_512 : decode cL_events 512 = .ok (.invokestatic 135, 3) := by decide +kernel
theorem dL_events_515 : decode cL_events 515 = .ok (.iadd, 1) := by decide +kernel
theorem dL_events_516 : decode cL_events 516 = .ok (.istore 7, 2) := by decide +kernel
theorem dL_events_518 : decode cL_events 518 = .ok (.iload 4, 2) := by decide +kernel
theorem dL_events_520 : decode cL_events 520 = .ok (.bipush 7, 2) := by decide +kernel
theorem dL_events_522 : decode cL_events 522 = .ok (.ishr, 1) := by decide +kernel
theorem dL_events_523 : decode cL_events 523 = .ok (.bipush 24, 2) := by decide +kernel
theorem dL_events_525 : decode cL_events 525 = .ok (.invokestatic 135, 3) := by decide +kernel
theorem dL_events_528 : decode cL_events 528 = .ok (.istore 8, 2) := by decide +kernel
theorem dL_events_530 : decode cL_events 530 = .ok (.iload 7, 2) := by decide +kernel
theorem dL_events_532 : decode cL_events 532 = .ok (.sipush 9999, 3) := by decide +kernel
theorem dL_events_535 : decode cL_events 535 = .ok (.if_icmp .le 5, 3) := by decide +kernel
theorem dL_events_538 : decode cL_events 538 = .ok (.iconst 1, 1) := by decide +kernel
theorem dL_events_539 : decode cL_events 539 = .ok (.ireturn, 1) := by decide +kernel
theorem dL_events_540 : decode cL_events 540 = .ok (.iconst 1, 1) := by decide +kernel
theorem dL_events_541 : decode cL_events 541 = .ok (.aload_n 2, 1) := by decide +kernel
theorem dL_events_542 : decode cL_events 542 = .ok (.iconst 2, 1) := by decide +kernel
theorem dL_events_543 : decode cL_events 543 = .ok (.iaload, 1) := by decide +kernel
theorem dL_events_544 : decode cL_events 544 = .ok (.ishl, 1) := by decide +kernel
theorem dL_events_545 : decode cL_events 545 = .ok (.iconst 1, 1) := by decide +kernel
theorem dL_events_546 : decode cL_events 546 = .ok (.isub, 1) := by decide +kernel
theorem dL_events_547 : decode cL_events 547 = .ok (.istore 9, 2) := by decide +kernel
theorem dL_events_549 : decode cL_events 549 = .ok (.iload_n 3, 1) := by decide +kernel
theorem dL_events_550 : decode cL_events 550 = .ok (.iconst 4, 1) := by decide +kernel
theorem dL_events_551 : decode cL_events 551 = .ok (.ishr, 1) := by decide +kernel
theorem dL_events_552 : decode cL_events 552 = .ok (.sipush 256, 3) := by decide +kernel
theorem dL_events_555 : decode cL_events 555 = .ok (.invokestatic 135, 3) := by decide +kernel
theorem dL_events_558 : decode cL_events 558 = .ok (.iload 9, 2) := by decide +kernel
theorem dL_events_560 : decode cL_events 560 = .ok (.iand, 1) := by decide +kernel
theorem dL_events_561 : decode cL_events 561 = .ok (.bipush 31, 2) := by decide +kernel
theorem dL_events_563 : decode cL_events 563 = .ok (.iand, 1) := by decide +kernel
theorem dL_events_564 : decode cL_events 564 = .ok (.istore 10, 2) := by decide +kernel
theorem dL_events_566 : decode cL_events 566 = .ok (.aload_n 0, 1) := by decide +kernel
theorem dL_events_567 : decode cL_events 567 = .ok (.aload_n 1, 1) := by decide +kernel
theorem dL_events_568 : decode cL_events 568 = .ok (.bipush 16, 2) := by decide +kernel
theorem dL_events_570 : decode cL_events 570 = .ok (.iload 7, 2) := by decide +kernel
theorem dL_events_572 : decode cL_events 572 = .ok (.iload 8, 2) := by decide +kernel
theorem dL_events_574 : decode cL_events 574 = .ok (.iload 10, 2) := by decide +kernel
theorem dL_events_576 : decode cL_events 576 = .ok (.iconst 0, 1) := by decide +kernel
theorem dL_events_577 : decode cL_events 577 = .ok (.invokestatic 138, 3) := by decide +kernel
theorem dL_events_580 : decode cL_events 580 = .ok (.istore 11, 2) := by decide +kernel
theorem dL_events_582 : decode cL_events 582 = .ok (.iload 11, 2) := by decide +kernel
theorem dL_events_584 : decode cL_events 584 = .ok (.ldc 23, 2) := by decide +kernel
theorem dL_events_586 : decode cL_events 586 = .ok (.if_icmp .ne 28, 3) := by decide +kernel
theorem dL_events_589 : decode cL_events 589 = .ok (.aload_n 0, 1) := by decide +kernel
theorem dL_events_590 : decode cL_events 590 = .ok (.bipush 16, 2) := by decide +kernel
theorem dL_events_592 : decode cL_events 592 = .ok (.iload 7, 2) := by decide +kernel
theorem dL_events_594 : decode cL_events 594 = .ok (.iload 8, 2) := by decide +kernel
theorem dL_events_596 : decode cL_events 596 = .ok (.iconst 0, 1) := by decide +kernel
theorem dL_events_597 : decode cL_events 597 = .ok (.iconst 0, 1) := by decide +kernel
theorem dL_events_598 : decode cL_events 598 = .ok (.invokestatic 131, 3) := by decide +kernel
theorem dL_events_601 : decode cL_events 601 = .ok (.ldc 23, 2) := by decide +kernel
theorem dL_events_603 : decode cL_events 603 = .ok (.if_icmp .ne 7, 3) := by decide +kernel
theorem dL_events_606 : decode cL_events 606 = .ok (.iconst 1, 1) := by decide +kernel
theorem dL_events_607 : decode cL_events 607 = .ok (.goto 41, 3) := by decide +kernel
theorem dL_events_610 : decode cL_events 610 = .ok (.iconst 0, 1) := by decide +kernel
theorem dL_events_611 : decode cL_events 611 = .ok (.goto 37, 3) := by decide +kernel
theorem dL_events_614 : decode cL_events 614 = .ok (.iload 11, 2) := by decide +kernel
theorem dL_events_616 : decode cL_events 616 = .ok (.iconst 1, 1) := by decide +kernel
theorem dL_events_617 : decode cL_events 617 = .ok (.if_icmp .eq 26, 3) := by decide +kernel
theorem dL_events_620 : decode cL_events 620 = .ok (.iload 11, 2) := by decide +kernel
theorem dL_events_622 : decode cL_events 622 = .ok (.ifCond .ne 25, 3) := by decide +kernel
theorem dL_events_625 : decode cL_events 625 = .ok (.aload_n 0, 1) := by decide +kernel
theorem dL_events_626 : decode cL_events 626 = .ok (.bipush 16, 2) := by decide +kernel
theorem dL_events_628 : decode cL_events 628 = .ok (.iload 7, 2) := by decide +kernel
theorem dL_events_630 : decode cL_events 630 = .ok (.iload 8, 2) := by decide +kernel
theorem dL_events_632 : decode cL_events 632 = .ok (.iload 10, 2) := by decide +kernel
theorem dL_events_634 : decode cL_events 634 = .ok (.iconst 5, 1) := by decide +kernel
theorem dL_events_635 : decode cL_events 635 = .ok (.iand, 1) := by decide +kernel
theorem dL_events_636 : decode cL_events 636 = .ok (.iconst 0, 1) := by decide +kernel
theorem dL_events_637 : decode cL_events 637 = .ok (.invokestatic 131, 3) := by decide +kernel
theorem dL_events_640 : decode cL_events 640 = .ok (.ifCond .ne 7, 3) := by decide +kernel
theorem dL_events_643 : decode cL_events 643 = .ok (.iconst 1, 1) := by decide +kernel
theorem dL_events_644 : decode cL_events 644 = .ok (.goto 4, 3) := by decide +kernel
theorem dL_events_647 : decode cL_events 647 = .ok (.iconst 0, 1) := by decide +kernel
theorem dL_events_648 : decode cL_events 648 = .ok (.ireturn, 1) := by decide +kernel
theorem dL_days_0 : decode cL_days 0 = .ok (.iload_n 3, 1) := by decide +kernel
theorem dL_days_1 : decode cL_days 1 = .ok (.iconst 3, 1) := by decide +kernel
theorem dL_days_2 : decode cL_days 2 = .ok (.invokestatic 135, 3) := by decide +kernel
theorem dL_days_5 : decode cL_days 5 = .ok (.ifCond .ne 103, 3) := by decide +kernel
theorem dL_days_8 : decode cL_days 8 = .ok (.iconst 0, 1) := by decide +kernel
theorem dL_days_9 : decode cL_days 9 = .ok (.istore 5, 2) := by decide +kernel
theorem dL_days_11 : decode cL_days 11 = .ok (.iconst 0, 1) := by decide +kernel
theorem dL_days_12 : decode cL_days 12 = .ok (.istore 6, 2) := by decide +kernel
theorem dL_days_14 : decode cL_days 14 = .ok (.iload 6, 2) := by decide +kernel
theorem dL_days_16 : decode cL_days 16 = .ok (.aload_n 2, 1) := by decide +kernel
theorem dL_days_17 : decode cL_days 17 = .ok (.iconst 0, 1) := by decide +kernel
theorem dL_days_18 : decode cL_days 18 = .ok (.iaload, 1) := by decide +kernel
theorem dL_days_19 : decode cL_days 19 = .ok (.if_icmp .ge 21, 3) := by decide +kernel
theorem dL_days_22 : decode cL_days 22 = .ok (.iload 5, 2) := by decide +kernel
theorem dL_days_24 : decode cL_days 24 = .ok (.aload_n 0, 1) := by decide +kernel
theorem dL_days_25 : decode cL_days 25 = .ok (.iload 6, 2) := by decide +kernel
theorem dL_days_27 : decode cL_days 27 = .ok (.iconst 0, 1) := by decide +kernel
theorem dL_days_28 : decode cL_days 28 = .ok (.invokevirtual 93, 3) := by decide +kernel
theorem dL_days_31 : decode cL_days 31 = .ok (.iadd, 1) := by decide +kernel
theorem dL_days_32 : decode cL_days 32 = .ok (.istore 5, 2) := by decide +kernel
theorem dL_days_34 : decode cL_days 34 = .ok (.iinc 6 1, 3) := by decide +kernel
theorem dL_days_37 : decode cL_days 37 = .ok (.goto (-23), 3) := by decide +kernel
theorem dL_days_40 : decode cL_days 40 = .ok (.aload_n 0, 1) := by decide +kernel
theorem dL_days_41 : decode cL_days 41 = .ok (.aload_n 1, 1) := by decide +kernel
theorem dL_days_42 : decode cL_days 42 = .ok (.bipush 7, 2) := by decide +kernel
theorem dL_days_44 : decode cL_days 44 = .ok (.iconst 0, 1) := by decide +kernel
theorem dL_days_45 : decode cL_days 45 = .ok (.iconst 0, 1) := by decide +kernel
theorem dL_days_46 : decode cL_days 46 = .ok (.iconst 0, 1) := by decide +kernel
theorem dL_days_47 : decode cL_days 47 = .ok (.iconst 0, 1) := by decide +kernel
theorem dL_days_48 : decode cL_days 48 = .ok (.invokestatic 138, 3) := by decide +kernel
theorem dL_days_51 : decode cL_days 51 = .ok (.istore 6, 2) := by decide +kernel
theorem dL_days_53 : decode cL_days 53 = .ok (.iconst 0, 1) := by decide +kernel
theorem dL_days_54 : decode cL_days 54 = .ok (.istore 7, 2) := by decide +kernel
theorem dL_days_56 : decode cL_days 56 = .ok (.iload 7, 2) := by decide +kernel
theorem dL_days_58 : decode cL_days 58 = .ok (.aload_n 2, 1) := by decide +kernel
theorem dL_days_59 : decode cL_days 59 = .ok (.iconst 0, 1) := by decide +kernel
theorem dL_days_60 : decode cL_days 60 = .ok (.iaload, 1) := by decide +kernel
theorem dL_days_61 : decode cL_days 61 = .ok (.if_icmp .ge 23, 3) := by decide +kernel
theorem dL_days_64 : decode cL_days 64 = .ok (.iload 5, 2) := by decide +kernel
theorem dL_days_66 : decode cL_days 66 = .ok (.aload_n 0, 1) := by decide +kernel
theorem dL_days_67 : decode cL_days 67 = .ok (.iload 7, 2) := by decide +kernel
theorem dL_days_69 : decode cL_days 69 = .ok (.iconst 0, 1) := by decide +kernel
theorem dL_days_70 : decode cL_days 70 = .ok (.invokevirtual 93, 3) := by decide +kernel
theorem dL_days_73 : decode cL_days 73 = .ok (.iconst 1, 1) := by decide +kernel
theorem dL_days_74 : decode cL_days 74 = .ok (.isub, 1) := by decide +kernel
theorem dL_days_75 : decode cL_days 75 = .ok (.isub, 1) := by decide +kernel
theorem dL_days_76 : decode cL_days 76 = .ok (.istore 5, 2) := by decide +kernel
theorem dL_days_78 : decode cL_days 78 = .ok (.iinc 7 1, 3) := by decide +kernel
theorem dL_days_81 : decode cL_days 81 = .ok (.goto (-25), 3) := by decide +kernel
theorem dL_days_84 : decode cL_days 84 = .ok (.iload 6, 2) := by decide +kernel
theorem dL_days_86 : decode cL_days 86 = .ok (.ifCond .lt 20, 3) := by decide +kernel
theorem dL_days_89 : decode cL_days 89 = .ok (.iload 6, 2) := by decide +kernel
theorem dL_days_91 : decode cL_days 91 = .ok (.aload_n 2, 1) := by decide +kernel
theorem dL_days_92 : decode cL_days 92 = .ok (.iconst 0, 1) := by decide +kernel
theorem dL_days_93 : decode cL_days 93 = .ok (.iaload, 1) := by decide +kernel
theorem dL_days_94 : decode cL_days 94 = .ok (.if_icmp .gt 12, 3) := by decide +kernel
theorem dL_days_97 : decode cL_days 97 = .ok (.iload 5, 2) := by decide +kernel
theorem dL_days_99 : decode cL_days 99 = .ok (.ifCond .ne 7, 3) := by decide +kernel
theorem dL_days_102 : decode cL_days 102 = .ok (.iconst 1, 1) := by decide +kernel
theorem dL_days_103 : decode cL_days 103 = .ok (.goto 4, 3) := by decide +kernel
theorem dL_days_106 : decode cL_days 106 = .ok (.iconst 0, 1) := by decide +kernel
theorem dL_days_107 : decode cL_days 107 = .ok (.ireturn, 1) := by decide +kernel
theorem dL_days_108 : decode cL_days 108 = .ok (.aload_n 0, 1) := by decide +kernel
theorem dL_days_109 : decode cL_days 109 = .ok (.invokevirtual 120, 3) := by decide +kernel
theorem dL_days_112 : decode cL_days 112 = .ok (.istore 5, 2) := by decide +kernel
theorem dL_days_114 : decode cL_days 114 = .ok (.bipush 24, 2) := by decide +kernel
theorem dL_days_116 : decode cL_days 116 = .ok (.newarray .int, 2) := by decide +kernel
theorem dL_days_118 : decode cL_days 118 = .ok (.astore 6, 2) := by decide +kernel
theorem dL_days_120 : decode cL_days 120 = .ok (.iconst 0, 1) := by decide +kernel
theorem dL_days_121 : decode cL_days 121 = .ok (.istore 7, 2) := by decide +kernel
theorem dL_days_123 : decode cL_days 123 = .ok (.iload 7, 2) := by decide +kernel
theorem dL_days_125 : decode cL_days 125 = .ok (.aload_n 2, 1) := by decide +kernel
theorem dL_days_126 : decode cL_days 126 = .ok (.iconst 0, 1) := by decide +kernel
theorem dL_days_127 : decode cL_days 127 = .ok (.iaload, 1) := by decide +kernel
theorem dL_days_128 : decode cL_days 128 = .ok (.if_icmp .ge 21, 3) := by decide +kernel
theorem dL_days_131 : decode cL_days 131 = .ok (.aload 6, 2) := by decide +kernel
theorem dL_days_133 : decode cL_days 133 = .ok (.iload 7, 2) := by decide +kernel
theorem dL_days_135 : decode cL_days 135 = .ok (.aload_n 0, 1) := by decide +kernel
theorem dL_days_136 : decode cL_days 136 = .ok (.iload 7, 2) := by decide +kernel
theorem dL_days_138 : decode cL_days 138 = .ok (.iconst 4, 1) := by decide +kernel
theorem dL_days_139 : decode cL_days 139 = .ok (.invokevirtual 93, 3) := by decide +kernel
theorem dL_days_142 : decode cL_days 142 = .ok (.iastore, 1) := by decide +kernel
theorem dL_days_143 : decode cL_days 143 = .ok (.iinc 7 1, 3) := by decide +kernel
theorem dL_days_146 : decode cL_days 146 = .ok (.goto (-23), 3) := by decide +kernel
theorem dL_days_149 : decode cL_days 149 = .ok (.iconst 1, 1) := by decide +kernel
theorem dL_days_150 : decode cL_days 150 = .ok (.iload 4, 2) := by decide +kernel
theorem dL_days_152 : decode cL_days 152 = .ok (.bipush 20, 2) := by decide +kernel
theorem dL_days_154 : decode cL_days 154 = .ok (.invokestatic 135, 3) := by decide +kernel
theorem dL_days_157 : decode cL_days 157 = .ok (.iadd, 1) := by decide +kernel
theorem dL_days_158 : decode cL_days 158 = .ok (.istore 7, 2) := by decide +kernel
theorem dL_days_160 : decode cL_days 160 = .ok (.aload_n 0, 1) := by decide +kernel
theorem dL_days_161 : decode cL_days 161 = .ok (.aload_n 1, 1) := by decide +kernel
theorem dL_days_162 : decode cL_days 162 = .ok (.bipush 6, 2) := by decide +kernel
theorem dL_days_164 : decode cL_days 164 = .ok (.iload 7, 2) := by decide +kernel
theorem dL_days_166 : decode cL_days 166 = .ok (.iconst 0, 1) := by decide +kernel
theorem dL_days_167 : decode cL_days 167 = .ok (.iconst 0, 1) := by decide +kernel
theorem dL_days_168 : decode cL_days 168 = .ok (.iconst 0, 1) := by decide +kernel
theorem dL_days_169 : decode cL_days 169 = .ok (.invokestatic 138, 3) := by decide +kernel
theorem dL_days_172 : decode cL_days 172 = .ok (.istore 8, 2) := by decide +kernel
theorem dL_days_174 : decode cL_days 174 = .ok (.iload 8, 2) := by decide +kernel
theorem dL_days_176 : decode cL_days 176 = .ok (.ldc 23, 2) := by decide +kernel
theorem dL_days_178 : decode cL_days 178 = .ok (.if_icmp .ne 22, 3) := by decide +kernel
theorem dL_days_181 : decode cL_days 181 = .ok (.iload 5, 2) := by decide +kernel
theorem dL_days_183 : decode cL_days 183 = .ok (.iload 7, 2) := by decide +kernel
theorem dL_days_185 : decode cL_days 185 = .ok (.iadd, 1) := by decide +kernel
theorem dL_days_186 : decode cL_days 186 = .ok (.sipush 9999, 3) := by decide +kernel
theorem dL_days_189 : decode cL_days 189 = .ok (.if_icmp .le 7, 3) := by decide +kernel
theorem dL_days_192 : decode cL_days 192 = .ok (.iconst 1, 1) := by decide +kernel
theorem dL_days_193 : decode cL_days 193 = .ok (.goto 22, 3) := by decide +kernel
theorem dL_days_196 : decode cL_days 196 = .ok (.iconst 0, 1) := by decide +kernel
theorem dL_days_197 : decode cL_days 197 = .ok (.goto 18, 3) := by decide +kernel
theorem dL_days_200 : decode cL_days 200 = .ok (.iload 8, 2) := by decide +kernel
theorem dL_days_202 : decode cL_days 202 = .ok (.iload 5, 2) := by decide +kernel
theorem dL_days_204 : decode cL_days 204 = .ok (.iload 7, 2) := by decide +kernel
theorem dL_days_206 : decode cL_days 206 = .ok (.iadd, 1) := by decide +kernel
theorem dL_days_207 : decode cL_days 207 = .ok (.if_icmp .ne 7, 3) := by decide +kernel
theorem dL_days_210 : decode cL_days 210 = .ok (.iconst 1, 1) := by decide +kernel
theorem dL_days_211 : decode cL_days 211 = .ok (.goto 4, 3) := by decide +kernel
theorem dL_days_214 : decode cL_days 214 = .ok (.iconst 0, 1) := by decide +kernel
theorem dL_days_215 : decode cL_days 215 = .ok (.istore 9, 2) := by decide +kernel
theorem dL_days_217 : decode cL_days 217 = .ok (.iconst 0, 1) := by decide +kernel
theorem dL_days_218 : decode cL_days 218 = .ok (.istore 10, 2) := by decide +kernel
theorem dL_days_220 : decode cL_days 220 = .ok (.iload 10, 2) := by decide +kernel
theorem dL_days_222 : decode cL_days 222 = .ok (.aload_n 2, 1) := by decide +kernel
theorem dL_days_223 : decode cL_days 223 = .ok (.iconst 0, 1) := by decide +kernel
theorem dL_days_224 : decode cL_days 224 = .ok (.iaload, 1) := by decide +kernel
theorem dL_days_225 : decode cL_days 225 = .ok (.if_icmp .ge 36, 3) := by decide +kernel
theorem dL_days_228 : decode cL_days 228 = .ok (.iload 9, 2) := by decide +kernel
theorem dL_days_230 : decode cL_days 230 = .ok (.ifCond .eq 31, 3) := by decide +kernel
theorem dL_days_233 : decode cL_days 233 = .ok (.aload_n 0, 1) := by decide +kernel
theorem dL_days_234 : decode cL_days 234 = .ok (.iload 10, 2) := by decide +kernel
theorem dL_days_236 : decode cL_days 236 = .ok (.iconst 4, 1) := by decide +kernel
theorem dL_days_237 : decode cL_days 237 = .ok (.invokevirtual 93, 3) := by decide +kernel
theorem dL_days_240 : decode cL_days 240 = .ok (.aload 6, 2) := by decide +kernel
theorem dL_days_242 : decode cL_days 242 = .ok (.iload 10, 2) := by decide +kernel
theorem dL_days_244 : decode cL_days 244 = .ok (.iaload, 1) := by decide +kernel
theorem dL_days_245 : decode cL_days 245 = .ok (.if_icmp .lt 7, 3) := by decide +kernel
theorem dL_days_248 : decode cL_days 248 = .ok (.iconst 1, 1) := by decide +kernel
theorem dL_days_249 : decode cL_days 249 = .ok (.goto 4, 3) := by decide +kernel
theorem dL_days_252 : decode cL_days 252 = .ok (.iconst 0, 1) := by decide +kernel
theorem dL_days_253 : decode cL_days 253 = .ok (.istore 9, 2) := by decide +kernel
theorem dL_days_255 : decode cL_days 255 = .ok (.iinc 10 1, 3) := by decide +kernel
theorem dL_days_258 : decode cL_days 258 = .ok (.goto (-38), 3) := by decide +kernel
theorem dL_days_261 : decode cL_days 261 = .ok (.iload 9, 2) := by decide +kernel
theorem dL_days_263 : decode cL_days 263 = .ok (.ireturn, 1) := by decide +kernel
theorem dL_sound_0 : decode cL_sound 0 = .ok (.iconst 0, 1) := by decide +kernel
theorem dL_sound_1 : decode cL_sound 1 = .ok (.istore_n 2, 1) := by decide +kernel
theorem dL_sound_2 : decode cL_sound 2 = .ok (.iconst 0, 1) := by decide +kernel
theorem dL_sound_3 : decode cL_sound 3 = .ok (.istore_n 3, 1) := by decide +kernel
theorem dL_sound_4 : decode cL_sound 4 = .ok (.iconst 0, 1) := by decide +kernel
theorem dL_sound_5 : decode cL_sound 5 = .ok (.istore 4, 2) := by decide +kernel
theorem dL_sound_7 : decode cL_sound 7 = .ok (.iconst 1, 1) := by decide +kernel
theorem dL_sound_8 : decode cL_sound 8 = .ok (.istore 5, 2) := by decide +kernel
theorem dL_sound_10 : decode cL_sound 10 = .ok (.iconst 0, 1) := by decide +kernel
theorem dL_sound_11 : decode cL_sound 11 = .ok (.istore 6, 2) := by decide +kernel
theorem dL_sound_13 : decode cL_sound 13 = .ok (.iload 6, 2) := by decide +kernel
theorem dL_sound_15 : decode cL_sound 15 = .ok (.aload_n 1, 1) := by decide +kernel
theorem dL_sound_16 : decode cL_sound 16 = .ok (.iconst 0, 1) := by decide +kernel
theorem dL_sound_17 : decode cL_sound 17 = .ok (.iaload, 1) := by decide +kernel
theorem dL_sound_18 : decode cL_sound 18 = .ok (.if_icmp .ge 230, 3) := by decide +kernel
theorem dL_sound_21 : decode cL_sound 21 = .ok (.iload 5, 2) := by decide +kernel
theorem dL_sound_23 : decode cL_sound 23 = .ok (.ifCond .eq 225, 3) := by decide +kernel
theorem dL_sound_26 : decode cL_sound 26 = .ok (.aload_n 0, 1) := by decide +kernel
theorem dL_sound_27 : decode cL_sound 27 = .ok (.iload 6, 2) := by decide +kernel
theorem dL_sound_29 : decode cL_sound 29 = .ok (.iconst 1, 1) := by decide +kernel
theorem dL_sound_30 : decode cL_sound 30 = .ok (.invokevirtual 93, 3) := by decide +kernel
theorem dL_sound_33 : decode cL_sound 33 = .ok (.istore 7, 2) := by decide +kernel
theorem dL_sound_35 : decode cL_sound 35 = .ok (.iload_n 2, 1) := by decide +kernel
theorem dL_sound_36 : decode cL_sound 36 = .ok (.iload 7, 2) := by decide +kernel
theorem dL_sound_38 : decode cL_sound 38 = .ok (.iconst (-1), 1) := by decide +kernel
theorem dL_sound_39 : decode cL_sound 39 = .ok (.if_icmp .ne 7, 3) := by decide +kernel
theorem dL_sound_42 : decode cL_sound 42 = .ok (.iconst 0, 1) := by decide +kernel
theorem dL_sound_43 : decode cL_sound 43 = .ok (.goto 4, 3) := by decide +kernel
theorem dL_sound_46 : decode cL_sound 46 = .ok (.iconst 1, 1) := by decide +kernel
theorem dL_sound_47 : decode cL_sound 47 = .ok (.iadd, 1) := by decide +kernel
theorem dL_sound_48 : decode cL_sound 48 = .ok (.istore_n 2, 1) := by decide +kernel
theorem dL_sound_49 : decode cL_sound 49 = .ok (.iload_n 3, 1) := by decide +kernel
theorem dL_sound_50 : decode cL_sound 50 = .ok (.aload_n 0, 1) := by decide +kernel
theorem dL_sound_51 : decode cL_sound 51 = .ok (.iload 6, 2) := by decide +kernel
theorem dL_sound_53 : decode cL_sound 53 = .ok (.iconst 2, 1) := by decide +kernel
theorem dL_sound_54 : decode cL_sound 54 = .ok (.invokevirtual 93, 3) := by decide +kernel
theorem dL_sound_57 : decode cL_sound 57 = .ok (.iconst (-1), 1) := by decide +kernel
theorem dL_sound_58 : decode cL_sound 58 = .ok (.if_icmp .ne 7, 3) := by decide +kernel
theorem dL_sound_61 : decode cL_sound 61 = .ok (.iconst 0, 1) := by decide +kernel
theorem dL_sound_62 : decode cL_sound 62 = .ok (.goto 4, 3) := by decide +kernel
theorem dL_sound_65 : decode cL_sound 65 = .ok (.iconst 1, 1) := by decide +kernel
theorem dL_sound_66 : decode cL_sound 66 = .ok (.iadd, 1) := by decide +kernel
theorem dL_sound_67 : decode cL_sound 67 = .ok (.istore_n 3, 1) := by decide +kernel
theorem dL_sound_68 : decode cL_sound 68 = .ok (.iload 4, 2) := by decide +kernel
theorem dL_sound_70 : decode cL_sound 70 = .ok (.aload_n 0, 1) := by decide +kernel
theorem dL_sound_71 : decode cL_sound 71 = .ok (.iload 6, 2) := by decide +kernel
theorem dL_sound_73 : decode cL_sound 73 = .ok (.iconst 5, 1) := by decide +kernel
theorem dL_sound_74 : decode cL_sound 74 = .ok (.invokevirtual 93, 3) := by decide +kernel
theorem dL_sound_77 : decode cL_sound 77 = .ok (.iadd, 1) := by decide +kernel
theorem dL_sound_78 : decode cL_sound 78 = .ok (.istore 4, 2) := by decide +kernel
theorem dL_sound_80 : decode cL_sound 80 = .ok (.iconst 0, 1) := by decide +kernel
theorem dL_sound_81 : decode cL_sound 81 = .ok (.istore 8, 2) := by decide +kernel
theorem dL_sound_83 : decode cL_sound 83 = .ok (.iconst 0, 1) := by decide +kernel
theorem dL_sound_84 : decode cL_sound 84 = .ok (.istore 9, 2) := by decide +kernel
theorem dL_sound_86 : decode cL_sound 86 = .ok (.iload 9, 2) := by decide +kernel
theorem dL_sound_88 : decode cL_sound 88 = .ok (.bipush 8, 2) := by decide +kernel
theorem dL_sound_90 : decode cL_sound 90 = .ok (.if_icmp .ge 81, 3) := by decide +kernel
theorem dL_sound_93 : decode cL_sound 93 = .ok (.iload 8, 2) := by decide +kernel
theorem dL_sound_95 : decode cL_sound 95 = .ok (.aload_n 0, 1) := by decide +kernel
theorem dL_sound_96 : decode cL_sound 96 = .ok (.iload 6, 2) := by decide +kernel
theorem dL_sound_98 : decode cL_sound 98 = .ok (.iload 9, 2) := by decide +kernel
theorem dL_sound_100 : decode cL_sound 100 = .ok (.invokevirtual 100, 3) := by decide +kernel
theorem dL_sound_103 : decode cL_sound 103 = .ok (.iconst (-1), 1) := by decide +kernel
theorem dL_sound_104 : decode cL_sound 104 = .ok (.if_icmp .ne 7, 3) := by decide +kernel
theorem dL_sound_107 : decode cL_sound 107 = .ok (.iconst 0, 1) := by decide +kernel
theorem dL_sound_108 : decode cL_sound 108 = .ok (.goto 4, 3) := by decide +kernel
theorem dL_sound_111 : decode cL_sound 111 = .ok (.iconst 1, 1) := by decide +kernel
theorem dL_sound_112 : decode cL_sound 112 = .ok (.iadd, 1) := by decide +kernel
theorem dL_sound_113 : decode cL_sound 113 = .ok (.istore 8, 2) := by decide +kernel
theorem dL_sound_115 : decode cL_sound 115 = .ok (.iload 5, 2) := by decide +kernel
theorem dL_sound_117 : decode cL_sound 117 = .ok (.ifCond .eq 45, 3) := by decide +kernel
theorem dL_sound_120 : decode cL_sound 120 = .ok (.aload_n 0, 1) := by decide +kernel
theorem dL_sound_121 : decode cL_sound 121 = .ok (.iload 6, 2) := by decide +kernel
theorem dL_sound_123 : decode cL_sound 123 = .ok (.iload 9, 2) := by decide +kernel
theorem dL_sound_125 : decode cL_sound 125 = .ok (.invokevirtual 100, 3) := by decide +kernel
theorem dL_sound_128 : decode cL_sound 128 = .ok (.aload_n 0, 1) := by decide +kernel
theorem dL_sound_129 : decode cL_sound 129 = .ok (.invokevirtual 120, 3) := by decide +kernel
theorem dL_sound_132 : decode cL_sound 132 = .ok (.if_icmp .gt 30, 3) := by decide +kernel
theorem dL_sound_135 : decode cL_sound 135 = .ok (.aload_n 0, 1) := by decide +kernel
theorem dL_sound_136 : decode cL_sound 136 = .ok (.iload 6, 2) := by decide +kernel
theorem dL_sound_138 : decode cL_sound 138 = .ok (.iload 9, 2) := by decide +kernel
theorem dL_sound_140 : decode cL_sound 140 = .ok (.invokevirtual 103, 3) := by decide +kernel
theorem dL_sound_143 : decode cL_sound 143 = .ok (.ifCond .eq 15, 3) := by decide +kernel
theorem dL_sound_146 : decode cL_sound 146 = .ok (.aload_n 0, 1) := by decide +kernel
theorem dL_sound_147 : decode cL_sound 147 = .ok (.iload 6, 2) := by decide +kernel
theorem dL_sound_149 : decode cL_sound 149 = .ok (.iload 9, 2) := by decide +kernel
theorem dL_sound_151 : decode cL_sound 151 = .ok (.invokevirtual 100, 3) := by decide +kernel
theorem dL_sound_154 : decode cL_sound 154 = .ok (.iconst (-1), 1) := by decide +kernel
theorem dL_sound_155 : decode cL_sound 155 = .ok (.if_icmp .eq 7, 3) := by decide +kernel
theorem dL_sound_158 : decode cL_sound 158 = .ok (.iconst 1, 1) := by decide +kernel
theorem dL_sound_159 : decode cL_sound 159 = .ok (.goto 4, 3) := by decide +kernel
theorem dL_sound_162 : decode cL_sound 162 = .ok (.iconst 0, 1) := by decide +kernel
theorem dL_sound_163 : decode cL_sound 163 = .ok (.istore 5, 2) := by decide +kernel
theorem dL_sound_165 : decode cL_sound 165 = .ok (.iinc 9 1, 3) := by decide +kernel
theorem dL_sound_168 : decode cL_sound 168 = .ok (.goto (-82), 3) := by decide +kernel
theorem dL_sound_171 : decode cL_sound 171 = .ok (.iload 5, 2) := by decide +kernel
theorem dL_sound_173 : decode cL_sound 173 = .ok (.ifCond .eq 66, 3) := by decide +kernel
theorem dL_sound_176 : decode cL_sound 176 = .ok (.iload 8, 2) := by decide +kernel
theorem dL_sound_178 : decode cL_sound 178 = .ok (.aload_n 0, 1) := by decide +kernel
theorem dL_sound_179 : decode cL_sound 179 = .ok (.iload 6, 2) := by decide +kernel
theorem dL_sound_181 : decode cL_sound 181 = .ok (.iconst 4, 1) := by decide +kernel
theorem dL_sound_182 : decode cL_sound 182 = .ok (.invokevirtual 93, 3) := by decide +kernel
theorem dL_sound_185 : decode cL_sound 185 = .ok (.if_icmp .ne 54, 3) := by decide +kernel
theorem dL_sound_188 : decode cL_sound 188 = .ok (.iload 7, 2) := by decide +kernel
theorem dL_sound_190 : decode cL_sound 190 = .ok (.iconst (-1), 1) := by decide +kernel
theorem dL_sound_191 : decode cL_sound 191 = .ok (.if_icmp .ne 7, 3) := by decide +kernel
theorem dL_sound_194 : decode cL_sound 194 = .ok (.iconst 1, 1) := by decide +kernel
theorem dL_sound_195 : decode cL_sound 195 = .ok (.goto 4, 3) := by decide +kernel
theorem dL_sound_198 : decode cL_sound 198 = .ok (.iconst 0, 1) := by decide +kernel
theorem dL_sound_199 : decode cL_sound 199 = .ok (.aload_n 0, 1) := by decide +kernel
theorem dL_sound_200 : decode cL_sound 200 = .ok (.iload 6, 2) := by decide +kernel
theorem dL_sound_202 : decode cL_sound 202 = .ok (.iconst 3, 1) := by decide +kernel
theorem dL_sound_203 : decode cL_sound 203 = .ok (.invokevirtual 93, 3) := by decide +kernel
theorem dL_sound_206 : decode cL_sound 206 = .ok (.iconst (-1), 1) := by decide +kernel
theorem dL_sound_207 : decode cL_sound 207 = .ok (.if_icmp .ne 7, 3) := by decide +kernel
theorem dL_sound_210 : decode cL_sound 210 = .ok (.iconst 1, 1) := by decide +kernel
theorem dL_sound_211 : decode cL_sound 211 = .ok (.goto 4, 3) := by decide +kernel
theorem dL_sound_214 : decode cL_sound 214 = .ok (.iconst 0, 1) := by decide +kernel
theorem dL_sound_215 : decode cL_sound 215 = .ok (.if_icmp .ne 24, 3) := by decide +kernel
theorem dL_sound_218 : decode cL_sound 218 = .ok (.iload 7, 2) := by decide +kernel
theorem dL_sound_220 : decode cL_sound 220 = .ok (.iconst (-1), 1) := by decide +kernel
theorem dL_sound_221 : decode cL_sound 221 = .ok (.if_icmp .eq 14, 3) := by decide +kernel
theorem dL_sound_224 : decode cL_sound 224 = .ok (.aload_n 0, 1) := by decide +kernel
theorem dL_sound_225 : decode cL_sound 225 = .ok (.iload 6, 2) := by decide +kernel
theorem dL_sound_227 : decode cL_sound 227 = .ok (.iconst 2, 1) := by decide +kernel
theorem dL_sound_228 : decode cL_sound 228 = .ok (.invokevirtual 93, 3) := by decide +kernel
theorem dL_sound_231 : decode cL_sound 231 = .ok (.iconst (-1), 1) := by decide +kernel
theorem dL_sound_232 : decode cL_sound 232 = .ok (.if_icmp .ne 7, 3) := by decide +kernel
theorem dL_sound_235 : decode cL_sound 235 = .ok (.iconst 1, 1) := by decide +kernel
theorem dL_sound_236 : decode cL_sound 236 = .ok (.goto 4, 3) := by decide +kernel
theorem dL_sound_239 : decode cL_sound 239 = .ok (.iconst 0, 1) := by decide +kernel
theorem dL_sound_240 : decode cL_sound 240 = .ok (.istore 5, 2) := by decide +kernel
theorem dL_sound_242 : decode cL_sound 242 = .ok (.iinc 6 1, 3) := by decide +kernel
theorem dL_sound_245 : decode cL_sound 245 = .ok (.goto (-232), 3) := by decide +kernel
theorem dL_sound_248 : decode cL_sound 248 = .ok (.iconst 0, 1) := by decide +kernel
theorem dL_sound_249 : decode cL_sound 249 = .ok (.istore 6, 2) := by decide +kernel
theorem dL_sound_251 : decode cL_sound 251 = .ok (.iload 6, 2) := by decide +kernel
theorem dL_sound_253 : decode cL_sound 253 = .ok (.aload_n 1, 1) := by decide +kernel
theorem dL_sound_254 : decode cL_sound 254 = .ok (.iconst 1, 1) := by decide +kernel
theorem dL_sound_255 : decode cL_sound 255 = .ok (.iaload, 1) := by decide +kernel
theorem dL_sound_256 : decode cL_sound 256 = .ok (.if_icmp .ge 112, 3) := by decide +kernel
theorem dL_sound_259 : decode cL_sound 259 = .ok (.iload 5, 2) := by decide +kernel
theorem dL_sound_261 : decode cL_sound 261 = .ok (.ifCond .eq 107, 3) := by decide +kernel
theorem dL_sound_264 : decode cL_sound 264 = .ok (.iload_n 2, 1) := by decide +kernel
theorem dL_sound_265 : decode cL_sound 265 = .ok (.aload_n 0, 1) := by decide +kernel
theorem dL_sound_266 : decode cL_sound 266 = .ok (.iload 6, 2) := by decide +kernel
theorem dL_sound_268 : decode cL_sound 268 = .ok (.iconst 0, 1) := by decide +kernel
theorem dL_sound_269 : decode cL_sound 269 = .ok (.invokevirtual 96, 3) := by decide +kernel
theorem dL_sound_272 : decode cL_sound 272 = .ok (.isub, 1) := by decide +kernel
theorem dL_sound_273 : decode cL_sound 273 = .ok (.istore_n 2, 1) := by decide +kernel
theorem dL_sound_274 : decode cL_sound 274 = .ok (.iload_n 3, 1) := by decide +kernel
theorem dL_sound_275 : decode cL_sound 275 = .ok (.aload_n 0, 1) := by decide +kernel
theorem dL_sound_276 : decode cL_sound 276 = .ok (.iload 6, 2) := by decide +kernel
theorem dL_sound_278 : decode cL_sound 278 = .ok (.iconst 1, 1) := by decide +kernel
theorem dL_sound_279 : decode cL_sound 279 = .ok (.invokevirtual 96, 3) := by decide +kernel
theorem dL_sound_282 : decode cL_sound 282 = .ok (.isub, 1) := by decide +kernel
theorem dL_sound_283 : decode cL_sound 283 = .ok (.istore_n 3, 1) := by decide +kernel
theorem dL_sound_284 : decode cL_sound 284 = .ok (.iload 4, 2) := by decide +kernel
theorem dL_sound_286 : decode cL_sound 286 = .ok (.aload_n 0, 1) := by decide +kernel
theorem dL_sound_287 : decode cL_sound 287 = .ok (.iload 6, 2) := by decide +kernel
theorem dL_sound_289 : decode cL_sound 289 = .ok (.invokevirtual 90, 3) := by decide +kernel
theorem dL_sound_292 : decode cL_sound 292 = .ok (.isub, 1) := by decide +kernel
theorem dL_sound_293 : decode cL_sound 293 = .ok (.istore 4, 2) := by decide +kernel
theorem dL_sound_295 : decode cL_sound 295 = .ok (.aload_n 0, 1) := by decide +kernel
theorem dL_sound_296 : decode cL_sound 296 = .ok (.iload 6, 2) := by decide +kernel
theorem dL_sound_298 : decode cL_sound 298 = .ok (.iconst 5, 1) := by decide +kernel
theorem dL_sound_299 : decode cL_sound 299 = .ok (.invokevirtual 44, 3) := by decide +kernel
theorem dL_sound_302 : decode cL_sound 302 = .ok (.iconst (-1), 1) := by decide +kernel
theorem dL_sound_303 : decode cL_sound 303 = .ok (.if_icmp .ne 7, 3) := by decide +kernel
theorem dL_sound_306 : decode cL_sound 306 = .ok (.iconst 1, 1) := by decide +kernel
theorem dL_sound_307 : decode cL_sound 307 = .ok (.goto 4, 3) := by decide +kernel
theorem dL_sound_310 : decode cL_sound 310 = .ok (.iconst 0, 1) := by decide +kernel
theorem dL_sound_311 : decode cL_sound 311 = .ok (.aload_n 0, 1) := by decide +kernel
theorem dL_sound_312 : decode cL_sound 312 = .ok (.iload 6, 2) := by decide +kernel
theorem dL_sound_314 : decode cL_sound 314 = .ok (.iconst 0, 1) := by decide +kernel
theorem dL_sound_315 : decode cL_sound 315 = .ok (.invokevirtual 96, 3) := by decide +kernel
theorem dL_sound_318 : decode cL_sound 318 = .ok (.ifCond .ne 7, 3) := by decide +kernel
theorem dL_sound_321 : decode cL_sound 321 = .ok (.iconst 1, 1) := by decide +kernel
theorem dL_sound_322 : decode cL_sound 322 = .ok (.goto 4, 3) := by decide +kernel
theorem dL_sound_325 : decode cL_sound 325 = .ok (.iconst 0, 1) := by decide +kernel
theorem dL_sound_326 : decode cL_sound 326 = .ok (.if_icmp .ne 33, 3) := by decide +kernel
theorem dL_sound_329 : decode cL_sound 329 = .ok (.aload_n 0, 1) := by decide +kernel
theorem dL_sound_330 : decode cL_sound 330 = .ok (.iload 6, 2) := by decide +kernel
theorem dL_sound_332 : decode cL_sound 332 = .ok (.iconst 1, 1) := by decide +kernel
theorem dL_sound_333 : decode cL_sound 333 = .ok (.invokevirtual 96, 3) := by decide +kernel
theorem dL_sound_336 : decode cL_sound 336 = .ok (.ifCond .eq 19, 3) := by decide +kernel
theorem dL_sound_339 : decode cL_sound 339 = .ok (.aload_n 0, 1) := by decide +kernel
theorem dL_sound_340 : decode cL_sound 340 = .ok (.iload 6, 2) := by decide +kernel
theorem dL_sound_342 : decode cL_sound 342 = .ok (.iconst 0, 1) := by decide +kernel
theorem dL_sound_343 : decode cL_sound 343 = .ok (.invokevirtual 96, 3) := by decide +kernel
theorem dL_sound_346 : decode cL_sound 346 = .ok (.iconst 1, 1) := by decide +kernel
theorem dL_sound_347 : decode cL_sound 347 = .ok (.iload 6, 2) := by decide +kernel
theorem dL_sound_349 : decode cL_sound 349 = .ok (.iconst 3, 1) := by decide +kernel
theorem dL_sound_350 : decode cL_sound 350 = .ok (.irem, 1) := by decide +kernel
theorem dL_sound_351 : decode cL_sound 351 = .ok (.iadd, 1) := by decide +kernel
theorem dL_sound_352 : decode cL_sound 352 = .ok (.if_icmp .ne 7, 3) := by decide +kernel
theorem dL_sound_355 : decode cL_sound 355 = .ok (.iconst 1, 1) := by decide +kernel
theorem dL_sound_356 : decode cL_sound 356 = .ok (.goto 4, 3) := by decide +kernel
theorem dL_sound_359 : decode cL_sound 359 = .ok (.iconst 0, 1) := by decide +kernel
theorem dL_sound_360 : decode cL_sound 360 = .ok (.istore 5, 2) := by decide +kernel
theorem dL_sound_362 : decode cL_sound 362 = .ok (.iinc 6 1, 3) := by decide +kernel
theorem dL_sound_365 : decode cL_sound 365 = .ok (.goto (-114), 3) := by decide +kernel
theorem dL_sound_368 : decode cL_sound 368 = .ok (.iload 5, 2) := by decide +kernel
theorem dL_sound_370 : decode cL_sound 370 = .ok (.ifCond .eq 20, 3) := by decide +kernel
theorem dL_sound_373 : decode cL_sound 373 = .ok (.iload_n 2, 1) := by decide +kernel
theorem dL_sound_374 : decode cL_sound 374 = .ok (.ifCond .ne 16, 3) := by decide +kernel
theorem dL_sound_377 : decode cL_sound 377 = .ok (.iload_n 3, 1) := by decide +kernel
theorem dL_sound_378 : decode cL_sound 378 = .ok (.ifCond .ne 12, 3) := by decide +kernel
theorem dL_sound_381 : decode cL_sound 381 = .ok (.iload 4, 2) := by decide +kernel
theorem dL_sound_383 : decode cL_sound 383 = .ok (.ifCond .ne 7, 3) := by decide +kernel
theorem dL_sound_386 : decode cL_sound 386 = .ok (.iconst 1, 1) := by decide +kernel
theorem dL_sound_387 : decode cL_sound 387 = .ok (.goto 4, 3) := by decide +kernel
theorem dL_sound_390 : decode cL_sound 390 = .ok (.iconst 0, 1) := by decide +kernel
theorem dL_sound_391 : decode cL_sound 391 = .ok (.ireturn, 1) := by decide +kernel
theorem dL_refused_0 : decode cL_refused 0 = .ok (.aload_n 0, 1) := by decide +kernel
theorem dL_refused_1 : decode cL_refused 1 = .ok (.aload_n 1, 1) := by decide +kernel
theorem dL_refused_2 : decode cL_refused 2 = .ok (.invokestatic 149, 3) := by decide +kernel
theorem dL_refused_5 : decode cL_refused 5 = .ok (.lstore_n 2, 1) := by decide +kernel
theorem dL_refused_6 : decode cL_refused 6 = .ok (.aload_n 0, 1) := by decide +kernel
theorem dL_refused_7 : decode cL_refused 7 = .ok (.iconst 0, 1) := by decide +kernel
theorem dL_refused_8 : decode cL_refused 8 = .ok (.iconst 4, 1) := by decide +kernel
theorem dL_refused_9 : decode cL_refused 9 = .ok (.iconst 5, 1) := by decide +kernel
theorem dL_refused_10 : decode cL_refused 10 = .ok (.iconst 1, 1) := by decide +kernel
theorem dL_refused_11 : decode cL_refused 11 = .ok (.iconst 0, 1) := by decide +kernel
theorem dL_refused_12 : decode cL_refused 12 = .ok (.invokestatic 131, 3) := by decide +kernel
theorem dL_refused_15 : decode cL_refused 15 = .ok (.ldc 20, 2) := by decide +kernel
theorem dL_refused_17 : decode cL_refused 17 = .ok (.if_icmp .ne 220, 3) := by decide +kernel
theorem dL_refused_20 : decode cL_refused 20 = .ok (.aload_n 0, 1) := by decide +kernel
theorem dL_refused_21 : decode cL_refused 21 = .ok (.iconst 1, 1) := by decide +kernel
theorem dL_refused_22 : decode cL_refused 22 = .ok (.bipush 18, 2) := by decide +kernel
theorem dL_refused_24 : decode cL_refused 24 = .ok (.iconst 0, 1) := by decide +kernel
theorem dL_refused_25 : decode cL_refused 25 = .ok (.iconst 0, 1) := by decide +kernel
theorem dL_refused_26 : decode cL_refused 26 = .ok (.iconst 0, 1) := by decide +kernel
theorem dL_refused_27 : decode cL_refused 27 = .ok (.invokestatic 131, 3) := by decide +kernel
theorem dL_refused_30 : decode cL_refused 30 = .ok (.ldc 20, 2) := by decide +kernel
theorem dL_refused_32 : decode cL_refused 32 = .ok (.if_icmp .ne 205, 3) := by decide +kernel
theorem dL_refused_35 : decode cL_refused 35 = .ok (.aload_n 0, 1) := by decide +kernel
theorem dL_refused_36 : decode cL_refused 36 = .ok (.iconst 2, 1) := by decide +kernel
theorem dL_refused_37 : decode cL_refused 37 = .ok (.bipush 24, 2) := by decide +kernel
theorem dL_refused_39 : decode cL_refused 39 = .ok (.iconst 0, 1) := by decide +kernel
theorem dL_refused_40 : decode cL_refused 40 = .ok (.iconst 0, 1) := by decide +kernel
theorem dL_refused_41 : decode cL_refused 41 = .ok (.iconst 0, 1) := by decide +kernel
theorem dL_refused_42 : decode cL_refused 42 = .ok (.invokestatic 131, 3) := by decide +kernel
theorem dL_refused_45 : decode cL_refused 45 = .ok (.ldc 17, 2) := by decide +kernel
theorem dL_refused_47 : decode cL_refused 47 = .ok (.if_icmp .ne 190, 3) := by decide +kernel
theorem dL_refused_50 : decode cL_refused 50 = .ok (.aload_n 0, 1) := by decide +kernel
theorem dL_refused_51 : decode cL_refused 51 = .ok (.iconst 3, 1) := by decide +kernel
theorem dL_refused_52 : decode cL_refused 52 = .ok (.iconst (-1), 1) := by decide +kernel
theorem dL_refused_53 : decode cL_refused 53 = .ok (.iconst 0, 1) := by decide +kernel
theorem dL_refused_54 : decode cL_refused 54 = .ok (.iconst 0, 1) := by decide +kernel
theorem dL_refused_55 : decode cL_refused 55 = .ok (.iconst 0, 1) := by decide +kernel
theorem dL_refused_56 : decode cL_refused 56 = .ok (.invokestatic 131, 3) := by decide +kernel
theorem dL_refused_59 : decode cL_refused 59 = .ok (.ldc 17, 2) := by decide +kernel
theorem dL_refused_61 : decode cL_refused 61 = .ok (.if_icmp .ne 176, 3) := by decide +kernel
theorem dL_refused_64 : decode cL_refused 64 = .ok (.aload_n 0, 1) := by decide +kernel
theorem dL_refused_65 : decode cL_refused 65 = .ok (.iconst 4, 1) := by decide +kernel
theorem dL_refused_66 : decode cL_refused 66 = .ok (.bipush 24, 2) := by decide +kernel
theorem dL_refused_68 : decode cL_refused 68 = .ok (.iconst 0, 1) := by decide +kernel
theorem dL_refused_69 : decode cL_refused 69 = .ok (.iconst 0, 1) := by decide +kernel
theorem dL_refused_70 : decode cL_refused 70 = .ok (.iconst 0, 1) := by decide +kernel
theorem dL_refused_71 : decode cL_refused 71 = .ok (.invokestatic 131, 3) := by decide +kernel
theorem dL_refused_74 : decode cL_refused 74 = .ok (.ldc 17, 2) := by decide +kernel
theorem dL_refused_76 : decode cL_refused 76 = .ok (.if_icmp .ne 161, 3) := by decide +kernel
theorem dL_refused_79 : decode cL_refused 79 = .ok (.aload_n 0, 1) := by decide +kernel
theorem dL_refused_80 : decode cL_refused 80 = .ok (.iconst 5, 1) := by decide +kernel
theorem dL_refused_81 : decode cL_refused 81 = .ok (.bipush 6, 2) := by decide +kernel
theorem dL_refused_83 : decode cL_refused 83 = .ok (.iconst 0, 1) := by decide +kernel
theorem dL_refused_84 : decode cL_refused 84 = .ok (.iconst 0, 1) := by decide +kernel
theorem dL_refused_85 : decode cL_refused 85 = .ok (.iconst 0, 1) := by decide +kernel
theorem dL_refused_86 : decode cL_refused 86 = .ok (.invokestatic 131, 3) := by decide +kernel
theorem dL_refused_89 : decode cL_refused 89 = .ok (.ldc 17, 2) := by decide +kernel
theorem dL_refused_91 : decode cL_refused 91 = .ok (.if_icmp .ne 146, 3) := by decide +kernel
theorem dL_refused_94 : decode cL_refused 94 = .ok (.aload_n 0, 1) := by decide +kernel
theorem dL_refused_95 : decode cL_refused 95 = .ok (.iconst 5, 1) := by decide +kernel
theorem dL_refused_96 : decode cL_refused 96 = .ok (.iconst 0, 1) := by decide +kernel
theorem dL_refused_97 : decode cL_refused 97 = .ok (.iconst (-1), 1) := by decide +kernel
theorem dL_refused_98 : decode cL_refused 98 = .ok (.iconst 0, 1) := by decide +kernel
theorem dL_refused_99 : decode cL_refused 99 = .ok (.iconst 0, 1) := by decide +kernel
theorem dL_refused_100 : decode cL_refused 100 = .ok (.invokestatic 131, 3) := by decide +kernel
theorem dL_refused_103 : decode cL_refused 103 = .ok (.ldc 20, 2) := by decide +kernel
theorem dL_refused_105 : decode cL_refused 105 = .ok (.if_icmp .ne 132, 3) := by decide +kernel
theorem dL_refused_108 : decode cL_refused 108 = .ok (.aload_n 0, 1) := by decide +kernel
theorem dL_refused_109 : decode cL_refused 109 = .ok (.bipush 6, 2) := by decide +kernel
theorem dL_refused_111 : decode cL_refused 111 = .ok (.iconst 0, 1) := by decide +kernel
theorem dL_refused_112 : decode cL_refused 112 = .ok (.iconst 0, 1) := by decide +kernel
theorem dL_refused_113 : decode cL_refused 113 = .ok (.iconst 0, 1) := by decide +kernel
theorem dL_refused_114 : decode cL_refused 114 = .ok (.iconst 0, 1) := by decide +kernel
theorem dL_refused_115 : decode cL_refused 115 = .ok (.invokestatic 131, 3) := by decide +kernel
theorem dL_refused_118 : decode cL_refused 118 = .ok (.ldc 20, 2) := by decide +kernel
theorem dL_refused_120 : decode cL_refused 120 = .ok (.if_icmp .ne 117, 3) := by decide +kernel
theorem dL_refused_123 : decode cL_refused 123 = .ok (.aload_n 0, 1) := by decide +kernel
theorem dL_refused_124 : decode cL_refused 124 = .ok (.bipush 9, 2) := by decide +kernel
theorem dL_refused_126 : decode cL_refused 126 = .ok (.bipush 8, 2) := by decide +kernel
theorem dL_refused_128 : decode cL_refused 128 = .ok (.iconst 0, 1) := by decide +kernel
theorem dL_refused_129 : decode cL_refused 129 = .ok (.iconst 0, 1) := by decide +kernel
theorem dL_refused_130 : decode cL_refused 130 = .ok (.iconst 0, 1) := by decide +kernel
theorem dL_refused_131 : decode cL_refused 131 = .ok (.invokestatic 131, 3) := by decide +kernel
theorem dL_refused_134 : decode cL_refused 134 = .ok (.ldc 17, 2) := by decide +kernel
theorem dL_refused_136 : decode cL_refused 136 = .ok (.if_icmp .ne 101, 3) := by decide +kernel
theorem dL_refused_139 : decode cL_refused 139 = .ok (.aload_n 0, 1) := by decide +kernel
theorem dL_refused_140 : decode cL_refused 140 = .ok (.bipush 10, 2) := by decide +kernel
theorem dL_refused_142 : decode cL_refused 142 = .ok (.iconst (-1), 1) := by decide +kernel
theorem dL_refused_143 : decode cL_refused 143 = .ok (.iconst 1, 1) := by decide +kernel
theorem dL_refused_144 : decode cL_refused 144 = .ok (.iconst 0, 1) := by decide +kernel
theorem dL_refused_145 : decode cL_refused 145 = .ok (.iconst 0, 1) := by decide +kernel
theorem dL_refused_146 : decode cL_refused 146 = .ok (.invokestatic 131, 3) := by decide +kernel
theorem dL_refused_149 : decode cL_refused 149 = .ok (.ldc 17, 2) := by decide +kernel
theorem dL_refused_151 : decode cL_refused 151 = .ok (.if_icmp .ne 86, 3) := by decide +kernel
theorem dL_refused_154 : decode cL_refused 154 = .ok (.aload_n 0, 1) := by decide +kernel
theorem dL_refused_155 : decode cL_refused 155 = .ok (.bipush 11, 2) := by decide +kernel
theorem dL_refused_157 : decode cL_refused 157 = .ok (.bipush 8, 2) := by decide +kernel
theorem dL_refused_159 : decode cL_refused 159 = .ok (.iconst 0, 1) := by decide +kernel
theorem dL_refused_160 : decode cL_refused 160 = .ok (.iconst 0, 1) := by decide +kernel
theorem dL_refused_161 : decode cL_refused 161 = .ok (.iconst 0, 1) := by decide +kernel
theorem dL_refused_162 : decode cL_refused 162 = .ok (.invokestatic 131, 3) := by decide +kernel
theorem dL_refused_165 : decode cL_refused 165 = .ok (.ldc 17, 2) := by decide +kernel
theorem dL_refused_167 : decode cL_refused 167 = .ok (.if_icmp .ne 70, 3) := by decide +kernel
theorem dL_refused_170 : decode cL_refused 170 = .ok (.aload_n 0, 1) := by decide +kernel
theorem dL_refused_171 : decode cL_refused 171 = .ok (.bipush 12, 2) := by decide +kernel
theorem dL_refused_173 : decode cL_refused 173 = .ok (.bipush 24, 2) := by decide +kernel
theorem dL_refused_175 : decode cL_refused 175 = .ok (.iconst 0, 1) := by decide +kernel
theorem dL_refused_176 : decode cL_refused 176 = .ok (.iconst 0, 1) := by decide +kernel
theorem dL_refused_177 : decode cL_refused 177 = .ok (.iconst 0, 1) := by decide +kernel
theorem dL_refused_178 : decode cL_refused 178 = .ok (.invokestatic 131, 3) := by decide +kernel
theorem dL_refused_181 : decode cL_refused 181 = .ok (.ldc 17, 2) := by decide +kernel
theorem dL_refused_183 : decode cL_refused 183 = .ok (.if_icmp .ne 54, 3) := by decide +kernel
theorem dL_refused_186 : decode cL_refused 186 = .ok (.aload_n 0, 1) := by decide +kernel
theorem dL_refused_187 : decode cL_refused 187 = .ok (.bipush 13, 2) := by decide +kernel
theorem dL_refused_189 : decode cL_refused 189 = .ok (.bipush 24, 2) := by decide +kernel
theorem dL_refused_191 : decode cL_refused 191 = .ok (.iconst 0, 1) := by decide +kernel
theorem dL_refused_192 : decode cL_refused 192 = .ok (.iconst 0, 1) := by decide +kernel
theorem dL_refused_193 : decode cL_refused 193 = .ok (.iconst 0, 1) := by decide +kernel
theorem dL_refused_194 : decode cL_refused 194 = .ok (.invokestatic 131, 3) := by decide +kernel
theorem dL_refused_197 : decode cL_refused 197 = .ok (.ldc 17, 2) := by decide +kernel
theorem dL_refused_199 : decode cL_refused 199 = .ok (.if_icmp .ne 38, 3) := by decide +kernel
theorem dL_refused_202 : decode cL_refused 202 = .ok (.aload_n 0, 1) := by decide +kernel
theorem dL_refused_203 : decode cL_refused 203 = .ok (.bipush 14, 2) := by decide +kernel
theorem dL_refused_205 : decode cL_refused 205 = .ok (.bipush 20, 2) := by decide +kernel
theorem dL_refused_207 : decode cL_refused 207 = .ok (.iconst 0, 1) := by decide +kernel
theorem dL_refused_208 : decode cL_refused 208 = .ok (.iconst 1, 1) := by decide +kernel
theorem dL_refused_209 : decode cL_refused 209 = .ok (.iconst 0, 1) := by decide +kernel
theorem dL_refused_210 : decode cL_refused 210 = .ok (.invokestatic 131, 3) := by decide +kernel
theorem dL_refused_213 : decode cL_refused 213 = .ok (.ldc 17, 2) := by decide +kernel
theorem dL_refused_215 : decode cL_refused 215 = .ok (.if_icmp .ne 22, 3) := by decide +kernel
theorem dL_refused_218 : decode cL_refused 218 = .ok (.aload_n 0, 1) := by decide +kernel
theorem dL_refused_219 : decode cL_refused 219 = .ok (.bipush 15, 2) := by decide +kernel
theorem dL_refused_221 : decode cL_refused 221 = .ok (.iconst (-1), 1) := by decide +kernel
theorem dL_refused_222 : decode cL_refused 222 = .ok (.iconst 0, 1) := by decide +kernel
theorem dL_refused_223 : decode cL_refused 223 = .ok (.iconst 0, 1) := by decide +kernel
theorem dL_refused_224 : decode cL_refused 224 = .ok (.iconst 0, 1) := by decide +kernel
theorem dL_refused_225 : decode cL_refused 225 = .ok (.invokestatic 131, 3) := by decide +kernel
theorem dL_refused_228 : decode cL_refused 228 = .ok (.ldc 17, 2) := by decide +kernel
theorem dL_refused_230 : decode cL_refused 230 = .ok (.if_icmp .ne 7, 3) := by decide +kernel
theorem dL_refused_233 : decode cL_refused 233 = .ok (.iconst 1, 1) := by decide +kernel
theorem dL_refused_234 : decode cL_refused 234 = .ok (.goto 4, 3) := by decide +kernel
theorem dL_refused_237 : decode cL_refused 237 = .ok (.iconst 0, 1) := by decide +kernel
theorem dL_refused_238 : decode cL_refused 238 = .ok (.istore 4, 2) := by decide +kernel
theorem dL_refused_240 : decode cL_refused 240 = .ok (.iload 4, 2) := by decide +kernel
theorem dL_refused_242 : decode cL_refused 242 = .ok (.ifCond .eq 240, 3) := by decide +kernel
theorem dL_refused_245 : decode cL_refused 245 = .ok (.aload_n 0, 1) := by decide +kernel
theorem dL_refused_246 : decode cL_refused 246 = .ok (.bipush 8, 2) := by decide +kernel
theorem dL_refused_248 : decode cL_refused 248 = .ok (.iconst 0, 1) := by decide +kernel
theorem dL_refused_249 : decode cL_refused 249 = .ok (.iconst 0, 1) := by decide +kernel
theorem dL_refused_250 : decode cL_refused 250 = .ok (.iconst 0, 1) := by decide +kernel
theorem dL_refused_251 : decode cL_refused 251 = .ok (.iconst (-1), 1) := by decide +kernel
theorem dL_refused_252 : decode cL_refused 252 = .ok (.iconst 0, 1) := by decide +kernel
theorem dL_refused_253 : decode cL_refused 253 = .ok (.iconst 0, 1) := by decide +kernel
theorem dL_refused_254 : decode cL_refused 254 = .ok (.invokestatic 142, 3) := by decide +kernel
theorem dL_refused_257 : decode cL_refused 257 = .ok (.ldc 17, 2) := by decide +kernel
theorem dL_refused_259 : decode cL_refused 259 = .ok (.if_icmp .ne 223, 3) := by decide +kernel
theorem dL_refused_262 : decode cL_refused 262 = .ok (.aload_n 0, 1) := by decide +kernel
theorem dL_refused_263 : decode cL_refused 263 = .ok (.iconst 0, 1) := by decide +kernel
theorem dL_refused_264 : decode cL_refused 264 = .ok (.iconst 3, 1) := by decide +kernel
theorem dL_refused_265 : decode cL_refused 265 = .ok (.iconst 1, 1) := by decide +kernel
theorem dL_refused_266 : decode cL_refused 266 = .ok (.iconst 0, 1) := by decide +kernel
theorem dL_refused_267 : decode cL_refused 267 = .ok (.iconst (-1), 1) := by decide +kernel
theorem dL_refused_268 : decode cL_refused 268 = .ok (.iconst 0, 1) := by decide +kernel
theorem dL_refused_269 : decode cL_refused 269 = .ok (.iconst 0, 1) := by decide +kernel
theorem dL_refused_270 : decode cL_refused 270 = .ok (.invokestatic 142, 3) := by decide +kernel
theorem dL_refused_273 : decode cL_refused 273 = .ok (.ldc 20, 2) := by decide +kernel
theorem dL_refused_275 : decode cL_refused 275 = .ok (.if_icmp .ne 207, 3) := by decide +kernel
theorem dL_refused_278 : decode cL_refused 278 = .ok (.aload_n 0, 1) := by decide +kernel
theorem dL_refused_279 : decode cL_refused 279 = .ok (.bipush 6, 2) := by decide +kernel
theorem dL_refused_281 : decode cL_refused 281 = .ok (.iconst 0, 1) := by decide +kernel
theorem dL_refused_282 : decode cL_refused 282 = .ok (.iconst 0, 1) := by decide +kernel
theorem dL_refused_283 : decode cL_refused 283 = .ok (.iconst 0, 1) := by decide +kernel
theorem dL_refused_284 : decode cL_refused 284 = .ok (.iconst 0, 1) := by decide +kernel
theorem dL_refused_285 : decode cL_refused 285 = .ok (.iconst 1, 1) := by decide +kernel
theorem dL_refused_286 : decode cL_refused 286 = .ok (.invokestatic 146, 3) := by decide +kernel
theorem dL_refused_289 : decode cL_refused 289 = .ok (.ldc 17, 2) := by decide +kernel
theorem dL_refused_291 : decode cL_refused 291 = .ok (.if_icmp .ne 191, 3) := by decide +kernel
theorem dL_refused_294 : decode cL_refused 294 = .ok (.aload_n 0, 1) := by decide +kernel
theorem dL_refused_295 : decode cL_refused 295 = .ok (.iconst 0, 1) := by decide +kernel
theorem dL_refused_296 : decode cL_refused 296 = .ok (.iconst 0, 1) := by decide +kernel
theorem dL_refused_297 : decode cL_refused 297 = .ok (.iconst 4, 1) := by decide +kernel
theorem dL_refused_298 : decode cL_refused 298 = .ok (.sipush 9999, 3) := by decide +kernel
theorem dL_refused_301 : decode cL_refused 301 = .ok (.iconst 0, 1) := by decide +kernel
theorem dL_refused_302 : decode cL_refused 302 = .ok (.iconst 1, 1) := by decide +kernel
theorem dL_refused_303 : decode cL_refused 303 = .ok (.invokestatic 146, 3) := by decide +kernel
theorem dL_refused_306 : decode cL_refused 306 = .ok (.ldc 20, 2) := by decide +kernel
theorem dL_refused_308 : decode cL_refused 308 = .ok (.if_icmp .ne 174, 3) := by decide +kernel
theorem dL_refused_311 : decode cL_refused 311 = .ok (.aload_n 0, 1) := by decide +kernel
theorem dL_refused_312 : decode cL_refused 312 = .ok (.bipush 16, 2) := by decide +kernel
theorem dL_refused_314 : decode cL_refused 314 = .ok (.iconst 0, 1) := by decide +kernel
theorem dL_refused_315 : decode cL_refused 315 = .ok (.iconst (-1), 1) := by decide +kernel
theorem dL_refused_316 : decode cL_refused 316 = .ok (.iconst 0, 1) := by decide +kernel
theorem dL_refused_317 : decode cL_refused 317 = .ok (.iconst 0, 1) := by decide +kernel
theorem dL_refused_318 : decode cL_refused 318 = .ok (.invokestatic 131, 3) := by decide +kernel
theorem dL_refused_321 : decode cL_refused 321 = .ok (.ldc 20, 2) := by decide +kernel
theorem dL_refused_323 : decode cL_refused 323 = .ok (.if_icmp .ne 159, 3) := by decide +kernel
theorem dL_refused_326 : decode cL_refused 326 = .ok (.aload_n 0, 1) := by decide +kernel
theorem dL_refused_327 : decode cL_refused 327 = .ok (.bipush 16, 2) := by decide +kernel
theorem dL_refused_329 : decode cL_refused 329 = .ok (.iconst 0, 1) := by decide +kernel
theorem dL_refused_330 : decode cL_refused 330 = .ok (.iconst 0, 1) := by decide +kernel
theorem dL_refused_331 : decode cL_refused 331 = .ok (.sipush 256, 3) := by decide +kernel
theorem dL_refused_334 : decode cL_refused 334 = .ok (.iconst 0, 1) := by decide +kernel
theorem dL_refused_335 : decode cL_refused 335 = .ok (.invokestatic 131, 3) := by decide +kernel
theorem dL_refused_338 : decode cL_refused 338 = .ok (.ldc 20, 2) := by decide +kernel
theorem dL_refused_340 : decode cL_refused 340 = .ok (.if_icmp .ne 142, 3) := by decide +kernel
theorem dL_refused_343 : decode cL_refused 343 = .ok (.aload_n 0, 1) := by decide +kernel
theorem dL_refused_344 : decode cL_refused 344 = .ok (.bipush 17, 2) := by decide +kernel
theorem dL_refused_346 : decode cL_refused 346 = .ok (.bipush 24, 2) := by decide +kernel
theorem dL_refused_348 : decode cL_refused 348 = .ok (.iconst 1, 1) := by decide +kernel
theorem dL_refused_349 : decode cL_refused 349 = .ok (.iconst 0, 1) := by decide +kernel
theorem dL_refused_350 : decode cL_refused 350 = .ok (.iconst 0, 1) := by decide +kernel
theorem dL_refused_351 : decode cL_refused 351 = .ok (.invokestatic 131, 3) := by decide +kernel
theorem dL_refused_354 : decode cL_refused 354 = .ok (.ldc 17, 2) := by decide +kernel
theorem dL_refused_356 : decode cL_refused 356 = .ok (.if_icmp .ne 126, 3) := by decide +kernel
theorem dL_refused_359 : decode cL_refused 359 = .ok (.aload_n 0, 1) := by decide +kernel
theorem dL_refused_360 : decode cL_refused 360 = .ok (.bipush 18, 2) := by decide +kernel
theorem dL_refused_362 : decode cL_refused 362 = .ok (.iconst (-1), 1) := by decide +kernel
theorem dL_refused_363 : decode cL_refused 363 = .ok (.iconst 1, 1) := by decide +kernel
theorem dL_refused_364 : decode cL_refused 364 = .ok (.iconst 0, 1) := by decide +kernel
theorem dL_refused_365 : decode cL_refused 365 = .ok (.iconst 0, 1) := by decide +kernel
theorem dL_refused_366 : decode cL_refused 366 = .ok (.invokestatic 131, 3) := by decide +kernel
theorem dL_refused_369 : decode cL_refused 369 = .ok (.ldc 17, 2) := by decide +kernel
theorem dL_refused_371 : decode cL_refused 371 = .ok (.if_icmp .ne 111, 3) := by decide +kernel
theorem dL_refused_374 : decode cL_refused 374 = .ok (.aload_n 0, 1) := by decide +kernel
theorem dL_refused_375 : decode cL_refused 375 = .ok (.bipush 19, 2) := by decide +kernel
theorem dL_refused_377 : decode cL_refused 377 = .ok (.bipush 6, 2) := by decide +kernel
theorem dL_refused_379 : decode cL_refused 379 = .ok (.iconst 0, 1) := by decide +kernel
theorem dL_refused_380 : decode cL_refused 380 = .ok (.iconst 0, 1) := by decide +kernel
theorem dL_refused_381 : decode cL_refused 381 = .ok (.iconst 0, 1) := by decide +kernel
theorem dL_refused_382 : decode cL_refused 382 = .ok (.invokestatic 131, 3) := by decide +kernel
theorem dL_refused_385 : decode cL_refused 385 = .ok (.ldc 17, 2) := by decide +kernel
theorem dL_refused_387 : decode cL_refused 387 = .ok (.if_icmp .ne 95, 3) := by decide +kernel
theorem dL_refused_390 : decode cL_refused 390 = .ok (.aload_n 0, 1) := by decide +kernel
theorem dL_refused_391 : decode cL_refused 391 = .ok (.bipush 20, 2) := by decide +kernel
theorem dL_refused_393 : decode cL_refused 393 = .ok (.bipush 24, 2) := by decide +kernel
theorem dL_refused_395 : decode cL_refused 395 = .ok (.iconst 0, 1) := by decide +kernel
theorem dL_refused_396 : decode cL_refused 396 = .ok (.iconst 0, 1) := by decide +kernel
theorem dL_refused_397 : decode cL_refused 397 = .ok (.iconst 0, 1) := by decide +kernel
theorem dL_refused_398 : decode cL_refused 398 = .ok (.invokestatic 131, 3) := by decide +kernel
theorem dL_refused_401 : decode cL_refused 401 = .ok (.ldc 17, 2) := by decide +kernel
theorem dL_refused_403 : decode cL_refused 403 = .ok (.if_icmp .ne 79, 3) := by decide +kernel
theorem dL_refused_406 : decode cL_refused 406 = .ok (.aload_n 0, 1) := by decide +kernel
theorem dL_refused_407 : decode cL_refused 407 = .ok (.bipush 21, 2) := by decide +kernel
theorem dL_refused_409 : decode cL_refused 409 = .ok (.iconst (-1), 1) := by decide +kernel
theorem dL_refused_410 : decode cL_refused 410 = .ok (.iconst 0, 1) := by decide +kernel
theorem dL_refused_411 : decode cL_refused 411 = .ok (.iconst 0, 1) := by decide +kernel
theorem dL_refused_412 : decode cL_refused 412 = .ok (.iconst 0, 1) := by decide +kernel
theorem dL_refused_413 : decode cL_refused 413 = .ok (.invokestatic 131, 3) := by decide +kernel
theorem dL_refused_416 : decode cL_refused 416 = .ok (.ldc 17, 2) := by decide +kernel
theorem dL_refused_418 : decode cL_refused 418 = .ok (.if_icmp .ne 64, 3) := by decide +kernel
theorem dL_refused_421 : decode cL_refused 421 = .ok (.aload_n 0, 1) := by decide +kernel
theorem dL_refused_422 : decode cL_refused 422 = .ok (.bipush 22, 2) := by decide +kernel
theorem dL_refused_424 : decode cL_refused 424 = .ok (.bipush 24, 2) := by decide +kernel
theorem dL_refused_426 : decode cL_refused 426 = .ok (.iconst 0, 1) := by decide +kernel
theorem dL_refused_427 : decode cL_refused 427 = .ok (.iconst 0, 1) := by decide +kernel
theorem dL_refused_428 : decode cL_refused 428 = .ok (.iconst 0, 1) := by decide +kernel
theorem dL_refused_429 : decode cL_refused 429 = .ok (.invokestatic 131, 3) := by decide +kernel
theorem dL_refused_432 : decode cL_refused 432 = .ok (.ldc 17, 2) := by decide +kernel
theorem dL_refused_434 : decode cL_refused 434 = .ok (.if_icmp .ne 48, 3) := by decide +kernel
theorem dL_refused_437 : decode cL_refused 437 = .ok (.aload_n 0, 1) := by decide +kernel
theorem dL_refused_438 : decode cL_refused 438 = .ok (.bipush 23, 2) := by decide +kernel
theorem dL_refused_440 : decode cL_refused 440 = .ok (.iconst 0, 1) := by decide +kernel
theorem dL_refused_441 : decode cL_refused 441 = .ok (.bipush 8, 2) := by decide +kernel
theorem dL_refused_443 : decode cL_refused 443 = .ok (.iconst 0, 1) := by decide +kernel
theorem dL_refused_444 : decode cL_refused 444 = .ok (.iconst 0, 1) := by decide +kernel
theorem dL_refused_445 : decode cL_refused 445 = .ok (.invokestatic 131, 3) := by decide +kernel
theorem dL_refused_448 : decode cL_refused 448 = .ok (.ldc 17, 2) := by decide +kernel
theorem dL_refused_450 : decode cL_refused 450 = .ok (.if_icmp .ne 32, 3) := by decide +kernel
theorem dL_refused_453 : decode cL_refused 453 = .ok (.aload_n 0, 1) := by decide +kernel
theorem dL_refused_454 : decode cL_refused 454 = .ok (.bipush 24, 2) := by decide +kernel
theorem dL_refused_456 : decode cL_refused 456 = .ok (.iconst 0, 1) := by decide +kernel
theorem dL_refused_457 : decode cL_refused 457 = .ok (.iconst (-1), 1) := by decide +kernel
theorem dL_refused_458 : decode cL_refused 458 = .ok (.iconst 0, 1) := by decide +kernel
theorem dL_refused_459 : decode cL_refused 459 = .ok (.iconst 0, 1) := by decide +kernel
theorem dL_refused_460 : decode cL_refused 460 = .ok (.invokestatic 131, 3) := by decide +kernel
theorem dL_refused_463 : decode cL_refused 463 = .ok (.ldc 17, 2) := by decide +kernel
theorem dL_refused_465 : decode cL_refused 465 = .ok (.if_icmp .ne 17, 3) := by decide +kernel
theorem dL_refused_468 : decode cL_refused 468 = .ok (.aload_n 0, 1) := by decide +kernel
theorem dL_refused_469 : decode cL_refused 469 = .ok (.aload_n 1, 1) := by decide +kernel
theorem dL_refused_470 : decode cL_refused 470 = .ok (.invokestatic 149, 3) := by decide +kernel
theorem dL_refused_473 : decode cL_refused 473 = .ok (.lload_n 2, 1) := by decide +kernel
theorem dL_refused_474 : decode cL_refused 474 = .ok (.lcmp, 1) := by decide +kernel
theorem dL_refused_475 : decode cL_refused 475 = .ok (.ifCond .ne 7, 3) := by decide +kernel
theorem dL_refused_478 : decode cL_refused 478 = .ok (.iconst 1, 1) := by decide +kernel
theorem dL_refused_479 : decode cL_refused 479 = .ok (.goto 4, 3) := by decide +kernel
theorem dL_refused_482 : decode cL_refused 482 = .ok (.iconst 0, 1) := by decide +kernel
theorem dL_refused_483 : decode cL_refused 483 = .ok (.ireturn, 1) := by decide +kernel
theorem dL_law_0 : decode cL_law 0 = .ok (.new 25, 3) := by decide +kernel
theorem dL_law_3 : decode cL_law 3 = .ok (.dup, 1) := by decide +kernel
theorem dL_law_4 : decode cL_law 4 = .ok (.invokespecial 153, 3) := by decide +kernel
theorem dL_law_7 : decode cL_law 7 = .ok (.astore_n 1, 1) := by decide +kernel
theorem dL_law_8 : decode cL_law 8 = .ok (.new 25, 3) := by decide +kernel
theorem dL_law_11 : decode cL_law 11 = .ok (.dup, 1) := by decide +kernel
theorem dL_law_12 : decode cL_law 12 = .ok (.invokespecial 153, 3) := by decide +kernel
theorem dL_law_15 : decode cL_law 15 = .ok (.astore_n 2, 1) := by decide +kernel
theorem dL_law_16 : decode cL_law 16 = .ok (.bipush 40, 2) := by decide +kernel
theorem dL_law_18 : decode cL_law 18 = .ok (.newarray .int, 2) := by decide +kernel
theorem dL_law_20 : decode cL_law 20 = .ok (.astore_n 3, 1) := by decide +kernel
theorem dL_law_21 : decode cL_law 21 = .ok (.iconst 1, 1) := by decide +kernel
theorem dL_law_22 : decode cL_law 22 = .ok (.istore 4, 2) := by decide +kernel
theorem dL_law_24 : decode cL_law 24 = .ok (.iconst 0, 1) := by decide +kernel
theorem dL_law_25 : decode cL_law 25 = .ok (.istore 5, 2) := by decide +kernel
theorem dL_law_27 : decode cL_law 27 = .ok (.iload 5, 2) := by decide +kernel
theorem dL_law_29 : decode cL_law 29 = .ok (.iconst 4, 1) := by decide +kernel
theorem dL_law_30 : decode cL_law 30 = .ok (.if_icmp .ge 68, 3) := by decide +kernel
theorem dL_law_33 : decode cL_law 33 = .ok (.iload 4, 2) := by decide +kernel
theorem dL_law_35 : decode cL_law 35 = .ok (.ifCond .eq 63, 3) := by decide +kernel
theorem dL_law_38 : decode cL_law 38 = .ok (.aload_n 1, 1) := by decide +kernel
theorem dL_law_39 : decode cL_law 39 = .ok (.aload_n 2, 1) := by decide +kernel
theorem dL_law_40 : decode cL_law 40 = .ok (.iconst 0, 1) := by decide +kernel
theorem dL_law_41 : decode cL_law 41 = .ok (.iconst 5, 1) := by decide +kernel
theorem dL_law_42 : decode cL_law 42 = .ok (.aload_n 0, 1) := by decide +kernel
theorem dL_law_43 : decode cL_law 43 = .ok (.iload 5, 2) := by decide +kernel
theorem dL_law_45 : decode cL_law 45 = .ok (.invokestatic 154, 3) := by decide +kernel
theorem dL_law_48 : decode cL_law 48 = .ok (.bipush 6, 2) := by decide +kernel
theorem dL_law_50 : decode cL_law 50 = .ok (.invokestatic 135, 3) := by decide +kernel
theorem dL_law_53 : decode cL_law 53 = .ok (.iadd, 1) := by decide +kernel
theorem dL_law_54 : decode cL_law 54 = .ok (.bipush 11, 2) := by decide +kernel
theorem dL_law_56 : decode cL_law 56 = .ok (.aload_n 0, 1) := by decide +kernel
theorem dL_law_57 : decode cL_law 57 = .ok (.iload 5, 2) := by decide +kernel
theorem dL_law_59 : decode cL_law 59 = .ok (.invokestatic 154, 3) := by decide +kernel
theorem dL_law_62 : decode cL_law 62 = .ok (.iconst 3, 1) := by decide +kernel
theorem dL_law_63 : decode cL_law 63 = .ok (.ishr, 1) := by decide +kernel
theorem dL_law_64 : decode cL_law 64 = .ok (.bipush 6, 2) := by decide +kernel
theorem dL_law_66 : decode cL_law 66 = .ok (.invokestatic 135, 3) := by decide +kernel
theorem dL_law_69 : decode cL_law 69 = .ok (.iadd, 1) := by decide +kernel
theorem dL_law_70 : decode cL_law 70 = .ok (.iconst 1, 1) := by decide +kernel
theorem dL_law_71 : decode cL_law 71 = .ok (.iload 5, 2) := by decide +kernel
theorem dL_law_73 : decode cL_law 73 = .ok (.iconst 3, 1) := by decide +kernel
theorem dL_law_74 : decode cL_law 74 = .ok (.irem, 1) := by decide +kernel
theorem dL_law_75 : decode cL_law 75 = .ok (.iadd, 1) := by decide +kernel
theorem dL_law_76 : decode cL_law 76 = .ok (.iconst 0, 1) := by decide +kernel
theorem dL_law_77 : decode cL_law 77 = .ok (.invokestatic 138, 3) := by decide +kernel
theorem dL_law_80 : decode cL_law 80 = .ok (.iload 5, 2) := by decide +kernel
theorem dL_law_82 : decode cL_law 82 = .ok (.if_icmp .ne 7, 3) := by decide +kernel
theorem dL_law_85 : decode cL_law 85 = .ok (.iconst 1, 1) := by decide +kernel
theorem dL_law_86 : decode cL_law 86 = .ok (.goto 4, 3) := by decide +kernel
theorem dL_law_89 : decode cL_law 89 = .ok (.iconst 0, 1) := by decide +kernel
theorem dL_law_90 : decode cL_law 90 = .ok (.istore 4, 2) := by decide +kernel
theorem dL_law_92 : decode cL_law 92 = .ok (.iinc 5 1, 3) := by decide +kernel
theorem dL_law_95 : decode cL_law 95 = .ok (.goto (-68), 3) := by decide +kernel
theorem dL_law_98 : decode cL_law 98 = .ok (.aload_n 3, 1) := by decide +kernel
theorem dL_law_99 : decode cL_law 99 = .ok (.iconst 1, 1) := by decide +kernel
theorem dL_law_100 : decode cL_law 100 = .ok (.iconst 4, 1) := by decide +kernel
theorem dL_law_101 : decode cL_law 101 = .ok (.iastore, 1) := by decide +kernel
theorem dL_law_102 : decode cL_law 102 = .ok (.iload 4, 2) := by decide +kernel
theorem dL_law_104 : decode cL_law 104 = .ok (.ifCond .eq 15, 3) := by decide +kernel
theorem dL_law_107 : decode cL_law 107 = .ok (.aload_n 1, 1) := by decide +kernel
theorem dL_law_108 : decode cL_law 108 = .ok (.aload_n 3, 1) := by decide +kernel
theorem dL_law_109 : decode cL_law 109 = .ok (.invokestatic 158, 3) := by decide +kernel
theorem dL_law_112 : decode cL_law 112 = .ok (.ifCond .eq 7, 3) := by decide +kernel
theorem dL_law_115 : decode cL_law 115 = .ok (.iconst 1, 1) := by decide +kernel
theorem dL_law_116 : decode cL_law 116 = .ok (.goto 4, 3) := by decide +kernel
theorem dL_law_119 : decode cL_law 119 = .ok (.iconst 0, 1) := by decide +kernel
theorem dL_law_120 : decode cL_law 120 = .ok (.istore 4, 2) := by decide +kernel
theorem dL_law_122 : decode cL_law 122 = .ok (.iconst 0, 1) := by decide +kernel
theorem dL_law_123 : decode cL_law 123 = .ok (.istore 5, 2) := by decide +kernel
theorem dL_law_125 : decode cL_law 125 = .ok (.iload 5, 2) := by decide +kernel
theorem dL_law_127 : decode cL_law 127 = .ok (.bipush 90, 2) := by decide +kernel
theorem dL_law_129 : decode cL_law 129 = .ok (.if_icmp .ge 213, 3) := by decide +kernel
theorem dL_law_132 : decode cL_law 132 = .ok (.iload 4, 2) := by decide +kernel
theorem dL_law_134 : decode cL_law 134 = .ok (.ifCond .eq 208, 3) := by decide +kernel
theorem dL_law_137 : decode cL_law 137 = .ok (.aload_n 0, 1) := by decide +kernel
theorem dL_law_138 : decode cL_law 138 = .ok (.iconst 4, 1) := by decide +kernel
theorem dL_law_139 : decode cL_law 139 = .ok (.iconst 2, 1) := by decide +kernel
theorem dL_law_140 : decode cL_law 140 = .ok (.iload 5, 2) := by decide +kernel
theorem dL_law_142 : decode cL_law 142 = .ok (.imul, 1) := by decide +kernel
theorem dL_law_143 : decode cL_law 143 = .ok (.iadd, 1) := by decide +kernel
theorem dL_law_144 : decode cL_law 144 = .ok (.invokestatic 154, 3) := by decide +kernel
theorem dL_law_147 : decode cL_law 147 = .ok (.istore 6, 2) := by decide +kernel
theorem dL_law_149 : decode cL_law 149 = .ok (.aload_n 0, 1) := by decide +kernel
theorem dL_law_150 : decode cL_law 150 = .ok (.iconst 5, 1) := by decide +kernel
theorem dL_law_151 : decode cL_law 151 = .ok (.iconst 2, 1) := by decide +kernel
theorem dL_law_152 : decode cL_law 152 = .ok (.iload 5, 2) := by decide +kernel
theorem dL_law_154 : decode cL_law 154 = .ok (.imul, 1) := by decide +kernel
theorem dL_law_155 : decode cL_law 155 = .ok (.iadd, 1) := by decide +kernel
theorem dL_law_156 : decode cL_law 156 = .ok (.invokestatic 154, 3) := by decide +kernel
theorem dL_law_159 : decode cL_law 159 = .ok (.istore 7, 2) := by decide +kernel
theorem dL_law_161 : decode cL_law 161 = .ok (.iload 6, 2) := by decide +kernel
theorem dL_law_163 : decode cL_law 163 = .ok (.bipush 24, 2) := by decide +kernel
theorem dL_law_165 : decode cL_law 165 = .ok (.invokestatic 135, 3) := by decide +kernel
theorem dL_law_168 : decode cL_law 168 = .ok (.istore 8, 2) := by decide +kernel
theorem dL_law_170 : decode cL_law 170 = .ok (.iload 8, 2) := by decide +kernel
theorem dL_law_172 : decode cL_law 172 = .ok (.bipush 9, 2) := by decide +kernel
theorem dL_law_174 : decode cL_law 174 = .ok (.if_icmp .lt 9, 3) := by decide +kernel
theorem dL_law_177 : decode cL_law 177 = .ok (.iload 5, 2) := by decide +kernel
theorem dL_law_179 : decode cL_law 179 = .ok (.iconst 4, 1) := by decide +kernel
theorem dL_law_180 : decode cL_law 180 = .ok (.if_icmp .ge 18, 3) := by decide +kernel
theorem dL_law_183 : decode cL_law 183 = .ok (.aload_n 1, 1) := by decide +kernel
theorem dL_law_184 : decode cL_law 184 = .ok (.aload_n 2, 1) := by decide +kernel
theorem dL_law_185 : decode cL_law 185 = .ok (.aload_n 3, 1) := by decide +kernel
theorem dL_law_186 : decode cL_law 186 = .ok (.iload 6, 2) := by decide +kernel
theorem dL_law_188 : decode cL_law 188 = .ok (.iconst 5, 1) := by decide +kernel
theorem dL_law_189 : decode cL_law 189 = .ok (.ishr, 1) := by decide +kernel
theorem dL_law_190 : decode cL_law 190 = .ok (.iload 7, 2) := by decide +kernel
theorem dL_law_192 : decode cL_law 192 = .ok (.invokestatic 162, 3) := by decide +kernel
theorem dL_law_195 : decode cL_law 195 = .ok (.goto 81, 3) := by decide +kernel
theorem dL_law_198 : decode cL_law 198 = .ok (.iload 8, 2) := by decide +kernel
theorem dL_law_200 : decode cL_law 200 = .ok (.bipush 14, 2) := by decide +kernel
theorem dL_law_202 : decode cL_law 202 = .ok (.if_icmp .ge 18, 3) := by decide +kernel
theorem dL_law_205 : decode cL_law 205 = .ok (.aload_n 1, 1) := by decide +kernel
theorem dL_law_206 : decode cL_law 206 = .ok (.aload_n 2, 1) := by decide +kernel
theorem dL_law_207 : decode cL_law 207 = .ok (.aload_n 3, 1) := by decide +kernel
theorem dL_law_208 : decode cL_law 208 = .ok (.iload 6, 2) := by decide +kernel
theorem dL_law_210 : decode cL_law 210 = .ok (.iconst 5, 1) := by decide +kernel
theorem dL_law_211 : decode cL_law 211 = .ok (.ishr, 1) := by decide +kernel
theorem dL_law_212 : decode cL_law 212 = .ok (.iload 7, 2) := by decide +kernel
theorem dL_law_214 : decode cL_law 214 = .ok (.invokestatic 166, 3) := by decide +kernel
theorem dL_law_217 : decode cL_law 217 = .ok (.goto 59, 3) := by decide +kernel
theorem dL_law_220 : decode cL_law 220 = .ok (.iload 8, 2) := by decide +kernel
theorem dL_law_222 : decode cL_law 222 = .ok (.bipush 17, 2) := by decide +kernel
theorem dL_law_224 : decode cL_law 224 = .ok (.if_icmp .ge 18, 3) := by decide +kernel
theorem dL_law_227 : decode cL_law 227 = .ok (.aload_n 1, 1) := by decide +kernel
theorem dL_law_228 : decode cL_law 228 = .ok (.aload_n 2, 1) := by decide +kernel
theorem dL_law_229 : decode cL_law 229 = .ok (.aload_n 3, 1) := by decide +kernel
theorem dL_law_230 : decode cL_law 230 = .ok (.iload 6, 2) := by decide +kernel
theorem dL_law_232 : decode cL_law 232 = .ok (.iconst 5, 1) := by decide +kernel
theorem dL_law_233 : decode cL_law 233 = .ok (.ishr, 1) := by decide +kernel
theorem dL_law_234 : decode cL_law 234 = .ok (.iload 7, 2) := by decide +kernel
theorem dL_law_236 : decode cL_law 236 = .ok (.invokestatic 169, 3) := by decide +kernel
theorem dL_law_239 : decode cL_law 239 = .ok (.goto 37, 3) := by decide +kernel
theorem dL_law_242 : decode cL_law 242 = .ok (.iload 8, 2) := by decide +kernel
theorem dL_law_244 : decode cL_law 244 = .ok (.bipush 21, 2) := by decide +kernel
theorem dL_law_246 : decode cL_law 246 = .ok (.if_icmp .ge 18, 3) := by decide +kernel
theorem dL_law_249 : decode cL_law 249 = .ok (.aload_n 1, 1) := by decide +kernel
theorem dL_law_250 : decode cL_law 250 = .ok (.aload_n 2, 1) := by decide +kernel
theorem dL_law_251 : decode cL_law 251 = .ok (.aload_n 3, 1) := by decide +kernel
theorem dL_law_252 : decode cL_law 252 = .ok (.iload 6, 2) := by decide +kernel
theorem dL_law_254 : decode cL_law 254 = .ok (.iconst 5, 1) := by decide +kernel
theorem dL_law_255 : decode cL_law 255 = .ok (.ishr, 1) := by decide +kernel
theorem dL_law_256 : decode cL_law 256 = .ok (.iload 7, 2) := by decide +kernel
theorem dL_law_258 : decode cL_law 258 = .ok (.invokestatic 172, 3) := by decide +kernel
theorem dL_law_261 : decode cL_law 261 = .ok (.goto 15, 3) := by decide +kernel
theorem dL_law_264 : decode cL_law 264 = .ok (.aload_n 1, 1) := by decide +kernel
theorem dL_law_265 : decode cL_law 265 = .ok (.aload_n 2, 1) := by decide +kernel
theorem dL_law_266 : decode cL_law 266 = .ok (.aload_n 3, 1) := by decide +kernel
theorem dL_law_267 : decode cL_law 267 = .ok (.iload 6, 2) := by decide +kernel
theorem dL_law_269 : decode cL_law 269 = .ok (.iconst 5, 1) := by decide +kernel
theorem dL_law_270 : decode cL_law 270 = .ok (.ishr, 1) := by decide +kernel
theorem dL_law_271 : decode cL_law 271 = .ok (.iload 7, 2) := by decide +kernel
theorem dL_law_273 : decode cL_law 273 = .ok (.invokestatic 175, 3) := by decide +kernel
theorem dL_law_276 : decode cL_law 276 = .ok (.istore 4, 2) := by decide +kernel
theorem dL_law_278 : decode cL_law 278 = .ok (.iload 4, 2) := by decide +kernel
theorem dL_law_280 : decode cL_law 280 = .ok (.ifCond .eq 53, 3) := by decide +kernel
theorem dL_law_283 : decode cL_law 283 = .ok (.iload 5, 2) := by decide +kernel
theorem dL_law_285 : decode cL_law 285 = .ok (.bipush 15, 2) := by decide +kernel
theorem dL_law_287 : decode cL_law 287 = .ok (.irem, 1) := by decide +kernel
theorem dL_law_288 : decode cL_law 288 = .ok (.ifCond .gt 25, 3) := by decide +kernel
theorem dL_law_291 : decode cL_law 291 = .ok (.aload_n 1, 1) := by decide +kernel
theorem dL_law_292 : decode cL_law 292 = .ok (.aload_n 3, 1) := by decide +kernel
theorem dL_law_293 : decode cL_law 293 = .ok (.invokestatic 149, 3) := by decide +kernel
theorem dL_law_296 : decode cL_law 296 = .ok (.aload_n 2, 1) := by decide +kernel
theorem dL_law_297 : decode cL_law 297 = .ok (.aload_n 3, 1) := by decide +kernel
theorem dL_law_298 : decode cL_law 298 = .ok (.invokestatic 149, 3) := by decide +kernel
theorem dL_law_301 : decode cL_law 301 = .ok (.lcmp, 1) := by decide +kernel
theorem dL_law_302 : decode cL_law 302 = .ok (.ifCond .ne 31, 3) := by decide +kernel
theorem dL_law_305 : decode cL_law 305 = .ok (.aload_n 1, 1) := by decide +kernel
theorem dL_law_306 : decode cL_law 306 = .ok (.aload_n 3, 1) := by decide +kernel
theorem dL_law_307 : decode cL_law 307 = .ok (.invokestatic 178, 3) := by decide +kernel
theorem dL_law_310 : decode cL_law 310 = .ok (.ifCond .eq 23, 3) := by decide +kernel
theorem dL_law_313 : decode cL_law 313 = .ok (.iload 5, 2) := by decide +kernel
theorem dL_law_315 : decode cL_law 315 = .ok (.bipush 45, 2) := by decide +kernel
theorem dL_law_317 : decode cL_law 317 = .ok (.irem, 1) := by decide +kernel
theorem dL_law_318 : decode cL_law 318 = .ok (.ifCond .gt 11, 3) := by decide +kernel
theorem dL_law_321 : decode cL_law 321 = .ok (.aload_n 1, 1) := by decide +kernel
theorem dL_law_322 : decode cL_law 322 = .ok (.aload_n 3, 1) := by decide +kernel
theorem dL_law_323 : decode cL_law 323 = .ok (.invokestatic 158, 3) := by decide +kernel
theorem dL_law_326 : decode cL_law 326 = .ok (.ifCond .eq 7, 3) := by decide +kernel
theorem dL_law_329 : decode cL_law 329 = .ok (.iconst 1, 1) := by decide +kernel
theorem dL_law_330 : decode cL_law 330 = .ok (.goto 4, 3) := by decide +kernel
theorem dL_law_333 : decode cL_law 333 = .ok (.iconst 0, 1) := by decide +kernel
theorem dL_law_334 : decode cL_law 334 = .ok (.istore 4, 2) := by decide +kernel
theorem dL_law_336 : decode cL_law 336 = .ok (.iinc 5 1, 3) := by decide +kernel
theorem dL_law_339 : decode cL_law 339 = .ok (.goto (-214), 3) := by decide +kernel
theorem dL_law_342 : decode cL_law 342 = .ok (.iload 4, 2) := by decide +kernel
theorem dL_law_344 : decode cL_law 344 = .ok (.ifCond .eq 29, 3) := by decide +kernel
theorem dL_law_347 : decode cL_law 347 = .ok (.aload_n 1, 1) := by decide +kernel
theorem dL_law_348 : decode cL_law 348 = .ok (.aload_n 3, 1) := by decide +kernel
theorem dL_law_349 : decode cL_law 349 = .ok (.invokestatic 149, 3) := by decide +kernel
theorem dL_law_352 : decode cL_law 352 = .ok (.aload_n 2, 1) := by decide +kernel
theorem dL_law_353 : decode cL_law 353 = .ok (.aload_n 3, 1) := by decide +kernel
theorem dL_law_354 : decode cL_law 354 = .ok (.invokestatic 149, 3) := by decide +kernel
theorem dL_law_357 : decode cL_law 357 = .ok (.lcmp, 1) := by decide +kernel
theorem dL_law_358 : decode cL_law 358 = .ok (.ifCond .ne 15, 3) := by decide +kernel
theorem dL_law_361 : decode cL_law 361 = .ok (.aload_n 1, 1) := by decide +kernel
theorem dL_law_362 : decode cL_law 362 = .ok (.aload_n 3, 1) := by decide +kernel
theorem dL_law_363 : decode cL_law 363 = .ok (.invokestatic 178, 3) := by decide +kernel
theorem dL_law_366 : decode cL_law 366 = .ok (.ifCond .eq 7, 3) := by decide +kernel
theorem dL_law_369 : decode cL_law 369 = .ok (.iconst 1, 1) := by decide +kernel
theorem dL_law_370 : decode cL_law 370 = .ok (.goto 4, 3) := by decide +kernel
theorem dL_law_373 : decode cL_law 373 = .ok (.iconst 0, 1) := by decide +kernel
theorem dL_law_374 : decode cL_law 374 = .ok (.ireturn, 1) := by decide +kernel
