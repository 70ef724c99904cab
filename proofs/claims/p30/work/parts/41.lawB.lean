theorem dL_isPaid_0 : decode cL_isPaid 0 = .ok (.iconst 3, 1) := by decide +kernel
theorem dL_isPaid_1 : decode cL_isPaid 1 = .ok (.newarray .long, 2) := by decide +kernel
theorem dL_isPaid_3 : decode cL_isPaid 3 = .ok (.dup, 1) := by decide +kernel
theorem dL_isPaid_4 : decode cL_isPaid 4 = .ok (.iconst 0, 1) := by decide +kernel
theorem dL_isPaid_5 : decode cL_isPaid 5 = .ok (.lload_n 2, 1) := by decide +kernel
theorem dL_isPaid_6 : decode cL_isPaid 6 = .ok (.lastore, 1) := by decide +kernel
theorem dL_isPaid_7 : decode cL_isPaid 7 = .ok (.dup, 1) := by decide +kernel
theorem dL_isPaid_8 : decode cL_isPaid 8 = .ok (.iconst 1, 1) := by decide +kernel
theorem dL_isPaid_9 : decode cL_isPaid 9 = .ok (.lconst 0, 1) := by decide +kernel
theorem dL_isPaid_10 : decode cL_isPaid 10 = .ok (.lastore, 1) := by decide +kernel
theorem dL_isPaid_11 : decode cL_isPaid 11 = .ok (.dup, 1) := by decide +kernel
theorem dL_isPaid_12 : decode cL_isPaid 12 = .ok (.iconst 2, 1) := by decide +kernel
theorem dL_isPaid_13 : decode cL_isPaid 13 = .ok (.lconst 0, 1) := by decide +kernel
theorem dL_isPaid_14 : decode cL_isPaid 14 = .ok (.lastore, 1) := by decide +kernel
theorem dL_isPaid_15 : decode cL_isPaid 15 = .ok (.astore 7, 2) := by decide +kernel
theorem dL_isPaid_17 : decode cL_isPaid 17 = .ok (.iconst 0, 1) := by decide +kernel
theorem dL_isPaid_18 : decode cL_isPaid 18 = .ok (.istore 8, 2) := by decide +kernel
theorem dL_isPaid_20 : decode cL_isPaid 20 = .ok (.iload 8, 2) := by decide +kernel
theorem dL_isPaid_22 : decode cL_isPaid 22 = .ok (.iload_n 1, 1) := by decide +kernel
theorem dL_isPaid_23 : decode cL_isPaid 23 = .ok (.if_icmp .ge 41, 3) := by decide +kernel
theorem dL_isPaid_26 : decode cL_isPaid 26 = .ok (.aload 7, 2) := by decide +kernel
theorem dL_isPaid_28 : decode cL_isPaid 28 = .ok (.aload_n 0, 1) := by decide +kernel
theorem dL_isPaid_29 : decode cL_isPaid 29 = .ok (.iload 8, 2) := by decide +kernel
theorem dL_isPaid_31 : decode cL_isPaid 31 = .ok (.bipush 8, 2) := by decide +kernel
theorem dL_isPaid_33 : decode cL_isPaid 33 = .ok (.invokevirtual 146, 3) := by decide +kernel
theorem dL_isPaid_36 : decode cL_isPaid 36 = .ok (.lconst 1, 1) := by decide +kernel
theorem dL_isPaid_37 : decode cL_isPaid 37 = .ok (.lcmp, 1) := by decide +kernel
theorem dL_isPaid_38 : decode cL_isPaid 38 = .ok (.ifCond .ne 7, 3) := by decide +kernel
theorem dL_isPaid_41 : decode cL_isPaid 41 = .ok (.iconst 2, 1) := by decide +kernel
theorem dL_isPaid_42 : decode cL_isPaid 42 = .ok (.goto 4, 3) := by decide +kernel
theorem dL_isPaid_45 : decode cL_isPaid 45 = .ok (.iconst 1, 1) := by decide +kernel
theorem dL_isPaid_46 : decode cL_isPaid 46 = .ok (.dup2, 1) := by decide +kernel
theorem dL_isPaid_47 : decode cL_isPaid 47 = .ok (.laload, 1) := by decide +kernel
theorem dL_isPaid_48 : decode cL_isPaid 48 = .ok (.aload_n 0, 1) := by decide +kernel
theorem dL_isPaid_49 : decode cL_isPaid 49 = .ok (.iload 8, 2) := by decide +kernel
theorem dL_isPaid_51 : decode cL_isPaid 51 = .ok (.bipush 7, 2) := by decide +kernel
theorem dL_isPaid_53 : decode cL_isPaid 53 = .ok (.invokevirtual 146, 3) := by decide +kernel
theorem dL_isPaid_56 : decode cL_isPaid 56 = .ok (.ladd, 1) := by decide +kernel
theorem dL_isPaid_57 : decode cL_isPaid 57 = .ok (.lastore, 1) := by decide +kernel
theorem dL_isPaid_58 : decode cL_isPaid 58 = .ok (.iinc 8 1, 3) := by decide +kernel
theorem dL_isPaid_61 : decode cL_isPaid 61 = .ok (.goto (-41), 3) := by decide +kernel
theorem dL_isPaid_64 : decode cL_isPaid 64 = .ok (.iconst 0, 1) := by decide +kernel
theorem dL_isPaid_65 : decode cL_isPaid 65 = .ok (.istore 8, 2) := by decide +kernel
theorem dL_isPaid_67 : decode cL_isPaid 67 = .ok (.iload 8, 2) := by decide +kernel
theorem dL_isPaid_69 : decode cL_isPaid 69 = .ok (.iconst 3, 1) := by decide +kernel
theorem dL_isPaid_70 : decode cL_isPaid 70 = .ok (.if_icmp .ge 68, 3) := by decide +kernel
theorem dL_isPaid_73 : decode cL_isPaid 73 = .ok (.aload_n 0, 1) := by decide +kernel
theorem dL_isPaid_74 : decode cL_isPaid 74 = .ok (.iload 8, 2) := by decide +kernel
theorem dL_isPaid_76 : decode cL_isPaid 76 = .ok (.invokevirtual 169, 3) := by decide +kernel
theorem dL_isPaid_79 : decode cL_isPaid 79 = .ok (.aload 7, 2) := by decide +kernel
theorem dL_isPaid_81 : decode cL_isPaid 81 = .ok (.iload 8, 2) := by decide +kernel
theorem dL_isPaid_83 : decode cL_isPaid 83 = .ok (.laload, 1) := by decide +kernel
theorem dL_isPaid_84 : decode cL_isPaid 84 = .ok (.lconst 0, 1) := by decide +kernel
theorem dL_isPaid_85 : decode cL_isPaid 85 = .ok (.lcmp, 1) := by decide +kernel
theorem dL_isPaid_86 : decode cL_isPaid 86 = .ok (.ifCond .ne 7, 3) := by decide +kernel
theorem dL_isPaid_89 : decode cL_isPaid 89 = .ok (.lconst 0, 1) := by decide +kernel
theorem dL_isPaid_90 : decode cL_isPaid 90 = .ok (.goto 36, 3) := by decide +kernel
theorem dL_isPaid_93 : decode cL_isPaid 93 = .ok (.aload 7, 2) := by decide +kernel
theorem dL_isPaid_95 : decode cL_isPaid 95 = .ok (.iconst 0, 1) := by decide +kernel
theorem dL_isPaid_96 : decode cL_isPaid 96 = .ok (.laload, 1) := by decide +kernel
theorem dL_isPaid_97 : decode cL_isPaid 97 = .ok (.iload 8, 2) := by decide +kernel
theorem dL_isPaid_99 : decode cL_isPaid 99 = .ok (.ifCond .le 10, 3) := by decide +kernel
theorem dL_isPaid_102 : decode cL_isPaid 102 = .ok (.aload 7, 2) := by decide +kernel
theorem dL_isPaid_104 : decode cL_isPaid 104 = .ok (.iconst 1, 1) := by decide +kernel
theorem dL_isPaid_105 : decode cL_isPaid 105 = .ok (.laload, 1) := by decide +kernel
theorem dL_isPaid_106 : decode cL_isPaid 106 = .ok (.goto 4, 3) := by decide +kernel
theorem dL_isPaid_109 : decode cL_isPaid 109 = .ok (.lconst 0, 1) := by decide +kernel
theorem dL_isPaid_110 : decode cL_isPaid 110 = .ok (.ladd, 1) := by decide +kernel
theorem dL_isPaid_111 : decode cL_isPaid 111 = .ok (.iload 8, 2) := by decide +kernel
theorem dL_isPaid_113 : decode cL_isPaid 113 = .ok (.iconst 1, 1) := by decide +kernel
theorem dL_isPaid_114 : decode cL_isPaid 114 = .ok (.if_icmp .le 10, 3) := by decide +kernel
theorem dL_isPaid_117 : decode cL_isPaid 117 = .ok (.aload 7, 2) := by decide +kernel
theorem dL_isPaid_119 : decode cL_isPaid 119 = .ok (.iconst 2, 1) := by decide +kernel
theorem dL_isPaid_120 : decode cL_isPaid 120 = .ok (.laload, 1) := by decide +kernel
theorem dL_isPaid_121 : decode cL_isPaid 121 = .ok (.goto 4, 3) := by decide +kernel
theorem dL_isPaid_124 : decode cL_isPaid 124 = .ok (.lconst 0, 1) := by decide +kernel
theorem dL_isPaid_125 : decode cL_isPaid 125 = .ok (.ladd, 1) := by decide +kernel
theorem dL_isPaid_126 : decode cL_isPaid 126 = .ok (.lcmp, 1) := by decide +kernel
theorem dL_isPaid_127 : decode cL_isPaid 127 = .ok (.ifCond .eq 5, 3) := by decide +kernel
theorem dL_isPaid_130 : decode cL_isPaid 130 = .ok (.iconst 0, 1) := by decide +kernel
theorem dL_isPaid_131 : decode cL_isPaid 131 = .ok (.ireturn, 1) := by decide +kernel
theorem dL_isPaid_132 : decode cL_isPaid 132 = .ok (.iinc 8 1, 3) := by decide +kernel
theorem dL_isPaid_135 : decode cL_isPaid 135 = .ok (.goto (-68), 3) := by decide +kernel
theorem dL_isPaid_138 : decode cL_isPaid 138 = .ok (.iconst 0, 1) := by decide +kernel
theorem dL_isPaid_139 : decode cL_isPaid 139 = .ok (.istore 8, 2) := by decide +kernel
theorem dL_isPaid_141 : decode cL_isPaid 141 = .ok (.iload 8, 2) := by decide +kernel
theorem dL_isPaid_143 : decode cL_isPaid 143 = .ok (.bipush 6, 2) := by decide +kernel
theorem dL_isPaid_145 : decode cL_isPaid 145 = .ok (.if_icmp .ge 209, 3) := by decide +kernel
theorem dL_isPaid_148 : decode cL_isPaid 148 = .ok (.iload 8, 2) := by decide +kernel
theorem dL_isPaid_150 : decode cL_isPaid 150 = .ok (.ifCond .ne 7, 3) := by decide +kernel
theorem dL_isPaid_153 : decode cL_isPaid 153 = .ok (.iconst 0, 1) := by decide +kernel
theorem dL_isPaid_154 : decode cL_isPaid 154 = .ok (.goto 27, 3) := by decide +kernel
theorem dL_isPaid_157 : decode cL_isPaid 157 = .ok (.aload 6, 2) := by decide +kernel
theorem dL_isPaid_159 : decode cL_isPaid 159 = .ok (.sipush 180, 3) := by decide +kernel
theorem dL_isPaid_162 : decode cL_isPaid 162 = .ok (.iload 8, 2) := by decide +kernel
theorem dL_isPaid_164 : decode cL_isPaid 164 = .ok (.iadd, 1) := by decide +kernel
theorem dL_isPaid_165 : decode cL_isPaid 165 = .ok (.invokestatic 8, 3) := by decide +kernel
theorem dL_isPaid_168 : decode cL_isPaid 168 = .ok (.ldc 172, 2) := by decide +kernel
theorem dL_isPaid_170 : decode cL_isPaid 170 = .ok (.iand, 1) := by decide +kernel
theorem dL_isPaid_171 : decode cL_isPaid 171 = .ok (.lload_n 2, 1) := by decide +kernel
theorem dL_isPaid_172 : decode cL_isPaid 172 = .ok (.lload 4, 2) := by decide +kernel
theorem dL_isPaid_174 : decode cL_isPaid 174 = .ok (.ladd, 1) := by decide +kernel
theorem dL_isPaid_175 : decode cL_isPaid 175 = .ok (.ldc2_w 173, 3) := by decide +kernel
theorem dL_isPaid_178 : decode cL_isPaid 178 = .ok (.ladd, 1) := by decide +kernel
theorem dL_isPaid_179 : decode cL_isPaid 179 = .ok (.l2i, 1) := by decide +kernel
theorem dL_isPaid_180 : decode cL_isPaid 180 = .ok (.irem, 1) := by decide +kernel
theorem dL_isPaid_181 : decode cL_isPaid 181 = .ok (.istore 9, 2) := by decide +kernel
theorem dL_isPaid_183 : decode cL_isPaid 183 = .ok (.iconst 3, 1) := by decide +kernel
theorem dL_isPaid_184 : decode cL_isPaid 184 = .ok (.newarray .long, 2) := by decide +kernel
theorem dL_isPaid_186 : decode cL_isPaid 186 = .ok (.dup, 1) := by decide +kernel
theorem dL_isPaid_187 : decode cL_isPaid 187 = .ok (.iconst 0, 1) := by decide +kernel
theorem dL_isPaid_188 : decode cL_isPaid 188 = .ok (.aload_n 0, 1) := by decide +kernel
theorem dL_isPaid_189 : decode cL_isPaid 189 = .ok (.iload 9, 2) := by decide +kernel
theorem dL_isPaid_191 : decode cL_isPaid 191 = .ok (.iconst (-1), 1) := by decide +kernel
theorem dL_isPaid_192 : decode cL_isPaid 192 = .ok (.invokevirtual 175, 3) := by decide +kernel
theorem dL_isPaid_195 : decode cL_isPaid 195 = .ok (.lastore, 1) := by decide +kernel
theorem dL_isPaid_196 : decode cL_isPaid 196 = .ok (.dup, 1) := by decide +kernel
theorem dL_isPaid_197 : decode cL_isPaid 197 = .ok (.iconst 1, 1) := by decide +kernel
theorem dL_isPaid_198 : decode cL_isPaid 198 = .ok (.lconst 0, 1) := by decide +kernel
theorem dL_isPaid_199 : decode cL_isPaid 199 = .ok (.lastore, 1) := by decide +kernel
theorem dL_isPaid_200 : decode cL_isPaid 200 = .ok (.dup, 1) := by decide +kernel
theorem dL_isPaid_201 : decode cL_isPaid 201 = .ok (.iconst 2, 1) := by decide +kernel
theorem dL_isPaid_202 : decode cL_isPaid 202 = .ok (.lconst 0, 1) := by decide +kernel
theorem dL_isPaid_203 : decode cL_isPaid 203 = .ok (.lastore, 1) := by decide +kernel
theorem dL_isPaid_204 : decode cL_isPaid 204 = .ok (.astore 10, 2) := by decide +kernel
theorem dL_isPaid_206 : decode cL_isPaid 206 = .ok (.iconst 0, 1) := by decide +kernel
theorem dL_isPaid_207 : decode cL_isPaid 207 = .ok (.istore 11, 2) := by decide +kernel
theorem dL_isPaid_209 : decode cL_isPaid 209 = .ok (.iload 11, 2) := by decide +kernel
theorem dL_isPaid_211 : decode cL_isPaid 211 = .ok (.iload_n 1, 1) := by decide +kernel
theorem dL_isPaid_212 : decode cL_isPaid 212 = .ok (.if_icmp .ge 68, 3) := by decide +kernel
theorem dL_isPaid_215 : decode cL_isPaid 215 = .ok (.aload_n 0, 1) := by decide +kernel
theorem dL_isPaid_216 : decode cL_isPaid 216 = .ok (.iload 9, 2) := by decide +kernel
theorem dL_isPaid_218 : decode cL_isPaid 218 = .ok (.iload 11, 2) := by decide +kernel
theorem dL_isPaid_220 : decode cL_isPaid 220 = .ok (.invokevirtual 175, 3) := by decide +kernel
theorem dL_isPaid_223 : decode cL_isPaid 223 = .ok (.lstore 12, 2) := by decide +kernel
theorem dL_isPaid_225 : decode cL_isPaid 225 = .ok (.lload 12, 2) := by decide +kernel
theorem dL_isPaid_227 : decode cL_isPaid 227 = .ok (.lconst 0, 1) := by decide +kernel
theorem dL_isPaid_228 : decode cL_isPaid 228 = .ok (.lcmp, 1) := by decide +kernel
theorem dL_isPaid_229 : decode cL_isPaid 229 = .ok (.ifCond .lt 17, 3) := by decide +kernel
theorem dL_isPaid_232 : decode cL_isPaid 232 = .ok (.lload 12, 2) := by decide +kernel
theorem dL_isPaid_234 : decode cL_isPaid 234 = .ok (.aload_n 0, 1) := by decide +kernel
theorem dL_isPaid_235 : decode cL_isPaid 235 = .ok (.iload 11, 2) := by decide +kernel
theorem dL_isPaid_237 : decode cL_isPaid 237 = .ok (.bipush 7, 2) := by decide +kernel
theorem dL_isPaid_239 : decode cL_isPaid 239 = .ok (.invokevirtual 146, 3) := by decide +kernel
theorem dL_isPaid_242 : decode cL_isPaid 242 = .ok (.lcmp, 1) := by decide +kernel
theorem dL_isPaid_243 : decode cL_isPaid 243 = .ok (.ifCond .le 5, 3) := by decide +kernel
theorem dL_isPaid_246 : decode cL_isPaid 246 = .ok (.iconst 0, 1) := by decide +kernel
theorem dL_isPaid_247 : decode cL_isPaid 247 = .ok (.ireturn, 1) := by decide +kernel
theorem dL_isPaid_248 : decode cL_isPaid 248 = .ok (.aload 10, 2) := by decide +kernel
theorem dL_isPaid_250 : decode cL_isPaid 250 = .ok (.aload_n 0, 1) := by decide +kernel
theorem dL_isPaid_251 : decode cL_isPaid 251 = .ok (.iload 11, 2) := by decide +kernel
theorem dL_isPaid_253 : decode cL_isPaid 253 = .ok (.bipush 8, 2) := by decide +kernel
theorem dL_isPaid_255 : decode cL_isPaid 255 = .ok (.invokevirtual 146, 3) := by decide +kernel
theorem dL_isPaid_258 : decode cL_isPaid 258 = .ok (.lconst 1, 1) := by decide +kernel
theorem dL_isPaid_259 : decode cL_isPaid 259 = .ok (.lcmp, 1) := by decide +kernel
theorem dL_isPaid_260 : decode cL_isPaid 260 = .ok (.ifCond .ne 7, 3) := by decide +kernel
theorem dL_isPaid_263 : decode cL_isPaid 263 = .ok (.iconst 2, 1) := by decide +kernel
theorem dL_isPaid_264 : decode cL_isPaid 264 = .ok (.goto 4, 3) := by decide +kernel
theorem dL_isPaid_267 : decode cL_isPaid 267 = .ok (.iconst 1, 1) := by decide +kernel
theorem dL_isPaid_268 : decode cL_isPaid 268 = .ok (.dup2, 1) := by decide +kernel
theorem dL_isPaid_269 : decode cL_isPaid 269 = .ok (.laload, 1) := by decide +kernel
theorem dL_isPaid_270 : decode cL_isPaid 270 = .ok (.lload 12, 2) := by decide +kernel
theorem dL_isPaid_272 : decode cL_isPaid 272 = .ok (.ladd, 1) := by decide +kernel
theorem dL_isPaid_273 : decode cL_isPaid 273 = .ok (.lastore, 1) := by decide +kernel
theorem dL_isPaid_274 : decode cL_isPaid 274 = .ok (.iinc 11 1, 3) := by decide +kernel
theorem dL_isPaid_277 : decode cL_isPaid 277 = .ok (.goto (-68), 3) := by decide +kernel
theorem dL_isPaid_280 : decode cL_isPaid 280 = .ok (.iload 9, 2) := by decide +kernel
theorem dL_isPaid_282 : decode cL_isPaid 282 = .ok (.i2l, 1) := by decide +kernel
theorem dL_isPaid_283 : decode cL_isPaid 283 = .ok (.lstore 11, 2) := by decide +kernel
theorem dL_isPaid_285 : decode cL_isPaid 285 = .ok (.iconst 0, 1) := by decide +kernel
theorem dL_isPaid_286 : decode cL_isPaid 286 = .ok (.istore 13, 2) := by decide +kernel
theorem dL_isPaid_288 : decode cL_isPaid 288 = .ok (.iload 13, 2) := by decide +kernel
theorem dL_isPaid_290 : decode cL_isPaid 290 = .ok (.iconst 3, 1) := by decide +kernel
theorem dL_isPaid_291 : decode cL_isPaid 291 = .ok (.if_icmp .ge 57, 3) := by decide +kernel
theorem dL_isPaid_294 : decode cL_isPaid 294 = .ok (.aload 10, 2) := by decide +kernel
theorem dL_isPaid_296 : decode cL_isPaid 296 = .ok (.iload 13, 2) := by decide +kernel
theorem dL_isPaid_298 : decode cL_isPaid 298 = .ok (.laload, 1) := by decide +kernel
theorem dL_isPaid_299 : decode cL_isPaid 299 = .ok (.lload 11, 2) := by decide +kernel
theorem dL_isPaid_301 : decode cL_isPaid 301 = .ok (.aload 7, 2) := by decide +kernel
theorem dL_isPaid_303 : decode cL_isPaid 303 = .ok (.iload 13, 2) := by decide +kernel
theorem dL_isPaid_305 : decode cL_isPaid 305 = .ok (.laload, 1) := by decide +kernel
theorem dL_isPaid_306 : decode cL_isPaid 306 = .ok (.invokestatic 150, 3) := by decide +kernel
theorem dL_isPaid_309 : decode cL_isPaid 309 = .ok (.lcmp, 1) := by decide +kernel
theorem dL_isPaid_310 : decode cL_isPaid 310 = .ok (.ifCond .eq 5, 3) := by decide +kernel
theorem dL_isPaid_313 : decode cL_isPaid 313 = .ok (.iconst 0, 1) := by decide +kernel
theorem dL_isPaid_314 : decode cL_isPaid 314 = .ok (.ireturn, 1) := by decide +kernel
theorem dL_isPaid_315 : decode cL_isPaid 315 = .ok (.lload 11, 2) := by decide +kernel
theorem dL_isPaid_317 : decode cL_isPaid 317 = .ok (.aload 10, 2) := by decide +kernel
theorem dL_isPaid_319 : decode cL_isPaid 319 = .ok (.iload 13, 2) := by decide +kernel
theorem dL_isPaid_321 : decode cL_isPaid 321 = .ok (.laload, 1) := by decide +kernel
theorem dL_isPaid_322 : decode cL_isPaid 322 = .ok (.lsub, 1) := by decide +kernel
theorem dL_isPaid_323 : decode cL_isPaid 323 = .ok (.lstore 11, 2) := by decide +kernel
theorem dL_isPaid_325 : decode cL_isPaid 325 = .ok (.aload 10, 2) := by decide +kernel
theorem dL_isPaid_327 : decode cL_isPaid 327 = .ok (.iload 13, 2) := by decide +kernel
theorem dL_isPaid_329 : decode cL_isPaid 329 = .ok (.laload, 1) := by decide +kernel
theorem dL_isPaid_330 : decode cL_isPaid 330 = .ok (.aload 7, 2) := by decide +kernel
theorem dL_isPaid_332 : decode cL_isPaid 332 = .ok (.iload 13, 2) := by decide +kernel
theorem dL_isPaid_334 : decode cL_isPaid 334 = .ok (.laload, 1) := by decide +kernel
theorem dL_isPaid_335 : decode cL_isPaid 335 = .ok (.lcmp, 1) := by decide +kernel
theorem dL_isPaid_336 : decode cL_isPaid 336 = .ok (.ifCond .ge 6, 3) := by decide +kernel
theorem dL_isPaid_339 : decode cL_isPaid 339 = .ok (.lconst 0, 1) := by decide +kernel
theorem dL_isPaid_340 : decode cL_isPaid 340 = .ok (.lstore 11, 2) := by decide +kernel
theorem dL_isPaid_342 : decode cL_isPaid 342 = .ok (.iinc 13 1, 3) := by decide +kernel
theorem dL_isPaid_345 : decode cL_isPaid 345 = .ok (.goto (-57), 3) := by decide +kernel
theorem dL_isPaid_348 : decode cL_isPaid 348 = .ok (.iinc 8 1, 3) := by decide +kernel
theorem dL_isPaid_351 : decode cL_isPaid 351 = .ok (.goto (-210), 3) := by decide +kernel
theorem dL_isPaid_354 : decode cL_isPaid 354 = .ok (.aload_n 0, 1) := by decide +kernel
theorem dL_isPaid_355 : decode cL_isPaid 355 = .ok (.iconst (-1), 1) := by decide +kernel
theorem dL_isPaid_356 : decode cL_isPaid 356 = .ok (.iconst 0, 1) := by decide +kernel
theorem dL_isPaid_357 : decode cL_isPaid 357 = .ok (.invokevirtual 175, 3) := by decide +kernel
theorem dL_isPaid_360 : decode cL_isPaid 360 = .ok (.ldc2_w 178, 3) := by decide +kernel
theorem dL_isPaid_363 : decode cL_isPaid 363 = .ok (.lcmp, 1) := by decide +kernel
theorem dL_isPaid_364 : decode cL_isPaid 364 = .ok (.ifCond .ne 32, 3) := by decide +kernel
theorem dL_isPaid_367 : decode cL_isPaid 367 = .ok (.aload_n 0, 1) := by decide +kernel
theorem dL_isPaid_368 : decode cL_isPaid 368 = .ok (.iconst 0, 1) := by decide +kernel
theorem dL_isPaid_369 : decode cL_isPaid 369 = .ok (.iload_n 1, 1) := by decide +kernel
theorem dL_isPaid_370 : decode cL_isPaid 370 = .ok (.invokevirtual 175, 3) := by decide +kernel
theorem dL_isPaid_373 : decode cL_isPaid 373 = .ok (.ldc2_w 178, 3) := by decide +kernel
theorem dL_isPaid_376 : decode cL_isPaid 376 = .ok (.lcmp, 1) := by decide +kernel
theorem dL_isPaid_377 : decode cL_isPaid 377 = .ok (.ifCond .ne 19, 3) := by decide +kernel
theorem dL_isPaid_380 : decode cL_isPaid 380 = .ok (.aload_n 0, 1) := by decide +kernel
theorem dL_isPaid_381 : decode cL_isPaid 381 = .ok (.iconst 3, 1) := by decide +kernel
theorem dL_isPaid_382 : decode cL_isPaid 382 = .ok (.invokevirtual 169, 3) := by decide +kernel
theorem dL_isPaid_385 : decode cL_isPaid 385 = .ok (.ldc2_w 159, 3) := by decide +kernel
theorem dL_isPaid_388 : decode cL_isPaid 388 = .ok (.lcmp, 1) := by decide +kernel
theorem dL_isPaid_389 : decode cL_isPaid 389 = .ok (.ifCond .ne 7, 3) := by decide +kernel
theorem dL_isPaid_392 : decode cL_isPaid 392 = .ok (.iconst 1, 1) := by decide +kernel
theorem dL_isPaid_393 : decode cL_isPaid 393 = .ok (.goto 4, 3) := by decide +kernel
theorem dL_isPaid_396 : decode cL_isPaid 396 = .ok (.iconst 0, 1) := by decide +kernel
theorem dL_isPaid_397 : decode cL_isPaid 397 = .ok (.ireturn, 1) := by decide +kernel
theorem dL_isRanked_0 : decode cL_isRanked 0 = .ok (.iconst 0, 1) := by decide +kernel
theorem dL_isRanked_1 : decode cL_isRanked 1 = .ok (.istore_n 2, 1) := by decide +kernel
theorem dL_isRanked_2 : decode cL_isRanked 2 = .ok (.iconst 0, 1) := by decide +kernel
theorem dL_isRanked_3 : decode cL_isRanked 3 = .ok (.istore_n 3, 1) := by decide +kernel
theorem dL_isRanked_4 : decode cL_isRanked 4 = .ok (.iload_n 3, 1) := by decide +kernel
theorem dL_isRanked_5 : decode cL_isRanked 5 = .ok (.iload_n 1, 1) := by decide +kernel
theorem dL_isRanked_6 : decode cL_isRanked 6 = .ok (.if_icmp .ge 105, 3) := by decide +kernel
theorem dL_isRanked_9 : decode cL_isRanked 9 = .ok (.aload_n 0, 1) := by decide +kernel
theorem dL_isRanked_10 : decode cL_isRanked 10 = .ok (.iload_n 3, 1) := by decide +kernel
theorem dL_isRanked_11 : decode cL_isRanked 11 = .ok (.invokevirtual 180, 3) := by decide +kernel
theorem dL_isRanked_14 : decode cL_isRanked 14 = .ok (.istore 4, 2) := by decide +kernel
theorem dL_isRanked_16 : decode cL_isRanked 16 = .ok (.iload 4, 2) := by decide +kernel
theorem dL_isRanked_18 : decode cL_isRanked 18 = .ok (.ifCond .lt 13, 3) := by decide +kernel
theorem dL_isRanked_21 : decode cL_isRanked 21 = .ok (.iload_n 2, 1) := by decide +kernel
theorem dL_isRanked_22 : decode cL_isRanked 22 = .ok (.iload 4, 2) := by decide +kernel
theorem dL_isRanked_24 : decode cL_isRanked 24 = .ok (.ishr, 1) := by decide +kernel
theorem dL_isRanked_25 : decode cL_isRanked 25 = .ok (.iconst 1, 1) := by decide +kernel
theorem dL_isRanked_26 : decode cL_isRanked 26 = .ok (.iand, 1) := by decide +kernel
theorem dL_isRanked_27 : decode cL_isRanked 27 = .ok (.iconst 1, 1) := by decide +kernel
theorem dL_isRanked_28 : decode cL_isRanked 28 = .ok (.if_icmp .ne 5, 3) := by decide +kernel
theorem dL_isRanked_31 : decode cL_isRanked 31 = .ok (.iconst 0, 1) := by decide +kernel
theorem dL_isRanked_32 : decode cL_isRanked 32 = .ok (.ireturn, 1) := by decide +kernel
theorem dL_isRanked_33 : decode cL_isRanked 33 = .ok (.iload_n 2, 1) := by decide +kernel
theorem dL_isRanked_34 : decode cL_isRanked 34 = .ok (.iconst 1, 1) := by decide +kernel
theorem dL_isRanked_35 : decode cL_isRanked 35 = .ok (.iload 4, 2) := by decide +kernel
theorem dL_isRanked_37 : decode cL_isRanked 37 = .ok (.ishl, 1) := by decide +kernel
theorem dL_isRanked_38 : decode cL_isRanked 38 = .ok (.ior, 1) := by decide +kernel
theorem dL_isRanked_39 : decode cL_isRanked 39 = .ok (.istore_n 2, 1) := by decide +kernel
theorem dL_isRanked_40 : decode cL_isRanked 40 = .ok (.iload_n 3, 1) := by decide +kernel
theorem dL_isRanked_41 : decode cL_isRanked 41 = .ok (.ifCond .ne 6, 3) := by decide +kernel
theorem dL_isRanked_44 : decode cL_isRanked 44 = .ok (.goto 61, 3) := by decide +kernel
theorem dL_isRanked_47 : decode cL_isRanked 47 = .ok (.aload_n 0, 1) := by decide +kernel
theorem dL_isRanked_48 : decode cL_isRanked 48 = .ok (.iload_n 3, 1) := by decide +kernel
theorem dL_isRanked_49 : decode cL_isRanked 49 = .ok (.iconst 1, 1) := by decide +kernel
theorem dL_isRanked_50 : decode cL_isRanked 50 = .ok (.isub, 1) := by decide +kernel
theorem dL_isRanked_51 : decode cL_isRanked 51 = .ok (.invokevirtual 180, 3) := by decide +kernel
theorem dL_isRanked_54 : decode cL_isRanked 54 = .ok (.istore 5, 2) := by decide +kernel
theorem dL_isRanked_56 : decode cL_isRanked 56 = .ok (.aload_n 0, 1) := by decide +kernel
theorem dL_isRanked_57 : decode cL_isRanked 57 = .ok (.iload 5, 2) := by decide +kernel
theorem dL_isRanked_59 : decode cL_isRanked 59 = .ok (.bipush 7, 2) := by decide +kernel
theorem dL_isRanked_61 : decode cL_isRanked 61 = .ok (.invokevirtual 146, 3) := by decide +kernel
theorem dL_isRanked_64 : decode cL_isRanked 64 = .ok (.aload_n 0, 1) := by decide +kernel
theorem dL_isRanked_65 : decode cL_isRanked 65 = .ok (.iload 4, 2) := by decide +kernel
theorem dL_isRanked_67 : decode cL_isRanked 67 = .ok (.bipush 7, 2) := by decide +kernel
theorem dL_isRanked_69 : decode cL_isRanked 69 = .ok (.invokevirtual 146, 3) := by decide +kernel
theorem dL_isRanked_72 : decode cL_isRanked 72 = .ok (.lcmp, 1) := by decide +kernel
theorem dL_isRanked_73 : decode cL_isRanked 73 = .ok (.ifCond .lt 30, 3) := by decide +kernel
theorem dL_isRanked_76 : decode cL_isRanked 76 = .ok (.aload_n 0, 1) := by decide +kernel
theorem dL_isRanked_77 : decode cL_isRanked 77 = .ok (.iload 5, 2) := by decide +kernel
theorem dL_isRanked_79 : decode cL_isRanked 79 = .ok (.bipush 7, 2) := by decide +kernel
theorem dL_isRanked_81 : decode cL_isRanked 81 = .ok (.invokevirtual 146, 3) := by decide +kernel
theorem dL_isRanked_84 : decode cL_isRanked 84 = .ok (.aload_n 0, 1) := by decide +kernel
theorem dL_isRanked_85 : decode cL_isRanked 85 = .ok (.iload 4, 2) := by decide +kernel
theorem dL_isRanked_87 : decode cL_isRanked 87 = .ok (.bipush 7, 2) := by decide +kernel
theorem dL_isRanked_89 : decode cL_isRanked 89 = .ok (.invokevirtual 146, 3) := by decide +kernel
theorem dL_isRanked_92 : decode cL_isRanked 92 = .ok (.lcmp, 1) := by decide +kernel
theorem dL_isRanked_93 : decode cL_isRanked 93 = .ok (.ifCond .ne 12, 3) := by decide +kernel
theorem dL_isRanked_96 : decode cL_isRanked 96 = .ok (.iload 5, 2) := by decide +kernel
theorem dL_isRanked_98 : decode cL_isRanked 98 = .ok (.iload 4, 2) := by decide +kernel
theorem dL_isRanked_100 : decode cL_isRanked 100 = .ok (.if_icmp .le 5, 3) := by decide +kernel
theorem dL_isRanked_103 : decode cL_isRanked 103 = .ok (.iconst 0, 1) := by decide +kernel
theorem dL_isRanked_104 : decode cL_isRanked 104 = .ok (.ireturn, 1) := by decide +kernel
theorem dL_isRanked_105 : decode cL_isRanked 105 = .ok (.iinc 3 1, 3) := by decide +kernel
theorem dL_isRanked_108 : decode cL_isRanked 108 = .ok (.goto (-104), 3) := by decide +kernel
theorem dL_isRanked_111 : decode cL_isRanked 111 = .ok (.aload_n 0, 1) := by decide +kernel
theorem dL_isRanked_112 : decode cL_isRanked 112 = .ok (.iload_n 1, 1) := by decide +kernel
theorem dL_isRanked_113 : decode cL_isRanked 113 = .ok (.invokevirtual 180, 3) := by decide +kernel
theorem dL_isRanked_116 : decode cL_isRanked 116 = .ok (.iconst (-1), 1) := by decide +kernel
theorem dL_isRanked_117 : decode cL_isRanked 117 = .ok (.if_icmp .ne 7, 3) := by decide +kernel
theorem dL_isRanked_120 : decode cL_isRanked 120 = .ok (.iconst 1, 1) := by decide +kernel
theorem dL_isRanked_121 : decode cL_isRanked 121 = .ok (.goto 4, 3) := by decide +kernel
theorem dL_isRanked_124 : decode cL_isRanked 124 = .ok (.iconst 0, 1) := by decide +kernel
theorem dL_isRanked_125 : decode cL_isRanked 125 = .ok (.ireturn, 1) := by decide +kernel
theorem dL_law_0 : decode cL_law 0 = .ok (.new 26, 3) := by decide +kernel
theorem dL_law_3 : decode cL_law 3 = .ok (.dup, 1) := by decide +kernel
theorem dL_law_4 : decode cL_law 4 = .ok (.invokespecial 125, 3) := by decide +kernel
theorem dL_law_7 : decode cL_law 7 = .ok (.astore_n 1, 1) := by decide +kernel
theorem dL_law_8 : decode cL_law 8 = .ok (.aload_n 1, 1) := by decide +kernel
theorem dL_law_9 : decode cL_law 9 = .ok (.iconst 0, 1) := by decide +kernel
theorem dL_law_10 : decode cL_law 10 = .ok (.invokevirtual 126, 3) := by decide +kernel
theorem dL_law_13 : decode cL_law 13 = .ok (.lconst 0, 1) := by decide +kernel
theorem dL_law_14 : decode cL_law 14 = .ok (.lcmp, 1) := by decide +kernel
theorem dL_law_15 : decode cL_law 15 = .ok (.ifCond .ne 21, 3) := by decide +kernel
theorem dL_law_18 : decode cL_law 18 = .ok (.aload_n 1, 1) := by decide +kernel
theorem dL_law_19 : decode cL_law 19 = .ok (.iconst 0, 1) := by decide +kernel
theorem dL_law_20 : decode cL_law 20 = .ok (.iconst 1, 1) := by decide +kernel
theorem dL_law_21 : decode cL_law 21 = .ok (.invokevirtual 115, 3) := by decide +kernel
theorem dL_law_24 : decode cL_law 24 = .ok (.iconst (-1), 1) := by decide +kernel
theorem dL_law_25 : decode cL_law 25 = .ok (.if_icmp .ne 11, 3) := by decide +kernel
theorem dL_law_28 : decode cL_law 28 = .ok (.aload_n 1, 1) := by decide +kernel
theorem dL_law_29 : decode cL_law 29 = .ok (.aload_n 0, 1) := by decide +kernel
theorem dL_law_30 : decode cL_law 30 = .ok (.invokestatic 130, 3) := by decide +kernel
theorem dL_law_33 : decode cL_law 33 = .ok (.ifCond .ne 5, 3) := by decide +kernel
theorem dL_law_36 : decode cL_law 36 = .ok (.iconst 0, 1) := by decide +kernel
theorem dL_law_37 : decode cL_law 37 = .ok (.ireturn, 1) := by decide +kernel
theorem dL_law_38 : decode cL_law 38 = .ok (.lconst 0, 1) := by decide +kernel
theorem dL_law_39 : decode cL_law 39 = .ok (.lstore_n 2, 1) := by decide +kernel
theorem dL_law_40 : decode cL_law 40 = .ok (.iconst 0, 1) := by decide +kernel
theorem dL_law_41 : decode cL_law 41 = .ok (.istore 4, 2) := by decide +kernel
theorem dL_law_43 : decode cL_law 43 = .ok (.iload 4, 2) := by decide +kernel
theorem dL_law_45 : decode cL_law 45 = .ok (.aload_n 1, 1) := by decide +kernel
theorem dL_law_46 : decode cL_law 46 = .ok (.iconst 2, 1) := by decide +kernel
theorem dL_law_47 : decode cL_law 47 = .ok (.invokevirtual 134, 3) := by decide +kernel
theorem dL_law_50 : decode cL_law 50 = .ok (.if_icmp .ge 150, 3) := by decide +kernel
theorem dL_law_53 : decode cL_law 53 = .ok (.lconst 0, 1) := by decide +kernel
theorem dL_law_54 : decode cL_law 54 = .ok (.lstore 5, 2) := by decide +kernel
theorem dL_law_56 : decode cL_law 56 = .ok (.iconst 0, 1) := by decide +kernel
theorem dL_law_57 : decode cL_law 57 = .ok (.istore 7, 2) := by decide +kernel
theorem dL_law_59 : decode cL_law 59 = .ok (.iconst 0, 1) := by decide +kernel
theorem dL_law_60 : decode cL_law 60 = .ok (.istore 8, 2) := by decide +kernel
theorem dL_law_62 : decode cL_law 62 = .ok (.iload 8, 2) := by decide +kernel
theorem dL_law_64 : decode cL_law 64 = .ok (.aload_n 1, 1) := by decide +kernel
theorem dL_law_65 : decode cL_law 65 = .ok (.iconst 0, 1) := by decide +kernel
theorem dL_law_66 : decode cL_law 66 = .ok (.invokevirtual 134, 3) := by decide +kernel
theorem dL_law_69 : decode cL_law 69 = .ok (.if_icmp .ge 71, 3) := by decide +kernel
theorem dL_law_72 : decode cL_law 72 = .ok (.aload_n 1, 1) := by decide +kernel
theorem dL_law_73 : decode cL_law 73 = .ok (.iload 4, 2) := by decide +kernel
theorem dL_law_75 : decode cL_law 75 = .ok (.iload 8, 2) := by decide +kernel
theorem dL_law_77 : decode cL_law 77 = .ok (.invokevirtual 137, 3) := by decide +kernel
theorem dL_law_80 : decode cL_law 80 = .ok (.istore 9, 2) := by decide +kernel
theorem dL_law_82 : decode cL_law 82 = .ok (.iload 9, 2) := by decide +kernel
theorem dL_law_84 : decode cL_law 84 = .ok (.ifCond .lt 19, 3) := by decide +kernel
theorem dL_law_87 : decode cL_law 87 = .ok (.iload 9, 2) := by decide +kernel
theorem dL_law_89 : decode cL_law 89 = .ok (.ifCond .le 16, 3) := by decide +kernel
theorem dL_law_92 : decode cL_law 92 = .ok (.aload_n 1, 1) := by decide +kernel
theorem dL_law_93 : decode cL_law 93 = .ok (.iload 4, 2) := by decide +kernel
theorem dL_law_95 : decode cL_law 95 = .ok (.iload 8, 2) := by decide +kernel
theorem dL_law_97 : decode cL_law 97 = .ok (.invokevirtual 140, 3) := by decide +kernel
theorem dL_law_100 : decode cL_law 100 = .ok (.ifCond .ne 5, 3) := by decide +kernel
theorem dL_law_103 : decode cL_law 103 = .ok (.iconst 0, 1) := by decide +kernel
theorem dL_law_104 : decode cL_law 104 = .ok (.ireturn, 1) := by decide +kernel
theorem dL_law_105 : decode cL_law 105 = .ok (.iload 7, 2) := by decide +kernel
theorem dL_law_107 : decode cL_law 107 = .ok (.aload_n 1, 1) := by decide +kernel
theorem dL_law_108 : decode cL_law 108 = .ok (.iload 4, 2) := by decide +kernel
theorem dL_law_110 : decode cL_law 110 = .ok (.iload 8, 2) := by decide +kernel
theorem dL_law_112 : decode cL_law 112 = .ok (.invokevirtual 140, 3) := by decide +kernel
theorem dL_law_115 : decode cL_law 115 = .ok (.ifCond .le 7, 3) := by decide +kernel
theorem dL_law_118 : decode cL_law 118 = .ok (.iconst 1, 1) := by decide +kernel
theorem dL_law_119 : decode cL_law 119 = .ok (.goto 4, 3) := by decide +kernel
theorem dL_law_122 : decode cL_law 122 = .ok (.iconst 0, 1) := by decide +kernel
theorem dL_law_123 : decode cL_law 123 = .ok (.iadd, 1) := by decide +kernel
theorem dL_law_124 : decode cL_law 124 = .ok (.istore 7, 2) := by decide +kernel
theorem dL_law_126 : decode cL_law 126 = .ok (.lload 5, 2) := by decide +kernel
theorem dL_law_128 : decode cL_law 128 = .ok (.iload 9, 2) := by decide +kernel
theorem dL_law_130 : decode cL_law 130 = .ok (.i2l, 1) := by decide +kernel
theorem dL_law_131 : decode cL_law 131 = .ok (.ladd, 1) := by decide +kernel
theorem dL_law_132 : decode cL_law 132 = .ok (.lstore 5, 2) := by decide +kernel
theorem dL_law_134 : decode cL_law 134 = .ok (.iinc 8 1, 3) := by decide +kernel
theorem dL_law_137 : decode cL_law 137 = .ok (.goto (-75), 3) := by decide +kernel
theorem dL_law_140 : decode cL_law 140 = .ok (.lload 5, 2) := by decide +kernel
theorem dL_law_142 : decode cL_law 142 = .ok (.aload_n 1, 1) := by decide +kernel
theorem dL_law_143 : decode cL_law 143 = .ok (.iload 4, 2) := by decide +kernel
theorem dL_law_145 : decode cL_law 145 = .ok (.iconst 2, 1) := by decide +kernel
theorem dL_law_146 : decode cL_law 146 = .ok (.invokevirtual 143, 3) := by decide +kernel
theorem dL_law_149 : decode cL_law 149 = .ok (.iconst 1, 1) := by decide +kernel
theorem dL_law_150 : decode cL_law 150 = .ok (.if_icmp .ne 7, 3) := by decide +kernel
theorem dL_law_153 : decode cL_law 153 = .ok (.iconst 0, 1) := by decide +kernel
theorem dL_law_154 : decode cL_law 154 = .ok (.goto 10, 3) := by decide +kernel
theorem dL_law_157 : decode cL_law 157 = .ok (.aload_n 1, 1) := by decide +kernel
theorem dL_law_158 : decode cL_law 158 = .ok (.iload 4, 2) := by decide +kernel
theorem dL_law_160 : decode cL_law 160 = .ok (.iconst 0, 1) := by decide +kernel
theorem dL_law_161 : decode cL_law 161 = .ok (.invokevirtual 143, 3) := by decide +kernel
theorem dL_law_164 : decode cL_law 164 = .ok (.i2l, 1) := by decide +kernel
theorem dL_law_165 : decode cL_law 165 = .ok (.lcmp, 1) := by decide +kernel
theorem dL_law_166 : decode cL_law 166 = .ok (.ifCond .ne 15, 3) := by decide +kernel
theorem dL_law_169 : decode cL_law 169 = .ok (.aload_n 1, 1) := by decide +kernel
theorem dL_law_170 : decode cL_law 170 = .ok (.iload 4, 2) := by decide +kernel
theorem dL_law_172 : decode cL_law 172 = .ok (.iconst 3, 1) := by decide +kernel
theorem dL_law_173 : decode cL_law 173 = .ok (.invokevirtual 143, 3) := by decide +kernel
theorem dL_law_176 : decode cL_law 176 = .ok (.iload 7, 2) := by decide +kernel
theorem dL_law_178 : decode cL_law 178 = .ok (.if_icmp .eq 5, 3) := by decide +kernel
theorem dL_law_181 : decode cL_law 181 = .ok (.iconst 0, 1) := by decide +kernel
theorem dL_law_182 : decode cL_law 182 = .ok (.ireturn, 1) := by decide +kernel
theorem dL_law_183 : decode cL_law 183 = .ok (.lload_n 2, 1) := by decide +kernel
theorem dL_law_184 : decode cL_law 184 = .ok (.aload_n 1, 1) := by decide +kernel
theorem dL_law_185 : decode cL_law 185 = .ok (.iload 4, 2) := by decide +kernel
theorem dL_law_187 : decode cL_law 187 = .ok (.iconst 0, 1) := by decide +kernel
theorem dL_law_188 : decode cL_law 188 = .ok (.invokevirtual 143, 3) := by decide +kernel
theorem dL_law_191 : decode cL_law 191 = .ok (.i2l, 1) := by decide +kernel
theorem dL_law_192 : decode cL_law 192 = .ok (.ladd, 1) := by decide +kernel
theorem dL_law_193 : decode cL_law 193 = .ok (.lstore_n 2, 1) := by decide +kernel
theorem dL_law_194 : decode cL_law 194 = .ok (.iinc 4 1, 3) := by decide +kernel
theorem dL_law_197 : decode cL_law 197 = .ok (.goto (-154), 3) := by decide +kernel
theorem dL_law_200 : decode cL_law 200 = .ok (.aload_n 1, 1) := by decide +kernel
theorem dL_law_201 : decode cL_law 201 = .ok (.iconst 0, 1) := by decide +kernel
theorem dL_law_202 : decode cL_law 202 = .ok (.invokevirtual 126, 3) := by decide +kernel
theorem dL_law_205 : decode cL_law 205 = .ok (.aload_n 1, 1) := by decide +kernel
theorem dL_law_206 : decode cL_law 206 = .ok (.iconst 4, 1) := by decide +kernel
theorem dL_law_207 : decode cL_law 207 = .ok (.invokevirtual 126, 3) := by decide +kernel
theorem dL_law_210 : decode cL_law 210 = .ok (.ladd, 1) := by decide +kernel
theorem dL_law_211 : decode cL_law 211 = .ok (.lload_n 2, 1) := by decide +kernel
theorem dL_law_212 : decode cL_law 212 = .ok (.lcmp, 1) := by decide +kernel
theorem dL_law_213 : decode cL_law 213 = .ok (.ifCond .eq 5, 3) := by decide +kernel
theorem dL_law_216 : decode cL_law 216 = .ok (.iconst 0, 1) := by decide +kernel
theorem dL_law_217 : decode cL_law 217 = .ok (.ireturn, 1) := by decide +kernel
theorem dL_law_218 : decode cL_law 218 = .ok (.aload_n 1, 1) := by decide +kernel
theorem dL_law_219 : decode cL_law 219 = .ok (.iconst 5, 1) := by decide +kernel
theorem dL_law_220 : decode cL_law 220 = .ok (.invokevirtual 126, 3) := by decide +kernel
theorem dL_law_223 : decode cL_law 223 = .ok (.l2i, 1) := by decide +kernel
theorem dL_law_224 : decode cL_law 224 = .ok (.istore 4, 2) := by decide +kernel
theorem dL_law_226 : decode cL_law 226 = .ok (.iconst 4, 1) := by decide +kernel
theorem dL_law_227 : decode cL_law 227 = .ok (.newarray .long, 2) := by decide +kernel
theorem dL_law_229 : decode cL_law 229 = .ok (.astore 5, 2) := by decide +kernel
theorem dL_law_231 : decode cL_law 231 = .ok (.iconst 0, 1) := by decide +kernel
theorem dL_law_232 : decode cL_law 232 = .ok (.istore 6, 2) := by decide +kernel
theorem dL_law_234 : decode cL_law 234 = .ok (.iconst 0, 1) := by decide +kernel
theorem dL_law_235 : decode cL_law 235 = .ok (.istore 7, 2) := by decide +kernel
theorem dL_law_237 : decode cL_law 237 = .ok (.iload 7, 2) := by decide +kernel
theorem dL_law_239 : decode cL_law 239 = .ok (.iload 4, 2) := by decide +kernel
theorem dL_law_241 : decode cL_law 241 = .ok (.if_icmp .ge 294, 3) := by decide +kernel
theorem dL_law_244 : decode cL_law 244 = .ok (.lconst 0, 1) := by decide +kernel
theorem dL_law_245 : decode cL_law 245 = .ok (.lstore 8, 2) := by decide +kernel
theorem dL_law_247 : decode cL_law 247 = .ok (.iconst 0, 1) := by decide +kernel
theorem dL_law_248 : decode cL_law 248 = .ok (.istore 10, 2) := by decide +kernel
theorem dL_law_250 : decode cL_law 250 = .ok (.iload 10, 2) := by decide +kernel
theorem dL_law_252 : decode cL_law 252 = .ok (.aload_n 1, 1) := by decide +kernel
theorem dL_law_253 : decode cL_law 253 = .ok (.iconst 0, 1) := by decide +kernel
theorem dL_law_254 : decode cL_law 254 = .ok (.invokevirtual 134, 3) := by decide +kernel
theorem dL_law_257 : decode cL_law 257 = .ok (.if_icmp .ge 54, 3) := by decide +kernel
theorem dL_law_260 : decode cL_law 260 = .ok (.iconst 0, 1) := by decide +kernel
theorem dL_law_261 : decode cL_law 261 = .ok (.istore 11, 2) := by decide +kernel
theorem dL_law_263 : decode cL_law 263 = .ok (.iload 11, 2) := by decide +kernel
theorem dL_law_265 : decode cL_law 265 = .ok (.aload_n 1, 1) := by decide +kernel
theorem dL_law_266 : decode cL_law 266 = .ok (.iconst 2, 1) := by decide +kernel
theorem dL_law_267 : decode cL_law 267 = .ok (.invokevirtual 134, 3) := by decide +kernel
theorem dL_law_270 : decode cL_law 270 = .ok (.if_icmp .ge 35, 3) := by decide +kernel
theorem dL_law_273 : decode cL_law 273 = .ok (.aload_n 1, 1) := by decide +kernel
theorem dL_law_274 : decode cL_law 274 = .ok (.iload 10, 2) := by decide +kernel
theorem dL_law_276 : decode cL_law 276 = .ok (.iconst 5, 1) := by decide +kernel
theorem dL_law_277 : decode cL_law 277 = .ok (.invokevirtual 118, 3) := by decide +kernel
theorem dL_law_280 : decode cL_law 280 = .ok (.iload 7, 2) := by decide +kernel
theorem dL_law_282 : decode cL_law 282 = .ok (.if_icmp .ne 17, 3) := by decide +kernel
theorem dL_law_285 : decode cL_law 285 = .ok (.lload 8, 2) := by decide +kernel
theorem dL_law_287 : decode cL_law 287 = .ok (.aload_n 1, 1) := by decide +kernel
theorem dL_law_288 : decode cL_law 288 = .ok (.iload 11, 2) := by decide +kernel
theorem dL_law_290 : decode cL_law 290 = .ok (.iload 10, 2) := by decide +kernel
theorem dL_law_292 : decode cL_law 292 = .ok (.invokevirtual 137, 3) := by decide +kernel
theorem dL_law_295 : decode cL_law 295 = .ok (.i2l, 1) := by decide +kernel
theorem dL_law_296 : decode cL_law 296 = .ok (.ladd, 1) := by decide +kernel
theorem dL_law_297 : decode cL_law 297 = .ok (.lstore 8, 2) := by decide +kernel
theorem dL_law_299 : decode cL_law 299 = .ok (.iinc 11 1, 3) := by decide +kernel
theorem dL_law_302 : decode cL_law 302 = .ok (.goto (-39), 3) := by decide +kernel
theorem dL_law_305 : decode cL_law 305 = .ok (.iinc 10 1, 3) := by decide +kernel
theorem dL_law_308 : decode cL_law 308 = .ok (.goto (-58), 3) := by decide +kernel
theorem dL_law_311 : decode cL_law 311 = .ok (.aload_n 1, 1) := by decide +kernel
theorem dL_law_312 : decode cL_law 312 = .ok (.iload 7, 2) := by decide +kernel
theorem dL_law_314 : decode cL_law 314 = .ok (.iconst 0, 1) := by decide +kernel
theorem dL_law_315 : decode cL_law 315 = .ok (.invokevirtual 146, 3) := by decide +kernel
theorem dL_law_318 : decode cL_law 318 = .ok (.lload 8, 2) := by decide +kernel
theorem dL_law_320 : decode cL_law 320 = .ok (.lcmp, 1) := by decide +kernel
theorem dL_law_321 : decode cL_law 321 = .ok (.ifCond .ne 47, 3) := by decide +kernel
theorem dL_law_324 : decode cL_law 324 = .ok (.aload_n 1, 1) := by decide +kernel
theorem dL_law_325 : decode cL_law 325 = .ok (.iload 7, 2) := by decide +kernel
theorem dL_law_327 : decode cL_law 327 = .ok (.iconst 2, 1) := by decide +kernel
theorem dL_law_328 : decode cL_law 328 = .ok (.invokevirtual 146, 3) := by decide +kernel
theorem dL_law_331 : decode cL_law 331 = .ok (.lload 8, 2) := by decide +kernel
theorem dL_law_333 : decode cL_law 333 = .ok (.aload_n 1, 1) := by decide +kernel
theorem dL_law_334 : decode cL_law 334 = .ok (.iload 7, 2) := by decide +kernel
theorem dL_law_336 : decode cL_law 336 = .ok (.iconst 1, 1) := by decide +kernel
theorem dL_law_337 : decode cL_law 337 = .ok (.invokevirtual 146, 3) := by decide +kernel
theorem dL_law_340 : decode cL_law 340 = .ok (.invokestatic 150, 3) := by decide +kernel
theorem dL_law_343 : decode cL_law 343 = .ok (.lcmp, 1) := by decide +kernel
theorem dL_law_344 : decode cL_law 344 = .ok (.ifCond .ne 24, 3) := by decide +kernel
theorem dL_law_347 : decode cL_law 347 = .ok (.aload_n 1, 1) := by decide +kernel
theorem dL_law_348 : decode cL_law 348 = .ok (.iload 7, 2) := by decide +kernel
theorem dL_law_350 : decode cL_law 350 = .ok (.iconst 3, 1) := by decide +kernel
theorem dL_law_351 : decode cL_law 351 = .ok (.invokevirtual 146, 3) := by decide +kernel
theorem dL_law_354 : decode cL_law 354 = .ok (.lload 8, 2) := by decide +kernel
theorem dL_law_356 : decode cL_law 356 = .ok (.aload_n 1, 1) := by decide +kernel
theorem dL_law_357 : decode cL_law 357 = .ok (.iload 7, 2) := by decide +kernel
theorem dL_law_359 : decode cL_law 359 = .ok (.iconst 2, 1) := by decide +kernel
theorem dL_law_360 : decode cL_law 360 = .ok (.invokevirtual 146, 3) := by decide +kernel
theorem dL_law_363 : decode cL_law 363 = .ok (.lsub, 1) := by decide +kernel
theorem dL_law_364 : decode cL_law 364 = .ok (.lcmp, 1) := by decide +kernel
theorem dL_law_365 : decode cL_law 365 = .ok (.ifCond .eq 5, 3) := by decide +kernel
theorem dL_law_368 : decode cL_law 368 = .ok (.iconst 0, 1) := by decide +kernel
theorem dL_law_369 : decode cL_law 369 = .ok (.ireturn, 1) := by decide +kernel
theorem dL_law_370 : decode cL_law 370 = .ok (.aload_n 1, 1) := by decide +kernel
theorem dL_law_371 : decode cL_law 371 = .ok (.iload 7, 2) := by decide +kernel
theorem dL_law_373 : decode cL_law 373 = .ok (.iconst 5, 1) := by decide +kernel
theorem dL_law_374 : decode cL_law 374 = .ok (.invokevirtual 146, 3) := by decide +kernel
theorem dL_law_377 : decode cL_law 377 = .ok (.aload_n 1, 1) := by decide +kernel
theorem dL_law_378 : decode cL_law 378 = .ok (.bipush 6, 2) := by decide +kernel
theorem dL_law_380 : decode cL_law 380 = .ok (.invokevirtual 134, 3) := by decide +kernel
theorem dL_law_383 : decode cL_law 383 = .ok (.i2l, 1) := by decide +kernel
theorem dL_law_384 : decode cL_law 384 = .ok (.aload_n 1, 1) := by decide +kernel
theorem dL_law_385 : decode cL_law 385 = .ok (.iload 7, 2) := by decide +kernel
theorem dL_law_387 : decode cL_law 387 = .ok (.iconst 4, 1) := by decide +kernel
theorem dL_law_388 : decode cL_law 388 = .ok (.invokevirtual 146, 3) := by decide +kernel
theorem dL_law_391 : decode cL_law 391 = .ok (.aload_n 1, 1) := by decide +kernel
theorem dL_law_392 : decode cL_law 392 = .ok (.bipush 7, 2) := by decide +kernel
theorem dL_law_394 : decode cL_law 394 = .ok (.invokevirtual 134, 3) := by decide +kernel
theorem dL_law_397 : decode cL_law 397 = .ok (.i2l, 1) := by decide +kernel
theorem dL_law_398 : decode cL_law 398 = .ok (.invokestatic 150, 3) := by decide +kernel
theorem dL_law_401 : decode cL_law 401 = .ok (.ladd, 1) := by decide +kernel
theorem dL_law_402 : decode cL_law 402 = .ok (.lcmp, 1) := by decide +kernel
theorem dL_law_403 : decode cL_law 403 = .ok (.ifCond .ne 60, 3) := by decide +kernel
theorem dL_law_406 : decode cL_law 406 = .ok (.aload_n 1, 1) := by decide +kernel
theorem dL_law_407 : decode cL_law 407 = .ok (.iload 7, 2) := by decide +kernel
theorem dL_law_409 : decode cL_law 409 = .ok (.bipush 6, 2) := by decide +kernel
theorem dL_law_411 : decode cL_law 411 = .ok (.invokevirtual 146, 3) := by decide +kernel
theorem dL_law_414 : decode cL_law 414 = .ok (.aload_n 1, 1) := by decide +kernel
theorem dL_law_415 : decode cL_law 415 = .ok (.iload 7, 2) := by decide +kernel
theorem dL_law_417 : decode cL_law 417 = .ok (.iconst 3, 1) := by decide +kernel
theorem dL_law_418 : decode cL_law 418 = .ok (.invokevirtual 146, 3) := by decide +kernel
theorem dL_law_421 : decode cL_law 421 = .ok (.aload_n 1, 1) := by decide +kernel
theorem dL_law_422 : decode cL_law 422 = .ok (.iload 7, 2) := by decide +kernel
theorem dL_law_424 : decode cL_law 424 = .ok (.iconst 5, 1) := by decide +kernel
theorem dL_law_425 : decode cL_law 425 = .ok (.invokevirtual 146, 3) := by decide +kernel
theorem dL_law_428 : decode cL_law 428 = .ok (.invokestatic 150, 3) := by decide +kernel
theorem dL_law_431 : decode cL_law 431 = .ok (.lcmp, 1) := by decide +kernel
theorem dL_law_432 : decode cL_law 432 = .ok (.ifCond .ne 31, 3) := by decide +kernel
theorem dL_law_435 : decode cL_law 435 = .ok (.aload_n 1, 1) := by decide +kernel
theorem dL_law_436 : decode cL_law 436 = .ok (.iload 7, 2) := by decide +kernel
theorem dL_law_438 : decode cL_law 438 = .ok (.bipush 7, 2) := by decide +kernel
theorem dL_law_440 : decode cL_law 440 = .ok (.invokevirtual 146, 3) := by decide +kernel
theorem dL_law_443 : decode cL_law 443 = .ok (.aload_n 1, 1) := by decide +kernel
theorem dL_law_444 : decode cL_law 444 = .ok (.iload 7, 2) := by decide +kernel
theorem dL_law_446 : decode cL_law 446 = .ok (.iconst 3, 1) := by decide +kernel
theorem dL_law_447 : decode cL_law 447 = .ok (.invokevirtual 146, 3) := by decide +kernel
theorem dL_law_450 : decode cL_law 450 = .ok (.aload_n 1, 1) := by decide +kernel
theorem dL_law_451 : decode cL_law 451 = .ok (.iload 7, 2) := by decide +kernel
theorem dL_law_453 : decode cL_law 453 = .ok (.bipush 6, 2) := by decide +kernel
theorem dL_law_455 : decode cL_law 455 = .ok (.invokevirtual 146, 3) := by decide +kernel
theorem dL_law_458 : decode cL_law 458 = .ok (.lsub, 1) := by decide +kernel
theorem dL_law_459 : decode cL_law 459 = .ok (.lcmp, 1) := by decide +kernel
theorem dL_law_460 : decode cL_law 460 = .ok (.ifCond .eq 5, 3) := by decide +kernel
theorem dL_law_463 : decode cL_law 463 = .ok (.iconst 0, 1) := by decide +kernel
theorem dL_law_464 : decode cL_law 464 = .ok (.ireturn, 1) := by decide +kernel
theorem dL_law_465 : decode cL_law 465 = .ok (.aload 5, 2) := by decide +kernel
theorem dL_law_467 : decode cL_law 467 = .ok (.iconst 0, 1) := by decide +kernel
theorem dL_law_468 : decode cL_law 468 = .ok (.dup2, 1) := by decide +kernel
theorem dL_law_469 : decode cL_law 469 = .ok (.laload, 1) := by decide +kernel
theorem dL_law_470 : decode cL_law 470 = .ok (.lload 8, 2) := by decide +kernel
theorem dL_law_472 : decode cL_law 472 = .ok (.ladd, 1) := by decide +kernel
theorem dL_law_473 : decode cL_law 473 = .ok (.lastore, 1) := by decide +kernel
theorem dL_law_474 : decode cL_law 474 = .ok (.aload 5, 2) := by decide +kernel
theorem dL_law_476 : decode cL_law 476 = .ok (.iconst 1, 1) := by decide +kernel
theorem dL_law_477 : decode cL_law 477 = .ok (.dup2, 1) := by decide +kernel
theorem dL_law_478 : decode cL_law 478 = .ok (.laload, 1) := by decide +kernel
theorem dL_law_479 : decode cL_law 479 = .ok (.aload_n 1, 1) := by decide +kernel
theorem dL_law_480 : decode cL_law 480 = .ok (.iload 7, 2) := by decide +kernel
theorem dL_law_482 : decode cL_law 482 = .ok (.iconst 2, 1) := by decide +kernel
theorem dL_law_483 : decode cL_law 483 = .ok (.invokevirtual 146, 3) := by decide +kernel
theorem dL_law_486 : decode cL_law 486 = .ok (.ladd, 1) := by decide +kernel
theorem dL_law_487 : decode cL_law 487 = .ok (.lastore, 1) := by decide +kernel
theorem dL_law_488 : decode cL_law 488 = .ok (.aload 5, 2) := by decide +kernel
theorem dL_law_490 : decode cL_law 490 = .ok (.iconst 2, 1) := by decide +kernel
theorem dL_law_491 : decode cL_law 491 = .ok (.dup2, 1) := by decide +kernel
theorem dL_law_492 : decode cL_law 492 = .ok (.laload, 1) := by decide +kernel
theorem dL_law_493 : decode cL_law 493 = .ok (.aload_n 1, 1) := by decide +kernel
theorem dL_law_494 : decode cL_law 494 = .ok (.iload 7, 2) := by decide +kernel
theorem dL_law_496 : decode cL_law 496 = .ok (.bipush 6, 2) := by decide +kernel
theorem dL_law_498 : decode cL_law 498 = .ok (.invokevirtual 146, 3) := by decide +kernel
theorem dL_law_501 : decode cL_law 501 = .ok (.ladd, 1) := by decide +kernel
theorem dL_law_502 : decode cL_law 502 = .ok (.lastore, 1) := by decide +kernel
theorem dL_law_503 : decode cL_law 503 = .ok (.aload 5, 2) := by decide +kernel
theorem dL_law_505 : decode cL_law 505 = .ok (.iconst 3, 1) := by decide +kernel
theorem dL_law_506 : decode cL_law 506 = .ok (.dup2, 1) := by decide +kernel
theorem dL_law_507 : decode cL_law 507 = .ok (.laload, 1) := by decide +kernel
theorem dL_law_508 : decode cL_law 508 = .ok (.aload_n 1, 1) := by decide +kernel
theorem dL_law_509 : decode cL_law 509 = .ok (.iload 7, 2) := by decide +kernel
theorem dL_law_511 : decode cL_law 511 = .ok (.bipush 7, 2) := by decide +kernel
theorem dL_law_513 : decode cL_law 513 = .ok (.invokevirtual 146, 3) := by decide +kernel
theorem dL_law_516 : decode cL_law 516 = .ok (.ladd, 1) := by decide +kernel
theorem dL_law_517 : decode cL_law 517 = .ok (.lastore, 1) := by decide +kernel
theorem dL_law_518 : decode cL_law 518 = .ok (.iload 6, 2) := by decide +kernel
theorem dL_law_520 : decode cL_law 520 = .ok (.aload_n 1, 1) := by decide +kernel
theorem dL_law_521 : decode cL_law 521 = .ok (.iload 7, 2) := by decide +kernel
theorem dL_law_523 : decode cL_law 523 = .ok (.invokevirtual 156, 3) := by decide +kernel
theorem dL_law_526 : decode cL_law 526 = .ok (.ior, 1) := by decide +kernel
theorem dL_law_527 : decode cL_law 527 = .ok (.istore 6, 2) := by decide +kernel
theorem dL_law_529 : decode cL_law 529 = .ok (.iinc 7 1, 3) := by decide +kernel
theorem dL_law_532 : decode cL_law 532 = .ok (.goto (-295), 3) := by decide +kernel
theorem dL_law_535 : decode cL_law 535 = .ok (.iconst 0, 1) := by decide +kernel
theorem dL_law_536 : decode cL_law 536 = .ok (.istore 7, 2) := by decide +kernel
theorem dL_law_538 : decode cL_law 538 = .ok (.iload 7, 2) := by decide +kernel
theorem dL_law_540 : decode cL_law 540 = .ok (.iconst 4, 1) := by decide +kernel
theorem dL_law_541 : decode cL_law 541 = .ok (.if_icmp .ge 26, 3) := by decide +kernel
theorem dL_law_544 : decode cL_law 544 = .ok (.aload_n 1, 1) := by decide +kernel
theorem dL_law_545 : decode cL_law 545 = .ok (.iload 7, 2) := by decide +kernel
theorem dL_law_547 : decode cL_law 547 = .ok (.invokevirtual 126, 3) := by decide +kernel
theorem dL_law_550 : decode cL_law 550 = .ok (.aload 5, 2) := by decide +kernel
theorem dL_law_552 : decode cL_law 552 = .ok (.iload 7, 2) := by decide +kernel
theorem dL_law_554 : decode cL_law 554 = .ok (.laload, 1) := by decide +kernel
theorem dL_law_555 : decode cL_law 555 = .ok (.lcmp, 1) := by decide +kernel
theorem dL_law_556 : decode cL_law 556 = .ok (.ifCond .eq 5, 3) := by decide +kernel
theorem dL_law_559 : decode cL_law 559 = .ok (.iconst 0, 1) := by decide +kernel
theorem dL_law_560 : decode cL_law 560 = .ok (.ireturn, 1) := by decide +kernel
theorem dL_law_561 : decode cL_law 561 = .ok (.iinc 7 1, 3) := by decide +kernel
theorem dL_law_564 : decode cL_law 564 = .ok (.goto (-26), 3) := by decide +kernel
theorem dL_law_567 : decode cL_law 567 = .ok (.iload 6, 2) := by decide +kernel
theorem dL_law_569 : decode cL_law 569 = .ok (.iconst 1, 1) := by decide +kernel
theorem dL_law_570 : decode cL_law 570 = .ok (.aload_n 1, 1) := by decide +kernel
theorem dL_law_571 : decode cL_law 571 = .ok (.iconst 0, 1) := by decide +kernel
theorem dL_law_572 : decode cL_law 572 = .ok (.invokevirtual 134, 3) := by decide +kernel
theorem dL_law_575 : decode cL_law 575 = .ok (.ishl, 1) := by decide +kernel
theorem dL_law_576 : decode cL_law 576 = .ok (.iconst 1, 1) := by decide +kernel
theorem dL_law_577 : decode cL_law 577 = .ok (.isub, 1) := by decide +kernel
theorem dL_law_578 : decode cL_law 578 = .ok (.if_icmp .ne 26, 3) := by decide +kernel
theorem dL_law_581 : decode cL_law 581 = .ok (.aload_n 1, 1) := by decide +kernel
theorem dL_law_582 : decode cL_law 582 = .ok (.iload 4, 2) := by decide +kernel
theorem dL_law_584 : decode cL_law 584 = .ok (.iconst 0, 1) := by decide +kernel
theorem dL_law_585 : decode cL_law 585 = .ok (.invokevirtual 146, 3) := by decide +kernel
theorem dL_law_588 : decode cL_law 588 = .ok (.ldc2_w 159, 3) := by decide +kernel
theorem dL_law_591 : decode cL_law 591 = .ok (.lcmp, 1) := by decide +kernel
theorem dL_law_592 : decode cL_law 592 = .ok (.ifCond .ne 12, 3) := by decide +kernel
theorem dL_law_595 : decode cL_law 595 = .ok (.aload_n 1, 1) := by decide +kernel
theorem dL_law_596 : decode cL_law 596 = .ok (.iconst (-1), 1) := by decide +kernel
theorem dL_law_597 : decode cL_law 597 = .ok (.invokevirtual 156, 3) := by decide +kernel
theorem dL_law_600 : decode cL_law 600 = .ok (.iconst (-1), 1) := by decide +kernel
theorem dL_law_601 : decode cL_law 601 = .ok (.if_icmp .eq 5, 3) := by decide +kernel
theorem dL_law_604 : decode cL_law 604 = .ok (.iconst 0, 1) := by decide +kernel
theorem dL_law_605 : decode cL_law 605 = .ok (.ireturn, 1) := by decide +kernel
theorem dL_law_606 : decode cL_law 606 = .ok (.aload_n 1, 1) := by decide +kernel
theorem dL_law_607 : decode cL_law 607 = .ok (.iload 4, 2) := by decide +kernel
theorem dL_law_609 : decode cL_law 609 = .ok (.aload 5, 2) := by decide +kernel
theorem dL_law_611 : decode cL_law 611 = .ok (.iconst 2, 1) := by decide +kernel
theorem dL_law_612 : decode cL_law 612 = .ok (.laload, 1) := by decide +kernel
theorem dL_law_613 : decode cL_law 613 = .ok (.aload 5, 2) := by decide +kernel
theorem dL_law_615 : decode cL_law 615 = .ok (.iconst 3, 1) := by decide +kernel
theorem dL_law_616 : decode cL_law 616 = .ok (.laload, 1) := by decide +kernel
theorem dL_law_617 : decode cL_law 617 = .ok (.aload_n 0, 1) := by decide +kernel
theorem dL_law_618 : decode cL_law 618 = .ok (.invokestatic 161, 3) := by decide +kernel
theorem dL_law_621 : decode cL_law 621 = .ok (.ifCond .eq 16, 3) := by decide +kernel
theorem dL_law_624 : decode cL_law 624 = .ok (.aload_n 1, 1) := by decide +kernel
theorem dL_law_625 : decode cL_law 625 = .ok (.iload 4, 2) := by decide +kernel
theorem dL_law_627 : decode cL_law 627 = .ok (.invokestatic 165, 3) := by decide +kernel
theorem dL_law_630 : decode cL_law 630 = .ok (.ifCond .eq 7, 3) := by decide +kernel
theorem dL_law_633 : decode cL_law 633 = .ok (.iconst 1, 1) := by decide +kernel
theorem dL_law_634 : decode cL_law 634 = .ok (.goto 4, 3) := by decide +kernel
theorem dL_law_637 : decode cL_law 637 = .ok (.iconst 0, 1) := by decide +kernel
theorem dL_law_638 : decode cL_law 638 = .ok (.ireturn, 1) := by decide +kernel
theorem pq_988 : Cond.methodLink RL 146 yX11_view ∈ pd_gt := pd_in 589 (by decide +kernel) (by decide +kernel)
theorem pq_989 : Cond.code yX11_view cX11_view 3 (some .long) ∈ pd_gt := pd_in 592 (by decide +kernel) (by decide +kernel)
theorem pq_990 : Cond.initialized yX11_view.cls ∈ pd_gt := pd_in 37 (by decide +kernel) (by decide +kernel)
theorem pq_991 : Cond.instanceMethod yX11_view ∈ pd_gt := pd_in 590 (by decide +kernel) (by decide +kernel)
theorem pq_992 : Cond.selects yX11_view.cls yX11_view yX11_view ∈ pd_gt := pd_in 591 (by decide +kernel) (by decide +kernel)
theorem pq_993 : Cond.methodLink RL 150 Lib.MathLoose.min_long.x ∈ pd_gt := pd_in 1312 (by decide +kernel) (by decide +kernel)
theorem pq_994 : Cond.methodLink RL 175 yX11_estate ∈ pd_gt := pd_in 1299 (by decide +kernel) (by decide +kernel)
theorem pq_995 : Cond.code yX11_estate cX11_estate 3 (some .long) ∈ pd_gt := pd_in 1302 (by decide +kernel) (by decide +kernel)
theorem pq_996 : Cond.initialized yX11_estate.cls ∈ pd_gt := pd_in 37 (by decide +kernel) (by decide +kernel)
theorem pq_997 : Cond.instanceMethod yX11_estate ∈ pd_gt := pd_in 1300 (by decide +kernel) (by decide +kernel)
theorem pq_998 : Cond.selects yX11_estate.cls yX11_estate yX11_estate ∈ pd_gt := pd_in 1301 (by decide +kernel) (by decide +kernel)
theorem pq_999 : Cond.constantLong RL 178 ((-2) : Int64) ∈ pd_gt := pd_in 1313 (by decide +kernel) (by decide +kernel)
theorem pq_1000 : Cond.methodLink RL 169 yX11_enough ∈ pd_gt := pd_in 1293 (by decide +kernel) (by decide +kernel)
theorem pq_1001 : Cond.code yX11_enough cX11_enough 8 (some .long) ∈ pd_gt := pd_in 1296 (by decide +kernel) (by decide +kernel)
theorem pq_1002 : Cond.initialized yX11_enough.cls ∈ pd_gt := pd_in 37 (by decide +kernel) (by decide +kernel)
theorem pq_1003 : Cond.instanceMethod yX11_enough ∈ pd_gt := pd_in 1294 (by decide +kernel) (by decide +kernel)
theorem pq_1004 : Cond.selects yX11_enough.cls yX11_enough yX11_enough ∈ pd_gt := pd_in 1295 (by decide +kernel) (by decide +kernel)
theorem pq_1005 : Cond.constantLong RL 159 ((-1) : Int64) ∈ pd_gt := pd_in 1314 (by decide +kernel) (by decide +kernel)
theorem pq_1006 : Cond.constant RL 172 (1048575 : Int32) ∈ pd_gt := pd_in 1297 (by decide +kernel) (by decide +kernel)
theorem pq_1007 : Cond.constantLong RL 173 (100 : Int64) ∈ pd_gt := pd_in 1298 (by decide +kernel) (by decide +kernel)
theorem pq_1008 : Cond.methodLink RL 180 yX11_ranked ∈ pd_gt := pd_in 1318 (by decide +kernel) (by decide +kernel)
theorem pq_1009 : Cond.code yX11_ranked cX11_ranked 3 (some .int) ∈ pd_gt := pd_in 1321 (by decide +kernel) (by decide +kernel)
theorem pq_1010 : Cond.initialized yX11_ranked.cls ∈ pd_gt := pd_in 37 (by decide +kernel) (by decide +kernel)
theorem pq_1011 : Cond.instanceMethod yX11_ranked ∈ pd_gt := pd_in 1319 (by decide +kernel) (by decide +kernel)
theorem pq_1012 : Cond.selects yX11_ranked.cls yX11_ranked yX11_ranked ∈ pd_gt := pd_in 1320 (by decide +kernel) (by decide +kernel)
theorem pq_1013 : Cond.methodLink RL 140 yX11_ways ∈ pd_gt := pd_in 661 (by decide +kernel) (by decide +kernel)
theorem pq_1014 : Cond.code yX11_ways cX11_ways 3 (some .int) ∈ pd_gt := pd_in 664 (by decide +kernel) (by decide +kernel)
theorem pq_1015 : Cond.initialized yX11_ways.cls ∈ pd_gt := pd_in 37 (by decide +kernel) (by decide +kernel)
theorem pq_1016 : Cond.instanceMethod yX11_ways ∈ pd_gt := pd_in 662 (by decide +kernel) (by decide +kernel)
theorem pq_1017 : Cond.selects yX11_ways.cls yX11_ways yX11_ways ∈ pd_gt := pd_in 663 (by decide +kernel) (by decide +kernel)
theorem pq_1018 : Cond.methodLink RL 143 yX11_account ∈ pd_gt := pd_in 500 (by decide +kernel) (by decide +kernel)
theorem pq_1019 : Cond.code yX11_account cX11_account 4 (some .int) ∈ pd_gt := pd_in 503 (by decide +kernel) (by decide +kernel)
theorem pq_1020 : Cond.initialized yX11_account.cls ∈ pd_gt := pd_in 37 (by decide +kernel) (by decide +kernel)
theorem pq_1021 : Cond.instanceMethod yX11_account ∈ pd_gt := pd_in 501 (by decide +kernel) (by decide +kernel)
theorem pq_1022 : Cond.selects yX11_account.cls yX11_account yX11_account ∈ pd_gt := pd_in 502 (by decide +kernel) (by decide +kernel)
theorem pq_1023 : Cond.methodLink RL 134 yX11_count ∈ pd_gt := pd_in 749 (by decide +kernel) (by decide +kernel)
theorem pq_1024 : Cond.code yX11_count cX11_count 2 (some .int) ∈ pd_gt := pd_in 752 (by decide +kernel) (by decide +kernel)
theorem pq_1025 : Cond.initialized yX11_count.cls ∈ pd_gt := pd_in 37 (by decide +kernel) (by decide +kernel)
theorem pq_1026 : Cond.instanceMethod yX11_count ∈ pd_gt := pd_in 750 (by decide +kernel) (by decide +kernel)
theorem pq_1027 : Cond.selects yX11_count.cls yX11_count yX11_count ∈ pd_gt := pd_in 751 (by decide +kernel) (by decide +kernel)
theorem pq_1028 : Cond.methodLink RL 137 yX11_share ∈ pd_gt := pd_in 512 (by decide +kernel) (by decide +kernel)
theorem pq_1029 : Cond.code yX11_share cX11_share 3 (some .int) ∈ pd_gt := pd_in 515 (by decide +kernel) (by decide +kernel)
theorem pq_1030 : Cond.initialized yX11_share.cls ∈ pd_gt := pd_in 37 (by decide +kernel) (by decide +kernel)
theorem pq_1031 : Cond.instanceMethod yX11_share ∈ pd_gt := pd_in 513 (by decide +kernel) (by decide +kernel)
theorem pq_1032 : Cond.selects yX11_share.cls yX11_share yX11_share ∈ pd_gt := pd_in 514 (by decide +kernel) (by decide +kernel)
theorem pq_1033 : Cond.methodLink RL 156 yX11_who ∈ pd_gt := pd_in 581 (by decide +kernel) (by decide +kernel)
theorem pq_1034 : Cond.code yX11_who cX11_who 2 (some .int) ∈ pd_gt := pd_in 584 (by decide +kernel) (by decide +kernel)
theorem pq_1035 : Cond.initialized yX11_who.cls ∈ pd_gt := pd_in 37 (by decide +kernel) (by decide +kernel)
theorem pq_1036 : Cond.instanceMethod yX11_who ∈ pd_gt := pd_in 582 (by decide +kernel) (by decide +kernel)
theorem pq_1037 : Cond.selects yX11_who.cls yX11_who yX11_who ∈ pd_gt := pd_in 583 (by decide +kernel) (by decide +kernel)
theorem pq_1038 : Cond.methodLink RL 161 yL_isPaid ∈ pd_gt := pd_in 1290 (by decide +kernel) (by decide +kernel)
theorem pq_1039 : Cond.code yL_isPaid cL_isPaid 14 (some .boolean) ∈ pd_gt := pd_in 1292 (by decide +kernel) (by decide +kernel)
theorem pq_1040 : Cond.initialized yL_isPaid.cls ∈ pd_gt := pd_in 36 (by decide +kernel) (by decide +kernel)
theorem pq_1041 : Cond.static yL_isPaid ∈ pd_gt := pd_in 1291 (by decide +kernel) (by decide +kernel)
theorem pq_1042 : Cond.methodLink RL 165 yL_isRanked ∈ pd_gt := pd_in 1315 (by decide +kernel) (by decide +kernel)
theorem pq_1043 : Cond.code yL_isRanked cL_isRanked 6 (some .boolean) ∈ pd_gt := pd_in 1317 (by decide +kernel) (by decide +kernel)
theorem pq_1044 : Cond.initialized yL_isRanked.cls ∈ pd_gt := pd_in 36 (by decide +kernel) (by decide +kernel)
theorem pq_1045 : Cond.static yL_isRanked ∈ pd_gt := pd_in 1316 (by decide +kernel) (by decide +kernel)
theorem pq_1046 : Cond.methodLink RL 126 yX11_all ∈ pd_gt := pd_in 623 (by decide +kernel) (by decide +kernel)
theorem pq_1047 : Cond.code yX11_all cX11_all 2 (some .long) ∈ pd_gt := pd_in 626 (by decide +kernel) (by decide +kernel)
theorem pq_1048 : Cond.initialized yX11_all.cls ∈ pd_gt := pd_in 37 (by decide +kernel) (by decide +kernel)
theorem pq_1049 : Cond.instanceMethod yX11_all ∈ pd_gt := pd_in 624 (by decide +kernel) (by decide +kernel)
theorem pq_1050 : Cond.selects yX11_all.cls yX11_all yX11_all ∈ pd_gt := pd_in 625 (by decide +kernel) (by decide +kernel)
theorem pq_1051 : Cond.classLink RL 26 "PayoutDesk" ∈ pd_gt := pd_in 66 (by decide +kernel) (by decide +kernel)
theorem pq_1052 : Cond.instantiable "PayoutDesk" 10 ∈ pd_gt := pd_in 67 (by decide +kernel) (by decide +kernel)
theorem pq_1053 : Cond.initialized "PayoutDesk" ∈ pd_gt := pd_in 37 (by decide +kernel) (by decide +kernel)
theorem pq_1054 : Cond.methodLink RL 125 yX11_init ∈ pd_gt := pd_in 68 (by decide +kernel) (by decide +kernel)
theorem pq_1055 : Cond.code yX11_init cX11_init 1 none ∈ pd_gt := pd_in 70 (by decide +kernel) (by decide +kernel)
theorem pq_1056 : Cond.initialized yX11_init.cls ∈ pd_gt := pd_in 37 (by decide +kernel) (by decide +kernel)
theorem pq_1057 : Cond.instanceMethod yX11_init ∈ pd_gt := pd_in 69 (by decide +kernel) (by decide +kernel)
theorem pq_1058 : Cond.methodLink RL 130 yL_begins ∈ pd_gt := pd_in 759 (by decide +kernel) (by decide +kernel)
theorem pq_1059 : Cond.code yL_begins cL_begins 10 (some .boolean) ∈ pd_gt := pd_in 761 (by decide +kernel) (by decide +kernel)
theorem pq_1060 : Cond.initialized yL_begins.cls ∈ pd_gt := pd_in 36 (by decide +kernel) (by decide +kernel)
theorem pq_1061 : Cond.static yL_begins ∈ pd_gt := pd_in 760 (by decide +kernel) (by decide +kernel)
def pfL_isPaid_b46 (Ls : Int) (xs : Int → Int) (n : Nat) (c20 : pd_S → pd_F → Int → Int → Int → Int → Int → Int → Option (Int × pd_S × pd_F)) (sh : pd_S) (F : pd_F) (x0 : Int) (x1 : Int) (x2 : Int) (x4 : Int) (x7 : Int) (x8 : Int) (t0 : Int) (t1 : Int) : Option (Int × pd_S × pd_F) :=
  pd_i (pd_ib sh 1 0 t1 t0 = true) <|
  pd_i (pd_ob sh 11 x0 = true) <|
  Option.bind (pfX11_view sh n F x0 x8 7) fun qr4 => pd_l qr4.1 fun r4 => pd_l qr4.2 fun F2 =>
  pd_l (pd_up F2 t1 t0 (pd_W ((F t1 t0) + r4))) fun F5 =>
  pd_l (pd_w (x8 + 1)) fun x8_58 =>
  c20 sh F5 x0 x1 x2 x4 x7 x8_58
def pfL_isPaid_b126 (Ls : Int) (xs : Int → Int) (n : Nat) (c67 : pd_S → pd_F → Int → Int → Int → Int → Int → Int → Option (Int × pd_S × pd_F)) (sh : pd_S) (F : pd_F) (x0 : Int) (x1 : Int) (x2 : Int) (x4 : Int) (x7 : Int) (x8 : Int) (t0 : Int) (t1 : Int) : Option (Int × pd_S × pd_F) :=
  if t1 = t0 then
    pd_l (pd_w (x8 + 1)) fun x8_132 =>
    c67 sh F x0 x1 x2 x4 x7 x8_132
  else
    some (0, sh, F)
def pfL_isPaid_b125 (Ls : Int) (xs : Int → Int) (n : Nat) (c67 : pd_S → pd_F → Int → Int → Int → Int → Int → Int → Option (Int × pd_S × pd_F)) (sh : pd_S) (F : pd_F) (x0 : Int) (x1 : Int) (x2 : Int) (x4 : Int) (x7 : Int) (x8 : Int) (t0 : Int) (t1 : Int) (t2 : Int) : Option (Int × pd_S × pd_F) :=
  pfL_isPaid_b126 Ls xs n c67 sh F x0 x1 x2 x4 x7 x8 (pd_W (t1 + t0)) t2
def pfL_isPaid_b110 (Ls : Int) (xs : Int → Int) (n : Nat) (c67 : pd_S → pd_F → Int → Int → Int → Int → Int → Int → Option (Int × pd_S × pd_F)) (sh : pd_S) (F : pd_F) (x0 : Int) (x1 : Int) (x2 : Int) (x4 : Int) (x7 : Int) (x8 : Int) (t0 : Int) (t1 : Int) (t2 : Int) : Option (Int × pd_S × pd_F) :=
  if x8 ≤ 1 then
    pfL_isPaid_b125 Ls xs n c67 sh F x0 x1 x2 x4 x7 x8 0 (pd_W (t1 + t0)) t2
  else
    pd_i (pd_ib sh 1 0 x7 2 = true) <|
    pfL_isPaid_b125 Ls xs n c67 sh F x0 x1 x2 x4 x7 x8 (F x7 2) (pd_W (t1 + t0)) t2
def pfL_isPaid_b268 (Ls : Int) (xs : Int → Int) (n : Nat) (c141 : pd_S → pd_F → Int → Int → Int → Int → Int → Int → Option (Int × pd_S × pd_F)) (c209 : pd_S → pd_F → Int → Int → Int → Int → Int → Int → Int → Int → Int → Option (Int × pd_S × pd_F)) (sh : pd_S) (F : pd_F) (x0 : Int) (x1 : Int) (x2 : Int) (x4 : Int) (x7 : Int) (x8 : Int) (x9 : Int) (x10 : Int) (x11 : Int) (x12 : Int) (t0 : Int) (t1 : Int) : Option (Int × pd_S × pd_F) :=
  pd_i (pd_ib sh 1 0 t1 t0 = true) <|
  pd_l (pd_up F t1 t0 (pd_W ((F t1 t0) + x12))) fun F8 =>
  pd_l (pd_w (x11 + 1)) fun x11_274 =>
  c209 sh F8 x0 x1 x2 x4 x7 x8 x9 x10 x11_274
def pfL_isPaid_b342 (Ls : Int) (xs : Int → Int) (n : Nat) (c141 : pd_S → pd_F → Int → Int → Int → Int → Int → Int → Option (Int × pd_S × pd_F)) (c288 : pd_S → pd_F → Int → Int → Int → Int → Int → Int → Int → Int → Int → Option (Int × pd_S × pd_F)) (sh : pd_S) (F : pd_F) (x0 : Int) (x1 : Int) (x2 : Int) (x4 : Int) (x7 : Int) (x8 : Int) (x10 : Int) (x11 : Int) (x13 : Int) : Option (Int × pd_S × pd_F) :=
  pd_l (pd_w (x13 + 1)) fun x13_342 =>
  c288 sh F x0 x1 x2 x4 x7 x8 x10 x11 x13_342
def pfL_isPaid_b348 (Ls : Int) (xs : Int → Int) (n : Nat) (c141 : pd_S → pd_F → Int → Int → Int → Int → Int → Int → Option (Int × pd_S × pd_F)) (sh : pd_S) (F : pd_F) (x0 : Int) (x1 : Int) (x2 : Int) (x4 : Int) (x7 : Int) (x8 : Int) : Option (Int × pd_S × pd_F) :=
  pd_l (pd_w (x8 + 1)) fun x8_348 =>
  c141 sh F x0 x1 x2 x4 x7 x8_348
def pfL_isPaid_b288 (Ls : Int) (xs : Int → Int) (n : Nat) (c141 : pd_S → pd_F → Int → Int → Int → Int → Int → Int → Option (Int × pd_S × pd_F)) : Nat → pd_S → pd_F → Int → Int → Int → Int → Int → Int → Int → Int → Int → Option (Int × pd_S × pd_F)
  | 0, _, _, _, _, _, _, _, _, _, _, _ => none
  | k + 1, sh, F, x0, x1, x2, x4, x7, x8, x10, x11, x13 =>
    if x13 ≥ 3 then
      pfL_isPaid_b348 Ls xs n c141 sh F x0 x1 x2 x4 x7 x8
    else
      pd_i (pd_ib sh 1 0 x10 x13 = true) <|
      pd_i (pd_ib sh 1 0 x7 x13 = true) <|
      if (F x10 x13) = (min x11 (F x7 x13)) then
        pd_l (pd_W (x11 - (F x10 x13))) fun x11_323 =>
        if (F x10 x13) ≥ (F x7 x13) then
          pfL_isPaid_b342 Ls xs n c141 (pfL_isPaid_b288 Ls xs n c141 k) sh F x0 x1 x2 x4 x7 x8 x10 x11_323 x13
        else
          pfL_isPaid_b342 Ls xs n c141 (pfL_isPaid_b288 Ls xs n c141 k) sh F x0 x1 x2 x4 x7 x8 x10 0 x13
      else
        some (0, sh, F)
def pfL_isPaid_b280 (Ls : Int) (xs : Int → Int) (n : Nat) (c141 : pd_S → pd_F → Int → Int → Int → Int → Int → Int → Option (Int × pd_S × pd_F)) (sh : pd_S) (F : pd_F) (x0 : Int) (x1 : Int) (x2 : Int) (x4 : Int) (x7 : Int) (x8 : Int) (x9 : Int) (x10 : Int) : Option (Int × pd_S × pd_F) :=
  pfL_isPaid_b288 Ls xs n c141 n sh F x0 x1 x2 x4 x7 x8 x10 x9 0
def pfL_isPaid_b209 (Ls : Int) (xs : Int → Int) (n : Nat) (c141 : pd_S → pd_F → Int → Int → Int → Int → Int → Int → Option (Int × pd_S × pd_F)) : Nat → pd_S → pd_F → Int → Int → Int → Int → Int → Int → Int → Int → Int → Option (Int × pd_S × pd_F)
  | 0, _, _, _, _, _, _, _, _, _, _, _ => none
  | k + 1, sh, F, x0, x1, x2, x4, x7, x8, x9, x10, x11 =>
    if x11 ≥ x1 then
      pfL_isPaid_b280 Ls xs n c141 sh F x0 x1 x2 x4 x7 x8 x9 x10
    else
      pd_i (pd_ob sh 11 x0 = true) <|
      Option.bind (pfX11_estate sh n F x0 x9 x11) fun qr13 => pd_l qr13.1 fun r13 => pd_l qr13.2 fun F11 =>
      if r13 < 0 then
        some (0, sh, F11)
      else
        Option.bind (pfX11_view sh n F11 x0 x11 7) fun qr15 => pd_l qr15.1 fun r15 => pd_l qr15.2 fun F14 =>
        if r13 ≤ r15 then
          Option.bind (pfX11_view sh n F14 x0 x11 8) fun qr17 => pd_l qr17.1 fun r17 => pd_l qr17.2 fun F16 =>
          if r17 ≠ 1 then
            pfL_isPaid_b268 Ls xs n c141 (pfL_isPaid_b209 Ls xs n c141 k) sh F16 x0 x1 x2 x4 x7 x8 x9 x10 x11 r13 1 x10
          else
            pfL_isPaid_b268 Ls xs n c141 (pfL_isPaid_b209 Ls xs n c141 k) sh F16 x0 x1 x2 x4 x7 x8 x9 x10 x11 r13 2 x10
        else
          some (0, sh, F14)
def pfL_isPaid_b181 (Ls : Int) (xs : Int → Int) (n : Nat) (c141 : pd_S → pd_F → Int → Int → Int → Int → Int → Int → Option (Int × pd_S × pd_F)) (sh : pd_S) (F : pd_F) (x0 : Int) (x1 : Int) (x2 : Int) (x4 : Int) (x7 : Int) (x8 : Int) (t0 : Int) : Option (Int × pd_S × pd_F) :=
  pd_l ((sh.length : Int) + 1) fun o20 => pd_l (pd_z F (sh.length + 1)) fun F19 => pd_l (sh ++ [(1, 0, 3)]) fun sh18 =>
  pd_i (pd_ob sh18 11 x0 = true) <|
  Option.bind (pfX11_estate sh18 n F19 x0 t0 (-1)) fun qr23 => pd_l qr23.1 fun r23 => pd_l qr23.2 fun F21 =>
  pd_i (pd_ib sh18 1 0 o20 0 = true) <|
  pd_l (pd_up F21 o20 0 r23) fun F25 =>
  pd_i (pd_ib sh18 1 0 o20 1 = true) <|
  pd_l (pd_up F25 o20 1 0) fun F27 =>
  pd_i (pd_ib sh18 1 0 o20 2 = true) <|
  pd_l (pd_up F27 o20 2 0) fun F29 =>
  pd_i (o20 ≠ 0) <|
  pfL_isPaid_b209 Ls xs n c141 n sh18 F29 x0 x1 x2 x4 x7 x8 t0 o20 0
def pfL_isPaid_b354 (Ls : Int) (xs : Int → Int) (n : Nat)  (sh : pd_S) (F : pd_F) (x0 : Int) (x1 : Int) : Option (Int × pd_S × pd_F) :=
  pd_i (pd_ob sh 11 x0 = true) <|
  Option.bind (pfX11_estate sh n F x0 (-1) 0) fun qr33 => pd_l qr33.1 fun r33 => pd_l qr33.2 fun F31 =>
  if r33 ≠ (-2) then
    some (0, sh, F31)
  else
    Option.bind (pfX11_estate sh n F31 x0 0 x1) fun qr35 => pd_l qr35.1 fun r35 => pd_l qr35.2 fun F34 =>
    if r35 ≠ (-2) then
      some (0, sh, F34)
    else
      Option.bind (pfX11_enough sh n F34 x0 3) fun qr37 => pd_l qr37.1 fun r37 => pd_l qr37.2 fun F36 =>
      if r37 ≠ (-1) then
        some (0, sh, F36)
      else
        some (1, sh, F36)
def pfL_isPaid_b141 (Ls : Int) (xs : Int → Int) (n : Nat)  : Nat → pd_S → pd_F → Int → Int → Int → Int → Int → Int → Option (Int × pd_S × pd_F)
  | 0, _, _, _, _, _, _, _, _ => none
  | k + 1, sh, F, x0, x1, x2, x4, x7, x8 =>
    if x8 ≥ 6 then
      pfL_isPaid_b354 Ls xs n sh F x0 x1
    else
      if x8 ≠ 0 then
        Option.bind (pfL_cell Ls xs sh n F (pd_w (180 + x8))) fun qr39 => pd_l qr39.1 fun r39 => pd_l qr39.2 fun F38 =>
        pd_i ((pd_w (pd_W ((pd_W (x2 + x4)) + 100))) ≠ 0) <|
        pfL_isPaid_b181 Ls xs n (pfL_isPaid_b141 Ls xs n k) sh F38 x0 x1 x2 x4 x7 x8 (Int.tmod (pd_and r39 1048575) (pd_w (pd_W ((pd_W (x2 + x4)) + 100))))
      else
        pfL_isPaid_b181 Ls xs n (pfL_isPaid_b141 Ls xs n k) sh F x0 x1 x2 x4 x7 x8 0
def pfL_isPaid_b138 (Ls : Int) (xs : Int → Int) (n : Nat)  (sh : pd_S) (F : pd_F) (x0 : Int) (x1 : Int) (x2 : Int) (x4 : Int) (x7 : Int) : Option (Int × pd_S × pd_F) :=
  pfL_isPaid_b141 Ls xs n 7 sh F x0 x1 x2 x4 x7 0
def pfL_isPaid_b67 (Ls : Int) (xs : Int → Int) (n : Nat)  : Nat → pd_S → pd_F → Int → Int → Int → Int → Int → Int → Option (Int × pd_S × pd_F)
  | 0, _, _, _, _, _, _, _, _ => none
  | k + 1, sh, F, x0, x1, x2, x4, x7, x8 =>
    if x8 ≥ 3 then
      pfL_isPaid_b138 Ls xs n sh F x0 x1 x2 x4 x7
    else
      pd_i (pd_ob sh 11 x0 = true) <|
      Option.bind (pfX11_enough sh n F x0 x8) fun qr43 => pd_l qr43.1 fun r43 => pd_l qr43.2 fun F41 =>
      pd_i (pd_ib sh 1 0 x7 x8 = true) <|
      if (F41 x7 x8) ≠ 0 then
        pd_i (pd_ib sh 1 0 x7 0 = true) <|
        if x8 ≤ 0 then
          pfL_isPaid_b110 Ls xs n (pfL_isPaid_b67 Ls xs n k) sh F41 x0 x1 x2 x4 x7 x8 0 (F41 x7 0) r43
        else
          pd_i (pd_ib sh 1 0 x7 1 = true) <|
          pfL_isPaid_b110 Ls xs n (pfL_isPaid_b67 Ls xs n k) sh F41 x0 x1 x2 x4 x7 x8 (F41 x7 1) (F41 x7 0) r43
      else
        pfL_isPaid_b126 Ls xs n (pfL_isPaid_b67 Ls xs n k) sh F41 x0 x1 x2 x4 x7 x8 0 r43
def pfL_isPaid_b64 (Ls : Int) (xs : Int → Int) (n : Nat)  (sh : pd_S) (F : pd_F) (x0 : Int) (x1 : Int) (x2 : Int) (x4 : Int) (x7 : Int) : Option (Int × pd_S × pd_F) :=
  pfL_isPaid_b67 Ls xs n n sh F x0 x1 x2 x4 x7 0
def pfL_isPaid_b20 (Ls : Int) (xs : Int → Int) (n : Nat)  : Nat → pd_S → pd_F → Int → Int → Int → Int → Int → Int → Option (Int × pd_S × pd_F)
  | 0, _, _, _, _, _, _, _, _ => none
  | k + 1, sh, F, x0, x1, x2, x4, x7, x8 =>
    if x8 ≥ x1 then
      pfL_isPaid_b64 Ls xs n sh F x0 x1 x2 x4 x7
    else
      pd_i (pd_ob sh 11 x0 = true) <|
      Option.bind (pfX11_view sh n F x0 x8 8) fun qr49 => pd_l qr49.1 fun r49 => pd_l qr49.2 fun F47 =>
      if r49 ≠ 1 then
        pfL_isPaid_b46 Ls xs n (pfL_isPaid_b20 Ls xs n k) sh F47 x0 x1 x2 x4 x7 x8 1 x7
      else
        pfL_isPaid_b46 Ls xs n (pfL_isPaid_b20 Ls xs n k) sh F47 x0 x1 x2 x4 x7 x8 2 x7
def pfL_isPaid (Ls : Int) (xs : Int → Int) (sh : pd_S) (n : Nat) (F : pd_F) (x0 : Int) (x1 : Int) (x2 : Int) (x4 : Int) : Option (Int × pd_S × pd_F) :=
  pd_l ((sh.length : Int) + 1) fun o52 => pd_l (pd_z F (sh.length + 1)) fun F51 => pd_l (sh ++ [(1, 0, 3)]) fun sh50 =>
  pd_i (pd_ib sh50 1 0 o52 0 = true) <|
  pd_l (pd_up F51 o52 0 x2) fun F54 =>
  pd_i (pd_ib sh50 1 0 o52 1 = true) <|
  pd_l (pd_up F54 o52 1 0) fun F56 =>
  pd_i (pd_ib sh50 1 0 o52 2 = true) <|
  pd_l (pd_up F56 o52 2 0) fun F58 =>
  pd_i (o52 ≠ 0) <|
  pfL_isPaid_b20 Ls xs n n sh50 F58 x0 x1 x2 x4 o52 0
def pfL_isRanked_b105 (sh : pd_S) (n : Nat) (c4 : pd_F → Int → Int → Int → Int → Option (Int × pd_F)) (F : pd_F) (x0 : Int) (x1 : Int) (x2 : Int) (x3 : Int) : Option (Int × pd_F) :=
  pd_l (pd_w (x3 + 1)) fun x3_105 =>
  c4 F x0 x1 x2 x3_105
def pfL_isRanked_b111 (sh : pd_S) (n : Nat)  (F : pd_F) (x0 : Int) (x1 : Int) : Option (Int × pd_F) :=
  pd_i (pd_ob sh 11 x0 = true) <|
  Option.bind (pfX11_ranked sh n F x0 x1) fun qr3 => pd_l qr3.1 fun r3 => pd_l qr3.2 fun F1 =>
  if r3 ≠ (-1) then
    some (0, F1)
  else
    some (1, F1)
def pfL_isRanked_b4 (sh : pd_S) (n : Nat)  : Nat → pd_F → Int → Int → Int → Int → Option (Int × pd_F)
  | 0, _, _, _, _, _ => none
  | k + 1, F, x0, x1, x2, x3 =>
    if x3 ≥ x1 then
      pfL_isRanked_b111 sh n F x0 x1
    else
      pd_i (pd_ob sh 11 x0 = true) <|
      Option.bind (pfX11_ranked sh n F x0 x3) fun qr6 => pd_l qr6.1 fun r6 => pd_l qr6.2 fun F4 =>
      if r6 < 0 then
        some (0, F4)
      else
        if (pd_and (pd_shr x2 r6) 1) ≠ 1 then
          pd_l (pd_or x2 (pd_shl 1 r6)) fun x2_39 =>
          if x3 ≠ 0 then
            Option.bind (pfX11_ranked sh n F4 x0 (pd_w (x3 - 1))) fun qr8 => pd_l qr8.1 fun r8 => pd_l qr8.2 fun F7 =>
            Option.bind (pfX11_view sh n F7 x0 r8 7) fun qr10 => pd_l qr10.1 fun r10 => pd_l qr10.2 fun F9 =>
            Option.bind (pfX11_view sh n F9 x0 r6 7) fun qr12 => pd_l qr12.1 fun r12 => pd_l qr12.2 fun F11 =>
            if r10 < r12 then
              some (0, F11)
            else
              Option.bind (pfX11_view sh n F11 x0 r8 7) fun qr14 => pd_l qr14.1 fun r14 => pd_l qr14.2 fun F13 =>
              Option.bind (pfX11_view sh n F13 x0 r6 7) fun qr16 => pd_l qr16.1 fun r16 => pd_l qr16.2 fun F15 =>
              if r14 ≠ r16 then
                pfL_isRanked_b105 sh n (pfL_isRanked_b4 sh n k) F15 x0 x1 x2_39 x3
              else
                if r8 ≤ r6 then
                  pfL_isRanked_b105 sh n (pfL_isRanked_b4 sh n k) F15 x0 x1 x2_39 x3
                else
                  some (0, F15)
          else
            pfL_isRanked_b105 sh n (pfL_isRanked_b4 sh n k) F4 x0 x1 x2_39 x3
        else
          some (0, F4)
def pfL_isRanked (sh : pd_S) (n : Nat) (F : pd_F) (x0 : Int) (x1 : Int) : Option (Int × pd_F) :=
  pfL_isRanked_b4 sh n n F x0 x1 0 0
def pfL_law_b123 (Ls : Int) (xs : Int → Int) (n : Nat) (c43 : pd_S → pd_F → Int → Int → Int → Option Int) (c62 : pd_S → pd_F → Int → Int → Int → Int → Int → Int → Option Int) (sh : pd_S) (F : pd_F) (x1 : Int) (x2 : Int) (x4 : Int) (x5 : Int) (x8 : Int) (x9 : Int) (t0 : Int) (t1 : Int) : Option Int :=
  pd_l (pd_w (t1 + t0)) fun x7_124 =>
  pd_l (pd_W (x5 + x9)) fun x5_132 =>
  pd_l (pd_w (x8 + 1)) fun x8_134 =>
  c62 sh F x1 x2 x4 x5_132 x7_124 x8_134
def pfL_law_b105 (Ls : Int) (xs : Int → Int) (n : Nat) (c43 : pd_S → pd_F → Int → Int → Int → Option Int) (c62 : pd_S → pd_F → Int → Int → Int → Int → Int → Int → Option Int) (sh : pd_S) (F : pd_F) (x1 : Int) (x2 : Int) (x4 : Int) (x5 : Int) (x7 : Int) (x8 : Int) (x9 : Int) : Option Int :=
  pd_i (pd_ob sh 11 x1 = true) <|
  Option.bind (pfX11_ways sh n F x1 x4 x8) fun qr3 => pd_l qr3.1 fun r3 => pd_l qr3.2 fun F1 =>
  if r3 ≤ 0 then
    pfL_law_b123 Ls xs n c43 c62 sh F1 x1 x2 x4 x5 x8 x9 0 x7
  else
    pfL_law_b123 Ls xs n c43 c62 sh F1 x1 x2 x4 x5 x8 x9 1 x7
def pfL_law_b164 (Ls : Int) (xs : Int → Int) (n : Nat) (c43 : pd_S → pd_F → Int → Int → Int → Option Int) (sh : pd_S) (F : pd_F) (x1 : Int) (x2 : Int) (x4 : Int) (x7 : Int) (t0 : Int) (t1 : Int) : Option Int :=
  if t1 ≠ t0 then
    some 0
  else
    pd_i (pd_ob sh 11 x1 = true) <|
    Option.bind (pfX11_account sh n F x1 x4 3) fun qr6 => pd_l qr6.1 fun r6 => pd_l qr6.2 fun F4 =>
    if r6 = x7 then
      Option.bind (pfX11_account sh n F4 x1 x4 0) fun qr8 => pd_l qr8.1 fun r8 => pd_l qr8.2 fun F7 =>
      pd_l (pd_W (x2 + r8)) fun x2_193 =>
      pd_l (pd_w (x4 + 1)) fun x4_194 =>
      c43 sh F7 x1 x2_193 x4_194
    else
      some 0
def pfL_law_b140 (Ls : Int) (xs : Int → Int) (n : Nat) (c43 : pd_S → pd_F → Int → Int → Int → Option Int) (sh : pd_S) (F : pd_F) (x1 : Int) (x2 : Int) (x4 : Int) (x5 : Int) (x7 : Int) : Option Int :=
  pd_i (pd_ob sh 11 x1 = true) <|
  Option.bind (pfX11_account sh n F x1 x4 2) fun qr11 => pd_l qr11.1 fun r11 => pd_l qr11.2 fun F9 =>
  if r11 ≠ 1 then
    Option.bind (pfX11_account sh n F9 x1 x4 0) fun qr13 => pd_l qr13.1 fun r13 => pd_l qr13.2 fun F12 =>
    pfL_law_b164 Ls xs n c43 sh F12 x1 x2 x4 x7 r13 x5
  else
    pfL_law_b164 Ls xs n c43 sh F9 x1 x2 x4 x7 0 x5
def pfL_law_b62 (Ls : Int) (xs : Int → Int) (n : Nat) (c43 : pd_S → pd_F → Int → Int → Int → Option Int) : Nat → pd_S → pd_F → Int → Int → Int → Int → Int → Int → Option Int
  | 0, _, _, _, _, _, _, _, _ => none
  | k + 1, sh, F, x1, x2, x4, x5, x7, x8 =>
    pd_i (pd_ob sh 11 x1 = true) <|
    Option.bind (pfX11_count sh n F x1 0) fun qr16 => pd_l qr16.1 fun r16 => pd_l qr16.2 fun F14 =>
    if x8 ≥ r16 then
      pfL_law_b140 Ls xs n c43 sh F14 x1 x2 x4 x5 x7
    else
      Option.bind (pfX11_share sh n F14 x1 x4 x8) fun qr18 => pd_l qr18.1 fun r18 => pd_l qr18.2 fun F17 =>
      if r18 < 0 then
        some 0
      else
        if r18 ≤ 0 then
          pfL_law_b105 Ls xs n c43 (pfL_law_b62 Ls xs n c43 k) sh F17 x1 x2 x4 x5 x7 x8 r18
        else
          Option.bind (pfX11_ways sh n F17 x1 x4 x8) fun qr20 => pd_l qr20.1 fun r20 => pd_l qr20.2 fun F19 =>
          if r20 ≠ 0 then
            pfL_law_b105 Ls xs n c43 (pfL_law_b62 Ls xs n c43 k) sh F19 x1 x2 x4 x5 x7 x8 r18
          else
            some 0
def pfL_law_b299 (Ls : Int) (xs : Int → Int) (n : Nat) (c237 : pd_S → pd_F → Int → Int → Int → Int → Int → Option Int) (c250 : pd_S → pd_F → Int → Int → Int → Int → Int → Int → Int → Option Int) (c263 : pd_S → pd_F → Int → Int → Int → Int → Int → Int → Int → Int → Option Int) (sh : pd_S) (F : pd_F) (x1 : Int) (x4 : Int) (x5 : Int) (x6 : Int) (x7 : Int) (x8 : Int) (x10 : Int) (x11 : Int) : Option Int :=
  pd_l (pd_w (x11 + 1)) fun x11_299 =>
  c263 sh F x1 x4 x5 x6 x7 x8 x10 x11_299
def pfL_law_b305 (Ls : Int) (xs : Int → Int) (n : Nat) (c237 : pd_S → pd_F → Int → Int → Int → Int → Int → Option Int) (c250 : pd_S → pd_F → Int → Int → Int → Int → Int → Int → Int → Option Int) (sh : pd_S) (F : pd_F) (x1 : Int) (x4 : Int) (x5 : Int) (x6 : Int) (x7 : Int) (x8 : Int) (x10 : Int) : Option Int :=
  pd_l (pd_w (x10 + 1)) fun x10_305 =>
  c250 sh F x1 x4 x5 x6 x7 x8 x10_305
def pfL_law_b263 (Ls : Int) (xs : Int → Int) (n : Nat) (c237 : pd_S → pd_F → Int → Int → Int → Int → Int → Option Int) (c250 : pd_S → pd_F → Int → Int → Int → Int → Int → Int → Int → Option Int) : Nat → pd_S → pd_F → Int → Int → Int → Int → Int → Int → Int → Int → Option Int
  | 0, _, _, _, _, _, _, _, _, _, _ => none
  | k + 1, sh, F, x1, x4, x5, x6, x7, x8, x10, x11 =>
    pd_i (pd_ob sh 11 x1 = true) <|
    Option.bind (pfX11_count sh n F x1 2) fun qr23 => pd_l qr23.1 fun r23 => pd_l qr23.2 fun F21 =>
    if x11 ≥ r23 then
      pfL_law_b305 Ls xs n c237 c250 sh F21 x1 x4 x5 x6 x7 x8 x10
    else
      Option.bind (pfX11_person sh n F21 x1 x10 5) fun qr25 => pd_l qr25.1 fun r25 => pd_l qr25.2 fun F24 =>
      if r25 ≠ x7 then
        pfL_law_b299 Ls xs n c237 c250 (pfL_law_b263 Ls xs n c237 c250 k) sh F24 x1 x4 x5 x6 x7 x8 x10 x11
      else
        Option.bind (pfX11_share sh n F24 x1 x11 x10) fun qr27 => pd_l qr27.1 fun r27 => pd_l qr27.2 fun F26 =>
        pd_l (pd_W (x8 + r27)) fun x8_297 =>
        pfL_law_b299 Ls xs n c237 c250 (pfL_law_b263 Ls xs n c237 c250 k) sh F26 x1 x4 x5 x6 x7 x8_297 x10 x11
def pfL_law_b311 (Ls : Int) (xs : Int → Int) (n : Nat) (c237 : pd_S → pd_F → Int → Int → Int → Int → Int → Option Int) (sh : pd_S) (F : pd_F) (x1 : Int) (x4 : Int) (x5 : Int) (x6 : Int) (x7 : Int) (x8 : Int) : Option Int :=
  pd_i (pd_ob sh 11 x1 = true) <|
  Option.bind (pfX11_view sh n F x1 x7 0) fun qr30 => pd_l qr30.1 fun r30 => pd_l qr30.2 fun F28 =>
  if r30 ≠ x8 then
    some 0
  else
    Option.bind (pfX11_view sh n F28 x1 x7 2) fun qr32 => pd_l qr32.1 fun r32 => pd_l qr32.2 fun F31 =>
    Option.bind (pfX11_view sh n F31 x1 x7 1) fun qr34 => pd_l qr34.1 fun r34 => pd_l qr34.2 fun F33 =>
    if r32 ≠ (min x8 r34) then
      some 0
    else
      Option.bind (pfX11_view sh n F33 x1 x7 3) fun qr36 => pd_l qr36.1 fun r36 => pd_l qr36.2 fun F35 =>
      Option.bind (pfX11_view sh n F35 x1 x7 2) fun qr38 => pd_l qr38.1 fun r38 => pd_l qr38.2 fun F37 =>
      if r36 = (pd_W (x8 - r38)) then
        Option.bind (pfX11_view sh n F37 x1 x7 5) fun qr40 => pd_l qr40.1 fun r40 => pd_l qr40.2 fun F39 =>
        Option.bind (pfX11_count sh n F39 x1 6) fun qr42 => pd_l qr42.1 fun r42 => pd_l qr42.2 fun F41 =>
        Option.bind (pfX11_view sh n F41 x1 x7 4) fun qr44 => pd_l qr44.1 fun r44 => pd_l qr44.2 fun F43 =>
        Option.bind (pfX11_count sh n F43 x1 7) fun qr46 => pd_l qr46.1 fun r46 => pd_l qr46.2 fun F45 =>
        if r40 ≠ (pd_W (r42 + (min r44 r46))) then
          some 0
        else
          Option.bind (pfX11_view sh n F45 x1 x7 6) fun qr48 => pd_l qr48.1 fun r48 => pd_l qr48.2 fun F47 =>
          Option.bind (pfX11_view sh n F47 x1 x7 3) fun qr50 => pd_l qr50.1 fun r50 => pd_l qr50.2 fun F49 =>
          Option.bind (pfX11_view sh n F49 x1 x7 5) fun qr52 => pd_l qr52.1 fun r52 => pd_l qr52.2 fun F51 =>
          if r48 ≠ (min r50 r52) then
            some 0
          else
            Option.bind (pfX11_view sh n F51 x1 x7 7) fun qr54 => pd_l qr54.1 fun r54 => pd_l qr54.2 fun F53 =>
            Option.bind (pfX11_view sh n F53 x1 x7 3) fun qr56 => pd_l qr56.1 fun r56 => pd_l qr56.2 fun F55 =>
            Option.bind (pfX11_view sh n F55 x1 x7 6) fun qr58 => pd_l qr58.1 fun r58 => pd_l qr58.2 fun F57 =>
            if r54 = (pd_W (r56 - r58)) then
              pd_i (pd_ib sh 1 0 x5 0 = true) <|
              pd_l (pd_up F57 x5 0 (pd_W ((F57 x5 0) + x8))) fun F60 =>
              pd_i (pd_ib sh 1 0 x5 1 = true) <|
              Option.bind (pfX11_view sh n F60 x1 x7 2) fun qr63 => pd_l qr63.1 fun r63 => pd_l qr63.2 fun F62 =>
              pd_l (pd_up F62 x5 1 (pd_W ((F60 x5 1) + r63))) fun F64 =>
              pd_i (pd_ib sh 1 0 x5 2 = true) <|
              Option.bind (pfX11_view sh n F64 x1 x7 6) fun qr67 => pd_l qr67.1 fun r67 => pd_l qr67.2 fun F66 =>
              pd_l (pd_up F66 x5 2 (pd_W ((F64 x5 2) + r67))) fun F68 =>
              pd_i (pd_ib sh 1 0 x5 3 = true) <|
              Option.bind (pfX11_view sh n F68 x1 x7 7) fun qr71 => pd_l qr71.1 fun r71 => pd_l qr71.2 fun F70 =>
              pd_l (pd_up F70 x5 3 (pd_W ((F68 x5 3) + r71))) fun F72 =>
              Option.bind (pfX11_who sh n F72 x1 x7) fun qr74 => pd_l qr74.1 fun r74 => pd_l qr74.2 fun F73 =>
              pd_l (pd_or x6 r74) fun x6_527 =>
              pd_l (pd_w (x7 + 1)) fun x7_529 =>
              c237 sh F73 x1 x4 x5 x6_527 x7_529
            else
              some 0
      else
        some 0
def pfL_law_b250 (Ls : Int) (xs : Int → Int) (n : Nat) (c237 : pd_S → pd_F → Int → Int → Int → Int → Int → Option Int) : Nat → pd_S → pd_F → Int → Int → Int → Int → Int → Int → Int → Option Int
  | 0, _, _, _, _, _, _, _, _, _ => none
  | k + 1, sh, F, x1, x4, x5, x6, x7, x8, x10 =>
    pd_i (pd_ob sh 11 x1 = true) <|
    Option.bind (pfX11_count sh n F x1 0) fun qr77 => pd_l qr77.1 fun r77 => pd_l qr77.2 fun F75 =>
    if x10 ≥ r77 then
      pfL_law_b311 Ls xs n c237 sh F75 x1 x4 x5 x6 x7 x8
    else
      pfL_law_b263 Ls xs n c237 (pfL_law_b250 Ls xs n c237 k) n sh F75 x1 x4 x5 x6 x7 x8 x10 0
def pfL_law_b567 (Ls : Int) (xs : Int → Int) (n : Nat)  (sh : pd_S) (F : pd_F) (x1 : Int) (x4 : Int) (x5 : Int) (x6 : Int) : Option Int :=
  pd_i (pd_ob sh 11 x1 = true) <|
  Option.bind (pfX11_count sh n F x1 0) fun qr80 => pd_l qr80.1 fun r80 => pd_l qr80.2 fun F78 =>
  if x6 ≠ (pd_w ((pd_shl 1 r80) - 1)) then
    some 0
  else
    Option.bind (pfX11_view sh n F78 x1 x4 0) fun qr82 => pd_l qr82.1 fun r82 => pd_l qr82.2 fun F81 =>
    if r82 ≠ (-1) then
      some 0
    else
      Option.bind (pfX11_who sh n F81 x1 (-1)) fun qr84 => pd_l qr84.1 fun r84 => pd_l qr84.2 fun F83 =>
      if r84 = (-1) then
        pd_i (pd_ib sh 1 0 x5 2 = true) <|
        pd_i (pd_ib sh 1 0 x5 3 = true) <|
        Option.bind (pfL_isPaid Ls xs sh n F83 x1 x4 (F83 x5 2) (F83 x5 3)) fun qr89 => pd_l qr89.1 fun r89 => pd_l qr89.2.1 fun sh88 => pd_l qr89.2.2 fun F87 =>
        if r89 = 0 then
          some 0
        else
          Option.bind (pfL_isRanked sh88 n F87 x1 x4) fun qr91 => pd_l qr91.1 fun r91 => pd_l qr91.2 fun F90 =>
          if r91 = 0 then
            some 0
          else
            some 1
      else
        some 0
def pfL_law_b538 (Ls : Int) (xs : Int → Int) (n : Nat)  : Nat → pd_S → pd_F → Int → Int → Int → Int → Int → Option Int
  | 0, _, _, _, _, _, _, _ => none
  | k + 1, sh, F, x1, x4, x5, x6, x7 =>
    if x7 ≥ 4 then
      pfL_law_b567 Ls xs n sh F x1 x4 x5 x6
    else
      pd_i (pd_ob sh 11 x1 = true) <|
      Option.bind (pfX11_all sh n F x1 x7) fun qr94 => pd_l qr94.1 fun r94 => pd_l qr94.2 fun F92 =>
      pd_i (pd_ib sh 1 0 x5 x7 = true) <|
      if r94 = (F92 x5 x7) then
        pd_l (pd_w (x7 + 1)) fun x7_561 =>
        pfL_law_b538 Ls xs n k sh F92 x1 x4 x5 x6 x7_561
      else
        some 0
def pfL_law_b535 (Ls : Int) (xs : Int → Int) (n : Nat)  (sh : pd_S) (F : pd_F) (x1 : Int) (x4 : Int) (x5 : Int) (x6 : Int) : Option Int :=
  pfL_law_b538 Ls xs n n sh F x1 x4 x5 x6 0
def pfL_law_b237 (Ls : Int) (xs : Int → Int) (n : Nat)  : Nat → pd_S → pd_F → Int → Int → Int → Int → Int → Option Int
  | 0, _, _, _, _, _, _, _ => none
  | k + 1, sh, F, x1, x4, x5, x6, x7 =>
    if x7 ≥ x4 then
      pfL_law_b535 Ls xs n sh F x1 x4 x5 x6
    else
      pfL_law_b250 Ls xs n (pfL_law_b237 Ls xs n k) n sh F x1 x4 x5 x6 x7 0 0
def pfL_law_b200 (Ls : Int) (xs : Int → Int) (n : Nat)  (sh : pd_S) (F : pd_F) (x1 : Int) (x2 : Int) : Option Int :=
  pd_i (pd_ob sh 11 x1 = true) <|
  Option.bind (pfX11_all sh n F x1 0) fun qr98 => pd_l qr98.1 fun r98 => pd_l qr98.2 fun F96 =>
  Option.bind (pfX11_all sh n F96 x1 4) fun qr100 => pd_l qr100.1 fun r100 => pd_l qr100.2 fun F99 =>
  if (pd_W (r98 + r100)) = x2 then
    Option.bind (pfX11_all sh n F99 x1 5) fun qr102 => pd_l qr102.1 fun r102 => pd_l qr102.2 fun F101 =>
    pd_l (pd_w r102) fun x4_224 =>
    pd_l ((sh.length : Int) + 1) fun o105 => pd_l (pd_z F101 (sh.length + 1)) fun F104 => pd_l (sh ++ [(1, 0, 4)]) fun sh103 =>
    pd_i (o105 ≠ 0) <|
    pfL_law_b237 Ls xs n n sh103 F104 x1 x4_224 o105 0 0
  else
    some 0
def pfL_law_b43 (Ls : Int) (xs : Int → Int) (n : Nat)  : Nat → pd_S → pd_F → Int → Int → Int → Option Int
  | 0, _, _, _, _, _ => none
  | k + 1, sh, F, x1, x2, x4 =>
    pd_i (pd_ob sh 11 x1 = true) <|
    Option.bind (pfX11_count sh n F x1 2) fun qr109 => pd_l qr109.1 fun r109 => pd_l qr109.2 fun F107 =>
    if x4 ≥ r109 then
      pfL_law_b200 Ls xs n sh F107 x1 x2
    else
      pfL_law_b62 Ls xs n (pfL_law_b43 Ls xs n k) n sh F107 x1 x2 x4 0 0 0
def pfL_law (Ls : Int) (xs : Int → Int) (n : Nat) (sh : pd_S) (F : pd_F) : Option Int :=
  pd_l ((sh.length : Int) + 1) fun o112 => pd_l (pd_z F (sh.length + 1)) fun F111 => pd_l (sh ++ [(4, 11, 10)]) fun sh110 =>
  pd_i (1 ≤ o112) <|
  Option.bind (pfX11_init sh110 F111 o112) fun qsh115 => pd_l qsh115.1 fun sh115 => pd_l qsh115.2 fun F113 =>
  pd_i (o112 ≠ 0) <|
  pd_i (pd_ob sh115 11 o112 = true) <|
  Option.bind (pfX11_all sh115 n F113 o112 0) fun qr119 => pd_l qr119.1 fun r119 => pd_l qr119.2 fun F117 =>
  if r119 ≠ 0 then
    some 0
  else
    Option.bind (pfX11_tell sh115 n F117 o112 0 1) fun qr121 => pd_l qr121.1 fun r121 => pd_l qr121.2 fun F120 =>
    if r121 ≠ (-1) then
      some 0
    else
      Option.bind (pfL_begins Ls xs sh115 n F120 o112) fun qr124 => pd_l qr124.1 fun r124 => pd_l qr124.2.1 fun sh123 => pd_l qr124.2.2 fun F122 =>
      if r124 ≠ 0 then
        pfL_law_b43 Ls xs n n sh123 F122 o112 0 0
      else
        some 0
set_option maxHeartbeats 8000000 in
set_option maxRecDepth 10000000 in
theorem pkL_isPaid_b46 (E : pd_E) (l : Launch) {Ls : Int} {xs : Int → Int} (hLs : Ls = (E.2.2.2 21 : Nat) ∧ Ls < 2147483648) (hxs : ∀ j : Int, 0 ≤ j → j < Ls → xs j = (Int32.ofNat (E.2.2.2 (22 + j.toNat))).toInt) {n : Nat} {shz : pd_S} {ρ : Int} {Fz : pd_F} {c20 : pd_S → pd_F → Int → Int → Int → Int → Int → Int → Option (Int × pd_S × pd_F)} {B20 D20 : Nat} (hL20 : ∀ (cells slots : Nat) (hc0 : cells + B20 ≤ 9) (hs0 : slots + D20 ≤ 27) (sh : pd_S) (F : pd_F) (x0 : Int) (x1 : Int) (x2 : Int) (x4 : Int) (x7 : Int) (x8 : Int), c20 sh F x0 x1 x2 x4 x7 x8 = some (ρ, shz, Fz) → pd_V E l (pd_rm 8 9 27) (RL, cL_isPaid, 14, (some .boolean), "isPaid") (pd_Qm E true (some (pd_I ρ)) shz Fz 9 27) true cells slots sh F 20 [pd_R x0, pd_I x1, pd_J x2, pd_N, pd_J x4, pd_N, pd_R (-60), pd_R x7, pd_I x8, pd_N, pd_N, pd_N, pd_N, pd_N] []) (cells slots : Nat) (hc0 : cells + 0 + B20 ≤ 9) (hs0 : slots + 0 + D20 ≤ 27) (sh : pd_S) (F : pd_F) (x0 : Int) (x1 : Int) (x2 : Int) (x4 : Int) (x7 : Int) (x8 : Int) (t0 : Int) (t1 : Int) (hf : pfL_isPaid_b46 Ls xs n c20 sh F x0 x1 x2 x4 x7 x8 t0 t1 = some (ρ, shz, Fz)) : pd_V E l (pd_rm 8 9 27) (RL, cL_isPaid, 14, (some .boolean), "isPaid") (pd_Qm E true (some (pd_I ρ)) shz Fz 9 27) true cells slots sh F 46 [pd_R x0, pd_I x1, pd_J x2, pd_N, pd_J x4, pd_N, pd_R (-60), pd_R x7, pd_I x8, pd_N, pd_N, pd_N, pd_N, pd_N] [pd_I t0, pd_R t1] := by
  unfold pfL_isPaid_b46 at hf
  refine pd_dup2 dL_isPaid_46 rfl rfl ?_
  obtain ⟨hg1, hf⟩ := pd_ig hf
  refine pd_lald dL_isPaid_47 hg1 ?_
  refine pd_aload_n (i := 0) dL_isPaid_48 rfl rfl ?_
  refine pd_iload (i := 8) dL_isPaid_49 rfl ?_
  refine pd_bipush dL_isPaid_51 (by decide) ?_
  obtain ⟨hg3, hf⟩ := pd_ig hf
  obtain ⟨r4, F2, hr, hf⟩ := pd_ob2 hf
  refine pd_callV (pkX11_view l hr) dL_isPaid_53 pq_988 pq_991 pq_992 (show vwCl[11]? = some (yX11_view.cls, TX11, 10) from rfl) hg3 (pd_okA (by omega) (by decide) (by omega) (by omega) pq_989 pq_990 (by decide) (show (parseMethodDescriptor yX11_view.desc).map (fun d => d.parameters.length) = some 2 from by decide +kernel)) (Nat.le_of_ble_eq_true rfl) rfl ?_
  refine pd_ladd dL_isPaid_56 ?_
  refine pd_last dL_isPaid_57 hg1 ?_
  refine pd_topF (fun F5 eF5 => ?_)
  have hf := pd_lt hf eF5
  clear eF5
  refine pd_iincN (L' := fun y => [pd_R x0, pd_I x1, pd_J x2, pd_N, pd_J x4, pd_N, pd_R (-60), pd_R x7, pd_I y, pd_N, pd_N, pd_N, pd_N, pd_N]) dL_isPaid_58 rfl (by decide) (by decide) (fun _ => rfl) (fun x8_58 ex8_58 => ?_)
  have hf := pd_lt hf ex8_58
  clear ex8_58
  refine pd_goto (tgt := 20) dL_isPaid_61 (by decide) ?_
  exact pd_weak (L' := [pd_R x0, pd_I x1, pd_J x2, pd_N, pd_J x4, pd_N, pd_R (-60), pd_R x7, pd_I x8_58, pd_N, pd_N, pd_N, pd_N, pd_N]) ⟨Or.inr rfl, Or.inr rfl, Or.inr rfl, Or.inr rfl, Or.inr rfl, Or.inr rfl, Or.inr rfl, Or.inr rfl, Or.inr rfl, Or.inr rfl, Or.inr rfl, Or.inr rfl, Or.inr rfl, Or.inr rfl, trivial⟩ (hL20 _ _ (by omega) (by omega) _ _ _ _ _ _ _ _ hf)
set_option maxHeartbeats 8000000 in
set_option maxRecDepth 10000000 in
theorem pkL_isPaid_b126 (E : pd_E) (l : Launch) {Ls : Int} {xs : Int → Int} (hLs : Ls = (E.2.2.2 21 : Nat) ∧ Ls < 2147483648) (hxs : ∀ j : Int, 0 ≤ j → j < Ls → xs j = (Int32.ofNat (E.2.2.2 (22 + j.toNat))).toInt) {n : Nat} {shz : pd_S} {ρ : Int} {Fz : pd_F} {c67 : pd_S → pd_F → Int → Int → Int → Int → Int → Int → Option (Int × pd_S × pd_F)} {B67 D67 : Nat} (hL67 : ∀ (cells slots : Nat) (hc0 : cells + B67 ≤ 9) (hs0 : slots + D67 ≤ 27) (sh : pd_S) (F : pd_F) (x0 : Int) (x1 : Int) (x2 : Int) (x4 : Int) (x7 : Int) (x8 : Int), c67 sh F x0 x1 x2 x4 x7 x8 = some (ρ, shz, Fz) → pd_V E l (pd_rm 8 9 27) (RL, cL_isPaid, 14, (some .boolean), "isPaid") (pd_Qm E true (some (pd_I ρ)) shz Fz 9 27) true cells slots sh F 67 [pd_R x0, pd_I x1, pd_J x2, pd_N, pd_J x4, pd_N, pd_R (-60), pd_R x7, pd_I x8, pd_N, pd_N, pd_N, pd_N, pd_N] []) (cells slots : Nat) (hc0 : cells + 0 + B67 ≤ 9) (hs0 : slots + 0 + D67 ≤ 27) (sh : pd_S) (F : pd_F) (x0 : Int) (x1 : Int) (x2 : Int) (x4 : Int) (x7 : Int) (x8 : Int) (t0 : Int) (t1 : Int) (hf : pfL_isPaid_b126 Ls xs n c67 sh F x0 x1 x2 x4 x7 x8 t0 t1 = some (ρ, shz, Fz)) : pd_V E l (pd_rm 8 9 27) (RL, cL_isPaid, 14, (some .boolean), "isPaid") (pd_Qm E true (some (pd_I ρ)) shz Fz 9 27) true cells slots sh F 126 [pd_R x0, pd_I x1, pd_J x2, pd_N, pd_J x4, pd_N, pd_R (-60), pd_R x7, pd_I x8, pd_N, pd_N, pd_N, pd_N, pd_N] [pd_J t0, pd_J t1] := by
  unfold pfL_isPaid_b126 at hf
  refine pd_lcmp_eq (tgt := 132) dL_isPaid_126 dL_isPaid_127 (by decide) (fun hc => ?_) (fun hc => ?_)
  · have hf := pd_ip hf hc
    refine pd_iincN (L' := fun y => [pd_R x0, pd_I x1, pd_J x2, pd_N, pd_J x4, pd_N, pd_R (-60), pd_R x7, pd_I y, pd_N, pd_N, pd_N, pd_N, pd_N]) dL_isPaid_132 rfl (by decide) (by decide) (fun _ => rfl) (fun x8_132 ex8_132 => ?_)
    have hf := pd_lt hf ex8_132
    clear ex8_132
    refine pd_goto (tgt := 67) dL_isPaid_135 (by decide) ?_
    exact pd_weak (L' := [pd_R x0, pd_I x1, pd_J x2, pd_N, pd_J x4, pd_N, pd_R (-60), pd_R x7, pd_I x8_132, pd_N, pd_N, pd_N, pd_N, pd_N]) ⟨Or.inr rfl, Or.inr rfl, Or.inr rfl, Or.inr rfl, Or.inr rfl, Or.inr rfl, Or.inr rfl, Or.inr rfl, Or.inr rfl, Or.inr rfl, Or.inr rfl, Or.inr rfl, Or.inr rfl, Or.inr rfl, trivial⟩ (hL67 _ _ (by omega) (by omega) _ _ _ _ _ _ _ _ hf)
  · have hf := pd_in_ hf hc
    refine pd_iconst dL_isPaid_130 (by decide) ?_
    obtain ⟨h1, h2, h3⟩ := pd_inj3 hf
    subst h1 h2 h3
    exact pd_zret dL_isPaid_131 rfl (by decide) (by omega) (by omega)
set_option maxHeartbeats 8000000 in
set_option maxRecDepth 10000000 in
theorem pkL_isPaid_b125 (E : pd_E) (l : Launch) {Ls : Int} {xs : Int → Int} (hLs : Ls = (E.2.2.2 21 : Nat) ∧ Ls < 2147483648) (hxs : ∀ j : Int, 0 ≤ j → j < Ls → xs j = (Int32.ofNat (E.2.2.2 (22 + j.toNat))).toInt) {n : Nat} {shz : pd_S} {ρ : Int} {Fz : pd_F} {c67 : pd_S → pd_F → Int → Int → Int → Int → Int → Int → Option (Int × pd_S × pd_F)} {B67 D67 : Nat} (hL67 : ∀ (cells slots : Nat) (hc0 : cells + B67 ≤ 9) (hs0 : slots + D67 ≤ 27) (sh : pd_S) (F : pd_F) (x0 : Int) (x1 : Int) (x2 : Int) (x4 : Int) (x7 : Int) (x8 : Int), c67 sh F x0 x1 x2 x4 x7 x8 = some (ρ, shz, Fz) → pd_V E l (pd_rm 8 9 27) (RL, cL_isPaid, 14, (some .boolean), "isPaid") (pd_Qm E true (some (pd_I ρ)) shz Fz 9 27) true cells slots sh F 67 [pd_R x0, pd_I x1, pd_J x2, pd_N, pd_J x4, pd_N, pd_R (-60), pd_R x7, pd_I x8, pd_N, pd_N, pd_N, pd_N, pd_N] []) (cells slots : Nat) (hc0 : cells + 0 + B67 ≤ 9) (hs0 : slots + 0 + D67 ≤ 27) (sh : pd_S) (F : pd_F) (x0 : Int) (x1 : Int) (x2 : Int) (x4 : Int) (x7 : Int) (x8 : Int) (t0 : Int) (t1 : Int) (t2 : Int) (hf : pfL_isPaid_b125 Ls xs n c67 sh F x0 x1 x2 x4 x7 x8 t0 t1 t2 = some (ρ, shz, Fz)) : pd_V E l (pd_rm 8 9 27) (RL, cL_isPaid, 14, (some .boolean), "isPaid") (pd_Qm E true (some (pd_I ρ)) shz Fz 9 27) true cells slots sh F 125 [pd_R x0, pd_I x1, pd_J x2, pd_N, pd_J x4, pd_N, pd_R (-60), pd_R x7, pd_I x8, pd_N, pd_N, pd_N, pd_N, pd_N] [pd_J t0, pd_J t1, pd_J t2] := by
  unfold pfL_isPaid_b125 at hf
  refine pd_ladd dL_isPaid_125 ?_
  exact pd_weak (L' := [pd_R x0, pd_I x1, pd_J x2, pd_N, pd_J x4, pd_N, pd_R (-60), pd_R x7, pd_I x8, pd_N, pd_N, pd_N, pd_N, pd_N]) ⟨Or.inr rfl, Or.inr rfl, Or.inr rfl, Or.inr rfl, Or.inr rfl, Or.inr rfl, Or.inr rfl, Or.inr rfl, Or.inr rfl, Or.inr rfl, Or.inr rfl, Or.inr rfl, Or.inr rfl, Or.inr rfl, trivial⟩ (pkL_isPaid_b126 E l hLs hxs hL67 _ _ (by omega) (by omega) _ _ _ _ _ _ _ _ _ _ hf)
set_option maxHeartbeats 8000000 in
set_option maxRecDepth 10000000 in
theorem pkL_isPaid_b110 (E : pd_E) (l : Launch) {Ls : Int} {xs : Int → Int} (hLs : Ls = (E.2.2.2 21 : Nat) ∧ Ls < 2147483648) (hxs : ∀ j : Int, 0 ≤ j → j < Ls → xs j = (Int32.ofNat (E.2.2.2 (22 + j.toNat))).toInt) {n : Nat} {shz : pd_S} {ρ : Int} {Fz : pd_F} {c67 : pd_S → pd_F → Int → Int → Int → Int → Int → Int → Option (Int × pd_S × pd_F)} {B67 D67 : Nat} (hL67 : ∀ (cells slots : Nat) (hc0 : cells + B67 ≤ 9) (hs0 : slots + D67 ≤ 27) (sh : pd_S) (F : pd_F) (x0 : Int) (x1 : Int) (x2 : Int) (x4 : Int) (x7 : Int) (x8 : Int), c67 sh F x0 x1 x2 x4 x7 x8 = some (ρ, shz, Fz) → pd_V E l (pd_rm 8 9 27) (RL, cL_isPaid, 14, (some .boolean), "isPaid") (pd_Qm E true (some (pd_I ρ)) shz Fz 9 27) true cells slots sh F 67 [pd_R x0, pd_I x1, pd_J x2, pd_N, pd_J x4, pd_N, pd_R (-60), pd_R x7, pd_I x8, pd_N, pd_N, pd_N, pd_N, pd_N] []) (cells slots : Nat) (hc0 : cells + 0 + B67 ≤ 9) (hs0 : slots + 0 + D67 ≤ 27) (sh : pd_S) (F : pd_F) (x0 : Int) (x1 : Int) (x2 : Int) (x4 : Int) (x7 : Int) (x8 : Int) (t0 : Int) (t1 : Int) (t2 : Int) (hf : pfL_isPaid_b110 Ls xs n c67 sh F x0 x1 x2 x4 x7 x8 t0 t1 t2 = some (ρ, shz, Fz)) : pd_V E l (pd_rm 8 9 27) (RL, cL_isPaid, 14, (some .boolean), "isPaid") (pd_Qm E true (some (pd_I ρ)) shz Fz 9 27) true cells slots sh F 110 [pd_R x0, pd_I x1, pd_J x2, pd_N, pd_J x4, pd_N, pd_R (-60), pd_R x7, pd_I x8, pd_N, pd_N, pd_N, pd_N, pd_N] [pd_J t0, pd_J t1, pd_J t2] := by
  unfold pfL_isPaid_b110 at hf
  refine pd_ladd dL_isPaid_110 ?_
  refine pd_iload (i := 8) dL_isPaid_111 rfl ?_
  refine pd_iconst dL_isPaid_113 (by decide) ?_
  refine pd_icmp_le (tgt := 124) dL_isPaid_114 (by decide) (fun hc => ?_) (fun hc => ?_)
  · have hf := pd_ip hf hc
    refine pd_lconst (x := 0) dL_isPaid_124 (by decide) ?_
    exact pd_weak (L' := [pd_R x0, pd_I x1, pd_J x2, pd_N, pd_J x4, pd_N, pd_R (-60), pd_R x7, pd_I x8, pd_N, pd_N, pd_N, pd_N, pd_N]) ⟨Or.inr rfl, Or.inr rfl, Or.inr rfl, Or.inr rfl, Or.inr rfl, Or.inr rfl, Or.inr rfl, Or.inr rfl, Or.inr rfl, Or.inr rfl, Or.inr rfl, Or.inr rfl, Or.inr rfl, Or.inr rfl, trivial⟩ (pkL_isPaid_b125 E l hLs hxs hL67 _ _ (by omega) (by omega) _ _ _ _ _ _ _ _ _ _ _ hf)
  · have hf := pd_in_ hf hc
    refine pd_aload (i := 7) dL_isPaid_117 rfl ?_
    refine pd_iconst dL_isPaid_119 (by decide) ?_
    obtain ⟨hg6, hf⟩ := pd_ig hf
    refine pd_lald dL_isPaid_120 hg6 ?_
    refine pd_goto (tgt := 125) dL_isPaid_121 (by decide) ?_
    exact pd_weak (L' := [pd_R x0, pd_I x1, pd_J x2, pd_N, pd_J x4, pd_N, pd_R (-60), pd_R x7, pd_I x8, pd_N, pd_N, pd_N, pd_N, pd_N]) ⟨Or.inr rfl, Or.inr rfl, Or.inr rfl, Or.inr rfl, Or.inr rfl, Or.inr rfl, Or.inr rfl, Or.inr rfl, Or.inr rfl, Or.inr rfl, Or.inr rfl, Or.inr rfl, Or.inr rfl, Or.inr rfl, trivial⟩ (pkL_isPaid_b125 E l hLs hxs hL67 _ _ (by omega) (by omega) _ _ _ _ _ _ _ _ _ _ _ hf)
set_option maxHeartbeats 8000000 in
set_option maxRecDepth 10000000 in
theorem pkL_isPaid_b268 (E : pd_E) (l : Launch) {Ls : Int} {xs : Int → Int} (hLs : Ls = (E.2.2.2 21 : Nat) ∧ Ls < 2147483648) (hxs : ∀ j : Int, 0 ≤ j → j < Ls → xs j = (Int32.ofNat (E.2.2.2 (22 + j.toNat))).toInt) {n : Nat} {shz : pd_S} {ρ : Int} {Fz : pd_F} {c141 : pd_S → pd_F → Int → Int → Int → Int → Int → Int → Option (Int × pd_S × pd_F)} {B141 D141 : Nat} (hL141 : ∀ (cells slots : Nat) (hc0 : cells + B141 ≤ 9) (hs0 : slots + D141 ≤ 27) (sh : pd_S) (F : pd_F) (x0 : Int) (x1 : Int) (x2 : Int) (x4 : Int) (x7 : Int) (x8 : Int), c141 sh F x0 x1 x2 x4 x7 x8 = some (ρ, shz, Fz) → pd_V E l (pd_rm 8 9 27) (RL, cL_isPaid, 14, (some .boolean), "isPaid") (pd_Qm E true (some (pd_I ρ)) shz Fz 9 27) true cells slots sh F 141 [pd_R x0, pd_I x1, pd_J x2, pd_N, pd_J x4, pd_N, pd_R (-60), pd_R x7, pd_I x8, pd_N, pd_N, pd_N, pd_N, pd_N] []) {c209 : pd_S → pd_F → Int → Int → Int → Int → Int → Int → Int → Int → Int → Option (Int × pd_S × pd_F)} {B209 D209 : Nat} (hL209 : ∀ (cells slots : Nat) (hc0 : cells + B209 ≤ 9) (hs0 : slots + D209 ≤ 27) (sh : pd_S) (F : pd_F) (x0 : Int) (x1 : Int) (x2 : Int) (x4 : Int) (x7 : Int) (x8 : Int) (x9 : Int) (x10 : Int) (x11 : Int), c209 sh F x0 x1 x2 x4 x7 x8 x9 x10 x11 = some (ρ, shz, Fz) → pd_V E l (pd_rm 8 9 27) (RL, cL_isPaid, 14, (some .boolean), "isPaid") (pd_Qm E true (some (pd_I ρ)) shz Fz 9 27) true cells slots sh F 209 [pd_R x0, pd_I x1, pd_J x2, pd_N, pd_J x4, pd_N, pd_R (-60), pd_R x7, pd_I x8, pd_I x9, pd_R x10, pd_I x11, pd_N, pd_N] []) (hB209 : B141 ≤ B209) (hD209 : D141 ≤ D209) (cells slots : Nat) (hc0 : cells + 0 + B209 ≤ 9) (hs0 : slots + 0 + D209 ≤ 27) (sh : pd_S) (F : pd_F) (x0 : Int) (x1 : Int) (x2 : Int) (x4 : Int) (x7 : Int) (x8 : Int) (x9 : Int) (x10 : Int) (x11 : Int) (x12 : Int) (t0 : Int) (t1 : Int) (hf : pfL_isPaid_b268 Ls xs n c141 c209 sh F x0 x1 x2 x4 x7 x8 x9 x10 x11 x12 t0 t1 = some (ρ, shz, Fz)) : pd_V E l (pd_rm 8 9 27) (RL, cL_isPaid, 14, (some .boolean), "isPaid") (pd_Qm E true (some (pd_I ρ)) shz Fz 9 27) true cells slots sh F 268 [pd_R x0, pd_I x1, pd_J x2, pd_N, pd_J x4, pd_N, pd_R (-60), pd_R x7, pd_I x8, pd_I x9, pd_R x10, pd_I x11, pd_J x12, pd_N] [pd_I t0, pd_R t1] := by
  unfold pfL_isPaid_b268 at hf
  refine pd_dup2 dL_isPaid_268 rfl rfl ?_
  obtain ⟨hg7, hf⟩ := pd_ig hf
  refine pd_lald dL_isPaid_269 hg7 ?_
  refine pd_lload (i := 12) dL_isPaid_270 rfl ?_
  refine pd_ladd dL_isPaid_272 ?_
  refine pd_last dL_isPaid_273 hg7 ?_
  refine pd_topF (fun F8 eF8 => ?_)
  have hf := pd_lt hf eF8
  clear eF8
  refine pd_iincN (L' := fun y => [pd_R x0, pd_I x1, pd_J x2, pd_N, pd_J x4, pd_N, pd_R (-60), pd_R x7, pd_I x8, pd_I x9, pd_R x10, pd_I y, pd_J x12, pd_N]) dL_isPaid_274 rfl (by decide) (by decide) (fun _ => rfl) (fun x11_274 ex11_274 => ?_)
  have hf := pd_lt hf ex11_274
  clear ex11_274
  refine pd_goto (tgt := 209) dL_isPaid_277 (by decide) ?_
  exact pd_weak (L' := [pd_R x0, pd_I x1, pd_J x2, pd_N, pd_J x4, pd_N, pd_R (-60), pd_R x7, pd_I x8, pd_I x9, pd_R x10, pd_I x11_274, pd_N, pd_N]) ⟨Or.inr rfl, Or.inr rfl, Or.inr rfl, Or.inr rfl, Or.inr rfl, Or.inr rfl, Or.inr rfl, Or.inr rfl, Or.inr rfl, Or.inr rfl, Or.inr rfl, Or.inr rfl, Or.inl rfl, Or.inr rfl, trivial⟩ (hL209 _ _ (by omega) (by omega) _ _ _ _ _ _ _ _ _ _ _ hf)
set_option maxHeartbeats 8000000 in
set_option maxRecDepth 10000000 in
theorem pkL_isPaid_b342 (E : pd_E) (l : Launch) {Ls : Int} {xs : Int → Int} (hLs : Ls = (E.2.2.2 21 : Nat) ∧ Ls < 2147483648) (hxs : ∀ j : Int, 0 ≤ j → j < Ls → xs j = (Int32.ofNat (E.2.2.2 (22 + j.toNat))).toInt) {n : Nat} {shz : pd_S} {ρ : Int} {Fz : pd_F} {c141 : pd_S → pd_F → Int → Int → Int → Int → Int → Int → Option (Int × pd_S × pd_F)} {B141 D141 : Nat} (hL141 : ∀ (cells slots : Nat) (hc0 : cells + B141 ≤ 9) (hs0 : slots + D141 ≤ 27) (sh : pd_S) (F : pd_F) (x0 : Int) (x1 : Int) (x2 : Int) (x4 : Int) (x7 : Int) (x8 : Int), c141 sh F x0 x1 x2 x4 x7 x8 = some (ρ, shz, Fz) → pd_V E l (pd_rm 8 9 27) (RL, cL_isPaid, 14, (some .boolean), "isPaid") (pd_Qm E true (some (pd_I ρ)) shz Fz 9 27) true cells slots sh F 141 [pd_R x0, pd_I x1, pd_J x2, pd_N, pd_J x4, pd_N, pd_R (-60), pd_R x7, pd_I x8, pd_N, pd_N, pd_N, pd_N, pd_N] []) {c288 : pd_S → pd_F → Int → Int → Int → Int → Int → Int → Int → Int → Int → Option (Int × pd_S × pd_F)} {B288 D288 : Nat} (hL288 : ∀ (cells slots : Nat) (hc0 : cells + B288 ≤ 9) (hs0 : slots + D288 ≤ 27) (sh : pd_S) (F : pd_F) (x0 : Int) (x1 : Int) (x2 : Int) (x4 : Int) (x7 : Int) (x8 : Int) (x10 : Int) (x11 : Int) (x13 : Int), c288 sh F x0 x1 x2 x4 x7 x8 x10 x11 x13 = some (ρ, shz, Fz) → pd_V E l (pd_rm 8 9 27) (RL, cL_isPaid, 14, (some .boolean), "isPaid") (pd_Qm E true (some (pd_I ρ)) shz Fz 9 27) true cells slots sh F 288 [pd_R x0, pd_I x1, pd_J x2, pd_N, pd_J x4, pd_N, pd_R (-60), pd_R x7, pd_I x8, pd_N, pd_R x10, pd_J x11, pd_N, pd_I x13] []) (hB288 : B141 ≤ B288) (hD288 : D141 ≤ D288) (cells slots : Nat) (hc0 : cells + 0 + B288 ≤ 9) (hs0 : slots + 0 + D288 ≤ 27) (sh : pd_S) (F : pd_F) (x0 : Int) (x1 : Int) (x2 : Int) (x4 : Int) (x7 : Int) (x8 : Int) (x10 : Int) (x11 : Int) (x13 : Int) (hf : pfL_isPaid_b342 Ls xs n c141 c288 sh F x0 x1 x2 x4 x7 x8 x10 x11 x13 = some (ρ, shz, Fz)) : pd_V E l (pd_rm 8 9 27) (RL, cL_isPaid, 14, (some .boolean), "isPaid") (pd_Qm E true (some (pd_I ρ)) shz Fz 9 27) true cells slots sh F 342 [pd_R x0, pd_I x1, pd_J x2, pd_N, pd_J x4, pd_N, pd_R (-60), pd_R x7, pd_I x8, pd_N, pd_R x10, pd_J x11, pd_N, pd_I x13] [] := by
  unfold pfL_isPaid_b342 at hf
  refine pd_iincN (L' := fun y => [pd_R x0, pd_I x1, pd_J x2, pd_N, pd_J x4, pd_N, pd_R (-60), pd_R x7, pd_I x8, pd_N, pd_R x10, pd_J x11, pd_N, pd_I y]) dL_isPaid_342 rfl (by decide) (by decide) (fun _ => rfl) (fun x13_342 ex13_342 => ?_)
  have hf := pd_lt hf ex13_342
  clear ex13_342
  refine pd_goto (tgt := 288) dL_isPaid_345 (by decide) ?_
  exact pd_weak (L' := [pd_R x0, pd_I x1, pd_J x2, pd_N, pd_J x4, pd_N, pd_R (-60), pd_R x7, pd_I x8, pd_N, pd_R x10, pd_J x11, pd_N, pd_I x13_342]) ⟨Or.inr rfl, Or.inr rfl, Or.inr rfl, Or.inr rfl, Or.inr rfl, Or.inr rfl, Or.inr rfl, Or.inr rfl, Or.inr rfl, Or.inr rfl, Or.inr rfl, Or.inr rfl, Or.inr rfl, Or.inr rfl, trivial⟩ (hL288 _ _ (by omega) (by omega) _ _ _ _ _ _ _ _ _ _ _ hf)
set_option maxHeartbeats 8000000 in
set_option maxRecDepth 10000000 in
theorem pkL_isPaid_b348 (E : pd_E) (l : Launch) {Ls : Int} {xs : Int → Int} (hLs : Ls = (E.2.2.2 21 : Nat) ∧ Ls < 2147483648) (hxs : ∀ j : Int, 0 ≤ j → j < Ls → xs j = (Int32.ofNat (E.2.2.2 (22 + j.toNat))).toInt) {n : Nat} {shz : pd_S} {ρ : Int} {Fz : pd_F} {c141 : pd_S → pd_F → Int → Int → Int → Int → Int → Int → Option (Int × pd_S × pd_F)} {B141 D141 : Nat} (hL141 : ∀ (cells slots : Nat) (hc0 : cells + B141 ≤ 9) (hs0 : slots + D141 ≤ 27) (sh : pd_S) (F : pd_F) (x0 : Int) (x1 : Int) (x2 : Int) (x4 : Int) (x7 : Int) (x8 : Int), c141 sh F x0 x1 x2 x4 x7 x8 = some (ρ, shz, Fz) → pd_V E l (pd_rm 8 9 27) (RL, cL_isPaid, 14, (some .boolean), "isPaid") (pd_Qm E true (some (pd_I ρ)) shz Fz 9 27) true cells slots sh F 141 [pd_R x0, pd_I x1, pd_J x2, pd_N, pd_J x4, pd_N, pd_R (-60), pd_R x7, pd_I x8, pd_N, pd_N, pd_N, pd_N, pd_N] []) (cells slots : Nat) (hc0 : cells + 0 + B141 ≤ 9) (hs0 : slots + 0 + D141 ≤ 27) (sh : pd_S) (F : pd_F) (x0 : Int) (x1 : Int) (x2 : Int) (x4 : Int) (x7 : Int) (x8 : Int) (hf : pfL_isPaid_b348 Ls xs n c141 sh F x0 x1 x2 x4 x7 x8 = some (ρ, shz, Fz)) : pd_V E l (pd_rm 8 9 27) (RL, cL_isPaid, 14, (some .boolean), "isPaid") (pd_Qm E true (some (pd_I ρ)) shz Fz 9 27) true cells slots sh F 348 [pd_R x0, pd_I x1, pd_J x2, pd_N, pd_J x4, pd_N, pd_R (-60), pd_R x7, pd_I x8, pd_N, pd_N, pd_N, pd_N, pd_N] [] := by
  unfold pfL_isPaid_b348 at hf
  refine pd_iincN (L' := fun y => [pd_R x0, pd_I x1, pd_J x2, pd_N, pd_J x4, pd_N, pd_R (-60), pd_R x7, pd_I y, pd_N, pd_N, pd_N, pd_N, pd_N]) dL_isPaid_348 rfl (by decide) (by decide) (fun _ => rfl) (fun x8_348 ex8_348 => ?_)
  have hf := pd_lt hf ex8_348
  clear ex8_348
  refine pd_goto (tgt := 141) dL_isPaid_351 (by decide) ?_
  exact pd_weak (L' := [pd_R x0, pd_I x1, pd_J x2, pd_N, pd_J x4, pd_N, pd_R (-60), pd_R x7, pd_I x8_348, pd_N, pd_N, pd_N, pd_N, pd_N]) ⟨Or.inr rfl, Or.inr rfl, Or.inr rfl, Or.inr rfl, Or.inr rfl, Or.inr rfl, Or.inr rfl, Or.inr rfl, Or.inr rfl, Or.inr rfl, Or.inr rfl, Or.inr rfl, Or.inr rfl, Or.inr rfl, trivial⟩ (hL141 _ _ (by omega) (by omega) _ _ _ _ _ _ _ _ hf)
set_option maxHeartbeats 8000000 in
set_option maxRecDepth 10000000 in
theorem pkL_isPaid_b288 (E : pd_E) (l : Launch) {Ls : Int} {xs : Int → Int} (hLs : Ls = (E.2.2.2 21 : Nat) ∧ Ls < 2147483648) (hxs : ∀ j : Int, 0 ≤ j → j < Ls → xs j = (Int32.ofNat (E.2.2.2 (22 + j.toNat))).toInt) {n : Nat} {shz : pd_S} {ρ : Int} {Fz : pd_F} {c141 : pd_S → pd_F → Int → Int → Int → Int → Int → Int → Option (Int × pd_S × pd_F)} {B141 D141 : Nat} (hL141 : ∀ (cells slots : Nat) (hc0 : cells + B141 ≤ 9) (hs0 : slots + D141 ≤ 27) (sh : pd_S) (F : pd_F) (x0 : Int) (x1 : Int) (x2 : Int) (x4 : Int) (x7 : Int) (x8 : Int), c141 sh F x0 x1 x2 x4 x7 x8 = some (ρ, shz, Fz) → pd_V E l (pd_rm 8 9 27) (RL, cL_isPaid, 14, (some .boolean), "isPaid") (pd_Qm E true (some (pd_I ρ)) shz Fz 9 27) true cells slots sh F 141 [pd_R x0, pd_I x1, pd_J x2, pd_N, pd_J x4, pd_N, pd_R (-60), pd_R x7, pd_I x8, pd_N, pd_N, pd_N, pd_N, pd_N] []) : ∀ (k cells slots : Nat) (hc0 : cells + (k * 0 + 0) + B141 ≤ 9) (hs0 : slots + (k * 0 + 0) + D141 ≤ 27) (sh : pd_S) (F : pd_F) (x0 : Int) (x1 : Int) (x2 : Int) (x4 : Int) (x7 : Int) (x8 : Int) (x10 : Int) (x11 : Int) (x13 : Int), pfL_isPaid_b288 Ls xs n c141 k sh F x0 x1 x2 x4 x7 x8 x10 x11 x13 = some (ρ, shz, Fz) → pd_V E l (pd_rm 8 9 27) (RL, cL_isPaid, 14, (some .boolean), "isPaid") (pd_Qm E true (some (pd_I ρ)) shz Fz 9 27) true cells slots sh F 288 [pd_R x0, pd_I x1, pd_J x2, pd_N, pd_J x4, pd_N, pd_R (-60), pd_R x7, pd_I x8, pd_N, pd_R x10, pd_J x11, pd_N, pd_I x13] [] := by
  intro k
  induction k with
  | zero => intro cells slots _ _ sh F x0 x1 x2 x4 x7 x8 x10 x11 x13 hf; exact absurd hf (by unfold pfL_isPaid_b288; exact fun h => nomatch h)
  | succ k ih =>
    intro cells slots hc0 hs0 sh F x0 x1 x2 x4 x7 x8 x10 x11 x13 hf
    unfold pfL_isPaid_b288 at hf
    refine pd_iload (i := 13) dL_isPaid_288 rfl ?_
    refine pd_iconst dL_isPaid_290 (by decide) ?_
    refine pd_icmp_ge (tgt := 348) dL_isPaid_291 (by decide) (fun hc => ?_) (fun hc => ?_)
    · have hf := pd_ip hf hc
      exact pd_weak (L' := [pd_R x0, pd_I x1, pd_J x2, pd_N, pd_J x4, pd_N, pd_R (-60), pd_R x7, pd_I x8, pd_N, pd_N, pd_N, pd_N, pd_N]) ⟨Or.inr rfl, Or.inr rfl, Or.inr rfl, Or.inr rfl, Or.inr rfl, Or.inr rfl, Or.inr rfl, Or.inr rfl, Or.inr rfl, Or.inr rfl, Or.inl rfl, Or.inl rfl, Or.inr rfl, Or.inl rfl, trivial⟩ (pkL_isPaid_b348 E l hLs hxs hL141 _ _ (by omega) (by omega) _ _ _ _ _ _ _ _ hf)
    · have hf := pd_in_ hf hc
      refine pd_aload (i := 10) dL_isPaid_294 rfl ?_
      refine pd_iload (i := 13) dL_isPaid_296 rfl ?_
      obtain ⟨hg9, hf⟩ := pd_ig hf
      refine pd_lald dL_isPaid_298 hg9 ?_
      refine pd_lload (i := 11) dL_isPaid_299 rfl ?_
      refine pd_aload (i := 7) dL_isPaid_301 rfl ?_
      refine pd_iload (i := 13) dL_isPaid_303 rfl ?_
      obtain ⟨hg10, hf⟩ := pd_ig hf
      refine pd_lald dL_isPaid_305 hg10 ?_
      refine pd_mminJ dL_isPaid_306 pq_993 pq_537 pq_40 pq_538 ⟨by show 1 ≤ 8; omega, by show 64 ≤ 64 * 8; omega, by show _ ≤ 9; omega, by show _ ≤ 27; omega⟩ (Nat.le_of_ble_eq_true rfl) ?_
      refine pd_lcmp_eq (tgt := 315) dL_isPaid_309 dL_isPaid_310 (by decide) (fun hc => ?_) (fun hc => ?_)
      · have hf := pd_ip hf hc
        refine pd_lload (i := 11) dL_isPaid_315 rfl ?_
        refine pd_aload (i := 10) dL_isPaid_317 rfl ?_
        refine pd_iload (i := 13) dL_isPaid_319 rfl ?_
        refine pd_lald dL_isPaid_321 hg9 ?_
        refine pd_lsub dL_isPaid_322 ?_
        refine pd_topJ (fun x11_323 ex11_323 => ?_)
        have hf := pd_lt hf ex11_323
        clear ex11_323
        refine pd_lstore (L' := [pd_R x0, pd_I x1, pd_J x2, pd_N, pd_J x4, pd_N, pd_R (-60), pd_R x7, pd_I x8, pd_N, pd_R x10, pd_J x11_323, pd_N, pd_I x13]) dL_isPaid_323 (by decide) rfl ?_
        refine pd_aload (i := 10) dL_isPaid_325 rfl ?_
        refine pd_iload (i := 13) dL_isPaid_327 rfl ?_
        refine pd_lald dL_isPaid_329 hg9 ?_
        refine pd_aload (i := 7) dL_isPaid_330 rfl ?_
        refine pd_iload (i := 13) dL_isPaid_332 rfl ?_
        refine pd_lald dL_isPaid_334 hg10 ?_
        refine pd_lcmp_ge (tgt := 342) dL_isPaid_335 dL_isPaid_336 (by decide) (fun hc => ?_) (fun hc => ?_)
        · have hf := pd_ip hf hc
          exact pd_weak (L' := [pd_R x0, pd_I x1, pd_J x2, pd_N, pd_J x4, pd_N, pd_R (-60), pd_R x7, pd_I x8, pd_N, pd_R x10, pd_J x11_323, pd_N, pd_I x13]) ⟨Or.inr rfl, Or.inr rfl, Or.inr rfl, Or.inr rfl, Or.inr rfl, Or.inr rfl, Or.inr rfl, Or.inr rfl, Or.inr rfl, Or.inr rfl, Or.inr rfl, Or.inr rfl, Or.inr rfl, Or.inr rfl, trivial⟩ (pkL_isPaid_b342 E l hLs hxs hL141 ih (by omega) (by omega) _ _ (by omega) (by omega) _ _ _ _ _ _ _ _ _ _ _ hf)
        · have hf := pd_in_ hf hc
          refine pd_lconst (x := 0) dL_isPaid_339 (by decide) ?_
          refine pd_lstore (L' := [pd_R x0, pd_I x1, pd_J x2, pd_N, pd_J x4, pd_N, pd_R (-60), pd_R x7, pd_I x8, pd_N, pd_R x10, pd_J 0, pd_N, pd_I x13]) dL_isPaid_340 (by decide) rfl ?_
          exact pd_weak (L' := [pd_R x0, pd_I x1, pd_J x2, pd_N, pd_J x4, pd_N, pd_R (-60), pd_R x7, pd_I x8, pd_N, pd_R x10, pd_J 0, pd_N, pd_I x13]) ⟨Or.inr rfl, Or.inr rfl, Or.inr rfl, Or.inr rfl, Or.inr rfl, Or.inr rfl, Or.inr rfl, Or.inr rfl, Or.inr rfl, Or.inr rfl, Or.inr rfl, Or.inr rfl, Or.inr rfl, Or.inr rfl, trivial⟩ (pkL_isPaid_b342 E l hLs hxs hL141 ih (by omega) (by omega) _ _ (by omega) (by omega) _ _ _ _ _ _ _ _ _ _ _ hf)
      · have hf := pd_in_ hf hc
        refine pd_iconst dL_isPaid_313 (by decide) ?_
        obtain ⟨h1, h2, h3⟩ := pd_inj3 hf
        subst h1 h2 h3
        exact pd_zret dL_isPaid_314 rfl (by decide) (by omega) (by omega)
set_option maxHeartbeats 8000000 in
set_option maxRecDepth 10000000 in
theorem pkL_isPaid_b280 (E : pd_E) (l : Launch) {Ls : Int} {xs : Int → Int} (hLs : Ls = (E.2.2.2 21 : Nat) ∧ Ls < 2147483648) (hxs : ∀ j : Int, 0 ≤ j → j < Ls → xs j = (Int32.ofNat (E.2.2.2 (22 + j.toNat))).toInt) {n : Nat} {shz : pd_S} {ρ : Int} {Fz : pd_F} {c141 : pd_S → pd_F → Int → Int → Int → Int → Int → Int → Option (Int × pd_S × pd_F)} {B141 D141 : Nat} (hL141 : ∀ (cells slots : Nat) (hc0 : cells + B141 ≤ 9) (hs0 : slots + D141 ≤ 27) (sh : pd_S) (F : pd_F) (x0 : Int) (x1 : Int) (x2 : Int) (x4 : Int) (x7 : Int) (x8 : Int), c141 sh F x0 x1 x2 x4 x7 x8 = some (ρ, shz, Fz) → pd_V E l (pd_rm 8 9 27) (RL, cL_isPaid, 14, (some .boolean), "isPaid") (pd_Qm E true (some (pd_I ρ)) shz Fz 9 27) true cells slots sh F 141 [pd_R x0, pd_I x1, pd_J x2, pd_N, pd_J x4, pd_N, pd_R (-60), pd_R x7, pd_I x8, pd_N, pd_N, pd_N, pd_N, pd_N] []) (cells slots : Nat) (hc0 : cells + 0 + B141 ≤ 9) (hs0 : slots + 0 + D141 ≤ 27) (sh : pd_S) (F : pd_F) (x0 : Int) (x1 : Int) (x2 : Int) (x4 : Int) (x7 : Int) (x8 : Int) (x9 : Int) (x10 : Int) (hf : pfL_isPaid_b280 Ls xs n c141 sh F x0 x1 x2 x4 x7 x8 x9 x10 = some (ρ, shz, Fz)) : pd_V E l (pd_rm 8 9 27) (RL, cL_isPaid, 14, (some .boolean), "isPaid") (pd_Qm E true (some (pd_I ρ)) shz Fz 9 27) true cells slots sh F 280 [pd_R x0, pd_I x1, pd_J x2, pd_N, pd_J x4, pd_N, pd_R (-60), pd_R x7, pd_I x8, pd_I x9, pd_R x10, pd_N, pd_N, pd_N] [] := by
  unfold pfL_isPaid_b280 at hf
  refine pd_iload (i := 9) dL_isPaid_280 rfl ?_
  refine pd_i2l dL_isPaid_282 ?_
  refine pd_lstore (L' := [pd_R x0, pd_I x1, pd_J x2, pd_N, pd_J x4, pd_N, pd_R (-60), pd_R x7, pd_I x8, pd_I x9, pd_R x10, pd_J x9, pd_N, pd_N]) dL_isPaid_283 (by decide) rfl ?_
  refine pd_iconst dL_isPaid_285 (by decide) ?_
  refine pd_istore (L' := [pd_R x0, pd_I x1, pd_J x2, pd_N, pd_J x4, pd_N, pd_R (-60), pd_R x7, pd_I x8, pd_I x9, pd_R x10, pd_J x9, pd_N, pd_I 0]) dL_isPaid_286 (by decide) rfl ?_
  exact pd_weak (L' := [pd_R x0, pd_I x1, pd_J x2, pd_N, pd_J x4, pd_N, pd_R (-60), pd_R x7, pd_I x8, pd_N, pd_R x10, pd_J x9, pd_N, pd_I 0]) ⟨Or.inr rfl, Or.inr rfl, Or.inr rfl, Or.inr rfl, Or.inr rfl, Or.inr rfl, Or.inr rfl, Or.inr rfl, Or.inr rfl, Or.inl rfl, Or.inr rfl, Or.inr rfl, Or.inr rfl, Or.inr rfl, trivial⟩ (pkL_isPaid_b288 E l hLs hxs hL141 n _ _ (by omega) (by omega) _ _ _ _ _ _ _ _ _ _ _ hf)
set_option maxHeartbeats 8000000 in
set_option maxRecDepth 10000000 in
theorem pkL_isPaid_b209 (E : pd_E) (l : Launch) {Ls : Int} {xs : Int → Int} (hLs : Ls = (E.2.2.2 21 : Nat) ∧ Ls < 2147483648) (hxs : ∀ j : Int, 0 ≤ j → j < Ls → xs j = (Int32.ofNat (E.2.2.2 (22 + j.toNat))).toInt) {n : Nat} {shz : pd_S} {ρ : Int} {Fz : pd_F} {c141 : pd_S → pd_F → Int → Int → Int → Int → Int → Int → Option (Int × pd_S × pd_F)} {B141 D141 : Nat} (hL141 : ∀ (cells slots : Nat) (hc0 : cells + B141 ≤ 9) (hs0 : slots + D141 ≤ 27) (sh : pd_S) (F : pd_F) (x0 : Int) (x1 : Int) (x2 : Int) (x4 : Int) (x7 : Int) (x8 : Int), c141 sh F x0 x1 x2 x4 x7 x8 = some (ρ, shz, Fz) → pd_V E l (pd_rm 8 9 27) (RL, cL_isPaid, 14, (some .boolean), "isPaid") (pd_Qm E true (some (pd_I ρ)) shz Fz 9 27) true cells slots sh F 141 [pd_R x0, pd_I x1, pd_J x2, pd_N, pd_J x4, pd_N, pd_R (-60), pd_R x7, pd_I x8, pd_N, pd_N, pd_N, pd_N, pd_N] []) : ∀ (k cells slots : Nat) (hc0 : cells + (k * 0 + 0) + B141 ≤ 9) (hs0 : slots + (k * 0 + 0) + D141 ≤ 27) (sh : pd_S) (F : pd_F) (x0 : Int) (x1 : Int) (x2 : Int) (x4 : Int) (x7 : Int) (x8 : Int) (x9 : Int) (x10 : Int) (x11 : Int), pfL_isPaid_b209 Ls xs n c141 k sh F x0 x1 x2 x4 x7 x8 x9 x10 x11 = some (ρ, shz, Fz) → pd_V E l (pd_rm 8 9 27) (RL, cL_isPaid, 14, (some .boolean), "isPaid") (pd_Qm E true (some (pd_I ρ)) shz Fz 9 27) true cells slots sh F 209 [pd_R x0, pd_I x1, pd_J x2, pd_N, pd_J x4, pd_N, pd_R (-60), pd_R x7, pd_I x8, pd_I x9, pd_R x10, pd_I x11, pd_N, pd_N] [] := by
  intro k
  induction k with
  | zero => intro cells slots _ _ sh F x0 x1 x2 x4 x7 x8 x9 x10 x11 hf; exact absurd hf (by unfold pfL_isPaid_b209; exact fun h => nomatch h)
  | succ k ih =>
    intro cells slots hc0 hs0 sh F x0 x1 x2 x4 x7 x8 x9 x10 x11 hf
    unfold pfL_isPaid_b209 at hf
    refine pd_iload (i := 11) dL_isPaid_209 rfl ?_
    refine pd_iload_n (i := 1) dL_isPaid_211 rfl rfl ?_
    refine pd_icmp_ge (tgt := 280) dL_isPaid_212 (by decide) (fun hc => ?_) (fun hc => ?_)
    · have hf := pd_ip hf hc
      exact pd_weak (L' := [pd_R x0, pd_I x1, pd_J x2, pd_N, pd_J x4, pd_N, pd_R (-60), pd_R x7, pd_I x8, pd_I x9, pd_R x10, pd_N, pd_N, pd_N]) ⟨Or.inr rfl, Or.inr rfl, Or.inr rfl, Or.inr rfl, Or.inr rfl, Or.inr rfl, Or.inr rfl, Or.inr rfl, Or.inr rfl, Or.inr rfl, Or.inr rfl, Or.inl rfl, Or.inr rfl, Or.inr rfl, trivial⟩ (pkL_isPaid_b280 E l hLs hxs hL141 _ _ (by omega) (by omega) _ _ _ _ _ _ _ _ _ _ hf)
    · have hf := pd_in_ hf hc
      refine pd_aload_n (i := 0) dL_isPaid_215 rfl rfl ?_
      refine pd_iload (i := 9) dL_isPaid_216 rfl ?_
      refine pd_iload (i := 11) dL_isPaid_218 rfl ?_
      obtain ⟨hg12, hf⟩ := pd_ig hf
      obtain ⟨r13, F11, hr, hf⟩ := pd_ob2 hf
      refine pd_callV (pkX11_estate l hr) dL_isPaid_220 pq_994 pq_997 pq_998 (show vwCl[11]? = some (yX11_estate.cls, TX11, 10) from rfl) hg12 (pd_okA (by omega) (by decide) (by omega) (by omega) pq_995 pq_996 (by decide) (show (parseMethodDescriptor yX11_estate.desc).map (fun d => d.parameters.length) = some 2 from by decide +kernel)) (Nat.le_of_ble_eq_true rfl) rfl ?_
      refine pd_lstore (L' := [pd_R x0, pd_I x1, pd_J x2, pd_N, pd_J x4, pd_N, pd_R (-60), pd_R x7, pd_I x8, pd_I x9, pd_R x10, pd_I x11, pd_J r13, pd_N]) dL_isPaid_223 (by decide) rfl ?_
      refine pd_lload (i := 12) dL_isPaid_225 rfl ?_
      refine pd_lconst (x := 0) dL_isPaid_227 (by decide) ?_
      refine pd_lcmp_lt (tgt := 246) dL_isPaid_228 dL_isPaid_229 (by decide) (fun hc => ?_) (fun hc => ?_)
      · have hf := pd_ip hf hc
        refine pd_iconst dL_isPaid_246 (by decide) ?_
        obtain ⟨h1, h2, h3⟩ := pd_inj3 hf
        subst h1 h2 h3
        exact pd_zret dL_isPaid_247 rfl (by decide) (by omega) (by omega)
      · have hf := pd_in_ hf hc
        refine pd_lload (i := 12) dL_isPaid_232 rfl ?_
        refine pd_aload_n (i := 0) dL_isPaid_234 rfl rfl ?_
        refine pd_iload (i := 11) dL_isPaid_235 rfl ?_
        refine pd_bipush dL_isPaid_237 (by decide) ?_
        obtain ⟨r15, F14, hr, hf⟩ := pd_ob2 hf
        refine pd_callV (pkX11_view l hr) dL_isPaid_239 pq_988 pq_991 pq_992 (show vwCl[11]? = some (yX11_view.cls, TX11, 10) from rfl) hg12 (pd_okA (by omega) (by decide) (by omega) (by omega) pq_989 pq_990 (by decide) (show (parseMethodDescriptor yX11_view.desc).map (fun d => d.parameters.length) = some 2 from by decide +kernel)) (Nat.le_of_ble_eq_true rfl) rfl ?_
        refine pd_lcmp_le (tgt := 248) dL_isPaid_242 dL_isPaid_243 (by decide) (fun hc => ?_) (fun hc => ?_)
        · have hf := pd_ip hf hc
          refine pd_aload (i := 10) dL_isPaid_248 rfl ?_
          refine pd_aload_n (i := 0) dL_isPaid_250 rfl rfl ?_
          refine pd_iload (i := 11) dL_isPaid_251 rfl ?_
          refine pd_bipush dL_isPaid_253 (by decide) ?_
          obtain ⟨r17, F16, hr, hf⟩ := pd_ob2 hf
          refine pd_callV (pkX11_view l hr) dL_isPaid_255 pq_988 pq_991 pq_992 (show vwCl[11]? = some (yX11_view.cls, TX11, 10) from rfl) hg12 (pd_okA (by omega) (by decide) (by omega) (by omega) pq_989 pq_990 (by decide) (show (parseMethodDescriptor yX11_view.desc).map (fun d => d.parameters.length) = some 2 from by decide +kernel)) (Nat.le_of_ble_eq_true rfl) rfl ?_
          refine pd_lconst (x := 1) dL_isPaid_258 (by decide) ?_
          refine pd_lcmp_ne (tgt := 267) dL_isPaid_259 dL_isPaid_260 (by decide) (fun hc => ?_) (fun hc => ?_)
          · have hf := pd_ip hf hc
            refine pd_iconst dL_isPaid_267 (by decide) ?_
            exact pd_weak (L' := [pd_R x0, pd_I x1, pd_J x2, pd_N, pd_J x4, pd_N, pd_R (-60), pd_R x7, pd_I x8, pd_I x9, pd_R x10, pd_I x11, pd_J r13, pd_N]) ⟨Or.inr rfl, Or.inr rfl, Or.inr rfl, Or.inr rfl, Or.inr rfl, Or.inr rfl, Or.inr rfl, Or.inr rfl, Or.inr rfl, Or.inr rfl, Or.inr rfl, Or.inr rfl, Or.inr rfl, Or.inr rfl, trivial⟩ (pkL_isPaid_b268 E l hLs hxs hL141 ih (by omega) (by omega) _ _ (by omega) (by omega) _ _ _ _ _ _ _ _ _ _ _ _ _ _ hf)
          · have hf := pd_iq hf hc
            refine pd_iconst dL_isPaid_263 (by decide) ?_
            refine pd_goto (tgt := 268) dL_isPaid_264 (by decide) ?_
            exact pd_weak (L' := [pd_R x0, pd_I x1, pd_J x2, pd_N, pd_J x4, pd_N, pd_R (-60), pd_R x7, pd_I x8, pd_I x9, pd_R x10, pd_I x11, pd_J r13, pd_N]) ⟨Or.inr rfl, Or.inr rfl, Or.inr rfl, Or.inr rfl, Or.inr rfl, Or.inr rfl, Or.inr rfl, Or.inr rfl, Or.inr rfl, Or.inr rfl, Or.inr rfl, Or.inr rfl, Or.inr rfl, Or.inr rfl, trivial⟩ (pkL_isPaid_b268 E l hLs hxs hL141 ih (by omega) (by omega) _ _ (by omega) (by omega) _ _ _ _ _ _ _ _ _ _ _ _ _ _ hf)
        · have hf := pd_in_ hf hc
          refine pd_iconst dL_isPaid_246 (by decide) ?_
          obtain ⟨h1, h2, h3⟩ := pd_inj3 hf
          subst h1 h2 h3
          exact pd_zret dL_isPaid_247 rfl (by decide) (by omega) (by omega)
set_option maxHeartbeats 8000000 in
set_option maxRecDepth 10000000 in
theorem pkL_isPaid_b181 (E : pd_E) (l : Launch) {Ls : Int} {xs : Int → Int} (hLs : Ls = (E.2.2.2 21 : Nat) ∧ Ls < 2147483648) (hxs : ∀ j : Int, 0 ≤ j → j < Ls → xs j = (Int32.ofNat (E.2.2.2 (22 + j.toNat))).toInt) {n : Nat} {shz : pd_S} {ρ : Int} {Fz : pd_F} {c141 : pd_S → pd_F → Int → Int → Int → Int → Int → Int → Option (Int × pd_S × pd_F)} {B141 D141 : Nat} (hL141 : ∀ (cells slots : Nat) (hc0 : cells + B141 ≤ 9) (hs0 : slots + D141 ≤ 27) (sh : pd_S) (F : pd_F) (x0 : Int) (x1 : Int) (x2 : Int) (x4 : Int) (x7 : Int) (x8 : Int), c141 sh F x0 x1 x2 x4 x7 x8 = some (ρ, shz, Fz) → pd_V E l (pd_rm 8 9 27) (RL, cL_isPaid, 14, (some .boolean), "isPaid") (pd_Qm E true (some (pd_I ρ)) shz Fz 9 27) true cells slots sh F 141 [pd_R x0, pd_I x1, pd_J x2, pd_N, pd_J x4, pd_N, pd_R (-60), pd_R x7, pd_I x8, pd_N, pd_N, pd_N, pd_N, pd_N] []) (cells slots : Nat) (hc0 : cells + 1 + B141 ≤ 9) (hs0 : slots + 3 + D141 ≤ 27) (sh : pd_S) (F : pd_F) (x0 : Int) (x1 : Int) (x2 : Int) (x4 : Int) (x7 : Int) (x8 : Int) (t0 : Int) (hf : pfL_isPaid_b181 Ls xs n c141 sh F x0 x1 x2 x4 x7 x8 t0 = some (ρ, shz, Fz)) : pd_V E l (pd_rm 8 9 27) (RL, cL_isPaid, 14, (some .boolean), "isPaid") (pd_Qm E true (some (pd_I ρ)) shz Fz 9 27) true cells slots sh F 181 [pd_R x0, pd_I x1, pd_J x2, pd_N, pd_J x4, pd_N, pd_R (-60), pd_R x7, pd_I x8, pd_N, pd_N, pd_N, pd_N, pd_N] [pd_I t0] := by
  unfold pfL_isPaid_b181 at hf
  refine pd_istore (L' := [pd_R x0, pd_I x1, pd_J x2, pd_N, pd_J x4, pd_N, pd_R (-60), pd_R x7, pd_I x8, pd_I t0, pd_N, pd_N, pd_N, pd_N]) dL_isPaid_181 (by decide) rfl ?_
  refine pd_iconst dL_isPaid_183 (by decide) ?_
  refine pd_newJ (N := 3) dL_isPaid_184 pq_861 (by decide) (by decide) ⟨by show _ ≤ 9; omega, by show _ ≤ 27; omega⟩ ?_
  refine pd_topR (fun o20 eo20 => ?_)
  have hf := pd_lt hf eo20
  refine pd_topF (fun F19 eF19 => ?_)
  have hf := pd_lt hf eF19
  refine pd_topS (fun sh18 esh18 => ?_)
  have hf := pd_lt hf esh18
  clear esh18 eF19 eo20
  refine pd_dup dL_isPaid_186 rfl ?_
  refine pd_iconst dL_isPaid_187 (by decide) ?_
  refine pd_aload_n (i := 0) dL_isPaid_188 rfl rfl ?_
  refine pd_iload (i := 9) dL_isPaid_189 rfl ?_
  refine pd_iconst dL_isPaid_191 (by decide) ?_
  obtain ⟨hg22, hf⟩ := pd_ig hf
  obtain ⟨r23, F21, hr, hf⟩ := pd_ob2 hf
  refine pd_callV (pkX11_estate l hr) dL_isPaid_192 pq_994 pq_997 pq_998 (show vwCl[11]? = some (yX11_estate.cls, TX11, 10) from rfl) hg22 (pd_okA (by omega) (by decide) (by omega) (by omega) pq_995 pq_996 (by decide) (show (parseMethodDescriptor yX11_estate.desc).map (fun d => d.parameters.length) = some 2 from by decide +kernel)) (Nat.le_of_ble_eq_true rfl) rfl ?_
  obtain ⟨hg24, hf⟩ := pd_ig hf
  refine pd_last dL_isPaid_195 hg24 ?_
  refine pd_topF (fun F25 eF25 => ?_)
  have hf := pd_lt hf eF25
  clear eF25
  refine pd_dup dL_isPaid_196 rfl ?_
  refine pd_iconst dL_isPaid_197 (by decide) ?_
  refine pd_lconst (x := 0) dL_isPaid_198 (by decide) ?_
  obtain ⟨hg26, hf⟩ := pd_ig hf
  refine pd_last dL_isPaid_199 hg26 ?_
  refine pd_topF (fun F27 eF27 => ?_)
  have hf := pd_lt hf eF27
  clear eF27
  refine pd_dup dL_isPaid_200 rfl ?_
  refine pd_iconst dL_isPaid_201 (by decide) ?_
  refine pd_lconst (x := 0) dL_isPaid_202 (by decide) ?_
  obtain ⟨hg28, hf⟩ := pd_ig hf
  refine pd_last dL_isPaid_203 hg28 ?_
  refine pd_topF (fun F29 eF29 => ?_)
  have hf := pd_lt hf eF29
  clear eF29
  obtain ⟨hg30, hf⟩ := pd_ig hf
  refine pd_astore (L' := [pd_R x0, pd_I x1, pd_J x2, pd_N, pd_J x4, pd_N, pd_R (-60), pd_R x7, pd_I x8, pd_I t0, pd_R o20, pd_N, pd_N, pd_N]) dL_isPaid_204 (by decide) hg30 rfl ?_
  refine pd_iconst dL_isPaid_206 (by decide) ?_
  refine pd_istore (L' := [pd_R x0, pd_I x1, pd_J x2, pd_N, pd_J x4, pd_N, pd_R (-60), pd_R x7, pd_I x8, pd_I t0, pd_R o20, pd_I 0, pd_N, pd_N]) dL_isPaid_207 (by decide) rfl ?_
  exact pd_weak (L' := [pd_R x0, pd_I x1, pd_J x2, pd_N, pd_J x4, pd_N, pd_R (-60), pd_R x7, pd_I x8, pd_I t0, pd_R o20, pd_I 0, pd_N, pd_N]) ⟨Or.inr rfl, Or.inr rfl, Or.inr rfl, Or.inr rfl, Or.inr rfl, Or.inr rfl, Or.inr rfl, Or.inr rfl, Or.inr rfl, Or.inr rfl, Or.inr rfl, Or.inr rfl, Or.inr rfl, Or.inr rfl, trivial⟩ (pkL_isPaid_b209 E l hLs hxs hL141 n _ _ (by omega) (by omega) _ _ _ _ _ _ _ _ _ _ _ hf)
set_option maxHeartbeats 8000000 in
set_option maxRecDepth 10000000 in
theorem pkL_isPaid_b354 (E : pd_E) (l : Launch) {Ls : Int} {xs : Int → Int} (hLs : Ls = (E.2.2.2 21 : Nat) ∧ Ls < 2147483648) (hxs : ∀ j : Int, 0 ≤ j → j < Ls → xs j = (Int32.ofNat (E.2.2.2 (22 + j.toNat))).toInt) {n : Nat} {shz : pd_S} {ρ : Int} {Fz : pd_F}  (cells slots : Nat) (hc0 : cells + 0 ≤ 9) (hs0 : slots + 0 ≤ 27) (sh : pd_S) (F : pd_F) (x0 : Int) (x1 : Int) (hf : pfL_isPaid_b354 Ls xs n  sh F x0 x1 = some (ρ, shz, Fz)) : pd_V E l (pd_rm 8 9 27) (RL, cL_isPaid, 14, (some .boolean), "isPaid") (pd_Qm E true (some (pd_I ρ)) shz Fz 9 27) true cells slots sh F 354 [pd_R x0, pd_I x1, pd_N, pd_N, pd_N, pd_N, pd_N, pd_N, pd_N, pd_N, pd_N, pd_N, pd_N, pd_N] [] := by
  unfold pfL_isPaid_b354 at hf
  refine pd_aload_n (i := 0) dL_isPaid_354 rfl rfl ?_
  refine pd_iconst dL_isPaid_355 (by decide) ?_
  refine pd_iconst dL_isPaid_356 (by decide) ?_
  obtain ⟨hg32, hf⟩ := pd_ig hf
  obtain ⟨r33, F31, hr, hf⟩ := pd_ob2 hf
  refine pd_callV (pkX11_estate l hr) dL_isPaid_357 pq_994 pq_997 pq_998 (show vwCl[11]? = some (yX11_estate.cls, TX11, 10) from rfl) hg32 (pd_okA (by omega) (by decide) (by omega) (by omega) pq_995 pq_996 (by decide) (show (parseMethodDescriptor yX11_estate.desc).map (fun d => d.parameters.length) = some 2 from by decide +kernel)) (Nat.le_of_ble_eq_true rfl) rfl ?_
  refine pd_ldc2 (x := (-2)) dL_isPaid_360 pq_999 (by decide +kernel) ?_
  refine pd_lcmp_ne (tgt := 396) dL_isPaid_363 dL_isPaid_364 (by decide) (fun hc => ?_) (fun hc => ?_)
  · have hf := pd_ip hf hc
    refine pd_iconst dL_isPaid_396 (by decide) ?_
    obtain ⟨h1, h2, h3⟩ := pd_inj3 hf
    subst h1 h2 h3
    exact pd_zret dL_isPaid_397 rfl (by decide) (by omega) (by omega)
  · have hf := pd_iq hf hc
    refine pd_aload_n (i := 0) dL_isPaid_367 rfl rfl ?_
    refine pd_iconst dL_isPaid_368 (by decide) ?_
    refine pd_iload_n (i := 1) dL_isPaid_369 rfl rfl ?_
    obtain ⟨r35, F34, hr, hf⟩ := pd_ob2 hf
    refine pd_callV (pkX11_estate l hr) dL_isPaid_370 pq_994 pq_997 pq_998 (show vwCl[11]? = some (yX11_estate.cls, TX11, 10) from rfl) hg32 (pd_okA (by omega) (by decide) (by omega) (by omega) pq_995 pq_996 (by decide) (show (parseMethodDescriptor yX11_estate.desc).map (fun d => d.parameters.length) = some 2 from by decide +kernel)) (Nat.le_of_ble_eq_true rfl) rfl ?_
    refine pd_ldc2 (x := (-2)) dL_isPaid_373 pq_999 (by decide +kernel) ?_
    refine pd_lcmp_ne (tgt := 396) dL_isPaid_376 dL_isPaid_377 (by decide) (fun hc => ?_) (fun hc => ?_)
    · have hf := pd_ip hf hc
      refine pd_iconst dL_isPaid_396 (by decide) ?_
      obtain ⟨h1, h2, h3⟩ := pd_inj3 hf
      subst h1 h2 h3
      exact pd_zret dL_isPaid_397 rfl (by decide) (by omega) (by omega)
    · have hf := pd_iq hf hc
      refine pd_aload_n (i := 0) dL_isPaid_380 rfl rfl ?_
      refine pd_iconst dL_isPaid_381 (by decide) ?_
      obtain ⟨r37, F36, hr, hf⟩ := pd_ob2 hf
      refine pd_callV (pkX11_enough l hr) dL_isPaid_382 pq_1000 pq_1003 pq_1004 (show vwCl[11]? = some (yX11_enough.cls, TX11, 10) from rfl) hg32 (pd_okA (by omega) (by decide) (by omega) (by omega) pq_1001 pq_1002 (by decide) (show (parseMethodDescriptor yX11_enough.desc).map (fun d => d.parameters.length) = some 1 from by decide +kernel)) (Nat.le_of_ble_eq_true rfl) rfl ?_
      refine pd_ldc2 (x := (-1)) dL_isPaid_385 pq_1005 (by decide +kernel) ?_
      refine pd_lcmp_ne (tgt := 396) dL_isPaid_388 dL_isPaid_389 (by decide) (fun hc => ?_) (fun hc => ?_)
      · have hf := pd_ip hf hc
        refine pd_iconst dL_isPaid_396 (by decide) ?_
        obtain ⟨h1, h2, h3⟩ := pd_inj3 hf
        subst h1 h2 h3
        exact pd_zret dL_isPaid_397 rfl (by decide) (by omega) (by omega)
      · have hf := pd_iq hf hc
        refine pd_iconst dL_isPaid_392 (by decide) ?_
        refine pd_goto (tgt := 397) dL_isPaid_393 (by decide) ?_
        obtain ⟨h1, h2, h3⟩ := pd_inj3 hf
        subst h1 h2 h3
        exact pd_zret dL_isPaid_397 rfl (by decide) (by omega) (by omega)
set_option maxHeartbeats 8000000 in
set_option maxRecDepth 10000000 in
theorem pkL_isPaid_b141 (E : pd_E) (l : Launch) {Ls : Int} {xs : Int → Int} (hLs : Ls = (E.2.2.2 21 : Nat) ∧ Ls < 2147483648) (hxs : ∀ j : Int, 0 ≤ j → j < Ls → xs j = (Int32.ofNat (E.2.2.2 (22 + j.toNat))).toInt) {n : Nat} {shz : pd_S} {ρ : Int} {Fz : pd_F}  : ∀ (k cells slots : Nat) (hc0 : cells + (k * 1 + 1) ≤ 9) (hs0 : slots + (k * 3 + 3) ≤ 27) (sh : pd_S) (F : pd_F) (x0 : Int) (x1 : Int) (x2 : Int) (x4 : Int) (x7 : Int) (x8 : Int), pfL_isPaid_b141 Ls xs n  k sh F x0 x1 x2 x4 x7 x8 = some (ρ, shz, Fz) → pd_V E l (pd_rm 8 9 27) (RL, cL_isPaid, 14, (some .boolean), "isPaid") (pd_Qm E true (some (pd_I ρ)) shz Fz 9 27) true cells slots sh F 141 [pd_R x0, pd_I x1, pd_J x2, pd_N, pd_J x4, pd_N, pd_R (-60), pd_R x7, pd_I x8, pd_N, pd_N, pd_N, pd_N, pd_N] [] := by
  intro k
  induction k with
  | zero => intro cells slots _ _ sh F x0 x1 x2 x4 x7 x8 hf; exact absurd hf (by unfold pfL_isPaid_b141; exact fun h => nomatch h)
  | succ k ih =>
    intro cells slots hc0 hs0 sh F x0 x1 x2 x4 x7 x8 hf
    unfold pfL_isPaid_b141 at hf
    refine pd_iload (i := 8) dL_isPaid_141 rfl ?_
    refine pd_bipush dL_isPaid_143 (by decide) ?_
    refine pd_icmp_ge (tgt := 354) dL_isPaid_145 (by decide) (fun hc => ?_) (fun hc => ?_)
    · have hf := pd_ip hf hc
      exact pd_weak (L' := [pd_R x0, pd_I x1, pd_N, pd_N, pd_N, pd_N, pd_N, pd_N, pd_N, pd_N, pd_N, pd_N, pd_N, pd_N]) ⟨Or.inr rfl, Or.inr rfl, Or.inl rfl, Or.inr rfl, Or.inl rfl, Or.inr rfl, Or.inl rfl, Or.inl rfl, Or.inl rfl, Or.inr rfl, Or.inr rfl, Or.inr rfl, Or.inr rfl, Or.inr rfl, trivial⟩ (pkL_isPaid_b354 E l hLs hxs _ _ (by omega) (by omega) _ _ _ _ hf)
    · have hf := pd_in_ hf hc
      refine pd_iload (i := 8) dL_isPaid_148 rfl ?_
      refine pd_if_ne (tgt := 157) dL_isPaid_150 (by decide) (fun hc => ?_) (fun hc => ?_)
      · have hf := pd_ip hf hc
        refine pd_aload (i := 6) dL_isPaid_157 rfl ?_
        refine pd_sipush dL_isPaid_159 (by decide) ?_
        refine pd_iload (i := 8) dL_isPaid_162 rfl ?_
        refine pd_iadd dL_isPaid_164 ?_
        obtain ⟨r39, F38, hr, hf⟩ := pd_ob2 hf
        refine pd_callSE (pkL_cell E l hLs hxs hr) dL_isPaid_165 pq_899 pq_902 (pd_okA (by omega) (by decide) (by omega) (by omega) pq_900 pq_901 (by decide) (show (parseMethodDescriptor yL_cell.desc).map (fun d => d.parameters.length) = some 2 from by decide +kernel)) (Nat.le_of_ble_eq_true rfl) rfl ?_
        refine pd_ldc (x := 1048575) dL_isPaid_168 pq_1006 (by decide +kernel) ?_
        refine pd_iand dL_isPaid_170 ?_
        refine pd_lload_n (i := 2) dL_isPaid_171 rfl rfl ?_
        refine pd_lload (i := 4) dL_isPaid_172 rfl ?_
        refine pd_ladd dL_isPaid_174 ?_
        refine pd_ldc2 (x := 100) dL_isPaid_175 pq_1007 (by decide +kernel) ?_
        refine pd_ladd dL_isPaid_178 ?_
        refine pd_l2i dL_isPaid_179 ?_
        obtain ⟨hg40, hf⟩ := pd_ig hf
        refine pd_irem dL_isPaid_180 hg40 ?_
        exact pd_weak (L' := [pd_R x0, pd_I x1, pd_J x2, pd_N, pd_J x4, pd_N, pd_R (-60), pd_R x7, pd_I x8, pd_N, pd_N, pd_N, pd_N, pd_N]) ⟨Or.inr rfl, Or.inr rfl, Or.inr rfl, Or.inr rfl, Or.inr rfl, Or.inr rfl, Or.inr rfl, Or.inr rfl, Or.inr rfl, Or.inr rfl, Or.inr rfl, Or.inr rfl, Or.inr rfl, Or.inr rfl, trivial⟩ (pkL_isPaid_b181 E l hLs hxs ih _ _ (by omega) (by omega) _ _ _ _ _ _ _ _ _ hf)
      · have hf := pd_iq hf hc
        refine pd_iconst dL_isPaid_153 (by decide) ?_
        refine pd_goto (tgt := 181) dL_isPaid_154 (by decide) ?_
        exact pd_weak (L' := [pd_R x0, pd_I x1, pd_J x2, pd_N, pd_J x4, pd_N, pd_R (-60), pd_R x7, pd_I x8, pd_N, pd_N, pd_N, pd_N, pd_N]) ⟨Or.inr rfl, Or.inr rfl, Or.inr rfl, Or.inr rfl, Or.inr rfl, Or.inr rfl, Or.inr rfl, Or.inr rfl, Or.inr rfl, Or.inr rfl, Or.inr rfl, Or.inr rfl, Or.inr rfl, Or.inr rfl, trivial⟩ (pkL_isPaid_b181 E l hLs hxs ih _ _ (by omega) (by omega) _ _ _ _ _ _ _ _ _ hf)
set_option maxHeartbeats 8000000 in
set_option maxRecDepth 10000000 in
theorem pkL_isPaid_b138 (E : pd_E) (l : Launch) {Ls : Int} {xs : Int → Int} (hLs : Ls = (E.2.2.2 21 : Nat) ∧ Ls < 2147483648) (hxs : ∀ j : Int, 0 ≤ j → j < Ls → xs j = (Int32.ofNat (E.2.2.2 (22 + j.toNat))).toInt) {n : Nat} {shz : pd_S} {ρ : Int} {Fz : pd_F}  (cells slots : Nat) (hc0 : cells + 8 ≤ 9) (hs0 : slots + 24 ≤ 27) (sh : pd_S) (F : pd_F) (x0 : Int) (x1 : Int) (x2 : Int) (x4 : Int) (x7 : Int) (hf : pfL_isPaid_b138 Ls xs n  sh F x0 x1 x2 x4 x7 = some (ρ, shz, Fz)) : pd_V E l (pd_rm 8 9 27) (RL, cL_isPaid, 14, (some .boolean), "isPaid") (pd_Qm E true (some (pd_I ρ)) shz Fz 9 27) true cells slots sh F 138 [pd_R x0, pd_I x1, pd_J x2, pd_N, pd_J x4, pd_N, pd_R (-60), pd_R x7, pd_N, pd_N, pd_N, pd_N, pd_N, pd_N] [] := by
  unfold pfL_isPaid_b138 at hf
  refine pd_iconst dL_isPaid_138 (by decide) ?_
  refine pd_istore (L' := [pd_R x0, pd_I x1, pd_J x2, pd_N, pd_J x4, pd_N, pd_R (-60), pd_R x7, pd_I 0, pd_N, pd_N, pd_N, pd_N, pd_N]) dL_isPaid_139 (by decide) rfl ?_
  exact pd_weak (L' := [pd_R x0, pd_I x1, pd_J x2, pd_N, pd_J x4, pd_N, pd_R (-60), pd_R x7, pd_I 0, pd_N, pd_N, pd_N, pd_N, pd_N]) ⟨Or.inr rfl, Or.inr rfl, Or.inr rfl, Or.inr rfl, Or.inr rfl, Or.inr rfl, Or.inr rfl, Or.inr rfl, Or.inr rfl, Or.inr rfl, Or.inr rfl, Or.inr rfl, Or.inr rfl, Or.inr rfl, trivial⟩ (pkL_isPaid_b141 E l hLs hxs 7 _ _ (by omega) (by omega) _ _ _ _ _ _ _ _ hf)
set_option maxHeartbeats 8000000 in
set_option maxRecDepth 10000000 in
theorem pkL_isPaid_b67 (E : pd_E) (l : Launch) {Ls : Int} {xs : Int → Int} (hLs : Ls = (E.2.2.2 21 : Nat) ∧ Ls < 2147483648) (hxs : ∀ j : Int, 0 ≤ j → j < Ls → xs j = (Int32.ofNat (E.2.2.2 (22 + j.toNat))).toInt) {n : Nat} {shz : pd_S} {ρ : Int} {Fz : pd_F}  : ∀ (k cells slots : Nat) (hc0 : cells + (k * 0 + 8) ≤ 9) (hs0 : slots + (k * 0 + 24) ≤ 27) (sh : pd_S) (F : pd_F) (x0 : Int) (x1 : Int) (x2 : Int) (x4 : Int) (x7 : Int) (x8 : Int), pfL_isPaid_b67 Ls xs n  k sh F x0 x1 x2 x4 x7 x8 = some (ρ, shz, Fz) → pd_V E l (pd_rm 8 9 27) (RL, cL_isPaid, 14, (some .boolean), "isPaid") (pd_Qm E true (some (pd_I ρ)) shz Fz 9 27) true cells slots sh F 67 [pd_R x0, pd_I x1, pd_J x2, pd_N, pd_J x4, pd_N, pd_R (-60), pd_R x7, pd_I x8, pd_N, pd_N, pd_N, pd_N, pd_N] [] := by
  intro k
  induction k with
  | zero => intro cells slots _ _ sh F x0 x1 x2 x4 x7 x8 hf; exact absurd hf (by unfold pfL_isPaid_b67; exact fun h => nomatch h)
  | succ k ih =>
    intro cells slots hc0 hs0 sh F x0 x1 x2 x4 x7 x8 hf
    unfold pfL_isPaid_b67 at hf
    refine pd_iload (i := 8) dL_isPaid_67 rfl ?_
    refine pd_iconst dL_isPaid_69 (by decide) ?_
    refine pd_icmp_ge (tgt := 138) dL_isPaid_70 (by decide) (fun hc => ?_) (fun hc => ?_)
    · have hf := pd_ip hf hc
      exact pd_weak (L' := [pd_R x0, pd_I x1, pd_J x2, pd_N, pd_J x4, pd_N, pd_R (-60), pd_R x7, pd_N, pd_N, pd_N, pd_N, pd_N, pd_N]) ⟨Or.inr rfl, Or.inr rfl, Or.inr rfl, Or.inr rfl, Or.inr rfl, Or.inr rfl, Or.inr rfl, Or.inr rfl, Or.inl rfl, Or.inr rfl, Or.inr rfl, Or.inr rfl, Or.inr rfl, Or.inr rfl, trivial⟩ (pkL_isPaid_b138 E l hLs hxs _ _ (by omega) (by omega) _ _ _ _ _ _ _ hf)
    · have hf := pd_in_ hf hc
      refine pd_aload_n (i := 0) dL_isPaid_73 rfl rfl ?_
      refine pd_iload (i := 8) dL_isPaid_74 rfl ?_
      obtain ⟨hg42, hf⟩ := pd_ig hf
      obtain ⟨r43, F41, hr, hf⟩ := pd_ob2 hf
      refine pd_callV (pkX11_enough l hr) dL_isPaid_76 pq_1000 pq_1003 pq_1004 (show vwCl[11]? = some (yX11_enough.cls, TX11, 10) from rfl) hg42 (pd_okA (by omega) (by decide) (by omega) (by omega) pq_1001 pq_1002 (by decide) (show (parseMethodDescriptor yX11_enough.desc).map (fun d => d.parameters.length) = some 1 from by decide +kernel)) (Nat.le_of_ble_eq_true rfl) rfl ?_
      refine pd_aload (i := 7) dL_isPaid_79 rfl ?_
      refine pd_iload (i := 8) dL_isPaid_81 rfl ?_
      obtain ⟨hg44, hf⟩ := pd_ig hf
      refine pd_lald dL_isPaid_83 hg44 ?_
      refine pd_lconst (x := 0) dL_isPaid_84 (by decide) ?_
      refine pd_lcmp_ne (tgt := 93) dL_isPaid_85 dL_isPaid_86 (by decide) (fun hc => ?_) (fun hc => ?_)
      · have hf := pd_ip hf hc
        refine pd_aload (i := 7) dL_isPaid_93 rfl ?_
        refine pd_iconst dL_isPaid_95 (by decide) ?_
        obtain ⟨hg45, hf⟩ := pd_ig hf
        refine pd_lald dL_isPaid_96 hg45 ?_
        refine pd_iload (i := 8) dL_isPaid_97 rfl ?_
        refine pd_if_le (tgt := 109) dL_isPaid_99 (by decide) (fun hc => ?_) (fun hc => ?_)
        · have hf := pd_ip hf hc
          refine pd_lconst (x := 0) dL_isPaid_109 (by decide) ?_
          exact pd_weak (L' := [pd_R x0, pd_I x1, pd_J x2, pd_N, pd_J x4, pd_N, pd_R (-60), pd_R x7, pd_I x8, pd_N, pd_N, pd_N, pd_N, pd_N]) ⟨Or.inr rfl, Or.inr rfl, Or.inr rfl, Or.inr rfl, Or.inr rfl, Or.inr rfl, Or.inr rfl, Or.inr rfl, Or.inr rfl, Or.inr rfl, Or.inr rfl, Or.inr rfl, Or.inr rfl, Or.inr rfl, trivial⟩ (pkL_isPaid_b110 E l hLs hxs ih _ _ (by omega) (by omega) _ _ _ _ _ _ _ _ _ _ _ hf)
        · have hf := pd_in_ hf hc
          refine pd_aload (i := 7) dL_isPaid_102 rfl ?_
          refine pd_iconst dL_isPaid_104 (by decide) ?_
          obtain ⟨hg46, hf⟩ := pd_ig hf
          refine pd_lald dL_isPaid_105 hg46 ?_
          refine pd_goto (tgt := 110) dL_isPaid_106 (by decide) ?_
          exact pd_weak (L' := [pd_R x0, pd_I x1, pd_J x2, pd_N, pd_J x4, pd_N, pd_R (-60), pd_R x7, pd_I x8, pd_N, pd_N, pd_N, pd_N, pd_N]) ⟨Or.inr rfl, Or.inr rfl, Or.inr rfl, Or.inr rfl, Or.inr rfl, Or.inr rfl, Or.inr rfl, Or.inr rfl, Or.inr rfl, Or.inr rfl, Or.inr rfl, Or.inr rfl, Or.inr rfl, Or.inr rfl, trivial⟩ (pkL_isPaid_b110 E l hLs hxs ih _ _ (by omega) (by omega) _ _ _ _ _ _ _ _ _ _ _ hf)
      · have hf := pd_iq hf hc
        refine pd_lconst (x := 0) dL_isPaid_89 (by decide) ?_
        refine pd_goto (tgt := 126) dL_isPaid_90 (by decide) ?_
        exact pd_weak (L' := [pd_R x0, pd_I x1, pd_J x2, pd_N, pd_J x4, pd_N, pd_R (-60), pd_R x7, pd_I x8, pd_N, pd_N, pd_N, pd_N, pd_N]) ⟨Or.inr rfl, Or.inr rfl, Or.inr rfl, Or.inr rfl, Or.inr rfl, Or.inr rfl, Or.inr rfl, Or.inr rfl, Or.inr rfl, Or.inr rfl, Or.inr rfl, Or.inr rfl, Or.inr rfl, Or.inr rfl, trivial⟩ (pkL_isPaid_b126 E l hLs hxs ih _ _ (by omega) (by omega) _ _ _ _ _ _ _ _ _ _ hf)
set_option maxHeartbeats 8000000 in
set_option maxRecDepth 10000000 in
theorem pkL_isPaid_b64 (E : pd_E) (l : Launch) {Ls : Int} {xs : Int → Int} (hLs : Ls = (E.2.2.2 21 : Nat) ∧ Ls < 2147483648) (hxs : ∀ j : Int, 0 ≤ j → j < Ls → xs j = (Int32.ofNat (E.2.2.2 (22 + j.toNat))).toInt) {n : Nat} {shz : pd_S} {ρ : Int} {Fz : pd_F}  (cells slots : Nat) (hc0 : cells + 8 ≤ 9) (hs0 : slots + 24 ≤ 27) (sh : pd_S) (F : pd_F) (x0 : Int) (x1 : Int) (x2 : Int) (x4 : Int) (x7 : Int) (hf : pfL_isPaid_b64 Ls xs n  sh F x0 x1 x2 x4 x7 = some (ρ, shz, Fz)) : pd_V E l (pd_rm 8 9 27) (RL, cL_isPaid, 14, (some .boolean), "isPaid") (pd_Qm E true (some (pd_I ρ)) shz Fz 9 27) true cells slots sh F 64 [pd_R x0, pd_I x1, pd_J x2, pd_N, pd_J x4, pd_N, pd_R (-60), pd_R x7, pd_N, pd_N, pd_N, pd_N, pd_N, pd_N] [] := by
  unfold pfL_isPaid_b64 at hf
  refine pd_iconst dL_isPaid_64 (by decide) ?_
  refine pd_istore (L' := [pd_R x0, pd_I x1, pd_J x2, pd_N, pd_J x4, pd_N, pd_R (-60), pd_R x7, pd_I 0, pd_N, pd_N, pd_N, pd_N, pd_N]) dL_isPaid_65 (by decide) rfl ?_
  exact pd_weak (L' := [pd_R x0, pd_I x1, pd_J x2, pd_N, pd_J x4, pd_N, pd_R (-60), pd_R x7, pd_I 0, pd_N, pd_N, pd_N, pd_N, pd_N]) ⟨Or.inr rfl, Or.inr rfl, Or.inr rfl, Or.inr rfl, Or.inr rfl, Or.inr rfl, Or.inr rfl, Or.inr rfl, Or.inr rfl, Or.inr rfl, Or.inr rfl, Or.inr rfl, Or.inr rfl, Or.inr rfl, trivial⟩ (pkL_isPaid_b67 E l hLs hxs n _ _ (by omega) (by omega) _ _ _ _ _ _ _ _ hf)
set_option maxHeartbeats 8000000 in
set_option maxRecDepth 10000000 in
theorem pkL_isPaid_b20 (E : pd_E) (l : Launch) {Ls : Int} {xs : Int → Int} (hLs : Ls = (E.2.2.2 21 : Nat) ∧ Ls < 2147483648) (hxs : ∀ j : Int, 0 ≤ j → j < Ls → xs j = (Int32.ofNat (E.2.2.2 (22 + j.toNat))).toInt) {n : Nat} {shz : pd_S} {ρ : Int} {Fz : pd_F}  : ∀ (k cells slots : Nat) (hc0 : cells + (k * 0 + 8) ≤ 9) (hs0 : slots + (k * 0 + 24) ≤ 27) (sh : pd_S) (F : pd_F) (x0 : Int) (x1 : Int) (x2 : Int) (x4 : Int) (x7 : Int) (x8 : Int), pfL_isPaid_b20 Ls xs n  k sh F x0 x1 x2 x4 x7 x8 = some (ρ, shz, Fz) → pd_V E l (pd_rm 8 9 27) (RL, cL_isPaid, 14, (some .boolean), "isPaid") (pd_Qm E true (some (pd_I ρ)) shz Fz 9 27) true cells slots sh F 20 [pd_R x0, pd_I x1, pd_J x2, pd_N, pd_J x4, pd_N, pd_R (-60), pd_R x7, pd_I x8, pd_N, pd_N, pd_N, pd_N, pd_N] [] := by
  intro k
  induction k with
  | zero => intro cells slots _ _ sh F x0 x1 x2 x4 x7 x8 hf; exact absurd hf (by unfold pfL_isPaid_b20; exact fun h => nomatch h)
  | succ k ih =>
    intro cells slots hc0 hs0 sh F x0 x1 x2 x4 x7 x8 hf
    unfold pfL_isPaid_b20 at hf
    refine pd_iload (i := 8) dL_isPaid_20 rfl ?_
    refine pd_iload_n (i := 1) dL_isPaid_22 rfl rfl ?_
    refine pd_icmp_ge (tgt := 64) dL_isPaid_23 (by decide) (fun hc => ?_) (fun hc => ?_)
    · have hf := pd_ip hf hc
      exact pd_weak (L' := [pd_R x0, pd_I x1, pd_J x2, pd_N, pd_J x4, pd_N, pd_R (-60), pd_R x7, pd_N, pd_N, pd_N, pd_N, pd_N, pd_N]) ⟨Or.inr rfl, Or.inr rfl, Or.inr rfl, Or.inr rfl, Or.inr rfl, Or.inr rfl, Or.inr rfl, Or.inr rfl, Or.inl rfl, Or.inr rfl, Or.inr rfl, Or.inr rfl, Or.inr rfl, Or.inr rfl, trivial⟩ (pkL_isPaid_b64 E l hLs hxs _ _ (by omega) (by omega) _ _ _ _ _ _ _ hf)
    · have hf := pd_in_ hf hc
      refine pd_aload (i := 7) dL_isPaid_26 rfl ?_
      refine pd_aload_n (i := 0) dL_isPaid_28 rfl rfl ?_
      refine pd_iload (i := 8) dL_isPaid_29 rfl ?_
      refine pd_bipush dL_isPaid_31 (by decide) ?_
      obtain ⟨hg48, hf⟩ := pd_ig hf
      obtain ⟨r49, F47, hr, hf⟩ := pd_ob2 hf
      refine pd_callV (pkX11_view l hr) dL_isPaid_33 pq_988 pq_991 pq_992 (show vwCl[11]? = some (yX11_view.cls, TX11, 10) from rfl) hg48 (pd_okA (by omega) (by decide) (by omega) (by omega) pq_989 pq_990 (by decide) (show (parseMethodDescriptor yX11_view.desc).map (fun d => d.parameters.length) = some 2 from by decide +kernel)) (Nat.le_of_ble_eq_true rfl) rfl ?_
      refine pd_lconst (x := 1) dL_isPaid_36 (by decide) ?_
      refine pd_lcmp_ne (tgt := 45) dL_isPaid_37 dL_isPaid_38 (by decide) (fun hc => ?_) (fun hc => ?_)
      · have hf := pd_ip hf hc
        refine pd_iconst dL_isPaid_45 (by decide) ?_
        exact pd_weak (L' := [pd_R x0, pd_I x1, pd_J x2, pd_N, pd_J x4, pd_N, pd_R (-60), pd_R x7, pd_I x8, pd_N, pd_N, pd_N, pd_N, pd_N]) ⟨Or.inr rfl, Or.inr rfl, Or.inr rfl, Or.inr rfl, Or.inr rfl, Or.inr rfl, Or.inr rfl, Or.inr rfl, Or.inr rfl, Or.inr rfl, Or.inr rfl, Or.inr rfl, Or.inr rfl, Or.inr rfl, trivial⟩ (pkL_isPaid_b46 E l hLs hxs ih _ _ (by omega) (by omega) _ _ _ _ _ _ _ _ _ _ hf)
      · have hf := pd_iq hf hc
        refine pd_iconst dL_isPaid_41 (by decide) ?_
        refine pd_goto (tgt := 46) dL_isPaid_42 (by decide) ?_
        exact pd_weak (L' := [pd_R x0, pd_I x1, pd_J x2, pd_N, pd_J x4, pd_N, pd_R (-60), pd_R x7, pd_I x8, pd_N, pd_N, pd_N, pd_N, pd_N]) ⟨Or.inr rfl, Or.inr rfl, Or.inr rfl, Or.inr rfl, Or.inr rfl, Or.inr rfl, Or.inr rfl, Or.inr rfl, Or.inr rfl, Or.inr rfl, Or.inr rfl, Or.inr rfl, Or.inr rfl, Or.inr rfl, trivial⟩ (pkL_isPaid_b46 E l hLs hxs ih _ _ (by omega) (by omega) _ _ _ _ _ _ _ _ _ _ hf)
set_option maxHeartbeats 8000000 in
set_option maxRecDepth 10000000 in
theorem pkL_isPaid (E : pd_E) (l : Launch) {Ls : Int} {xs : Int → Int} (hLs : Ls = (E.2.2.2 21 : Nat) ∧ Ls < 2147483648) (hxs : ∀ j : Int, 0 ≤ j → j < Ls → xs j = (Int32.ofNat (E.2.2.2 (22 + j.toNat))).toInt) {sh : pd_S} {n : Nat} {F : pd_F} {x0 : Int} {x1 : Int} {x2 : Int} {x4 : Int} {ρ : Int} {shz : pd_S} {Fz : pd_F} (hf : pfL_isPaid Ls xs sh n F x0 x1 x2 x4 = some (ρ, shz, Fz)) : pd_CE E l yL_isPaid (Cond.code yL_isPaid cL_isPaid 14 (some .boolean) :: pd_gt) (pd_rm 8 9 27) true 9 27 sh F [pd_R x0, pd_I x1, pd_J x2, pd_J x4, pd_R (-60)] (some (pd_I ρ)) shz Fz := by
  unfold pfL_isPaid at hf
  refine pd_bodyE (L := [pd_R x0, pd_I x1, pd_J x2, pd_N, pd_J x4, pd_N, pd_R (-60), pd_N, pd_N, pd_N, pd_N, pd_N, pd_N, pd_N]) (by decide +kernel) (Nat.le_of_ble_eq_true rfl) rfl ?_
  refine pd_iconst dL_isPaid_0 (by decide) ?_
  refine pd_newJ (N := 3) dL_isPaid_1 pq_861 (by decide) (by decide) ⟨by show _ ≤ 9; omega, by show _ ≤ 27; omega⟩ ?_
  refine pd_topR (fun o52 eo52 => ?_)
  have hf := pd_lt hf eo52
  refine pd_topF (fun F51 eF51 => ?_)
  have hf := pd_lt hf eF51
  refine pd_topS (fun sh50 esh50 => ?_)
  have hf := pd_lt hf esh50
  clear esh50 eF51 eo52
  refine pd_dup dL_isPaid_3 rfl ?_
  refine pd_iconst dL_isPaid_4 (by decide) ?_
  refine pd_lload_n (i := 2) dL_isPaid_5 rfl rfl ?_
  obtain ⟨hg53, hf⟩ := pd_ig hf
  refine pd_last dL_isPaid_6 hg53 ?_
  refine pd_topF (fun F54 eF54 => ?_)
  have hf := pd_lt hf eF54
  clear eF54
  refine pd_dup dL_isPaid_7 rfl ?_
  refine pd_iconst dL_isPaid_8 (by decide) ?_
  refine pd_lconst (x := 0) dL_isPaid_9 (by decide) ?_
  obtain ⟨hg55, hf⟩ := pd_ig hf
  refine pd_last dL_isPaid_10 hg55 ?_
  refine pd_topF (fun F56 eF56 => ?_)
  have hf := pd_lt hf eF56
  clear eF56
  refine pd_dup dL_isPaid_11 rfl ?_
  refine pd_iconst dL_isPaid_12 (by decide) ?_
  refine pd_lconst (x := 0) dL_isPaid_13 (by decide) ?_
  obtain ⟨hg57, hf⟩ := pd_ig hf
  refine pd_last dL_isPaid_14 hg57 ?_
  refine pd_topF (fun F58 eF58 => ?_)
  have hf := pd_lt hf eF58
  clear eF58
  obtain ⟨hg59, hf⟩ := pd_ig hf
  refine pd_astore (L' := [pd_R x0, pd_I x1, pd_J x2, pd_N, pd_J x4, pd_N, pd_R (-60), pd_R o52, pd_N, pd_N, pd_N, pd_N, pd_N, pd_N]) dL_isPaid_15 (by decide) hg59 rfl ?_
  refine pd_iconst dL_isPaid_17 (by decide) ?_
  refine pd_istore (L' := [pd_R x0, pd_I x1, pd_J x2, pd_N, pd_J x4, pd_N, pd_R (-60), pd_R o52, pd_I 0, pd_N, pd_N, pd_N, pd_N, pd_N]) dL_isPaid_18 (by decide) rfl ?_
  exact pd_weak (L' := [pd_R x0, pd_I x1, pd_J x2, pd_N, pd_J x4, pd_N, pd_R (-60), pd_R o52, pd_I 0, pd_N, pd_N, pd_N, pd_N, pd_N]) ⟨Or.inr rfl, Or.inr rfl, Or.inr rfl, Or.inr rfl, Or.inr rfl, Or.inr rfl, Or.inr rfl, Or.inr rfl, Or.inr rfl, Or.inr rfl, Or.inr rfl, Or.inr rfl, Or.inr rfl, Or.inr rfl, trivial⟩ (pkL_isPaid_b20 E l hLs hxs n _ _ (by omega) (by omega) _ _ _ _ _ _ _ _ hf)
set_option maxHeartbeats 4000000 in
set_option maxRecDepth 100000 in
theorem pkL_isRanked_b105 (E : pd_E) (l : Launch) {al : Bool} {sh : pd_S} {n : Nat} {ρ : Int} {Fz : pd_F} {c4 : pd_F → Int → Int → Int → Int → Option (Int × pd_F)} (hL4 : ∀ (F : pd_F) (x0 : Int) (x1 : Int) (x2 : Int) (x3 : Int), c4 F x0 x1 x2 x3 = some (ρ, Fz) → pd_V E l (pd_rm 6 0 0) (RL, cL_isRanked, 6, (some .boolean), "isRanked") (pd_Qm E al (some (pd_I ρ)) sh Fz 0 0) al 0 0 sh F 4 [pd_R x0, pd_I x1, pd_I x2, pd_I x3, pd_N, pd_N] []) (F : pd_F) (x0 : Int) (x1 : Int) (x2 : Int) (x3 : Int) (hf : pfL_isRanked_b105 sh n c4 F x0 x1 x2 x3 = some (ρ, Fz)) : pd_V E l (pd_rm 6 0 0) (RL, cL_isRanked, 6, (some .boolean), "isRanked") (pd_Qm E al (some (pd_I ρ)) sh Fz 0 0) al 0 0 sh F 105 [pd_R x0, pd_I x1, pd_I x2, pd_I x3, pd_N, pd_N] [] := by
  unfold pfL_isRanked_b105 at hf
  refine pd_iincN (L' := fun y => [pd_R x0, pd_I x1, pd_I x2, pd_I y, pd_N, pd_N]) dL_isRanked_105 rfl (by decide) (by decide) (fun _ => rfl) (fun x3_105 ex3_105 => ?_)
  have hf := pd_lt hf ex3_105
  clear ex3_105
  refine pd_goto (tgt := 4) dL_isRanked_108 (by decide) ?_
  exact pd_weak (L' := [pd_R x0, pd_I x1, pd_I x2, pd_I x3_105, pd_N, pd_N]) ⟨Or.inr rfl, Or.inr rfl, Or.inr rfl, Or.inr rfl, Or.inr rfl, Or.inr rfl, trivial⟩ (hL4 _ _ _ _ _ hf)
set_option maxHeartbeats 4000000 in
set_option maxRecDepth 100000 in
theorem pkL_isRanked_b111 (E : pd_E) (l : Launch) {al : Bool} {sh : pd_S} {n : Nat} {ρ : Int} {Fz : pd_F}  (F : pd_F) (x0 : Int) (x1 : Int) (hf : pfL_isRanked_b111 sh n  F x0 x1 = some (ρ, Fz)) : pd_V E l (pd_rm 6 0 0) (RL, cL_isRanked, 6, (some .boolean), "isRanked") (pd_Qm E al (some (pd_I ρ)) sh Fz 0 0) al 0 0 sh F 111 [pd_R x0, pd_I x1, pd_N, pd_N, pd_N, pd_N] [] := by
  unfold pfL_isRanked_b111 at hf
  refine pd_aload_n (i := 0) dL_isRanked_111 rfl rfl ?_
  refine pd_iload_n (i := 1) dL_isRanked_112 rfl rfl ?_
  obtain ⟨hg2, hf⟩ := pd_ig hf
  obtain ⟨r3, F1, hr, hf⟩ := pd_ob2 hf
  refine pd_callV (pkX11_ranked l hr) dL_isRanked_113 pq_1008 pq_1011 pq_1012 (show vwCl[11]? = some (yX11_ranked.cls, TX11, 10) from rfl) hg2 (pd_okm (by omega) (by decide) pq_1009 pq_1010 (by decide) (show (parseMethodDescriptor yX11_ranked.desc).map (fun d => d.parameters.length) = some 1 from by decide +kernel)) (Nat.le_of_ble_eq_true rfl) rfl ?_
  refine pd_iconst dL_isRanked_116 (by decide) ?_
  refine pd_icmp_ne (tgt := 124) dL_isRanked_117 (by decide) (fun hc => ?_) (fun hc => ?_)
  · have hf := pd_ip hf hc
    refine pd_iconst dL_isRanked_124 (by decide) ?_
    obtain ⟨h1, h2⟩ := pd_inj hf
    subst h1 h2
    exact pd_zret dL_isRanked_125 rfl (by decide) (Nat.le_refl 0) (Nat.le_refl 0)
  · have hf := pd_iq hf hc
    refine pd_iconst dL_isRanked_120 (by decide) ?_
    refine pd_goto (tgt := 125) dL_isRanked_121 (by decide) ?_
    obtain ⟨h1, h2⟩ := pd_inj hf
    subst h1 h2
    exact pd_zret dL_isRanked_125 rfl (by decide) (Nat.le_refl 0) (Nat.le_refl 0)
set_option maxHeartbeats 4000000 in
set_option maxRecDepth 100000 in
theorem pkL_isRanked_b4 (E : pd_E) (l : Launch) {al : Bool} {sh : pd_S} {n : Nat} {ρ : Int} {Fz : pd_F}  : ∀ (k : Nat) (F : pd_F) (x0 : Int) (x1 : Int) (x2 : Int) (x3 : Int), pfL_isRanked_b4 sh n  k F x0 x1 x2 x3 = some (ρ, Fz) → pd_V E l (pd_rm 6 0 0) (RL, cL_isRanked, 6, (some .boolean), "isRanked") (pd_Qm E al (some (pd_I ρ)) sh Fz 0 0) al 0 0 sh F 4 [pd_R x0, pd_I x1, pd_I x2, pd_I x3, pd_N, pd_N] [] := by
  intro k
  induction k with
  | zero => intro F x0 x1 x2 x3 hf; exact absurd hf (by unfold pfL_isRanked_b4; exact fun h => nomatch h)
  | succ k ih =>
    intro F x0 x1 x2 x3 hf
    unfold pfL_isRanked_b4 at hf
    refine pd_iload_n (i := 3) dL_isRanked_4 rfl rfl ?_
    refine pd_iload_n (i := 1) dL_isRanked_5 rfl rfl ?_
    refine pd_icmp_ge (tgt := 111) dL_isRanked_6 (by decide) (fun hc => ?_) (fun hc => ?_)
    · have hf := pd_ip hf hc
      exact pd_weak (L' := [pd_R x0, pd_I x1, pd_N, pd_N, pd_N, pd_N]) ⟨Or.inr rfl, Or.inr rfl, Or.inl rfl, Or.inl rfl, Or.inr rfl, Or.inr rfl, trivial⟩ (pkL_isRanked_b111 E l _ _ _ hf)
    · have hf := pd_in_ hf hc
      refine pd_aload_n (i := 0) dL_isRanked_9 rfl rfl ?_
      refine pd_iload_n (i := 3) dL_isRanked_10 rfl rfl ?_
      obtain ⟨hg5, hf⟩ := pd_ig hf
      obtain ⟨r6, F4, hr, hf⟩ := pd_ob2 hf
      refine pd_callV (pkX11_ranked l hr) dL_isRanked_11 pq_1008 pq_1011 pq_1012 (show vwCl[11]? = some (yX11_ranked.cls, TX11, 10) from rfl) hg5 (pd_okm (by omega) (by decide) pq_1009 pq_1010 (by decide) (show (parseMethodDescriptor yX11_ranked.desc).map (fun d => d.parameters.length) = some 1 from by decide +kernel)) (Nat.le_of_ble_eq_true rfl) rfl ?_
      refine pd_istore (L' := [pd_R x0, pd_I x1, pd_I x2, pd_I x3, pd_I r6, pd_N]) dL_isRanked_14 (by decide) rfl ?_
      refine pd_iload (i := 4) dL_isRanked_16 rfl ?_
      refine pd_if_lt (tgt := 31) dL_isRanked_18 (by decide) (fun hc => ?_) (fun hc => ?_)
      · have hf := pd_ip hf hc
        refine pd_iconst dL_isRanked_31 (by decide) ?_
        obtain ⟨h1, h2⟩ := pd_inj hf
        subst h1 h2
        exact pd_zret dL_isRanked_32 rfl (by decide) (Nat.le_refl 0) (Nat.le_refl 0)
      · have hf := pd_in_ hf hc
        refine pd_iload_n (i := 2) dL_isRanked_21 rfl rfl ?_
        refine pd_iload (i := 4) dL_isRanked_22 rfl ?_
        refine pd_ishr dL_isRanked_24 ?_
        refine pd_iconst dL_isRanked_25 (by decide) ?_
        refine pd_iand dL_isRanked_26 ?_
        refine pd_iconst dL_isRanked_27 (by decide) ?_
        refine pd_icmp_ne (tgt := 33) dL_isRanked_28 (by decide) (fun hc => ?_) (fun hc => ?_)
        · have hf := pd_ip hf hc
          refine pd_iload_n (i := 2) dL_isRanked_33 rfl rfl ?_
          refine pd_iconst dL_isRanked_34 (by decide) ?_
          refine pd_iload (i := 4) dL_isRanked_35 rfl ?_
          refine pd_ishl dL_isRanked_37 ?_
          refine pd_ior dL_isRanked_38 ?_
          refine pd_topI (fun x2_39 ex2_39 => ?_)
          have hf := pd_lt hf ex2_39
          clear ex2_39
          refine pd_istore_n (L' := [pd_R x0, pd_I x1, pd_I x2_39, pd_I x3, pd_I r6, pd_N]) dL_isRanked_39 rfl (by decide) rfl ?_
          refine pd_iload_n (i := 3) dL_isRanked_40 rfl rfl ?_
          refine pd_if_ne (tgt := 47) dL_isRanked_41 (by decide) (fun hc => ?_) (fun hc => ?_)
          · have hf := pd_ip hf hc
            refine pd_aload_n (i := 0) dL_isRanked_47 rfl rfl ?_
            refine pd_iload_n (i := 3) dL_isRanked_48 rfl rfl ?_
            refine pd_iconst dL_isRanked_49 (by decide) ?_
            refine pd_isub dL_isRanked_50 ?_
            obtain ⟨r8, F7, hr, hf⟩ := pd_ob2 hf
            refine pd_callV (pkX11_ranked l hr) dL_isRanked_51 pq_1008 pq_1011 pq_1012 (show vwCl[11]? = some (yX11_ranked.cls, TX11, 10) from rfl) hg5 (pd_okm (by omega) (by decide) pq_1009 pq_1010 (by decide) (show (parseMethodDescriptor yX11_ranked.desc).map (fun d => d.parameters.length) = some 1 from by decide +kernel)) (Nat.le_of_ble_eq_true rfl) rfl ?_
            refine pd_istore (L' := [pd_R x0, pd_I x1, pd_I x2_39, pd_I x3, pd_I r6, pd_I r8]) dL_isRanked_54 (by decide) rfl ?_
            refine pd_aload_n (i := 0) dL_isRanked_56 rfl rfl ?_
            refine pd_iload (i := 5) dL_isRanked_57 rfl ?_
            refine pd_bipush dL_isRanked_59 (by decide) ?_
            obtain ⟨r10, F9, hr, hf⟩ := pd_ob2 hf
            refine pd_callV (pkX11_view l hr) dL_isRanked_61 pq_988 pq_991 pq_992 (show vwCl[11]? = some (yX11_view.cls, TX11, 10) from rfl) hg5 (pd_okm (by omega) (by decide) pq_989 pq_990 (by decide) (show (parseMethodDescriptor yX11_view.desc).map (fun d => d.parameters.length) = some 2 from by decide +kernel)) (Nat.le_of_ble_eq_true rfl) rfl ?_
            refine pd_aload_n (i := 0) dL_isRanked_64 rfl rfl ?_
            refine pd_iload (i := 4) dL_isRanked_65 rfl ?_
            refine pd_bipush dL_isRanked_67 (by decide) ?_
            obtain ⟨r12, F11, hr, hf⟩ := pd_ob2 hf
            refine pd_callV (pkX11_view l hr) dL_isRanked_69 pq_988 pq_991 pq_992 (show vwCl[11]? = some (yX11_view.cls, TX11, 10) from rfl) hg5 (pd_okm (by omega) (by decide) pq_989 pq_990 (by decide) (show (parseMethodDescriptor yX11_view.desc).map (fun d => d.parameters.length) = some 2 from by decide +kernel)) (Nat.le_of_ble_eq_true rfl) rfl ?_
            refine pd_lcmp_lt (tgt := 103) dL_isRanked_72 dL_isRanked_73 (by decide) (fun hc => ?_) (fun hc => ?_)
            · have hf := pd_ip hf hc
              refine pd_iconst dL_isRanked_103 (by decide) ?_
              obtain ⟨h1, h2⟩ := pd_inj hf
              subst h1 h2
              exact pd_zret dL_isRanked_104 rfl (by decide) (Nat.le_refl 0) (Nat.le_refl 0)
            · have hf := pd_in_ hf hc
              refine pd_aload_n (i := 0) dL_isRanked_76 rfl rfl ?_
              refine pd_iload (i := 5) dL_isRanked_77 rfl ?_
              refine pd_bipush dL_isRanked_79 (by decide) ?_
              obtain ⟨r14, F13, hr, hf⟩ := pd_ob2 hf
              refine pd_callV (pkX11_view l hr) dL_isRanked_81 pq_988 pq_991 pq_992 (show vwCl[11]? = some (yX11_view.cls, TX11, 10) from rfl) hg5 (pd_okm (by omega) (by decide) pq_989 pq_990 (by decide) (show (parseMethodDescriptor yX11_view.desc).map (fun d => d.parameters.length) = some 2 from by decide +kernel)) (Nat.le_of_ble_eq_true rfl) rfl ?_
              refine pd_aload_n (i := 0) dL_isRanked_84 rfl rfl ?_
              refine pd_iload (i := 4) dL_isRanked_85 rfl ?_
              refine pd_bipush dL_isRanked_87 (by decide) ?_
              obtain ⟨r16, F15, hr, hf⟩ := pd_ob2 hf
              refine pd_callV (pkX11_view l hr) dL_isRanked_89 pq_988 pq_991 pq_992 (show vwCl[11]? = some (yX11_view.cls, TX11, 10) from rfl) hg5 (pd_okm (by omega) (by decide) pq_989 pq_990 (by decide) (show (parseMethodDescriptor yX11_view.desc).map (fun d => d.parameters.length) = some 2 from by decide +kernel)) (Nat.le_of_ble_eq_true rfl) rfl ?_
              refine pd_lcmp_ne (tgt := 105) dL_isRanked_92 dL_isRanked_93 (by decide) (fun hc => ?_) (fun hc => ?_)
              · have hf := pd_ip hf hc
                exact pd_weak (L' := [pd_R x0, pd_I x1, pd_I x2_39, pd_I x3, pd_N, pd_N]) ⟨Or.inr rfl, Or.inr rfl, Or.inr rfl, Or.inr rfl, Or.inl rfl, Or.inl rfl, trivial⟩ (pkL_isRanked_b105 E l ih _ _ _ _ _ hf)
              · have hf := pd_iq hf hc
                refine pd_iload (i := 5) dL_isRanked_96 rfl ?_
                refine pd_iload (i := 4) dL_isRanked_98 rfl ?_
                refine pd_icmp_le (tgt := 105) dL_isRanked_100 (by decide) (fun hc => ?_) (fun hc => ?_)
                · have hf := pd_ip hf hc
                  exact pd_weak (L' := [pd_R x0, pd_I x1, pd_I x2_39, pd_I x3, pd_N, pd_N]) ⟨Or.inr rfl, Or.inr rfl, Or.inr rfl, Or.inr rfl, Or.inl rfl, Or.inl rfl, trivial⟩ (pkL_isRanked_b105 E l ih _ _ _ _ _ hf)
                · have hf := pd_in_ hf hc
                  refine pd_iconst dL_isRanked_103 (by decide) ?_
                  obtain ⟨h1, h2⟩ := pd_inj hf
                  subst h1 h2
                  exact pd_zret dL_isRanked_104 rfl (by decide) (Nat.le_refl 0) (Nat.le_refl 0)
          · have hf := pd_iq hf hc
            refine pd_goto (tgt := 105) dL_isRanked_44 (by decide) ?_
            exact pd_weak (L' := [pd_R x0, pd_I x1, pd_I x2_39, pd_I x3, pd_N, pd_N]) ⟨Or.inr rfl, Or.inr rfl, Or.inr rfl, Or.inr rfl, Or.inl rfl, Or.inr rfl, trivial⟩ (pkL_isRanked_b105 E l ih _ _ _ _ _ hf)
        · have hf := pd_iq hf hc
          refine pd_iconst dL_isRanked_31 (by decide) ?_
          obtain ⟨h1, h2⟩ := pd_inj hf
          subst h1 h2
          exact pd_zret dL_isRanked_32 rfl (by decide) (Nat.le_refl 0) (Nat.le_refl 0)
set_option maxHeartbeats 4000000 in
set_option maxRecDepth 100000 in
theorem pkL_isRanked (l : Launch) {al : Bool} {sh : pd_S} {n : Nat} {F : pd_F} {x0 : Int} {x1 : Int} {ρ : Int} {Fz : pd_F} (hf : pfL_isRanked sh n F x0 x1 = some (ρ, Fz)) : pd_C l yL_isRanked (Cond.code yL_isRanked cL_isRanked 6 (some .boolean) :: pd_gt) (pd_rm 6 0 0) al 0 0 sh F [pd_R x0, pd_I x1] (some (pd_I ρ)) sh Fz := by
  unfold pfL_isRanked at hf
  refine pd_body (L := [pd_R x0, pd_I x1, pd_N, pd_N, pd_N, pd_N]) (by decide +kernel) (Nat.le_of_ble_eq_true rfl) rfl (fun E => ?_)
  refine pd_iconst dL_isRanked_0 (by decide) ?_
  refine pd_istore_n (L' := [pd_R x0, pd_I x1, pd_I 0, pd_N, pd_N, pd_N]) dL_isRanked_1 rfl (by decide) rfl ?_
  refine pd_iconst dL_isRanked_2 (by decide) ?_
  refine pd_istore_n (L' := [pd_R x0, pd_I x1, pd_I 0, pd_I 0, pd_N, pd_N]) dL_isRanked_3 rfl (by decide) rfl ?_
  exact pd_weak (L' := [pd_R x0, pd_I x1, pd_I 0, pd_I 0, pd_N, pd_N]) ⟨Or.inr rfl, Or.inr rfl, Or.inr rfl, Or.inr rfl, Or.inr rfl, Or.inr rfl, trivial⟩ (pkL_isRanked_b4 E l n _ _ _ _ _ hf)
set_option maxHeartbeats 8000000 in
set_option maxRecDepth 10000000 in
theorem pkL_law_b123 (E : pd_E) (l : Launch) {Ls : Int} {xs : Int → Int} (hLs : Ls = (E.2.2.2 21 : Nat) ∧ Ls < 2147483648) (hxs : ∀ j : Int, 0 ≤ j → j < Ls → xs j = (Int32.ofNat (E.2.2.2 (22 + j.toNat))).toInt) {n : Nat} {c43 : pd_S → pd_F → Int → Int → Int → Option Int} {B43 D43 : Nat} (hL43 : ∀ (cells slots : Nat) (hc0 : cells + B43 ≤ 600086) (hs0 : slots + D43 ≤ 7301442) (sh : pd_S) (F : pd_F) (x1 : Int) (x2 : Int) (x4 : Int), c43 sh F x1 x2 x4 = some 1 → pd_V E l room_1 (RL, cL_law, 12, ret, "law") (pd_Ql E) true cells slots sh F 43 [pd_R (-60), pd_R x1, pd_J x2, pd_N, pd_I x4, pd_N, pd_N, pd_N, pd_N, pd_N, pd_N, pd_N] []) {c62 : pd_S → pd_F → Int → Int → Int → Int → Int → Int → Option Int} {B62 D62 : Nat} (hL62 : ∀ (cells slots : Nat) (hc0 : cells + B62 ≤ 600086) (hs0 : slots + D62 ≤ 7301442) (sh : pd_S) (F : pd_F) (x1 : Int) (x2 : Int) (x4 : Int) (x5 : Int) (x7 : Int) (x8 : Int), c62 sh F x1 x2 x4 x5 x7 x8 = some 1 → pd_V E l room_1 (RL, cL_law, 12, ret, "law") (pd_Ql E) true cells slots sh F 62 [pd_R (-60), pd_R x1, pd_J x2, pd_N, pd_I x4, pd_J x5, pd_N, pd_I x7, pd_I x8, pd_N, pd_N, pd_N] []) (hB62 : B43 ≤ B62) (hD62 : D43 ≤ D62) (cells slots : Nat) (hc0 : cells + 0 + B62 ≤ 600086) (hs0 : slots + 0 + D62 ≤ 7301442) (sh : pd_S) (F : pd_F) (x1 : Int) (x2 : Int) (x4 : Int) (x5 : Int) (x8 : Int) (x9 : Int) (t0 : Int) (t1 : Int) (hf : pfL_law_b123 Ls xs n c43 c62 sh F x1 x2 x4 x5 x8 x9 t0 t1 = some 1) : pd_V E l room_1 (RL, cL_law, 12, ret, "law") (pd_Ql E) true cells slots sh F 123 [pd_R (-60), pd_R x1, pd_J x2, pd_N, pd_I x4, pd_J x5, pd_N, pd_N, pd_I x8, pd_I x9, pd_N, pd_N] [pd_I t0, pd_I t1] := by
  unfold pfL_law_b123 at hf
  refine pd_iadd dL_law_123 ?_
  refine pd_topI (fun x7_124 ex7_124 => ?_)
  have hf := pd_lt hf ex7_124
  clear ex7_124
  refine pd_istore (L' := [pd_R (-60), pd_R x1, pd_J x2, pd_N, pd_I x4, pd_J x5, pd_N, pd_I x7_124, pd_I x8, pd_I x9, pd_N, pd_N]) dL_law_124 (by decide) rfl ?_
  refine pd_lload (i := 5) dL_law_126 rfl ?_
  refine pd_iload (i := 9) dL_law_128 rfl ?_
  refine pd_i2l dL_law_130 ?_
  refine pd_ladd dL_law_131 ?_
  refine pd_topJ (fun x5_132 ex5_132 => ?_)
  have hf := pd_lt hf ex5_132
  clear ex5_132
  refine pd_lstore (L' := [pd_R (-60), pd_R x1, pd_J x2, pd_N, pd_I x4, pd_J x5_132, pd_N, pd_I x7_124, pd_I x8, pd_I x9, pd_N, pd_N]) dL_law_132 (by decide) rfl ?_
  refine pd_iincN (L' := fun y => [pd_R (-60), pd_R x1, pd_J x2, pd_N, pd_I x4, pd_J x5_132, pd_N, pd_I x7_124, pd_I y, pd_I x9, pd_N, pd_N]) dL_law_134 rfl (by decide) (by decide) (fun _ => rfl) (fun x8_134 ex8_134 => ?_)
  have hf := pd_lt hf ex8_134
  clear ex8_134
  refine pd_goto (tgt := 62) dL_law_137 (by decide) ?_
  exact pd_weak (L' := [pd_R (-60), pd_R x1, pd_J x2, pd_N, pd_I x4, pd_J x5_132, pd_N, pd_I x7_124, pd_I x8_134, pd_N, pd_N, pd_N]) ⟨Or.inr rfl, Or.inr rfl, Or.inr rfl, Or.inr rfl, Or.inr rfl, Or.inr rfl, Or.inr rfl, Or.inr rfl, Or.inr rfl, Or.inl rfl, Or.inr rfl, Or.inr rfl, trivial⟩ (hL62 _ _ (by omega) (by omega) _ _ _ _ _ _ _ _ hf)
set_option maxHeartbeats 8000000 in
set_option maxRecDepth 10000000 in
theorem pkL_law_b105 (E : pd_E) (l : Launch) {Ls : Int} {xs : Int → Int} (hLs : Ls = (E.2.2.2 21 : Nat) ∧ Ls < 2147483648) (hxs : ∀ j : Int, 0 ≤ j → j < Ls → xs j = (Int32.ofNat (E.2.2.2 (22 + j.toNat))).toInt) {n : Nat} {c43 : pd_S → pd_F → Int → Int → Int → Option Int} {B43 D43 : Nat} (hL43 : ∀ (cells slots : Nat) (hc0 : cells + B43 ≤ 600086) (hs0 : slots + D43 ≤ 7301442) (sh : pd_S) (F : pd_F) (x1 : Int) (x2 : Int) (x4 : Int), c43 sh F x1 x2 x4 = some 1 → pd_V E l room_1 (RL, cL_law, 12, ret, "law") (pd_Ql E) true cells slots sh F 43 [pd_R (-60), pd_R x1, pd_J x2, pd_N, pd_I x4, pd_N, pd_N, pd_N, pd_N, pd_N, pd_N, pd_N] []) {c62 : pd_S → pd_F → Int → Int → Int → Int → Int → Int → Option Int} {B62 D62 : Nat} (hL62 : ∀ (cells slots : Nat) (hc0 : cells + B62 ≤ 600086) (hs0 : slots + D62 ≤ 7301442) (sh : pd_S) (F : pd_F) (x1 : Int) (x2 : Int) (x4 : Int) (x5 : Int) (x7 : Int) (x8 : Int), c62 sh F x1 x2 x4 x5 x7 x8 = some 1 → pd_V E l room_1 (RL, cL_law, 12, ret, "law") (pd_Ql E) true cells slots sh F 62 [pd_R (-60), pd_R x1, pd_J x2, pd_N, pd_I x4, pd_J x5, pd_N, pd_I x7, pd_I x8, pd_N, pd_N, pd_N] []) (hB62 : B43 ≤ B62) (hD62 : D43 ≤ D62) (cells slots : Nat) (hc0 : cells + 0 + B62 ≤ 600086) (hs0 : slots + 0 + D62 ≤ 7301442) (sh : pd_S) (F : pd_F) (x1 : Int) (x2 : Int) (x4 : Int) (x5 : Int) (x7 : Int) (x8 : Int) (x9 : Int) (hf : pfL_law_b105 Ls xs n c43 c62 sh F x1 x2 x4 x5 x7 x8 x9 = some 1) : pd_V E l room_1 (RL, cL_law, 12, ret, "law") (pd_Ql E) true cells slots sh F 105 [pd_R (-60), pd_R x1, pd_J x2, pd_N, pd_I x4, pd_J x5, pd_N, pd_I x7, pd_I x8, pd_I x9, pd_N, pd_N] [] := by
  unfold pfL_law_b105 at hf
  refine pd_iload (i := 7) dL_law_105 rfl ?_
  refine pd_aload_n (i := 1) dL_law_107 rfl rfl ?_
  refine pd_iload (i := 4) dL_law_108 rfl ?_
  refine pd_iload (i := 8) dL_law_110 rfl ?_
  obtain ⟨hg2, hf⟩ := pd_ig hf
  obtain ⟨r3, F1, hr, hf⟩ := pd_ob2 hf
  refine pd_callV (pkX11_ways l hr) dL_law_112 pq_1013 pq_1016 pq_1017 (show vwCl[11]? = some (yX11_ways.cls, TX11, 10) from rfl) hg2 (pd_okL (by decide) (by decide) (by omega) (by omega) pq_1014 pq_1015 (by decide) (show (parseMethodDescriptor yX11_ways.desc).map (fun d => d.parameters.length) = some 2 from by decide +kernel)) (Nat.le_of_ble_eq_true rfl) rfl ?_
  refine pd_if_le (tgt := 122) dL_law_115 (by decide) (fun hc => ?_) (fun hc => ?_)
  · have hf := pd_ip hf hc
    refine pd_iconst dL_law_122 (by decide) ?_
    exact pd_weak (L' := [pd_R (-60), pd_R x1, pd_J x2, pd_N, pd_I x4, pd_J x5, pd_N, pd_N, pd_I x8, pd_I x9, pd_N, pd_N]) ⟨Or.inr rfl, Or.inr rfl, Or.inr rfl, Or.inr rfl, Or.inr rfl, Or.inr rfl, Or.inr rfl, Or.inl rfl, Or.inr rfl, Or.inr rfl, Or.inr rfl, Or.inr rfl, trivial⟩ (pkL_law_b123 E l hLs hxs hL43 hL62 (by omega) (by omega) _ _ (by omega) (by omega) _ _ _ _ _ _ _ _ _ _ hf)
  · have hf := pd_in_ hf hc
    refine pd_iconst dL_law_118 (by decide) ?_
    refine pd_goto (tgt := 123) dL_law_119 (by decide) ?_
    exact pd_weak (L' := [pd_R (-60), pd_R x1, pd_J x2, pd_N, pd_I x4, pd_J x5, pd_N, pd_N, pd_I x8, pd_I x9, pd_N, pd_N]) ⟨Or.inr rfl, Or.inr rfl, Or.inr rfl, Or.inr rfl, Or.inr rfl, Or.inr rfl, Or.inr rfl, Or.inl rfl, Or.inr rfl, Or.inr rfl, Or.inr rfl, Or.inr rfl, trivial⟩ (pkL_law_b123 E l hLs hxs hL43 hL62 (by omega) (by omega) _ _ (by omega) (by omega) _ _ _ _ _ _ _ _ _ _ hf)
set_option maxHeartbeats 8000000 in
set_option maxRecDepth 10000000 in
theorem pkL_law_b164 (E : pd_E) (l : Launch) {Ls : Int} {xs : Int → Int} (hLs : Ls = (E.2.2.2 21 : Nat) ∧ Ls < 2147483648) (hxs : ∀ j : Int, 0 ≤ j → j < Ls → xs j = (Int32.ofNat (E.2.2.2 (22 + j.toNat))).toInt) {n : Nat} {c43 : pd_S → pd_F → Int → Int → Int → Option Int} {B43 D43 : Nat} (hL43 : ∀ (cells slots : Nat) (hc0 : cells + B43 ≤ 600086) (hs0 : slots + D43 ≤ 7301442) (sh : pd_S) (F : pd_F) (x1 : Int) (x2 : Int) (x4 : Int), c43 sh F x1 x2 x4 = some 1 → pd_V E l room_1 (RL, cL_law, 12, ret, "law") (pd_Ql E) true cells slots sh F 43 [pd_R (-60), pd_R x1, pd_J x2, pd_N, pd_I x4, pd_N, pd_N, pd_N, pd_N, pd_N, pd_N, pd_N] []) (cells slots : Nat) (hc0 : cells + 0 + B43 ≤ 600086) (hs0 : slots + 0 + D43 ≤ 7301442) (sh : pd_S) (F : pd_F) (x1 : Int) (x2 : Int) (x4 : Int) (x7 : Int) (t0 : Int) (t1 : Int) (hf : pfL_law_b164 Ls xs n c43 sh F x1 x2 x4 x7 t0 t1 = some 1) : pd_V E l room_1 (RL, cL_law, 12, ret, "law") (pd_Ql E) true cells slots sh F 164 [pd_R (-60), pd_R x1, pd_J x2, pd_N, pd_I x4, pd_N, pd_N, pd_I x7, pd_N, pd_N, pd_N, pd_N] [pd_I t0, pd_J t1] := by
  unfold pfL_law_b164 at hf
  refine pd_i2l dL_law_164 ?_
  refine pd_lcmp_ne (tgt := 181) dL_law_165 dL_law_166 (by decide) (fun hc => ?_) (fun hc => ?_)
  · have hf := pd_ip hf hc
    refine pd_iconst dL_law_181 (by decide) ?_
    exact absurd (pd_inj1 hf) (by decide)
  · have hf := pd_iq hf hc
    refine pd_aload_n (i := 1) dL_law_169 rfl rfl ?_
    refine pd_iload (i := 4) dL_law_170 rfl ?_
    refine pd_iconst dL_law_172 (by decide) ?_
    obtain ⟨hg5, hf⟩ := pd_ig hf
    obtain ⟨r6, F4, hr, hf⟩ := pd_ob2 hf
    refine pd_callV (pkX11_account l hr) dL_law_173 pq_1018 pq_1021 pq_1022 (show vwCl[11]? = some (yX11_account.cls, TX11, 10) from rfl) hg5 (pd_okL (by decide) (by decide) (by omega) (by omega) pq_1019 pq_1020 (by decide) (show (parseMethodDescriptor yX11_account.desc).map (fun d => d.parameters.length) = some 2 from by decide +kernel)) (Nat.le_of_ble_eq_true rfl) rfl ?_
    refine pd_iload (i := 7) dL_law_176 rfl ?_
    refine pd_icmp_eq (tgt := 183) dL_law_178 (by decide) (fun hc => ?_) (fun hc => ?_)
    · have hf := pd_ip hf hc
      refine pd_lload_n (i := 2) dL_law_183 rfl rfl ?_
      refine pd_aload_n (i := 1) dL_law_184 rfl rfl ?_
      refine pd_iload (i := 4) dL_law_185 rfl ?_
      refine pd_iconst dL_law_187 (by decide) ?_
      obtain ⟨r8, F7, hr, hf⟩ := pd_ob2 hf
      refine pd_callV (pkX11_account l hr) dL_law_188 pq_1018 pq_1021 pq_1022 (show vwCl[11]? = some (yX11_account.cls, TX11, 10) from rfl) hg5 (pd_okL (by decide) (by decide) (by omega) (by omega) pq_1019 pq_1020 (by decide) (show (parseMethodDescriptor yX11_account.desc).map (fun d => d.parameters.length) = some 2 from by decide +kernel)) (Nat.le_of_ble_eq_true rfl) rfl ?_
      refine pd_i2l dL_law_191 ?_
      refine pd_ladd dL_law_192 ?_
      refine pd_topJ (fun x2_193 ex2_193 => ?_)
      have hf := pd_lt hf ex2_193
      clear ex2_193
      refine pd_lstore_n (L' := [pd_R (-60), pd_R x1, pd_J x2_193, pd_N, pd_I x4, pd_N, pd_N, pd_I x7, pd_N, pd_N, pd_N, pd_N]) dL_law_193 rfl (by decide) rfl ?_
      refine pd_iincN (L' := fun y => [pd_R (-60), pd_R x1, pd_J x2_193, pd_N, pd_I y, pd_N, pd_N, pd_I x7, pd_N, pd_N, pd_N, pd_N]) dL_law_194 rfl (by decide) (by decide) (fun _ => rfl) (fun x4_194 ex4_194 => ?_)
      have hf := pd_lt hf ex4_194
      clear ex4_194
      refine pd_goto (tgt := 43) dL_law_197 (by decide) ?_
      exact pd_weak (L' := [pd_R (-60), pd_R x1, pd_J x2_193, pd_N, pd_I x4_194, pd_N, pd_N, pd_N, pd_N, pd_N, pd_N, pd_N]) ⟨Or.inr rfl, Or.inr rfl, Or.inr rfl, Or.inr rfl, Or.inr rfl, Or.inr rfl, Or.inr rfl, Or.inl rfl, Or.inr rfl, Or.inr rfl, Or.inr rfl, Or.inr rfl, trivial⟩ (hL43 _ _ (by omega) (by omega) _ _ _ _ _ hf)
    · have hf := pd_in_ hf hc
      refine pd_iconst dL_law_181 (by decide) ?_
      exact absurd (pd_inj1 hf) (by decide)
set_option maxHeartbeats 8000000 in
set_option maxRecDepth 10000000 in
theorem pkL_law_b140 (E : pd_E) (l : Launch) {Ls : Int} {xs : Int → Int} (hLs : Ls = (E.2.2.2 21 : Nat) ∧ Ls < 2147483648) (hxs : ∀ j : Int, 0 ≤ j → j < Ls → xs j = (Int32.ofNat (E.2.2.2 (22 + j.toNat))).toInt) {n : Nat} {c43 : pd_S → pd_F → Int → Int → Int → Option Int} {B43 D43 : Nat} (hL43 : ∀ (cells slots : Nat) (hc0 : cells + B43 ≤ 600086) (hs0 : slots + D43 ≤ 7301442) (sh : pd_S) (F : pd_F) (x1 : Int) (x2 : Int) (x4 : Int), c43 sh F x1 x2 x4 = some 1 → pd_V E l room_1 (RL, cL_law, 12, ret, "law") (pd_Ql E) true cells slots sh F 43 [pd_R (-60), pd_R x1, pd_J x2, pd_N, pd_I x4, pd_N, pd_N, pd_N, pd_N, pd_N, pd_N, pd_N] []) (cells slots : Nat) (hc0 : cells + 0 + B43 ≤ 600086) (hs0 : slots + 0 + D43 ≤ 7301442) (sh : pd_S) (F : pd_F) (x1 : Int) (x2 : Int) (x4 : Int) (x5 : Int) (x7 : Int) (hf : pfL_law_b140 Ls xs n c43 sh F x1 x2 x4 x5 x7 = some 1) : pd_V E l room_1 (RL, cL_law, 12, ret, "law") (pd_Ql E) true cells slots sh F 140 [pd_R (-60), pd_R x1, pd_J x2, pd_N, pd_I x4, pd_J x5, pd_N, pd_I x7, pd_N, pd_N, pd_N, pd_N] [] := by
  unfold pfL_law_b140 at hf
  refine pd_lload (i := 5) dL_law_140 rfl ?_
  refine pd_aload_n (i := 1) dL_law_142 rfl rfl ?_
  refine pd_iload (i := 4) dL_law_143 rfl ?_
  refine pd_iconst dL_law_145 (by decide) ?_
  obtain ⟨hg10, hf⟩ := pd_ig hf
  obtain ⟨r11, F9, hr, hf⟩ := pd_ob2 hf
  refine pd_callV (pkX11_account l hr) dL_law_146 pq_1018 pq_1021 pq_1022 (show vwCl[11]? = some (yX11_account.cls, TX11, 10) from rfl) hg10 (pd_okL (by decide) (by decide) (by omega) (by omega) pq_1019 pq_1020 (by decide) (show (parseMethodDescriptor yX11_account.desc).map (fun d => d.parameters.length) = some 2 from by decide +kernel)) (Nat.le_of_ble_eq_true rfl) rfl ?_
  refine pd_iconst dL_law_149 (by decide) ?_
  refine pd_icmp_ne (tgt := 157) dL_law_150 (by decide) (fun hc => ?_) (fun hc => ?_)
  · have hf := pd_ip hf hc
    refine pd_aload_n (i := 1) dL_law_157 rfl rfl ?_
    refine pd_iload (i := 4) dL_law_158 rfl ?_
    refine pd_iconst dL_law_160 (by decide) ?_
    obtain ⟨r13, F12, hr, hf⟩ := pd_ob2 hf
    refine pd_callV (pkX11_account l hr) dL_law_161 pq_1018 pq_1021 pq_1022 (show vwCl[11]? = some (yX11_account.cls, TX11, 10) from rfl) hg10 (pd_okL (by decide) (by decide) (by omega) (by omega) pq_1019 pq_1020 (by decide) (show (parseMethodDescriptor yX11_account.desc).map (fun d => d.parameters.length) = some 2 from by decide +kernel)) (Nat.le_of_ble_eq_true rfl) rfl ?_
    exact pd_weak (L' := [pd_R (-60), pd_R x1, pd_J x2, pd_N, pd_I x4, pd_N, pd_N, pd_I x7, pd_N, pd_N, pd_N, pd_N]) ⟨Or.inr rfl, Or.inr rfl, Or.inr rfl, Or.inr rfl, Or.inr rfl, Or.inl rfl, Or.inr rfl, Or.inr rfl, Or.inr rfl, Or.inr rfl, Or.inr rfl, Or.inr rfl, trivial⟩ (pkL_law_b164 E l hLs hxs hL43 _ _ (by omega) (by omega) _ _ _ _ _ _ _ _ hf)
  · have hf := pd_iq hf hc
    refine pd_iconst dL_law_153 (by decide) ?_
    refine pd_goto (tgt := 164) dL_law_154 (by decide) ?_
    exact pd_weak (L' := [pd_R (-60), pd_R x1, pd_J x2, pd_N, pd_I x4, pd_N, pd_N, pd_I x7, pd_N, pd_N, pd_N, pd_N]) ⟨Or.inr rfl, Or.inr rfl, Or.inr rfl, Or.inr rfl, Or.inr rfl, Or.inl rfl, Or.inr rfl, Or.inr rfl, Or.inr rfl, Or.inr rfl, Or.inr rfl, Or.inr rfl, trivial⟩ (pkL_law_b164 E l hLs hxs hL43 _ _ (by omega) (by omega) _ _ _ _ _ _ _ _ hf)
set_option maxHeartbeats 8000000 in
set_option maxRecDepth 10000000 in
theorem pkL_law_b62 (E : pd_E) (l : Launch) {Ls : Int} {xs : Int → Int} (hLs : Ls = (E.2.2.2 21 : Nat) ∧ Ls < 2147483648) (hxs : ∀ j : Int, 0 ≤ j → j < Ls → xs j = (Int32.ofNat (E.2.2.2 (22 + j.toNat))).toInt) {n : Nat} {c43 : pd_S → pd_F → Int → Int → Int → Option Int} {B43 D43 : Nat} (hL43 : ∀ (cells slots : Nat) (hc0 : cells + B43 ≤ 600086) (hs0 : slots + D43 ≤ 7301442) (sh : pd_S) (F : pd_F) (x1 : Int) (x2 : Int) (x4 : Int), c43 sh F x1 x2 x4 = some 1 → pd_V E l room_1 (RL, cL_law, 12, ret, "law") (pd_Ql E) true cells slots sh F 43 [pd_R (-60), pd_R x1, pd_J x2, pd_N, pd_I x4, pd_N, pd_N, pd_N, pd_N, pd_N, pd_N, pd_N] []) : ∀ (k cells slots : Nat) (hc0 : cells + (k * 0 + 0) + B43 ≤ 600086) (hs0 : slots + (k * 0 + 0) + D43 ≤ 7301442) (sh : pd_S) (F : pd_F) (x1 : Int) (x2 : Int) (x4 : Int) (x5 : Int) (x7 : Int) (x8 : Int), pfL_law_b62 Ls xs n c43 k sh F x1 x2 x4 x5 x7 x8 = some 1 → pd_V E l room_1 (RL, cL_law, 12, ret, "law") (pd_Ql E) true cells slots sh F 62 [pd_R (-60), pd_R x1, pd_J x2, pd_N, pd_I x4, pd_J x5, pd_N, pd_I x7, pd_I x8, pd_N, pd_N, pd_N] [] := by
  intro k
  induction k with
  | zero => intro cells slots _ _ sh F x1 x2 x4 x5 x7 x8 hf; exact absurd hf (by unfold pfL_law_b62; exact fun h => nomatch h)
  | succ k ih =>
    intro cells slots hc0 hs0 sh F x1 x2 x4 x5 x7 x8 hf
    unfold pfL_law_b62 at hf
    refine pd_iload (i := 8) dL_law_62 rfl ?_
    refine pd_aload_n (i := 1) dL_law_64 rfl rfl ?_
    refine pd_iconst dL_law_65 (by decide) ?_
    obtain ⟨hg15, hf⟩ := pd_ig hf
    obtain ⟨r16, F14, hr, hf⟩ := pd_ob2 hf
    refine pd_callV (pkX11_count l hr) dL_law_66 pq_1023 pq_1026 pq_1027 (show vwCl[11]? = some (yX11_count.cls, TX11, 10) from rfl) hg15 (pd_okL (by decide) (by decide) (by omega) (by omega) pq_1024 pq_1025 (by decide) (show (parseMethodDescriptor yX11_count.desc).map (fun d => d.parameters.length) = some 1 from by decide +kernel)) (Nat.le_of_ble_eq_true rfl) rfl ?_
    refine pd_icmp_ge (tgt := 140) dL_law_69 (by decide) (fun hc => ?_) (fun hc => ?_)
    · have hf := pd_ip hf hc
      exact pd_weak (L' := [pd_R (-60), pd_R x1, pd_J x2, pd_N, pd_I x4, pd_J x5, pd_N, pd_I x7, pd_N, pd_N, pd_N, pd_N]) ⟨Or.inr rfl, Or.inr rfl, Or.inr rfl, Or.inr rfl, Or.inr rfl, Or.inr rfl, Or.inr rfl, Or.inr rfl, Or.inl rfl, Or.inr rfl, Or.inr rfl, Or.inr rfl, trivial⟩ (pkL_law_b140 E l hLs hxs hL43 _ _ (by omega) (by omega) _ _ _ _ _ _ _ hf)
    · have hf := pd_in_ hf hc
      refine pd_aload_n (i := 1) dL_law_72 rfl rfl ?_
      refine pd_iload (i := 4) dL_law_73 rfl ?_
      refine pd_iload (i := 8) dL_law_75 rfl ?_
      obtain ⟨r18, F17, hr, hf⟩ := pd_ob2 hf
      refine pd_callV (pkX11_share l hr) dL_law_77 pq_1028 pq_1031 pq_1032 (show vwCl[11]? = some (yX11_share.cls, TX11, 10) from rfl) hg15 (pd_okL (by decide) (by decide) (by omega) (by omega) pq_1029 pq_1030 (by decide) (show (parseMethodDescriptor yX11_share.desc).map (fun d => d.parameters.length) = some 2 from by decide +kernel)) (Nat.le_of_ble_eq_true rfl) rfl ?_
      refine pd_istore (L' := [pd_R (-60), pd_R x1, pd_J x2, pd_N, pd_I x4, pd_J x5, pd_N, pd_I x7, pd_I x8, pd_I r18, pd_N, pd_N]) dL_law_80 (by decide) rfl ?_
      refine pd_iload (i := 9) dL_law_82 rfl ?_
      refine pd_if_lt (tgt := 103) dL_law_84 (by decide) (fun hc => ?_) (fun hc => ?_)
      · have hf := pd_ip hf hc
        refine pd_iconst dL_law_103 (by decide) ?_
        exact absurd (pd_inj1 hf) (by decide)
      · have hf := pd_in_ hf hc
        refine pd_iload (i := 9) dL_law_87 rfl ?_
        refine pd_if_le (tgt := 105) dL_law_89 (by decide) (fun hc => ?_) (fun hc => ?_)
        · have hf := pd_ip hf hc
          exact pd_weak (L' := [pd_R (-60), pd_R x1, pd_J x2, pd_N, pd_I x4, pd_J x5, pd_N, pd_I x7, pd_I x8, pd_I r18, pd_N, pd_N]) ⟨Or.inr rfl, Or.inr rfl, Or.inr rfl, Or.inr rfl, Or.inr rfl, Or.inr rfl, Or.inr rfl, Or.inr rfl, Or.inr rfl, Or.inr rfl, Or.inr rfl, Or.inr rfl, trivial⟩ (pkL_law_b105 E l hLs hxs hL43 ih (by omega) (by omega) _ _ (by omega) (by omega) _ _ _ _ _ _ _ _ _ hf)
        · have hf := pd_in_ hf hc
          refine pd_aload_n (i := 1) dL_law_92 rfl rfl ?_
          refine pd_iload (i := 4) dL_law_93 rfl ?_
          refine pd_iload (i := 8) dL_law_95 rfl ?_
          obtain ⟨r20, F19, hr, hf⟩ := pd_ob2 hf
          refine pd_callV (pkX11_ways l hr) dL_law_97 pq_1013 pq_1016 pq_1017 (show vwCl[11]? = some (yX11_ways.cls, TX11, 10) from rfl) hg15 (pd_okL (by decide) (by decide) (by omega) (by omega) pq_1014 pq_1015 (by decide) (show (parseMethodDescriptor yX11_ways.desc).map (fun d => d.parameters.length) = some 2 from by decide +kernel)) (Nat.le_of_ble_eq_true rfl) rfl ?_
          refine pd_if_ne (tgt := 105) dL_law_100 (by decide) (fun hc => ?_) (fun hc => ?_)
          · have hf := pd_ip hf hc
            exact pd_weak (L' := [pd_R (-60), pd_R x1, pd_J x2, pd_N, pd_I x4, pd_J x5, pd_N, pd_I x7, pd_I x8, pd_I r18, pd_N, pd_N]) ⟨Or.inr rfl, Or.inr rfl, Or.inr rfl, Or.inr rfl, Or.inr rfl, Or.inr rfl, Or.inr rfl, Or.inr rfl, Or.inr rfl, Or.inr rfl, Or.inr rfl, Or.inr rfl, trivial⟩ (pkL_law_b105 E l hLs hxs hL43 ih (by omega) (by omega) _ _ (by omega) (by omega) _ _ _ _ _ _ _ _ _ hf)
          · have hf := pd_iq hf hc
            refine pd_iconst dL_law_103 (by decide) ?_
            exact absurd (pd_inj1 hf) (by decide)
set_option maxHeartbeats 8000000 in
set_option maxRecDepth 10000000 in
theorem pkL_law_b299 (E : pd_E) (l : Launch) {Ls : Int} {xs : Int → Int} (hLs : Ls = (E.2.2.2 21 : Nat) ∧ Ls < 2147483648) (hxs : ∀ j : Int, 0 ≤ j → j < Ls → xs j = (Int32.ofNat (E.2.2.2 (22 + j.toNat))).toInt) {n : Nat} {c237 : pd_S → pd_F → Int → Int → Int → Int → Int → Option Int} {B237 D237 : Nat} (hL237 : ∀ (cells slots : Nat) (hc0 : cells + B237 ≤ 600086) (hs0 : slots + D237 ≤ 7301442) (sh : pd_S) (F : pd_F) (x1 : Int) (x4 : Int) (x5 : Int) (x6 : Int) (x7 : Int), c237 sh F x1 x4 x5 x6 x7 = some 1 → pd_V E l room_1 (RL, cL_law, 12, ret, "law") (pd_Ql E) true cells slots sh F 237 [pd_R (-60), pd_R x1, pd_N, pd_N, pd_I x4, pd_R x5, pd_I x6, pd_I x7, pd_N, pd_N, pd_N, pd_N] []) {c250 : pd_S → pd_F → Int → Int → Int → Int → Int → Int → Int → Option Int} {B250 D250 : Nat} (hL250 : ∀ (cells slots : Nat) (hc0 : cells + B250 ≤ 600086) (hs0 : slots + D250 ≤ 7301442) (sh : pd_S) (F : pd_F) (x1 : Int) (x4 : Int) (x5 : Int) (x6 : Int) (x7 : Int) (x8 : Int) (x10 : Int), c250 sh F x1 x4 x5 x6 x7 x8 x10 = some 1 → pd_V E l room_1 (RL, cL_law, 12, ret, "law") (pd_Ql E) true cells slots sh F 250 [pd_R (-60), pd_R x1, pd_N, pd_N, pd_I x4, pd_R x5, pd_I x6, pd_I x7, pd_J x8, pd_N, pd_I x10, pd_N] []) {c263 : pd_S → pd_F → Int → Int → Int → Int → Int → Int → Int → Int → Option Int} {B263 D263 : Nat} (hL263 : ∀ (cells slots : Nat) (hc0 : cells + B263 ≤ 600086) (hs0 : slots + D263 ≤ 7301442) (sh : pd_S) (F : pd_F) (x1 : Int) (x4 : Int) (x5 : Int) (x6 : Int) (x7 : Int) (x8 : Int) (x10 : Int) (x11 : Int), c263 sh F x1 x4 x5 x6 x7 x8 x10 x11 = some 1 → pd_V E l room_1 (RL, cL_law, 12, ret, "law") (pd_Ql E) true cells slots sh F 263 [pd_R (-60), pd_R x1, pd_N, pd_N, pd_I x4, pd_R x5, pd_I x6, pd_I x7, pd_J x8, pd_N, pd_I x10, pd_I x11] []) (hB250 : B237 ≤ B250) (hD250 : D237 ≤ D250) (hB263 : B250 ≤ B263) (hD263 : D250 ≤ D263) (cells slots : Nat) (hc0 : cells + 0 + B263 ≤ 600086) (hs0 : slots + 0 + D263 ≤ 7301442) (sh : pd_S) (F : pd_F) (x1 : Int) (x4 : Int) (x5 : Int) (x6 : Int) (x7 : Int) (x8 : Int) (x10 : Int) (x11 : Int) (hf : pfL_law_b299 Ls xs n c237 c250 c263 sh F x1 x4 x5 x6 x7 x8 x10 x11 = some 1) : pd_V E l room_1 (RL, cL_law, 12, ret, "law") (pd_Ql E) true cells slots sh F 299 [pd_R (-60), pd_R x1, pd_N, pd_N, pd_I x4, pd_R x5, pd_I x6, pd_I x7, pd_J x8, pd_N, pd_I x10, pd_I x11] [] := by
  unfold pfL_law_b299 at hf
  refine pd_iincN (L' := fun y => [pd_R (-60), pd_R x1, pd_N, pd_N, pd_I x4, pd_R x5, pd_I x6, pd_I x7, pd_J x8, pd_N, pd_I x10, pd_I y]) dL_law_299 rfl (by decide) (by decide) (fun _ => rfl) (fun x11_299 ex11_299 => ?_)
  have hf := pd_lt hf ex11_299
  clear ex11_299
  refine pd_goto (tgt := 263) dL_law_302 (by decide) ?_
  exact pd_weak (L' := [pd_R (-60), pd_R x1, pd_N, pd_N, pd_I x4, pd_R x5, pd_I x6, pd_I x7, pd_J x8, pd_N, pd_I x10, pd_I x11_299]) ⟨Or.inr rfl, Or.inr rfl, Or.inr rfl, Or.inr rfl, Or.inr rfl, Or.inr rfl, Or.inr rfl, Or.inr rfl, Or.inr rfl, Or.inr rfl, Or.inr rfl, Or.inr rfl, trivial⟩ (hL263 _ _ (by omega) (by omega) _ _ _ _ _ _ _ _ _ _ hf)
set_option maxHeartbeats 8000000 in
set_option maxRecDepth 10000000 in
theorem pkL_law_b305 (E : pd_E) (l : Launch) {Ls : Int} {xs : Int → Int} (hLs : Ls = (E.2.2.2 21 : Nat) ∧ Ls < 2147483648) (hxs : ∀ j : Int, 0 ≤ j → j < Ls → xs j = (Int32.ofNat (E.2.2.2 (22 + j.toNat))).toInt) {n : Nat} {c237 : pd_S → pd_F → Int → Int → Int → Int → Int → Option Int} {B237 D237 : Nat} (hL237 : ∀ (cells slots : Nat) (hc0 : cells + B237 ≤ 600086) (hs0 : slots + D237 ≤ 7301442) (sh : pd_S) (F : pd_F) (x1 : Int) (x4 : Int) (x5 : Int) (x6 : Int) (x7 : Int), c237 sh F x1 x4 x5 x6 x7 = some 1 → pd_V E l room_1 (RL, cL_law, 12, ret, "law") (pd_Ql E) true cells slots sh F 237 [pd_R (-60), pd_R x1, pd_N, pd_N, pd_I x4, pd_R x5, pd_I x6, pd_I x7, pd_N, pd_N, pd_N, pd_N] []) {c250 : pd_S → pd_F → Int → Int → Int → Int → Int → Int → Int → Option Int} {B250 D250 : Nat} (hL250 : ∀ (cells slots : Nat) (hc0 : cells + B250 ≤ 600086) (hs0 : slots + D250 ≤ 7301442) (sh : pd_S) (F : pd_F) (x1 : Int) (x4 : Int) (x5 : Int) (x6 : Int) (x7 : Int) (x8 : Int) (x10 : Int), c250 sh F x1 x4 x5 x6 x7 x8 x10 = some 1 → pd_V E l room_1 (RL, cL_law, 12, ret, "law") (pd_Ql E) true cells slots sh F 250 [pd_R (-60), pd_R x1, pd_N, pd_N, pd_I x4, pd_R x5, pd_I x6, pd_I x7, pd_J x8, pd_N, pd_I x10, pd_N] []) (hB250 : B237 ≤ B250) (hD250 : D237 ≤ D250) (cells slots : Nat) (hc0 : cells + 0 + B250 ≤ 600086) (hs0 : slots + 0 + D250 ≤ 7301442) (sh : pd_S) (F : pd_F) (x1 : Int) (x4 : Int) (x5 : Int) (x6 : Int) (x7 : Int) (x8 : Int) (x10 : Int) (hf : pfL_law_b305 Ls xs n c237 c250 sh F x1 x4 x5 x6 x7 x8 x10 = some 1) : pd_V E l room_1 (RL, cL_law, 12, ret, "law") (pd_Ql E) true cells slots sh F 305 [pd_R (-60), pd_R x1, pd_N, pd_N, pd_I x4, pd_R x5, pd_I x6, pd_I x7, pd_J x8, pd_N, pd_I x10, pd_N] [] := by
  unfold pfL_law_b305 at hf
  refine pd_iincN (L' := fun y => [pd_R (-60), pd_R x1, pd_N, pd_N, pd_I x4, pd_R x5, pd_I x6, pd_I x7, pd_J x8, pd_N, pd_I y, pd_N]) dL_law_305 rfl (by decide) (by decide) (fun _ => rfl) (fun x10_305 ex10_305 => ?_)
  have hf := pd_lt hf ex10_305
  clear ex10_305
  refine pd_goto (tgt := 250) dL_law_308 (by decide) ?_
  exact pd_weak (L' := [pd_R (-60), pd_R x1, pd_N, pd_N, pd_I x4, pd_R x5, pd_I x6, pd_I x7, pd_J x8, pd_N, pd_I x10_305, pd_N]) ⟨Or.inr rfl, Or.inr rfl, Or.inr rfl, Or.inr rfl, Or.inr rfl, Or.inr rfl, Or.inr rfl, Or.inr rfl, Or.inr rfl, Or.inr rfl, Or.inr rfl, Or.inr rfl, trivial⟩ (hL250 _ _ (by omega) (by omega) _ _ _ _ _ _ _ _ _ hf)
set_option maxHeartbeats 8000000 in
set_option maxRecDepth 10000000 in
theorem pkL_law_b263 (E : pd_E) (l : Launch) {Ls : Int} {xs : Int → Int} (hLs : Ls = (E.2.2.2 21 : Nat) ∧ Ls < 2147483648) (hxs : ∀ j : Int, 0 ≤ j → j < Ls → xs j = (Int32.ofNat (E.2.2.2 (22 + j.toNat))).toInt) {n : Nat} {c237 : pd_S → pd_F → Int → Int → Int → Int → Int → Option Int} {B237 D237 : Nat} (hL237 : ∀ (cells slots : Nat) (hc0 : cells + B237 ≤ 600086) (hs0 : slots + D237 ≤ 7301442) (sh : pd_S) (F : pd_F) (x1 : Int) (x4 : Int) (x5 : Int) (x6 : Int) (x7 : Int), c237 sh F x1 x4 x5 x6 x7 = some 1 → pd_V E l room_1 (RL, cL_law, 12, ret, "law") (pd_Ql E) true cells slots sh F 237 [pd_R (-60), pd_R x1, pd_N, pd_N, pd_I x4, pd_R x5, pd_I x6, pd_I x7, pd_N, pd_N, pd_N, pd_N] []) {c250 : pd_S → pd_F → Int → Int → Int → Int → Int → Int → Int → Option Int} {B250 D250 : Nat} (hL250 : ∀ (cells slots : Nat) (hc0 : cells + B250 ≤ 600086) (hs0 : slots + D250 ≤ 7301442) (sh : pd_S) (F : pd_F) (x1 : Int) (x4 : Int) (x5 : Int) (x6 : Int) (x7 : Int) (x8 : Int) (x10 : Int), c250 sh F x1 x4 x5 x6 x7 x8 x10 = some 1 → pd_V E l room_1 (RL, cL_law, 12, ret, "law") (pd_Ql E) true cells slots sh F 250 [pd_R (-60), pd_R x1, pd_N, pd_N, pd_I x4, pd_R x5, pd_I x6, pd_I x7, pd_J x8, pd_N, pd_I x10, pd_N] []) (hB250 : B237 ≤ B250) (hD250 : D237 ≤ D250) : ∀ (k cells slots : Nat) (hc0 : cells + (k * 0 + 0) + B250 ≤ 600086) (hs0 : slots + (k * 0 + 0) + D250 ≤ 7301442) (sh : pd_S) (F : pd_F) (x1 : Int) (x4 : Int) (x5 : Int) (x6 : Int) (x7 : Int) (x8 : Int) (x10 : Int) (x11 : Int), pfL_law_b263 Ls xs n c237 c250 k sh F x1 x4 x5 x6 x7 x8 x10 x11 = some 1 → pd_V E l room_1 (RL, cL_law, 12, ret, "law") (pd_Ql E) true cells slots sh F 263 [pd_R (-60), pd_R x1, pd_N, pd_N, pd_I x4, pd_R x5, pd_I x6, pd_I x7, pd_J x8, pd_N, pd_I x10, pd_I x11] [] := by
  intro k
  induction k with
  | zero => intro cells slots _ _ sh F x1 x4 x5 x6 x7 x8 x10 x11 hf; exact absurd hf (by unfold pfL_law_b263; exact fun h => nomatch h)
  | succ k ih =>
    intro cells slots hc0 hs0 sh F x1 x4 x5 x6 x7 x8 x10 x11 hf
    unfold pfL_law_b263 at hf
    refine pd_iload (i := 11) dL_law_263 rfl ?_
    refine pd_aload_n (i := 1) dL_law_265 rfl rfl ?_
    refine pd_iconst dL_law_266 (by decide) ?_
    obtain ⟨hg22, hf⟩ := pd_ig hf
    obtain ⟨r23, F21, hr, hf⟩ := pd_ob2 hf
    refine pd_callV (pkX11_count l hr) dL_law_267 pq_1023 pq_1026 pq_1027 (show vwCl[11]? = some (yX11_count.cls, TX11, 10) from rfl) hg22 (pd_okL (by decide) (by decide) (by omega) (by omega) pq_1024 pq_1025 (by decide) (show (parseMethodDescriptor yX11_count.desc).map (fun d => d.parameters.length) = some 1 from by decide +kernel)) (Nat.le_of_ble_eq_true rfl) rfl ?_
    refine pd_icmp_ge (tgt := 305) dL_law_270 (by decide) (fun hc => ?_) (fun hc => ?_)
    · have hf := pd_ip hf hc
      exact pd_weak (L' := [pd_R (-60), pd_R x1, pd_N, pd_N, pd_I x4, pd_R x5, pd_I x6, pd_I x7, pd_J x8, pd_N, pd_I x10, pd_N]) ⟨Or.inr rfl, Or.inr rfl, Or.inr rfl, Or.inr rfl, Or.inr rfl, Or.inr rfl, Or.inr rfl, Or.inr rfl, Or.inr rfl, Or.inr rfl, Or.inr rfl, Or.inl rfl, trivial⟩ (pkL_law_b305 E l hLs hxs hL237 hL250 (by omega) (by omega) _ _ (by omega) (by omega) _ _ _ _ _ _ _ _ _ hf)
    · have hf := pd_in_ hf hc
      refine pd_aload_n (i := 1) dL_law_273 rfl rfl ?_
      refine pd_iload (i := 10) dL_law_274 rfl ?_
      refine pd_iconst dL_law_276 (by decide) ?_
      obtain ⟨r25, F24, hr, hf⟩ := pd_ob2 hf
      refine pd_callV (pkX11_person l hr) dL_law_277 pq_960 pq_963 pq_964 (show vwCl[11]? = some (yX11_person.cls, TX11, 10) from rfl) hg22 (pd_okL (by decide) (by decide) (by omega) (by omega) pq_961 pq_962 (by decide) (show (parseMethodDescriptor yX11_person.desc).map (fun d => d.parameters.length) = some 2 from by decide +kernel)) (Nat.le_of_ble_eq_true rfl) rfl ?_
      refine pd_iload (i := 7) dL_law_280 rfl ?_
      refine pd_icmp_ne (tgt := 299) dL_law_282 (by decide) (fun hc => ?_) (fun hc => ?_)
      · have hf := pd_ip hf hc
        exact pd_weak (L' := [pd_R (-60), pd_R x1, pd_N, pd_N, pd_I x4, pd_R x5, pd_I x6, pd_I x7, pd_J x8, pd_N, pd_I x10, pd_I x11]) ⟨Or.inr rfl, Or.inr rfl, Or.inr rfl, Or.inr rfl, Or.inr rfl, Or.inr rfl, Or.inr rfl, Or.inr rfl, Or.inr rfl, Or.inr rfl, Or.inr rfl, Or.inr rfl, trivial⟩ (pkL_law_b299 E l hLs hxs hL237 hL250 ih (by omega) (by omega) (by omega) (by omega) _ _ (by omega) (by omega) _ _ _ _ _ _ _ _ _ _ hf)
      · have hf := pd_iq hf hc
        refine pd_lload (i := 8) dL_law_285 rfl ?_
        refine pd_aload_n (i := 1) dL_law_287 rfl rfl ?_
        refine pd_iload (i := 11) dL_law_288 rfl ?_
        refine pd_iload (i := 10) dL_law_290 rfl ?_
        obtain ⟨r27, F26, hr, hf⟩ := pd_ob2 hf
        refine pd_callV (pkX11_share l hr) dL_law_292 pq_1028 pq_1031 pq_1032 (show vwCl[11]? = some (yX11_share.cls, TX11, 10) from rfl) hg22 (pd_okL (by decide) (by decide) (by omega) (by omega) pq_1029 pq_1030 (by decide) (show (parseMethodDescriptor yX11_share.desc).map (fun d => d.parameters.length) = some 2 from by decide +kernel)) (Nat.le_of_ble_eq_true rfl) rfl ?_
        refine pd_i2l dL_law_295 ?_
        refine pd_ladd dL_law_296 ?_
        refine pd_topJ (fun x8_297 ex8_297 => ?_)
        have hf := pd_lt hf ex8_297
        clear ex8_297
        refine pd_lstore (L' := [pd_R (-60), pd_R x1, pd_N, pd_N, pd_I x4, pd_R x5, pd_I x6, pd_I x7, pd_J x8_297, pd_N, pd_I x10, pd_I x11]) dL_law_297 (by decide) rfl ?_
        exact pd_weak (L' := [pd_R (-60), pd_R x1, pd_N, pd_N, pd_I x4, pd_R x5, pd_I x6, pd_I x7, pd_J x8_297, pd_N, pd_I x10, pd_I x11]) ⟨Or.inr rfl, Or.inr rfl, Or.inr rfl, Or.inr rfl, Or.inr rfl, Or.inr rfl, Or.inr rfl, Or.inr rfl, Or.inr rfl, Or.inr rfl, Or.inr rfl, Or.inr rfl, trivial⟩ (pkL_law_b299 E l hLs hxs hL237 hL250 ih (by omega) (by omega) (by omega) (by omega) _ _ (by omega) (by omega) _ _ _ _ _ _ _ _ _ _ hf)
set_option maxHeartbeats 8000000 in
set_option maxRecDepth 10000000 in
theorem pkL_law_b311 (E : pd_E) (l : Launch) {Ls : Int} {xs : Int → Int} (hLs : Ls = (E.2.2.2 21 : Nat) ∧ Ls < 2147483648) (hxs : ∀ j : Int, 0 ≤ j → j < Ls → xs j = (Int32.ofNat (E.2.2.2 (22 + j.toNat))).toInt) {n : Nat} {c237 : pd_S → pd_F → Int → Int → Int → Int → Int → Option Int} {B237 D237 : Nat} (hL237 : ∀ (cells slots : Nat) (hc0 : cells + B237 ≤ 600086) (hs0 : slots + D237 ≤ 7301442) (sh : pd_S) (F : pd_F) (x1 : Int) (x4 : Int) (x5 : Int) (x6 : Int) (x7 : Int), c237 sh F x1 x4 x5 x6 x7 = some 1 → pd_V E l room_1 (RL, cL_law, 12, ret, "law") (pd_Ql E) true cells slots sh F 237 [pd_R (-60), pd_R x1, pd_N, pd_N, pd_I x4, pd_R x5, pd_I x6, pd_I x7, pd_N, pd_N, pd_N, pd_N] []) (cells slots : Nat) (hc0 : cells + 0 + B237 ≤ 600086) (hs0 : slots + 0 + D237 ≤ 7301442) (sh : pd_S) (F : pd_F) (x1 : Int) (x4 : Int) (x5 : Int) (x6 : Int) (x7 : Int) (x8 : Int) (hf : pfL_law_b311 Ls xs n c237 sh F x1 x4 x5 x6 x7 x8 = some 1) : pd_V E l room_1 (RL, cL_law, 12, ret, "law") (pd_Ql E) true cells slots sh F 311 [pd_R (-60), pd_R x1, pd_N, pd_N, pd_I x4, pd_R x5, pd_I x6, pd_I x7, pd_J x8, pd_N, pd_N, pd_N] [] := by
  unfold pfL_law_b311 at hf
  refine pd_aload_n (i := 1) dL_law_311 rfl rfl ?_
  refine pd_iload (i := 7) dL_law_312 rfl ?_
  refine pd_iconst dL_law_314 (by decide) ?_
  obtain ⟨hg29, hf⟩ := pd_ig hf
  obtain ⟨r30, F28, hr, hf⟩ := pd_ob2 hf
  refine pd_callV (pkX11_view l hr) dL_law_315 pq_988 pq_991 pq_992 (show vwCl[11]? = some (yX11_view.cls, TX11, 10) from rfl) hg29 (pd_okL (by decide) (by decide) (by omega) (by omega) pq_989 pq_990 (by decide) (show (parseMethodDescriptor yX11_view.desc).map (fun d => d.parameters.length) = some 2 from by decide +kernel)) (Nat.le_of_ble_eq_true rfl) rfl ?_
  refine pd_lload (i := 8) dL_law_318 rfl ?_
  refine pd_lcmp_ne (tgt := 368) dL_law_320 dL_law_321 (by decide) (fun hc => ?_) (fun hc => ?_)
  · have hf := pd_ip hf hc
    refine pd_iconst dL_law_368 (by decide) ?_
    exact absurd (pd_inj1 hf) (by decide)
  · have hf := pd_iq hf hc
    refine pd_aload_n (i := 1) dL_law_324 rfl rfl ?_
    refine pd_iload (i := 7) dL_law_325 rfl ?_
    refine pd_iconst dL_law_327 (by decide) ?_
    obtain ⟨r32, F31, hr, hf⟩ := pd_ob2 hf
    refine pd_callV (pkX11_view l hr) dL_law_328 pq_988 pq_991 pq_992 (show vwCl[11]? = some (yX11_view.cls, TX11, 10) from rfl) hg29 (pd_okL (by decide) (by decide) (by omega) (by omega) pq_989 pq_990 (by decide) (show (parseMethodDescriptor yX11_view.desc).map (fun d => d.parameters.length) = some 2 from by decide +kernel)) (Nat.le_of_ble_eq_true rfl) rfl ?_
    refine pd_lload (i := 8) dL_law_331 rfl ?_
    refine pd_aload_n (i := 1) dL_law_333 rfl rfl ?_
    refine pd_iload (i := 7) dL_law_334 rfl ?_
    refine pd_iconst dL_law_336 (by decide) ?_
    obtain ⟨r34, F33, hr, hf⟩ := pd_ob2 hf
    refine pd_callV (pkX11_view l hr) dL_law_337 pq_988 pq_991 pq_992 (show vwCl[11]? = some (yX11_view.cls, TX11, 10) from rfl) hg29 (pd_okL (by decide) (by decide) (by omega) (by omega) pq_989 pq_990 (by decide) (show (parseMethodDescriptor yX11_view.desc).map (fun d => d.parameters.length) = some 2 from by decide +kernel)) (Nat.le_of_ble_eq_true rfl) rfl ?_
    refine pd_mminJ dL_law_340 pq_993 pq_537 pq_40 pq_538 ⟨by show 1 ≤ 2048; omega, by show 64 ≤ 84000; omega, by show _ ≤ 600086; omega, by show _ ≤ 7301442; omega⟩ (Nat.le_of_ble_eq_true rfl) ?_
    refine pd_lcmp_ne (tgt := 368) dL_law_343 dL_law_344 (by decide) (fun hc => ?_) (fun hc => ?_)
    · have hf := pd_ip hf hc
      refine pd_iconst dL_law_368 (by decide) ?_
      exact absurd (pd_inj1 hf) (by decide)
    · have hf := pd_iq hf hc
      refine pd_aload_n (i := 1) dL_law_347 rfl rfl ?_
      refine pd_iload (i := 7) dL_law_348 rfl ?_
      refine pd_iconst dL_law_350 (by decide) ?_
      obtain ⟨r36, F35, hr, hf⟩ := pd_ob2 hf
      refine pd_callV (pkX11_view l hr) dL_law_351 pq_988 pq_991 pq_992 (show vwCl[11]? = some (yX11_view.cls, TX11, 10) from rfl) hg29 (pd_okL (by decide) (by decide) (by omega) (by omega) pq_989 pq_990 (by decide) (show (parseMethodDescriptor yX11_view.desc).map (fun d => d.parameters.length) = some 2 from by decide +kernel)) (Nat.le_of_ble_eq_true rfl) rfl ?_
      refine pd_lload (i := 8) dL_law_354 rfl ?_
      refine pd_aload_n (i := 1) dL_law_356 rfl rfl ?_
      refine pd_iload (i := 7) dL_law_357 rfl ?_
      refine pd_iconst dL_law_359 (by decide) ?_
      obtain ⟨r38, F37, hr, hf⟩ := pd_ob2 hf
      refine pd_callV (pkX11_view l hr) dL_law_360 pq_988 pq_991 pq_992 (show vwCl[11]? = some (yX11_view.cls, TX11, 10) from rfl) hg29 (pd_okL (by decide) (by decide) (by omega) (by omega) pq_989 pq_990 (by decide) (show (parseMethodDescriptor yX11_view.desc).map (fun d => d.parameters.length) = some 2 from by decide +kernel)) (Nat.le_of_ble_eq_true rfl) rfl ?_
      refine pd_lsub dL_law_363 ?_
      refine pd_lcmp_eq (tgt := 370) dL_law_364 dL_law_365 (by decide) (fun hc => ?_) (fun hc => ?_)
      · have hf := pd_ip hf hc
        refine pd_aload_n (i := 1) dL_law_370 rfl rfl ?_
        refine pd_iload (i := 7) dL_law_371 rfl ?_
        refine pd_iconst dL_law_373 (by decide) ?_
        obtain ⟨r40, F39, hr, hf⟩ := pd_ob2 hf
        refine pd_callV (pkX11_view l hr) dL_law_374 pq_988 pq_991 pq_992 (show vwCl[11]? = some (yX11_view.cls, TX11, 10) from rfl) hg29 (pd_okL (by decide) (by decide) (by omega) (by omega) pq_989 pq_990 (by decide) (show (parseMethodDescriptor yX11_view.desc).map (fun d => d.parameters.length) = some 2 from by decide +kernel)) (Nat.le_of_ble_eq_true rfl) rfl ?_
        refine pd_aload_n (i := 1) dL_law_377 rfl rfl ?_
        refine pd_bipush dL_law_378 (by decide) ?_
        obtain ⟨r42, F41, hr, hf⟩ := pd_ob2 hf
        refine pd_callV (pkX11_count l hr) dL_law_380 pq_1023 pq_1026 pq_1027 (show vwCl[11]? = some (yX11_count.cls, TX11, 10) from rfl) hg29 (pd_okL (by decide) (by decide) (by omega) (by omega) pq_1024 pq_1025 (by decide) (show (parseMethodDescriptor yX11_count.desc).map (fun d => d.parameters.length) = some 1 from by decide +kernel)) (Nat.le_of_ble_eq_true rfl) rfl ?_
        refine pd_i2l dL_law_383 ?_
        refine pd_aload_n (i := 1) dL_law_384 rfl rfl ?_
        refine pd_iload (i := 7) dL_law_385 rfl ?_
        refine pd_iconst dL_law_387 (by decide) ?_
        obtain ⟨r44, F43, hr, hf⟩ := pd_ob2 hf
        refine pd_callV (pkX11_view l hr) dL_law_388 pq_988 pq_991 pq_992 (show vwCl[11]? = some (yX11_view.cls, TX11, 10) from rfl) hg29 (pd_okL (by decide) (by decide) (by omega) (by omega) pq_989 pq_990 (by decide) (show (parseMethodDescriptor yX11_view.desc).map (fun d => d.parameters.length) = some 2 from by decide +kernel)) (Nat.le_of_ble_eq_true rfl) rfl ?_
        refine pd_aload_n (i := 1) dL_law_391 rfl rfl ?_
        refine pd_bipush dL_law_392 (by decide) ?_
        obtain ⟨r46, F45, hr, hf⟩ := pd_ob2 hf
        refine pd_callV (pkX11_count l hr) dL_law_394 pq_1023 pq_1026 pq_1027 (show vwCl[11]? = some (yX11_count.cls, TX11, 10) from rfl) hg29 (pd_okL (by decide) (by decide) (by omega) (by omega) pq_1024 pq_1025 (by decide) (show (parseMethodDescriptor yX11_count.desc).map (fun d => d.parameters.length) = some 1 from by decide +kernel)) (Nat.le_of_ble_eq_true rfl) rfl ?_
        refine pd_i2l dL_law_397 ?_
        refine pd_mminJ dL_law_398 pq_993 pq_537 pq_40 pq_538 ⟨by show 1 ≤ 2048; omega, by show 64 ≤ 84000; omega, by show _ ≤ 600086; omega, by show _ ≤ 7301442; omega⟩ (Nat.le_of_ble_eq_true rfl) ?_
        refine pd_ladd dL_law_401 ?_
        refine pd_lcmp_ne (tgt := 463) dL_law_402 dL_law_403 (by decide) (fun hc => ?_) (fun hc => ?_)
        · have hf := pd_ip hf hc
          refine pd_iconst dL_law_463 (by decide) ?_
          exact absurd (pd_inj1 hf) (by decide)
        · have hf := pd_iq hf hc
          refine pd_aload_n (i := 1) dL_law_406 rfl rfl ?_
          refine pd_iload (i := 7) dL_law_407 rfl ?_
          refine pd_bipush dL_law_409 (by decide) ?_
          obtain ⟨r48, F47, hr, hf⟩ := pd_ob2 hf
          refine pd_callV (pkX11_view l hr) dL_law_411 pq_988 pq_991 pq_992 (show vwCl[11]? = some (yX11_view.cls, TX11, 10) from rfl) hg29 (pd_okL (by decide) (by decide) (by omega) (by omega) pq_989 pq_990 (by decide) (show (parseMethodDescriptor yX11_view.desc).map (fun d => d.parameters.length) = some 2 from by decide +kernel)) (Nat.le_of_ble_eq_true rfl) rfl ?_
          refine pd_aload_n (i := 1) dL_law_414 rfl rfl ?_
          refine pd_iload (i := 7) dL_law_415 rfl ?_
          refine pd_iconst dL_law_417 (by decide) ?_
          obtain ⟨r50, F49, hr, hf⟩ := pd_ob2 hf
          refine pd_callV (pkX11_view l hr) dL_law_418 pq_988 pq_991 pq_992 (show vwCl[11]? = some (yX11_view.cls, TX11, 10) from rfl) hg29 (pd_okL (by decide) (by decide) (by omega) (by omega) pq_989 pq_990 (by decide) (show (parseMethodDescriptor yX11_view.desc).map (fun d => d.parameters.length) = some 2 from by decide +kernel)) (Nat.le_of_ble_eq_true rfl) rfl ?_
          refine pd_aload_n (i := 1) dL_law_421 rfl rfl ?_
          refine pd_iload (i := 7) dL_law_422 rfl ?_
          refine pd_iconst dL_law_424 (by decide) ?_
          obtain ⟨r52, F51, hr, hf⟩ := pd_ob2 hf
          refine pd_callV (pkX11_view l hr) dL_law_425 pq_988 pq_991 pq_992 (show vwCl[11]? = some (yX11_view.cls, TX11, 10) from rfl) hg29 (pd_okL (by decide) (by decide) (by omega) (by omega) pq_989 pq_990 (by decide) (show (parseMethodDescriptor yX11_view.desc).map (fun d => d.parameters.length) = some 2 from by decide +kernel)) (Nat.le_of_ble_eq_true rfl) rfl ?_
          refine pd_mminJ dL_law_428 pq_993 pq_537 pq_40 pq_538 ⟨by show 1 ≤ 2048; omega, by show 64 ≤ 84000; omega, by show _ ≤ 600086; omega, by show _ ≤ 7301442; omega⟩ (Nat.le_of_ble_eq_true rfl) ?_
          refine pd_lcmp_ne (tgt := 463) dL_law_431 dL_law_432 (by decide) (fun hc => ?_) (fun hc => ?_)
          · have hf := pd_ip hf hc
            refine pd_iconst dL_law_463 (by decide) ?_
            exact absurd (pd_inj1 hf) (by decide)
          · have hf := pd_iq hf hc
            refine pd_aload_n (i := 1) dL_law_435 rfl rfl ?_
            refine pd_iload (i := 7) dL_law_436 rfl ?_
            refine pd_bipush dL_law_438 (by decide) ?_
            obtain ⟨r54, F53, hr, hf⟩ := pd_ob2 hf
            refine pd_callV (pkX11_view l hr) dL_law_440 pq_988 pq_991 pq_992 (show vwCl[11]? = some (yX11_view.cls, TX11, 10) from rfl) hg29 (pd_okL (by decide) (by decide) (by omega) (by omega) pq_989 pq_990 (by decide) (show (parseMethodDescriptor yX11_view.desc).map (fun d => d.parameters.length) = some 2 from by decide +kernel)) (Nat.le_of_ble_eq_true rfl) rfl ?_
            refine pd_aload_n (i := 1) dL_law_443 rfl rfl ?_
            refine pd_iload (i := 7) dL_law_444 rfl ?_
            refine pd_iconst dL_law_446 (by decide) ?_
            obtain ⟨r56, F55, hr, hf⟩ := pd_ob2 hf
            refine pd_callV (pkX11_view l hr) dL_law_447 pq_988 pq_991 pq_992 (show vwCl[11]? = some (yX11_view.cls, TX11, 10) from rfl) hg29 (pd_okL (by decide) (by decide) (by omega) (by omega) pq_989 pq_990 (by decide) (show (parseMethodDescriptor yX11_view.desc).map (fun d => d.parameters.length) = some 2 from by decide +kernel)) (Nat.le_of_ble_eq_true rfl) rfl ?_
            refine pd_aload_n (i := 1) dL_law_450 rfl rfl ?_
            refine pd_iload (i := 7) dL_law_451 rfl ?_
            refine pd_bipush dL_law_453 (by decide) ?_
            obtain ⟨r58, F57, hr, hf⟩ := pd_ob2 hf
            refine pd_callV (pkX11_view l hr) dL_law_455 pq_988 pq_991 pq_992 (show vwCl[11]? = some (yX11_view.cls, TX11, 10) from rfl) hg29 (pd_okL (by decide) (by decide) (by omega) (by omega) pq_989 pq_990 (by decide) (show (parseMethodDescriptor yX11_view.desc).map (fun d => d.parameters.length) = some 2 from by decide +kernel)) (Nat.le_of_ble_eq_true rfl) rfl ?_
            refine pd_lsub dL_law_458 ?_
            refine pd_lcmp_eq (tgt := 465) dL_law_459 dL_law_460 (by decide) (fun hc => ?_) (fun hc => ?_)
            · have hf := pd_ip hf hc
              refine pd_aload (i := 5) dL_law_465 rfl ?_
              refine pd_iconst dL_law_467 (by decide) ?_
              refine pd_dup2 dL_law_468 rfl rfl ?_
              obtain ⟨hg59, hf⟩ := pd_ig hf
              refine pd_lald dL_law_469 hg59 ?_
              refine pd_lload (i := 8) dL_law_470 rfl ?_
              refine pd_ladd dL_law_472 ?_
              refine pd_last dL_law_473 hg59 ?_
              refine pd_topF (fun F60 eF60 => ?_)
              have hf := pd_lt hf eF60
              clear eF60
              refine pd_aload (i := 5) dL_law_474 rfl ?_
              refine pd_iconst dL_law_476 (by decide) ?_
              refine pd_dup2 dL_law_477 rfl rfl ?_
              obtain ⟨hg61, hf⟩ := pd_ig hf
              refine pd_lald dL_law_478 hg61 ?_
              refine pd_aload_n (i := 1) dL_law_479 rfl rfl ?_
              refine pd_iload (i := 7) dL_law_480 rfl ?_
              refine pd_iconst dL_law_482 (by decide) ?_
              obtain ⟨r63, F62, hr, hf⟩ := pd_ob2 hf
              refine pd_callV (pkX11_view l hr) dL_law_483 pq_988 pq_991 pq_992 (show vwCl[11]? = some (yX11_view.cls, TX11, 10) from rfl) hg29 (pd_okL (by decide) (by decide) (by omega) (by omega) pq_989 pq_990 (by decide) (show (parseMethodDescriptor yX11_view.desc).map (fun d => d.parameters.length) = some 2 from by decide +kernel)) (Nat.le_of_ble_eq_true rfl) rfl ?_
              refine pd_ladd dL_law_486 ?_
              refine pd_last dL_law_487 hg61 ?_
              refine pd_topF (fun F64 eF64 => ?_)
              have hf := pd_lt hf eF64
              clear eF64
              refine pd_aload (i := 5) dL_law_488 rfl ?_
              refine pd_iconst dL_law_490 (by decide) ?_
              refine pd_dup2 dL_law_491 rfl rfl ?_
              obtain ⟨hg65, hf⟩ := pd_ig hf
              refine pd_lald dL_law_492 hg65 ?_
              refine pd_aload_n (i := 1) dL_law_493 rfl rfl ?_
              refine pd_iload (i := 7) dL_law_494 rfl ?_
              refine pd_bipush dL_law_496 (by decide) ?_
              obtain ⟨r67, F66, hr, hf⟩ := pd_ob2 hf
              refine pd_callV (pkX11_view l hr) dL_law_498 pq_988 pq_991 pq_992 (show vwCl[11]? = some (yX11_view.cls, TX11, 10) from rfl) hg29 (pd_okL (by decide) (by decide) (by omega) (by omega) pq_989 pq_990 (by decide) (show (parseMethodDescriptor yX11_view.desc).map (fun d => d.parameters.length) = some 2 from by decide +kernel)) (Nat.le_of_ble_eq_true rfl) rfl ?_
              refine pd_ladd dL_law_501 ?_
              refine pd_last dL_law_502 hg65 ?_
              refine pd_topF (fun F68 eF68 => ?_)
              have hf := pd_lt hf eF68
              clear eF68
              refine pd_aload (i := 5) dL_law_503 rfl ?_
              refine pd_iconst dL_law_505 (by decide) ?_
              refine pd_dup2 dL_law_506 rfl rfl ?_
              obtain ⟨hg69, hf⟩ := pd_ig hf
              refine pd_lald dL_law_507 hg69 ?_
              refine pd_aload_n (i := 1) dL_law_508 rfl rfl ?_
              refine pd_iload (i := 7) dL_law_509 rfl ?_
              refine pd_bipush dL_law_511 (by decide) ?_
              obtain ⟨r71, F70, hr, hf⟩ := pd_ob2 hf
              refine pd_callV (pkX11_view l hr) dL_law_513 pq_988 pq_991 pq_992 (show vwCl[11]? = some (yX11_view.cls, TX11, 10) from rfl) hg29 (pd_okL (by decide) (by decide) (by omega) (by omega) pq_989 pq_990 (by decide) (show (parseMethodDescriptor yX11_view.desc).map (fun d => d.parameters.length) = some 2 from by decide +kernel)) (Nat.le_of_ble_eq_true rfl) rfl ?_
              refine pd_ladd dL_law_516 ?_
              refine pd_last dL_law_517 hg69 ?_
              refine pd_topF (fun F72 eF72 => ?_)
              have hf := pd_lt hf eF72
              clear eF72
              refine pd_iload (i := 6) dL_law_518 rfl ?_
              refine pd_aload_n (i := 1) dL_law_520 rfl rfl ?_
              refine pd_iload (i := 7) dL_law_521 rfl ?_
              obtain ⟨r74, F73, hr, hf⟩ := pd_ob2 hf
              refine pd_callV (pkX11_who l hr) dL_law_523 pq_1033 pq_1036 pq_1037 (show vwCl[11]? = some (yX11_who.cls, TX11, 10) from rfl) hg29 (pd_okL (by decide) (by decide) (by omega) (by omega) pq_1034 pq_1035 (by decide) (show (parseMethodDescriptor yX11_who.desc).map (fun d => d.parameters.length) = some 1 from by decide +kernel)) (Nat.le_of_ble_eq_true rfl) rfl ?_
              refine pd_ior dL_law_526 ?_
              refine pd_topI (fun x6_527 ex6_527 => ?_)
              have hf := pd_lt hf ex6_527
              clear ex6_527
              refine pd_istore (L' := [pd_R (-60), pd_R x1, pd_N, pd_N, pd_I x4, pd_R x5, pd_I x6_527, pd_I x7, pd_J x8, pd_N, pd_N, pd_N]) dL_law_527 (by decide) rfl ?_
              refine pd_iincN (L' := fun y => [pd_R (-60), pd_R x1, pd_N, pd_N, pd_I x4, pd_R x5, pd_I x6_527, pd_I y, pd_J x8, pd_N, pd_N, pd_N]) dL_law_529 rfl (by decide) (by decide) (fun _ => rfl) (fun x7_529 ex7_529 => ?_)
              have hf := pd_lt hf ex7_529
              clear ex7_529
              refine pd_goto (tgt := 237) dL_law_532 (by decide) ?_
              exact pd_weak (L' := [pd_R (-60), pd_R x1, pd_N, pd_N, pd_I x4, pd_R x5, pd_I x6_527, pd_I x7_529, pd_N, pd_N, pd_N, pd_N]) ⟨Or.inr rfl, Or.inr rfl, Or.inr rfl, Or.inr rfl, Or.inr rfl, Or.inr rfl, Or.inr rfl, Or.inr rfl, Or.inl rfl, Or.inr rfl, Or.inr rfl, Or.inr rfl, trivial⟩ (hL237 _ _ (by omega) (by omega) _ _ _ _ _ _ _ hf)
            · have hf := pd_in_ hf hc
              refine pd_iconst dL_law_463 (by decide) ?_
              exact absurd (pd_inj1 hf) (by decide)
      · have hf := pd_in_ hf hc
        refine pd_iconst dL_law_368 (by decide) ?_
        exact absurd (pd_inj1 hf) (by decide)
set_option maxHeartbeats 8000000 in
set_option maxRecDepth 10000000 in
theorem pkL_law_b250 (E : pd_E) (l : Launch) {Ls : Int} {xs : Int → Int} (hLs : Ls = (E.2.2.2 21 : Nat) ∧ Ls < 2147483648) (hxs : ∀ j : Int, 0 ≤ j → j < Ls → xs j = (Int32.ofNat (E.2.2.2 (22 + j.toNat))).toInt) {n : Nat} {c237 : pd_S → pd_F → Int → Int → Int → Int → Int → Option Int} {B237 D237 : Nat} (hL237 : ∀ (cells slots : Nat) (hc0 : cells + B237 ≤ 600086) (hs0 : slots + D237 ≤ 7301442) (sh : pd_S) (F : pd_F) (x1 : Int) (x4 : Int) (x5 : Int) (x6 : Int) (x7 : Int), c237 sh F x1 x4 x5 x6 x7 = some 1 → pd_V E l room_1 (RL, cL_law, 12, ret, "law") (pd_Ql E) true cells slots sh F 237 [pd_R (-60), pd_R x1, pd_N, pd_N, pd_I x4, pd_R x5, pd_I x6, pd_I x7, pd_N, pd_N, pd_N, pd_N] []) : ∀ (k cells slots : Nat) (hc0 : cells + (k * 0 + 0) + B237 ≤ 600086) (hs0 : slots + (k * 0 + 0) + D237 ≤ 7301442) (sh : pd_S) (F : pd_F) (x1 : Int) (x4 : Int) (x5 : Int) (x6 : Int) (x7 : Int) (x8 : Int) (x10 : Int), pfL_law_b250 Ls xs n c237 k sh F x1 x4 x5 x6 x7 x8 x10 = some 1 → pd_V E l room_1 (RL, cL_law, 12, ret, "law") (pd_Ql E) true cells slots sh F 250 [pd_R (-60), pd_R x1, pd_N, pd_N, pd_I x4, pd_R x5, pd_I x6, pd_I x7, pd_J x8, pd_N, pd_I x10, pd_N] [] := by
  intro k
  induction k with
  | zero => intro cells slots _ _ sh F x1 x4 x5 x6 x7 x8 x10 hf; exact absurd hf (by unfold pfL_law_b250; exact fun h => nomatch h)
  | succ k ih =>
    intro cells slots hc0 hs0 sh F x1 x4 x5 x6 x7 x8 x10 hf
    unfold pfL_law_b250 at hf
    refine pd_iload (i := 10) dL_law_250 rfl ?_
    refine pd_aload_n (i := 1) dL_law_252 rfl rfl ?_
    refine pd_iconst dL_law_253 (by decide) ?_
    obtain ⟨hg76, hf⟩ := pd_ig hf
    obtain ⟨r77, F75, hr, hf⟩ := pd_ob2 hf
    refine pd_callV (pkX11_count l hr) dL_law_254 pq_1023 pq_1026 pq_1027 (show vwCl[11]? = some (yX11_count.cls, TX11, 10) from rfl) hg76 (pd_okL (by decide) (by decide) (by omega) (by omega) pq_1024 pq_1025 (by decide) (show (parseMethodDescriptor yX11_count.desc).map (fun d => d.parameters.length) = some 1 from by decide +kernel)) (Nat.le_of_ble_eq_true rfl) rfl ?_
    refine pd_icmp_ge (tgt := 311) dL_law_257 (by decide) (fun hc => ?_) (fun hc => ?_)
    · have hf := pd_ip hf hc
      exact pd_weak (L' := [pd_R (-60), pd_R x1, pd_N, pd_N, pd_I x4, pd_R x5, pd_I x6, pd_I x7, pd_J x8, pd_N, pd_N, pd_N]) ⟨Or.inr rfl, Or.inr rfl, Or.inr rfl, Or.inr rfl, Or.inr rfl, Or.inr rfl, Or.inr rfl, Or.inr rfl, Or.inr rfl, Or.inr rfl, Or.inl rfl, Or.inr rfl, trivial⟩ (pkL_law_b311 E l hLs hxs hL237 _ _ (by omega) (by omega) _ _ _ _ _ _ _ _ hf)
    · have hf := pd_in_ hf hc
      refine pd_iconst dL_law_260 (by decide) ?_
      refine pd_istore (L' := [pd_R (-60), pd_R x1, pd_N, pd_N, pd_I x4, pd_R x5, pd_I x6, pd_I x7, pd_J x8, pd_N, pd_I x10, pd_I 0]) dL_law_261 (by decide) rfl ?_
      exact pd_weak (L' := [pd_R (-60), pd_R x1, pd_N, pd_N, pd_I x4, pd_R x5, pd_I x6, pd_I x7, pd_J x8, pd_N, pd_I x10, pd_I 0]) ⟨Or.inr rfl, Or.inr rfl, Or.inr rfl, Or.inr rfl, Or.inr rfl, Or.inr rfl, Or.inr rfl, Or.inr rfl, Or.inr rfl, Or.inr rfl, Or.inr rfl, Or.inr rfl, trivial⟩ (pkL_law_b263 E l hLs hxs hL237 ih (by omega) (by omega) n _ _ (by omega) (by omega) _ _ _ _ _ _ _ _ _ _ hf)
set_option maxHeartbeats 8000000 in
set_option maxRecDepth 10000000 in
theorem pkL_law_b567 (E : pd_E) (l : Launch) {Ls : Int} {xs : Int → Int} (hLs : Ls = (E.2.2.2 21 : Nat) ∧ Ls < 2147483648) (hxs : ∀ j : Int, 0 ≤ j → j < Ls → xs j = (Int32.ofNat (E.2.2.2 (22 + j.toNat))).toInt) {n : Nat}  (cells slots : Nat) (hc0 : cells + 9 ≤ 600086) (hs0 : slots + 27 ≤ 7301442) (sh : pd_S) (F : pd_F) (x1 : Int) (x4 : Int) (x5 : Int) (x6 : Int) (hf : pfL_law_b567 Ls xs n  sh F x1 x4 x5 x6 = some 1) : pd_V E l room_1 (RL, cL_law, 12, ret, "law") (pd_Ql E) true cells slots sh F 567 [pd_R (-60), pd_R x1, pd_N, pd_N, pd_I x4, pd_R x5, pd_I x6, pd_N, pd_N, pd_N, pd_N, pd_N] [] := by
  unfold pfL_law_b567 at hf
  refine pd_iload (i := 6) dL_law_567 rfl ?_
  refine pd_iconst dL_law_569 (by decide) ?_
  refine pd_aload_n (i := 1) dL_law_570 rfl rfl ?_
  refine pd_iconst dL_law_571 (by decide) ?_
  obtain ⟨hg79, hf⟩ := pd_ig hf
  obtain ⟨r80, F78, hr, hf⟩ := pd_ob2 hf
  refine pd_callV (pkX11_count l hr) dL_law_572 pq_1023 pq_1026 pq_1027 (show vwCl[11]? = some (yX11_count.cls, TX11, 10) from rfl) hg79 (pd_okL (by decide) (by decide) (by omega) (by omega) pq_1024 pq_1025 (by decide) (show (parseMethodDescriptor yX11_count.desc).map (fun d => d.parameters.length) = some 1 from by decide +kernel)) (Nat.le_of_ble_eq_true rfl) rfl ?_
  refine pd_ishl dL_law_575 ?_
  refine pd_iconst dL_law_576 (by decide) ?_
  refine pd_isub dL_law_577 ?_
  refine pd_icmp_ne (tgt := 604) dL_law_578 (by decide) (fun hc => ?_) (fun hc => ?_)
  · have hf := pd_ip hf hc
    refine pd_iconst dL_law_604 (by decide) ?_
    exact absurd (pd_inj1 hf) (by decide)
  · have hf := pd_iq hf hc
    refine pd_aload_n (i := 1) dL_law_581 rfl rfl ?_
    refine pd_iload (i := 4) dL_law_582 rfl ?_
    refine pd_iconst dL_law_584 (by decide) ?_
    obtain ⟨r82, F81, hr, hf⟩ := pd_ob2 hf
    refine pd_callV (pkX11_view l hr) dL_law_585 pq_988 pq_991 pq_992 (show vwCl[11]? = some (yX11_view.cls, TX11, 10) from rfl) hg79 (pd_okL (by decide) (by decide) (by omega) (by omega) pq_989 pq_990 (by decide) (show (parseMethodDescriptor yX11_view.desc).map (fun d => d.parameters.length) = some 2 from by decide +kernel)) (Nat.le_of_ble_eq_true rfl) rfl ?_
    refine pd_ldc2 (x := (-1)) dL_law_588 pq_1005 (by decide +kernel) ?_
    refine pd_lcmp_ne (tgt := 604) dL_law_591 dL_law_592 (by decide) (fun hc => ?_) (fun hc => ?_)
    · have hf := pd_ip hf hc
      refine pd_iconst dL_law_604 (by decide) ?_
      exact absurd (pd_inj1 hf) (by decide)
    · have hf := pd_iq hf hc
      refine pd_aload_n (i := 1) dL_law_595 rfl rfl ?_
      refine pd_iconst dL_law_596 (by decide) ?_
      obtain ⟨r84, F83, hr, hf⟩ := pd_ob2 hf
      refine pd_callV (pkX11_who l hr) dL_law_597 pq_1033 pq_1036 pq_1037 (show vwCl[11]? = some (yX11_who.cls, TX11, 10) from rfl) hg79 (pd_okL (by decide) (by decide) (by omega) (by omega) pq_1034 pq_1035 (by decide) (show (parseMethodDescriptor yX11_who.desc).map (fun d => d.parameters.length) = some 1 from by decide +kernel)) (Nat.le_of_ble_eq_true rfl) rfl ?_
      refine pd_iconst dL_law_600 (by decide) ?_
      refine pd_icmp_eq (tgt := 606) dL_law_601 (by decide) (fun hc => ?_) (fun hc => ?_)
      · have hf := pd_ip hf hc
        refine pd_aload_n (i := 1) dL_law_606 rfl rfl ?_
        refine pd_iload (i := 4) dL_law_607 rfl ?_
        refine pd_aload (i := 5) dL_law_609 rfl ?_
        refine pd_iconst dL_law_611 (by decide) ?_
        obtain ⟨hg85, hf⟩ := pd_ig hf
        refine pd_lald dL_law_612 hg85 ?_
        refine pd_aload (i := 5) dL_law_613 rfl ?_
        refine pd_iconst dL_law_615 (by decide) ?_
        obtain ⟨hg86, hf⟩ := pd_ig hf
        refine pd_lald dL_law_616 hg86 ?_
        refine pd_aload_n (i := 0) dL_law_617 rfl rfl ?_
        obtain ⟨r89, sh88, F87, hr, hf⟩ := pd_ob3 hf
        refine pd_callSE (pkL_isPaid E l hLs hxs hr) dL_law_618 pq_1038 pq_1041 (pd_okL (by decide) (by decide) (by omega) (by omega) pq_1039 pq_1040 (by decide) (show (parseMethodDescriptor yL_isPaid.desc).map (fun d => d.parameters.length) = some 5 from by decide +kernel)) (Nat.le_of_ble_eq_true rfl) rfl ?_
        refine pd_if_eq (tgt := 637) dL_law_621 (by decide) (fun hc => ?_) (fun hc => ?_)
        · have hf := pd_ip hf hc
          refine pd_iconst dL_law_637 (by decide) ?_
          exact absurd (pd_inj1 hf) (by decide)
        · have hf := pd_in_ hf hc
          refine pd_aload_n (i := 1) dL_law_624 rfl rfl ?_
          refine pd_iload (i := 4) dL_law_625 rfl ?_
          obtain ⟨r91, F90, hr, hf⟩ := pd_ob2 hf
          refine pd_callS (pkL_isRanked l hr) dL_law_627 pq_1042 pq_1045 (pd_okL (by decide) (by decide) (by omega) (by omega) pq_1043 pq_1044 (by decide) (show (parseMethodDescriptor yL_isRanked.desc).map (fun d => d.parameters.length) = some 2 from by decide +kernel)) (Nat.le_of_ble_eq_true rfl) rfl ?_
          refine pd_if_eq (tgt := 637) dL_law_630 (by decide) (fun hc => ?_) (fun hc => ?_)
          · have hf := pd_ip hf hc
            refine pd_iconst dL_law_637 (by decide) ?_
            exact absurd (pd_inj1 hf) (by decide)
          · have hf := pd_in_ hf hc
            refine pd_iconst dL_law_633 (by decide) ?_
            refine pd_goto (tgt := 638) dL_law_634 (by decide) ?_
            obtain h2 := pd_inj1 hf
            clear h2
            exact pd_lret1 dL_law_638 (by omega) (by omega)
      · have hf := pd_in_ hf hc
        refine pd_iconst dL_law_604 (by decide) ?_
        exact absurd (pd_inj1 hf) (by decide)
set_option maxHeartbeats 8000000 in
set_option maxRecDepth 10000000 in
theorem pkL_law_b538 (E : pd_E) (l : Launch) {Ls : Int} {xs : Int → Int} (hLs : Ls = (E.2.2.2 21 : Nat) ∧ Ls < 2147483648) (hxs : ∀ j : Int, 0 ≤ j → j < Ls → xs j = (Int32.ofNat (E.2.2.2 (22 + j.toNat))).toInt) {n : Nat}  : ∀ (k cells slots : Nat) (hc0 : cells + (k * 0 + 9) ≤ 600086) (hs0 : slots + (k * 0 + 27) ≤ 7301442) (sh : pd_S) (F : pd_F) (x1 : Int) (x4 : Int) (x5 : Int) (x6 : Int) (x7 : Int), pfL_law_b538 Ls xs n  k sh F x1 x4 x5 x6 x7 = some 1 → pd_V E l room_1 (RL, cL_law, 12, ret, "law") (pd_Ql E) true cells slots sh F 538 [pd_R (-60), pd_R x1, pd_N, pd_N, pd_I x4, pd_R x5, pd_I x6, pd_I x7, pd_N, pd_N, pd_N, pd_N] [] := by
  intro k
  induction k with
  | zero => intro cells slots _ _ sh F x1 x4 x5 x6 x7 hf; exact absurd hf (by unfold pfL_law_b538; exact fun h => nomatch h)
  | succ k ih =>
    intro cells slots hc0 hs0 sh F x1 x4 x5 x6 x7 hf
    unfold pfL_law_b538 at hf
    refine pd_iload (i := 7) dL_law_538 rfl ?_
    refine pd_iconst dL_law_540 (by decide) ?_
    refine pd_icmp_ge (tgt := 567) dL_law_541 (by decide) (fun hc => ?_) (fun hc => ?_)
    · have hf := pd_ip hf hc
      exact pd_weak (L' := [pd_R (-60), pd_R x1, pd_N, pd_N, pd_I x4, pd_R x5, pd_I x6, pd_N, pd_N, pd_N, pd_N, pd_N]) ⟨Or.inr rfl, Or.inr rfl, Or.inr rfl, Or.inr rfl, Or.inr rfl, Or.inr rfl, Or.inr rfl, Or.inl rfl, Or.inr rfl, Or.inr rfl, Or.inr rfl, Or.inr rfl, trivial⟩ (pkL_law_b567 E l hLs hxs _ _ (by omega) (by omega) _ _ _ _ _ _ hf)
    · have hf := pd_in_ hf hc
      refine pd_aload_n (i := 1) dL_law_544 rfl rfl ?_
      refine pd_iload (i := 7) dL_law_545 rfl ?_
      obtain ⟨hg93, hf⟩ := pd_ig hf
      obtain ⟨r94, F92, hr, hf⟩ := pd_ob2 hf
      refine pd_callV (pkX11_all l hr) dL_law_547 pq_1046 pq_1049 pq_1050 (show vwCl[11]? = some (yX11_all.cls, TX11, 10) from rfl) hg93 (pd_okL (by decide) (by decide) (by omega) (by omega) pq_1047 pq_1048 (by decide) (show (parseMethodDescriptor yX11_all.desc).map (fun d => d.parameters.length) = some 1 from by decide +kernel)) (Nat.le_of_ble_eq_true rfl) rfl ?_
      refine pd_aload (i := 5) dL_law_550 rfl ?_
      refine pd_iload (i := 7) dL_law_552 rfl ?_
      obtain ⟨hg95, hf⟩ := pd_ig hf
      refine pd_lald dL_law_554 hg95 ?_
      refine pd_lcmp_eq (tgt := 561) dL_law_555 dL_law_556 (by decide) (fun hc => ?_) (fun hc => ?_)
      · have hf := pd_ip hf hc
        refine pd_iincN (L' := fun y => [pd_R (-60), pd_R x1, pd_N, pd_N, pd_I x4, pd_R x5, pd_I x6, pd_I y, pd_N, pd_N, pd_N, pd_N]) dL_law_561 rfl (by decide) (by decide) (fun _ => rfl) (fun x7_561 ex7_561 => ?_)
        have hf := pd_lt hf ex7_561
        clear ex7_561
        refine pd_goto (tgt := 538) dL_law_564 (by decide) ?_
        exact pd_weak (L' := [pd_R (-60), pd_R x1, pd_N, pd_N, pd_I x4, pd_R x5, pd_I x6, pd_I x7_561, pd_N, pd_N, pd_N, pd_N]) ⟨Or.inr rfl, Or.inr rfl, Or.inr rfl, Or.inr rfl, Or.inr rfl, Or.inr rfl, Or.inr rfl, Or.inr rfl, Or.inr rfl, Or.inr rfl, Or.inr rfl, Or.inr rfl, trivial⟩ (ih _ _ (by omega) (by omega) _ _ _ _ _ _ _ hf)
      · have hf := pd_in_ hf hc
        refine pd_iconst dL_law_559 (by decide) ?_
        exact absurd (pd_inj1 hf) (by decide)
set_option maxHeartbeats 8000000 in
set_option maxRecDepth 10000000 in
theorem pkL_law_b535 (E : pd_E) (l : Launch) {Ls : Int} {xs : Int → Int} (hLs : Ls = (E.2.2.2 21 : Nat) ∧ Ls < 2147483648) (hxs : ∀ j : Int, 0 ≤ j → j < Ls → xs j = (Int32.ofNat (E.2.2.2 (22 + j.toNat))).toInt) {n : Nat}  (cells slots : Nat) (hc0 : cells + 9 ≤ 600086) (hs0 : slots + 27 ≤ 7301442) (sh : pd_S) (F : pd_F) (x1 : Int) (x4 : Int) (x5 : Int) (x6 : Int) (hf : pfL_law_b535 Ls xs n  sh F x1 x4 x5 x6 = some 1) : pd_V E l room_1 (RL, cL_law, 12, ret, "law") (pd_Ql E) true cells slots sh F 535 [pd_R (-60), pd_R x1, pd_N, pd_N, pd_I x4, pd_R x5, pd_I x6, pd_N, pd_N, pd_N, pd_N, pd_N] [] := by
  unfold pfL_law_b535 at hf
  refine pd_iconst dL_law_535 (by decide) ?_
  refine pd_istore (L' := [pd_R (-60), pd_R x1, pd_N, pd_N, pd_I x4, pd_R x5, pd_I x6, pd_I 0, pd_N, pd_N, pd_N, pd_N]) dL_law_536 (by decide) rfl ?_
  exact pd_weak (L' := [pd_R (-60), pd_R x1, pd_N, pd_N, pd_I x4, pd_R x5, pd_I x6, pd_I 0, pd_N, pd_N, pd_N, pd_N]) ⟨Or.inr rfl, Or.inr rfl, Or.inr rfl, Or.inr rfl, Or.inr rfl, Or.inr rfl, Or.inr rfl, Or.inr rfl, Or.inr rfl, Or.inr rfl, Or.inr rfl, Or.inr rfl, trivial⟩ (pkL_law_b538 E l hLs hxs n _ _ (by omega) (by omega) _ _ _ _ _ _ _ hf)
set_option maxHeartbeats 8000000 in
set_option maxRecDepth 10000000 in
theorem pkL_law_b237 (E : pd_E) (l : Launch) {Ls : Int} {xs : Int → Int} (hLs : Ls = (E.2.2.2 21 : Nat) ∧ Ls < 2147483648) (hxs : ∀ j : Int, 0 ≤ j → j < Ls → xs j = (Int32.ofNat (E.2.2.2 (22 + j.toNat))).toInt) {n : Nat}  : ∀ (k cells slots : Nat) (hc0 : cells + (k * 0 + 9) ≤ 600086) (hs0 : slots + (k * 0 + 27) ≤ 7301442) (sh : pd_S) (F : pd_F) (x1 : Int) (x4 : Int) (x5 : Int) (x6 : Int) (x7 : Int), pfL_law_b237 Ls xs n  k sh F x1 x4 x5 x6 x7 = some 1 → pd_V E l room_1 (RL, cL_law, 12, ret, "law") (pd_Ql E) true cells slots sh F 237 [pd_R (-60), pd_R x1, pd_N, pd_N, pd_I x4, pd_R x5, pd_I x6, pd_I x7, pd_N, pd_N, pd_N, pd_N] [] := by
  intro k
  induction k with
  | zero => intro cells slots _ _ sh F x1 x4 x5 x6 x7 hf; exact absurd hf (by unfold pfL_law_b237; exact fun h => nomatch h)
  | succ k ih =>
    intro cells slots hc0 hs0 sh F x1 x4 x5 x6 x7 hf
    unfold pfL_law_b237 at hf
    refine pd_iload (i := 7) dL_law_237 rfl ?_
    refine pd_iload (i := 4) dL_law_239 rfl ?_
    refine pd_icmp_ge (tgt := 535) dL_law_241 (by decide) (fun hc => ?_) (fun hc => ?_)
    · have hf := pd_ip hf hc
      exact pd_weak (L' := [pd_R (-60), pd_R x1, pd_N, pd_N, pd_I x4, pd_R x5, pd_I x6, pd_N, pd_N, pd_N, pd_N, pd_N]) ⟨Or.inr rfl, Or.inr rfl, Or.inr rfl, Or.inr rfl, Or.inr rfl, Or.inr rfl, Or.inr rfl, Or.inl rfl, Or.inr rfl, Or.inr rfl, Or.inr rfl, Or.inr rfl, trivial⟩ (pkL_law_b535 E l hLs hxs _ _ (by omega) (by omega) _ _ _ _ _ _ hf)
    · have hf := pd_in_ hf hc
      refine pd_lconst (x := 0) dL_law_244 (by decide) ?_
      refine pd_lstore (L' := [pd_R (-60), pd_R x1, pd_N, pd_N, pd_I x4, pd_R x5, pd_I x6, pd_I x7, pd_J 0, pd_N, pd_N, pd_N]) dL_law_245 (by decide) rfl ?_
      refine pd_iconst dL_law_247 (by decide) ?_
      refine pd_istore (L' := [pd_R (-60), pd_R x1, pd_N, pd_N, pd_I x4, pd_R x5, pd_I x6, pd_I x7, pd_J 0, pd_N, pd_I 0, pd_N]) dL_law_248 (by decide) rfl ?_
      exact pd_weak (L' := [pd_R (-60), pd_R x1, pd_N, pd_N, pd_I x4, pd_R x5, pd_I x6, pd_I x7, pd_J 0, pd_N, pd_I 0, pd_N]) ⟨Or.inr rfl, Or.inr rfl, Or.inr rfl, Or.inr rfl, Or.inr rfl, Or.inr rfl, Or.inr rfl, Or.inr rfl, Or.inr rfl, Or.inr rfl, Or.inr rfl, Or.inr rfl, trivial⟩ (pkL_law_b250 E l hLs hxs ih n _ _ (by omega) (by omega) _ _ _ _ _ _ _ _ _ hf)
set_option maxHeartbeats 8000000 in
set_option maxRecDepth 10000000 in
theorem pkL_law_b200 (E : pd_E) (l : Launch) {Ls : Int} {xs : Int → Int} (hLs : Ls = (E.2.2.2 21 : Nat) ∧ Ls < 2147483648) (hxs : ∀ j : Int, 0 ≤ j → j < Ls → xs j = (Int32.ofNat (E.2.2.2 (22 + j.toNat))).toInt) {n : Nat}  (cells slots : Nat) (hc0 : cells + 10 ≤ 600086) (hs0 : slots + 31 ≤ 7301442) (sh : pd_S) (F : pd_F) (x1 : Int) (x2 : Int) (hf : pfL_law_b200 Ls xs n  sh F x1 x2 = some 1) : pd_V E l room_1 (RL, cL_law, 12, ret, "law") (pd_Ql E) true cells slots sh F 200 [pd_R (-60), pd_R x1, pd_J x2, pd_N, pd_N, pd_N, pd_N, pd_N, pd_N, pd_N, pd_N, pd_N] [] := by
  unfold pfL_law_b200 at hf
  refine pd_aload_n (i := 1) dL_law_200 rfl rfl ?_
  refine pd_iconst dL_law_201 (by decide) ?_
  obtain ⟨hg97, hf⟩ := pd_ig hf
  obtain ⟨r98, F96, hr, hf⟩ := pd_ob2 hf
  refine pd_callV (pkX11_all l hr) dL_law_202 pq_1046 pq_1049 pq_1050 (show vwCl[11]? = some (yX11_all.cls, TX11, 10) from rfl) hg97 (pd_okL (by decide) (by decide) (by omega) (by omega) pq_1047 pq_1048 (by decide) (show (parseMethodDescriptor yX11_all.desc).map (fun d => d.parameters.length) = some 1 from by decide +kernel)) (Nat.le_of_ble_eq_true rfl) rfl ?_
  refine pd_aload_n (i := 1) dL_law_205 rfl rfl ?_
  refine pd_iconst dL_law_206 (by decide) ?_
  obtain ⟨r100, F99, hr, hf⟩ := pd_ob2 hf
  refine pd_callV (pkX11_all l hr) dL_law_207 pq_1046 pq_1049 pq_1050 (show vwCl[11]? = some (yX11_all.cls, TX11, 10) from rfl) hg97 (pd_okL (by decide) (by decide) (by omega) (by omega) pq_1047 pq_1048 (by decide) (show (parseMethodDescriptor yX11_all.desc).map (fun d => d.parameters.length) = some 1 from by decide +kernel)) (Nat.le_of_ble_eq_true rfl) rfl ?_
  refine pd_ladd dL_law_210 ?_
  refine pd_lload_n (i := 2) dL_law_211 rfl rfl ?_
  refine pd_lcmp_eq (tgt := 218) dL_law_212 dL_law_213 (by decide) (fun hc => ?_) (fun hc => ?_)
  · have hf := pd_ip hf hc
    refine pd_aload_n (i := 1) dL_law_218 rfl rfl ?_
    refine pd_iconst dL_law_219 (by decide) ?_
    obtain ⟨r102, F101, hr, hf⟩ := pd_ob2 hf
    refine pd_callV (pkX11_all l hr) dL_law_220 pq_1046 pq_1049 pq_1050 (show vwCl[11]? = some (yX11_all.cls, TX11, 10) from rfl) hg97 (pd_okL (by decide) (by decide) (by omega) (by omega) pq_1047 pq_1048 (by decide) (show (parseMethodDescriptor yX11_all.desc).map (fun d => d.parameters.length) = some 1 from by decide +kernel)) (Nat.le_of_ble_eq_true rfl) rfl ?_
    refine pd_l2i dL_law_223 ?_
    refine pd_topI (fun x4_224 ex4_224 => ?_)
    have hf := pd_lt hf ex4_224
    clear ex4_224
    refine pd_istore (L' := [pd_R (-60), pd_R x1, pd_J x2, pd_N, pd_I x4_224, pd_N, pd_N, pd_N, pd_N, pd_N, pd_N, pd_N]) dL_law_224 (by decide) rfl ?_
    refine pd_iconst dL_law_226 (by decide) ?_
    refine pd_newJ (N := 4) dL_law_227 pq_861 (by decide) (by decide) ⟨by show _ ≤ 600086; omega, by show _ ≤ 7301442; omega⟩ ?_
    refine pd_topR (fun o105 eo105 => ?_)
    have hf := pd_lt hf eo105
    refine pd_topF (fun F104 eF104 => ?_)
    have hf := pd_lt hf eF104
    refine pd_topS (fun sh103 esh103 => ?_)
    have hf := pd_lt hf esh103
    clear esh103 eF104 eo105
    obtain ⟨hg106, hf⟩ := pd_ig hf
    refine pd_astore (L' := [pd_R (-60), pd_R x1, pd_J x2, pd_N, pd_I x4_224, pd_R o105, pd_N, pd_N, pd_N, pd_N, pd_N, pd_N]) dL_law_229 (by decide) hg106 rfl ?_
    refine pd_iconst dL_law_231 (by decide) ?_
    refine pd_istore (L' := [pd_R (-60), pd_R x1, pd_J x2, pd_N, pd_I x4_224, pd_R o105, pd_I 0, pd_N, pd_N, pd_N, pd_N, pd_N]) dL_law_232 (by decide) rfl ?_
    refine pd_iconst dL_law_234 (by decide) ?_
    refine pd_istore (L' := [pd_R (-60), pd_R x1, pd_J x2, pd_N, pd_I x4_224, pd_R o105, pd_I 0, pd_I 0, pd_N, pd_N, pd_N, pd_N]) dL_law_235 (by decide) rfl ?_
    exact pd_weak (L' := [pd_R (-60), pd_R x1, pd_N, pd_N, pd_I x4_224, pd_R o105, pd_I 0, pd_I 0, pd_N, pd_N, pd_N, pd_N]) ⟨Or.inr rfl, Or.inr rfl, Or.inl rfl, Or.inr rfl, Or.inr rfl, Or.inr rfl, Or.inr rfl, Or.inr rfl, Or.inr rfl, Or.inr rfl, Or.inr rfl, Or.inr rfl, trivial⟩ (pkL_law_b237 E l hLs hxs n _ _ (by omega) (by omega) _ _ _ _ _ _ _ hf)
  · have hf := pd_in_ hf hc
    refine pd_iconst dL_law_216 (by decide) ?_
    exact absurd (pd_inj1 hf) (by decide)
set_option maxHeartbeats 8000000 in
set_option maxRecDepth 10000000 in
theorem pkL_law_b43 (E : pd_E) (l : Launch) {Ls : Int} {xs : Int → Int} (hLs : Ls = (E.2.2.2 21 : Nat) ∧ Ls < 2147483648) (hxs : ∀ j : Int, 0 ≤ j → j < Ls → xs j = (Int32.ofNat (E.2.2.2 (22 + j.toNat))).toInt) {n : Nat}  : ∀ (k cells slots : Nat) (hc0 : cells + (k * 0 + 10) ≤ 600086) (hs0 : slots + (k * 0 + 31) ≤ 7301442) (sh : pd_S) (F : pd_F) (x1 : Int) (x2 : Int) (x4 : Int), pfL_law_b43 Ls xs n  k sh F x1 x2 x4 = some 1 → pd_V E l room_1 (RL, cL_law, 12, ret, "law") (pd_Ql E) true cells slots sh F 43 [pd_R (-60), pd_R x1, pd_J x2, pd_N, pd_I x4, pd_N, pd_N, pd_N, pd_N, pd_N, pd_N, pd_N] [] := by
  intro k
  induction k with
  | zero => intro cells slots _ _ sh F x1 x2 x4 hf; exact absurd hf (by unfold pfL_law_b43; exact fun h => nomatch h)
  | succ k ih =>
    intro cells slots hc0 hs0 sh F x1 x2 x4 hf
    unfold pfL_law_b43 at hf
    refine pd_iload (i := 4) dL_law_43 rfl ?_
    refine pd_aload_n (i := 1) dL_law_45 rfl rfl ?_
    refine pd_iconst dL_law_46 (by decide) ?_
    obtain ⟨hg108, hf⟩ := pd_ig hf
    obtain ⟨r109, F107, hr, hf⟩ := pd_ob2 hf
    refine pd_callV (pkX11_count l hr) dL_law_47 pq_1023 pq_1026 pq_1027 (show vwCl[11]? = some (yX11_count.cls, TX11, 10) from rfl) hg108 (pd_okL (by decide) (by decide) (by omega) (by omega) pq_1024 pq_1025 (by decide) (show (parseMethodDescriptor yX11_count.desc).map (fun d => d.parameters.length) = some 1 from by decide +kernel)) (Nat.le_of_ble_eq_true rfl) rfl ?_
    refine pd_icmp_ge (tgt := 200) dL_law_50 (by decide) (fun hc => ?_) (fun hc => ?_)
    · have hf := pd_ip hf hc
      exact pd_weak (L' := [pd_R (-60), pd_R x1, pd_J x2, pd_N, pd_N, pd_N, pd_N, pd_N, pd_N, pd_N, pd_N, pd_N]) ⟨Or.inr rfl, Or.inr rfl, Or.inr rfl, Or.inr rfl, Or.inl rfl, Or.inr rfl, Or.inr rfl, Or.inr rfl, Or.inr rfl, Or.inr rfl, Or.inr rfl, Or.inr rfl, trivial⟩ (pkL_law_b200 E l hLs hxs _ _ (by omega) (by omega) _ _ _ _ hf)
    · have hf := pd_in_ hf hc
      refine pd_lconst (x := 0) dL_law_53 (by decide) ?_
      refine pd_lstore (L' := [pd_R (-60), pd_R x1, pd_J x2, pd_N, pd_I x4, pd_J 0, pd_N, pd_N, pd_N, pd_N, pd_N, pd_N]) dL_law_54 (by decide) rfl ?_
      refine pd_iconst dL_law_56 (by decide) ?_
      refine pd_istore (L' := [pd_R (-60), pd_R x1, pd_J x2, pd_N, pd_I x4, pd_J 0, pd_N, pd_I 0, pd_N, pd_N, pd_N, pd_N]) dL_law_57 (by decide) rfl ?_
      refine pd_iconst dL_law_59 (by decide) ?_
      refine pd_istore (L' := [pd_R (-60), pd_R x1, pd_J x2, pd_N, pd_I x4, pd_J 0, pd_N, pd_I 0, pd_I 0, pd_N, pd_N, pd_N]) dL_law_60 (by decide) rfl ?_
      exact pd_weak (L' := [pd_R (-60), pd_R x1, pd_J x2, pd_N, pd_I x4, pd_J 0, pd_N, pd_I 0, pd_I 0, pd_N, pd_N, pd_N]) ⟨Or.inr rfl, Or.inr rfl, Or.inr rfl, Or.inr rfl, Or.inr rfl, Or.inr rfl, Or.inr rfl, Or.inr rfl, Or.inr rfl, Or.inr rfl, Or.inr rfl, Or.inr rfl, trivial⟩ (pkL_law_b62 E l hLs hxs ih n _ _ (by omega) (by omega) _ _ _ _ _ _ _ _ hf)
set_option maxHeartbeats 8000000 in
set_option maxRecDepth 10000000 in
theorem pkL_law (E : pd_E) (l : Launch) {Ls : Int} {xs : Int → Int} (hLs : Ls = (E.2.2.2 21 : Nat) ∧ Ls < 2147483648) (hxs : ∀ j : Int, 0 ≤ j → j < Ls → xs j = (Int32.ofNat (E.2.2.2 (22 + j.toNat))).toInt) {n : Nat} {sh : pd_S} {F : pd_F} (cells slots : Nat) (hc0 : cells ≤ 0) (hs0 : slots ≤ 0) (hf : pfL_law Ls xs n sh F = some 1) : pd_V E l room_1 (RL, cL_law, 12, ret, "law") (pd_Ql E) true cells slots sh F 0 [pd_R (-60), pd_N, pd_N, pd_N, pd_N, pd_N, pd_N, pd_N, pd_N, pd_N, pd_N, pd_N] [] := by
  unfold pfL_law at hf
  refine pd_new dL_law_0 (show vwCl[11]? = some (RX11, TX11, 10) from rfl) pin_11 tyX11_ok pq_1051 pq_1052 pq_1053 (by decide) ⟨by show _ ≤ 600086; omega, by show _ ≤ 7301442; omega⟩ ?_
  refine pd_topR (fun o112 eo112 => ?_)
  have hf := pd_lt hf eo112
  refine pd_topF (fun F111 eF111 => ?_)
  have hf := pd_lt hf eF111
  refine pd_topS (fun sh110 esh110 => ?_)
  have hf := pd_lt hf esh110
  clear esh110 eF111 eo112
  refine pd_dup dL_law_3 rfl ?_
  obtain ⟨hg114, hf⟩ := pd_ig hf
  obtain ⟨sh115, F113, hr, hf⟩ := pd_ob2 hf
  refine pd_callI (pkX11_init l hr) dL_law_4 pq_1054 pq_1057 rfl hg114 (pd_okL (by decide) (by decide) (by omega) (by omega) pq_1055 pq_1056 (by decide) (show (parseMethodDescriptor yX11_init.desc).map (fun d => d.parameters.length) = some 0 from by decide +kernel)) (Nat.le_of_ble_eq_true rfl) rfl ?_
  obtain ⟨hg116, hf⟩ := pd_ig hf
  refine pd_astore_n (L' := [pd_R (-60), pd_R o112, pd_N, pd_N, pd_N, pd_N, pd_N, pd_N, pd_N, pd_N, pd_N, pd_N]) dL_law_7 rfl (by decide) hg116 rfl ?_
  refine pd_aload_n (i := 1) dL_law_8 rfl rfl ?_
  refine pd_iconst dL_law_9 (by decide) ?_
  obtain ⟨hg118, hf⟩ := pd_ig hf
  obtain ⟨r119, F117, hr, hf⟩ := pd_ob2 hf
  refine pd_callV (pkX11_all l hr) dL_law_10 pq_1046 pq_1049 pq_1050 (show vwCl[11]? = some (yX11_all.cls, TX11, 10) from rfl) hg118 (pd_okL (by decide) (by decide) (by omega) (by omega) pq_1047 pq_1048 (by decide) (show (parseMethodDescriptor yX11_all.desc).map (fun d => d.parameters.length) = some 1 from by decide +kernel)) (Nat.le_of_ble_eq_true rfl) rfl ?_
  refine pd_lconst (x := 0) dL_law_13 (by decide) ?_
  refine pd_lcmp_ne (tgt := 36) dL_law_14 dL_law_15 (by decide) (fun hc => ?_) (fun hc => ?_)
  · have hf := pd_ip hf hc
    refine pd_iconst dL_law_36 (by decide) ?_
    exact absurd (pd_inj1 hf) (by decide)
  · have hf := pd_iq hf hc
    refine pd_aload_n (i := 1) dL_law_18 rfl rfl ?_
    refine pd_iconst dL_law_19 (by decide) ?_
    refine pd_iconst dL_law_20 (by decide) ?_
    obtain ⟨r121, F120, hr, hf⟩ := pd_ob2 hf
    refine pd_callV (pkX11_tell l hr) dL_law_21 pq_965 pq_968 pq_969 (show vwCl[11]? = some (yX11_tell.cls, TX11, 10) from rfl) hg118 (pd_okL (by decide) (by decide) (by omega) (by omega) pq_966 pq_967 (by decide) (show (parseMethodDescriptor yX11_tell.desc).map (fun d => d.parameters.length) = some 2 from by decide +kernel)) (Nat.le_of_ble_eq_true rfl) rfl ?_
    refine pd_iconst dL_law_24 (by decide) ?_
    refine pd_icmp_ne (tgt := 36) dL_law_25 (by decide) (fun hc => ?_) (fun hc => ?_)
    · have hf := pd_ip hf hc
      refine pd_iconst dL_law_36 (by decide) ?_
      exact absurd (pd_inj1 hf) (by decide)
    · have hf := pd_iq hf hc
      refine pd_aload_n (i := 1) dL_law_28 rfl rfl ?_
      refine pd_aload_n (i := 0) dL_law_29 rfl rfl ?_
      obtain ⟨r124, sh123, F122, hr, hf⟩ := pd_ob3 hf
      refine pd_callSE (pkL_begins E l hLs hxs hr) dL_law_30 pq_1058 pq_1061 (pd_okL (by decide) (by decide) (by omega) (by omega) pq_1059 pq_1060 (by decide) (show (parseMethodDescriptor yL_begins.desc).map (fun d => d.parameters.length) = some 2 from by decide +kernel)) (Nat.le_of_ble_eq_true rfl) rfl ?_
      refine pd_if_ne (tgt := 38) dL_law_33 (by decide) (fun hc => ?_) (fun hc => ?_)
      · have hf := pd_ip hf hc
        refine pd_lconst (x := 0) dL_law_38 (by decide) ?_
        refine pd_lstore_n (L' := [pd_R (-60), pd_R o112, pd_J 0, pd_N, pd_N, pd_N, pd_N, pd_N, pd_N, pd_N, pd_N, pd_N]) dL_law_39 rfl (by decide) rfl ?_
        refine pd_iconst dL_law_40 (by decide) ?_
        refine pd_istore (L' := [pd_R (-60), pd_R o112, pd_J 0, pd_N, pd_I 0, pd_N, pd_N, pd_N, pd_N, pd_N, pd_N, pd_N]) dL_law_41 (by decide) rfl ?_
        exact pd_weak (L' := [pd_R (-60), pd_R o112, pd_J 0, pd_N, pd_I 0, pd_N, pd_N, pd_N, pd_N, pd_N, pd_N, pd_N]) ⟨Or.inr rfl, Or.inr rfl, Or.inr rfl, Or.inr rfl, Or.inr rfl, Or.inr rfl, Or.inr rfl, Or.inr rfl, Or.inr rfl, Or.inr rfl, Or.inr rfl, Or.inr rfl, trivial⟩ (pkL_law_b43 E l hLs hxs n _ _ (by omega) (by omega) _ _ _ _ _ hf)
      · have hf := pd_iq hf hc
        refine pd_iconst dL_law_36 (by decide) ?_
        exact absurd (pd_inj1 hf) (by decide)
