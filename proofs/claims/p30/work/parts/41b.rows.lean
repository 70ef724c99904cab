theorem dL_isPaid_215 : decode cL_isPaid 215 = .ok (.aload_n 0, 1) := by decide +kernel
theorem dL_isPaid_216 : decode cL_isPaid 216 = .ok (.iload 9, 2) := by decide +kernel
theorem dL_isPaid_218 : decode cL_isPaid 218 = .ok (.iload 11, 2) := by decide +kernel
theorem dL_isPaid_220 : decode cL_isPaid 220 = .ok (.invokevirtual 175, 3) := by decide +kernel
theorem dL_isPaid_223 : decode cL_isPaid 223 = .ok (.lstore 12, 2) := by decide +kernel
theorem dL_isPaid_225 : decode cL_isPaid 225 = .ok (.lload 12, 2) := by decide +kernel
theorem dL_isPaid_227 : decode cL_isPaid 227 = .ok (.lconst 0, 1) := by decide +kernel
theorem dL_isPaid_228 : decode cL_isPaid 228 = .ok (.lcmp, 1) := by decide +kernel
theorem dL_isPaid_229 : decode cL_isPaid 229 = .ok (.ifCond .lt 17, 3) := by decide +kernel
theorem dL_isPaid_232 : decode cL_isPaid 232 = .ok (.lload 12, 2) := by decide +kernel
theorem dL_isPaid_234 : decode cL_isPaid 234 = .ok (.aload_n 0, 1) := by decide +kernel
theorem dL_isPaid_235 : decode cL_isPaid 235 = .ok (.iload 11, 2) := by decide +kernel
theorem dL_isPaid_237 : decode cL_isPaid 237 = .ok (.bipush 7, 2) := by decide +kernel
theorem dL_isPaid_239 : decode cL_isPaid 239 = .ok (.invokevirtual 146, 3) := by decide +kernel
theorem dL_isPaid_242 : decode cL_isPaid 242 = .ok (.lcmp, 1) := by decide +kernel
theorem dL_isPaid_243 : decode cL_isPaid 243 = .ok (.ifCond .le 5, 3) := by decide +kernel
theorem dL_isPaid_246 : decode cL_isPaid 246 = .ok (.iconst 0, 1) := by decide +kernel
theorem dL_isPaid_247 : decode cL_isPaid 247 = .ok (.ireturn, 1) := by decide +kernel
theorem dL_isPaid_248 : decode cL_isPaid 248 = .ok (.aload 10, 2) := by decide +kernel
theorem dL_isPaid_250 : decode cL_isPaid 250 = .ok (.aload_n 0, 1) := by decide +kernel
theorem dL_isPaid_251 : decode cL_isPaid 251 = .ok (.iload 11, 2) := by decide +kernel
theorem dL_isPaid_253 : decode cL_isPaid 253 = .ok (.bipush 8, 2) := by decide +kernel
theorem dL_isPaid_255 : decode cL_isPaid 255 = .ok (.invokevirtual 146, 3) := by decide +kernel
theorem dL_isPaid_258 : decode cL_isPaid 258 = .ok (.lconst 1, 1) := by decide +kernel
theorem dL_isPaid_259 : decode cL_isPaid 259 = .ok (.lcmp, 1) := by decide +kernel
theorem dL_isPaid_260 : decode cL_isPaid 260 = .ok (.ifCond .ne 7, 3) := by decide +kernel
theorem dL_isPaid_263 : decode cL_isPaid 263 = .ok (.iconst 2, 1) := by decide +kernel
theorem dL_isPaid_264 : decode cL_isPaid 264 = .ok (.goto 4, 3) := by decide +kernel
theorem dL_isPaid_267 : decode cL_isPaid 267 = .ok (.iconst 1, 1) := by decide +kernel
theorem dL_isPaid_268 : decode cL_isPaid 268 = .ok (.dup2, 1) := by decide +kernel
theorem dL_isPaid_269 : decode cL_isPaid 269 = .ok (.laload, 1) := by decide +kernel
theorem dL_isPaid_270 : decode cL_isPaid 270 = .ok (.lload 12, 2) := by decide +kernel
theorem dL_isPaid_272 : decode cL_isPaid 272 = .ok (.ladd, 1) := by decide +kernel
theorem dL_isPaid_273 : decode cL_isPaid 273 = .ok (.lastore, 1) := by decide +kernel
theorem dL_isPaid_274 : decode cL_isPaid 274 = .ok (.iinc 11 1, 3) := by decide +kernel
theorem dL_isPaid_277 : decode cL_isPaid 277 = .ok (.goto (-68), 3) := by decide +kernel
theorem dL_isPaid_280 : decode cL_isPaid 280 = .ok (.iload 9, 2) := by decide +kernel
theorem dL_isPaid_282 : decode cL_isPaid 282 = .ok (.i2l, 1) := by decide +kernel
theorem dL_isPaid_283 : decode cL_isPaid 283 = .ok (.lstore 11, 2) := by decide +kernel
theorem dL_isPaid_285 : decode cL_isPaid 285 = .ok (.iconst 0, 1) := by decide +kernel
theorem dL_isPaid_286 : decode cL_isPaid 286 = .ok (.istore 13, 2) := by decide +kernel
theorem dL_isPaid_288 : decode cL_isPaid 288 = .ok (.iload 13, 2) := by decide +kernel
theorem dL_isPaid_290 : decode cL_isPaid 290 = .ok (.iconst 3, 1) := by decide +kernel
theorem dL_isPaid_291 : decode cL_isPaid 291 = .ok (.if_icmp .ge 57, 3) := by decide +kernel
theorem dL_isPaid_294 : decode cL_isPaid 294 = .ok (.aload 10, 2) := by decide +kernel
theorem dL_isPaid_296 : decode cL_isPaid 296 = .ok (.iload 13, 2) := by decide +kernel
theorem dL_isPaid_298 : decode cL_isPaid 298 = .ok (.laload, 1) := by decide +kernel
theorem dL_isPaid_299 : decode cL_isPaid 299 = .ok (.lload 11, 2) := by decide +kernel
theorem dL_isPaid_301 : decode cL_isPaid 301 = .ok (.aload 7, 2) := by decide +kernel
theorem dL_isPaid_303 : decode cL_isPaid 303 = .ok (.iload 13, 2) := by decide +kernel
theorem dL_isPaid_305 : decode cL_isPaid 305 = .ok (.laload, 1) := by decide +kernel
theorem dL_isPaid_306 : decode cL_isPaid 306 = .ok (.invokestatic 150, 3) := by decide +kernel
theorem dL_isPaid_309 : decode cL_isPaid 309 = .ok (.lcmp, 1) := by decide +kernel
theorem dL_isPaid_310 : decode cL_isPaid 310 = .ok (.ifCond .eq 5, 3) := by decide +kernel
theorem dL_isPaid_313 : decode cL_isPaid 313 = .ok (.iconst 0, 1) := by decide +kernel
theorem dL_isPaid_314 : decode cL_isPaid 314 = .ok (.ireturn, 1) := by decide +kernel
theorem dL_isPaid_315 : decode cL_isPaid 315 = .ok (.lload 11, 2) := by decide +kernel
theorem dL_isPaid_317 : decode cL_isPaid 317 = .ok (.aload 10, 2) := by decide +kernel
theorem dL_isPaid_319 : decode cL_isPaid 319 = .ok (.iload 13, 2) := by decide +kernel
theorem dL_isPaid_321 : decode cL_isPaid 321 = .ok (.laload, 1) := by decide +kernel
theorem dL_isPaid_322 : decode cL_isPaid 322 = .ok (.lsub, 1) := by decide +kernel
theorem dL_isPaid_323 : decode cL_isPaid 323 = .ok (.lstore 11, 2) := by decide +kernel
theorem dL_isPaid_325 : decode cL_isPaid 325 = .ok (.aload 10, 2) := by decide +kernel
theorem dL_isPaid_327 : decode cL_isPaid 327 = .ok (.iload 13, 2) := by decide +kernel
theorem dL_isPaid_329 : decode cL_isPaid 329 = .ok (.laload, 1) := by decide +kernel
theorem dL_isPaid_330 : decode cL_isPaid 330 = .ok (.aload 7, 2) := by decide +kernel
theorem dL_isPaid_332 : decode cL_isPaid 332 = .ok (.iload 13, 2) := by decide +kernel
theorem dL_isPaid_334 : decode cL_isPaid 334 = .ok (.laload, 1) := by decide +kernel
theorem dL_isPaid_335 : decode cL_isPaid 335 = .ok (.lcmp, 1) := by decide +kernel
theorem dL_isPaid_336 : decode cL_isPaid 336 = .ok (.ifCond .ge 6, 3) := by decide +kernel
theorem dL_isPaid_339 : decode cL_isPaid 339 = .ok (.lconst 0, 1) := by decide +kernel
theorem dL_isPaid_340 : decode cL_isPaid 340 = .ok (.lstore 11, 2) := by decide +kernel
theorem dL_isPaid_342 : decode cL_isPaid 342 = .ok (.iinc 13 1, 3) := by decide +kernel
theorem dL_isPaid_345 : decode cL_isPaid 345 = .ok (.goto (-57), 3) := by decide +kernel
theorem dL_isPaid_348 : decode cL_isPaid 348 = .ok (.iinc 8 1, 3) := by decide +kernel
theorem dL_isPaid_351 : decode cL_isPaid 351 = .ok (.goto (-210), 3) := by decide +kernel
theorem dL_isPaid_354 : decode cL_isPaid 354 = .ok (.aload_n 0, 1) := by decide +kernel
theorem dL_isPaid_355 : decode cL_isPaid 355 = .ok (.iconst (-1), 1) := by decide +kernel
theorem dL_isPaid_356 : decode cL_isPaid 356 = .ok (.iconst 0, 1) := by decide +kernel
theorem dL_isPaid_357 : decode cL_isPaid 357 = .ok (.invokevirtual 175, 3) := by decide +kernel
theorem dL_isPaid_360 : decode cL_isPaid 360 = .ok (.ldc2_w 178, 3) := by decide +kernel
theorem dL_isPaid_363 : decode cL_isPaid 363 = .ok (.lcmp, 1) := by decide +kernel
theorem dL_isPaid_364 : decode cL_isPaid 364 = .ok (.ifCond .ne 32, 3) := by decide +kernel
theorem dL_isPaid_367 : decode cL_isPaid 367 = .ok (.aload_n 0, 1) := by decide +kernel
theorem dL_isPaid_368 : decode cL_isPaid 368 = .ok (.iconst 0, 1) := by decide +kernel
theorem dL_isPaid_369 : decode cL_isPaid 369 = .ok (.iload_n 1, 1) := by decide +kernel
theorem dL_isPaid_370 : decode cL_isPaid 370 = .ok (.invokevirtual 175, 3) := by decide +kernel
theorem dL_isPaid_373 : decode cL_isPaid 373 = .ok (.ldc2_w 178, 3) := by decide +kernel
theorem dL_isPaid_376 : decode cL_isPaid 376 = .ok (.lcmp, 1) := by decide +kernel
theorem dL_isPaid_377 : decode cL_isPaid 377 = .ok (.ifCond .ne 19, 3) := by decide +kernel
theorem dL_isPaid_380 : decode cL_isPaid 380 = .ok (.aload_n 0, 1) := by decide +kernel
theorem dL_isPaid_381 : decode cL_isPaid 381 = .ok (.iconst 3, 1) := by decide +kernel
theorem dL_isPaid_382 : decode cL_isPaid 382 = .ok (.invokevirtual 169, 3) := by decide +kernel
theorem dL_isPaid_385 : decode cL_isPaid 385 = .ok (.ldc2_w 159, 3) := by decide +kernel
theorem dL_isPaid_388 : decode cL_isPaid 388 = .ok (.lcmp, 1) := by decide +kernel
theorem dL_isPaid_389 : decode cL_isPaid 389 = .ok (.ifCond .ne 7, 3) := by decide +kernel
theorem dL_isPaid_392 : decode cL_isPaid 392 = .ok (.iconst 1, 1) := by decide +kernel
theorem dL_isPaid_393 : decode cL_isPaid 393 = .ok (.goto 4, 3) := by decide +kernel
theorem dL_isPaid_396 : decode cL_isPaid 396 = .ok (.iconst 0, 1) := by decide +kernel
theorem dL_isPaid_397 : decode cL_isPaid 397 = .ok (.ireturn, 1) := by decide +kernel
theorem dL_isRanked_0 : decode cL_isRanked 0 = .ok (.iconst 0, 1) := by decide +kernel
theorem dL_isRanked_1 : decode cL_isRanked 1 = .ok (.istore_n 2, 1) := by decide +kernel
theorem dL_isRanked_2 : decode cL_isRanked 2 = .ok (.iconst 0, 1) := by decide +kernel
theorem dL_isRanked_3 : decode cL_isRanked 3 = .ok (.istore_n 3, 1) := by decide +kernel
theorem dL_isRanked_4 : decode cL_isRanked 4 = .ok (.iload_n 3, 1) := by decide +kernel
theorem dL_isRanked_5 : decode cL_isRanked 5 = .ok (.iload_n 1, 1) := by decide +kernel
theorem dL_isRanked_6 : decode cL_isRanked 6 = .ok (.if_icmp .ge 105, 3) := by decide +kernel
theorem dL_isRanked_9 : decode cL_isRanked 9 = .ok (.aload_n 0, 1) := by decide +kernel
theorem dL_isRanked_10 : decode cL_isRanked 10 = .ok (.iload_n 3, 1) := by decide +kernel
theorem dL_isRanked_11 : decode cL_isRanked 11 = .ok (.invokevirtual 180, 3) := by decide +kernel
theorem dL_isRanked_14 : decode cL_isRanked 14 = .ok (.istore 4, 2) := by decide +kernel
theorem dL_isRanked_16 : decode cL_isRanked 16 = .ok (.iload 4, 2) := by decide +kernel
theorem dL_isRanked_18 : decode cL_isRanked 18 = .ok (.ifCond .lt 13, 3) := by decide +kernel
theorem dL_isRanked_21 : decode cL_isRanked 21 = .ok (.iload_n 2, 1) := by decide +kernel
theorem dL_isRanked_22 : decode cL_isRanked 22 = .ok (.iload 4, 2) := by decide +kernel
theorem dL_isRanked_24 : decode cL_isRanked 24 = .ok (.ishr, 1) := by decide +kernel
theorem dL_isRanked_25 : decode cL_isRanked 25 = .ok (.iconst 1, 1) := by decide +kernel
theorem dL_isRanked_26 : decode cL_isRanked 26 = .ok (.iand, 1) := by decide +kernel
theorem dL_isRanked_27 : decode cL_isRanked 27 = .ok (.iconst 1, 1) := by decide +kernel
theorem dL_isRanked_28 : decode cL_isRanked 28 = .ok (.if_icmp .ne 5, 3) := by decide +kernel
theorem dL_isRanked_31 : decode cL_isRanked 31 = .ok (.iconst 0, 1) := by decide +kernel
theorem dL_isRanked_32 : decode cL_isRanked 32 = .ok (.ireturn, 1) := by decide +kernel
theorem dL_isRanked_33 : decode cL_isRanked 33 = .ok (.iload_n 2, 1) := by decide +kernel
theorem dL_isRanked_34 : decode cL_isRanked 34 = .ok (.iconst 1, 1) := by decide +kernel
theorem dL_isRanked_35 : decode cL_isRanked 35 = .ok (.iload 4, 2) := by decide +kernel
theorem dL_isRanked_37 : decode cL_isRanked 37 = .ok (.ishl, 1) := by decide +kernel
theorem dL_isRanked_38 : decode cL_isRanked 38 = .ok (.ior, 1) := by decide +kernel
theorem dL_isRanked_39 : decode cL_isRanked 39 = .ok (.istore_n 2, 1) := by decide +kernel
theorem dL_isRanked_40 : decode cL_isRanked 40 = .ok (.iload_n 3, 1) := by decide +kernel
theorem dL_isRanked_41 : decode cL_isRanked 41 = .ok (.ifCond .ne 6, 3) := by decide +kernel
