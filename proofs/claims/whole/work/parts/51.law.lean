theorem dL_law_0 : decode cL_law 0 = .ok (.new 8, 3) := by decide +kernel
theorem dL_law_3 : decode cL_law 3 = .ok (.dup, 1) := by decide +kernel
theorem dL_law_4 : decode cL_law 4 = .ok (.invokespecial 23, 3) := by decide +kernel
theorem dL_law_7 : decode cL_law 7 = .ok (.astore_n 1, 1) := by decide +kernel
theorem dL_law_8 : decode cL_law 8 = .ok (.new 24, 3) := by decide +kernel
theorem dL_law_11 : decode cL_law 11 = .ok (.dup, 1) := by decide +kernel
theorem dL_law_12 : decode cL_law 12 = .ok (.invokespecial 26, 3) := by decide +kernel
theorem dL_law_15 : decode cL_law 15 = .ok (.astore_n 2, 1) := by decide +kernel
theorem dL_law_16 : decode cL_law 16 = .ok (.iconst 1, 1) := by decide +kernel
theorem dL_law_17 : decode cL_law 17 = .ok (.newarray .long, 2) := by decide +kernel
theorem dL_law_19 : decode cL_law 19 = .ok (.astore_n 3, 1) := by decide +kernel
theorem dL_law_20 : decode cL_law 20 = .ok (.iconst 0, 1) := by decide +kernel
theorem dL_law_21 : decode cL_law 21 = .ok (.istore 4, 2) := by decide +kernel
theorem dL_law_23 : decode cL_law 23 = .ok (.iload 4, 2) := by decide +kernel
theorem dL_law_25 : decode cL_law 25 = .ok (.aload_n 0, 1) := by decide +kernel
theorem dL_law_26 : decode cL_law 26 = .ok (.arraylength, 1) := by decide +kernel
theorem dL_law_27 : decode cL_law 27 = .ok (.bipush 6, 2) := by decide +kernel
theorem dL_law_29 : decode cL_law 29 = .ok (.isub, 1) := by decide +kernel
theorem dL_law_30 : decode cL_law 30 = .ok (.if_icmp .gt 1172, 3) := by decide +kernel
theorem dL_law_33 : decode cL_law 33 = .ok (.aload_n 0, 1) := by decide +kernel
theorem dL_law_34 : decode cL_law 34 = .ok (.iload 4, 2) := by decide +kernel
theorem dL_law_36 : decode cL_law 36 = .ok (.iaload, 1) := by decide +kernel
theorem dL_law_37 : decode cL_law 37 = .ok (.bipush 31, 2) := by decide +kernel
theorem dL_law_39 : decode cL_law 39 = .ok (.iand, 1) := by decide +kernel
theorem dL_law_40 : decode cL_law 40 = .ok (.tableswitch 1156 0 26 #[124, 197, 222, 259, 296, 333, 401, 426, 464, 490, 515, 553, 579, 605, 654, 680, 735, 802, 839, 876, 913, 950, 975, 1012, 1065, 1078, 1131], 124) := by decide +kernel
theorem dL_law_164 : decode cL_law 164 = .ok (.aload_n 1, 1) := by decide +kernel
theorem dL_law_165 : decode cL_law 165 = .ok (.aload_n 0, 1) := by decide +kernel
theorem dL_law_166 : decode cL_law 166 = .ok (.iload 4, 2) := by decide +kernel
theorem dL_law_168 : decode cL_law 168 = .ok (.iconst 1, 1) := by decide +kernel
theorem dL_law_169 : decode cL_law 169 = .ok (.iadd, 1) := by decide +kernel
theorem dL_law_170 : decode cL_law 170 = .ok (.iaload, 1) := by decide +kernel
theorem dL_law_171 : decode cL_law 171 = .ok (.aload_n 0, 1) := by decide +kernel
theorem dL_law_172 : decode cL_law 172 = .ok (.iload 4, 2) := by decide +kernel
theorem dL_law_174 : decode cL_law 174 = .ok (.iconst 2, 1) := by decide +kernel
theorem dL_law_175 : decode cL_law 175 = .ok (.iadd, 1) := by decide +kernel
theorem dL_law_176 : decode cL_law 176 = .ok (.iaload, 1) := by decide +kernel
theorem dL_law_177 : decode cL_law 177 = .ok (.aload_n 0, 1) := by decide +kernel
theorem dL_law_178 : decode cL_law 178 = .ok (.iload 4, 2) := by decide +kernel
theorem dL_law_180 : decode cL_law 180 = .ok (.iconst 3, 1) := by decide +kernel
theorem dL_law_181 : decode cL_law 181 = .ok (.iadd, 1) := by decide +kernel
theorem dL_law_182 : decode cL_law 182 = .ok (.iaload, 1) := by decide +kernel
theorem dL_law_183 : decode cL_law 183 = .ok (.aload_n 0, 1) := by decide +kernel
theorem dL_law_184 : decode cL_law 184 = .ok (.iload 4, 2) := by decide +kernel
theorem dL_law_186 : decode cL_law 186 = .ok (.iconst 4, 1) := by decide +kernel
theorem dL_law_187 : decode cL_law 187 = .ok (.iadd, 1) := by decide +kernel
theorem dL_law_188 : decode cL_law 188 = .ok (.iaload, 1) := by decide +kernel
theorem dL_law_189 : decode cL_law 189 = .ok (.aload_n 0, 1) := by decide +kernel
theorem dL_law_190 : decode cL_law 190 = .ok (.iload 4, 2) := by decide +kernel
theorem dL_law_192 : decode cL_law 192 = .ok (.iconst 5, 1) := by decide +kernel
theorem dL_law_193 : decode cL_law 193 = .ok (.iadd, 1) := by decide +kernel
theorem dL_law_194 : decode cL_law 194 = .ok (.iaload, 1) := by decide +kernel
theorem dL_law_195 : decode cL_law 195 = .ok (.invokevirtual 27, 3) := by decide +kernel
theorem dL_law_198 : decode cL_law 198 = .ok (.aload_n 2, 1) := by decide +kernel
theorem dL_law_199 : decode cL_law 199 = .ok (.aload_n 0, 1) := by decide +kernel
theorem dL_law_200 : decode cL_law 200 = .ok (.iload 4, 2) := by decide +kernel
theorem dL_law_202 : decode cL_law 202 = .ok (.iconst 1, 1) := by decide +kernel
theorem dL_law_203 : decode cL_law 203 = .ok (.iadd, 1) := by decide +kernel
theorem dL_law_204 : decode cL_law 204 = .ok (.iaload, 1) := by decide +kernel
theorem dL_law_205 : decode cL_law 205 = .ok (.aload_n 0, 1) := by decide +kernel
theorem dL_law_206 : decode cL_law 206 = .ok (.iload 4, 2) := by decide +kernel
theorem dL_law_208 : decode cL_law 208 = .ok (.iconst 2, 1) := by decide +kernel
theorem dL_law_209 : decode cL_law 209 = .ok (.iadd, 1) := by decide +kernel
theorem dL_law_210 : decode cL_law 210 = .ok (.iaload, 1) := by decide +kernel
theorem dL_law_211 : decode cL_law 211 = .ok (.aload_n 0, 1) := by decide +kernel
theorem dL_law_212 : decode cL_law 212 = .ok (.iload 4, 2) := by decide +kernel
theorem dL_law_214 : decode cL_law 214 = .ok (.iconst 3, 1) := by decide +kernel
theorem dL_law_215 : decode cL_law 215 = .ok (.iadd, 1) := by decide +kernel
theorem dL_law_216 : decode cL_law 216 = .ok (.iaload, 1) := by decide +kernel
theorem dL_law_217 : decode cL_law 217 = .ok (.aload_n 0, 1) := by decide +kernel
theorem dL_law_218 : decode cL_law 218 = .ok (.iload 4, 2) := by decide +kernel
theorem dL_law_220 : decode cL_law 220 = .ok (.iconst 4, 1) := by decide +kernel
theorem dL_law_221 : decode cL_law 221 = .ok (.iadd, 1) := by decide +kernel
theorem dL_law_222 : decode cL_law 222 = .ok (.iaload, 1) := by decide +kernel
theorem dL_law_223 : decode cL_law 223 = .ok (.aload_n 0, 1) := by decide +kernel
theorem dL_law_224 : decode cL_law 224 = .ok (.iload 4, 2) := by decide +kernel
theorem dL_law_226 : decode cL_law 226 = .ok (.iconst 5, 1) := by decide +kernel
theorem dL_law_227 : decode cL_law 227 = .ok (.iadd, 1) := by decide +kernel
theorem dL_law_228 : decode cL_law 228 = .ok (.iaload, 1) := by decide +kernel
theorem dL_law_229 : decode cL_law 229 = .ok (.invokevirtual 31, 3) := by decide +kernel
theorem dL_law_232 : decode cL_law 232 = .ok (.if_icmp .eq 964, 3) := by decide +kernel
theorem dL_law_235 : decode cL_law 235 = .ok (.iconst 0, 1) := by decide +kernel
theorem dL_law_236 : decode cL_law 236 = .ok (.ireturn, 1) := by decide +kernel
theorem dL_law_237 : decode cL_law 237 = .ok (.aload_n 1, 1) := by decide +kernel
theorem dL_law_238 : decode cL_law 238 = .ok (.aload_n 0, 1) := by decide +kernel
theorem dL_law_239 : decode cL_law 239 = .ok (.iload 4, 2) := by decide +kernel
theorem dL_law_241 : decode cL_law 241 = .ok (.iconst 1, 1) := by decide +kernel
theorem dL_law_242 : decode cL_law 242 = .ok (.iadd, 1) := by decide +kernel
theorem dL_law_243 : decode cL_law 243 = .ok (.iaload, 1) := by decide +kernel
theorem dL_law_244 : decode cL_law 244 = .ok (.invokevirtual 32, 3) := by decide +kernel
theorem dL_law_247 : decode cL_law 247 = .ok (.aload_n 2, 1) := by decide +kernel
theorem dL_law_248 : decode cL_law 248 = .ok (.aload_n 0, 1) := by decide +kernel
theorem dL_law_249 : decode cL_law 249 = .ok (.iload 4, 2) := by decide +kernel
theorem dL_law_251 : decode cL_law 251 = .ok (.iconst 1, 1) := by decide +kernel
theorem dL_law_252 : decode cL_law 252 = .ok (.iadd, 1) := by decide +kernel
theorem dL_law_253 : decode cL_law 253 = .ok (.iaload, 1) := by decide +kernel
theorem dL_law_254 : decode cL_law 254 = .ok (.invokevirtual 36, 3) := by decide +kernel
theorem dL_law_257 : decode cL_law 257 = .ok (.if_icmp .eq 939, 3) := by decide +kernel
theorem dL_law_260 : decode cL_law 260 = .ok (.iconst 0, 1) := by decide +kernel
theorem dL_law_261 : decode cL_law 261 = .ok (.ireturn, 1) := by decide +kernel
theorem dL_law_262 : decode cL_law 262 = .ok (.aload_n 1, 1) := by decide +kernel
theorem dL_law_263 : decode cL_law 263 = .ok (.aload_n 0, 1) := by decide +kernel
theorem dL_law_264 : decode cL_law 264 = .ok (.iload 4, 2) := by decide +kernel
theorem dL_law_266 : decode cL_law 266 = .ok (.iconst 1, 1) := by decide +kernel
theorem dL_law_267 : decode cL_law 267 = .ok (.iadd, 1) := by decide +kernel
theorem dL_law_268 : decode cL_law 268 = .ok (.iaload, 1) := by decide +kernel
theorem dL_law_269 : decode cL_law 269 = .ok (.aload_n 0, 1) := by decide +kernel
theorem dL_law_270 : decode cL_law 270 = .ok (.iload 4, 2) := by decide +kernel
theorem dL_law_272 : decode cL_law 272 = .ok (.iconst 2, 1) := by decide +kernel
theorem dL_law_273 : decode cL_law 273 = .ok (.iadd, 1) := by decide +kernel
theorem dL_law_274 : decode cL_law 274 = .ok (.iaload, 1) := by decide +kernel
theorem dL_law_275 : decode cL_law 275 = .ok (.invokevirtual 37, 3) := by decide +kernel
theorem dL_law_278 : decode cL_law 278 = .ok (.aload_n 2, 1) := by decide +kernel
theorem dL_law_279 : decode cL_law 279 = .ok (.aload_n 0, 1) := by decide +kernel
theorem dL_law_280 : decode cL_law 280 = .ok (.iload 4, 2) := by decide +kernel
theorem dL_law_282 : decode cL_law 282 = .ok (.iconst 1, 1) := by decide +kernel
theorem dL_law_283 : decode cL_law 283 = .ok (.iadd, 1) := by decide +kernel
theorem dL_law_284 : decode cL_law 284 = .ok (.iaload, 1) := by decide +kernel
theorem dL_law_285 : decode cL_law 285 = .ok (.aload_n 0, 1) := by decide +kernel
theorem dL_law_286 : decode cL_law 286 = .ok (.iload 4, 2) := by decide +kernel
theorem dL_law_288 : decode cL_law 288 = .ok (.iconst 2, 1) := by decide +kernel
theorem dL_law_289 : decode cL_law 289 = .ok (.iadd, 1) := by decide +kernel
theorem dL_law_290 : decode cL_law 290 = .ok (.iaload, 1) := by decide +kernel
theorem dL_law_291 : decode cL_law 291 = .ok (.invokevirtual 40, 3) := by decide +kernel
theorem dL_law_294 : decode cL_law 294 = .ok (.if_icmp .eq 902, 3) := by decide +kernel
theorem dL_law_297 : decode cL_law 297 = .ok (.iconst 0, 1) := by decide +kernel
theorem dL_law_298 : decode cL_law 298 = .ok (.ireturn, 1) := by decide +kernel
theorem dL_law_299 : decode cL_law 299 = .ok (.aload_n 1, 1) := by decide +kernel
theorem dL_law_300 : decode cL_law 300 = .ok (.aload_n 0, 1) := by decide +kernel
theorem dL_law_301 : decode cL_law 301 = .ok (.iload 4, 2) := by decide +kernel
theorem dL_law_303 : decode cL_law 303 = .ok (.iconst 1, 1) := by decide +kernel
theorem dL_law_304 : decode cL_law 304 = .ok (.iadd, 1) := by decide +kernel
theorem dL_law_305 : decode cL_law 305 = .ok (.iaload, 1) := by decide +kernel
theorem dL_law_306 : decode cL_law 306 = .ok (.aload_n 0, 1) := by decide +kernel
theorem dL_law_307 : decode cL_law 307 = .ok (.iload 4, 2) := by decide +kernel
theorem dL_law_309 : decode cL_law 309 = .ok (.iconst 2, 1) := by decide +kernel
theorem dL_law_310 : decode cL_law 310 = .ok (.iadd, 1) := by decide +kernel
theorem dL_law_311 : decode cL_law 311 = .ok (.iaload, 1) := by decide +kernel
theorem dL_law_312 : decode cL_law 312 = .ok (.invokevirtual 41, 3) := by decide +kernel
theorem dL_law_315 : decode cL_law 315 = .ok (.aload_n 2, 1) := by decide +kernel
theorem dL_law_316 : decode cL_law 316 = .ok (.aload_n 0, 1) := by decide +kernel
theorem dL_law_317 : decode cL_law 317 = .ok (.iload 4, 2) := by decide +kernel
theorem dL_law_319 : decode cL_law 319 = .ok (.iconst 1, 1) := by decide +kernel
theorem dL_law_320 : decode cL_law 320 = .ok (.iadd, 1) := by decide +kernel
theorem dL_law_321 : decode cL_law 321 = .ok (.iaload, 1) := by decide +kernel
theorem dL_law_322 : decode cL_law 322 = .ok (.aload_n 0, 1) := by decide +kernel
theorem dL_law_323 : decode cL_law 323 = .ok (.iload 4, 2) := by decide +kernel
theorem dL_law_325 : decode cL_law 325 = .ok (.iconst 2, 1) := by decide +kernel
theorem dL_law_326 : decode cL_law 326 = .ok (.iadd, 1) := by decide +kernel
theorem dL_law_327 : decode cL_law 327 = .ok (.iaload, 1) := by decide +kernel
theorem dL_law_328 : decode cL_law 328 = .ok (.invokevirtual 44, 3) := by decide +kernel
theorem dL_law_331 : decode cL_law 331 = .ok (.if_icmp .eq 865, 3) := by decide +kernel
theorem dL_law_334 : decode cL_law 334 = .ok (.iconst 0, 1) := by decide +kernel
theorem dL_law_335 : decode cL_law 335 = .ok (.ireturn, 1) := by decide +kernel
theorem dL_law_336 : decode cL_law 336 = .ok (.aload_n 1, 1) := by decide +kernel
theorem dL_law_337 : decode cL_law 337 = .ok (.aload_n 0, 1) := by decide +kernel
theorem dL_law_338 : decode cL_law 338 = .ok (.iload 4, 2) := by decide +kernel
theorem dL_law_340 : decode cL_law 340 = .ok (.iconst 1, 1) := by decide +kernel
theorem dL_law_341 : decode cL_law 341 = .ok (.iadd, 1) := by decide +kernel
theorem dL_law_342 : decode cL_law 342 = .ok (.iaload, 1) := by decide +kernel
theorem dL_law_343 : decode cL_law 343 = .ok (.aload_n 0, 1) := by decide +kernel
theorem dL_law_344 : decode cL_law 344 = .ok (.iload 4, 2) := by decide +kernel
theorem dL_law_346 : decode cL_law 346 = .ok (.iconst 2, 1) := by decide +kernel
theorem dL_law_347 : decode cL_law 347 = .ok (.iadd, 1) := by decide +kernel
theorem dL_law_348 : decode cL_law 348 = .ok (.iaload, 1) := by decide +kernel
theorem dL_law_349 : decode cL_law 349 = .ok (.invokevirtual 45, 3) := by decide +kernel
theorem dL_law_352 : decode cL_law 352 = .ok (.aload_n 2, 1) := by decide +kernel
theorem dL_law_353 : decode cL_law 353 = .ok (.aload_n 0, 1) := by decide +kernel
theorem dL_law_354 : decode cL_law 354 = .ok (.iload 4, 2) := by decide +kernel
theorem dL_law_356 : decode cL_law 356 = .ok (.iconst 1, 1) := by decide +kernel
theorem dL_law_357 : decode cL_law 357 = .ok (.iadd, 1) := by decide +kernel
theorem dL_law_358 : decode cL_law 358 = .ok (.iaload, 1) := by decide +kernel
theorem dL_law_359 : decode cL_law 359 = .ok (.aload_n 0, 1) := by decide +kernel
theorem dL_law_360 : decode cL_law 360 = .ok (.iload 4, 2) := by decide +kernel
theorem dL_law_362 : decode cL_law 362 = .ok (.iconst 2, 1) := by decide +kernel
theorem dL_law_363 : decode cL_law 363 = .ok (.iadd, 1) := by decide +kernel
theorem dL_law_364 : decode cL_law 364 = .ok (.iaload, 1) := by decide +kernel
theorem dL_law_365 : decode cL_law 365 = .ok (.invokevirtual 48, 3) := by decide +kernel
theorem dL_law_368 : decode cL_law 368 = .ok (.if_icmp .eq 828, 3) := by decide +kernel
theorem dL_law_371 : decode cL_law 371 = .ok (.iconst 0, 1) := by decide +kernel
theorem dL_law_372 : decode cL_law 372 = .ok (.ireturn, 1) := by decide +kernel
theorem dL_law_373 : decode cL_law 373 = .ok (.aload_n 1, 1) := by decide +kernel
theorem dL_law_374 : decode cL_law 374 = .ok (.aload_n 0, 1) := by decide +kernel
theorem dL_law_375 : decode cL_law 375 = .ok (.iload 4, 2) := by decide +kernel
theorem dL_law_377 : decode cL_law 377 = .ok (.iconst 1, 1) := by decide +kernel
theorem dL_law_378 : decode cL_law 378 = .ok (.iadd, 1) := by decide +kernel
theorem dL_law_379 : decode cL_law 379 = .ok (.iaload, 1) := by decide +kernel
theorem dL_law_380 : decode cL_law 380 = .ok (.aload_n 0, 1) := by decide +kernel
theorem dL_law_381 : decode cL_law 381 = .ok (.iload 4, 2) := by decide +kernel
theorem dL_law_383 : decode cL_law 383 = .ok (.iconst 2, 1) := by decide +kernel
theorem dL_law_384 : decode cL_law 384 = .ok (.iadd, 1) := by decide +kernel
theorem dL_law_385 : decode cL_law 385 = .ok (.iaload, 1) := by decide +kernel
theorem dL_law_386 : decode cL_law 386 = .ok (.aload_n 3, 1) := by decide +kernel
theorem dL_law_387 : decode cL_law 387 = .ok (.invokestatic 49, 3) := by decide +kernel
theorem dL_law_390 : decode cL_law 390 = .ok (.istore 5, 2) := by decide +kernel
theorem dL_law_392 : decode cL_law 392 = .ok (.aload_n 2, 1) := by decide +kernel
theorem dL_law_393 : decode cL_law 393 = .ok (.aload_n 0, 1) := by decide +kernel
theorem dL_law_394 : decode cL_law 394 = .ok (.iload 4, 2) := by decide +kernel
theorem dL_law_396 : decode cL_law 396 = .ok (.iconst 1, 1) := by decide +kernel
theorem dL_law_397 : decode cL_law 397 = .ok (.iadd, 1) := by decide +kernel
theorem dL_law_398 : decode cL_law 398 = .ok (.iaload, 1) := by decide +kernel
theorem dL_law_399 : decode cL_law 399 = .ok (.aload_n 0, 1) := by decide +kernel
theorem dL_law_400 : decode cL_law 400 = .ok (.iload 4, 2) := by decide +kernel
theorem dL_law_402 : decode cL_law 402 = .ok (.iconst 2, 1) := by decide +kernel
theorem dL_law_403 : decode cL_law 403 = .ok (.iadd, 1) := by decide +kernel
theorem dL_law_404 : decode cL_law 404 = .ok (.iaload, 1) := by decide +kernel
theorem dL_law_405 : decode cL_law 405 = .ok (.invokevirtual 54, 3) := by decide +kernel
theorem dL_law_408 : decode cL_law 408 = .ok (.istore 6, 2) := by decide +kernel
theorem dL_law_410 : decode cL_law 410 = .ok (.aload_n 2, 1) := by decide +kernel
theorem dL_law_411 : decode cL_law 411 = .ok (.invokevirtual 55, 3) := by decide +kernel
theorem dL_law_414 : decode cL_law 414 = .ok (.iload 5, 2) := by decide +kernel
theorem dL_law_416 : decode cL_law 416 = .ok (.if_icmp .eq 5, 3) := by decide +kernel
theorem dL_law_419 : decode cL_law 419 = .ok (.iconst 0, 1) := by decide +kernel
theorem dL_law_420 : decode cL_law 420 = .ok (.ireturn, 1) := by decide +kernel
theorem dL_law_421 : decode cL_law 421 = .ok (.iload 5, 2) := by decide +kernel
theorem dL_law_423 : decode cL_law 423 = .ok (.ifCond .ne 15, 3) := by decide +kernel
theorem dL_law_426 : decode cL_law 426 = .ok (.aload_n 3, 1) := by decide +kernel
theorem dL_law_427 : decode cL_law 427 = .ok (.iconst 0, 1) := by decide +kernel
theorem dL_law_428 : decode cL_law 428 = .ok (.laload, 1) := by decide +kernel
theorem dL_law_429 : decode cL_law 429 = .ok (.iload 6, 2) := by decide +kernel
theorem dL_law_431 : decode cL_law 431 = .ok (.i2l, 1) := by decide +kernel
theorem dL_law_432 : decode cL_law 432 = .ok (.lcmp, 1) := by decide +kernel
theorem dL_law_433 : decode cL_law 433 = .ok (.ifCond .eq 5, 3) := by decide +kernel
theorem dL_law_436 : decode cL_law 436 = .ok (.iconst 0, 1) := by decide +kernel
theorem dL_law_437 : decode cL_law 437 = .ok (.ireturn, 1) := by decide +kernel
theorem dL_law_438 : decode cL_law 438 = .ok (.goto 758, 3) := by decide +kernel
theorem dL_law_441 : decode cL_law 441 = .ok (.aload_n 1, 1) := by decide +kernel
theorem dL_law_442 : decode cL_law 442 = .ok (.aload_n 0, 1) := by decide +kernel
theorem dL_law_443 : decode cL_law 443 = .ok (.iload 4, 2) := by decide +kernel
theorem dL_law_445 : decode cL_law 445 = .ok (.iconst 1, 1) := by decide +kernel
theorem dL_law_446 : decode cL_law 446 = .ok (.iadd, 1) := by decide +kernel
theorem dL_law_447 : decode cL_law 447 = .ok (.iaload, 1) := by decide +kernel
theorem dL_law_448 : decode cL_law 448 = .ok (.invokevirtual 59, 3) := by decide +kernel
theorem dL_law_451 : decode cL_law 451 = .ok (.aload_n 2, 1) := by decide +kernel
theorem dL_law_452 : decode cL_law 452 = .ok (.aload_n 0, 1) := by decide +kernel
theorem dL_law_453 : decode cL_law 453 = .ok (.iload 4, 2) := by decide +kernel
theorem dL_law_455 : decode cL_law 455 = .ok (.iconst 1, 1) := by decide +kernel
theorem dL_law_456 : decode cL_law 456 = .ok (.iadd, 1) := by decide +kernel
theorem dL_law_457 : decode cL_law 457 = .ok (.iaload, 1) := by decide +kernel
theorem dL_law_458 : decode cL_law 458 = .ok (.invokevirtual 62, 3) := by decide +kernel
theorem dL_law_461 : decode cL_law 461 = .ok (.if_icmp .eq 735, 3) := by decide +kernel
theorem dL_law_464 : decode cL_law 464 = .ok (.iconst 0, 1) := by decide +kernel
theorem dL_law_465 : decode cL_law 465 = .ok (.ireturn, 1) := by decide +kernel
theorem dL_law_466 : decode cL_law 466 = .ok (.aload_n 1, 1) := by decide +kernel
theorem dL_law_467 : decode cL_law 467 = .ok (.aload_n 0, 1) := by decide +kernel
theorem dL_law_468 : decode cL_law 468 = .ok (.iload 4, 2) := by decide +kernel
theorem dL_law_470 : decode cL_law 470 = .ok (.iconst 1, 1) := by decide +kernel
theorem dL_law_471 : decode cL_law 471 = .ok (.iadd, 1) := by decide +kernel
theorem dL_law_472 : decode cL_law 472 = .ok (.iaload, 1) := by decide +kernel
theorem dL_law_473 : decode cL_law 473 = .ok (.aload_n 0, 1) := by decide +kernel
theorem dL_law_474 : decode cL_law 474 = .ok (.iload 4, 2) := by decide +kernel
theorem dL_law_476 : decode cL_law 476 = .ok (.iconst 2, 1) := by decide +kernel
theorem dL_law_477 : decode cL_law 477 = .ok (.iadd, 1) := by decide +kernel
theorem dL_law_478 : decode cL_law 478 = .ok (.iaload, 1) := by decide +kernel
theorem dL_law_479 : decode cL_law 479 = .ok (.invokevirtual 63, 3) := by decide +kernel
theorem dL_law_482 : decode cL_law 482 = .ok (.aload_n 2, 1) := by decide +kernel
theorem dL_law_483 : decode cL_law 483 = .ok (.aload_n 0, 1) := by decide +kernel
theorem dL_law_484 : decode cL_law 484 = .ok (.iload 4, 2) := by decide +kernel
theorem dL_law_486 : decode cL_law 486 = .ok (.iconst 1, 1) := by decide +kernel
theorem dL_law_487 : decode cL_law 487 = .ok (.iadd, 1) := by decide +kernel
theorem dL_law_488 : decode cL_law 488 = .ok (.iaload, 1) := by decide +kernel
theorem dL_law_489 : decode cL_law 489 = .ok (.aload_n 0, 1) := by decide +kernel
theorem dL_law_490 : decode cL_law 490 = .ok (.iload 4, 2) := by decide +kernel
theorem dL_law_492 : decode cL_law 492 = .ok (.iconst 2, 1) := by decide +kernel
theorem dL_law_493 : decode cL_law 493 = .ok (.iadd, 1) := by decide +kernel
theorem dL_law_494 : decode cL_law 494 = .ok (.iaload, 1) := by decide +kernel
theorem dL_law_495 : decode cL_law 495 = .ok (.invokevirtual 66, 3) := by decide +kernel
theorem dL_law_498 : decode cL_law 498 = .ok (.lcmp, 1) := by decide +kernel
theorem dL_law_499 : decode cL_law 499 = .ok (.ifCond .eq 697, 3) := by decide +kernel
theorem dL_law_502 : decode cL_law 502 = .ok (.iconst 0, 1) := by decide +kernel
theorem dL_law_503 : decode cL_law 503 = .ok (.ireturn, 1) := by decide +kernel
theorem dL_law_504 : decode cL_law 504 = .ok (.aload_n 1, 1) := by decide +kernel
theorem dL_law_505 : decode cL_law 505 = .ok (.aload_n 0, 1) := by decide +kernel
theorem dL_law_506 : decode cL_law 506 = .ok (.iload 4, 2) := by decide +kernel
theorem dL_law_508 : decode cL_law 508 = .ok (.iconst 1, 1) := by decide +kernel
theorem dL_law_509 : decode cL_law 509 = .ok (.iadd, 1) := by decide +kernel
theorem dL_law_510 : decode cL_law 510 = .ok (.iaload, 1) := by decide +kernel
theorem dL_law_511 : decode cL_law 511 = .ok (.invokevirtual 67, 3) := by decide +kernel
theorem dL_law_514 : decode cL_law 514 = .ok (.aload_n 2, 1) := by decide +kernel
theorem dL_law_515 : decode cL_law 515 = .ok (.aload_n 0, 1) := by decide +kernel
theorem dL_law_516 : decode cL_law 516 = .ok (.iload 4, 2) := by decide +kernel
theorem dL_law_518 : decode cL_law 518 = .ok (.iconst 1, 1) := by decide +kernel
theorem dL_law_519 : decode cL_law 519 = .ok (.iadd, 1) := by decide +kernel
theorem dL_law_520 : decode cL_law 520 = .ok (.iaload, 1) := by decide +kernel
theorem dL_law_521 : decode cL_law 521 = .ok (.invokevirtual 70, 3) := by decide +kernel
theorem dL_law_524 : decode cL_law 524 = .ok (.lcmp, 1) := by decide +kernel
theorem dL_law_525 : decode cL_law 525 = .ok (.ifCond .eq 671, 3) := by decide +kernel
theorem dL_law_528 : decode cL_law 528 = .ok (.iconst 0, 1) := by decide +kernel
theorem dL_law_529 : decode cL_law 529 = .ok (.ireturn, 1) := by decide +kernel
theorem dL_law_530 : decode cL_law 530 = .ok (.aload_n 1, 1) := by decide +kernel
theorem dL_law_531 : decode cL_law 531 = .ok (.aload_n 0, 1) := by decide +kernel
theorem dL_law_532 : decode cL_law 532 = .ok (.iload 4, 2) := by decide +kernel
theorem dL_law_534 : decode cL_law 534 = .ok (.iconst 1, 1) := by decide +kernel
theorem dL_law_535 : decode cL_law 535 = .ok (.iadd, 1) := by decide +kernel
theorem dL_law_536 : decode cL_law 536 = .ok (.iaload, 1) := by decide +kernel
theorem dL_law_537 : decode cL_law 537 = .ok (.invokevirtual 71, 3) := by decide +kernel
theorem dL_law_540 : decode cL_law 540 = .ok (.aload_n 2, 1) := by decide +kernel
theorem dL_law_541 : decode cL_law 541 = .ok (.aload_n 0, 1) := by decide +kernel
theorem dL_law_542 : decode cL_law 542 = .ok (.iload 4, 2) := by decide +kernel
theorem dL_law_544 : decode cL_law 544 = .ok (.iconst 1, 1) := by decide +kernel
theorem dL_law_545 : decode cL_law 545 = .ok (.iadd, 1) := by decide +kernel
theorem dL_law_546 : decode cL_law 546 = .ok (.iaload, 1) := by decide +kernel
theorem dL_law_547 : decode cL_law 547 = .ok (.invokevirtual 74, 3) := by decide +kernel
theorem dL_law_550 : decode cL_law 550 = .ok (.if_icmp .eq 646, 3) := by decide +kernel
theorem dL_law_553 : decode cL_law 553 = .ok (.iconst 0, 1) := by decide +kernel
theorem dL_law_554 : decode cL_law 554 = .ok (.ireturn, 1) := by decide +kernel
theorem dL_law_555 : decode cL_law 555 = .ok (.aload_n 1, 1) := by decide +kernel
theorem dL_law_556 : decode cL_law 556 = .ok (.aload_n 0, 1) := by decide +kernel
theorem dL_law_557 : decode cL_law 557 = .ok (.iload 4, 2) := by decide +kernel
theorem dL_law_559 : decode cL_law 559 = .ok (.iconst 1, 1) := by decide +kernel
theorem dL_law_560 : decode cL_law 560 = .ok (.iadd, 1) := by decide +kernel
theorem dL_law_561 : decode cL_law 561 = .ok (.iaload, 1) := by decide +kernel
theorem dL_law_562 : decode cL_law 562 = .ok (.aload_n 0, 1) := by decide +kernel
theorem dL_law_563 : decode cL_law 563 = .ok (.iload 4, 2) := by decide +kernel
theorem dL_law_565 : decode cL_law 565 = .ok (.iconst 2, 1) := by decide +kernel
theorem dL_law_566 : decode cL_law 566 = .ok (.iadd, 1) := by decide +kernel
theorem dL_law_567 : decode cL_law 567 = .ok (.iaload, 1) := by decide +kernel
theorem dL_law_568 : decode cL_law 568 = .ok (.invokevirtual 75, 3) := by decide +kernel
theorem dL_law_571 : decode cL_law 571 = .ok (.aload_n 2, 1) := by decide +kernel
theorem dL_law_572 : decode cL_law 572 = .ok (.aload_n 0, 1) := by decide +kernel
theorem dL_law_573 : decode cL_law 573 = .ok (.iload 4, 2) := by decide +kernel
theorem dL_law_575 : decode cL_law 575 = .ok (.iconst 1, 1) := by decide +kernel
theorem dL_law_576 : decode cL_law 576 = .ok (.iadd, 1) := by decide +kernel
theorem dL_law_577 : decode cL_law 577 = .ok (.iaload, 1) := by decide +kernel
theorem dL_law_578 : decode cL_law 578 = .ok (.aload_n 0, 1) := by decide +kernel
theorem dL_law_579 : decode cL_law 579 = .ok (.iload 4, 2) := by decide +kernel
theorem dL_law_581 : decode cL_law 581 = .ok (.iconst 2, 1) := by decide +kernel
theorem dL_law_582 : decode cL_law 582 = .ok (.iadd, 1) := by decide +kernel
theorem dL_law_583 : decode cL_law 583 = .ok (.iaload, 1) := by decide +kernel
theorem dL_law_584 : decode cL_law 584 = .ok (.invokevirtual 78, 3) := by decide +kernel
theorem dL_law_587 : decode cL_law 587 = .ok (.lcmp, 1) := by decide +kernel
theorem dL_law_588 : decode cL_law 588 = .ok (.ifCond .eq 608, 3) := by decide +kernel
theorem dL_law_591 : decode cL_law 591 = .ok (.iconst 0, 1) := by decide +kernel
theorem dL_law_592 : decode cL_law 592 = .ok (.ireturn, 1) := by decide +kernel
theorem dL_law_593 : decode cL_law 593 = .ok (.aload_n 1, 1) := by decide +kernel
theorem dL_law_594 : decode cL_law 594 = .ok (.aload_n 0, 1) := by decide +kernel
theorem dL_law_595 : decode cL_law 595 = .ok (.iload 4, 2) := by decide +kernel
theorem dL_law_597 : decode cL_law 597 = .ok (.iconst 1, 1) := by decide +kernel
theorem dL_law_598 : decode cL_law 598 = .ok (.iadd, 1) := by decide +kernel
theorem dL_law_599 : decode cL_law 599 = .ok (.iaload, 1) := by decide +kernel
theorem dL_law_600 : decode cL_law 600 = .ok (.invokevirtual 79, 3) := by decide +kernel
theorem dL_law_603 : decode cL_law 603 = .ok (.aload_n 2, 1) := by decide +kernel
theorem dL_law_604 : decode cL_law 604 = .ok (.aload_n 0, 1) := by decide +kernel
theorem dL_law_605 : decode cL_law 605 = .ok (.iload 4, 2) := by decide +kernel
theorem dL_law_607 : decode cL_law 607 = .ok (.iconst 1, 1) := by decide +kernel
theorem dL_law_608 : decode cL_law 608 = .ok (.iadd, 1) := by decide +kernel
theorem dL_law_609 : decode cL_law 609 = .ok (.iaload, 1) := by decide +kernel
theorem dL_law_610 : decode cL_law 610 = .ok (.invokevirtual 82, 3) := by decide +kernel
theorem dL_law_613 : decode cL_law 613 = .ok (.lcmp, 1) := by decide +kernel
theorem dL_law_614 : decode cL_law 614 = .ok (.ifCond .eq 582, 3) := by decide +kernel
theorem dL_law_617 : decode cL_law 617 = .ok (.iconst 0, 1) := by decide +kernel
theorem dL_law_618 : decode cL_law 618 = .ok (.ireturn, 1) := by decide +kernel
theorem dL_law_619 : decode cL_law 619 = .ok (.aload_n 1, 1) := by decide +kernel
theorem dL_law_620 : decode cL_law 620 = .ok (.aload_n 0, 1) := by decide +kernel
theorem dL_law_621 : decode cL_law 621 = .ok (.iload 4, 2) := by decide +kernel
theorem dL_law_623 : decode cL_law 623 = .ok (.iconst 1, 1) := by decide +kernel
theorem dL_law_624 : decode cL_law 624 = .ok (.iadd, 1) := by decide +kernel
theorem dL_law_625 : decode cL_law 625 = .ok (.iaload, 1) := by decide +kernel
theorem dL_law_626 : decode cL_law 626 = .ok (.invokevirtual 83, 3) := by decide +kernel
theorem dL_law_629 : decode cL_law 629 = .ok (.aload_n 2, 1) := by decide +kernel
theorem dL_law_630 : decode cL_law 630 = .ok (.aload_n 0, 1) := by decide +kernel
theorem dL_law_631 : decode cL_law 631 = .ok (.iload 4, 2) := by decide +kernel
theorem dL_law_633 : decode cL_law 633 = .ok (.iconst 1, 1) := by decide +kernel
theorem dL_law_634 : decode cL_law 634 = .ok (.iadd, 1) := by decide +kernel
theorem dL_law_635 : decode cL_law 635 = .ok (.iaload, 1) := by decide +kernel
theorem dL_law_636 : decode cL_law 636 = .ok (.invokevirtual 86, 3) := by decide +kernel
theorem dL_law_639 : decode cL_law 639 = .ok (.lcmp, 1) := by decide +kernel
theorem dL_law_640 : decode cL_law 640 = .ok (.ifCond .eq 556, 3) := by decide +kernel
theorem dL_law_643 : decode cL_law 643 = .ok (.iconst 0, 1) := by decide +kernel
theorem dL_law_644 : decode cL_law 644 = .ok (.ireturn, 1) := by decide +kernel
theorem dL_law_645 : decode cL_law 645 = .ok (.aload_n 1, 1) := by decide +kernel
theorem dL_law_646 : decode cL_law 646 = .ok (.aload_n 0, 1) := by decide +kernel
theorem dL_law_647 : decode cL_law 647 = .ok (.iload 4, 2) := by decide +kernel
theorem dL_law_649 : decode cL_law 649 = .ok (.iconst 1, 1) := by decide +kernel
theorem dL_law_650 : decode cL_law 650 = .ok (.iadd, 1) := by decide +kernel
theorem dL_law_651 : decode cL_law 651 = .ok (.iaload, 1) := by decide +kernel
theorem dL_law_652 : decode cL_law 652 = .ok (.aload_n 0, 1) := by decide +kernel
theorem dL_law_653 : decode cL_law 653 = .ok (.iload 4, 2) := by decide +kernel
theorem dL_law_655 : decode cL_law 655 = .ok (.iconst 2, 1) := by decide +kernel
theorem dL_law_656 : decode cL_law 656 = .ok (.iadd, 1) := by decide +kernel
theorem dL_law_657 : decode cL_law 657 = .ok (.iaload, 1) := by decide +kernel
theorem dL_law_658 : decode cL_law 658 = .ok (.aload_n 0, 1) := by decide +kernel
theorem dL_law_659 : decode cL_law 659 = .ok (.iload 4, 2) := by decide +kernel
theorem dL_law_661 : decode cL_law 661 = .ok (.iconst 3, 1) := by decide +kernel
theorem dL_law_662 : decode cL_law 662 = .ok (.iadd, 1) := by decide +kernel
theorem dL_law_663 : decode cL_law 663 = .ok (.iaload, 1) := by decide +kernel
theorem dL_law_664 : decode cL_law 664 = .ok (.invokevirtual 87, 3) := by decide +kernel
theorem dL_law_667 : decode cL_law 667 = .ok (.aload_n 2, 1) := by decide +kernel
theorem dL_law_668 : decode cL_law 668 = .ok (.aload_n 0, 1) := by decide +kernel
theorem dL_law_669 : decode cL_law 669 = .ok (.iload 4, 2) := by decide +kernel
theorem dL_law_671 : decode cL_law 671 = .ok (.iconst 1, 1) := by decide +kernel
theorem dL_law_672 : decode cL_law 672 = .ok (.iadd, 1) := by decide +kernel
theorem dL_law_673 : decode cL_law 673 = .ok (.iaload, 1) := by decide +kernel
theorem dL_law_674 : decode cL_law 674 = .ok (.aload_n 0, 1) := by decide +kernel
theorem dL_law_675 : decode cL_law 675 = .ok (.iload 4, 2) := by decide +kernel
theorem dL_law_677 : decode cL_law 677 = .ok (.iconst 2, 1) := by decide +kernel
theorem dL_law_678 : decode cL_law 678 = .ok (.iadd, 1) := by decide +kernel
theorem dL_law_679 : decode cL_law 679 = .ok (.iaload, 1) := by decide +kernel
theorem dL_law_680 : decode cL_law 680 = .ok (.aload_n 0, 1) := by decide +kernel
theorem dL_law_681 : decode cL_law 681 = .ok (.iload 4, 2) := by decide +kernel
theorem dL_law_683 : decode cL_law 683 = .ok (.iconst 3, 1) := by decide +kernel
theorem dL_law_684 : decode cL_law 684 = .ok (.iadd, 1) := by decide +kernel
theorem dL_law_685 : decode cL_law 685 = .ok (.iaload, 1) := by decide +kernel
theorem dL_law_686 : decode cL_law 686 = .ok (.invokevirtual 91, 3) := by decide +kernel
theorem dL_law_689 : decode cL_law 689 = .ok (.if_icmp .eq 507, 3) := by decide +kernel
theorem dL_law_692 : decode cL_law 692 = .ok (.iconst 0, 1) := by decide +kernel
theorem dL_law_693 : decode cL_law 693 = .ok (.ireturn, 1) := by decide +kernel
theorem dL_law_694 : decode cL_law 694 = .ok (.aload_n 1, 1) := by decide +kernel
theorem dL_law_695 : decode cL_law 695 = .ok (.aload_n 0, 1) := by decide +kernel
theorem dL_law_696 : decode cL_law 696 = .ok (.iload 4, 2) := by decide +kernel
theorem dL_law_698 : decode cL_law 698 = .ok (.iconst 1, 1) := by decide +kernel
theorem dL_law_699 : decode cL_law 699 = .ok (.iadd, 1) := by decide +kernel
theorem dL_law_700 : decode cL_law 700 = .ok (.iaload, 1) := by decide +kernel
theorem dL_law_701 : decode cL_law 701 = .ok (.invokevirtual 92, 3) := by decide +kernel
theorem dL_law_704 : decode cL_law 704 = .ok (.aload_n 2, 1) := by decide +kernel
theorem dL_law_705 : decode cL_law 705 = .ok (.aload_n 0, 1) := by decide +kernel
theorem dL_law_706 : decode cL_law 706 = .ok (.iload 4, 2) := by decide +kernel
theorem dL_law_708 : decode cL_law 708 = .ok (.iconst 1, 1) := by decide +kernel
theorem dL_law_709 : decode cL_law 709 = .ok (.iadd, 1) := by decide +kernel
theorem dL_law_710 : decode cL_law 710 = .ok (.iaload, 1) := by decide +kernel
theorem dL_law_711 : decode cL_law 711 = .ok (.invokevirtual 95, 3) := by decide +kernel
theorem dL_law_714 : decode cL_law 714 = .ok (.lcmp, 1) := by decide +kernel
theorem dL_law_715 : decode cL_law 715 = .ok (.ifCond .eq 481, 3) := by decide +kernel
theorem dL_law_718 : decode cL_law 718 = .ok (.iconst 0, 1) := by decide +kernel
theorem dL_law_719 : decode cL_law 719 = .ok (.ireturn, 1) := by decide +kernel
theorem dL_law_720 : decode cL_law 720 = .ok (.aload_n 1, 1) := by decide +kernel
theorem dL_law_721 : decode cL_law 721 = .ok (.aload_n 0, 1) := by decide +kernel
theorem dL_law_722 : decode cL_law 722 = .ok (.iload 4, 2) := by decide +kernel
theorem dL_law_724 : decode cL_law 724 = .ok (.iconst 1, 1) := by decide +kernel
theorem dL_law_725 : decode cL_law 725 = .ok (.iadd, 1) := by decide +kernel
theorem dL_law_726 : decode cL_law 726 = .ok (.iaload, 1) := by decide +kernel
theorem dL_law_727 : decode cL_law 727 = .ok (.aload_n 3, 1) := by decide +kernel
theorem dL_law_728 : decode cL_law 728 = .ok (.invokestatic 96, 3) := by decide +kernel
theorem dL_law_731 : decode cL_law 731 = .ok (.istore 5, 2) := by decide +kernel
theorem dL_law_733 : decode cL_law 733 = .ok (.aload_n 2, 1) := by decide +kernel
theorem dL_law_734 : decode cL_law 734 = .ok (.aload_n 0, 1) := by decide +kernel
theorem dL_law_735 : decode cL_law 735 = .ok (.iload 4, 2) := by decide +kernel
theorem dL_law_737 : decode cL_law 737 = .ok (.iconst 1, 1) := by decide +kernel
theorem dL_law_738 : decode cL_law 738 = .ok (.iadd, 1) := by decide +kernel
theorem dL_law_739 : decode cL_law 739 = .ok (.iaload, 1) := by decide +kernel
theorem dL_law_740 : decode cL_law 740 = .ok (.invokevirtual 99, 3) := by decide +kernel
theorem dL_law_743 : decode cL_law 743 = .ok (.lstore 6, 2) := by decide +kernel
theorem dL_law_745 : decode cL_law 745 = .ok (.aload_n 2, 1) := by decide +kernel
theorem dL_law_746 : decode cL_law 746 = .ok (.invokevirtual 55, 3) := by decide +kernel
theorem dL_law_749 : decode cL_law 749 = .ok (.iload 5, 2) := by decide +kernel
theorem dL_law_751 : decode cL_law 751 = .ok (.if_icmp .eq 5, 3) := by decide +kernel
theorem dL_law_754 : decode cL_law 754 = .ok (.iconst 0, 1) := by decide +kernel
theorem dL_law_755 : decode cL_law 755 = .ok (.ireturn, 1) := by decide +kernel
theorem dL_law_756 : decode cL_law 756 = .ok (.iload 5, 2) := by decide +kernel
theorem dL_law_758 : decode cL_law 758 = .ok (.ifCond .ne 14, 3) := by decide +kernel
theorem dL_law_761 : decode cL_law 761 = .ok (.aload_n 3, 1) := by decide +kernel
theorem dL_law_762 : decode cL_law 762 = .ok (.iconst 0, 1) := by decide +kernel
theorem dL_law_763 : decode cL_law 763 = .ok (.laload, 1) := by decide +kernel
theorem dL_law_764 : decode cL_law 764 = .ok (.lload 6, 2) := by decide +kernel
theorem dL_law_766 : decode cL_law 766 = .ok (.lcmp, 1) := by decide +kernel
theorem dL_law_767 : decode cL_law 767 = .ok (.ifCond .eq 5, 3) := by decide +kernel
theorem dL_law_770 : decode cL_law 770 = .ok (.iconst 0, 1) := by decide +kernel
theorem dL_law_771 : decode cL_law 771 = .ok (.ireturn, 1) := by decide +kernel
theorem dL_law_772 : decode cL_law 772 = .ok (.goto 424, 3) := by decide +kernel
theorem dL_law_775 : decode cL_law 775 = .ok (.aload_n 1, 1) := by decide +kernel
theorem dL_law_776 : decode cL_law 776 = .ok (.aload_n 0, 1) := by decide +kernel
theorem dL_law_777 : decode cL_law 777 = .ok (.iload 4, 2) := by decide +kernel
theorem dL_law_779 : decode cL_law 779 = .ok (.iconst 1, 1) := by decide +kernel
theorem dL_law_780 : decode cL_law 780 = .ok (.iadd, 1) := by decide +kernel
theorem dL_law_781 : decode cL_law 781 = .ok (.iaload, 1) := by decide +kernel
theorem dL_law_782 : decode cL_law 782 = .ok (.aload_n 0, 1) := by decide +kernel
theorem dL_law_783 : decode cL_law 783 = .ok (.iload 4, 2) := by decide +kernel
theorem dL_law_785 : decode cL_law 785 = .ok (.iconst 2, 1) := by decide +kernel
theorem dL_law_786 : decode cL_law 786 = .ok (.iadd, 1) := by decide +kernel
theorem dL_law_787 : decode cL_law 787 = .ok (.iaload, 1) := by decide +kernel
theorem dL_law_788 : decode cL_law 788 = .ok (.aload_n 3, 1) := by decide +kernel
theorem dL_law_789 : decode cL_law 789 = .ok (.invokestatic 100, 3) := by decide +kernel
theorem dL_law_792 : decode cL_law 792 = .ok (.istore 5, 2) := by decide +kernel
theorem dL_law_794 : decode cL_law 794 = .ok (.aload_n 2, 1) := by decide +kernel
theorem dL_law_795 : decode cL_law 795 = .ok (.aload_n 0, 1) := by decide +kernel
theorem dL_law_796 : decode cL_law 796 = .ok (.iload 4, 2) := by decide +kernel
theorem dL_law_798 : decode cL_law 798 = .ok (.iconst 1, 1) := by decide +kernel
theorem dL_law_799 : decode cL_law 799 = .ok (.iadd, 1) := by decide +kernel
theorem dL_law_800 : decode cL_law 800 = .ok (.iaload, 1) := by decide +kernel
theorem dL_law_801 : decode cL_law 801 = .ok (.aload_n 0, 1) := by decide +kernel
theorem dL_law_802 : decode cL_law 802 = .ok (.iload 4, 2) := by decide +kernel
theorem dL_law_804 : decode cL_law 804 = .ok (.iconst 2, 1) := by decide +kernel
theorem dL_law_805 : decode cL_law 805 = .ok (.iadd, 1) := by decide +kernel
theorem dL_law_806 : decode cL_law 806 = .ok (.iaload, 1) := by decide +kernel
theorem dL_law_807 : decode cL_law 807 = .ok (.invokevirtual 102, 3) := by decide +kernel
theorem dL_law_810 : decode cL_law 810 = .ok (.lstore 6, 2) := by decide +kernel
theorem dL_law_812 : decode cL_law 812 = .ok (.aload_n 2, 1) := by decide +kernel
theorem dL_law_813 : decode cL_law 813 = .ok (.invokevirtual 55, 3) := by decide +kernel
theorem dL_law_816 : decode cL_law 816 = .ok (.iload 5, 2) := by decide +kernel
theorem dL_law_818 : decode cL_law 818 = .ok (.if_icmp .eq 5, 3) := by decide +kernel
theorem dL_law_821 : decode cL_law 821 = .ok (.iconst 0, 1) := by decide +kernel
theorem dL_law_822 : decode cL_law 822 = .ok (.ireturn, 1) := by decide +kernel
theorem dL_law_823 : decode cL_law 823 = .ok (.iload 5, 2) := by decide +kernel
theorem dL_law_825 : decode cL_law 825 = .ok (.ifCond .ne 14, 3) := by decide +kernel
theorem dL_law_828 : decode cL_law 828 = .ok (.aload_n 3, 1) := by decide +kernel
theorem dL_law_829 : decode cL_law 829 = .ok (.iconst 0, 1) := by decide +kernel
theorem dL_law_830 : decode cL_law 830 = .ok (.laload, 1) := by decide +kernel
theorem dL_law_831 : decode cL_law 831 = .ok (.lload 6, 2) := by decide +kernel
theorem dL_law_833 : decode cL_law 833 = .ok (.lcmp, 1) := by decide +kernel
theorem dL_law_834 : decode cL_law 834 = .ok (.ifCond .eq 5, 3) := by decide +kernel
theorem dL_law_837 : decode cL_law 837 = .ok (.iconst 0, 1) := by decide +kernel
theorem dL_law_838 : decode cL_law 838 = .ok (.ireturn, 1) := by decide +kernel
theorem dL_law_839 : decode cL_law 839 = .ok (.goto 357, 3) := by decide +kernel
theorem dL_law_842 : decode cL_law 842 = .ok (.aload_n 1, 1) := by decide +kernel
theorem dL_law_843 : decode cL_law 843 = .ok (.aload_n 0, 1) := by decide +kernel
theorem dL_law_844 : decode cL_law 844 = .ok (.iload 4, 2) := by decide +kernel
theorem dL_law_846 : decode cL_law 846 = .ok (.iconst 1, 1) := by decide +kernel
theorem dL_law_847 : decode cL_law 847 = .ok (.iadd, 1) := by decide +kernel
theorem dL_law_848 : decode cL_law 848 = .ok (.iaload, 1) := by decide +kernel
theorem dL_law_849 : decode cL_law 849 = .ok (.aload_n 0, 1) := by decide +kernel
theorem dL_law_850 : decode cL_law 850 = .ok (.iload 4, 2) := by decide +kernel
theorem dL_law_852 : decode cL_law 852 = .ok (.iconst 2, 1) := by decide +kernel
theorem dL_law_853 : decode cL_law 853 = .ok (.iadd, 1) := by decide +kernel
theorem dL_law_854 : decode cL_law 854 = .ok (.iaload, 1) := by decide +kernel
theorem dL_law_855 : decode cL_law 855 = .ok (.invokevirtual 103, 3) := by decide +kernel
theorem dL_law_858 : decode cL_law 858 = .ok (.aload_n 2, 1) := by decide +kernel
theorem dL_law_859 : decode cL_law 859 = .ok (.aload_n 0, 1) := by decide +kernel
theorem dL_law_860 : decode cL_law 860 = .ok (.iload 4, 2) := by decide +kernel
theorem dL_law_862 : decode cL_law 862 = .ok (.iconst 1, 1) := by decide +kernel
theorem dL_law_863 : decode cL_law 863 = .ok (.iadd, 1) := by decide +kernel
theorem dL_law_864 : decode cL_law 864 = .ok (.iaload, 1) := by decide +kernel
theorem dL_law_865 : decode cL_law 865 = .ok (.aload_n 0, 1) := by decide +kernel
theorem dL_law_866 : decode cL_law 866 = .ok (.iload 4, 2) := by decide +kernel
theorem dL_law_868 : decode cL_law 868 = .ok (.iconst 2, 1) := by decide +kernel
theorem dL_law_869 : decode cL_law 869 = .ok (.iadd, 1) := by decide +kernel
theorem dL_law_870 : decode cL_law 870 = .ok (.iaload, 1) := by decide +kernel
theorem dL_law_871 : decode cL_law 871 = .ok (.invokevirtual 106, 3) := by decide +kernel
theorem dL_law_874 : decode cL_law 874 = .ok (.if_icmp .eq 322, 3) := by decide +kernel
theorem dL_law_877 : decode cL_law 877 = .ok (.iconst 0, 1) := by decide +kernel
theorem dL_law_878 : decode cL_law 878 = .ok (.ireturn, 1) := by decide +kernel
theorem dL_law_879 : decode cL_law 879 = .ok (.aload_n 1, 1) := by decide +kernel
theorem dL_law_880 : decode cL_law 880 = .ok (.aload_n 0, 1) := by decide +kernel
theorem dL_law_881 : decode cL_law 881 = .ok (.iload 4, 2) := by decide +kernel
theorem dL_law_883 : decode cL_law 883 = .ok (.iconst 1, 1) := by decide +kernel
theorem dL_law_884 : decode cL_law 884 = .ok (.iadd, 1) := by decide +kernel
theorem dL_law_885 : decode cL_law 885 = .ok (.iaload, 1) := by decide +kernel
theorem dL_law_886 : decode cL_law 886 = .ok (.aload_n 0, 1) := by decide +kernel
theorem dL_law_887 : decode cL_law 887 = .ok (.iload 4, 2) := by decide +kernel
theorem dL_law_889 : decode cL_law 889 = .ok (.iconst 2, 1) := by decide +kernel
theorem dL_law_890 : decode cL_law 890 = .ok (.iadd, 1) := by decide +kernel
theorem dL_law_891 : decode cL_law 891 = .ok (.iaload, 1) := by decide +kernel
theorem dL_law_892 : decode cL_law 892 = .ok (.invokevirtual 107, 3) := by decide +kernel
theorem dL_law_895 : decode cL_law 895 = .ok (.aload_n 2, 1) := by decide +kernel
theorem dL_law_896 : decode cL_law 896 = .ok (.aload_n 0, 1) := by decide +kernel
theorem dL_law_897 : decode cL_law 897 = .ok (.iload 4, 2) := by decide +kernel
theorem dL_law_899 : decode cL_law 899 = .ok (.iconst 1, 1) := by decide +kernel
theorem dL_law_900 : decode cL_law 900 = .ok (.iadd, 1) := by decide +kernel
theorem dL_law_901 : decode cL_law 901 = .ok (.iaload, 1) := by decide +kernel
theorem dL_law_902 : decode cL_law 902 = .ok (.aload_n 0, 1) := by decide +kernel
theorem dL_law_903 : decode cL_law 903 = .ok (.iload 4, 2) := by decide +kernel
theorem dL_law_905 : decode cL_law 905 = .ok (.iconst 2, 1) := by decide +kernel
theorem dL_law_906 : decode cL_law 906 = .ok (.iadd, 1) := by decide +kernel
theorem dL_law_907 : decode cL_law 907 = .ok (.iaload, 1) := by decide +kernel
theorem dL_law_908 : decode cL_law 908 = .ok (.invokevirtual 110, 3) := by decide +kernel
theorem dL_law_911 : decode cL_law 911 = .ok (.if_icmp .eq 285, 3) := by decide +kernel
theorem dL_law_914 : decode cL_law 914 = .ok (.iconst 0, 1) := by decide +kernel
theorem dL_law_915 : decode cL_law 915 = .ok (.ireturn, 1) := by decide +kernel
theorem dL_law_916 : decode cL_law 916 = .ok (.aload_n 1, 1) := by decide +kernel
theorem dL_law_917 : decode cL_law 917 = .ok (.aload_n 0, 1) := by decide +kernel
theorem dL_law_918 : decode cL_law 918 = .ok (.iload 4, 2) := by decide +kernel
theorem dL_law_920 : decode cL_law 920 = .ok (.iconst 1, 1) := by decide +kernel
theorem dL_law_921 : decode cL_law 921 = .ok (.iadd, 1) := by decide +kernel
theorem dL_law_922 : decode cL_law 922 = .ok (.iaload, 1) := by decide +kernel
theorem dL_law_923 : decode cL_law 923 = .ok (.aload_n 0, 1) := by decide +kernel
theorem dL_law_924 : decode cL_law 924 = .ok (.iload 4, 2) := by decide +kernel
theorem dL_law_926 : decode cL_law 926 = .ok (.iconst 2, 1) := by decide +kernel
theorem dL_law_927 : decode cL_law 927 = .ok (.iadd, 1) := by decide +kernel
theorem dL_law_928 : decode cL_law 928 = .ok (.iaload, 1) := by decide +kernel
theorem dL_law_929 : decode cL_law 929 = .ok (.invokevirtual 111, 3) := by decide +kernel
theorem dL_law_932 : decode cL_law 932 = .ok (.aload_n 2, 1) := by decide +kernel
theorem dL_law_933 : decode cL_law 933 = .ok (.aload_n 0, 1) := by decide +kernel
theorem dL_law_934 : decode cL_law 934 = .ok (.iload 4, 2) := by decide +kernel
theorem dL_law_936 : decode cL_law 936 = .ok (.iconst 1, 1) := by decide +kernel
theorem dL_law_937 : decode cL_law 937 = .ok (.iadd, 1) := by decide +kernel
theorem dL_law_938 : decode cL_law 938 = .ok (.iaload, 1) := by decide +kernel
theorem dL_law_939 : decode cL_law 939 = .ok (.aload_n 0, 1) := by decide +kernel
theorem dL_law_940 : decode cL_law 940 = .ok (.iload 4, 2) := by decide +kernel
theorem dL_law_942 : decode cL_law 942 = .ok (.iconst 2, 1) := by decide +kernel
theorem dL_law_943 : decode cL_law 943 = .ok (.iadd, 1) := by decide +kernel
theorem dL_law_944 : decode cL_law 944 = .ok (.iaload, 1) := by decide +kernel
theorem dL_law_945 : decode cL_law 945 = .ok (.invokevirtual 114, 3) := by decide +kernel
theorem dL_law_948 : decode cL_law 948 = .ok (.if_icmp .eq 248, 3) := by decide +kernel
theorem dL_law_951 : decode cL_law 951 = .ok (.iconst 0, 1) := by decide +kernel
theorem dL_law_952 : decode cL_law 952 = .ok (.ireturn, 1) := by decide +kernel
theorem dL_law_953 : decode cL_law 953 = .ok (.aload_n 1, 1) := by decide +kernel
theorem dL_law_954 : decode cL_law 954 = .ok (.aload_n 0, 1) := by decide +kernel
theorem dL_law_955 : decode cL_law 955 = .ok (.iload 4, 2) := by decide +kernel
theorem dL_law_957 : decode cL_law 957 = .ok (.iconst 1, 1) := by decide +kernel
theorem dL_law_958 : decode cL_law 958 = .ok (.iadd, 1) := by decide +kernel
theorem dL_law_959 : decode cL_law 959 = .ok (.iaload, 1) := by decide +kernel
theorem dL_law_960 : decode cL_law 960 = .ok (.aload_n 0, 1) := by decide +kernel
theorem dL_law_961 : decode cL_law 961 = .ok (.iload 4, 2) := by decide +kernel
theorem dL_law_963 : decode cL_law 963 = .ok (.iconst 2, 1) := by decide +kernel
theorem dL_law_964 : decode cL_law 964 = .ok (.iadd, 1) := by decide +kernel
theorem dL_law_965 : decode cL_law 965 = .ok (.iaload, 1) := by decide +kernel
theorem dL_law_966 : decode cL_law 966 = .ok (.invokevirtual 115, 3) := by decide +kernel
theorem dL_law_969 : decode cL_law 969 = .ok (.aload_n 2, 1) := by decide +kernel
theorem dL_law_970 : decode cL_law 970 = .ok (.aload_n 0, 1) := by decide +kernel
theorem dL_law_971 : decode cL_law 971 = .ok (.iload 4, 2) := by decide +kernel
theorem dL_law_973 : decode cL_law 973 = .ok (.iconst 1, 1) := by decide +kernel
theorem dL_law_974 : decode cL_law 974 = .ok (.iadd, 1) := by decide +kernel
theorem dL_law_975 : decode cL_law 975 = .ok (.iaload, 1) := by decide +kernel
theorem dL_law_976 : decode cL_law 976 = .ok (.aload_n 0, 1) := by decide +kernel
theorem dL_law_977 : decode cL_law 977 = .ok (.iload 4, 2) := by decide +kernel
theorem dL_law_979 : decode cL_law 979 = .ok (.iconst 2, 1) := by decide +kernel
theorem dL_law_980 : decode cL_law 980 = .ok (.iadd, 1) := by decide +kernel
theorem dL_law_981 : decode cL_law 981 = .ok (.iaload, 1) := by decide +kernel
theorem dL_law_982 : decode cL_law 982 = .ok (.invokevirtual 118, 3) := by decide +kernel
theorem dL_law_985 : decode cL_law 985 = .ok (.if_icmp .eq 211, 3) := by decide +kernel
theorem dL_law_988 : decode cL_law 988 = .ok (.iconst 0, 1) := by decide +kernel
theorem dL_law_989 : decode cL_law 989 = .ok (.ireturn, 1) := by decide +kernel
theorem dL_law_990 : decode cL_law 990 = .ok (.aload_n 1, 1) := by decide +kernel
theorem dL_law_991 : decode cL_law 991 = .ok (.aload_n 0, 1) := by decide +kernel
theorem dL_law_992 : decode cL_law 992 = .ok (.iload 4, 2) := by decide +kernel
theorem dL_law_994 : decode cL_law 994 = .ok (.iconst 1, 1) := by decide +kernel
theorem dL_law_995 : decode cL_law 995 = .ok (.iadd, 1) := by decide +kernel
theorem dL_law_996 : decode cL_law 996 = .ok (.iaload, 1) := by decide +kernel
theorem dL_law_997 : decode cL_law 997 = .ok (.invokevirtual 119, 3) := by decide +kernel
theorem dL_law_1000 : decode cL_law 1000 = .ok (.aload_n 2, 1) := by decide +kernel
theorem dL_law_1001 : decode cL_law 1001 = .ok (.aload_n 0, 1) := by decide +kernel
theorem dL_law_1002 : decode cL_law 1002 = .ok (.iload 4, 2) := by decide +kernel
theorem dL_law_1004 : decode cL_law 1004 = .ok (.iconst 1, 1) := by decide +kernel
theorem dL_law_1005 : decode cL_law 1005 = .ok (.iadd, 1) := by decide +kernel
theorem dL_law_1006 : decode cL_law 1006 = .ok (.iaload, 1) := by decide +kernel
theorem dL_law_1007 : decode cL_law 1007 = .ok (.invokevirtual 122, 3) := by decide +kernel
theorem dL_law_1010 : decode cL_law 1010 = .ok (.if_icmp .eq 186, 3) := by decide +kernel
theorem dL_law_1013 : decode cL_law 1013 = .ok (.iconst 0, 1) := by decide +kernel
theorem dL_law_1014 : decode cL_law 1014 = .ok (.ireturn, 1) := by decide +kernel
theorem dL_law_1015 : decode cL_law 1015 = .ok (.aload_n 1, 1) := by decide +kernel
theorem dL_law_1016 : decode cL_law 1016 = .ok (.aload_n 0, 1) := by decide +kernel
theorem dL_law_1017 : decode cL_law 1017 = .ok (.iload 4, 2) := by decide +kernel
theorem dL_law_1019 : decode cL_law 1019 = .ok (.iconst 1, 1) := by decide +kernel
theorem dL_law_1020 : decode cL_law 1020 = .ok (.iadd, 1) := by decide +kernel
theorem dL_law_1021 : decode cL_law 1021 = .ok (.iaload, 1) := by decide +kernel
theorem dL_law_1022 : decode cL_law 1022 = .ok (.aload_n 0, 1) := by decide +kernel
theorem dL_law_1023 : decode cL_law 1023 = .ok (.iload 4, 2) := by decide +kernel
theorem dL_law_1025 : decode cL_law 1025 = .ok (.iconst 2, 1) := by decide +kernel
theorem dL_law_1026 : decode cL_law 1026 = .ok (.iadd, 1) := by decide +kernel
theorem dL_law_1027 : decode cL_law 1027 = .ok (.iaload, 1) := by decide +kernel
theorem dL_law_1028 : decode cL_law 1028 = .ok (.invokevirtual 123, 3) := by decide +kernel
theorem dL_law_1031 : decode cL_law 1031 = .ok (.aload_n 2, 1) := by decide +kernel
theorem dL_law_1032 : decode cL_law 1032 = .ok (.aload_n 0, 1) := by decide +kernel
theorem dL_law_1033 : decode cL_law 1033 = .ok (.iload 4, 2) := by decide +kernel
theorem dL_law_1035 : decode cL_law 1035 = .ok (.iconst 1, 1) := by decide +kernel
theorem dL_law_1036 : decode cL_law 1036 = .ok (.iadd, 1) := by decide +kernel
theorem dL_law_1037 : decode cL_law 1037 = .ok (.iaload, 1) := by decide +kernel
theorem dL_law_1038 : decode cL_law 1038 = .ok (.aload_n 0, 1) := by decide +kernel
theorem dL_law_1039 : decode cL_law 1039 = .ok (.iload 4, 2) := by decide +kernel
theorem dL_law_1041 : decode cL_law 1041 = .ok (.iconst 2, 1) := by decide +kernel
theorem dL_law_1042 : decode cL_law 1042 = .ok (.iadd, 1) := by decide +kernel
theorem dL_law_1043 : decode cL_law 1043 = .ok (.iaload, 1) := by decide +kernel
theorem dL_law_1044 : decode cL_law 1044 = .ok (.invokevirtual 126, 3) := by decide +kernel
theorem dL_law_1047 : decode cL_law 1047 = .ok (.if_icmp .eq 149, 3) := by decide +kernel
theorem dL_law_1050 : decode cL_law 1050 = .ok (.iconst 0, 1) := by decide +kernel
theorem dL_law_1051 : decode cL_law 1051 = .ok (.ireturn, 1) := by decide +kernel
theorem dL_law_1052 : decode cL_law 1052 = .ok (.aload_n 1, 1) := by decide +kernel
theorem dL_law_1053 : decode cL_law 1053 = .ok (.aload_n 0, 1) := by decide +kernel
theorem dL_law_1054 : decode cL_law 1054 = .ok (.iload 4, 2) := by decide +kernel
theorem dL_law_1056 : decode cL_law 1056 = .ok (.iconst 1, 1) := by decide +kernel
theorem dL_law_1057 : decode cL_law 1057 = .ok (.iadd, 1) := by decide +kernel
theorem dL_law_1058 : decode cL_law 1058 = .ok (.iaload, 1) := by decide +kernel
theorem dL_law_1059 : decode cL_law 1059 = .ok (.aload_n 0, 1) := by decide +kernel
theorem dL_law_1060 : decode cL_law 1060 = .ok (.iload 4, 2) := by decide +kernel
theorem dL_law_1062 : decode cL_law 1062 = .ok (.iconst 2, 1) := by decide +kernel
theorem dL_law_1063 : decode cL_law 1063 = .ok (.iadd, 1) := by decide +kernel
theorem dL_law_1064 : decode cL_law 1064 = .ok (.iaload, 1) := by decide +kernel
theorem dL_law_1065 : decode cL_law 1065 = .ok (.ifCond .eq 7, 3) := by decide +kernel
theorem dL_law_1068 : decode cL_law 1068 = .ok (.iconst 1, 1) := by decide +kernel
theorem dL_law_1069 : decode cL_law 1069 = .ok (.goto 4, 3) := by decide +kernel
theorem dL_law_1072 : decode cL_law 1072 = .ok (.iconst 0, 1) := by decide +kernel
theorem dL_law_1073 : decode cL_law 1073 = .ok (.invokevirtual 127, 3) := by decide +kernel
theorem dL_law_1076 : decode cL_law 1076 = .ok (.aload_n 2, 1) := by decide +kernel
theorem dL_law_1077 : decode cL_law 1077 = .ok (.aload_n 0, 1) := by decide +kernel
theorem dL_law_1078 : decode cL_law 1078 = .ok (.iload 4, 2) := by decide +kernel
theorem dL_law_1080 : decode cL_law 1080 = .ok (.iconst 1, 1) := by decide +kernel
theorem dL_law_1081 : decode cL_law 1081 = .ok (.iadd, 1) := by decide +kernel
theorem dL_law_1082 : decode cL_law 1082 = .ok (.iaload, 1) := by decide +kernel
theorem dL_law_1083 : decode cL_law 1083 = .ok (.aload_n 0, 1) := by decide +kernel
theorem dL_law_1084 : decode cL_law 1084 = .ok (.iload 4, 2) := by decide +kernel
theorem dL_law_1086 : decode cL_law 1086 = .ok (.iconst 2, 1) := by decide +kernel
theorem dL_law_1087 : decode cL_law 1087 = .ok (.iadd, 1) := by decide +kernel
theorem dL_law_1088 : decode cL_law 1088 = .ok (.iaload, 1) := by decide +kernel
theorem dL_law_1089 : decode cL_law 1089 = .ok (.ifCond .eq 7, 3) := by decide +kernel
theorem dL_law_1092 : decode cL_law 1092 = .ok (.iconst 1, 1) := by decide +kernel
theorem dL_law_1093 : decode cL_law 1093 = .ok (.goto 4, 3) := by decide +kernel
theorem dL_law_1096 : decode cL_law 1096 = .ok (.iconst 0, 1) := by decide +kernel
theorem dL_law_1097 : decode cL_law 1097 = .ok (.invokevirtual 131, 3) := by decide +kernel
theorem dL_law_1100 : decode cL_law 1100 = .ok (.if_icmp .eq 96, 3) := by decide +kernel
theorem dL_law_1103 : decode cL_law 1103 = .ok (.iconst 0, 1) := by decide +kernel
theorem dL_law_1104 : decode cL_law 1104 = .ok (.ireturn, 1) := by decide +kernel
theorem dL_law_1105 : decode cL_law 1105 = .ok (.aload_n 1, 1) := by decide +kernel
theorem dL_law_1106 : decode cL_law 1106 = .ok (.invokevirtual 132, 3) := by decide +kernel
theorem dL_law_1109 : decode cL_law 1109 = .ok (.aload_n 2, 1) := by decide +kernel
theorem dL_law_1110 : decode cL_law 1110 = .ok (.invokevirtual 135, 3) := by decide +kernel
theorem dL_law_1113 : decode cL_law 1113 = .ok (.if_icmp .eq 83, 3) := by decide +kernel
theorem dL_law_1116 : decode cL_law 1116 = .ok (.iconst 0, 1) := by decide +kernel
theorem dL_law_1117 : decode cL_law 1117 = .ok (.ireturn, 1) := by decide +kernel
theorem dL_law_1118 : decode cL_law 1118 = .ok (.aload_n 1, 1) := by decide +kernel
theorem dL_law_1119 : decode cL_law 1119 = .ok (.aload_n 0, 1) := by decide +kernel
theorem dL_law_1120 : decode cL_law 1120 = .ok (.iload 4, 2) := by decide +kernel
theorem dL_law_1122 : decode cL_law 1122 = .ok (.iconst 1, 1) := by decide +kernel
theorem dL_law_1123 : decode cL_law 1123 = .ok (.iadd, 1) := by decide +kernel
theorem dL_law_1124 : decode cL_law 1124 = .ok (.iaload, 1) := by decide +kernel
theorem dL_law_1125 : decode cL_law 1125 = .ok (.aload_n 0, 1) := by decide +kernel
theorem dL_law_1126 : decode cL_law 1126 = .ok (.iload 4, 2) := by decide +kernel
theorem dL_law_1128 : decode cL_law 1128 = .ok (.iconst 2, 1) := by decide +kernel
theorem dL_law_1129 : decode cL_law 1129 = .ok (.iadd, 1) := by decide +kernel
theorem dL_law_1130 : decode cL_law 1130 = .ok (.iaload, 1) := by decide +kernel
theorem dL_law_1131 : decode cL_law 1131 = .ok (.ifCond .eq 7, 3) := by decide +kernel
theorem dL_law_1134 : decode cL_law 1134 = .ok (.iconst 1, 1) := by decide +kernel
theorem dL_law_1135 : decode cL_law 1135 = .ok (.goto 4, 3) := by decide +kernel
theorem dL_law_1138 : decode cL_law 1138 = .ok (.iconst 0, 1) := by decide +kernel
theorem dL_law_1139 : decode cL_law 1139 = .ok (.invokevirtual 136, 3) := by decide +kernel
theorem dL_law_1142 : decode cL_law 1142 = .ok (.aload_n 2, 1) := by decide +kernel
theorem dL_law_1143 : decode cL_law 1143 = .ok (.aload_n 0, 1) := by decide +kernel
theorem dL_law_1144 : decode cL_law 1144 = .ok (.iload 4, 2) := by decide +kernel
theorem dL_law_1146 : decode cL_law 1146 = .ok (.iconst 1, 1) := by decide +kernel
theorem dL_law_1147 : decode cL_law 1147 = .ok (.iadd, 1) := by decide +kernel
theorem dL_law_1148 : decode cL_law 1148 = .ok (.iaload, 1) := by decide +kernel
theorem dL_law_1149 : decode cL_law 1149 = .ok (.aload_n 0, 1) := by decide +kernel
theorem dL_law_1150 : decode cL_law 1150 = .ok (.iload 4, 2) := by decide +kernel
theorem dL_law_1152 : decode cL_law 1152 = .ok (.iconst 2, 1) := by decide +kernel
theorem dL_law_1153 : decode cL_law 1153 = .ok (.iadd, 1) := by decide +kernel
theorem dL_law_1154 : decode cL_law 1154 = .ok (.iaload, 1) := by decide +kernel
theorem dL_law_1155 : decode cL_law 1155 = .ok (.ifCond .eq 7, 3) := by decide +kernel
theorem dL_law_1158 : decode cL_law 1158 = .ok (.iconst 1, 1) := by decide +kernel
theorem dL_law_1159 : decode cL_law 1159 = .ok (.goto 4, 3) := by decide +kernel
theorem dL_law_1162 : decode cL_law 1162 = .ok (.iconst 0, 1) := by decide +kernel
theorem dL_law_1163 : decode cL_law 1163 = .ok (.invokevirtual 139, 3) := by decide +kernel
theorem dL_law_1166 : decode cL_law 1166 = .ok (.if_icmp .eq 30, 3) := by decide +kernel
theorem dL_law_1169 : decode cL_law 1169 = .ok (.iconst 0, 1) := by decide +kernel
theorem dL_law_1170 : decode cL_law 1170 = .ok (.ireturn, 1) := by decide +kernel
theorem dL_law_1171 : decode cL_law 1171 = .ok (.aload_n 1, 1) := by decide +kernel
theorem dL_law_1172 : decode cL_law 1172 = .ok (.aload_n 0, 1) := by decide +kernel
theorem dL_law_1173 : decode cL_law 1173 = .ok (.iload 4, 2) := by decide +kernel
theorem dL_law_1175 : decode cL_law 1175 = .ok (.iconst 1, 1) := by decide +kernel
theorem dL_law_1176 : decode cL_law 1176 = .ok (.iadd, 1) := by decide +kernel
theorem dL_law_1177 : decode cL_law 1177 = .ok (.iaload, 1) := by decide +kernel
theorem dL_law_1178 : decode cL_law 1178 = .ok (.invokevirtual 140, 3) := by decide +kernel
theorem dL_law_1181 : decode cL_law 1181 = .ok (.aload_n 2, 1) := by decide +kernel
theorem dL_law_1182 : decode cL_law 1182 = .ok (.aload_n 0, 1) := by decide +kernel
theorem dL_law_1183 : decode cL_law 1183 = .ok (.iload 4, 2) := by decide +kernel
theorem dL_law_1185 : decode cL_law 1185 = .ok (.iconst 1, 1) := by decide +kernel
theorem dL_law_1186 : decode cL_law 1186 = .ok (.iadd, 1) := by decide +kernel
theorem dL_law_1187 : decode cL_law 1187 = .ok (.iaload, 1) := by decide +kernel
theorem dL_law_1188 : decode cL_law 1188 = .ok (.invokevirtual 143, 3) := by decide +kernel
theorem dL_law_1191 : decode cL_law 1191 = .ok (.if_icmp .eq 5, 3) := by decide +kernel
theorem dL_law_1194 : decode cL_law 1194 = .ok (.iconst 0, 1) := by decide +kernel
theorem dL_law_1195 : decode cL_law 1195 = .ok (.ireturn, 1) := by decide +kernel
theorem dL_law_1196 : decode cL_law 1196 = .ok (.iinc 4 6, 3) := by decide +kernel
theorem dL_law_1199 : decode cL_law 1199 = .ok (.goto (-1176), 3) := by decide +kernel
theorem dL_law_1202 : decode cL_law 1202 = .ok (.iconst 1, 1) := by decide +kernel
theorem dL_law_1203 : decode cL_law 1203 = .ok (.ireturn, 1) := by decide +kernel
theorem pq_1223 : Cond.methodLink RL 131 yX12_mark ∈ pd_gt := pd_in 1768 (by decide +kernel) (by decide +kernel)
theorem pq_1224 : Cond.code yX12_mark cX12_mark 3 (some .boolean) ∈ pd_gt := pd_in 1771 (by decide +kernel) (by decide +kernel)
theorem pq_1225 : Cond.initialized yX12_mark.cls ∈ pd_gt := pd_in 111 (by decide +kernel) (by decide +kernel)
theorem pq_1226 : Cond.instanceMethod yX12_mark ∈ pd_gt := pd_in 1769 (by decide +kernel) (by decide +kernel)
theorem pq_1227 : Cond.selects yX12_mark.cls yX12_mark yX12_mark ∈ pd_gt := pd_in 1770 (by decide +kernel) (by decide +kernel)
theorem pq_1228 : Cond.methodLink RL 127 yX11_mark ∈ pd_gt := pd_in 1048 (by decide +kernel) (by decide +kernel)
theorem pq_1229 : Cond.code yX11_mark cX11_mark 4 (some .boolean) ∈ pd_gt := pd_in 1051 (by decide +kernel) (by decide +kernel)
theorem pq_1230 : Cond.initialized yX11_mark.cls ∈ pd_gt := pd_in 99 (by decide +kernel) (by decide +kernel)
theorem pq_1231 : Cond.instanceMethod yX11_mark ∈ pd_gt := pd_in 1049 (by decide +kernel) (by decide +kernel)
theorem pq_1232 : Cond.selects yX11_mark.cls yX11_mark yX11_mark ∈ pd_gt := pd_in 1050 (by decide +kernel) (by decide +kernel)
theorem pq_1233 : Cond.methodLink RL 139 yX12_keep ∈ pd_gt := pd_in 1776 (by decide +kernel) (by decide +kernel)
theorem pq_1234 : Cond.code yX12_keep cX12_keep 4 (some .boolean) ∈ pd_gt := pd_in 1779 (by decide +kernel) (by decide +kernel)
theorem pq_1235 : Cond.initialized yX12_keep.cls ∈ pd_gt := pd_in 111 (by decide +kernel) (by decide +kernel)
theorem pq_1236 : Cond.instanceMethod yX12_keep ∈ pd_gt := pd_in 1777 (by decide +kernel) (by decide +kernel)
theorem pq_1237 : Cond.selects yX12_keep.cls yX12_keep yX12_keep ∈ pd_gt := pd_in 1778 (by decide +kernel) (by decide +kernel)
theorem pq_1238 : Cond.methodLink RL 136 yX11_keep ∈ pd_gt := pd_in 1066 (by decide +kernel) (by decide +kernel)
theorem pq_1239 : Cond.code yX11_keep cX11_keep 3 (some .boolean) ∈ pd_gt := pd_in 1069 (by decide +kernel) (by decide +kernel)
theorem pq_1240 : Cond.initialized yX11_keep.cls ∈ pd_gt := pd_in 99 (by decide +kernel) (by decide +kernel)
theorem pq_1241 : Cond.instanceMethod yX11_keep ∈ pd_gt := pd_in 1067 (by decide +kernel) (by decide +kernel)
theorem pq_1242 : Cond.selects yX11_keep.cls yX11_keep yX11_keep ∈ pd_gt := pd_in 1068 (by decide +kernel) (by decide +kernel)
theorem pq_1243 : Cond.methodLink RL 27 yX11_feed ∈ pd_gt := pd_in 556 (by decide +kernel) (by decide +kernel)
theorem pq_1244 : Cond.code yX11_feed cX11_feed 6 (some .int) ∈ pd_gt := pd_in 559 (by decide +kernel) (by decide +kernel)
theorem pq_1245 : Cond.initialized yX11_feed.cls ∈ pd_gt := pd_in 99 (by decide +kernel) (by decide +kernel)
theorem pq_1246 : Cond.instanceMethod yX11_feed ∈ pd_gt := pd_in 557 (by decide +kernel) (by decide +kernel)
theorem pq_1247 : Cond.selects yX11_feed.cls yX11_feed yX11_feed ∈ pd_gt := pd_in 558 (by decide +kernel) (by decide +kernel)
theorem pq_1248 : Cond.methodLink RL 31 yX12_feed ∈ pd_gt := pd_in 1351 (by decide +kernel) (by decide +kernel)
theorem pq_1249 : Cond.code yX12_feed cX12_feed 6 (some .int) ∈ pd_gt := pd_in 1354 (by decide +kernel) (by decide +kernel)
theorem pq_1250 : Cond.initialized yX12_feed.cls ∈ pd_gt := pd_in 111 (by decide +kernel) (by decide +kernel)
theorem pq_1251 : Cond.instanceMethod yX12_feed ∈ pd_gt := pd_in 1352 (by decide +kernel) (by decide +kernel)
theorem pq_1252 : Cond.selects yX12_feed.cls yX12_feed yX12_feed ∈ pd_gt := pd_in 1353 (by decide +kernel) (by decide +kernel)
theorem pq_1253 : Cond.methodLink RL 32 yX11_book ∈ pd_gt := pd_in 564 (by decide +kernel) (by decide +kernel)
theorem pq_1254 : Cond.code yX11_book cX11_book 3 (some .int) ∈ pd_gt := pd_in 567 (by decide +kernel) (by decide +kernel)
theorem pq_1255 : Cond.initialized yX11_book.cls ∈ pd_gt := pd_in 99 (by decide +kernel) (by decide +kernel)
theorem pq_1256 : Cond.instanceMethod yX11_book ∈ pd_gt := pd_in 565 (by decide +kernel) (by decide +kernel)
theorem pq_1257 : Cond.selects yX11_book.cls yX11_book yX11_book ∈ pd_gt := pd_in 566 (by decide +kernel) (by decide +kernel)
theorem pq_1258 : Cond.methodLink RL 36 yX12_book ∈ pd_gt := pd_in 1359 (by decide +kernel) (by decide +kernel)
theorem pq_1259 : Cond.code yX12_book cX12_book 5 (some .int) ∈ pd_gt := pd_in 1362 (by decide +kernel) (by decide +kernel)
theorem pq_1260 : Cond.initialized yX12_book.cls ∈ pd_gt := pd_in 111 (by decide +kernel) (by decide +kernel)
theorem pq_1261 : Cond.instanceMethod yX12_book ∈ pd_gt := pd_in 1360 (by decide +kernel) (by decide +kernel)
theorem pq_1262 : Cond.selects yX12_book.cls yX12_book yX12_book ∈ pd_gt := pd_in 1361 (by decide +kernel) (by decide +kernel)
theorem pq_1263 : Cond.methodLink RL 37 yX11_person ∈ pd_gt := pd_in 823 (by decide +kernel) (by decide +kernel)
theorem pq_1264 : Cond.code yX11_person cX11_person 4 (some .int) ∈ pd_gt := pd_in 826 (by decide +kernel) (by decide +kernel)
theorem pq_1265 : Cond.initialized yX11_person.cls ∈ pd_gt := pd_in 99 (by decide +kernel) (by decide +kernel)
theorem pq_1266 : Cond.instanceMethod yX11_person ∈ pd_gt := pd_in 824 (by decide +kernel) (by decide +kernel)
theorem pq_1267 : Cond.selects yX11_person.cls yX11_person yX11_person ∈ pd_gt := pd_in 825 (by decide +kernel) (by decide +kernel)
theorem pq_1268 : Cond.methodLink RL 40 yX12_person ∈ pd_gt := pd_in 1537 (by decide +kernel) (by decide +kernel)
theorem pq_1269 : Cond.code yX12_person cX12_person 3 (some .int) ∈ pd_gt := pd_in 1540 (by decide +kernel) (by decide +kernel)
theorem pq_1270 : Cond.initialized yX12_person.cls ∈ pd_gt := pd_in 111 (by decide +kernel) (by decide +kernel)
theorem pq_1271 : Cond.instanceMethod yX12_person ∈ pd_gt := pd_in 1538 (by decide +kernel) (by decide +kernel)
theorem pq_1272 : Cond.selects yX12_person.cls yX12_person yX12_person ∈ pd_gt := pd_in 1539 (by decide +kernel) (by decide +kernel)
theorem pq_1273 : Cond.methodLink RL 41 yX11_trust ∈ pd_gt := pd_in 831 (by decide +kernel) (by decide +kernel)
theorem pq_1274 : Cond.code yX11_trust cX11_trust 4 (some .int) ∈ pd_gt := pd_in 834 (by decide +kernel) (by decide +kernel)
theorem pq_1275 : Cond.initialized yX11_trust.cls ∈ pd_gt := pd_in 99 (by decide +kernel) (by decide +kernel)
theorem pq_1276 : Cond.instanceMethod yX11_trust ∈ pd_gt := pd_in 832 (by decide +kernel) (by decide +kernel)
theorem pq_1277 : Cond.selects yX11_trust.cls yX11_trust yX11_trust ∈ pd_gt := pd_in 833 (by decide +kernel) (by decide +kernel)
theorem pq_1278 : Cond.methodLink RL 44 yX12_trust ∈ pd_gt := pd_in 1573 (by decide +kernel) (by decide +kernel)
theorem pq_1279 : Cond.code yX12_trust cX12_trust 3 (some .int) ∈ pd_gt := pd_in 1576 (by decide +kernel) (by decide +kernel)
theorem pq_1280 : Cond.initialized yX12_trust.cls ∈ pd_gt := pd_in 111 (by decide +kernel) (by decide +kernel)
theorem pq_1281 : Cond.instanceMethod yX12_trust ∈ pd_gt := pd_in 1574 (by decide +kernel) (by decide +kernel)
theorem pq_1282 : Cond.selects yX12_trust.cls yX12_trust yX12_trust ∈ pd_gt := pd_in 1575 (by decide +kernel) (by decide +kernel)
theorem pq_1283 : Cond.methodLink RL 45 yX11_account ∈ pd_gt := pd_in 835 (by decide +kernel) (by decide +kernel)
theorem pq_1284 : Cond.code yX11_account cX11_account 4 (some .int) ∈ pd_gt := pd_in 838 (by decide +kernel) (by decide +kernel)
theorem pq_1285 : Cond.initialized yX11_account.cls ∈ pd_gt := pd_in 99 (by decide +kernel) (by decide +kernel)
theorem pq_1286 : Cond.instanceMethod yX11_account ∈ pd_gt := pd_in 836 (by decide +kernel) (by decide +kernel)
theorem pq_1287 : Cond.selects yX11_account.cls yX11_account yX11_account ∈ pd_gt := pd_in 837 (by decide +kernel) (by decide +kernel)
theorem pq_1288 : Cond.methodLink RL 48 yX12_account ∈ pd_gt := pd_in 1589 (by decide +kernel) (by decide +kernel)
theorem pq_1289 : Cond.code yX12_account cX12_account 3 (some .int) ∈ pd_gt := pd_in 1592 (by decide +kernel) (by decide +kernel)
theorem pq_1290 : Cond.initialized yX12_account.cls ∈ pd_gt := pd_in 111 (by decide +kernel) (by decide +kernel)
theorem pq_1291 : Cond.instanceMethod yX12_account ∈ pd_gt := pd_in 1590 (by decide +kernel) (by decide +kernel)
theorem pq_1292 : Cond.selects yX12_account.cls yX12_account yX12_account ∈ pd_gt := pd_in 1591 (by decide +kernel) (by decide +kernel)
theorem pq_1293 : Cond.methodLink RL 49 yL_share ∈ pd_gt := pd_in 1088 (by decide +kernel) (by decide +kernel)
theorem pq_1294 : Cond.codeWith yL_share cL_share 5 (some .int) [(0, 10, 13, 13)] ∈ pd_gt := pd_in 1090 (by decide +kernel) (by decide +kernel)
theorem pq_1295 : Cond.initialized yL_share.cls ∈ pd_gt := pd_in 98 (by decide +kernel) (by decide +kernel)
theorem pq_1296 : Cond.static yL_share ∈ pd_gt := pd_in 1089 (by decide +kernel) (by decide +kernel)
theorem pq_1297 : Cond.methodLink RL 54 yX12_share ∈ pd_gt := pd_in 1608 (by decide +kernel) (by decide +kernel)
theorem pq_1298 : Cond.code yX12_share cX12_share 3 (some .int) ∈ pd_gt := pd_in 1611 (by decide +kernel) (by decide +kernel)
theorem pq_1299 : Cond.initialized yX12_share.cls ∈ pd_gt := pd_in 111 (by decide +kernel) (by decide +kernel)
theorem pq_1300 : Cond.instanceMethod yX12_share ∈ pd_gt := pd_in 1609 (by decide +kernel) (by decide +kernel)
theorem pq_1301 : Cond.selects yX12_share.cls yX12_share yX12_share ∈ pd_gt := pd_in 1610 (by decide +kernel) (by decide +kernel)
theorem pq_1302 : Cond.methodLink RL 55 yX12_thrown ∈ pd_gt := pd_in 1347 (by decide +kernel) (by decide +kernel)
theorem pq_1303 : Cond.code yX12_thrown cX12_thrown 1 (some .int) ∈ pd_gt := pd_in 1350 (by decide +kernel) (by decide +kernel)
theorem pq_1304 : Cond.initialized yX12_thrown.cls ∈ pd_gt := pd_in 111 (by decide +kernel) (by decide +kernel)
theorem pq_1305 : Cond.instanceMethod yX12_thrown ∈ pd_gt := pd_in 1348 (by decide +kernel) (by decide +kernel)
theorem pq_1306 : Cond.selects yX12_thrown.cls yX12_thrown yX12_thrown ∈ pd_gt := pd_in 1349 (by decide +kernel) (by decide +kernel)
theorem pq_1307 : Cond.methodLink RL 59 yX11_who ∈ pd_gt := pd_in 847 (by decide +kernel) (by decide +kernel)
theorem pq_1308 : Cond.code yX11_who cX11_who 2 (some .int) ∈ pd_gt := pd_in 850 (by decide +kernel) (by decide +kernel)
theorem pq_1309 : Cond.initialized yX11_who.cls ∈ pd_gt := pd_in 99 (by decide +kernel) (by decide +kernel)
theorem pq_1310 : Cond.instanceMethod yX11_who ∈ pd_gt := pd_in 848 (by decide +kernel) (by decide +kernel)
theorem pq_1311 : Cond.selects yX11_who.cls yX11_who yX11_who ∈ pd_gt := pd_in 849 (by decide +kernel) (by decide +kernel)
theorem pq_1312 : Cond.methodLink RL 62 yX12_who ∈ pd_gt := pd_in 1620 (by decide +kernel) (by decide +kernel)
theorem pq_1313 : Cond.code yX12_who cX12_who 4 (some .int) ∈ pd_gt := pd_in 1623 (by decide +kernel) (by decide +kernel)
theorem pq_1314 : Cond.initialized yX12_who.cls ∈ pd_gt := pd_in 111 (by decide +kernel) (by decide +kernel)
theorem pq_1315 : Cond.instanceMethod yX12_who ∈ pd_gt := pd_in 1621 (by decide +kernel) (by decide +kernel)
theorem pq_1316 : Cond.selects yX12_who.cls yX12_who yX12_who ∈ pd_gt := pd_in 1622 (by decide +kernel) (by decide +kernel)
theorem pq_1317 : Cond.methodLink RL 63 yX11_view ∈ pd_gt := pd_in 855 (by decide +kernel) (by decide +kernel)
theorem pq_1318 : Cond.code yX11_view cX11_view 3 (some .long) ∈ pd_gt := pd_in 858 (by decide +kernel) (by decide +kernel)
theorem pq_1319 : Cond.initialized yX11_view.cls ∈ pd_gt := pd_in 99 (by decide +kernel) (by decide +kernel)
theorem pq_1320 : Cond.instanceMethod yX11_view ∈ pd_gt := pd_in 856 (by decide +kernel) (by decide +kernel)
theorem pq_1321 : Cond.selects yX11_view.cls yX11_view yX11_view ∈ pd_gt := pd_in 857 (by decide +kernel) (by decide +kernel)
theorem pq_1322 : Cond.methodLink RL 66 yX12_view ∈ pd_gt := pd_in 1624 (by decide +kernel) (by decide +kernel)
theorem pq_1323 : Cond.code yX12_view cX12_view 3 (some .long) ∈ pd_gt := pd_in 1627 (by decide +kernel) (by decide +kernel)
theorem pq_1324 : Cond.initialized yX12_view.cls ∈ pd_gt := pd_in 111 (by decide +kernel) (by decide +kernel)
theorem pq_1325 : Cond.instanceMethod yX12_view ∈ pd_gt := pd_in 1625 (by decide +kernel) (by decide +kernel)
theorem pq_1326 : Cond.selects yX12_view.cls yX12_view yX12_view ∈ pd_gt := pd_in 1626 (by decide +kernel) (by decide +kernel)
theorem pq_1327 : Cond.methodLink RL 67 yX11_all ∈ pd_gt := pd_in 889 (by decide +kernel) (by decide +kernel)
theorem pq_1328 : Cond.code yX11_all cX11_all 2 (some .long) ∈ pd_gt := pd_in 892 (by decide +kernel) (by decide +kernel)
theorem pq_1329 : Cond.initialized yX11_all.cls ∈ pd_gt := pd_in 99 (by decide +kernel) (by decide +kernel)
theorem pq_1330 : Cond.instanceMethod yX11_all ∈ pd_gt := pd_in 890 (by decide +kernel) (by decide +kernel)
theorem pq_1331 : Cond.selects yX11_all.cls yX11_all yX11_all ∈ pd_gt := pd_in 891 (by decide +kernel) (by decide +kernel)
theorem pq_1332 : Cond.methodLink RL 70 yX12_all ∈ pd_gt := pd_in 1653 (by decide +kernel) (by decide +kernel)
theorem pq_1333 : Cond.code yX12_all cX12_all 5 (some .long) ∈ pd_gt := pd_in 1656 (by decide +kernel) (by decide +kernel)
theorem pq_1334 : Cond.initialized yX12_all.cls ∈ pd_gt := pd_in 111 (by decide +kernel) (by decide +kernel)
theorem pq_1335 : Cond.instanceMethod yX12_all ∈ pd_gt := pd_in 1654 (by decide +kernel) (by decide +kernel)
theorem pq_1336 : Cond.selects yX12_all.cls yX12_all yX12_all ∈ pd_gt := pd_in 1655 (by decide +kernel) (by decide +kernel)
theorem pq_1337 : Cond.methodLink RL 71 yX11_ranked ∈ pd_gt := pd_in 927 (by decide +kernel) (by decide +kernel)
theorem pq_1338 : Cond.code yX11_ranked cX11_ranked 3 (some .int) ∈ pd_gt := pd_in 930 (by decide +kernel) (by decide +kernel)
theorem pq_1339 : Cond.initialized yX11_ranked.cls ∈ pd_gt := pd_in 99 (by decide +kernel) (by decide +kernel)
theorem pq_1340 : Cond.instanceMethod yX11_ranked ∈ pd_gt := pd_in 928 (by decide +kernel) (by decide +kernel)
theorem pq_1341 : Cond.selects yX11_ranked.cls yX11_ranked yX11_ranked ∈ pd_gt := pd_in 929 (by decide +kernel) (by decide +kernel)
theorem pq_1342 : Cond.methodLink RL 74 yX12_ranked ∈ pd_gt := pd_in 1662 (by decide +kernel) (by decide +kernel)
theorem pq_1343 : Cond.code yX12_ranked cX12_ranked 3 (some .int) ∈ pd_gt := pd_in 1665 (by decide +kernel) (by decide +kernel)
theorem pq_1344 : Cond.initialized yX12_ranked.cls ∈ pd_gt := pd_in 111 (by decide +kernel) (by decide +kernel)
theorem pq_1345 : Cond.instanceMethod yX12_ranked ∈ pd_gt := pd_in 1663 (by decide +kernel) (by decide +kernel)
theorem pq_1346 : Cond.selects yX12_ranked.cls yX12_ranked yX12_ranked ∈ pd_gt := pd_in 1664 (by decide +kernel) (by decide +kernel)
theorem pq_1347 : Cond.methodLink RL 75 yX11_estate ∈ pd_gt := pd_in 935 (by decide +kernel) (by decide +kernel)
theorem pq_1348 : Cond.code yX11_estate cX11_estate 3 (some .long) ∈ pd_gt := pd_in 938 (by decide +kernel) (by decide +kernel)
theorem pq_1349 : Cond.initialized yX11_estate.cls ∈ pd_gt := pd_in 99 (by decide +kernel) (by decide +kernel)
theorem pq_1350 : Cond.instanceMethod yX11_estate ∈ pd_gt := pd_in 936 (by decide +kernel) (by decide +kernel)
theorem pq_1351 : Cond.selects yX11_estate.cls yX11_estate yX11_estate ∈ pd_gt := pd_in 937 (by decide +kernel) (by decide +kernel)
theorem pq_1352 : Cond.methodLink RL 78 yX12_estate ∈ pd_gt := pd_in 1670 (by decide +kernel) (by decide +kernel)
theorem pq_1353 : Cond.code yX12_estate cX12_estate 3 (some .long) ∈ pd_gt := pd_in 1673 (by decide +kernel) (by decide +kernel)
theorem pq_1354 : Cond.initialized yX12_estate.cls ∈ pd_gt := pd_in 111 (by decide +kernel) (by decide +kernel)
theorem pq_1355 : Cond.instanceMethod yX12_estate ∈ pd_gt := pd_in 1671 (by decide +kernel) (by decide +kernel)
theorem pq_1356 : Cond.selects yX12_estate.cls yX12_estate yX12_estate ∈ pd_gt := pd_in 1672 (by decide +kernel) (by decide +kernel)
theorem pq_1357 : Cond.methodLink RL 79 yX11_enough ∈ pd_gt := pd_in 948 (by decide +kernel) (by decide +kernel)
theorem pq_1358 : Cond.code yX11_enough cX11_enough 8 (some .long) ∈ pd_gt := pd_in 951 (by decide +kernel) (by decide +kernel)
theorem pq_1359 : Cond.initialized yX11_enough.cls ∈ pd_gt := pd_in 99 (by decide +kernel) (by decide +kernel)
theorem pq_1360 : Cond.instanceMethod yX11_enough ∈ pd_gt := pd_in 949 (by decide +kernel) (by decide +kernel)
theorem pq_1361 : Cond.selects yX11_enough.cls yX11_enough yX11_enough ∈ pd_gt := pd_in 950 (by decide +kernel) (by decide +kernel)
theorem pq_1362 : Cond.methodLink RL 82 yX12_enough ∈ pd_gt := pd_in 1688 (by decide +kernel) (by decide +kernel)
theorem pq_1363 : Cond.code yX12_enough cX12_enough 5 (some .long) ∈ pd_gt := pd_in 1691 (by decide +kernel) (by decide +kernel)
theorem pq_1364 : Cond.initialized yX12_enough.cls ∈ pd_gt := pd_in 111 (by decide +kernel) (by decide +kernel)
theorem pq_1365 : Cond.instanceMethod yX12_enough ∈ pd_gt := pd_in 1689 (by decide +kernel) (by decide +kernel)
theorem pq_1366 : Cond.selects yX12_enough.cls yX12_enough yX12_enough ∈ pd_gt := pd_in 1690 (by decide +kernel) (by decide +kernel)
theorem pq_1367 : Cond.methodLink RL 83 yX11_onDay ∈ pd_gt := pd_in 952 (by decide +kernel) (by decide +kernel)
theorem pq_1368 : Cond.code yX11_onDay cX11_onDay 2 (some .long) ∈ pd_gt := pd_in 955 (by decide +kernel) (by decide +kernel)
theorem pq_1369 : Cond.initialized yX11_onDay.cls ∈ pd_gt := pd_in 99 (by decide +kernel) (by decide +kernel)
theorem pq_1370 : Cond.instanceMethod yX11_onDay ∈ pd_gt := pd_in 953 (by decide +kernel) (by decide +kernel)
theorem pq_1371 : Cond.selects yX11_onDay.cls yX11_onDay yX11_onDay ∈ pd_gt := pd_in 954 (by decide +kernel) (by decide +kernel)
theorem pq_1372 : Cond.methodLink RL 86 yX12_onDay ∈ pd_gt := pd_in 1693 (by decide +kernel) (by decide +kernel)
theorem pq_1373 : Cond.code yX12_onDay cX12_onDay 2 (some .long) ∈ pd_gt := pd_in 1696 (by decide +kernel) (by decide +kernel)
theorem pq_1374 : Cond.initialized yX12_onDay.cls ∈ pd_gt := pd_in 111 (by decide +kernel) (by decide +kernel)
theorem pq_1375 : Cond.instanceMethod yX12_onDay ∈ pd_gt := pd_in 1694 (by decide +kernel) (by decide +kernel)
theorem pq_1376 : Cond.selects yX12_onDay.cls yX12_onDay yX12_onDay ∈ pd_gt := pd_in 1695 (by decide +kernel) (by decide +kernel)
theorem pq_1377 : Cond.methodLink RL 87 yX11_bestDay ∈ pd_gt := pd_in 967 (by decide +kernel) (by decide +kernel)
theorem pq_1378 : Cond.code yX11_bestDay cX11_bestDay 6 (some .int) ∈ pd_gt := pd_in 970 (by decide +kernel) (by decide +kernel)
theorem pq_1379 : Cond.initialized yX11_bestDay.cls ∈ pd_gt := pd_in 99 (by decide +kernel) (by decide +kernel)
theorem pq_1380 : Cond.instanceMethod yX11_bestDay ∈ pd_gt := pd_in 968 (by decide +kernel) (by decide +kernel)
theorem pq_1381 : Cond.selects yX11_bestDay.cls yX11_bestDay yX11_bestDay ∈ pd_gt := pd_in 969 (by decide +kernel) (by decide +kernel)
theorem pq_1382 : Cond.methodLink RL 91 yX12_bestDay ∈ pd_gt := pd_in 1706 (by decide +kernel) (by decide +kernel)
theorem pq_1383 : Cond.code yX12_bestDay cX12_bestDay 10 (some .int) ∈ pd_gt := pd_in 1709 (by decide +kernel) (by decide +kernel)
theorem pq_1384 : Cond.initialized yX12_bestDay.cls ∈ pd_gt := pd_in 111 (by decide +kernel) (by decide +kernel)
theorem pq_1385 : Cond.instanceMethod yX12_bestDay ∈ pd_gt := pd_in 1707 (by decide +kernel) (by decide +kernel)
theorem pq_1386 : Cond.selects yX12_bestDay.cls yX12_bestDay yX12_bestDay ∈ pd_gt := pd_in 1708 (by decide +kernel) (by decide +kernel)
theorem pq_1387 : Cond.methodLink RL 92 yX11_coverFor ∈ pd_gt := pd_in 975 (by decide +kernel) (by decide +kernel)
theorem pq_1388 : Cond.code yX11_coverFor cX11_coverFor 4 (some .long) ∈ pd_gt := pd_in 978 (by decide +kernel) (by decide +kernel)
theorem pq_1389 : Cond.initialized yX11_coverFor.cls ∈ pd_gt := pd_in 99 (by decide +kernel) (by decide +kernel)
theorem pq_1390 : Cond.instanceMethod yX11_coverFor ∈ pd_gt := pd_in 976 (by decide +kernel) (by decide +kernel)
theorem pq_1391 : Cond.selects yX11_coverFor.cls yX11_coverFor yX11_coverFor ∈ pd_gt := pd_in 977 (by decide +kernel) (by decide +kernel)
theorem pq_1392 : Cond.methodLink RL 95 yX12_coverFor ∈ pd_gt := pd_in 1710 (by decide +kernel) (by decide +kernel)
theorem pq_1393 : Cond.code yX12_coverFor cX12_coverFor 10 (some .long) ∈ pd_gt := pd_in 1713 (by decide +kernel) (by decide +kernel)
theorem pq_1394 : Cond.initialized yX12_coverFor.cls ∈ pd_gt := pd_in 111 (by decide +kernel) (by decide +kernel)
theorem pq_1395 : Cond.instanceMethod yX12_coverFor ∈ pd_gt := pd_in 1711 (by decide +kernel) (by decide +kernel)
theorem pq_1396 : Cond.selects yX12_coverFor.cls yX12_coverFor yX12_coverFor ∈ pd_gt := pd_in 1712 (by decide +kernel) (by decide +kernel)
theorem pq_1397 : Cond.methodLink RL 96 yL_markless ∈ pd_gt := pd_in 1161 (by decide +kernel) (by decide +kernel)
theorem pq_1398 : Cond.codeWith yL_markless cL_markless 4 (some .int) [(0, 8, 11, 13)] ∈ pd_gt := pd_in 1163 (by decide +kernel) (by decide +kernel)
theorem pq_1399 : Cond.initialized yL_markless.cls ∈ pd_gt := pd_in 98 (by decide +kernel) (by decide +kernel)
theorem pq_1400 : Cond.static yL_markless ∈ pd_gt := pd_in 1162 (by decide +kernel) (by decide +kernel)
theorem pq_1401 : Cond.methodLink RL 99 yX12_markless ∈ pd_gt := pd_in 1715 (by decide +kernel) (by decide +kernel)
theorem pq_1402 : Cond.code yX12_markless cX12_markless 7 (some .long) ∈ pd_gt := pd_in 1718 (by decide +kernel) (by decide +kernel)
theorem pq_1403 : Cond.initialized yX12_markless.cls ∈ pd_gt := pd_in 111 (by decide +kernel) (by decide +kernel)
theorem pq_1404 : Cond.instanceMethod yX12_markless ∈ pd_gt := pd_in 1716 (by decide +kernel) (by decide +kernel)
theorem pq_1405 : Cond.selects yX12_markless.cls yX12_markless yX12_markless ∈ pd_gt := pd_in 1717 (by decide +kernel) (by decide +kernel)
theorem pq_1406 : Cond.methodLink RL 100 yL_joining ∈ pd_gt := pd_in 1174 (by decide +kernel) (by decide +kernel)
theorem pq_1407 : Cond.codeWith yL_joining cL_joining 5 (some .int) [(0, 9, 12, 13)] ∈ pd_gt := pd_in 1176 (by decide +kernel) (by decide +kernel)
theorem pq_1408 : Cond.initialized yL_joining.cls ∈ pd_gt := pd_in 98 (by decide +kernel) (by decide +kernel)
theorem pq_1409 : Cond.static yL_joining ∈ pd_gt := pd_in 1175 (by decide +kernel) (by decide +kernel)
theorem pq_1410 : Cond.methodLink RL 102 yX12_joining ∈ pd_gt := pd_in 1727 (by decide +kernel) (by decide +kernel)
theorem pq_1411 : Cond.code yX12_joining cX12_joining 11 (some .long) ∈ pd_gt := pd_in 1730 (by decide +kernel) (by decide +kernel)
theorem pq_1412 : Cond.initialized yX12_joining.cls ∈ pd_gt := pd_in 111 (by decide +kernel) (by decide +kernel)
theorem pq_1413 : Cond.instanceMethod yX12_joining ∈ pd_gt := pd_in 1728 (by decide +kernel) (by decide +kernel)
theorem pq_1414 : Cond.selects yX12_joining.cls yX12_joining yX12_joining ∈ pd_gt := pd_in 1729 (by decide +kernel) (by decide +kernel)
theorem pq_1415 : Cond.methodLink RL 103 yX11_apart ∈ pd_gt := pd_in 993 (by decide +kernel) (by decide +kernel)
theorem pq_1416 : Cond.code yX11_apart cX11_apart 3 (some .int) ∈ pd_gt := pd_in 996 (by decide +kernel) (by decide +kernel)
theorem pq_1417 : Cond.initialized yX11_apart.cls ∈ pd_gt := pd_in 99 (by decide +kernel) (by decide +kernel)
theorem pq_1418 : Cond.instanceMethod yX11_apart ∈ pd_gt := pd_in 994 (by decide +kernel) (by decide +kernel)
theorem pq_1419 : Cond.selects yX11_apart.cls yX11_apart yX11_apart ∈ pd_gt := pd_in 995 (by decide +kernel) (by decide +kernel)
theorem pq_1420 : Cond.methodLink RL 106 yX12_apart ∈ pd_gt := pd_in 1739 (by decide +kernel) (by decide +kernel)
theorem pq_1421 : Cond.code yX12_apart cX12_apart 3 (some .int) ∈ pd_gt := pd_in 1742 (by decide +kernel) (by decide +kernel)
theorem pq_1422 : Cond.initialized yX12_apart.cls ∈ pd_gt := pd_in 111 (by decide +kernel) (by decide +kernel)
theorem pq_1423 : Cond.instanceMethod yX12_apart ∈ pd_gt := pd_in 1740 (by decide +kernel) (by decide +kernel)
theorem pq_1424 : Cond.selects yX12_apart.cls yX12_apart yX12_apart ∈ pd_gt := pd_in 1741 (by decide +kernel) (by decide +kernel)
theorem pq_1425 : Cond.methodLink RL 107 yX11_ways ∈ pd_gt := pd_in 1001 (by decide +kernel) (by decide +kernel)
theorem pq_1426 : Cond.code yX11_ways cX11_ways 3 (some .int) ∈ pd_gt := pd_in 1004 (by decide +kernel) (by decide +kernel)
theorem pq_1427 : Cond.initialized yX11_ways.cls ∈ pd_gt := pd_in 99 (by decide +kernel) (by decide +kernel)
theorem pq_1428 : Cond.instanceMethod yX11_ways ∈ pd_gt := pd_in 1002 (by decide +kernel) (by decide +kernel)
theorem pq_1429 : Cond.selects yX11_ways.cls yX11_ways yX11_ways ∈ pd_gt := pd_in 1003 (by decide +kernel) (by decide +kernel)
theorem pq_1430 : Cond.methodLink RL 110 yX12_ways ∈ pd_gt := pd_in 1743 (by decide +kernel) (by decide +kernel)
theorem pq_1431 : Cond.code yX12_ways cX12_ways 3 (some .int) ∈ pd_gt := pd_in 1746 (by decide +kernel) (by decide +kernel)
theorem pq_1432 : Cond.initialized yX12_ways.cls ∈ pd_gt := pd_in 111 (by decide +kernel) (by decide +kernel)
theorem pq_1433 : Cond.instanceMethod yX12_ways ∈ pd_gt := pd_in 1744 (by decide +kernel) (by decide +kernel)
theorem pq_1434 : Cond.selects yX12_ways.cls yX12_ways yX12_ways ∈ pd_gt := pd_in 1745 (by decide +kernel) (by decide +kernel)
theorem pq_1435 : Cond.methodLink RL 111 yX11_balance ∈ pd_gt := pd_in 1005 (by decide +kernel) (by decide +kernel)
theorem pq_1436 : Cond.code yX11_balance cX11_balance 4 (some .int) ∈ pd_gt := pd_in 1008 (by decide +kernel) (by decide +kernel)
theorem pq_1437 : Cond.initialized yX11_balance.cls ∈ pd_gt := pd_in 99 (by decide +kernel) (by decide +kernel)
theorem pq_1438 : Cond.instanceMethod yX11_balance ∈ pd_gt := pd_in 1006 (by decide +kernel) (by decide +kernel)
theorem pq_1439 : Cond.selects yX11_balance.cls yX11_balance yX11_balance ∈ pd_gt := pd_in 1007 (by decide +kernel) (by decide +kernel)
theorem pq_1440 : Cond.methodLink RL 114 yX12_balance ∈ pd_gt := pd_in 1747 (by decide +kernel) (by decide +kernel)
theorem pq_1441 : Cond.code yX12_balance cX12_balance 4 (some .int) ∈ pd_gt := pd_in 1750 (by decide +kernel) (by decide +kernel)
theorem pq_1442 : Cond.initialized yX12_balance.cls ∈ pd_gt := pd_in 111 (by decide +kernel) (by decide +kernel)
theorem pq_1443 : Cond.instanceMethod yX12_balance ∈ pd_gt := pd_in 1748 (by decide +kernel) (by decide +kernel)
theorem pq_1444 : Cond.selects yX12_balance.cls yX12_balance yX12_balance ∈ pd_gt := pd_in 1749 (by decide +kernel) (by decide +kernel)
theorem pq_1445 : Cond.methodLink RL 115 yX11_join ∈ pd_gt := pd_in 1015 (by decide +kernel) (by decide +kernel)
theorem pq_1446 : Cond.code yX11_join cX11_join 3 (some .int) ∈ pd_gt := pd_in 1018 (by decide +kernel) (by decide +kernel)
theorem pq_1447 : Cond.initialized yX11_join.cls ∈ pd_gt := pd_in 99 (by decide +kernel) (by decide +kernel)
theorem pq_1448 : Cond.instanceMethod yX11_join ∈ pd_gt := pd_in 1016 (by decide +kernel) (by decide +kernel)
theorem pq_1449 : Cond.selects yX11_join.cls yX11_join yX11_join ∈ pd_gt := pd_in 1017 (by decide +kernel) (by decide +kernel)
theorem pq_1450 : Cond.methodLink RL 118 yX12_join ∈ pd_gt := pd_in 1756 (by decide +kernel) (by decide +kernel)
theorem pq_1451 : Cond.code yX12_join cX12_join 3 (some .int) ∈ pd_gt := pd_in 1759 (by decide +kernel) (by decide +kernel)
theorem pq_1452 : Cond.initialized yX12_join.cls ∈ pd_gt := pd_in 111 (by decide +kernel) (by decide +kernel)
theorem pq_1453 : Cond.instanceMethod yX12_join ∈ pd_gt := pd_in 1757 (by decide +kernel) (by decide +kernel)
theorem pq_1454 : Cond.selects yX12_join.cls yX12_join yX12_join ∈ pd_gt := pd_in 1758 (by decide +kernel) (by decide +kernel)
theorem pq_1455 : Cond.methodLink RL 119 yX11_split ∈ pd_gt := pd_in 1027 (by decide +kernel) (by decide +kernel)
theorem pq_1456 : Cond.code yX11_split cX11_split 4 (some .int) ∈ pd_gt := pd_in 1030 (by decide +kernel) (by decide +kernel)
theorem pq_1457 : Cond.initialized yX11_split.cls ∈ pd_gt := pd_in 99 (by decide +kernel) (by decide +kernel)
theorem pq_1458 : Cond.instanceMethod yX11_split ∈ pd_gt := pd_in 1028 (by decide +kernel) (by decide +kernel)
theorem pq_1459 : Cond.selects yX11_split.cls yX11_split yX11_split ∈ pd_gt := pd_in 1029 (by decide +kernel) (by decide +kernel)
theorem pq_1460 : Cond.methodLink RL 122 yX12_split ∈ pd_gt := pd_in 1760 (by decide +kernel) (by decide +kernel)
theorem pq_1461 : Cond.code yX12_split cX12_split 5 (some .int) ∈ pd_gt := pd_in 1763 (by decide +kernel) (by decide +kernel)
theorem pq_1462 : Cond.initialized yX12_split.cls ∈ pd_gt := pd_in 111 (by decide +kernel) (by decide +kernel)
theorem pq_1463 : Cond.instanceMethod yX12_split ∈ pd_gt := pd_in 1761 (by decide +kernel) (by decide +kernel)
theorem pq_1464 : Cond.selects yX12_split.cls yX12_split yX12_split ∈ pd_gt := pd_in 1762 (by decide +kernel) (by decide +kernel)
theorem pq_1465 : Cond.methodLink RL 123 yX11_tell ∈ pd_gt := pd_in 1043 (by decide +kernel) (by decide +kernel)
theorem pq_1466 : Cond.code yX11_tell cX11_tell 4 (some .int) ∈ pd_gt := pd_in 1046 (by decide +kernel) (by decide +kernel)
theorem pq_1467 : Cond.initialized yX11_tell.cls ∈ pd_gt := pd_in 99 (by decide +kernel) (by decide +kernel)
theorem pq_1468 : Cond.instanceMethod yX11_tell ∈ pd_gt := pd_in 1044 (by decide +kernel) (by decide +kernel)
theorem pq_1469 : Cond.selects yX11_tell.cls yX11_tell yX11_tell ∈ pd_gt := pd_in 1045 (by decide +kernel) (by decide +kernel)
theorem pq_1470 : Cond.methodLink RL 126 yX12_tell ∈ pd_gt := pd_in 1764 (by decide +kernel) (by decide +kernel)
theorem pq_1471 : Cond.code yX12_tell cX12_tell 4 (some .int) ∈ pd_gt := pd_in 1767 (by decide +kernel) (by decide +kernel)
theorem pq_1472 : Cond.initialized yX12_tell.cls ∈ pd_gt := pd_in 111 (by decide +kernel) (by decide +kernel)
theorem pq_1473 : Cond.instanceMethod yX12_tell ∈ pd_gt := pd_in 1765 (by decide +kernel) (by decide +kernel)
theorem pq_1474 : Cond.selects yX12_tell.cls yX12_tell yX12_tell ∈ pd_gt := pd_in 1766 (by decide +kernel) (by decide +kernel)
theorem pq_1475 : Cond.methodLink RL 132 yX11_undo ∈ pd_gt := pd_in 1058 (by decide +kernel) (by decide +kernel)
theorem pq_1476 : Cond.code yX11_undo cX11_undo 1 (some .int) ∈ pd_gt := pd_in 1061 (by decide +kernel) (by decide +kernel)
theorem pq_1477 : Cond.initialized yX11_undo.cls ∈ pd_gt := pd_in 99 (by decide +kernel) (by decide +kernel)
theorem pq_1478 : Cond.instanceMethod yX11_undo ∈ pd_gt := pd_in 1059 (by decide +kernel) (by decide +kernel)
theorem pq_1479 : Cond.selects yX11_undo.cls yX11_undo yX11_undo ∈ pd_gt := pd_in 1060 (by decide +kernel) (by decide +kernel)
theorem pq_1480 : Cond.methodLink RL 135 yX12_undo ∈ pd_gt := pd_in 1772 (by decide +kernel) (by decide +kernel)
theorem pq_1481 : Cond.code yX12_undo cX12_undo 2 (some .int) ∈ pd_gt := pd_in 1775 (by decide +kernel) (by decide +kernel)
theorem pq_1482 : Cond.initialized yX12_undo.cls ∈ pd_gt := pd_in 111 (by decide +kernel) (by decide +kernel)
theorem pq_1483 : Cond.instanceMethod yX12_undo ∈ pd_gt := pd_in 1773 (by decide +kernel) (by decide +kernel)
theorem pq_1484 : Cond.selects yX12_undo.cls yX12_undo yX12_undo ∈ pd_gt := pd_in 1774 (by decide +kernel) (by decide +kernel)
theorem pq_1485 : Cond.methodLink RL 140 yX11_count ∈ pd_gt := pd_in 1078 (by decide +kernel) (by decide +kernel)
theorem pq_1486 : Cond.code yX11_count cX11_count 2 (some .int) ∈ pd_gt := pd_in 1081 (by decide +kernel) (by decide +kernel)
theorem pq_1487 : Cond.initialized yX11_count.cls ∈ pd_gt := pd_in 99 (by decide +kernel) (by decide +kernel)
theorem pq_1488 : Cond.instanceMethod yX11_count ∈ pd_gt := pd_in 1079 (by decide +kernel) (by decide +kernel)
theorem pq_1489 : Cond.selects yX11_count.cls yX11_count yX11_count ∈ pd_gt := pd_in 1080 (by decide +kernel) (by decide +kernel)
theorem pq_1490 : Cond.methodLink RL 143 yX12_count ∈ pd_gt := pd_in 1780 (by decide +kernel) (by decide +kernel)
theorem pq_1491 : Cond.code yX12_count cX12_count 2 (some .int) ∈ pd_gt := pd_in 1783 (by decide +kernel) (by decide +kernel)
theorem pq_1492 : Cond.initialized yX12_count.cls ∈ pd_gt := pd_in 111 (by decide +kernel) (by decide +kernel)
theorem pq_1493 : Cond.instanceMethod yX12_count ∈ pd_gt := pd_in 1781 (by decide +kernel) (by decide +kernel)
theorem pq_1494 : Cond.selects yX12_count.cls yX12_count yX12_count ∈ pd_gt := pd_in 1782 (by decide +kernel) (by decide +kernel)
theorem pq_1495 : Cond.classLink RL 8 "PayoutDesk" ∈ pd_gt := pd_in 123 (by decide +kernel) (by decide +kernel)
theorem pq_1496 : Cond.instantiable "PayoutDesk" 10 ∈ pd_gt := pd_in 124 (by decide +kernel) (by decide +kernel)
theorem pq_1497 : Cond.initialized "PayoutDesk" ∈ pd_gt := pd_in 99 (by decide +kernel) (by decide +kernel)
theorem pq_1498 : Cond.methodLink RL 23 yX11_init ∈ pd_gt := pd_in 125 (by decide +kernel) (by decide +kernel)
theorem pq_1499 : Cond.code yX11_init cX11_init 1 none ∈ pd_gt := pd_in 127 (by decide +kernel) (by decide +kernel)
theorem pq_1500 : Cond.initialized yX11_init.cls ∈ pd_gt := pd_in 99 (by decide +kernel) (by decide +kernel)
theorem pq_1501 : Cond.instanceMethod yX11_init ∈ pd_gt := pd_in 126 (by decide +kernel) (by decide +kernel)
theorem pq_1502 : Cond.classLink RL 24 "PayoutDeskModel" ∈ pd_gt := pd_in 1182 (by decide +kernel) (by decide +kernel)
theorem pq_1503 : Cond.instantiable "PayoutDeskModel" 52 ∈ pd_gt := pd_in 1183 (by decide +kernel) (by decide +kernel)
theorem pq_1504 : Cond.initialized "PayoutDeskModel" ∈ pd_gt := pd_in 111 (by decide +kernel) (by decide +kernel)
theorem pq_1505 : Cond.methodLink RL 26 yX12_init ∈ pd_gt := pd_in 1184 (by decide +kernel) (by decide +kernel)
theorem pq_1506 : Cond.code yX12_init cX12_init 1 none ∈ pd_gt := pd_in 1186 (by decide +kernel) (by decide +kernel)
theorem pq_1507 : Cond.initialized yX12_init.cls ∈ pd_gt := pd_in 111 (by decide +kernel) (by decide +kernel)
theorem pq_1508 : Cond.instanceMethod yX12_init ∈ pd_gt := pd_in 1185 (by decide +kernel) (by decide +kernel)
def pfL_law_b1196 (Ls : Int) (xs : Int → Int) (sh : pd_S) (n : Nat) (c23 : pd_F → Int → Int → Int → Int → Option Int) (F : pd_F) (x1 : Int) (x2 : Int) (x3 : Int) (x4 : Int) : Option Int :=
  pd_l (pd_w (x4 + 6)) fun x4_1196 =>
  c23 F x1 x2 x3 x4_1196
def pfL_law_b438 (Ls : Int) (xs : Int → Int) (sh : pd_S) (n : Nat) (c23 : pd_F → Int → Int → Int → Int → Option Int) (F : pd_F) (x1 : Int) (x2 : Int) (x3 : Int) (x4 : Int) : Option Int :=
  pfL_law_b1196 Ls xs sh n (c23) F x1 x2 x3 x4
def pfL_law_b772 (Ls : Int) (xs : Int → Int) (sh : pd_S) (n : Nat) (c23 : pd_F → Int → Int → Int → Int → Option Int) (F : pd_F) (x1 : Int) (x2 : Int) (x3 : Int) (x4 : Int) : Option Int :=
  pfL_law_b1196 Ls xs sh n (c23) F x1 x2 x3 x4
def pfL_law_b839 (Ls : Int) (xs : Int → Int) (sh : pd_S) (n : Nat) (c23 : pd_F → Int → Int → Int → Int → Option Int) (F : pd_F) (x1 : Int) (x2 : Int) (x3 : Int) (x4 : Int) : Option Int :=
  pfL_law_b1196 Ls xs sh n (c23) F x1 x2 x3 x4
def pfL_law_b1097 (Ls : Int) (xs : Int → Int) (sh : pd_S) (n : Nat) (c23 : pd_F → Int → Int → Int → Int → Option Int) (F : pd_F) (x1 : Int) (x2 : Int) (x3 : Int) (x4 : Int) (t0 : Int) (t1 : Int) (t2 : Int) (t3 : Int) : Option Int :=
  pd_i (pd_ob sh 12 t2 = true) <|
  Option.bind (pfX12_mark sh n F t2 t1 t0) fun qr2 => pd_l qr2.1 fun r2 => pd_l qr2.2 fun F1 =>
  if t3 = r2 then
    pfL_law_b1196 Ls xs sh n (c23) F1 x1 x2 x3 x4
  else
    some 0
def pfL_law_b1073 (Ls : Int) (xs : Int → Int) (sh : pd_S) (n : Nat) (c23 : pd_F → Int → Int → Int → Int → Option Int) (F : pd_F) (x1 : Int) (x2 : Int) (x3 : Int) (x4 : Int) (t0 : Int) (t1 : Int) (t2 : Int) : Option Int :=
  pd_i (pd_ob sh 11 t2 = true) <|
  Option.bind (pfX11_mark sh n F t2 t1 t0) fun qr5 => pd_l qr5.1 fun r5 => pd_l qr5.2 fun F4 =>
  pd_i (0 ≤ (pd_w (x4 + 1)) ∧ (pd_w (x4 + 1)) < Ls) <|
  pd_i (0 ≤ (pd_w (x4 + 2)) ∧ (pd_w (x4 + 2)) < Ls) <|
  if (xs (pd_w (x4 + 2))) = 0 then
    pfL_law_b1097 Ls xs sh n (c23) F4 x1 x2 x3 x4 0 (xs (pd_w (x4 + 1))) x2 r5
  else
    pfL_law_b1097 Ls xs sh n (c23) F4 x1 x2 x3 x4 1 (xs (pd_w (x4 + 1))) x2 r5
def pfL_law_b1163 (Ls : Int) (xs : Int → Int) (sh : pd_S) (n : Nat) (c23 : pd_F → Int → Int → Int → Int → Option Int) (F : pd_F) (x1 : Int) (x2 : Int) (x3 : Int) (x4 : Int) (t0 : Int) (t1 : Int) (t2 : Int) (t3 : Int) : Option Int :=
  pd_i (pd_ob sh 12 t2 = true) <|
  Option.bind (pfX12_keep sh n F t2 t1 t0) fun qr10 => pd_l qr10.1 fun r10 => pd_l qr10.2 fun F9 =>
  if t3 = r10 then
    pfL_law_b1196 Ls xs sh n (c23) F9 x1 x2 x3 x4
  else
    some 0
def pfL_law_b1139 (Ls : Int) (xs : Int → Int) (sh : pd_S) (n : Nat) (c23 : pd_F → Int → Int → Int → Int → Option Int) (F : pd_F) (x1 : Int) (x2 : Int) (x3 : Int) (x4 : Int) (t0 : Int) (t1 : Int) (t2 : Int) : Option Int :=
  pd_i (pd_ob sh 11 t2 = true) <|
  Option.bind (pfX11_keep sh n F t2 t1 t0) fun qr13 => pd_l qr13.1 fun r13 => pd_l qr13.2 fun F12 =>
  pd_i (0 ≤ (pd_w (x4 + 1)) ∧ (pd_w (x4 + 1)) < Ls) <|
  pd_i (0 ≤ (pd_w (x4 + 2)) ∧ (pd_w (x4 + 2)) < Ls) <|
  if (xs (pd_w (x4 + 2))) = 0 then
    pfL_law_b1163 Ls xs sh n (c23) F12 x1 x2 x3 x4 0 (xs (pd_w (x4 + 1))) x2 r13
  else
    pfL_law_b1163 Ls xs sh n (c23) F12 x1 x2 x3 x4 1 (xs (pd_w (x4 + 1))) x2 r13
def pfL_law_b23 (Ls : Int) (xs : Int → Int) (sh : pd_S) (n : Nat) : Nat → pd_F → Int → Int → Int → Int → Option Int
  | 0, _, _, _, _, _ => none
  | k + 1, F, x1, x2, x3, x4 =>
    if x4 > (pd_w (Ls - 6)) then
      some 1
    else
      pd_i (0 ≤ x4 ∧ x4 < Ls) <|
      if (pd_and (xs x4) 31) = 0 then
        pd_i (0 ≤ (pd_w (x4 + 1)) ∧ (pd_w (x4 + 1)) < Ls) <|
        pd_i (0 ≤ (pd_w (x4 + 2)) ∧ (pd_w (x4 + 2)) < Ls) <|
        pd_i (0 ≤ (pd_w (x4 + 3)) ∧ (pd_w (x4 + 3)) < Ls) <|
        pd_i (0 ≤ (pd_w (x4 + 4)) ∧ (pd_w (x4 + 4)) < Ls) <|
        pd_i (0 ≤ (pd_w (x4 + 5)) ∧ (pd_w (x4 + 5)) < Ls) <|
        pd_i (pd_ob sh 11 x1 = true) <|
        Option.bind (pfX11_feed sh n F x1 (xs (pd_w (x4 + 1))) (xs (pd_w (x4 + 2))) (xs (pd_w (x4 + 3))) (xs (pd_w (x4 + 4))) (xs (pd_w (x4 + 5)))) fun qr24 => pd_l qr24.1 fun r24 => pd_l qr24.2 fun F23 =>
        pd_i (pd_ob sh 12 x2 = true) <|
        Option.bind (pfX12_feed sh n F23 x2 (xs (pd_w (x4 + 1))) (xs (pd_w (x4 + 2))) (xs (pd_w (x4 + 3))) (xs (pd_w (x4 + 4))) (xs (pd_w (x4 + 5)))) fun qr27 => pd_l qr27.1 fun r27 => pd_l qr27.2 fun F26 =>
        if r24 = r27 then
          pfL_law_b1196 Ls xs sh n (pfL_law_b23 Ls xs sh n k) F26 x1 x2 x3 x4
        else
          some 0
      else
        if (pd_and (xs x4) 31) = 1 then
          pd_i (0 ≤ (pd_w (x4 + 1)) ∧ (pd_w (x4 + 1)) < Ls) <|
          pd_i (pd_ob sh 11 x1 = true) <|
          Option.bind (pfX11_book sh n F x1 (xs (pd_w (x4 + 1)))) fun qr31 => pd_l qr31.1 fun r31 => pd_l qr31.2 fun F30 =>
          pd_i (pd_ob sh 12 x2 = true) <|
          Option.bind (pfX12_book sh n F30 x2 (xs (pd_w (x4 + 1)))) fun qr34 => pd_l qr34.1 fun r34 => pd_l qr34.2 fun F33 =>
          if r31 = r34 then
            pfL_law_b1196 Ls xs sh n (pfL_law_b23 Ls xs sh n k) F33 x1 x2 x3 x4
          else
            some 0
        else
          if (pd_and (xs x4) 31) = 2 then
            pd_i (0 ≤ (pd_w (x4 + 1)) ∧ (pd_w (x4 + 1)) < Ls) <|
            pd_i (0 ≤ (pd_w (x4 + 2)) ∧ (pd_w (x4 + 2)) < Ls) <|
            pd_i (pd_ob sh 11 x1 = true) <|
            Option.bind (pfX11_person sh n F x1 (xs (pd_w (x4 + 1))) (xs (pd_w (x4 + 2)))) fun qr39 => pd_l qr39.1 fun r39 => pd_l qr39.2 fun F38 =>
            pd_i (pd_ob sh 12 x2 = true) <|
            Option.bind (pfX12_person sh n F38 x2 (xs (pd_w (x4 + 1))) (xs (pd_w (x4 + 2)))) fun qr42 => pd_l qr42.1 fun r42 => pd_l qr42.2 fun F41 =>
            if r39 = r42 then
              pfL_law_b1196 Ls xs sh n (pfL_law_b23 Ls xs sh n k) F41 x1 x2 x3 x4
            else
              some 0
          else
            if (pd_and (xs x4) 31) = 3 then
              pd_i (0 ≤ (pd_w (x4 + 1)) ∧ (pd_w (x4 + 1)) < Ls) <|
              pd_i (0 ≤ (pd_w (x4 + 2)) ∧ (pd_w (x4 + 2)) < Ls) <|
              pd_i (pd_ob sh 11 x1 = true) <|
              Option.bind (pfX11_trust sh n F x1 (xs (pd_w (x4 + 1))) (xs (pd_w (x4 + 2)))) fun qr47 => pd_l qr47.1 fun r47 => pd_l qr47.2 fun F46 =>
              pd_i (pd_ob sh 12 x2 = true) <|
              Option.bind (pfX12_trust sh n F46 x2 (xs (pd_w (x4 + 1))) (xs (pd_w (x4 + 2)))) fun qr50 => pd_l qr50.1 fun r50 => pd_l qr50.2 fun F49 =>
              if r47 = r50 then
                pfL_law_b1196 Ls xs sh n (pfL_law_b23 Ls xs sh n k) F49 x1 x2 x3 x4
              else
                some 0
            else
              if (pd_and (xs x4) 31) = 4 then
                pd_i (0 ≤ (pd_w (x4 + 1)) ∧ (pd_w (x4 + 1)) < Ls) <|
                pd_i (0 ≤ (pd_w (x4 + 2)) ∧ (pd_w (x4 + 2)) < Ls) <|
                pd_i (pd_ob sh 11 x1 = true) <|
                Option.bind (pfX11_account sh n F x1 (xs (pd_w (x4 + 1))) (xs (pd_w (x4 + 2)))) fun qr55 => pd_l qr55.1 fun r55 => pd_l qr55.2 fun F54 =>
                pd_i (pd_ob sh 12 x2 = true) <|
                Option.bind (pfX12_account sh n F54 x2 (xs (pd_w (x4 + 1))) (xs (pd_w (x4 + 2)))) fun qr58 => pd_l qr58.1 fun r58 => pd_l qr58.2 fun F57 =>
                if r55 = r58 then
                  pfL_law_b1196 Ls xs sh n (pfL_law_b23 Ls xs sh n k) F57 x1 x2 x3 x4
                else
                  some 0
              else
                if (pd_and (xs x4) 31) = 5 then
                  pd_i (0 ≤ (pd_w (x4 + 1)) ∧ (pd_w (x4 + 1)) < Ls) <|
                  pd_i (0 ≤ (pd_w (x4 + 2)) ∧ (pd_w (x4 + 2)) < Ls) <|
                  Option.bind (pfL_share sh n F x1 (xs (pd_w (x4 + 1))) (xs (pd_w (x4 + 2))) x3) fun qr63 => pd_l qr63.1 fun r63 => pd_l qr63.2 fun F62 =>
                  pd_i (pd_ob sh 12 x2 = true) <|
                  Option.bind (pfX12_share sh n F62 x2 (xs (pd_w (x4 + 1))) (xs (pd_w (x4 + 2)))) fun qr65 => pd_l qr65.1 fun r65 => pd_l qr65.2 fun F64 =>
                  Option.bind (pfX12_thrown sh n F64 x2) fun qr68 => pd_l qr68.1 fun r68 => pd_l qr68.2 fun F67 =>
                  if r68 = r63 then
                    if r63 ≠ 0 then
                      pfL_law_b438 Ls xs sh n (pfL_law_b23 Ls xs sh n k) F67 x1 x2 x3 x4
                    else
                      pd_i (pd_ib sh 1 0 x3 0 = true) <|
                      if (F67 x3 0) = r65 then
                        pfL_law_b438 Ls xs sh n (pfL_law_b23 Ls xs sh n k) F67 x1 x2 x3 x4
                      else
                        some 0
                  else
                    some 0
                else
                  if (pd_and (xs x4) 31) = 6 then
                    pd_i (0 ≤ (pd_w (x4 + 1)) ∧ (pd_w (x4 + 1)) < Ls) <|
                    pd_i (pd_ob sh 11 x1 = true) <|
                    Option.bind (pfX11_who sh n F x1 (xs (pd_w (x4 + 1)))) fun qr72 => pd_l qr72.1 fun r72 => pd_l qr72.2 fun F71 =>
                    pd_i (pd_ob sh 12 x2 = true) <|
                    Option.bind (pfX12_who sh n F71 x2 (xs (pd_w (x4 + 1)))) fun qr75 => pd_l qr75.1 fun r75 => pd_l qr75.2 fun F74 =>
                    if r72 = r75 then
                      pfL_law_b1196 Ls xs sh n (pfL_law_b23 Ls xs sh n k) F74 x1 x2 x3 x4
                    else
                      some 0
                  else
                    if (pd_and (xs x4) 31) = 7 then
                      pd_i (0 ≤ (pd_w (x4 + 1)) ∧ (pd_w (x4 + 1)) < Ls) <|
                      pd_i (0 ≤ (pd_w (x4 + 2)) ∧ (pd_w (x4 + 2)) < Ls) <|
                      pd_i (pd_ob sh 11 x1 = true) <|
                      Option.bind (pfX11_view sh n F x1 (xs (pd_w (x4 + 1))) (xs (pd_w (x4 + 2)))) fun qr80 => pd_l qr80.1 fun r80 => pd_l qr80.2 fun F79 =>
                      pd_i (pd_ob sh 12 x2 = true) <|
                      Option.bind (pfX12_view sh n F79 x2 (xs (pd_w (x4 + 1))) (xs (pd_w (x4 + 2)))) fun qr83 => pd_l qr83.1 fun r83 => pd_l qr83.2 fun F82 =>
                      if r80 = r83 then
                        pfL_law_b1196 Ls xs sh n (pfL_law_b23 Ls xs sh n k) F82 x1 x2 x3 x4
                      else
                        some 0
                    else
                      if (pd_and (xs x4) 31) = 8 then
                        pd_i (0 ≤ (pd_w (x4 + 1)) ∧ (pd_w (x4 + 1)) < Ls) <|
                        pd_i (pd_ob sh 11 x1 = true) <|
                        Option.bind (pfX11_all sh n F x1 (xs (pd_w (x4 + 1)))) fun qr87 => pd_l qr87.1 fun r87 => pd_l qr87.2 fun F86 =>
                        pd_i (pd_ob sh 12 x2 = true) <|
                        Option.bind (pfX12_all sh n F86 x2 (xs (pd_w (x4 + 1)))) fun qr90 => pd_l qr90.1 fun r90 => pd_l qr90.2 fun F89 =>
                        if r87 = r90 then
                          pfL_law_b1196 Ls xs sh n (pfL_law_b23 Ls xs sh n k) F89 x1 x2 x3 x4
                        else
                          some 0
                      else
                        if (pd_and (xs x4) 31) = 9 then
                          pd_i (0 ≤ (pd_w (x4 + 1)) ∧ (pd_w (x4 + 1)) < Ls) <|
                          pd_i (pd_ob sh 11 x1 = true) <|
                          Option.bind (pfX11_ranked sh n F x1 (xs (pd_w (x4 + 1)))) fun qr94 => pd_l qr94.1 fun r94 => pd_l qr94.2 fun F93 =>
                          pd_i (pd_ob sh 12 x2 = true) <|
                          Option.bind (pfX12_ranked sh n F93 x2 (xs (pd_w (x4 + 1)))) fun qr97 => pd_l qr97.1 fun r97 => pd_l qr97.2 fun F96 =>
                          if r94 = r97 then
                            pfL_law_b1196 Ls xs sh n (pfL_law_b23 Ls xs sh n k) F96 x1 x2 x3 x4
                          else
                            some 0
                        else
                          if (pd_and (xs x4) 31) = 10 then
                            pd_i (0 ≤ (pd_w (x4 + 1)) ∧ (pd_w (x4 + 1)) < Ls) <|
                            pd_i (0 ≤ (pd_w (x4 + 2)) ∧ (pd_w (x4 + 2)) < Ls) <|
                            pd_i (pd_ob sh 11 x1 = true) <|
                            Option.bind (pfX11_estate sh n F x1 (xs (pd_w (x4 + 1))) (xs (pd_w (x4 + 2)))) fun qr102 => pd_l qr102.1 fun r102 => pd_l qr102.2 fun F101 =>
                            pd_i (pd_ob sh 12 x2 = true) <|
                            Option.bind (pfX12_estate sh n F101 x2 (xs (pd_w (x4 + 1))) (xs (pd_w (x4 + 2)))) fun qr105 => pd_l qr105.1 fun r105 => pd_l qr105.2 fun F104 =>
                            if r102 = r105 then
                              pfL_law_b1196 Ls xs sh n (pfL_law_b23 Ls xs sh n k) F104 x1 x2 x3 x4
                            else
                              some 0
                          else
                            if (pd_and (xs x4) 31) = 11 then
                              pd_i (0 ≤ (pd_w (x4 + 1)) ∧ (pd_w (x4 + 1)) < Ls) <|
                              pd_i (pd_ob sh 11 x1 = true) <|
                              Option.bind (pfX11_enough sh n F x1 (xs (pd_w (x4 + 1)))) fun qr109 => pd_l qr109.1 fun r109 => pd_l qr109.2 fun F108 =>
                              pd_i (pd_ob sh 12 x2 = true) <|
                              Option.bind (pfX12_enough sh n F108 x2 (xs (pd_w (x4 + 1)))) fun qr112 => pd_l qr112.1 fun r112 => pd_l qr112.2 fun F111 =>
                              if r109 = r112 then
                                pfL_law_b1196 Ls xs sh n (pfL_law_b23 Ls xs sh n k) F111 x1 x2 x3 x4
                              else
                                some 0
                            else
                              if (pd_and (xs x4) 31) = 12 then
                                pd_i (0 ≤ (pd_w (x4 + 1)) ∧ (pd_w (x4 + 1)) < Ls) <|
                                pd_i (pd_ob sh 11 x1 = true) <|
                                Option.bind (pfX11_onDay sh n F x1 (xs (pd_w (x4 + 1)))) fun qr116 => pd_l qr116.1 fun r116 => pd_l qr116.2 fun F115 =>
                                pd_i (pd_ob sh 12 x2 = true) <|
                                Option.bind (pfX12_onDay sh n F115 x2 (xs (pd_w (x4 + 1)))) fun qr119 => pd_l qr119.1 fun r119 => pd_l qr119.2 fun F118 =>
                                if r116 = r119 then
                                  pfL_law_b1196 Ls xs sh n (pfL_law_b23 Ls xs sh n k) F118 x1 x2 x3 x4
                                else
                                  some 0
                              else
                                if (pd_and (xs x4) 31) = 13 then
                                  pd_i (0 ≤ (pd_w (x4 + 1)) ∧ (pd_w (x4 + 1)) < Ls) <|
                                  pd_i (0 ≤ (pd_w (x4 + 2)) ∧ (pd_w (x4 + 2)) < Ls) <|
                                  pd_i (0 ≤ (pd_w (x4 + 3)) ∧ (pd_w (x4 + 3)) < Ls) <|
                                  pd_i (pd_ob sh 11 x1 = true) <|
                                  Option.bind (pfX11_bestDay sh n F x1 (xs (pd_w (x4 + 1))) (xs (pd_w (x4 + 2))) (xs (pd_w (x4 + 3)))) fun qr125 => pd_l qr125.1 fun r125 => pd_l qr125.2 fun F124 =>
                                  pd_i (pd_ob sh 12 x2 = true) <|
                                  Option.bind (pfX12_bestDay sh n F124 x2 (xs (pd_w (x4 + 1))) (xs (pd_w (x4 + 2))) (xs (pd_w (x4 + 3)))) fun qr128 => pd_l qr128.1 fun r128 => pd_l qr128.2 fun F127 =>
                                  if r125 = r128 then
                                    pfL_law_b1196 Ls xs sh n (pfL_law_b23 Ls xs sh n k) F127 x1 x2 x3 x4
                                  else
                                    some 0
                                else
                                  if (pd_and (xs x4) 31) = 14 then
                                    pd_i (0 ≤ (pd_w (x4 + 1)) ∧ (pd_w (x4 + 1)) < Ls) <|
                                    pd_i (pd_ob sh 11 x1 = true) <|
                                    Option.bind (pfX11_coverFor sh n F x1 (xs (pd_w (x4 + 1)))) fun qr132 => pd_l qr132.1 fun r132 => pd_l qr132.2 fun F131 =>
                                    pd_i (pd_ob sh 12 x2 = true) <|
                                    Option.bind (pfX12_coverFor sh n F131 x2 (xs (pd_w (x4 + 1)))) fun qr135 => pd_l qr135.1 fun r135 => pd_l qr135.2 fun F134 =>
                                    if r132 = r135 then
                                      pfL_law_b1196 Ls xs sh n (pfL_law_b23 Ls xs sh n k) F134 x1 x2 x3 x4
                                    else
                                      some 0
                                  else
                                    if (pd_and (xs x4) 31) = 15 then
                                      pd_i (0 ≤ (pd_w (x4 + 1)) ∧ (pd_w (x4 + 1)) < Ls) <|
                                      Option.bind (pfL_markless sh n F x1 (xs (pd_w (x4 + 1))) x3) fun qr139 => pd_l qr139.1 fun r139 => pd_l qr139.2 fun F138 =>
                                      pd_i (pd_ob sh 12 x2 = true) <|
                                      Option.bind (pfX12_markless sh n F138 x2 (xs (pd_w (x4 + 1)))) fun qr141 => pd_l qr141.1 fun r141 => pd_l qr141.2 fun F140 =>
                                      Option.bind (pfX12_thrown sh n F140 x2) fun qr144 => pd_l qr144.1 fun r144 => pd_l qr144.2 fun F143 =>
                                      if r144 = r139 then
                                        if r139 ≠ 0 then
                                          pfL_law_b772 Ls xs sh n (pfL_law_b23 Ls xs sh n k) F143 x1 x2 x3 x4
                                        else
                                          pd_i (pd_ib sh 1 0 x3 0 = true) <|
                                          if (F143 x3 0) = r141 then
                                            pfL_law_b772 Ls xs sh n (pfL_law_b23 Ls xs sh n k) F143 x1 x2 x3 x4
                                          else
                                            some 0
                                      else
                                        some 0
                                    else
                                      if (pd_and (xs x4) 31) = 16 then
                                        pd_i (0 ≤ (pd_w (x4 + 1)) ∧ (pd_w (x4 + 1)) < Ls) <|
                                        pd_i (0 ≤ (pd_w (x4 + 2)) ∧ (pd_w (x4 + 2)) < Ls) <|
                                        Option.bind (pfL_joining sh n F x1 (xs (pd_w (x4 + 1))) (xs (pd_w (x4 + 2))) x3) fun qr149 => pd_l qr149.1 fun r149 => pd_l qr149.2 fun F148 =>
                                        pd_i (pd_ob sh 12 x2 = true) <|
                                        Option.bind (pfX12_joining sh n F148 x2 (xs (pd_w (x4 + 1))) (xs (pd_w (x4 + 2)))) fun qr151 => pd_l qr151.1 fun r151 => pd_l qr151.2 fun F150 =>
                                        Option.bind (pfX12_thrown sh n F150 x2) fun qr154 => pd_l qr154.1 fun r154 => pd_l qr154.2 fun F153 =>
                                        if r154 = r149 then
                                          if r149 ≠ 0 then
                                            pfL_law_b839 Ls xs sh n (pfL_law_b23 Ls xs sh n k) F153 x1 x2 x3 x4
                                          else
                                            pd_i (pd_ib sh 1 0 x3 0 = true) <|
                                            if (F153 x3 0) = r151 then
                                              pfL_law_b839 Ls xs sh n (pfL_law_b23 Ls xs sh n k) F153 x1 x2 x3 x4
                                            else
                                              some 0
                                        else
                                          some 0
                                      else
                                        if (pd_and (xs x4) 31) = 17 then
                                          pd_i (0 ≤ (pd_w (x4 + 1)) ∧ (pd_w (x4 + 1)) < Ls) <|
                                          pd_i (0 ≤ (pd_w (x4 + 2)) ∧ (pd_w (x4 + 2)) < Ls) <|
                                          pd_i (pd_ob sh 11 x1 = true) <|
                                          Option.bind (pfX11_apart sh n F x1 (xs (pd_w (x4 + 1))) (xs (pd_w (x4 + 2)))) fun qr159 => pd_l qr159.1 fun r159 => pd_l qr159.2 fun F158 =>
                                          pd_i (pd_ob sh 12 x2 = true) <|
                                          Option.bind (pfX12_apart sh n F158 x2 (xs (pd_w (x4 + 1))) (xs (pd_w (x4 + 2)))) fun qr162 => pd_l qr162.1 fun r162 => pd_l qr162.2 fun F161 =>
                                          if r159 = r162 then
                                            pfL_law_b1196 Ls xs sh n (pfL_law_b23 Ls xs sh n k) F161 x1 x2 x3 x4
                                          else
                                            some 0
                                        else
                                          if (pd_and (xs x4) 31) = 18 then
                                            pd_i (0 ≤ (pd_w (x4 + 1)) ∧ (pd_w (x4 + 1)) < Ls) <|
                                            pd_i (0 ≤ (pd_w (x4 + 2)) ∧ (pd_w (x4 + 2)) < Ls) <|
                                            pd_i (pd_ob sh 11 x1 = true) <|
                                            Option.bind (pfX11_ways sh n F x1 (xs (pd_w (x4 + 1))) (xs (pd_w (x4 + 2)))) fun qr167 => pd_l qr167.1 fun r167 => pd_l qr167.2 fun F166 =>
                                            pd_i (pd_ob sh 12 x2 = true) <|
                                            Option.bind (pfX12_ways sh n F166 x2 (xs (pd_w (x4 + 1))) (xs (pd_w (x4 + 2)))) fun qr170 => pd_l qr170.1 fun r170 => pd_l qr170.2 fun F169 =>
                                            if r167 = r170 then
                                              pfL_law_b1196 Ls xs sh n (pfL_law_b23 Ls xs sh n k) F169 x1 x2 x3 x4
                                            else
                                              some 0
                                          else
                                            if (pd_and (xs x4) 31) = 19 then
                                              pd_i (0 ≤ (pd_w (x4 + 1)) ∧ (pd_w (x4 + 1)) < Ls) <|
                                              pd_i (0 ≤ (pd_w (x4 + 2)) ∧ (pd_w (x4 + 2)) < Ls) <|
                                              pd_i (pd_ob sh 11 x1 = true) <|
                                              Option.bind (pfX11_balance sh n F x1 (xs (pd_w (x4 + 1))) (xs (pd_w (x4 + 2)))) fun qr175 => pd_l qr175.1 fun r175 => pd_l qr175.2 fun F174 =>
                                              pd_i (pd_ob sh 12 x2 = true) <|
                                              Option.bind (pfX12_balance sh n F174 x2 (xs (pd_w (x4 + 1))) (xs (pd_w (x4 + 2)))) fun qr178 => pd_l qr178.1 fun r178 => pd_l qr178.2 fun F177 =>
                                              if r175 = r178 then
                                                pfL_law_b1196 Ls xs sh n (pfL_law_b23 Ls xs sh n k) F177 x1 x2 x3 x4
                                              else
                                                some 0
                                            else
                                              if (pd_and (xs x4) 31) = 20 then
                                                pd_i (0 ≤ (pd_w (x4 + 1)) ∧ (pd_w (x4 + 1)) < Ls) <|
                                                pd_i (0 ≤ (pd_w (x4 + 2)) ∧ (pd_w (x4 + 2)) < Ls) <|
                                                pd_i (pd_ob sh 11 x1 = true) <|
                                                Option.bind (pfX11_join sh n F x1 (xs (pd_w (x4 + 1))) (xs (pd_w (x4 + 2)))) fun qr183 => pd_l qr183.1 fun r183 => pd_l qr183.2 fun F182 =>
                                                pd_i (pd_ob sh 12 x2 = true) <|
                                                Option.bind (pfX12_join sh n F182 x2 (xs (pd_w (x4 + 1))) (xs (pd_w (x4 + 2)))) fun qr186 => pd_l qr186.1 fun r186 => pd_l qr186.2 fun F185 =>
                                                if r183 = r186 then
                                                  pfL_law_b1196 Ls xs sh n (pfL_law_b23 Ls xs sh n k) F185 x1 x2 x3 x4
                                                else
                                                  some 0
                                              else
                                                if (pd_and (xs x4) 31) = 21 then
                                                  pd_i (0 ≤ (pd_w (x4 + 1)) ∧ (pd_w (x4 + 1)) < Ls) <|
                                                  pd_i (pd_ob sh 11 x1 = true) <|
                                                  Option.bind (pfX11_split sh n F x1 (xs (pd_w (x4 + 1)))) fun qr190 => pd_l qr190.1 fun r190 => pd_l qr190.2 fun F189 =>
                                                  pd_i (pd_ob sh 12 x2 = true) <|
                                                  Option.bind (pfX12_split sh n F189 x2 (xs (pd_w (x4 + 1)))) fun qr193 => pd_l qr193.1 fun r193 => pd_l qr193.2 fun F192 =>
                                                  if r190 = r193 then
                                                    pfL_law_b1196 Ls xs sh n (pfL_law_b23 Ls xs sh n k) F192 x1 x2 x3 x4
                                                  else
                                                    some 0
                                                else
                                                  if (pd_and (xs x4) 31) = 22 then
                                                    pd_i (0 ≤ (pd_w (x4 + 1)) ∧ (pd_w (x4 + 1)) < Ls) <|
                                                    pd_i (0 ≤ (pd_w (x4 + 2)) ∧ (pd_w (x4 + 2)) < Ls) <|
                                                    pd_i (pd_ob sh 11 x1 = true) <|
                                                    Option.bind (pfX11_tell sh n F x1 (xs (pd_w (x4 + 1))) (xs (pd_w (x4 + 2)))) fun qr198 => pd_l qr198.1 fun r198 => pd_l qr198.2 fun F197 =>
                                                    pd_i (pd_ob sh 12 x2 = true) <|
                                                    Option.bind (pfX12_tell sh n F197 x2 (xs (pd_w (x4 + 1))) (xs (pd_w (x4 + 2)))) fun qr201 => pd_l qr201.1 fun r201 => pd_l qr201.2 fun F200 =>
                                                    if r198 = r201 then
                                                      pfL_law_b1196 Ls xs sh n (pfL_law_b23 Ls xs sh n k) F200 x1 x2 x3 x4
                                                    else
                                                      some 0
                                                  else
                                                    if (pd_and (xs x4) 31) = 23 then
                                                      pd_i (0 ≤ (pd_w (x4 + 1)) ∧ (pd_w (x4 + 1)) < Ls) <|
                                                      pd_i (0 ≤ (pd_w (x4 + 2)) ∧ (pd_w (x4 + 2)) < Ls) <|
                                                      if (xs (pd_w (x4 + 2))) = 0 then
                                                        pfL_law_b1073 Ls xs sh n (pfL_law_b23 Ls xs sh n k) F x1 x2 x3 x4 0 (xs (pd_w (x4 + 1))) x1
                                                      else
                                                        pfL_law_b1073 Ls xs sh n (pfL_law_b23 Ls xs sh n k) F x1 x2 x3 x4 1 (xs (pd_w (x4 + 1))) x1
                                                    else
                                                      if (pd_and (xs x4) 31) = 24 then
                                                        pd_i (pd_ob sh 11 x1 = true) <|
                                                        Option.bind (pfX11_undo sh n F x1) fun qr206 => pd_l qr206.1 fun r206 => pd_l qr206.2 fun F205 =>
                                                        pd_i (pd_ob sh 12 x2 = true) <|
                                                        Option.bind (pfX12_undo sh n F205 x2) fun qr209 => pd_l qr209.1 fun r209 => pd_l qr209.2 fun F208 =>
                                                        if r206 = r209 then
                                                          pfL_law_b1196 Ls xs sh n (pfL_law_b23 Ls xs sh n k) F208 x1 x2 x3 x4
                                                        else
                                                          some 0
                                                      else
                                                        if (pd_and (xs x4) 31) = 25 then
                                                          pd_i (0 ≤ (pd_w (x4 + 1)) ∧ (pd_w (x4 + 1)) < Ls) <|
                                                          pd_i (0 ≤ (pd_w (x4 + 2)) ∧ (pd_w (x4 + 2)) < Ls) <|
                                                          if (xs (pd_w (x4 + 2))) = 0 then
                                                            pfL_law_b1139 Ls xs sh n (pfL_law_b23 Ls xs sh n k) F x1 x2 x3 x4 0 (xs (pd_w (x4 + 1))) x1
                                                          else
                                                            pfL_law_b1139 Ls xs sh n (pfL_law_b23 Ls xs sh n k) F x1 x2 x3 x4 1 (xs (pd_w (x4 + 1))) x1
                                                        else
                                                          if (pd_and (xs x4) 31) = 26 then
                                                            pd_i (0 ≤ (pd_w (x4 + 1)) ∧ (pd_w (x4 + 1)) < Ls) <|
                                                            pd_i (pd_ob sh 11 x1 = true) <|
                                                            Option.bind (pfX11_count sh n F x1 (xs (pd_w (x4 + 1)))) fun qr215 => pd_l qr215.1 fun r215 => pd_l qr215.2 fun F214 =>
                                                            pd_i (pd_ob sh 12 x2 = true) <|
                                                            Option.bind (pfX12_count sh n F214 x2 (xs (pd_w (x4 + 1)))) fun qr218 => pd_l qr218.1 fun r218 => pd_l qr218.2 fun F217 =>
                                                            if r215 = r218 then
                                                              pfL_law_b1196 Ls xs sh n (pfL_law_b23 Ls xs sh n k) F217 x1 x2 x3 x4
                                                            else
                                                              some 0
                                                          else
                                                            pfL_law_b1196 Ls xs sh n (pfL_law_b23 Ls xs sh n k) F x1 x2 x3 x4
def pfL_law (Ls : Int) (xs : Int → Int) (n : Nat) (sh : pd_S) (F : pd_F) : Option Int :=
  pd_l ((sh.length : Int) + 1) fun o222 => pd_l (pd_z F (sh.length + 1)) fun F221 => pd_l (sh ++ [(4, 11, 10)]) fun sh220 =>
  pd_i (1 ≤ o222) <|
  Option.bind (pfX11_init sh220 F221 o222) fun qsh224 => pd_l qsh224.1 fun sh224 => pd_l qsh224.2 fun F223 =>
  pd_i (o222 ≠ 0) <|
  pd_l ((sh224.length : Int) + 1) fun o229 => pd_l (pd_z F223 (sh224.length + 1)) fun F228 => pd_l (sh224 ++ [(4, 12, 52)]) fun sh227 =>
  pd_i (1 ≤ o229) <|
  Option.bind (pfX12_init sh227 F228 o229) fun qsh231 => pd_l qsh231.1 fun sh231 => pd_l qsh231.2 fun F230 =>
  pd_i (o229 ≠ 0) <|
  pd_l ((sh231.length : Int) + 1) fun o236 => pd_l (pd_z F230 (sh231.length + 1)) fun F235 => pd_l (sh231 ++ [(1, 0, 1)]) fun sh234 =>
  pd_i (o236 ≠ 0) <|
  pfL_law_b23 Ls xs sh234 n n F235 o222 o229 o236 0
set_option maxHeartbeats 8000000 in
set_option maxRecDepth 100000 in
theorem pkL_law_b1196 (E : pd_E) (l : Launch) (hlt : l.stackTraces = false) {Ls : Int} {xs : Int → Int} (hLs : Ls = (E.2.2.2 16 : Nat) ∧ Ls < 2147483648) (hxs : ∀ j : Int, 0 ≤ j → j < Ls → xs j = (Int32.ofNat (E.2.2.2 (17 + j.toNat))).toInt) {sh : pd_S} {n : Nat} {B B2 : Nat} {c23 : pd_F → Int → Int → Int → Int → Option Int} (hL23 : ∀ (cells slots : Nat) (hc0 : cells + B ≤ 601024) (hs0 : slots + 6 * B2 ≤ 7293034) (F : pd_F) (x1 : Int) (x2 : Int) (x3 : Int) (x4 : Int), c23 F x1 x2 x3 x4 = some 1 → pd_V E l room_1 (RL, cL_law, 8, ret, "law") (pd_Ql E) false cells slots sh F 23 [pd_R (-40), pd_R x1, pd_R x2, pd_R x3, pd_I x4, pd_N, pd_N, pd_N] []) (cells slots : Nat) (hc0 : cells + B ≤ 601024) (hs0 : slots + 6 * B2 ≤ 7293034) (F : pd_F) (x1 : Int) (x2 : Int) (x3 : Int) (x4 : Int) (hf : pfL_law_b1196 Ls xs sh n c23 F x1 x2 x3 x4 = some 1) : pd_V E l room_1 (RL, cL_law, 8, ret, "law") (pd_Ql E) false cells slots sh F 1196 [pd_R (-40), pd_R x1, pd_R x2, pd_R x3, pd_I x4, pd_N, pd_N, pd_N] [] := by
  unfold pfL_law_b1196 at hf
  refine pd_iincN (L' := fun y => [pd_R (-40), pd_R x1, pd_R x2, pd_R x3, pd_I y, pd_N, pd_N, pd_N]) dL_law_1196 rfl (by decide) (by decide) (fun _ => rfl) (fun x4_1196 ex4_1196 => ?_)
  have hf := pd_lt hf ex4_1196
  clear ex4_1196
  refine pd_goto (tgt := 23) dL_law_1199 (by decide) ?_
  exact pd_weak (L' := [pd_R (-40), pd_R x1, pd_R x2, pd_R x3, pd_I x4_1196, pd_N, pd_N, pd_N]) ⟨Or.inr rfl, Or.inr rfl, Or.inr rfl, Or.inr rfl, Or.inr rfl, Or.inr rfl, Or.inr rfl, Or.inr rfl, trivial⟩ (hL23 _ _ (by omega) (by omega) _ _ _ _ _ hf)
set_option maxHeartbeats 8000000 in
set_option maxRecDepth 100000 in
theorem pkL_law_b438 (E : pd_E) (l : Launch) (hlt : l.stackTraces = false) {Ls : Int} {xs : Int → Int} (hLs : Ls = (E.2.2.2 16 : Nat) ∧ Ls < 2147483648) (hxs : ∀ j : Int, 0 ≤ j → j < Ls → xs j = (Int32.ofNat (E.2.2.2 (17 + j.toNat))).toInt) {sh : pd_S} {n : Nat} {B B2 : Nat} {c23 : pd_F → Int → Int → Int → Int → Option Int} (hL23 : ∀ (cells slots : Nat) (hc0 : cells + B ≤ 601024) (hs0 : slots + 6 * B2 ≤ 7293034) (F : pd_F) (x1 : Int) (x2 : Int) (x3 : Int) (x4 : Int), c23 F x1 x2 x3 x4 = some 1 → pd_V E l room_1 (RL, cL_law, 8, ret, "law") (pd_Ql E) false cells slots sh F 23 [pd_R (-40), pd_R x1, pd_R x2, pd_R x3, pd_I x4, pd_N, pd_N, pd_N] []) (cells slots : Nat) (hc0 : cells + B ≤ 601024) (hs0 : slots + 6 * B2 ≤ 7293034) (F : pd_F) (x1 : Int) (x2 : Int) (x3 : Int) (x4 : Int) (hf : pfL_law_b438 Ls xs sh n c23 F x1 x2 x3 x4 = some 1) : pd_V E l room_1 (RL, cL_law, 8, ret, "law") (pd_Ql E) false cells slots sh F 438 [pd_R (-40), pd_R x1, pd_R x2, pd_R x3, pd_I x4, pd_N, pd_N, pd_N] [] := by
  unfold pfL_law_b438 at hf
  refine pd_goto (tgt := 1196) dL_law_438 (by decide) ?_
  exact pd_weak (L' := [pd_R (-40), pd_R x1, pd_R x2, pd_R x3, pd_I x4, pd_N, pd_N, pd_N]) ⟨Or.inr rfl, Or.inr rfl, Or.inr rfl, Or.inr rfl, Or.inr rfl, Or.inr rfl, Or.inr rfl, Or.inr rfl, trivial⟩ (pkL_law_b1196 E l hlt hLs hxs hL23 _ _ (by omega) (by omega) _ _ _ _ _ hf)
set_option maxHeartbeats 8000000 in
set_option maxRecDepth 100000 in
theorem pkL_law_b772 (E : pd_E) (l : Launch) (hlt : l.stackTraces = false) {Ls : Int} {xs : Int → Int} (hLs : Ls = (E.2.2.2 16 : Nat) ∧ Ls < 2147483648) (hxs : ∀ j : Int, 0 ≤ j → j < Ls → xs j = (Int32.ofNat (E.2.2.2 (17 + j.toNat))).toInt) {sh : pd_S} {n : Nat} {B B2 : Nat} {c23 : pd_F → Int → Int → Int → Int → Option Int} (hL23 : ∀ (cells slots : Nat) (hc0 : cells + B ≤ 601024) (hs0 : slots + 6 * B2 ≤ 7293034) (F : pd_F) (x1 : Int) (x2 : Int) (x3 : Int) (x4 : Int), c23 F x1 x2 x3 x4 = some 1 → pd_V E l room_1 (RL, cL_law, 8, ret, "law") (pd_Ql E) false cells slots sh F 23 [pd_R (-40), pd_R x1, pd_R x2, pd_R x3, pd_I x4, pd_N, pd_N, pd_N] []) (cells slots : Nat) (hc0 : cells + B ≤ 601024) (hs0 : slots + 6 * B2 ≤ 7293034) (F : pd_F) (x1 : Int) (x2 : Int) (x3 : Int) (x4 : Int) (hf : pfL_law_b772 Ls xs sh n c23 F x1 x2 x3 x4 = some 1) : pd_V E l room_1 (RL, cL_law, 8, ret, "law") (pd_Ql E) false cells slots sh F 772 [pd_R (-40), pd_R x1, pd_R x2, pd_R x3, pd_I x4, pd_N, pd_N, pd_N] [] := by
  unfold pfL_law_b772 at hf
  refine pd_goto (tgt := 1196) dL_law_772 (by decide) ?_
  exact pd_weak (L' := [pd_R (-40), pd_R x1, pd_R x2, pd_R x3, pd_I x4, pd_N, pd_N, pd_N]) ⟨Or.inr rfl, Or.inr rfl, Or.inr rfl, Or.inr rfl, Or.inr rfl, Or.inr rfl, Or.inr rfl, Or.inr rfl, trivial⟩ (pkL_law_b1196 E l hlt hLs hxs hL23 _ _ (by omega) (by omega) _ _ _ _ _ hf)
set_option maxHeartbeats 8000000 in
set_option maxRecDepth 100000 in
theorem pkL_law_b839 (E : pd_E) (l : Launch) (hlt : l.stackTraces = false) {Ls : Int} {xs : Int → Int} (hLs : Ls = (E.2.2.2 16 : Nat) ∧ Ls < 2147483648) (hxs : ∀ j : Int, 0 ≤ j → j < Ls → xs j = (Int32.ofNat (E.2.2.2 (17 + j.toNat))).toInt) {sh : pd_S} {n : Nat} {B B2 : Nat} {c23 : pd_F → Int → Int → Int → Int → Option Int} (hL23 : ∀ (cells slots : Nat) (hc0 : cells + B ≤ 601024) (hs0 : slots + 6 * B2 ≤ 7293034) (F : pd_F) (x1 : Int) (x2 : Int) (x3 : Int) (x4 : Int), c23 F x1 x2 x3 x4 = some 1 → pd_V E l room_1 (RL, cL_law, 8, ret, "law") (pd_Ql E) false cells slots sh F 23 [pd_R (-40), pd_R x1, pd_R x2, pd_R x3, pd_I x4, pd_N, pd_N, pd_N] []) (cells slots : Nat) (hc0 : cells + B ≤ 601024) (hs0 : slots + 6 * B2 ≤ 7293034) (F : pd_F) (x1 : Int) (x2 : Int) (x3 : Int) (x4 : Int) (hf : pfL_law_b839 Ls xs sh n c23 F x1 x2 x3 x4 = some 1) : pd_V E l room_1 (RL, cL_law, 8, ret, "law") (pd_Ql E) false cells slots sh F 839 [pd_R (-40), pd_R x1, pd_R x2, pd_R x3, pd_I x4, pd_N, pd_N, pd_N] [] := by
  unfold pfL_law_b839 at hf
  refine pd_goto (tgt := 1196) dL_law_839 (by decide) ?_
  exact pd_weak (L' := [pd_R (-40), pd_R x1, pd_R x2, pd_R x3, pd_I x4, pd_N, pd_N, pd_N]) ⟨Or.inr rfl, Or.inr rfl, Or.inr rfl, Or.inr rfl, Or.inr rfl, Or.inr rfl, Or.inr rfl, Or.inr rfl, trivial⟩ (pkL_law_b1196 E l hlt hLs hxs hL23 _ _ (by omega) (by omega) _ _ _ _ _ hf)
set_option maxHeartbeats 8000000 in
set_option maxRecDepth 100000 in
theorem pkL_law_b1097 (E : pd_E) (l : Launch) (hlt : l.stackTraces = false) {Ls : Int} {xs : Int → Int} (hLs : Ls = (E.2.2.2 16 : Nat) ∧ Ls < 2147483648) (hxs : ∀ j : Int, 0 ≤ j → j < Ls → xs j = (Int32.ofNat (E.2.2.2 (17 + j.toNat))).toInt) {sh : pd_S} {n : Nat} {B B2 : Nat} {c23 : pd_F → Int → Int → Int → Int → Option Int} (hL23 : ∀ (cells slots : Nat) (hc0 : cells + B ≤ 601024) (hs0 : slots + 6 * B2 ≤ 7293034) (F : pd_F) (x1 : Int) (x2 : Int) (x3 : Int) (x4 : Int), c23 F x1 x2 x3 x4 = some 1 → pd_V E l room_1 (RL, cL_law, 8, ret, "law") (pd_Ql E) false cells slots sh F 23 [pd_R (-40), pd_R x1, pd_R x2, pd_R x3, pd_I x4, pd_N, pd_N, pd_N] []) (cells slots : Nat) (hc0 : cells + B ≤ 601024) (hs0 : slots + 6 * B2 ≤ 7293034) (F : pd_F) (x1 : Int) (x2 : Int) (x3 : Int) (x4 : Int) (t0 : Int) (t1 : Int) (t2 : Int) (t3 : Int) (hf : pfL_law_b1097 Ls xs sh n c23 F x1 x2 x3 x4 t0 t1 t2 t3 = some 1) : pd_V E l room_1 (RL, cL_law, 8, ret, "law") (pd_Ql E) false cells slots sh F 1097 [pd_R (-40), pd_R x1, pd_R x2, pd_R x3, pd_I x4, pd_N, pd_N, pd_N] [pd_I t0, pd_I t1, pd_R t2, pd_I t3] := by
  unfold pfL_law_b1097 at hf
  obtain ⟨hg3, hf⟩ := pd_ig hf
  obtain ⟨r2, F1, hr, hf⟩ := pd_ob2 hf
  refine pd_callV (pkX12_mark l hr) dL_law_1097 pq_1223 pq_1226 pq_1227 (show vwCl[12]? = some (yX12_mark.cls, TX12, 52) from rfl) hg3 (pd_okL (by decide) (by decide) (by omega) (by omega) pq_1224 pq_1225 (by decide) (show (parseMethodDescriptor yX12_mark.desc).map (fun d => d.parameters.length) = some 2 from by decide +kernel)) (Nat.le_of_ble_eq_true rfl) rfl ?_
  refine pd_icmp_eq (tgt := 1196) dL_law_1100 (by decide) (fun hc => ?_) (fun hc => ?_)
  · have hf := pd_ip hf hc
    exact pd_weak (L' := [pd_R (-40), pd_R x1, pd_R x2, pd_R x3, pd_I x4, pd_N, pd_N, pd_N]) ⟨Or.inr rfl, Or.inr rfl, Or.inr rfl, Or.inr rfl, Or.inr rfl, Or.inr rfl, Or.inr rfl, Or.inr rfl, trivial⟩ (pkL_law_b1196 E l hlt hLs hxs hL23 _ _ (by omega) (by omega) _ _ _ _ _ hf)
  · have hf := pd_in_ hf hc
    refine pd_iconst dL_law_1103 (by decide) ?_
    exact absurd (pd_inj1 hf) (by decide)
set_option maxHeartbeats 8000000 in
set_option maxRecDepth 100000 in
theorem pkL_law_b1073 (E : pd_E) (l : Launch) (hlt : l.stackTraces = false) {Ls : Int} {xs : Int → Int} (hLs : Ls = (E.2.2.2 16 : Nat) ∧ Ls < 2147483648) (hxs : ∀ j : Int, 0 ≤ j → j < Ls → xs j = (Int32.ofNat (E.2.2.2 (17 + j.toNat))).toInt) {sh : pd_S} {n : Nat} {B B2 : Nat} {c23 : pd_F → Int → Int → Int → Int → Option Int} (hL23 : ∀ (cells slots : Nat) (hc0 : cells + B ≤ 601024) (hs0 : slots + 6 * B2 ≤ 7293034) (F : pd_F) (x1 : Int) (x2 : Int) (x3 : Int) (x4 : Int), c23 F x1 x2 x3 x4 = some 1 → pd_V E l room_1 (RL, cL_law, 8, ret, "law") (pd_Ql E) false cells slots sh F 23 [pd_R (-40), pd_R x1, pd_R x2, pd_R x3, pd_I x4, pd_N, pd_N, pd_N] []) (cells slots : Nat) (hc0 : cells + B ≤ 601024) (hs0 : slots + 6 * B2 ≤ 7293034) (F : pd_F) (x1 : Int) (x2 : Int) (x3 : Int) (x4 : Int) (t0 : Int) (t1 : Int) (t2 : Int) (hf : pfL_law_b1073 Ls xs sh n c23 F x1 x2 x3 x4 t0 t1 t2 = some 1) : pd_V E l room_1 (RL, cL_law, 8, ret, "law") (pd_Ql E) false cells slots sh F 1073 [pd_R (-40), pd_R x1, pd_R x2, pd_R x3, pd_I x4, pd_N, pd_N, pd_N] [pd_I t0, pd_I t1, pd_R t2] := by
  unfold pfL_law_b1073 at hf
  obtain ⟨hg6, hf⟩ := pd_ig hf
  obtain ⟨r5, F4, hr, hf⟩ := pd_ob2 hf
  refine pd_callV (pkX11_mark l hr) dL_law_1073 pq_1228 pq_1231 pq_1232 (show vwCl[11]? = some (yX11_mark.cls, TX11, 10) from rfl) hg6 (pd_okL (by decide) (by decide) (by omega) (by omega) pq_1229 pq_1230 (by decide) (show (parseMethodDescriptor yX11_mark.desc).map (fun d => d.parameters.length) = some 2 from by decide +kernel)) (Nat.le_of_ble_eq_true rfl) rfl ?_
  refine pd_aload_n (i := 2) dL_law_1076 rfl rfl ?_
  refine pd_aload_n (i := 0) dL_law_1077 rfl rfl ?_
  refine pd_iload (i := 4) dL_law_1078 rfl ?_
  refine pd_iconst dL_law_1080 (by decide) ?_
  refine pd_iadd dL_law_1081 ?_
  obtain ⟨hg7, hf⟩ := pd_ig hf
  refine pd_xld dL_law_1082 hLs hxs hg7 ?_
  refine pd_aload_n (i := 0) dL_law_1083 rfl rfl ?_
  refine pd_iload (i := 4) dL_law_1084 rfl ?_
  refine pd_iconst dL_law_1086 (by decide) ?_
  refine pd_iadd dL_law_1087 ?_
  obtain ⟨hg8, hf⟩ := pd_ig hf
  refine pd_xld dL_law_1088 hLs hxs hg8 ?_
  refine pd_if_eq (tgt := 1096) dL_law_1089 (by decide) (fun hc => ?_) (fun hc => ?_)
  · have hf := pd_ip hf hc
    refine pd_iconst dL_law_1096 (by decide) ?_
    exact pd_weak (L' := [pd_R (-40), pd_R x1, pd_R x2, pd_R x3, pd_I x4, pd_N, pd_N, pd_N]) ⟨Or.inr rfl, Or.inr rfl, Or.inr rfl, Or.inr rfl, Or.inr rfl, Or.inr rfl, Or.inr rfl, Or.inr rfl, trivial⟩ (pkL_law_b1097 E l hlt hLs hxs hL23 _ _ (by omega) (by omega) _ _ _ _ _ _ _ _ _ hf)
  · have hf := pd_in_ hf hc
    refine pd_iconst dL_law_1092 (by decide) ?_
    refine pd_goto (tgt := 1097) dL_law_1093 (by decide) ?_
    exact pd_weak (L' := [pd_R (-40), pd_R x1, pd_R x2, pd_R x3, pd_I x4, pd_N, pd_N, pd_N]) ⟨Or.inr rfl, Or.inr rfl, Or.inr rfl, Or.inr rfl, Or.inr rfl, Or.inr rfl, Or.inr rfl, Or.inr rfl, trivial⟩ (pkL_law_b1097 E l hlt hLs hxs hL23 _ _ (by omega) (by omega) _ _ _ _ _ _ _ _ _ hf)
set_option maxHeartbeats 8000000 in
set_option maxRecDepth 100000 in
theorem pkL_law_b1163 (E : pd_E) (l : Launch) (hlt : l.stackTraces = false) {Ls : Int} {xs : Int → Int} (hLs : Ls = (E.2.2.2 16 : Nat) ∧ Ls < 2147483648) (hxs : ∀ j : Int, 0 ≤ j → j < Ls → xs j = (Int32.ofNat (E.2.2.2 (17 + j.toNat))).toInt) {sh : pd_S} {n : Nat} {B B2 : Nat} {c23 : pd_F → Int → Int → Int → Int → Option Int} (hL23 : ∀ (cells slots : Nat) (hc0 : cells + B ≤ 601024) (hs0 : slots + 6 * B2 ≤ 7293034) (F : pd_F) (x1 : Int) (x2 : Int) (x3 : Int) (x4 : Int), c23 F x1 x2 x3 x4 = some 1 → pd_V E l room_1 (RL, cL_law, 8, ret, "law") (pd_Ql E) false cells slots sh F 23 [pd_R (-40), pd_R x1, pd_R x2, pd_R x3, pd_I x4, pd_N, pd_N, pd_N] []) (cells slots : Nat) (hc0 : cells + B ≤ 601024) (hs0 : slots + 6 * B2 ≤ 7293034) (F : pd_F) (x1 : Int) (x2 : Int) (x3 : Int) (x4 : Int) (t0 : Int) (t1 : Int) (t2 : Int) (t3 : Int) (hf : pfL_law_b1163 Ls xs sh n c23 F x1 x2 x3 x4 t0 t1 t2 t3 = some 1) : pd_V E l room_1 (RL, cL_law, 8, ret, "law") (pd_Ql E) false cells slots sh F 1163 [pd_R (-40), pd_R x1, pd_R x2, pd_R x3, pd_I x4, pd_N, pd_N, pd_N] [pd_I t0, pd_I t1, pd_R t2, pd_I t3] := by
  unfold pfL_law_b1163 at hf
  obtain ⟨hg11, hf⟩ := pd_ig hf
  obtain ⟨r10, F9, hr, hf⟩ := pd_ob2 hf
  refine pd_callV (pkX12_keep l hr) dL_law_1163 pq_1233 pq_1236 pq_1237 (show vwCl[12]? = some (yX12_keep.cls, TX12, 52) from rfl) hg11 (pd_okL (by decide) (by decide) (by omega) (by omega) pq_1234 pq_1235 (by decide) (show (parseMethodDescriptor yX12_keep.desc).map (fun d => d.parameters.length) = some 2 from by decide +kernel)) (Nat.le_of_ble_eq_true rfl) rfl ?_
  refine pd_icmp_eq (tgt := 1196) dL_law_1166 (by decide) (fun hc => ?_) (fun hc => ?_)
  · have hf := pd_ip hf hc
    exact pd_weak (L' := [pd_R (-40), pd_R x1, pd_R x2, pd_R x3, pd_I x4, pd_N, pd_N, pd_N]) ⟨Or.inr rfl, Or.inr rfl, Or.inr rfl, Or.inr rfl, Or.inr rfl, Or.inr rfl, Or.inr rfl, Or.inr rfl, trivial⟩ (pkL_law_b1196 E l hlt hLs hxs hL23 _ _ (by omega) (by omega) _ _ _ _ _ hf)
  · have hf := pd_in_ hf hc
    refine pd_iconst dL_law_1169 (by decide) ?_
    exact absurd (pd_inj1 hf) (by decide)
set_option maxHeartbeats 8000000 in
set_option maxRecDepth 100000 in
theorem pkL_law_b1139 (E : pd_E) (l : Launch) (hlt : l.stackTraces = false) {Ls : Int} {xs : Int → Int} (hLs : Ls = (E.2.2.2 16 : Nat) ∧ Ls < 2147483648) (hxs : ∀ j : Int, 0 ≤ j → j < Ls → xs j = (Int32.ofNat (E.2.2.2 (17 + j.toNat))).toInt) {sh : pd_S} {n : Nat} {B B2 : Nat} {c23 : pd_F → Int → Int → Int → Int → Option Int} (hL23 : ∀ (cells slots : Nat) (hc0 : cells + B ≤ 601024) (hs0 : slots + 6 * B2 ≤ 7293034) (F : pd_F) (x1 : Int) (x2 : Int) (x3 : Int) (x4 : Int), c23 F x1 x2 x3 x4 = some 1 → pd_V E l room_1 (RL, cL_law, 8, ret, "law") (pd_Ql E) false cells slots sh F 23 [pd_R (-40), pd_R x1, pd_R x2, pd_R x3, pd_I x4, pd_N, pd_N, pd_N] []) (cells slots : Nat) (hc0 : cells + B ≤ 601024) (hs0 : slots + 6 * B2 ≤ 7293034) (F : pd_F) (x1 : Int) (x2 : Int) (x3 : Int) (x4 : Int) (t0 : Int) (t1 : Int) (t2 : Int) (hf : pfL_law_b1139 Ls xs sh n c23 F x1 x2 x3 x4 t0 t1 t2 = some 1) : pd_V E l room_1 (RL, cL_law, 8, ret, "law") (pd_Ql E) false cells slots sh F 1139 [pd_R (-40), pd_R x1, pd_R x2, pd_R x3, pd_I x4, pd_N, pd_N, pd_N] [pd_I t0, pd_I t1, pd_R t2] := by
  unfold pfL_law_b1139 at hf
  obtain ⟨hg14, hf⟩ := pd_ig hf
  obtain ⟨r13, F12, hr, hf⟩ := pd_ob2 hf
  refine pd_callV (pkX11_keep l hr) dL_law_1139 pq_1238 pq_1241 pq_1242 (show vwCl[11]? = some (yX11_keep.cls, TX11, 10) from rfl) hg14 (pd_okL (by decide) (by decide) (by omega) (by omega) pq_1239 pq_1240 (by decide) (show (parseMethodDescriptor yX11_keep.desc).map (fun d => d.parameters.length) = some 2 from by decide +kernel)) (Nat.le_of_ble_eq_true rfl) rfl ?_
  refine pd_aload_n (i := 2) dL_law_1142 rfl rfl ?_
  refine pd_aload_n (i := 0) dL_law_1143 rfl rfl ?_
  refine pd_iload (i := 4) dL_law_1144 rfl ?_
  refine pd_iconst dL_law_1146 (by decide) ?_
  refine pd_iadd dL_law_1147 ?_
  obtain ⟨hg15, hf⟩ := pd_ig hf
  refine pd_xld dL_law_1148 hLs hxs hg15 ?_
  refine pd_aload_n (i := 0) dL_law_1149 rfl rfl ?_
  refine pd_iload (i := 4) dL_law_1150 rfl ?_
  refine pd_iconst dL_law_1152 (by decide) ?_
  refine pd_iadd dL_law_1153 ?_
  obtain ⟨hg16, hf⟩ := pd_ig hf
  refine pd_xld dL_law_1154 hLs hxs hg16 ?_
  refine pd_if_eq (tgt := 1162) dL_law_1155 (by decide) (fun hc => ?_) (fun hc => ?_)
  · have hf := pd_ip hf hc
    refine pd_iconst dL_law_1162 (by decide) ?_
    exact pd_weak (L' := [pd_R (-40), pd_R x1, pd_R x2, pd_R x3, pd_I x4, pd_N, pd_N, pd_N]) ⟨Or.inr rfl, Or.inr rfl, Or.inr rfl, Or.inr rfl, Or.inr rfl, Or.inr rfl, Or.inr rfl, Or.inr rfl, trivial⟩ (pkL_law_b1163 E l hlt hLs hxs hL23 _ _ (by omega) (by omega) _ _ _ _ _ _ _ _ _ hf)
  · have hf := pd_in_ hf hc
    refine pd_iconst dL_law_1158 (by decide) ?_
    refine pd_goto (tgt := 1163) dL_law_1159 (by decide) ?_
    exact pd_weak (L' := [pd_R (-40), pd_R x1, pd_R x2, pd_R x3, pd_I x4, pd_N, pd_N, pd_N]) ⟨Or.inr rfl, Or.inr rfl, Or.inr rfl, Or.inr rfl, Or.inr rfl, Or.inr rfl, Or.inr rfl, Or.inr rfl, trivial⟩ (pkL_law_b1163 E l hlt hLs hxs hL23 _ _ (by omega) (by omega) _ _ _ _ _ _ _ _ _ hf)
set_option maxHeartbeats 8000000 in
set_option maxRecDepth 100000 in
theorem pkL_law_b23 (E : pd_E) (l : Launch) (hlt : l.stackTraces = false) {Ls : Int} {xs : Int → Int} (hLs : Ls = (E.2.2.2 16 : Nat) ∧ Ls < 2147483648) (hxs : ∀ j : Int, 0 ≤ j → j < Ls → xs j = (Int32.ofNat (E.2.2.2 (17 + j.toNat))).toInt) {sh : pd_S} {n : Nat} : ∀ (k cells slots : Nat) (hc0 : cells + k ≤ 601024) (hs0 : slots + 6 * k ≤ 7293034) (F : pd_F) (x1 : Int) (x2 : Int) (x3 : Int) (x4 : Int), pfL_law_b23 Ls xs sh n k F x1 x2 x3 x4 = some 1 → pd_V E l room_1 (RL, cL_law, 8, ret, "law") (pd_Ql E) false cells slots sh F 23 [pd_R (-40), pd_R x1, pd_R x2, pd_R x3, pd_I x4, pd_N, pd_N, pd_N] [] := by
  intro k
  induction k with
  | zero => intro cells slots _ _ F x1 x2 x3 x4 hf; exact absurd hf (by unfold pfL_law_b23; exact fun h => nomatch h)
  | succ k ih0 =>
    intro cells slots hc0 hs0 F x1 x2 x3 x4 hf
    have ih : ∀ (cells slots : Nat) (hc0 : cells + k ≤ 601024) (hs0 : slots + 6 * k ≤ 7293034) (F : pd_F) (x1 : Int) (x2 : Int) (x3 : Int) (x4 : Int), pfL_law_b23 Ls xs sh n k F x1 x2 x3 x4 = some 1 → pd_V E l room_1 (RL, cL_law, 8, ret, "law") (pd_Ql E) false cells slots sh F 23 [pd_R (-40), pd_R x1, pd_R x2, pd_R x3, pd_I x4, pd_N, pd_N, pd_N] [] := fun c1 c2 a b => ih0 c1 c2 a b
    unfold pfL_law_b23 at hf
    refine pd_iload (i := 4) dL_law_23 rfl ?_
    refine pd_aload_n (i := 0) dL_law_25 rfl rfl ?_
    refine pd_xlen dL_law_26 hLs ?_
    refine pd_bipush dL_law_27 (by decide) ?_
    refine pd_isub dL_law_29 ?_
    refine pd_icmp_gt (tgt := 1202) dL_law_30 (by decide) (fun hc => ?_) (fun hc => ?_)
    · have hf := pd_ip hf hc
      refine pd_iconst dL_law_1202 (by decide) ?_
      exact pd_lret1 dL_law_1203 (by omega) (by omega)
    · have hf := pd_in_ hf hc
      refine pd_aload_n (i := 0) dL_law_33 rfl rfl ?_
      refine pd_iload (i := 4) dL_law_34 rfl ?_
      obtain ⟨hg17, hf⟩ := pd_ig hf
      refine pd_xld dL_law_36 hLs hxs hg17 ?_
      refine pd_bipush dL_law_37 (by decide) ?_
      refine pd_iand dL_law_39 ?_
      by_cases hv0 : (pd_and (xs x4) 31) = 0
      · have hf := pd_ip hf hv0
        refine pd_tabE (v := 0) (off := 124) (tgt := 164) dL_law_40 hv0 (by decide) (by decide) (by decide) (by decide) ?_
        refine pd_aload_n (i := 1) dL_law_164 rfl rfl ?_
        refine pd_aload_n (i := 0) dL_law_165 rfl rfl ?_
        refine pd_iload (i := 4) dL_law_166 rfl ?_
        refine pd_iconst dL_law_168 (by decide) ?_
        refine pd_iadd dL_law_169 ?_
        obtain ⟨hg18, hf⟩ := pd_ig hf
        refine pd_xld dL_law_170 hLs hxs hg18 ?_
        refine pd_aload_n (i := 0) dL_law_171 rfl rfl ?_
        refine pd_iload (i := 4) dL_law_172 rfl ?_
        refine pd_iconst dL_law_174 (by decide) ?_
        refine pd_iadd dL_law_175 ?_
        obtain ⟨hg19, hf⟩ := pd_ig hf
        refine pd_xld dL_law_176 hLs hxs hg19 ?_
        refine pd_aload_n (i := 0) dL_law_177 rfl rfl ?_
        refine pd_iload (i := 4) dL_law_178 rfl ?_
        refine pd_iconst dL_law_180 (by decide) ?_
        refine pd_iadd dL_law_181 ?_
        obtain ⟨hg20, hf⟩ := pd_ig hf
        refine pd_xld dL_law_182 hLs hxs hg20 ?_
        refine pd_aload_n (i := 0) dL_law_183 rfl rfl ?_
        refine pd_iload (i := 4) dL_law_184 rfl ?_
        refine pd_iconst dL_law_186 (by decide) ?_
        refine pd_iadd dL_law_187 ?_
        obtain ⟨hg21, hf⟩ := pd_ig hf
        refine pd_xld dL_law_188 hLs hxs hg21 ?_
        refine pd_aload_n (i := 0) dL_law_189 rfl rfl ?_
        refine pd_iload (i := 4) dL_law_190 rfl ?_
        refine pd_iconst dL_law_192 (by decide) ?_
        refine pd_iadd dL_law_193 ?_
        obtain ⟨hg22, hf⟩ := pd_ig hf
        refine pd_xld dL_law_194 hLs hxs hg22 ?_
        obtain ⟨hg25, hf⟩ := pd_ig hf
        obtain ⟨r24, F23, hr, hf⟩ := pd_ob2 hf
        refine pd_callV (pkX11_feed l hr) dL_law_195 pq_1243 pq_1246 pq_1247 (show vwCl[11]? = some (yX11_feed.cls, TX11, 10) from rfl) hg25 (pd_okL (by decide) (by decide) (by omega) (by omega) pq_1244 pq_1245 (by decide) (show (parseMethodDescriptor yX11_feed.desc).map (fun d => d.parameters.length) = some 5 from by decide +kernel)) (Nat.le_of_ble_eq_true rfl) rfl ?_
        refine pd_aload_n (i := 2) dL_law_198 rfl rfl ?_
        refine pd_aload_n (i := 0) dL_law_199 rfl rfl ?_
        refine pd_iload (i := 4) dL_law_200 rfl ?_
        refine pd_iconst dL_law_202 (by decide) ?_
        refine pd_iadd dL_law_203 ?_
        refine pd_xld dL_law_204 hLs hxs hg18 ?_
        refine pd_aload_n (i := 0) dL_law_205 rfl rfl ?_
        refine pd_iload (i := 4) dL_law_206 rfl ?_
        refine pd_iconst dL_law_208 (by decide) ?_
        refine pd_iadd dL_law_209 ?_
        refine pd_xld dL_law_210 hLs hxs hg19 ?_
        refine pd_aload_n (i := 0) dL_law_211 rfl rfl ?_
        refine pd_iload (i := 4) dL_law_212 rfl ?_
        refine pd_iconst dL_law_214 (by decide) ?_
        refine pd_iadd dL_law_215 ?_
        refine pd_xld dL_law_216 hLs hxs hg20 ?_
        refine pd_aload_n (i := 0) dL_law_217 rfl rfl ?_
        refine pd_iload (i := 4) dL_law_218 rfl ?_
        refine pd_iconst dL_law_220 (by decide) ?_
        refine pd_iadd dL_law_221 ?_
        refine pd_xld dL_law_222 hLs hxs hg21 ?_
        refine pd_aload_n (i := 0) dL_law_223 rfl rfl ?_
        refine pd_iload (i := 4) dL_law_224 rfl ?_
        refine pd_iconst dL_law_226 (by decide) ?_
        refine pd_iadd dL_law_227 ?_
        refine pd_xld dL_law_228 hLs hxs hg22 ?_
        obtain ⟨hg28, hf⟩ := pd_ig hf
        obtain ⟨r27, F26, hr, hf⟩ := pd_ob2 hf
        refine pd_callV (pkX12_feed l hr) dL_law_229 pq_1248 pq_1251 pq_1252 (show vwCl[12]? = some (yX12_feed.cls, TX12, 52) from rfl) hg28 (pd_okL (by decide) (by decide) (by omega) (by omega) pq_1249 pq_1250 (by decide) (show (parseMethodDescriptor yX12_feed.desc).map (fun d => d.parameters.length) = some 5 from by decide +kernel)) (Nat.le_of_ble_eq_true rfl) rfl ?_
        refine pd_icmp_eq (tgt := 1196) dL_law_232 (by decide) (fun hc => ?_) (fun hc => ?_)
        · have hf := pd_ip hf hc
          exact pd_weak (L' := [pd_R (-40), pd_R x1, pd_R x2, pd_R x3, pd_I x4, pd_N, pd_N, pd_N]) ⟨Or.inr rfl, Or.inr rfl, Or.inr rfl, Or.inr rfl, Or.inr rfl, Or.inr rfl, Or.inr rfl, Or.inr rfl, trivial⟩ (pkL_law_b1196 E l hlt hLs hxs (ih) _ _ (by omega) (by omega) _ _ _ _ _ hf)
        · have hf := pd_in_ hf hc
          refine pd_iconst dL_law_235 (by decide) ?_
          exact absurd (pd_inj1 hf) (by decide)
      · have hf := pd_in_ hf hv0
        by_cases hv1 : (pd_and (xs x4) 31) = 1
        · have hf := pd_ip hf hv1
          refine pd_tabE (v := 1) (off := 197) (tgt := 237) dL_law_40 hv1 (by decide) (by decide) (by decide) (by decide) ?_
          refine pd_aload_n (i := 1) dL_law_237 rfl rfl ?_
          refine pd_aload_n (i := 0) dL_law_238 rfl rfl ?_
          refine pd_iload (i := 4) dL_law_239 rfl ?_
          refine pd_iconst dL_law_241 (by decide) ?_
          refine pd_iadd dL_law_242 ?_
          obtain ⟨hg29, hf⟩ := pd_ig hf
          refine pd_xld dL_law_243 hLs hxs hg29 ?_
          obtain ⟨hg32, hf⟩ := pd_ig hf
          obtain ⟨r31, F30, hr, hf⟩ := pd_ob2 hf
          refine pd_callV (pkX11_book l hr) dL_law_244 pq_1253 pq_1256 pq_1257 (show vwCl[11]? = some (yX11_book.cls, TX11, 10) from rfl) hg32 (pd_okL (by decide) (by decide) (by omega) (by omega) pq_1254 pq_1255 (by decide) (show (parseMethodDescriptor yX11_book.desc).map (fun d => d.parameters.length) = some 1 from by decide +kernel)) (Nat.le_of_ble_eq_true rfl) rfl ?_
          refine pd_aload_n (i := 2) dL_law_247 rfl rfl ?_
          refine pd_aload_n (i := 0) dL_law_248 rfl rfl ?_
          refine pd_iload (i := 4) dL_law_249 rfl ?_
          refine pd_iconst dL_law_251 (by decide) ?_
          refine pd_iadd dL_law_252 ?_
          refine pd_xld dL_law_253 hLs hxs hg29 ?_
          obtain ⟨hg35, hf⟩ := pd_ig hf
          obtain ⟨r34, F33, hr, hf⟩ := pd_ob2 hf
          refine pd_callV (pkX12_book l hr) dL_law_254 pq_1258 pq_1261 pq_1262 (show vwCl[12]? = some (yX12_book.cls, TX12, 52) from rfl) hg35 (pd_okL (by decide) (by decide) (by omega) (by omega) pq_1259 pq_1260 (by decide) (show (parseMethodDescriptor yX12_book.desc).map (fun d => d.parameters.length) = some 1 from by decide +kernel)) (Nat.le_of_ble_eq_true rfl) rfl ?_
          refine pd_icmp_eq (tgt := 1196) dL_law_257 (by decide) (fun hc => ?_) (fun hc => ?_)
          · have hf := pd_ip hf hc
            exact pd_weak (L' := [pd_R (-40), pd_R x1, pd_R x2, pd_R x3, pd_I x4, pd_N, pd_N, pd_N]) ⟨Or.inr rfl, Or.inr rfl, Or.inr rfl, Or.inr rfl, Or.inr rfl, Or.inr rfl, Or.inr rfl, Or.inr rfl, trivial⟩ (pkL_law_b1196 E l hlt hLs hxs (ih) _ _ (by omega) (by omega) _ _ _ _ _ hf)
          · have hf := pd_in_ hf hc
            refine pd_iconst dL_law_260 (by decide) ?_
            exact absurd (pd_inj1 hf) (by decide)
        · have hf := pd_in_ hf hv1
          by_cases hv2 : (pd_and (xs x4) 31) = 2
          · have hf := pd_ip hf hv2
            refine pd_tabE (v := 2) (off := 222) (tgt := 262) dL_law_40 hv2 (by decide) (by decide) (by decide) (by decide) ?_
            refine pd_aload_n (i := 1) dL_law_262 rfl rfl ?_
            refine pd_aload_n (i := 0) dL_law_263 rfl rfl ?_
            refine pd_iload (i := 4) dL_law_264 rfl ?_
            refine pd_iconst dL_law_266 (by decide) ?_
            refine pd_iadd dL_law_267 ?_
            obtain ⟨hg36, hf⟩ := pd_ig hf
            refine pd_xld dL_law_268 hLs hxs hg36 ?_
            refine pd_aload_n (i := 0) dL_law_269 rfl rfl ?_
            refine pd_iload (i := 4) dL_law_270 rfl ?_
            refine pd_iconst dL_law_272 (by decide) ?_
            refine pd_iadd dL_law_273 ?_
            obtain ⟨hg37, hf⟩ := pd_ig hf
            refine pd_xld dL_law_274 hLs hxs hg37 ?_
            obtain ⟨hg40, hf⟩ := pd_ig hf
            obtain ⟨r39, F38, hr, hf⟩ := pd_ob2 hf
            refine pd_callV (pkX11_person l hr) dL_law_275 pq_1263 pq_1266 pq_1267 (show vwCl[11]? = some (yX11_person.cls, TX11, 10) from rfl) hg40 (pd_okL (by decide) (by decide) (by omega) (by omega) pq_1264 pq_1265 (by decide) (show (parseMethodDescriptor yX11_person.desc).map (fun d => d.parameters.length) = some 2 from by decide +kernel)) (Nat.le_of_ble_eq_true rfl) rfl ?_
            refine pd_aload_n (i := 2) dL_law_278 rfl rfl ?_
            refine pd_aload_n (i := 0) dL_law_279 rfl rfl ?_
            refine pd_iload (i := 4) dL_law_280 rfl ?_
            refine pd_iconst dL_law_282 (by decide) ?_
            refine pd_iadd dL_law_283 ?_
            refine pd_xld dL_law_284 hLs hxs hg36 ?_
            refine pd_aload_n (i := 0) dL_law_285 rfl rfl ?_
            refine pd_iload (i := 4) dL_law_286 rfl ?_
            refine pd_iconst dL_law_288 (by decide) ?_
            refine pd_iadd dL_law_289 ?_
            refine pd_xld dL_law_290 hLs hxs hg37 ?_
            obtain ⟨hg43, hf⟩ := pd_ig hf
            obtain ⟨r42, F41, hr, hf⟩ := pd_ob2 hf
            refine pd_callV (pkX12_person l hr) dL_law_291 pq_1268 pq_1271 pq_1272 (show vwCl[12]? = some (yX12_person.cls, TX12, 52) from rfl) hg43 (pd_okL (by decide) (by decide) (by omega) (by omega) pq_1269 pq_1270 (by decide) (show (parseMethodDescriptor yX12_person.desc).map (fun d => d.parameters.length) = some 2 from by decide +kernel)) (Nat.le_of_ble_eq_true rfl) rfl ?_
            refine pd_icmp_eq (tgt := 1196) dL_law_294 (by decide) (fun hc => ?_) (fun hc => ?_)
            · have hf := pd_ip hf hc
              exact pd_weak (L' := [pd_R (-40), pd_R x1, pd_R x2, pd_R x3, pd_I x4, pd_N, pd_N, pd_N]) ⟨Or.inr rfl, Or.inr rfl, Or.inr rfl, Or.inr rfl, Or.inr rfl, Or.inr rfl, Or.inr rfl, Or.inr rfl, trivial⟩ (pkL_law_b1196 E l hlt hLs hxs (ih) _ _ (by omega) (by omega) _ _ _ _ _ hf)
            · have hf := pd_in_ hf hc
              refine pd_iconst dL_law_297 (by decide) ?_
              exact absurd (pd_inj1 hf) (by decide)
          · have hf := pd_in_ hf hv2
            by_cases hv3 : (pd_and (xs x4) 31) = 3
            · have hf := pd_ip hf hv3
              refine pd_tabE (v := 3) (off := 259) (tgt := 299) dL_law_40 hv3 (by decide) (by decide) (by decide) (by decide) ?_
              refine pd_aload_n (i := 1) dL_law_299 rfl rfl ?_
              refine pd_aload_n (i := 0) dL_law_300 rfl rfl ?_
              refine pd_iload (i := 4) dL_law_301 rfl ?_
              refine pd_iconst dL_law_303 (by decide) ?_
              refine pd_iadd dL_law_304 ?_
              obtain ⟨hg44, hf⟩ := pd_ig hf
              refine pd_xld dL_law_305 hLs hxs hg44 ?_
              refine pd_aload_n (i := 0) dL_law_306 rfl rfl ?_
              refine pd_iload (i := 4) dL_law_307 rfl ?_
              refine pd_iconst dL_law_309 (by decide) ?_
              refine pd_iadd dL_law_310 ?_
              obtain ⟨hg45, hf⟩ := pd_ig hf
              refine pd_xld dL_law_311 hLs hxs hg45 ?_
              obtain ⟨hg48, hf⟩ := pd_ig hf
              obtain ⟨r47, F46, hr, hf⟩ := pd_ob2 hf
              refine pd_callV (pkX11_trust l hr) dL_law_312 pq_1273 pq_1276 pq_1277 (show vwCl[11]? = some (yX11_trust.cls, TX11, 10) from rfl) hg48 (pd_okL (by decide) (by decide) (by omega) (by omega) pq_1274 pq_1275 (by decide) (show (parseMethodDescriptor yX11_trust.desc).map (fun d => d.parameters.length) = some 2 from by decide +kernel)) (Nat.le_of_ble_eq_true rfl) rfl ?_
              refine pd_aload_n (i := 2) dL_law_315 rfl rfl ?_
              refine pd_aload_n (i := 0) dL_law_316 rfl rfl ?_
              refine pd_iload (i := 4) dL_law_317 rfl ?_
              refine pd_iconst dL_law_319 (by decide) ?_
              refine pd_iadd dL_law_320 ?_
              refine pd_xld dL_law_321 hLs hxs hg44 ?_
              refine pd_aload_n (i := 0) dL_law_322 rfl rfl ?_
              refine pd_iload (i := 4) dL_law_323 rfl ?_
              refine pd_iconst dL_law_325 (by decide) ?_
              refine pd_iadd dL_law_326 ?_
              refine pd_xld dL_law_327 hLs hxs hg45 ?_
              obtain ⟨hg51, hf⟩ := pd_ig hf
              obtain ⟨r50, F49, hr, hf⟩ := pd_ob2 hf
              refine pd_callV (pkX12_trust l hr) dL_law_328 pq_1278 pq_1281 pq_1282 (show vwCl[12]? = some (yX12_trust.cls, TX12, 52) from rfl) hg51 (pd_okL (by decide) (by decide) (by omega) (by omega) pq_1279 pq_1280 (by decide) (show (parseMethodDescriptor yX12_trust.desc).map (fun d => d.parameters.length) = some 2 from by decide +kernel)) (Nat.le_of_ble_eq_true rfl) rfl ?_
              refine pd_icmp_eq (tgt := 1196) dL_law_331 (by decide) (fun hc => ?_) (fun hc => ?_)
              · have hf := pd_ip hf hc
                exact pd_weak (L' := [pd_R (-40), pd_R x1, pd_R x2, pd_R x3, pd_I x4, pd_N, pd_N, pd_N]) ⟨Or.inr rfl, Or.inr rfl, Or.inr rfl, Or.inr rfl, Or.inr rfl, Or.inr rfl, Or.inr rfl, Or.inr rfl, trivial⟩ (pkL_law_b1196 E l hlt hLs hxs (ih) _ _ (by omega) (by omega) _ _ _ _ _ hf)
              · have hf := pd_in_ hf hc
                refine pd_iconst dL_law_334 (by decide) ?_
                exact absurd (pd_inj1 hf) (by decide)
            · have hf := pd_in_ hf hv3
              by_cases hv4 : (pd_and (xs x4) 31) = 4
              · have hf := pd_ip hf hv4
                refine pd_tabE (v := 4) (off := 296) (tgt := 336) dL_law_40 hv4 (by decide) (by decide) (by decide) (by decide) ?_
                refine pd_aload_n (i := 1) dL_law_336 rfl rfl ?_
                refine pd_aload_n (i := 0) dL_law_337 rfl rfl ?_
                refine pd_iload (i := 4) dL_law_338 rfl ?_
                refine pd_iconst dL_law_340 (by decide) ?_
                refine pd_iadd dL_law_341 ?_
                obtain ⟨hg52, hf⟩ := pd_ig hf
                refine pd_xld dL_law_342 hLs hxs hg52 ?_
                refine pd_aload_n (i := 0) dL_law_343 rfl rfl ?_
                refine pd_iload (i := 4) dL_law_344 rfl ?_
                refine pd_iconst dL_law_346 (by decide) ?_
                refine pd_iadd dL_law_347 ?_
                obtain ⟨hg53, hf⟩ := pd_ig hf
                refine pd_xld dL_law_348 hLs hxs hg53 ?_
                obtain ⟨hg56, hf⟩ := pd_ig hf
                obtain ⟨r55, F54, hr, hf⟩ := pd_ob2 hf
                refine pd_callV (pkX11_account l hr) dL_law_349 pq_1283 pq_1286 pq_1287 (show vwCl[11]? = some (yX11_account.cls, TX11, 10) from rfl) hg56 (pd_okL (by decide) (by decide) (by omega) (by omega) pq_1284 pq_1285 (by decide) (show (parseMethodDescriptor yX11_account.desc).map (fun d => d.parameters.length) = some 2 from by decide +kernel)) (Nat.le_of_ble_eq_true rfl) rfl ?_
                refine pd_aload_n (i := 2) dL_law_352 rfl rfl ?_
                refine pd_aload_n (i := 0) dL_law_353 rfl rfl ?_
                refine pd_iload (i := 4) dL_law_354 rfl ?_
                refine pd_iconst dL_law_356 (by decide) ?_
                refine pd_iadd dL_law_357 ?_
                refine pd_xld dL_law_358 hLs hxs hg52 ?_
                refine pd_aload_n (i := 0) dL_law_359 rfl rfl ?_
                refine pd_iload (i := 4) dL_law_360 rfl ?_
                refine pd_iconst dL_law_362 (by decide) ?_
                refine pd_iadd dL_law_363 ?_
                refine pd_xld dL_law_364 hLs hxs hg53 ?_
                obtain ⟨hg59, hf⟩ := pd_ig hf
                obtain ⟨r58, F57, hr, hf⟩ := pd_ob2 hf
                refine pd_callV (pkX12_account l hr) dL_law_365 pq_1288 pq_1291 pq_1292 (show vwCl[12]? = some (yX12_account.cls, TX12, 52) from rfl) hg59 (pd_okL (by decide) (by decide) (by omega) (by omega) pq_1289 pq_1290 (by decide) (show (parseMethodDescriptor yX12_account.desc).map (fun d => d.parameters.length) = some 2 from by decide +kernel)) (Nat.le_of_ble_eq_true rfl) rfl ?_
                refine pd_icmp_eq (tgt := 1196) dL_law_368 (by decide) (fun hc => ?_) (fun hc => ?_)
                · have hf := pd_ip hf hc
                  exact pd_weak (L' := [pd_R (-40), pd_R x1, pd_R x2, pd_R x3, pd_I x4, pd_N, pd_N, pd_N]) ⟨Or.inr rfl, Or.inr rfl, Or.inr rfl, Or.inr rfl, Or.inr rfl, Or.inr rfl, Or.inr rfl, Or.inr rfl, trivial⟩ (pkL_law_b1196 E l hlt hLs hxs (ih) _ _ (by omega) (by omega) _ _ _ _ _ hf)
                · have hf := pd_in_ hf hc
                  refine pd_iconst dL_law_371 (by decide) ?_
                  exact absurd (pd_inj1 hf) (by decide)
              · have hf := pd_in_ hf hv4
                by_cases hv5 : (pd_and (xs x4) 31) = 5
                · have hf := pd_ip hf hv5
                  refine pd_tabE (v := 5) (off := 333) (tgt := 373) dL_law_40 hv5 (by decide) (by decide) (by decide) (by decide) ?_
                  refine pd_aload_n (i := 1) dL_law_373 rfl rfl ?_
                  refine pd_aload_n (i := 0) dL_law_374 rfl rfl ?_
                  refine pd_iload (i := 4) dL_law_375 rfl ?_
                  refine pd_iconst dL_law_377 (by decide) ?_
                  refine pd_iadd dL_law_378 ?_
                  obtain ⟨hg60, hf⟩ := pd_ig hf
                  refine pd_xld dL_law_379 hLs hxs hg60 ?_
                  refine pd_aload_n (i := 0) dL_law_380 rfl rfl ?_
                  refine pd_iload (i := 4) dL_law_381 rfl ?_
                  refine pd_iconst dL_law_383 (by decide) ?_
                  refine pd_iadd dL_law_384 ?_
                  obtain ⟨hg61, hf⟩ := pd_ig hf
                  refine pd_xld dL_law_385 hLs hxs hg61 ?_
                  refine pd_aload_n (i := 3) dL_law_386 rfl rfl ?_
                  obtain ⟨r63, F62, hr, hf⟩ := pd_ob2 hf
                  refine pd_callSW (xs := [pd_R x1, pd_I (xs (pd_w (x4 + 1))), pd_I (xs (pd_w (x4 + 2))), pd_R x3]) (pkL_share l hlt hr) dL_law_387 pq_1293 pq_1296 (pd_okWL (by decide) (by decide) (by omega) (by omega) pq_1294 pq_1295 (by decide) (show (parseMethodDescriptor yL_share.desc).map (fun d => d.parameters.length) = some 4 from by decide +kernel)) (Nat.le_of_ble_eq_true rfl) rfl ?_
                  refine pd_istore (L' := [pd_R (-40), pd_R x1, pd_R x2, pd_R x3, pd_I x4, pd_I r63, pd_N, pd_N]) dL_law_390 (by decide) rfl ?_
                  refine pd_aload_n (i := 2) dL_law_392 rfl rfl ?_
                  refine pd_aload_n (i := 0) dL_law_393 rfl rfl ?_
                  refine pd_iload (i := 4) dL_law_394 rfl ?_
                  refine pd_iconst dL_law_396 (by decide) ?_
                  refine pd_iadd dL_law_397 ?_
                  refine pd_xld dL_law_398 hLs hxs hg60 ?_
                  refine pd_aload_n (i := 0) dL_law_399 rfl rfl ?_
                  refine pd_iload (i := 4) dL_law_400 rfl ?_
                  refine pd_iconst dL_law_402 (by decide) ?_
                  refine pd_iadd dL_law_403 ?_
                  refine pd_xld dL_law_404 hLs hxs hg61 ?_
                  obtain ⟨hg66, hf⟩ := pd_ig hf
                  obtain ⟨r65, F64, hr, hf⟩ := pd_ob2 hf
                  refine pd_callV (pkX12_share l hr) dL_law_405 pq_1297 pq_1300 pq_1301 (show vwCl[12]? = some (yX12_share.cls, TX12, 52) from rfl) hg66 (pd_okL (by decide) (by decide) (by omega) (by omega) pq_1298 pq_1299 (by decide) (show (parseMethodDescriptor yX12_share.desc).map (fun d => d.parameters.length) = some 2 from by decide +kernel)) (Nat.le_of_ble_eq_true rfl) rfl ?_
                  refine pd_istore (L' := [pd_R (-40), pd_R x1, pd_R x2, pd_R x3, pd_I x4, pd_I r63, pd_I r65, pd_N]) dL_law_408 (by decide) rfl ?_
                  refine pd_aload_n (i := 2) dL_law_410 rfl rfl ?_
                  obtain ⟨r68, F67, hr, hf⟩ := pd_ob2 hf
                  refine pd_callV (pkX12_thrown l hr) dL_law_411 pq_1302 pq_1305 pq_1306 (show vwCl[12]? = some (yX12_thrown.cls, TX12, 52) from rfl) hg66 (pd_okL (by decide) (by decide) (by omega) (by omega) pq_1303 pq_1304 (by decide) (show (parseMethodDescriptor yX12_thrown.desc).map (fun d => d.parameters.length) = some 0 from by decide +kernel)) (Nat.le_of_ble_eq_true rfl) rfl ?_
                  refine pd_iload (i := 5) dL_law_414 rfl ?_
                  refine pd_icmp_eq (tgt := 421) dL_law_416 (by decide) (fun hc => ?_) (fun hc => ?_)
                  · have hf := pd_ip hf hc
                    refine pd_iload (i := 5) dL_law_421 rfl ?_
                    refine pd_if_ne (tgt := 438) dL_law_423 (by decide) (fun hc => ?_) (fun hc => ?_)
                    · have hf := pd_ip hf hc
                      exact pd_weak (L' := [pd_R (-40), pd_R x1, pd_R x2, pd_R x3, pd_I x4, pd_N, pd_N, pd_N]) ⟨Or.inr rfl, Or.inr rfl, Or.inr rfl, Or.inr rfl, Or.inr rfl, Or.inl rfl, Or.inl rfl, Or.inr rfl, trivial⟩ (pkL_law_b438 E l hlt hLs hxs (ih) _ _ (by omega) (by omega) _ _ _ _ _ hf)
                    · have hf := pd_iq hf hc
                      refine pd_aload_n (i := 3) dL_law_426 rfl rfl ?_
                      refine pd_iconst dL_law_427 (by decide) ?_
                      obtain ⟨hg69, hf⟩ := pd_ig hf
                      refine pd_lald dL_law_428 hg69 ?_
                      refine pd_iload (i := 6) dL_law_429 rfl ?_
                      refine pd_i2l dL_law_431 ?_
                      refine pd_lcmp_eq (tgt := 438) dL_law_432 dL_law_433 (by decide) (fun hc => ?_) (fun hc => ?_)
                      · have hf := pd_ip hf hc
                        exact pd_weak (L' := [pd_R (-40), pd_R x1, pd_R x2, pd_R x3, pd_I x4, pd_N, pd_N, pd_N]) ⟨Or.inr rfl, Or.inr rfl, Or.inr rfl, Or.inr rfl, Or.inr rfl, Or.inl rfl, Or.inl rfl, Or.inr rfl, trivial⟩ (pkL_law_b438 E l hlt hLs hxs (ih) _ _ (by omega) (by omega) _ _ _ _ _ hf)
                      · have hf := pd_in_ hf hc
                        refine pd_iconst dL_law_436 (by decide) ?_
                        exact absurd (pd_inj1 hf) (by decide)
                  · have hf := pd_in_ hf hc
                    refine pd_iconst dL_law_419 (by decide) ?_
                    exact absurd (pd_inj1 hf) (by decide)
                · have hf := pd_in_ hf hv5
                  by_cases hv6 : (pd_and (xs x4) 31) = 6
                  · have hf := pd_ip hf hv6
                    refine pd_tabE (v := 6) (off := 401) (tgt := 441) dL_law_40 hv6 (by decide) (by decide) (by decide) (by decide) ?_
                    refine pd_aload_n (i := 1) dL_law_441 rfl rfl ?_
                    refine pd_aload_n (i := 0) dL_law_442 rfl rfl ?_
                    refine pd_iload (i := 4) dL_law_443 rfl ?_
                    refine pd_iconst dL_law_445 (by decide) ?_
                    refine pd_iadd dL_law_446 ?_
                    obtain ⟨hg70, hf⟩ := pd_ig hf
                    refine pd_xld dL_law_447 hLs hxs hg70 ?_
                    obtain ⟨hg73, hf⟩ := pd_ig hf
                    obtain ⟨r72, F71, hr, hf⟩ := pd_ob2 hf
                    refine pd_callV (pkX11_who l hr) dL_law_448 pq_1307 pq_1310 pq_1311 (show vwCl[11]? = some (yX11_who.cls, TX11, 10) from rfl) hg73 (pd_okL (by decide) (by decide) (by omega) (by omega) pq_1308 pq_1309 (by decide) (show (parseMethodDescriptor yX11_who.desc).map (fun d => d.parameters.length) = some 1 from by decide +kernel)) (Nat.le_of_ble_eq_true rfl) rfl ?_
                    refine pd_aload_n (i := 2) dL_law_451 rfl rfl ?_
                    refine pd_aload_n (i := 0) dL_law_452 rfl rfl ?_
                    refine pd_iload (i := 4) dL_law_453 rfl ?_
                    refine pd_iconst dL_law_455 (by decide) ?_
                    refine pd_iadd dL_law_456 ?_
                    refine pd_xld dL_law_457 hLs hxs hg70 ?_
                    obtain ⟨hg76, hf⟩ := pd_ig hf
                    obtain ⟨r75, F74, hr, hf⟩ := pd_ob2 hf
                    refine pd_callV (pkX12_who l hr) dL_law_458 pq_1312 pq_1315 pq_1316 (show vwCl[12]? = some (yX12_who.cls, TX12, 52) from rfl) hg76 (pd_okL (by decide) (by decide) (by omega) (by omega) pq_1313 pq_1314 (by decide) (show (parseMethodDescriptor yX12_who.desc).map (fun d => d.parameters.length) = some 1 from by decide +kernel)) (Nat.le_of_ble_eq_true rfl) rfl ?_
                    refine pd_icmp_eq (tgt := 1196) dL_law_461 (by decide) (fun hc => ?_) (fun hc => ?_)
                    · have hf := pd_ip hf hc
                      exact pd_weak (L' := [pd_R (-40), pd_R x1, pd_R x2, pd_R x3, pd_I x4, pd_N, pd_N, pd_N]) ⟨Or.inr rfl, Or.inr rfl, Or.inr rfl, Or.inr rfl, Or.inr rfl, Or.inr rfl, Or.inr rfl, Or.inr rfl, trivial⟩ (pkL_law_b1196 E l hlt hLs hxs (ih) _ _ (by omega) (by omega) _ _ _ _ _ hf)
                    · have hf := pd_in_ hf hc
                      refine pd_iconst dL_law_464 (by decide) ?_
                      exact absurd (pd_inj1 hf) (by decide)
                  · have hf := pd_in_ hf hv6
                    by_cases hv7 : (pd_and (xs x4) 31) = 7
                    · have hf := pd_ip hf hv7
                      refine pd_tabE (v := 7) (off := 426) (tgt := 466) dL_law_40 hv7 (by decide) (by decide) (by decide) (by decide) ?_
                      refine pd_aload_n (i := 1) dL_law_466 rfl rfl ?_
                      refine pd_aload_n (i := 0) dL_law_467 rfl rfl ?_
                      refine pd_iload (i := 4) dL_law_468 rfl ?_
                      refine pd_iconst dL_law_470 (by decide) ?_
                      refine pd_iadd dL_law_471 ?_
                      obtain ⟨hg77, hf⟩ := pd_ig hf
                      refine pd_xld dL_law_472 hLs hxs hg77 ?_
                      refine pd_aload_n (i := 0) dL_law_473 rfl rfl ?_
                      refine pd_iload (i := 4) dL_law_474 rfl ?_
                      refine pd_iconst dL_law_476 (by decide) ?_
                      refine pd_iadd dL_law_477 ?_
                      obtain ⟨hg78, hf⟩ := pd_ig hf
                      refine pd_xld dL_law_478 hLs hxs hg78 ?_
                      obtain ⟨hg81, hf⟩ := pd_ig hf
                      obtain ⟨r80, F79, hr, hf⟩ := pd_ob2 hf
                      refine pd_callV (pkX11_view l hr) dL_law_479 pq_1317 pq_1320 pq_1321 (show vwCl[11]? = some (yX11_view.cls, TX11, 10) from rfl) hg81 (pd_okL (by decide) (by decide) (by omega) (by omega) pq_1318 pq_1319 (by decide) (show (parseMethodDescriptor yX11_view.desc).map (fun d => d.parameters.length) = some 2 from by decide +kernel)) (Nat.le_of_ble_eq_true rfl) rfl ?_
                      refine pd_aload_n (i := 2) dL_law_482 rfl rfl ?_
                      refine pd_aload_n (i := 0) dL_law_483 rfl rfl ?_
                      refine pd_iload (i := 4) dL_law_484 rfl ?_
                      refine pd_iconst dL_law_486 (by decide) ?_
                      refine pd_iadd dL_law_487 ?_
                      refine pd_xld dL_law_488 hLs hxs hg77 ?_
                      refine pd_aload_n (i := 0) dL_law_489 rfl rfl ?_
                      refine pd_iload (i := 4) dL_law_490 rfl ?_
                      refine pd_iconst dL_law_492 (by decide) ?_
                      refine pd_iadd dL_law_493 ?_
                      refine pd_xld dL_law_494 hLs hxs hg78 ?_
                      obtain ⟨hg84, hf⟩ := pd_ig hf
                      obtain ⟨r83, F82, hr, hf⟩ := pd_ob2 hf
                      refine pd_callV (pkX12_view l hr) dL_law_495 pq_1322 pq_1325 pq_1326 (show vwCl[12]? = some (yX12_view.cls, TX12, 52) from rfl) hg84 (pd_okL (by decide) (by decide) (by omega) (by omega) pq_1323 pq_1324 (by decide) (show (parseMethodDescriptor yX12_view.desc).map (fun d => d.parameters.length) = some 2 from by decide +kernel)) (Nat.le_of_ble_eq_true rfl) rfl ?_
                      refine pd_lcmp_eq (tgt := 1196) dL_law_498 dL_law_499 (by decide) (fun hc => ?_) (fun hc => ?_)
                      · have hf := pd_ip hf hc
                        exact pd_weak (L' := [pd_R (-40), pd_R x1, pd_R x2, pd_R x3, pd_I x4, pd_N, pd_N, pd_N]) ⟨Or.inr rfl, Or.inr rfl, Or.inr rfl, Or.inr rfl, Or.inr rfl, Or.inr rfl, Or.inr rfl, Or.inr rfl, trivial⟩ (pkL_law_b1196 E l hlt hLs hxs (ih) _ _ (by omega) (by omega) _ _ _ _ _ hf)
                      · have hf := pd_in_ hf hc
                        refine pd_iconst dL_law_502 (by decide) ?_
                        exact absurd (pd_inj1 hf) (by decide)
                    · have hf := pd_in_ hf hv7
                      by_cases hv8 : (pd_and (xs x4) 31) = 8
                      · have hf := pd_ip hf hv8
                        refine pd_tabE (v := 8) (off := 464) (tgt := 504) dL_law_40 hv8 (by decide) (by decide) (by decide) (by decide) ?_
                        refine pd_aload_n (i := 1) dL_law_504 rfl rfl ?_
                        refine pd_aload_n (i := 0) dL_law_505 rfl rfl ?_
                        refine pd_iload (i := 4) dL_law_506 rfl ?_
                        refine pd_iconst dL_law_508 (by decide) ?_
                        refine pd_iadd dL_law_509 ?_
                        obtain ⟨hg85, hf⟩ := pd_ig hf
                        refine pd_xld dL_law_510 hLs hxs hg85 ?_
                        obtain ⟨hg88, hf⟩ := pd_ig hf
                        obtain ⟨r87, F86, hr, hf⟩ := pd_ob2 hf
                        refine pd_callV (pkX11_all l hr) dL_law_511 pq_1327 pq_1330 pq_1331 (show vwCl[11]? = some (yX11_all.cls, TX11, 10) from rfl) hg88 (pd_okL (by decide) (by decide) (by omega) (by omega) pq_1328 pq_1329 (by decide) (show (parseMethodDescriptor yX11_all.desc).map (fun d => d.parameters.length) = some 1 from by decide +kernel)) (Nat.le_of_ble_eq_true rfl) rfl ?_
                        refine pd_aload_n (i := 2) dL_law_514 rfl rfl ?_
                        refine pd_aload_n (i := 0) dL_law_515 rfl rfl ?_
                        refine pd_iload (i := 4) dL_law_516 rfl ?_
                        refine pd_iconst dL_law_518 (by decide) ?_
                        refine pd_iadd dL_law_519 ?_
                        refine pd_xld dL_law_520 hLs hxs hg85 ?_
                        obtain ⟨hg91, hf⟩ := pd_ig hf
                        obtain ⟨r90, F89, hr, hf⟩ := pd_ob2 hf
                        refine pd_callV (pkX12_all l hr) dL_law_521 pq_1332 pq_1335 pq_1336 (show vwCl[12]? = some (yX12_all.cls, TX12, 52) from rfl) hg91 (pd_okL (by decide) (by decide) (by omega) (by omega) pq_1333 pq_1334 (by decide) (show (parseMethodDescriptor yX12_all.desc).map (fun d => d.parameters.length) = some 1 from by decide +kernel)) (Nat.le_of_ble_eq_true rfl) rfl ?_
                        refine pd_lcmp_eq (tgt := 1196) dL_law_524 dL_law_525 (by decide) (fun hc => ?_) (fun hc => ?_)
                        · have hf := pd_ip hf hc
                          exact pd_weak (L' := [pd_R (-40), pd_R x1, pd_R x2, pd_R x3, pd_I x4, pd_N, pd_N, pd_N]) ⟨Or.inr rfl, Or.inr rfl, Or.inr rfl, Or.inr rfl, Or.inr rfl, Or.inr rfl, Or.inr rfl, Or.inr rfl, trivial⟩ (pkL_law_b1196 E l hlt hLs hxs (ih) _ _ (by omega) (by omega) _ _ _ _ _ hf)
                        · have hf := pd_in_ hf hc
                          refine pd_iconst dL_law_528 (by decide) ?_
                          exact absurd (pd_inj1 hf) (by decide)
                      · have hf := pd_in_ hf hv8
                        by_cases hv9 : (pd_and (xs x4) 31) = 9
                        · have hf := pd_ip hf hv9
                          refine pd_tabE (v := 9) (off := 490) (tgt := 530) dL_law_40 hv9 (by decide) (by decide) (by decide) (by decide) ?_
                          refine pd_aload_n (i := 1) dL_law_530 rfl rfl ?_
                          refine pd_aload_n (i := 0) dL_law_531 rfl rfl ?_
                          refine pd_iload (i := 4) dL_law_532 rfl ?_
                          refine pd_iconst dL_law_534 (by decide) ?_
                          refine pd_iadd dL_law_535 ?_
                          obtain ⟨hg92, hf⟩ := pd_ig hf
                          refine pd_xld dL_law_536 hLs hxs hg92 ?_
                          obtain ⟨hg95, hf⟩ := pd_ig hf
                          obtain ⟨r94, F93, hr, hf⟩ := pd_ob2 hf
                          refine pd_callV (pkX11_ranked l hr) dL_law_537 pq_1337 pq_1340 pq_1341 (show vwCl[11]? = some (yX11_ranked.cls, TX11, 10) from rfl) hg95 (pd_okL (by decide) (by decide) (by omega) (by omega) pq_1338 pq_1339 (by decide) (show (parseMethodDescriptor yX11_ranked.desc).map (fun d => d.parameters.length) = some 1 from by decide +kernel)) (Nat.le_of_ble_eq_true rfl) rfl ?_
                          refine pd_aload_n (i := 2) dL_law_540 rfl rfl ?_
                          refine pd_aload_n (i := 0) dL_law_541 rfl rfl ?_
                          refine pd_iload (i := 4) dL_law_542 rfl ?_
                          refine pd_iconst dL_law_544 (by decide) ?_
                          refine pd_iadd dL_law_545 ?_
                          refine pd_xld dL_law_546 hLs hxs hg92 ?_
                          obtain ⟨hg98, hf⟩ := pd_ig hf
                          obtain ⟨r97, F96, hr, hf⟩ := pd_ob2 hf
                          refine pd_callV (pkX12_ranked l hr) dL_law_547 pq_1342 pq_1345 pq_1346 (show vwCl[12]? = some (yX12_ranked.cls, TX12, 52) from rfl) hg98 (pd_okL (by decide) (by decide) (by omega) (by omega) pq_1343 pq_1344 (by decide) (show (parseMethodDescriptor yX12_ranked.desc).map (fun d => d.parameters.length) = some 1 from by decide +kernel)) (Nat.le_of_ble_eq_true rfl) rfl ?_
                          refine pd_icmp_eq (tgt := 1196) dL_law_550 (by decide) (fun hc => ?_) (fun hc => ?_)
                          · have hf := pd_ip hf hc
                            exact pd_weak (L' := [pd_R (-40), pd_R x1, pd_R x2, pd_R x3, pd_I x4, pd_N, pd_N, pd_N]) ⟨Or.inr rfl, Or.inr rfl, Or.inr rfl, Or.inr rfl, Or.inr rfl, Or.inr rfl, Or.inr rfl, Or.inr rfl, trivial⟩ (pkL_law_b1196 E l hlt hLs hxs (ih) _ _ (by omega) (by omega) _ _ _ _ _ hf)
                          · have hf := pd_in_ hf hc
                            refine pd_iconst dL_law_553 (by decide) ?_
                            exact absurd (pd_inj1 hf) (by decide)
                        · have hf := pd_in_ hf hv9
                          by_cases hv10 : (pd_and (xs x4) 31) = 10
                          · have hf := pd_ip hf hv10
                            refine pd_tabE (v := 10) (off := 515) (tgt := 555) dL_law_40 hv10 (by decide) (by decide) (by decide) (by decide) ?_
                            refine pd_aload_n (i := 1) dL_law_555 rfl rfl ?_
                            refine pd_aload_n (i := 0) dL_law_556 rfl rfl ?_
                            refine pd_iload (i := 4) dL_law_557 rfl ?_
                            refine pd_iconst dL_law_559 (by decide) ?_
                            refine pd_iadd dL_law_560 ?_
                            obtain ⟨hg99, hf⟩ := pd_ig hf
                            refine pd_xld dL_law_561 hLs hxs hg99 ?_
                            refine pd_aload_n (i := 0) dL_law_562 rfl rfl ?_
                            refine pd_iload (i := 4) dL_law_563 rfl ?_
                            refine pd_iconst dL_law_565 (by decide) ?_
                            refine pd_iadd dL_law_566 ?_
                            obtain ⟨hg100, hf⟩ := pd_ig hf
                            refine pd_xld dL_law_567 hLs hxs hg100 ?_
                            obtain ⟨hg103, hf⟩ := pd_ig hf
                            obtain ⟨r102, F101, hr, hf⟩ := pd_ob2 hf
                            refine pd_callV (pkX11_estate l hr) dL_law_568 pq_1347 pq_1350 pq_1351 (show vwCl[11]? = some (yX11_estate.cls, TX11, 10) from rfl) hg103 (pd_okL (by decide) (by decide) (by omega) (by omega) pq_1348 pq_1349 (by decide) (show (parseMethodDescriptor yX11_estate.desc).map (fun d => d.parameters.length) = some 2 from by decide +kernel)) (Nat.le_of_ble_eq_true rfl) rfl ?_
                            refine pd_aload_n (i := 2) dL_law_571 rfl rfl ?_
                            refine pd_aload_n (i := 0) dL_law_572 rfl rfl ?_
                            refine pd_iload (i := 4) dL_law_573 rfl ?_
                            refine pd_iconst dL_law_575 (by decide) ?_
                            refine pd_iadd dL_law_576 ?_
                            refine pd_xld dL_law_577 hLs hxs hg99 ?_
                            refine pd_aload_n (i := 0) dL_law_578 rfl rfl ?_
                            refine pd_iload (i := 4) dL_law_579 rfl ?_
                            refine pd_iconst dL_law_581 (by decide) ?_
                            refine pd_iadd dL_law_582 ?_
                            refine pd_xld dL_law_583 hLs hxs hg100 ?_
                            obtain ⟨hg106, hf⟩ := pd_ig hf
                            obtain ⟨r105, F104, hr, hf⟩ := pd_ob2 hf
                            refine pd_callV (pkX12_estate l hr) dL_law_584 pq_1352 pq_1355 pq_1356 (show vwCl[12]? = some (yX12_estate.cls, TX12, 52) from rfl) hg106 (pd_okL (by decide) (by decide) (by omega) (by omega) pq_1353 pq_1354 (by decide) (show (parseMethodDescriptor yX12_estate.desc).map (fun d => d.parameters.length) = some 2 from by decide +kernel)) (Nat.le_of_ble_eq_true rfl) rfl ?_
                            refine pd_lcmp_eq (tgt := 1196) dL_law_587 dL_law_588 (by decide) (fun hc => ?_) (fun hc => ?_)
                            · have hf := pd_ip hf hc
                              exact pd_weak (L' := [pd_R (-40), pd_R x1, pd_R x2, pd_R x3, pd_I x4, pd_N, pd_N, pd_N]) ⟨Or.inr rfl, Or.inr rfl, Or.inr rfl, Or.inr rfl, Or.inr rfl, Or.inr rfl, Or.inr rfl, Or.inr rfl, trivial⟩ (pkL_law_b1196 E l hlt hLs hxs (ih) _ _ (by omega) (by omega) _ _ _ _ _ hf)
                            · have hf := pd_in_ hf hc
                              refine pd_iconst dL_law_591 (by decide) ?_
                              exact absurd (pd_inj1 hf) (by decide)
                          · have hf := pd_in_ hf hv10
                            by_cases hv11 : (pd_and (xs x4) 31) = 11
                            · have hf := pd_ip hf hv11
                              refine pd_tabE (v := 11) (off := 553) (tgt := 593) dL_law_40 hv11 (by decide) (by decide) (by decide) (by decide) ?_
                              refine pd_aload_n (i := 1) dL_law_593 rfl rfl ?_
                              refine pd_aload_n (i := 0) dL_law_594 rfl rfl ?_
                              refine pd_iload (i := 4) dL_law_595 rfl ?_
                              refine pd_iconst dL_law_597 (by decide) ?_
                              refine pd_iadd dL_law_598 ?_
                              obtain ⟨hg107, hf⟩ := pd_ig hf
                              refine pd_xld dL_law_599 hLs hxs hg107 ?_
                              obtain ⟨hg110, hf⟩ := pd_ig hf
                              obtain ⟨r109, F108, hr, hf⟩ := pd_ob2 hf
                              refine pd_callV (pkX11_enough l hr) dL_law_600 pq_1357 pq_1360 pq_1361 (show vwCl[11]? = some (yX11_enough.cls, TX11, 10) from rfl) hg110 (pd_okL (by decide) (by decide) (by omega) (by omega) pq_1358 pq_1359 (by decide) (show (parseMethodDescriptor yX11_enough.desc).map (fun d => d.parameters.length) = some 1 from by decide +kernel)) (Nat.le_of_ble_eq_true rfl) rfl ?_
                              refine pd_aload_n (i := 2) dL_law_603 rfl rfl ?_
                              refine pd_aload_n (i := 0) dL_law_604 rfl rfl ?_
                              refine pd_iload (i := 4) dL_law_605 rfl ?_
                              refine pd_iconst dL_law_607 (by decide) ?_
                              refine pd_iadd dL_law_608 ?_
                              refine pd_xld dL_law_609 hLs hxs hg107 ?_
                              obtain ⟨hg113, hf⟩ := pd_ig hf
                              obtain ⟨r112, F111, hr, hf⟩ := pd_ob2 hf
                              refine pd_callV (pkX12_enough l hr) dL_law_610 pq_1362 pq_1365 pq_1366 (show vwCl[12]? = some (yX12_enough.cls, TX12, 52) from rfl) hg113 (pd_okL (by decide) (by decide) (by omega) (by omega) pq_1363 pq_1364 (by decide) (show (parseMethodDescriptor yX12_enough.desc).map (fun d => d.parameters.length) = some 1 from by decide +kernel)) (Nat.le_of_ble_eq_true rfl) rfl ?_
                              refine pd_lcmp_eq (tgt := 1196) dL_law_613 dL_law_614 (by decide) (fun hc => ?_) (fun hc => ?_)
                              · have hf := pd_ip hf hc
                                exact pd_weak (L' := [pd_R (-40), pd_R x1, pd_R x2, pd_R x3, pd_I x4, pd_N, pd_N, pd_N]) ⟨Or.inr rfl, Or.inr rfl, Or.inr rfl, Or.inr rfl, Or.inr rfl, Or.inr rfl, Or.inr rfl, Or.inr rfl, trivial⟩ (pkL_law_b1196 E l hlt hLs hxs (ih) _ _ (by omega) (by omega) _ _ _ _ _ hf)
                              · have hf := pd_in_ hf hc
                                refine pd_iconst dL_law_617 (by decide) ?_
                                exact absurd (pd_inj1 hf) (by decide)
                            · have hf := pd_in_ hf hv11
                              by_cases hv12 : (pd_and (xs x4) 31) = 12
                              · have hf := pd_ip hf hv12
                                refine pd_tabE (v := 12) (off := 579) (tgt := 619) dL_law_40 hv12 (by decide) (by decide) (by decide) (by decide) ?_
                                refine pd_aload_n (i := 1) dL_law_619 rfl rfl ?_
                                refine pd_aload_n (i := 0) dL_law_620 rfl rfl ?_
                                refine pd_iload (i := 4) dL_law_621 rfl ?_
                                refine pd_iconst dL_law_623 (by decide) ?_
                                refine pd_iadd dL_law_624 ?_
                                obtain ⟨hg114, hf⟩ := pd_ig hf
                                refine pd_xld dL_law_625 hLs hxs hg114 ?_
                                obtain ⟨hg117, hf⟩ := pd_ig hf
                                obtain ⟨r116, F115, hr, hf⟩ := pd_ob2 hf
                                refine pd_callV (pkX11_onDay l hr) dL_law_626 pq_1367 pq_1370 pq_1371 (show vwCl[11]? = some (yX11_onDay.cls, TX11, 10) from rfl) hg117 (pd_okL (by decide) (by decide) (by omega) (by omega) pq_1368 pq_1369 (by decide) (show (parseMethodDescriptor yX11_onDay.desc).map (fun d => d.parameters.length) = some 1 from by decide +kernel)) (Nat.le_of_ble_eq_true rfl) rfl ?_
                                refine pd_aload_n (i := 2) dL_law_629 rfl rfl ?_
                                refine pd_aload_n (i := 0) dL_law_630 rfl rfl ?_
                                refine pd_iload (i := 4) dL_law_631 rfl ?_
                                refine pd_iconst dL_law_633 (by decide) ?_
                                refine pd_iadd dL_law_634 ?_
                                refine pd_xld dL_law_635 hLs hxs hg114 ?_
                                obtain ⟨hg120, hf⟩ := pd_ig hf
                                obtain ⟨r119, F118, hr, hf⟩ := pd_ob2 hf
                                refine pd_callV (pkX12_onDay l hr) dL_law_636 pq_1372 pq_1375 pq_1376 (show vwCl[12]? = some (yX12_onDay.cls, TX12, 52) from rfl) hg120 (pd_okL (by decide) (by decide) (by omega) (by omega) pq_1373 pq_1374 (by decide) (show (parseMethodDescriptor yX12_onDay.desc).map (fun d => d.parameters.length) = some 1 from by decide +kernel)) (Nat.le_of_ble_eq_true rfl) rfl ?_
                                refine pd_lcmp_eq (tgt := 1196) dL_law_639 dL_law_640 (by decide) (fun hc => ?_) (fun hc => ?_)
                                · have hf := pd_ip hf hc
                                  exact pd_weak (L' := [pd_R (-40), pd_R x1, pd_R x2, pd_R x3, pd_I x4, pd_N, pd_N, pd_N]) ⟨Or.inr rfl, Or.inr rfl, Or.inr rfl, Or.inr rfl, Or.inr rfl, Or.inr rfl, Or.inr rfl, Or.inr rfl, trivial⟩ (pkL_law_b1196 E l hlt hLs hxs (ih) _ _ (by omega) (by omega) _ _ _ _ _ hf)
                                · have hf := pd_in_ hf hc
                                  refine pd_iconst dL_law_643 (by decide) ?_
                                  exact absurd (pd_inj1 hf) (by decide)
                              · have hf := pd_in_ hf hv12
                                by_cases hv13 : (pd_and (xs x4) 31) = 13
                                · have hf := pd_ip hf hv13
                                  refine pd_tabE (v := 13) (off := 605) (tgt := 645) dL_law_40 hv13 (by decide) (by decide) (by decide) (by decide) ?_
                                  refine pd_aload_n (i := 1) dL_law_645 rfl rfl ?_
                                  refine pd_aload_n (i := 0) dL_law_646 rfl rfl ?_
                                  refine pd_iload (i := 4) dL_law_647 rfl ?_
                                  refine pd_iconst dL_law_649 (by decide) ?_
                                  refine pd_iadd dL_law_650 ?_
                                  obtain ⟨hg121, hf⟩ := pd_ig hf
                                  refine pd_xld dL_law_651 hLs hxs hg121 ?_
                                  refine pd_aload_n (i := 0) dL_law_652 rfl rfl ?_
                                  refine pd_iload (i := 4) dL_law_653 rfl ?_
                                  refine pd_iconst dL_law_655 (by decide) ?_
                                  refine pd_iadd dL_law_656 ?_
                                  obtain ⟨hg122, hf⟩ := pd_ig hf
                                  refine pd_xld dL_law_657 hLs hxs hg122 ?_
                                  refine pd_aload_n (i := 0) dL_law_658 rfl rfl ?_
                                  refine pd_iload (i := 4) dL_law_659 rfl ?_
                                  refine pd_iconst dL_law_661 (by decide) ?_
                                  refine pd_iadd dL_law_662 ?_
                                  obtain ⟨hg123, hf⟩ := pd_ig hf
                                  refine pd_xld dL_law_663 hLs hxs hg123 ?_
                                  obtain ⟨hg126, hf⟩ := pd_ig hf
                                  obtain ⟨r125, F124, hr, hf⟩ := pd_ob2 hf
                                  refine pd_callV (pkX11_bestDay l hr) dL_law_664 pq_1377 pq_1380 pq_1381 (show vwCl[11]? = some (yX11_bestDay.cls, TX11, 10) from rfl) hg126 (pd_okL (by decide) (by decide) (by omega) (by omega) pq_1378 pq_1379 (by decide) (show (parseMethodDescriptor yX11_bestDay.desc).map (fun d => d.parameters.length) = some 3 from by decide +kernel)) (Nat.le_of_ble_eq_true rfl) rfl ?_
                                  refine pd_aload_n (i := 2) dL_law_667 rfl rfl ?_
                                  refine pd_aload_n (i := 0) dL_law_668 rfl rfl ?_
                                  refine pd_iload (i := 4) dL_law_669 rfl ?_
                                  refine pd_iconst dL_law_671 (by decide) ?_
                                  refine pd_iadd dL_law_672 ?_
                                  refine pd_xld dL_law_673 hLs hxs hg121 ?_
                                  refine pd_aload_n (i := 0) dL_law_674 rfl rfl ?_
                                  refine pd_iload (i := 4) dL_law_675 rfl ?_
                                  refine pd_iconst dL_law_677 (by decide) ?_
                                  refine pd_iadd dL_law_678 ?_
                                  refine pd_xld dL_law_679 hLs hxs hg122 ?_
                                  refine pd_aload_n (i := 0) dL_law_680 rfl rfl ?_
                                  refine pd_iload (i := 4) dL_law_681 rfl ?_
                                  refine pd_iconst dL_law_683 (by decide) ?_
                                  refine pd_iadd dL_law_684 ?_
                                  refine pd_xld dL_law_685 hLs hxs hg123 ?_
                                  obtain ⟨hg129, hf⟩ := pd_ig hf
                                  obtain ⟨r128, F127, hr, hf⟩ := pd_ob2 hf
                                  refine pd_callV (pkX12_bestDay l hr) dL_law_686 pq_1382 pq_1385 pq_1386 (show vwCl[12]? = some (yX12_bestDay.cls, TX12, 52) from rfl) hg129 (pd_okL (by decide) (by decide) (by omega) (by omega) pq_1383 pq_1384 (by decide) (show (parseMethodDescriptor yX12_bestDay.desc).map (fun d => d.parameters.length) = some 3 from by decide +kernel)) (Nat.le_of_ble_eq_true rfl) rfl ?_
                                  refine pd_icmp_eq (tgt := 1196) dL_law_689 (by decide) (fun hc => ?_) (fun hc => ?_)
                                  · have hf := pd_ip hf hc
                                    exact pd_weak (L' := [pd_R (-40), pd_R x1, pd_R x2, pd_R x3, pd_I x4, pd_N, pd_N, pd_N]) ⟨Or.inr rfl, Or.inr rfl, Or.inr rfl, Or.inr rfl, Or.inr rfl, Or.inr rfl, Or.inr rfl, Or.inr rfl, trivial⟩ (pkL_law_b1196 E l hlt hLs hxs (ih) _ _ (by omega) (by omega) _ _ _ _ _ hf)
                                  · have hf := pd_in_ hf hc
                                    refine pd_iconst dL_law_692 (by decide) ?_
                                    exact absurd (pd_inj1 hf) (by decide)
                                · have hf := pd_in_ hf hv13
                                  by_cases hv14 : (pd_and (xs x4) 31) = 14
                                  · have hf := pd_ip hf hv14
                                    refine pd_tabE (v := 14) (off := 654) (tgt := 694) dL_law_40 hv14 (by decide) (by decide) (by decide) (by decide) ?_
                                    refine pd_aload_n (i := 1) dL_law_694 rfl rfl ?_
                                    refine pd_aload_n (i := 0) dL_law_695 rfl rfl ?_
                                    refine pd_iload (i := 4) dL_law_696 rfl ?_
                                    refine pd_iconst dL_law_698 (by decide) ?_
                                    refine pd_iadd dL_law_699 ?_
                                    obtain ⟨hg130, hf⟩ := pd_ig hf
                                    refine pd_xld dL_law_700 hLs hxs hg130 ?_
                                    obtain ⟨hg133, hf⟩ := pd_ig hf
                                    obtain ⟨r132, F131, hr, hf⟩ := pd_ob2 hf
                                    refine pd_callV (pkX11_coverFor l hr) dL_law_701 pq_1387 pq_1390 pq_1391 (show vwCl[11]? = some (yX11_coverFor.cls, TX11, 10) from rfl) hg133 (pd_okL (by decide) (by decide) (by omega) (by omega) pq_1388 pq_1389 (by decide) (show (parseMethodDescriptor yX11_coverFor.desc).map (fun d => d.parameters.length) = some 1 from by decide +kernel)) (Nat.le_of_ble_eq_true rfl) rfl ?_
                                    refine pd_aload_n (i := 2) dL_law_704 rfl rfl ?_
                                    refine pd_aload_n (i := 0) dL_law_705 rfl rfl ?_
                                    refine pd_iload (i := 4) dL_law_706 rfl ?_
                                    refine pd_iconst dL_law_708 (by decide) ?_
                                    refine pd_iadd dL_law_709 ?_
                                    refine pd_xld dL_law_710 hLs hxs hg130 ?_
                                    obtain ⟨hg136, hf⟩ := pd_ig hf
                                    obtain ⟨r135, F134, hr, hf⟩ := pd_ob2 hf
                                    refine pd_callV (pkX12_coverFor l hr) dL_law_711 pq_1392 pq_1395 pq_1396 (show vwCl[12]? = some (yX12_coverFor.cls, TX12, 52) from rfl) hg136 (pd_okL (by decide) (by decide) (by omega) (by omega) pq_1393 pq_1394 (by decide) (show (parseMethodDescriptor yX12_coverFor.desc).map (fun d => d.parameters.length) = some 1 from by decide +kernel)) (Nat.le_of_ble_eq_true rfl) rfl ?_
                                    refine pd_lcmp_eq (tgt := 1196) dL_law_714 dL_law_715 (by decide) (fun hc => ?_) (fun hc => ?_)
                                    · have hf := pd_ip hf hc
                                      exact pd_weak (L' := [pd_R (-40), pd_R x1, pd_R x2, pd_R x3, pd_I x4, pd_N, pd_N, pd_N]) ⟨Or.inr rfl, Or.inr rfl, Or.inr rfl, Or.inr rfl, Or.inr rfl, Or.inr rfl, Or.inr rfl, Or.inr rfl, trivial⟩ (pkL_law_b1196 E l hlt hLs hxs (ih) _ _ (by omega) (by omega) _ _ _ _ _ hf)
                                    · have hf := pd_in_ hf hc
                                      refine pd_iconst dL_law_718 (by decide) ?_
                                      exact absurd (pd_inj1 hf) (by decide)
                                  · have hf := pd_in_ hf hv14
                                    by_cases hv15 : (pd_and (xs x4) 31) = 15
                                    · have hf := pd_ip hf hv15
                                      refine pd_tabE (v := 15) (off := 680) (tgt := 720) dL_law_40 hv15 (by decide) (by decide) (by decide) (by decide) ?_
                                      refine pd_aload_n (i := 1) dL_law_720 rfl rfl ?_
                                      refine pd_aload_n (i := 0) dL_law_721 rfl rfl ?_
                                      refine pd_iload (i := 4) dL_law_722 rfl ?_
                                      refine pd_iconst dL_law_724 (by decide) ?_
                                      refine pd_iadd dL_law_725 ?_
                                      obtain ⟨hg137, hf⟩ := pd_ig hf
                                      refine pd_xld dL_law_726 hLs hxs hg137 ?_
                                      refine pd_aload_n (i := 3) dL_law_727 rfl rfl ?_
                                      obtain ⟨r139, F138, hr, hf⟩ := pd_ob2 hf
                                      refine pd_callSW (xs := [pd_R x1, pd_I (xs (pd_w (x4 + 1))), pd_R x3]) (pkL_markless l hlt hr) dL_law_728 pq_1397 pq_1400 (pd_okWL (by decide) (by decide) (by omega) (by omega) pq_1398 pq_1399 (by decide) (show (parseMethodDescriptor yL_markless.desc).map (fun d => d.parameters.length) = some 3 from by decide +kernel)) (Nat.le_of_ble_eq_true rfl) rfl ?_
                                      refine pd_istore (L' := [pd_R (-40), pd_R x1, pd_R x2, pd_R x3, pd_I x4, pd_I r139, pd_N, pd_N]) dL_law_731 (by decide) rfl ?_
                                      refine pd_aload_n (i := 2) dL_law_733 rfl rfl ?_
                                      refine pd_aload_n (i := 0) dL_law_734 rfl rfl ?_
                                      refine pd_iload (i := 4) dL_law_735 rfl ?_
                                      refine pd_iconst dL_law_737 (by decide) ?_
                                      refine pd_iadd dL_law_738 ?_
                                      refine pd_xld dL_law_739 hLs hxs hg137 ?_
                                      obtain ⟨hg142, hf⟩ := pd_ig hf
                                      obtain ⟨r141, F140, hr, hf⟩ := pd_ob2 hf
                                      refine pd_callV (pkX12_markless l hr) dL_law_740 pq_1401 pq_1404 pq_1405 (show vwCl[12]? = some (yX12_markless.cls, TX12, 52) from rfl) hg142 (pd_okL (by decide) (by decide) (by omega) (by omega) pq_1402 pq_1403 (by decide) (show (parseMethodDescriptor yX12_markless.desc).map (fun d => d.parameters.length) = some 1 from by decide +kernel)) (Nat.le_of_ble_eq_true rfl) rfl ?_
                                      refine pd_lstore (L' := [pd_R (-40), pd_R x1, pd_R x2, pd_R x3, pd_I x4, pd_I r139, pd_J r141, pd_N]) dL_law_743 (by decide) rfl ?_
                                      refine pd_aload_n (i := 2) dL_law_745 rfl rfl ?_
                                      obtain ⟨r144, F143, hr, hf⟩ := pd_ob2 hf
                                      refine pd_callV (pkX12_thrown l hr) dL_law_746 pq_1302 pq_1305 pq_1306 (show vwCl[12]? = some (yX12_thrown.cls, TX12, 52) from rfl) hg142 (pd_okL (by decide) (by decide) (by omega) (by omega) pq_1303 pq_1304 (by decide) (show (parseMethodDescriptor yX12_thrown.desc).map (fun d => d.parameters.length) = some 0 from by decide +kernel)) (Nat.le_of_ble_eq_true rfl) rfl ?_
                                      refine pd_iload (i := 5) dL_law_749 rfl ?_
                                      refine pd_icmp_eq (tgt := 756) dL_law_751 (by decide) (fun hc => ?_) (fun hc => ?_)
                                      · have hf := pd_ip hf hc
                                        refine pd_iload (i := 5) dL_law_756 rfl ?_
                                        refine pd_if_ne (tgt := 772) dL_law_758 (by decide) (fun hc => ?_) (fun hc => ?_)
                                        · have hf := pd_ip hf hc
                                          exact pd_weak (L' := [pd_R (-40), pd_R x1, pd_R x2, pd_R x3, pd_I x4, pd_N, pd_N, pd_N]) ⟨Or.inr rfl, Or.inr rfl, Or.inr rfl, Or.inr rfl, Or.inr rfl, Or.inl rfl, Or.inl rfl, Or.inr rfl, trivial⟩ (pkL_law_b772 E l hlt hLs hxs (ih) _ _ (by omega) (by omega) _ _ _ _ _ hf)
                                        · have hf := pd_iq hf hc
                                          refine pd_aload_n (i := 3) dL_law_761 rfl rfl ?_
                                          refine pd_iconst dL_law_762 (by decide) ?_
                                          obtain ⟨hg145, hf⟩ := pd_ig hf
                                          refine pd_lald dL_law_763 hg145 ?_
                                          refine pd_lload (i := 6) dL_law_764 rfl ?_
                                          refine pd_lcmp_eq (tgt := 772) dL_law_766 dL_law_767 (by decide) (fun hc => ?_) (fun hc => ?_)
                                          · have hf := pd_ip hf hc
                                            exact pd_weak (L' := [pd_R (-40), pd_R x1, pd_R x2, pd_R x3, pd_I x4, pd_N, pd_N, pd_N]) ⟨Or.inr rfl, Or.inr rfl, Or.inr rfl, Or.inr rfl, Or.inr rfl, Or.inl rfl, Or.inl rfl, Or.inr rfl, trivial⟩ (pkL_law_b772 E l hlt hLs hxs (ih) _ _ (by omega) (by omega) _ _ _ _ _ hf)
                                          · have hf := pd_in_ hf hc
                                            refine pd_iconst dL_law_770 (by decide) ?_
                                            exact absurd (pd_inj1 hf) (by decide)
                                      · have hf := pd_in_ hf hc
                                        refine pd_iconst dL_law_754 (by decide) ?_
                                        exact absurd (pd_inj1 hf) (by decide)
                                    · have hf := pd_in_ hf hv15
                                      by_cases hv16 : (pd_and (xs x4) 31) = 16
                                      · have hf := pd_ip hf hv16
                                        refine pd_tabE (v := 16) (off := 735) (tgt := 775) dL_law_40 hv16 (by decide) (by decide) (by decide) (by decide) ?_
                                        refine pd_aload_n (i := 1) dL_law_775 rfl rfl ?_
                                        refine pd_aload_n (i := 0) dL_law_776 rfl rfl ?_
                                        refine pd_iload (i := 4) dL_law_777 rfl ?_
                                        refine pd_iconst dL_law_779 (by decide) ?_
                                        refine pd_iadd dL_law_780 ?_
                                        obtain ⟨hg146, hf⟩ := pd_ig hf
                                        refine pd_xld dL_law_781 hLs hxs hg146 ?_
                                        refine pd_aload_n (i := 0) dL_law_782 rfl rfl ?_
                                        refine pd_iload (i := 4) dL_law_783 rfl ?_
                                        refine pd_iconst dL_law_785 (by decide) ?_
                                        refine pd_iadd dL_law_786 ?_
                                        obtain ⟨hg147, hf⟩ := pd_ig hf
                                        refine pd_xld dL_law_787 hLs hxs hg147 ?_
                                        refine pd_aload_n (i := 3) dL_law_788 rfl rfl ?_
                                        obtain ⟨r149, F148, hr, hf⟩ := pd_ob2 hf
                                        refine pd_callSW (xs := [pd_R x1, pd_I (xs (pd_w (x4 + 1))), pd_I (xs (pd_w (x4 + 2))), pd_R x3]) (pkL_joining l hlt hr) dL_law_789 pq_1406 pq_1409 (pd_okWL (by decide) (by decide) (by omega) (by omega) pq_1407 pq_1408 (by decide) (show (parseMethodDescriptor yL_joining.desc).map (fun d => d.parameters.length) = some 4 from by decide +kernel)) (Nat.le_of_ble_eq_true rfl) rfl ?_
                                        refine pd_istore (L' := [pd_R (-40), pd_R x1, pd_R x2, pd_R x3, pd_I x4, pd_I r149, pd_N, pd_N]) dL_law_792 (by decide) rfl ?_
                                        refine pd_aload_n (i := 2) dL_law_794 rfl rfl ?_
                                        refine pd_aload_n (i := 0) dL_law_795 rfl rfl ?_
                                        refine pd_iload (i := 4) dL_law_796 rfl ?_
                                        refine pd_iconst dL_law_798 (by decide) ?_
                                        refine pd_iadd dL_law_799 ?_
                                        refine pd_xld dL_law_800 hLs hxs hg146 ?_
                                        refine pd_aload_n (i := 0) dL_law_801 rfl rfl ?_
                                        refine pd_iload (i := 4) dL_law_802 rfl ?_
                                        refine pd_iconst dL_law_804 (by decide) ?_
                                        refine pd_iadd dL_law_805 ?_
                                        refine pd_xld dL_law_806 hLs hxs hg147 ?_
                                        obtain ⟨hg152, hf⟩ := pd_ig hf
                                        obtain ⟨r151, F150, hr, hf⟩ := pd_ob2 hf
                                        refine pd_callV (pkX12_joining l hr) dL_law_807 pq_1410 pq_1413 pq_1414 (show vwCl[12]? = some (yX12_joining.cls, TX12, 52) from rfl) hg152 (pd_okL (by decide) (by decide) (by omega) (by omega) pq_1411 pq_1412 (by decide) (show (parseMethodDescriptor yX12_joining.desc).map (fun d => d.parameters.length) = some 2 from by decide +kernel)) (Nat.le_of_ble_eq_true rfl) rfl ?_
                                        refine pd_lstore (L' := [pd_R (-40), pd_R x1, pd_R x2, pd_R x3, pd_I x4, pd_I r149, pd_J r151, pd_N]) dL_law_810 (by decide) rfl ?_
                                        refine pd_aload_n (i := 2) dL_law_812 rfl rfl ?_
                                        obtain ⟨r154, F153, hr, hf⟩ := pd_ob2 hf
                                        refine pd_callV (pkX12_thrown l hr) dL_law_813 pq_1302 pq_1305 pq_1306 (show vwCl[12]? = some (yX12_thrown.cls, TX12, 52) from rfl) hg152 (pd_okL (by decide) (by decide) (by omega) (by omega) pq_1303 pq_1304 (by decide) (show (parseMethodDescriptor yX12_thrown.desc).map (fun d => d.parameters.length) = some 0 from by decide +kernel)) (Nat.le_of_ble_eq_true rfl) rfl ?_
                                        refine pd_iload (i := 5) dL_law_816 rfl ?_
                                        refine pd_icmp_eq (tgt := 823) dL_law_818 (by decide) (fun hc => ?_) (fun hc => ?_)
                                        · have hf := pd_ip hf hc
                                          refine pd_iload (i := 5) dL_law_823 rfl ?_
                                          refine pd_if_ne (tgt := 839) dL_law_825 (by decide) (fun hc => ?_) (fun hc => ?_)
                                          · have hf := pd_ip hf hc
                                            exact pd_weak (L' := [pd_R (-40), pd_R x1, pd_R x2, pd_R x3, pd_I x4, pd_N, pd_N, pd_N]) ⟨Or.inr rfl, Or.inr rfl, Or.inr rfl, Or.inr rfl, Or.inr rfl, Or.inl rfl, Or.inl rfl, Or.inr rfl, trivial⟩ (pkL_law_b839 E l hlt hLs hxs (ih) _ _ (by omega) (by omega) _ _ _ _ _ hf)
                                          · have hf := pd_iq hf hc
                                            refine pd_aload_n (i := 3) dL_law_828 rfl rfl ?_
                                            refine pd_iconst dL_law_829 (by decide) ?_
                                            obtain ⟨hg155, hf⟩ := pd_ig hf
                                            refine pd_lald dL_law_830 hg155 ?_
                                            refine pd_lload (i := 6) dL_law_831 rfl ?_
                                            refine pd_lcmp_eq (tgt := 839) dL_law_833 dL_law_834 (by decide) (fun hc => ?_) (fun hc => ?_)
                                            · have hf := pd_ip hf hc
                                              exact pd_weak (L' := [pd_R (-40), pd_R x1, pd_R x2, pd_R x3, pd_I x4, pd_N, pd_N, pd_N]) ⟨Or.inr rfl, Or.inr rfl, Or.inr rfl, Or.inr rfl, Or.inr rfl, Or.inl rfl, Or.inl rfl, Or.inr rfl, trivial⟩ (pkL_law_b839 E l hlt hLs hxs (ih) _ _ (by omega) (by omega) _ _ _ _ _ hf)
                                            · have hf := pd_in_ hf hc
                                              refine pd_iconst dL_law_837 (by decide) ?_
                                              exact absurd (pd_inj1 hf) (by decide)
                                        · have hf := pd_in_ hf hc
                                          refine pd_iconst dL_law_821 (by decide) ?_
                                          exact absurd (pd_inj1 hf) (by decide)
                                      · have hf := pd_in_ hf hv16
                                        by_cases hv17 : (pd_and (xs x4) 31) = 17
                                        · have hf := pd_ip hf hv17
                                          refine pd_tabE (v := 17) (off := 802) (tgt := 842) dL_law_40 hv17 (by decide) (by decide) (by decide) (by decide) ?_
                                          refine pd_aload_n (i := 1) dL_law_842 rfl rfl ?_
                                          refine pd_aload_n (i := 0) dL_law_843 rfl rfl ?_
                                          refine pd_iload (i := 4) dL_law_844 rfl ?_
                                          refine pd_iconst dL_law_846 (by decide) ?_
                                          refine pd_iadd dL_law_847 ?_
                                          obtain ⟨hg156, hf⟩ := pd_ig hf
                                          refine pd_xld dL_law_848 hLs hxs hg156 ?_
                                          refine pd_aload_n (i := 0) dL_law_849 rfl rfl ?_
                                          refine pd_iload (i := 4) dL_law_850 rfl ?_
                                          refine pd_iconst dL_law_852 (by decide) ?_
                                          refine pd_iadd dL_law_853 ?_
                                          obtain ⟨hg157, hf⟩ := pd_ig hf
                                          refine pd_xld dL_law_854 hLs hxs hg157 ?_
                                          obtain ⟨hg160, hf⟩ := pd_ig hf
                                          obtain ⟨r159, F158, hr, hf⟩ := pd_ob2 hf
                                          refine pd_callV (pkX11_apart l hr) dL_law_855 pq_1415 pq_1418 pq_1419 (show vwCl[11]? = some (yX11_apart.cls, TX11, 10) from rfl) hg160 (pd_okL (by decide) (by decide) (by omega) (by omega) pq_1416 pq_1417 (by decide) (show (parseMethodDescriptor yX11_apart.desc).map (fun d => d.parameters.length) = some 2 from by decide +kernel)) (Nat.le_of_ble_eq_true rfl) rfl ?_
                                          refine pd_aload_n (i := 2) dL_law_858 rfl rfl ?_
                                          refine pd_aload_n (i := 0) dL_law_859 rfl rfl ?_
                                          refine pd_iload (i := 4) dL_law_860 rfl ?_
                                          refine pd_iconst dL_law_862 (by decide) ?_
                                          refine pd_iadd dL_law_863 ?_
                                          refine pd_xld dL_law_864 hLs hxs hg156 ?_
                                          refine pd_aload_n (i := 0) dL_law_865 rfl rfl ?_
                                          refine pd_iload (i := 4) dL_law_866 rfl ?_
                                          refine pd_iconst dL_law_868 (by decide) ?_
                                          refine pd_iadd dL_law_869 ?_
                                          refine pd_xld dL_law_870 hLs hxs hg157 ?_
                                          obtain ⟨hg163, hf⟩ := pd_ig hf
                                          obtain ⟨r162, F161, hr, hf⟩ := pd_ob2 hf
                                          refine pd_callV (pkX12_apart l hr) dL_law_871 pq_1420 pq_1423 pq_1424 (show vwCl[12]? = some (yX12_apart.cls, TX12, 52) from rfl) hg163 (pd_okL (by decide) (by decide) (by omega) (by omega) pq_1421 pq_1422 (by decide) (show (parseMethodDescriptor yX12_apart.desc).map (fun d => d.parameters.length) = some 2 from by decide +kernel)) (Nat.le_of_ble_eq_true rfl) rfl ?_
                                          refine pd_icmp_eq (tgt := 1196) dL_law_874 (by decide) (fun hc => ?_) (fun hc => ?_)
                                          · have hf := pd_ip hf hc
                                            exact pd_weak (L' := [pd_R (-40), pd_R x1, pd_R x2, pd_R x3, pd_I x4, pd_N, pd_N, pd_N]) ⟨Or.inr rfl, Or.inr rfl, Or.inr rfl, Or.inr rfl, Or.inr rfl, Or.inr rfl, Or.inr rfl, Or.inr rfl, trivial⟩ (pkL_law_b1196 E l hlt hLs hxs (ih) _ _ (by omega) (by omega) _ _ _ _ _ hf)
                                          · have hf := pd_in_ hf hc
                                            refine pd_iconst dL_law_877 (by decide) ?_
                                            exact absurd (pd_inj1 hf) (by decide)
                                        · have hf := pd_in_ hf hv17
                                          by_cases hv18 : (pd_and (xs x4) 31) = 18
                                          · have hf := pd_ip hf hv18
                                            refine pd_tabE (v := 18) (off := 839) (tgt := 879) dL_law_40 hv18 (by decide) (by decide) (by decide) (by decide) ?_
                                            refine pd_aload_n (i := 1) dL_law_879 rfl rfl ?_
                                            refine pd_aload_n (i := 0) dL_law_880 rfl rfl ?_
                                            refine pd_iload (i := 4) dL_law_881 rfl ?_
                                            refine pd_iconst dL_law_883 (by decide) ?_
                                            refine pd_iadd dL_law_884 ?_
                                            obtain ⟨hg164, hf⟩ := pd_ig hf
                                            refine pd_xld dL_law_885 hLs hxs hg164 ?_
                                            refine pd_aload_n (i := 0) dL_law_886 rfl rfl ?_
                                            refine pd_iload (i := 4) dL_law_887 rfl ?_
                                            refine pd_iconst dL_law_889 (by decide) ?_
                                            refine pd_iadd dL_law_890 ?_
                                            obtain ⟨hg165, hf⟩ := pd_ig hf
                                            refine pd_xld dL_law_891 hLs hxs hg165 ?_
                                            obtain ⟨hg168, hf⟩ := pd_ig hf
                                            obtain ⟨r167, F166, hr, hf⟩ := pd_ob2 hf
                                            refine pd_callV (pkX11_ways l hr) dL_law_892 pq_1425 pq_1428 pq_1429 (show vwCl[11]? = some (yX11_ways.cls, TX11, 10) from rfl) hg168 (pd_okL (by decide) (by decide) (by omega) (by omega) pq_1426 pq_1427 (by decide) (show (parseMethodDescriptor yX11_ways.desc).map (fun d => d.parameters.length) = some 2 from by decide +kernel)) (Nat.le_of_ble_eq_true rfl) rfl ?_
                                            refine pd_aload_n (i := 2) dL_law_895 rfl rfl ?_
                                            refine pd_aload_n (i := 0) dL_law_896 rfl rfl ?_
                                            refine pd_iload (i := 4) dL_law_897 rfl ?_
                                            refine pd_iconst dL_law_899 (by decide) ?_
                                            refine pd_iadd dL_law_900 ?_
                                            refine pd_xld dL_law_901 hLs hxs hg164 ?_
                                            refine pd_aload_n (i := 0) dL_law_902 rfl rfl ?_
                                            refine pd_iload (i := 4) dL_law_903 rfl ?_
                                            refine pd_iconst dL_law_905 (by decide) ?_
                                            refine pd_iadd dL_law_906 ?_
                                            refine pd_xld dL_law_907 hLs hxs hg165 ?_
                                            obtain ⟨hg171, hf⟩ := pd_ig hf
                                            obtain ⟨r170, F169, hr, hf⟩ := pd_ob2 hf
                                            refine pd_callV (pkX12_ways l hr) dL_law_908 pq_1430 pq_1433 pq_1434 (show vwCl[12]? = some (yX12_ways.cls, TX12, 52) from rfl) hg171 (pd_okL (by decide) (by decide) (by omega) (by omega) pq_1431 pq_1432 (by decide) (show (parseMethodDescriptor yX12_ways.desc).map (fun d => d.parameters.length) = some 2 from by decide +kernel)) (Nat.le_of_ble_eq_true rfl) rfl ?_
                                            refine pd_icmp_eq (tgt := 1196) dL_law_911 (by decide) (fun hc => ?_) (fun hc => ?_)
                                            · have hf := pd_ip hf hc
                                              exact pd_weak (L' := [pd_R (-40), pd_R x1, pd_R x2, pd_R x3, pd_I x4, pd_N, pd_N, pd_N]) ⟨Or.inr rfl, Or.inr rfl, Or.inr rfl, Or.inr rfl, Or.inr rfl, Or.inr rfl, Or.inr rfl, Or.inr rfl, trivial⟩ (pkL_law_b1196 E l hlt hLs hxs (ih) _ _ (by omega) (by omega) _ _ _ _ _ hf)
                                            · have hf := pd_in_ hf hc
                                              refine pd_iconst dL_law_914 (by decide) ?_
                                              exact absurd (pd_inj1 hf) (by decide)
                                          · have hf := pd_in_ hf hv18
                                            by_cases hv19 : (pd_and (xs x4) 31) = 19
                                            · have hf := pd_ip hf hv19
                                              refine pd_tabE (v := 19) (off := 876) (tgt := 916) dL_law_40 hv19 (by decide) (by decide) (by decide) (by decide) ?_
                                              refine pd_aload_n (i := 1) dL_law_916 rfl rfl ?_
                                              refine pd_aload_n (i := 0) dL_law_917 rfl rfl ?_
                                              refine pd_iload (i := 4) dL_law_918 rfl ?_
                                              refine pd_iconst dL_law_920 (by decide) ?_
                                              refine pd_iadd dL_law_921 ?_
                                              obtain ⟨hg172, hf⟩ := pd_ig hf
                                              refine pd_xld dL_law_922 hLs hxs hg172 ?_
                                              refine pd_aload_n (i := 0) dL_law_923 rfl rfl ?_
                                              refine pd_iload (i := 4) dL_law_924 rfl ?_
                                              refine pd_iconst dL_law_926 (by decide) ?_
                                              refine pd_iadd dL_law_927 ?_
                                              obtain ⟨hg173, hf⟩ := pd_ig hf
                                              refine pd_xld dL_law_928 hLs hxs hg173 ?_
                                              obtain ⟨hg176, hf⟩ := pd_ig hf
                                              obtain ⟨r175, F174, hr, hf⟩ := pd_ob2 hf
                                              refine pd_callV (pkX11_balance l hr) dL_law_929 pq_1435 pq_1438 pq_1439 (show vwCl[11]? = some (yX11_balance.cls, TX11, 10) from rfl) hg176 (pd_okL (by decide) (by decide) (by omega) (by omega) pq_1436 pq_1437 (by decide) (show (parseMethodDescriptor yX11_balance.desc).map (fun d => d.parameters.length) = some 2 from by decide +kernel)) (Nat.le_of_ble_eq_true rfl) rfl ?_
                                              refine pd_aload_n (i := 2) dL_law_932 rfl rfl ?_
                                              refine pd_aload_n (i := 0) dL_law_933 rfl rfl ?_
                                              refine pd_iload (i := 4) dL_law_934 rfl ?_
                                              refine pd_iconst dL_law_936 (by decide) ?_
                                              refine pd_iadd dL_law_937 ?_
                                              refine pd_xld dL_law_938 hLs hxs hg172 ?_
                                              refine pd_aload_n (i := 0) dL_law_939 rfl rfl ?_
                                              refine pd_iload (i := 4) dL_law_940 rfl ?_
                                              refine pd_iconst dL_law_942 (by decide) ?_
                                              refine pd_iadd dL_law_943 ?_
                                              refine pd_xld dL_law_944 hLs hxs hg173 ?_
                                              obtain ⟨hg179, hf⟩ := pd_ig hf
                                              obtain ⟨r178, F177, hr, hf⟩ := pd_ob2 hf
                                              refine pd_callV (pkX12_balance l hr) dL_law_945 pq_1440 pq_1443 pq_1444 (show vwCl[12]? = some (yX12_balance.cls, TX12, 52) from rfl) hg179 (pd_okL (by decide) (by decide) (by omega) (by omega) pq_1441 pq_1442 (by decide) (show (parseMethodDescriptor yX12_balance.desc).map (fun d => d.parameters.length) = some 2 from by decide +kernel)) (Nat.le_of_ble_eq_true rfl) rfl ?_
                                              refine pd_icmp_eq (tgt := 1196) dL_law_948 (by decide) (fun hc => ?_) (fun hc => ?_)
                                              · have hf := pd_ip hf hc
                                                exact pd_weak (L' := [pd_R (-40), pd_R x1, pd_R x2, pd_R x3, pd_I x4, pd_N, pd_N, pd_N]) ⟨Or.inr rfl, Or.inr rfl, Or.inr rfl, Or.inr rfl, Or.inr rfl, Or.inr rfl, Or.inr rfl, Or.inr rfl, trivial⟩ (pkL_law_b1196 E l hlt hLs hxs (ih) _ _ (by omega) (by omega) _ _ _ _ _ hf)
                                              · have hf := pd_in_ hf hc
                                                refine pd_iconst dL_law_951 (by decide) ?_
                                                exact absurd (pd_inj1 hf) (by decide)
                                            · have hf := pd_in_ hf hv19
                                              by_cases hv20 : (pd_and (xs x4) 31) = 20
                                              · have hf := pd_ip hf hv20
                                                refine pd_tabE (v := 20) (off := 913) (tgt := 953) dL_law_40 hv20 (by decide) (by decide) (by decide) (by decide) ?_
                                                refine pd_aload_n (i := 1) dL_law_953 rfl rfl ?_
                                                refine pd_aload_n (i := 0) dL_law_954 rfl rfl ?_
                                                refine pd_iload (i := 4) dL_law_955 rfl ?_
                                                refine pd_iconst dL_law_957 (by decide) ?_
                                                refine pd_iadd dL_law_958 ?_
                                                obtain ⟨hg180, hf⟩ := pd_ig hf
                                                refine pd_xld dL_law_959 hLs hxs hg180 ?_
                                                refine pd_aload_n (i := 0) dL_law_960 rfl rfl ?_
                                                refine pd_iload (i := 4) dL_law_961 rfl ?_
                                                refine pd_iconst dL_law_963 (by decide) ?_
                                                refine pd_iadd dL_law_964 ?_
                                                obtain ⟨hg181, hf⟩ := pd_ig hf
                                                refine pd_xld dL_law_965 hLs hxs hg181 ?_
                                                obtain ⟨hg184, hf⟩ := pd_ig hf
                                                obtain ⟨r183, F182, hr, hf⟩ := pd_ob2 hf
                                                refine pd_callV (pkX11_join l hr) dL_law_966 pq_1445 pq_1448 pq_1449 (show vwCl[11]? = some (yX11_join.cls, TX11, 10) from rfl) hg184 (pd_okL (by decide) (by decide) (by omega) (by omega) pq_1446 pq_1447 (by decide) (show (parseMethodDescriptor yX11_join.desc).map (fun d => d.parameters.length) = some 2 from by decide +kernel)) (Nat.le_of_ble_eq_true rfl) rfl ?_
                                                refine pd_aload_n (i := 2) dL_law_969 rfl rfl ?_
                                                refine pd_aload_n (i := 0) dL_law_970 rfl rfl ?_
                                                refine pd_iload (i := 4) dL_law_971 rfl ?_
                                                refine pd_iconst dL_law_973 (by decide) ?_
                                                refine pd_iadd dL_law_974 ?_
                                                refine pd_xld dL_law_975 hLs hxs hg180 ?_
                                                refine pd_aload_n (i := 0) dL_law_976 rfl rfl ?_
                                                refine pd_iload (i := 4) dL_law_977 rfl ?_
                                                refine pd_iconst dL_law_979 (by decide) ?_
                                                refine pd_iadd dL_law_980 ?_
                                                refine pd_xld dL_law_981 hLs hxs hg181 ?_
                                                obtain ⟨hg187, hf⟩ := pd_ig hf
                                                obtain ⟨r186, F185, hr, hf⟩ := pd_ob2 hf
                                                refine pd_callV (pkX12_join l hr) dL_law_982 pq_1450 pq_1453 pq_1454 (show vwCl[12]? = some (yX12_join.cls, TX12, 52) from rfl) hg187 (pd_okL (by decide) (by decide) (by omega) (by omega) pq_1451 pq_1452 (by decide) (show (parseMethodDescriptor yX12_join.desc).map (fun d => d.parameters.length) = some 2 from by decide +kernel)) (Nat.le_of_ble_eq_true rfl) rfl ?_
                                                refine pd_icmp_eq (tgt := 1196) dL_law_985 (by decide) (fun hc => ?_) (fun hc => ?_)
                                                · have hf := pd_ip hf hc
                                                  exact pd_weak (L' := [pd_R (-40), pd_R x1, pd_R x2, pd_R x3, pd_I x4, pd_N, pd_N, pd_N]) ⟨Or.inr rfl, Or.inr rfl, Or.inr rfl, Or.inr rfl, Or.inr rfl, Or.inr rfl, Or.inr rfl, Or.inr rfl, trivial⟩ (pkL_law_b1196 E l hlt hLs hxs (ih) _ _ (by omega) (by omega) _ _ _ _ _ hf)
                                                · have hf := pd_in_ hf hc
                                                  refine pd_iconst dL_law_988 (by decide) ?_
                                                  exact absurd (pd_inj1 hf) (by decide)
                                              · have hf := pd_in_ hf hv20
                                                by_cases hv21 : (pd_and (xs x4) 31) = 21
                                                · have hf := pd_ip hf hv21
                                                  refine pd_tabE (v := 21) (off := 950) (tgt := 990) dL_law_40 hv21 (by decide) (by decide) (by decide) (by decide) ?_
                                                  refine pd_aload_n (i := 1) dL_law_990 rfl rfl ?_
                                                  refine pd_aload_n (i := 0) dL_law_991 rfl rfl ?_
                                                  refine pd_iload (i := 4) dL_law_992 rfl ?_
                                                  refine pd_iconst dL_law_994 (by decide) ?_
                                                  refine pd_iadd dL_law_995 ?_
                                                  obtain ⟨hg188, hf⟩ := pd_ig hf
                                                  refine pd_xld dL_law_996 hLs hxs hg188 ?_
                                                  obtain ⟨hg191, hf⟩ := pd_ig hf
                                                  obtain ⟨r190, F189, hr, hf⟩ := pd_ob2 hf
                                                  refine pd_callV (pkX11_split l hr) dL_law_997 pq_1455 pq_1458 pq_1459 (show vwCl[11]? = some (yX11_split.cls, TX11, 10) from rfl) hg191 (pd_okL (by decide) (by decide) (by omega) (by omega) pq_1456 pq_1457 (by decide) (show (parseMethodDescriptor yX11_split.desc).map (fun d => d.parameters.length) = some 1 from by decide +kernel)) (Nat.le_of_ble_eq_true rfl) rfl ?_
                                                  refine pd_aload_n (i := 2) dL_law_1000 rfl rfl ?_
                                                  refine pd_aload_n (i := 0) dL_law_1001 rfl rfl ?_
                                                  refine pd_iload (i := 4) dL_law_1002 rfl ?_
                                                  refine pd_iconst dL_law_1004 (by decide) ?_
                                                  refine pd_iadd dL_law_1005 ?_
                                                  refine pd_xld dL_law_1006 hLs hxs hg188 ?_
                                                  obtain ⟨hg194, hf⟩ := pd_ig hf
                                                  obtain ⟨r193, F192, hr, hf⟩ := pd_ob2 hf
                                                  refine pd_callV (pkX12_split l hr) dL_law_1007 pq_1460 pq_1463 pq_1464 (show vwCl[12]? = some (yX12_split.cls, TX12, 52) from rfl) hg194 (pd_okL (by decide) (by decide) (by omega) (by omega) pq_1461 pq_1462 (by decide) (show (parseMethodDescriptor yX12_split.desc).map (fun d => d.parameters.length) = some 1 from by decide +kernel)) (Nat.le_of_ble_eq_true rfl) rfl ?_
                                                  refine pd_icmp_eq (tgt := 1196) dL_law_1010 (by decide) (fun hc => ?_) (fun hc => ?_)
                                                  · have hf := pd_ip hf hc
                                                    exact pd_weak (L' := [pd_R (-40), pd_R x1, pd_R x2, pd_R x3, pd_I x4, pd_N, pd_N, pd_N]) ⟨Or.inr rfl, Or.inr rfl, Or.inr rfl, Or.inr rfl, Or.inr rfl, Or.inr rfl, Or.inr rfl, Or.inr rfl, trivial⟩ (pkL_law_b1196 E l hlt hLs hxs (ih) _ _ (by omega) (by omega) _ _ _ _ _ hf)
                                                  · have hf := pd_in_ hf hc
                                                    refine pd_iconst dL_law_1013 (by decide) ?_
                                                    exact absurd (pd_inj1 hf) (by decide)
                                                · have hf := pd_in_ hf hv21
                                                  by_cases hv22 : (pd_and (xs x4) 31) = 22
                                                  · have hf := pd_ip hf hv22
                                                    refine pd_tabE (v := 22) (off := 975) (tgt := 1015) dL_law_40 hv22 (by decide) (by decide) (by decide) (by decide) ?_
                                                    refine pd_aload_n (i := 1) dL_law_1015 rfl rfl ?_
                                                    refine pd_aload_n (i := 0) dL_law_1016 rfl rfl ?_
                                                    refine pd_iload (i := 4) dL_law_1017 rfl ?_
                                                    refine pd_iconst dL_law_1019 (by decide) ?_
                                                    refine pd_iadd dL_law_1020 ?_
                                                    obtain ⟨hg195, hf⟩ := pd_ig hf
                                                    refine pd_xld dL_law_1021 hLs hxs hg195 ?_
                                                    refine pd_aload_n (i := 0) dL_law_1022 rfl rfl ?_
                                                    refine pd_iload (i := 4) dL_law_1023 rfl ?_
                                                    refine pd_iconst dL_law_1025 (by decide) ?_
                                                    refine pd_iadd dL_law_1026 ?_
                                                    obtain ⟨hg196, hf⟩ := pd_ig hf
                                                    refine pd_xld dL_law_1027 hLs hxs hg196 ?_
                                                    obtain ⟨hg199, hf⟩ := pd_ig hf
                                                    obtain ⟨r198, F197, hr, hf⟩ := pd_ob2 hf
                                                    refine pd_callV (pkX11_tell l hr) dL_law_1028 pq_1465 pq_1468 pq_1469 (show vwCl[11]? = some (yX11_tell.cls, TX11, 10) from rfl) hg199 (pd_okL (by decide) (by decide) (by omega) (by omega) pq_1466 pq_1467 (by decide) (show (parseMethodDescriptor yX11_tell.desc).map (fun d => d.parameters.length) = some 2 from by decide +kernel)) (Nat.le_of_ble_eq_true rfl) rfl ?_
                                                    refine pd_aload_n (i := 2) dL_law_1031 rfl rfl ?_
                                                    refine pd_aload_n (i := 0) dL_law_1032 rfl rfl ?_
                                                    refine pd_iload (i := 4) dL_law_1033 rfl ?_
                                                    refine pd_iconst dL_law_1035 (by decide) ?_
                                                    refine pd_iadd dL_law_1036 ?_
                                                    refine pd_xld dL_law_1037 hLs hxs hg195 ?_
                                                    refine pd_aload_n (i := 0) dL_law_1038 rfl rfl ?_
                                                    refine pd_iload (i := 4) dL_law_1039 rfl ?_
                                                    refine pd_iconst dL_law_1041 (by decide) ?_
                                                    refine pd_iadd dL_law_1042 ?_
                                                    refine pd_xld dL_law_1043 hLs hxs hg196 ?_
                                                    obtain ⟨hg202, hf⟩ := pd_ig hf
                                                    obtain ⟨r201, F200, hr, hf⟩ := pd_ob2 hf
                                                    refine pd_callV (pkX12_tell l hr) dL_law_1044 pq_1470 pq_1473 pq_1474 (show vwCl[12]? = some (yX12_tell.cls, TX12, 52) from rfl) hg202 (pd_okL (by decide) (by decide) (by omega) (by omega) pq_1471 pq_1472 (by decide) (show (parseMethodDescriptor yX12_tell.desc).map (fun d => d.parameters.length) = some 2 from by decide +kernel)) (Nat.le_of_ble_eq_true rfl) rfl ?_
                                                    refine pd_icmp_eq (tgt := 1196) dL_law_1047 (by decide) (fun hc => ?_) (fun hc => ?_)
                                                    · have hf := pd_ip hf hc
                                                      exact pd_weak (L' := [pd_R (-40), pd_R x1, pd_R x2, pd_R x3, pd_I x4, pd_N, pd_N, pd_N]) ⟨Or.inr rfl, Or.inr rfl, Or.inr rfl, Or.inr rfl, Or.inr rfl, Or.inr rfl, Or.inr rfl, Or.inr rfl, trivial⟩ (pkL_law_b1196 E l hlt hLs hxs (ih) _ _ (by omega) (by omega) _ _ _ _ _ hf)
                                                    · have hf := pd_in_ hf hc
                                                      refine pd_iconst dL_law_1050 (by decide) ?_
                                                      exact absurd (pd_inj1 hf) (by decide)
                                                  · have hf := pd_in_ hf hv22
                                                    by_cases hv23 : (pd_and (xs x4) 31) = 23
                                                    · have hf := pd_ip hf hv23
                                                      refine pd_tabE (v := 23) (off := 1012) (tgt := 1052) dL_law_40 hv23 (by decide) (by decide) (by decide) (by decide) ?_
                                                      refine pd_aload_n (i := 1) dL_law_1052 rfl rfl ?_
                                                      refine pd_aload_n (i := 0) dL_law_1053 rfl rfl ?_
                                                      refine pd_iload (i := 4) dL_law_1054 rfl ?_
                                                      refine pd_iconst dL_law_1056 (by decide) ?_
                                                      refine pd_iadd dL_law_1057 ?_
                                                      obtain ⟨hg203, hf⟩ := pd_ig hf
                                                      refine pd_xld dL_law_1058 hLs hxs hg203 ?_
                                                      refine pd_aload_n (i := 0) dL_law_1059 rfl rfl ?_
                                                      refine pd_iload (i := 4) dL_law_1060 rfl ?_
                                                      refine pd_iconst dL_law_1062 (by decide) ?_
                                                      refine pd_iadd dL_law_1063 ?_
                                                      obtain ⟨hg204, hf⟩ := pd_ig hf
                                                      refine pd_xld dL_law_1064 hLs hxs hg204 ?_
                                                      refine pd_if_eq (tgt := 1072) dL_law_1065 (by decide) (fun hc => ?_) (fun hc => ?_)
                                                      · have hf := pd_ip hf hc
                                                        refine pd_iconst dL_law_1072 (by decide) ?_
                                                        exact pd_weak (L' := [pd_R (-40), pd_R x1, pd_R x2, pd_R x3, pd_I x4, pd_N, pd_N, pd_N]) ⟨Or.inr rfl, Or.inr rfl, Or.inr rfl, Or.inr rfl, Or.inr rfl, Or.inr rfl, Or.inr rfl, Or.inr rfl, trivial⟩ (pkL_law_b1073 E l hlt hLs hxs (ih) _ _ (by omega) (by omega) _ _ _ _ _ _ _ _ hf)
                                                      · have hf := pd_in_ hf hc
                                                        refine pd_iconst dL_law_1068 (by decide) ?_
                                                        refine pd_goto (tgt := 1073) dL_law_1069 (by decide) ?_
                                                        exact pd_weak (L' := [pd_R (-40), pd_R x1, pd_R x2, pd_R x3, pd_I x4, pd_N, pd_N, pd_N]) ⟨Or.inr rfl, Or.inr rfl, Or.inr rfl, Or.inr rfl, Or.inr rfl, Or.inr rfl, Or.inr rfl, Or.inr rfl, trivial⟩ (pkL_law_b1073 E l hlt hLs hxs (ih) _ _ (by omega) (by omega) _ _ _ _ _ _ _ _ hf)
                                                    · have hf := pd_in_ hf hv23
                                                      by_cases hv24 : (pd_and (xs x4) 31) = 24
                                                      · have hf := pd_ip hf hv24
                                                        refine pd_tabE (v := 24) (off := 1065) (tgt := 1105) dL_law_40 hv24 (by decide) (by decide) (by decide) (by decide) ?_
                                                        refine pd_aload_n (i := 1) dL_law_1105 rfl rfl ?_
                                                        obtain ⟨hg207, hf⟩ := pd_ig hf
                                                        obtain ⟨r206, F205, hr, hf⟩ := pd_ob2 hf
                                                        refine pd_callV (pkX11_undo l hr) dL_law_1106 pq_1475 pq_1478 pq_1479 (show vwCl[11]? = some (yX11_undo.cls, TX11, 10) from rfl) hg207 (pd_okL (by decide) (by decide) (by omega) (by omega) pq_1476 pq_1477 (by decide) (show (parseMethodDescriptor yX11_undo.desc).map (fun d => d.parameters.length) = some 0 from by decide +kernel)) (Nat.le_of_ble_eq_true rfl) rfl ?_
                                                        refine pd_aload_n (i := 2) dL_law_1109 rfl rfl ?_
                                                        obtain ⟨hg210, hf⟩ := pd_ig hf
                                                        obtain ⟨r209, F208, hr, hf⟩ := pd_ob2 hf
                                                        refine pd_callV (pkX12_undo l hr) dL_law_1110 pq_1480 pq_1483 pq_1484 (show vwCl[12]? = some (yX12_undo.cls, TX12, 52) from rfl) hg210 (pd_okL (by decide) (by decide) (by omega) (by omega) pq_1481 pq_1482 (by decide) (show (parseMethodDescriptor yX12_undo.desc).map (fun d => d.parameters.length) = some 0 from by decide +kernel)) (Nat.le_of_ble_eq_true rfl) rfl ?_
                                                        refine pd_icmp_eq (tgt := 1196) dL_law_1113 (by decide) (fun hc => ?_) (fun hc => ?_)
                                                        · have hf := pd_ip hf hc
                                                          exact pd_weak (L' := [pd_R (-40), pd_R x1, pd_R x2, pd_R x3, pd_I x4, pd_N, pd_N, pd_N]) ⟨Or.inr rfl, Or.inr rfl, Or.inr rfl, Or.inr rfl, Or.inr rfl, Or.inr rfl, Or.inr rfl, Or.inr rfl, trivial⟩ (pkL_law_b1196 E l hlt hLs hxs (ih) _ _ (by omega) (by omega) _ _ _ _ _ hf)
                                                        · have hf := pd_in_ hf hc
                                                          refine pd_iconst dL_law_1116 (by decide) ?_
                                                          exact absurd (pd_inj1 hf) (by decide)
                                                      · have hf := pd_in_ hf hv24
                                                        by_cases hv25 : (pd_and (xs x4) 31) = 25
                                                        · have hf := pd_ip hf hv25
                                                          refine pd_tabE (v := 25) (off := 1078) (tgt := 1118) dL_law_40 hv25 (by decide) (by decide) (by decide) (by decide) ?_
                                                          refine pd_aload_n (i := 1) dL_law_1118 rfl rfl ?_
                                                          refine pd_aload_n (i := 0) dL_law_1119 rfl rfl ?_
                                                          refine pd_iload (i := 4) dL_law_1120 rfl ?_
                                                          refine pd_iconst dL_law_1122 (by decide) ?_
                                                          refine pd_iadd dL_law_1123 ?_
                                                          obtain ⟨hg211, hf⟩ := pd_ig hf
                                                          refine pd_xld dL_law_1124 hLs hxs hg211 ?_
                                                          refine pd_aload_n (i := 0) dL_law_1125 rfl rfl ?_
                                                          refine pd_iload (i := 4) dL_law_1126 rfl ?_
                                                          refine pd_iconst dL_law_1128 (by decide) ?_
                                                          refine pd_iadd dL_law_1129 ?_
                                                          obtain ⟨hg212, hf⟩ := pd_ig hf
                                                          refine pd_xld dL_law_1130 hLs hxs hg212 ?_
                                                          refine pd_if_eq (tgt := 1138) dL_law_1131 (by decide) (fun hc => ?_) (fun hc => ?_)
                                                          · have hf := pd_ip hf hc
                                                            refine pd_iconst dL_law_1138 (by decide) ?_
                                                            exact pd_weak (L' := [pd_R (-40), pd_R x1, pd_R x2, pd_R x3, pd_I x4, pd_N, pd_N, pd_N]) ⟨Or.inr rfl, Or.inr rfl, Or.inr rfl, Or.inr rfl, Or.inr rfl, Or.inr rfl, Or.inr rfl, Or.inr rfl, trivial⟩ (pkL_law_b1139 E l hlt hLs hxs (ih) _ _ (by omega) (by omega) _ _ _ _ _ _ _ _ hf)
                                                          · have hf := pd_in_ hf hc
                                                            refine pd_iconst dL_law_1134 (by decide) ?_
                                                            refine pd_goto (tgt := 1139) dL_law_1135 (by decide) ?_
                                                            exact pd_weak (L' := [pd_R (-40), pd_R x1, pd_R x2, pd_R x3, pd_I x4, pd_N, pd_N, pd_N]) ⟨Or.inr rfl, Or.inr rfl, Or.inr rfl, Or.inr rfl, Or.inr rfl, Or.inr rfl, Or.inr rfl, Or.inr rfl, trivial⟩ (pkL_law_b1139 E l hlt hLs hxs (ih) _ _ (by omega) (by omega) _ _ _ _ _ _ _ _ hf)
                                                        · have hf := pd_in_ hf hv25
                                                          by_cases hv26 : (pd_and (xs x4) 31) = 26
                                                          · have hf := pd_ip hf hv26
                                                            refine pd_tabE (v := 26) (off := 1131) (tgt := 1171) dL_law_40 hv26 (by decide) (by decide) (by decide) (by decide) ?_
                                                            refine pd_aload_n (i := 1) dL_law_1171 rfl rfl ?_
                                                            refine pd_aload_n (i := 0) dL_law_1172 rfl rfl ?_
                                                            refine pd_iload (i := 4) dL_law_1173 rfl ?_
                                                            refine pd_iconst dL_law_1175 (by decide) ?_
                                                            refine pd_iadd dL_law_1176 ?_
                                                            obtain ⟨hg213, hf⟩ := pd_ig hf
                                                            refine pd_xld dL_law_1177 hLs hxs hg213 ?_
                                                            obtain ⟨hg216, hf⟩ := pd_ig hf
                                                            obtain ⟨r215, F214, hr, hf⟩ := pd_ob2 hf
                                                            refine pd_callV (pkX11_count l hr) dL_law_1178 pq_1485 pq_1488 pq_1489 (show vwCl[11]? = some (yX11_count.cls, TX11, 10) from rfl) hg216 (pd_okL (by decide) (by decide) (by omega) (by omega) pq_1486 pq_1487 (by decide) (show (parseMethodDescriptor yX11_count.desc).map (fun d => d.parameters.length) = some 1 from by decide +kernel)) (Nat.le_of_ble_eq_true rfl) rfl ?_
                                                            refine pd_aload_n (i := 2) dL_law_1181 rfl rfl ?_
                                                            refine pd_aload_n (i := 0) dL_law_1182 rfl rfl ?_
                                                            refine pd_iload (i := 4) dL_law_1183 rfl ?_
                                                            refine pd_iconst dL_law_1185 (by decide) ?_
                                                            refine pd_iadd dL_law_1186 ?_
                                                            refine pd_xld dL_law_1187 hLs hxs hg213 ?_
                                                            obtain ⟨hg219, hf⟩ := pd_ig hf
                                                            obtain ⟨r218, F217, hr, hf⟩ := pd_ob2 hf
                                                            refine pd_callV (pkX12_count l hr) dL_law_1188 pq_1490 pq_1493 pq_1494 (show vwCl[12]? = some (yX12_count.cls, TX12, 52) from rfl) hg219 (pd_okL (by decide) (by decide) (by omega) (by omega) pq_1491 pq_1492 (by decide) (show (parseMethodDescriptor yX12_count.desc).map (fun d => d.parameters.length) = some 1 from by decide +kernel)) (Nat.le_of_ble_eq_true rfl) rfl ?_
                                                            refine pd_icmp_eq (tgt := 1196) dL_law_1191 (by decide) (fun hc => ?_) (fun hc => ?_)
                                                            · have hf := pd_ip hf hc
                                                              exact pd_weak (L' := [pd_R (-40), pd_R x1, pd_R x2, pd_R x3, pd_I x4, pd_N, pd_N, pd_N]) ⟨Or.inr rfl, Or.inr rfl, Or.inr rfl, Or.inr rfl, Or.inr rfl, Or.inr rfl, Or.inr rfl, Or.inr rfl, trivial⟩ (pkL_law_b1196 E l hlt hLs hxs (ih) _ _ (by omega) (by omega) _ _ _ _ _ hf)
                                                            · have hf := pd_in_ hf hc
                                                              refine pd_iconst dL_law_1194 (by decide) ?_
                                                              exact absurd (pd_inj1 hf) (by decide)
                                                          · have hf := pd_in_ hf hv26
                                                            refine pd_tabO (tgt := 1196) dL_law_40 (by omega) (by decide) ?_
                                                            exact pd_weak (L' := [pd_R (-40), pd_R x1, pd_R x2, pd_R x3, pd_I x4, pd_N, pd_N, pd_N]) ⟨Or.inr rfl, Or.inr rfl, Or.inr rfl, Or.inr rfl, Or.inr rfl, Or.inr rfl, Or.inr rfl, Or.inr rfl, trivial⟩ (pkL_law_b1196 E l hlt hLs hxs (ih) _ _ (by omega) (by omega) _ _ _ _ _ hf)
set_option maxHeartbeats 8000000 in
set_option maxRecDepth 100000 in
theorem pkL_law (E : pd_E) (l : Launch) (hlt : l.stackTraces = false) {Ls : Int} {xs : Int → Int} (hLs : Ls = (E.2.2.2 16 : Nat) ∧ Ls < 2147483648) (hxs : ∀ j : Int, 0 ≤ j → j < Ls → xs j = (Int32.ofNat (E.2.2.2 (17 + j.toNat))).toInt) {n : Nat} (hn : n ≤ 10000) {sh : pd_S} {F : pd_F} (cells slots : Nat) (hc0 : cells ≤ 0) (hs0 : slots ≤ 0) (hf : pfL_law Ls xs n sh F = some 1) : pd_V E l room_1 (RL, cL_law, 8, ret, "law") (pd_Ql E) true cells slots sh F 0 [pd_R (-40), pd_N, pd_N, pd_N, pd_N, pd_N, pd_N, pd_N] [] := by
  unfold pfL_law at hf
  refine pd_new dL_law_0 (show vwCl[11]? = some (RX11, TX11, 10) from rfl) pin_11 tyX11_ok pq_1495 pq_1496 pq_1497 (by decide) ⟨by show _ ≤ 601024; omega, by show _ ≤ 7293034; omega⟩ ?_
  refine pd_topR (fun o222 eo222 => ?_)
  have hf := pd_lt hf eo222
  refine pd_topF (fun F221 eF221 => ?_)
  have hf := pd_lt hf eF221
  refine pd_topS (fun sh220 esh220 => ?_)
  have hf := pd_lt hf esh220
  clear esh220 eF221 eo222
  refine pd_dup dL_law_3 rfl ?_
  obtain ⟨hg225, hf⟩ := pd_ig hf
  obtain ⟨sh224, F223, hr, hf⟩ := pd_ob2 hf
  refine pd_callI (pkX11_init l hr) dL_law_4 pq_1498 pq_1501 rfl hg225 (pd_okL (by decide) (by decide) (by omega) (by omega) pq_1499 pq_1500 (by decide) (show (parseMethodDescriptor yX11_init.desc).map (fun d => d.parameters.length) = some 0 from by decide +kernel)) (Nat.le_of_ble_eq_true rfl) rfl ?_
  obtain ⟨hg226, hf⟩ := pd_ig hf
  refine pd_astore_n (L' := [pd_R (-40), pd_R o222, pd_N, pd_N, pd_N, pd_N, pd_N, pd_N]) dL_law_7 rfl (by decide) hg226 rfl ?_
  refine pd_new dL_law_8 (show vwCl[12]? = some (RX12, TX12, 52) from rfl) pin_12 tyX12_ok pq_1502 pq_1503 pq_1504 (by decide) ⟨by show _ ≤ 601024; omega, by show _ ≤ 7293034; omega⟩ ?_
  refine pd_topR (fun o229 eo229 => ?_)
  have hf := pd_lt hf eo229
  refine pd_topF (fun F228 eF228 => ?_)
  have hf := pd_lt hf eF228
  refine pd_topS (fun sh227 esh227 => ?_)
  have hf := pd_lt hf esh227
  clear esh227 eF228 eo229
  refine pd_dup dL_law_11 rfl ?_
  obtain ⟨hg232, hf⟩ := pd_ig hf
  obtain ⟨sh231, F230, hr, hf⟩ := pd_ob2 hf
  refine pd_callI (pkX12_init l hr) dL_law_12 pq_1505 pq_1508 rfl hg232 (pd_okL (by decide) (by decide) (by omega) (by omega) pq_1506 pq_1507 (by decide) (show (parseMethodDescriptor yX12_init.desc).map (fun d => d.parameters.length) = some 0 from by decide +kernel)) (Nat.le_of_ble_eq_true rfl) rfl ?_
  obtain ⟨hg233, hf⟩ := pd_ig hf
  refine pd_astore_n (L' := [pd_R (-40), pd_R o222, pd_R o229, pd_N, pd_N, pd_N, pd_N, pd_N]) dL_law_15 rfl (by decide) hg233 rfl ?_
  refine pd_iconst dL_law_16 (by decide) ?_
  refine pd_newJ (N := 1) dL_law_17 pq_1161 (by decide) (by decide) ⟨by show _ ≤ 601024; omega, by show _ ≤ 7293034; omega⟩ ?_
  refine pd_topR (fun o236 eo236 => ?_)
  have hf := pd_lt hf eo236
  refine pd_topF (fun F235 eF235 => ?_)
  have hf := pd_lt hf eF235
  refine pd_topS (fun sh234 esh234 => ?_)
  have hf := pd_lt hf esh234
  clear esh234 eF235 eo236
  obtain ⟨hg237, hf⟩ := pd_ig hf
  refine pd_astore_n (L' := [pd_R (-40), pd_R o222, pd_R o229, pd_R o236, pd_N, pd_N, pd_N, pd_N]) dL_law_19 rfl (by decide) hg237 rfl ?_
  refine pd_iconst dL_law_20 (by decide) ?_
  refine pd_istore (L' := [pd_R (-40), pd_R o222, pd_R o229, pd_R o236, pd_I 0, pd_N, pd_N, pd_N]) dL_law_21 (by decide) rfl ?_
  refine pd_toF ?_
  exact pd_weak (L' := [pd_R (-40), pd_R o222, pd_R o229, pd_R o236, pd_I 0, pd_N, pd_N, pd_N]) ⟨Or.inr rfl, Or.inr rfl, Or.inr rfl, Or.inr rfl, Or.inr rfl, Or.inr rfl, Or.inr rfl, Or.inr rfl, trivial⟩ (pkL_law_b23 E l hlt hLs hxs n _ _ (by omega) (by omega) _ _ _ _ _ hf)
