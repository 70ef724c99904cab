theorem dL_begins_121 : decode cL_begins 121 = .ok (.iload 7, 2) := by decide +kernel
theorem dL_begins_123 : decode cL_begins 123 = .ok (.invokestatic 59, 3) := by decide +kernel
theorem dL_begins_126 : decode cL_begins 126 = .ok (.invokevirtual 38, 3) := by decide +kernel
theorem dL_begins_129 : decode cL_begins 129 = .ok (.ldc 55, 2) := by decide +kernel
theorem dL_begins_131 : decode cL_begins 131 = .ok (.invokevirtual 38, 3) := by decide +kernel
theorem dL_begins_134 : decode cL_begins 134 = .ok (.iconst 1, 1) := by decide +kernel
theorem dL_begins_135 : decode cL_begins 135 = .ok (.aload_n 1, 1) := by decide +kernel
theorem dL_begins_136 : decode cL_begins 136 = .ok (.bipush 10, 2) := by decide +kernel
theorem dL_begins_138 : decode cL_begins 138 = .ok (.iload 7, 2) := by decide +kernel
theorem dL_begins_140 : decode cL_begins 140 = .ok (.iadd, 1) := by decide +kernel
theorem dL_begins_141 : decode cL_begins 141 = .ok (.iconst 5, 1) := by decide +kernel
theorem dL_begins_142 : decode cL_begins 142 = .ok (.invokestatic 51, 3) := by decide +kernel
theorem dL_begins_145 : decode cL_begins 145 = .ok (.iadd, 1) := by decide +kernel
theorem dL_begins_146 : decode cL_begins 146 = .ok (.invokevirtual 63, 3) := by decide +kernel
theorem dL_begins_149 : decode cL_begins 149 = .ok (.aload_n 1, 1) := by decide +kernel
theorem dL_begins_150 : decode cL_begins 150 = .ok (.bipush 20, 2) := by decide +kernel
theorem dL_begins_152 : decode cL_begins 152 = .ok (.iload 7, 2) := by decide +kernel
theorem dL_begins_154 : decode cL_begins 154 = .ok (.iadd, 1) := by decide +kernel
theorem dL_begins_155 : decode cL_begins 155 = .ok (.iconst 3, 1) := by decide +kernel
theorem dL_begins_156 : decode cL_begins 156 = .ok (.invokestatic 51, 3) := by decide +kernel
theorem dL_begins_159 : decode cL_begins 159 = .ok (.ifCond .ne 8, 3) := by decide +kernel
theorem dL_begins_162 : decode cL_begins 162 = .ok (.ldc 78, 2) := by decide +kernel
theorem dL_begins_164 : decode cL_begins 164 = .ok (.goto 5, 3) := by decide +kernel
theorem dL_begins_167 : decode cL_begins 167 = .ok (.ldc 49, 2) := by decide +kernel
theorem dL_begins_169 : decode cL_begins 169 = .ok (.invokevirtual 38, 3) := by decide +kernel
theorem dL_begins_172 : decode cL_begins 172 = .ok (.aload_n 1, 1) := by decide +kernel
theorem dL_begins_173 : decode cL_begins 173 = .ok (.bipush 30, 2) := by decide +kernel
theorem dL_begins_175 : decode cL_begins 175 = .ok (.iload 7, 2) := by decide +kernel
theorem dL_begins_177 : decode cL_begins 177 = .ok (.iadd, 1) := by decide +kernel
theorem dL_begins_178 : decode cL_begins 178 = .ok (.iconst 4, 1) := by decide +kernel
theorem dL_begins_179 : decode cL_begins 179 = .ok (.invokestatic 51, 3) := by decide +kernel
theorem dL_begins_182 : decode cL_begins 182 = .ok (.ifCond .ne 8, 3) := by decide +kernel
theorem dL_begins_185 : decode cL_begins 185 = .ok (.ldc 80, 2) := by decide +kernel
theorem dL_begins_187 : decode cL_begins 187 = .ok (.goto 5, 3) := by decide +kernel
theorem dL_begins_190 : decode cL_begins 190 = .ok (.ldc 49, 2) := by decide +kernel
theorem dL_begins_192 : decode cL_begins 192 = .ok (.invokevirtual 38, 3) := by decide +kernel
theorem dL_begins_195 : decode cL_begins 195 = .ok (.ldc 74, 2) := by decide +kernel
theorem dL_begins_197 : decode cL_begins 197 = .ok (.invokevirtual 38, 3) := by decide +kernel
theorem dL_begins_200 : decode cL_begins 200 = .ok (.invokevirtual 45, 3) := by decide +kernel
theorem dL_begins_203 : decode cL_begins 203 = .ok (.astore 5, 2) := by decide +kernel
theorem dL_begins_205 : decode cL_begins 205 = .ok (.iinc 6 1, 3) := by decide +kernel
theorem dL_begins_208 : decode cL_begins 208 = .ok (.iinc 7 1, 3) := by decide +kernel
theorem dL_begins_211 : decode cL_begins 211 = .ok (.goto (-115), 3) := by decide +kernel
theorem dL_begins_214 : decode cL_begins 214 = .ok (.iconst 0, 1) := by decide +kernel
theorem dL_begins_215 : decode cL_begins 215 = .ok (.istore 7, 2) := by decide +kernel
theorem dL_begins_217 : decode cL_begins 217 = .ok (.iload 7, 2) := by decide +kernel
theorem dL_begins_219 : decode cL_begins 219 = .ok (.iload_n 3, 1) := by decide +kernel
theorem dL_begins_220 : decode cL_begins 220 = .ok (.if_icmp .ge 68, 3) := by decide +kernel
theorem dL_begins_223 : decode cL_begins 223 = .ok (.new 35, 3) := by decide +kernel
theorem dL_begins_226 : decode cL_begins 226 = .ok (.dup, 1) := by decide +kernel
theorem dL_begins_227 : decode cL_begins 227 = .ok (.invokespecial 37, 3) := by decide +kernel
theorem dL_begins_230 : decode cL_begins 230 = .ok (.aload 5, 2) := by decide +kernel
theorem dL_begins_232 : decode cL_begins 232 = .ok (.invokevirtual 38, 3) := by decide +kernel
theorem dL_begins_235 : decode cL_begins 235 = .ok (.ldc 82, 2) := by decide +kernel
theorem dL_begins_237 : decode cL_begins 237 = .ok (.invokevirtual 38, 3) := by decide +kernel
theorem dL_begins_240 : decode cL_begins 240 = .ok (.ldc 66, 2) := by decide +kernel
theorem dL_begins_242 : decode cL_begins 242 = .ok (.iload 7, 2) := by decide +kernel
theorem dL_begins_244 : decode cL_begins 244 = .ok (.invokestatic 59, 3) := by decide +kernel
theorem dL_begins_247 : decode cL_begins 247 = .ok (.invokevirtual 38, 3) := by decide +kernel
theorem dL_begins_250 : decode cL_begins 250 = .ok (.aload_n 1, 1) := by decide +kernel
theorem dL_begins_251 : decode cL_begins 251 = .ok (.bipush 40, 2) := by decide +kernel
theorem dL_begins_253 : decode cL_begins 253 = .ok (.bipush 10, 2) := by decide +kernel
theorem dL_begins_255 : decode cL_begins 255 = .ok (.iload 7, 2) := by decide +kernel
theorem dL_begins_257 : decode cL_begins 257 = .ok (.imul, 1) := by decide +kernel
theorem dL_begins_258 : decode cL_begins 258 = .ok (.iadd, 1) := by decide +kernel
theorem dL_begins_259 : decode cL_begins 259 = .ok (.iload_n 2, 1) := by decide +kernel
theorem dL_begins_260 : decode cL_begins 260 = .ok (.iload 7, 2) := by decide +kernel
theorem dL_begins_262 : decode cL_begins 262 = .ok (.iconst 0, 1) := by decide +kernel
theorem dL_begins_263 : decode cL_begins 263 = .ok (.invokestatic 84, 3) := by decide +kernel
theorem dL_begins_266 : decode cL_begins 266 = .ok (.invokevirtual 38, 3) := by decide +kernel
theorem dL_begins_269 : decode cL_begins 269 = .ok (.ldc 74, 2) := by decide +kernel
theorem dL_begins_271 : decode cL_begins 271 = .ok (.invokevirtual 38, 3) := by decide +kernel
theorem dL_begins_274 : decode cL_begins 274 = .ok (.invokevirtual 45, 3) := by decide +kernel
theorem dL_begins_277 : decode cL_begins 277 = .ok (.astore 5, 2) := by decide +kernel
theorem dL_begins_279 : decode cL_begins 279 = .ok (.iinc 6 1, 3) := by decide +kernel
theorem dL_begins_282 : decode cL_begins 282 = .ok (.iinc 7 1, 3) := by decide +kernel
theorem dL_begins_285 : decode cL_begins 285 = .ok (.goto (-68), 3) := by decide +kernel
theorem dL_begins_288 : decode cL_begins 288 = .ok (.iconst 0, 1) := by decide +kernel
theorem dL_begins_289 : decode cL_begins 289 = .ok (.istore 7, 2) := by decide +kernel
theorem dL_begins_291 : decode cL_begins 291 = .ok (.iload 7, 2) := by decide +kernel
theorem dL_begins_293 : decode cL_begins 293 = .ok (.iload 4, 2) := by decide +kernel
theorem dL_begins_295 : decode cL_begins 295 = .ok (.if_icmp .ge 87, 3) := by decide +kernel
theorem dL_begins_298 : decode cL_begins 298 = .ok (.new 35, 3) := by decide +kernel
theorem dL_begins_301 : decode cL_begins 301 = .ok (.dup, 1) := by decide +kernel
theorem dL_begins_302 : decode cL_begins 302 = .ok (.invokespecial 37, 3) := by decide +kernel
theorem dL_begins_305 : decode cL_begins 305 = .ok (.aload 5, 2) := by decide +kernel
theorem dL_begins_307 : decode cL_begins 307 = .ok (.invokevirtual 38, 3) := by decide +kernel
theorem dL_begins_310 : decode cL_begins 310 = .ok (.ldc 88, 2) := by decide +kernel
theorem dL_begins_312 : decode cL_begins 312 = .ok (.invokevirtual 38, 3) := by decide +kernel
theorem dL_begins_315 : decode cL_begins 315 = .ok (.ldc 90, 2) := by decide +kernel
theorem dL_begins_317 : decode cL_begins 317 = .ok (.iload 7, 2) := by decide +kernel
theorem dL_begins_319 : decode cL_begins 319 = .ok (.invokestatic 59, 3) := by decide +kernel
theorem dL_begins_322 : decode cL_begins 322 = .ok (.invokevirtual 38, 3) := by decide +kernel
theorem dL_begins_325 : decode cL_begins 325 = .ok (.ldc 92, 2) := by decide +kernel
theorem dL_begins_327 : decode cL_begins 327 = .ok (.invokevirtual 38, 3) := by decide +kernel
theorem dL_begins_330 : decode cL_begins 330 = .ok (.aload_n 1, 1) := by decide +kernel
theorem dL_begins_331 : decode cL_begins 331 = .ok (.bipush 80, 2) := by decide +kernel
theorem dL_begins_333 : decode cL_begins 333 = .ok (.iload 7, 2) := by decide +kernel
theorem dL_begins_335 : decode cL_begins 335 = .ok (.iadd, 1) := by decide +kernel
theorem dL_begins_336 : decode cL_begins 336 = .ok (.sipush 9000, 3) := by decide +kernel
theorem dL_begins_339 : decode cL_begins 339 = .ok (.invokestatic 51, 3) := by decide +kernel
theorem dL_begins_342 : decode cL_begins 342 = .ok (.invokevirtual 63, 3) := by decide +kernel
theorem dL_begins_345 : decode cL_begins 345 = .ok (.aload_n 1, 1) := by decide +kernel
theorem dL_begins_346 : decode cL_begins 346 = .ok (.bipush 90, 2) := by decide +kernel
theorem dL_begins_348 : decode cL_begins 348 = .ok (.bipush 10, 2) := by decide +kernel
theorem dL_begins_350 : decode cL_begins 350 = .ok (.iload 7, 2) := by decide +kernel
theorem dL_begins_352 : decode cL_begins 352 = .ok (.imul, 1) := by decide +kernel
theorem dL_begins_353 : decode cL_begins 353 = .ok (.iadd, 1) := by decide +kernel
theorem dL_begins_354 : decode cL_begins 354 = .ok (.iload_n 2, 1) := by decide +kernel
theorem dL_begins_355 : decode cL_begins 355 = .ok (.iload_n 3, 1) := by decide +kernel
theorem dL_begins_356 : decode cL_begins 356 = .ok (.iconst 1, 1) := by decide +kernel
theorem dL_begins_357 : decode cL_begins 357 = .ok (.invokestatic 84, 3) := by decide +kernel
theorem dL_begins_360 : decode cL_begins 360 = .ok (.invokevirtual 38, 3) := by decide +kernel
theorem dL_begins_363 : decode cL_begins 363 = .ok (.ldc 74, 2) := by decide +kernel
theorem dL_begins_365 : decode cL_begins 365 = .ok (.invokevirtual 38, 3) := by decide +kernel
theorem dL_begins_368 : decode cL_begins 368 = .ok (.invokevirtual 45, 3) := by decide +kernel
theorem dL_begins_371 : decode cL_begins 371 = .ok (.astore 5, 2) := by decide +kernel
theorem dL_begins_373 : decode cL_begins 373 = .ok (.iinc 6 1, 3) := by decide +kernel
theorem dL_begins_376 : decode cL_begins 376 = .ok (.iinc 7 1, 3) := by decide +kernel
theorem dL_begins_379 : decode cL_begins 379 = .ok (.goto (-88), 3) := by decide +kernel
theorem dL_begins_382 : decode cL_begins 382 = .ok (.iconst 0, 1) := by decide +kernel
theorem dL_begins_383 : decode cL_begins 383 = .ok (.istore 7, 2) := by decide +kernel
theorem dL_begins_385 : decode cL_begins 385 = .ok (.iload 7, 2) := by decide +kernel
theorem dL_begins_387 : decode cL_begins 387 = .ok (.iconst 2, 1) := by decide +kernel
theorem dL_begins_388 : decode cL_begins 388 = .ok (.if_icmp .ge 192, 3) := by decide +kernel
theorem dL_begins_391 : decode cL_begins 391 = .ok (.aload_n 1, 1) := by decide +kernel
theorem dL_begins_392 : decode cL_begins 392 = .ok (.sipush 150, 3) := by decide +kernel
theorem dL_begins_395 : decode cL_begins 395 = .ok (.iload 7, 2) := by decide +kernel
theorem dL_begins_397 : decode cL_begins 397 = .ok (.iadd, 1) := by decide +kernel
theorem dL_begins_398 : decode cL_begins 398 = .ok (.bipush 40, 2) := by decide +kernel
