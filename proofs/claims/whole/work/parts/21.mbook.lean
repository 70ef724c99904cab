theorem dX12_copies_0 : decode cX12_copies 0 = .ok (.aload_n 0, 1) := by decide +kernel
theorem dX12_copies_1 : decode cX12_copies 1 = .ok (.getfield 13, 3) := by decide +kernel
theorem dX12_copies_4 : decode cX12_copies 4 = .ok (.iconst 0, 1) := by decide +kernel
theorem dX12_copies_5 : decode cX12_copies 5 = .ok (.aload_n 0, 1) := by decide +kernel
theorem dX12_copies_6 : decode cX12_copies 6 = .ok (.getfield 13, 3) := by decide +kernel
theorem dX12_copies_9 : decode cX12_copies 9 = .ok (.iconst 1, 1) := by decide +kernel
theorem dX12_copies_10 : decode cX12_copies 10 = .ok (.iaload, 1) := by decide +kernel
theorem dX12_copies_11 : decode cX12_copies 11 = .ok (.iastore, 1) := by decide +kernel
theorem dX12_copies_12 : decode cX12_copies 12 = .ok (.aload_n 0, 1) := by decide +kernel
theorem dX12_copies_13 : decode cX12_copies 13 = .ok (.getfield 17, 3) := by decide +kernel
theorem dX12_copies_16 : decode cX12_copies 16 = .ok (.iconst 0, 1) := by decide +kernel
theorem dX12_copies_17 : decode cX12_copies 17 = .ok (.aload_n 0, 1) := by decide +kernel
theorem dX12_copies_18 : decode cX12_copies 18 = .ok (.getfield 17, 3) := by decide +kernel
theorem dX12_copies_21 : decode cX12_copies 21 = .ok (.iconst 1, 1) := by decide +kernel
theorem dX12_copies_22 : decode cX12_copies 22 = .ok (.iaload, 1) := by decide +kernel
theorem dX12_copies_23 : decode cX12_copies 23 = .ok (.iastore, 1) := by decide +kernel
theorem dX12_copies_24 : decode cX12_copies 24 = .ok (.aload_n 0, 1) := by decide +kernel
theorem dX12_copies_25 : decode cX12_copies 25 = .ok (.getfield 20, 3) := by decide +kernel
theorem dX12_copies_28 : decode cX12_copies 28 = .ok (.iconst 0, 1) := by decide +kernel
theorem dX12_copies_29 : decode cX12_copies 29 = .ok (.aload_n 0, 1) := by decide +kernel
theorem dX12_copies_30 : decode cX12_copies 30 = .ok (.getfield 20, 3) := by decide +kernel
theorem dX12_copies_33 : decode cX12_copies 33 = .ok (.iconst 1, 1) := by decide +kernel
theorem dX12_copies_34 : decode cX12_copies 34 = .ok (.iaload, 1) := by decide +kernel
theorem dX12_copies_35 : decode cX12_copies 35 = .ok (.iastore, 1) := by decide +kernel
theorem dX12_copies_36 : decode cX12_copies 36 = .ok (.aload_n 0, 1) := by decide +kernel
theorem dX12_copies_37 : decode cX12_copies 37 = .ok (.getfield 23, 3) := by decide +kernel
theorem dX12_copies_40 : decode cX12_copies 40 = .ok (.iconst 0, 1) := by decide +kernel
theorem dX12_copies_41 : decode cX12_copies 41 = .ok (.aload_n 0, 1) := by decide +kernel
theorem dX12_copies_42 : decode cX12_copies 42 = .ok (.getfield 23, 3) := by decide +kernel
theorem dX12_copies_45 : decode cX12_copies 45 = .ok (.iconst 1, 1) := by decide +kernel
theorem dX12_copies_46 : decode cX12_copies 46 = .ok (.iaload, 1) := by decide +kernel
theorem dX12_copies_47 : decode cX12_copies 47 = .ok (.iastore, 1) := by decide +kernel
theorem dX12_copies_48 : decode cX12_copies 48 = .ok (.aload_n 0, 1) := by decide +kernel
theorem dX12_copies_49 : decode cX12_copies 49 = .ok (.getfield 26, 3) := by decide +kernel
theorem dX12_copies_52 : decode cX12_copies 52 = .ok (.iconst 0, 1) := by decide +kernel
theorem dX12_copies_53 : decode cX12_copies 53 = .ok (.aload_n 0, 1) := by decide +kernel
theorem dX12_copies_54 : decode cX12_copies 54 = .ok (.getfield 26, 3) := by decide +kernel
theorem dX12_copies_57 : decode cX12_copies 57 = .ok (.iconst 1, 1) := by decide +kernel
theorem dX12_copies_58 : decode cX12_copies 58 = .ok (.iaload, 1) := by decide +kernel
theorem dX12_copies_59 : decode cX12_copies 59 = .ok (.iastore, 1) := by decide +kernel
theorem dX12_copies_60 : decode cX12_copies 60 = .ok (.iconst 0, 1) := by decide +kernel
theorem dX12_copies_61 : decode cX12_copies 61 = .ok (.istore_n 1, 1) := by decide +kernel
theorem dX12_copies_62 : decode cX12_copies 62 = .ok (.iload_n 1, 1) := by decide +kernel
theorem dX12_copies_63 : decode cX12_copies 63 = .ok (.bipush 12, 2) := by decide +kernel
theorem dX12_copies_65 : decode cX12_copies 65 = .ok (.if_icmp .ge 54, 3) := by decide +kernel
theorem dX12_copies_68 : decode cX12_copies 68 = .ok (.aload_n 0, 1) := by decide +kernel
theorem dX12_copies_69 : decode cX12_copies 69 = .ok (.getfield 29, 3) := by decide +kernel
theorem dX12_copies_72 : decode cX12_copies 72 = .ok (.iload_n 1, 1) := by decide +kernel
theorem dX12_copies_73 : decode cX12_copies 73 = .ok (.aload_n 0, 1) := by decide +kernel
theorem dX12_copies_74 : decode cX12_copies 74 = .ok (.getfield 29, 3) := by decide +kernel
theorem dX12_copies_77 : decode cX12_copies 77 = .ok (.bipush 12, 2) := by decide +kernel
theorem dX12_copies_79 : decode cX12_copies 79 = .ok (.iload_n 1, 1) := by decide +kernel
theorem dX12_copies_80 : decode cX12_copies 80 = .ok (.iadd, 1) := by decide +kernel
theorem dX12_copies_81 : decode cX12_copies 81 = .ok (.laload, 1) := by decide +kernel
theorem dX12_copies_82 : decode cX12_copies 82 = .ok (.lastore, 1) := by decide +kernel
theorem dX12_copies_83 : decode cX12_copies 83 = .ok (.aload_n 0, 1) := by decide +kernel
theorem dX12_copies_84 : decode cX12_copies 84 = .ok (.getfield 33, 3) := by decide +kernel
theorem dX12_copies_87 : decode cX12_copies 87 = .ok (.iload_n 1, 1) := by decide +kernel
theorem dX12_copies_88 : decode cX12_copies 88 = .ok (.aload_n 0, 1) := by decide +kernel
theorem dX12_copies_89 : decode cX12_copies 89 = .ok (.getfield 33, 3) := by decide +kernel
theorem dX12_copies_92 : decode cX12_copies 92 = .ok (.bipush 12, 2) := by decide +kernel
theorem dX12_copies_94 : decode cX12_copies 94 = .ok (.iload_n 1, 1) := by decide +kernel
theorem dX12_copies_95 : decode cX12_copies 95 = .ok (.iadd, 1) := by decide +kernel
theorem dX12_copies_96 : decode cX12_copies 96 = .ok (.iaload, 1) := by decide +kernel
theorem dX12_copies_97 : decode cX12_copies 97 = .ok (.iastore, 1) := by decide +kernel
theorem dX12_copies_98 : decode cX12_copies 98 = .ok (.aload_n 0, 1) := by decide +kernel
theorem dX12_copies_99 : decode cX12_copies 99 = .ok (.getfield 39, 3) := by decide +kernel
theorem dX12_copies_102 : decode cX12_copies 102 = .ok (.iload_n 1, 1) := by decide +kernel
theorem dX12_copies_103 : decode cX12_copies 103 = .ok (.aload_n 0, 1) := by decide +kernel
theorem dX12_copies_104 : decode cX12_copies 104 = .ok (.getfield 39, 3) := by decide +kernel
theorem dX12_copies_107 : decode cX12_copies 107 = .ok (.bipush 12, 2) := by decide +kernel
theorem dX12_copies_109 : decode cX12_copies 109 = .ok (.iload_n 1, 1) := by decide +kernel
theorem dX12_copies_110 : decode cX12_copies 110 = .ok (.iadd, 1) := by decide +kernel
theorem dX12_copies_111 : decode cX12_copies 111 = .ok (.baload, 1) := by decide +kernel
theorem dX12_copies_112 : decode cX12_copies 112 = .ok (.bastore, 1) := by decide +kernel
theorem dX12_copies_113 : decode cX12_copies 113 = .ok (.iinc 1 1, 3) := by decide +kernel
theorem dX12_copies_116 : decode cX12_copies 116 = .ok (.goto (-54), 3) := by decide +kernel
theorem dX12_copies_119 : decode cX12_copies 119 = .ok (.iconst 0, 1) := by decide +kernel
theorem dX12_copies_120 : decode cX12_copies 120 = .ok (.istore_n 1, 1) := by decide +kernel
theorem dX12_copies_121 : decode cX12_copies 121 = .ok (.iload_n 1, 1) := by decide +kernel
theorem dX12_copies_122 : decode cX12_copies 122 = .ok (.bipush 36, 2) := by decide +kernel
theorem dX12_copies_124 : decode cX12_copies 124 = .ok (.if_icmp .ge 24, 3) := by decide +kernel
theorem dX12_copies_127 : decode cX12_copies 127 = .ok (.aload_n 0, 1) := by decide +kernel
theorem dX12_copies_128 : decode cX12_copies 128 = .ok (.getfield 36, 3) := by decide +kernel
theorem dX12_copies_131 : decode cX12_copies 131 = .ok (.iload_n 1, 1) := by decide +kernel
theorem dX12_copies_132 : decode cX12_copies 132 = .ok (.aload_n 0, 1) := by decide +kernel
theorem dX12_copies_133 : decode cX12_copies 133 = .ok (.getfield 36, 3) := by decide +kernel
theorem dX12_copies_136 : decode cX12_copies 136 = .ok (.bipush 36, 2) := by decide +kernel
theorem dX12_copies_138 : decode cX12_copies 138 = .ok (.iload_n 1, 1) := by decide +kernel
theorem dX12_copies_139 : decode cX12_copies 139 = .ok (.iadd, 1) := by decide +kernel
theorem dX12_copies_140 : decode cX12_copies 140 = .ok (.iaload, 1) := by decide +kernel
theorem dX12_copies_141 : decode cX12_copies 141 = .ok (.iastore, 1) := by decide +kernel
theorem dX12_copies_142 : decode cX12_copies 142 = .ok (.iinc 1 1, 3) := by decide +kernel
theorem dX12_copies_145 : decode cX12_copies 145 = .ok (.goto (-24), 3) := by decide +kernel
theorem dX12_copies_148 : decode cX12_copies 148 = .ok (.iconst 0, 1) := by decide +kernel
theorem dX12_copies_149 : decode cX12_copies 149 = .ok (.istore_n 1, 1) := by decide +kernel
theorem dX12_copies_150 : decode cX12_copies 150 = .ok (.iload_n 1, 1) := by decide +kernel
theorem dX12_copies_151 : decode cX12_copies 151 = .ok (.bipush 15, 2) := by decide +kernel
theorem dX12_copies_153 : decode cX12_copies 153 = .ok (.if_icmp .ge 24, 3) := by decide +kernel
theorem dX12_copies_156 : decode cX12_copies 156 = .ok (.aload_n 0, 1) := by decide +kernel
theorem dX12_copies_157 : decode cX12_copies 157 = .ok (.getfield 52, 3) := by decide +kernel
theorem dX12_copies_160 : decode cX12_copies 160 = .ok (.iload_n 1, 1) := by decide +kernel
theorem dX12_copies_161 : decode cX12_copies 161 = .ok (.aload_n 0, 1) := by decide +kernel
theorem dX12_copies_162 : decode cX12_copies 162 = .ok (.getfield 52, 3) := by decide +kernel
theorem dX12_copies_165 : decode cX12_copies 165 = .ok (.bipush 15, 2) := by decide +kernel
theorem dX12_copies_167 : decode cX12_copies 167 = .ok (.iload_n 1, 1) := by decide +kernel
theorem dX12_copies_168 : decode cX12_copies 168 = .ok (.iadd, 1) := by decide +kernel
theorem dX12_copies_169 : decode cX12_copies 169 = .ok (.iaload, 1) := by decide +kernel
theorem dX12_copies_170 : decode cX12_copies 170 = .ok (.iastore, 1) := by decide +kernel
theorem dX12_copies_171 : decode cX12_copies 171 = .ok (.iinc 1 1, 3) := by decide +kernel
theorem dX12_copies_174 : decode cX12_copies 174 = .ok (.goto (-24), 3) := by decide +kernel
theorem dX12_copies_177 : decode cX12_copies 177 = .ok (.iconst 0, 1) := by decide +kernel
theorem dX12_copies_178 : decode cX12_copies 178 = .ok (.istore_n 1, 1) := by decide +kernel
theorem dX12_copies_179 : decode cX12_copies 179 = .ok (.iload_n 1, 1) := by decide +kernel
theorem dX12_copies_180 : decode cX12_copies 180 = .ok (.bipush 75, 2) := by decide +kernel
theorem dX12_copies_182 : decode cX12_copies 182 = .ok (.if_icmp .ge 39, 3) := by decide +kernel
theorem dX12_copies_185 : decode cX12_copies 185 = .ok (.aload_n 0, 1) := by decide +kernel
theorem dX12_copies_186 : decode cX12_copies 186 = .ok (.getfield 55, 3) := by decide +kernel
theorem dX12_copies_189 : decode cX12_copies 189 = .ok (.iload_n 1, 1) := by decide +kernel
theorem dX12_copies_190 : decode cX12_copies 190 = .ok (.aload_n 0, 1) := by decide +kernel
theorem dX12_copies_191 : decode cX12_copies 191 = .ok (.getfield 55, 3) := by decide +kernel
theorem dX12_copies_194 : decode cX12_copies 194 = .ok (.bipush 75, 2) := by decide +kernel
theorem dX12_copies_196 : decode cX12_copies 196 = .ok (.iload_n 1, 1) := by decide +kernel
theorem dX12_copies_197 : decode cX12_copies 197 = .ok (.iadd, 1) := by decide +kernel
theorem dX12_copies_198 : decode cX12_copies 198 = .ok (.iaload, 1) := by decide +kernel
theorem dX12_copies_199 : decode cX12_copies 199 = .ok (.iastore, 1) := by decide +kernel
theorem dX12_copies_200 : decode cX12_copies 200 = .ok (.aload_n 0, 1) := by decide +kernel
theorem dX12_copies_201 : decode cX12_copies 201 = .ok (.getfield 58, 3) := by decide +kernel
theorem dX12_copies_204 : decode cX12_copies 204 = .ok (.iload_n 1, 1) := by decide +kernel
theorem dX12_copies_205 : decode cX12_copies 205 = .ok (.aload_n 0, 1) := by decide +kernel
theorem dX12_copies_206 : decode cX12_copies 206 = .ok (.getfield 58, 3) := by decide +kernel
theorem dX12_copies_209 : decode cX12_copies 209 = .ok (.bipush 75, 2) := by decide +kernel
theorem dX12_copies_211 : decode cX12_copies 211 = .ok (.iload_n 1, 1) := by decide +kernel
theorem dX12_copies_212 : decode cX12_copies 212 = .ok (.iadd, 1) := by decide +kernel
theorem dX12_copies_213 : decode cX12_copies 213 = .ok (.iaload, 1) := by decide +kernel
theorem dX12_copies_214 : decode cX12_copies 214 = .ok (.iastore, 1) := by decide +kernel
theorem dX12_copies_215 : decode cX12_copies 215 = .ok (.iinc 1 1, 3) := by decide +kernel
theorem dX12_copies_218 : decode cX12_copies 218 = .ok (.goto (-39), 3) := by decide +kernel
theorem dX12_copies_221 : decode cX12_copies 221 = .ok (.iconst 0, 1) := by decide +kernel
theorem dX12_copies_222 : decode cX12_copies 222 = .ok (.istore_n 1, 1) := by decide +kernel
theorem dX12_copies_223 : decode cX12_copies 223 = .ok (.iload_n 1, 1) := by decide +kernel
theorem dX12_copies_224 : decode cX12_copies 224 = .ok (.bipush 6, 2) := by decide +kernel
theorem dX12_copies_226 : decode cX12_copies 226 = .ok (.if_icmp .ge 69, 3) := by decide +kernel
theorem dX12_copies_229 : decode cX12_copies 229 = .ok (.aload_n 0, 1) := by decide +kernel
theorem dX12_copies_230 : decode cX12_copies 230 = .ok (.getfield 61, 3) := by decide +kernel
theorem dX12_copies_233 : decode cX12_copies 233 = .ok (.iload_n 1, 1) := by decide +kernel
theorem dX12_copies_234 : decode cX12_copies 234 = .ok (.aload_n 0, 1) := by decide +kernel
theorem dX12_copies_235 : decode cX12_copies 235 = .ok (.getfield 61, 3) := by decide +kernel
theorem dX12_copies_238 : decode cX12_copies 238 = .ok (.bipush 6, 2) := by decide +kernel
theorem dX12_copies_240 : decode cX12_copies 240 = .ok (.iload_n 1, 1) := by decide +kernel
theorem dX12_copies_241 : decode cX12_copies 241 = .ok (.iadd, 1) := by decide +kernel
theorem dX12_copies_242 : decode cX12_copies 242 = .ok (.iaload, 1) := by decide +kernel
theorem dX12_copies_243 : decode cX12_copies 243 = .ok (.iastore, 1) := by decide +kernel
theorem dX12_copies_244 : decode cX12_copies 244 = .ok (.aload_n 0, 1) := by decide +kernel
theorem dX12_copies_245 : decode cX12_copies 245 = .ok (.getfield 64, 3) := by decide +kernel
theorem dX12_copies_248 : decode cX12_copies 248 = .ok (.iload_n 1, 1) := by decide +kernel
theorem dX12_copies_249 : decode cX12_copies 249 = .ok (.aload_n 0, 1) := by decide +kernel
theorem dX12_copies_250 : decode cX12_copies 250 = .ok (.getfield 64, 3) := by decide +kernel
theorem dX12_copies_253 : decode cX12_copies 253 = .ok (.bipush 6, 2) := by decide +kernel
theorem dX12_copies_255 : decode cX12_copies 255 = .ok (.iload_n 1, 1) := by decide +kernel
theorem dX12_copies_256 : decode cX12_copies 256 = .ok (.iadd, 1) := by decide +kernel
theorem dX12_copies_257 : decode cX12_copies 257 = .ok (.iaload, 1) := by decide +kernel
theorem dX12_copies_258 : decode cX12_copies 258 = .ok (.iastore, 1) := by decide +kernel
theorem dX12_copies_259 : decode cX12_copies 259 = .ok (.aload_n 0, 1) := by decide +kernel
theorem dX12_copies_260 : decode cX12_copies 260 = .ok (.getfield 67, 3) := by decide +kernel
theorem dX12_copies_263 : decode cX12_copies 263 = .ok (.iload_n 1, 1) := by decide +kernel
theorem dX12_copies_264 : decode cX12_copies 264 = .ok (.aload_n 0, 1) := by decide +kernel
theorem dX12_copies_265 : decode cX12_copies 265 = .ok (.getfield 67, 3) := by decide +kernel
theorem dX12_copies_268 : decode cX12_copies 268 = .ok (.bipush 6, 2) := by decide +kernel
theorem dX12_copies_270 : decode cX12_copies 270 = .ok (.iload_n 1, 1) := by decide +kernel
theorem dX12_copies_271 : decode cX12_copies 271 = .ok (.iadd, 1) := by decide +kernel
theorem dX12_copies_272 : decode cX12_copies 272 = .ok (.iaload, 1) := by decide +kernel
theorem dX12_copies_273 : decode cX12_copies 273 = .ok (.iastore, 1) := by decide +kernel
theorem dX12_copies_274 : decode cX12_copies 274 = .ok (.aload_n 0, 1) := by decide +kernel
theorem dX12_copies_275 : decode cX12_copies 275 = .ok (.getfield 70, 3) := by decide +kernel
theorem dX12_copies_278 : decode cX12_copies 278 = .ok (.iload_n 1, 1) := by decide +kernel
theorem dX12_copies_279 : decode cX12_copies 279 = .ok (.aload_n 0, 1) := by decide +kernel
theorem dX12_copies_280 : decode cX12_copies 280 = .ok (.getfield 70, 3) := by decide +kernel
theorem dX12_copies_283 : decode cX12_copies 283 = .ok (.bipush 6, 2) := by decide +kernel
theorem dX12_copies_285 : decode cX12_copies 285 = .ok (.iload_n 1, 1) := by decide +kernel
theorem dX12_copies_286 : decode cX12_copies 286 = .ok (.iadd, 1) := by decide +kernel
theorem dX12_copies_287 : decode cX12_copies 287 = .ok (.iaload, 1) := by decide +kernel
theorem dX12_copies_288 : decode cX12_copies 288 = .ok (.iastore, 1) := by decide +kernel
theorem dX12_copies_289 : decode cX12_copies 289 = .ok (.iinc 1 1, 3) := by decide +kernel
theorem dX12_copies_292 : decode cX12_copies 292 = .ok (.goto (-69), 3) := by decide +kernel
theorem dX12_copies_295 : decode cX12_copies 295 = .ok (.iconst 0, 1) := by decide +kernel
theorem dX12_copies_296 : decode cX12_copies 296 = .ok (.istore_n 1, 1) := by decide +kernel
theorem dX12_copies_297 : decode cX12_copies 297 = .ok (.iload_n 1, 1) := by decide +kernel
theorem dX12_copies_298 : decode cX12_copies 298 = .ok (.bipush 8, 2) := by decide +kernel
theorem dX12_copies_300 : decode cX12_copies 300 = .ok (.if_icmp .ge 54, 3) := by decide +kernel
theorem dX12_copies_303 : decode cX12_copies 303 = .ok (.aload_n 0, 1) := by decide +kernel
theorem dX12_copies_304 : decode cX12_copies 304 = .ok (.getfield 73, 3) := by decide +kernel
theorem dX12_copies_307 : decode cX12_copies 307 = .ok (.iload_n 1, 1) := by decide +kernel
theorem dX12_copies_308 : decode cX12_copies 308 = .ok (.aload_n 0, 1) := by decide +kernel
theorem dX12_copies_309 : decode cX12_copies 309 = .ok (.getfield 73, 3) := by decide +kernel
theorem dX12_copies_312 : decode cX12_copies 312 = .ok (.bipush 8, 2) := by decide +kernel
theorem dX12_copies_314 : decode cX12_copies 314 = .ok (.iload_n 1, 1) := by decide +kernel
theorem dX12_copies_315 : decode cX12_copies 315 = .ok (.iadd, 1) := by decide +kernel
theorem dX12_copies_316 : decode cX12_copies 316 = .ok (.iaload, 1) := by decide +kernel
theorem dX12_copies_317 : decode cX12_copies 317 = .ok (.iastore, 1) := by decide +kernel
theorem dX12_copies_318 : decode cX12_copies 318 = .ok (.aload_n 0, 1) := by decide +kernel
theorem dX12_copies_319 : decode cX12_copies 319 = .ok (.getfield 76, 3) := by decide +kernel
theorem dX12_copies_322 : decode cX12_copies 322 = .ok (.iload_n 1, 1) := by decide +kernel
theorem dX12_copies_323 : decode cX12_copies 323 = .ok (.aload_n 0, 1) := by decide +kernel
theorem dX12_copies_324 : decode cX12_copies 324 = .ok (.getfield 76, 3) := by decide +kernel
theorem dX12_copies_327 : decode cX12_copies 327 = .ok (.bipush 8, 2) := by decide +kernel
theorem dX12_copies_329 : decode cX12_copies 329 = .ok (.iload_n 1, 1) := by decide +kernel
theorem dX12_copies_330 : decode cX12_copies 330 = .ok (.iadd, 1) := by decide +kernel
theorem dX12_copies_331 : decode cX12_copies 331 = .ok (.iaload, 1) := by decide +kernel
theorem dX12_copies_332 : decode cX12_copies 332 = .ok (.iastore, 1) := by decide +kernel
theorem dX12_copies_333 : decode cX12_copies 333 = .ok (.aload_n 0, 1) := by decide +kernel
theorem dX12_copies_334 : decode cX12_copies 334 = .ok (.getfield 79, 3) := by decide +kernel
theorem dX12_copies_337 : decode cX12_copies 337 = .ok (.iload_n 1, 1) := by decide +kernel
theorem dX12_copies_338 : decode cX12_copies 338 = .ok (.aload_n 0, 1) := by decide +kernel
theorem dX12_copies_339 : decode cX12_copies 339 = .ok (.getfield 79, 3) := by decide +kernel
theorem dX12_copies_342 : decode cX12_copies 342 = .ok (.bipush 8, 2) := by decide +kernel
theorem dX12_copies_344 : decode cX12_copies 344 = .ok (.iload_n 1, 1) := by decide +kernel
theorem dX12_copies_345 : decode cX12_copies 345 = .ok (.iadd, 1) := by decide +kernel
theorem dX12_copies_346 : decode cX12_copies 346 = .ok (.iaload, 1) := by decide +kernel
theorem dX12_copies_347 : decode cX12_copies 347 = .ok (.iastore, 1) := by decide +kernel
theorem dX12_copies_348 : decode cX12_copies 348 = .ok (.iinc 1 1, 3) := by decide +kernel
theorem dX12_copies_351 : decode cX12_copies 351 = .ok (.goto (-54), 3) := by decide +kernel
theorem dX12_copies_354 : decode cX12_copies 354 = .ok (.iconst 0, 1) := by decide +kernel
theorem dX12_copies_355 : decode cX12_copies 355 = .ok (.istore_n 1, 1) := by decide +kernel
theorem dX12_copies_356 : decode cX12_copies 356 = .ok (.iload_n 1, 1) := by decide +kernel
theorem dX12_copies_357 : decode cX12_copies 357 = .ok (.bipush 111, 2) := by decide +kernel
theorem dX12_copies_359 : decode cX12_copies 359 = .ok (.if_icmp .ge 16, 3) := by decide +kernel
theorem dX12_copies_362 : decode cX12_copies 362 = .ok (.aload_n 0, 1) := by decide +kernel
theorem dX12_copies_363 : decode cX12_copies 363 = .ok (.getfield 88, 3) := by decide +kernel
theorem dX12_copies_366 : decode cX12_copies 366 = .ok (.iload_n 1, 1) := by decide +kernel
theorem dX12_copies_367 : decode cX12_copies 367 = .ok (.iconst 0, 1) := by decide +kernel
theorem dX12_copies_368 : decode cX12_copies 368 = .ok (.iastore, 1) := by decide +kernel
theorem dX12_copies_369 : decode cX12_copies 369 = .ok (.iinc 1 1, 3) := by decide +kernel
theorem dX12_copies_372 : decode cX12_copies 372 = .ok (.goto (-16), 3) := by decide +kernel
theorem dX12_copies_375 : decode cX12_copies 375 = .ok (.iconst 0, 1) := by decide +kernel
theorem dX12_copies_376 : decode cX12_copies 376 = .ok (.istore_n 1, 1) := by decide +kernel
theorem dX12_copies_377 : decode cX12_copies 377 = .ok (.iload_n 1, 1) := by decide +kernel
theorem dX12_copies_378 : decode cX12_copies 378 = .ok (.aload_n 0, 1) := by decide +kernel
theorem dX12_copies_379 : decode cX12_copies 379 = .ok (.getfield 20, 3) := by decide +kernel
theorem dX12_copies_382 : decode cX12_copies 382 = .ok (.iconst 0, 1) := by decide +kernel
theorem dX12_copies_383 : decode cX12_copies 383 = .ok (.iaload, 1) := by decide +kernel
theorem dX12_copies_384 : decode cX12_copies 384 = .ok (.if_icmp .ge 24, 3) := by decide +kernel
theorem dX12_copies_387 : decode cX12_copies 387 = .ok (.aload_n 0, 1) := by decide +kernel
theorem dX12_copies_388 : decode cX12_copies 388 = .ok (.getfield 88, 3) := by decide +kernel
theorem dX12_copies_391 : decode cX12_copies 391 = .ok (.iload_n 1, 1) := by decide +kernel
theorem dX12_copies_392 : decode cX12_copies 392 = .ok (.aload_n 0, 1) := by decide +kernel
theorem dX12_copies_393 : decode cX12_copies 393 = .ok (.getfield 49, 3) := by decide +kernel
theorem dX12_copies_396 : decode cX12_copies 396 = .ok (.bipush 10, 2) := by decide +kernel
theorem dX12_copies_398 : decode cX12_copies 398 = .ok (.iload_n 1, 1) := by decide +kernel
theorem dX12_copies_399 : decode cX12_copies 399 = .ok (.iadd, 1) := by decide +kernel
theorem dX12_copies_400 : decode cX12_copies 400 = .ok (.iaload, 1) := by decide +kernel
theorem dX12_copies_401 : decode cX12_copies 401 = .ok (.iastore, 1) := by decide +kernel
theorem dX12_copies_402 : decode cX12_copies 402 = .ok (.iinc 1 1, 3) := by decide +kernel
theorem dX12_copies_405 : decode cX12_copies 405 = .ok (.goto (-28), 3) := by decide +kernel
theorem dX12_copies_408 : decode cX12_copies 408 = .ok (.aload_n 0, 1) := by decide +kernel
theorem dX12_copies_409 : decode cX12_copies 409 = .ok (.getfield 88, 3) := by decide +kernel
theorem dX12_copies_412 : decode cX12_copies 412 = .ok (.bipush 71, 2) := by decide +kernel
theorem dX12_copies_414 : decode cX12_copies 414 = .ok (.aload_n 0, 1) := by decide +kernel
theorem dX12_copies_415 : decode cX12_copies 415 = .ok (.getfield 85, 3) := by decide +kernel
theorem dX12_copies_418 : decode cX12_copies 418 = .ok (.iconst 0, 1) := by decide +kernel
theorem dX12_copies_419 : decode cX12_copies 419 = .ok (.baload, 1) := by decide +kernel
theorem dX12_copies_420 : decode cX12_copies 420 = .ok (.ifCond .eq 12, 3) := by decide +kernel
theorem dX12_copies_423 : decode cX12_copies 423 = .ok (.aload_n 0, 1) := by decide +kernel
theorem dX12_copies_424 : decode cX12_copies 424 = .ok (.getfield 82, 3) := by decide +kernel
theorem dX12_copies_427 : decode cX12_copies 427 = .ok (.iconst 0, 1) := by decide +kernel
theorem dX12_copies_428 : decode cX12_copies 428 = .ok (.iaload, 1) := by decide +kernel
theorem dX12_copies_429 : decode cX12_copies 429 = .ok (.goto 4, 3) := by decide +kernel
theorem dX12_copies_432 : decode cX12_copies 432 = .ok (.iconst 0, 1) := by decide +kernel
theorem dX12_copies_433 : decode cX12_copies 433 = .ok (.iastore, 1) := by decide +kernel
theorem dX12_copies_434 : decode cX12_copies 434 = .ok (.aload_n 0, 1) := by decide +kernel
theorem dX12_copies_435 : decode cX12_copies 435 = .ok (.getfield 88, 3) := by decide +kernel
theorem dX12_copies_438 : decode cX12_copies 438 = .ok (.bipush 72, 2) := by decide +kernel
theorem dX12_copies_440 : decode cX12_copies 440 = .ok (.aload_n 0, 1) := by decide +kernel
theorem dX12_copies_441 : decode cX12_copies 441 = .ok (.getfield 85, 3) := by decide +kernel
theorem dX12_copies_444 : decode cX12_copies 444 = .ok (.iconst 1, 1) := by decide +kernel
theorem dX12_copies_445 : decode cX12_copies 445 = .ok (.baload, 1) := by decide +kernel
theorem dX12_copies_446 : decode cX12_copies 446 = .ok (.ifCond .eq 12, 3) := by decide +kernel
theorem dX12_copies_449 : decode cX12_copies 449 = .ok (.aload_n 0, 1) := by decide +kernel
theorem dX12_copies_450 : decode cX12_copies 450 = .ok (.getfield 82, 3) := by decide +kernel
theorem dX12_copies_453 : decode cX12_copies 453 = .ok (.iconst 1, 1) := by decide +kernel
theorem dX12_copies_454 : decode cX12_copies 454 = .ok (.iaload, 1) := by decide +kernel
theorem dX12_copies_455 : decode cX12_copies 455 = .ok (.goto 5, 3) := by decide +kernel
theorem dX12_copies_458 : decode cX12_copies 458 = .ok (.ldc 121, 2) := by decide +kernel
theorem dX12_copies_460 : decode cX12_copies 460 = .ok (.iastore, 1) := by decide +kernel
theorem dX12_copies_461 : decode cX12_copies 461 = .ok (.aload_n 0, 1) := by decide +kernel
theorem dX12_copies_462 : decode cX12_copies 462 = .ok (.getfield 88, 3) := by decide +kernel
theorem dX12_copies_465 : decode cX12_copies 465 = .ok (.bipush 73, 2) := by decide +kernel
theorem dX12_copies_467 : decode cX12_copies 467 = .ok (.aload_n 0, 1) := by decide +kernel
theorem dX12_copies_468 : decode cX12_copies 468 = .ok (.getfield 85, 3) := by decide +kernel
theorem dX12_copies_471 : decode cX12_copies 471 = .ok (.iconst 2, 1) := by decide +kernel
theorem dX12_copies_472 : decode cX12_copies 472 = .ok (.baload, 1) := by decide +kernel
theorem dX12_copies_473 : decode cX12_copies 473 = .ok (.ifCond .eq 12, 3) := by decide +kernel
theorem dX12_copies_476 : decode cX12_copies 476 = .ok (.aload_n 0, 1) := by decide +kernel
theorem dX12_copies_477 : decode cX12_copies 477 = .ok (.getfield 82, 3) := by decide +kernel
theorem dX12_copies_480 : decode cX12_copies 480 = .ok (.iconst 2, 1) := by decide +kernel
theorem dX12_copies_481 : decode cX12_copies 481 = .ok (.iaload, 1) := by decide +kernel
theorem dX12_copies_482 : decode cX12_copies 482 = .ok (.goto 5, 3) := by decide +kernel
theorem dX12_copies_485 : decode cX12_copies 485 = .ok (.ldc 122, 2) := by decide +kernel
theorem dX12_copies_487 : decode cX12_copies 487 = .ok (.iastore, 1) := by decide +kernel
theorem dX12_copies_488 : decode cX12_copies 488 = .ok (.return_, 1) := by decide +kernel
theorem dX12_book_0 : decode cX12_book 0 = .ok (.aload_n 0, 1) := by decide +kernel
theorem dX12_book_1 : decode cX12_book 1 = .ok (.iconst 0, 1) := by decide +kernel
theorem dX12_book_2 : decode cX12_book 2 = .ok (.putfield 123, 3) := by decide +kernel
theorem dX12_book_5 : decode cX12_book 5 = .ok (.iload_n 1, 1) := by decide +kernel
theorem dX12_book_6 : decode cX12_book 6 = .ok (.i2l, 1) := by decide +kernel
theorem dX12_book_7 : decode cX12_book 7 = .ok (.lconst 0, 1) := by decide +kernel
theorem dX12_book_8 : decode cX12_book 8 = .ok (.aload_n 0, 1) := by decide +kernel
theorem dX12_book_9 : decode cX12_book 9 = .ok (.getfield 127, 3) := by decide +kernel
theorem dX12_book_12 : decode cX12_book 12 = .ok (.i2l, 1) := by decide +kernel
theorem dX12_book_13 : decode cX12_book 13 = .ok (.invokestatic 161, 3) := by decide +kernel
theorem dX12_book_16 : decode cX12_book 16 = .ok (.ifCond .ne 5, 3) := by decide +kernel
theorem dX12_book_19 : decode cX12_book 19 = .ok (.iconst (-1), 1) := by decide +kernel
theorem dX12_book_20 : decode cX12_book 20 = .ok (.ireturn, 1) := by decide +kernel
theorem dX12_book_21 : decode cX12_book 21 = .ok (.aload_n 0, 1) := by decide +kernel
theorem dX12_book_22 : decode cX12_book 22 = .ok (.iconst 0, 1) := by decide +kernel
theorem dX12_book_23 : decode cX12_book 23 = .ok (.putfield 127, 3) := by decide +kernel
theorem dX12_book_26 : decode cX12_book 26 = .ok (.aload_n 0, 1) := by decide +kernel
theorem dX12_book_27 : decode cX12_book 27 = .ok (.iload_n 1, 1) := by decide +kernel
theorem dX12_book_28 : decode cX12_book 28 = .ok (.putfield 134, 3) := by decide +kernel
theorem dX12_book_31 : decode cX12_book 31 = .ok (.aload_n 0, 1) := by decide +kernel
theorem dX12_book_32 : decode cX12_book 32 = .ok (.iconst 0, 1) := by decide +kernel
theorem dX12_book_33 : decode cX12_book 33 = .ok (.putfield 137, 3) := by decide +kernel
theorem dX12_book_36 : decode cX12_book 36 = .ok (.aload_n 0, 1) := by decide +kernel
theorem dX12_book_37 : decode cX12_book 37 = .ok (.iconst 0, 1) := by decide +kernel
theorem dX12_book_38 : decode cX12_book 38 = .ok (.putfield 171, 3) := by decide +kernel
theorem dX12_book_41 : decode cX12_book 41 = .ok (.aload_n 0, 1) := by decide +kernel
theorem dX12_book_42 : decode cX12_book 42 = .ok (.iconst 1, 1) := by decide +kernel
theorem dX12_book_43 : decode cX12_book 43 = .ok (.putfield 232, 3) := by decide +kernel
theorem dX12_book_46 : decode cX12_book 46 = .ok (.aload_n 0, 1) := by decide +kernel
theorem dX12_book_47 : decode cX12_book 47 = .ok (.getfield 13, 3) := by decide +kernel
theorem dX12_book_50 : decode cX12_book 50 = .ok (.iconst 1, 1) := by decide +kernel
theorem dX12_book_51 : decode cX12_book 51 = .ok (.iconst 0, 1) := by decide +kernel
theorem dX12_book_52 : decode cX12_book 52 = .ok (.iastore, 1) := by decide +kernel
theorem dX12_book_53 : decode cX12_book 53 = .ok (.aload_n 0, 1) := by decide +kernel
theorem dX12_book_54 : decode cX12_book 54 = .ok (.getfield 17, 3) := by decide +kernel
theorem dX12_book_57 : decode cX12_book 57 = .ok (.iconst 1, 1) := by decide +kernel
theorem dX12_book_58 : decode cX12_book 58 = .ok (.iconst 0, 1) := by decide +kernel
theorem dX12_book_59 : decode cX12_book 59 = .ok (.iastore, 1) := by decide +kernel
theorem dX12_book_60 : decode cX12_book 60 = .ok (.aload_n 0, 1) := by decide +kernel
theorem dX12_book_61 : decode cX12_book 61 = .ok (.getfield 20, 3) := by decide +kernel
theorem dX12_book_64 : decode cX12_book 64 = .ok (.iconst 1, 1) := by decide +kernel
theorem dX12_book_65 : decode cX12_book 65 = .ok (.iconst 0, 1) := by decide +kernel
theorem dX12_book_66 : decode cX12_book 66 = .ok (.iastore, 1) := by decide +kernel
theorem dX12_book_67 : decode cX12_book 67 = .ok (.aload_n 0, 1) := by decide +kernel
theorem dX12_book_68 : decode cX12_book 68 = .ok (.getfield 23, 3) := by decide +kernel
theorem dX12_book_71 : decode cX12_book 71 = .ok (.iconst 1, 1) := by decide +kernel
theorem dX12_book_72 : decode cX12_book 72 = .ok (.iconst 0, 1) := by decide +kernel
theorem dX12_book_73 : decode cX12_book 73 = .ok (.iastore, 1) := by decide +kernel
theorem dX12_book_74 : decode cX12_book 74 = .ok (.aload_n 0, 1) := by decide +kernel
theorem dX12_book_75 : decode cX12_book 75 = .ok (.getfield 26, 3) := by decide +kernel
theorem dX12_book_78 : decode cX12_book 78 = .ok (.iconst 1, 1) := by decide +kernel
theorem dX12_book_79 : decode cX12_book 79 = .ok (.iconst 0, 1) := by decide +kernel
theorem dX12_book_80 : decode cX12_book 80 = .ok (.iastore, 1) := by decide +kernel
theorem dX12_book_81 : decode cX12_book 81 = .ok (.iconst 0, 1) := by decide +kernel
theorem dX12_book_82 : decode cX12_book 82 = .ok (.istore_n 2, 1) := by decide +kernel
theorem dX12_book_83 : decode cX12_book 83 = .ok (.iload_n 2, 1) := by decide +kernel
theorem dX12_book_84 : decode cX12_book 84 = .ok (.iconst 3, 1) := by decide +kernel
theorem dX12_book_85 : decode cX12_book 85 = .ok (.if_icmp .ge 16, 3) := by decide +kernel
theorem dX12_book_88 : decode cX12_book 88 = .ok (.aload_n 0, 1) := by decide +kernel
theorem dX12_book_89 : decode cX12_book 89 = .ok (.getfield 85, 3) := by decide +kernel
theorem dX12_book_92 : decode cX12_book 92 = .ok (.iload_n 2, 1) := by decide +kernel
theorem dX12_book_93 : decode cX12_book 93 = .ok (.iconst 0, 1) := by decide +kernel
theorem dX12_book_94 : decode cX12_book 94 = .ok (.bastore, 1) := by decide +kernel
theorem dX12_book_95 : decode cX12_book 95 = .ok (.iinc 2 1, 3) := by decide +kernel
theorem dX12_book_98 : decode cX12_book 98 = .ok (.goto (-15), 3) := by decide +kernel
theorem dX12_book_101 : decode cX12_book 101 = .ok (.aload_n 0, 1) := by decide +kernel
theorem dX12_book_102 : decode cX12_book 102 = .ok (.invokevirtual 226, 3) := by decide +kernel
theorem dX12_book_105 : decode cX12_book 105 = .ok (.iconst 0, 1) := by decide +kernel
theorem dX12_book_106 : decode cX12_book 106 = .ok (.istore_n 2, 1) := by decide +kernel
theorem dX12_book_107 : decode cX12_book 107 = .ok (.iconst 1, 1) := by decide +kernel
theorem dX12_book_108 : decode cX12_book 108 = .ok (.istore_n 3, 1) := by decide +kernel
theorem dX12_book_109 : decode cX12_book 109 = .ok (.iload_n 3, 1) := by decide +kernel
theorem dX12_book_110 : decode cX12_book 110 = .ok (.ifCond .eq 25, 3) := by decide +kernel
theorem dX12_book_113 : decode cX12_book 113 = .ok (.aload_n 0, 1) := by decide +kernel
theorem dX12_book_114 : decode cX12_book 114 = .ok (.getfield 147, 3) := by decide +kernel
theorem dX12_book_117 : decode cX12_book 117 = .ok (.ifCond .ne 7, 3) := by decide +kernel
theorem dX12_book_120 : decode cX12_book 120 = .ok (.iload_n 2, 1) := by decide +kernel
theorem dX12_book_121 : decode cX12_book 121 = .ok (.ifCond .ne 14, 3) := by decide +kernel
theorem dX12_book_124 : decode cX12_book 124 = .ok (.aload_n 0, 1) := by decide +kernel
theorem dX12_book_125 : decode cX12_book 125 = .ok (.invokevirtual 298, 3) := by decide +kernel
theorem dX12_book_128 : decode cX12_book 128 = .ok (.istore_n 3, 1) := by decide +kernel
theorem dX12_book_129 : decode cX12_book 129 = .ok (.iinc 2 1, 3) := by decide +kernel
theorem dX12_book_132 : decode cX12_book 132 = .ok (.goto (-23), 3) := by decide +kernel
theorem dX12_book_135 : decode cX12_book 135 = .ok (.aload_n 0, 1) := by decide +kernel
theorem dX12_book_136 : decode cX12_book 136 = .ok (.iconst 0, 1) := by decide +kernel
theorem dX12_book_137 : decode cX12_book 137 = .ok (.putfield 232, 3) := by decide +kernel
theorem dX12_book_140 : decode cX12_book 140 = .ok (.iload_n 3, 1) := by decide +kernel
theorem dX12_book_141 : decode cX12_book 141 = .ok (.ifCond .ne 19, 3) := by decide +kernel
theorem dX12_book_144 : decode cX12_book 144 = .ok (.bipush (-2), 2) := by decide +kernel
theorem dX12_book_146 : decode cX12_book 146 = .ok (.bipush 8, 2) := by decide +kernel
theorem dX12_book_148 : decode cX12_book 148 = .ok (.aload_n 0, 1) := by decide +kernel
theorem dX12_book_149 : decode cX12_book 149 = .ok (.getfield 174, 3) := by decide +kernel
theorem dX12_book_152 : decode cX12_book 152 = .ok (.imul, 1) := by decide +kernel
theorem dX12_book_153 : decode cX12_book 153 = .ok (.aload_n 0, 1) := by decide +kernel
theorem dX12_book_154 : decode cX12_book 154 = .ok (.getfield 171, 3) := by decide +kernel
theorem dX12_book_157 : decode cX12_book 157 = .ok (.iadd, 1) := by decide +kernel
theorem dX12_book_158 : decode cX12_book 158 = .ok (.isub, 1) := by decide +kernel
theorem dX12_book_159 : decode cX12_book 159 = .ok (.ireturn, 1) := by decide +kernel
theorem dX12_book_160 : decode cX12_book 160 = .ok (.aload_n 0, 1) := by decide +kernel
theorem dX12_book_161 : decode cX12_book 161 = .ok (.invokevirtual 301, 3) := by decide +kernel
theorem dX12_book_164 : decode cX12_book 164 = .ok (.aload_n 0, 1) := by decide +kernel
theorem dX12_book_165 : decode cX12_book 165 = .ok (.iconst 1, 1) := by decide +kernel
theorem dX12_book_166 : decode cX12_book 166 = .ok (.putfield 304, 3) := by decide +kernel
theorem dX12_book_169 : decode cX12_book 169 = .ok (.aload_n 0, 1) := by decide +kernel
theorem dX12_book_170 : decode cX12_book 170 = .ok (.iconst 0, 1) := by decide +kernel
theorem dX12_book_171 : decode cX12_book 171 = .ok (.putfield 308, 3) := by decide +kernel
theorem dX12_book_174 : decode cX12_book 174 = .ok (.iconst 0, 1) := by decide +kernel
theorem dX12_book_175 : decode cX12_book 175 = .ok (.istore 4, 2) := by decide +kernel
theorem dX12_book_177 : decode cX12_book 177 = .ok (.iload 4, 2) := by decide +kernel
theorem dX12_book_179 : decode cX12_book 179 = .ok (.iconst 3, 1) := by decide +kernel
theorem dX12_book_180 : decode cX12_book 180 = .ok (.if_icmp .ge 17, 3) := by decide +kernel
theorem dX12_book_183 : decode cX12_book 183 = .ok (.aload_n 0, 1) := by decide +kernel
theorem dX12_book_184 : decode cX12_book 184 = .ok (.getfield 97, 3) := by decide +kernel
theorem dX12_book_187 : decode cX12_book 187 = .ok (.iload 4, 2) := by decide +kernel
theorem dX12_book_189 : decode cX12_book 189 = .ok (.iconst 0, 1) := by decide +kernel
theorem dX12_book_190 : decode cX12_book 190 = .ok (.bastore, 1) := by decide +kernel
theorem dX12_book_191 : decode cX12_book 191 = .ok (.iinc 4 1, 3) := by decide +kernel
theorem dX12_book_194 : decode cX12_book 194 = .ok (.goto (-17), 3) := by decide +kernel
theorem dX12_book_197 : decode cX12_book 197 = .ok (.iload_n 2, 1) := by decide +kernel
theorem dX12_book_198 : decode cX12_book 198 = .ok (.ireturn, 1) := by decide +kernel
theorem pq_877 : Cond.fieldLink RX12 88 "PayoutDeskModel" "s" "[I" ∈ pd_gt := pd_in 1229 (by decide +kernel) (by decide +kernel)
theorem pq_878 : Cond.constant RX12 122 (50000 : Int32) ∈ pd_gt := pd_in 1189 (by decide +kernel) (by decide +kernel)
theorem pq_879 : Cond.constant RX12 121 (100000 : Int32) ∈ pd_gt := pd_in 1188 (by decide +kernel) (by decide +kernel)
theorem pq_880 : Cond.methodLink RX12 298 yX12_lineHere ∈ pd_gt := pd_in 1379 (by decide +kernel) (by decide +kernel)
theorem pq_881 : Cond.code yX12_lineHere cX12_lineHere 3 (some .boolean) ∈ pd_gt := pd_in 1382 (by decide +kernel) (by decide +kernel)
theorem pq_882 : Cond.initialized yX12_lineHere.cls ∈ pd_gt := pd_in 111 (by decide +kernel) (by decide +kernel)
theorem pq_883 : Cond.instanceMethod yX12_lineHere ∈ pd_gt := pd_in 1381 (by decide +kernel) (by decide +kernel)
theorem pq_884 : Cond.selects yX12_lineHere.cls yX12_lineHere yX12_lineHere ∈ pd_gt := pd_in 42 (by decide +kernel) (by decide +kernel)
theorem pq_885 : Cond.fieldLink RX12 97 "PayoutDeskModel" "isKept" "[Z" ∈ pd_gt := pd_in 1233 (by decide +kernel) (by decide +kernel)
theorem pq_886 : Cond.methodLink RX12 301 yX12_copies ∈ pd_gt := pd_in 1533 (by decide +kernel) (by decide +kernel)
theorem pq_887 : Cond.code yX12_copies cX12_copies 2 none ∈ pd_gt := pd_in 1536 (by decide +kernel) (by decide +kernel)
theorem pq_888 : Cond.initialized yX12_copies.cls ∈ pd_gt := pd_in 111 (by decide +kernel) (by decide +kernel)
theorem pq_889 : Cond.instanceMethod yX12_copies ∈ pd_gt := pd_in 1535 (by decide +kernel) (by decide +kernel)
theorem pq_890 : Cond.selects yX12_copies.cls yX12_copies yX12_copies ∈ pd_gt := pd_in 64 (by decide +kernel) (by decide +kernel)
theorem pq_891 : Cond.fieldLink RX12 304 "PayoutDeskModel" "isBook" "Z" ∈ pd_gt := pd_in 1202 (by decide +kernel) (by decide +kernel)
theorem pq_892 : Cond.fieldLink RX12 308 "PayoutDeskModel" "undos" "I" ∈ pd_gt := pd_in 1231 (by decide +kernel) (by decide +kernel)
def pfX12_copies_b460 (sh : pd_S) (n : Nat)  (F : pd_F) (x0 : Int) (t0 : Int) (t1 : Int) (t2 : Int) : Option pd_F :=
  pd_i (pd_ib sh 0 0 t2 t1 = true) <|
  pd_l (pd_up F t2 t1 t0) fun F2 =>
  pd_i (pd_ob sh 12 x0 = true) <|
  pd_i (pd_ib sh 0 2 (F2 x0 37) 2 = true) <|
  if (F2 (F2 x0 37) 2) = 0 then
    pd_i (pd_ib sh 0 0 (F2 x0 39) 73 = true) <|
    pd_l (pd_up F2 (F2 x0 39) 73 50000) fun F6 =>
    some F6
  else
    pd_i (pd_ib sh 0 0 (F2 x0 36) 2 = true) <|
    pd_i (pd_ib sh 0 0 (F2 x0 39) 73 = true) <|
    pd_l (pd_up F2 (F2 x0 39) 73 (F2 (F2 x0 36) 2)) fun F9 =>
    some F9
def pfX12_copies_b433 (sh : pd_S) (n : Nat)  (F : pd_F) (x0 : Int) (t0 : Int) (t1 : Int) (t2 : Int) : Option pd_F :=
  pd_i (pd_ib sh 0 0 t2 t1 = true) <|
  pd_l (pd_up F t2 t1 t0) fun F11 =>
  pd_i (pd_ob sh 12 x0 = true) <|
  pd_i (pd_ib sh 0 2 (F11 x0 37) 1 = true) <|
  if (F11 (F11 x0 37) 1) = 0 then
    pfX12_copies_b460 sh n F11 x0 100000 72 (F11 x0 39)
  else
    pd_i (pd_ib sh 0 0 (F11 x0 36) 1 = true) <|
    pfX12_copies_b460 sh n F11 x0 (F11 (F11 x0 36) 1) 72 (F11 x0 39)
def pfX12_copies_b408 (sh : pd_S) (n : Nat)  (F : pd_F) (x0 : Int) : Option pd_F :=
  pd_i (pd_ob sh 12 x0 = true) <|
  pd_i (pd_ib sh 0 2 (F x0 37) 0 = true) <|
  if (F (F x0 37) 0) = 0 then
    pfX12_copies_b433 sh n F x0 0 71 (F x0 39)
  else
    pd_i (pd_ib sh 0 0 (F x0 36) 0 = true) <|
    pfX12_copies_b433 sh n F x0 (F (F x0 36) 0) 71 (F x0 39)
def pfX12_copies_b377 (sh : pd_S) (n : Nat)  : Nat → pd_F → Int → Int → Option pd_F
  | 0, _, _, _ => none
  | k + 1, F, x0, x1 =>
    pd_i (pd_ob sh 12 x0 = true) <|
    pd_i (pd_ib sh 0 0 (F x0 16) 0 = true) <|
    if x1 ≥ (F (F x0 16) 0) then
      pfX12_copies_b408 sh n F x0
    else
      pd_i (pd_ib sh 0 0 (F x0 25) (pd_w (10 + x1)) = true) <|
      pd_i (pd_ib sh 0 0 (F x0 39) x1 = true) <|
      pd_l (pd_up F (F x0 39) x1 (F (F x0 25) (pd_w (10 + x1)))) fun F22 =>
      pd_l (pd_w (x1 + 1)) fun x1_402 =>
      pfX12_copies_b377 sh n k F22 x0 x1_402
def pfX12_copies_b375 (sh : pd_S) (n : Nat)  (F : pd_F) (x0 : Int) : Option pd_F :=
  pfX12_copies_b377 sh n n F x0 0
def pfX12_copies_b356 (sh : pd_S) (n : Nat)  : Nat → pd_F → Int → Int → Option pd_F
  | 0, _, _, _ => none
  | k + 1, F, x0, x1 =>
    if x1 ≥ 111 then
      pfX12_copies_b375 sh n F x0
    else
      pd_i (pd_ob sh 12 x0 = true) <|
      pd_i (pd_ib sh 0 0 (F x0 39) x1 = true) <|
      pd_l (pd_up F (F x0 39) x1 0) fun F25 =>
      pd_l (pd_w (x1 + 1)) fun x1_369 =>
      pfX12_copies_b356 sh n k F25 x0 x1_369
def pfX12_copies_b354 (sh : pd_S) (n : Nat)  (F : pd_F) (x0 : Int) : Option pd_F :=
  pfX12_copies_b356 sh n n F x0 0
def pfX12_copies_b297 (sh : pd_S) (n : Nat)  : Nat → pd_F → Int → Int → Option pd_F
  | 0, _, _, _ => none
  | k + 1, F, x0, x1 =>
    if x1 ≥ 8 then
      pfX12_copies_b354 sh n F x0
    else
      pd_i (pd_ob sh 12 x0 = true) <|
      pd_i (pd_ib sh 0 0 (F x0 33) (pd_w (8 + x1)) = true) <|
      pd_i (pd_ib sh 0 0 (F x0 33) x1 = true) <|
      pd_l (pd_up F (F x0 33) x1 (F (F x0 33) (pd_w (8 + x1)))) fun F29 =>
      pd_i (pd_ib sh 0 0 (F29 x0 34) (pd_w (8 + x1)) = true) <|
      pd_i (pd_ib sh 0 0 (F29 x0 34) x1 = true) <|
      pd_l (pd_up F29 (F29 x0 34) x1 (F29 (F29 x0 34) (pd_w (8 + x1)))) fun F32 =>
      pd_i (pd_ib sh 0 0 (F32 x0 35) (pd_w (8 + x1)) = true) <|
      pd_i (pd_ib sh 0 0 (F32 x0 35) x1 = true) <|
      pd_l (pd_up F32 (F32 x0 35) x1 (F32 (F32 x0 35) (pd_w (8 + x1)))) fun F35 =>
      pd_l (pd_w (x1 + 1)) fun x1_348 =>
      pfX12_copies_b297 sh n k F35 x0 x1_348
def pfX12_copies_b295 (sh : pd_S) (n : Nat)  (F : pd_F) (x0 : Int) : Option pd_F :=
  pfX12_copies_b297 sh n n F x0 0
def pfX12_copies_b223 (sh : pd_S) (n : Nat)  : Nat → pd_F → Int → Int → Option pd_F
  | 0, _, _, _ => none
  | k + 1, F, x0, x1 =>
    if x1 ≥ 6 then
      pfX12_copies_b295 sh n F x0
    else
      pd_i (pd_ob sh 12 x0 = true) <|
      pd_i (pd_ib sh 0 0 (F x0 29) (pd_w (6 + x1)) = true) <|
      pd_i (pd_ib sh 0 0 (F x0 29) x1 = true) <|
      pd_l (pd_up F (F x0 29) x1 (F (F x0 29) (pd_w (6 + x1)))) fun F39 =>
      pd_i (pd_ib sh 0 0 (F39 x0 30) (pd_w (6 + x1)) = true) <|
      pd_i (pd_ib sh 0 0 (F39 x0 30) x1 = true) <|
      pd_l (pd_up F39 (F39 x0 30) x1 (F39 (F39 x0 30) (pd_w (6 + x1)))) fun F42 =>
      pd_i (pd_ib sh 0 0 (F42 x0 31) (pd_w (6 + x1)) = true) <|
      pd_i (pd_ib sh 0 0 (F42 x0 31) x1 = true) <|
      pd_l (pd_up F42 (F42 x0 31) x1 (F42 (F42 x0 31) (pd_w (6 + x1)))) fun F45 =>
      pd_i (pd_ib sh 0 0 (F45 x0 32) (pd_w (6 + x1)) = true) <|
      pd_i (pd_ib sh 0 0 (F45 x0 32) x1 = true) <|
      pd_l (pd_up F45 (F45 x0 32) x1 (F45 (F45 x0 32) (pd_w (6 + x1)))) fun F48 =>
      pd_l (pd_w (x1 + 1)) fun x1_289 =>
      pfX12_copies_b223 sh n k F48 x0 x1_289
def pfX12_copies_b221 (sh : pd_S) (n : Nat)  (F : pd_F) (x0 : Int) : Option pd_F :=
  pfX12_copies_b223 sh n n F x0 0
def pfX12_copies_b179 (sh : pd_S) (n : Nat)  : Nat → pd_F → Int → Int → Option pd_F
  | 0, _, _, _ => none
  | k + 1, F, x0, x1 =>
    if x1 ≥ 75 then
      pfX12_copies_b221 sh n F x0
    else
      pd_i (pd_ob sh 12 x0 = true) <|
      pd_i (pd_ib sh 0 0 (F x0 27) (pd_w (75 + x1)) = true) <|
      pd_i (pd_ib sh 0 0 (F x0 27) x1 = true) <|
      pd_l (pd_up F (F x0 27) x1 (F (F x0 27) (pd_w (75 + x1)))) fun F52 =>
      pd_i (pd_ib sh 0 0 (F52 x0 28) (pd_w (75 + x1)) = true) <|
      pd_i (pd_ib sh 0 0 (F52 x0 28) x1 = true) <|
      pd_l (pd_up F52 (F52 x0 28) x1 (F52 (F52 x0 28) (pd_w (75 + x1)))) fun F55 =>
      pd_l (pd_w (x1 + 1)) fun x1_215 =>
      pfX12_copies_b179 sh n k F55 x0 x1_215
def pfX12_copies_b177 (sh : pd_S) (n : Nat)  (F : pd_F) (x0 : Int) : Option pd_F :=
  pfX12_copies_b179 sh n n F x0 0
def pfX12_copies_b150 (sh : pd_S) (n : Nat)  : Nat → pd_F → Int → Int → Option pd_F
  | 0, _, _, _ => none
  | k + 1, F, x0, x1 =>
    if x1 ≥ 15 then
      pfX12_copies_b177 sh n F x0
    else
      pd_i (pd_ob sh 12 x0 = true) <|
      pd_i (pd_ib sh 0 0 (F x0 26) (pd_w (15 + x1)) = true) <|
      pd_i (pd_ib sh 0 0 (F x0 26) x1 = true) <|
      pd_l (pd_up F (F x0 26) x1 (F (F x0 26) (pd_w (15 + x1)))) fun F59 =>
      pd_l (pd_w (x1 + 1)) fun x1_171 =>
      pfX12_copies_b150 sh n k F59 x0 x1_171
def pfX12_copies_b148 (sh : pd_S) (n : Nat)  (F : pd_F) (x0 : Int) : Option pd_F :=
  pfX12_copies_b150 sh n n F x0 0
def pfX12_copies_b121 (sh : pd_S) (n : Nat)  : Nat → pd_F → Int → Int → Option pd_F
  | 0, _, _, _ => none
  | k + 1, F, x0, x1 =>
    if x1 ≥ 36 then
      pfX12_copies_b148 sh n F x0
    else
      pd_i (pd_ob sh 12 x0 = true) <|
      pd_i (pd_ib sh 0 0 (F x0 21) (pd_w (36 + x1)) = true) <|
      pd_i (pd_ib sh 0 0 (F x0 21) x1 = true) <|
      pd_l (pd_up F (F x0 21) x1 (F (F x0 21) (pd_w (36 + x1)))) fun F63 =>
      pd_l (pd_w (x1 + 1)) fun x1_142 =>
      pfX12_copies_b121 sh n k F63 x0 x1_142
def pfX12_copies_b119 (sh : pd_S) (n : Nat)  (F : pd_F) (x0 : Int) : Option pd_F :=
  pfX12_copies_b121 sh n n F x0 0
def pfX12_copies_b62 (sh : pd_S) (n : Nat)  : Nat → pd_F → Int → Int → Option pd_F
  | 0, _, _, _ => none
  | k + 1, F, x0, x1 =>
    if x1 ≥ 12 then
      pfX12_copies_b119 sh n F x0
    else
      pd_i (pd_ob sh 12 x0 = true) <|
      pd_i (pd_ib sh 1 0 (F x0 19) (pd_w (12 + x1)) = true) <|
      pd_i (pd_ib sh 1 0 (F x0 19) x1 = true) <|
      pd_l (pd_up F (F x0 19) x1 (F (F x0 19) (pd_w (12 + x1)))) fun F67 =>
      pd_i (pd_ib sh 0 0 (F67 x0 20) (pd_w (12 + x1)) = true) <|
      pd_i (pd_ib sh 0 0 (F67 x0 20) x1 = true) <|
      pd_l (pd_up F67 (F67 x0 20) x1 (F67 (F67 x0 20) (pd_w (12 + x1)))) fun F70 =>
      pd_i (pd_ib sh 0 2 (F70 x0 22) (pd_w (12 + x1)) = true) <|
      pd_i (pd_ib sh 0 2 (F70 x0 22) x1 = true) <|
      pd_i ((F70 (F70 x0 22) (pd_w (12 + x1))) = 0 ∨ (F70 (F70 x0 22) (pd_w (12 + x1))) = 1) <|
      pd_l (pd_up F70 (F70 x0 22) x1 (F70 (F70 x0 22) (pd_w (12 + x1)))) fun F74 =>
      pd_l (pd_w (x1 + 1)) fun x1_113 =>
      pfX12_copies_b62 sh n k F74 x0 x1_113
def pfX12_copies (sh : pd_S) (n : Nat) (F : pd_F) (x0 : Int) : Option pd_F :=
  pd_i (pd_ob sh 12 x0 = true) <|
  pd_i (pd_ib sh 0 0 (F x0 14) 1 = true) <|
  pd_i (pd_ib sh 0 0 (F x0 14) 0 = true) <|
  pd_l (pd_up F (F x0 14) 0 (F (F x0 14) 1)) fun F78 =>
  pd_i (pd_ib sh 0 0 (F78 x0 15) 1 = true) <|
  pd_i (pd_ib sh 0 0 (F78 x0 15) 0 = true) <|
  pd_l (pd_up F78 (F78 x0 15) 0 (F78 (F78 x0 15) 1)) fun F81 =>
  pd_i (pd_ib sh 0 0 (F81 x0 16) 1 = true) <|
  pd_i (pd_ib sh 0 0 (F81 x0 16) 0 = true) <|
  pd_l (pd_up F81 (F81 x0 16) 0 (F81 (F81 x0 16) 1)) fun F84 =>
  pd_i (pd_ib sh 0 0 (F84 x0 17) 1 = true) <|
  pd_i (pd_ib sh 0 0 (F84 x0 17) 0 = true) <|
  pd_l (pd_up F84 (F84 x0 17) 0 (F84 (F84 x0 17) 1)) fun F87 =>
  pd_i (pd_ib sh 0 0 (F87 x0 18) 1 = true) <|
  pd_i (pd_ib sh 0 0 (F87 x0 18) 0 = true) <|
  pd_l (pd_up F87 (F87 x0 18) 0 (F87 (F87 x0 18) 1)) fun F90 =>
  pfX12_copies_b62 sh n n F90 x0 0
def pfX12_book_b124 (sh : pd_S) (n : Nat) (c109 : pd_F → Int → Int → Int → Option (Int × pd_F)) (F : pd_F) (x0 : Int) (x2 : Int) : Option (Int × pd_F) :=
  pd_i (pd_ob sh 12 x0 = true) <|
  Option.bind (pfX12_lineHere sh n F x0) fun qr2 => pd_l qr2.1 fun r2 => pd_l qr2.2 fun F1 =>
  pd_l (pd_w (x2 + 1)) fun x2_129 =>
  c109 F1 x0 x2_129 r2
def pfX12_book_b177 (sh : pd_S) (n : Nat)  : Nat → pd_F → Int → Int → Int → Option (Int × pd_F)
  | 0, _, _, _, _ => none
  | k + 1, F, x0, x2, x4 =>
    if x4 ≥ 3 then
      some (x2, F)
    else
      pd_i (pd_ob sh 12 x0 = true) <|
      pd_i (pd_ib sh 0 2 (F x0 43) x4 = true) <|
      pd_l (pd_up F (F x0 43) x4 0) fun F6 =>
      pd_l (pd_w (x4 + 1)) fun x4_191 =>
      pfX12_book_b177 sh n k F6 x0 x2 x4_191
def pfX12_book_b135 (sh : pd_S) (n : Nat)  (F : pd_F) (x0 : Int) (x2 : Int) (x3 : Int) : Option (Int × pd_F) :=
  pd_i (pd_ob sh 12 x0 = true) <|
  pd_l (pd_up F x0 13 0) fun F8 =>
  if x3 ≠ 0 then
    Option.bind (pfX12_copies sh n F8 x0) fun F9 =>
    pd_l (pd_up F9 x0 12 1) fun F10 =>
    pd_l (pd_up F10 x0 41 0) fun F11 =>
    pfX12_book_b177 sh n n F11 x0 x2 0
  else
    some (pd_w ((-2) - (pd_w ((pd_w (8 * (F8 x0 10))) + (F8 x0 9)))), F8)
def pfX12_book_b109 (sh : pd_S) (n : Nat)  : Nat → pd_F → Int → Int → Int → Option (Int × pd_F)
  | 0, _, _, _, _ => none
  | k + 1, F, x0, x2, x3 =>
    if x3 = 0 then
      pfX12_book_b135 sh n F x0 x2 x3
    else
      pd_i (pd_ob sh 12 x0 = true) <|
      if (F x0 6) ≠ 0 then
        pfX12_book_b124 sh n (pfX12_book_b109 sh n k) F x0 x2
      else
        if x2 ≠ 0 then
          pfX12_book_b135 sh n F x0 x2 x3
        else
          pfX12_book_b124 sh n (pfX12_book_b109 sh n k) F x0 x2
def pfX12_book_b101 (sh : pd_S) (n : Nat)  (F : pd_F) (x0 : Int) : Option (Int × pd_F) :=
  pd_i (pd_ob sh 12 x0 = true) <|
  Option.bind (pfX12_steps sh n F x0) fun F13 =>
  pfX12_book_b109 sh n n F13 x0 0 1
def pfX12_book_b83 (sh : pd_S) (n : Nat)  : Nat → pd_F → Int → Int → Option (Int × pd_F)
  | 0, _, _, _ => none
  | k + 1, F, x0, x2 =>
    if x2 ≥ 3 then
      pfX12_book_b101 sh n F x0
    else
      pd_i (pd_ob sh 12 x0 = true) <|
      pd_i (pd_ib sh 0 2 (F x0 37) x2 = true) <|
      pd_l (pd_up F (F x0 37) x2 0) fun F17 =>
      pd_l (pd_w (x2 + 1)) fun x2_95 =>
      pfX12_book_b83 sh n k F17 x0 x2_95
def pfX12_book (sh : pd_S) (n : Nat) (F : pd_F) (x0 : Int) (x1 : Int) : Option (Int × pd_F) :=
  pd_i (pd_ob sh 12 x0 = true) <|
  pd_l (pd_up F x0 0 0) fun F19 =>
  Option.bind (pfX12_within sh n F19 x1 0 (F19 x0 2)) fun qr21 => pd_l qr21.1 fun r21 => pd_l qr21.2 fun F20 =>
  if r21 ≠ 0 then
    pd_l (pd_up F20 x0 2 0) fun F22 =>
    pd_l (pd_up F22 x0 3 x1) fun F23 =>
    pd_l (pd_up F23 x0 5 0) fun F24 =>
    pd_l (pd_up F24 x0 9 0) fun F25 =>
    pd_l (pd_up F25 x0 13 1) fun F26 =>
    pd_i (pd_ib sh 0 0 (F26 x0 14) 1 = true) <|
    pd_l (pd_up F26 (F26 x0 14) 1 0) fun F28 =>
    pd_i (pd_ib sh 0 0 (F28 x0 15) 1 = true) <|
    pd_l (pd_up F28 (F28 x0 15) 1 0) fun F30 =>
    pd_i (pd_ib sh 0 0 (F30 x0 16) 1 = true) <|
    pd_l (pd_up F30 (F30 x0 16) 1 0) fun F32 =>
    pd_i (pd_ib sh 0 0 (F32 x0 17) 1 = true) <|
    pd_l (pd_up F32 (F32 x0 17) 1 0) fun F34 =>
    pd_i (pd_ib sh 0 0 (F34 x0 18) 1 = true) <|
    pd_l (pd_up F34 (F34 x0 18) 1 0) fun F36 =>
    pfX12_book_b83 sh n n F36 x0 0
  else
    some ((-1), F20)
set_option maxHeartbeats 4000000 in
set_option maxRecDepth 100000 in
theorem pkX12_copies_b460 (E : pd_E) (l : Launch) {sh : pd_S} {n : Nat} {Fz : pd_F}  (F : pd_F) (x0 : Int) (t0 : Int) (t1 : Int) (t2 : Int) (hf : pfX12_copies_b460 sh n  F x0 t0 t1 t2 = some Fz) : pd_V E l (pd_rm 1 0 0) (RX12, cX12_copies, 2, none, "copies") (pd_Qm E false none sh Fz 0 0) false 0 0 sh F 460 [pd_R x0, pd_N] [pd_I t0, pd_I t1, pd_R t2] := by
  unfold pfX12_copies_b460 at hf
  obtain ⟨hg1, hf⟩ := pd_ig hf
  refine pd_iast dX12_copies_460 hg1 ?_
  refine pd_topF (fun F2 eF2 => ?_)
  have hf := pd_lt hf eF2
  clear eF2
  refine pd_aload_n (i := 0) dX12_copies_461 rfl rfl ?_
  obtain ⟨hg3, hf⟩ := pd_ig hf
  refine pd_get (x := pd_R (F2 x0 39)) 39 dX12_copies_462 (show vwCl[12]? = some (RX12, TX12, 52) from rfl) pin_12 (by decide) pq_877 hg3 rfl ?_
  refine pd_bipush dX12_copies_465 (by decide) ?_
  refine pd_aload_n (i := 0) dX12_copies_467 rfl rfl ?_
  refine pd_get (x := pd_R (F2 x0 37)) 37 dX12_copies_468 (show vwCl[12]? = some (RX12, TX12, 52) from rfl) pin_12 (by decide) pq_786 hg3 rfl ?_
  refine pd_iconst dX12_copies_471 (by decide) ?_
  obtain ⟨hg4, hf⟩ := pd_ig hf
  refine pd_zald dX12_copies_472 hg4 ?_
  refine pd_if_eq (tgt := 485) dX12_copies_473 (by decide) (fun hc => ?_) (fun hc => ?_)
  · have hf := pd_ip hf hc
    refine pd_ldc (x := 50000) dX12_copies_485 pq_878 (by decide +kernel) ?_
    obtain ⟨hg5, hf⟩ := pd_ig hf
    refine pd_iast dX12_copies_487 hg5 ?_
    refine pd_topF (fun F6 eF6 => ?_)
    have hf := pd_lt hf eF6
    clear eF6
    obtain h2 := pd_inj1 hf
    subst h2
    exact pd_vret dX12_copies_488 rfl (Nat.le_refl 0) (Nat.le_refl 0)
  · have hf := pd_in_ hf hc
    refine pd_aload_n (i := 0) dX12_copies_476 rfl rfl ?_
    refine pd_get (x := pd_R (F2 x0 36)) 36 dX12_copies_477 (show vwCl[12]? = some (RX12, TX12, 52) from rfl) pin_12 (by decide) pq_785 hg3 rfl ?_
    refine pd_iconst dX12_copies_480 (by decide) ?_
    obtain ⟨hg7, hf⟩ := pd_ig hf
    refine pd_iald dX12_copies_481 hg7 ?_
    refine pd_goto (tgt := 487) dX12_copies_482 (by decide) ?_
    obtain ⟨hg8, hf⟩ := pd_ig hf
    refine pd_iast dX12_copies_487 hg8 ?_
    refine pd_topF (fun F9 eF9 => ?_)
    have hf := pd_lt hf eF9
    clear eF9
    obtain h2 := pd_inj1 hf
    subst h2
    exact pd_vret dX12_copies_488 rfl (Nat.le_refl 0) (Nat.le_refl 0)
set_option maxHeartbeats 4000000 in
set_option maxRecDepth 100000 in
theorem pkX12_copies_b433 (E : pd_E) (l : Launch) {sh : pd_S} {n : Nat} {Fz : pd_F}  (F : pd_F) (x0 : Int) (t0 : Int) (t1 : Int) (t2 : Int) (hf : pfX12_copies_b433 sh n  F x0 t0 t1 t2 = some Fz) : pd_V E l (pd_rm 1 0 0) (RX12, cX12_copies, 2, none, "copies") (pd_Qm E false none sh Fz 0 0) false 0 0 sh F 433 [pd_R x0, pd_N] [pd_I t0, pd_I t1, pd_R t2] := by
  unfold pfX12_copies_b433 at hf
  obtain ⟨hg10, hf⟩ := pd_ig hf
  refine pd_iast dX12_copies_433 hg10 ?_
  refine pd_topF (fun F11 eF11 => ?_)
  have hf := pd_lt hf eF11
  clear eF11
  refine pd_aload_n (i := 0) dX12_copies_434 rfl rfl ?_
  obtain ⟨hg12, hf⟩ := pd_ig hf
  refine pd_get (x := pd_R (F11 x0 39)) 39 dX12_copies_435 (show vwCl[12]? = some (RX12, TX12, 52) from rfl) pin_12 (by decide) pq_877 hg12 rfl ?_
  refine pd_bipush dX12_copies_438 (by decide) ?_
  refine pd_aload_n (i := 0) dX12_copies_440 rfl rfl ?_
  refine pd_get (x := pd_R (F11 x0 37)) 37 dX12_copies_441 (show vwCl[12]? = some (RX12, TX12, 52) from rfl) pin_12 (by decide) pq_786 hg12 rfl ?_
  refine pd_iconst dX12_copies_444 (by decide) ?_
  obtain ⟨hg13, hf⟩ := pd_ig hf
  refine pd_zald dX12_copies_445 hg13 ?_
  refine pd_if_eq (tgt := 458) dX12_copies_446 (by decide) (fun hc => ?_) (fun hc => ?_)
  · have hf := pd_ip hf hc
    refine pd_ldc (x := 100000) dX12_copies_458 pq_879 (by decide +kernel) ?_
    exact pd_weak (L' := [pd_R x0, pd_N]) ⟨Or.inr rfl, Or.inr rfl, trivial⟩ (pkX12_copies_b460 E l _ _ _ _ _ hf)
  · have hf := pd_in_ hf hc
    refine pd_aload_n (i := 0) dX12_copies_449 rfl rfl ?_
    refine pd_get (x := pd_R (F11 x0 36)) 36 dX12_copies_450 (show vwCl[12]? = some (RX12, TX12, 52) from rfl) pin_12 (by decide) pq_785 hg12 rfl ?_
    refine pd_iconst dX12_copies_453 (by decide) ?_
    obtain ⟨hg14, hf⟩ := pd_ig hf
    refine pd_iald dX12_copies_454 hg14 ?_
    refine pd_goto (tgt := 460) dX12_copies_455 (by decide) ?_
    exact pd_weak (L' := [pd_R x0, pd_N]) ⟨Or.inr rfl, Or.inr rfl, trivial⟩ (pkX12_copies_b460 E l _ _ _ _ _ hf)
set_option maxHeartbeats 4000000 in
set_option maxRecDepth 100000 in
theorem pkX12_copies_b408 (E : pd_E) (l : Launch) {sh : pd_S} {n : Nat} {Fz : pd_F}  (F : pd_F) (x0 : Int) (hf : pfX12_copies_b408 sh n  F x0 = some Fz) : pd_V E l (pd_rm 1 0 0) (RX12, cX12_copies, 2, none, "copies") (pd_Qm E false none sh Fz 0 0) false 0 0 sh F 408 [pd_R x0, pd_N] [] := by
  unfold pfX12_copies_b408 at hf
  refine pd_aload_n (i := 0) dX12_copies_408 rfl rfl ?_
  obtain ⟨hg15, hf⟩ := pd_ig hf
  refine pd_get (x := pd_R (F x0 39)) 39 dX12_copies_409 (show vwCl[12]? = some (RX12, TX12, 52) from rfl) pin_12 (by decide) pq_877 hg15 rfl ?_
  refine pd_bipush dX12_copies_412 (by decide) ?_
  refine pd_aload_n (i := 0) dX12_copies_414 rfl rfl ?_
  refine pd_get (x := pd_R (F x0 37)) 37 dX12_copies_415 (show vwCl[12]? = some (RX12, TX12, 52) from rfl) pin_12 (by decide) pq_786 hg15 rfl ?_
  refine pd_iconst dX12_copies_418 (by decide) ?_
  obtain ⟨hg16, hf⟩ := pd_ig hf
  refine pd_zald dX12_copies_419 hg16 ?_
  refine pd_if_eq (tgt := 432) dX12_copies_420 (by decide) (fun hc => ?_) (fun hc => ?_)
  · have hf := pd_ip hf hc
    refine pd_iconst dX12_copies_432 (by decide) ?_
    exact pd_weak (L' := [pd_R x0, pd_N]) ⟨Or.inr rfl, Or.inr rfl, trivial⟩ (pkX12_copies_b433 E l _ _ _ _ _ hf)
  · have hf := pd_in_ hf hc
    refine pd_aload_n (i := 0) dX12_copies_423 rfl rfl ?_
    refine pd_get (x := pd_R (F x0 36)) 36 dX12_copies_424 (show vwCl[12]? = some (RX12, TX12, 52) from rfl) pin_12 (by decide) pq_785 hg15 rfl ?_
    refine pd_iconst dX12_copies_427 (by decide) ?_
    obtain ⟨hg17, hf⟩ := pd_ig hf
    refine pd_iald dX12_copies_428 hg17 ?_
    refine pd_goto (tgt := 433) dX12_copies_429 (by decide) ?_
    exact pd_weak (L' := [pd_R x0, pd_N]) ⟨Or.inr rfl, Or.inr rfl, trivial⟩ (pkX12_copies_b433 E l _ _ _ _ _ hf)
set_option maxHeartbeats 4000000 in
set_option maxRecDepth 100000 in
theorem pkX12_copies_b377 (E : pd_E) (l : Launch) {sh : pd_S} {n : Nat} {Fz : pd_F}  : ∀ (k : Nat) (F : pd_F) (x0 : Int) (x1 : Int), pfX12_copies_b377 sh n  k F x0 x1 = some Fz → pd_V E l (pd_rm 1 0 0) (RX12, cX12_copies, 2, none, "copies") (pd_Qm E false none sh Fz 0 0) false 0 0 sh F 377 [pd_R x0, pd_I x1] [] := by
  intro k
  induction k with
  | zero => intro F x0 x1 hf; exact absurd hf (by unfold pfX12_copies_b377; exact fun h => nomatch h)
  | succ k ih =>
    intro F x0 x1 hf
    unfold pfX12_copies_b377 at hf
    refine pd_iload_n (i := 1) dX12_copies_377 rfl rfl ?_
    refine pd_aload_n (i := 0) dX12_copies_378 rfl rfl ?_
    obtain ⟨hg18, hf⟩ := pd_ig hf
    refine pd_get (x := pd_R (F x0 16)) 16 dX12_copies_379 (show vwCl[12]? = some (RX12, TX12, 52) from rfl) pin_12 (by decide) pq_717 hg18 rfl ?_
    refine pd_iconst dX12_copies_382 (by decide) ?_
    obtain ⟨hg19, hf⟩ := pd_ig hf
    refine pd_iald dX12_copies_383 hg19 ?_
    refine pd_icmp_ge (tgt := 408) dX12_copies_384 (by decide) (fun hc => ?_) (fun hc => ?_)
    · have hf := pd_ip hf hc
      exact pd_weak (L' := [pd_R x0, pd_N]) ⟨Or.inr rfl, Or.inl rfl, trivial⟩ (pkX12_copies_b408 E l _ _ hf)
    · have hf := pd_in_ hf hc
      refine pd_aload_n (i := 0) dX12_copies_387 rfl rfl ?_
      refine pd_get (x := pd_R (F x0 39)) 39 dX12_copies_388 (show vwCl[12]? = some (RX12, TX12, 52) from rfl) pin_12 (by decide) pq_877 hg18 rfl ?_
      refine pd_iload_n (i := 1) dX12_copies_391 rfl rfl ?_
      refine pd_aload_n (i := 0) dX12_copies_392 rfl rfl ?_
      refine pd_get (x := pd_R (F x0 25)) 25 dX12_copies_393 (show vwCl[12]? = some (RX12, TX12, 52) from rfl) pin_12 (by decide) pq_841 hg18 rfl ?_
      refine pd_bipush dX12_copies_396 (by decide) ?_
      refine pd_iload_n (i := 1) dX12_copies_398 rfl rfl ?_
      refine pd_iadd dX12_copies_399 ?_
      obtain ⟨hg20, hf⟩ := pd_ig hf
      refine pd_iald dX12_copies_400 hg20 ?_
      obtain ⟨hg21, hf⟩ := pd_ig hf
      refine pd_iast dX12_copies_401 hg21 ?_
      refine pd_topF (fun F22 eF22 => ?_)
      have hf := pd_lt hf eF22
      clear eF22
      refine pd_iincN (L' := fun y => [pd_R x0, pd_I y]) dX12_copies_402 rfl (by decide) (by decide) (fun _ => rfl) (fun x1_402 ex1_402 => ?_)
      have hf := pd_lt hf ex1_402
      clear ex1_402
      refine pd_goto (tgt := 377) dX12_copies_405 (by decide) ?_
      exact pd_weak (L' := [pd_R x0, pd_I x1_402]) ⟨Or.inr rfl, Or.inr rfl, trivial⟩ (ih _ _ _ hf)
set_option maxHeartbeats 4000000 in
set_option maxRecDepth 100000 in
theorem pkX12_copies_b375 (E : pd_E) (l : Launch) {sh : pd_S} {n : Nat} {Fz : pd_F}  (F : pd_F) (x0 : Int) (hf : pfX12_copies_b375 sh n  F x0 = some Fz) : pd_V E l (pd_rm 1 0 0) (RX12, cX12_copies, 2, none, "copies") (pd_Qm E false none sh Fz 0 0) false 0 0 sh F 375 [pd_R x0, pd_N] [] := by
  unfold pfX12_copies_b375 at hf
  refine pd_iconst dX12_copies_375 (by decide) ?_
  refine pd_istore_n (L' := [pd_R x0, pd_I 0]) dX12_copies_376 rfl (by decide) rfl ?_
  exact pd_weak (L' := [pd_R x0, pd_I 0]) ⟨Or.inr rfl, Or.inr rfl, trivial⟩ (pkX12_copies_b377 E l n _ _ _ hf)
set_option maxHeartbeats 4000000 in
set_option maxRecDepth 100000 in
theorem pkX12_copies_b356 (E : pd_E) (l : Launch) {sh : pd_S} {n : Nat} {Fz : pd_F}  : ∀ (k : Nat) (F : pd_F) (x0 : Int) (x1 : Int), pfX12_copies_b356 sh n  k F x0 x1 = some Fz → pd_V E l (pd_rm 1 0 0) (RX12, cX12_copies, 2, none, "copies") (pd_Qm E false none sh Fz 0 0) false 0 0 sh F 356 [pd_R x0, pd_I x1] [] := by
  intro k
  induction k with
  | zero => intro F x0 x1 hf; exact absurd hf (by unfold pfX12_copies_b356; exact fun h => nomatch h)
  | succ k ih =>
    intro F x0 x1 hf
    unfold pfX12_copies_b356 at hf
    refine pd_iload_n (i := 1) dX12_copies_356 rfl rfl ?_
    refine pd_bipush dX12_copies_357 (by decide) ?_
    refine pd_icmp_ge (tgt := 375) dX12_copies_359 (by decide) (fun hc => ?_) (fun hc => ?_)
    · have hf := pd_ip hf hc
      exact pd_weak (L' := [pd_R x0, pd_N]) ⟨Or.inr rfl, Or.inl rfl, trivial⟩ (pkX12_copies_b375 E l _ _ hf)
    · have hf := pd_in_ hf hc
      refine pd_aload_n (i := 0) dX12_copies_362 rfl rfl ?_
      obtain ⟨hg23, hf⟩ := pd_ig hf
      refine pd_get (x := pd_R (F x0 39)) 39 dX12_copies_363 (show vwCl[12]? = some (RX12, TX12, 52) from rfl) pin_12 (by decide) pq_877 hg23 rfl ?_
      refine pd_iload_n (i := 1) dX12_copies_366 rfl rfl ?_
      refine pd_iconst dX12_copies_367 (by decide) ?_
      obtain ⟨hg24, hf⟩ := pd_ig hf
      refine pd_iast dX12_copies_368 hg24 ?_
      refine pd_topF (fun F25 eF25 => ?_)
      have hf := pd_lt hf eF25
      clear eF25
      refine pd_iincN (L' := fun y => [pd_R x0, pd_I y]) dX12_copies_369 rfl (by decide) (by decide) (fun _ => rfl) (fun x1_369 ex1_369 => ?_)
      have hf := pd_lt hf ex1_369
      clear ex1_369
      refine pd_goto (tgt := 356) dX12_copies_372 (by decide) ?_
      exact pd_weak (L' := [pd_R x0, pd_I x1_369]) ⟨Or.inr rfl, Or.inr rfl, trivial⟩ (ih _ _ _ hf)
set_option maxHeartbeats 4000000 in
set_option maxRecDepth 100000 in
theorem pkX12_copies_b354 (E : pd_E) (l : Launch) {sh : pd_S} {n : Nat} {Fz : pd_F}  (F : pd_F) (x0 : Int) (hf : pfX12_copies_b354 sh n  F x0 = some Fz) : pd_V E l (pd_rm 1 0 0) (RX12, cX12_copies, 2, none, "copies") (pd_Qm E false none sh Fz 0 0) false 0 0 sh F 354 [pd_R x0, pd_N] [] := by
  unfold pfX12_copies_b354 at hf
  refine pd_iconst dX12_copies_354 (by decide) ?_
  refine pd_istore_n (L' := [pd_R x0, pd_I 0]) dX12_copies_355 rfl (by decide) rfl ?_
  exact pd_weak (L' := [pd_R x0, pd_I 0]) ⟨Or.inr rfl, Or.inr rfl, trivial⟩ (pkX12_copies_b356 E l n _ _ _ hf)
set_option maxHeartbeats 4000000 in
set_option maxRecDepth 100000 in
theorem pkX12_copies_b297 (E : pd_E) (l : Launch) {sh : pd_S} {n : Nat} {Fz : pd_F}  : ∀ (k : Nat) (F : pd_F) (x0 : Int) (x1 : Int), pfX12_copies_b297 sh n  k F x0 x1 = some Fz → pd_V E l (pd_rm 1 0 0) (RX12, cX12_copies, 2, none, "copies") (pd_Qm E false none sh Fz 0 0) false 0 0 sh F 297 [pd_R x0, pd_I x1] [] := by
  intro k
  induction k with
  | zero => intro F x0 x1 hf; exact absurd hf (by unfold pfX12_copies_b297; exact fun h => nomatch h)
  | succ k ih =>
    intro F x0 x1 hf
    unfold pfX12_copies_b297 at hf
    refine pd_iload_n (i := 1) dX12_copies_297 rfl rfl ?_
    refine pd_bipush dX12_copies_298 (by decide) ?_
    refine pd_icmp_ge (tgt := 354) dX12_copies_300 (by decide) (fun hc => ?_) (fun hc => ?_)
    · have hf := pd_ip hf hc
      exact pd_weak (L' := [pd_R x0, pd_N]) ⟨Or.inr rfl, Or.inl rfl, trivial⟩ (pkX12_copies_b354 E l _ _ hf)
    · have hf := pd_in_ hf hc
      refine pd_aload_n (i := 0) dX12_copies_303 rfl rfl ?_
      obtain ⟨hg26, hf⟩ := pd_ig hf
      refine pd_get (x := pd_R (F x0 33)) 33 dX12_copies_304 (show vwCl[12]? = some (RX12, TX12, 52) from rfl) pin_12 (by decide) pq_821 hg26 rfl ?_
      refine pd_iload_n (i := 1) dX12_copies_307 rfl rfl ?_
      refine pd_aload_n (i := 0) dX12_copies_308 rfl rfl ?_
      refine pd_get (x := pd_R (F x0 33)) 33 dX12_copies_309 (show vwCl[12]? = some (RX12, TX12, 52) from rfl) pin_12 (by decide) pq_821 hg26 rfl ?_
      refine pd_bipush dX12_copies_312 (by decide) ?_
      refine pd_iload_n (i := 1) dX12_copies_314 rfl rfl ?_
      refine pd_iadd dX12_copies_315 ?_
      obtain ⟨hg27, hf⟩ := pd_ig hf
      refine pd_iald dX12_copies_316 hg27 ?_
      obtain ⟨hg28, hf⟩ := pd_ig hf
      refine pd_iast dX12_copies_317 hg28 ?_
      refine pd_topF (fun F29 eF29 => ?_)
      have hf := pd_lt hf eF29
      clear eF29
      refine pd_aload_n (i := 0) dX12_copies_318 rfl rfl ?_
      refine pd_get (x := pd_R (F29 x0 34)) 34 dX12_copies_319 (show vwCl[12]? = some (RX12, TX12, 52) from rfl) pin_12 (by decide) pq_822 hg26 rfl ?_
      refine pd_iload_n (i := 1) dX12_copies_322 rfl rfl ?_
      refine pd_aload_n (i := 0) dX12_copies_323 rfl rfl ?_
      refine pd_get (x := pd_R (F29 x0 34)) 34 dX12_copies_324 (show vwCl[12]? = some (RX12, TX12, 52) from rfl) pin_12 (by decide) pq_822 hg26 rfl ?_
      refine pd_bipush dX12_copies_327 (by decide) ?_
      refine pd_iload_n (i := 1) dX12_copies_329 rfl rfl ?_
      refine pd_iadd dX12_copies_330 ?_
      obtain ⟨hg30, hf⟩ := pd_ig hf
      refine pd_iald dX12_copies_331 hg30 ?_
      obtain ⟨hg31, hf⟩ := pd_ig hf
      refine pd_iast dX12_copies_332 hg31 ?_
      refine pd_topF (fun F32 eF32 => ?_)
      have hf := pd_lt hf eF32
      clear eF32
      refine pd_aload_n (i := 0) dX12_copies_333 rfl rfl ?_
      refine pd_get (x := pd_R (F32 x0 35)) 35 dX12_copies_334 (show vwCl[12]? = some (RX12, TX12, 52) from rfl) pin_12 (by decide) pq_823 hg26 rfl ?_
      refine pd_iload_n (i := 1) dX12_copies_337 rfl rfl ?_
      refine pd_aload_n (i := 0) dX12_copies_338 rfl rfl ?_
      refine pd_get (x := pd_R (F32 x0 35)) 35 dX12_copies_339 (show vwCl[12]? = some (RX12, TX12, 52) from rfl) pin_12 (by decide) pq_823 hg26 rfl ?_
      refine pd_bipush dX12_copies_342 (by decide) ?_
      refine pd_iload_n (i := 1) dX12_copies_344 rfl rfl ?_
      refine pd_iadd dX12_copies_345 ?_
      obtain ⟨hg33, hf⟩ := pd_ig hf
      refine pd_iald dX12_copies_346 hg33 ?_
      obtain ⟨hg34, hf⟩ := pd_ig hf
      refine pd_iast dX12_copies_347 hg34 ?_
      refine pd_topF (fun F35 eF35 => ?_)
      have hf := pd_lt hf eF35
      clear eF35
      refine pd_iincN (L' := fun y => [pd_R x0, pd_I y]) dX12_copies_348 rfl (by decide) (by decide) (fun _ => rfl) (fun x1_348 ex1_348 => ?_)
      have hf := pd_lt hf ex1_348
      clear ex1_348
      refine pd_goto (tgt := 297) dX12_copies_351 (by decide) ?_
      exact pd_weak (L' := [pd_R x0, pd_I x1_348]) ⟨Or.inr rfl, Or.inr rfl, trivial⟩ (ih _ _ _ hf)
set_option maxHeartbeats 4000000 in
set_option maxRecDepth 100000 in
theorem pkX12_copies_b295 (E : pd_E) (l : Launch) {sh : pd_S} {n : Nat} {Fz : pd_F}  (F : pd_F) (x0 : Int) (hf : pfX12_copies_b295 sh n  F x0 = some Fz) : pd_V E l (pd_rm 1 0 0) (RX12, cX12_copies, 2, none, "copies") (pd_Qm E false none sh Fz 0 0) false 0 0 sh F 295 [pd_R x0, pd_N] [] := by
  unfold pfX12_copies_b295 at hf
  refine pd_iconst dX12_copies_295 (by decide) ?_
  refine pd_istore_n (L' := [pd_R x0, pd_I 0]) dX12_copies_296 rfl (by decide) rfl ?_
  exact pd_weak (L' := [pd_R x0, pd_I 0]) ⟨Or.inr rfl, Or.inr rfl, trivial⟩ (pkX12_copies_b297 E l n _ _ _ hf)
set_option maxHeartbeats 4000000 in
set_option maxRecDepth 100000 in
theorem pkX12_copies_b223 (E : pd_E) (l : Launch) {sh : pd_S} {n : Nat} {Fz : pd_F}  : ∀ (k : Nat) (F : pd_F) (x0 : Int) (x1 : Int), pfX12_copies_b223 sh n  k F x0 x1 = some Fz → pd_V E l (pd_rm 1 0 0) (RX12, cX12_copies, 2, none, "copies") (pd_Qm E false none sh Fz 0 0) false 0 0 sh F 223 [pd_R x0, pd_I x1] [] := by
  intro k
  induction k with
  | zero => intro F x0 x1 hf; exact absurd hf (by unfold pfX12_copies_b223; exact fun h => nomatch h)
  | succ k ih =>
    intro F x0 x1 hf
    unfold pfX12_copies_b223 at hf
    refine pd_iload_n (i := 1) dX12_copies_223 rfl rfl ?_
    refine pd_bipush dX12_copies_224 (by decide) ?_
    refine pd_icmp_ge (tgt := 295) dX12_copies_226 (by decide) (fun hc => ?_) (fun hc => ?_)
    · have hf := pd_ip hf hc
      exact pd_weak (L' := [pd_R x0, pd_N]) ⟨Or.inr rfl, Or.inl rfl, trivial⟩ (pkX12_copies_b295 E l _ _ hf)
    · have hf := pd_in_ hf hc
      refine pd_aload_n (i := 0) dX12_copies_229 rfl rfl ?_
      obtain ⟨hg36, hf⟩ := pd_ig hf
      refine pd_get (x := pd_R (F x0 29)) 29 dX12_copies_230 (show vwCl[12]? = some (RX12, TX12, 52) from rfl) pin_12 (by decide) pq_811 hg36 rfl ?_
      refine pd_iload_n (i := 1) dX12_copies_233 rfl rfl ?_
      refine pd_aload_n (i := 0) dX12_copies_234 rfl rfl ?_
      refine pd_get (x := pd_R (F x0 29)) 29 dX12_copies_235 (show vwCl[12]? = some (RX12, TX12, 52) from rfl) pin_12 (by decide) pq_811 hg36 rfl ?_
      refine pd_bipush dX12_copies_238 (by decide) ?_
      refine pd_iload_n (i := 1) dX12_copies_240 rfl rfl ?_
      refine pd_iadd dX12_copies_241 ?_
      obtain ⟨hg37, hf⟩ := pd_ig hf
      refine pd_iald dX12_copies_242 hg37 ?_
      obtain ⟨hg38, hf⟩ := pd_ig hf
      refine pd_iast dX12_copies_243 hg38 ?_
      refine pd_topF (fun F39 eF39 => ?_)
      have hf := pd_lt hf eF39
      clear eF39
      refine pd_aload_n (i := 0) dX12_copies_244 rfl rfl ?_
      refine pd_get (x := pd_R (F39 x0 30)) 30 dX12_copies_245 (show vwCl[12]? = some (RX12, TX12, 52) from rfl) pin_12 (by decide) pq_812 hg36 rfl ?_
      refine pd_iload_n (i := 1) dX12_copies_248 rfl rfl ?_
      refine pd_aload_n (i := 0) dX12_copies_249 rfl rfl ?_
      refine pd_get (x := pd_R (F39 x0 30)) 30 dX12_copies_250 (show vwCl[12]? = some (RX12, TX12, 52) from rfl) pin_12 (by decide) pq_812 hg36 rfl ?_
      refine pd_bipush dX12_copies_253 (by decide) ?_
      refine pd_iload_n (i := 1) dX12_copies_255 rfl rfl ?_
      refine pd_iadd dX12_copies_256 ?_
      obtain ⟨hg40, hf⟩ := pd_ig hf
      refine pd_iald dX12_copies_257 hg40 ?_
      obtain ⟨hg41, hf⟩ := pd_ig hf
      refine pd_iast dX12_copies_258 hg41 ?_
      refine pd_topF (fun F42 eF42 => ?_)
      have hf := pd_lt hf eF42
      clear eF42
      refine pd_aload_n (i := 0) dX12_copies_259 rfl rfl ?_
      refine pd_get (x := pd_R (F42 x0 31)) 31 dX12_copies_260 (show vwCl[12]? = some (RX12, TX12, 52) from rfl) pin_12 (by decide) pq_818 hg36 rfl ?_
      refine pd_iload_n (i := 1) dX12_copies_263 rfl rfl ?_
      refine pd_aload_n (i := 0) dX12_copies_264 rfl rfl ?_
      refine pd_get (x := pd_R (F42 x0 31)) 31 dX12_copies_265 (show vwCl[12]? = some (RX12, TX12, 52) from rfl) pin_12 (by decide) pq_818 hg36 rfl ?_
      refine pd_bipush dX12_copies_268 (by decide) ?_
      refine pd_iload_n (i := 1) dX12_copies_270 rfl rfl ?_
      refine pd_iadd dX12_copies_271 ?_
      obtain ⟨hg43, hf⟩ := pd_ig hf
      refine pd_iald dX12_copies_272 hg43 ?_
      obtain ⟨hg44, hf⟩ := pd_ig hf
      refine pd_iast dX12_copies_273 hg44 ?_
      refine pd_topF (fun F45 eF45 => ?_)
      have hf := pd_lt hf eF45
      clear eF45
      refine pd_aload_n (i := 0) dX12_copies_274 rfl rfl ?_
      refine pd_get (x := pd_R (F45 x0 32)) 32 dX12_copies_275 (show vwCl[12]? = some (RX12, TX12, 52) from rfl) pin_12 (by decide) pq_819 hg36 rfl ?_
      refine pd_iload_n (i := 1) dX12_copies_278 rfl rfl ?_
      refine pd_aload_n (i := 0) dX12_copies_279 rfl rfl ?_
      refine pd_get (x := pd_R (F45 x0 32)) 32 dX12_copies_280 (show vwCl[12]? = some (RX12, TX12, 52) from rfl) pin_12 (by decide) pq_819 hg36 rfl ?_
      refine pd_bipush dX12_copies_283 (by decide) ?_
      refine pd_iload_n (i := 1) dX12_copies_285 rfl rfl ?_
      refine pd_iadd dX12_copies_286 ?_
      obtain ⟨hg46, hf⟩ := pd_ig hf
      refine pd_iald dX12_copies_287 hg46 ?_
      obtain ⟨hg47, hf⟩ := pd_ig hf
      refine pd_iast dX12_copies_288 hg47 ?_
      refine pd_topF (fun F48 eF48 => ?_)
      have hf := pd_lt hf eF48
      clear eF48
      refine pd_iincN (L' := fun y => [pd_R x0, pd_I y]) dX12_copies_289 rfl (by decide) (by decide) (fun _ => rfl) (fun x1_289 ex1_289 => ?_)
      have hf := pd_lt hf ex1_289
      clear ex1_289
      refine pd_goto (tgt := 223) dX12_copies_292 (by decide) ?_
      exact pd_weak (L' := [pd_R x0, pd_I x1_289]) ⟨Or.inr rfl, Or.inr rfl, trivial⟩ (ih _ _ _ hf)
set_option maxHeartbeats 4000000 in
set_option maxRecDepth 100000 in
theorem pkX12_copies_b221 (E : pd_E) (l : Launch) {sh : pd_S} {n : Nat} {Fz : pd_F}  (F : pd_F) (x0 : Int) (hf : pfX12_copies_b221 sh n  F x0 = some Fz) : pd_V E l (pd_rm 1 0 0) (RX12, cX12_copies, 2, none, "copies") (pd_Qm E false none sh Fz 0 0) false 0 0 sh F 221 [pd_R x0, pd_N] [] := by
  unfold pfX12_copies_b221 at hf
  refine pd_iconst dX12_copies_221 (by decide) ?_
  refine pd_istore_n (L' := [pd_R x0, pd_I 0]) dX12_copies_222 rfl (by decide) rfl ?_
  exact pd_weak (L' := [pd_R x0, pd_I 0]) ⟨Or.inr rfl, Or.inr rfl, trivial⟩ (pkX12_copies_b223 E l n _ _ _ hf)
set_option maxHeartbeats 4000000 in
set_option maxRecDepth 100000 in
theorem pkX12_copies_b179 (E : pd_E) (l : Launch) {sh : pd_S} {n : Nat} {Fz : pd_F}  : ∀ (k : Nat) (F : pd_F) (x0 : Int) (x1 : Int), pfX12_copies_b179 sh n  k F x0 x1 = some Fz → pd_V E l (pd_rm 1 0 0) (RX12, cX12_copies, 2, none, "copies") (pd_Qm E false none sh Fz 0 0) false 0 0 sh F 179 [pd_R x0, pd_I x1] [] := by
  intro k
  induction k with
  | zero => intro F x0 x1 hf; exact absurd hf (by unfold pfX12_copies_b179; exact fun h => nomatch h)
  | succ k ih =>
    intro F x0 x1 hf
    unfold pfX12_copies_b179 at hf
    refine pd_iload_n (i := 1) dX12_copies_179 rfl rfl ?_
    refine pd_bipush dX12_copies_180 (by decide) ?_
    refine pd_icmp_ge (tgt := 221) dX12_copies_182 (by decide) (fun hc => ?_) (fun hc => ?_)
    · have hf := pd_ip hf hc
      exact pd_weak (L' := [pd_R x0, pd_N]) ⟨Or.inr rfl, Or.inl rfl, trivial⟩ (pkX12_copies_b221 E l _ _ hf)
    · have hf := pd_in_ hf hc
      refine pd_aload_n (i := 0) dX12_copies_185 rfl rfl ?_
      obtain ⟨hg49, hf⟩ := pd_ig hf
      refine pd_get (x := pd_R (F x0 27)) 27 dX12_copies_186 (show vwCl[12]? = some (RX12, TX12, 52) from rfl) pin_12 (by decide) pq_722 hg49 rfl ?_
      refine pd_iload_n (i := 1) dX12_copies_189 rfl rfl ?_
      refine pd_aload_n (i := 0) dX12_copies_190 rfl rfl ?_
      refine pd_get (x := pd_R (F x0 27)) 27 dX12_copies_191 (show vwCl[12]? = some (RX12, TX12, 52) from rfl) pin_12 (by decide) pq_722 hg49 rfl ?_
      refine pd_bipush dX12_copies_194 (by decide) ?_
      refine pd_iload_n (i := 1) dX12_copies_196 rfl rfl ?_
      refine pd_iadd dX12_copies_197 ?_
      obtain ⟨hg50, hf⟩ := pd_ig hf
      refine pd_iald dX12_copies_198 hg50 ?_
      obtain ⟨hg51, hf⟩ := pd_ig hf
      refine pd_iast dX12_copies_199 hg51 ?_
      refine pd_topF (fun F52 eF52 => ?_)
      have hf := pd_lt hf eF52
      clear eF52
      refine pd_aload_n (i := 0) dX12_copies_200 rfl rfl ?_
      refine pd_get (x := pd_R (F52 x0 28)) 28 dX12_copies_201 (show vwCl[12]? = some (RX12, TX12, 52) from rfl) pin_12 (by decide) pq_799 hg49 rfl ?_
      refine pd_iload_n (i := 1) dX12_copies_204 rfl rfl ?_
      refine pd_aload_n (i := 0) dX12_copies_205 rfl rfl ?_
      refine pd_get (x := pd_R (F52 x0 28)) 28 dX12_copies_206 (show vwCl[12]? = some (RX12, TX12, 52) from rfl) pin_12 (by decide) pq_799 hg49 rfl ?_
      refine pd_bipush dX12_copies_209 (by decide) ?_
      refine pd_iload_n (i := 1) dX12_copies_211 rfl rfl ?_
      refine pd_iadd dX12_copies_212 ?_
      obtain ⟨hg53, hf⟩ := pd_ig hf
      refine pd_iald dX12_copies_213 hg53 ?_
      obtain ⟨hg54, hf⟩ := pd_ig hf
      refine pd_iast dX12_copies_214 hg54 ?_
      refine pd_topF (fun F55 eF55 => ?_)
      have hf := pd_lt hf eF55
      clear eF55
      refine pd_iincN (L' := fun y => [pd_R x0, pd_I y]) dX12_copies_215 rfl (by decide) (by decide) (fun _ => rfl) (fun x1_215 ex1_215 => ?_)
      have hf := pd_lt hf ex1_215
      clear ex1_215
      refine pd_goto (tgt := 179) dX12_copies_218 (by decide) ?_
      exact pd_weak (L' := [pd_R x0, pd_I x1_215]) ⟨Or.inr rfl, Or.inr rfl, trivial⟩ (ih _ _ _ hf)
set_option maxHeartbeats 4000000 in
set_option maxRecDepth 100000 in
theorem pkX12_copies_b177 (E : pd_E) (l : Launch) {sh : pd_S} {n : Nat} {Fz : pd_F}  (F : pd_F) (x0 : Int) (hf : pfX12_copies_b177 sh n  F x0 = some Fz) : pd_V E l (pd_rm 1 0 0) (RX12, cX12_copies, 2, none, "copies") (pd_Qm E false none sh Fz 0 0) false 0 0 sh F 177 [pd_R x0, pd_N] [] := by
  unfold pfX12_copies_b177 at hf
  refine pd_iconst dX12_copies_177 (by decide) ?_
  refine pd_istore_n (L' := [pd_R x0, pd_I 0]) dX12_copies_178 rfl (by decide) rfl ?_
  exact pd_weak (L' := [pd_R x0, pd_I 0]) ⟨Or.inr rfl, Or.inr rfl, trivial⟩ (pkX12_copies_b179 E l n _ _ _ hf)
set_option maxHeartbeats 4000000 in
set_option maxRecDepth 100000 in
theorem pkX12_copies_b150 (E : pd_E) (l : Launch) {sh : pd_S} {n : Nat} {Fz : pd_F}  : ∀ (k : Nat) (F : pd_F) (x0 : Int) (x1 : Int), pfX12_copies_b150 sh n  k F x0 x1 = some Fz → pd_V E l (pd_rm 1 0 0) (RX12, cX12_copies, 2, none, "copies") (pd_Qm E false none sh Fz 0 0) false 0 0 sh F 150 [pd_R x0, pd_I x1] [] := by
  intro k
  induction k with
  | zero => intro F x0 x1 hf; exact absurd hf (by unfold pfX12_copies_b150; exact fun h => nomatch h)
  | succ k ih =>
    intro F x0 x1 hf
    unfold pfX12_copies_b150 at hf
    refine pd_iload_n (i := 1) dX12_copies_150 rfl rfl ?_
    refine pd_bipush dX12_copies_151 (by decide) ?_
    refine pd_icmp_ge (tgt := 177) dX12_copies_153 (by decide) (fun hc => ?_) (fun hc => ?_)
    · have hf := pd_ip hf hc
      exact pd_weak (L' := [pd_R x0, pd_N]) ⟨Or.inr rfl, Or.inl rfl, trivial⟩ (pkX12_copies_b177 E l _ _ hf)
    · have hf := pd_in_ hf hc
      refine pd_aload_n (i := 0) dX12_copies_156 rfl rfl ?_
      obtain ⟨hg56, hf⟩ := pd_ig hf
      refine pd_get (x := pd_R (F x0 26)) 26 dX12_copies_157 (show vwCl[12]? = some (RX12, TX12, 52) from rfl) pin_12 (by decide) pq_721 hg56 rfl ?_
      refine pd_iload_n (i := 1) dX12_copies_160 rfl rfl ?_
      refine pd_aload_n (i := 0) dX12_copies_161 rfl rfl ?_
      refine pd_get (x := pd_R (F x0 26)) 26 dX12_copies_162 (show vwCl[12]? = some (RX12, TX12, 52) from rfl) pin_12 (by decide) pq_721 hg56 rfl ?_
      refine pd_bipush dX12_copies_165 (by decide) ?_
      refine pd_iload_n (i := 1) dX12_copies_167 rfl rfl ?_
      refine pd_iadd dX12_copies_168 ?_
      obtain ⟨hg57, hf⟩ := pd_ig hf
      refine pd_iald dX12_copies_169 hg57 ?_
      obtain ⟨hg58, hf⟩ := pd_ig hf
      refine pd_iast dX12_copies_170 hg58 ?_
      refine pd_topF (fun F59 eF59 => ?_)
      have hf := pd_lt hf eF59
      clear eF59
      refine pd_iincN (L' := fun y => [pd_R x0, pd_I y]) dX12_copies_171 rfl (by decide) (by decide) (fun _ => rfl) (fun x1_171 ex1_171 => ?_)
      have hf := pd_lt hf ex1_171
      clear ex1_171
      refine pd_goto (tgt := 150) dX12_copies_174 (by decide) ?_
      exact pd_weak (L' := [pd_R x0, pd_I x1_171]) ⟨Or.inr rfl, Or.inr rfl, trivial⟩ (ih _ _ _ hf)
set_option maxHeartbeats 4000000 in
set_option maxRecDepth 100000 in
theorem pkX12_copies_b148 (E : pd_E) (l : Launch) {sh : pd_S} {n : Nat} {Fz : pd_F}  (F : pd_F) (x0 : Int) (hf : pfX12_copies_b148 sh n  F x0 = some Fz) : pd_V E l (pd_rm 1 0 0) (RX12, cX12_copies, 2, none, "copies") (pd_Qm E false none sh Fz 0 0) false 0 0 sh F 148 [pd_R x0, pd_N] [] := by
  unfold pfX12_copies_b148 at hf
  refine pd_iconst dX12_copies_148 (by decide) ?_
  refine pd_istore_n (L' := [pd_R x0, pd_I 0]) dX12_copies_149 rfl (by decide) rfl ?_
  exact pd_weak (L' := [pd_R x0, pd_I 0]) ⟨Or.inr rfl, Or.inr rfl, trivial⟩ (pkX12_copies_b150 E l n _ _ _ hf)
set_option maxHeartbeats 4000000 in
set_option maxRecDepth 100000 in
theorem pkX12_copies_b121 (E : pd_E) (l : Launch) {sh : pd_S} {n : Nat} {Fz : pd_F}  : ∀ (k : Nat) (F : pd_F) (x0 : Int) (x1 : Int), pfX12_copies_b121 sh n  k F x0 x1 = some Fz → pd_V E l (pd_rm 1 0 0) (RX12, cX12_copies, 2, none, "copies") (pd_Qm E false none sh Fz 0 0) false 0 0 sh F 121 [pd_R x0, pd_I x1] [] := by
  intro k
  induction k with
  | zero => intro F x0 x1 hf; exact absurd hf (by unfold pfX12_copies_b121; exact fun h => nomatch h)
  | succ k ih =>
    intro F x0 x1 hf
    unfold pfX12_copies_b121 at hf
    refine pd_iload_n (i := 1) dX12_copies_121 rfl rfl ?_
    refine pd_bipush dX12_copies_122 (by decide) ?_
    refine pd_icmp_ge (tgt := 148) dX12_copies_124 (by decide) (fun hc => ?_) (fun hc => ?_)
    · have hf := pd_ip hf hc
      exact pd_weak (L' := [pd_R x0, pd_N]) ⟨Or.inr rfl, Or.inl rfl, trivial⟩ (pkX12_copies_b148 E l _ _ hf)
    · have hf := pd_in_ hf hc
      refine pd_aload_n (i := 0) dX12_copies_127 rfl rfl ?_
      obtain ⟨hg60, hf⟩ := pd_ig hf
      refine pd_get (x := pd_R (F x0 21)) 21 dX12_copies_128 (show vwCl[12]? = some (RX12, TX12, 52) from rfl) pin_12 (by decide) pq_720 hg60 rfl ?_
      refine pd_iload_n (i := 1) dX12_copies_131 rfl rfl ?_
      refine pd_aload_n (i := 0) dX12_copies_132 rfl rfl ?_
      refine pd_get (x := pd_R (F x0 21)) 21 dX12_copies_133 (show vwCl[12]? = some (RX12, TX12, 52) from rfl) pin_12 (by decide) pq_720 hg60 rfl ?_
      refine pd_bipush dX12_copies_136 (by decide) ?_
      refine pd_iload_n (i := 1) dX12_copies_138 rfl rfl ?_
      refine pd_iadd dX12_copies_139 ?_
      obtain ⟨hg61, hf⟩ := pd_ig hf
      refine pd_iald dX12_copies_140 hg61 ?_
      obtain ⟨hg62, hf⟩ := pd_ig hf
      refine pd_iast dX12_copies_141 hg62 ?_
      refine pd_topF (fun F63 eF63 => ?_)
      have hf := pd_lt hf eF63
      clear eF63
      refine pd_iincN (L' := fun y => [pd_R x0, pd_I y]) dX12_copies_142 rfl (by decide) (by decide) (fun _ => rfl) (fun x1_142 ex1_142 => ?_)
      have hf := pd_lt hf ex1_142
      clear ex1_142
      refine pd_goto (tgt := 121) dX12_copies_145 (by decide) ?_
      exact pd_weak (L' := [pd_R x0, pd_I x1_142]) ⟨Or.inr rfl, Or.inr rfl, trivial⟩ (ih _ _ _ hf)
set_option maxHeartbeats 4000000 in
set_option maxRecDepth 100000 in
theorem pkX12_copies_b119 (E : pd_E) (l : Launch) {sh : pd_S} {n : Nat} {Fz : pd_F}  (F : pd_F) (x0 : Int) (hf : pfX12_copies_b119 sh n  F x0 = some Fz) : pd_V E l (pd_rm 1 0 0) (RX12, cX12_copies, 2, none, "copies") (pd_Qm E false none sh Fz 0 0) false 0 0 sh F 119 [pd_R x0, pd_N] [] := by
  unfold pfX12_copies_b119 at hf
  refine pd_iconst dX12_copies_119 (by decide) ?_
  refine pd_istore_n (L' := [pd_R x0, pd_I 0]) dX12_copies_120 rfl (by decide) rfl ?_
  exact pd_weak (L' := [pd_R x0, pd_I 0]) ⟨Or.inr rfl, Or.inr rfl, trivial⟩ (pkX12_copies_b121 E l n _ _ _ hf)
set_option maxHeartbeats 4000000 in
set_option maxRecDepth 100000 in
theorem pkX12_copies_b62 (E : pd_E) (l : Launch) {sh : pd_S} {n : Nat} {Fz : pd_F}  : ∀ (k : Nat) (F : pd_F) (x0 : Int) (x1 : Int), pfX12_copies_b62 sh n  k F x0 x1 = some Fz → pd_V E l (pd_rm 1 0 0) (RX12, cX12_copies, 2, none, "copies") (pd_Qm E false none sh Fz 0 0) false 0 0 sh F 62 [pd_R x0, pd_I x1] [] := by
  intro k
  induction k with
  | zero => intro F x0 x1 hf; exact absurd hf (by unfold pfX12_copies_b62; exact fun h => nomatch h)
  | succ k ih =>
    intro F x0 x1 hf
    unfold pfX12_copies_b62 at hf
    refine pd_iload_n (i := 1) dX12_copies_62 rfl rfl ?_
    refine pd_bipush dX12_copies_63 (by decide) ?_
    refine pd_icmp_ge (tgt := 119) dX12_copies_65 (by decide) (fun hc => ?_) (fun hc => ?_)
    · have hf := pd_ip hf hc
      exact pd_weak (L' := [pd_R x0, pd_N]) ⟨Or.inr rfl, Or.inl rfl, trivial⟩ (pkX12_copies_b119 E l _ _ hf)
    · have hf := pd_in_ hf hc
      refine pd_aload_n (i := 0) dX12_copies_68 rfl rfl ?_
      obtain ⟨hg64, hf⟩ := pd_ig hf
      refine pd_get (x := pd_R (F x0 19)) 19 dX12_copies_69 (show vwCl[12]? = some (RX12, TX12, 52) from rfl) pin_12 (by decide) pq_714 hg64 rfl ?_
      refine pd_iload_n (i := 1) dX12_copies_72 rfl rfl ?_
      refine pd_aload_n (i := 0) dX12_copies_73 rfl rfl ?_
      refine pd_get (x := pd_R (F x0 19)) 19 dX12_copies_74 (show vwCl[12]? = some (RX12, TX12, 52) from rfl) pin_12 (by decide) pq_714 hg64 rfl ?_
      refine pd_bipush dX12_copies_77 (by decide) ?_
      refine pd_iload_n (i := 1) dX12_copies_79 rfl rfl ?_
      refine pd_iadd dX12_copies_80 ?_
      obtain ⟨hg65, hf⟩ := pd_ig hf
      refine pd_lald dX12_copies_81 hg65 ?_
      obtain ⟨hg66, hf⟩ := pd_ig hf
      refine pd_last dX12_copies_82 hg66 ?_
      refine pd_topF (fun F67 eF67 => ?_)
      have hf := pd_lt hf eF67
      clear eF67
      refine pd_aload_n (i := 0) dX12_copies_83 rfl rfl ?_
      refine pd_get (x := pd_R (F67 x0 20)) 20 dX12_copies_84 (show vwCl[12]? = some (RX12, TX12, 52) from rfl) pin_12 (by decide) pq_719 hg64 rfl ?_
      refine pd_iload_n (i := 1) dX12_copies_87 rfl rfl ?_
      refine pd_aload_n (i := 0) dX12_copies_88 rfl rfl ?_
      refine pd_get (x := pd_R (F67 x0 20)) 20 dX12_copies_89 (show vwCl[12]? = some (RX12, TX12, 52) from rfl) pin_12 (by decide) pq_719 hg64 rfl ?_
      refine pd_bipush dX12_copies_92 (by decide) ?_
      refine pd_iload_n (i := 1) dX12_copies_94 rfl rfl ?_
      refine pd_iadd dX12_copies_95 ?_
      obtain ⟨hg68, hf⟩ := pd_ig hf
      refine pd_iald dX12_copies_96 hg68 ?_
      obtain ⟨hg69, hf⟩ := pd_ig hf
      refine pd_iast dX12_copies_97 hg69 ?_
      refine pd_topF (fun F70 eF70 => ?_)
      have hf := pd_lt hf eF70
      clear eF70
      refine pd_aload_n (i := 0) dX12_copies_98 rfl rfl ?_
      refine pd_get (x := pd_R (F70 x0 22)) 22 dX12_copies_99 (show vwCl[12]? = some (RX12, TX12, 52) from rfl) pin_12 (by decide) pq_825 hg64 rfl ?_
      refine pd_iload_n (i := 1) dX12_copies_102 rfl rfl ?_
      refine pd_aload_n (i := 0) dX12_copies_103 rfl rfl ?_
      refine pd_get (x := pd_R (F70 x0 22)) 22 dX12_copies_104 (show vwCl[12]? = some (RX12, TX12, 52) from rfl) pin_12 (by decide) pq_825 hg64 rfl ?_
      refine pd_bipush dX12_copies_107 (by decide) ?_
      refine pd_iload_n (i := 1) dX12_copies_109 rfl rfl ?_
      refine pd_iadd dX12_copies_110 ?_
      obtain ⟨hg71, hf⟩ := pd_ig hf
      refine pd_zald dX12_copies_111 hg71 ?_
      obtain ⟨hg72, hf⟩ := pd_ig hf
      obtain ⟨hg73, hf⟩ := pd_ig hf
      refine pd_zast hg73 dX12_copies_112 hg72 ?_
      refine pd_topF (fun F74 eF74 => ?_)
      have hf := pd_lt hf eF74
      clear eF74
      refine pd_iincN (L' := fun y => [pd_R x0, pd_I y]) dX12_copies_113 rfl (by decide) (by decide) (fun _ => rfl) (fun x1_113 ex1_113 => ?_)
      have hf := pd_lt hf ex1_113
      clear ex1_113
      refine pd_goto (tgt := 62) dX12_copies_116 (by decide) ?_
      exact pd_weak (L' := [pd_R x0, pd_I x1_113]) ⟨Or.inr rfl, Or.inr rfl, trivial⟩ (ih _ _ _ hf)
set_option maxHeartbeats 4000000 in
set_option maxRecDepth 100000 in
theorem pkX12_copies (l : Launch) {sh : pd_S} {n : Nat} {F : pd_F} {x0 : Int} {Fz : pd_F} (hf : pfX12_copies sh n F x0 = some Fz) : pd_C l yX12_copies (Cond.code yX12_copies cX12_copies 2 none :: pd_gt) (pd_rm 1 0 0) false 0 0 sh F [pd_R x0] none sh Fz := by
  unfold pfX12_copies at hf
  refine pd_body (L := [pd_R x0, pd_N]) (by decide +kernel) (Nat.le_of_ble_eq_true rfl) rfl (fun E => ?_)
  refine pd_aload_n (i := 0) dX12_copies_0 rfl rfl ?_
  obtain ⟨hg75, hf⟩ := pd_ig hf
  refine pd_get (x := pd_R (F x0 14)) 14 dX12_copies_1 (show vwCl[12]? = some (RX12, TX12, 52) from rfl) pin_12 (by decide) pq_712 hg75 rfl ?_
  refine pd_iconst dX12_copies_4 (by decide) ?_
  refine pd_aload_n (i := 0) dX12_copies_5 rfl rfl ?_
  refine pd_get (x := pd_R (F x0 14)) 14 dX12_copies_6 (show vwCl[12]? = some (RX12, TX12, 52) from rfl) pin_12 (by decide) pq_712 hg75 rfl ?_
  refine pd_iconst dX12_copies_9 (by decide) ?_
  obtain ⟨hg76, hf⟩ := pd_ig hf
  refine pd_iald dX12_copies_10 hg76 ?_
  obtain ⟨hg77, hf⟩ := pd_ig hf
  refine pd_iast dX12_copies_11 hg77 ?_
  refine pd_topF (fun F78 eF78 => ?_)
  have hf := pd_lt hf eF78
  clear eF78
  refine pd_aload_n (i := 0) dX12_copies_12 rfl rfl ?_
  refine pd_get (x := pd_R (F78 x0 15)) 15 dX12_copies_13 (show vwCl[12]? = some (RX12, TX12, 52) from rfl) pin_12 (by decide) pq_715 hg75 rfl ?_
  refine pd_iconst dX12_copies_16 (by decide) ?_
  refine pd_aload_n (i := 0) dX12_copies_17 rfl rfl ?_
  refine pd_get (x := pd_R (F78 x0 15)) 15 dX12_copies_18 (show vwCl[12]? = some (RX12, TX12, 52) from rfl) pin_12 (by decide) pq_715 hg75 rfl ?_
  refine pd_iconst dX12_copies_21 (by decide) ?_
  obtain ⟨hg79, hf⟩ := pd_ig hf
  refine pd_iald dX12_copies_22 hg79 ?_
  obtain ⟨hg80, hf⟩ := pd_ig hf
  refine pd_iast dX12_copies_23 hg80 ?_
  refine pd_topF (fun F81 eF81 => ?_)
  have hf := pd_lt hf eF81
  clear eF81
  refine pd_aload_n (i := 0) dX12_copies_24 rfl rfl ?_
  refine pd_get (x := pd_R (F81 x0 16)) 16 dX12_copies_25 (show vwCl[12]? = some (RX12, TX12, 52) from rfl) pin_12 (by decide) pq_717 hg75 rfl ?_
  refine pd_iconst dX12_copies_28 (by decide) ?_
  refine pd_aload_n (i := 0) dX12_copies_29 rfl rfl ?_
  refine pd_get (x := pd_R (F81 x0 16)) 16 dX12_copies_30 (show vwCl[12]? = some (RX12, TX12, 52) from rfl) pin_12 (by decide) pq_717 hg75 rfl ?_
  refine pd_iconst dX12_copies_33 (by decide) ?_
  obtain ⟨hg82, hf⟩ := pd_ig hf
  refine pd_iald dX12_copies_34 hg82 ?_
  obtain ⟨hg83, hf⟩ := pd_ig hf
  refine pd_iast dX12_copies_35 hg83 ?_
  refine pd_topF (fun F84 eF84 => ?_)
  have hf := pd_lt hf eF84
  clear eF84
  refine pd_aload_n (i := 0) dX12_copies_36 rfl rfl ?_
  refine pd_get (x := pd_R (F84 x0 17)) 17 dX12_copies_37 (show vwCl[12]? = some (RX12, TX12, 52) from rfl) pin_12 (by decide) pq_810 hg75 rfl ?_
  refine pd_iconst dX12_copies_40 (by decide) ?_
  refine pd_aload_n (i := 0) dX12_copies_41 rfl rfl ?_
  refine pd_get (x := pd_R (F84 x0 17)) 17 dX12_copies_42 (show vwCl[12]? = some (RX12, TX12, 52) from rfl) pin_12 (by decide) pq_810 hg75 rfl ?_
  refine pd_iconst dX12_copies_45 (by decide) ?_
  obtain ⟨hg85, hf⟩ := pd_ig hf
  refine pd_iald dX12_copies_46 hg85 ?_
  obtain ⟨hg86, hf⟩ := pd_ig hf
  refine pd_iast dX12_copies_47 hg86 ?_
  refine pd_topF (fun F87 eF87 => ?_)
  have hf := pd_lt hf eF87
  clear eF87
  refine pd_aload_n (i := 0) dX12_copies_48 rfl rfl ?_
  refine pd_get (x := pd_R (F87 x0 18)) 18 dX12_copies_49 (show vwCl[12]? = some (RX12, TX12, 52) from rfl) pin_12 (by decide) pq_820 hg75 rfl ?_
  refine pd_iconst dX12_copies_52 (by decide) ?_
  refine pd_aload_n (i := 0) dX12_copies_53 rfl rfl ?_
  refine pd_get (x := pd_R (F87 x0 18)) 18 dX12_copies_54 (show vwCl[12]? = some (RX12, TX12, 52) from rfl) pin_12 (by decide) pq_820 hg75 rfl ?_
  refine pd_iconst dX12_copies_57 (by decide) ?_
  obtain ⟨hg88, hf⟩ := pd_ig hf
  refine pd_iald dX12_copies_58 hg88 ?_
  obtain ⟨hg89, hf⟩ := pd_ig hf
  refine pd_iast dX12_copies_59 hg89 ?_
  refine pd_topF (fun F90 eF90 => ?_)
  have hf := pd_lt hf eF90
  clear eF90
  refine pd_iconst dX12_copies_60 (by decide) ?_
  refine pd_istore_n (L' := [pd_R x0, pd_I 0]) dX12_copies_61 rfl (by decide) rfl ?_
  exact pd_weak (L' := [pd_R x0, pd_I 0]) ⟨Or.inr rfl, Or.inr rfl, trivial⟩ (pkX12_copies_b62 E l n _ _ _ hf)
set_option maxHeartbeats 4000000 in
set_option maxRecDepth 100000 in
theorem pkX12_book_b124 (E : pd_E) (l : Launch) {sh : pd_S} {n : Nat} {ρ : Int} {Fz : pd_F} {c109 : pd_F → Int → Int → Int → Option (Int × pd_F)} (hL109 : ∀ (F : pd_F) (x0 : Int) (x2 : Int) (x3 : Int), c109 F x0 x2 x3 = some (ρ, Fz) → pd_V E l (pd_rm 13 0 0) (RX12, cX12_book, 5, (some .int), "book") (pd_Qm E false (some (pd_I ρ)) sh Fz 0 0) false 0 0 sh F 109 [pd_R x0, pd_N, pd_I x2, pd_I x3, pd_N] []) (F : pd_F) (x0 : Int) (x2 : Int) (hf : pfX12_book_b124 sh n c109 F x0 x2 = some (ρ, Fz)) : pd_V E l (pd_rm 13 0 0) (RX12, cX12_book, 5, (some .int), "book") (pd_Qm E false (some (pd_I ρ)) sh Fz 0 0) false 0 0 sh F 124 [pd_R x0, pd_N, pd_I x2, pd_N, pd_N] [] := by
  unfold pfX12_book_b124 at hf
  refine pd_aload_n (i := 0) dX12_book_124 rfl rfl ?_
  obtain ⟨hg3, hf⟩ := pd_ig hf
  obtain ⟨r2, F1, hr, hf⟩ := pd_ob2 hf
  refine pd_callV (pkX12_lineHere l hr) dX12_book_125 pq_880 pq_883 pq_884 (show vwCl[12]? = some (yX12_lineHere.cls, TX12, 52) from rfl) hg3 (pd_okm (by omega) (by decide) pq_881 pq_882 (by decide) (show (parseMethodDescriptor yX12_lineHere.desc).map (fun d => d.parameters.length) = some 0 from by decide +kernel)) (Nat.le_of_ble_eq_true rfl) rfl ?_
  refine pd_istore_n (L' := [pd_R x0, pd_N, pd_I x2, pd_I r2, pd_N]) dX12_book_128 rfl (by decide) rfl ?_
  refine pd_iincN (L' := fun y => [pd_R x0, pd_N, pd_I y, pd_I r2, pd_N]) dX12_book_129 rfl (by decide) (by decide) (fun _ => rfl) (fun x2_129 ex2_129 => ?_)
  have hf := pd_lt hf ex2_129
  clear ex2_129
  refine pd_goto (tgt := 109) dX12_book_132 (by decide) ?_
  exact pd_weak (L' := [pd_R x0, pd_N, pd_I x2_129, pd_I r2, pd_N]) ⟨Or.inr rfl, Or.inr rfl, Or.inr rfl, Or.inr rfl, Or.inr rfl, trivial⟩ (hL109 _ _ _ _ hf)
set_option maxHeartbeats 4000000 in
set_option maxRecDepth 100000 in
theorem pkX12_book_b177 (E : pd_E) (l : Launch) {sh : pd_S} {n : Nat} {ρ : Int} {Fz : pd_F}  : ∀ (k : Nat) (F : pd_F) (x0 : Int) (x2 : Int) (x4 : Int), pfX12_book_b177 sh n  k F x0 x2 x4 = some (ρ, Fz) → pd_V E l (pd_rm 13 0 0) (RX12, cX12_book, 5, (some .int), "book") (pd_Qm E false (some (pd_I ρ)) sh Fz 0 0) false 0 0 sh F 177 [pd_R x0, pd_N, pd_I x2, pd_N, pd_I x4] [] := by
  intro k
  induction k with
  | zero => intro F x0 x2 x4 hf; exact absurd hf (by unfold pfX12_book_b177; exact fun h => nomatch h)
  | succ k ih =>
    intro F x0 x2 x4 hf
    unfold pfX12_book_b177 at hf
    refine pd_iload (i := 4) dX12_book_177 rfl ?_
    refine pd_iconst dX12_book_179 (by decide) ?_
    refine pd_icmp_ge (tgt := 197) dX12_book_180 (by decide) (fun hc => ?_) (fun hc => ?_)
    · have hf := pd_ip hf hc
      refine pd_iload_n (i := 2) dX12_book_197 rfl rfl ?_
      obtain ⟨h1, h2⟩ := pd_inj hf
      subst h1 h2
      exact pd_iret dX12_book_198 rfl (Nat.le_refl 0) (Nat.le_refl 0)
    · have hf := pd_in_ hf hc
      refine pd_aload_n (i := 0) dX12_book_183 rfl rfl ?_
      obtain ⟨hg4, hf⟩ := pd_ig hf
      refine pd_get (x := pd_R (F x0 43)) 43 dX12_book_184 (show vwCl[12]? = some (RX12, TX12, 52) from rfl) pin_12 (by decide) pq_885 hg4 rfl ?_
      refine pd_iload (i := 4) dX12_book_187 rfl ?_
      refine pd_iconst dX12_book_189 (by decide) ?_
      obtain ⟨hg5, hf⟩ := pd_ig hf
      refine pd_zast (by decide) dX12_book_190 hg5 ?_
      refine pd_topF (fun F6 eF6 => ?_)
      have hf := pd_lt hf eF6
      clear eF6
      refine pd_iincN (L' := fun y => [pd_R x0, pd_N, pd_I x2, pd_N, pd_I y]) dX12_book_191 rfl (by decide) (by decide) (fun _ => rfl) (fun x4_191 ex4_191 => ?_)
      have hf := pd_lt hf ex4_191
      clear ex4_191
      refine pd_goto (tgt := 177) dX12_book_194 (by decide) ?_
      exact pd_weak (L' := [pd_R x0, pd_N, pd_I x2, pd_N, pd_I x4_191]) ⟨Or.inr rfl, Or.inr rfl, Or.inr rfl, Or.inr rfl, Or.inr rfl, trivial⟩ (ih _ _ _ _ hf)
set_option maxHeartbeats 4000000 in
set_option maxRecDepth 100000 in
theorem pkX12_book_b135 (E : pd_E) (l : Launch) {sh : pd_S} {n : Nat} {ρ : Int} {Fz : pd_F}  (F : pd_F) (x0 : Int) (x2 : Int) (x3 : Int) (hf : pfX12_book_b135 sh n  F x0 x2 x3 = some (ρ, Fz)) : pd_V E l (pd_rm 13 0 0) (RX12, cX12_book, 5, (some .int), "book") (pd_Qm E false (some (pd_I ρ)) sh Fz 0 0) false 0 0 sh F 135 [pd_R x0, pd_N, pd_I x2, pd_I x3, pd_N] [] := by
  unfold pfX12_book_b135 at hf
  refine pd_aload_n (i := 0) dX12_book_135 rfl rfl ?_
  refine pd_iconst dX12_book_136 (by decide) ?_
  obtain ⟨hg7, hf⟩ := pd_ig hf
  refine pd_put (n := 0) (x := pd_I 0) 13 dX12_book_137 (show vwCl[12]? = some (RX12, TX12, 52) from rfl) pin_12 tyX12_ok nmX12 (by decide) pq_713 rfl hg7 rfl pd_nrI pd_ftI ?_
  refine pd_topF (fun F8 eF8 => ?_)
  have hf := pd_lt hf eF8
  clear eF8
  refine pd_iload_n (i := 3) dX12_book_140 rfl rfl ?_
  refine pd_if_ne (tgt := 160) dX12_book_141 (by decide) (fun hc => ?_) (fun hc => ?_)
  · have hf := pd_ip hf hc
    refine pd_aload_n (i := 0) dX12_book_160 rfl rfl ?_
    obtain ⟨F9, hr, hf⟩ := pd_ob1 hf
    refine pd_callV (pkX12_copies l hr) dX12_book_161 pq_886 pq_889 pq_890 (show vwCl[12]? = some (yX12_copies.cls, TX12, 52) from rfl) hg7 (pd_okm (by omega) (by decide) pq_887 pq_888 (by decide) (show (parseMethodDescriptor yX12_copies.desc).map (fun d => d.parameters.length) = some 0 from by decide +kernel)) (Nat.le_of_ble_eq_true rfl) rfl ?_
    refine pd_aload_n (i := 0) dX12_book_164 rfl rfl ?_
    refine pd_iconst dX12_book_165 (by decide) ?_
    refine pd_put (n := 1) (x := pd_I 1) 12 dX12_book_166 (show vwCl[12]? = some (RX12, TX12, 52) from rfl) pin_12 tyX12_ok nmX12 (by decide) pq_891 rfl hg7 rfl (pd_nrZ (by decide)) (pd_ftZ (by decide)) ?_
    refine pd_topF (fun F10 eF10 => ?_)
    have hf := pd_lt hf eF10
    clear eF10
    refine pd_aload_n (i := 0) dX12_book_169 rfl rfl ?_
    refine pd_iconst dX12_book_170 (by decide) ?_
    refine pd_put (n := 0) (x := pd_I 0) 41 dX12_book_171 (show vwCl[12]? = some (RX12, TX12, 52) from rfl) pin_12 tyX12_ok nmX12 (by decide) pq_892 rfl hg7 rfl pd_nrI pd_ftI ?_
    refine pd_topF (fun F11 eF11 => ?_)
    have hf := pd_lt hf eF11
    clear eF11
    refine pd_iconst dX12_book_174 (by decide) ?_
    refine pd_istore (L' := [pd_R x0, pd_N, pd_I x2, pd_I x3, pd_I 0]) dX12_book_175 (by decide) rfl ?_
    exact pd_weak (L' := [pd_R x0, pd_N, pd_I x2, pd_N, pd_I 0]) ⟨Or.inr rfl, Or.inr rfl, Or.inr rfl, Or.inl rfl, Or.inr rfl, trivial⟩ (pkX12_book_b177 E l n _ _ _ _ hf)
  · have hf := pd_iq hf hc
    refine pd_bipush dX12_book_144 (by decide) ?_
    refine pd_bipush dX12_book_146 (by decide) ?_
    refine pd_aload_n (i := 0) dX12_book_148 rfl rfl ?_
    refine pd_get (x := pd_I (F8 x0 10)) 10 dX12_book_149 (show vwCl[12]? = some (RX12, TX12, 52) from rfl) pin_12 (by decide) pq_710 hg7 rfl ?_
    refine pd_imul dX12_book_152 ?_
    refine pd_aload_n (i := 0) dX12_book_153 rfl rfl ?_
    refine pd_get (x := pd_I (F8 x0 9)) 9 dX12_book_154 (show vwCl[12]? = some (RX12, TX12, 52) from rfl) pin_12 (by decide) pq_708 hg7 rfl ?_
    refine pd_iadd dX12_book_157 ?_
    refine pd_isub dX12_book_158 ?_
    obtain ⟨h1, h2⟩ := pd_inj hf
    subst h1 h2
    exact pd_iret dX12_book_159 rfl (Nat.le_refl 0) (Nat.le_refl 0)
set_option maxHeartbeats 4000000 in
set_option maxRecDepth 100000 in
theorem pkX12_book_b109 (E : pd_E) (l : Launch) {sh : pd_S} {n : Nat} {ρ : Int} {Fz : pd_F}  : ∀ (k : Nat) (F : pd_F) (x0 : Int) (x2 : Int) (x3 : Int), pfX12_book_b109 sh n  k F x0 x2 x3 = some (ρ, Fz) → pd_V E l (pd_rm 13 0 0) (RX12, cX12_book, 5, (some .int), "book") (pd_Qm E false (some (pd_I ρ)) sh Fz 0 0) false 0 0 sh F 109 [pd_R x0, pd_N, pd_I x2, pd_I x3, pd_N] [] := by
  intro k
  induction k with
  | zero => intro F x0 x2 x3 hf; exact absurd hf (by unfold pfX12_book_b109; exact fun h => nomatch h)
  | succ k ih =>
    intro F x0 x2 x3 hf
    unfold pfX12_book_b109 at hf
    refine pd_iload_n (i := 3) dX12_book_109 rfl rfl ?_
    refine pd_if_eq (tgt := 135) dX12_book_110 (by decide) (fun hc => ?_) (fun hc => ?_)
    · have hf := pd_ip hf hc
      exact pd_weak (L' := [pd_R x0, pd_N, pd_I x2, pd_I x3, pd_N]) ⟨Or.inr rfl, Or.inr rfl, Or.inr rfl, Or.inr rfl, Or.inr rfl, trivial⟩ (pkX12_book_b135 E l _ _ _ _ hf)
    · have hf := pd_in_ hf hc
      refine pd_aload_n (i := 0) dX12_book_113 rfl rfl ?_
      obtain ⟨hg12, hf⟩ := pd_ig hf
      refine pd_get (x := pd_I (F x0 6)) 6 dX12_book_114 (show vwCl[12]? = some (RX12, TX12, 52) from rfl) pin_12 (by decide) pq_730 hg12 rfl ?_
      refine pd_if_ne (tgt := 124) dX12_book_117 (by decide) (fun hc => ?_) (fun hc => ?_)
      · have hf := pd_ip hf hc
        exact pd_weak (L' := [pd_R x0, pd_N, pd_I x2, pd_N, pd_N]) ⟨Or.inr rfl, Or.inr rfl, Or.inr rfl, Or.inl rfl, Or.inr rfl, trivial⟩ (pkX12_book_b124 E l ih _ _ _ hf)
      · have hf := pd_iq hf hc
        refine pd_iload_n (i := 2) dX12_book_120 rfl rfl ?_
        refine pd_if_ne (tgt := 135) dX12_book_121 (by decide) (fun hc => ?_) (fun hc => ?_)
        · have hf := pd_ip hf hc
          exact pd_weak (L' := [pd_R x0, pd_N, pd_I x2, pd_I x3, pd_N]) ⟨Or.inr rfl, Or.inr rfl, Or.inr rfl, Or.inr rfl, Or.inr rfl, trivial⟩ (pkX12_book_b135 E l _ _ _ _ hf)
        · have hf := pd_iq hf hc
          exact pd_weak (L' := [pd_R x0, pd_N, pd_I x2, pd_N, pd_N]) ⟨Or.inr rfl, Or.inr rfl, Or.inr rfl, Or.inl rfl, Or.inr rfl, trivial⟩ (pkX12_book_b124 E l ih _ _ _ hf)
set_option maxHeartbeats 4000000 in
set_option maxRecDepth 100000 in
theorem pkX12_book_b101 (E : pd_E) (l : Launch) {sh : pd_S} {n : Nat} {ρ : Int} {Fz : pd_F}  (F : pd_F) (x0 : Int) (hf : pfX12_book_b101 sh n  F x0 = some (ρ, Fz)) : pd_V E l (pd_rm 13 0 0) (RX12, cX12_book, 5, (some .int), "book") (pd_Qm E false (some (pd_I ρ)) sh Fz 0 0) false 0 0 sh F 101 [pd_R x0, pd_N, pd_N, pd_N, pd_N] [] := by
  unfold pfX12_book_b101 at hf
  refine pd_aload_n (i := 0) dX12_book_101 rfl rfl ?_
  obtain ⟨hg14, hf⟩ := pd_ig hf
  obtain ⟨F13, hr, hf⟩ := pd_ob1 hf
  refine pd_callV (pkX12_steps l hr) dX12_book_102 pq_769 pq_772 pq_773 (show vwCl[12]? = some (yX12_steps.cls, TX12, 52) from rfl) hg14 (pd_okm (by omega) (by decide) pq_770 pq_771 (by decide) (show (parseMethodDescriptor yX12_steps.desc).map (fun d => d.parameters.length) = some 0 from by decide +kernel)) (Nat.le_of_ble_eq_true rfl) rfl ?_
  refine pd_iconst dX12_book_105 (by decide) ?_
  refine pd_istore_n (L' := [pd_R x0, pd_N, pd_I 0, pd_N, pd_N]) dX12_book_106 rfl (by decide) rfl ?_
  refine pd_iconst dX12_book_107 (by decide) ?_
  refine pd_istore_n (L' := [pd_R x0, pd_N, pd_I 0, pd_I 1, pd_N]) dX12_book_108 rfl (by decide) rfl ?_
  exact pd_weak (L' := [pd_R x0, pd_N, pd_I 0, pd_I 1, pd_N]) ⟨Or.inr rfl, Or.inr rfl, Or.inr rfl, Or.inr rfl, Or.inr rfl, trivial⟩ (pkX12_book_b109 E l n _ _ _ _ hf)
set_option maxHeartbeats 4000000 in
set_option maxRecDepth 100000 in
theorem pkX12_book_b83 (E : pd_E) (l : Launch) {sh : pd_S} {n : Nat} {ρ : Int} {Fz : pd_F}  : ∀ (k : Nat) (F : pd_F) (x0 : Int) (x2 : Int), pfX12_book_b83 sh n  k F x0 x2 = some (ρ, Fz) → pd_V E l (pd_rm 13 0 0) (RX12, cX12_book, 5, (some .int), "book") (pd_Qm E false (some (pd_I ρ)) sh Fz 0 0) false 0 0 sh F 83 [pd_R x0, pd_N, pd_I x2, pd_N, pd_N] [] := by
  intro k
  induction k with
  | zero => intro F x0 x2 hf; exact absurd hf (by unfold pfX12_book_b83; exact fun h => nomatch h)
  | succ k ih =>
    intro F x0 x2 hf
    unfold pfX12_book_b83 at hf
    refine pd_iload_n (i := 2) dX12_book_83 rfl rfl ?_
    refine pd_iconst dX12_book_84 (by decide) ?_
    refine pd_icmp_ge (tgt := 101) dX12_book_85 (by decide) (fun hc => ?_) (fun hc => ?_)
    · have hf := pd_ip hf hc
      exact pd_weak (L' := [pd_R x0, pd_N, pd_N, pd_N, pd_N]) ⟨Or.inr rfl, Or.inr rfl, Or.inl rfl, Or.inr rfl, Or.inr rfl, trivial⟩ (pkX12_book_b101 E l _ _ hf)
    · have hf := pd_in_ hf hc
      refine pd_aload_n (i := 0) dX12_book_88 rfl rfl ?_
      obtain ⟨hg15, hf⟩ := pd_ig hf
      refine pd_get (x := pd_R (F x0 37)) 37 dX12_book_89 (show vwCl[12]? = some (RX12, TX12, 52) from rfl) pin_12 (by decide) pq_786 hg15 rfl ?_
      refine pd_iload_n (i := 2) dX12_book_92 rfl rfl ?_
      refine pd_iconst dX12_book_93 (by decide) ?_
      obtain ⟨hg16, hf⟩ := pd_ig hf
      refine pd_zast (by decide) dX12_book_94 hg16 ?_
      refine pd_topF (fun F17 eF17 => ?_)
      have hf := pd_lt hf eF17
      clear eF17
      refine pd_iincN (L' := fun y => [pd_R x0, pd_N, pd_I y, pd_N, pd_N]) dX12_book_95 rfl (by decide) (by decide) (fun _ => rfl) (fun x2_95 ex2_95 => ?_)
      have hf := pd_lt hf ex2_95
      clear ex2_95
      refine pd_goto (tgt := 83) dX12_book_98 (by decide) ?_
      exact pd_weak (L' := [pd_R x0, pd_N, pd_I x2_95, pd_N, pd_N]) ⟨Or.inr rfl, Or.inr rfl, Or.inr rfl, Or.inr rfl, Or.inr rfl, trivial⟩ (ih _ _ _ hf)
set_option maxHeartbeats 4000000 in
set_option maxRecDepth 100000 in
theorem pkX12_book (l : Launch) {sh : pd_S} {n : Nat} {F : pd_F} {x0 : Int} {x1 : Int} {ρ : Int} {Fz : pd_F} (hf : pfX12_book sh n F x0 x1 = some (ρ, Fz)) : pd_C l yX12_book (Cond.code yX12_book cX12_book 5 (some .int) :: pd_gt) (pd_rm 13 0 0) false 0 0 sh F [pd_R x0, pd_I x1] (some (pd_I ρ)) sh Fz := by
  unfold pfX12_book at hf
  refine pd_body (L := [pd_R x0, pd_I x1, pd_N, pd_N, pd_N]) (by decide +kernel) (Nat.le_of_ble_eq_true rfl) rfl (fun E => ?_)
  refine pd_aload_n (i := 0) dX12_book_0 rfl rfl ?_
  refine pd_iconst dX12_book_1 (by decide) ?_
  obtain ⟨hg18, hf⟩ := pd_ig hf
  refine pd_put (n := 0) (x := pd_I 0) 0 dX12_book_2 (show vwCl[12]? = some (RX12, TX12, 52) from rfl) pin_12 tyX12_ok nmX12 (by decide) pq_704 rfl hg18 rfl pd_nrI pd_ftI ?_
  refine pd_topF (fun F19 eF19 => ?_)
  have hf := pd_lt hf eF19
  clear eF19
  refine pd_iload_n (i := 1) dX12_book_5 rfl rfl ?_
  refine pd_i2l dX12_book_6 ?_
  refine pd_lconst (x := 0) dX12_book_7 (by decide) ?_
  refine pd_aload_n (i := 0) dX12_book_8 rfl rfl ?_
  refine pd_get (x := pd_I (F19 x0 2)) 2 dX12_book_9 (show vwCl[12]? = some (RX12, TX12, 52) from rfl) pin_12 (by decide) pq_706 hg18 rfl ?_
  refine pd_i2l dX12_book_12 ?_
  obtain ⟨r21, F20, hr, hf⟩ := pd_ob2 hf
  refine pd_callS (pkX12_within l hr) dX12_book_13 pq_738 pq_741 (pd_okm (by omega) (by decide) pq_739 pq_740 (by decide) (show (parseMethodDescriptor yX12_within.desc).map (fun d => d.parameters.length) = some 3 from by decide +kernel)) (Nat.le_of_ble_eq_true rfl) rfl ?_
  refine pd_if_ne (tgt := 21) dX12_book_16 (by decide) (fun hc => ?_) (fun hc => ?_)
  · have hf := pd_ip hf hc
    refine pd_aload_n (i := 0) dX12_book_21 rfl rfl ?_
    refine pd_iconst dX12_book_22 (by decide) ?_
    refine pd_put (n := 0) (x := pd_I 0) 2 dX12_book_23 (show vwCl[12]? = some (RX12, TX12, 52) from rfl) pin_12 tyX12_ok nmX12 (by decide) pq_706 rfl hg18 rfl pd_nrI pd_ftI ?_
    refine pd_topF (fun F22 eF22 => ?_)
    have hf := pd_lt hf eF22
    clear eF22
    refine pd_aload_n (i := 0) dX12_book_26 rfl rfl ?_
    refine pd_iload_n (i := 1) dX12_book_27 rfl rfl ?_
    refine pd_put (n := x1) (x := pd_I x1) 3 dX12_book_28 (show vwCl[12]? = some (RX12, TX12, 52) from rfl) pin_12 tyX12_ok nmX12 (by decide) pq_707 rfl hg18 rfl pd_nrI pd_ftI ?_
    refine pd_topF (fun F23 eF23 => ?_)
    have hf := pd_lt hf eF23
    clear eF23
    refine pd_aload_n (i := 0) dX12_book_31 rfl rfl ?_
    refine pd_iconst dX12_book_32 (by decide) ?_
    refine pd_put (n := 0) (x := pd_I 0) 5 dX12_book_33 (show vwCl[12]? = some (RX12, TX12, 52) from rfl) pin_12 tyX12_ok nmX12 (by decide) pq_729 rfl hg18 rfl pd_nrI pd_ftI ?_
    refine pd_topF (fun F24 eF24 => ?_)
    have hf := pd_lt hf eF24
    clear eF24
    refine pd_aload_n (i := 0) dX12_book_36 rfl rfl ?_
    refine pd_iconst dX12_book_37 (by decide) ?_
    refine pd_put (n := 0) (x := pd_I 0) 9 dX12_book_38 (show vwCl[12]? = some (RX12, TX12, 52) from rfl) pin_12 tyX12_ok nmX12 (by decide) pq_708 rfl hg18 rfl pd_nrI pd_ftI ?_
    refine pd_topF (fun F25 eF25 => ?_)
    have hf := pd_lt hf eF25
    clear eF25
    refine pd_aload_n (i := 0) dX12_book_41 rfl rfl ?_
    refine pd_iconst dX12_book_42 (by decide) ?_
    refine pd_put (n := 1) (x := pd_I 1) 13 dX12_book_43 (show vwCl[12]? = some (RX12, TX12, 52) from rfl) pin_12 tyX12_ok nmX12 (by decide) pq_713 rfl hg18 rfl pd_nrI pd_ftI ?_
    refine pd_topF (fun F26 eF26 => ?_)
    have hf := pd_lt hf eF26
    clear eF26
    refine pd_aload_n (i := 0) dX12_book_46 rfl rfl ?_
    refine pd_get (x := pd_R (F26 x0 14)) 14 dX12_book_47 (show vwCl[12]? = some (RX12, TX12, 52) from rfl) pin_12 (by decide) pq_712 hg18 rfl ?_
    refine pd_iconst dX12_book_50 (by decide) ?_
    refine pd_iconst dX12_book_51 (by decide) ?_
    obtain ⟨hg27, hf⟩ := pd_ig hf
    refine pd_iast dX12_book_52 hg27 ?_
    refine pd_topF (fun F28 eF28 => ?_)
    have hf := pd_lt hf eF28
    clear eF28
    refine pd_aload_n (i := 0) dX12_book_53 rfl rfl ?_
    refine pd_get (x := pd_R (F28 x0 15)) 15 dX12_book_54 (show vwCl[12]? = some (RX12, TX12, 52) from rfl) pin_12 (by decide) pq_715 hg18 rfl ?_
    refine pd_iconst dX12_book_57 (by decide) ?_
    refine pd_iconst dX12_book_58 (by decide) ?_
    obtain ⟨hg29, hf⟩ := pd_ig hf
    refine pd_iast dX12_book_59 hg29 ?_
    refine pd_topF (fun F30 eF30 => ?_)
    have hf := pd_lt hf eF30
    clear eF30
    refine pd_aload_n (i := 0) dX12_book_60 rfl rfl ?_
    refine pd_get (x := pd_R (F30 x0 16)) 16 dX12_book_61 (show vwCl[12]? = some (RX12, TX12, 52) from rfl) pin_12 (by decide) pq_717 hg18 rfl ?_
    refine pd_iconst dX12_book_64 (by decide) ?_
    refine pd_iconst dX12_book_65 (by decide) ?_
    obtain ⟨hg31, hf⟩ := pd_ig hf
    refine pd_iast dX12_book_66 hg31 ?_
    refine pd_topF (fun F32 eF32 => ?_)
    have hf := pd_lt hf eF32
    clear eF32
    refine pd_aload_n (i := 0) dX12_book_67 rfl rfl ?_
    refine pd_get (x := pd_R (F32 x0 17)) 17 dX12_book_68 (show vwCl[12]? = some (RX12, TX12, 52) from rfl) pin_12 (by decide) pq_810 hg18 rfl ?_
    refine pd_iconst dX12_book_71 (by decide) ?_
    refine pd_iconst dX12_book_72 (by decide) ?_
    obtain ⟨hg33, hf⟩ := pd_ig hf
    refine pd_iast dX12_book_73 hg33 ?_
    refine pd_topF (fun F34 eF34 => ?_)
    have hf := pd_lt hf eF34
    clear eF34
    refine pd_aload_n (i := 0) dX12_book_74 rfl rfl ?_
    refine pd_get (x := pd_R (F34 x0 18)) 18 dX12_book_75 (show vwCl[12]? = some (RX12, TX12, 52) from rfl) pin_12 (by decide) pq_820 hg18 rfl ?_
    refine pd_iconst dX12_book_78 (by decide) ?_
    refine pd_iconst dX12_book_79 (by decide) ?_
    obtain ⟨hg35, hf⟩ := pd_ig hf
    refine pd_iast dX12_book_80 hg35 ?_
    refine pd_topF (fun F36 eF36 => ?_)
    have hf := pd_lt hf eF36
    clear eF36
    refine pd_iconst dX12_book_81 (by decide) ?_
    refine pd_istore_n (L' := [pd_R x0, pd_I x1, pd_I 0, pd_N, pd_N]) dX12_book_82 rfl (by decide) rfl ?_
    exact pd_weak (L' := [pd_R x0, pd_N, pd_I 0, pd_N, pd_N]) ⟨Or.inr rfl, Or.inl rfl, Or.inr rfl, Or.inr rfl, Or.inr rfl, trivial⟩ (pkX12_book_b83 E l n _ _ _ hf)
  · have hf := pd_iq hf hc
    refine pd_iconst dX12_book_19 (by decide) ?_
    obtain ⟨h1, h2⟩ := pd_inj hf
    subst h1 h2
    exact pd_iret dX12_book_20 rfl (Nat.le_refl 0) (Nat.le_refl 0)
