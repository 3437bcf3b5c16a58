/-! the law's instructions, 2 -/
theorem dL_acts_0 : decode cL_acts 0 = .ok (.iload_n 2, 1) := by decide +kernel
theorem dL_acts_1 : decode cL_acts 1 = .ok (.iconst 3, 1) := by decide +kernel
theorem dL_acts_2 : decode cL_acts 2 = .ok (.ishr, 1) := by decide +kernel
theorem dL_acts_3 : decode cL_acts 3 = .ok (.bipush 9, 2) := by decide +kernel
theorem dL_acts_5 : decode cL_acts 5 = .ok (.invokestatic 105, 3) := by decide +kernel
theorem dL_acts_8 : decode cL_acts 8 = .ok (.istore_n 3, 1) := by decide +kernel
theorem dL_acts_9 : decode cL_acts 9 = .ok (.iload_n 2, 1) := by decide +kernel
theorem dL_acts_10 : decode cL_acts 10 = .ok (.bipush 7, 2) := by decide +kernel
theorem dL_acts_12 : decode cL_acts 12 = .ok (.ishr, 1) := by decide +kernel
theorem dL_acts_13 : decode cL_acts 13 = .ok (.bipush 99, 2) := by decide +kernel
theorem dL_acts_15 : decode cL_acts 15 = .ok (.invokestatic 105, 3) := by decide +kernel
theorem dL_acts_18 : decode cL_acts 18 = .ok (.istore 4, 2) := by decide +kernel
theorem dL_acts_20 : decode cL_acts 20 = .ok (.iload 4, 2) := by decide +kernel
theorem dL_acts_22 : decode cL_acts 22 = .ok (.iconst 1, 1) := by decide +kernel
theorem dL_acts_23 : decode cL_acts 23 = .ok (.iadd, 1) := by decide +kernel
theorem dL_acts_24 : decode cL_acts 24 = .ok (.iload_n 2, 1) := by decide +kernel
theorem dL_acts_25 : decode cL_acts 25 = .ok (.bipush 13, 2) := by decide +kernel
theorem dL_acts_27 : decode cL_acts 27 = .ok (.ishr, 1) := by decide +kernel
theorem dL_acts_28 : decode cL_acts 28 = .ok (.bipush 50, 2) := by decide +kernel
theorem dL_acts_30 : decode cL_acts 30 = .ok (.bipush 100, 2) := by decide +kernel
theorem dL_acts_32 : decode cL_acts 32 = .ok (.iload 4, 2) := by decide +kernel
theorem dL_acts_34 : decode cL_acts 34 = .ok (.isub, 1) := by decide +kernel
theorem dL_acts_35 : decode cL_acts 35 = .ok (.invokestatic 109, 3) := by decide +kernel
theorem dL_acts_38 : decode cL_acts 38 = .ok (.invokestatic 105, 3) := by decide +kernel
theorem dL_acts_41 : decode cL_acts 41 = .ok (.iadd, 1) := by decide +kernel
theorem dL_acts_42 : decode cL_acts 42 = .ok (.istore 5, 2) := by decide +kernel
theorem dL_acts_44 : decode cL_acts 44 = .ok (.iload_n 2, 1) := by decide +kernel
theorem dL_acts_45 : decode cL_acts 45 = .ok (.bipush 8, 2) := by decide +kernel
theorem dL_acts_47 : decode cL_acts 47 = .ok (.invokestatic 105, 3) := by decide +kernel
theorem dL_acts_50 : decode cL_acts 50 = .ok (.tableswitch 362 5 7 #[26, 96, 213], 26) := by decide +kernel
theorem dL_acts_76 : decode cL_acts 76 = .ok (.aload_n 1, 1) := by decide +kernel
theorem dL_acts_77 : decode cL_acts 77 = .ok (.iload_n 3, 1) := by decide +kernel
theorem dL_acts_78 : decode cL_acts 78 = .ok (.iload 4, 2) := by decide +kernel
theorem dL_acts_80 : decode cL_acts 80 = .ok (.iload 5, 2) := by decide +kernel
theorem dL_acts_82 : decode cL_acts 82 = .ok (.invokevirtual 114, 3) := by decide +kernel
theorem dL_acts_85 : decode cL_acts 85 = .ok (.istore 6, 2) := by decide +kernel
theorem dL_acts_87 : decode cL_acts 87 = .ok (.iload 6, 2) := by decide +kernel
theorem dL_acts_89 : decode cL_acts 89 = .ok (.ifCond .le 22, 3) := by decide +kernel
theorem dL_acts_92 : decode cL_acts 92 = .ok (.aload_n 1, 1) := by decide +kernel
theorem dL_acts_93 : decode cL_acts 93 = .ok (.bipush 114, 2) := by decide +kernel
theorem dL_acts_95 : decode cL_acts 95 = .ok (.iload_n 3, 1) := by decide +kernel
theorem dL_acts_96 : decode cL_acts 96 = .ok (.iconst 3, 1) := by decide +kernel
theorem dL_acts_97 : decode cL_acts 97 = .ok (.idiv, 1) := by decide +kernel
theorem dL_acts_98 : decode cL_acts 98 = .ok (.invokevirtual 118, 3) := by decide +kernel
theorem dL_acts_101 : decode cL_acts 101 = .ok (.aload_n 1, 1) := by decide +kernel
theorem dL_acts_102 : decode cL_acts 102 = .ok (.iload_n 3, 1) := by decide +kernel
theorem dL_acts_103 : decode cL_acts 103 = .ok (.iload 4, 2) := by decide +kernel
theorem dL_acts_105 : decode cL_acts 105 = .ok (.iload 5, 2) := by decide +kernel
theorem dL_acts_107 : decode cL_acts 107 = .ok (.invokevirtual 122, 3) := by decide +kernel
theorem dL_acts_110 : decode cL_acts 110 = .ok (.pop, 1) := by decide +kernel
theorem dL_acts_111 : decode cL_acts 111 = .ok (.aload_n 0, 1) := by decide +kernel
theorem dL_acts_112 : decode cL_acts 112 = .ok (.iload_n 3, 1) := by decide +kernel
theorem dL_acts_113 : decode cL_acts 113 = .ok (.iconst 3, 1) := by decide +kernel
theorem dL_acts_114 : decode cL_acts 114 = .ok (.idiv, 1) := by decide +kernel
theorem dL_acts_115 : decode cL_acts 115 = .ok (.iload_n 3, 1) := by decide +kernel
theorem dL_acts_116 : decode cL_acts 116 = .ok (.iconst 3, 1) := by decide +kernel
theorem dL_acts_117 : decode cL_acts 117 = .ok (.irem, 1) := by decide +kernel
theorem dL_acts_118 : decode cL_acts 118 = .ok (.iload 4, 2) := by decide +kernel
theorem dL_acts_120 : decode cL_acts 120 = .ok (.iload 5, 2) := by decide +kernel
theorem dL_acts_122 : decode cL_acts 122 = .ok (.invokestatic 125, 3) := by decide +kernel
theorem dL_acts_125 : decode cL_acts 125 = .ok (.iload 6, 2) := by decide +kernel
theorem dL_acts_127 : decode cL_acts 127 = .ok (.ifCond .ne 8, 3) := by decide +kernel
theorem dL_acts_130 : decode cL_acts 130 = .ok (.bipush (-3), 2) := by decide +kernel
theorem dL_acts_132 : decode cL_acts 132 = .ok (.goto 5, 3) := by decide +kernel
theorem dL_acts_135 : decode cL_acts 135 = .ok (.iload 6, 2) := by decide +kernel
theorem dL_acts_137 : decode cL_acts 137 = .ok (.if_icmp .ne 7, 3) := by decide +kernel
theorem dL_acts_140 : decode cL_acts 140 = .ok (.iconst 1, 1) := by decide +kernel
theorem dL_acts_141 : decode cL_acts 141 = .ok (.goto 4, 3) := by decide +kernel
theorem dL_acts_144 : decode cL_acts 144 = .ok (.iconst 0, 1) := by decide +kernel
theorem dL_acts_145 : decode cL_acts 145 = .ok (.ireturn, 1) := by decide +kernel
theorem dL_acts_146 : decode cL_acts 146 = .ok (.aload_n 1, 1) := by decide +kernel
theorem dL_acts_147 : decode cL_acts 147 = .ok (.iload_n 3, 1) := by decide +kernel
theorem dL_acts_148 : decode cL_acts 148 = .ok (.iload 4, 2) := by decide +kernel
theorem dL_acts_150 : decode cL_acts 150 = .ok (.invokevirtual 128, 3) := by decide +kernel
theorem dL_acts_153 : decode cL_acts 153 = .ok (.istore 6, 2) := by decide +kernel
theorem dL_acts_155 : decode cL_acts 155 = .ok (.iload 6, 2) := by decide +kernel
theorem dL_acts_157 : decode cL_acts 157 = .ok (.ifCond .lt 51, 3) := by decide +kernel
theorem dL_acts_160 : decode cL_acts 160 = .ok (.aload_n 1, 1) := by decide +kernel
theorem dL_acts_161 : decode cL_acts 161 = .ok (.bipush 99, 2) := by decide +kernel
theorem dL_acts_163 : decode cL_acts 163 = .ok (.iload_n 3, 1) := by decide +kernel
theorem dL_acts_164 : decode cL_acts 164 = .ok (.iconst 3, 1) := by decide +kernel
theorem dL_acts_165 : decode cL_acts 165 = .ok (.idiv, 1) := by decide +kernel
theorem dL_acts_166 : decode cL_acts 166 = .ok (.invokevirtual 118, 3) := by decide +kernel
theorem dL_acts_169 : decode cL_acts 169 = .ok (.aload_n 1, 1) := by decide +kernel
theorem dL_acts_170 : decode cL_acts 170 = .ok (.getfield 40, 3) := by decide +kernel
theorem dL_acts_173 : decode cL_acts 173 = .ok (.iload 6, 2) := by decide +kernel
theorem dL_acts_175 : decode cL_acts 175 = .ok (.aload_n 1, 1) := by decide +kernel
theorem dL_acts_176 : decode cL_acts 176 = .ok (.getfield 84, 3) := by decide +kernel
theorem dL_acts_179 : decode cL_acts 179 = .ok (.iastore, 1) := by decide +kernel
theorem dL_acts_180 : decode cL_acts 180 = .ok (.aload_n 1, 1) := by decide +kernel
theorem dL_acts_181 : decode cL_acts 181 = .ok (.iload_n 3, 1) := by decide +kernel
theorem dL_acts_182 : decode cL_acts 182 = .ok (.iload_n 2, 1) := by decide +kernel
theorem dL_acts_183 : decode cL_acts 183 = .ok (.bipush 15, 2) := by decide +kernel
theorem dL_acts_185 : decode cL_acts 185 = .ok (.ishr, 1) := by decide +kernel
theorem dL_acts_186 : decode cL_acts 186 = .ok (.bipush 9, 2) := by decide +kernel
theorem dL_acts_188 : decode cL_acts 188 = .ok (.invokestatic 105, 3) := by decide +kernel
theorem dL_acts_191 : decode cL_acts 191 = .ok (.aload_n 1, 1) := by decide +kernel
theorem dL_acts_192 : decode cL_acts 192 = .ok (.getfield 59, 3) := by decide +kernel
theorem dL_acts_195 : decode cL_acts 195 = .ok (.iload 6, 2) := by decide +kernel
theorem dL_acts_197 : decode cL_acts 197 = .ok (.iaload, 1) := by decide +kernel
theorem dL_acts_198 : decode cL_acts 198 = .ok (.aload_n 1, 1) := by decide +kernel
theorem dL_acts_199 : decode cL_acts 199 = .ok (.getfield 62, 3) := by decide +kernel
theorem dL_acts_202 : decode cL_acts 202 = .ok (.iload 6, 2) := by decide +kernel
theorem dL_acts_204 : decode cL_acts 204 = .ok (.iaload, 1) := by decide +kernel
theorem dL_acts_205 : decode cL_acts 205 = .ok (.invokevirtual 131, 3) := by decide +kernel
theorem dL_acts_208 : decode cL_acts 208 = .ok (.aload_n 0, 1) := by decide +kernel
theorem dL_acts_209 : decode cL_acts 209 = .ok (.iload_n 3, 1) := by decide +kernel
theorem dL_acts_210 : decode cL_acts 210 = .ok (.iconst 3, 1) := by decide +kernel
theorem dL_acts_211 : decode cL_acts 211 = .ok (.idiv, 1) := by decide +kernel
theorem dL_acts_212 : decode cL_acts 212 = .ok (.iload_n 3, 1) := by decide +kernel
theorem dL_acts_213 : decode cL_acts 213 = .ok (.iconst 3, 1) := by decide +kernel
theorem dL_acts_214 : decode cL_acts 214 = .ok (.irem, 1) := by decide +kernel
theorem dL_acts_215 : decode cL_acts 215 = .ok (.iload 4, 2) := by decide +kernel
theorem dL_acts_217 : decode cL_acts 217 = .ok (.iload_n 2, 1) := by decide +kernel
theorem dL_acts_218 : decode cL_acts 218 = .ok (.bipush 15, 2) := by decide +kernel
theorem dL_acts_220 : decode cL_acts 220 = .ok (.ishr, 1) := by decide +kernel
theorem dL_acts_221 : decode cL_acts 221 = .ok (.bipush 9, 2) := by decide +kernel
theorem dL_acts_223 : decode cL_acts 223 = .ok (.invokestatic 105, 3) := by decide +kernel
theorem dL_acts_226 : decode cL_acts 226 = .ok (.invokestatic 135, 3) := by decide +kernel
theorem dL_acts_229 : decode cL_acts 229 = .ok (.iload 6, 2) := by decide +kernel
theorem dL_acts_231 : decode cL_acts 231 = .ok (.ifCond .ge 8, 3) := by decide +kernel
theorem dL_acts_234 : decode cL_acts 234 = .ok (.bipush (-3), 2) := by decide +kernel
theorem dL_acts_236 : decode cL_acts 236 = .ok (.goto 18, 3) := by decide +kernel
theorem dL_acts_239 : decode cL_acts 239 = .ok (.aload_n 1, 1) := by decide +kernel
theorem dL_acts_240 : decode cL_acts 240 = .ok (.getfield 62, 3) := by decide +kernel
theorem dL_acts_243 : decode cL_acts 243 = .ok (.iload 6, 2) := by decide +kernel
theorem dL_acts_245 : decode cL_acts 245 = .ok (.iaload, 1) := by decide +kernel
theorem dL_acts_246 : decode cL_acts 246 = .ok (.aload_n 1, 1) := by decide +kernel
theorem dL_acts_247 : decode cL_acts 247 = .ok (.getfield 59, 3) := by decide +kernel
theorem dL_acts_250 : decode cL_acts 250 = .ok (.iload 6, 2) := by decide +kernel
theorem dL_acts_252 : decode cL_acts 252 = .ok (.iaload, 1) := by decide +kernel
theorem dL_acts_253 : decode cL_acts 253 = .ok (.isub, 1) := by decide +kernel
theorem dL_acts_254 : decode cL_acts 254 = .ok (.if_icmp .ne 7, 3) := by decide +kernel
theorem dL_acts_257 : decode cL_acts 257 = .ok (.iconst 1, 1) := by decide +kernel
theorem dL_acts_258 : decode cL_acts 258 = .ok (.goto 4, 3) := by decide +kernel
theorem dL_acts_261 : decode cL_acts 261 = .ok (.iconst 0, 1) := by decide +kernel
theorem dL_acts_262 : decode cL_acts 262 = .ok (.ireturn, 1) := by decide +kernel
theorem dL_acts_263 : decode cL_acts 263 = .ok (.aload_n 1, 1) := by decide +kernel
theorem dL_acts_264 : decode cL_acts 264 = .ok (.getfield 89, 3) := by decide +kernel
theorem dL_acts_267 : decode cL_acts 267 = .ok (.iload_n 2, 1) := by decide +kernel
theorem dL_acts_268 : decode cL_acts 268 = .ok (.iconst 3, 1) := by decide +kernel
theorem dL_acts_269 : decode cL_acts 269 = .ok (.ishr, 1) := by decide +kernel
theorem dL_acts_270 : decode cL_acts 270 = .ok (.aload_n 1, 1) := by decide +kernel
theorem dL_acts_271 : decode cL_acts 271 = .ok (.getfield 84, 3) := by decide +kernel
theorem dL_acts_274 : decode cL_acts 274 = .ok (.aload_n 1, 1) := by decide +kernel
theorem dL_acts_275 : decode cL_acts 275 = .ok (.getfield 89, 3) := by decide +kernel
theorem dL_acts_278 : decode cL_acts 278 = .ok (.isub, 1) := by decide +kernel
theorem dL_acts_279 : decode cL_acts 279 = .ok (.iconst 1, 1) := by decide +kernel
theorem dL_acts_280 : decode cL_acts 280 = .ok (.iadd, 1) := by decide +kernel
theorem dL_acts_281 : decode cL_acts 281 = .ok (.invokestatic 105, 3) := by decide +kernel
theorem dL_acts_284 : decode cL_acts 284 = .ok (.iadd, 1) := by decide +kernel
theorem dL_acts_285 : decode cL_acts 285 = .ok (.istore 6, 2) := by decide +kernel
theorem dL_acts_287 : decode cL_acts 287 = .ok (.iconst 0, 1) := by decide +kernel
theorem dL_acts_288 : decode cL_acts 288 = .ok (.istore 7, 2) := by decide +kernel
theorem dL_acts_290 : decode cL_acts 290 = .ok (.iconst 0, 1) := by decide +kernel
theorem dL_acts_291 : decode cL_acts 291 = .ok (.istore 8, 2) := by decide +kernel
theorem dL_acts_293 : decode cL_acts 293 = .ok (.iload 8, 2) := by decide +kernel
theorem dL_acts_295 : decode cL_acts 295 = .ok (.aload_n 1, 1) := by decide +kernel
theorem dL_acts_296 : decode cL_acts 296 = .ok (.getfield 30, 3) := by decide +kernel
theorem dL_acts_299 : decode cL_acts 299 = .ok (.if_icmp .ge 90, 3) := by decide +kernel
theorem dL_acts_302 : decode cL_acts 302 = .ok (.aload_n 1, 1) := by decide +kernel
theorem dL_acts_303 : decode cL_acts 303 = .ok (.getfield 36, 3) := by decide +kernel
theorem dL_acts_306 : decode cL_acts 306 = .ok (.iload 8, 2) := by decide +kernel
theorem dL_acts_308 : decode cL_acts 308 = .ok (.baload, 1) := by decide +kernel
theorem dL_acts_309 : decode cL_acts 309 = .ok (.ifCond .ne 29, 3) := by decide +kernel
theorem dL_acts_312 : decode cL_acts 312 = .ok (.aload_n 1, 1) := by decide +kernel
theorem dL_acts_313 : decode cL_acts 313 = .ok (.getfield 40, 3) := by decide +kernel
theorem dL_acts_316 : decode cL_acts 316 = .ok (.iload 8, 2) := by decide +kernel
theorem dL_acts_318 : decode cL_acts 318 = .ok (.iaload, 1) := by decide +kernel
theorem dL_acts_319 : decode cL_acts 319 = .ok (.ifCond .lt 19, 3) := by decide +kernel
theorem dL_acts_322 : decode cL_acts 322 = .ok (.aload_n 1, 1) := by decide +kernel
theorem dL_acts_323 : decode cL_acts 323 = .ok (.getfield 40, 3) := by decide +kernel
theorem dL_acts_326 : decode cL_acts 326 = .ok (.iload 8, 2) := by decide +kernel
theorem dL_acts_328 : decode cL_acts 328 = .ok (.iaload, 1) := by decide +kernel
theorem dL_acts_329 : decode cL_acts 329 = .ok (.iload 6, 2) := by decide +kernel
theorem dL_acts_331 : decode cL_acts 331 = .ok (.if_icmp .gt 7, 3) := by decide +kernel
theorem dL_acts_334 : decode cL_acts 334 = .ok (.iconst 1, 1) := by decide +kernel
theorem dL_acts_335 : decode cL_acts 335 = .ok (.goto 4, 3) := by decide +kernel
theorem dL_acts_338 : decode cL_acts 338 = .ok (.iconst 0, 1) := by decide +kernel
theorem dL_acts_339 : decode cL_acts 339 = .ok (.istore 9, 2) := by decide +kernel
theorem dL_acts_341 : decode cL_acts 341 = .ok (.iload 7, 2) := by decide +kernel
theorem dL_acts_343 : decode cL_acts 343 = .ok (.iload 9, 2) := by decide +kernel
theorem dL_acts_345 : decode cL_acts 345 = .ok (.ifCond .eq 7, 3) := by decide +kernel
theorem dL_acts_348 : decode cL_acts 348 = .ok (.iconst 1, 1) := by decide +kernel
theorem dL_acts_349 : decode cL_acts 349 = .ok (.goto 4, 3) := by decide +kernel
theorem dL_acts_352 : decode cL_acts 352 = .ok (.iconst 0, 1) := by decide +kernel
theorem dL_acts_353 : decode cL_acts 353 = .ok (.iadd, 1) := by decide +kernel
theorem dL_acts_354 : decode cL_acts 354 = .ok (.istore 7, 2) := by decide +kernel
theorem dL_acts_356 : decode cL_acts 356 = .ok (.aload_n 1, 1) := by decide +kernel
theorem dL_acts_357 : decode cL_acts 357 = .ok (.getfield 36, 3) := by decide +kernel
theorem dL_acts_360 : decode cL_acts 360 = .ok (.iload 8, 2) := by decide +kernel
theorem dL_acts_362 : decode cL_acts 362 = .ok (.aload_n 1, 1) := by decide +kernel
theorem dL_acts_363 : decode cL_acts 363 = .ok (.getfield 36, 3) := by decide +kernel
theorem dL_acts_366 : decode cL_acts 366 = .ok (.iload 8, 2) := by decide +kernel
theorem dL_acts_368 : decode cL_acts 368 = .ok (.baload, 1) := by decide +kernel
theorem dL_acts_369 : decode cL_acts 369 = .ok (.ifCond .ne 8, 3) := by decide +kernel
theorem dL_acts_372 : decode cL_acts 372 = .ok (.iload 9, 2) := by decide +kernel
theorem dL_acts_374 : decode cL_acts 374 = .ok (.ifCond .eq 7, 3) := by decide +kernel
theorem dL_acts_377 : decode cL_acts 377 = .ok (.iconst 1, 1) := by decide +kernel
theorem dL_acts_378 : decode cL_acts 378 = .ok (.goto 4, 3) := by decide +kernel
theorem dL_acts_381 : decode cL_acts 381 = .ok (.iconst 0, 1) := by decide +kernel
theorem dL_acts_382 : decode cL_acts 382 = .ok (.bastore, 1) := by decide +kernel
theorem dL_acts_383 : decode cL_acts 383 = .ok (.iinc 8 1, 3) := by decide +kernel
theorem dL_acts_386 : decode cL_acts 386 = .ok (.goto (-93), 3) := by decide +kernel
theorem dL_acts_389 : decode cL_acts 389 = .ok (.aload_n 1, 1) := by decide +kernel
theorem dL_acts_390 : decode cL_acts 390 = .ok (.iload 6, 2) := by decide +kernel
theorem dL_acts_392 : decode cL_acts 392 = .ok (.putfield 89, 3) := by decide +kernel
theorem dL_acts_395 : decode cL_acts 395 = .ok (.aload_n 0, 1) := by decide +kernel
theorem dL_acts_396 : decode cL_acts 396 = .ok (.iload 6, 2) := by decide +kernel
theorem dL_acts_398 : decode cL_acts 398 = .ok (.invokevirtual 137, 3) := by decide +kernel
theorem dL_acts_401 : decode cL_acts 401 = .ok (.iload 7, 2) := by decide +kernel
theorem dL_acts_403 : decode cL_acts 403 = .ok (.if_icmp .ne 7, 3) := by decide +kernel
theorem dL_acts_406 : decode cL_acts 406 = .ok (.iconst 1, 1) := by decide +kernel
theorem dL_acts_407 : decode cL_acts 407 = .ok (.goto 4, 3) := by decide +kernel
theorem dL_acts_410 : decode cL_acts 410 = .ok (.iconst 0, 1) := by decide +kernel
theorem dL_acts_411 : decode cL_acts 411 = .ok (.ireturn, 1) := by decide +kernel
theorem dL_acts_412 : decode cL_acts 412 = .ok (.aload_n 1, 1) := by decide +kernel
theorem dL_acts_413 : decode cL_acts 413 = .ok (.bipush 116, 2) := by decide +kernel
theorem dL_acts_415 : decode cL_acts 415 = .ok (.iload_n 3, 1) := by decide +kernel
theorem dL_acts_416 : decode cL_acts 416 = .ok (.iconst 3, 1) := by decide +kernel
theorem dL_acts_417 : decode cL_acts 417 = .ok (.idiv, 1) := by decide +kernel
theorem dL_acts_418 : decode cL_acts 418 = .ok (.invokevirtual 118, 3) := by decide +kernel
theorem dL_acts_421 : decode cL_acts 421 = .ok (.aload_n 1, 1) := by decide +kernel
theorem dL_acts_422 : decode cL_acts 422 = .ok (.iload_n 3, 1) := by decide +kernel
theorem dL_acts_423 : decode cL_acts 423 = .ok (.iload 4, 2) := by decide +kernel
theorem dL_acts_425 : decode cL_acts 425 = .ok (.iload 5, 2) := by decide +kernel
theorem dL_acts_427 : decode cL_acts 427 = .ok (.invokevirtual 122, 3) := by decide +kernel
theorem dL_acts_430 : decode cL_acts 430 = .ok (.istore 6, 2) := by decide +kernel
theorem dL_acts_432 : decode cL_acts 432 = .ok (.aload_n 1, 1) := by decide +kernel
theorem dL_acts_433 : decode cL_acts 433 = .ok (.iload_n 3, 1) := by decide +kernel
theorem dL_acts_434 : decode cL_acts 434 = .ok (.iload_n 2, 1) := by decide +kernel
theorem dL_acts_435 : decode cL_acts 435 = .ok (.bipush 15, 2) := by decide +kernel
theorem dL_acts_437 : decode cL_acts 437 = .ok (.ishr, 1) := by decide +kernel
theorem dL_acts_438 : decode cL_acts 438 = .ok (.bipush 9, 2) := by decide +kernel
theorem dL_acts_440 : decode cL_acts 440 = .ok (.invokestatic 105, 3) := by decide +kernel
theorem dL_acts_443 : decode cL_acts 443 = .ok (.iload 4, 2) := by decide +kernel
theorem dL_acts_445 : decode cL_acts 445 = .ok (.iload 5, 2) := by decide +kernel
theorem dL_acts_447 : decode cL_acts 447 = .ok (.invokevirtual 131, 3) := by decide +kernel
theorem dL_acts_450 : decode cL_acts 450 = .ok (.aload_n 0, 1) := by decide +kernel
theorem dL_acts_451 : decode cL_acts 451 = .ok (.iload_n 3, 1) := by decide +kernel
theorem dL_acts_452 : decode cL_acts 452 = .ok (.iconst 3, 1) := by decide +kernel
theorem dL_acts_453 : decode cL_acts 453 = .ok (.idiv, 1) := by decide +kernel
theorem dL_acts_454 : decode cL_acts 454 = .ok (.iload_n 3, 1) := by decide +kernel
theorem dL_acts_455 : decode cL_acts 455 = .ok (.iconst 3, 1) := by decide +kernel
theorem dL_acts_456 : decode cL_acts 456 = .ok (.irem, 1) := by decide +kernel
theorem dL_acts_457 : decode cL_acts 457 = .ok (.iload_n 2, 1) := by decide +kernel
theorem dL_acts_458 : decode cL_acts 458 = .ok (.bipush 15, 2) := by decide +kernel
theorem dL_acts_460 : decode cL_acts 460 = .ok (.ishr, 1) := by decide +kernel
theorem dL_acts_461 : decode cL_acts 461 = .ok (.bipush 9, 2) := by decide +kernel
theorem dL_acts_463 : decode cL_acts 463 = .ok (.invokestatic 105, 3) := by decide +kernel
theorem dL_acts_466 : decode cL_acts 466 = .ok (.iload 4, 2) := by decide +kernel
theorem dL_acts_468 : decode cL_acts 468 = .ok (.iload 5, 2) := by decide +kernel
theorem dL_acts_470 : decode cL_acts 470 = .ok (.invokevirtual 140, 3) := by decide +kernel
theorem dL_acts_473 : decode cL_acts 473 = .ok (.iload 6, 2) := by decide +kernel
theorem dL_acts_475 : decode cL_acts 475 = .ok (.if_icmp .ne 7, 3) := by decide +kernel
theorem dL_acts_478 : decode cL_acts 478 = .ok (.iconst 1, 1) := by decide +kernel
theorem dL_acts_479 : decode cL_acts 479 = .ok (.goto 4, 3) := by decide +kernel
theorem dL_acts_482 : decode cL_acts 482 = .ok (.iconst 0, 1) := by decide +kernel
theorem dL_acts_483 : decode cL_acts 483 = .ok (.ireturn, 1) := by decide +kernel
theorem dL_law_0 : decode cL_law 0 = .ok (.new 10, 3) := by decide +kernel
theorem dL_law_3 : decode cL_law 3 = .ok (.dup, 1) := by decide +kernel
theorem dL_law_4 : decode cL_law 4 = .ok (.invokespecial 144, 3) := by decide +kernel
theorem dL_law_7 : decode cL_law 7 = .ok (.astore_n 1, 1) := by decide +kernel
theorem dL_law_8 : decode cL_law 8 = .ok (.new 31, 3) := by decide +kernel
theorem dL_law_11 : decode cL_law 11 = .ok (.dup, 1) := by decide +kernel
theorem dL_law_12 : decode cL_law 12 = .ok (.invokespecial 145, 3) := by decide +kernel
theorem dL_law_15 : decode cL_law 15 = .ok (.astore_n 2, 1) := by decide +kernel
theorem dL_law_16 : decode cL_law 16 = .ok (.iconst 1, 1) := by decide +kernel
theorem dL_law_17 : decode cL_law 17 = .ok (.istore_n 3, 1) := by decide +kernel
theorem dL_law_18 : decode cL_law 18 = .ok (.iconst 0, 1) := by decide +kernel
theorem dL_law_19 : decode cL_law 19 = .ok (.istore 4, 2) := by decide +kernel
theorem dL_law_21 : decode cL_law 21 = .ok (.iload 4, 2) := by decide +kernel
theorem dL_law_23 : decode cL_law 23 = .ok (.iconst 3, 1) := by decide +kernel
theorem dL_law_24 : decode cL_law 24 = .ok (.if_icmp .ge 28, 3) := by decide +kernel
theorem dL_law_27 : decode cL_law 27 = .ok (.iload_n 3, 1) := by decide +kernel
theorem dL_law_28 : decode cL_law 28 = .ok (.ifCond .eq 16, 3) := by decide +kernel
theorem dL_law_31 : decode cL_law 31 = .ok (.aload_n 1, 1) := by decide +kernel
theorem dL_law_32 : decode cL_law 32 = .ok (.invokevirtual 146, 3) := by decide +kernel
theorem dL_law_35 : decode cL_law 35 = .ok (.iload 4, 2) := by decide +kernel
theorem dL_law_37 : decode cL_law 37 = .ok (.if_icmp .ne 7, 3) := by decide +kernel
theorem dL_law_40 : decode cL_law 40 = .ok (.iconst 1, 1) := by decide +kernel
theorem dL_law_41 : decode cL_law 41 = .ok (.goto 4, 3) := by decide +kernel
theorem dL_law_44 : decode cL_law 44 = .ok (.iconst 0, 1) := by decide +kernel
theorem dL_law_45 : decode cL_law 45 = .ok (.istore_n 3, 1) := by decide +kernel
theorem dL_law_46 : decode cL_law 46 = .ok (.iinc 4 1, 3) := by decide +kernel
theorem dL_law_49 : decode cL_law 49 = .ok (.goto (-28), 3) := by decide +kernel
theorem dL_law_52 : decode cL_law 52 = .ok (.iconst 0, 1) := by decide +kernel
theorem dL_law_53 : decode cL_law 53 = .ok (.istore 4, 2) := by decide +kernel
theorem dL_law_55 : decode cL_law 55 = .ok (.iload 4, 2) := by decide +kernel
theorem dL_law_57 : decode cL_law 57 = .ok (.bipush 30, 2) := by decide +kernel
theorem dL_law_59 : decode cL_law 59 = .ok (.if_icmp .ge 41, 3) := by decide +kernel
theorem dL_law_62 : decode cL_law 62 = .ok (.iload_n 3, 1) := by decide +kernel
theorem dL_law_63 : decode cL_law 63 = .ok (.ifCond .eq 37, 3) := by decide +kernel
theorem dL_law_66 : decode cL_law 66 = .ok (.aload_n 1, 1) := by decide +kernel
theorem dL_law_67 : decode cL_law 67 = .ok (.aload_n 2, 1) := by decide +kernel
theorem dL_law_68 : decode cL_law 68 = .ok (.aload_n 0, 1) := by decide +kernel
theorem dL_law_69 : decode cL_law 69 = .ok (.iload 4, 2) := by decide +kernel
theorem dL_law_71 : decode cL_law 71 = .ok (.invokestatic 149, 3) := by decide +kernel
theorem dL_law_74 : decode cL_law 74 = .ok (.invokestatic 153, 3) := by decide +kernel
theorem dL_law_77 : decode cL_law 77 = .ok (.ifCond .eq 15, 3) := by decide +kernel
theorem dL_law_80 : decode cL_law 80 = .ok (.aload_n 1, 1) := by decide +kernel
theorem dL_law_81 : decode cL_law 81 = .ok (.aload_n 2, 1) := by decide +kernel
theorem dL_law_82 : decode cL_law 82 = .ok (.invokestatic 157, 3) := by decide +kernel
theorem dL_law_85 : decode cL_law 85 = .ok (.ifCond .eq 7, 3) := by decide +kernel
theorem dL_law_88 : decode cL_law 88 = .ok (.iconst 1, 1) := by decide +kernel
theorem dL_law_89 : decode cL_law 89 = .ok (.goto 4, 3) := by decide +kernel
theorem dL_law_92 : decode cL_law 92 = .ok (.iconst 0, 1) := by decide +kernel
theorem dL_law_93 : decode cL_law 93 = .ok (.istore_n 3, 1) := by decide +kernel
theorem dL_law_94 : decode cL_law 94 = .ok (.iinc 4 1, 3) := by decide +kernel
theorem dL_law_97 : decode cL_law 97 = .ok (.goto (-42), 3) := by decide +kernel
theorem dL_law_100 : decode cL_law 100 = .ok (.iload_n 3, 1) := by decide +kernel
theorem dL_law_101 : decode cL_law 101 = .ok (.ifCond .eq 14, 3) := by decide +kernel
theorem dL_law_104 : decode cL_law 104 = .ok (.aload_n 1, 1) := by decide +kernel
theorem dL_law_105 : decode cL_law 105 = .ok (.invokevirtual 161, 3) := by decide +kernel
theorem dL_law_108 : decode cL_law 108 = .ok (.ifCond .eq 7, 3) := by decide +kernel
theorem dL_law_111 : decode cL_law 111 = .ok (.iconst 1, 1) := by decide +kernel
theorem dL_law_112 : decode cL_law 112 = .ok (.goto 4, 3) := by decide +kernel
theorem dL_law_115 : decode cL_law 115 = .ok (.iconst 0, 1) := by decide +kernel
theorem dL_law_116 : decode cL_law 116 = .ok (.ireturn, 1) := by decide +kernel
