theorem d_LW_law_0 : decode code 0 = .ok (.new 8, 3) := by decide +kernel
theorem d_LW_law_3 : decode code 3 = .ok (.dup, 1) := by decide +kernel
theorem d_LW_law_4 : decode code 4 = .ok (.invokespecial 52, 3) := by decide +kernel
theorem d_LW_law_7 : decode code 7 = .ok (.astore_n 1, 1) := by decide +kernel
theorem d_LW_law_8 : decode code 8 = .ok (.new 53, 3) := by decide +kernel
theorem d_LW_law_11 : decode code 11 = .ok (.dup, 1) := by decide +kernel
theorem d_LW_law_12 : decode code 12 = .ok (.invokespecial 55, 3) := by decide +kernel
theorem d_LW_law_15 : decode code 15 = .ok (.astore_n 2, 1) := by decide +kernel
theorem d_LW_law_16 : decode code 16 = .ok (.iconst 1, 1) := by decide +kernel
theorem d_LW_law_17 : decode code 17 = .ok (.newarray .long, 2) := by decide +kernel
theorem d_LW_law_19 : decode code 19 = .ok (.astore_n 3, 1) := by decide +kernel
theorem d_LW_law_20 : decode code 20 = .ok (.iconst 0, 1) := by decide +kernel
theorem d_LW_law_21 : decode code 21 = .ok (.istore 4, 2) := by decide +kernel
theorem d_LW_law_23 : decode code 23 = .ok (.iload 4, 2) := by decide +kernel
theorem d_LW_law_25 : decode code 25 = .ok (.aload_n 0, 1) := by decide +kernel
theorem d_LW_law_26 : decode code 26 = .ok (.arraylength, 1) := by decide +kernel
theorem d_LW_law_27 : decode code 27 = .ok (.bipush 6, 2) := by decide +kernel
theorem d_LW_law_29 : decode code 29 = .ok (.isub, 1) := by decide +kernel
theorem d_LW_law_30 : decode code 30 = .ok (.if_icmp .gt 550, 3) := by decide +kernel
theorem d_LW_law_33 : decode code 33 = .ok (.aload_n 0, 1) := by decide +kernel
theorem d_LW_law_34 : decode code 34 = .ok (.iload 4, 2) := by decide +kernel
theorem d_LW_law_36 : decode code 36 = .ok (.iaload, 1) := by decide +kernel
theorem d_LW_law_37 : decode code 37 = .ok (.bipush 15, 2) := by decide +kernel
theorem d_LW_law_39 : decode code 39 = .ok (.iand, 1) := by decide +kernel
theorem d_LW_law_40 : decode code 40 = .ok (.tableswitch 534 0 11 #[64, 140, 196, 209, 225, 238, 254, 267, 323, 391, 466, 506], 64) := by decide +kernel
theorem d_LW_law_104 : decode code 104 = .ok (.aload_n 1, 1) := by decide +kernel
theorem d_LW_law_105 : decode code 105 = .ok (.aload_n 0, 1) := by decide +kernel
theorem d_LW_law_106 : decode code 106 = .ok (.iload 4, 2) := by decide +kernel
theorem d_LW_law_108 : decode code 108 = .ok (.iconst 1, 1) := by decide +kernel
theorem d_LW_law_109 : decode code 109 = .ok (.iadd, 1) := by decide +kernel
theorem d_LW_law_110 : decode code 110 = .ok (.iaload, 1) := by decide +kernel
theorem d_LW_law_111 : decode code 111 = .ok (.aload_n 0, 1) := by decide +kernel
theorem d_LW_law_112 : decode code 112 = .ok (.iload 4, 2) := by decide +kernel
theorem d_LW_law_114 : decode code 114 = .ok (.iconst 2, 1) := by decide +kernel
theorem d_LW_law_115 : decode code 115 = .ok (.iadd, 1) := by decide +kernel
theorem d_LW_law_116 : decode code 116 = .ok (.iaload, 1) := by decide +kernel
theorem d_LW_law_117 : decode code 117 = .ok (.aload_n 0, 1) := by decide +kernel
theorem d_LW_law_118 : decode code 118 = .ok (.iload 4, 2) := by decide +kernel
theorem d_LW_law_120 : decode code 120 = .ok (.iconst 3, 1) := by decide +kernel
theorem d_LW_law_121 : decode code 121 = .ok (.iadd, 1) := by decide +kernel
theorem d_LW_law_122 : decode code 122 = .ok (.iaload, 1) := by decide +kernel
theorem d_LW_law_123 : decode code 123 = .ok (.aload_n 0, 1) := by decide +kernel
theorem d_LW_law_124 : decode code 124 = .ok (.iload 4, 2) := by decide +kernel
theorem d_LW_law_126 : decode code 126 = .ok (.iconst 4, 1) := by decide +kernel
theorem d_LW_law_127 : decode code 127 = .ok (.iadd, 1) := by decide +kernel
theorem d_LW_law_128 : decode code 128 = .ok (.iaload, 1) := by decide +kernel
theorem d_LW_law_129 : decode code 129 = .ok (.aload_n 0, 1) := by decide +kernel
theorem d_LW_law_130 : decode code 130 = .ok (.iload 4, 2) := by decide +kernel
theorem d_LW_law_132 : decode code 132 = .ok (.iconst 5, 1) := by decide +kernel
theorem d_LW_law_133 : decode code 133 = .ok (.iadd, 1) := by decide +kernel
theorem d_LW_law_134 : decode code 134 = .ok (.iaload, 1) := by decide +kernel
theorem d_LW_law_135 : decode code 135 = .ok (.aload_n 3, 1) := by decide +kernel
theorem d_LW_law_136 : decode code 136 = .ok (.invokestatic 56, 3) := by decide +kernel
theorem d_LW_law_139 : decode code 139 = .ok (.istore 5, 2) := by decide +kernel
theorem d_LW_law_141 : decode code 141 = .ok (.aload_n 2, 1) := by decide +kernel
theorem d_LW_law_142 : decode code 142 = .ok (.aload_n 0, 1) := by decide +kernel
theorem d_LW_law_143 : decode code 143 = .ok (.iload 4, 2) := by decide +kernel
theorem d_LW_law_145 : decode code 145 = .ok (.iconst 1, 1) := by decide +kernel
theorem d_LW_law_146 : decode code 146 = .ok (.iadd, 1) := by decide +kernel
theorem d_LW_law_147 : decode code 147 = .ok (.iaload, 1) := by decide +kernel
theorem d_LW_law_148 : decode code 148 = .ok (.aload_n 0, 1) := by decide +kernel
theorem d_LW_law_149 : decode code 149 = .ok (.iload 4, 2) := by decide +kernel
theorem d_LW_law_151 : decode code 151 = .ok (.iconst 2, 1) := by decide +kernel
theorem d_LW_law_152 : decode code 152 = .ok (.iadd, 1) := by decide +kernel
theorem d_LW_law_153 : decode code 153 = .ok (.iaload, 1) := by decide +kernel
theorem d_LW_law_154 : decode code 154 = .ok (.aload_n 0, 1) := by decide +kernel
theorem d_LW_law_155 : decode code 155 = .ok (.iload 4, 2) := by decide +kernel
theorem d_LW_law_157 : decode code 157 = .ok (.iconst 3, 1) := by decide +kernel
theorem d_LW_law_158 : decode code 158 = .ok (.iadd, 1) := by decide +kernel
theorem d_LW_law_159 : decode code 159 = .ok (.iaload, 1) := by decide +kernel
theorem d_LW_law_160 : decode code 160 = .ok (.aload_n 0, 1) := by decide +kernel
theorem d_LW_law_161 : decode code 161 = .ok (.iload 4, 2) := by decide +kernel
theorem d_LW_law_163 : decode code 163 = .ok (.iconst 4, 1) := by decide +kernel
theorem d_LW_law_164 : decode code 164 = .ok (.iadd, 1) := by decide +kernel
theorem d_LW_law_165 : decode code 165 = .ok (.iaload, 1) := by decide +kernel
theorem d_LW_law_166 : decode code 166 = .ok (.aload_n 0, 1) := by decide +kernel
theorem d_LW_law_167 : decode code 167 = .ok (.iload 4, 2) := by decide +kernel
theorem d_LW_law_169 : decode code 169 = .ok (.iconst 5, 1) := by decide +kernel
theorem d_LW_law_170 : decode code 170 = .ok (.iadd, 1) := by decide +kernel
theorem d_LW_law_171 : decode code 171 = .ok (.iaload, 1) := by decide +kernel
theorem d_LW_law_172 : decode code 172 = .ok (.invokevirtual 61, 3) := by decide +kernel
theorem d_LW_law_175 : decode code 175 = .ok (.istore 6, 2) := by decide +kernel
theorem d_LW_law_177 : decode code 177 = .ok (.goto 397, 3) := by decide +kernel
theorem d_LW_law_180 : decode code 180 = .ok (.aload_n 1, 1) := by decide +kernel
theorem d_LW_law_181 : decode code 181 = .ok (.aload_n 0, 1) := by decide +kernel
theorem d_LW_law_182 : decode code 182 = .ok (.iload 4, 2) := by decide +kernel
theorem d_LW_law_184 : decode code 184 = .ok (.iconst 1, 1) := by decide +kernel
theorem d_LW_law_185 : decode code 185 = .ok (.iadd, 1) := by decide +kernel
theorem d_LW_law_186 : decode code 186 = .ok (.iaload, 1) := by decide +kernel
theorem d_LW_law_187 : decode code 187 = .ok (.ifCond .eq 7, 3) := by decide +kernel
theorem d_LW_law_190 : decode code 190 = .ok (.iconst 1, 1) := by decide +kernel
theorem d_LW_law_191 : decode code 191 = .ok (.goto 4, 3) := by decide +kernel
theorem d_LW_law_194 : decode code 194 = .ok (.iconst 0, 1) := by decide +kernel
theorem d_LW_law_195 : decode code 195 = .ok (.aload_n 0, 1) := by decide +kernel
theorem d_LW_law_196 : decode code 196 = .ok (.iload 4, 2) := by decide +kernel
theorem d_LW_law_198 : decode code 198 = .ok (.iconst 2, 1) := by decide +kernel
theorem d_LW_law_199 : decode code 199 = .ok (.iadd, 1) := by decide +kernel
theorem d_LW_law_200 : decode code 200 = .ok (.iaload, 1) := by decide +kernel
theorem d_LW_law_201 : decode code 201 = .ok (.aload_n 3, 1) := by decide +kernel
theorem d_LW_law_202 : decode code 202 = .ok (.invokestatic 62, 3) := by decide +kernel
theorem d_LW_law_205 : decode code 205 = .ok (.istore 5, 2) := by decide +kernel
theorem d_LW_law_207 : decode code 207 = .ok (.aload_n 2, 1) := by decide +kernel
theorem d_LW_law_208 : decode code 208 = .ok (.aload_n 0, 1) := by decide +kernel
theorem d_LW_law_209 : decode code 209 = .ok (.iload 4, 2) := by decide +kernel
theorem d_LW_law_211 : decode code 211 = .ok (.iconst 1, 1) := by decide +kernel
theorem d_LW_law_212 : decode code 212 = .ok (.iadd, 1) := by decide +kernel
theorem d_LW_law_213 : decode code 213 = .ok (.iaload, 1) := by decide +kernel
theorem d_LW_law_214 : decode code 214 = .ok (.ifCond .eq 7, 3) := by decide +kernel
theorem d_LW_law_217 : decode code 217 = .ok (.iconst 1, 1) := by decide +kernel
theorem d_LW_law_218 : decode code 218 = .ok (.goto 4, 3) := by decide +kernel
theorem d_LW_law_221 : decode code 221 = .ok (.iconst 0, 1) := by decide +kernel
theorem d_LW_law_222 : decode code 222 = .ok (.aload_n 0, 1) := by decide +kernel
theorem d_LW_law_223 : decode code 223 = .ok (.iload 4, 2) := by decide +kernel
theorem d_LW_law_225 : decode code 225 = .ok (.iconst 2, 1) := by decide +kernel
theorem d_LW_law_226 : decode code 226 = .ok (.iadd, 1) := by decide +kernel
theorem d_LW_law_227 : decode code 227 = .ok (.iaload, 1) := by decide +kernel
theorem d_LW_law_228 : decode code 228 = .ok (.invokevirtual 65, 3) := by decide +kernel
theorem d_LW_law_231 : decode code 231 = .ok (.istore 6, 2) := by decide +kernel
theorem d_LW_law_233 : decode code 233 = .ok (.goto 341, 3) := by decide +kernel
theorem d_LW_law_236 : decode code 236 = .ok (.aload_n 1, 1) := by decide +kernel
theorem d_LW_law_237 : decode code 237 = .ok (.invokevirtual 66, 3) := by decide +kernel
theorem d_LW_law_240 : decode code 240 = .ok (.pop, 1) := by decide +kernel
theorem d_LW_law_241 : decode code 241 = .ok (.aload_n 2, 1) := by decide +kernel
theorem d_LW_law_242 : decode code 242 = .ok (.invokevirtual 69, 3) := by decide +kernel
theorem d_LW_law_245 : decode code 245 = .ok (.pop, 1) := by decide +kernel
theorem d_LW_law_246 : decode code 246 = .ok (.goto 328, 3) := by decide +kernel
theorem d_LW_law_249 : decode code 249 = .ok (.aload_n 1, 1) := by decide +kernel
theorem d_LW_law_250 : decode code 250 = .ok (.aload_n 3, 1) := by decide +kernel
theorem d_LW_law_251 : decode code 251 = .ok (.invokestatic 70, 3) := by decide +kernel
theorem d_LW_law_254 : decode code 254 = .ok (.istore 5, 2) := by decide +kernel
theorem d_LW_law_256 : decode code 256 = .ok (.aload_n 2, 1) := by decide +kernel
theorem d_LW_law_257 : decode code 257 = .ok (.invokevirtual 73, 3) := by decide +kernel
theorem d_LW_law_260 : decode code 260 = .ok (.istore 6, 2) := by decide +kernel
theorem d_LW_law_262 : decode code 262 = .ok (.goto 312, 3) := by decide +kernel
theorem d_LW_law_265 : decode code 265 = .ok (.aload_n 1, 1) := by decide +kernel
theorem d_LW_law_266 : decode code 266 = .ok (.invokevirtual 74, 3) := by decide +kernel
theorem d_LW_law_269 : decode code 269 = .ok (.pop, 1) := by decide +kernel
theorem d_LW_law_270 : decode code 270 = .ok (.aload_n 2, 1) := by decide +kernel
theorem d_LW_law_271 : decode code 271 = .ok (.invokevirtual 77, 3) := by decide +kernel
theorem d_LW_law_274 : decode code 274 = .ok (.pop, 1) := by decide +kernel
theorem d_LW_law_275 : decode code 275 = .ok (.goto 299, 3) := by decide +kernel
theorem d_LW_law_278 : decode code 278 = .ok (.aload_n 1, 1) := by decide +kernel
theorem d_LW_law_279 : decode code 279 = .ok (.aload_n 3, 1) := by decide +kernel
theorem d_LW_law_280 : decode code 280 = .ok (.invokestatic 78, 3) := by decide +kernel
theorem d_LW_law_283 : decode code 283 = .ok (.istore 5, 2) := by decide +kernel
theorem d_LW_law_285 : decode code 285 = .ok (.aload_n 2, 1) := by decide +kernel
theorem d_LW_law_286 : decode code 286 = .ok (.invokevirtual 80, 3) := by decide +kernel
theorem d_LW_law_289 : decode code 289 = .ok (.istore 6, 2) := by decide +kernel
theorem d_LW_law_291 : decode code 291 = .ok (.goto 283, 3) := by decide +kernel
theorem d_LW_law_294 : decode code 294 = .ok (.aload_n 1, 1) := by decide +kernel
theorem d_LW_law_295 : decode code 295 = .ok (.invokevirtual 81, 3) := by decide +kernel
theorem d_LW_law_298 : decode code 298 = .ok (.pop, 1) := by decide +kernel
theorem d_LW_law_299 : decode code 299 = .ok (.aload_n 2, 1) := by decide +kernel
theorem d_LW_law_300 : decode code 300 = .ok (.invokevirtual 84, 3) := by decide +kernel
theorem d_LW_law_303 : decode code 303 = .ok (.pop, 1) := by decide +kernel
theorem d_LW_law_304 : decode code 304 = .ok (.goto 270, 3) := by decide +kernel
theorem d_LW_law_307 : decode code 307 = .ok (.aload_n 1, 1) := by decide +kernel
theorem d_LW_law_308 : decode code 308 = .ok (.aload_n 0, 1) := by decide +kernel
theorem d_LW_law_309 : decode code 309 = .ok (.iload 4, 2) := by decide +kernel
theorem d_LW_law_311 : decode code 311 = .ok (.iconst 1, 1) := by decide +kernel
theorem d_LW_law_312 : decode code 312 = .ok (.iadd, 1) := by decide +kernel
theorem d_LW_law_313 : decode code 313 = .ok (.iaload, 1) := by decide +kernel
theorem d_LW_law_314 : decode code 314 = .ok (.aload_n 0, 1) := by decide +kernel
theorem d_LW_law_315 : decode code 315 = .ok (.iload 4, 2) := by decide +kernel
theorem d_LW_law_317 : decode code 317 = .ok (.iconst 2, 1) := by decide +kernel
theorem d_LW_law_318 : decode code 318 = .ok (.iadd, 1) := by decide +kernel
theorem d_LW_law_319 : decode code 319 = .ok (.iaload, 1) := by decide +kernel
theorem d_LW_law_320 : decode code 320 = .ok (.ifCond .eq 7, 3) := by decide +kernel
theorem d_LW_law_323 : decode code 323 = .ok (.iconst 1, 1) := by decide +kernel
theorem d_LW_law_324 : decode code 324 = .ok (.goto 4, 3) := by decide +kernel
theorem d_LW_law_327 : decode code 327 = .ok (.iconst 0, 1) := by decide +kernel
theorem d_LW_law_328 : decode code 328 = .ok (.aload_n 3, 1) := by decide +kernel
theorem d_LW_law_329 : decode code 329 = .ok (.invokestatic 85, 3) := by decide +kernel
theorem d_LW_law_332 : decode code 332 = .ok (.istore 5, 2) := by decide +kernel
theorem d_LW_law_334 : decode code 334 = .ok (.aload_n 2, 1) := by decide +kernel
theorem d_LW_law_335 : decode code 335 = .ok (.aload_n 0, 1) := by decide +kernel
theorem d_LW_law_336 : decode code 336 = .ok (.iload 4, 2) := by decide +kernel
theorem d_LW_law_338 : decode code 338 = .ok (.iconst 1, 1) := by decide +kernel
theorem d_LW_law_339 : decode code 339 = .ok (.iadd, 1) := by decide +kernel
theorem d_LW_law_340 : decode code 340 = .ok (.iaload, 1) := by decide +kernel
theorem d_LW_law_341 : decode code 341 = .ok (.aload_n 0, 1) := by decide +kernel
theorem d_LW_law_342 : decode code 342 = .ok (.iload 4, 2) := by decide +kernel
theorem d_LW_law_344 : decode code 344 = .ok (.iconst 2, 1) := by decide +kernel
theorem d_LW_law_345 : decode code 345 = .ok (.iadd, 1) := by decide +kernel
theorem d_LW_law_346 : decode code 346 = .ok (.iaload, 1) := by decide +kernel
theorem d_LW_law_347 : decode code 347 = .ok (.ifCond .eq 7, 3) := by decide +kernel
theorem d_LW_law_350 : decode code 350 = .ok (.iconst 1, 1) := by decide +kernel
theorem d_LW_law_351 : decode code 351 = .ok (.goto 4, 3) := by decide +kernel
theorem d_LW_law_354 : decode code 354 = .ok (.iconst 0, 1) := by decide +kernel
theorem d_LW_law_355 : decode code 355 = .ok (.invokevirtual 88, 3) := by decide +kernel
theorem d_LW_law_358 : decode code 358 = .ok (.istore 6, 2) := by decide +kernel
theorem d_LW_law_360 : decode code 360 = .ok (.goto 214, 3) := by decide +kernel
theorem d_LW_law_363 : decode code 363 = .ok (.aload_n 1, 1) := by decide +kernel
theorem d_LW_law_364 : decode code 364 = .ok (.aload_n 0, 1) := by decide +kernel
theorem d_LW_law_365 : decode code 365 = .ok (.iload 4, 2) := by decide +kernel
theorem d_LW_law_367 : decode code 367 = .ok (.iconst 1, 1) := by decide +kernel
theorem d_LW_law_368 : decode code 368 = .ok (.iadd, 1) := by decide +kernel
theorem d_LW_law_369 : decode code 369 = .ok (.iaload, 1) := by decide +kernel
theorem d_LW_law_370 : decode code 370 = .ok (.ifCond .eq 7, 3) := by decide +kernel
theorem d_LW_law_373 : decode code 373 = .ok (.iconst 1, 1) := by decide +kernel
theorem d_LW_law_374 : decode code 374 = .ok (.goto 4, 3) := by decide +kernel
theorem d_LW_law_377 : decode code 377 = .ok (.iconst 0, 1) := by decide +kernel
theorem d_LW_law_378 : decode code 378 = .ok (.aload_n 0, 1) := by decide +kernel
theorem d_LW_law_379 : decode code 379 = .ok (.iload 4, 2) := by decide +kernel
theorem d_LW_law_381 : decode code 381 = .ok (.iconst 2, 1) := by decide +kernel
theorem d_LW_law_382 : decode code 382 = .ok (.iadd, 1) := by decide +kernel
theorem d_LW_law_383 : decode code 383 = .ok (.iaload, 1) := by decide +kernel
theorem d_LW_law_384 : decode code 384 = .ok (.aload_n 0, 1) := by decide +kernel
theorem d_LW_law_385 : decode code 385 = .ok (.iload 4, 2) := by decide +kernel
theorem d_LW_law_387 : decode code 387 = .ok (.iconst 3, 1) := by decide +kernel
theorem d_LW_law_388 : decode code 388 = .ok (.iadd, 1) := by decide +kernel
theorem d_LW_law_389 : decode code 389 = .ok (.iaload, 1) := by decide +kernel
theorem d_LW_law_390 : decode code 390 = .ok (.aload_n 3, 1) := by decide +kernel
theorem d_LW_law_391 : decode code 391 = .ok (.invokestatic 89, 3) := by decide +kernel
theorem d_LW_law_394 : decode code 394 = .ok (.istore 5, 2) := by decide +kernel
theorem d_LW_law_396 : decode code 396 = .ok (.aload_n 2, 1) := by decide +kernel
theorem d_LW_law_397 : decode code 397 = .ok (.aload_n 0, 1) := by decide +kernel
theorem d_LW_law_398 : decode code 398 = .ok (.iload 4, 2) := by decide +kernel
theorem d_LW_law_400 : decode code 400 = .ok (.iconst 1, 1) := by decide +kernel
theorem d_LW_law_401 : decode code 401 = .ok (.iadd, 1) := by decide +kernel
theorem d_LW_law_402 : decode code 402 = .ok (.iaload, 1) := by decide +kernel
theorem d_LW_law_403 : decode code 403 = .ok (.ifCond .eq 7, 3) := by decide +kernel
theorem d_LW_law_406 : decode code 406 = .ok (.iconst 1, 1) := by decide +kernel
theorem d_LW_law_407 : decode code 407 = .ok (.goto 4, 3) := by decide +kernel
theorem d_LW_law_410 : decode code 410 = .ok (.iconst 0, 1) := by decide +kernel
theorem d_LW_law_411 : decode code 411 = .ok (.aload_n 0, 1) := by decide +kernel
theorem d_LW_law_412 : decode code 412 = .ok (.iload 4, 2) := by decide +kernel
theorem d_LW_law_414 : decode code 414 = .ok (.iconst 2, 1) := by decide +kernel
theorem d_LW_law_415 : decode code 415 = .ok (.iadd, 1) := by decide +kernel
theorem d_LW_law_416 : decode code 416 = .ok (.iaload, 1) := by decide +kernel
theorem d_LW_law_417 : decode code 417 = .ok (.aload_n 0, 1) := by decide +kernel
theorem d_LW_law_418 : decode code 418 = .ok (.iload 4, 2) := by decide +kernel
theorem d_LW_law_420 : decode code 420 = .ok (.iconst 3, 1) := by decide +kernel
theorem d_LW_law_421 : decode code 421 = .ok (.iadd, 1) := by decide +kernel
theorem d_LW_law_422 : decode code 422 = .ok (.iaload, 1) := by decide +kernel
theorem d_LW_law_423 : decode code 423 = .ok (.invokevirtual 92, 3) := by decide +kernel
theorem d_LW_law_426 : decode code 426 = .ok (.istore 6, 2) := by decide +kernel
theorem d_LW_law_428 : decode code 428 = .ok (.goto 146, 3) := by decide +kernel
theorem d_LW_law_431 : decode code 431 = .ok (.aload_n 1, 1) := by decide +kernel
theorem d_LW_law_432 : decode code 432 = .ok (.aload_n 0, 1) := by decide +kernel
theorem d_LW_law_433 : decode code 433 = .ok (.iload 4, 2) := by decide +kernel
theorem d_LW_law_435 : decode code 435 = .ok (.iconst 1, 1) := by decide +kernel
theorem d_LW_law_436 : decode code 436 = .ok (.iadd, 1) := by decide +kernel
theorem d_LW_law_437 : decode code 437 = .ok (.iaload, 1) := by decide +kernel
theorem d_LW_law_438 : decode code 438 = .ok (.aload_n 0, 1) := by decide +kernel
theorem d_LW_law_439 : decode code 439 = .ok (.iload 4, 2) := by decide +kernel
theorem d_LW_law_441 : decode code 441 = .ok (.iconst 2, 1) := by decide +kernel
theorem d_LW_law_442 : decode code 442 = .ok (.iadd, 1) := by decide +kernel
theorem d_LW_law_443 : decode code 443 = .ok (.iaload, 1) := by decide +kernel
theorem d_LW_law_444 : decode code 444 = .ok (.aload_n 3, 1) := by decide +kernel
theorem d_LW_law_445 : decode code 445 = .ok (.invokestatic 93, 3) := by decide +kernel
theorem d_LW_law_448 : decode code 448 = .ok (.istore 5, 2) := by decide +kernel
theorem d_LW_law_450 : decode code 450 = .ok (.aload_n 2, 1) := by decide +kernel
theorem d_LW_law_451 : decode code 451 = .ok (.aload_n 0, 1) := by decide +kernel
theorem d_LW_law_452 : decode code 452 = .ok (.iload 4, 2) := by decide +kernel
theorem d_LW_law_454 : decode code 454 = .ok (.iconst 1, 1) := by decide +kernel
theorem d_LW_law_455 : decode code 455 = .ok (.iadd, 1) := by decide +kernel
theorem d_LW_law_456 : decode code 456 = .ok (.iaload, 1) := by decide +kernel
theorem d_LW_law_457 : decode code 457 = .ok (.aload_n 0, 1) := by decide +kernel
theorem d_LW_law_458 : decode code 458 = .ok (.iload 4, 2) := by decide +kernel
theorem d_LW_law_460 : decode code 460 = .ok (.iconst 2, 1) := by decide +kernel
theorem d_LW_law_461 : decode code 461 = .ok (.iadd, 1) := by decide +kernel
theorem d_LW_law_462 : decode code 462 = .ok (.iaload, 1) := by decide +kernel
theorem d_LW_law_463 : decode code 463 = .ok (.invokevirtual 96, 3) := by decide +kernel
theorem d_LW_law_466 : decode code 466 = .ok (.istore 6, 2) := by decide +kernel
theorem d_LW_law_468 : decode code 468 = .ok (.aload_n 2, 1) := by decide +kernel
theorem d_LW_law_469 : decode code 469 = .ok (.invokevirtual 97, 3) := by decide +kernel
theorem d_LW_law_472 : decode code 472 = .ok (.iload 5, 2) := by decide +kernel
theorem d_LW_law_474 : decode code 474 = .ok (.if_icmp .eq 5, 3) := by decide +kernel
theorem d_LW_law_477 : decode code 477 = .ok (.iconst 0, 1) := by decide +kernel
theorem d_LW_law_478 : decode code 478 = .ok (.ireturn, 1) := by decide +kernel
theorem d_LW_law_479 : decode code 479 = .ok (.iload 5, 2) := by decide +kernel
theorem d_LW_law_481 : decode code 481 = .ok (.ifCond .ne 22, 3) := by decide +kernel
theorem d_LW_law_484 : decode code 484 = .ok (.aload_n 3, 1) := by decide +kernel
theorem d_LW_law_485 : decode code 485 = .ok (.iconst 0, 1) := by decide +kernel
theorem d_LW_law_486 : decode code 486 = .ok (.laload, 1) := by decide +kernel
theorem d_LW_law_487 : decode code 487 = .ok (.iload 6, 2) := by decide +kernel
theorem d_LW_law_489 : decode code 489 = .ok (.ifCond .eq 7, 3) := by decide +kernel
theorem d_LW_law_492 : decode code 492 = .ok (.lconst 1, 1) := by decide +kernel
theorem d_LW_law_493 : decode code 493 = .ok (.goto 4, 3) := by decide +kernel
theorem d_LW_law_496 : decode code 496 = .ok (.lconst 0, 1) := by decide +kernel
theorem d_LW_law_497 : decode code 497 = .ok (.lcmp, 1) := by decide +kernel
theorem d_LW_law_498 : decode code 498 = .ok (.ifCond .eq 5, 3) := by decide +kernel
theorem d_LW_law_501 : decode code 501 = .ok (.iconst 0, 1) := by decide +kernel
theorem d_LW_law_502 : decode code 502 = .ok (.ireturn, 1) := by decide +kernel
theorem d_LW_law_503 : decode code 503 = .ok (.goto 71, 3) := by decide +kernel
theorem d_LW_law_506 : decode code 506 = .ok (.aload_n 1, 1) := by decide +kernel
theorem d_LW_law_507 : decode code 507 = .ok (.aload_n 0, 1) := by decide +kernel
theorem d_LW_law_508 : decode code 508 = .ok (.iload 4, 2) := by decide +kernel
theorem d_LW_law_510 : decode code 510 = .ok (.iconst 1, 1) := by decide +kernel
theorem d_LW_law_511 : decode code 511 = .ok (.iadd, 1) := by decide +kernel
theorem d_LW_law_512 : decode code 512 = .ok (.iaload, 1) := by decide +kernel
theorem d_LW_law_513 : decode code 513 = .ok (.aload_n 0, 1) := by decide +kernel
theorem d_LW_law_514 : decode code 514 = .ok (.iload 4, 2) := by decide +kernel
theorem d_LW_law_516 : decode code 516 = .ok (.iconst 2, 1) := by decide +kernel
theorem d_LW_law_517 : decode code 517 = .ok (.iadd, 1) := by decide +kernel
theorem d_LW_law_518 : decode code 518 = .ok (.iaload, 1) := by decide +kernel
theorem d_LW_law_519 : decode code 519 = .ok (.aload_n 3, 1) := by decide +kernel
theorem d_LW_law_520 : decode code 520 = .ok (.invokestatic 100, 3) := by decide +kernel
theorem d_LW_law_523 : decode code 523 = .ok (.istore 5, 2) := by decide +kernel
theorem d_LW_law_525 : decode code 525 = .ok (.aload_n 2, 1) := by decide +kernel
theorem d_LW_law_526 : decode code 526 = .ok (.aload_n 0, 1) := by decide +kernel
theorem d_LW_law_527 : decode code 527 = .ok (.iload 4, 2) := by decide +kernel
theorem d_LW_law_529 : decode code 529 = .ok (.iconst 1, 1) := by decide +kernel
theorem d_LW_law_530 : decode code 530 = .ok (.iadd, 1) := by decide +kernel
theorem d_LW_law_531 : decode code 531 = .ok (.iaload, 1) := by decide +kernel
theorem d_LW_law_532 : decode code 532 = .ok (.aload_n 0, 1) := by decide +kernel
theorem d_LW_law_533 : decode code 533 = .ok (.iload 4, 2) := by decide +kernel
theorem d_LW_law_535 : decode code 535 = .ok (.iconst 2, 1) := by decide +kernel
theorem d_LW_law_536 : decode code 536 = .ok (.iadd, 1) := by decide +kernel
theorem d_LW_law_537 : decode code 537 = .ok (.iaload, 1) := by decide +kernel
theorem d_LW_law_538 : decode code 538 = .ok (.invokevirtual 102, 3) := by decide +kernel
theorem d_LW_law_541 : decode code 541 = .ok (.istore 6, 2) := by decide +kernel
theorem d_LW_law_543 : decode code 543 = .ok (.goto 31, 3) := by decide +kernel
theorem d_LW_law_546 : decode code 546 = .ok (.aload_n 1, 1) := by decide +kernel
theorem d_LW_law_547 : decode code 547 = .ok (.aload_n 0, 1) := by decide +kernel
theorem d_LW_law_548 : decode code 548 = .ok (.iload 4, 2) := by decide +kernel
theorem d_LW_law_550 : decode code 550 = .ok (.iconst 1, 1) := by decide +kernel
theorem d_LW_law_551 : decode code 551 = .ok (.iadd, 1) := by decide +kernel
theorem d_LW_law_552 : decode code 552 = .ok (.iaload, 1) := by decide +kernel
theorem d_LW_law_553 : decode code 553 = .ok (.aload_n 3, 1) := by decide +kernel
theorem d_LW_law_554 : decode code 554 = .ok (.invokestatic 103, 3) := by decide +kernel
theorem d_LW_law_557 : decode code 557 = .ok (.istore 5, 2) := by decide +kernel
theorem d_LW_law_559 : decode code 559 = .ok (.aload_n 2, 1) := by decide +kernel
theorem d_LW_law_560 : decode code 560 = .ok (.aload_n 0, 1) := by decide +kernel
theorem d_LW_law_561 : decode code 561 = .ok (.iload 4, 2) := by decide +kernel
theorem d_LW_law_563 : decode code 563 = .ok (.iconst 1, 1) := by decide +kernel
theorem d_LW_law_564 : decode code 564 = .ok (.iadd, 1) := by decide +kernel
theorem d_LW_law_565 : decode code 565 = .ok (.iaload, 1) := by decide +kernel
theorem d_LW_law_566 : decode code 566 = .ok (.invokevirtual 106, 3) := by decide +kernel
theorem d_LW_law_569 : decode code 569 = .ok (.istore 6, 2) := by decide +kernel
theorem d_LW_law_571 : decode code 571 = .ok (.goto 3, 3) := by decide +kernel
theorem d_LW_law_574 : decode code 574 = .ok (.iinc 4 6, 3) := by decide +kernel
theorem d_LW_law_577 : decode code 577 = .ok (.goto (-554), 3) := by decide +kernel
theorem d_LW_law_580 : decode code 580 = .ok (.iconst 1, 1) := by decide +kernel
theorem d_LW_law_581 : decode code 581 = .ok (.ireturn, 1) := by decide +kernel
