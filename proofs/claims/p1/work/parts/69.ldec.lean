theorem d_LW_law_0 : decode code 0 = .ok (.new 8, 3) := by decide +kernel
theorem d_LW_law_3 : decode code 3 = .ok (.dup, 1) := by decide +kernel
theorem d_LW_law_4 : decode code 4 = .ok (.invokespecial 52, 3) := by decide +kernel
theorem d_LW_law_7 : decode code 7 = .ok (.astore_n 1, 1) := by decide +kernel
theorem d_LW_law_8 : decode code 8 = .ok (.new 53, 3) := by decide +kernel
theorem d_LW_law_11 : decode code 11 = .ok (.dup, 1) := by decide +kernel
theorem d_LW_law_12 : decode code 12 = .ok (.invokespecial 55, 3) := by decide +kernel
theorem d_LW_law_15 : decode code 15 = .ok (.astore_n 2, 1) := by decide +kernel
theorem d_LW_law_16 : decode code 16 = .ok (.iconst 1, 1) := by decide +kernel
theorem d_LW_law_17 : decode code 17 = .ok (.newarray .long, 2) := by decide +kernel
theorem d_LW_law_19 : decode code 19 = .ok (.astore_n 3, 1) := by decide +kernel
theorem d_LW_law_20 : decode code 20 = .ok (.iconst 0, 1) := by decide +kernel
theorem d_LW_law_21 : decode code 21 = .ok (.istore 4, 2) := by decide +kernel
theorem d_LW_law_23 : decode code 23 = .ok (.iload 4, 2) := by decide +kernel
theorem d_LW_law_25 : decode code 25 = .ok (.aload_n 0, 1) := by decide +kernel
theorem d_LW_law_26 : decode code 26 = .ok (.arraylength, 1) := by decide +kernel
theorem d_LW_law_27 : decode code 27 = .ok (.bipush 6, 2) := by decide +kernel
theorem d_LW_law_29 : decode code 29 = .ok (.isub, 1) := by decide +kernel
theorem d_LW_law_30 : decode code 30 = .ok (.if_icmp .gt 788, 3) := by decide +kernel
theorem d_LW_law_33 : decode code 33 = .ok (.aload_n 0, 1) := by decide +kernel
theorem d_LW_law_34 : decode code 34 = .ok (.iload 4, 2) := by decide +kernel
theorem d_LW_law_36 : decode code 36 = .ok (.iaload, 1) := by decide +kernel
theorem d_LW_law_37 : decode code 37 = .ok (.bipush 15, 2) := by decide +kernel
theorem d_LW_law_39 : decode code 39 = .ok (.iand, 1) := by decide +kernel
theorem d_LW_law_40 : decode code 40 = .ok (.tableswitch 772 0 11 #[64, 168, 252, 265, 309, 322, 373, 386, 470, 566, 641, 716], 64) := by decide +kernel
theorem d_LW_law_104 : decode code 104 = .ok (.aload_n 1, 1) := by decide +kernel
theorem d_LW_law_105 : decode code 105 = .ok (.aload_n 0, 1) := by decide +kernel
theorem d_LW_law_106 : decode code 106 = .ok (.iload 4, 2) := by decide +kernel
theorem d_LW_law_108 : decode code 108 = .ok (.iconst 1, 1) := by decide +kernel
theorem d_LW_law_109 : decode code 109 = .ok (.iadd, 1) := by decide +kernel
theorem d_LW_law_110 : decode code 110 = .ok (.iaload, 1) := by decide +kernel
theorem d_LW_law_111 : decode code 111 = .ok (.aload_n 0, 1) := by decide +kernel
theorem d_LW_law_112 : decode code 112 = .ok (.iload 4, 2) := by decide +kernel
theorem d_LW_law_114 : decode code 114 = .ok (.iconst 2, 1) := by decide +kernel
theorem d_LW_law_115 : decode code 115 = .ok (.iadd, 1) := by decide +kernel
theorem d_LW_law_116 : decode code 116 = .ok (.iaload, 1) := by decide +kernel
theorem d_LW_law_117 : decode code 117 = .ok (.aload_n 0, 1) := by decide +kernel
theorem d_LW_law_118 : decode code 118 = .ok (.iload 4, 2) := by decide +kernel
theorem d_LW_law_120 : decode code 120 = .ok (.iconst 3, 1) := by decide +kernel
theorem d_LW_law_121 : decode code 121 = .ok (.iadd, 1) := by decide +kernel
theorem d_LW_law_122 : decode code 122 = .ok (.iaload, 1) := by decide +kernel
theorem d_LW_law_123 : decode code 123 = .ok (.aload_n 0, 1) := by decide +kernel
theorem d_LW_law_124 : decode code 124 = .ok (.iload 4, 2) := by decide +kernel
theorem d_LW_law_126 : decode code 126 = .ok (.iconst 4, 1) := by decide +kernel
theorem d_LW_law_127 : decode code 127 = .ok (.iadd, 1) := by decide +kernel
theorem d_LW_law_128 : decode code 128 = .ok (.iaload, 1) := by decide +kernel
theorem d_LW_law_129 : decode code 129 = .ok (.aload_n 0, 1) := by decide +kernel
theorem d_LW_law_130 : decode code 130 = .ok (.iload 4, 2) := by decide +kernel
theorem d_LW_law_132 : decode code 132 = .ok (.iconst 5, 1) := by decide +kernel
theorem d_LW_law_133 : decode code 133 = .ok (.iadd, 1) := by decide +kernel
theorem d_LW_law_134 : decode code 134 = .ok (.iaload, 1) := by decide +kernel
theorem d_LW_law_135 : decode code 135 = .ok (.aload_n 3, 1) := by decide +kernel
theorem d_LW_law_136 : decode code 136 = .ok (.invokestatic 56, 3) := by decide +kernel
theorem d_LW_law_139 : decode code 139 = .ok (.istore 5, 2) := by decide +kernel
theorem d_LW_law_141 : decode code 141 = .ok (.aload_n 2, 1) := by decide +kernel
theorem d_LW_law_142 : decode code 142 = .ok (.aload_n 0, 1) := by decide +kernel
theorem d_LW_law_143 : decode code 143 = .ok (.iload 4, 2) := by decide +kernel
theorem d_LW_law_145 : decode code 145 = .ok (.iconst 1, 1) := by decide +kernel
theorem d_LW_law_146 : decode code 146 = .ok (.iadd, 1) := by decide +kernel
theorem d_LW_law_147 : decode code 147 = .ok (.iaload, 1) := by decide +kernel
theorem d_LW_law_148 : decode code 148 = .ok (.aload_n 0, 1) := by decide +kernel
theorem d_LW_law_149 : decode code 149 = .ok (.iload 4, 2) := by decide +kernel
theorem d_LW_law_151 : decode code 151 = .ok (.iconst 2, 1) := by decide +kernel
theorem d_LW_law_152 : decode code 152 = .ok (.iadd, 1) := by decide +kernel
theorem d_LW_law_153 : decode code 153 = .ok (.iaload, 1) := by decide +kernel
theorem d_LW_law_154 : decode code 154 = .ok (.aload_n 0, 1) := by decide +kernel
theorem d_LW_law_155 : decode code 155 = .ok (.iload 4, 2) := by decide +kernel
theorem d_LW_law_157 : decode code 157 = .ok (.iconst 3, 1) := by decide +kernel
theorem d_LW_law_158 : decode code 158 = .ok (.iadd, 1) := by decide +kernel
theorem d_LW_law_159 : decode code 159 = .ok (.iaload, 1) := by decide +kernel
theorem d_LW_law_160 : decode code 160 = .ok (.aload_n 0, 1) := by decide +kernel
theorem d_LW_law_161 : decode code 161 = .ok (.iload 4, 2) := by decide +kernel
theorem d_LW_law_163 : decode code 163 = .ok (.iconst 4, 1) := by decide +kernel
theorem d_LW_law_164 : decode code 164 = .ok (.iadd, 1) := by decide +kernel
theorem d_LW_law_165 : decode code 165 = .ok (.iaload, 1) := by decide +kernel
theorem d_LW_law_166 : decode code 166 = .ok (.aload_n 0, 1) := by decide +kernel
theorem d_LW_law_167 : decode code 167 = .ok (.iload 4, 2) := by decide +kernel
theorem d_LW_law_169 : decode code 169 = .ok (.iconst 5, 1) := by decide +kernel
theorem d_LW_law_170 : decode code 170 = .ok (.iadd, 1) := by decide +kernel
theorem d_LW_law_171 : decode code 171 = .ok (.iaload, 1) := by decide +kernel
theorem d_LW_law_172 : decode code 172 = .ok (.invokevirtual 61, 3) := by decide +kernel
theorem d_LW_law_175 : decode code 175 = .ok (.istore 6, 2) := by decide +kernel
theorem d_LW_law_177 : decode code 177 = .ok (.aload_n 2, 1) := by decide +kernel
theorem d_LW_law_178 : decode code 178 = .ok (.invokevirtual 62, 3) := by decide +kernel
theorem d_LW_law_181 : decode code 181 = .ok (.iload 5, 2) := by decide +kernel
theorem d_LW_law_183 : decode code 183 = .ok (.if_icmp .eq 5, 3) := by decide +kernel
theorem d_LW_law_186 : decode code 186 = .ok (.iconst 0, 1) := by decide +kernel
theorem d_LW_law_187 : decode code 187 = .ok (.ireturn, 1) := by decide +kernel
theorem d_LW_law_188 : decode code 188 = .ok (.iload 5, 2) := by decide +kernel
theorem d_LW_law_190 : decode code 190 = .ok (.ifCond .ne 15, 3) := by decide +kernel
theorem d_LW_law_193 : decode code 193 = .ok (.aload_n 3, 1) := by decide +kernel
theorem d_LW_law_194 : decode code 194 = .ok (.iconst 0, 1) := by decide +kernel
theorem d_LW_law_195 : decode code 195 = .ok (.laload, 1) := by decide +kernel
theorem d_LW_law_196 : decode code 196 = .ok (.iload 6, 2) := by decide +kernel
theorem d_LW_law_198 : decode code 198 = .ok (.i2l, 1) := by decide +kernel
theorem d_LW_law_199 : decode code 199 = .ok (.lcmp, 1) := by decide +kernel
theorem d_LW_law_200 : decode code 200 = .ok (.ifCond .eq 5, 3) := by decide +kernel
theorem d_LW_law_203 : decode code 203 = .ok (.iconst 0, 1) := by decide +kernel
theorem d_LW_law_204 : decode code 204 = .ok (.ireturn, 1) := by decide +kernel
theorem d_LW_law_205 : decode code 205 = .ok (.goto 607, 3) := by decide +kernel
theorem d_LW_law_208 : decode code 208 = .ok (.aload_n 1, 1) := by decide +kernel
theorem d_LW_law_209 : decode code 209 = .ok (.aload_n 0, 1) := by decide +kernel
theorem d_LW_law_210 : decode code 210 = .ok (.iload 4, 2) := by decide +kernel
theorem d_LW_law_212 : decode code 212 = .ok (.iconst 1, 1) := by decide +kernel
theorem d_LW_law_213 : decode code 213 = .ok (.iadd, 1) := by decide +kernel
theorem d_LW_law_214 : decode code 214 = .ok (.iaload, 1) := by decide +kernel
theorem d_LW_law_215 : decode code 215 = .ok (.ifCond .eq 7, 3) := by decide +kernel
theorem d_LW_law_218 : decode code 218 = .ok (.iconst 1, 1) := by decide +kernel
theorem d_LW_law_219 : decode code 219 = .ok (.goto 4, 3) := by decide +kernel
theorem d_LW_law_222 : decode code 222 = .ok (.iconst 0, 1) := by decide +kernel
theorem d_LW_law_223 : decode code 223 = .ok (.aload_n 0, 1) := by decide +kernel
theorem d_LW_law_224 : decode code 224 = .ok (.iload 4, 2) := by decide +kernel
theorem d_LW_law_226 : decode code 226 = .ok (.iconst 2, 1) := by decide +kernel
theorem d_LW_law_227 : decode code 227 = .ok (.iadd, 1) := by decide +kernel
theorem d_LW_law_228 : decode code 228 = .ok (.iaload, 1) := by decide +kernel
theorem d_LW_law_229 : decode code 229 = .ok (.aload_n 3, 1) := by decide +kernel
theorem d_LW_law_230 : decode code 230 = .ok (.invokestatic 65, 3) := by decide +kernel
theorem d_LW_law_233 : decode code 233 = .ok (.istore 5, 2) := by decide +kernel
theorem d_LW_law_235 : decode code 235 = .ok (.aload_n 2, 1) := by decide +kernel
theorem d_LW_law_236 : decode code 236 = .ok (.aload_n 0, 1) := by decide +kernel
theorem d_LW_law_237 : decode code 237 = .ok (.iload 4, 2) := by decide +kernel
theorem d_LW_law_239 : decode code 239 = .ok (.iconst 1, 1) := by decide +kernel
theorem d_LW_law_240 : decode code 240 = .ok (.iadd, 1) := by decide +kernel
theorem d_LW_law_241 : decode code 241 = .ok (.iaload, 1) := by decide +kernel
theorem d_LW_law_242 : decode code 242 = .ok (.ifCond .eq 7, 3) := by decide +kernel
theorem d_LW_law_245 : decode code 245 = .ok (.iconst 1, 1) := by decide +kernel
theorem d_LW_law_246 : decode code 246 = .ok (.goto 4, 3) := by decide +kernel
theorem d_LW_law_249 : decode code 249 = .ok (.iconst 0, 1) := by decide +kernel
theorem d_LW_law_250 : decode code 250 = .ok (.aload_n 0, 1) := by decide +kernel
theorem d_LW_law_251 : decode code 251 = .ok (.iload 4, 2) := by decide +kernel
theorem d_LW_law_253 : decode code 253 = .ok (.iconst 2, 1) := by decide +kernel
theorem d_LW_law_254 : decode code 254 = .ok (.iadd, 1) := by decide +kernel
theorem d_LW_law_255 : decode code 255 = .ok (.iaload, 1) := by decide +kernel
theorem d_LW_law_256 : decode code 256 = .ok (.invokevirtual 68, 3) := by decide +kernel
theorem d_LW_law_259 : decode code 259 = .ok (.istore 6, 2) := by decide +kernel
theorem d_LW_law_261 : decode code 261 = .ok (.aload_n 2, 1) := by decide +kernel
theorem d_LW_law_262 : decode code 262 = .ok (.invokevirtual 62, 3) := by decide +kernel
theorem d_LW_law_265 : decode code 265 = .ok (.iload 5, 2) := by decide +kernel
theorem d_LW_law_267 : decode code 267 = .ok (.if_icmp .eq 5, 3) := by decide +kernel
theorem d_LW_law_270 : decode code 270 = .ok (.iconst 0, 1) := by decide +kernel
theorem d_LW_law_271 : decode code 271 = .ok (.ireturn, 1) := by decide +kernel
theorem d_LW_law_272 : decode code 272 = .ok (.iload 5, 2) := by decide +kernel
theorem d_LW_law_274 : decode code 274 = .ok (.ifCond .ne 15, 3) := by decide +kernel
theorem d_LW_law_277 : decode code 277 = .ok (.aload_n 3, 1) := by decide +kernel
theorem d_LW_law_278 : decode code 278 = .ok (.iconst 0, 1) := by decide +kernel
theorem d_LW_law_279 : decode code 279 = .ok (.laload, 1) := by decide +kernel
theorem d_LW_law_280 : decode code 280 = .ok (.iload 6, 2) := by decide +kernel
theorem d_LW_law_282 : decode code 282 = .ok (.i2l, 1) := by decide +kernel
theorem d_LW_law_283 : decode code 283 = .ok (.lcmp, 1) := by decide +kernel
theorem d_LW_law_284 : decode code 284 = .ok (.ifCond .eq 5, 3) := by decide +kernel
theorem d_LW_law_287 : decode code 287 = .ok (.iconst 0, 1) := by decide +kernel
theorem d_LW_law_288 : decode code 288 = .ok (.ireturn, 1) := by decide +kernel
theorem d_LW_law_289 : decode code 289 = .ok (.goto 523, 3) := by decide +kernel
theorem d_LW_law_292 : decode code 292 = .ok (.aload_n 1, 1) := by decide +kernel
theorem d_LW_law_293 : decode code 293 = .ok (.invokevirtual 69, 3) := by decide +kernel
theorem d_LW_law_296 : decode code 296 = .ok (.aload_n 2, 1) := by decide +kernel
theorem d_LW_law_297 : decode code 297 = .ok (.invokevirtual 72, 3) := by decide +kernel
theorem d_LW_law_300 : decode code 300 = .ok (.if_icmp .eq 512, 3) := by decide +kernel
theorem d_LW_law_303 : decode code 303 = .ok (.iconst 0, 1) := by decide +kernel
theorem d_LW_law_304 : decode code 304 = .ok (.ireturn, 1) := by decide +kernel
theorem d_LW_law_305 : decode code 305 = .ok (.aload_n 1, 1) := by decide +kernel
theorem d_LW_law_306 : decode code 306 = .ok (.aload_n 3, 1) := by decide +kernel
theorem d_LW_law_307 : decode code 307 = .ok (.invokestatic 73, 3) := by decide +kernel
theorem d_LW_law_310 : decode code 310 = .ok (.istore 5, 2) := by decide +kernel
theorem d_LW_law_312 : decode code 312 = .ok (.aload_n 2, 1) := by decide +kernel
theorem d_LW_law_313 : decode code 313 = .ok (.invokevirtual 76, 3) := by decide +kernel
theorem d_LW_law_316 : decode code 316 = .ok (.istore 6, 2) := by decide +kernel
theorem d_LW_law_318 : decode code 318 = .ok (.aload_n 2, 1) := by decide +kernel
theorem d_LW_law_319 : decode code 319 = .ok (.invokevirtual 62, 3) := by decide +kernel
theorem d_LW_law_322 : decode code 322 = .ok (.iload 5, 2) := by decide +kernel
theorem d_LW_law_324 : decode code 324 = .ok (.if_icmp .eq 5, 3) := by decide +kernel
theorem d_LW_law_327 : decode code 327 = .ok (.iconst 0, 1) := by decide +kernel
theorem d_LW_law_328 : decode code 328 = .ok (.ireturn, 1) := by decide +kernel
theorem d_LW_law_329 : decode code 329 = .ok (.iload 5, 2) := by decide +kernel
theorem d_LW_law_331 : decode code 331 = .ok (.ifCond .ne 15, 3) := by decide +kernel
theorem d_LW_law_334 : decode code 334 = .ok (.aload_n 3, 1) := by decide +kernel
theorem d_LW_law_335 : decode code 335 = .ok (.iconst 0, 1) := by decide +kernel
theorem d_LW_law_336 : decode code 336 = .ok (.laload, 1) := by decide +kernel
theorem d_LW_law_337 : decode code 337 = .ok (.iload 6, 2) := by decide +kernel
theorem d_LW_law_339 : decode code 339 = .ok (.i2l, 1) := by decide +kernel
theorem d_LW_law_340 : decode code 340 = .ok (.lcmp, 1) := by decide +kernel
theorem d_LW_law_341 : decode code 341 = .ok (.ifCond .eq 5, 3) := by decide +kernel
theorem d_LW_law_344 : decode code 344 = .ok (.iconst 0, 1) := by decide +kernel
theorem d_LW_law_345 : decode code 345 = .ok (.ireturn, 1) := by decide +kernel
theorem d_LW_law_346 : decode code 346 = .ok (.goto 466, 3) := by decide +kernel
theorem d_LW_law_349 : decode code 349 = .ok (.aload_n 1, 1) := by decide +kernel
theorem d_LW_law_350 : decode code 350 = .ok (.invokevirtual 77, 3) := by decide +kernel
theorem d_LW_law_353 : decode code 353 = .ok (.aload_n 2, 1) := by decide +kernel
theorem d_LW_law_354 : decode code 354 = .ok (.invokevirtual 80, 3) := by decide +kernel
theorem d_LW_law_357 : decode code 357 = .ok (.if_icmp .eq 455, 3) := by decide +kernel
theorem d_LW_law_360 : decode code 360 = .ok (.iconst 0, 1) := by decide +kernel
theorem d_LW_law_361 : decode code 361 = .ok (.ireturn, 1) := by decide +kernel
theorem d_LW_law_362 : decode code 362 = .ok (.aload_n 1, 1) := by decide +kernel
theorem d_LW_law_363 : decode code 363 = .ok (.aload_n 3, 1) := by decide +kernel
theorem d_LW_law_364 : decode code 364 = .ok (.invokestatic 81, 3) := by decide +kernel
theorem d_LW_law_367 : decode code 367 = .ok (.istore 5, 2) := by decide +kernel
theorem d_LW_law_369 : decode code 369 = .ok (.aload_n 2, 1) := by decide +kernel
theorem d_LW_law_370 : decode code 370 = .ok (.invokevirtual 83, 3) := by decide +kernel
theorem d_LW_law_373 : decode code 373 = .ok (.istore 6, 2) := by decide +kernel
theorem d_LW_law_375 : decode code 375 = .ok (.aload_n 2, 1) := by decide +kernel
theorem d_LW_law_376 : decode code 376 = .ok (.invokevirtual 62, 3) := by decide +kernel
theorem d_LW_law_379 : decode code 379 = .ok (.iload 5, 2) := by decide +kernel
theorem d_LW_law_381 : decode code 381 = .ok (.if_icmp .eq 5, 3) := by decide +kernel
theorem d_LW_law_384 : decode code 384 = .ok (.iconst 0, 1) := by decide +kernel
theorem d_LW_law_385 : decode code 385 = .ok (.ireturn, 1) := by decide +kernel
theorem d_LW_law_386 : decode code 386 = .ok (.iload 5, 2) := by decide +kernel
theorem d_LW_law_388 : decode code 388 = .ok (.ifCond .ne 22, 3) := by decide +kernel
theorem d_LW_law_391 : decode code 391 = .ok (.aload_n 3, 1) := by decide +kernel
theorem d_LW_law_392 : decode code 392 = .ok (.iconst 0, 1) := by decide +kernel
theorem d_LW_law_393 : decode code 393 = .ok (.laload, 1) := by decide +kernel
theorem d_LW_law_394 : decode code 394 = .ok (.iload 6, 2) := by decide +kernel
theorem d_LW_law_396 : decode code 396 = .ok (.ifCond .eq 7, 3) := by decide +kernel
theorem d_LW_law_399 : decode code 399 = .ok (.lconst 1, 1) := by decide +kernel
theorem d_LW_law_400 : decode code 400 = .ok (.goto 4, 3) := by decide +kernel
theorem d_LW_law_403 : decode code 403 = .ok (.lconst 0, 1) := by decide +kernel
theorem d_LW_law_404 : decode code 404 = .ok (.lcmp, 1) := by decide +kernel
theorem d_LW_law_405 : decode code 405 = .ok (.ifCond .eq 5, 3) := by decide +kernel
theorem d_LW_law_408 : decode code 408 = .ok (.iconst 0, 1) := by decide +kernel
theorem d_LW_law_409 : decode code 409 = .ok (.ireturn, 1) := by decide +kernel
theorem d_LW_law_410 : decode code 410 = .ok (.goto 402, 3) := by decide +kernel
theorem d_LW_law_413 : decode code 413 = .ok (.aload_n 1, 1) := by decide +kernel
theorem d_LW_law_414 : decode code 414 = .ok (.invokevirtual 84, 3) := by decide +kernel
theorem d_LW_law_417 : decode code 417 = .ok (.aload_n 2, 1) := by decide +kernel
theorem d_LW_law_418 : decode code 418 = .ok (.invokevirtual 87, 3) := by decide +kernel
theorem d_LW_law_421 : decode code 421 = .ok (.if_icmp .eq 391, 3) := by decide +kernel
theorem d_LW_law_424 : decode code 424 = .ok (.iconst 0, 1) := by decide +kernel
theorem d_LW_law_425 : decode code 425 = .ok (.ireturn, 1) := by decide +kernel
theorem d_LW_law_426 : decode code 426 = .ok (.aload_n 1, 1) := by decide +kernel
theorem d_LW_law_427 : decode code 427 = .ok (.aload_n 0, 1) := by decide +kernel
theorem d_LW_law_428 : decode code 428 = .ok (.iload 4, 2) := by decide +kernel
theorem d_LW_law_430 : decode code 430 = .ok (.iconst 1, 1) := by decide +kernel
theorem d_LW_law_431 : decode code 431 = .ok (.iadd, 1) := by decide +kernel
theorem d_LW_law_432 : decode code 432 = .ok (.iaload, 1) := by decide +kernel
theorem d_LW_law_433 : decode code 433 = .ok (.aload_n 0, 1) := by decide +kernel
theorem d_LW_law_434 : decode code 434 = .ok (.iload 4, 2) := by decide +kernel
theorem d_LW_law_436 : decode code 436 = .ok (.iconst 2, 1) := by decide +kernel
theorem d_LW_law_437 : decode code 437 = .ok (.iadd, 1) := by decide +kernel
theorem d_LW_law_438 : decode code 438 = .ok (.iaload, 1) := by decide +kernel
theorem d_LW_law_439 : decode code 439 = .ok (.ifCond .eq 7, 3) := by decide +kernel
theorem d_LW_law_442 : decode code 442 = .ok (.iconst 1, 1) := by decide +kernel
theorem d_LW_law_443 : decode code 443 = .ok (.goto 4, 3) := by decide +kernel
theorem d_LW_law_446 : decode code 446 = .ok (.iconst 0, 1) := by decide +kernel
theorem d_LW_law_447 : decode code 447 = .ok (.aload_n 3, 1) := by decide +kernel
theorem d_LW_law_448 : decode code 448 = .ok (.invokestatic 88, 3) := by decide +kernel
theorem d_LW_law_451 : decode code 451 = .ok (.istore 5, 2) := by decide +kernel
theorem d_LW_law_453 : decode code 453 = .ok (.aload_n 2, 1) := by decide +kernel
theorem d_LW_law_454 : decode code 454 = .ok (.aload_n 0, 1) := by decide +kernel
theorem d_LW_law_455 : decode code 455 = .ok (.iload 4, 2) := by decide +kernel
theorem d_LW_law_457 : decode code 457 = .ok (.iconst 1, 1) := by decide +kernel
theorem d_LW_law_458 : decode code 458 = .ok (.iadd, 1) := by decide +kernel
theorem d_LW_law_459 : decode code 459 = .ok (.iaload, 1) := by decide +kernel
theorem d_LW_law_460 : decode code 460 = .ok (.aload_n 0, 1) := by decide +kernel
theorem d_LW_law_461 : decode code 461 = .ok (.iload 4, 2) := by decide +kernel
theorem d_LW_law_463 : decode code 463 = .ok (.iconst 2, 1) := by decide +kernel
theorem d_LW_law_464 : decode code 464 = .ok (.iadd, 1) := by decide +kernel
theorem d_LW_law_465 : decode code 465 = .ok (.iaload, 1) := by decide +kernel
theorem d_LW_law_466 : decode code 466 = .ok (.ifCond .eq 7, 3) := by decide +kernel
theorem d_LW_law_469 : decode code 469 = .ok (.iconst 1, 1) := by decide +kernel
theorem d_LW_law_470 : decode code 470 = .ok (.goto 4, 3) := by decide +kernel
theorem d_LW_law_473 : decode code 473 = .ok (.iconst 0, 1) := by decide +kernel
theorem d_LW_law_474 : decode code 474 = .ok (.invokevirtual 91, 3) := by decide +kernel
theorem d_LW_law_477 : decode code 477 = .ok (.istore 6, 2) := by decide +kernel
theorem d_LW_law_479 : decode code 479 = .ok (.aload_n 2, 1) := by decide +kernel
theorem d_LW_law_480 : decode code 480 = .ok (.invokevirtual 62, 3) := by decide +kernel
theorem d_LW_law_483 : decode code 483 = .ok (.iload 5, 2) := by decide +kernel
theorem d_LW_law_485 : decode code 485 = .ok (.if_icmp .eq 5, 3) := by decide +kernel
theorem d_LW_law_488 : decode code 488 = .ok (.iconst 0, 1) := by decide +kernel
theorem d_LW_law_489 : decode code 489 = .ok (.ireturn, 1) := by decide +kernel
theorem d_LW_law_490 : decode code 490 = .ok (.iload 5, 2) := by decide +kernel
theorem d_LW_law_492 : decode code 492 = .ok (.ifCond .ne 15, 3) := by decide +kernel
theorem d_LW_law_495 : decode code 495 = .ok (.aload_n 3, 1) := by decide +kernel
theorem d_LW_law_496 : decode code 496 = .ok (.iconst 0, 1) := by decide +kernel
theorem d_LW_law_497 : decode code 497 = .ok (.laload, 1) := by decide +kernel
theorem d_LW_law_498 : decode code 498 = .ok (.iload 6, 2) := by decide +kernel
theorem d_LW_law_500 : decode code 500 = .ok (.i2l, 1) := by decide +kernel
theorem d_LW_law_501 : decode code 501 = .ok (.lcmp, 1) := by decide +kernel
theorem d_LW_law_502 : decode code 502 = .ok (.ifCond .eq 5, 3) := by decide +kernel
theorem d_LW_law_505 : decode code 505 = .ok (.iconst 0, 1) := by decide +kernel
theorem d_LW_law_506 : decode code 506 = .ok (.ireturn, 1) := by decide +kernel
theorem d_LW_law_507 : decode code 507 = .ok (.goto 305, 3) := by decide +kernel
theorem d_LW_law_510 : decode code 510 = .ok (.aload_n 1, 1) := by decide +kernel
theorem d_LW_law_511 : decode code 511 = .ok (.aload_n 0, 1) := by decide +kernel
theorem d_LW_law_512 : decode code 512 = .ok (.iload 4, 2) := by decide +kernel
theorem d_LW_law_514 : decode code 514 = .ok (.iconst 1, 1) := by decide +kernel
theorem d_LW_law_515 : decode code 515 = .ok (.iadd, 1) := by decide +kernel
theorem d_LW_law_516 : decode code 516 = .ok (.iaload, 1) := by decide +kernel
theorem d_LW_law_517 : decode code 517 = .ok (.ifCond .eq 7, 3) := by decide +kernel
theorem d_LW_law_520 : decode code 520 = .ok (.iconst 1, 1) := by decide +kernel
theorem d_LW_law_521 : decode code 521 = .ok (.goto 4, 3) := by decide +kernel
theorem d_LW_law_524 : decode code 524 = .ok (.iconst 0, 1) := by decide +kernel
theorem d_LW_law_525 : decode code 525 = .ok (.aload_n 0, 1) := by decide +kernel
theorem d_LW_law_526 : decode code 526 = .ok (.iload 4, 2) := by decide +kernel
theorem d_LW_law_528 : decode code 528 = .ok (.iconst 2, 1) := by decide +kernel
theorem d_LW_law_529 : decode code 529 = .ok (.iadd, 1) := by decide +kernel
theorem d_LW_law_530 : decode code 530 = .ok (.iaload, 1) := by decide +kernel
theorem d_LW_law_531 : decode code 531 = .ok (.aload_n 0, 1) := by decide +kernel
theorem d_LW_law_532 : decode code 532 = .ok (.iload 4, 2) := by decide +kernel
theorem d_LW_law_534 : decode code 534 = .ok (.iconst 3, 1) := by decide +kernel
theorem d_LW_law_535 : decode code 535 = .ok (.iadd, 1) := by decide +kernel
theorem d_LW_law_536 : decode code 536 = .ok (.iaload, 1) := by decide +kernel
theorem d_LW_law_537 : decode code 537 = .ok (.aload_n 3, 1) := by decide +kernel
theorem d_LW_law_538 : decode code 538 = .ok (.invokestatic 92, 3) := by decide +kernel
theorem d_LW_law_541 : decode code 541 = .ok (.istore 5, 2) := by decide +kernel
theorem d_LW_law_543 : decode code 543 = .ok (.aload_n 2, 1) := by decide +kernel
theorem d_LW_law_544 : decode code 544 = .ok (.aload_n 0, 1) := by decide +kernel
theorem d_LW_law_545 : decode code 545 = .ok (.iload 4, 2) := by decide +kernel
theorem d_LW_law_547 : decode code 547 = .ok (.iconst 1, 1) := by decide +kernel
theorem d_LW_law_548 : decode code 548 = .ok (.iadd, 1) := by decide +kernel
theorem d_LW_law_549 : decode code 549 = .ok (.iaload, 1) := by decide +kernel
theorem d_LW_law_550 : decode code 550 = .ok (.ifCond .eq 7, 3) := by decide +kernel
theorem d_LW_law_553 : decode code 553 = .ok (.iconst 1, 1) := by decide +kernel
theorem d_LW_law_554 : decode code 554 = .ok (.goto 4, 3) := by decide +kernel
theorem d_LW_law_557 : decode code 557 = .ok (.iconst 0, 1) := by decide +kernel
theorem d_LW_law_558 : decode code 558 = .ok (.aload_n 0, 1) := by decide +kernel
theorem d_LW_law_559 : decode code 559 = .ok (.iload 4, 2) := by decide +kernel
theorem d_LW_law_561 : decode code 561 = .ok (.iconst 2, 1) := by decide +kernel
theorem d_LW_law_562 : decode code 562 = .ok (.iadd, 1) := by decide +kernel
theorem d_LW_law_563 : decode code 563 = .ok (.iaload, 1) := by decide +kernel
theorem d_LW_law_564 : decode code 564 = .ok (.aload_n 0, 1) := by decide +kernel
theorem d_LW_law_565 : decode code 565 = .ok (.iload 4, 2) := by decide +kernel
theorem d_LW_law_567 : decode code 567 = .ok (.iconst 3, 1) := by decide +kernel
theorem d_LW_law_568 : decode code 568 = .ok (.iadd, 1) := by decide +kernel
theorem d_LW_law_569 : decode code 569 = .ok (.iaload, 1) := by decide +kernel
theorem d_LW_law_570 : decode code 570 = .ok (.invokevirtual 95, 3) := by decide +kernel
theorem d_LW_law_573 : decode code 573 = .ok (.istore 6, 2) := by decide +kernel
theorem d_LW_law_575 : decode code 575 = .ok (.aload_n 2, 1) := by decide +kernel
theorem d_LW_law_576 : decode code 576 = .ok (.invokevirtual 62, 3) := by decide +kernel
theorem d_LW_law_579 : decode code 579 = .ok (.iload 5, 2) := by decide +kernel
theorem d_LW_law_581 : decode code 581 = .ok (.if_icmp .eq 5, 3) := by decide +kernel
theorem d_LW_law_584 : decode code 584 = .ok (.iconst 0, 1) := by decide +kernel
theorem d_LW_law_585 : decode code 585 = .ok (.ireturn, 1) := by decide +kernel
theorem d_LW_law_586 : decode code 586 = .ok (.iload 5, 2) := by decide +kernel
theorem d_LW_law_588 : decode code 588 = .ok (.ifCond .ne 15, 3) := by decide +kernel
theorem d_LW_law_591 : decode code 591 = .ok (.aload_n 3, 1) := by decide +kernel
theorem d_LW_law_592 : decode code 592 = .ok (.iconst 0, 1) := by decide +kernel
theorem d_LW_law_593 : decode code 593 = .ok (.laload, 1) := by decide +kernel
theorem d_LW_law_594 : decode code 594 = .ok (.iload 6, 2) := by decide +kernel
theorem d_LW_law_596 : decode code 596 = .ok (.i2l, 1) := by decide +kernel
theorem d_LW_law_597 : decode code 597 = .ok (.lcmp, 1) := by decide +kernel
theorem d_LW_law_598 : decode code 598 = .ok (.ifCond .eq 5, 3) := by decide +kernel
theorem d_LW_law_601 : decode code 601 = .ok (.iconst 0, 1) := by decide +kernel
theorem d_LW_law_602 : decode code 602 = .ok (.ireturn, 1) := by decide +kernel
theorem d_LW_law_603 : decode code 603 = .ok (.goto 209, 3) := by decide +kernel
theorem d_LW_law_606 : decode code 606 = .ok (.aload_n 1, 1) := by decide +kernel
theorem d_LW_law_607 : decode code 607 = .ok (.aload_n 0, 1) := by decide +kernel
theorem d_LW_law_608 : decode code 608 = .ok (.iload 4, 2) := by decide +kernel
theorem d_LW_law_610 : decode code 610 = .ok (.iconst 1, 1) := by decide +kernel
theorem d_LW_law_611 : decode code 611 = .ok (.iadd, 1) := by decide +kernel
theorem d_LW_law_612 : decode code 612 = .ok (.iaload, 1) := by decide +kernel
theorem d_LW_law_613 : decode code 613 = .ok (.aload_n 0, 1) := by decide +kernel
theorem d_LW_law_614 : decode code 614 = .ok (.iload 4, 2) := by decide +kernel
theorem d_LW_law_616 : decode code 616 = .ok (.iconst 2, 1) := by decide +kernel
theorem d_LW_law_617 : decode code 617 = .ok (.iadd, 1) := by decide +kernel
theorem d_LW_law_618 : decode code 618 = .ok (.iaload, 1) := by decide +kernel
theorem d_LW_law_619 : decode code 619 = .ok (.aload_n 3, 1) := by decide +kernel
theorem d_LW_law_620 : decode code 620 = .ok (.invokestatic 96, 3) := by decide +kernel
theorem d_LW_law_623 : decode code 623 = .ok (.istore 5, 2) := by decide +kernel
theorem d_LW_law_625 : decode code 625 = .ok (.aload_n 2, 1) := by decide +kernel
theorem d_LW_law_626 : decode code 626 = .ok (.aload_n 0, 1) := by decide +kernel
theorem d_LW_law_627 : decode code 627 = .ok (.iload 4, 2) := by decide +kernel
theorem d_LW_law_629 : decode code 629 = .ok (.iconst 1, 1) := by decide +kernel
theorem d_LW_law_630 : decode code 630 = .ok (.iadd, 1) := by decide +kernel
theorem d_LW_law_631 : decode code 631 = .ok (.iaload, 1) := by decide +kernel
theorem d_LW_law_632 : decode code 632 = .ok (.aload_n 0, 1) := by decide +kernel
theorem d_LW_law_633 : decode code 633 = .ok (.iload 4, 2) := by decide +kernel
theorem d_LW_law_635 : decode code 635 = .ok (.iconst 2, 1) := by decide +kernel
theorem d_LW_law_636 : decode code 636 = .ok (.iadd, 1) := by decide +kernel
theorem d_LW_law_637 : decode code 637 = .ok (.iaload, 1) := by decide +kernel
theorem d_LW_law_638 : decode code 638 = .ok (.invokevirtual 99, 3) := by decide +kernel
theorem d_LW_law_641 : decode code 641 = .ok (.istore 6, 2) := by decide +kernel
theorem d_LW_law_643 : decode code 643 = .ok (.aload_n 2, 1) := by decide +kernel
theorem d_LW_law_644 : decode code 644 = .ok (.invokevirtual 62, 3) := by decide +kernel
theorem d_LW_law_647 : decode code 647 = .ok (.iload 5, 2) := by decide +kernel
theorem d_LW_law_649 : decode code 649 = .ok (.if_icmp .eq 5, 3) := by decide +kernel
theorem d_LW_law_652 : decode code 652 = .ok (.iconst 0, 1) := by decide +kernel
theorem d_LW_law_653 : decode code 653 = .ok (.ireturn, 1) := by decide +kernel
theorem d_LW_law_654 : decode code 654 = .ok (.iload 5, 2) := by decide +kernel
theorem d_LW_law_656 : decode code 656 = .ok (.ifCond .ne 22, 3) := by decide +kernel
theorem d_LW_law_659 : decode code 659 = .ok (.aload_n 3, 1) := by decide +kernel
theorem d_LW_law_660 : decode code 660 = .ok (.iconst 0, 1) := by decide +kernel
theorem d_LW_law_661 : decode code 661 = .ok (.laload, 1) := by decide +kernel
theorem d_LW_law_662 : decode code 662 = .ok (.iload 6, 2) := by decide +kernel
theorem d_LW_law_664 : decode code 664 = .ok (.ifCond .eq 7, 3) := by decide +kernel
theorem d_LW_law_667 : decode code 667 = .ok (.lconst 1, 1) := by decide +kernel
theorem d_LW_law_668 : decode code 668 = .ok (.goto 4, 3) := by decide +kernel
theorem d_LW_law_671 : decode code 671 = .ok (.lconst 0, 1) := by decide +kernel
theorem d_LW_law_672 : decode code 672 = .ok (.lcmp, 1) := by decide +kernel
theorem d_LW_law_673 : decode code 673 = .ok (.ifCond .eq 5, 3) := by decide +kernel
theorem d_LW_law_676 : decode code 676 = .ok (.iconst 0, 1) := by decide +kernel
theorem d_LW_law_677 : decode code 677 = .ok (.ireturn, 1) := by decide +kernel
theorem d_LW_law_678 : decode code 678 = .ok (.goto 134, 3) := by decide +kernel
theorem d_LW_law_681 : decode code 681 = .ok (.aload_n 1, 1) := by decide +kernel
theorem d_LW_law_682 : decode code 682 = .ok (.aload_n 0, 1) := by decide +kernel
theorem d_LW_law_683 : decode code 683 = .ok (.iload 4, 2) := by decide +kernel
theorem d_LW_law_685 : decode code 685 = .ok (.iconst 1, 1) := by decide +kernel
theorem d_LW_law_686 : decode code 686 = .ok (.iadd, 1) := by decide +kernel
theorem d_LW_law_687 : decode code 687 = .ok (.iaload, 1) := by decide +kernel
theorem d_LW_law_688 : decode code 688 = .ok (.aload_n 0, 1) := by decide +kernel
theorem d_LW_law_689 : decode code 689 = .ok (.iload 4, 2) := by decide +kernel
theorem d_LW_law_691 : decode code 691 = .ok (.iconst 2, 1) := by decide +kernel
theorem d_LW_law_692 : decode code 692 = .ok (.iadd, 1) := by decide +kernel
theorem d_LW_law_693 : decode code 693 = .ok (.iaload, 1) := by decide +kernel
theorem d_LW_law_694 : decode code 694 = .ok (.aload_n 3, 1) := by decide +kernel
theorem d_LW_law_695 : decode code 695 = .ok (.invokestatic 100, 3) := by decide +kernel
theorem d_LW_law_698 : decode code 698 = .ok (.istore 5, 2) := by decide +kernel
theorem d_LW_law_700 : decode code 700 = .ok (.aload_n 2, 1) := by decide +kernel
theorem d_LW_law_701 : decode code 701 = .ok (.aload_n 0, 1) := by decide +kernel
theorem d_LW_law_702 : decode code 702 = .ok (.iload 4, 2) := by decide +kernel
theorem d_LW_law_704 : decode code 704 = .ok (.iconst 1, 1) := by decide +kernel
theorem d_LW_law_705 : decode code 705 = .ok (.iadd, 1) := by decide +kernel
theorem d_LW_law_706 : decode code 706 = .ok (.iaload, 1) := by decide +kernel
theorem d_LW_law_707 : decode code 707 = .ok (.aload_n 0, 1) := by decide +kernel
theorem d_LW_law_708 : decode code 708 = .ok (.iload 4, 2) := by decide +kernel
theorem d_LW_law_710 : decode code 710 = .ok (.iconst 2, 1) := by decide +kernel
theorem d_LW_law_711 : decode code 711 = .ok (.iadd, 1) := by decide +kernel
theorem d_LW_law_712 : decode code 712 = .ok (.iaload, 1) := by decide +kernel
theorem d_LW_law_713 : decode code 713 = .ok (.invokevirtual 102, 3) := by decide +kernel
theorem d_LW_law_716 : decode code 716 = .ok (.istore 6, 2) := by decide +kernel
theorem d_LW_law_718 : decode code 718 = .ok (.aload_n 2, 1) := by decide +kernel
theorem d_LW_law_719 : decode code 719 = .ok (.invokevirtual 62, 3) := by decide +kernel
theorem d_LW_law_722 : decode code 722 = .ok (.iload 5, 2) := by decide +kernel
theorem d_LW_law_724 : decode code 724 = .ok (.if_icmp .eq 5, 3) := by decide +kernel
theorem d_LW_law_727 : decode code 727 = .ok (.iconst 0, 1) := by decide +kernel
theorem d_LW_law_728 : decode code 728 = .ok (.ireturn, 1) := by decide +kernel
theorem d_LW_law_729 : decode code 729 = .ok (.iload 5, 2) := by decide +kernel
theorem d_LW_law_731 : decode code 731 = .ok (.ifCond .ne 22, 3) := by decide +kernel
theorem d_LW_law_734 : decode code 734 = .ok (.aload_n 3, 1) := by decide +kernel
theorem d_LW_law_735 : decode code 735 = .ok (.iconst 0, 1) := by decide +kernel
theorem d_LW_law_736 : decode code 736 = .ok (.laload, 1) := by decide +kernel
theorem d_LW_law_737 : decode code 737 = .ok (.iload 6, 2) := by decide +kernel
theorem d_LW_law_739 : decode code 739 = .ok (.ifCond .eq 7, 3) := by decide +kernel
theorem d_LW_law_742 : decode code 742 = .ok (.lconst 1, 1) := by decide +kernel
theorem d_LW_law_743 : decode code 743 = .ok (.goto 4, 3) := by decide +kernel
theorem d_LW_law_746 : decode code 746 = .ok (.lconst 0, 1) := by decide +kernel
theorem d_LW_law_747 : decode code 747 = .ok (.lcmp, 1) := by decide +kernel
theorem d_LW_law_748 : decode code 748 = .ok (.ifCond .eq 5, 3) := by decide +kernel
theorem d_LW_law_751 : decode code 751 = .ok (.iconst 0, 1) := by decide +kernel
theorem d_LW_law_752 : decode code 752 = .ok (.ireturn, 1) := by decide +kernel
theorem d_LW_law_753 : decode code 753 = .ok (.goto 59, 3) := by decide +kernel
theorem d_LW_law_756 : decode code 756 = .ok (.aload_n 1, 1) := by decide +kernel
theorem d_LW_law_757 : decode code 757 = .ok (.aload_n 0, 1) := by decide +kernel
theorem d_LW_law_758 : decode code 758 = .ok (.iload 4, 2) := by decide +kernel
theorem d_LW_law_760 : decode code 760 = .ok (.iconst 1, 1) := by decide +kernel
theorem d_LW_law_761 : decode code 761 = .ok (.iadd, 1) := by decide +kernel
theorem d_LW_law_762 : decode code 762 = .ok (.iaload, 1) := by decide +kernel
theorem d_LW_law_763 : decode code 763 = .ok (.aload_n 3, 1) := by decide +kernel
theorem d_LW_law_764 : decode code 764 = .ok (.invokestatic 103, 3) := by decide +kernel
theorem d_LW_law_767 : decode code 767 = .ok (.istore 5, 2) := by decide +kernel
theorem d_LW_law_769 : decode code 769 = .ok (.aload_n 2, 1) := by decide +kernel
theorem d_LW_law_770 : decode code 770 = .ok (.aload_n 0, 1) := by decide +kernel
theorem d_LW_law_771 : decode code 771 = .ok (.iload 4, 2) := by decide +kernel
theorem d_LW_law_773 : decode code 773 = .ok (.iconst 1, 1) := by decide +kernel
theorem d_LW_law_774 : decode code 774 = .ok (.iadd, 1) := by decide +kernel
theorem d_LW_law_775 : decode code 775 = .ok (.iaload, 1) := by decide +kernel
theorem d_LW_law_776 : decode code 776 = .ok (.invokevirtual 106, 3) := by decide +kernel
theorem d_LW_law_779 : decode code 779 = .ok (.istore 6, 2) := by decide +kernel
theorem d_LW_law_781 : decode code 781 = .ok (.aload_n 2, 1) := by decide +kernel
theorem d_LW_law_782 : decode code 782 = .ok (.invokevirtual 62, 3) := by decide +kernel
theorem d_LW_law_785 : decode code 785 = .ok (.iload 5, 2) := by decide +kernel
theorem d_LW_law_787 : decode code 787 = .ok (.if_icmp .eq 5, 3) := by decide +kernel
theorem d_LW_law_790 : decode code 790 = .ok (.iconst 0, 1) := by decide +kernel
theorem d_LW_law_791 : decode code 791 = .ok (.ireturn, 1) := by decide +kernel
theorem d_LW_law_792 : decode code 792 = .ok (.iload 5, 2) := by decide +kernel
theorem d_LW_law_794 : decode code 794 = .ok (.ifCond .ne 15, 3) := by decide +kernel
theorem d_LW_law_797 : decode code 797 = .ok (.aload_n 3, 1) := by decide +kernel
theorem d_LW_law_798 : decode code 798 = .ok (.iconst 0, 1) := by decide +kernel
theorem d_LW_law_799 : decode code 799 = .ok (.laload, 1) := by decide +kernel
theorem d_LW_law_800 : decode code 800 = .ok (.iload 6, 2) := by decide +kernel
theorem d_LW_law_802 : decode code 802 = .ok (.i2l, 1) := by decide +kernel
theorem d_LW_law_803 : decode code 803 = .ok (.lcmp, 1) := by decide +kernel
theorem d_LW_law_804 : decode code 804 = .ok (.ifCond .eq 5, 3) := by decide +kernel
theorem d_LW_law_807 : decode code 807 = .ok (.iconst 0, 1) := by decide +kernel
theorem d_LW_law_808 : decode code 808 = .ok (.ireturn, 1) := by decide +kernel
theorem d_LW_law_809 : decode code 809 = .ok (.goto 3, 3) := by decide +kernel
theorem d_LW_law_812 : decode code 812 = .ok (.iinc 4 6, 3) := by decide +kernel
theorem d_LW_law_815 : decode code 815 = .ok (.goto (-792), 3) := by decide +kernel
theorem d_LW_law_818 : decode code 818 = .ok (.iconst 1, 1) := by decide +kernel
theorem d_LW_law_819 : decode code 819 = .ok (.ireturn, 1) := by decide +kernel
