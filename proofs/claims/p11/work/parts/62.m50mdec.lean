theorem d_MT_number_51 : decode b_MT_number 51 = .ok (.bastore, 1) := by decide +kernel
theorem d_MT_number_52 : decode b_MT_number 52 = .ok (.aload_n 0, 1) := by decide +kernel
theorem d_MT_number_53 : decode b_MT_number 53 = .ok (.getfield 48, 3) := by decide +kernel
theorem d_MT_number_56 : decode b_MT_number 56 = .ok (.iload_n 2, 1) := by decide +kernel
theorem d_MT_number_57 : decode b_MT_number 57 = .ok (.baload, 1) := by decide +kernel
theorem d_MT_number_58 : decode b_MT_number 58 = .ok (.ifCond .eq 13, 3) := by decide +kernel
theorem d_MT_number_61 : decode b_MT_number 61 = .ok (.aload_n 0, 1) := by decide +kernel
theorem d_MT_number_62 : decode b_MT_number 62 = .ok (.dup, 1) := by decide +kernel
theorem d_MT_number_63 : decode b_MT_number 63 = .ok (.getfield 62, 3) := by decide +kernel
theorem d_MT_number_66 : decode b_MT_number 66 = .ok (.iconst 1, 1) := by decide +kernel
theorem d_MT_number_67 : decode b_MT_number 67 = .ok (.iadd, 1) := by decide +kernel
theorem d_MT_number_68 : decode b_MT_number 68 = .ok (.putfield 62, 3) := by decide +kernel
theorem d_MT_number_71 : decode b_MT_number 71 = .ok (.aload_n 0, 1) := by decide +kernel
theorem d_MT_number_72 : decode b_MT_number 72 = .ok (.aload_n 0, 1) := by decide +kernel
theorem d_MT_number_73 : decode b_MT_number 73 = .ok (.getfield 62, 3) := by decide +kernel
theorem d_MT_number_76 : decode b_MT_number 76 = .ok (.invokevirtual 85, 3) := by decide +kernel
theorem d_MT_number_79 : decode b_MT_number 79 = .ok (.bipush 48, 2) := by decide +kernel
theorem d_MT_number_81 : decode b_MT_number 81 = .ok (.bipush 57, 2) := by decide +kernel
theorem d_MT_number_83 : decode b_MT_number 83 = .ok (.invokestatic 103, 3) := by decide +kernel
theorem d_MT_number_86 : decode b_MT_number 86 = .ok (.ifCond .ne 12, 3) := by decide +kernel
theorem d_MT_number_89 : decode b_MT_number 89 = .ok (.aload_n 0, 1) := by decide +kernel
theorem d_MT_number_90 : decode b_MT_number 90 = .ok (.aload_n 0, 1) := by decide +kernel
theorem d_MT_number_91 : decode b_MT_number 91 = .ok (.getfield 62, 3) := by decide +kernel
theorem d_MT_number_94 : decode b_MT_number 94 = .ok (.invokevirtual 81, 3) := by decide +kernel
theorem d_MT_number_97 : decode b_MT_number 97 = .ok (.ireturn, 1) := by decide +kernel
theorem d_MT_number_98 : decode b_MT_number 98 = .ok (.aload_n 0, 1) := by decide +kernel
theorem d_MT_number_99 : decode b_MT_number 99 = .ok (.aload_n 0, 1) := by decide +kernel
theorem d_MT_number_100 : decode b_MT_number 100 = .ok (.getfield 62, 3) := by decide +kernel
theorem d_MT_number_103 : decode b_MT_number 103 = .ok (.invokevirtual 85, 3) := by decide +kernel
theorem d_MT_number_106 : decode b_MT_number 106 = .ok (.bipush 48, 2) := by decide +kernel
theorem d_MT_number_108 : decode b_MT_number 108 = .ok (.if_icmp .ne 7, 3) := by decide +kernel
theorem d_MT_number_111 : decode b_MT_number 111 = .ok (.iconst 1, 1) := by decide +kernel
theorem d_MT_number_112 : decode b_MT_number 112 = .ok (.goto 4, 3) := by decide +kernel
theorem d_MT_number_115 : decode b_MT_number 115 = .ok (.iconst 0, 1) := by decide +kernel
theorem d_MT_number_116 : decode b_MT_number 116 = .ok (.istore 6, 2) := by decide +kernel
theorem d_MT_number_118 : decode b_MT_number 118 = .ok (.aload_n 0, 1) := by decide +kernel
theorem d_MT_number_119 : decode b_MT_number 119 = .ok (.getfield 45, 3) := by decide +kernel
theorem d_MT_number_122 : decode b_MT_number 122 = .ok (.aload_n 0, 1) := by decide +kernel
theorem d_MT_number_123 : decode b_MT_number 123 = .ok (.getfield 71, 3) := by decide +kernel
theorem d_MT_number_126 : decode b_MT_number 126 = .ok (.iload 4, 2) := by decide +kernel
theorem d_MT_number_128 : decode b_MT_number 128 = .ok (.iinc 4 1, 3) := by decide +kernel
theorem d_MT_number_131 : decode b_MT_number 131 = .ok (.iadd, 1) := by decide +kernel
theorem d_MT_number_132 : decode b_MT_number 132 = .ok (.aload_n 0, 1) := by decide +kernel
theorem d_MT_number_133 : decode b_MT_number 133 = .ok (.aload_n 0, 1) := by decide +kernel
theorem d_MT_number_134 : decode b_MT_number 134 = .ok (.dup, 1) := by decide +kernel
theorem d_MT_number_135 : decode b_MT_number 135 = .ok (.getfield 62, 3) := by decide +kernel
theorem d_MT_number_138 : decode b_MT_number 138 = .ok (.dup_x1, 1) := by decide +kernel
theorem d_MT_number_139 : decode b_MT_number 139 = .ok (.iconst 1, 1) := by decide +kernel
theorem d_MT_number_140 : decode b_MT_number 140 = .ok (.iadd, 1) := by decide +kernel
theorem d_MT_number_141 : decode b_MT_number 141 = .ok (.putfield 62, 3) := by decide +kernel
theorem d_MT_number_144 : decode b_MT_number 144 = .ok (.invokevirtual 85, 3) := by decide +kernel
theorem d_MT_number_147 : decode b_MT_number 147 = .ok (.bipush 48, 2) := by decide +kernel
theorem d_MT_number_149 : decode b_MT_number 149 = .ok (.isub, 1) := by decide +kernel
theorem d_MT_number_150 : decode b_MT_number 150 = .ok (.iastore, 1) := by decide +kernel
theorem d_MT_number_151 : decode b_MT_number 151 = .ok (.iload 6, 2) := by decide +kernel
theorem d_MT_number_153 : decode b_MT_number 153 = .ok (.ifCond .ne 21, 3) := by decide +kernel
theorem d_MT_number_156 : decode b_MT_number 156 = .ok (.aload_n 0, 1) := by decide +kernel
theorem d_MT_number_157 : decode b_MT_number 157 = .ok (.aload_n 0, 1) := by decide +kernel
theorem d_MT_number_158 : decode b_MT_number 158 = .ok (.getfield 62, 3) := by decide +kernel
theorem d_MT_number_161 : decode b_MT_number 161 = .ok (.invokevirtual 85, 3) := by decide +kernel
theorem d_MT_number_164 : decode b_MT_number 164 = .ok (.bipush 48, 2) := by decide +kernel
theorem d_MT_number_166 : decode b_MT_number 166 = .ok (.bipush 57, 2) := by decide +kernel
theorem d_MT_number_168 : decode b_MT_number 168 = .ok (.invokestatic 103, 3) := by decide +kernel
theorem d_MT_number_171 : decode b_MT_number 171 = .ok (.ifCond .ne (-53), 3) := by decide +kernel
theorem d_MT_number_174 : decode b_MT_number 174 = .ok (.aload_n 0, 1) := by decide +kernel
theorem d_MT_number_175 : decode b_MT_number 175 = .ok (.aload_n 0, 1) := by decide +kernel
theorem d_MT_number_176 : decode b_MT_number 176 = .ok (.getfield 62, 3) := by decide +kernel
theorem d_MT_number_179 : decode b_MT_number 179 = .ok (.invokevirtual 85, 3) := by decide +kernel
theorem d_MT_number_182 : decode b_MT_number 182 = .ok (.bipush 46, 2) := by decide +kernel
theorem d_MT_number_184 : decode b_MT_number 184 = .ok (.if_icmp .ne 97, 3) := by decide +kernel
theorem d_MT_number_187 : decode b_MT_number 187 = .ok (.aload_n 0, 1) := by decide +kernel
theorem d_MT_number_188 : decode b_MT_number 188 = .ok (.dup, 1) := by decide +kernel
theorem d_MT_number_189 : decode b_MT_number 189 = .ok (.getfield 62, 3) := by decide +kernel
theorem d_MT_number_192 : decode b_MT_number 192 = .ok (.iconst 1, 1) := by decide +kernel
theorem d_MT_number_193 : decode b_MT_number 193 = .ok (.iadd, 1) := by decide +kernel
theorem d_MT_number_194 : decode b_MT_number 194 = .ok (.putfield 62, 3) := by decide +kernel
theorem d_MT_number_197 : decode b_MT_number 197 = .ok (.aload_n 0, 1) := by decide +kernel
theorem d_MT_number_198 : decode b_MT_number 198 = .ok (.aload_n 0, 1) := by decide +kernel
theorem d_MT_number_199 : decode b_MT_number 199 = .ok (.getfield 62, 3) := by decide +kernel
theorem d_MT_number_202 : decode b_MT_number 202 = .ok (.invokevirtual 85, 3) := by decide +kernel
theorem d_MT_number_205 : decode b_MT_number 205 = .ok (.bipush 48, 2) := by decide +kernel
theorem d_MT_number_207 : decode b_MT_number 207 = .ok (.bipush 57, 2) := by decide +kernel
theorem d_MT_number_209 : decode b_MT_number 209 = .ok (.invokestatic 103, 3) := by decide +kernel
theorem d_MT_number_212 : decode b_MT_number 212 = .ok (.ifCond .ne 12, 3) := by decide +kernel
theorem d_MT_number_215 : decode b_MT_number 215 = .ok (.aload_n 0, 1) := by decide +kernel
theorem d_MT_number_216 : decode b_MT_number 216 = .ok (.aload_n 0, 1) := by decide +kernel
theorem d_MT_number_217 : decode b_MT_number 217 = .ok (.getfield 62, 3) := by decide +kernel
theorem d_MT_number_220 : decode b_MT_number 220 = .ok (.invokevirtual 81, 3) := by decide +kernel
theorem d_MT_number_223 : decode b_MT_number 223 = .ok (.ireturn, 1) := by decide +kernel
theorem d_MT_number_224 : decode b_MT_number 224 = .ok (.aload_n 0, 1) := by decide +kernel
theorem d_MT_number_225 : decode b_MT_number 225 = .ok (.aload_n 0, 1) := by decide +kernel
theorem d_MT_number_226 : decode b_MT_number 226 = .ok (.getfield 62, 3) := by decide +kernel
theorem d_MT_number_229 : decode b_MT_number 229 = .ok (.invokevirtual 85, 3) := by decide +kernel
theorem d_MT_number_232 : decode b_MT_number 232 = .ok (.bipush 48, 2) := by decide +kernel
theorem d_MT_number_234 : decode b_MT_number 234 = .ok (.bipush 57, 2) := by decide +kernel
theorem d_MT_number_236 : decode b_MT_number 236 = .ok (.invokestatic 103, 3) := by decide +kernel
theorem d_MT_number_239 : decode b_MT_number 239 = .ok (.ifCond .eq 42, 3) := by decide +kernel
theorem d_MT_number_242 : decode b_MT_number 242 = .ok (.aload_n 0, 1) := by decide +kernel
theorem d_MT_number_243 : decode b_MT_number 243 = .ok (.getfield 45, 3) := by decide +kernel
theorem d_MT_number_246 : decode b_MT_number 246 = .ok (.aload_n 0, 1) := by decide +kernel
theorem d_MT_number_247 : decode b_MT_number 247 = .ok (.getfield 71, 3) := by decide +kernel
theorem d_MT_number_250 : decode b_MT_number 250 = .ok (.iload 4, 2) := by decide +kernel
theorem d_MT_number_252 : decode b_MT_number 252 = .ok (.iinc 4 1, 3) := by decide +kernel
theorem d_MT_number_255 : decode b_MT_number 255 = .ok (.iadd, 1) := by decide +kernel
theorem d_MT_number_256 : decode b_MT_number 256 = .ok (.aload_n 0, 1) := by decide +kernel
theorem d_MT_number_257 : decode b_MT_number 257 = .ok (.aload_n 0, 1) := by decide +kernel
theorem d_MT_number_258 : decode b_MT_number 258 = .ok (.dup, 1) := by decide +kernel
theorem d_MT_number_259 : decode b_MT_number 259 = .ok (.getfield 62, 3) := by decide +kernel
theorem d_MT_number_262 : decode b_MT_number 262 = .ok (.dup_x1, 1) := by decide +kernel
theorem d_MT_number_263 : decode b_MT_number 263 = .ok (.iconst 1, 1) := by decide +kernel
theorem d_MT_number_264 : decode b_MT_number 264 = .ok (.iadd, 1) := by decide +kernel
theorem d_MT_number_265 : decode b_MT_number 265 = .ok (.putfield 62, 3) := by decide +kernel
theorem d_MT_number_268 : decode b_MT_number 268 = .ok (.invokevirtual 85, 3) := by decide +kernel
theorem d_MT_number_271 : decode b_MT_number 271 = .ok (.bipush 48, 2) := by decide +kernel
theorem d_MT_number_273 : decode b_MT_number 273 = .ok (.isub, 1) := by decide +kernel
theorem d_MT_number_274 : decode b_MT_number 274 = .ok (.iastore, 1) := by decide +kernel
theorem d_MT_number_275 : decode b_MT_number 275 = .ok (.iinc 5 1, 3) := by decide +kernel
theorem d_MT_number_278 : decode b_MT_number 278 = .ok (.goto (-54), 3) := by decide +kernel
theorem d_MT_number_281 : decode b_MT_number 281 = .ok (.iconst 0, 1) := by decide +kernel
theorem d_MT_number_282 : decode b_MT_number 282 = .ok (.istore 7, 2) := by decide +kernel
theorem d_MT_number_284 : decode b_MT_number 284 = .ok (.iconst 0, 1) := by decide +kernel
theorem d_MT_number_285 : decode b_MT_number 285 = .ok (.istore 8, 2) := by decide +kernel
theorem d_MT_number_287 : decode b_MT_number 287 = .ok (.aload_n 0, 1) := by decide +kernel
theorem d_MT_number_288 : decode b_MT_number 288 = .ok (.aload_n 0, 1) := by decide +kernel
theorem d_MT_number_289 : decode b_MT_number 289 = .ok (.getfield 62, 3) := by decide +kernel
theorem d_MT_number_292 : decode b_MT_number 292 = .ok (.invokevirtual 85, 3) := by decide +kernel
theorem d_MT_number_295 : decode b_MT_number 295 = .ok (.bipush 32, 2) := by decide +kernel
theorem d_MT_number_297 : decode b_MT_number 297 = .ok (.ior, 1) := by decide +kernel
theorem d_MT_number_298 : decode b_MT_number 298 = .ok (.bipush 101, 2) := by decide +kernel
theorem d_MT_number_300 : decode b_MT_number 300 = .ok (.if_icmp .ne 166, 3) := by decide +kernel
theorem d_MT_number_303 : decode b_MT_number 303 = .ok (.aload_n 0, 1) := by decide +kernel
theorem d_MT_number_304 : decode b_MT_number 304 = .ok (.dup, 1) := by decide +kernel
theorem d_MT_number_305 : decode b_MT_number 305 = .ok (.getfield 62, 3) := by decide +kernel
theorem d_MT_number_308 : decode b_MT_number 308 = .ok (.iconst 1, 1) := by decide +kernel
theorem d_MT_number_309 : decode b_MT_number 309 = .ok (.iadd, 1) := by decide +kernel
theorem d_MT_number_310 : decode b_MT_number 310 = .ok (.putfield 62, 3) := by decide +kernel
theorem d_MT_number_313 : decode b_MT_number 313 = .ok (.aload_n 0, 1) := by decide +kernel
theorem d_MT_number_314 : decode b_MT_number 314 = .ok (.aload_n 0, 1) := by decide +kernel
theorem d_MT_number_315 : decode b_MT_number 315 = .ok (.getfield 62, 3) := by decide +kernel
theorem d_MT_number_318 : decode b_MT_number 318 = .ok (.invokevirtual 85, 3) := by decide +kernel
theorem d_MT_number_321 : decode b_MT_number 321 = .ok (.bipush 45, 2) := by decide +kernel
theorem d_MT_number_323 : decode b_MT_number 323 = .ok (.if_icmp .ne 7, 3) := by decide +kernel
theorem d_MT_number_326 : decode b_MT_number 326 = .ok (.iconst 1, 1) := by decide +kernel
theorem d_MT_number_327 : decode b_MT_number 327 = .ok (.goto 4, 3) := by decide +kernel
theorem d_MT_number_330 : decode b_MT_number 330 = .ok (.iconst 0, 1) := by decide +kernel
theorem d_MT_number_331 : decode b_MT_number 331 = .ok (.istore 9, 2) := by decide +kernel
theorem d_MT_number_333 : decode b_MT_number 333 = .ok (.aload_n 0, 1) := by decide +kernel
theorem d_MT_number_334 : decode b_MT_number 334 = .ok (.aload_n 0, 1) := by decide +kernel
theorem d_MT_number_335 : decode b_MT_number 335 = .ok (.getfield 62, 3) := by decide +kernel
theorem d_MT_number_338 : decode b_MT_number 338 = .ok (.invokevirtual 85, 3) := by decide +kernel
theorem d_MT_number_341 : decode b_MT_number 341 = .ok (.bipush 45, 2) := by decide +kernel
theorem d_MT_number_343 : decode b_MT_number 343 = .ok (.if_icmp .eq 16, 3) := by decide +kernel
theorem d_MT_number_346 : decode b_MT_number 346 = .ok (.aload_n 0, 1) := by decide +kernel
theorem d_MT_number_347 : decode b_MT_number 347 = .ok (.aload_n 0, 1) := by decide +kernel
theorem d_MT_number_348 : decode b_MT_number 348 = .ok (.getfield 62, 3) := by decide +kernel
theorem d_MT_number_351 : decode b_MT_number 351 = .ok (.invokevirtual 85, 3) := by decide +kernel
theorem d_MT_number_354 : decode b_MT_number 354 = .ok (.bipush 43, 2) := by decide +kernel
theorem d_MT_number_356 : decode b_MT_number 356 = .ok (.if_icmp .ne 13, 3) := by decide +kernel
theorem d_MT_number_359 : decode b_MT_number 359 = .ok (.aload_n 0, 1) := by decide +kernel
theorem d_MT_number_360 : decode b_MT_number 360 = .ok (.dup, 1) := by decide +kernel
theorem d_MT_number_361 : decode b_MT_number 361 = .ok (.getfield 62, 3) := by decide +kernel
theorem d_MT_number_364 : decode b_MT_number 364 = .ok (.iconst 1, 1) := by decide +kernel
theorem d_MT_number_365 : decode b_MT_number 365 = .ok (.iadd, 1) := by decide +kernel
theorem d_MT_number_366 : decode b_MT_number 366 = .ok (.putfield 62, 3) := by decide +kernel
theorem d_MT_number_369 : decode b_MT_number 369 = .ok (.aload_n 0, 1) := by decide +kernel
theorem d_MT_number_370 : decode b_MT_number 370 = .ok (.aload_n 0, 1) := by decide +kernel
theorem d_MT_number_371 : decode b_MT_number 371 = .ok (.getfield 62, 3) := by decide +kernel
theorem d_MT_number_374 : decode b_MT_number 374 = .ok (.invokevirtual 85, 3) := by decide +kernel
theorem d_MT_number_377 : decode b_MT_number 377 = .ok (.bipush 48, 2) := by decide +kernel
theorem d_MT_number_379 : decode b_MT_number 379 = .ok (.bipush 57, 2) := by decide +kernel
theorem d_MT_number_381 : decode b_MT_number 381 = .ok (.invokestatic 103, 3) := by decide +kernel
theorem d_MT_number_384 : decode b_MT_number 384 = .ok (.ifCond .ne 12, 3) := by decide +kernel
theorem d_MT_number_387 : decode b_MT_number 387 = .ok (.aload_n 0, 1) := by decide +kernel
theorem d_MT_number_388 : decode b_MT_number 388 = .ok (.aload_n 0, 1) := by decide +kernel
theorem d_MT_number_389 : decode b_MT_number 389 = .ok (.getfield 62, 3) := by decide +kernel
theorem d_MT_number_392 : decode b_MT_number 392 = .ok (.invokevirtual 81, 3) := by decide +kernel
theorem d_MT_number_395 : decode b_MT_number 395 = .ok (.ireturn, 1) := by decide +kernel
theorem d_MT_number_396 : decode b_MT_number 396 = .ok (.aload_n 0, 1) := by decide +kernel
theorem d_MT_number_397 : decode b_MT_number 397 = .ok (.aload_n 0, 1) := by decide +kernel
theorem d_MT_number_398 : decode b_MT_number 398 = .ok (.getfield 62, 3) := by decide +kernel
theorem d_MT_number_401 : decode b_MT_number 401 = .ok (.invokevirtual 85, 3) := by decide +kernel
theorem d_MT_number_404 : decode b_MT_number 404 = .ok (.bipush 48, 2) := by decide +kernel
theorem d_MT_number_406 : decode b_MT_number 406 = .ok (.bipush 57, 2) := by decide +kernel
theorem d_MT_number_408 : decode b_MT_number 408 = .ok (.invokestatic 103, 3) := by decide +kernel
theorem d_MT_number_411 : decode b_MT_number 411 = .ok (.ifCond .eq 45, 3) := by decide +kernel
theorem d_MT_number_414 : decode b_MT_number 414 = .ok (.iload 7, 2) := by decide +kernel
theorem d_MT_number_416 : decode b_MT_number 416 = .ok (.ldc 136, 2) := by decide +kernel
theorem d_MT_number_418 : decode b_MT_number 418 = .ok (.if_icmp .ge 22, 3) := by decide +kernel
theorem d_MT_number_421 : decode b_MT_number 421 = .ok (.bipush 10, 2) := by decide +kernel
theorem d_MT_number_423 : decode b_MT_number 423 = .ok (.iload 7, 2) := by decide +kernel
theorem d_MT_number_425 : decode b_MT_number 425 = .ok (.imul, 1) := by decide +kernel
theorem d_MT_number_426 : decode b_MT_number 426 = .ok (.aload_n 0, 1) := by decide +kernel
theorem d_MT_number_427 : decode b_MT_number 427 = .ok (.aload_n 0, 1) := by decide +kernel
theorem d_MT_number_428 : decode b_MT_number 428 = .ok (.getfield 62, 3) := by decide +kernel
theorem d_MT_number_431 : decode b_MT_number 431 = .ok (.invokevirtual 85, 3) := by decide +kernel
theorem d_MT_number_434 : decode b_MT_number 434 = .ok (.iadd, 1) := by decide +kernel
theorem d_MT_number_435 : decode b_MT_number 435 = .ok (.bipush 48, 2) := by decide +kernel
theorem d_MT_number_437 : decode b_MT_number 437 = .ok (.isub, 1) := by decide +kernel
theorem d_MT_number_438 : decode b_MT_number 438 = .ok (.istore 7, 2) := by decide +kernel
theorem d_MT_number_440 : decode b_MT_number 440 = .ok (.aload_n 0, 1) := by decide +kernel
theorem d_MT_number_441 : decode b_MT_number 441 = .ok (.dup, 1) := by decide +kernel
theorem d_MT_number_442 : decode b_MT_number 442 = .ok (.getfield 62, 3) := by decide +kernel
theorem d_MT_number_445 : decode b_MT_number 445 = .ok (.iconst 1, 1) := by decide +kernel
theorem d_MT_number_446 : decode b_MT_number 446 = .ok (.iadd, 1) := by decide +kernel
theorem d_MT_number_447 : decode b_MT_number 447 = .ok (.putfield 62, 3) := by decide +kernel
theorem d_MT_number_450 : decode b_MT_number 450 = .ok (.iinc 8 1, 3) := by decide +kernel
theorem d_MT_number_453 : decode b_MT_number 453 = .ok (.goto (-57), 3) := by decide +kernel
theorem d_MT_number_456 : decode b_MT_number 456 = .ok (.iload 9, 2) := by decide +kernel
theorem d_MT_number_458 : decode b_MT_number 458 = .ok (.ifCond .eq 8, 3) := by decide +kernel
theorem d_MT_number_461 : decode b_MT_number 461 = .ok (.iload 7, 2) := by decide +kernel
theorem d_MT_number_463 : decode b_MT_number 463 = .ok (.ineg, 1) := by decide +kernel
theorem d_MT_number_464 : decode b_MT_number 464 = .ok (.istore 7, 2) := by decide +kernel
theorem d_MT_number_466 : decode b_MT_number 466 = .ok (.iload 4, 2) := by decide +kernel
theorem d_MT_number_468 : decode b_MT_number 468 = .ok (.bipush 60, 2) := by decide +kernel
theorem d_MT_number_470 : decode b_MT_number 470 = .ok (.if_icmp .gt 9, 3) := by decide +kernel
theorem d_MT_number_473 : decode b_MT_number 473 = .ok (.iload 8, 2) := by decide +kernel
theorem d_MT_number_475 : decode b_MT_number 475 = .ok (.iconst 3, 1) := by decide +kernel
theorem d_MT_number_476 : decode b_MT_number 476 = .ok (.if_icmp .le 9, 3) := by decide +kernel
theorem d_MT_number_479 : decode b_MT_number 479 = .ok (.aload_n 0, 1) := by decide +kernel
theorem d_MT_number_480 : decode b_MT_number 480 = .ok (.iload_n 3, 1) := by decide +kernel
theorem d_MT_number_481 : decode b_MT_number 481 = .ok (.invokevirtual 81, 3) := by decide +kernel
theorem d_MT_number_484 : decode b_MT_number 484 = .ok (.ireturn, 1) := by decide +kernel
theorem d_MT_number_485 : decode b_MT_number 485 = .ok (.iconst 0, 1) := by decide +kernel
theorem d_MT_number_486 : decode b_MT_number 486 = .ok (.istore 9, 2) := by decide +kernel
theorem d_MT_number_488 : decode b_MT_number 488 = .ok (.iload 9, 2) := by decide +kernel
theorem d_MT_number_490 : decode b_MT_number 490 = .ok (.iload 4, 2) := by decide +kernel
theorem d_MT_number_492 : decode b_MT_number 492 = .ok (.if_icmp .ge 24, 3) := by decide +kernel
theorem d_MT_number_495 : decode b_MT_number 495 = .ok (.aload_n 0, 1) := by decide +kernel
theorem d_MT_number_496 : decode b_MT_number 496 = .ok (.getfield 45, 3) := by decide +kernel
theorem d_MT_number_499 : decode b_MT_number 499 = .ok (.aload_n 0, 1) := by decide +kernel
theorem d_MT_number_500 : decode b_MT_number 500 = .ok (.getfield 71, 3) := by decide +kernel
theorem d_MT_number_503 : decode b_MT_number 503 = .ok (.iload 9, 2) := by decide +kernel
theorem d_MT_number_505 : decode b_MT_number 505 = .ok (.iadd, 1) := by decide +kernel
theorem d_MT_number_506 : decode b_MT_number 506 = .ok (.iaload, 1) := by decide +kernel
theorem d_MT_number_507 : decode b_MT_number 507 = .ok (.ifCond .ne 9, 3) := by decide +kernel
theorem d_MT_number_510 : decode b_MT_number 510 = .ok (.iinc 9 1, 3) := by decide +kernel
theorem d_MT_number_513 : decode b_MT_number 513 = .ok (.goto (-25), 3) := by decide +kernel
theorem d_MT_number_516 : decode b_MT_number 516 = .ok (.iload 4, 2) := by decide +kernel
theorem d_MT_number_518 : decode b_MT_number 518 = .ok (.iload 9, 2) := by decide +kernel
theorem d_MT_number_520 : decode b_MT_number 520 = .ok (.if_icmp .le 29, 3) := by decide +kernel
theorem d_MT_number_523 : decode b_MT_number 523 = .ok (.aload_n 0, 1) := by decide +kernel
theorem d_MT_number_524 : decode b_MT_number 524 = .ok (.getfield 45, 3) := by decide +kernel
theorem d_MT_number_527 : decode b_MT_number 527 = .ok (.aload_n 0, 1) := by decide +kernel
theorem d_MT_number_528 : decode b_MT_number 528 = .ok (.getfield 71, 3) := by decide +kernel
theorem d_MT_number_531 : decode b_MT_number 531 = .ok (.iload 4, 2) := by decide +kernel
theorem d_MT_number_533 : decode b_MT_number 533 = .ok (.iadd, 1) := by decide +kernel
theorem d_MT_number_534 : decode b_MT_number 534 = .ok (.iconst 1, 1) := by decide +kernel
theorem d_MT_number_535 : decode b_MT_number 535 = .ok (.isub, 1) := by decide +kernel
theorem d_MT_number_536 : decode b_MT_number 536 = .ok (.iaload, 1) := by decide +kernel
theorem d_MT_number_537 : decode b_MT_number 537 = .ok (.ifCond .ne 12, 3) := by decide +kernel
theorem d_MT_number_540 : decode b_MT_number 540 = .ok (.iinc 4 (-1), 3) := by decide +kernel
theorem d_MT_number_543 : decode b_MT_number 543 = .ok (.iinc 5 (-1), 3) := by decide +kernel
theorem d_MT_number_546 : decode b_MT_number 546 = .ok (.goto (-30), 3) := by decide +kernel
theorem d_MT_number_549 : decode b_MT_number 549 = .ok (.aload_n 0, 1) := by decide +kernel
theorem d_MT_number_550 : decode b_MT_number 550 = .ok (.getfield 39, 3) := by decide +kernel
theorem d_MT_number_553 : decode b_MT_number 553 = .ok (.iload_n 2, 1) := by decide +kernel
theorem d_MT_number_554 : decode b_MT_number 554 = .ok (.aload_n 0, 1) := by decide +kernel
theorem d_MT_number_555 : decode b_MT_number 555 = .ok (.getfield 71, 3) := by decide +kernel
theorem d_MT_number_558 : decode b_MT_number 558 = .ok (.iload 9, 2) := by decide +kernel
theorem d_MT_number_560 : decode b_MT_number 560 = .ok (.iadd, 1) := by decide +kernel
theorem d_MT_number_561 : decode b_MT_number 561 = .ok (.iastore, 1) := by decide +kernel
theorem d_MT_number_562 : decode b_MT_number 562 = .ok (.aload_n 0, 1) := by decide +kernel
theorem d_MT_number_563 : decode b_MT_number 563 = .ok (.getfield 21, 3) := by decide +kernel
theorem d_MT_number_566 : decode b_MT_number 566 = .ok (.iload_n 2, 1) := by decide +kernel
theorem d_MT_number_567 : decode b_MT_number 567 = .ok (.iload 4, 2) := by decide +kernel
theorem d_MT_number_569 : decode b_MT_number 569 = .ok (.iload 9, 2) := by decide +kernel
theorem d_MT_number_571 : decode b_MT_number 571 = .ok (.isub, 1) := by decide +kernel
theorem d_MT_number_572 : decode b_MT_number 572 = .ok (.iastore, 1) := by decide +kernel
theorem d_MT_number_573 : decode b_MT_number 573 = .ok (.aload_n 0, 1) := by decide +kernel
theorem d_MT_number_574 : decode b_MT_number 574 = .ok (.getfield 27, 3) := by decide +kernel
theorem d_MT_number_577 : decode b_MT_number 577 = .ok (.iload_n 2, 1) := by decide +kernel
theorem d_MT_number_578 : decode b_MT_number 578 = .ok (.aload_n 0, 1) := by decide +kernel
theorem d_MT_number_579 : decode b_MT_number 579 = .ok (.getfield 21, 3) := by decide +kernel
theorem d_MT_number_582 : decode b_MT_number 582 = .ok (.iload_n 2, 1) := by decide +kernel
theorem d_MT_number_583 : decode b_MT_number 583 = .ok (.iaload, 1) := by decide +kernel
theorem d_MT_number_584 : decode b_MT_number 584 = .ok (.ifCond .ne 7, 3) := by decide +kernel
theorem d_MT_number_587 : decode b_MT_number 587 = .ok (.iconst 0, 1) := by decide +kernel
theorem d_MT_number_588 : decode b_MT_number 588 = .ok (.goto 8, 3) := by decide +kernel
theorem d_MT_number_591 : decode b_MT_number 591 = .ok (.iload 7, 2) := by decide +kernel
theorem d_MT_number_593 : decode b_MT_number 593 = .ok (.iload 5, 2) := by decide +kernel
theorem d_MT_number_595 : decode b_MT_number 595 = .ok (.isub, 1) := by decide +kernel
theorem d_MT_number_596 : decode b_MT_number 596 = .ok (.iastore, 1) := by decide +kernel
theorem d_MT_number_597 : decode b_MT_number 597 = .ok (.aload_n 0, 1) := by decide +kernel
theorem d_MT_number_598 : decode b_MT_number 598 = .ok (.getfield 21, 3) := by decide +kernel
theorem d_MT_number_601 : decode b_MT_number 601 = .ok (.iload_n 2, 1) := by decide +kernel
theorem d_MT_number_602 : decode b_MT_number 602 = .ok (.iaload, 1) := by decide +kernel
theorem d_MT_number_603 : decode b_MT_number 603 = .ok (.ifCond .ne 10, 3) := by decide +kernel
theorem d_MT_number_606 : decode b_MT_number 606 = .ok (.aload_n 0, 1) := by decide +kernel
theorem d_MT_number_607 : decode b_MT_number 607 = .ok (.getfield 48, 3) := by decide +kernel
theorem d_MT_number_610 : decode b_MT_number 610 = .ok (.iload_n 2, 1) := by decide +kernel
theorem d_MT_number_611 : decode b_MT_number 611 = .ok (.iconst 0, 1) := by decide +kernel
theorem d_MT_number_612 : decode b_MT_number 612 = .ok (.bastore, 1) := by decide +kernel
theorem d_MT_number_613 : decode b_MT_number 613 = .ok (.aload_n 0, 1) := by decide +kernel
theorem d_MT_number_614 : decode b_MT_number 614 = .ok (.dup, 1) := by decide +kernel
theorem d_MT_number_615 : decode b_MT_number 615 = .ok (.getfield 71, 3) := by decide +kernel
theorem d_MT_number_618 : decode b_MT_number 618 = .ok (.iload 4, 2) := by decide +kernel
theorem d_MT_number_620 : decode b_MT_number 620 = .ok (.iadd, 1) := by decide +kernel
theorem d_MT_number_621 : decode b_MT_number 621 = .ok (.putfield 71, 3) := by decide +kernel
theorem d_MT_number_624 : decode b_MT_number 624 = .ok (.iconst 1, 1) := by decide +kernel
theorem d_MT_number_625 : decode b_MT_number 625 = .ok (.ireturn, 1) := by decide +kernel
theorem d_MT_begins_0 : decode b_MT_begins 0 = .ok (.iload_n 0, 1) := by decide +kernel
theorem d_MT_begins_1 : decode b_MT_begins 1 = .ok (.bipush 110, 2) := by decide +kernel
theorem d_MT_begins_3 : decode b_MT_begins 3 = .ok (.if_icmp .eq 50, 3) := by decide +kernel
theorem d_MT_begins_6 : decode b_MT_begins 6 = .ok (.iload_n 0, 1) := by decide +kernel
theorem d_MT_begins_7 : decode b_MT_begins 7 = .ok (.bipush 116, 2) := by decide +kernel
theorem d_MT_begins_9 : decode b_MT_begins 9 = .ok (.if_icmp .eq 44, 3) := by decide +kernel
theorem d_MT_begins_12 : decode b_MT_begins 12 = .ok (.iload_n 0, 1) := by decide +kernel
theorem d_MT_begins_13 : decode b_MT_begins 13 = .ok (.bipush 102, 2) := by decide +kernel
theorem d_MT_begins_15 : decode b_MT_begins 15 = .ok (.if_icmp .eq 38, 3) := by decide +kernel
theorem d_MT_begins_18 : decode b_MT_begins 18 = .ok (.iload_n 0, 1) := by decide +kernel
theorem d_MT_begins_19 : decode b_MT_begins 19 = .ok (.bipush 34, 2) := by decide +kernel
theorem d_MT_begins_21 : decode b_MT_begins 21 = .ok (.if_icmp .eq 32, 3) := by decide +kernel
theorem d_MT_begins_24 : decode b_MT_begins 24 = .ok (.iload_n 0, 1) := by decide +kernel
theorem d_MT_begins_25 : decode b_MT_begins 25 = .ok (.bipush 91, 2) := by decide +kernel
theorem d_MT_begins_27 : decode b_MT_begins 27 = .ok (.if_icmp .eq 26, 3) := by decide +kernel
theorem d_MT_begins_30 : decode b_MT_begins 30 = .ok (.iload_n 0, 1) := by decide +kernel
theorem d_MT_begins_31 : decode b_MT_begins 31 = .ok (.bipush 123, 2) := by decide +kernel
theorem d_MT_begins_33 : decode b_MT_begins 33 = .ok (.if_icmp .eq 20, 3) := by decide +kernel
theorem d_MT_begins_36 : decode b_MT_begins 36 = .ok (.iload_n 0, 1) := by decide +kernel
theorem d_MT_begins_37 : decode b_MT_begins 37 = .ok (.bipush 45, 2) := by decide +kernel
theorem d_MT_begins_39 : decode b_MT_begins 39 = .ok (.if_icmp .eq 14, 3) := by decide +kernel
theorem d_MT_begins_42 : decode b_MT_begins 42 = .ok (.iload_n 0, 1) := by decide +kernel
theorem d_MT_begins_43 : decode b_MT_begins 43 = .ok (.bipush 48, 2) := by decide +kernel
theorem d_MT_begins_45 : decode b_MT_begins 45 = .ok (.bipush 57, 2) := by decide +kernel
theorem d_MT_begins_47 : decode b_MT_begins 47 = .ok (.invokestatic 103, 3) := by decide +kernel
theorem d_MT_begins_50 : decode b_MT_begins 50 = .ok (.ifCond .eq 7, 3) := by decide +kernel
theorem d_MT_begins_53 : decode b_MT_begins 53 = .ok (.iconst 1, 1) := by decide +kernel
theorem d_MT_begins_54 : decode b_MT_begins 54 = .ok (.goto 4, 3) := by decide +kernel
theorem d_MT_begins_57 : decode b_MT_begins 57 = .ok (.iconst 0, 1) := by decide +kernel
theorem d_MT_begins_58 : decode b_MT_begins 58 = .ok (.ireturn, 1) := by decide +kernel
theorem d_MT_same_0 : decode b_MT_same 0 = .ok (.aload_n 0, 1) := by decide +kernel
theorem d_MT_same_1 : decode b_MT_same 1 = .ok (.getfield 21, 3) := by decide +kernel
theorem d_MT_same_4 : decode b_MT_same 4 = .ok (.iload_n 1, 1) := by decide +kernel
theorem d_MT_same_5 : decode b_MT_same 5 = .ok (.iaload, 1) := by decide +kernel
theorem d_MT_same_6 : decode b_MT_same 6 = .ok (.aload_n 2, 1) := by decide +kernel
theorem d_MT_same_7 : decode b_MT_same 7 = .ok (.getfield 21, 3) := by decide +kernel
theorem d_MT_same_10 : decode b_MT_same 10 = .ok (.iload_n 3, 1) := by decide +kernel
theorem d_MT_same_11 : decode b_MT_same 11 = .ok (.iaload, 1) := by decide +kernel
theorem d_MT_same_12 : decode b_MT_same 12 = .ok (.if_icmp .eq 5, 3) := by decide +kernel
theorem d_MT_same_15 : decode b_MT_same 15 = .ok (.iconst 0, 1) := by decide +kernel
theorem d_MT_same_16 : decode b_MT_same 16 = .ok (.ireturn, 1) := by decide +kernel
theorem d_MT_same_17 : decode b_MT_same 17 = .ok (.iconst 0, 1) := by decide +kernel
theorem d_MT_same_18 : decode b_MT_same 18 = .ok (.istore 4, 2) := by decide +kernel
theorem d_MT_same_20 : decode b_MT_same 20 = .ok (.iload 4, 2) := by decide +kernel
theorem d_MT_same_22 : decode b_MT_same 22 = .ok (.aload_n 0, 1) := by decide +kernel
theorem d_MT_same_23 : decode b_MT_same 23 = .ok (.getfield 21, 3) := by decide +kernel
theorem d_MT_same_26 : decode b_MT_same 26 = .ok (.iload_n 1, 1) := by decide +kernel
theorem d_MT_same_27 : decode b_MT_same 27 = .ok (.iaload, 1) := by decide +kernel
theorem d_MT_same_28 : decode b_MT_same 28 = .ok (.if_icmp .ge 42, 3) := by decide +kernel
theorem d_MT_same_31 : decode b_MT_same 31 = .ok (.aload_n 0, 1) := by decide +kernel
theorem d_MT_same_32 : decode b_MT_same 32 = .ok (.getfield 42, 3) := by decide +kernel
theorem d_MT_same_35 : decode b_MT_same 35 = .ok (.aload_n 0, 1) := by decide +kernel
theorem d_MT_same_36 : decode b_MT_same 36 = .ok (.getfield 39, 3) := by decide +kernel
theorem d_MT_same_39 : decode b_MT_same 39 = .ok (.iload_n 1, 1) := by decide +kernel
theorem d_MT_same_40 : decode b_MT_same 40 = .ok (.iaload, 1) := by decide +kernel
theorem d_MT_same_41 : decode b_MT_same 41 = .ok (.iload 4, 2) := by decide +kernel
theorem d_MT_same_43 : decode b_MT_same 43 = .ok (.iadd, 1) := by decide +kernel
theorem d_MT_same_44 : decode b_MT_same 44 = .ok (.iaload, 1) := by decide +kernel
theorem d_MT_same_45 : decode b_MT_same 45 = .ok (.aload_n 2, 1) := by decide +kernel
theorem d_MT_same_46 : decode b_MT_same 46 = .ok (.getfield 42, 3) := by decide +kernel
theorem d_MT_same_49 : decode b_MT_same 49 = .ok (.aload_n 2, 1) := by decide +kernel
theorem d_MT_same_50 : decode b_MT_same 50 = .ok (.getfield 39, 3) := by decide +kernel
theorem d_MT_same_53 : decode b_MT_same 53 = .ok (.iload_n 3, 1) := by decide +kernel
theorem d_MT_same_54 : decode b_MT_same 54 = .ok (.iaload, 1) := by decide +kernel
theorem d_MT_same_55 : decode b_MT_same 55 = .ok (.iload 4, 2) := by decide +kernel
theorem d_MT_same_57 : decode b_MT_same 57 = .ok (.iadd, 1) := by decide +kernel
theorem d_MT_same_58 : decode b_MT_same 58 = .ok (.iaload, 1) := by decide +kernel
theorem d_MT_same_59 : decode b_MT_same 59 = .ok (.if_icmp .eq 5, 3) := by decide +kernel
theorem d_MT_same_62 : decode b_MT_same 62 = .ok (.iconst 0, 1) := by decide +kernel
theorem d_MT_same_63 : decode b_MT_same 63 = .ok (.ireturn, 1) := by decide +kernel
theorem d_MT_same_64 : decode b_MT_same 64 = .ok (.iinc 4 1, 3) := by decide +kernel
theorem d_MT_same_67 : decode b_MT_same 67 = .ok (.goto (-47), 3) := by decide +kernel
theorem d_MT_same_70 : decode b_MT_same 70 = .ok (.iconst 1, 1) := by decide +kernel
theorem d_MT_same_71 : decode b_MT_same 71 = .ok (.ireturn, 1) := by decide +kernel
theorem d_MT_object_0 : decode b_MT_object 0 = .ok (.aload_n 0, 1) := by decide +kernel
theorem d_MT_object_1 : decode b_MT_object 1 = .ok (.iload_n 1, 1) := by decide +kernel
theorem d_MT_object_2 : decode b_MT_object 2 = .ok (.bipush 6, 2) := by decide +kernel
theorem d_MT_object_4 : decode b_MT_object 4 = .ok (.invokevirtual 89, 3) := by decide +kernel
theorem d_MT_object_7 : decode b_MT_object 7 = .ok (.istore_n 3, 1) := by decide +kernel
theorem d_MT_object_8 : decode b_MT_object 8 = .ok (.iconst (-1), 1) := by decide +kernel
theorem d_MT_object_9 : decode b_MT_object 9 = .ok (.istore 4, 2) := by decide +kernel
theorem d_MT_object_11 : decode b_MT_object 11 = .ok (.aload_n 0, 1) := by decide +kernel
theorem d_MT_object_12 : decode b_MT_object 12 = .ok (.dup, 1) := by decide +kernel
theorem d_MT_object_13 : decode b_MT_object 13 = .ok (.getfield 62, 3) := by decide +kernel
theorem d_MT_object_16 : decode b_MT_object 16 = .ok (.iconst 1, 1) := by decide +kernel
theorem d_MT_object_17 : decode b_MT_object 17 = .ok (.iadd, 1) := by decide +kernel
theorem d_MT_object_18 : decode b_MT_object 18 = .ok (.putfield 62, 3) := by decide +kernel
theorem d_MT_object_21 : decode b_MT_object 21 = .ok (.aload_n 0, 1) := by decide +kernel
theorem d_MT_object_22 : decode b_MT_object 22 = .ok (.invokevirtual 74, 3) := by decide +kernel
theorem d_MT_object_25 : decode b_MT_object 25 = .ok (.aload_n 0, 1) := by decide +kernel
theorem d_MT_object_26 : decode b_MT_object 26 = .ok (.aload_n 0, 1) := by decide +kernel
theorem d_MT_object_27 : decode b_MT_object 27 = .ok (.getfield 62, 3) := by decide +kernel
theorem d_MT_object_30 : decode b_MT_object 30 = .ok (.invokevirtual 85, 3) := by decide +kernel
theorem d_MT_object_33 : decode b_MT_object 33 = .ok (.bipush 125, 2) := by decide +kernel
theorem d_MT_object_35 : decode b_MT_object 35 = .ok (.if_icmp .ne 15, 3) := by decide +kernel
theorem d_MT_object_38 : decode b_MT_object 38 = .ok (.aload_n 0, 1) := by decide +kernel
theorem d_MT_object_39 : decode b_MT_object 39 = .ok (.dup, 1) := by decide +kernel
theorem d_MT_object_40 : decode b_MT_object 40 = .ok (.getfield 62, 3) := by decide +kernel
theorem d_MT_object_43 : decode b_MT_object 43 = .ok (.iconst 1, 1) := by decide +kernel
theorem d_MT_object_44 : decode b_MT_object 44 = .ok (.iadd, 1) := by decide +kernel
theorem d_MT_object_45 : decode b_MT_object 45 = .ok (.putfield 62, 3) := by decide +kernel
theorem d_MT_object_48 : decode b_MT_object 48 = .ok (.iconst 1, 1) := by decide +kernel
theorem d_MT_object_49 : decode b_MT_object 49 = .ok (.ireturn, 1) := by decide +kernel
theorem d_MT_object_50 : decode b_MT_object 50 = .ok (.aload_n 0, 1) := by decide +kernel
theorem d_MT_object_51 : decode b_MT_object 51 = .ok (.invokevirtual 74, 3) := by decide +kernel
theorem d_MT_object_54 : decode b_MT_object 54 = .ok (.aload_n 0, 1) := by decide +kernel
theorem d_MT_object_55 : decode b_MT_object 55 = .ok (.aload_n 0, 1) := by decide +kernel
theorem d_MT_object_56 : decode b_MT_object 56 = .ok (.getfield 62, 3) := by decide +kernel
theorem d_MT_object_59 : decode b_MT_object 59 = .ok (.invokevirtual 85, 3) := by decide +kernel
theorem d_MT_object_62 : decode b_MT_object 62 = .ok (.bipush 34, 2) := by decide +kernel
theorem d_MT_object_64 : decode b_MT_object 64 = .ok (.if_icmp .ne 24, 3) := by decide +kernel
theorem d_MT_object_67 : decode b_MT_object 67 = .ok (.aload_n 0, 1) := by decide +kernel
theorem d_MT_object_68 : decode b_MT_object 68 = .ok (.getfield 21, 3) := by decide +kernel
theorem d_MT_object_71 : decode b_MT_object 71 = .ok (.iload_n 3, 1) := by decide +kernel
theorem d_MT_object_72 : decode b_MT_object 72 = .ok (.iaload, 1) := by decide +kernel
theorem d_MT_object_73 : decode b_MT_object 73 = .ok (.bipush 60, 2) := by decide +kernel
theorem d_MT_object_75 : decode b_MT_object 75 = .ok (.if_icmp .eq 13, 3) := by decide +kernel
theorem d_MT_object_78 : decode b_MT_object 78 = .ok (.aload_n 0, 1) := by decide +kernel
theorem d_MT_object_79 : decode b_MT_object 79 = .ok (.getfield 65, 3) := by decide +kernel
theorem d_MT_object_82 : decode b_MT_object 82 = .ok (.sipush 1000, 3) := by decide +kernel
theorem d_MT_object_85 : decode b_MT_object 85 = .ok (.if_icmp .ne 12, 3) := by decide +kernel
theorem d_MT_object_88 : decode b_MT_object 88 = .ok (.aload_n 0, 1) := by decide +kernel
theorem d_MT_object_89 : decode b_MT_object 89 = .ok (.aload_n 0, 1) := by decide +kernel
theorem d_MT_object_90 : decode b_MT_object 90 = .ok (.getfield 62, 3) := by decide +kernel
theorem d_MT_object_93 : decode b_MT_object 93 = .ok (.invokevirtual 81, 3) := by decide +kernel
theorem d_MT_object_96 : decode b_MT_object 96 = .ok (.ireturn, 1) := by decide +kernel
theorem d_MT_object_97 : decode b_MT_object 97 = .ok (.aload_n 0, 1) := by decide +kernel
theorem d_MT_object_98 : decode b_MT_object 98 = .ok (.getfield 62, 3) := by decide +kernel
theorem d_MT_object_101 : decode b_MT_object 101 = .ok (.istore 5, 2) := by decide +kernel
theorem d_MT_object_103 : decode b_MT_object 103 = .ok (.aload_n 0, 1) := by decide +kernel
theorem d_MT_object_104 : decode b_MT_object 104 = .ok (.getfield 65, 3) := by decide +kernel
theorem d_MT_object_107 : decode b_MT_object 107 = .ok (.istore 6, 2) := by decide +kernel
theorem d_MT_object_109 : decode b_MT_object 109 = .ok (.aload_n 0, 1) := by decide +kernel
theorem d_MT_object_110 : decode b_MT_object 110 = .ok (.iload_n 3, 1) := by decide +kernel
theorem d_MT_object_111 : decode b_MT_object 111 = .ok (.invokevirtual 117, 3) := by decide +kernel
theorem d_MT_object_114 : decode b_MT_object 114 = .ok (.ifCond .ne 5, 3) := by decide +kernel
theorem d_MT_object_117 : decode b_MT_object 117 = .ok (.iconst 0, 1) := by decide +kernel
theorem d_MT_object_118 : decode b_MT_object 118 = .ok (.ireturn, 1) := by decide +kernel
theorem d_MT_object_119 : decode b_MT_object 119 = .ok (.aload_n 0, 1) := by decide +kernel
theorem d_MT_object_120 : decode b_MT_object 120 = .ok (.getfield 30, 3) := by decide +kernel
theorem d_MT_object_123 : decode b_MT_object 123 = .ok (.iload_n 3, 1) := by decide +kernel
theorem d_MT_object_124 : decode b_MT_object 124 = .ok (.iaload, 1) := by decide +kernel
theorem d_MT_object_125 : decode b_MT_object 125 = .ok (.istore 7, 2) := by decide +kernel
theorem d_MT_object_127 : decode b_MT_object 127 = .ok (.iload 7, 2) := by decide +kernel
theorem d_MT_object_129 : decode b_MT_object 129 = .ok (.ifCond .lt 39, 3) := by decide +kernel
theorem d_MT_object_132 : decode b_MT_object 132 = .ok (.aload_n 0, 1) := by decide +kernel
theorem d_MT_object_133 : decode b_MT_object 133 = .ok (.aload_n 0, 1) := by decide +kernel
theorem d_MT_object_134 : decode b_MT_object 134 = .ok (.getfield 36, 3) := by decide +kernel
theorem d_MT_object_137 : decode b_MT_object 137 = .ok (.iload 7, 2) := by decide +kernel
theorem d_MT_object_139 : decode b_MT_object 139 = .ok (.iaload, 1) := by decide +kernel
theorem d_MT_object_140 : decode b_MT_object 140 = .ok (.aload_n 0, 1) := by decide +kernel
theorem d_MT_object_141 : decode b_MT_object 141 = .ok (.iload 6, 2) := by decide +kernel
theorem d_MT_object_143 : decode b_MT_object 143 = .ok (.invokevirtual 132, 3) := by decide +kernel
theorem d_MT_object_146 : decode b_MT_object 146 = .ok (.ifCond .eq 10, 3) := by decide +kernel
theorem d_MT_object_149 : decode b_MT_object 149 = .ok (.aload_n 0, 1) := by decide +kernel
theorem d_MT_object_150 : decode b_MT_object 150 = .ok (.iload 5, 2) := by decide +kernel
theorem d_MT_object_152 : decode b_MT_object 152 = .ok (.invokevirtual 81, 3) := by decide +kernel
theorem d_MT_object_155 : decode b_MT_object 155 = .ok (.ireturn, 1) := by decide +kernel
theorem d_MT_object_156 : decode b_MT_object 156 = .ok (.aload_n 0, 1) := by decide +kernel
theorem d_MT_object_157 : decode b_MT_object 157 = .ok (.getfield 33, 3) := by decide +kernel
theorem d_MT_object_160 : decode b_MT_object 160 = .ok (.iload 7, 2) := by decide +kernel
theorem d_MT_object_162 : decode b_MT_object 162 = .ok (.iaload, 1) := by decide +kernel
theorem d_MT_object_163 : decode b_MT_object 163 = .ok (.istore 7, 2) := by decide +kernel
theorem d_MT_object_165 : decode b_MT_object 165 = .ok (.goto (-38), 3) := by decide +kernel
theorem d_MT_object_168 : decode b_MT_object 168 = .ok (.aload_n 0, 1) := by decide +kernel
theorem d_MT_object_169 : decode b_MT_object 169 = .ok (.invokevirtual 74, 3) := by decide +kernel
theorem d_MT_object_172 : decode b_MT_object 172 = .ok (.aload_n 0, 1) := by decide +kernel
theorem d_MT_object_173 : decode b_MT_object 173 = .ok (.aload_n 0, 1) := by decide +kernel
theorem d_MT_object_174 : decode b_MT_object 174 = .ok (.getfield 62, 3) := by decide +kernel
theorem d_MT_object_177 : decode b_MT_object 177 = .ok (.invokevirtual 85, 3) := by decide +kernel
theorem d_MT_object_180 : decode b_MT_object 180 = .ok (.bipush 58, 2) := by decide +kernel
theorem d_MT_object_182 : decode b_MT_object 182 = .ok (.if_icmp .eq 12, 3) := by decide +kernel
theorem d_MT_object_185 : decode b_MT_object 185 = .ok (.aload_n 0, 1) := by decide +kernel
theorem d_MT_object_186 : decode b_MT_object 186 = .ok (.aload_n 0, 1) := by decide +kernel
theorem d_MT_object_187 : decode b_MT_object 187 = .ok (.getfield 62, 3) := by decide +kernel
theorem d_MT_object_190 : decode b_MT_object 190 = .ok (.invokevirtual 81, 3) := by decide +kernel
theorem d_MT_object_193 : decode b_MT_object 193 = .ok (.ireturn, 1) := by decide +kernel
theorem d_MT_object_194 : decode b_MT_object 194 = .ok (.aload_n 0, 1) := by decide +kernel
theorem d_MT_object_195 : decode b_MT_object 195 = .ok (.dup, 1) := by decide +kernel
theorem d_MT_object_196 : decode b_MT_object 196 = .ok (.getfield 62, 3) := by decide +kernel
theorem d_MT_object_199 : decode b_MT_object 199 = .ok (.iconst 1, 1) := by decide +kernel
theorem d_MT_object_200 : decode b_MT_object 200 = .ok (.iadd, 1) := by decide +kernel
theorem d_MT_object_201 : decode b_MT_object 201 = .ok (.putfield 62, 3) := by decide +kernel
theorem d_MT_object_204 : decode b_MT_object 204 = .ok (.aload_n 0, 1) := by decide +kernel
theorem d_MT_object_205 : decode b_MT_object 205 = .ok (.invokevirtual 74, 3) := by decide +kernel
theorem d_MT_object_208 : decode b_MT_object 208 = .ok (.aload_n 0, 1) := by decide +kernel
theorem d_MT_object_209 : decode b_MT_object 209 = .ok (.getfield 65, 3) := by decide +kernel
theorem d_MT_object_212 : decode b_MT_object 212 = .ok (.istore 7, 2) := by decide +kernel
theorem d_MT_object_214 : decode b_MT_object 214 = .ok (.aload_n 0, 1) := by decide +kernel
theorem d_MT_object_215 : decode b_MT_object 215 = .ok (.iload_n 3, 1) := by decide +kernel
theorem d_MT_object_216 : decode b_MT_object 216 = .ok (.iload_n 2, 1) := by decide +kernel
theorem d_MT_object_217 : decode b_MT_object 217 = .ok (.iconst 1, 1) := by decide +kernel
theorem d_MT_object_218 : decode b_MT_object 218 = .ok (.iadd, 1) := by decide +kernel
theorem d_MT_object_219 : decode b_MT_object 219 = .ok (.invokevirtual 77, 3) := by decide +kernel
theorem d_MT_object_222 : decode b_MT_object 222 = .ok (.ifCond .ne 5, 3) := by decide +kernel
theorem d_MT_object_225 : decode b_MT_object 225 = .ok (.iconst 0, 1) := by decide +kernel
theorem d_MT_object_226 : decode b_MT_object 226 = .ok (.ireturn, 1) := by decide +kernel
theorem d_MT_object_227 : decode b_MT_object 227 = .ok (.aload_n 0, 1) := by decide +kernel
theorem d_MT_object_228 : decode b_MT_object 228 = .ok (.getfield 36, 3) := by decide +kernel
theorem d_MT_object_231 : decode b_MT_object 231 = .ok (.iload 7, 2) := by decide +kernel
theorem d_MT_object_233 : decode b_MT_object 233 = .ok (.iload 6, 2) := by decide +kernel
theorem d_MT_object_235 : decode b_MT_object 235 = .ok (.iastore, 1) := by decide +kernel
theorem d_MT_object_236 : decode b_MT_object 236 = .ok (.iload 4, 2) := by decide +kernel
theorem d_MT_object_238 : decode b_MT_object 238 = .ok (.ifCond .ge 14, 3) := by decide +kernel
theorem d_MT_object_241 : decode b_MT_object 241 = .ok (.aload_n 0, 1) := by decide +kernel
theorem d_MT_object_242 : decode b_MT_object 242 = .ok (.getfield 30, 3) := by decide +kernel
theorem d_MT_object_245 : decode b_MT_object 245 = .ok (.iload_n 3, 1) := by decide +kernel
theorem d_MT_object_246 : decode b_MT_object 246 = .ok (.iload 7, 2) := by decide +kernel
theorem d_MT_object_248 : decode b_MT_object 248 = .ok (.iastore, 1) := by decide +kernel
theorem d_MT_object_249 : decode b_MT_object 249 = .ok (.goto 12, 3) := by decide +kernel
theorem d_MT_object_252 : decode b_MT_object 252 = .ok (.aload_n 0, 1) := by decide +kernel
theorem d_MT_object_253 : decode b_MT_object 253 = .ok (.getfield 33, 3) := by decide +kernel
theorem d_MT_object_256 : decode b_MT_object 256 = .ok (.iload 4, 2) := by decide +kernel
theorem d_MT_object_258 : decode b_MT_object 258 = .ok (.iload 7, 2) := by decide +kernel
theorem d_MT_object_260 : decode b_MT_object 260 = .ok (.iastore, 1) := by decide +kernel
theorem d_MT_object_261 : decode b_MT_object 261 = .ok (.iload 7, 2) := by decide +kernel
theorem d_MT_object_263 : decode b_MT_object 263 = .ok (.istore 4, 2) := by decide +kernel
theorem d_MT_object_265 : decode b_MT_object 265 = .ok (.aload_n 0, 1) := by decide +kernel
theorem d_MT_object_266 : decode b_MT_object 266 = .ok (.getfield 21, 3) := by decide +kernel
theorem d_MT_object_269 : decode b_MT_object 269 = .ok (.iload_n 3, 1) := by decide +kernel
theorem d_MT_object_270 : decode b_MT_object 270 = .ok (.dup2, 1) := by decide +kernel
theorem d_MT_object_271 : decode b_MT_object 271 = .ok (.iaload, 1) := by decide +kernel
theorem d_MT_object_272 : decode b_MT_object 272 = .ok (.iconst 1, 1) := by decide +kernel
theorem d_MT_object_273 : decode b_MT_object 273 = .ok (.iadd, 1) := by decide +kernel
theorem d_MT_object_274 : decode b_MT_object 274 = .ok (.iastore, 1) := by decide +kernel
theorem d_MT_object_275 : decode b_MT_object 275 = .ok (.aload_n 0, 1) := by decide +kernel
theorem d_MT_object_276 : decode b_MT_object 276 = .ok (.invokevirtual 74, 3) := by decide +kernel
theorem d_MT_object_279 : decode b_MT_object 279 = .ok (.aload_n 0, 1) := by decide +kernel
theorem d_MT_object_280 : decode b_MT_object 280 = .ok (.aload_n 0, 1) := by decide +kernel
theorem d_MT_object_281 : decode b_MT_object 281 = .ok (.getfield 62, 3) := by decide +kernel
theorem d_MT_object_284 : decode b_MT_object 284 = .ok (.invokevirtual 85, 3) := by decide +kernel
theorem d_MT_object_287 : decode b_MT_object 287 = .ok (.bipush 125, 2) := by decide +kernel
theorem d_MT_object_289 : decode b_MT_object 289 = .ok (.if_icmp .ne 15, 3) := by decide +kernel
theorem d_MT_object_292 : decode b_MT_object 292 = .ok (.aload_n 0, 1) := by decide +kernel
theorem d_MT_object_293 : decode b_MT_object 293 = .ok (.dup, 1) := by decide +kernel
theorem d_MT_object_294 : decode b_MT_object 294 = .ok (.getfield 62, 3) := by decide +kernel
theorem d_MT_object_297 : decode b_MT_object 297 = .ok (.iconst 1, 1) := by decide +kernel
theorem d_MT_object_298 : decode b_MT_object 298 = .ok (.iadd, 1) := by decide +kernel
theorem d_MT_object_299 : decode b_MT_object 299 = .ok (.putfield 62, 3) := by decide +kernel
theorem d_MT_object_302 : decode b_MT_object 302 = .ok (.iconst 1, 1) := by decide +kernel
theorem d_MT_object_303 : decode b_MT_object 303 = .ok (.ireturn, 1) := by decide +kernel
theorem d_MT_object_304 : decode b_MT_object 304 = .ok (.aload_n 0, 1) := by decide +kernel
theorem d_MT_object_305 : decode b_MT_object 305 = .ok (.aload_n 0, 1) := by decide +kernel
theorem d_MT_object_306 : decode b_MT_object 306 = .ok (.getfield 62, 3) := by decide +kernel
theorem d_MT_object_309 : decode b_MT_object 309 = .ok (.invokevirtual 85, 3) := by decide +kernel
theorem d_MT_object_312 : decode b_MT_object 312 = .ok (.bipush 44, 2) := by decide +kernel
theorem d_MT_object_314 : decode b_MT_object 314 = .ok (.if_icmp .eq 12, 3) := by decide +kernel
theorem d_MT_object_317 : decode b_MT_object 317 = .ok (.aload_n 0, 1) := by decide +kernel
theorem d_MT_object_318 : decode b_MT_object 318 = .ok (.aload_n 0, 1) := by decide +kernel
theorem d_MT_object_319 : decode b_MT_object 319 = .ok (.getfield 62, 3) := by decide +kernel
theorem d_MT_object_322 : decode b_MT_object 322 = .ok (.invokevirtual 81, 3) := by decide +kernel
theorem d_MT_object_325 : decode b_MT_object 325 = .ok (.ireturn, 1) := by decide +kernel
theorem d_MT_object_326 : decode b_MT_object 326 = .ok (.aload_n 0, 1) := by decide +kernel
theorem d_MT_object_327 : decode b_MT_object 327 = .ok (.dup, 1) := by decide +kernel
theorem d_MT_object_328 : decode b_MT_object 328 = .ok (.getfield 62, 3) := by decide +kernel
theorem d_MT_object_331 : decode b_MT_object 331 = .ok (.iconst 1, 1) := by decide +kernel
theorem d_MT_object_332 : decode b_MT_object 332 = .ok (.iadd, 1) := by decide +kernel
theorem d_MT_object_333 : decode b_MT_object 333 = .ok (.putfield 62, 3) := by decide +kernel
theorem d_MT_object_336 : decode b_MT_object 336 = .ok (.goto (-286), 3) := by decide +kernel
theorem d_MT_array_0 : decode b_MT_array 0 = .ok (.aload_n 0, 1) := by decide +kernel
theorem d_MT_array_1 : decode b_MT_array 1 = .ok (.iload_n 1, 1) := by decide +kernel
theorem d_MT_array_2 : decode b_MT_array 2 = .ok (.iconst 5, 1) := by decide +kernel
theorem d_MT_array_3 : decode b_MT_array 3 = .ok (.invokevirtual 89, 3) := by decide +kernel
theorem d_MT_array_6 : decode b_MT_array 6 = .ok (.istore_n 3, 1) := by decide +kernel
theorem d_MT_array_7 : decode b_MT_array 7 = .ok (.iconst (-1), 1) := by decide +kernel
theorem d_MT_array_8 : decode b_MT_array 8 = .ok (.istore 4, 2) := by decide +kernel
theorem d_MT_array_10 : decode b_MT_array 10 = .ok (.aload_n 0, 1) := by decide +kernel
theorem d_MT_array_11 : decode b_MT_array 11 = .ok (.dup, 1) := by decide +kernel
theorem d_MT_array_12 : decode b_MT_array 12 = .ok (.getfield 62, 3) := by decide +kernel
theorem d_MT_array_15 : decode b_MT_array 15 = .ok (.iconst 1, 1) := by decide +kernel
theorem d_MT_array_16 : decode b_MT_array 16 = .ok (.iadd, 1) := by decide +kernel
theorem d_MT_array_17 : decode b_MT_array 17 = .ok (.putfield 62, 3) := by decide +kernel
theorem d_MT_array_20 : decode b_MT_array 20 = .ok (.aload_n 0, 1) := by decide +kernel
theorem d_MT_array_21 : decode b_MT_array 21 = .ok (.invokevirtual 74, 3) := by decide +kernel
theorem d_MT_array_24 : decode b_MT_array 24 = .ok (.aload_n 0, 1) := by decide +kernel
theorem d_MT_array_25 : decode b_MT_array 25 = .ok (.aload_n 0, 1) := by decide +kernel
theorem d_MT_array_26 : decode b_MT_array 26 = .ok (.getfield 62, 3) := by decide +kernel
theorem d_MT_array_29 : decode b_MT_array 29 = .ok (.invokevirtual 85, 3) := by decide +kernel
theorem d_MT_array_32 : decode b_MT_array 32 = .ok (.bipush 93, 2) := by decide +kernel
theorem d_MT_array_34 : decode b_MT_array 34 = .ok (.if_icmp .ne 15, 3) := by decide +kernel
theorem d_MT_array_37 : decode b_MT_array 37 = .ok (.aload_n 0, 1) := by decide +kernel
theorem d_MT_array_38 : decode b_MT_array 38 = .ok (.dup, 1) := by decide +kernel
theorem d_MT_array_39 : decode b_MT_array 39 = .ok (.getfield 62, 3) := by decide +kernel
theorem d_MT_array_42 : decode b_MT_array 42 = .ok (.iconst 1, 1) := by decide +kernel
theorem d_MT_array_43 : decode b_MT_array 43 = .ok (.iadd, 1) := by decide +kernel
theorem d_MT_array_44 : decode b_MT_array 44 = .ok (.putfield 62, 3) := by decide +kernel
theorem d_MT_array_47 : decode b_MT_array 47 = .ok (.iconst 1, 1) := by decide +kernel
theorem d_MT_array_48 : decode b_MT_array 48 = .ok (.ireturn, 1) := by decide +kernel
theorem d_MT_array_49 : decode b_MT_array 49 = .ok (.aload_n 0, 1) := by decide +kernel
theorem d_MT_array_50 : decode b_MT_array 50 = .ok (.invokevirtual 74, 3) := by decide +kernel
theorem d_MT_array_53 : decode b_MT_array 53 = .ok (.aload_n 0, 1) := by decide +kernel
theorem d_MT_array_54 : decode b_MT_array 54 = .ok (.getfield 21, 3) := by decide +kernel
theorem d_MT_array_57 : decode b_MT_array 57 = .ok (.iload_n 3, 1) := by decide +kernel
theorem d_MT_array_58 : decode b_MT_array 58 = .ok (.iaload, 1) := by decide +kernel
theorem d_MT_array_59 : decode b_MT_array 59 = .ok (.bipush 60, 2) := by decide +kernel
theorem d_MT_array_61 : decode b_MT_array 61 = .ok (.if_icmp .ne 26, 3) := by decide +kernel
theorem d_MT_array_64 : decode b_MT_array 64 = .ok (.aload_n 0, 1) := by decide +kernel
theorem d_MT_array_65 : decode b_MT_array 65 = .ok (.aload_n 0, 1) := by decide +kernel
theorem d_MT_array_66 : decode b_MT_array 66 = .ok (.getfield 62, 3) := by decide +kernel
theorem d_MT_array_69 : decode b_MT_array 69 = .ok (.invokevirtual 85, 3) := by decide +kernel
theorem d_MT_array_72 : decode b_MT_array 72 = .ok (.invokestatic 129, 3) := by decide +kernel
theorem d_MT_array_75 : decode b_MT_array 75 = .ok (.ifCond .eq 12, 3) := by decide +kernel
theorem d_MT_array_78 : decode b_MT_array 78 = .ok (.aload_n 0, 1) := by decide +kernel
theorem d_MT_array_79 : decode b_MT_array 79 = .ok (.aload_n 0, 1) := by decide +kernel
theorem d_MT_array_80 : decode b_MT_array 80 = .ok (.getfield 62, 3) := by decide +kernel
theorem d_MT_array_83 : decode b_MT_array 83 = .ok (.invokevirtual 81, 3) := by decide +kernel
theorem d_MT_array_86 : decode b_MT_array 86 = .ok (.ireturn, 1) := by decide +kernel
theorem d_MT_array_87 : decode b_MT_array 87 = .ok (.aload_n 0, 1) := by decide +kernel
theorem d_MT_array_88 : decode b_MT_array 88 = .ok (.getfield 65, 3) := by decide +kernel
theorem d_MT_array_91 : decode b_MT_array 91 = .ok (.istore 5, 2) := by decide +kernel
theorem d_MT_array_93 : decode b_MT_array 93 = .ok (.aload_n 0, 1) := by decide +kernel
theorem d_MT_array_94 : decode b_MT_array 94 = .ok (.iload_n 3, 1) := by decide +kernel
theorem d_MT_array_95 : decode b_MT_array 95 = .ok (.iload_n 2, 1) := by decide +kernel
theorem d_MT_array_96 : decode b_MT_array 96 = .ok (.iconst 1, 1) := by decide +kernel
theorem d_MT_array_97 : decode b_MT_array 97 = .ok (.iadd, 1) := by decide +kernel
theorem d_MT_array_98 : decode b_MT_array 98 = .ok (.invokevirtual 77, 3) := by decide +kernel
theorem d_MT_array_101 : decode b_MT_array 101 = .ok (.ifCond .ne 5, 3) := by decide +kernel
theorem d_MT_array_104 : decode b_MT_array 104 = .ok (.iconst 0, 1) := by decide +kernel
theorem d_MT_array_105 : decode b_MT_array 105 = .ok (.ireturn, 1) := by decide +kernel
theorem d_MT_array_106 : decode b_MT_array 106 = .ok (.iload 4, 2) := by decide +kernel
theorem d_MT_array_108 : decode b_MT_array 108 = .ok (.ifCond .ge 14, 3) := by decide +kernel
theorem d_MT_array_111 : decode b_MT_array 111 = .ok (.aload_n 0, 1) := by decide +kernel
theorem d_MT_array_112 : decode b_MT_array 112 = .ok (.getfield 30, 3) := by decide +kernel
theorem d_MT_array_115 : decode b_MT_array 115 = .ok (.iload_n 3, 1) := by decide +kernel
theorem d_MT_array_116 : decode b_MT_array 116 = .ok (.iload 5, 2) := by decide +kernel
theorem d_MT_array_118 : decode b_MT_array 118 = .ok (.iastore, 1) := by decide +kernel
theorem d_MT_array_119 : decode b_MT_array 119 = .ok (.goto 12, 3) := by decide +kernel
theorem d_MT_array_122 : decode b_MT_array 122 = .ok (.aload_n 0, 1) := by decide +kernel
theorem d_MT_array_123 : decode b_MT_array 123 = .ok (.getfield 33, 3) := by decide +kernel
theorem d_MT_array_126 : decode b_MT_array 126 = .ok (.iload 4, 2) := by decide +kernel
theorem d_MT_array_128 : decode b_MT_array 128 = .ok (.iload 5, 2) := by decide +kernel
theorem d_MT_array_130 : decode b_MT_array 130 = .ok (.iastore, 1) := by decide +kernel
theorem d_MT_array_131 : decode b_MT_array 131 = .ok (.iload 5, 2) := by decide +kernel
theorem d_MT_array_133 : decode b_MT_array 133 = .ok (.istore 4, 2) := by decide +kernel
theorem d_MT_array_135 : decode b_MT_array 135 = .ok (.aload_n 0, 1) := by decide +kernel
theorem d_MT_array_136 : decode b_MT_array 136 = .ok (.getfield 21, 3) := by decide +kernel
theorem d_MT_array_139 : decode b_MT_array 139 = .ok (.iload_n 3, 1) := by decide +kernel
theorem d_MT_array_140 : decode b_MT_array 140 = .ok (.dup2, 1) := by decide +kernel
theorem d_MT_array_141 : decode b_MT_array 141 = .ok (.iaload, 1) := by decide +kernel
theorem d_MT_array_142 : decode b_MT_array 142 = .ok (.iconst 1, 1) := by decide +kernel
theorem d_MT_array_143 : decode b_MT_array 143 = .ok (.iadd, 1) := by decide +kernel
theorem d_MT_array_144 : decode b_MT_array 144 = .ok (.iastore, 1) := by decide +kernel
theorem d_MT_array_145 : decode b_MT_array 145 = .ok (.aload_n 0, 1) := by decide +kernel
theorem d_MT_array_146 : decode b_MT_array 146 = .ok (.invokevirtual 74, 3) := by decide +kernel
theorem d_MT_array_149 : decode b_MT_array 149 = .ok (.aload_n 0, 1) := by decide +kernel
theorem d_MT_array_150 : decode b_MT_array 150 = .ok (.aload_n 0, 1) := by decide +kernel
theorem d_MT_array_151 : decode b_MT_array 151 = .ok (.getfield 62, 3) := by decide +kernel
theorem d_MT_array_154 : decode b_MT_array 154 = .ok (.invokevirtual 85, 3) := by decide +kernel
theorem d_MT_array_157 : decode b_MT_array 157 = .ok (.bipush 93, 2) := by decide +kernel
theorem d_MT_array_159 : decode b_MT_array 159 = .ok (.if_icmp .ne 15, 3) := by decide +kernel
theorem d_MT_array_162 : decode b_MT_array 162 = .ok (.aload_n 0, 1) := by decide +kernel
theorem d_MT_array_163 : decode b_MT_array 163 = .ok (.dup, 1) := by decide +kernel
theorem d_MT_array_164 : decode b_MT_array 164 = .ok (.getfield 62, 3) := by decide +kernel
theorem d_MT_array_167 : decode b_MT_array 167 = .ok (.iconst 1, 1) := by decide +kernel
theorem d_MT_array_168 : decode b_MT_array 168 = .ok (.iadd, 1) := by decide +kernel
theorem d_MT_array_169 : decode b_MT_array 169 = .ok (.putfield 62, 3) := by decide +kernel
theorem d_MT_array_172 : decode b_MT_array 172 = .ok (.iconst 1, 1) := by decide +kernel
theorem d_MT_array_173 : decode b_MT_array 173 = .ok (.ireturn, 1) := by decide +kernel
theorem d_MT_array_174 : decode b_MT_array 174 = .ok (.aload_n 0, 1) := by decide +kernel
theorem d_MT_array_175 : decode b_MT_array 175 = .ok (.aload_n 0, 1) := by decide +kernel
theorem d_MT_array_176 : decode b_MT_array 176 = .ok (.getfield 62, 3) := by decide +kernel
theorem d_MT_array_179 : decode b_MT_array 179 = .ok (.invokevirtual 85, 3) := by decide +kernel
theorem d_MT_array_182 : decode b_MT_array 182 = .ok (.bipush 44, 2) := by decide +kernel
theorem d_MT_array_184 : decode b_MT_array 184 = .ok (.if_icmp .eq 12, 3) := by decide +kernel
theorem d_MT_array_187 : decode b_MT_array 187 = .ok (.aload_n 0, 1) := by decide +kernel
theorem d_MT_array_188 : decode b_MT_array 188 = .ok (.aload_n 0, 1) := by decide +kernel
theorem d_MT_array_189 : decode b_MT_array 189 = .ok (.getfield 62, 3) := by decide +kernel
theorem d_MT_array_192 : decode b_MT_array 192 = .ok (.invokevirtual 81, 3) := by decide +kernel
theorem d_MT_array_195 : decode b_MT_array 195 = .ok (.ireturn, 1) := by decide +kernel
theorem d_MT_array_196 : decode b_MT_array 196 = .ok (.aload_n 0, 1) := by decide +kernel
theorem d_MT_array_197 : decode b_MT_array 197 = .ok (.dup, 1) := by decide +kernel
theorem d_MT_array_198 : decode b_MT_array 198 = .ok (.getfield 62, 3) := by decide +kernel
theorem d_MT_array_201 : decode b_MT_array 201 = .ok (.iconst 1, 1) := by decide +kernel
theorem d_MT_array_202 : decode b_MT_array 202 = .ok (.iadd, 1) := by decide +kernel
theorem d_MT_array_203 : decode b_MT_array 203 = .ok (.putfield 62, 3) := by decide +kernel
theorem d_MT_array_206 : decode b_MT_array 206 = .ok (.goto (-157), 3) := by decide +kernel
theorem d_MT_value_0 : decode b_MT_value 0 = .ok (.aload_n 0, 1) := by decide +kernel
theorem d_MT_value_1 : decode b_MT_value 1 = .ok (.aload_n 0, 1) := by decide +kernel
theorem d_MT_value_2 : decode b_MT_value 2 = .ok (.getfield 62, 3) := by decide +kernel
theorem d_MT_value_5 : decode b_MT_value 5 = .ok (.invokevirtual 85, 3) := by decide +kernel
theorem d_MT_value_8 : decode b_MT_value 8 = .ok (.istore_n 3, 1) := by decide +kernel
theorem d_MT_value_9 : decode b_MT_value 9 = .ok (.iload_n 3, 1) := by decide +kernel
theorem d_MT_value_10 : decode b_MT_value 10 = .ok (.bipush 48, 2) := by decide +kernel
theorem d_MT_value_12 : decode b_MT_value 12 = .ok (.bipush 57, 2) := by decide +kernel
theorem d_MT_value_14 : decode b_MT_value 14 = .ok (.invokestatic 103, 3) := by decide +kernel
theorem d_MT_value_17 : decode b_MT_value 17 = .ok (.ifCond .ne 9, 3) := by decide +kernel
theorem d_MT_value_20 : decode b_MT_value 20 = .ok (.iload_n 3, 1) := by decide +kernel
theorem d_MT_value_21 : decode b_MT_value 21 = .ok (.bipush 45, 2) := by decide +kernel
theorem d_MT_value_23 : decode b_MT_value 23 = .ok (.if_icmp .ne 7, 3) := by decide +kernel
theorem d_MT_value_26 : decode b_MT_value 26 = .ok (.iconst 1, 1) := by decide +kernel
theorem d_MT_value_27 : decode b_MT_value 27 = .ok (.goto 4, 3) := by decide +kernel
theorem d_MT_value_30 : decode b_MT_value 30 = .ok (.iconst 0, 1) := by decide +kernel
theorem d_MT_value_31 : decode b_MT_value 31 = .ok (.istore 4, 2) := by decide +kernel
theorem d_MT_value_33 : decode b_MT_value 33 = .ok (.iload_n 3, 1) := by decide +kernel
theorem d_MT_value_34 : decode b_MT_value 34 = .ok (.bipush 110, 2) := by decide +kernel
theorem d_MT_value_36 : decode b_MT_value 36 = .ok (.if_icmp .eq 47, 3) := by decide +kernel
theorem d_MT_value_39 : decode b_MT_value 39 = .ok (.iload_n 3, 1) := by decide +kernel
theorem d_MT_value_40 : decode b_MT_value 40 = .ok (.bipush 116, 2) := by decide +kernel
theorem d_MT_value_42 : decode b_MT_value 42 = .ok (.if_icmp .eq 41, 3) := by decide +kernel
theorem d_MT_value_45 : decode b_MT_value 45 = .ok (.iload_n 3, 1) := by decide +kernel
theorem d_MT_value_46 : decode b_MT_value 46 = .ok (.bipush 102, 2) := by decide +kernel
theorem d_MT_value_48 : decode b_MT_value 48 = .ok (.if_icmp .eq 35, 3) := by decide +kernel
theorem d_MT_value_51 : decode b_MT_value 51 = .ok (.iload_n 3, 1) := by decide +kernel
theorem d_MT_value_52 : decode b_MT_value 52 = .ok (.bipush 34, 2) := by decide +kernel
theorem d_MT_value_54 : decode b_MT_value 54 = .ok (.if_icmp .eq 29, 3) := by decide +kernel
theorem d_MT_value_57 : decode b_MT_value 57 = .ok (.iload_n 3, 1) := by decide +kernel
theorem d_MT_value_58 : decode b_MT_value 58 = .ok (.bipush 91, 2) := by decide +kernel
theorem d_MT_value_60 : decode b_MT_value 60 = .ok (.if_icmp .eq 23, 3) := by decide +kernel
theorem d_MT_value_63 : decode b_MT_value 63 = .ok (.iload_n 3, 1) := by decide +kernel
theorem d_MT_value_64 : decode b_MT_value 64 = .ok (.bipush 123, 2) := by decide +kernel
theorem d_MT_value_66 : decode b_MT_value 66 = .ok (.if_icmp .eq 17, 3) := by decide +kernel
theorem d_MT_value_69 : decode b_MT_value 69 = .ok (.iload 4, 2) := by decide +kernel
theorem d_MT_value_71 : decode b_MT_value 71 = .ok (.ifCond .ne 12, 3) := by decide +kernel
theorem d_MT_value_74 : decode b_MT_value 74 = .ok (.aload_n 0, 1) := by decide +kernel
theorem d_MT_value_75 : decode b_MT_value 75 = .ok (.aload_n 0, 1) := by decide +kernel
theorem d_MT_value_76 : decode b_MT_value 76 = .ok (.getfield 62, 3) := by decide +kernel
theorem d_MT_value_79 : decode b_MT_value 79 = .ok (.invokevirtual 81, 3) := by decide +kernel
theorem d_MT_value_82 : decode b_MT_value 82 = .ok (.ireturn, 1) := by decide +kernel
theorem d_MT_value_83 : decode b_MT_value 83 = .ok (.aload_n 0, 1) := by decide +kernel
theorem d_MT_value_84 : decode b_MT_value 84 = .ok (.getfield 65, 3) := by decide +kernel
theorem d_MT_value_87 : decode b_MT_value 87 = .ok (.sipush 1000, 3) := by decide +kernel
theorem d_MT_value_90 : decode b_MT_value 90 = .ok (.if_icmp .ne 12, 3) := by decide +kernel
theorem d_MT_value_93 : decode b_MT_value 93 = .ok (.aload_n 0, 1) := by decide +kernel
theorem d_MT_value_94 : decode b_MT_value 94 = .ok (.aload_n 0, 1) := by decide +kernel
theorem d_MT_value_95 : decode b_MT_value 95 = .ok (.getfield 62, 3) := by decide +kernel
theorem d_MT_value_98 : decode b_MT_value 98 = .ok (.invokevirtual 81, 3) := by decide +kernel
theorem d_MT_value_101 : decode b_MT_value 101 = .ok (.ireturn, 1) := by decide +kernel
theorem d_MT_value_102 : decode b_MT_value 102 = .ok (.iload_n 3, 1) := by decide +kernel
theorem d_MT_value_103 : decode b_MT_value 103 = .ok (.bipush 110, 2) := by decide +kernel
theorem d_MT_value_105 : decode b_MT_value 105 = .ok (.if_icmp .ne 12, 3) := by decide +kernel
theorem d_MT_value_108 : decode b_MT_value 108 = .ok (.aload_n 0, 1) := by decide +kernel
theorem d_MT_value_109 : decode b_MT_value 109 = .ok (.ldc 107, 2) := by decide +kernel
theorem d_MT_value_111 : decode b_MT_value 111 = .ok (.iload_n 1, 1) := by decide +kernel
theorem d_MT_value_112 : decode b_MT_value 112 = .ok (.iconst 0, 1) := by decide +kernel
theorem d_MT_value_113 : decode b_MT_value 113 = .ok (.invokevirtual 109, 3) := by decide +kernel
