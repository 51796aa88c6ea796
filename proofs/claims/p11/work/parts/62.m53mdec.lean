theorem d_MM_compile_243 : decode b_MM_compile 243 = .ok (.aload_n 0, 1) := by decide +kernel
theorem d_MM_compile_244 : decode b_MM_compile 244 = .ok (.getfield 36, 3) := by decide +kernel
theorem d_MM_compile_247 : decode b_MM_compile 247 = .ok (.iload_n 1, 1) := by decide +kernel
theorem d_MM_compile_248 : decode b_MM_compile 248 = .ok (.iaload, 1) := by decide +kernel
theorem d_MM_compile_249 : decode b_MM_compile 249 = .ok (.ifCond .ge 47, 3) := by decide +kernel
theorem d_MM_compile_252 : decode b_MM_compile 252 = .ok (.aload_n 0, 1) := by decide +kernel
theorem d_MM_compile_253 : decode b_MM_compile 253 = .ok (.iconst 4, 1) := by decide +kernel
theorem d_MM_compile_254 : decode b_MM_compile 254 = .ok (.aload_n 0, 1) := by decide +kernel
theorem d_MM_compile_255 : decode b_MM_compile 255 = .ok (.getfield 293, 3) := by decide +kernel
theorem d_MM_compile_258 : decode b_MM_compile 258 = .ok (.iconst 1, 1) := by decide +kernel
theorem d_MM_compile_259 : decode b_MM_compile 259 = .ok (.iadd, 1) := by decide +kernel
theorem d_MM_compile_260 : decode b_MM_compile 260 = .ok (.iconst 0, 1) := by decide +kernel
theorem d_MM_compile_261 : decode b_MM_compile 261 = .ok (.invokevirtual 300, 3) := by decide +kernel
theorem d_MM_compile_264 : decode b_MM_compile 264 = .ok (.istore_n 2, 1) := by decide +kernel
theorem d_MM_compile_265 : decode b_MM_compile 265 = .ok (.aload_n 0, 1) := by decide +kernel
theorem d_MM_compile_266 : decode b_MM_compile 266 = .ok (.aload_n 0, 1) := by decide +kernel
theorem d_MM_compile_267 : decode b_MM_compile 267 = .ok (.getfield 30, 3) := by decide +kernel
theorem d_MM_compile_270 : decode b_MM_compile 270 = .ok (.iload_n 1, 1) := by decide +kernel
theorem d_MM_compile_271 : decode b_MM_compile 271 = .ok (.iaload, 1) := by decide +kernel
theorem d_MM_compile_272 : decode b_MM_compile 272 = .ok (.invokevirtual 296, 3) := by decide +kernel
theorem d_MM_compile_275 : decode b_MM_compile 275 = .ok (.aload_n 0, 1) := by decide +kernel
theorem d_MM_compile_276 : decode b_MM_compile 276 = .ok (.iconst 5, 1) := by decide +kernel
theorem d_MM_compile_277 : decode b_MM_compile 277 = .ok (.iload_n 2, 1) := by decide +kernel
theorem d_MM_compile_278 : decode b_MM_compile 278 = .ok (.iconst 0, 1) := by decide +kernel
theorem d_MM_compile_279 : decode b_MM_compile 279 = .ok (.invokevirtual 300, 3) := by decide +kernel
theorem d_MM_compile_282 : decode b_MM_compile 282 = .ok (.pop, 1) := by decide +kernel
theorem d_MM_compile_283 : decode b_MM_compile 283 = .ok (.aload_n 0, 1) := by decide +kernel
theorem d_MM_compile_284 : decode b_MM_compile 284 = .ok (.getfield 65, 3) := by decide +kernel
theorem d_MM_compile_287 : decode b_MM_compile 287 = .ok (.iload_n 2, 1) := by decide +kernel
theorem d_MM_compile_288 : decode b_MM_compile 288 = .ok (.aload_n 0, 1) := by decide +kernel
theorem d_MM_compile_289 : decode b_MM_compile 289 = .ok (.getfield 293, 3) := by decide +kernel
theorem d_MM_compile_292 : decode b_MM_compile 292 = .ok (.iastore, 1) := by decide +kernel
theorem d_MM_compile_293 : decode b_MM_compile 293 = .ok (.goto 84, 3) := by decide +kernel
theorem d_MM_compile_296 : decode b_MM_compile 296 = .ok (.iconst (-1), 1) := by decide +kernel
theorem d_MM_compile_297 : decode b_MM_compile 297 = .ok (.istore_n 2, 1) := by decide +kernel
theorem d_MM_compile_298 : decode b_MM_compile 298 = .ok (.aload_n 0, 1) := by decide +kernel
theorem d_MM_compile_299 : decode b_MM_compile 299 = .ok (.getfield 33, 3) := by decide +kernel
theorem d_MM_compile_302 : decode b_MM_compile 302 = .ok (.iload_n 1, 1) := by decide +kernel
theorem d_MM_compile_303 : decode b_MM_compile 303 = .ok (.iaload, 1) := by decide +kernel
theorem d_MM_compile_304 : decode b_MM_compile 304 = .ok (.istore_n 3, 1) := by decide +kernel
theorem d_MM_compile_305 : decode b_MM_compile 305 = .ok (.iload_n 3, 1) := by decide +kernel
theorem d_MM_compile_306 : decode b_MM_compile 306 = .ok (.aload_n 0, 1) := by decide +kernel
theorem d_MM_compile_307 : decode b_MM_compile 307 = .ok (.getfield 36, 3) := by decide +kernel
theorem d_MM_compile_310 : decode b_MM_compile 310 = .ok (.iload_n 1, 1) := by decide +kernel
theorem d_MM_compile_311 : decode b_MM_compile 311 = .ok (.iaload, 1) := by decide +kernel
theorem d_MM_compile_312 : decode b_MM_compile 312 = .ok (.if_icmp .ge 36, 3) := by decide +kernel
theorem d_MM_compile_315 : decode b_MM_compile 315 = .ok (.aload_n 0, 1) := by decide +kernel
theorem d_MM_compile_316 : decode b_MM_compile 316 = .ok (.iconst 4, 1) := by decide +kernel
theorem d_MM_compile_317 : decode b_MM_compile 317 = .ok (.aload_n 0, 1) := by decide +kernel
theorem d_MM_compile_318 : decode b_MM_compile 318 = .ok (.getfield 293, 3) := by decide +kernel
theorem d_MM_compile_321 : decode b_MM_compile 321 = .ok (.iconst 1, 1) := by decide +kernel
theorem d_MM_compile_322 : decode b_MM_compile 322 = .ok (.iadd, 1) := by decide +kernel
theorem d_MM_compile_323 : decode b_MM_compile 323 = .ok (.iload_n 2, 1) := by decide +kernel
theorem d_MM_compile_324 : decode b_MM_compile 324 = .ok (.invokevirtual 300, 3) := by decide +kernel
theorem d_MM_compile_327 : decode b_MM_compile 327 = .ok (.istore 4, 2) := by decide +kernel
theorem d_MM_compile_329 : decode b_MM_compile 329 = .ok (.iload 4, 2) := by decide +kernel
theorem d_MM_compile_331 : decode b_MM_compile 331 = .ok (.istore_n 2, 1) := by decide +kernel
theorem d_MM_compile_332 : decode b_MM_compile 332 = .ok (.aload_n 0, 1) := by decide +kernel
theorem d_MM_compile_333 : decode b_MM_compile 333 = .ok (.aload_n 0, 1) := by decide +kernel
theorem d_MM_compile_334 : decode b_MM_compile 334 = .ok (.getfield 30, 3) := by decide +kernel
theorem d_MM_compile_337 : decode b_MM_compile 337 = .ok (.iload_n 1, 1) := by decide +kernel
theorem d_MM_compile_338 : decode b_MM_compile 338 = .ok (.iaload, 1) := by decide +kernel
theorem d_MM_compile_339 : decode b_MM_compile 339 = .ok (.invokevirtual 296, 3) := by decide +kernel
theorem d_MM_compile_342 : decode b_MM_compile 342 = .ok (.iinc 3 1, 3) := by decide +kernel
theorem d_MM_compile_345 : decode b_MM_compile 345 = .ok (.goto (-40), 3) := by decide +kernel
theorem d_MM_compile_348 : decode b_MM_compile 348 = .ok (.iload_n 2, 1) := by decide +kernel
theorem d_MM_compile_349 : decode b_MM_compile 349 = .ok (.ifCond .lt 25, 3) := by decide +kernel
theorem d_MM_compile_352 : decode b_MM_compile 352 = .ok (.aload_n 0, 1) := by decide +kernel
theorem d_MM_compile_353 : decode b_MM_compile 353 = .ok (.getfield 65, 3) := by decide +kernel
theorem d_MM_compile_356 : decode b_MM_compile 356 = .ok (.iload_n 2, 1) := by decide +kernel
theorem d_MM_compile_357 : decode b_MM_compile 357 = .ok (.iaload, 1) := by decide +kernel
theorem d_MM_compile_358 : decode b_MM_compile 358 = .ok (.istore_n 3, 1) := by decide +kernel
theorem d_MM_compile_359 : decode b_MM_compile 359 = .ok (.aload_n 0, 1) := by decide +kernel
theorem d_MM_compile_360 : decode b_MM_compile 360 = .ok (.getfield 65, 3) := by decide +kernel
theorem d_MM_compile_363 : decode b_MM_compile 363 = .ok (.iload_n 2, 1) := by decide +kernel
theorem d_MM_compile_364 : decode b_MM_compile 364 = .ok (.aload_n 0, 1) := by decide +kernel
theorem d_MM_compile_365 : decode b_MM_compile 365 = .ok (.getfield 293, 3) := by decide +kernel
theorem d_MM_compile_368 : decode b_MM_compile 368 = .ok (.iastore, 1) := by decide +kernel
theorem d_MM_compile_369 : decode b_MM_compile 369 = .ok (.iload_n 3, 1) := by decide +kernel
theorem d_MM_compile_370 : decode b_MM_compile 370 = .ok (.istore_n 2, 1) := by decide +kernel
theorem d_MM_compile_371 : decode b_MM_compile 371 = .ok (.goto (-23), 3) := by decide +kernel
theorem d_MM_compile_374 : decode b_MM_compile 374 = .ok (.goto 3, 3) := by decide +kernel
theorem d_MM_compile_377 : decode b_MM_compile 377 = .ok (.return_, 1) := by decide +kernel
theorem d_MM_isPattern_0 : decode b_MM_isPattern 0 = .ok (.aload_n 0, 1) := by decide +kernel
theorem d_MM_isPattern_1 : decode b_MM_isPattern 1 = .ok (.aload_n 1, 1) := by decide +kernel
theorem d_MM_isPattern_2 : decode b_MM_isPattern 2 = .ok (.putfield 260, 3) := by decide +kernel
theorem d_MM_isPattern_5 : decode b_MM_isPattern 5 = .ok (.aload_n 0, 1) := by decide +kernel
theorem d_MM_isPattern_6 : decode b_MM_isPattern 6 = .ok (.aload_n 1, 1) := by decide +kernel
theorem d_MM_isPattern_7 : decode b_MM_isPattern 7 = .ok (.getfield 269, 3) := by decide +kernel
theorem d_MM_isPattern_10 : decode b_MM_isPattern 10 = .ok (.iload_n 2, 1) := by decide +kernel
theorem d_MM_isPattern_11 : decode b_MM_isPattern 11 = .ok (.iaload, 1) := by decide +kernel
theorem d_MM_isPattern_12 : decode b_MM_isPattern 12 = .ok (.putfield 254, 3) := by decide +kernel
theorem d_MM_isPattern_15 : decode b_MM_isPattern 15 = .ok (.aload_n 0, 1) := by decide +kernel
theorem d_MM_isPattern_16 : decode b_MM_isPattern 16 = .ok (.aload_n 0, 1) := by decide +kernel
theorem d_MM_isPattern_17 : decode b_MM_isPattern 17 = .ok (.getfield 254, 3) := by decide +kernel
theorem d_MM_isPattern_20 : decode b_MM_isPattern 20 = .ok (.aload_n 1, 1) := by decide +kernel
theorem d_MM_isPattern_21 : decode b_MM_isPattern 21 = .ok (.getfield 272, 3) := by decide +kernel
theorem d_MM_isPattern_24 : decode b_MM_isPattern 24 = .ok (.iload_n 2, 1) := by decide +kernel
theorem d_MM_isPattern_25 : decode b_MM_isPattern 25 = .ok (.iaload, 1) := by decide +kernel
theorem d_MM_isPattern_26 : decode b_MM_isPattern 26 = .ok (.iadd, 1) := by decide +kernel
theorem d_MM_isPattern_27 : decode b_MM_isPattern 27 = .ok (.putfield 257, 3) := by decide +kernel
theorem d_MM_isPattern_30 : decode b_MM_isPattern 30 = .ok (.aload_n 0, 1) := by decide +kernel
theorem d_MM_isPattern_31 : decode b_MM_isPattern 31 = .ok (.iconst 0, 1) := by decide +kernel
theorem d_MM_isPattern_32 : decode b_MM_isPattern 32 = .ok (.putfield 266, 3) := by decide +kernel
theorem d_MM_isPattern_35 : decode b_MM_isPattern 35 = .ok (.aload_n 0, 1) := by decide +kernel
theorem d_MM_isPattern_36 : decode b_MM_isPattern 36 = .ok (.iconst 0, 1) := by decide +kernel
theorem d_MM_isPattern_37 : decode b_MM_isPattern 37 = .ok (.putfield 275, 3) := by decide +kernel
theorem d_MM_isPattern_40 : decode b_MM_isPattern 40 = .ok (.aload_n 0, 1) := by decide +kernel
theorem d_MM_isPattern_41 : decode b_MM_isPattern 41 = .ok (.iconst 0, 1) := by decide +kernel
theorem d_MM_isPattern_42 : decode b_MM_isPattern 42 = .ok (.putfield 278, 3) := by decide +kernel
theorem d_MM_isPattern_45 : decode b_MM_isPattern 45 = .ok (.aload_n 0, 1) := by decide +kernel
theorem d_MM_isPattern_46 : decode b_MM_isPattern 46 = .ok (.iconst 0, 1) := by decide +kernel
theorem d_MM_isPattern_47 : decode b_MM_isPattern 47 = .ok (.putfield 281, 3) := by decide +kernel
theorem d_MM_isPattern_50 : decode b_MM_isPattern 50 = .ok (.aload_n 0, 1) := by decide +kernel
theorem d_MM_isPattern_51 : decode b_MM_isPattern 51 = .ok (.iconst 0, 1) := by decide +kernel
theorem d_MM_isPattern_52 : decode b_MM_isPattern 52 = .ok (.invokevirtual 284, 3) := by decide +kernel
theorem d_MM_isPattern_55 : decode b_MM_isPattern 55 = .ok (.istore_n 3, 1) := by decide +kernel
theorem d_MM_isPattern_56 : decode b_MM_isPattern 56 = .ok (.aload_n 0, 1) := by decide +kernel
theorem d_MM_isPattern_57 : decode b_MM_isPattern 57 = .ok (.getfield 281, 3) := by decide +kernel
theorem d_MM_isPattern_60 : decode b_MM_isPattern 60 = .ok (.ifCond .ne 26, 3) := by decide +kernel
theorem d_MM_isPattern_63 : decode b_MM_isPattern 63 = .ok (.aload_n 0, 1) := by decide +kernel
theorem d_MM_isPattern_64 : decode b_MM_isPattern 64 = .ok (.getfield 254, 3) := by decide +kernel
theorem d_MM_isPattern_67 : decode b_MM_isPattern 67 = .ok (.aload_n 0, 1) := by decide +kernel
theorem d_MM_isPattern_68 : decode b_MM_isPattern 68 = .ok (.getfield 257, 3) := by decide +kernel
theorem d_MM_isPattern_71 : decode b_MM_isPattern 71 = .ok (.if_icmp .lt 15, 3) := by decide +kernel
theorem d_MM_isPattern_74 : decode b_MM_isPattern 74 = .ok (.aload_n 0, 1) := by decide +kernel
theorem d_MM_isPattern_75 : decode b_MM_isPattern 75 = .ok (.iload_n 3, 1) := by decide +kernel
theorem d_MM_isPattern_76 : decode b_MM_isPattern 76 = .ok (.invokevirtual 287, 3) := by decide +kernel
theorem d_MM_isPattern_79 : decode b_MM_isPattern 79 = .ok (.ldc2_w 291, 3) := by decide +kernel
theorem d_MM_isPattern_82 : decode b_MM_isPattern 82 = .ok (.lcmp, 1) := by decide +kernel
theorem d_MM_isPattern_83 : decode b_MM_isPattern 83 = .ok (.ifCond .le 5, 3) := by decide +kernel
theorem d_MM_isPattern_86 : decode b_MM_isPattern 86 = .ok (.iconst 0, 1) := by decide +kernel
theorem d_MM_isPattern_87 : decode b_MM_isPattern 87 = .ok (.ireturn, 1) := by decide +kernel
theorem d_MM_isPattern_88 : decode b_MM_isPattern 88 = .ok (.aload_n 0, 1) := by decide +kernel
theorem d_MM_isPattern_89 : decode b_MM_isPattern 89 = .ok (.iconst 0, 1) := by decide +kernel
theorem d_MM_isPattern_90 : decode b_MM_isPattern 90 = .ok (.putfield 293, 3) := by decide +kernel
theorem d_MM_isPattern_93 : decode b_MM_isPattern 93 = .ok (.aload_n 0, 1) := by decide +kernel
theorem d_MM_isPattern_94 : decode b_MM_isPattern 94 = .ok (.iload_n 3, 1) := by decide +kernel
theorem d_MM_isPattern_95 : decode b_MM_isPattern 95 = .ok (.invokevirtual 296, 3) := by decide +kernel
theorem d_MM_isPattern_98 : decode b_MM_isPattern 98 = .ok (.aload_n 0, 1) := by decide +kernel
theorem d_MM_isPattern_99 : decode b_MM_isPattern 99 = .ok (.bipush 9, 2) := by decide +kernel
theorem d_MM_isPattern_101 : decode b_MM_isPattern 101 = .ok (.iconst 0, 1) := by decide +kernel
theorem d_MM_isPattern_102 : decode b_MM_isPattern 102 = .ok (.iconst 0, 1) := by decide +kernel
theorem d_MM_isPattern_103 : decode b_MM_isPattern 103 = .ok (.invokevirtual 300, 3) := by decide +kernel
theorem d_MM_isPattern_106 : decode b_MM_isPattern 106 = .ok (.pop, 1) := by decide +kernel
theorem d_MM_isPattern_107 : decode b_MM_isPattern 107 = .ok (.iconst 1, 1) := by decide +kernel
theorem d_MM_isPattern_108 : decode b_MM_isPattern 108 = .ok (.ireturn, 1) := by decide +kernel
theorem d_MM_has_1_0 : decode b_MM_has_1 0 = .ok (.iconst 0, 1) := by decide +kernel
theorem d_MM_has_1_1 : decode b_MM_has_1 1 = .ok (.istore_n 3, 1) := by decide +kernel
theorem d_MM_has_1_2 : decode b_MM_has_1 2 = .ok (.aload_n 0, 1) := by decide +kernel
theorem d_MM_has_1_3 : decode b_MM_has_1 3 = .ok (.getfield 49, 3) := by decide +kernel
theorem d_MM_has_1_6 : decode b_MM_has_1 6 = .ok (.iload_n 1, 1) := by decide +kernel
theorem d_MM_has_1_7 : decode b_MM_has_1 7 = .ok (.iaload, 1) := by decide +kernel
theorem d_MM_has_1_8 : decode b_MM_has_1 8 = .ok (.istore 4, 2) := by decide +kernel
theorem d_MM_has_1_10 : decode b_MM_has_1 10 = .ok (.iload 4, 2) := by decide +kernel
theorem d_MM_has_1_12 : decode b_MM_has_1 12 = .ok (.aload_n 0, 1) := by decide +kernel
theorem d_MM_has_1_13 : decode b_MM_has_1 13 = .ok (.getfield 52, 3) := by decide +kernel
theorem d_MM_has_1_16 : decode b_MM_has_1 16 = .ok (.iload_n 1, 1) := by decide +kernel
theorem d_MM_has_1_17 : decode b_MM_has_1 17 = .ok (.iaload, 1) := by decide +kernel
theorem d_MM_has_1_18 : decode b_MM_has_1 18 = .ok (.if_icmp .ge 41, 3) := by decide +kernel
theorem d_MM_has_1_21 : decode b_MM_has_1 21 = .ok (.iload_n 3, 1) := by decide +kernel
theorem d_MM_has_1_22 : decode b_MM_has_1 22 = .ok (.ifCond .ne 37, 3) := by decide +kernel
theorem d_MM_has_1_25 : decode b_MM_has_1 25 = .ok (.iload_n 2, 1) := by decide +kernel
theorem d_MM_has_1_26 : decode b_MM_has_1 26 = .ok (.aload_n 0, 1) := by decide +kernel
theorem d_MM_has_1_27 : decode b_MM_has_1 27 = .ok (.getfield 43, 3) := by decide +kernel
theorem d_MM_has_1_30 : decode b_MM_has_1 30 = .ok (.iload 4, 2) := by decide +kernel
theorem d_MM_has_1_32 : decode b_MM_has_1 32 = .ok (.iaload, 1) := by decide +kernel
theorem d_MM_has_1_33 : decode b_MM_has_1 33 = .ok (.if_icmp .lt 18, 3) := by decide +kernel
theorem d_MM_has_1_36 : decode b_MM_has_1 36 = .ok (.iload_n 2, 1) := by decide +kernel
theorem d_MM_has_1_37 : decode b_MM_has_1 37 = .ok (.aload_n 0, 1) := by decide +kernel
theorem d_MM_has_1_38 : decode b_MM_has_1 38 = .ok (.getfield 46, 3) := by decide +kernel
theorem d_MM_has_1_41 : decode b_MM_has_1 41 = .ok (.iload 4, 2) := by decide +kernel
theorem d_MM_has_1_43 : decode b_MM_has_1 43 = .ok (.iaload, 1) := by decide +kernel
theorem d_MM_has_1_44 : decode b_MM_has_1 44 = .ok (.if_icmp .gt 7, 3) := by decide +kernel
theorem d_MM_has_1_47 : decode b_MM_has_1 47 = .ok (.iconst 1, 1) := by decide +kernel
theorem d_MM_has_1_48 : decode b_MM_has_1 48 = .ok (.goto 4, 3) := by decide +kernel
theorem d_MM_has_1_51 : decode b_MM_has_1 51 = .ok (.iconst 0, 1) := by decide +kernel
theorem d_MM_has_1_52 : decode b_MM_has_1 52 = .ok (.istore_n 3, 1) := by decide +kernel
theorem d_MM_has_1_53 : decode b_MM_has_1 53 = .ok (.iinc 4 1, 3) := by decide +kernel
theorem d_MM_has_1_56 : decode b_MM_has_1 56 = .ok (.goto (-46), 3) := by decide +kernel
theorem d_MM_has_1_59 : decode b_MM_has_1 59 = .ok (.iload_n 3, 1) := by decide +kernel
theorem d_MM_has_1_60 : decode b_MM_has_1 60 = .ok (.aload_n 0, 1) := by decide +kernel
theorem d_MM_has_1_61 : decode b_MM_has_1 61 = .ok (.getfield 55, 3) := by decide +kernel
theorem d_MM_has_1_64 : decode b_MM_has_1 64 = .ok (.iload_n 1, 1) := by decide +kernel
theorem d_MM_has_1_65 : decode b_MM_has_1 65 = .ok (.baload, 1) := by decide +kernel
theorem d_MM_has_1_66 : decode b_MM_has_1 66 = .ok (.if_icmp .eq 7, 3) := by decide +kernel
theorem d_MM_has_1_69 : decode b_MM_has_1 69 = .ok (.iconst 1, 1) := by decide +kernel
theorem d_MM_has_1_70 : decode b_MM_has_1 70 = .ok (.goto 4, 3) := by decide +kernel
theorem d_MM_has_1_73 : decode b_MM_has_1 73 = .ok (.iconst 0, 1) := by decide +kernel
theorem d_MM_has_1_74 : decode b_MM_has_1 74 = .ok (.ireturn, 1) := by decide +kernel
theorem d_MM_turn_0 : decode b_MM_turn 0 = .ok (.aload_n 0, 1) := by decide +kernel
theorem d_MM_turn_1 : decode b_MM_turn 1 = .ok (.getfield 374, 3) := by decide +kernel
theorem d_MM_turn_4 : decode b_MM_turn 4 = .ok (.ldc_w 379, 3) := by decide +kernel
theorem d_MM_turn_7 : decode b_MM_turn 7 = .ok (.if_icmp .ne 30, 3) := by decide +kernel
theorem d_MM_turn_10 : decode b_MM_turn 10 = .ok (.iconst 0, 1) := by decide +kernel
theorem d_MM_turn_11 : decode b_MM_turn 11 = .ok (.istore_n 1, 1) := by decide +kernel
theorem d_MM_turn_12 : decode b_MM_turn 12 = .ok (.iload_n 1, 1) := by decide +kernel
theorem d_MM_turn_13 : decode b_MM_turn 13 = .ok (.sipush 25000, 3) := by decide +kernel
theorem d_MM_turn_16 : decode b_MM_turn 16 = .ok (.if_icmp .ge 16, 3) := by decide +kernel
theorem d_MM_turn_19 : decode b_MM_turn 19 = .ok (.aload_n 0, 1) := by decide +kernel
theorem d_MM_turn_20 : decode b_MM_turn 20 = .ok (.getfield 68, 3) := by decide +kernel
theorem d_MM_turn_23 : decode b_MM_turn 23 = .ok (.iload_n 1, 1) := by decide +kernel
theorem d_MM_turn_24 : decode b_MM_turn 24 = .ok (.iconst 0, 1) := by decide +kernel
theorem d_MM_turn_25 : decode b_MM_turn 25 = .ok (.iastore, 1) := by decide +kernel
theorem d_MM_turn_26 : decode b_MM_turn 26 = .ok (.iinc 1 1, 3) := by decide +kernel
theorem d_MM_turn_29 : decode b_MM_turn 29 = .ok (.goto (-17), 3) := by decide +kernel
theorem d_MM_turn_32 : decode b_MM_turn 32 = .ok (.aload_n 0, 1) := by decide +kernel
theorem d_MM_turn_33 : decode b_MM_turn 33 = .ok (.iconst 0, 1) := by decide +kernel
theorem d_MM_turn_34 : decode b_MM_turn 34 = .ok (.putfield 374, 3) := by decide +kernel
theorem d_MM_turn_37 : decode b_MM_turn 37 = .ok (.aload_n 0, 1) := by decide +kernel
theorem d_MM_turn_38 : decode b_MM_turn 38 = .ok (.dup, 1) := by decide +kernel
theorem d_MM_turn_39 : decode b_MM_turn 39 = .ok (.getfield 374, 3) := by decide +kernel
theorem d_MM_turn_42 : decode b_MM_turn 42 = .ok (.iconst 1, 1) := by decide +kernel
theorem d_MM_turn_43 : decode b_MM_turn 43 = .ok (.iadd, 1) := by decide +kernel
theorem d_MM_turn_44 : decode b_MM_turn 44 = .ok (.putfield 374, 3) := by decide +kernel
theorem d_MM_turn_47 : decode b_MM_turn 47 = .ok (.return_, 1) := by decide +kernel
theorem d_MM_thread_0 : decode b_MM_thread 0 = .ok (.iconst 0, 1) := by decide +kernel
theorem d_MM_thread_1 : decode b_MM_thread 1 = .ok (.istore 5, 2) := by decide +kernel
theorem d_MM_thread_3 : decode b_MM_thread 3 = .ok (.aload_n 0, 1) := by decide +kernel
theorem d_MM_thread_4 : decode b_MM_thread 4 = .ok (.getfield 78, 3) := by decide +kernel
theorem d_MM_thread_7 : decode b_MM_thread 7 = .ok (.iload 5, 2) := by decide +kernel
theorem d_MM_thread_9 : decode b_MM_thread 9 = .ok (.iinc 5 1, 3) := by decide +kernel
theorem d_MM_thread_12 : decode b_MM_thread 12 = .ok (.iload_n 2, 1) := by decide +kernel
theorem d_MM_thread_13 : decode b_MM_thread 13 = .ok (.iastore, 1) := by decide +kernel
theorem d_MM_thread_14 : decode b_MM_thread 14 = .ok (.iload 5, 2) := by decide +kernel
theorem d_MM_thread_16 : decode b_MM_thread 16 = .ok (.ifCond .le 219, 3) := by decide +kernel
theorem d_MM_thread_19 : decode b_MM_thread 19 = .ok (.aload_n 0, 1) := by decide +kernel
theorem d_MM_thread_20 : decode b_MM_thread 20 = .ok (.getfield 78, 3) := by decide +kernel
theorem d_MM_thread_23 : decode b_MM_thread 23 = .ok (.iinc 5 (-1), 3) := by decide +kernel
theorem d_MM_thread_26 : decode b_MM_thread 26 = .ok (.iload 5, 2) := by decide +kernel
theorem d_MM_thread_28 : decode b_MM_thread 28 = .ok (.iaload, 1) := by decide +kernel
theorem d_MM_thread_29 : decode b_MM_thread 29 = .ok (.istore 6, 2) := by decide +kernel
theorem d_MM_thread_31 : decode b_MM_thread 31 = .ok (.aload_n 0, 1) := by decide +kernel
theorem d_MM_thread_32 : decode b_MM_thread 32 = .ok (.getfield 68, 3) := by decide +kernel
theorem d_MM_thread_35 : decode b_MM_thread 35 = .ok (.iload 6, 2) := by decide +kernel
theorem d_MM_thread_37 : decode b_MM_thread 37 = .ok (.iaload, 1) := by decide +kernel
theorem d_MM_thread_38 : decode b_MM_thread 38 = .ok (.aload_n 0, 1) := by decide +kernel
theorem d_MM_thread_39 : decode b_MM_thread 39 = .ok (.getfield 374, 3) := by decide +kernel
theorem d_MM_thread_42 : decode b_MM_thread 42 = .ok (.if_icmp .ne 6, 3) := by decide +kernel
theorem d_MM_thread_45 : decode b_MM_thread 45 = .ok (.goto (-31), 3) := by decide +kernel
theorem d_MM_thread_48 : decode b_MM_thread 48 = .ok (.aload_n 0, 1) := by decide +kernel
theorem d_MM_thread_49 : decode b_MM_thread 49 = .ok (.getfield 68, 3) := by decide +kernel
theorem d_MM_thread_52 : decode b_MM_thread 52 = .ok (.iload 6, 2) := by decide +kernel
theorem d_MM_thread_54 : decode b_MM_thread 54 = .ok (.aload_n 0, 1) := by decide +kernel
theorem d_MM_thread_55 : decode b_MM_thread 55 = .ok (.getfield 374, 3) := by decide +kernel
theorem d_MM_thread_58 : decode b_MM_thread 58 = .ok (.iastore, 1) := by decide +kernel
theorem d_MM_thread_59 : decode b_MM_thread 59 = .ok (.aload_n 0, 1) := by decide +kernel
theorem d_MM_thread_60 : decode b_MM_thread 60 = .ok (.getfield 59, 3) := by decide +kernel
theorem d_MM_thread_63 : decode b_MM_thread 63 = .ok (.iload 6, 2) := by decide +kernel
theorem d_MM_thread_65 : decode b_MM_thread 65 = .ok (.iaload, 1) := by decide +kernel
theorem d_MM_thread_66 : decode b_MM_thread 66 = .ok (.bipush 9, 2) := by decide +kernel
theorem d_MM_thread_68 : decode b_MM_thread 68 = .ok (.if_icmp .ne 5, 3) := by decide +kernel
theorem d_MM_thread_71 : decode b_MM_thread 71 = .ok (.iconst 1, 1) := by decide +kernel
theorem d_MM_thread_72 : decode b_MM_thread 72 = .ok (.ireturn, 1) := by decide +kernel
theorem d_MM_thread_73 : decode b_MM_thread 73 = .ok (.aload_n 0, 1) := by decide +kernel
theorem d_MM_thread_74 : decode b_MM_thread 74 = .ok (.getfield 59, 3) := by decide +kernel
theorem d_MM_thread_77 : decode b_MM_thread 77 = .ok (.iload 6, 2) := by decide +kernel
theorem d_MM_thread_79 : decode b_MM_thread 79 = .ok (.iaload, 1) := by decide +kernel
theorem d_MM_thread_80 : decode b_MM_thread 80 = .ok (.iconst 1, 1) := by decide +kernel
theorem d_MM_thread_81 : decode b_MM_thread 81 = .ok (.if_icmp .ne 21, 3) := by decide +kernel
theorem d_MM_thread_84 : decode b_MM_thread 84 = .ok (.aload_n 1, 1) := by decide +kernel
theorem d_MM_thread_85 : decode b_MM_thread 85 = .ok (.aload_n 0, 1) := by decide +kernel
theorem d_MM_thread_86 : decode b_MM_thread 86 = .ok (.dup, 1) := by decide +kernel
theorem d_MM_thread_87 : decode b_MM_thread 87 = .ok (.getfield 380, 3) := by decide +kernel
theorem d_MM_thread_90 : decode b_MM_thread 90 = .ok (.dup_x1, 1) := by decide +kernel
theorem d_MM_thread_91 : decode b_MM_thread 91 = .ok (.iconst 1, 1) := by decide +kernel
theorem d_MM_thread_92 : decode b_MM_thread 92 = .ok (.iadd, 1) := by decide +kernel
theorem d_MM_thread_93 : decode b_MM_thread 93 = .ok (.putfield 380, 3) := by decide +kernel
theorem d_MM_thread_96 : decode b_MM_thread 96 = .ok (.iload 6, 2) := by decide +kernel
theorem d_MM_thread_98 : decode b_MM_thread 98 = .ok (.iastore, 1) := by decide +kernel
theorem d_MM_thread_99 : decode b_MM_thread 99 = .ok (.goto 133, 3) := by decide +kernel
theorem d_MM_thread_102 : decode b_MM_thread 102 = .ok (.aload_n 0, 1) := by decide +kernel
theorem d_MM_thread_103 : decode b_MM_thread 103 = .ok (.getfield 59, 3) := by decide +kernel
theorem d_MM_thread_106 : decode b_MM_thread 106 = .ok (.iload 6, 2) := by decide +kernel
theorem d_MM_thread_108 : decode b_MM_thread 108 = .ok (.iaload, 1) := by decide +kernel
theorem d_MM_thread_109 : decode b_MM_thread 109 = .ok (.iconst 2, 1) := by decide +kernel
theorem d_MM_thread_110 : decode b_MM_thread 110 = .ok (.if_icmp .ne 24, 3) := by decide +kernel
theorem d_MM_thread_113 : decode b_MM_thread 113 = .ok (.iload_n 3, 1) := by decide +kernel
theorem d_MM_thread_114 : decode b_MM_thread 114 = .ok (.ifCond .eq 118, 3) := by decide +kernel
theorem d_MM_thread_117 : decode b_MM_thread 117 = .ok (.aload_n 0, 1) := by decide +kernel
theorem d_MM_thread_118 : decode b_MM_thread 118 = .ok (.getfield 78, 3) := by decide +kernel
theorem d_MM_thread_121 : decode b_MM_thread 121 = .ok (.iload 5, 2) := by decide +kernel
theorem d_MM_thread_123 : decode b_MM_thread 123 = .ok (.iinc 5 1, 3) := by decide +kernel
theorem d_MM_thread_126 : decode b_MM_thread 126 = .ok (.iload 6, 2) := by decide +kernel
theorem d_MM_thread_128 : decode b_MM_thread 128 = .ok (.iconst 1, 1) := by decide +kernel
theorem d_MM_thread_129 : decode b_MM_thread 129 = .ok (.iadd, 1) := by decide +kernel
theorem d_MM_thread_130 : decode b_MM_thread 130 = .ok (.iastore, 1) := by decide +kernel
theorem d_MM_thread_131 : decode b_MM_thread 131 = .ok (.goto 101, 3) := by decide +kernel
theorem d_MM_thread_134 : decode b_MM_thread 134 = .ok (.aload_n 0, 1) := by decide +kernel
theorem d_MM_thread_135 : decode b_MM_thread 135 = .ok (.getfield 59, 3) := by decide +kernel
theorem d_MM_thread_138 : decode b_MM_thread 138 = .ok (.iload 6, 2) := by decide +kernel
theorem d_MM_thread_140 : decode b_MM_thread 140 = .ok (.iaload, 1) := by decide +kernel
theorem d_MM_thread_141 : decode b_MM_thread 141 = .ok (.iconst 3, 1) := by decide +kernel
theorem d_MM_thread_142 : decode b_MM_thread 142 = .ok (.if_icmp .ne 25, 3) := by decide +kernel
theorem d_MM_thread_145 : decode b_MM_thread 145 = .ok (.iload 4, 2) := by decide +kernel
theorem d_MM_thread_147 : decode b_MM_thread 147 = .ok (.ifCond .eq 85, 3) := by decide +kernel
theorem d_MM_thread_150 : decode b_MM_thread 150 = .ok (.aload_n 0, 1) := by decide +kernel
theorem d_MM_thread_151 : decode b_MM_thread 151 = .ok (.getfield 78, 3) := by decide +kernel
theorem d_MM_thread_154 : decode b_MM_thread 154 = .ok (.iload 5, 2) := by decide +kernel
theorem d_MM_thread_156 : decode b_MM_thread 156 = .ok (.iinc 5 1, 3) := by decide +kernel
theorem d_MM_thread_159 : decode b_MM_thread 159 = .ok (.iload 6, 2) := by decide +kernel
theorem d_MM_thread_161 : decode b_MM_thread 161 = .ok (.iconst 1, 1) := by decide +kernel
theorem d_MM_thread_162 : decode b_MM_thread 162 = .ok (.iadd, 1) := by decide +kernel
theorem d_MM_thread_163 : decode b_MM_thread 163 = .ok (.iastore, 1) := by decide +kernel
theorem d_MM_thread_164 : decode b_MM_thread 164 = .ok (.goto 68, 3) := by decide +kernel
theorem d_MM_thread_167 : decode b_MM_thread 167 = .ok (.aload_n 0, 1) := by decide +kernel
theorem d_MM_thread_168 : decode b_MM_thread 168 = .ok (.getfield 59, 3) := by decide +kernel
theorem d_MM_thread_171 : decode b_MM_thread 171 = .ok (.iload 6, 2) := by decide +kernel
theorem d_MM_thread_173 : decode b_MM_thread 173 = .ok (.iaload, 1) := by decide +kernel
theorem d_MM_thread_174 : decode b_MM_thread 174 = .ok (.iconst 5, 1) := by decide +kernel
theorem d_MM_thread_175 : decode b_MM_thread 175 = .ok (.if_icmp .ne 23, 3) := by decide +kernel
theorem d_MM_thread_178 : decode b_MM_thread 178 = .ok (.aload_n 0, 1) := by decide +kernel
theorem d_MM_thread_179 : decode b_MM_thread 179 = .ok (.getfield 78, 3) := by decide +kernel
theorem d_MM_thread_182 : decode b_MM_thread 182 = .ok (.iload 5, 2) := by decide +kernel
theorem d_MM_thread_184 : decode b_MM_thread 184 = .ok (.iinc 5 1, 3) := by decide +kernel
theorem d_MM_thread_187 : decode b_MM_thread 187 = .ok (.aload_n 0, 1) := by decide +kernel
theorem d_MM_thread_188 : decode b_MM_thread 188 = .ok (.getfield 62, 3) := by decide +kernel
theorem d_MM_thread_191 : decode b_MM_thread 191 = .ok (.iload 6, 2) := by decide +kernel
theorem d_MM_thread_193 : decode b_MM_thread 193 = .ok (.iaload, 1) := by decide +kernel
theorem d_MM_thread_194 : decode b_MM_thread 194 = .ok (.iastore, 1) := by decide +kernel
theorem d_MM_thread_195 : decode b_MM_thread 195 = .ok (.goto 37, 3) := by decide +kernel
theorem d_MM_thread_198 : decode b_MM_thread 198 = .ok (.aload_n 0, 1) := by decide +kernel
theorem d_MM_thread_199 : decode b_MM_thread 199 = .ok (.getfield 78, 3) := by decide +kernel
theorem d_MM_thread_202 : decode b_MM_thread 202 = .ok (.iload 5, 2) := by decide +kernel
theorem d_MM_thread_204 : decode b_MM_thread 204 = .ok (.iinc 5 1, 3) := by decide +kernel
theorem d_MM_thread_207 : decode b_MM_thread 207 = .ok (.aload_n 0, 1) := by decide +kernel
theorem d_MM_thread_208 : decode b_MM_thread 208 = .ok (.getfield 62, 3) := by decide +kernel
theorem d_MM_thread_211 : decode b_MM_thread 211 = .ok (.iload 6, 2) := by decide +kernel
theorem d_MM_thread_213 : decode b_MM_thread 213 = .ok (.iaload, 1) := by decide +kernel
theorem d_MM_thread_214 : decode b_MM_thread 214 = .ok (.iastore, 1) := by decide +kernel
theorem d_MM_thread_215 : decode b_MM_thread 215 = .ok (.aload_n 0, 1) := by decide +kernel
theorem d_MM_thread_216 : decode b_MM_thread 216 = .ok (.getfield 78, 3) := by decide +kernel
theorem d_MM_thread_219 : decode b_MM_thread 219 = .ok (.iload 5, 2) := by decide +kernel
theorem d_MM_thread_221 : decode b_MM_thread 221 = .ok (.iinc 5 1, 3) := by decide +kernel
theorem d_MM_thread_224 : decode b_MM_thread 224 = .ok (.aload_n 0, 1) := by decide +kernel
theorem d_MM_thread_225 : decode b_MM_thread 225 = .ok (.getfield 65, 3) := by decide +kernel
theorem d_MM_thread_228 : decode b_MM_thread 228 = .ok (.iload 6, 2) := by decide +kernel
theorem d_MM_thread_230 : decode b_MM_thread 230 = .ok (.iaload, 1) := by decide +kernel
theorem d_MM_thread_231 : decode b_MM_thread 231 = .ok (.iastore, 1) := by decide +kernel
theorem d_MM_thread_232 : decode b_MM_thread 232 = .ok (.goto (-218), 3) := by decide +kernel
theorem d_MM_thread_235 : decode b_MM_thread 235 = .ok (.iconst 0, 1) := by decide +kernel
theorem d_MM_thread_236 : decode b_MM_thread 236 = .ok (.ireturn, 1) := by decide +kernel
theorem d_MM_matches_0 : decode b_MM_matches 0 = .ok (.aload_n 1, 1) := by decide +kernel
theorem d_MM_matches_1 : decode b_MM_matches 1 = .ok (.getfield 272, 3) := by decide +kernel
theorem d_MM_matches_4 : decode b_MM_matches 4 = .ok (.iload_n 2, 1) := by decide +kernel
theorem d_MM_matches_5 : decode b_MM_matches 5 = .ok (.iaload, 1) := by decide +kernel
theorem d_MM_matches_6 : decode b_MM_matches 6 = .ok (.istore_n 3, 1) := by decide +kernel
theorem d_MM_matches_7 : decode b_MM_matches 7 = .ok (.iconst 0, 1) := by decide +kernel
theorem d_MM_matches_8 : decode b_MM_matches 8 = .ok (.istore 4, 2) := by decide +kernel
theorem d_MM_matches_10 : decode b_MM_matches 10 = .ok (.iconst 0, 1) := by decide +kernel
theorem d_MM_matches_11 : decode b_MM_matches 11 = .ok (.istore 5, 2) := by decide +kernel
theorem d_MM_matches_13 : decode b_MM_matches 13 = .ok (.iload 5, 2) := by decide +kernel
theorem d_MM_matches_15 : decode b_MM_matches 15 = .ok (.iload_n 3, 1) := by decide +kernel
theorem d_MM_matches_16 : decode b_MM_matches 16 = .ok (.if_icmp .gt 202, 3) := by decide +kernel
theorem d_MM_matches_19 : decode b_MM_matches 19 = .ok (.iload 5, 2) := by decide +kernel
theorem d_MM_matches_21 : decode b_MM_matches 21 = .ok (.ifCond .ne 12, 3) := by decide +kernel
theorem d_MM_matches_24 : decode b_MM_matches 24 = .ok (.aload_n 0, 1) := by decide +kernel
theorem d_MM_matches_25 : decode b_MM_matches 25 = .ok (.invokevirtual 383, 3) := by decide +kernel
theorem d_MM_matches_28 : decode b_MM_matches 28 = .ok (.aload_n 0, 1) := by decide +kernel
theorem d_MM_matches_29 : decode b_MM_matches 29 = .ok (.iconst 0, 1) := by decide +kernel
theorem d_MM_matches_30 : decode b_MM_matches 30 = .ok (.putfield 380, 3) := by decide +kernel
theorem d_MM_matches_33 : decode b_MM_matches 33 = .ok (.aload_n 0, 1) := by decide +kernel
theorem d_MM_matches_34 : decode b_MM_matches 34 = .ok (.aload_n 0, 1) := by decide +kernel
theorem d_MM_matches_35 : decode b_MM_matches 35 = .ok (.getfield 71, 3) := by decide +kernel
theorem d_MM_matches_38 : decode b_MM_matches 38 = .ok (.iconst 0, 1) := by decide +kernel
theorem d_MM_matches_39 : decode b_MM_matches 39 = .ok (.iload 5, 2) := by decide +kernel
theorem d_MM_matches_41 : decode b_MM_matches 41 = .ok (.ifCond .ne 7, 3) := by decide +kernel
theorem d_MM_matches_44 : decode b_MM_matches 44 = .ok (.iconst 1, 1) := by decide +kernel
theorem d_MM_matches_45 : decode b_MM_matches 45 = .ok (.goto 4, 3) := by decide +kernel
theorem d_MM_matches_48 : decode b_MM_matches 48 = .ok (.iconst 0, 1) := by decide +kernel
theorem d_MM_matches_49 : decode b_MM_matches 49 = .ok (.iload 5, 2) := by decide +kernel
theorem d_MM_matches_51 : decode b_MM_matches 51 = .ok (.iload_n 3, 1) := by decide +kernel
theorem d_MM_matches_52 : decode b_MM_matches 52 = .ok (.if_icmp .ne 7, 3) := by decide +kernel
theorem d_MM_matches_55 : decode b_MM_matches 55 = .ok (.iconst 1, 1) := by decide +kernel
theorem d_MM_matches_56 : decode b_MM_matches 56 = .ok (.goto 4, 3) := by decide +kernel
theorem d_MM_matches_59 : decode b_MM_matches 59 = .ok (.iconst 0, 1) := by decide +kernel
theorem d_MM_matches_60 : decode b_MM_matches 60 = .ok (.invokevirtual 386, 3) := by decide +kernel
theorem d_MM_matches_63 : decode b_MM_matches 63 = .ok (.ifCond .eq 5, 3) := by decide +kernel
theorem d_MM_matches_66 : decode b_MM_matches 66 = .ok (.iconst 1, 1) := by decide +kernel
theorem d_MM_matches_67 : decode b_MM_matches 67 = .ok (.ireturn, 1) := by decide +kernel
theorem d_MM_matches_68 : decode b_MM_matches 68 = .ok (.aload_n 0, 1) := by decide +kernel
theorem d_MM_matches_69 : decode b_MM_matches 69 = .ok (.getfield 380, 3) := by decide +kernel
theorem d_MM_matches_72 : decode b_MM_matches 72 = .ok (.istore 4, 2) := by decide +kernel
theorem d_MM_matches_74 : decode b_MM_matches 74 = .ok (.iload 5, 2) := by decide +kernel
theorem d_MM_matches_76 : decode b_MM_matches 76 = .ok (.iload_n 3, 1) := by decide +kernel
theorem d_MM_matches_77 : decode b_MM_matches 77 = .ok (.if_icmp .ne 5, 3) := by decide +kernel
theorem d_MM_matches_80 : decode b_MM_matches 80 = .ok (.iconst 0, 1) := by decide +kernel
theorem d_MM_matches_81 : decode b_MM_matches 81 = .ok (.ireturn, 1) := by decide +kernel
theorem d_MM_matches_82 : decode b_MM_matches 82 = .ok (.aload_n 1, 1) := by decide +kernel
theorem d_MM_matches_83 : decode b_MM_matches 83 = .ok (.getfield 263, 3) := by decide +kernel
theorem d_MM_matches_86 : decode b_MM_matches 86 = .ok (.aload_n 1, 1) := by decide +kernel
theorem d_MM_matches_87 : decode b_MM_matches 87 = .ok (.getfield 269, 3) := by decide +kernel
theorem d_MM_matches_90 : decode b_MM_matches 90 = .ok (.iload_n 2, 1) := by decide +kernel
theorem d_MM_matches_91 : decode b_MM_matches 91 = .ok (.iaload, 1) := by decide +kernel
theorem d_MM_matches_92 : decode b_MM_matches 92 = .ok (.iload 5, 2) := by decide +kernel
theorem d_MM_matches_94 : decode b_MM_matches 94 = .ok (.iadd, 1) := by decide +kernel
theorem d_MM_matches_95 : decode b_MM_matches 95 = .ok (.iaload, 1) := by decide +kernel
theorem d_MM_matches_96 : decode b_MM_matches 96 = .ok (.istore 6, 2) := by decide +kernel
theorem d_MM_matches_98 : decode b_MM_matches 98 = .ok (.aload_n 0, 1) := by decide +kernel
theorem d_MM_matches_99 : decode b_MM_matches 99 = .ok (.invokevirtual 383, 3) := by decide +kernel
theorem d_MM_matches_102 : decode b_MM_matches 102 = .ok (.aload_n 0, 1) := by decide +kernel
theorem d_MM_matches_103 : decode b_MM_matches 103 = .ok (.iconst 0, 1) := by decide +kernel
theorem d_MM_matches_104 : decode b_MM_matches 104 = .ok (.putfield 380, 3) := by decide +kernel
theorem d_MM_matches_107 : decode b_MM_matches 107 = .ok (.iconst 0, 1) := by decide +kernel
theorem d_MM_matches_108 : decode b_MM_matches 108 = .ok (.istore 7, 2) := by decide +kernel
theorem d_MM_matches_110 : decode b_MM_matches 110 = .ok (.iload 7, 2) := by decide +kernel
theorem d_MM_matches_112 : decode b_MM_matches 112 = .ok (.iload 4, 2) := by decide +kernel
theorem d_MM_matches_114 : decode b_MM_matches 114 = .ok (.if_icmp .ge 66, 3) := by decide +kernel
theorem d_MM_matches_117 : decode b_MM_matches 117 = .ok (.aload_n 0, 1) := by decide +kernel
theorem d_MM_matches_118 : decode b_MM_matches 118 = .ok (.aload_n 0, 1) := by decide +kernel
theorem d_MM_matches_119 : decode b_MM_matches 119 = .ok (.getfield 62, 3) := by decide +kernel
theorem d_MM_matches_122 : decode b_MM_matches 122 = .ok (.aload_n 0, 1) := by decide +kernel
theorem d_MM_matches_123 : decode b_MM_matches 123 = .ok (.getfield 71, 3) := by decide +kernel
theorem d_MM_matches_126 : decode b_MM_matches 126 = .ok (.iload 7, 2) := by decide +kernel
theorem d_MM_matches_128 : decode b_MM_matches 128 = .ok (.iaload, 1) := by decide +kernel
theorem d_MM_matches_129 : decode b_MM_matches 129 = .ok (.iaload, 1) := by decide +kernel
theorem d_MM_matches_130 : decode b_MM_matches 130 = .ok (.iload 6, 2) := by decide +kernel
theorem d_MM_matches_132 : decode b_MM_matches 132 = .ok (.invokevirtual 390, 3) := by decide +kernel
theorem d_MM_matches_135 : decode b_MM_matches 135 = .ok (.ifCond .eq 39, 3) := by decide +kernel
theorem d_MM_matches_138 : decode b_MM_matches 138 = .ok (.aload_n 0, 1) := by decide +kernel
theorem d_MM_matches_139 : decode b_MM_matches 139 = .ok (.aload_n 0, 1) := by decide +kernel
theorem d_MM_matches_140 : decode b_MM_matches 140 = .ok (.getfield 74, 3) := by decide +kernel
theorem d_MM_matches_143 : decode b_MM_matches 143 = .ok (.aload_n 0, 1) := by decide +kernel
theorem d_MM_matches_144 : decode b_MM_matches 144 = .ok (.getfield 71, 3) := by decide +kernel
theorem d_MM_matches_147 : decode b_MM_matches 147 = .ok (.iload 7, 2) := by decide +kernel
theorem d_MM_matches_149 : decode b_MM_matches 149 = .ok (.iaload, 1) := by decide +kernel
theorem d_MM_matches_150 : decode b_MM_matches 150 = .ok (.iconst 1, 1) := by decide +kernel
theorem d_MM_matches_151 : decode b_MM_matches 151 = .ok (.iadd, 1) := by decide +kernel
theorem d_MM_matches_152 : decode b_MM_matches 152 = .ok (.iconst 0, 1) := by decide +kernel
theorem d_MM_matches_153 : decode b_MM_matches 153 = .ok (.iload 5, 2) := by decide +kernel
theorem d_MM_matches_155 : decode b_MM_matches 155 = .ok (.iconst 1, 1) := by decide +kernel
theorem d_MM_matches_156 : decode b_MM_matches 156 = .ok (.iadd, 1) := by decide +kernel
theorem d_MM_matches_157 : decode b_MM_matches 157 = .ok (.iload_n 3, 1) := by decide +kernel
theorem d_MM_matches_158 : decode b_MM_matches 158 = .ok (.if_icmp .ne 7, 3) := by decide +kernel
theorem d_MM_matches_161 : decode b_MM_matches 161 = .ok (.iconst 1, 1) := by decide +kernel
theorem d_MM_matches_162 : decode b_MM_matches 162 = .ok (.goto 4, 3) := by decide +kernel
theorem d_MM_matches_165 : decode b_MM_matches 165 = .ok (.iconst 0, 1) := by decide +kernel
theorem d_MM_matches_166 : decode b_MM_matches 166 = .ok (.invokevirtual 386, 3) := by decide +kernel
theorem d_MM_matches_169 : decode b_MM_matches 169 = .ok (.ifCond .eq 5, 3) := by decide +kernel
theorem d_MM_matches_172 : decode b_MM_matches 172 = .ok (.iconst 1, 1) := by decide +kernel
theorem d_MM_matches_173 : decode b_MM_matches 173 = .ok (.ireturn, 1) := by decide +kernel
theorem d_MM_matches_174 : decode b_MM_matches 174 = .ok (.iinc 7 1, 3) := by decide +kernel
theorem d_MM_matches_177 : decode b_MM_matches 177 = .ok (.goto (-67), 3) := by decide +kernel
theorem d_MM_matches_180 : decode b_MM_matches 180 = .ok (.iconst 0, 1) := by decide +kernel
theorem d_MM_matches_181 : decode b_MM_matches 181 = .ok (.istore 7, 2) := by decide +kernel
theorem d_MM_matches_183 : decode b_MM_matches 183 = .ok (.iload 7, 2) := by decide +kernel
theorem d_MM_matches_185 : decode b_MM_matches 185 = .ok (.aload_n 0, 1) := by decide +kernel
theorem d_MM_matches_186 : decode b_MM_matches 186 = .ok (.getfield 380, 3) := by decide +kernel
theorem d_MM_matches_189 : decode b_MM_matches 189 = .ok (.if_icmp .ge 23, 3) := by decide +kernel
theorem d_MM_matches_192 : decode b_MM_matches 192 = .ok (.aload_n 0, 1) := by decide +kernel
theorem d_MM_matches_193 : decode b_MM_matches 193 = .ok (.getfield 71, 3) := by decide +kernel
theorem d_MM_matches_196 : decode b_MM_matches 196 = .ok (.iload 7, 2) := by decide +kernel
theorem d_MM_matches_198 : decode b_MM_matches 198 = .ok (.aload_n 0, 1) := by decide +kernel
theorem d_MM_matches_199 : decode b_MM_matches 199 = .ok (.getfield 74, 3) := by decide +kernel
theorem d_MM_matches_202 : decode b_MM_matches 202 = .ok (.iload 7, 2) := by decide +kernel
theorem d_MM_matches_204 : decode b_MM_matches 204 = .ok (.iaload, 1) := by decide +kernel
theorem d_MM_matches_205 : decode b_MM_matches 205 = .ok (.iastore, 1) := by decide +kernel
theorem d_MM_matches_206 : decode b_MM_matches 206 = .ok (.iinc 7 1, 3) := by decide +kernel
theorem d_MM_matches_209 : decode b_MM_matches 209 = .ok (.goto (-26), 3) := by decide +kernel
theorem d_MM_matches_212 : decode b_MM_matches 212 = .ok (.iinc 5 1, 3) := by decide +kernel
theorem d_MM_matches_215 : decode b_MM_matches 215 = .ok (.goto (-202), 3) := by decide +kernel
theorem d_MM_matches_218 : decode b_MM_matches 218 = .ok (.iconst 0, 1) := by decide +kernel
theorem d_MM_matches_219 : decode b_MM_matches 219 = .ok (.ireturn, 1) := by decide +kernel
theorem d_MM_fault_0 : decode b_MM_fault 0 = .ok (.aload_n 0, 1) := by decide +kernel
theorem d_MM_fault_1 : decode b_MM_fault 1 = .ok (.getfield 394, 3) := by decide +kernel
theorem d_MM_fault_4 : decode b_MM_fault 4 = .ok (.ifCond .eq 28, 3) := by decide +kernel
theorem d_MM_fault_7 : decode b_MM_fault 7 = .ok (.iload_n 2, 1) := by decide +kernel
theorem d_MM_fault_8 : decode b_MM_fault 8 = .ok (.aload_n 0, 1) := by decide +kernel
theorem d_MM_fault_9 : decode b_MM_fault 9 = .ok (.getfield 397, 3) := by decide +kernel
theorem d_MM_fault_12 : decode b_MM_fault 12 = .ok (.if_icmp .gt 19, 3) := by decide +kernel
theorem d_MM_fault_15 : decode b_MM_fault 15 = .ok (.iload_n 2, 1) := by decide +kernel
theorem d_MM_fault_16 : decode b_MM_fault 16 = .ok (.aload_n 0, 1) := by decide +kernel
theorem d_MM_fault_17 : decode b_MM_fault 17 = .ok (.getfield 397, 3) := by decide +kernel
theorem d_MM_fault_20 : decode b_MM_fault 20 = .ok (.if_icmp .ne 12, 3) := by decide +kernel
theorem d_MM_fault_23 : decode b_MM_fault 23 = .ok (.iload_n 1, 1) := by decide +kernel
theorem d_MM_fault_24 : decode b_MM_fault 24 = .ok (.aload_n 0, 1) := by decide +kernel
theorem d_MM_fault_25 : decode b_MM_fault 25 = .ok (.getfield 394, 3) := by decide +kernel
theorem d_MM_fault_28 : decode b_MM_fault 28 = .ok (.if_icmp .lt 4, 3) := by decide +kernel
theorem d_MM_fault_31 : decode b_MM_fault 31 = .ok (.return_, 1) := by decide +kernel
theorem d_MM_fault_32 : decode b_MM_fault 32 = .ok (.aload_n 0, 1) := by decide +kernel
theorem d_MM_fault_33 : decode b_MM_fault 33 = .ok (.iload_n 1, 1) := by decide +kernel
theorem d_MM_fault_34 : decode b_MM_fault 34 = .ok (.putfield 394, 3) := by decide +kernel
theorem d_MM_fault_37 : decode b_MM_fault 37 = .ok (.aload_n 0, 1) := by decide +kernel
theorem d_MM_fault_38 : decode b_MM_fault 38 = .ok (.iload_n 2, 1) := by decide +kernel
theorem d_MM_fault_39 : decode b_MM_fault 39 = .ok (.putfield 397, 3) := by decide +kernel
theorem d_MM_fault_42 : decode b_MM_fault 42 = .ok (.return_, 1) := by decide +kernel
theorem d_MT_is_0 : decode b_MT_is 0 = .ok (.aload_n 0, 1) := by decide +kernel
theorem d_MT_is_1 : decode b_MT_is 1 = .ok (.getfield 21, 3) := by decide +kernel
theorem d_MT_is_4 : decode b_MT_is 4 = .ok (.iload_n 1, 1) := by decide +kernel
theorem d_MT_is_5 : decode b_MT_is 5 = .ok (.iaload, 1) := by decide +kernel
theorem d_MT_is_6 : decode b_MT_is 6 = .ok (.aload_n 2, 1) := by decide +kernel
theorem d_MT_is_7 : decode b_MT_is 7 = .ok (.invokevirtual 93, 3) := by decide +kernel
theorem d_MT_is_10 : decode b_MT_is 10 = .ok (.if_icmp .eq 5, 3) := by decide +kernel
theorem d_MT_is_13 : decode b_MT_is 13 = .ok (.iconst 0, 1) := by decide +kernel
theorem d_MT_is_14 : decode b_MT_is 14 = .ok (.ireturn, 1) := by decide +kernel
theorem d_MT_is_15 : decode b_MT_is 15 = .ok (.iconst 0, 1) := by decide +kernel
theorem d_MT_is_16 : decode b_MT_is 16 = .ok (.istore_n 3, 1) := by decide +kernel
theorem d_MT_is_17 : decode b_MT_is 17 = .ok (.iload_n 3, 1) := by decide +kernel
theorem d_MT_is_18 : decode b_MT_is 18 = .ok (.aload_n 2, 1) := by decide +kernel
theorem d_MT_is_19 : decode b_MT_is 19 = .ok (.invokevirtual 93, 3) := by decide +kernel
theorem d_MT_is_22 : decode b_MT_is 22 = .ok (.if_icmp .ge 32, 3) := by decide +kernel
theorem d_MT_is_25 : decode b_MT_is 25 = .ok (.aload_n 0, 1) := by decide +kernel
theorem d_MT_is_26 : decode b_MT_is 26 = .ok (.getfield 42, 3) := by decide +kernel
theorem d_MT_is_29 : decode b_MT_is 29 = .ok (.aload_n 0, 1) := by decide +kernel
theorem d_MT_is_30 : decode b_MT_is 30 = .ok (.getfield 39, 3) := by decide +kernel
theorem d_MT_is_33 : decode b_MT_is 33 = .ok (.iload_n 1, 1) := by decide +kernel
theorem d_MT_is_34 : decode b_MT_is 34 = .ok (.iaload, 1) := by decide +kernel
theorem d_MT_is_35 : decode b_MT_is 35 = .ok (.iload_n 3, 1) := by decide +kernel
theorem d_MT_is_36 : decode b_MT_is 36 = .ok (.iadd, 1) := by decide +kernel
theorem d_MT_is_37 : decode b_MT_is 37 = .ok (.iaload, 1) := by decide +kernel
theorem d_MT_is_38 : decode b_MT_is 38 = .ok (.aload_n 2, 1) := by decide +kernel
theorem d_MT_is_39 : decode b_MT_is 39 = .ok (.iload_n 3, 1) := by decide +kernel
theorem d_MT_is_40 : decode b_MT_is 40 = .ok (.invokevirtual 99, 3) := by decide +kernel
theorem d_MT_is_43 : decode b_MT_is 43 = .ok (.if_icmp .eq 5, 3) := by decide +kernel
theorem d_MT_is_46 : decode b_MT_is 46 = .ok (.iconst 0, 1) := by decide +kernel
theorem d_MT_is_47 : decode b_MT_is 47 = .ok (.ireturn, 1) := by decide +kernel
theorem d_MT_is_48 : decode b_MT_is 48 = .ok (.iinc 3 1, 3) := by decide +kernel
theorem d_MT_is_51 : decode b_MT_is 51 = .ok (.goto (-34), 3) := by decide +kernel
theorem d_MT_is_54 : decode b_MT_is 54 = .ok (.iconst 1, 1) := by decide +kernel
theorem d_MT_is_55 : decode b_MT_is 55 = .ok (.ireturn, 1) := by decide +kernel
theorem d_MT_isWhole_0 : decode b_MT_isWhole 0 = .ok (.aload_n 0, 1) := by decide +kernel
theorem d_MT_isWhole_1 : decode b_MT_isWhole 1 = .ok (.getfield 15, 3) := by decide +kernel
theorem d_MT_isWhole_4 : decode b_MT_isWhole 4 = .ok (.iload_n 1, 1) := by decide +kernel
theorem d_MT_isWhole_5 : decode b_MT_isWhole 5 = .ok (.iaload, 1) := by decide +kernel
theorem d_MT_isWhole_6 : decode b_MT_isWhole 6 = .ok (.iconst 3, 1) := by decide +kernel
theorem d_MT_isWhole_7 : decode b_MT_isWhole 7 = .ok (.if_icmp .ne 16, 3) := by decide +kernel
theorem d_MT_isWhole_10 : decode b_MT_isWhole 10 = .ok (.aload_n 0, 1) := by decide +kernel
theorem d_MT_isWhole_11 : decode b_MT_isWhole 11 = .ok (.getfield 27, 3) := by decide +kernel
theorem d_MT_isWhole_14 : decode b_MT_isWhole 14 = .ok (.iload_n 1, 1) := by decide +kernel
theorem d_MT_isWhole_15 : decode b_MT_isWhole 15 = .ok (.iaload, 1) := by decide +kernel
theorem d_MT_isWhole_16 : decode b_MT_isWhole 16 = .ok (.ifCond .lt 7, 3) := by decide +kernel
theorem d_MT_isWhole_19 : decode b_MT_isWhole 19 = .ok (.iconst 1, 1) := by decide +kernel
theorem d_MT_isWhole_20 : decode b_MT_isWhole 20 = .ok (.goto 4, 3) := by decide +kernel
theorem d_MT_isWhole_23 : decode b_MT_isWhole 23 = .ok (.iconst 0, 1) := by decide +kernel
theorem d_MT_isWhole_24 : decode b_MT_isWhole 24 = .ok (.ireturn, 1) := by decide +kernel
theorem d_MM_intOf_0 : decode b_MM_intOf 0 = .ok (.aload_n 0, 1) := by decide +kernel
theorem d_MM_intOf_1 : decode b_MM_intOf 1 = .ok (.getfield 20, 3) := by decide +kernel
theorem d_MM_intOf_4 : decode b_MM_intOf 4 = .ok (.getfield 272, 3) := by decide +kernel
theorem d_MM_intOf_7 : decode b_MM_intOf 7 = .ok (.iload_n 1, 1) := by decide +kernel
theorem d_MM_intOf_8 : decode b_MM_intOf 8 = .ok (.iaload, 1) := by decide +kernel
theorem d_MM_intOf_9 : decode b_MM_intOf 9 = .ok (.aload_n 0, 1) := by decide +kernel
theorem d_MM_intOf_10 : decode b_MM_intOf 10 = .ok (.getfield 20, 3) := by decide +kernel
theorem d_MM_intOf_13 : decode b_MM_intOf 13 = .ok (.getfield 461, 3) := by decide +kernel
theorem d_MM_intOf_16 : decode b_MM_intOf 16 = .ok (.iload_n 1, 1) := by decide +kernel
theorem d_MM_intOf_17 : decode b_MM_intOf 17 = .ok (.iaload, 1) := by decide +kernel
theorem d_MM_intOf_18 : decode b_MM_intOf 18 = .ok (.iadd, 1) := by decide +kernel
theorem d_MM_intOf_19 : decode b_MM_intOf 19 = .ok (.bipush 7, 2) := by decide +kernel
theorem d_MM_intOf_21 : decode b_MM_intOf 21 = .ok (.if_icmp .le 7, 3) := by decide +kernel
theorem d_MM_intOf_24 : decode b_MM_intOf 24 = .ok (.ldc_w 464, 3) := by decide +kernel
theorem d_MM_intOf_27 : decode b_MM_intOf 27 = .ok (.ireturn, 1) := by decide +kernel
theorem d_MM_intOf_28 : decode b_MM_intOf 28 = .ok (.iconst 0, 1) := by decide +kernel
theorem d_MM_intOf_29 : decode b_MM_intOf 29 = .ok (.istore_n 2, 1) := by decide +kernel
theorem d_MM_intOf_30 : decode b_MM_intOf 30 = .ok (.iconst 0, 1) := by decide +kernel
theorem d_MM_intOf_31 : decode b_MM_intOf 31 = .ok (.istore_n 3, 1) := by decide +kernel
theorem d_MM_intOf_32 : decode b_MM_intOf 32 = .ok (.iload_n 3, 1) := by decide +kernel
theorem d_MM_intOf_33 : decode b_MM_intOf 33 = .ok (.aload_n 0, 1) := by decide +kernel
theorem d_MM_intOf_34 : decode b_MM_intOf 34 = .ok (.getfield 20, 3) := by decide +kernel
theorem d_MM_intOf_37 : decode b_MM_intOf 37 = .ok (.getfield 272, 3) := by decide +kernel
theorem d_MM_intOf_40 : decode b_MM_intOf 40 = .ok (.iload_n 1, 1) := by decide +kernel
theorem d_MM_intOf_41 : decode b_MM_intOf 41 = .ok (.iaload, 1) := by decide +kernel
theorem d_MM_intOf_42 : decode b_MM_intOf 42 = .ok (.aload_n 0, 1) := by decide +kernel
theorem d_MM_intOf_43 : decode b_MM_intOf 43 = .ok (.getfield 20, 3) := by decide +kernel
theorem d_MM_intOf_46 : decode b_MM_intOf 46 = .ok (.getfield 461, 3) := by decide +kernel
theorem d_MM_intOf_49 : decode b_MM_intOf 49 = .ok (.iload_n 1, 1) := by decide +kernel
theorem d_MM_intOf_50 : decode b_MM_intOf 50 = .ok (.iaload, 1) := by decide +kernel
theorem d_MM_intOf_51 : decode b_MM_intOf 51 = .ok (.iadd, 1) := by decide +kernel
theorem d_MM_intOf_52 : decode b_MM_intOf 52 = .ok (.if_icmp .ge 51, 3) := by decide +kernel
theorem d_MM_intOf_55 : decode b_MM_intOf 55 = .ok (.bipush 10, 2) := by decide +kernel
theorem d_MM_intOf_57 : decode b_MM_intOf 57 = .ok (.iload_n 2, 1) := by decide +kernel
theorem d_MM_intOf_58 : decode b_MM_intOf 58 = .ok (.imul, 1) := by decide +kernel
theorem d_MM_intOf_59 : decode b_MM_intOf 59 = .ok (.iload_n 3, 1) := by decide +kernel
theorem d_MM_intOf_60 : decode b_MM_intOf 60 = .ok (.aload_n 0, 1) := by decide +kernel
theorem d_MM_intOf_61 : decode b_MM_intOf 61 = .ok (.getfield 20, 3) := by decide +kernel
theorem d_MM_intOf_64 : decode b_MM_intOf 64 = .ok (.getfield 272, 3) := by decide +kernel
theorem d_MM_intOf_67 : decode b_MM_intOf 67 = .ok (.iload_n 1, 1) := by decide +kernel
theorem d_MM_intOf_68 : decode b_MM_intOf 68 = .ok (.iaload, 1) := by decide +kernel
theorem d_MM_intOf_69 : decode b_MM_intOf 69 = .ok (.if_icmp .ge 25, 3) := by decide +kernel
theorem d_MM_intOf_72 : decode b_MM_intOf 72 = .ok (.aload_n 0, 1) := by decide +kernel
theorem d_MM_intOf_73 : decode b_MM_intOf 73 = .ok (.getfield 20, 3) := by decide +kernel
theorem d_MM_intOf_76 : decode b_MM_intOf 76 = .ok (.getfield 465, 3) := by decide +kernel
theorem d_MM_intOf_79 : decode b_MM_intOf 79 = .ok (.aload_n 0, 1) := by decide +kernel
theorem d_MM_intOf_80 : decode b_MM_intOf 80 = .ok (.getfield 20, 3) := by decide +kernel
theorem d_MM_intOf_83 : decode b_MM_intOf 83 = .ok (.getfield 269, 3) := by decide +kernel
theorem d_MM_intOf_86 : decode b_MM_intOf 86 = .ok (.iload_n 1, 1) := by decide +kernel
theorem d_MM_intOf_87 : decode b_MM_intOf 87 = .ok (.iaload, 1) := by decide +kernel
theorem d_MM_intOf_88 : decode b_MM_intOf 88 = .ok (.iload_n 3, 1) := by decide +kernel
theorem d_MM_intOf_89 : decode b_MM_intOf 89 = .ok (.iadd, 1) := by decide +kernel
theorem d_MM_intOf_90 : decode b_MM_intOf 90 = .ok (.iaload, 1) := by decide +kernel
theorem d_MM_intOf_91 : decode b_MM_intOf 91 = .ok (.goto 4, 3) := by decide +kernel
theorem d_MM_intOf_94 : decode b_MM_intOf 94 = .ok (.iconst 0, 1) := by decide +kernel
theorem d_MM_intOf_95 : decode b_MM_intOf 95 = .ok (.iadd, 1) := by decide +kernel
theorem d_MM_intOf_96 : decode b_MM_intOf 96 = .ok (.istore_n 2, 1) := by decide +kernel
theorem d_MM_intOf_97 : decode b_MM_intOf 97 = .ok (.iinc 3 1, 3) := by decide +kernel
theorem d_MM_intOf_100 : decode b_MM_intOf 100 = .ok (.goto (-68), 3) := by decide +kernel
theorem d_MM_intOf_103 : decode b_MM_intOf 103 = .ok (.iload_n 2, 1) := by decide +kernel
theorem d_MM_intOf_104 : decode b_MM_intOf 104 = .ok (.ireturn, 1) := by decide +kernel
theorem d_MM_isName_0 : decode b_MM_isName 0 = .ok (.iload_n 0, 1) := by decide +kernel
theorem d_MM_isName_1 : decode b_MM_isName 1 = .ok (.bipush 97, 2) := by decide +kernel
theorem d_MM_isName_3 : decode b_MM_isName 3 = .ok (.bipush 122, 2) := by decide +kernel
theorem d_MM_isName_5 : decode b_MM_isName 5 = .ok (.invokestatic 344, 3) := by decide +kernel
theorem d_MM_isName_8 : decode b_MM_isName 8 = .ok (.ifCond .ne 47, 3) := by decide +kernel
theorem d_MM_isName_11 : decode b_MM_isName 11 = .ok (.iload_n 0, 1) := by decide +kernel
theorem d_MM_isName_12 : decode b_MM_isName 12 = .ok (.bipush 65, 2) := by decide +kernel
theorem d_MM_isName_14 : decode b_MM_isName 14 = .ok (.bipush 90, 2) := by decide +kernel
theorem d_MM_isName_16 : decode b_MM_isName 16 = .ok (.invokestatic 344, 3) := by decide +kernel
theorem d_MM_isName_19 : decode b_MM_isName 19 = .ok (.ifCond .ne 36, 3) := by decide +kernel
theorem d_MM_isName_22 : decode b_MM_isName 22 = .ok (.iload_n 0, 1) := by decide +kernel
theorem d_MM_isName_23 : decode b_MM_isName 23 = .ok (.bipush 95, 2) := by decide +kernel
theorem d_MM_isName_25 : decode b_MM_isName 25 = .ok (.if_icmp .eq 30, 3) := by decide +kernel
theorem d_MM_isName_28 : decode b_MM_isName 28 = .ok (.iload_n 1, 1) := by decide +kernel
theorem d_MM_isName_29 : decode b_MM_isName 29 = .ok (.ifCond .ne 30, 3) := by decide +kernel
theorem d_MM_isName_32 : decode b_MM_isName 32 = .ok (.iload_n 0, 1) := by decide +kernel
theorem d_MM_isName_33 : decode b_MM_isName 33 = .ok (.bipush 48, 2) := by decide +kernel
theorem d_MM_isName_35 : decode b_MM_isName 35 = .ok (.bipush 57, 2) := by decide +kernel
theorem d_MM_isName_37 : decode b_MM_isName 37 = .ok (.invokestatic 344, 3) := by decide +kernel
theorem d_MM_isName_40 : decode b_MM_isName 40 = .ok (.ifCond .ne 15, 3) := by decide +kernel
theorem d_MM_isName_43 : decode b_MM_isName 43 = .ok (.iload_n 0, 1) := by decide +kernel
theorem d_MM_isName_44 : decode b_MM_isName 44 = .ok (.bipush 45, 2) := by decide +kernel
theorem d_MM_isName_46 : decode b_MM_isName 46 = .ok (.if_icmp .eq 9, 3) := by decide +kernel
theorem d_MM_isName_49 : decode b_MM_isName 49 = .ok (.iload_n 0, 1) := by decide +kernel
theorem d_MM_isName_50 : decode b_MM_isName 50 = .ok (.bipush 46, 2) := by decide +kernel
theorem d_MM_isName_52 : decode b_MM_isName 52 = .ok (.if_icmp .ne 7, 3) := by decide +kernel
theorem d_MM_isName_55 : decode b_MM_isName 55 = .ok (.iconst 1, 1) := by decide +kernel
theorem d_MM_isName_56 : decode b_MM_isName 56 = .ok (.goto 4, 3) := by decide +kernel
theorem d_MM_isName_59 : decode b_MM_isName 59 = .ok (.iconst 0, 1) := by decide +kernel
theorem d_MM_isName_60 : decode b_MM_isName 60 = .ok (.ireturn, 1) := by decide +kernel
theorem d_MM_anchor_0 : decode b_MM_anchor 0 = .ok (.aload_n 0, 1) := by decide +kernel
theorem d_MM_anchor_1 : decode b_MM_anchor 1 = .ok (.getfield 20, 3) := by decide +kernel
theorem d_MM_anchor_4 : decode b_MM_anchor 4 = .ok (.getfield 419, 3) := by decide +kernel
theorem d_MM_anchor_7 : decode b_MM_anchor 7 = .ok (.iload_n 1, 1) := by decide +kernel
theorem d_MM_anchor_8 : decode b_MM_anchor 8 = .ok (.iaload, 1) := by decide +kernel
theorem d_MM_anchor_9 : decode b_MM_anchor 9 = .ok (.iconst 4, 1) := by decide +kernel
theorem d_MM_anchor_10 : decode b_MM_anchor 10 = .ok (.if_icmp .ne 19, 3) := by decide +kernel
theorem d_MM_anchor_13 : decode b_MM_anchor 13 = .ok (.aload_n 0, 1) := by decide +kernel
theorem d_MM_anchor_14 : decode b_MM_anchor 14 = .ok (.getfield 20, 3) := by decide +kernel
theorem d_MM_anchor_17 : decode b_MM_anchor 17 = .ok (.getfield 272, 3) := by decide +kernel
theorem d_MM_anchor_20 : decode b_MM_anchor 20 = .ok (.iload_n 1, 1) := by decide +kernel
theorem d_MM_anchor_21 : decode b_MM_anchor 21 = .ok (.iaload, 1) := by decide +kernel
theorem d_MM_anchor_22 : decode b_MM_anchor 22 = .ok (.ifCond .le 7, 3) := by decide +kernel
theorem d_MM_anchor_25 : decode b_MM_anchor 25 = .ok (.iconst 1, 1) := by decide +kernel
theorem d_MM_anchor_26 : decode b_MM_anchor 26 = .ok (.goto 4, 3) := by decide +kernel
theorem d_MM_anchor_29 : decode b_MM_anchor 29 = .ok (.iconst 0, 1) := by decide +kernel
theorem d_MM_anchor_30 : decode b_MM_anchor 30 = .ok (.istore_n 3, 1) := by decide +kernel
theorem d_MM_anchor_31 : decode b_MM_anchor 31 = .ok (.iconst 0, 1) := by decide +kernel
theorem d_MM_anchor_32 : decode b_MM_anchor 32 = .ok (.istore 4, 2) := by decide +kernel
theorem d_MM_anchor_34 : decode b_MM_anchor 34 = .ok (.iload_n 3, 1) := by decide +kernel
theorem d_MM_anchor_35 : decode b_MM_anchor 35 = .ok (.ifCond .eq 57, 3) := by decide +kernel
theorem d_MM_anchor_38 : decode b_MM_anchor 38 = .ok (.iload 4, 2) := by decide +kernel
theorem d_MM_anchor_40 : decode b_MM_anchor 40 = .ok (.aload_n 0, 1) := by decide +kernel
theorem d_MM_anchor_41 : decode b_MM_anchor 41 = .ok (.getfield 20, 3) := by decide +kernel
theorem d_MM_anchor_44 : decode b_MM_anchor 44 = .ok (.getfield 272, 3) := by decide +kernel
theorem d_MM_anchor_47 : decode b_MM_anchor 47 = .ok (.iload_n 1, 1) := by decide +kernel
theorem d_MM_anchor_48 : decode b_MM_anchor 48 = .ok (.iaload, 1) := by decide +kernel
theorem d_MM_anchor_49 : decode b_MM_anchor 49 = .ok (.if_icmp .ge 43, 3) := by decide +kernel
theorem d_MM_anchor_52 : decode b_MM_anchor 52 = .ok (.aload_n 0, 1) := by decide +kernel
theorem d_MM_anchor_53 : decode b_MM_anchor 53 = .ok (.getfield 20, 3) := by decide +kernel
theorem d_MM_anchor_56 : decode b_MM_anchor 56 = .ok (.getfield 263, 3) := by decide +kernel
theorem d_MM_anchor_59 : decode b_MM_anchor 59 = .ok (.aload_n 0, 1) := by decide +kernel
theorem d_MM_anchor_60 : decode b_MM_anchor 60 = .ok (.getfield 20, 3) := by decide +kernel
theorem d_MM_anchor_63 : decode b_MM_anchor 63 = .ok (.getfield 269, 3) := by decide +kernel
theorem d_MM_anchor_66 : decode b_MM_anchor 66 = .ok (.iload_n 1, 1) := by decide +kernel
theorem d_MM_anchor_67 : decode b_MM_anchor 67 = .ok (.iaload, 1) := by decide +kernel
theorem d_MM_anchor_68 : decode b_MM_anchor 68 = .ok (.iload 4, 2) := by decide +kernel
theorem d_MM_anchor_70 : decode b_MM_anchor 70 = .ok (.iadd, 1) := by decide +kernel
theorem d_MM_anchor_71 : decode b_MM_anchor 71 = .ok (.iaload, 1) := by decide +kernel
theorem d_MM_anchor_72 : decode b_MM_anchor 72 = .ok (.iload 4, 2) := by decide +kernel
theorem d_MM_anchor_74 : decode b_MM_anchor 74 = .ok (.ifCond .ne 7, 3) := by decide +kernel
theorem d_MM_anchor_77 : decode b_MM_anchor 77 = .ok (.iconst 1, 1) := by decide +kernel
theorem d_MM_anchor_78 : decode b_MM_anchor 78 = .ok (.goto 4, 3) := by decide +kernel
theorem d_MM_anchor_81 : decode b_MM_anchor 81 = .ok (.iconst 0, 1) := by decide +kernel
theorem d_MM_anchor_82 : decode b_MM_anchor 82 = .ok (.invokestatic 475, 3) := by decide +kernel
theorem d_MM_anchor_85 : decode b_MM_anchor 85 = .ok (.istore_n 3, 1) := by decide +kernel
theorem d_MM_anchor_86 : decode b_MM_anchor 86 = .ok (.iinc 4 1, 3) := by decide +kernel
theorem d_MM_anchor_89 : decode b_MM_anchor 89 = .ok (.goto (-55), 3) := by decide +kernel
theorem d_MM_anchor_92 : decode b_MM_anchor 92 = .ok (.iload_n 3, 1) := by decide +kernel
theorem d_MM_anchor_93 : decode b_MM_anchor 93 = .ok (.ifCond .ne 10, 3) := by decide +kernel
theorem d_MM_anchor_96 : decode b_MM_anchor 96 = .ok (.aload_n 0, 1) := by decide +kernel
theorem d_MM_anchor_97 : decode b_MM_anchor 97 = .ok (.iconst 1, 1) := by decide +kernel
theorem d_MM_anchor_98 : decode b_MM_anchor 98 = .ok (.iload_n 1, 1) := by decide +kernel
theorem d_MM_anchor_99 : decode b_MM_anchor 99 = .ok (.invokevirtual 412, 3) := by decide +kernel
theorem d_MM_anchor_102 : decode b_MM_anchor 102 = .ok (.return_, 1) := by decide +kernel
theorem d_MM_anchor_103 : decode b_MM_anchor 103 = .ok (.iconst 0, 1) := by decide +kernel
theorem d_MM_anchor_104 : decode b_MM_anchor 104 = .ok (.istore 4, 2) := by decide +kernel
theorem d_MM_anchor_106 : decode b_MM_anchor 106 = .ok (.iload 4, 2) := by decide +kernel
theorem d_MM_anchor_108 : decode b_MM_anchor 108 = .ok (.aload_n 0, 1) := by decide +kernel
theorem d_MM_anchor_109 : decode b_MM_anchor 109 = .ok (.getfield 400, 3) := by decide +kernel
theorem d_MM_anchor_112 : decode b_MM_anchor 112 = .ok (.if_icmp .ge 38, 3) := by decide +kernel
theorem d_MM_anchor_115 : decode b_MM_anchor 115 = .ok (.aload_n 0, 1) := by decide +kernel
theorem d_MM_anchor_116 : decode b_MM_anchor 116 = .ok (.getfield 20, 3) := by decide +kernel
theorem d_MM_anchor_119 : decode b_MM_anchor 119 = .ok (.iload_n 1, 1) := by decide +kernel
theorem d_MM_anchor_120 : decode b_MM_anchor 120 = .ok (.aload_n 0, 1) := by decide +kernel
theorem d_MM_anchor_121 : decode b_MM_anchor 121 = .ok (.getfield 20, 3) := by decide +kernel
theorem d_MM_anchor_124 : decode b_MM_anchor 124 = .ok (.aload_n 0, 1) := by decide +kernel
theorem d_MM_anchor_125 : decode b_MM_anchor 125 = .ok (.getfield 200, 3) := by decide +kernel
theorem d_MM_anchor_128 : decode b_MM_anchor 128 = .ok (.iload 4, 2) := by decide +kernel
theorem d_MM_anchor_130 : decode b_MM_anchor 130 = .ok (.iaload, 1) := by decide +kernel
theorem d_MM_anchor_131 : decode b_MM_anchor 131 = .ok (.invokevirtual 468, 3) := by decide +kernel
theorem d_MM_anchor_134 : decode b_MM_anchor 134 = .ok (.ifCond .eq 10, 3) := by decide +kernel
theorem d_MM_anchor_137 : decode b_MM_anchor 137 = .ok (.aload_n 0, 1) := by decide +kernel
theorem d_MM_anchor_138 : decode b_MM_anchor 138 = .ok (.iconst 3, 1) := by decide +kernel
theorem d_MM_anchor_139 : decode b_MM_anchor 139 = .ok (.iload_n 1, 1) := by decide +kernel
theorem d_MM_anchor_140 : decode b_MM_anchor 140 = .ok (.invokevirtual 412, 3) := by decide +kernel
theorem d_MM_anchor_143 : decode b_MM_anchor 143 = .ok (.return_, 1) := by decide +kernel
theorem d_MM_anchor_144 : decode b_MM_anchor 144 = .ok (.iinc 4 1, 3) := by decide +kernel
theorem d_MM_anchor_147 : decode b_MM_anchor 147 = .ok (.goto (-41), 3) := by decide +kernel
theorem d_MM_anchor_150 : decode b_MM_anchor 150 = .ok (.aload_n 0, 1) := by decide +kernel
theorem d_MM_anchor_151 : decode b_MM_anchor 151 = .ok (.getfield 200, 3) := by decide +kernel
theorem d_MM_anchor_154 : decode b_MM_anchor 154 = .ok (.aload_n 0, 1) := by decide +kernel
theorem d_MM_anchor_155 : decode b_MM_anchor 155 = .ok (.getfield 400, 3) := by decide +kernel
theorem d_MM_anchor_158 : decode b_MM_anchor 158 = .ok (.iload_n 1, 1) := by decide +kernel
theorem d_MM_anchor_159 : decode b_MM_anchor 159 = .ok (.iastore, 1) := by decide +kernel
theorem d_MM_anchor_160 : decode b_MM_anchor 160 = .ok (.aload_n 0, 1) := by decide +kernel
theorem d_MM_anchor_161 : decode b_MM_anchor 161 = .ok (.getfield 203, 3) := by decide +kernel
theorem d_MM_anchor_164 : decode b_MM_anchor 164 = .ok (.aload_n 0, 1) := by decide +kernel
theorem d_MM_anchor_165 : decode b_MM_anchor 165 = .ok (.dup, 1) := by decide +kernel
theorem d_MM_anchor_166 : decode b_MM_anchor 166 = .ok (.getfield 400, 3) := by decide +kernel
theorem d_MM_anchor_169 : decode b_MM_anchor 169 = .ok (.dup_x1, 1) := by decide +kernel
theorem d_MM_anchor_170 : decode b_MM_anchor 170 = .ok (.iconst 1, 1) := by decide +kernel
theorem d_MM_anchor_171 : decode b_MM_anchor 171 = .ok (.iadd, 1) := by decide +kernel
theorem d_MM_anchor_172 : decode b_MM_anchor 172 = .ok (.putfield 400, 3) := by decide +kernel
theorem d_MM_anchor_175 : decode b_MM_anchor 175 = .ok (.iload_n 2, 1) := by decide +kernel
theorem d_MM_anchor_176 : decode b_MM_anchor 176 = .ok (.iastore, 1) := by decide +kernel
theorem d_MM_anchor_177 : decode b_MM_anchor 177 = .ok (.return_, 1) := by decide +kernel
theorem d_MM_typeOf_0 : decode b_MM_typeOf 0 = .ok (.iconst 0, 1) := by decide +kernel
theorem d_MM_typeOf_1 : decode b_MM_typeOf 1 = .ok (.istore_n 2, 1) := by decide +kernel
theorem d_MM_typeOf_2 : decode b_MM_typeOf 2 = .ok (.iload_n 2, 1) := by decide +kernel
theorem d_MM_typeOf_3 : decode b_MM_typeOf 3 = .ok (.aload_n 0, 1) := by decide +kernel
theorem d_MM_typeOf_4 : decode b_MM_typeOf 4 = .ok (.getfield 188, 3) := by decide +kernel
theorem d_MM_typeOf_7 : decode b_MM_typeOf 7 = .ok (.arraylength, 1) := by decide +kernel
theorem d_MM_typeOf_8 : decode b_MM_typeOf 8 = .ok (.if_icmp .ge 41, 3) := by decide +kernel
theorem d_MM_typeOf_11 : decode b_MM_typeOf 11 = .ok (.aload_n 0, 1) := by decide +kernel
theorem d_MM_typeOf_12 : decode b_MM_typeOf 12 = .ok (.getfield 20, 3) := by decide +kernel
theorem d_MM_typeOf_15 : decode b_MM_typeOf 15 = .ok (.getfield 419, 3) := by decide +kernel
theorem d_MM_typeOf_18 : decode b_MM_typeOf 18 = .ok (.iload_n 1, 1) := by decide +kernel
theorem d_MM_typeOf_19 : decode b_MM_typeOf 19 = .ok (.iaload, 1) := by decide +kernel
