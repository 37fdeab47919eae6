theorem q_639 : Cond.classLink RL 227 RJ4 ∈ lwA := mA 639 (by decide +kernel) rfl
theorem q_643 : Cond.code yJ4_init_da8c8 cJ4_init_da8c8 1 none ∈ lwA := mA 643 (by decide +kernel) rfl
theorem q_641 : Cond.methodLink RL 229 yJ4_init_da8c8 ∈ lwA := mA 641 (by decide +kernel) rfl
theorem q_642 : Cond.instanceMethod yJ4_init_da8c8 ∈ lwA := mA 642 (by decide +kernel) rfl
theorem q_672 : Cond.selects "java/lang/StringBuilder" yJ4_append_15ec4 yJ4_append_15ec4 ∈ lwA := mA 672 (by decide +kernel) rfl
theorem q_673 : Cond.code yJ4_append_15ec4 cJ4_append_15ec4 2 (some (.object "java/lang/StringBuilder")) ∈ lwA := mA 673 (by decide +kernel) rfl
theorem q_670 : Cond.methodLink RL 232 yJ4_append_15ec4 ∈ lwA := mA 670 (by decide +kernel) rfl
theorem q_671 : Cond.instanceMethod yJ4_append_15ec4 ∈ lwA := mA 671 (by decide +kernel) rfl
theorem q_779 : Cond.selects "java/lang/StringBuilder" yJ4_append_bf812 yJ4_append_bf812 ∈ lwA := mA 779 (by decide +kernel) rfl
theorem q_780 : Cond.code yJ4_append_bf812 cJ4_append_bf812 2 (some (.object "java/lang/StringBuilder")) ∈ lwA := mA 780 (by decide +kernel) rfl
theorem q_777 : Cond.methodLink RL 237 yJ4_append_bf812 ∈ lwA := mA 777 (by decide +kernel) rfl
theorem q_778 : Cond.instanceMethod yJ4_append_bf812 ∈ lwA := mA 778 (by decide +kernel) rfl
theorem q_806 : Cond.selects "java/lang/StringBuilder" yJ4_toString_0e30d yJ4_toString_0e30d ∈ lwA := mA 806 (by decide +kernel) rfl
theorem q_807 : Cond.code yJ4_toString_0e30d cJ4_toString_0e30d 1 (some (.object "java/lang/String")) ∈ lwA := mA 807 (by decide +kernel) rfl
theorem q_804 : Cond.methodLink RL 244 yJ4_toString_0e30d ∈ lwA := mA 804 (by decide +kernel) rfl
theorem q_805 : Cond.instanceMethod yJ4_toString_0e30d ∈ lwA := mA 805 (by decide +kernel) rfl
theorem q_866 : Cond.code yL_reads cL_reads 5 (some .int) ∈ lwA := mA 866 (by decide +kernel) rfl
theorem q_864 : Cond.methodLink RL 248 yL_reads ∈ lwA := mA 864 (by decide +kernel) rfl
theorem q_865 : Cond.static yL_reads ∈ lwA := mA 865 (by decide +kernel) rfl
theorem dL_does_0 : decode cL_does 0 = .ok (.aload_n 0, 1) := by decide +kernel
theorem dL_does_1 : decode cL_does 1 = .ok (.iload_n 1, 1) := by decide +kernel
theorem dL_does_2 : decode cL_does 2 = .ok (.iconst 1, 1) := by decide +kernel
theorem dL_does_3 : decode cL_does 3 = .ok (.iadd, 1) := by decide +kernel
theorem dL_does_4 : decode cL_does 4 = .ok (.sipush 1000, 3) := by decide +kernel
theorem dL_does_7 : decode cL_does 7 = .ok (.invokestatic 191, 3) := by decide +kernel
theorem dL_does_10 : decode cL_does 10 = .ok (.istore 7, 2) := by decide +kernel
theorem dL_does_12 : decode cL_does 12 = .ok (.bipush 6, 2) := by decide +kernel
theorem dL_does_14 : decode cL_does 14 = .ok (.anewarray 160, 3) := by decide +kernel
theorem dL_does_17 : decode cL_does 17 = .ok (.dup, 1) := by decide +kernel
theorem dL_does_18 : decode cL_does 18 = .ok (.iconst 0, 1) := by decide +kernel
theorem dL_does_19 : decode cL_does 19 = .ok (.ldc 215, 2) := by decide +kernel
theorem dL_does_21 : decode cL_does 21 = .ok (.aastore, 1) := by decide +kernel
theorem dL_does_22 : decode cL_does 22 = .ok (.dup, 1) := by decide +kernel
theorem dL_does_23 : decode cL_does 23 = .ok (.iconst 1, 1) := by decide +kernel
theorem dL_does_24 : decode cL_does 24 = .ok (.ldc 217, 2) := by decide +kernel
theorem dL_does_26 : decode cL_does 26 = .ok (.aastore, 1) := by decide +kernel
theorem dL_does_27 : decode cL_does 27 = .ok (.dup, 1) := by decide +kernel
theorem dL_does_28 : decode cL_does 28 = .ok (.iconst 2, 1) := by decide +kernel
theorem dL_does_29 : decode cL_does 29 = .ok (.ldc 219, 2) := by decide +kernel
theorem dL_does_31 : decode cL_does 31 = .ok (.aastore, 1) := by decide +kernel
theorem dL_does_32 : decode cL_does 32 = .ok (.dup, 1) := by decide +kernel
theorem dL_does_33 : decode cL_does 33 = .ok (.iconst 3, 1) := by decide +kernel
theorem dL_does_34 : decode cL_does 34 = .ok (.ldc 221, 2) := by decide +kernel
theorem dL_does_36 : decode cL_does 36 = .ok (.aastore, 1) := by decide +kernel
theorem dL_does_37 : decode cL_does 37 = .ok (.dup, 1) := by decide +kernel
theorem dL_does_38 : decode cL_does 38 = .ok (.iconst 4, 1) := by decide +kernel
theorem dL_does_39 : decode cL_does 39 = .ok (.ldc 223, 2) := by decide +kernel
theorem dL_does_41 : decode cL_does 41 = .ok (.aastore, 1) := by decide +kernel
theorem dL_does_42 : decode cL_does 42 = .ok (.dup, 1) := by decide +kernel
theorem dL_does_43 : decode cL_does 43 = .ok (.iconst 5, 1) := by decide +kernel
theorem dL_does_44 : decode cL_does 44 = .ok (.ldc 225, 2) := by decide +kernel
theorem dL_does_46 : decode cL_does 46 = .ok (.aastore, 1) := by decide +kernel
theorem dL_does_47 : decode cL_does 47 = .ok (.astore 8, 2) := by decide +kernel
theorem dL_does_49 : decode cL_does 49 = .ok (.iload_n 2, 1) := by decide +kernel
theorem dL_does_50 : decode cL_does 50 = .ok (.tableswitch 357 0 29 #[134, 134, 134, 134, 205, 219, 252, 266, 287, 287, 292, 292, 292, 292, 292, 292, 305, 305, 305, 305, 316, 323, 323, 332, 341, 348, 348, 348, 348, 348], 134) := by decide +kernel
theorem dL_does_184 : decode cL_does 184 = .ok (.aload_n 3, 1) := by decide +kernel
theorem dL_does_185 : decode cL_does 185 = .ok (.new 227, 3) := by decide +kernel
theorem dL_does_188 : decode cL_does 188 = .ok (.dup, 1) := by decide +kernel
theorem dL_does_189 : decode cL_does 189 = .ok (.invokespecial 229, 3) := by decide +kernel
theorem dL_does_192 : decode cL_does 192 = .ok (.ldc 230, 2) := by decide +kernel
theorem dL_does_194 : decode cL_does 194 = .ok (.invokevirtual 232, 3) := by decide +kernel
theorem dL_does_197 : decode cL_does 197 = .ok (.aload 8, 2) := by decide +kernel
theorem dL_does_199 : decode cL_does 199 = .ok (.iload 7, 2) := by decide +kernel
theorem dL_does_201 : decode cL_does 201 = .ok (.bipush 6, 2) := by decide +kernel
theorem dL_does_203 : decode cL_does 203 = .ok (.irem, 1) := by decide +kernel
theorem dL_does_204 : decode cL_does 204 = .ok (.aaload, 1) := by decide +kernel
theorem dL_does_205 : decode cL_does 205 = .ok (.invokevirtual 232, 3) := by decide +kernel
theorem dL_does_208 : decode cL_does 208 = .ok (.ldc 235, 2) := by decide +kernel
theorem dL_does_210 : decode cL_does 210 = .ok (.invokevirtual 232, 3) := by decide +kernel
theorem dL_does_213 : decode cL_does 213 = .ok (.iload 7, 2) := by decide +kernel
theorem dL_does_215 : decode cL_does 215 = .ok (.iconst 5, 1) := by decide +kernel
theorem dL_does_216 : decode cL_does 216 = .ok (.irem, 1) := by decide +kernel
theorem dL_does_217 : decode cL_does 217 = .ok (.invokevirtual 237, 3) := by decide +kernel
theorem dL_does_220 : decode cL_does 220 = .ok (.ldc 240, 2) := by decide +kernel
theorem dL_does_222 : decode cL_does 222 = .ok (.invokevirtual 232, 3) := by decide +kernel
theorem dL_does_225 : decode cL_does 225 = .ok (.iload 7, 2) := by decide +kernel
theorem dL_does_227 : decode cL_does 227 = .ok (.iconst 1, 1) := by decide +kernel
theorem dL_does_228 : decode cL_does 228 = .ok (.iadd, 1) := by decide +kernel
theorem dL_does_229 : decode cL_does 229 = .ok (.iconst 5, 1) := by decide +kernel
theorem dL_does_230 : decode cL_does 230 = .ok (.irem, 1) := by decide +kernel
theorem dL_does_231 : decode cL_does 231 = .ok (.invokevirtual 237, 3) := by decide +kernel
theorem dL_does_234 : decode cL_does 234 = .ok (.ldc 242, 2) := by decide +kernel
theorem dL_does_236 : decode cL_does 236 = .ok (.invokevirtual 232, 3) := by decide +kernel
theorem dL_does_239 : decode cL_does 239 = .ok (.iconst 1, 1) := by decide +kernel
theorem dL_does_240 : decode cL_does 240 = .ok (.iload 7, 2) := by decide +kernel
theorem dL_does_242 : decode cL_does 242 = .ok (.iconst 3, 1) := by decide +kernel
theorem dL_does_243 : decode cL_does 243 = .ok (.irem, 1) := by decide +kernel
theorem dL_does_244 : decode cL_does 244 = .ok (.iadd, 1) := by decide +kernel
theorem dL_does_245 : decode cL_does 245 = .ok (.invokevirtual 237, 3) := by decide +kernel
theorem dL_does_248 : decode cL_does 248 = .ok (.invokevirtual 244, 3) := by decide +kernel
theorem dL_does_251 : decode cL_does 251 = .ok (.invokestatic 248, 3) := by decide +kernel
theorem dL_does_254 : decode cL_does 254 = .ok (.ireturn, 1) := by decide +kernel
theorem dL_does_255 : decode cL_does 255 = .ok (.aload_n 3, 1) := by decide +kernel
theorem dL_does_256 : decode cL_does 256 = .ok (.bipush 97, 2) := by decide +kernel
theorem dL_does_258 : decode cL_does 258 = .ok (.iload 7, 2) := by decide +kernel
theorem dL_does_260 : decode cL_does 260 = .ok (.bipush 21, 2) := by decide +kernel
theorem dL_does_262 : decode cL_does 262 = .ok (.irem, 1) := by decide +kernel
theorem dL_does_263 : decode cL_does 263 = .ok (.iadd, 1) := by decide +kernel
theorem dL_does_264 : decode cL_does 264 = .ok (.i2c, 1) := by decide +kernel
theorem dL_does_265 : decode cL_does 265 = .ok (.invokestatic 252, 3) := by decide +kernel
theorem dL_does_268 : decode cL_does 268 = .ok (.ireturn, 1) := by decide +kernel
theorem dL_does_269 : decode cL_does 269 = .ok (.iload 7, 2) := by decide +kernel
theorem dL_does_271 : decode cL_does 271 = .ok (.iconst 3, 1) := by decide +kernel
theorem dL_does_272 : decode cL_does 272 = .ok (.irem, 1) := by decide +kernel
theorem dL_does_273 : decode cL_does 273 = .ok (.ifCond .ne 10, 3) := by decide +kernel
theorem dL_does_276 : decode cL_does 276 = .ok (.aload_n 3, 1) := by decide +kernel
theorem dL_does_277 : decode cL_does 277 = .ok (.invokestatic 255, 3) := by decide +kernel
theorem dL_does_280 : decode cL_does 280 = .ok (.goto 21, 3) := by decide +kernel
theorem dL_does_283 : decode cL_does 283 = .ok (.aload_n 3, 1) := by decide +kernel
theorem dL_does_284 : decode cL_does 284 = .ok (.iload 7, 2) := by decide +kernel
theorem dL_does_286 : decode cL_does 286 = .ok (.iconst 5, 1) := by decide +kernel
theorem dL_does_287 : decode cL_does 287 = .ok (.irem, 1) := by decide +kernel
theorem dL_does_288 : decode cL_does 288 = .ok (.iload 7, 2) := by decide +kernel
theorem dL_does_290 : decode cL_does 290 = .ok (.iconst 5, 1) := by decide +kernel
theorem dL_does_291 : decode cL_does 291 = .ok (.idiv, 1) := by decide +kernel
theorem dL_does_292 : decode cL_does 292 = .ok (.iconst 5, 1) := by decide +kernel
theorem dL_does_293 : decode cL_does 293 = .ok (.irem, 1) := by decide +kernel
theorem dL_does_294 : decode cL_does 294 = .ok (.iload 7, 2) := by decide +kernel
theorem dL_does_296 : decode cL_does 296 = .ok (.iconst 4, 1) := by decide +kernel
theorem dL_does_297 : decode cL_does 297 = .ok (.irem, 1) := by decide +kernel
theorem dL_does_298 : decode cL_does 298 = .ok (.invokestatic 257, 3) := by decide +kernel
theorem dL_does_301 : decode cL_does 301 = .ok (.ireturn, 1) := by decide +kernel
theorem dL_does_302 : decode cL_does 302 = .ok (.aload_n 3, 1) := by decide +kernel
theorem dL_does_303 : decode cL_does 303 = .ok (.iload 7, 2) := by decide +kernel
theorem dL_does_305 : decode cL_does 305 = .ok (.iconst 3, 1) := by decide +kernel
theorem dL_does_306 : decode cL_does 306 = .ok (.irem, 1) := by decide +kernel
theorem dL_does_307 : decode cL_does 307 = .ok (.iload 7, 2) := by decide +kernel
theorem dL_does_309 : decode cL_does 309 = .ok (.bipush 6, 2) := by decide +kernel
theorem dL_does_311 : decode cL_does 311 = .ok (.irem, 1) := by decide +kernel
theorem dL_does_312 : decode cL_does 312 = .ok (.invokestatic 260, 3) := by decide +kernel
theorem dL_does_315 : decode cL_does 315 = .ok (.ireturn, 1) := by decide +kernel
theorem dL_does_316 : decode cL_does 316 = .ok (.aload_n 3, 1) := by decide +kernel
theorem dL_does_317 : decode cL_does 317 = .ok (.iload 7, 2) := by decide +kernel
theorem dL_does_319 : decode cL_does 319 = .ok (.iconst 5, 1) := by decide +kernel
theorem dL_does_320 : decode cL_does 320 = .ok (.irem, 1) := by decide +kernel
theorem dL_does_321 : decode cL_does 321 = .ok (.iload 7, 2) := by decide +kernel
theorem dL_does_323 : decode cL_does 323 = .ok (.iconst 2, 1) := by decide +kernel
theorem dL_does_324 : decode cL_does 324 = .ok (.irem, 1) := by decide +kernel
theorem dL_does_325 : decode cL_does 325 = .ok (.ifCond .ne 7, 3) := by decide +kernel
theorem dL_does_328 : decode cL_does 328 = .ok (.iconst 1, 1) := by decide +kernel
theorem dL_does_329 : decode cL_does 329 = .ok (.goto 4, 3) := by decide +kernel
theorem dL_does_332 : decode cL_does 332 = .ok (.iconst 0, 1) := by decide +kernel
theorem dL_does_333 : decode cL_does 333 = .ok (.invokestatic 263, 3) := by decide +kernel
theorem dL_does_336 : decode cL_does 336 = .ok (.ireturn, 1) := by decide +kernel
theorem dL_does_337 : decode cL_does 337 = .ok (.aload_n 3, 1) := by decide +kernel
theorem dL_does_338 : decode cL_does 338 = .ok (.invokevirtual 265, 3) := by decide +kernel
theorem dL_does_341 : decode cL_does 341 = .ok (.ireturn, 1) := by decide +kernel
theorem dL_does_342 : decode cL_does 342 = .ok (.aload_n 3, 1) := by decide +kernel
theorem dL_does_343 : decode cL_does 343 = .ok (.iload 4, 2) := by decide +kernel
theorem dL_does_345 : decode cL_does 345 = .ok (.iload 5, 2) := by decide +kernel
theorem dL_does_347 : decode cL_does 347 = .ok (.iload 7, 2) := by decide +kernel
theorem dL_does_349 : decode cL_does 349 = .ok (.iconst 3, 1) := by decide +kernel
theorem dL_does_350 : decode cL_does 350 = .ok (.irem, 1) := by decide +kernel
theorem dL_does_351 : decode cL_does 351 = .ok (.invokestatic 268, 3) := by decide +kernel
theorem dL_does_354 : decode cL_does 354 = .ok (.ireturn, 1) := by decide +kernel
theorem dL_does_355 : decode cL_does 355 = .ok (.aload_n 3, 1) := by decide +kernel
theorem dL_does_356 : decode cL_does 356 = .ok (.iload 4, 2) := by decide +kernel
theorem dL_does_358 : decode cL_does 358 = .ok (.iload 5, 2) := by decide +kernel
theorem dL_does_360 : decode cL_does 360 = .ok (.iload 6, 2) := by decide +kernel
theorem dL_does_362 : decode cL_does 362 = .ok (.invokestatic 270, 3) := by decide +kernel
theorem dL_does_365 : decode cL_does 365 = .ok (.ireturn, 1) := by decide +kernel
theorem dL_does_366 : decode cL_does 366 = .ok (.aload_n 3, 1) := by decide +kernel
theorem dL_does_367 : decode cL_does 367 = .ok (.iload 4, 2) := by decide +kernel
theorem dL_does_369 : decode cL_does 369 = .ok (.invokestatic 272, 3) := by decide +kernel
theorem dL_does_372 : decode cL_does 372 = .ok (.ireturn, 1) := by decide +kernel
theorem dL_does_373 : decode cL_does 373 = .ok (.aload_n 3, 1) := by decide +kernel
theorem dL_does_374 : decode cL_does 374 = .ok (.iload 4, 2) := by decide +kernel
theorem dL_does_376 : decode cL_does 376 = .ok (.iload 5, 2) := by decide +kernel
theorem dL_does_378 : decode cL_does 378 = .ok (.invokestatic 274, 3) := by decide +kernel
theorem dL_does_381 : decode cL_does 381 = .ok (.ireturn, 1) := by decide +kernel
theorem dL_does_382 : decode cL_does 382 = .ok (.aload_n 3, 1) := by decide +kernel
theorem dL_does_383 : decode cL_does 383 = .ok (.iload 4, 2) := by decide +kernel
theorem dL_does_385 : decode cL_does 385 = .ok (.iload 5, 2) := by decide +kernel
theorem dL_does_387 : decode cL_does 387 = .ok (.invokestatic 276, 3) := by decide +kernel
theorem dL_does_390 : decode cL_does 390 = .ok (.ireturn, 1) := by decide +kernel
theorem dL_does_391 : decode cL_does 391 = .ok (.aload_n 3, 1) := by decide +kernel
theorem dL_does_392 : decode cL_does 392 = .ok (.iload 4, 2) := by decide +kernel
theorem dL_does_394 : decode cL_does 394 = .ok (.invokestatic 278, 3) := by decide +kernel
theorem dL_does_397 : decode cL_does 397 = .ok (.ireturn, 1) := by decide +kernel
theorem dL_does_398 : decode cL_does 398 = .ok (.aload_n 3, 1) := by decide +kernel
theorem dL_does_399 : decode cL_does 399 = .ok (.iload 4, 2) := by decide +kernel
theorem dL_does_401 : decode cL_does 401 = .ok (.iload 5, 2) := by decide +kernel
theorem dL_does_403 : decode cL_does 403 = .ok (.invokestatic 280, 3) := by decide +kernel
theorem dL_does_406 : decode cL_does 406 = .ok (.ireturn, 1) := by decide +kernel
theorem dL_does_407 : decode cL_does 407 = .ok (.aload_n 3, 1) := by decide +kernel
theorem dL_does_408 : decode cL_does 408 = .ok (.new 227, 3) := by decide +kernel
theorem dL_does_411 : decode cL_does 411 = .ok (.dup, 1) := by decide +kernel
theorem dL_does_412 : decode cL_does 412 = .ok (.invokespecial 229, 3) := by decide +kernel
theorem dL_does_415 : decode cL_does 415 = .ok (.ldc_w 282, 3) := by decide +kernel
theorem dL_does_418 : decode cL_does 418 = .ok (.invokevirtual 232, 3) := by decide +kernel
theorem dL_does_421 : decode cL_does 421 = .ok (.iload 7, 2) := by decide +kernel
theorem dL_does_423 : decode cL_does 423 = .ok (.iconst 4, 1) := by decide +kernel
theorem dL_does_424 : decode cL_does 424 = .ok (.irem, 1) := by decide +kernel
theorem dL_does_425 : decode cL_does 425 = .ok (.ifCond .ne 38, 3) := by decide +kernel
theorem dL_does_428 : decode cL_does 428 = .ok (.new 227, 3) := by decide +kernel
theorem dL_does_431 : decode cL_does 431 = .ok (.dup, 1) := by decide +kernel
theorem dL_does_432 : decode cL_does 432 = .ok (.invokespecial 229, 3) := by decide +kernel
theorem dL_does_435 : decode cL_does 435 = .ok (.ldc_w 284, 3) := by decide +kernel
theorem dL_does_438 : decode cL_does 438 = .ok (.invokevirtual 232, 3) := by decide +kernel
theorem dL_does_441 : decode cL_does 441 = .ok (.iload 4, 2) := by decide +kernel
theorem dL_does_443 : decode cL_does 443 = .ok (.invokevirtual 237, 3) := by decide +kernel
theorem dL_does_446 : decode cL_does 446 = .ok (.ldc_w 286, 3) := by decide +kernel
theorem dL_does_449 : decode cL_does 449 = .ok (.invokevirtual 232, 3) := by decide +kernel
theorem dL_does_452 : decode cL_does 452 = .ok (.iload 6, 2) := by decide +kernel
theorem dL_does_454 : decode cL_does 454 = .ok (.invokevirtual 237, 3) := by decide +kernel
theorem dL_does_457 : decode cL_does 457 = .ok (.invokevirtual 244, 3) := by decide +kernel
theorem dL_does_460 : decode cL_does 460 = .ok (.goto 102, 3) := by decide +kernel
theorem dL_does_463 : decode cL_does 463 = .ok (.iload 7, 2) := by decide +kernel
theorem dL_does_465 : decode cL_does 465 = .ok (.iconst 4, 1) := by decide +kernel
theorem dL_does_466 : decode cL_does 466 = .ok (.irem, 1) := by decide +kernel
theorem dL_does_467 : decode cL_does 467 = .ok (.iconst 1, 1) := by decide +kernel
theorem dL_does_468 : decode cL_does 468 = .ok (.if_icmp .ne 42, 3) := by decide +kernel
theorem dL_does_471 : decode cL_does 471 = .ok (.new 227, 3) := by decide +kernel
theorem dL_does_474 : decode cL_does 474 = .ok (.dup, 1) := by decide +kernel
theorem dL_does_475 : decode cL_does 475 = .ok (.invokespecial 229, 3) := by decide +kernel
theorem dL_does_478 : decode cL_does 478 = .ok (.ldc_w 288, 3) := by decide +kernel
theorem dL_does_481 : decode cL_does 481 = .ok (.invokevirtual 232, 3) := by decide +kernel
theorem dL_does_484 : decode cL_does 484 = .ok (.iload 7, 2) := by decide +kernel
theorem dL_does_486 : decode cL_does 486 = .ok (.iconst 3, 1) := by decide +kernel
theorem dL_does_487 : decode cL_does 487 = .ok (.irem, 1) := by decide +kernel
theorem dL_does_488 : decode cL_does 488 = .ok (.invokevirtual 237, 3) := by decide +kernel
theorem dL_does_491 : decode cL_does 491 = .ok (.ldc_w 290, 3) := by decide +kernel
theorem dL_does_494 : decode cL_does 494 = .ok (.invokevirtual 232, 3) := by decide +kernel
theorem dL_does_497 : decode cL_does 497 = .ok (.iload 7, 2) := by decide +kernel
theorem dL_does_499 : decode cL_does 499 = .ok (.iconst 5, 1) := by decide +kernel
theorem dL_does_500 : decode cL_does 500 = .ok (.irem, 1) := by decide +kernel
theorem dL_does_501 : decode cL_does 501 = .ok (.invokevirtual 237, 3) := by decide +kernel
theorem dL_does_504 : decode cL_does 504 = .ok (.invokevirtual 244, 3) := by decide +kernel
theorem dL_does_507 : decode cL_does 507 = .ok (.goto 55, 3) := by decide +kernel
theorem dL_does_510 : decode cL_does 510 = .ok (.iload 7, 2) := by decide +kernel
theorem dL_does_512 : decode cL_does 512 = .ok (.iconst 4, 1) := by decide +kernel
theorem dL_does_513 : decode cL_does 513 = .ok (.irem, 1) := by decide +kernel
theorem dL_does_514 : decode cL_does 514 = .ok (.iconst 2, 1) := by decide +kernel
theorem dL_does_515 : decode cL_does 515 = .ok (.if_icmp .ne 44, 3) := by decide +kernel
theorem dL_does_518 : decode cL_does 518 = .ok (.new 227, 3) := by decide +kernel
theorem dL_does_521 : decode cL_does 521 = .ok (.dup, 1) := by decide +kernel
theorem dL_does_522 : decode cL_does 522 = .ok (.invokespecial 229, 3) := by decide +kernel
theorem dL_does_525 : decode cL_does 525 = .ok (.ldc_w 292, 3) := by decide +kernel
theorem dL_does_528 : decode cL_does 528 = .ok (.invokevirtual 232, 3) := by decide +kernel
theorem dL_does_531 : decode cL_does 531 = .ok (.iload 4, 2) := by decide +kernel
theorem dL_does_533 : decode cL_does 533 = .ok (.invokevirtual 237, 3) := by decide +kernel
theorem dL_does_536 : decode cL_does 536 = .ok (.iload 5, 2) := by decide +kernel
theorem dL_does_538 : decode cL_does 538 = .ok (.ifCond .eq 9, 3) := by decide +kernel
theorem dL_does_541 : decode cL_does 541 = .ok (.ldc_w 294, 3) := by decide +kernel
theorem dL_does_544 : decode cL_does 544 = .ok (.goto 6, 3) := by decide +kernel
theorem dL_does_547 : decode cL_does 547 = .ok (.ldc_w 296, 3) := by decide +kernel
theorem dL_does_550 : decode cL_does 550 = .ok (.invokevirtual 232, 3) := by decide +kernel
theorem dL_does_553 : decode cL_does 553 = .ok (.invokevirtual 244, 3) := by decide +kernel
theorem dL_does_556 : decode cL_does 556 = .ok (.goto 6, 3) := by decide +kernel
theorem dL_does_559 : decode cL_does 559 = .ok (.ldc_w 298, 3) := by decide +kernel
theorem dL_does_562 : decode cL_does 562 = .ok (.invokevirtual 232, 3) := by decide +kernel
theorem dL_does_565 : decode cL_does 565 = .ok (.invokevirtual 244, 3) := by decide +kernel
theorem dL_does_568 : decode cL_does 568 = .ok (.invokestatic 248, 3) := by decide +kernel
theorem dL_does_571 : decode cL_does 571 = .ok (.ireturn, 1) := by decide +kernel
theorem h9_J4_init_da8c8 : yJ4_init_da8c8.cls ≠ "java/lang/invoke/MethodHandle" ∧ yJ4_init_da8c8.cls ≠ "java/lang/invoke/VarHandle" ∧ (parseMethodDescriptor yJ4_init_da8c8.desc).map (fun d => d.parameters.length) = some 0 := by decide +kernel
theorem h9_J4_append_15ec4 : yJ4_append_15ec4.cls ≠ "java/lang/invoke/MethodHandle" ∧ yJ4_append_15ec4.cls ≠ "java/lang/invoke/VarHandle" ∧ (parseMethodDescriptor yJ4_append_15ec4.desc).map (fun d => d.parameters.length) = some 1 := by decide +kernel
theorem h9_J4_append_bf812 : yJ4_append_bf812.cls ≠ "java/lang/invoke/MethodHandle" ∧ yJ4_append_bf812.cls ≠ "java/lang/invoke/VarHandle" ∧ (parseMethodDescriptor yJ4_append_bf812.desc).map (fun d => d.parameters.length) = some 1 := by decide +kernel
theorem h9_J4_toString_0e30d : yJ4_toString_0e30d.cls ≠ "java/lang/invoke/MethodHandle" ∧ yJ4_toString_0e30d.cls ≠ "java/lang/invoke/VarHandle" ∧ (parseMethodDescriptor yJ4_toString_0e30d.desc).map (fun d => d.parameters.length) = some 0 := by decide +kernel
theorem h9_L_reads : yL_reads.cls ≠ "java/lang/invoke/MethodHandle" ∧ yL_reads.cls ≠ "java/lang/invoke/VarHandle" ∧ (parseMethodDescriptor yL_reads.desc).map (fun d => d.parameters.length) = some 2 := by decide +kernel
/-! The law's does: its row of texts, its builders -/
def wdA (D : va_G) (cy : Nat → ClassId) (j : Nat) : Cell ⊕ (Nat × (Nat → Value)) := .inl (arrV (cy 7) 6 (fun k => if k < j then .ref (D.2 99 (14 + k)) else .null))
section DOK
variable {X : FX} {cc : ByteArray} {nL : Nat} {own : String} {rm : Room} {l : Launch} {D : va_G} {cy : Nat → ClassId} {cells slots pc h : Nat} {w : FW} {E : gE} {L : List (Nat × Value)} {st : List Value}
theorem g_anewS (hC : fOK X cc nL own rm l D cy) {i : Nat} (hcl : Cond.classLink own i "java/lang/String" ∈ lwA) (hover : Cond.arrayOver (.object "java/lang/String") ∈ lwN) (hcs : cells + 1 ≤ rm.cells ∧ slots + 6 ≤ rm.slots) (hd : decode cc pc = .ok (.anewarray i, 3)) (k : gAt X (cells + 1) (slots + 6) nL w (h + 1) (gUp E h (some (wdA D cy 0))) L (.ref h :: st) (pc + 3)) : gAt X cells slots nL w h E L (.int 6 :: st) pc := by
  obtain ⟨p, l', e, R, s, m, args, below, meth, c, Q, D', cy', A⟩ := X
  obtain ⟨hx, hb, hml, hown, hts, hE, hA, rfl, rfl, rfl, rfl⟩ := hC
  intro H locs ls hz h1 h2 h3 h4
  have hz1 := hz.1
  subst hz1
  have hw0 : w.1 H.size = 0 := by
    by_cases e : w.1 H.size = 0
    · exact e
    · exact absurd (h1.1 _ e) (Nat.lt_irrefl _)
  have h6 : (6 : Int32).toNatClampNeg = 6 := rfl
  refine W.anew hx hb hown (hts _ hcl) (va_AO.use (C := "java/lang/String") (hE.2.1 _ hover)) rfl hd rfl (by decide) (by rw [h6]; decide) hcs.1 (by rw [h6]; exact hcs.2) fun cA kA comp f1 f2 f3 f4 => ?_
  have hcA : cA = cy' 7 := by
    obtain ⟨kB, cB, g1, g2, g3, g4⟩ := (hE.1.2 7 _ rfl).2
    exact Option.some.inj (f1.symm.trans g4)
  subst hcA
  rw [h6]
  generalize hH1 : H.push ({ cls := cy' 7, slots := Array.replicate 6 .null, vm := .none } : Cell) = H1
  have z1 : H1.size = H.size + 1 := by rw [← hH1, Array.size_push]
  have e1 : H1[H.size]? = some (arrV (cy' 7) 6 (fun _ => .null)) := by rw [← hH1, Array.getElem?_push_size, ← arrV_new]
  have o1 : ∀ q : Nat, q < H.size → H1[q]? = H[q]? := fun q hq => by rw [← hH1, Array.getElem?_push, if_neg (Nat.ne_of_lt hq)]
  refine k H1 locs ls ⟨z1, fun a x hx9 => ?_⟩ (h1.off hw0 (by omega) (fun q hq _ => o1 q hq)) h2 ⟨Nat.le_trans h3.1 (by omega), fun x hx1 hx2 => (o1 x (Nat.lt_of_lt_of_le hx1 h3.1)).trans (h3.2.1 x hx1 hx2), h3.2.2⟩ h4
  by_cases e : a = H.size
  · subst e
    rw [gUp_s] at hx9
    cases hx9
    refine ⟨hw0, hA _ h3.1, by omega, ?_⟩
    refine Eq.trans e1 (congrArg some (g_arrV (fun j _ => ?_)))
    exact (if_neg (Nat.not_lt_zero j)).symm
  · rw [gUp_n e] at hx9
    have hg := hz.2 a x hx9
    exact ⟨hg.1, hg.2.1, by have := hg.2.2.1; omega, hg.2.2.2.kept (o1 a hg.2.2.1)⟩
theorem g_aastS (hC : fOK X cc nL own rm l D cy) {a j : Nat} (hj : j < 6) (hd : decode cc pc = .ok (.aastore, 1)) (k : gAt X cells slots nL w h (gUp E a (some (wdA D cy (j + 1)))) L st (pc + 1)) : gAt X cells slots nL w h (gUp E a (some (wdA D cy j))) L (.ref (D.2 99 (14 + j)) :: .int (nI j) :: .ref a :: st) pc := by
  have hS := sOK_c hC (i := 14 + j) (by omega)
  obtain ⟨p, l', e, R, s, m, args, below, meth, c, Q, D', cy', A⟩ := X
  obtain ⟨hx, hb, hml, hown, hts, hE, hA, rfl, rfl, rfl, rfl⟩ := hC
  intro H locs ls hz h1 h2 h3 h4
  have hg := hz.2 a _ (gUp_s _ _ _)
  obtain ⟨cellV, g1, g2, g3, -⟩ := ((hS _ rfl).kept h3.2.1).1
  have hcls := (hE.1.1 6 _ rfl).2
  obtain ⟨kA, comp, k1, k2, k3, -⟩ := (hE.1.2 7 _ rfl).2
  have hcomp : comp = D'.1 6 := Option.some.inj (k3.symm.trans hcls.1)
  have hcv : cellV.cls = D'.1 6 := Option.some.inj (g3.symm.trans hcls.1)
  subst hcomp
  obtain ⟨kC, hkC, -⟩ := hcls.2
  have hc : (nI j).toNatClampNeg = j := nI_clamp (by omega)
  refine W.aast hx hb hg.2.2.2 (fun q h => by cases h) (fun h => by cases h) k1 k2 rfl hkC ⟨nI_pos (by omega), by show _ < (arrV _ _ _).slots.size; rw [arrV_size, hc]; exact hj⟩ g1 (fun q h => by rw [h] at g2; cases g2) (by rw [hcv]; exact hkC) (by rw [hcv]; exact va_assign hcls) rfl rfl hd fun H1 e9 z oq => ?_
  have hp := hz.pin (gUp_s _ _ _) z oq (y := wdA D' cy' (j + 1)) (by
    show H1[a]? = some (arrV _ _ _)
    rw [e9, arrV_store, hc]
    congr 1
    refine g_arrV (fun i hi => ?_)
    unfold updV
    by_cases e : i = j
    · rw [if_pos e, if_pos (by omega), e]
    · rw [if_neg e]
      show (if i < j then Value.ref (D'.2 99 (14 + i)) else Value.null) = _
      by_cases e2 : i < j
      · rw [if_pos e2, if_pos (by omega)]
      · rw [if_neg e2, if_neg (by omega)])
  rw [gUp_gUp] at hp
  exact k H1 _ ls hp (h1.off hg.1 (Nat.le_of_eq z.symm) (fun q _ hq => oq q hq)) h2 (h3.put z oq hg.2.1) h4
theorem g_aaldS (hC : fOK X cc nL own rm l D cy) {a j : Nat} (he : E a = some (wdA D cy 6)) (hj : j < 6) (hd : decode cc pc = .ok (.aaload, 1)) (k : gAt X cells slots nL w h E L (.ref (D.2 99 (14 + j)) :: st) (pc + 1)) : gAt X cells slots nL w h E L (.int (nI j) :: .ref a :: st) pc := by
  obtain ⟨p, l', e, R, s, m, args, below, meth, c, Q, D', cy', A⟩ := X
  obtain ⟨hx, hb, hml, hown, hts, hE, hA, rfl, rfl, rfl, rfl⟩ := hC
  intro H locs ls hz h1 h2 h3 h4
  have hg := hz.2 a _ he
  have hc : (nI j).toNatClampNeg = j := nI_clamp (by omega)
  refine W.aald (v := .ref (D'.2 99 (14 + j))) hx hb hg.2.2.2 ((hE.1.2 7 _ rfl).1 6 _) rfl (fun h => by cases h) (by show ¬ (nI j < 0 ∨ (arrV _ _ _).slots.size ≤ _); rw [arrV_size]; exact nI_in hj (by decide)) ?_ rfl rfl hd (k H locs ls hz h1 h2 h3 h4)
  show (arrV _ _ _).slots[(nI j).toNatClampNeg]? = _
  rw [hc, arrV_read _ _ hj, if_pos hj]
theorem g_drop {E' : gE} {n : Nat} (hs : ∀ a x, E' a = some x → E a = some x) (k : gAt X cells slots n w h E' L st pc) : gAt X cells slots n w h E L st pc := by
  obtain ⟨p, l', e, R, s, m, args, below, meth, c, Q, D', cy', A⟩ := X
  intro H locs ls hz h1 h2 h3 h4
  exact k H locs ls ⟨hz.1, fun a x hx => hz.2 a x (hs a x hx)⟩ h1 h2 h3 h4
theorem up_sub {a : Nat} {x : Cell ⊕ (Nat × (Nat → Value))} : ∀ p z, gUp gE0 a (some x) p = some z → gUp E a (some x) p = some z := by
  intro p z hz
  by_cases e : p = a
  · subst e
    rw [gUp_s] at hz ⊢
    exact hz
  · rw [gUp_n e] at hz
    cases hz
theorem sb_mk {b a n : Nat} {t : List Int32} {x : Cell ⊕ (Nat × (Nat → Value))} (hab : ¬ b = a) : ∀ p z, sbE E cy b a n t p = some z → sbE gE0 cy b a n t p = some z ∨ (gUp gE0 b (some x) p = none ∧ gUp E b (some x) p = some z) := by
  intro p z hz
  by_cases e : p = a
  · subst e
    rw [sbE_a] at hz
    exact Or.inl (sbE_a.trans hz)
  · by_cases e2 : p = b
    · subst e2
      rw [sbE_b e] at hz
      exact Or.inl ((sbE_b e).trans hz)
    · rw [sbE_n e2 e] at hz
      exact Or.inr ⟨gUp_n e2, (gUp_n e2).trans hz⟩
/-- what is pinned behind toString: the builder, and the text at q with its bytes at v -/
theorem ts_new {b a n q v : Nat} {t : List Int32} (hqb : ¬ q = b) (hqa : ¬ q = a) (hvb : ¬ v = b) (hva : ¬ v = a) (hqv : ¬ q = v) : ∀ p z, gUp (gUp (sbE E cy b a n t) q (some (.inr (6, stV v)))) v (some (bYt cy t.length t)) p = some z → gUp (gUp (sbE gE0 cy b a n t) q (some (.inr (6, stV v)))) v (some (bYt cy t.length t)) p = some z ∨ (sbE gE0 cy b a n t p = none ∧ sbE E cy b a n t p = some z) := by
  intro p z hz
  by_cases e : p = v
  · subst e
    rw [gUp_s] at hz
    exact Or.inl ((gUp_s _ _ _).trans hz)
  · rw [gUp_n e] at hz
    by_cases e2 : p = q
    · subst e2
      rw [gUp_s] at hz
      exact Or.inl ((gUp_n e).trans ((gUp_s _ _ _).trans hz))
    · rw [gUp_n e2] at hz
      by_cases e3 : sbE gE0 cy b a n t p = none
      · exact Or.inr ⟨e3, hz⟩
      · refine Or.inl ((gUp_n e).trans ((gUp_n e2).trans ?_))
        cases h9 : sbE gE0 cy b a n t p with
        | none => exact absurd h9 e3
        | some y => rw [← hz]; exact (sbE_sub p y h9).symm
theorem st_sub {q v : Nat} {t : List Int32} (hqv : ¬ q = v) : ∀ p z, stE cy q v t p = some z → gUp (gUp E q (some (.inr (6, stV v)))) v (some (bYt cy t.length t)) p = some z := by
  intro p z hz
  by_cases e : p = v
  · subst e
    unfold stE at hz
    rw [gUp_s] at hz ⊢
    exact hz
  · unfold stE at hz
    rw [gUp_n e] at hz ⊢
    by_cases e2 : p = q
    · subst e2
      rw [gUp_s] at hz ⊢
      exact hz
    · rw [gUp_n e2] at hz
      cases hz
end DOK
abbrev rmD : Room := { frames := 13, cells := 25, slots := 182, locals := 297 }
section DOA
variable {X : FX} {l : Launch} {D : va_G} {cy : Nat → ClassId} {cells slots pc h b a : Nat} {w : FW} {E : gE} {L : List (Nat × Value)} {st : List Value} {t : List Int32}
set_option maxHeartbeats 4000000 in
theorem d_new (hC : fOK X cL_does 9 RL rmD l D cy) (hcs : cells + 2 ≤ 25 ∧ slots + 20 ≤ 182) (hcat : (st.map fun v => v.category).sum ≤ 6) (hd : decode cL_does pc = .ok (.new 227, 3)) (hd2 : decode cL_does (pc + 3) = .ok (.dup, 1)) (hd3 : decode cL_does (pc + 3 + 1) = .ok (.invokespecial 229, 3)) (k : gAt X (cells + 2) (slots + 20) 9 w (h + 2) (sbE E cy h (h + 1) 0 []) L (.ref h :: st) (pc + 3 + 1 + 3)) : gAt X cells slots 9 w h E L st pc := by
  refine g_new hC 5 rfl iJ4 tyJ4 tyJ4_ok q_639 q_640 q_91 dfJ4 ⟨by show cells + 1 ≤ 25; omega, by show slots + 4 ≤ 182; omega⟩ hd (fun _ _ => ?_)
  refine g_dup hC hd2 rfl ?_
  have hb : ¬ h = h + 1 := by omega
  refine s_callI hC [] (s_new4 l D cy w (h + 1) h (by omega)) sVw_none up_sub (sb_mk hb) (E2 := sbE E cy h (h + 1) 0 []) rfl q_643 q_91 q_641 q_642 h9_J4_init_da8c8 ⟨Nat.le_of_ble_eq_true rfl, Nat.le_of_ble_eq_true rfl⟩ 1 16 rfl rfl ⟨by show cells + 1 + 1 ≤ 25; omega, by show slots + 4 + 16 ≤ 182; omega⟩ (by rw [List.map_cons, List.sum_cons]; show 1 + (st.map fun v => v.category).sum ≤ 8; omega) rfl hd3 ?_
  exact k
set_option maxHeartbeats 4000000 in
theorem d_app (hC : fOK X cL_does 9 RL rmD l D cy) {q v : Nat} {s : List Int32} (hV : sVw X w h (sbE E cy b a t.length t) (sbE gE0 cy b a t.length t) (some (q, v, s))) (hab : ¬ b = a) (hlen : t.length + s.length ≤ 16) (htb : tB s) (hcs : cells ≤ 25 ∧ slots ≤ 182) (hcat : (st.map fun v => v.category).sum ≤ 8) (hd : decode cL_does pc = .ok (.invokevirtual 232, 3)) (k : gAt X cells slots 9 w h (sbE E cy b a (t ++ s).length (t ++ s)) L (.ref b :: st) (pc + 3)) : gAt X cells slots 9 w h (sbE E cy b a t.length t) L (.ref q :: .ref b :: st) pc :=
  s_callV (ci := 5) (T := TJ4) (N := 4) (C := "java/lang/StringBuilder") hC [.ref q] (s_app l D cy w h b a t hab q v s hlen htb) hV sbE_sub sbE_new (E2 := sbE E cy b a (t ++ s).length (t ++ s)) rfl (sbE_b hab) q_672 q_673 q_91 q_670 q_671 h9_J4_append_15ec4 ⟨Nat.le_of_ble_eq_true rfl, Nat.le_of_ble_eq_true rfl⟩ 0 0 rfl rfl hcs hcat rfl hd k
set_option maxHeartbeats 4000000 in
theorem d_apC (hC : fOK X cL_does 9 RL rmD l D cy) (i : Nat) (hi : i < 33) (hab : ¬ b = a) (hlen : t.length + (fByt.getD i []).length ≤ 16) (hcs : cells ≤ 25 ∧ slots ≤ 182) (hcat : (st.map fun v => v.category).sum ≤ 8) (hd : decode cL_does pc = .ok (.invokevirtual 232, 3)) (k : gAt X cells slots 9 w h (sbE E cy b a (t ++ fByt.getD i []).length (t ++ fByt.getD i [])) L (.ref b :: st) (pc + 3)) : gAt X cells slots 9 w h (sbE E cy b a t.length t) L (.ref (D.2 99 i) :: .ref b :: st) pc :=
  d_app hC (sVw_ok hC (sOK_c hC hi) (s_sub sbE_sub)) hab hlen (tB_c i hi) hcs hcat hd k
set_option maxHeartbeats 4000000 in
theorem d_apI (hC : fOK X cL_does 9 RL rmD l D cy) {d : Nat} (hd9 : d < 10) (hab : ¬ b = a) (hlen : t.length < 16) (hcs : cells ≤ 25 ∧ slots ≤ 182) (hcat : (st.map fun v => v.category).sum ≤ 8) (hd : decode cL_does pc = .ok (.invokevirtual 237, 3)) (k : gAt X cells slots 9 w h (sbE E cy b a (t ++ [nI (48 + d)]).length (t ++ [nI (48 + d)])) L (.ref b :: st) (pc + 3)) : gAt X cells slots 9 w h (sbE E cy b a t.length t) L (.int (nI d) :: .ref b :: st) pc :=
  s_callV (ci := 5) (T := TJ4) (N := 4) (C := "java/lang/StringBuilder") hC [.int (nI d)] (s_apI l D cy w h b a t hab d hd9 hlen) sVw_none sbE_sub sbE_new (E2 := sbE E cy b a (t ++ [nI (48 + d)]).length (t ++ [nI (48 + d)])) rfl (sbE_b hab) q_779 q_780 q_91 q_777 q_778 h9_J4_append_bf812 ⟨Nat.le_of_ble_eq_true rfl, Nat.le_of_ble_eq_true rfl⟩ 0 0 rfl rfl hcs hcat rfl hd k
set_option maxHeartbeats 4000000 in
theorem d_toS (hC : fOK X cL_does 9 RL rmD l D cy) (hab : ¬ b = a) (hb : b < h) (ha : a < h) (hn : t.length < 16) (htb : tB t) (hcs : cells + 2 ≤ 25 ∧ slots + 20 ≤ 182) (hcat : (st.map fun v => v.category).sum ≤ 8) (hd : decode cL_does pc = .ok (.invokevirtual 244, 3)) (k : gAt X (cells + 2) (slots + 20) 9 w (h + 2) (gUp (gUp (sbE E cy b a t.length t) h (some (.inr (6, stV (h + 1))))) (h + 1) (some (bYt cy t.length t))) L (.ref h :: st) (pc + 3)) : gAt X cells slots 9 w h (sbE E cy b a t.length t) L (.ref b :: st) pc :=
  s_callV (ci := 5) (T := TJ4) (N := 4) (C := "java/lang/StringBuilder") hC [] (s_toS l D cy w h b a t hab hb ha hn htb) sVw_none sbE_sub (ts_new (by omega) (by omega) (by omega) (by omega) (by omega)) (E2 := gUp (gUp (sbE E cy b a t.length t) h (some (.inr (6, stV (h + 1))))) (h + 1) (some (bYt cy t.length t))) rfl (sbE_b hab) q_806 q_807 q_91 q_804 q_805 h9_J4_toString_0e30d ⟨Nat.le_of_ble_eq_true rfl, Nat.le_of_ble_eq_true rfl⟩ 2 20 rfl rfl hcs hcat rfl hd k
def RDS (x : Nat) (t : List Int32) (w : FW) (r : Int32) (w' : FW) : Prop := ∃ c w1, c ≤ 15 ∧ RDn x t c 0 w w1 ∧ F_L_read x w1 = some (r, w')
set_option maxHeartbeats 4000000 in
theorem d_end (hC : fOK X cL_does 9 RL rmD l D cy) {sc : lScr} (hL : lOK X gE0 sc) {x q v : Nat} {r : Int32} {w' : FW} (hEn : fEnd X (some .int) (some (.int r)) w w' 25 182) (hqv : ¬ q = v) (hE : ∀ p z, stE cy q v t p = some z → E p = some z) (hl : t.length ≤ 60) (htb : tB t) (hR : RDS x t w r w') (hcs : cells + 16 ≤ 25 ∧ slots + 96 ≤ 182) (hd : decode cL_does pc = .ok (.invokestatic 248, 3)) (hd2 : decode cL_does (pc + 3) = .ok (.ireturn, 1)) : gAt X cells slots 9 w h E L [.ref q, .ref x] pc := by
  obtain ⟨c, w1, h1, h2, h3⟩ := hR
  refine g_callLk hC hL [.ref x, .ref q] (c_L_reads l D cy x q v t c w w1 w' r hqv hl htb h1 h2 h3) (Or.inl rfl) (fun p z hz => Or.inl (hE p z hz)) q_866 q_72 q_864 q_865 h9_L_reads ⟨Nat.le_of_ble_eq_true rfl, Nat.le_of_ble_eq_true rfl⟩ 16 96 rfl rfl hcs (Nat.le_of_ble_eq_true rfl) rfl hd (fun h4 _ hs => ?_)
  refine g_widen (k' := 25) (s' := 182) hcs.1 hcs.2 ?_
  exact g_iret hC hEn hs hd2
end DOA
