theorem dL_isWhole_0 : decode cL_isWhole 0 = .ok (.aload_n 0, 1) := by decide +kernel
theorem dL_isWhole_1 : decode cL_isWhole 1 = .ok (.iconst 0, 1) := by decide +kernel
theorem dL_isWhole_2 : decode cL_isWhole 2 = .ok (.invokestatic 189, 3) := by decide +kernel
theorem dL_isWhole_5 : decode cL_isWhole 5 = .ok (.istore_n 1, 1) := by decide +kernel
theorem dL_isWhole_6 : decode cL_isWhole 6 = .ok (.iconst 0, 1) := by decide +kernel
theorem dL_isWhole_7 : decode cL_isWhole 7 = .ok (.istore_n 2, 1) := by decide +kernel
theorem dL_isWhole_8 : decode cL_isWhole 8 = .ok (.iconst 0, 1) := by decide +kernel
theorem dL_isWhole_9 : decode cL_isWhole 9 = .ok (.istore_n 3, 1) := by decide +kernel
theorem dL_isWhole_10 : decode cL_isWhole 10 = .ok (.iconst 0, 1) := by decide +kernel
theorem dL_isWhole_11 : decode cL_isWhole 11 = .ok (.istore 4, 2) := by decide +kernel
theorem dL_isWhole_13 : decode cL_isWhole 13 = .ok (.iconst 0, 1) := by decide +kernel
theorem dL_isWhole_14 : decode cL_isWhole 14 = .ok (.istore 5, 2) := by decide +kernel
theorem dL_isWhole_16 : decode cL_isWhole 16 = .ok (.iconst 0, 1) := by decide +kernel
theorem dL_isWhole_17 : decode cL_isWhole 17 = .ok (.istore 6, 2) := by decide +kernel
theorem dL_isWhole_19 : decode cL_isWhole 19 = .ok (.iconst 0, 1) := by decide +kernel
theorem dL_isWhole_20 : decode cL_isWhole 20 = .ok (.istore 7, 2) := by decide +kernel
theorem dL_isWhole_22 : decode cL_isWhole 22 = .ok (.iconst 0, 1) := by decide +kernel
theorem dL_isWhole_23 : decode cL_isWhole 23 = .ok (.istore 8, 2) := by decide +kernel
theorem dL_isWhole_25 : decode cL_isWhole 25 = .ok (.iconst 0, 1) := by decide +kernel
theorem dL_isWhole_26 : decode cL_isWhole 26 = .ok (.istore 9, 2) := by decide +kernel
theorem dL_isWhole_28 : decode cL_isWhole 28 = .ok (.iconst 0, 1) := by decide +kernel
theorem dL_isWhole_29 : decode cL_isWhole 29 = .ok (.istore 10, 2) := by decide +kernel
theorem dL_isWhole_31 : decode cL_isWhole 31 = .ok (.iload 10, 2) := by decide +kernel
theorem dL_isWhole_33 : decode cL_isWhole 33 = .ok (.iload_n 1, 1) := by decide +kernel
theorem dL_isWhole_34 : decode cL_isWhole 34 = .ok (.if_icmp .ge 530, 3) := by decide +kernel
theorem dL_isWhole_37 : decode cL_isWhole 37 = .ok (.aload_n 0, 1) := by decide +kernel
theorem dL_isWhole_38 : decode cL_isWhole 38 = .ok (.iload 10, 2) := by decide +kernel
theorem dL_isWhole_40 : decode cL_isWhole 40 = .ok (.iconst 0, 1) := by decide +kernel
theorem dL_isWhole_41 : decode cL_isWhole 41 = .ok (.invokestatic 318, 3) := by decide +kernel
theorem dL_isWhole_44 : decode cL_isWhole 44 = .ok (.ifCond .eq 13, 3) := by decide +kernel
theorem dL_isWhole_47 : decode cL_isWhole 47 = .ok (.aload_n 0, 1) := by decide +kernel
theorem dL_isWhole_48 : decode cL_isWhole 48 = .ok (.iload 10, 2) := by decide +kernel
theorem dL_isWhole_50 : decode cL_isWhole 50 = .ok (.iconst 1, 1) := by decide +kernel
theorem dL_isWhole_51 : decode cL_isWhole 51 = .ok (.invokestatic 318, 3) := by decide +kernel
theorem dL_isWhole_54 : decode cL_isWhole 54 = .ok (.ifCond .ne 5, 3) := by decide +kernel
theorem dL_isWhole_57 : decode cL_isWhole 57 = .ok (.iconst 0, 1) := by decide +kernel
theorem dL_isWhole_58 : decode cL_isWhole 58 = .ok (.ireturn, 1) := by decide +kernel
theorem dL_isWhole_59 : decode cL_isWhole 59 = .ok (.aload_n 0, 1) := by decide +kernel
theorem dL_isWhole_60 : decode cL_isWhole 60 = .ok (.iload 10, 2) := by decide +kernel
theorem dL_isWhole_62 : decode cL_isWhole 62 = .ok (.iconst 5, 1) := by decide +kernel
theorem dL_isWhole_63 : decode cL_isWhole 63 = .ok (.invokestatic 302, 3) := by decide +kernel
theorem dL_isWhole_66 : decode cL_isWhole 66 = .ok (.ifCond .ne 7, 3) := by decide +kernel
theorem dL_isWhole_69 : decode cL_isWhole 69 = .ok (.iconst 1, 1) := by decide +kernel
theorem dL_isWhole_70 : decode cL_isWhole 70 = .ok (.goto 4, 3) := by decide +kernel
theorem dL_isWhole_73 : decode cL_isWhole 73 = .ok (.iconst 0, 1) := by decide +kernel
theorem dL_isWhole_74 : decode cL_isWhole 74 = .ok (.istore 11, 2) := by decide +kernel
theorem dL_isWhole_76 : decode cL_isWhole 76 = .ok (.aload_n 0, 1) := by decide +kernel
theorem dL_isWhole_77 : decode cL_isWhole 77 = .ok (.iload 10, 2) := by decide +kernel
theorem dL_isWhole_79 : decode cL_isWhole 79 = .ok (.iconst 0, 1) := by decide +kernel
theorem dL_isWhole_80 : decode cL_isWhole 80 = .ok (.iconst 0, 1) := by decide +kernel
theorem dL_isWhole_81 : decode cL_isWhole 81 = .ok (.invokestatic 205, 3) := by decide +kernel
theorem dL_isWhole_84 : decode cL_isWhole 84 = .ok (.iconst 1, 1) := by decide +kernel
theorem dL_isWhole_85 : decode cL_isWhole 85 = .ok (.if_icmp .ne 19, 3) := by decide +kernel
theorem dL_isWhole_88 : decode cL_isWhole 88 = .ok (.aload_n 0, 1) := by decide +kernel
theorem dL_isWhole_89 : decode cL_isWhole 89 = .ok (.iload 10, 2) := by decide +kernel
theorem dL_isWhole_91 : decode cL_isWhole 91 = .ok (.iconst 1, 1) := by decide +kernel
theorem dL_isWhole_92 : decode cL_isWhole 92 = .ok (.iconst 0, 1) := by decide +kernel
theorem dL_isWhole_93 : decode cL_isWhole 93 = .ok (.invokestatic 205, 3) := by decide +kernel
theorem dL_isWhole_96 : decode cL_isWhole 96 = .ok (.iconst 1, 1) := by decide +kernel
theorem dL_isWhole_97 : decode cL_isWhole 97 = .ok (.if_icmp .ne 7, 3) := by decide +kernel
theorem dL_isWhole_100 : decode cL_isWhole 100 = .ok (.iconst 1, 1) := by decide +kernel
theorem dL_isWhole_101 : decode cL_isWhole 101 = .ok (.goto 4, 3) := by decide +kernel
theorem dL_isWhole_104 : decode cL_isWhole 104 = .ok (.iconst 0, 1) := by decide +kernel
theorem dL_isWhole_105 : decode cL_isWhole 105 = .ok (.istore 12, 2) := by decide +kernel
theorem dL_isWhole_107 : decode cL_isWhole 107 = .ok (.iload 12, 2) := by decide +kernel
theorem dL_isWhole_109 : decode cL_isWhole 109 = .ok (.istore 13, 2) := by decide +kernel
theorem dL_isWhole_111 : decode cL_isWhole 111 = .ok (.iconst 0, 1) := by decide +kernel
theorem dL_isWhole_112 : decode cL_isWhole 112 = .ok (.istore 14, 2) := by decide +kernel
theorem dL_isWhole_114 : decode cL_isWhole 114 = .ok (.iload 14, 2) := by decide +kernel
theorem dL_isWhole_116 : decode cL_isWhole 116 = .ok (.aload_n 0, 1) := by decide +kernel
theorem dL_isWhole_117 : decode cL_isWhole 117 = .ok (.iload 10, 2) := by decide +kernel
theorem dL_isWhole_119 : decode cL_isWhole 119 = .ok (.iconst 0, 1) := by decide +kernel
theorem dL_isWhole_120 : decode cL_isWhole 120 = .ok (.invokestatic 302, 3) := by decide +kernel
theorem dL_isWhole_123 : decode cL_isWhole 123 = .ok (.if_icmp .ge 42, 3) := by decide +kernel
theorem dL_isWhole_126 : decode cL_isWhole 126 = .ok (.iload 13, 2) := by decide +kernel
theorem dL_isWhole_128 : decode cL_isWhole 128 = .ok (.ifCond .eq 37, 3) := by decide +kernel
theorem dL_isWhole_131 : decode cL_isWhole 131 = .ok (.aload_n 0, 1) := by decide +kernel
theorem dL_isWhole_132 : decode cL_isWhole 132 = .ok (.iload 10, 2) := by decide +kernel
theorem dL_isWhole_134 : decode cL_isWhole 134 = .ok (.iconst 0, 1) := by decide +kernel
theorem dL_isWhole_135 : decode cL_isWhole 135 = .ok (.iload 14, 2) := by decide +kernel
theorem dL_isWhole_137 : decode cL_isWhole 137 = .ok (.invokestatic 308, 3) := by decide +kernel
theorem dL_isWhole_140 : decode cL_isWhole 140 = .ok (.aload_n 0, 1) := by decide +kernel
theorem dL_isWhole_141 : decode cL_isWhole 141 = .ok (.iload 10, 2) := by decide +kernel
theorem dL_isWhole_143 : decode cL_isWhole 143 = .ok (.iconst 1, 1) := by decide +kernel
theorem dL_isWhole_144 : decode cL_isWhole 144 = .ok (.iload 14, 2) := by decide +kernel
theorem dL_isWhole_146 : decode cL_isWhole 146 = .ok (.invokestatic 308, 3) := by decide +kernel
theorem dL_isWhole_149 : decode cL_isWhole 149 = .ok (.if_icmp .ne 7, 3) := by decide +kernel
theorem dL_isWhole_152 : decode cL_isWhole 152 = .ok (.iconst 1, 1) := by decide +kernel
theorem dL_isWhole_153 : decode cL_isWhole 153 = .ok (.goto 4, 3) := by decide +kernel
theorem dL_isWhole_156 : decode cL_isWhole 156 = .ok (.iconst 0, 1) := by decide +kernel
theorem dL_isWhole_157 : decode cL_isWhole 157 = .ok (.istore 13, 2) := by decide +kernel
theorem dL_isWhole_159 : decode cL_isWhole 159 = .ok (.iinc 14 1, 3) := by decide +kernel
theorem dL_isWhole_162 : decode cL_isWhole 162 = .ok (.goto (-48), 3) := by decide +kernel
theorem dL_isWhole_165 : decode cL_isWhole 165 = .ok (.aload_n 0, 1) := by decide +kernel
theorem dL_isWhole_166 : decode cL_isWhole 166 = .ok (.iload 10, 2) := by decide +kernel
theorem dL_isWhole_168 : decode cL_isWhole 168 = .ok (.bipush 6, 2) := by decide +kernel
theorem dL_isWhole_170 : decode cL_isWhole 170 = .ok (.invokestatic 302, 3) := by decide +kernel
theorem dL_isWhole_173 : decode cL_isWhole 173 = .ok (.istore 14, 2) := by decide +kernel
theorem dL_isWhole_175 : decode cL_isWhole 175 = .ok (.iload 14, 2) := by decide +kernel
theorem dL_isWhole_177 : decode cL_isWhole 177 = .ok (.ifCond .ge 8, 3) := by decide +kernel
theorem dL_isWhole_180 : decode cL_isWhole 180 = .ok (.bipush (-75), 2) := by decide +kernel
theorem dL_isWhole_182 : decode cL_isWhole 182 = .ok (.goto 23, 3) := by decide +kernel
theorem dL_isWhole_185 : decode cL_isWhole 185 = .ok (.iconst (-1), 1) := by decide +kernel
theorem dL_isWhole_186 : decode cL_isWhole 186 = .ok (.aload_n 0, 1) := by decide +kernel
theorem dL_isWhole_187 : decode cL_isWhole 187 = .ok (.iload 10, 2) := by decide +kernel
theorem dL_isWhole_189 : decode cL_isWhole 189 = .ok (.iconst 4, 1) := by decide +kernel
theorem dL_isWhole_190 : decode cL_isWhole 190 = .ok (.invokestatic 302, 3) := by decide +kernel
theorem dL_isWhole_193 : decode cL_isWhole 193 = .ok (.aload_n 0, 1) := by decide +kernel
theorem dL_isWhole_194 : decode cL_isWhole 194 = .ok (.iconst 2, 1) := by decide +kernel
theorem dL_isWhole_195 : decode cL_isWhole 195 = .ok (.invokestatic 189, 3) := by decide +kernel
theorem dL_isWhole_198 : decode cL_isWhole 198 = .ok (.isub, 1) := by decide +kernel
theorem dL_isWhole_199 : decode cL_isWhole 199 = .ok (.iload 14, 2) := by decide +kernel
theorem dL_isWhole_201 : decode cL_isWhole 201 = .ok (.iadd, 1) := by decide +kernel
theorem dL_isWhole_202 : decode cL_isWhole 202 = .ok (.invokestatic 322, 3) := by decide +kernel
theorem dL_isWhole_205 : decode cL_isWhole 205 = .ok (.istore 15, 2) := by decide +kernel
theorem dL_isWhole_207 : decode cL_isWhole 207 = .ok (.aload_n 0, 1) := by decide +kernel
theorem dL_isWhole_208 : decode cL_isWhole 208 = .ok (.iload 10, 2) := by decide +kernel
theorem dL_isWhole_210 : decode cL_isWhole 210 = .ok (.iconst 0, 1) := by decide +kernel
theorem dL_isWhole_211 : decode cL_isWhole 211 = .ok (.invokestatic 327, 3) := by decide +kernel
theorem dL_isWhole_214 : decode cL_isWhole 214 = .ok (.iload 13, 2) := by decide +kernel
theorem dL_isWhole_216 : decode cL_isWhole 216 = .ok (.ifCond .eq 7, 3) := by decide +kernel
theorem dL_isWhole_219 : decode cL_isWhole 219 = .ok (.iconst 1, 1) := by decide +kernel
theorem dL_isWhole_220 : decode cL_isWhole 220 = .ok (.goto 4, 3) := by decide +kernel
theorem dL_isWhole_223 : decode cL_isWhole 223 = .ok (.iconst 0, 1) := by decide +kernel
theorem dL_isWhole_224 : decode cL_isWhole 224 = .ok (.if_icmp .ne 86, 3) := by decide +kernel
theorem dL_isWhole_227 : decode cL_isWhole 227 = .ok (.aload_n 0, 1) := by decide +kernel
theorem dL_isWhole_228 : decode cL_isWhole 228 = .ok (.iload 10, 2) := by decide +kernel
theorem dL_isWhole_230 : decode cL_isWhole 230 = .ok (.iconst 1, 1) := by decide +kernel
theorem dL_isWhole_231 : decode cL_isWhole 231 = .ok (.invokestatic 327, 3) := by decide +kernel
theorem dL_isWhole_234 : decode cL_isWhole 234 = .ok (.iload 13, 2) := by decide +kernel
theorem dL_isWhole_236 : decode cL_isWhole 236 = .ok (.ifCond .eq 7, 3) := by decide +kernel
theorem dL_isWhole_239 : decode cL_isWhole 239 = .ok (.iconst 1, 1) := by decide +kernel
theorem dL_isWhole_240 : decode cL_isWhole 240 = .ok (.goto 4, 3) := by decide +kernel
theorem dL_isWhole_243 : decode cL_isWhole 243 = .ok (.iconst 0, 1) := by decide +kernel
theorem dL_isWhole_244 : decode cL_isWhole 244 = .ok (.if_icmp .ne 66, 3) := by decide +kernel
theorem dL_isWhole_247 : decode cL_isWhole 247 = .ok (.aload_n 0, 1) := by decide +kernel
theorem dL_isWhole_248 : decode cL_isWhole 248 = .ok (.iload 10, 2) := by decide +kernel
theorem dL_isWhole_250 : decode cL_isWhole 250 = .ok (.invokestatic 329, 3) := by decide +kernel
theorem dL_isWhole_253 : decode cL_isWhole 253 = .ok (.iload 15, 2) := by decide +kernel
theorem dL_isWhole_255 : decode cL_isWhole 255 = .ok (.if_icmp .ne 55, 3) := by decide +kernel
theorem dL_isWhole_258 : decode cL_isWhole 258 = .ok (.iload 14, 2) := by decide +kernel
theorem dL_isWhole_260 : decode cL_isWhole 260 = .ok (.ifCond .lt 7, 3) := by decide +kernel
theorem dL_isWhole_263 : decode cL_isWhole 263 = .ok (.iconst 1, 1) := by decide +kernel
theorem dL_isWhole_264 : decode cL_isWhole 264 = .ok (.goto 4, 3) := by decide +kernel
theorem dL_isWhole_267 : decode cL_isWhole 267 = .ok (.iconst 0, 1) := by decide +kernel
theorem dL_isWhole_268 : decode cL_isWhole 268 = .ok (.aload_n 0, 1) := by decide +kernel
theorem dL_isWhole_269 : decode cL_isWhole 269 = .ok (.iload 10, 2) := by decide +kernel
theorem dL_isWhole_271 : decode cL_isWhole 271 = .ok (.iconst 0, 1) := by decide +kernel
theorem dL_isWhole_272 : decode cL_isWhole 272 = .ok (.bipush 6, 2) := by decide +kernel
theorem dL_isWhole_274 : decode cL_isWhole 274 = .ok (.invokestatic 205, 3) := by decide +kernel
theorem dL_isWhole_277 : decode cL_isWhole 277 = .ok (.iconst 1, 1) := by decide +kernel
theorem dL_isWhole_278 : decode cL_isWhole 278 = .ok (.if_icmp .ne 7, 3) := by decide +kernel
theorem dL_isWhole_281 : decode cL_isWhole 281 = .ok (.iconst 1, 1) := by decide +kernel
theorem dL_isWhole_282 : decode cL_isWhole 282 = .ok (.goto 4, 3) := by decide +kernel
theorem dL_isWhole_285 : decode cL_isWhole 285 = .ok (.iconst 0, 1) := by decide +kernel
theorem dL_isWhole_286 : decode cL_isWhole 286 = .ok (.if_icmp .ne 24, 3) := by decide +kernel
theorem dL_isWhole_289 : decode cL_isWhole 289 = .ok (.aload_n 0, 1) := by decide +kernel
theorem dL_isWhole_290 : decode cL_isWhole 290 = .ok (.iload 10, 2) := by decide +kernel
theorem dL_isWhole_292 : decode cL_isWhole 292 = .ok (.iconst 1, 1) := by decide +kernel
theorem dL_isWhole_293 : decode cL_isWhole 293 = .ok (.bipush 6, 2) := by decide +kernel
theorem dL_isWhole_295 : decode cL_isWhole 295 = .ok (.invokestatic 205, 3) := by decide +kernel
theorem dL_isWhole_298 : decode cL_isWhole 298 = .ok (.ifCond .eq 8, 3) := by decide +kernel
theorem dL_isWhole_301 : decode cL_isWhole 301 = .ok (.iload 14, 2) := by decide +kernel
theorem dL_isWhole_303 : decode cL_isWhole 303 = .ok (.ifCond .lt 7, 3) := by decide +kernel
theorem dL_isWhole_306 : decode cL_isWhole 306 = .ok (.iconst 1, 1) := by decide +kernel
theorem dL_isWhole_307 : decode cL_isWhole 307 = .ok (.goto 4, 3) := by decide +kernel
theorem dL_isWhole_310 : decode cL_isWhole 310 = .ok (.iconst 0, 1) := by decide +kernel
theorem dL_isWhole_311 : decode cL_isWhole 311 = .ok (.istore 16, 2) := by decide +kernel
theorem dL_isWhole_313 : decode cL_isWhole 313 = .ok (.iload 11, 2) := by decide +kernel
theorem dL_isWhole_315 : decode cL_isWhole 315 = .ok (.ifCond .eq 48, 3) := by decide +kernel
theorem dL_isWhole_318 : decode cL_isWhole 318 = .ok (.aload_n 0, 1) := by decide +kernel
theorem dL_isWhole_319 : decode cL_isWhole 319 = .ok (.iload 10, 2) := by decide +kernel
theorem dL_isWhole_321 : decode cL_isWhole 321 = .ok (.iconst 0, 1) := by decide +kernel
theorem dL_isWhole_322 : decode cL_isWhole 322 = .ok (.iconst 5, 1) := by decide +kernel
theorem dL_isWhole_323 : decode cL_isWhole 323 = .ok (.invokestatic 205, 3) := by decide +kernel
theorem dL_isWhole_326 : decode cL_isWhole 326 = .ok (.aload_n 0, 1) := by decide +kernel
theorem dL_isWhole_327 : decode cL_isWhole 327 = .ok (.iload 10, 2) := by decide +kernel
theorem dL_isWhole_329 : decode cL_isWhole 329 = .ok (.iconst 1, 1) := by decide +kernel
theorem dL_isWhole_330 : decode cL_isWhole 330 = .ok (.iconst 5, 1) := by decide +kernel
theorem dL_isWhole_331 : decode cL_isWhole 331 = .ok (.invokestatic 205, 3) := by decide +kernel
theorem dL_isWhole_334 : decode cL_isWhole 334 = .ok (.if_icmp .ne 33, 3) := by decide +kernel
theorem dL_isWhole_337 : decode cL_isWhole 337 = .ok (.aload_n 0, 1) := by decide +kernel
theorem dL_isWhole_338 : decode cL_isWhole 338 = .ok (.iload 10, 2) := by decide +kernel
theorem dL_isWhole_340 : decode cL_isWhole 340 = .ok (.iconst 0, 1) := by decide +kernel
theorem dL_isWhole_341 : decode cL_isWhole 341 = .ok (.iconst 2, 1) := by decide +kernel
theorem dL_isWhole_342 : decode cL_isWhole 342 = .ok (.invokestatic 205, 3) := by decide +kernel
theorem dL_isWhole_345 : decode cL_isWhole 345 = .ok (.bipush 6, 2) := by decide +kernel
theorem dL_isWhole_347 : decode cL_isWhole 347 = .ok (.if_icmp .ge 20, 3) := by decide +kernel
theorem dL_isWhole_350 : decode cL_isWhole 350 = .ok (.aload_n 0, 1) := by decide +kernel
theorem dL_isWhole_351 : decode cL_isWhole 351 = .ok (.iload 10, 2) := by decide +kernel
theorem dL_isWhole_353 : decode cL_isWhole 353 = .ok (.iconst 1, 1) := by decide +kernel
theorem dL_isWhole_354 : decode cL_isWhole 354 = .ok (.iconst 2, 1) := by decide +kernel
theorem dL_isWhole_355 : decode cL_isWhole 355 = .ok (.invokestatic 205, 3) := by decide +kernel
theorem dL_isWhole_358 : decode cL_isWhole 358 = .ok (.bipush 6, 2) := by decide +kernel
theorem dL_isWhole_360 : decode cL_isWhole 360 = .ok (.if_icmp .ge 7, 3) := by decide +kernel
theorem dL_isWhole_363 : decode cL_isWhole 363 = .ok (.iconst 1, 1) := by decide +kernel
theorem dL_isWhole_364 : decode cL_isWhole 364 = .ok (.goto 4, 3) := by decide +kernel
theorem dL_isWhole_367 : decode cL_isWhole 367 = .ok (.iconst 0, 1) := by decide +kernel
theorem dL_isWhole_368 : decode cL_isWhole 368 = .ok (.istore 17, 2) := by decide +kernel
theorem dL_isWhole_370 : decode cL_isWhole 370 = .ok (.iload 16, 2) := by decide +kernel
theorem dL_isWhole_372 : decode cL_isWhole 372 = .ok (.ifCond .eq 19, 3) := by decide +kernel
theorem dL_isWhole_375 : decode cL_isWhole 375 = .ok (.iload 17, 2) := by decide +kernel
theorem dL_isWhole_377 : decode cL_isWhole 377 = .ok (.ifCond .eq 14, 3) := by decide +kernel
theorem dL_isWhole_380 : decode cL_isWhole 380 = .ok (.aload_n 0, 1) := by decide +kernel
theorem dL_isWhole_381 : decode cL_isWhole 381 = .ok (.iload 10, 2) := by decide +kernel
theorem dL_isWhole_383 : decode cL_isWhole 383 = .ok (.invokestatic 331, 3) := by decide +kernel
theorem dL_isWhole_386 : decode cL_isWhole 386 = .ok (.bipush 7, 2) := by decide +kernel
theorem dL_isWhole_388 : decode cL_isWhole 388 = .ok (.if_icmp .ge 5, 3) := by decide +kernel
theorem dL_isWhole_391 : decode cL_isWhole 391 = .ok (.iconst 0, 1) := by decide +kernel
theorem dL_isWhole_392 : decode cL_isWhole 392 = .ok (.ireturn, 1) := by decide +kernel
theorem dL_isWhole_393 : decode cL_isWhole 393 = .ok (.iconst 0, 1) := by decide +kernel
theorem dL_isWhole_394 : decode cL_isWhole 394 = .ok (.istore 18, 2) := by decide +kernel
theorem dL_isWhole_396 : decode cL_isWhole 396 = .ok (.iload 18, 2) := by decide +kernel
theorem dL_isWhole_398 : decode cL_isWhole 398 = .ok (.iconst 2, 1) := by decide +kernel
theorem dL_isWhole_399 : decode cL_isWhole 399 = .ok (.if_icmp .ge 119, 3) := by decide +kernel
theorem dL_isWhole_402 : decode cL_isWhole 402 = .ok (.iload 18, 2) := by decide +kernel
theorem dL_isWhole_404 : decode cL_isWhole 404 = .ok (.iconst 1, 1) := by decide +kernel
theorem dL_isWhole_405 : decode cL_isWhole 405 = .ok (.if_icmp .ne 7, 3) := by decide +kernel
theorem dL_isWhole_408 : decode cL_isWhole 408 = .ok (.iconst 1, 1) := by decide +kernel
theorem dL_isWhole_409 : decode cL_isWhole 409 = .ok (.goto 4, 3) := by decide +kernel
theorem dL_isWhole_412 : decode cL_isWhole 412 = .ok (.iconst 0, 1) := by decide +kernel
theorem dL_isWhole_413 : decode cL_isWhole 413 = .ok (.istore 19, 2) := by decide +kernel
theorem dL_isWhole_415 : decode cL_isWhole 415 = .ok (.iload_n 3, 1) := by decide +kernel
theorem dL_isWhole_416 : decode cL_isWhole 416 = .ok (.aload_n 0, 1) := by decide +kernel
theorem dL_isWhole_417 : decode cL_isWhole 417 = .ok (.iload 10, 2) := by decide +kernel
theorem dL_isWhole_419 : decode cL_isWhole 419 = .ok (.iload 19, 2) := by decide +kernel
theorem dL_isWhole_421 : decode cL_isWhole 421 = .ok (.iconst 5, 1) := by decide +kernel
theorem dL_isWhole_422 : decode cL_isWhole 422 = .ok (.invokestatic 205, 3) := by decide +kernel
theorem dL_isWhole_425 : decode cL_isWhole 425 = .ok (.iadd, 1) := by decide +kernel
theorem dL_isWhole_426 : decode cL_isWhole 426 = .ok (.istore_n 3, 1) := by decide +kernel
theorem dL_isWhole_427 : decode cL_isWhole 427 = .ok (.iload 4, 2) := by decide +kernel
theorem dL_isWhole_429 : decode cL_isWhole 429 = .ok (.aload_n 0, 1) := by decide +kernel
theorem dL_isWhole_430 : decode cL_isWhole 430 = .ok (.iload 10, 2) := by decide +kernel
theorem dL_isWhole_432 : decode cL_isWhole 432 = .ok (.iload 19, 2) := by decide +kernel
theorem dL_isWhole_434 : decode cL_isWhole 434 = .ok (.iconst 0, 1) := by decide +kernel
theorem dL_isWhole_435 : decode cL_isWhole 435 = .ok (.invokestatic 205, 3) := by decide +kernel
theorem dL_isWhole_438 : decode cL_isWhole 438 = .ok (.iadd, 1) := by decide +kernel
theorem dL_isWhole_439 : decode cL_isWhole 439 = .ok (.istore 4, 2) := by decide +kernel
theorem dL_isWhole_441 : decode cL_isWhole 441 = .ok (.iload 5, 2) := by decide +kernel
theorem dL_isWhole_443 : decode cL_isWhole 443 = .ok (.aload_n 0, 1) := by decide +kernel
theorem dL_isWhole_444 : decode cL_isWhole 444 = .ok (.iload 10, 2) := by decide +kernel
theorem dL_isWhole_446 : decode cL_isWhole 446 = .ok (.iload 19, 2) := by decide +kernel
theorem dL_isWhole_448 : decode cL_isWhole 448 = .ok (.iconst 4, 1) := by decide +kernel
theorem dL_isWhole_449 : decode cL_isWhole 449 = .ok (.invokestatic 205, 3) := by decide +kernel
theorem dL_isWhole_452 : decode cL_isWhole 452 = .ok (.iadd, 1) := by decide +kernel
theorem dL_isWhole_453 : decode cL_isWhole 453 = .ok (.istore 5, 2) := by decide +kernel
theorem dL_isWhole_455 : decode cL_isWhole 455 = .ok (.iload 6, 2) := by decide +kernel
theorem dL_isWhole_457 : decode cL_isWhole 457 = .ok (.aload_n 0, 1) := by decide +kernel
theorem dL_isWhole_458 : decode cL_isWhole 458 = .ok (.iload 10, 2) := by decide +kernel
theorem dL_isWhole_460 : decode cL_isWhole 460 = .ok (.iload 19, 2) := by decide +kernel
theorem dL_isWhole_462 : decode cL_isWhole 462 = .ok (.iconst 2, 1) := by decide +kernel
theorem dL_isWhole_463 : decode cL_isWhole 463 = .ok (.invokestatic 205, 3) := by decide +kernel
theorem dL_isWhole_466 : decode cL_isWhole 466 = .ok (.iadd, 1) := by decide +kernel
theorem dL_isWhole_467 : decode cL_isWhole 467 = .ok (.istore 6, 2) := by decide +kernel
theorem dL_isWhole_469 : decode cL_isWhole 469 = .ok (.iload 7, 2) := by decide +kernel
theorem dL_isWhole_471 : decode cL_isWhole 471 = .ok (.aload_n 0, 1) := by decide +kernel
theorem dL_isWhole_472 : decode cL_isWhole 472 = .ok (.iload 10, 2) := by decide +kernel
theorem dL_isWhole_474 : decode cL_isWhole 474 = .ok (.iload 19, 2) := by decide +kernel
theorem dL_isWhole_476 : decode cL_isWhole 476 = .ok (.iconst 0, 1) := by decide +kernel
theorem dL_isWhole_477 : decode cL_isWhole 477 = .ok (.invokestatic 205, 3) := by decide +kernel
theorem dL_isWhole_480 : decode cL_isWhole 480 = .ok (.iconst 1, 1) := by decide +kernel
theorem dL_isWhole_481 : decode cL_isWhole 481 = .ok (.if_icmp .ne 27, 3) := by decide +kernel
theorem dL_isWhole_484 : decode cL_isWhole 484 = .ok (.aload_n 0, 1) := by decide +kernel
theorem dL_isWhole_485 : decode cL_isWhole 485 = .ok (.iload 10, 2) := by decide +kernel
theorem dL_isWhole_487 : decode cL_isWhole 487 = .ok (.iload 19, 2) := by decide +kernel
theorem dL_isWhole_489 : decode cL_isWhole 489 = .ok (.bipush 7, 2) := by decide +kernel
theorem dL_isWhole_491 : decode cL_isWhole 491 = .ok (.invokestatic 205, 3) := by decide +kernel
theorem dL_isWhole_494 : decode cL_isWhole 494 = .ok (.aload_n 0, 1) := by decide +kernel
theorem dL_isWhole_495 : decode cL_isWhole 495 = .ok (.iload 10, 2) := by decide +kernel
theorem dL_isWhole_497 : decode cL_isWhole 497 = .ok (.iconst 0, 1) := by decide +kernel
theorem dL_isWhole_498 : decode cL_isWhole 498 = .ok (.invokestatic 302, 3) := by decide +kernel
theorem dL_isWhole_501 : decode cL_isWhole 501 = .ok (.if_icmp .ne 7, 3) := by decide +kernel
theorem dL_isWhole_504 : decode cL_isWhole 504 = .ok (.iconst 1, 1) := by decide +kernel
theorem dL_isWhole_505 : decode cL_isWhole 505 = .ok (.goto 4, 3) := by decide +kernel
theorem dL_isWhole_508 : decode cL_isWhole 508 = .ok (.iconst 0, 1) := by decide +kernel
theorem dL_isWhole_509 : decode cL_isWhole 509 = .ok (.iadd, 1) := by decide +kernel
theorem dL_isWhole_510 : decode cL_isWhole 510 = .ok (.istore 7, 2) := by decide +kernel
theorem dL_isWhole_512 : decode cL_isWhole 512 = .ok (.iinc 18 1, 3) := by decide +kernel
theorem dL_isWhole_515 : decode cL_isWhole 515 = .ok (.goto (-119), 3) := by decide +kernel
theorem dL_isWhole_518 : decode cL_isWhole 518 = .ok (.iload_n 2, 1) := by decide +kernel
theorem dL_isWhole_519 : decode cL_isWhole 519 = .ok (.iload 11, 2) := by decide +kernel
theorem dL_isWhole_521 : decode cL_isWhole 521 = .ok (.ifCond .eq 7, 3) := by decide +kernel
theorem dL_isWhole_524 : decode cL_isWhole 524 = .ok (.iconst 0, 1) := by decide +kernel
theorem dL_isWhole_525 : decode cL_isWhole 525 = .ok (.goto 4, 3) := by decide +kernel
theorem dL_isWhole_528 : decode cL_isWhole 528 = .ok (.iconst 1, 1) := by decide +kernel
theorem dL_isWhole_529 : decode cL_isWhole 529 = .ok (.iadd, 1) := by decide +kernel
theorem dL_isWhole_530 : decode cL_isWhole 530 = .ok (.istore_n 2, 1) := by decide +kernel
theorem dL_isWhole_531 : decode cL_isWhole 531 = .ok (.iload 8, 2) := by decide +kernel
theorem dL_isWhole_533 : decode cL_isWhole 533 = .ok (.aload_n 0, 1) := by decide +kernel
theorem dL_isWhole_534 : decode cL_isWhole 534 = .ok (.iload 10, 2) := by decide +kernel
theorem dL_isWhole_536 : decode cL_isWhole 536 = .ok (.iconst 0, 1) := by decide +kernel
theorem dL_isWhole_537 : decode cL_isWhole 537 = .ok (.invokestatic 302, 3) := by decide +kernel
theorem dL_isWhole_540 : decode cL_isWhole 540 = .ok (.iadd, 1) := by decide +kernel
theorem dL_isWhole_541 : decode cL_isWhole 541 = .ok (.istore 8, 2) := by decide +kernel
theorem dL_isWhole_543 : decode cL_isWhole 543 = .ok (.iload 9, 2) := by decide +kernel
theorem dL_isWhole_545 : decode cL_isWhole 545 = .ok (.sipush 840, 3) := by decide +kernel
theorem dL_isWhole_548 : decode cL_isWhole 548 = .ok (.aload_n 0, 1) := by decide +kernel
theorem dL_isWhole_549 : decode cL_isWhole 549 = .ok (.iload 10, 2) := by decide +kernel
theorem dL_isWhole_551 : decode cL_isWhole 551 = .ok (.invokestatic 316, 3) := by decide +kernel
theorem dL_isWhole_554 : decode cL_isWhole 554 = .ok (.idiv, 1) := by decide +kernel
theorem dL_isWhole_555 : decode cL_isWhole 555 = .ok (.iadd, 1) := by decide +kernel
theorem dL_isWhole_556 : decode cL_isWhole 556 = .ok (.istore 9, 2) := by decide +kernel
theorem dL_isWhole_558 : decode cL_isWhole 558 = .ok (.iinc 10 1, 3) := by decide +kernel
theorem dL_isWhole_561 : decode cL_isWhole 561 = .ok (.goto (-530), 3) := by decide +kernel
theorem dL_isWhole_564 : decode cL_isWhole 564 = .ok (.iconst 0, 1) := by decide +kernel
theorem dL_isWhole_565 : decode cL_isWhole 565 = .ok (.istore 10, 2) := by decide +kernel
theorem dL_isWhole_567 : decode cL_isWhole 567 = .ok (.iload 10, 2) := by decide +kernel
theorem dL_isWhole_569 : decode cL_isWhole 569 = .ok (.iconst 3, 1) := by decide +kernel
theorem dL_isWhole_570 : decode cL_isWhole 570 = .ok (.if_icmp .ge 84, 3) := by decide +kernel
theorem dL_isWhole_573 : decode cL_isWhole 573 = .ok (.iconst 1, 1) := by decide +kernel
theorem dL_isWhole_574 : decode cL_isWhole 574 = .ok (.istore 11, 2) := by decide +kernel
theorem dL_isWhole_576 : decode cL_isWhole 576 = .ok (.iload 11, 2) := by decide +kernel
theorem dL_isWhole_578 : decode cL_isWhole 578 = .ok (.iload_n 1, 1) := by decide +kernel
theorem dL_isWhole_579 : decode cL_isWhole 579 = .ok (.if_icmp .ge 69, 3) := by decide +kernel
theorem dL_isWhole_582 : decode cL_isWhole 582 = .ok (.aload_n 0, 1) := by decide +kernel
theorem dL_isWhole_583 : decode cL_isWhole 583 = .ok (.iload 10, 2) := by decide +kernel
theorem dL_isWhole_585 : decode cL_isWhole 585 = .ok (.iload 11, 2) := by decide +kernel
theorem dL_isWhole_587 : decode cL_isWhole 587 = .ok (.iconst 1, 1) := by decide +kernel
theorem dL_isWhole_588 : decode cL_isWhole 588 = .ok (.isub, 1) := by decide +kernel
theorem dL_isWhole_589 : decode cL_isWhole 589 = .ok (.invokestatic 333, 3) := by decide +kernel
theorem dL_isWhole_592 : decode cL_isWhole 592 = .ok (.istore 12, 2) := by decide +kernel
theorem dL_isWhole_594 : decode cL_isWhole 594 = .ok (.aload_n 0, 1) := by decide +kernel
theorem dL_isWhole_595 : decode cL_isWhole 595 = .ok (.iload 10, 2) := by decide +kernel
theorem dL_isWhole_597 : decode cL_isWhole 597 = .ok (.iload 11, 2) := by decide +kernel
theorem dL_isWhole_599 : decode cL_isWhole 599 = .ok (.invokestatic 333, 3) := by decide +kernel
theorem dL_isWhole_602 : decode cL_isWhole 602 = .ok (.istore 13, 2) := by decide +kernel
theorem dL_isWhole_604 : decode cL_isWhole 604 = .ok (.aload_n 0, 1) := by decide +kernel
theorem dL_isWhole_605 : decode cL_isWhole 605 = .ok (.iload 10, 2) := by decide +kernel
theorem dL_isWhole_607 : decode cL_isWhole 607 = .ok (.iload 12, 2) := by decide +kernel
theorem dL_isWhole_609 : decode cL_isWhole 609 = .ok (.invokestatic 335, 3) := by decide +kernel
theorem dL_isWhole_612 : decode cL_isWhole 612 = .ok (.aload_n 0, 1) := by decide +kernel
theorem dL_isWhole_613 : decode cL_isWhole 613 = .ok (.iload 10, 2) := by decide +kernel
theorem dL_isWhole_615 : decode cL_isWhole 615 = .ok (.iload 13, 2) := by decide +kernel
theorem dL_isWhole_617 : decode cL_isWhole 617 = .ok (.invokestatic 335, 3) := by decide +kernel
theorem dL_isWhole_620 : decode cL_isWhole 620 = .ok (.isub, 1) := by decide +kernel
theorem dL_isWhole_621 : decode cL_isWhole 621 = .ok (.istore 14, 2) := by decide +kernel
theorem dL_isWhole_623 : decode cL_isWhole 623 = .ok (.iload 14, 2) := by decide +kernel
theorem dL_isWhole_625 : decode cL_isWhole 625 = .ok (.ifCond .lt 15, 3) := by decide +kernel
theorem dL_isWhole_628 : decode cL_isWhole 628 = .ok (.iload 14, 2) := by decide +kernel
theorem dL_isWhole_630 : decode cL_isWhole 630 = .ok (.ifCond .ne 12, 3) := by decide +kernel
theorem dL_isWhole_633 : decode cL_isWhole 633 = .ok (.iload 12, 2) := by decide +kernel
theorem dL_isWhole_635 : decode cL_isWhole 635 = .ok (.iload 13, 2) := by decide +kernel
theorem dL_isWhole_637 : decode cL_isWhole 637 = .ok (.if_icmp .le 5, 3) := by decide +kernel
theorem dL_isWhole_640 : decode cL_isWhole 640 = .ok (.iconst 0, 1) := by decide +kernel
theorem dL_isWhole_641 : decode cL_isWhole 641 = .ok (.ireturn, 1) := by decide +kernel
theorem dL_isWhole_642 : decode cL_isWhole 642 = .ok (.iinc 11 1, 3) := by decide +kernel
theorem dL_isWhole_645 : decode cL_isWhole 645 = .ok (.goto (-69), 3) := by decide +kernel
theorem dL_isWhole_648 : decode cL_isWhole 648 = .ok (.iinc 10 1, 3) := by decide +kernel
theorem dL_isWhole_651 : decode cL_isWhole 651 = .ok (.goto (-84), 3) := by decide +kernel
theorem dL_isWhole_654 : decode cL_isWhole 654 = .ok (.iconst 0, 1) := by decide +kernel
theorem dL_isWhole_655 : decode cL_isWhole 655 = .ok (.istore 10, 2) := by decide +kernel
theorem dL_isWhole_657 : decode cL_isWhole 657 = .ok (.bipush 97, 2) := by decide +kernel
theorem dL_isWhole_659 : decode cL_isWhole 659 = .ok (.istore 11, 2) := by decide +kernel
theorem dL_isWhole_661 : decode cL_isWhole 661 = .ok (.iload 11, 2) := by decide +kernel
theorem dL_isWhole_663 : decode cL_isWhole 663 = .ok (.bipush 122, 2) := by decide +kernel
theorem dL_isWhole_665 : decode cL_isWhole 665 = .ok (.if_icmp .gt 28, 3) := by decide +kernel
theorem dL_isWhole_668 : decode cL_isWhole 668 = .ok (.iload 10, 2) := by decide +kernel
theorem dL_isWhole_670 : decode cL_isWhole 670 = .ok (.iconst 0, 1) := by decide +kernel
theorem dL_isWhole_671 : decode cL_isWhole 671 = .ok (.aload_n 0, 1) := by decide +kernel
theorem dL_isWhole_672 : decode cL_isWhole 672 = .ok (.iload 11, 2) := by decide +kernel
theorem dL_isWhole_674 : decode cL_isWhole 674 = .ok (.invokestatic 338, 3) := by decide +kernel
theorem dL_isWhole_677 : decode cL_isWhole 677 = .ok (.invokestatic 322, 3) := by decide +kernel
theorem dL_isWhole_680 : decode cL_isWhole 680 = .ok (.iadd, 1) := by decide +kernel
theorem dL_isWhole_681 : decode cL_isWhole 681 = .ok (.istore 10, 2) := by decide +kernel
theorem dL_isWhole_683 : decode cL_isWhole 683 = .ok (.iload 11, 2) := by decide +kernel
theorem dL_isWhole_685 : decode cL_isWhole 685 = .ok (.iconst 1, 1) := by decide +kernel
theorem dL_isWhole_686 : decode cL_isWhole 686 = .ok (.iadd, 1) := by decide +kernel
theorem dL_isWhole_687 : decode cL_isWhole 687 = .ok (.i2c, 1) := by decide +kernel
theorem dL_isWhole_688 : decode cL_isWhole 688 = .ok (.istore 11, 2) := by decide +kernel
theorem dL_isWhole_690 : decode cL_isWhole 690 = .ok (.goto (-29), 3) := by decide +kernel
theorem dL_isWhole_693 : decode cL_isWhole 693 = .ok (.aload_n 0, 1) := by decide +kernel
theorem dL_isWhole_694 : decode cL_isWhole 694 = .ok (.iconst 4, 1) := by decide +kernel
theorem dL_isWhole_695 : decode cL_isWhole 695 = .ok (.invokestatic 189, 3) := by decide +kernel
theorem dL_isWhole_698 : decode cL_isWhole 698 = .ok (.iload_n 2, 1) := by decide +kernel
theorem dL_isWhole_699 : decode cL_isWhole 699 = .ok (.if_icmp .ne 110, 3) := by decide +kernel
theorem dL_isWhole_702 : decode cL_isWhole 702 = .ok (.aload_n 0, 1) := by decide +kernel
theorem dL_isWhole_703 : decode cL_isWhole 703 = .ok (.iconst 5, 1) := by decide +kernel
theorem dL_isWhole_704 : decode cL_isWhole 704 = .ok (.invokestatic 189, 3) := by decide +kernel
theorem dL_isWhole_707 : decode cL_isWhole 707 = .ok (.iload_n 3, 1) := by decide +kernel
theorem dL_isWhole_708 : decode cL_isWhole 708 = .ok (.if_icmp .ne 101, 3) := by decide +kernel
theorem dL_isWhole_711 : decode cL_isWhole 711 = .ok (.aload_n 0, 1) := by decide +kernel
theorem dL_isWhole_712 : decode cL_isWhole 712 = .ok (.bipush 6, 2) := by decide +kernel
theorem dL_isWhole_714 : decode cL_isWhole 714 = .ok (.invokestatic 189, 3) := by decide +kernel
theorem dL_isWhole_717 : decode cL_isWhole 717 = .ok (.iload 4, 2) := by decide +kernel
theorem dL_isWhole_719 : decode cL_isWhole 719 = .ok (.if_icmp .ne 90, 3) := by decide +kernel
theorem dL_isWhole_722 : decode cL_isWhole 722 = .ok (.aload_n 0, 1) := by decide +kernel
theorem dL_isWhole_723 : decode cL_isWhole 723 = .ok (.bipush 7, 2) := by decide +kernel
theorem dL_isWhole_725 : decode cL_isWhole 725 = .ok (.invokestatic 189, 3) := by decide +kernel
theorem dL_isWhole_728 : decode cL_isWhole 728 = .ok (.iload 5, 2) := by decide +kernel
theorem dL_isWhole_730 : decode cL_isWhole 730 = .ok (.if_icmp .ne 79, 3) := by decide +kernel
theorem dL_isWhole_733 : decode cL_isWhole 733 = .ok (.aload_n 0, 1) := by decide +kernel
theorem dL_isWhole_734 : decode cL_isWhole 734 = .ok (.bipush 8, 2) := by decide +kernel
theorem dL_isWhole_736 : decode cL_isWhole 736 = .ok (.invokestatic 189, 3) := by decide +kernel
theorem dL_isWhole_739 : decode cL_isWhole 739 = .ok (.iload_n 1, 1) := by decide +kernel
theorem dL_isWhole_740 : decode cL_isWhole 740 = .ok (.if_icmp .lt 69, 3) := by decide +kernel
theorem dL_isWhole_743 : decode cL_isWhole 743 = .ok (.aload_n 0, 1) := by decide +kernel
theorem dL_isWhole_744 : decode cL_isWhole 744 = .ok (.bipush 10, 2) := by decide +kernel
theorem dL_isWhole_746 : decode cL_isWhole 746 = .ok (.invokestatic 189, 3) := by decide +kernel
theorem dL_isWhole_749 : decode cL_isWhole 749 = .ok (.aload_n 0, 1) := by decide +kernel
theorem dL_isWhole_750 : decode cL_isWhole 750 = .ok (.bipush 9, 2) := by decide +kernel
theorem dL_isWhole_752 : decode cL_isWhole 752 = .ok (.invokestatic 189, 3) := by decide +kernel
theorem dL_isWhole_755 : decode cL_isWhole 755 = .ok (.if_icmp .gt 54, 3) := by decide +kernel
theorem dL_isWhole_758 : decode cL_isWhole 758 = .ok (.aload_n 0, 1) := by decide +kernel
theorem dL_isWhole_759 : decode cL_isWhole 759 = .ok (.bipush 11, 2) := by decide +kernel
theorem dL_isWhole_761 : decode cL_isWhole 761 = .ok (.invokestatic 189, 3) := by decide +kernel
theorem dL_isWhole_764 : decode cL_isWhole 764 = .ok (.iload 5, 2) := by decide +kernel
theorem dL_isWhole_766 : decode cL_isWhole 766 = .ok (.if_icmp .lt 43, 3) := by decide +kernel
theorem dL_isWhole_769 : decode cL_isWhole 769 = .ok (.iload 10, 2) := by decide +kernel
theorem dL_isWhole_771 : decode cL_isWhole 771 = .ok (.iload 8, 2) := by decide +kernel
theorem dL_isWhole_773 : decode cL_isWhole 773 = .ok (.if_icmp .ne 36, 3) := by decide +kernel
theorem dL_isWhole_776 : decode cL_isWhole 776 = .ok (.sipush 840, 3) := by decide +kernel
theorem dL_isWhole_779 : decode cL_isWhole 779 = .ok (.aload_n 0, 1) := by decide +kernel
theorem dL_isWhole_780 : decode cL_isWhole 780 = .ok (.invokevirtual 340, 3) := by decide +kernel
theorem dL_isWhole_783 : decode cL_isWhole 783 = .ok (.imul, 1) := by decide +kernel
theorem dL_isWhole_784 : decode cL_isWhole 784 = .ok (.iload 9, 2) := by decide +kernel
theorem dL_isWhole_786 : decode cL_isWhole 786 = .ok (.if_icmp .ne 23, 3) := by decide +kernel
theorem dL_isWhole_789 : decode cL_isWhole 789 = .ok (.aload_n 0, 1) := by decide +kernel
theorem dL_isWhole_790 : decode cL_isWhole 790 = .ok (.iconst 1, 1) := by decide +kernel
theorem dL_isWhole_791 : decode cL_isWhole 791 = .ok (.invokestatic 189, 3) := by decide +kernel
theorem dL_isWhole_794 : decode cL_isWhole 794 = .ok (.bipush 6, 2) := by decide +kernel
theorem dL_isWhole_796 : decode cL_isWhole 796 = .ok (.if_icmp .gt 13, 3) := by decide +kernel
theorem dL_isWhole_799 : decode cL_isWhole 799 = .ok (.iload_n 1, 1) := by decide +kernel
theorem dL_isWhole_800 : decode cL_isWhole 800 = .ok (.bipush 8, 2) := by decide +kernel
theorem dL_isWhole_802 : decode cL_isWhole 802 = .ok (.if_icmp .gt 7, 3) := by decide +kernel
theorem dL_isWhole_805 : decode cL_isWhole 805 = .ok (.iconst 1, 1) := by decide +kernel
theorem dL_isWhole_806 : decode cL_isWhole 806 = .ok (.goto 4, 3) := by decide +kernel
theorem dL_isWhole_809 : decode cL_isWhole 809 = .ok (.iconst 0, 1) := by decide +kernel
theorem dL_isWhole_810 : decode cL_isWhole 810 = .ok (.istore 11, 2) := by decide +kernel
theorem dL_isWhole_812 : decode cL_isWhole 812 = .ok (.iload_n 1, 1) := by decide +kernel
theorem dL_isWhole_813 : decode cL_isWhole 813 = .ok (.ifCond .ne 9, 3) := by decide +kernel
theorem dL_isWhole_816 : decode cL_isWhole 816 = .ok (.ldc2_w 134, 3) := by decide +kernel
theorem dL_isWhole_819 : decode cL_isWhole 819 = .ok (.goto 11, 3) := by decide +kernel
theorem dL_isWhole_822 : decode cL_isWhole 822 = .ok (.iload 6, 2) := by decide +kernel
theorem dL_isWhole_824 : decode cL_isWhole 824 = .ok (.i2d, 1) := by decide +kernel
theorem dL_isWhole_825 : decode cL_isWhole 825 = .ok (.iconst 2, 1) := by decide +kernel
theorem dL_isWhole_826 : decode cL_isWhole 826 = .ok (.iload_n 1, 1) := by decide +kernel
theorem dL_isWhole_827 : decode cL_isWhole 827 = .ok (.imul, 1) := by decide +kernel
theorem dL_isWhole_828 : decode cL_isWhole 828 = .ok (.i2d, 1) := by decide +kernel
theorem dL_isWhole_829 : decode cL_isWhole 829 = .ok (.ddiv, 1) := by decide +kernel
theorem dL_isWhole_830 : decode cL_isWhole 830 = .ok (.dstore 12, 2) := by decide +kernel
theorem dL_isWhole_832 : decode cL_isWhole 832 = .ok (.iload 4, 2) := by decide +kernel
theorem dL_isWhole_834 : decode cL_isWhole 834 = .ok (.ifCond .ne 8, 3) := by decide +kernel
theorem dL_isWhole_837 : decode cL_isWhole 837 = .ok (.ldc 140, 2) := by decide +kernel
theorem dL_isWhole_839 : decode cL_isWhole 839 = .ok (.goto 10, 3) := by decide +kernel
theorem dL_isWhole_842 : decode cL_isWhole 842 = .ok (.iload 7, 2) := by decide +kernel
theorem dL_isWhole_844 : decode cL_isWhole 844 = .ok (.i2f, 1) := by decide +kernel
theorem dL_isWhole_845 : decode cL_isWhole 845 = .ok (.iload 4, 2) := by decide +kernel
theorem dL_isWhole_847 : decode cL_isWhole 847 = .ok (.i2f, 1) := by decide +kernel
theorem dL_isWhole_848 : decode cL_isWhole 848 = .ok (.fdiv, 1) := by decide +kernel
theorem dL_isWhole_849 : decode cL_isWhole 849 = .ok (.fstore 14, 2) := by decide +kernel
theorem dL_isWhole_851 : decode cL_isWhole 851 = .ok (.iload 11, 2) := by decide +kernel
theorem dL_isWhole_853 : decode cL_isWhole 853 = .ok (.ifCond .eq 45, 3) := by decide +kernel
theorem dL_isWhole_856 : decode cL_isWhole 856 = .ok (.aload_n 0, 1) := by decide +kernel
theorem dL_isWhole_857 : decode cL_isWhole 857 = .ok (.invokestatic 343, 3) := by decide +kernel
theorem dL_isWhole_860 : decode cL_isWhole 860 = .ok (.dload 12, 2) := by decide +kernel
theorem dL_isWhole_862 : decode cL_isWhole 862 = .ok (.dcmp .l, 1) := by decide +kernel
theorem dL_isWhole_863 : decode cL_isWhole 863 = .ok (.ifCond .ne 35, 3) := by decide +kernel
theorem dL_isWhole_866 : decode cL_isWhole 866 = .ok (.aload_n 0, 1) := by decide +kernel
theorem dL_isWhole_867 : decode cL_isWhole 867 = .ok (.invokestatic 346, 3) := by decide +kernel
theorem dL_isWhole_870 : decode cL_isWhole 870 = .ok (.fload 14, 2) := by decide +kernel
theorem dL_isWhole_872 : decode cL_isWhole 872 = .ok (.fcmp .l, 1) := by decide +kernel
theorem dL_isWhole_873 : decode cL_isWhole 873 = .ok (.ifCond .ne 25, 3) := by decide +kernel
theorem dL_isWhole_876 : decode cL_isWhole 876 = .ok (.aload_n 0, 1) := by decide +kernel
theorem dL_isWhole_877 : decode cL_isWhole 877 = .ok (.invokevirtual 349, 3) := by decide +kernel
theorem dL_isWhole_880 : decode cL_isWhole 880 = .ok (.ifCond .eq 18, 3) := by decide +kernel
theorem dL_isWhole_883 : decode cL_isWhole 883 = .ok (.aload_n 0, 1) := by decide +kernel
theorem dL_isWhole_884 : decode cL_isWhole 884 = .ok (.iconst 0, 1) := by decide +kernel
theorem dL_isWhole_885 : decode cL_isWhole 885 = .ok (.iload_n 1, 1) := by decide +kernel
theorem dL_isWhole_886 : decode cL_isWhole 886 = .ok (.invokestatic 333, 3) := by decide +kernel
theorem dL_isWhole_889 : decode cL_isWhole 889 = .ok (.bipush (-75), 2) := by decide +kernel
theorem dL_isWhole_891 : decode cL_isWhole 891 = .ok (.if_icmp .ne 7, 3) := by decide +kernel
theorem dL_isWhole_894 : decode cL_isWhole 894 = .ok (.iconst 1, 1) := by decide +kernel
theorem dL_isWhole_895 : decode cL_isWhole 895 = .ok (.goto 4, 3) := by decide +kernel
theorem dL_isWhole_898 : decode cL_isWhole 898 = .ok (.iconst 0, 1) := by decide +kernel
theorem dL_isWhole_899 : decode cL_isWhole 899 = .ok (.ireturn, 1) := by decide +kernel
theorem h9_L_isWhole : yL_isWhole.cls ≠ "java/lang/invoke/MethodHandle" ∧ yL_isWhole.cls ≠ "java/lang/invoke/VarHandle" ∧ (parseMethodDescriptor yL_isWhole.desc).map (fun d => d.parameters.length) = some 1 := by decide +kernel
noncomputable def F_L_isWhole (a0 : Nat) (w : FW) : Option (Int32 × FW) :=
  (F_L_account a0 0 w).bind (fun r1 => (fLoopB (σ := Int32 × Int32 × Int32 × Int32 × Int32 × Int32 × Int32 × Int32 × Int32 × FW) (ρ := (Int32 × Int32 × Int32 × Int32 × Int32 × Int32 × Int32 × Int32 × FW) ⊕ (Int32 × FW)) (fun s5 => (if r1 ≤ s5.2.2.2.2.2.2.2.2.1 then some (.inr (.inl (s5.1, s5.2.1, s5.2.2.1, s5.2.2.2.1, s5.2.2.2.2.1, s5.2.2.2.2.2.1, s5.2.2.2.2.2.2.1, s5.2.2.2.2.2.2.2.1, s5.2.2.2.2.2.2.2.2.2))) else (F_L_isHalf a0 s5.2.2.2.2.2.2.2.2.1 0 s5.2.2.2.2.2.2.2.2.2).bind (fun r19 => (if r19.1 = 0 then some (.inr (.inr (0, r19.2))) else (F_L_isHalf a0 s5.2.2.2.2.2.2.2.2.1 1 r19.2).bind (fun r24 => (if r24.1 = 0 then some (.inr (.inr (0, r24.2))) else (F_L_ticketOf a0 s5.2.2.2.2.2.2.2.2.1 5 r24.2).bind (fun r29 => ((if r29 = 0 then some 1 else some 0) : Option (Int32)).bind (fun x33 => (F_L_halfOf a0 s5.2.2.2.2.2.2.2.2.1 0 0 r24.2).bind (fun r38 => ((if r38 = 1 then (F_L_halfOf a0 s5.2.2.2.2.2.2.2.2.1 1 0 r24.2).bind (fun r250 => (if r250 = 1 then some 1 else some 0)) else some 0) : Option (Int32)).bind (fun x42 => (fLoopB (σ := Int32 × Int32) (ρ := Int32) (fun s47 => (F_L_ticketOf a0 s5.2.2.2.2.2.2.2.2.1 0 r24.2).bind (fun r60 => (if r60 ≤ s47.2 then some (.inr s47.1) else (if s47.1 = 0 then some (.inr s47.1) else (F_L_readAt a0 s5.2.2.2.2.2.2.2.2.1 0 s47.2 r24.2).bind (fun r66 => (F_L_readAt a0 s5.2.2.2.2.2.2.2.2.1 1 s47.2 r24.2).bind (fun r70 => (if r66 = r70 then some (.inl (1, (s47.2 + 1))) else some (.inl (0, (s47.2 + 1)))))))))) 7 (x42, 0)).bind (fun x53 => (F_L_ticketOf a0 s5.2.2.2.2.2.2.2.2.1 6 r24.2).bind (fun r75 => ((if 0 ≤ r75 then (F_L_ticketOf a0 s5.2.2.2.2.2.2.2.2.1 4 r24.2).bind (fun r237 => (F_L_account a0 2 r24.2).bind (fun r241 => (F_J9_max_7cf53 (-1) ((r237 - r241) + r75) r24.2).bind (fun r245 => some r245))) else some (-75)) : Option (Int32)).bind (fun x79 => (F_L_doAgree a0 s5.2.2.2.2.2.2.2.2.1 0 r24.2).bind (fun r84 => ((if x53 = 0 then some 0 else some 1) : Option (Int32)).bind (fun x88 => ((if r84 = x88 then (F_L_doAgree a0 s5.2.2.2.2.2.2.2.2.1 1 r24.2).bind (fun r196 => ((if x53 = 0 then some 0 else some 1) : Option (Int32)).bind (fun x200 => (if r196 = x200 then (F_L_daysLeft a0 s5.2.2.2.2.2.2.2.2.1 r24.2).bind (fun r206 => (if r206 = x79 then ((if r75 < 0 then some 0 else some 1) : Option (Int32)).bind (fun x211 => (F_L_halfOf a0 s5.2.2.2.2.2.2.2.2.1 0 6 r24.2).bind (fun r216 => ((if r216 = 1 then some 1 else some 0) : Option (Int32)).bind (fun x220 => (if x211 = x220 then (F_L_halfOf a0 s5.2.2.2.2.2.2.2.2.1 1 6 r24.2).bind (fun r226 => (if r226 = 0 then some 1 else (if r75 < 0 then some 0 else some 1))) else some 0)))) else some 0)) else some 0))) else some 0) : Option (Int32)).bind (fun x93 => ((if x33 = 0 then some 1 else (F_L_halfOf a0 s5.2.2.2.2.2.2.2.2.1 0 5 r24.2).bind (fun r176 => (F_L_halfOf a0 s5.2.2.2.2.2.2.2.2.1 1 5 r24.2).bind (fun r180 => (if r176 = r180 then (F_L_halfOf a0 s5.2.2.2.2.2.2.2.2.1 0 2 r24.2).bind (fun r185 => (if 6 ≤ r185 then some 0 else (F_L_halfOf a0 s5.2.2.2.2.2.2.2.2.1 1 2 r24.2).bind (fun r190 => (if 6 ≤ r190 then some 0 else some 1)))) else some 0)))) : Option (Int32)).bind (fun x98 => (if x93 = 0 then some (.inr (.inr (0, r24.2))) else (if x98 = 0 then some (.inr (.inr (0, r24.2))) else (F_L_line a0 s5.2.2.2.2.2.2.2.2.1 r24.2).bind (fun r105 => (if 7 ≤ r105.1 then (fLoopB (σ := Int32 × Int32 × Int32 × Int32 × Int32 × Int32) (ρ := Int32 × Int32 × Int32 × Int32 × Int32) (fun s110 => (if 2 ≤ s110.2.2.2.2.2 then some (.inr (s110.1, s110.2.1, s110.2.2.1, s110.2.2.2.1, s110.2.2.2.2.1)) else ((if s110.2.2.2.2.2 = 1 then some 1 else some 0) : Option (Int32)).bind (fun x124 => (F_L_halfOf a0 s5.2.2.2.2.2.2.2.2.1 x124 5 r105.2).bind (fun r129 => (F_L_halfOf a0 s5.2.2.2.2.2.2.2.2.1 x124 0 r105.2).bind (fun r133 => (F_L_halfOf a0 s5.2.2.2.2.2.2.2.2.1 x124 4 r105.2).bind (fun r137 => (F_L_halfOf a0 s5.2.2.2.2.2.2.2.2.1 x124 2 r105.2).bind (fun r141 => (F_L_halfOf a0 s5.2.2.2.2.2.2.2.2.1 x124 0 r105.2).bind (fun r145 => (if r145 = 1 then (F_L_halfOf a0 s5.2.2.2.2.2.2.2.2.1 x124 7 r105.2).bind (fun r150 => (F_L_ticketOf a0 s5.2.2.2.2.2.2.2.2.1 0 r105.2).bind (fun r154 => (if r150 = r154 then some (.inl ((s110.1 + r129), (s110.2.1 + r133), (s110.2.2.1 + r137), (s110.2.2.2.1 + r141), (s110.2.2.2.2.1 + 1), (s110.2.2.2.2.2 + 1))) else some (.inl ((s110.1 + r129), (s110.2.1 + r133), (s110.2.2.1 + r137), (s110.2.2.2.1 + r141), (s110.2.2.2.2.1 + 0), (s110.2.2.2.2.2 + 1)))))) else some (.inl ((s110.1 + r129), (s110.2.1 + r133), (s110.2.2.1 + r137), (s110.2.2.2.1 + r141), (s110.2.2.2.2.1 + 0), (s110.2.2.2.2.2 + 1)))))))))))) 3 (s5.2.1, s5.2.2.1, s5.2.2.2.1, s5.2.2.2.2.1, s5.2.2.2.2.2.1, 0)).bind (fun x116 => ((if x33 = 0 then some 1 else some 0) : Option (Int32)).bind (fun x160 => (F_L_ticketOf a0 s5.2.2.2.2.2.2.2.2.1 0 r105.2).bind (fun r165 => (F_L_sharing a0 s5.2.2.2.2.2.2.2.2.1 r105.2).bind (fun r169 => fg (¬ r169 = 0) inferInstance (some (.inl ((s5.1 + x160), x116.1, x116.2.1, x116.2.2.1, x116.2.2.2.1, x116.2.2.2.2, (s5.2.2.2.2.2.2.1 + r165), (s5.2.2.2.2.2.2.2.1 + (840 / r169)), (s5.2.2.2.2.2.2.2.2.1 + 1), r105.2))))))) else some (.inr (.inr (0, r105.2)))))))))))))))))))))))) 9 (0, 0, 0, 0, 0, 0, 0, 0, 0, w)).bind (fun x11 => fse x11 (fun z256 => (fLoopB (σ := Int32) (ρ := (Unit) ⊕ (Int32 × FW)) (fun s257 => (if 3 ≤ s257 then some (.inr (.inl ())) else (fLoopB (σ := Int32) (ρ := (Unit) ⊕ (Int32 × FW)) (fun s271 => (if r1 ≤ s271 then some (.inr (.inl ())) else (F_L_ranked a0 s257 (s271 - 1) z256.2.2.2.2.2.2.2.2).bind (fun r285 => (F_L_ranked a0 s257 s271 z256.2.2.2.2.2.2.2.2).bind (fun r289 => (F_L_measure a0 s257 r285 z256.2.2.2.2.2.2.2.2).bind (fun r293 => (F_L_measure a0 s257 r289 z256.2.2.2.2.2.2.2.2).bind (fun r297 => (if (r293 - r297) < 0 then some (.inr (.inr (0, z256.2.2.2.2.2.2.2.2))) else (if (r293 - r297) = 0 then (if r285 ≤ r289 then some (.inl (s271 + 1)) else some (.inr (.inr (0, z256.2.2.2.2.2.2.2.2)))) else some (.inl (s271 + 1)))))))))) 9 1).bind (fun x277 => fse x277 (fun z304 => some (.inl (s257 + 1))) (fun q9 => some (.inr (.inr q9)))))) 4 0).bind (fun x263 => fse x263 (fun z305 => (fLoopB (σ := Int32 × Int32) (ρ := Int32) (fun s306 => (if 122 < s306.2 then some (.inr s306.1) else (F_L_often a0 s306.2 z256.2.2.2.2.2.2.2.2).bind (fun r320 => (F_J9_max_7cf53 0 r320 z256.2.2.2.2.2.2.2.2).bind (fun r324 => some (.inl ((s306.1 + r324), (fch (s306.2 + 1)))))))) 27 (0, 97)).bind (fun x312 => (F_L_account a0 4 z256.2.2.2.2.2.2.2.2).bind (fun r328 => ((if r328 = z256.1 then (F_L_account a0 5 z256.2.2.2.2.2.2.2.2).bind (fun r374 => (if r374 = z256.2.1 then (F_L_account a0 6 z256.2.2.2.2.2.2.2.2).bind (fun r379 => (if r379 = z256.2.2.1 then (F_L_account a0 7 z256.2.2.2.2.2.2.2.2).bind (fun r384 => (if r384 = z256.2.2.2.1 then (F_L_account a0 8 z256.2.2.2.2.2.2.2.2).bind (fun r389 => (if r389 < r1 then some 0 else (F_L_account a0 10 z256.2.2.2.2.2.2.2.2).bind (fun r394 => (F_L_account a0 9 z256.2.2.2.2.2.2.2.2).bind (fun r398 => (if r398 < r394 then some 0 else (F_L_account a0 11 z256.2.2.2.2.2.2.2.2).bind (fun r403 => (if r403 < z256.2.2.2.1 then some 0 else (if x312 = z256.2.2.2.2.2.2.1 then fg (w.1 a0 = 5) inferInstance ((F_X4_words a0 z256.2.2.2.2.2.2.2.2).bind (fun r409 => (if (840 * r409) = z256.2.2.2.2.2.2.2.1 then (F_L_account a0 1 z256.2.2.2.2.2.2.2.2).bind (fun r415 => (if 6 < r415 then some 0 else (if 8 < r1 then some 0 else some 1))) else some 0))) else some 0)))))))) else some 0)) else some 0)) else some 0)) else some 0) : Option (Int32)).bind (fun x332 => ((if r1 = 0 then some (13858279740860792832 : UInt64) else fg ((FP.ddiv (FP.i2d z256.2.2.2.2.1) (FP.i2d (2 * r1))) &&& 0x7fffffffffffffff ≤ 0x7ff0000000000000) inferInstance (some (FP.ddiv (FP.i2d z256.2.2.2.2.1) (FP.i2d (2 * r1))))) : Option (UInt64)).bind (fun x337 => ((if z256.2.2.1 = 0 then some (3264479232 : UInt32) else fg ((FP.fdiv (FP.i2f z256.2.2.2.2.2.1) (FP.i2f z256.2.2.1)) &&& 0x7fffffff ≤ 0x7f800000) inferInstance (some (FP.fdiv (FP.i2f z256.2.2.2.2.2.1) (FP.i2f z256.2.2.1)))) : Option (UInt32)).bind (fun x342 => (if x332 = 0 then some (0, z256.2.2.2.2.2.2.2.2) else (F_L_meanWet a0 z256.2.2.2.2.2.2.2.2).bind (fun r348 => (if (Op.cmpValue (FP.dcmp r348 x337) .l) = 0 then (F_L_readShare a0 z256.2.2.2.2.2.2.2.2).bind (fun r353 => (if (Op.cmpValue (FP.fcmp r353 x342) .l) = 0 then fg (w.1 a0 = 5) inferInstance ((F_X4_isRight a0 z256.2.2.2.2.2.2.2.2).bind (fun r358 => (if r358 = 0 then some (0, z256.2.2.2.2.2.2.2.2) else (F_L_ranked a0 0 r1 z256.2.2.2.2.2.2.2.2).bind (fun r364 => (if r364 = (-75) then some (1, z256.2.2.2.2.2.2.2.2) else some (0, z256.2.2.2.2.2.2.2.2)))))) else some (0, z256.2.2.2.2.2.2.2.2))) else some (0, z256.2.2.2.2.2.2.2.2)))))))))) (fun q9 => some q9))) (fun q9 => some q9)))
set_option maxHeartbeats 4000000 in
set_option maxRecDepth 100000 in
theorem c_L_isWhole (l : Launch) (D : va_G) (cy : Nat → ClassId) (a0 : Nat) (w : FW) (r : Int32 × FW) (hF : F_L_isWhole a0 w = some r) : lSpec l D cy yL_isWhole (.code yL_isWhole cL_isWhole 20 (some .boolean)) { frames := 10, cells := 2792, slots := 16752, locals := 243 } [.ref a0] gE0 none w r.2 (some (.int r.1)) := by
  refine l_begin (by decide +kernel) (Nat.le_of_ble_eq_true rfl) (fun X h hC hEn hL => ?_)
  unfold F_L_isWhole at hF
  show gAt X 0 0 20 w h gE0 [(0, .ref a0)] [] 0
  refine g_aload_n hC dL_isWhole_0 rfl 0 rfl ?_
  refine g_iconst (v := 0) hC dL_isWhole_1 (by decide) ?_
  obtain ⟨r1, h2, hF⟩ := fb_open hF
  refine g_callLW hC hL [.ref a0, .int 0] (c_L_account l D cy a0 0 w r1 h2) (Or.inl rfl) (fun _ _ h => nomatch h) q_597 q_72 q_595 q_596 h9_L_account ⟨Nat.le_of_ble_eq_true rfl, Nat.le_of_ble_eq_true rfl⟩ ⟨Nat.le_of_ble_eq_true rfl, Nat.le_of_ble_eq_true rfl⟩ (Nat.le_of_ble_eq_true rfl) rfl dL_isWhole_2 (fun z4 _ e3 => ?_)
  show gAt X 1 6 20 w z4 gE0 [(0, .ref a0)] [.int r1] 5
  refine g_istore_n (L' := [(1, .int r1), (0, .ref a0)]) hC dL_isWhole_5 rfl (by decide) rfl ?_
  refine g_iconst (v := 0) hC dL_isWhole_6 (by decide) ?_
  refine g_istore_n (L' := [(2, .int 0), (1, .int r1), (0, .ref a0)]) hC dL_isWhole_7 rfl (by decide) rfl ?_
  refine g_iconst (v := 0) hC dL_isWhole_8 (by decide) ?_
  refine g_istore_n (L' := [(3, .int 0), (2, .int 0), (1, .int r1), (0, .ref a0)]) hC dL_isWhole_9 rfl (by decide) rfl ?_
  refine g_iconst (v := 0) hC dL_isWhole_10 (by decide) ?_
  refine g_istore (L' := [(4, .int 0), (3, .int 0), (2, .int 0), (1, .int r1), (0, .ref a0)]) hC dL_isWhole_11 (by decide) rfl ?_
  refine g_iconst (v := 0) hC dL_isWhole_13 (by decide) ?_
  refine g_istore (L' := [(5, .int 0), (4, .int 0), (3, .int 0), (2, .int 0), (1, .int r1), (0, .ref a0)]) hC dL_isWhole_14 (by decide) rfl ?_
  refine g_iconst (v := 0) hC dL_isWhole_16 (by decide) ?_
  refine g_istore (L' := [(6, .int 0), (5, .int 0), (4, .int 0), (3, .int 0), (2, .int 0), (1, .int r1), (0, .ref a0)]) hC dL_isWhole_17 (by decide) rfl ?_
  refine g_iconst (v := 0) hC dL_isWhole_19 (by decide) ?_
  refine g_istore (L' := [(7, .int 0), (6, .int 0), (5, .int 0), (4, .int 0), (3, .int 0), (2, .int 0), (1, .int r1), (0, .ref a0)]) hC dL_isWhole_20 (by decide) rfl ?_
  refine g_iconst (v := 0) hC dL_isWhole_22 (by decide) ?_
  refine g_istore (L' := [(8, .int 0), (7, .int 0), (6, .int 0), (5, .int 0), (4, .int 0), (3, .int 0), (2, .int 0), (1, .int r1), (0, .ref a0)]) hC dL_isWhole_23 (by decide) rfl ?_
  refine g_iconst (v := 0) hC dL_isWhole_25 (by decide) ?_
  refine g_istore (L' := [(9, .int 0), (8, .int 0), (7, .int 0), (6, .int 0), (5, .int 0), (4, .int 0), (3, .int 0), (2, .int 0), (1, .int r1), (0, .ref a0)]) hC dL_isWhole_26 (by decide) rfl ?_
  refine g_iconst (v := 0) hC dL_isWhole_28 (by decide) ?_
  refine g_istore (L' := [(10, .int 0), (9, .int 0), (8, .int 0), (7, .int 0), (6, .int 0), (5, .int 0), (4, .int 0), (3, .int 0), (2, .int 0), (1, .int r1), (0, .ref a0)]) hC dL_isWhole_29 (by decide) rfl ?_
  obtain ⟨x11, h12, hF⟩ := fb_open hF
  have K13 : ∀ z256, x11 = .inl z256 → ∀ z17, fSm z256.2.2.2.2.2.2.2.2 w → gAt X 2332 13992 20 z256.2.2.2.2.2.2.2.2 z17 gE0 [(0, .ref a0), (1, .int r1), (2, .int z256.1), (3, .int z256.2.1), (4, .int z256.2.2.1), (5, .int z256.2.2.2.1), (6, .int z256.2.2.2.2.1), (7, .int z256.2.2.2.2.2.1), (8, .int z256.2.2.2.2.2.2.1), (9, .int z256.2.2.2.2.2.2.2.1)] [] 564 := by
    intro z256 hz9 z17 p9
    subst hz9
    refine g_iconst (v := 0) hC dL_isWhole_564 (by decide) ?_
    refine g_istore (L' := [(10, .int 0), (0, .ref a0), (1, .int r1), (2, .int z256.1), (3, .int z256.2.1), (4, .int z256.2.2.1), (5, .int z256.2.2.2.1), (6, .int z256.2.2.2.2.1), (7, .int z256.2.2.2.2.2.1), (8, .int z256.2.2.2.2.2.2.1), (9, .int z256.2.2.2.2.2.2.2.1)]) hC dL_isWhole_565 (by decide) rfl ?_
    obtain ⟨x263, h264, hF⟩ := fb_open hF
    have K265 : ∀ z305, x263 = .inl z305 → ∀ z269, gAt X 2692 16152 20 z256.2.2.2.2.2.2.2.2 z269 gE0 [(0, .ref a0), (1, .int r1), (2, .int z256.1), (3, .int z256.2.1), (4, .int z256.2.2.1), (5, .int z256.2.2.2.1), (6, .int z256.2.2.2.2.1), (7, .int z256.2.2.2.2.2.1), (8, .int z256.2.2.2.2.2.2.1), (9, .int z256.2.2.2.2.2.2.2.1)] [] 654 := by
      intro z305 hz9 z269
      subst hz9
      refine g_iconst (v := 0) hC dL_isWhole_654 (by decide) ?_
      refine g_istore (L' := [(10, .int 0), (0, .ref a0), (1, .int r1), (2, .int z256.1), (3, .int z256.2.1), (4, .int z256.2.2.1), (5, .int z256.2.2.2.1), (6, .int z256.2.2.2.2.1), (7, .int z256.2.2.2.2.2.1), (8, .int z256.2.2.2.2.2.2.1), (9, .int z256.2.2.2.2.2.2.2.1)]) hC dL_isWhole_655 (by decide) rfl ?_
      refine g_bipush (v := 97) hC dL_isWhole_657 (by decide) ?_
      refine g_istore (L' := [(11, .int 97), (10, .int 0), (0, .ref a0), (1, .int r1), (2, .int z256.1), (3, .int z256.2.1), (4, .int z256.2.2.1), (5, .int z256.2.2.2.1), (6, .int z256.2.2.2.2.1), (7, .int z256.2.2.2.2.2.1), (8, .int z256.2.2.2.2.2.2.1), (9, .int z256.2.2.2.2.2.2.2.1)]) hC dL_isWhole_659 (by decide) rfl ?_
      obtain ⟨x312, h313, hF⟩ := fb_open hF
      have K314 : ∀ z318, gAt X 2719 16314 20 z256.2.2.2.2.2.2.2.2 z318 gE0 [(0, .ref a0), (1, .int r1), (2, .int z256.1), (3, .int z256.2.1), (4, .int z256.2.2.1), (5, .int z256.2.2.2.1), (6, .int z256.2.2.2.2.1), (7, .int z256.2.2.2.2.2.1), (8, .int z256.2.2.2.2.2.2.1), (9, .int z256.2.2.2.2.2.2.2.1), (10, .int x312)] [] 693 := by
        intro z318
        refine g_aload_n hC dL_isWhole_693 rfl 0 rfl ?_
        refine g_iconst (v := 4) hC dL_isWhole_694 (by decide) ?_
        obtain ⟨r328, h329, hF⟩ := fb_open hF
        refine g_callLW hC hL [.ref a0, .int 4] (c_L_account l D cy a0 4 z256.2.2.2.2.2.2.2.2 r328 h329) (Or.inl rfl) (fun _ _ h => nomatch h) q_597 q_72 q_595 q_596 h9_L_account ⟨Nat.le_of_ble_eq_true rfl, Nat.le_of_ble_eq_true rfl⟩ ⟨Nat.le_of_ble_eq_true rfl, Nat.le_of_ble_eq_true rfl⟩ (Nat.le_of_ble_eq_true rfl) rfl dL_isWhole_695 (fun z331 _ e330 => ?_)
        show gAt X 2720 16320 20 z256.2.2.2.2.2.2.2.2 z331 gE0 [(0, .ref a0), (1, .int r1), (2, .int z256.1), (3, .int z256.2.1), (4, .int z256.2.2.1), (5, .int z256.2.2.2.1), (6, .int z256.2.2.2.2.1), (7, .int z256.2.2.2.2.2.1), (8, .int z256.2.2.2.2.2.2.1), (9, .int z256.2.2.2.2.2.2.2.1), (10, .int x312)] [.int r328] 698
        refine g_iload_n hC dL_isWhole_698 rfl 2 rfl ?_
        obtain ⟨x332, h333, hF⟩ := fb_open hF
        have K335 : ∀ z336, gAt X 2728 16368 20 z256.2.2.2.2.2.2.2.2 z336 gE0 [(0, .ref a0), (1, .int r1), (4, .int z256.2.2.1), (6, .int z256.2.2.2.2.1), (7, .int z256.2.2.2.2.2.1)] [.int x332] 810 := by
          intro z336
          refine g_istore (L' := [(11, .int x332), (0, .ref a0), (1, .int r1), (4, .int z256.2.2.1), (6, .int z256.2.2.2.2.1), (7, .int z256.2.2.2.2.2.1)]) hC dL_isWhole_810 (by decide) rfl ?_
          refine g_iload_n hC dL_isWhole_812 rfl 2 rfl ?_
          obtain ⟨x337, h338, hF⟩ := fb_open hF
          have K340 : ∀ z341, gAt X 2728 16368 20 z256.2.2.2.2.2.2.2.2 z341 gE0 [(0, .ref a0), (1, .int r1), (4, .int z256.2.2.1), (7, .int z256.2.2.2.2.2.1), (11, .int x332)] [.double x337] 830 := by
            intro z341
            refine g_dstore (L' := [(12, .double x337), (0, .ref a0), (1, .int r1), (4, .int z256.2.2.1), (7, .int z256.2.2.2.2.2.1), (11, .int x332)]) hC dL_isWhole_830 (by decide) rfl ?_
            refine g_iload hC dL_isWhole_832 3 rfl ?_
            obtain ⟨x342, h343, hF⟩ := fb_open hF
            have K345 : ∀ z346, gAt X 2728 16368 20 z256.2.2.2.2.2.2.2.2 z346 gE0 [(0, .ref a0), (1, .int r1), (11, .int x332), (12, .double x337)] [.float x342] 849 := by
              intro z346
              refine g_fstore (L' := [(14, .float x342), (0, .ref a0), (1, .int r1), (11, .int x332), (12, .double x337)]) hC dL_isWhole_849 (by decide) rfl ?_
              refine g_iload hC dL_isWhole_851 3 rfl ?_
              refine g_if_eq hC 898 dL_isWhole_853 (by decide) (fun c347 => ?_) (fun c347 => ?_)
              · replace hF := fi_pos hF c347
                refine g_iconst (v := 0) hC dL_isWhole_898 (by decide) ?_
                obtain rfl := Option.some.inj hF
                refine g_widen (k' := 2792) (s' := 16752) (by omega) (by omega) ?_
                exact g_zret hC hEn p9 (nar_z (by decide)) dL_isWhole_899
              · replace hF := fi_neg hF c347
                refine g_aload_n hC dL_isWhole_856 rfl 1 rfl ?_
                obtain ⟨r348, h349, hF⟩ := fb_open hF
                refine g_callLW hC hL [.ref a0] (c_L_meanWet l D cy a0 z256.2.2.2.2.2.2.2.2 r348 h349) (Or.inl rfl) (fun _ _ h => nomatch h) q_1363 q_72 q_1361 q_1362 h9_L_meanWet ⟨Nat.le_of_ble_eq_true rfl, Nat.le_of_ble_eq_true rfl⟩ ⟨Nat.le_of_ble_eq_true rfl, Nat.le_of_ble_eq_true rfl⟩ (Nat.le_of_ble_eq_true rfl) rfl dL_isWhole_857 (fun z351 _ e350 => ?_)
                show gAt X 2729 16374 20 z256.2.2.2.2.2.2.2.2 z351 gE0 [(14, .float x342), (0, .ref a0), (1, .int r1), (11, .int x332), (12, .double x337)] [.double r348] 860
                refine g_dload hC dL_isWhole_860 4 rfl ?_
                refine g_dcmp hC dL_isWhole_862 ?_
                refine g_if_ne hC 898 dL_isWhole_863 (by decide) (fun c352 => ?_) (fun c352 => ?_)
                · replace hF := fi_neg hF c352
                  refine g_iconst (v := 0) hC dL_isWhole_898 (by decide) ?_
                  obtain rfl := Option.some.inj hF
                  refine g_widen (k' := 2792) (s' := 16752) (by omega) (by omega) ?_
                  exact g_zret hC hEn p9 (nar_z (by decide)) dL_isWhole_899
                · replace hF := fi_pos hF c352
                  refine g_aload_n hC dL_isWhole_866 rfl 1 rfl ?_
                  obtain ⟨r353, h354, hF⟩ := fb_open hF
                  refine g_callLW hC hL [.ref a0] (c_L_readShare l D cy a0 z256.2.2.2.2.2.2.2.2 r353 h354) (Or.inl rfl) (fun _ _ h => nomatch h) q_1388 q_72 q_1386 q_1387 h9_L_readShare ⟨Nat.le_of_ble_eq_true rfl, Nat.le_of_ble_eq_true rfl⟩ ⟨Nat.le_of_ble_eq_true rfl, Nat.le_of_ble_eq_true rfl⟩ (Nat.le_of_ble_eq_true rfl) rfl dL_isWhole_867 (fun z356 _ e355 => ?_)
                  show gAt X 2730 16380 20 z256.2.2.2.2.2.2.2.2 z356 gE0 [(14, .float x342), (0, .ref a0), (1, .int r1), (11, .int x332), (12, .double x337)] [.float r353] 870
                  refine g_fload hC dL_isWhole_870 0 rfl ?_
                  refine g_fcmp hC dL_isWhole_872 ?_
                  refine g_if_ne hC 898 dL_isWhole_873 (by decide) (fun c357 => ?_) (fun c357 => ?_)
                  · replace hF := fi_neg hF c357
                    refine g_iconst (v := 0) hC dL_isWhole_898 (by decide) ?_
                    obtain rfl := Option.some.inj hF
                    refine g_widen (k' := 2792) (s' := 16752) (by omega) (by omega) ?_
                    exact g_zret hC hEn p9 (nar_z (by decide)) dL_isWhole_899
                  · replace hF := fi_pos hF c357
                    refine g_aload_n hC dL_isWhole_876 rfl 1 rfl ?_
                    obtain ⟨g362, hF⟩ := fg_open hF
                    obtain ⟨r358, h359, hF⟩ := fb_open hF
                    refine g_callV hC [] (c_X4_isRight l D cy a0 z256.2.2.2.2.2.2.2.2 r358 h359) q_1406 q_73 q_1403 q_1404 q_1405 h9_X4_isRight (T := TX4) (N := 15) (ci := 4) rfl (fSm.k p9 g362) ⟨Nat.le_of_ble_eq_true rfl, Nat.le_of_ble_eq_true rfl⟩ ⟨Nat.le_of_ble_eq_true rfl, Nat.le_of_ble_eq_true rfl⟩ (Nat.le_of_ble_eq_true rfl) rfl dL_isWhole_877 (fun z361 _ e360 => ?_)
                    show gAt X 2730 16380 20 z256.2.2.2.2.2.2.2.2 z361 gE0 [(14, .float x342), (0, .ref a0), (1, .int r1), (11, .int x332), (12, .double x337)] [.int r358] 880
                    refine g_if_eq hC 898 dL_isWhole_880 (by decide) (fun c363 => ?_) (fun c363 => ?_)
                    · replace hF := fi_pos hF c363
                      refine g_iconst (v := 0) hC dL_isWhole_898 (by decide) ?_
                      obtain rfl := Option.some.inj hF
                      refine g_widen (k' := 2792) (s' := 16752) (by omega) (by omega) ?_
                      exact g_zret hC hEn p9 (nar_z (by decide)) dL_isWhole_899
                    · replace hF := fi_neg hF c363
                      refine g_aload_n hC dL_isWhole_883 rfl 1 rfl ?_
                      refine g_iconst (v := 0) hC dL_isWhole_884 (by decide) ?_
                      refine g_iload_n hC dL_isWhole_885 rfl 2 rfl ?_
                      obtain ⟨r364, h365, hF⟩ := fb_open hF
                      refine g_callLW hC hL [.ref a0, .int 0, .int r1] (c_L_ranked l D cy a0 0 r1 z256.2.2.2.2.2.2.2.2 r364 h365) (Or.inl rfl) (fun _ _ h => nomatch h) q_1315 q_72 q_1313 q_1314 h9_L_ranked ⟨Nat.le_of_ble_eq_true rfl, Nat.le_of_ble_eq_true rfl⟩ ⟨Nat.le_of_ble_eq_true rfl, Nat.le_of_ble_eq_true rfl⟩ (Nat.le_of_ble_eq_true rfl) rfl dL_isWhole_886 (fun z367 _ e366 => ?_)
                      show gAt X 2731 16386 20 z256.2.2.2.2.2.2.2.2 z367 gE0 [(14, .float x342), (0, .ref a0), (1, .int r1), (11, .int x332), (12, .double x337)] [.int r364] 889
                      refine g_bipush (v := (-75)) hC dL_isWhole_889 (by decide) ?_
                      refine g_icmp_ne hC 898 dL_isWhole_891 (by decide) (fun c368 => ?_) (fun c368 => ?_)
                      · replace hF := fi_neg hF c368
                        refine g_iconst (v := 0) hC dL_isWhole_898 (by decide) ?_
                        obtain rfl := Option.some.inj hF
                        refine g_widen (k' := 2792) (s' := 16752) (by omega) (by omega) ?_
                        exact g_zret hC hEn p9 (nar_z (by decide)) dL_isWhole_899
                      · replace hF := fi_pos hF c368
                        refine g_iconst (v := 1) hC dL_isWhole_894 (by decide) ?_
                        refine g_goto hC 899 dL_isWhole_895 (by decide) ?_
                        obtain rfl := Option.some.inj hF
                        refine g_widen (k' := 2792) (s' := 16752) (by omega) (by omega) ?_
                        exact g_zret hC hEn p9 (nar_z (by decide)) dL_isWhole_899
            refine g_if_ne hC 842 dL_isWhole_834 (by decide) (fun c369 => ?_) (fun c369 => ?_)
            · replace h343 := fi_neg h343 c369
              refine g_iload hC dL_isWhole_842 4 rfl ?_
              refine g_i2f hC dL_isWhole_844 ?_
              refine g_iload hC dL_isWhole_845 3 rfl ?_
              refine g_i2f hC dL_isWhole_847 ?_
              obtain ⟨g370, h343⟩ := fg_open h343
              refine g_fdiv hC dL_isWhole_848 g370 ?_
              obtain rfl := Option.some.inj h343
              refine g_sub (L' := [(0, .ref a0), (1, .int r1), (11, .int x332), (12, .double x337)]) [1, 2, 5, 0] rfl ?_
              exact K345 _
            · replace h343 := fi_pos h343 c369
              refine g_ldcF hC q_1360 dL_isWhole_837 ?_
              refine g_goto hC 849 dL_isWhole_839 (by decide) ?_
              obtain rfl := Option.some.inj h343
              refine g_sub (L' := [(0, .ref a0), (1, .int r1), (11, .int x332), (12, .double x337)]) [1, 2, 5, 0] rfl ?_
              exact K345 _
          refine g_if_ne hC 822 dL_isWhole_813 (by decide) (fun c371 => ?_) (fun c371 => ?_)
          · replace h338 := fi_neg h338 c371
            refine g_iload hC dL_isWhole_822 4 rfl ?_
            refine g_i2d hC dL_isWhole_824 ?_
            refine g_iconst (v := 2) hC dL_isWhole_825 (by decide) ?_
            refine g_iload_n hC dL_isWhole_826 rfl 2 rfl ?_
            refine g_imul hC dL_isWhole_827 ?_
            refine g_i2d hC dL_isWhole_828 ?_
            obtain ⟨g372, h338⟩ := fg_open h338
            refine g_ddiv hC dL_isWhole_829 g372 ?_
            obtain rfl := Option.some.inj h338
            refine g_sub (L' := [(0, .ref a0), (1, .int r1), (4, .int z256.2.2.1), (7, .int z256.2.2.2.2.2.1), (11, .int x332)]) [1, 2, 3, 5, 0] rfl ?_
            exact K340 _
          · replace h338 := fi_pos h338 c371
            refine g_ldc2d hC q_1359 dL_isWhole_816 ?_
            refine g_goto hC 830 dL_isWhole_819 (by decide) ?_
            obtain rfl := Option.some.inj h338
            refine g_sub (L' := [(0, .ref a0), (1, .int r1), (4, .int z256.2.2.1), (7, .int z256.2.2.2.2.2.1), (11, .int x332)]) [1, 2, 3, 5, 0] rfl ?_
            exact K340 _
        refine g_icmp_ne hC 809 dL_isWhole_699 (by decide) (fun c373 => ?_) (fun c373 => ?_)
        · replace h333 := fi_neg h333 c373
          refine g_iconst (v := 0) hC dL_isWhole_809 (by decide) ?_
          obtain rfl := Option.some.inj h333
          refine g_sub (L' := [(0, .ref a0), (1, .int r1), (4, .int z256.2.2.1), (6, .int z256.2.2.2.2.1), (7, .int z256.2.2.2.2.2.1)]) [0, 1, 4, 6, 7] rfl ?_
          refine g_widen (k' := 2728) (s' := 16368) (by omega) (by omega) ?_
          exact K335 _
        · replace h333 := fi_pos h333 c373
          refine g_aload_n hC dL_isWhole_702 rfl 0 rfl ?_
          refine g_iconst (v := 5) hC dL_isWhole_703 (by decide) ?_
          obtain ⟨r374, h375, h333⟩ := fb_open h333
          refine g_callLW hC hL [.ref a0, .int 5] (c_L_account l D cy a0 5 z256.2.2.2.2.2.2.2.2 r374 h375) (Or.inl rfl) (fun _ _ h => nomatch h) q_597 q_72 q_595 q_596 h9_L_account ⟨Nat.le_of_ble_eq_true rfl, Nat.le_of_ble_eq_true rfl⟩ ⟨Nat.le_of_ble_eq_true rfl, Nat.le_of_ble_eq_true rfl⟩ (Nat.le_of_ble_eq_true rfl) rfl dL_isWhole_704 (fun z377 _ e376 => ?_)
          show gAt X 2721 16326 20 z256.2.2.2.2.2.2.2.2 z377 gE0 [(0, .ref a0), (1, .int r1), (2, .int z256.1), (3, .int z256.2.1), (4, .int z256.2.2.1), (5, .int z256.2.2.2.1), (6, .int z256.2.2.2.2.1), (7, .int z256.2.2.2.2.2.1), (8, .int z256.2.2.2.2.2.2.1), (9, .int z256.2.2.2.2.2.2.2.1), (10, .int x312)] [.int r374] 707
          refine g_iload_n hC dL_isWhole_707 rfl 3 rfl ?_
          refine g_icmp_ne hC 809 dL_isWhole_708 (by decide) (fun c378 => ?_) (fun c378 => ?_)
          · replace h333 := fi_neg h333 c378
            refine g_iconst (v := 0) hC dL_isWhole_809 (by decide) ?_
            obtain rfl := Option.some.inj h333
            refine g_sub (L' := [(0, .ref a0), (1, .int r1), (4, .int z256.2.2.1), (6, .int z256.2.2.2.2.1), (7, .int z256.2.2.2.2.2.1)]) [0, 1, 4, 6, 7] rfl ?_
            refine g_widen (k' := 2728) (s' := 16368) (by omega) (by omega) ?_
            exact K335 _
          · replace h333 := fi_pos h333 c378
            refine g_aload_n hC dL_isWhole_711 rfl 0 rfl ?_
            refine g_bipush (v := 6) hC dL_isWhole_712 (by decide) ?_
            obtain ⟨r379, h380, h333⟩ := fb_open h333
            refine g_callLW hC hL [.ref a0, .int 6] (c_L_account l D cy a0 6 z256.2.2.2.2.2.2.2.2 r379 h380) (Or.inl rfl) (fun _ _ h => nomatch h) q_597 q_72 q_595 q_596 h9_L_account ⟨Nat.le_of_ble_eq_true rfl, Nat.le_of_ble_eq_true rfl⟩ ⟨Nat.le_of_ble_eq_true rfl, Nat.le_of_ble_eq_true rfl⟩ (Nat.le_of_ble_eq_true rfl) rfl dL_isWhole_714 (fun z382 _ e381 => ?_)
            show gAt X 2722 16332 20 z256.2.2.2.2.2.2.2.2 z382 gE0 [(0, .ref a0), (1, .int r1), (2, .int z256.1), (3, .int z256.2.1), (4, .int z256.2.2.1), (5, .int z256.2.2.2.1), (6, .int z256.2.2.2.2.1), (7, .int z256.2.2.2.2.2.1), (8, .int z256.2.2.2.2.2.2.1), (9, .int z256.2.2.2.2.2.2.2.1), (10, .int x312)] [.int r379] 717
            refine g_iload hC dL_isWhole_717 4 rfl ?_
            refine g_icmp_ne hC 809 dL_isWhole_719 (by decide) (fun c383 => ?_) (fun c383 => ?_)
            · replace h333 := fi_neg h333 c383
              refine g_iconst (v := 0) hC dL_isWhole_809 (by decide) ?_
              obtain rfl := Option.some.inj h333
              refine g_sub (L' := [(0, .ref a0), (1, .int r1), (4, .int z256.2.2.1), (6, .int z256.2.2.2.2.1), (7, .int z256.2.2.2.2.2.1)]) [0, 1, 4, 6, 7] rfl ?_
              refine g_widen (k' := 2728) (s' := 16368) (by omega) (by omega) ?_
              exact K335 _
            · replace h333 := fi_pos h333 c383
              refine g_aload_n hC dL_isWhole_722 rfl 0 rfl ?_
              refine g_bipush (v := 7) hC dL_isWhole_723 (by decide) ?_
              obtain ⟨r384, h385, h333⟩ := fb_open h333
              refine g_callLW hC hL [.ref a0, .int 7] (c_L_account l D cy a0 7 z256.2.2.2.2.2.2.2.2 r384 h385) (Or.inl rfl) (fun _ _ h => nomatch h) q_597 q_72 q_595 q_596 h9_L_account ⟨Nat.le_of_ble_eq_true rfl, Nat.le_of_ble_eq_true rfl⟩ ⟨Nat.le_of_ble_eq_true rfl, Nat.le_of_ble_eq_true rfl⟩ (Nat.le_of_ble_eq_true rfl) rfl dL_isWhole_725 (fun z387 _ e386 => ?_)
              show gAt X 2723 16338 20 z256.2.2.2.2.2.2.2.2 z387 gE0 [(0, .ref a0), (1, .int r1), (2, .int z256.1), (3, .int z256.2.1), (4, .int z256.2.2.1), (5, .int z256.2.2.2.1), (6, .int z256.2.2.2.2.1), (7, .int z256.2.2.2.2.2.1), (8, .int z256.2.2.2.2.2.2.1), (9, .int z256.2.2.2.2.2.2.2.1), (10, .int x312)] [.int r384] 728
              refine g_iload hC dL_isWhole_728 5 rfl ?_
              refine g_icmp_ne hC 809 dL_isWhole_730 (by decide) (fun c388 => ?_) (fun c388 => ?_)
              · replace h333 := fi_neg h333 c388
                refine g_iconst (v := 0) hC dL_isWhole_809 (by decide) ?_
                obtain rfl := Option.some.inj h333
                refine g_sub (L' := [(0, .ref a0), (1, .int r1), (4, .int z256.2.2.1), (6, .int z256.2.2.2.2.1), (7, .int z256.2.2.2.2.2.1)]) [0, 1, 4, 6, 7] rfl ?_
                refine g_widen (k' := 2728) (s' := 16368) (by omega) (by omega) ?_
                exact K335 _
              · replace h333 := fi_pos h333 c388
                refine g_aload_n hC dL_isWhole_733 rfl 0 rfl ?_
                refine g_bipush (v := 8) hC dL_isWhole_734 (by decide) ?_
                obtain ⟨r389, h390, h333⟩ := fb_open h333
                refine g_callLW hC hL [.ref a0, .int 8] (c_L_account l D cy a0 8 z256.2.2.2.2.2.2.2.2 r389 h390) (Or.inl rfl) (fun _ _ h => nomatch h) q_597 q_72 q_595 q_596 h9_L_account ⟨Nat.le_of_ble_eq_true rfl, Nat.le_of_ble_eq_true rfl⟩ ⟨Nat.le_of_ble_eq_true rfl, Nat.le_of_ble_eq_true rfl⟩ (Nat.le_of_ble_eq_true rfl) rfl dL_isWhole_736 (fun z392 _ e391 => ?_)
                show gAt X 2724 16344 20 z256.2.2.2.2.2.2.2.2 z392 gE0 [(0, .ref a0), (1, .int r1), (2, .int z256.1), (3, .int z256.2.1), (4, .int z256.2.2.1), (5, .int z256.2.2.2.1), (6, .int z256.2.2.2.2.1), (7, .int z256.2.2.2.2.2.1), (8, .int z256.2.2.2.2.2.2.1), (9, .int z256.2.2.2.2.2.2.2.1), (10, .int x312)] [.int r389] 739
                refine g_iload_n hC dL_isWhole_739 rfl 1 rfl ?_
                refine g_icmp_lt hC 809 dL_isWhole_740 (by decide) (fun c393 => ?_) (fun c393 => ?_)
                · replace h333 := fi_pos h333 c393
                  refine g_iconst (v := 0) hC dL_isWhole_809 (by decide) ?_
                  obtain rfl := Option.some.inj h333
                  refine g_sub (L' := [(0, .ref a0), (1, .int r1), (4, .int z256.2.2.1), (6, .int z256.2.2.2.2.1), (7, .int z256.2.2.2.2.2.1)]) [0, 1, 4, 6, 7] rfl ?_
                  refine g_widen (k' := 2728) (s' := 16368) (by omega) (by omega) ?_
                  exact K335 _
                · replace h333 := fi_neg h333 c393
                  refine g_aload_n hC dL_isWhole_743 rfl 0 rfl ?_
                  refine g_bipush (v := 10) hC dL_isWhole_744 (by decide) ?_
                  obtain ⟨r394, h395, h333⟩ := fb_open h333
                  refine g_callLW hC hL [.ref a0, .int 10] (c_L_account l D cy a0 10 z256.2.2.2.2.2.2.2.2 r394 h395) (Or.inl rfl) (fun _ _ h => nomatch h) q_597 q_72 q_595 q_596 h9_L_account ⟨Nat.le_of_ble_eq_true rfl, Nat.le_of_ble_eq_true rfl⟩ ⟨Nat.le_of_ble_eq_true rfl, Nat.le_of_ble_eq_true rfl⟩ (Nat.le_of_ble_eq_true rfl) rfl dL_isWhole_746 (fun z397 _ e396 => ?_)
                  show gAt X 2725 16350 20 z256.2.2.2.2.2.2.2.2 z397 gE0 [(0, .ref a0), (1, .int r1), (2, .int z256.1), (3, .int z256.2.1), (4, .int z256.2.2.1), (5, .int z256.2.2.2.1), (6, .int z256.2.2.2.2.1), (7, .int z256.2.2.2.2.2.1), (8, .int z256.2.2.2.2.2.2.1), (9, .int z256.2.2.2.2.2.2.2.1), (10, .int x312)] [.int r394] 749
                  refine g_aload_n hC dL_isWhole_749 rfl 0 rfl ?_
                  refine g_bipush (v := 9) hC dL_isWhole_750 (by decide) ?_
                  obtain ⟨r398, h399, h333⟩ := fb_open h333
                  refine g_callLW hC hL [.ref a0, .int 9] (c_L_account l D cy a0 9 z256.2.2.2.2.2.2.2.2 r398 h399) (Or.inl rfl) (fun _ _ h => nomatch h) q_597 q_72 q_595 q_596 h9_L_account ⟨Nat.le_of_ble_eq_true rfl, Nat.le_of_ble_eq_true rfl⟩ ⟨Nat.le_of_ble_eq_true rfl, Nat.le_of_ble_eq_true rfl⟩ (Nat.le_of_ble_eq_true rfl) rfl dL_isWhole_752 (fun z401 _ e400 => ?_)
                  show gAt X 2726 16356 20 z256.2.2.2.2.2.2.2.2 z401 gE0 [(0, .ref a0), (1, .int r1), (2, .int z256.1), (3, .int z256.2.1), (4, .int z256.2.2.1), (5, .int z256.2.2.2.1), (6, .int z256.2.2.2.2.1), (7, .int z256.2.2.2.2.2.1), (8, .int z256.2.2.2.2.2.2.1), (9, .int z256.2.2.2.2.2.2.2.1), (10, .int x312)] [.int r398, .int r394] 755
                  refine g_icmp_gt hC 809 dL_isWhole_755 (by decide) (fun c402 => ?_) (fun c402 => ?_)
                  · replace h333 := fi_pos h333 c402
                    refine g_iconst (v := 0) hC dL_isWhole_809 (by decide) ?_
                    obtain rfl := Option.some.inj h333
                    refine g_sub (L' := [(0, .ref a0), (1, .int r1), (4, .int z256.2.2.1), (6, .int z256.2.2.2.2.1), (7, .int z256.2.2.2.2.2.1)]) [0, 1, 4, 6, 7] rfl ?_
                    refine g_widen (k' := 2728) (s' := 16368) (by omega) (by omega) ?_
                    exact K335 _
                  · replace h333 := fi_neg h333 c402
                    refine g_aload_n hC dL_isWhole_758 rfl 0 rfl ?_
                    refine g_bipush (v := 11) hC dL_isWhole_759 (by decide) ?_
                    obtain ⟨r403, h404, h333⟩ := fb_open h333
                    refine g_callLW hC hL [.ref a0, .int 11] (c_L_account l D cy a0 11 z256.2.2.2.2.2.2.2.2 r403 h404) (Or.inl rfl) (fun _ _ h => nomatch h) q_597 q_72 q_595 q_596 h9_L_account ⟨Nat.le_of_ble_eq_true rfl, Nat.le_of_ble_eq_true rfl⟩ ⟨Nat.le_of_ble_eq_true rfl, Nat.le_of_ble_eq_true rfl⟩ (Nat.le_of_ble_eq_true rfl) rfl dL_isWhole_761 (fun z406 _ e405 => ?_)
                    show gAt X 2727 16362 20 z256.2.2.2.2.2.2.2.2 z406 gE0 [(0, .ref a0), (1, .int r1), (2, .int z256.1), (3, .int z256.2.1), (4, .int z256.2.2.1), (5, .int z256.2.2.2.1), (6, .int z256.2.2.2.2.1), (7, .int z256.2.2.2.2.2.1), (8, .int z256.2.2.2.2.2.2.1), (9, .int z256.2.2.2.2.2.2.2.1), (10, .int x312)] [.int r403] 764
                    refine g_iload hC dL_isWhole_764 5 rfl ?_
                    refine g_icmp_lt hC 809 dL_isWhole_766 (by decide) (fun c407 => ?_) (fun c407 => ?_)
                    · replace h333 := fi_pos h333 c407
                      refine g_iconst (v := 0) hC dL_isWhole_809 (by decide) ?_
                      obtain rfl := Option.some.inj h333
                      refine g_sub (L' := [(0, .ref a0), (1, .int r1), (4, .int z256.2.2.1), (6, .int z256.2.2.2.2.1), (7, .int z256.2.2.2.2.2.1)]) [0, 1, 4, 6, 7] rfl ?_
                      refine g_widen (k' := 2728) (s' := 16368) (by omega) (by omega) ?_
                      exact K335 _
                    · replace h333 := fi_neg h333 c407
                      refine g_iload hC dL_isWhole_769 10 rfl ?_
                      refine g_iload hC dL_isWhole_771 8 rfl ?_
                      refine g_icmp_ne hC 809 dL_isWhole_773 (by decide) (fun c408 => ?_) (fun c408 => ?_)
                      · replace h333 := fi_neg h333 c408
                        refine g_iconst (v := 0) hC dL_isWhole_809 (by decide) ?_
                        obtain rfl := Option.some.inj h333
                        refine g_sub (L' := [(0, .ref a0), (1, .int r1), (4, .int z256.2.2.1), (6, .int z256.2.2.2.2.1), (7, .int z256.2.2.2.2.2.1)]) [0, 1, 4, 6, 7] rfl ?_
                        refine g_widen (k' := 2728) (s' := 16368) (by omega) (by omega) ?_
                        exact K335 _
                      · replace h333 := fi_pos h333 c408
                        refine g_sipush (v := 840) hC dL_isWhole_776 (by decide) ?_
                        refine g_aload_n hC dL_isWhole_779 rfl 0 rfl ?_
                        obtain ⟨g413, h333⟩ := fg_open h333
                        obtain ⟨r409, h410, h333⟩ := fb_open h333
                        refine g_callV hC [] (c_X4_words l D cy a0 z256.2.2.2.2.2.2.2.2 r409 h410) q_1353 q_73 q_1350 q_1351 q_1352 h9_X4_words (T := TX4) (N := 15) (ci := 4) rfl (fSm.k p9 g413) ⟨Nat.le_of_ble_eq_true rfl, Nat.le_of_ble_eq_true rfl⟩ ⟨Nat.le_of_ble_eq_true rfl, Nat.le_of_ble_eq_true rfl⟩ (Nat.le_of_ble_eq_true rfl) rfl dL_isWhole_780 (fun z412 _ e411 => ?_)
                        show gAt X 2727 16362 20 z256.2.2.2.2.2.2.2.2 z412 gE0 [(0, .ref a0), (1, .int r1), (2, .int z256.1), (3, .int z256.2.1), (4, .int z256.2.2.1), (5, .int z256.2.2.2.1), (6, .int z256.2.2.2.2.1), (7, .int z256.2.2.2.2.2.1), (8, .int z256.2.2.2.2.2.2.1), (9, .int z256.2.2.2.2.2.2.2.1), (10, .int x312)] [.int r409, .int 840] 783
                        refine g_imul hC dL_isWhole_783 ?_
                        refine g_iload hC dL_isWhole_784 9 rfl ?_
                        refine g_icmp_ne hC 809 dL_isWhole_786 (by decide) (fun c414 => ?_) (fun c414 => ?_)
                        · replace h333 := fi_neg h333 c414
                          refine g_iconst (v := 0) hC dL_isWhole_809 (by decide) ?_
                          obtain rfl := Option.some.inj h333
                          refine g_sub (L' := [(0, .ref a0), (1, .int r1), (4, .int z256.2.2.1), (6, .int z256.2.2.2.2.1), (7, .int z256.2.2.2.2.2.1)]) [0, 1, 4, 6, 7] rfl ?_
                          refine g_widen (k' := 2728) (s' := 16368) (by omega) (by omega) ?_
                          exact K335 _
                        · replace h333 := fi_pos h333 c414
                          refine g_aload_n hC dL_isWhole_789 rfl 0 rfl ?_
                          refine g_iconst (v := 1) hC dL_isWhole_790 (by decide) ?_
                          obtain ⟨r415, h416, h333⟩ := fb_open h333
                          refine g_callLW hC hL [.ref a0, .int 1] (c_L_account l D cy a0 1 z256.2.2.2.2.2.2.2.2 r415 h416) (Or.inl rfl) (fun _ _ h => nomatch h) q_597 q_72 q_595 q_596 h9_L_account ⟨Nat.le_of_ble_eq_true rfl, Nat.le_of_ble_eq_true rfl⟩ ⟨Nat.le_of_ble_eq_true rfl, Nat.le_of_ble_eq_true rfl⟩ (Nat.le_of_ble_eq_true rfl) rfl dL_isWhole_791 (fun z418 _ e417 => ?_)
                          show gAt X 2728 16368 20 z256.2.2.2.2.2.2.2.2 z418 gE0 [(0, .ref a0), (1, .int r1), (2, .int z256.1), (3, .int z256.2.1), (4, .int z256.2.2.1), (5, .int z256.2.2.2.1), (6, .int z256.2.2.2.2.1), (7, .int z256.2.2.2.2.2.1), (8, .int z256.2.2.2.2.2.2.1), (9, .int z256.2.2.2.2.2.2.2.1), (10, .int x312)] [.int r415] 794
                          refine g_bipush (v := 6) hC dL_isWhole_794 (by decide) ?_
                          refine g_icmp_gt hC 809 dL_isWhole_796 (by decide) (fun c419 => ?_) (fun c419 => ?_)
                          · replace h333 := fi_pos h333 c419
                            refine g_iconst (v := 0) hC dL_isWhole_809 (by decide) ?_
                            obtain rfl := Option.some.inj h333
                            refine g_sub (L' := [(0, .ref a0), (1, .int r1), (4, .int z256.2.2.1), (6, .int z256.2.2.2.2.1), (7, .int z256.2.2.2.2.2.1)]) [0, 1, 4, 6, 7] rfl ?_
                            exact K335 _
                          · replace h333 := fi_neg h333 c419
                            refine g_iload_n hC dL_isWhole_799 rfl 1 rfl ?_
                            refine g_bipush (v := 8) hC dL_isWhole_800 (by decide) ?_
                            refine g_icmp_gt hC 809 dL_isWhole_802 (by decide) (fun c420 => ?_) (fun c420 => ?_)
                            · replace h333 := fi_pos h333 c420
                              refine g_iconst (v := 0) hC dL_isWhole_809 (by decide) ?_
                              obtain rfl := Option.some.inj h333
                              refine g_sub (L' := [(0, .ref a0), (1, .int r1), (4, .int z256.2.2.1), (6, .int z256.2.2.2.2.1), (7, .int z256.2.2.2.2.2.1)]) [0, 1, 4, 6, 7] rfl ?_
                              exact K335 _
                            · replace h333 := fi_neg h333 c420
                              refine g_iconst (v := 1) hC dL_isWhole_805 (by decide) ?_
                              refine g_goto hC 810 dL_isWhole_806 (by decide) ?_
                              obtain rfl := Option.some.inj h333
                              refine g_sub (L' := [(0, .ref a0), (1, .int r1), (4, .int z256.2.2.1), (6, .int z256.2.2.2.2.1), (7, .int z256.2.2.2.2.2.1)]) [0, 1, 4, 6, 7] rfl ?_
                              exact K335 _
      refine g_sub (L' := [(0, .ref a0), (1, .int r1), (2, .int z256.1), (3, .int z256.2.1), (4, .int z256.2.2.1), (5, .int z256.2.2.2.1), (6, .int z256.2.2.2.2.1), (7, .int z256.2.2.2.2.2.1), (8, .int z256.2.2.2.2.2.2.1), (9, .int z256.2.2.2.2.2.2.2.1), (10, .int 0), (11, .int 97)]) [2, 3, 4, 5, 6, 7, 8, 9, 10, 11, 1, 0] rfl ?_
      refine g_widen (k' := ((27 - 27) * 1 + 2692)) (s' := ((27 - 27) * 6 + 16152)) (by omega) (by omega) ?_
      have q8 : ∀ n9 s9, _ → (fun (n315 : Nat) (s306 : Int32 × Int32) => n315 ≤ 27 → ∀ z317 : Nat, gAt X ((27 - n315) * 1 + 2692) ((27 - n315) * 6 + 16152) 20 z256.2.2.2.2.2.2.2.2 z317 gE0 [(0, .ref a0), (1, .int r1), (2, .int z256.1), (3, .int z256.2.1), (4, .int z256.2.2.1), (5, .int z256.2.2.2.1), (6, .int z256.2.2.2.2.1), (7, .int z256.2.2.2.2.2.1), (8, .int z256.2.2.2.2.2.2.1), (9, .int z256.2.2.2.2.2.2.2.1), (10, .int s306.1), (11, .int s306.2)] [] 661) n9 s9 := fLoopB_ind (fun (n315 : Nat) (s306 : Int32 × Int32) => n315 ≤ 27 → ∀ z317 : Nat, gAt X ((27 - n315) * 1 + 2692) ((27 - n315) * 6 + 16152) 20 z256.2.2.2.2.2.2.2.2 z317 gE0 [(0, .ref a0), (1, .int r1), (2, .int z256.1), (3, .int z256.2.1), (4, .int z256.2.2.1), (5, .int z256.2.2.2.1), (6, .int z256.2.2.2.2.1), (7, .int z256.2.2.2.2.2.1), (8, .int z256.2.2.2.2.2.2.1), (9, .int z256.2.2.2.2.2.2.2.1), (10, .int s306.1), (11, .int s306.2)] [] 661) (fun n315 s306 y311 h307 go308 ou309 => by
          intro l316 z317
          refine g_iload hC dL_isWhole_661 11 rfl ?_
          refine g_bipush (v := 122) hC dL_isWhole_663 (by decide) ?_
          refine g_icmp_gt hC 693 dL_isWhole_665 (by decide) (fun c319 => ?_) (fun c319 => ?_)
          · replace h307 := fi_pos h307 c319
            obtain rfl := Option.some.inj h307
            obtain rfl := ou309 _ rfl
            refine g_sub (L' := [(0, .ref a0), (1, .int r1), (2, .int z256.1), (3, .int z256.2.1), (4, .int z256.2.2.1), (5, .int z256.2.2.2.1), (6, .int z256.2.2.2.2.1), (7, .int z256.2.2.2.2.2.1), (8, .int z256.2.2.2.2.2.2.1), (9, .int z256.2.2.2.2.2.2.2.1), (10, .int s306.1)]) [0, 1, 2, 3, 4, 5, 6, 7, 8, 9, 10] rfl ?_
            refine g_widen (k' := 2719) (s' := 16314) (by omega) (by omega) ?_
            exact K314 _
          · replace h307 := fi_neg h307 c319
            refine g_iload hC dL_isWhole_668 10 rfl ?_
            refine g_iconst (v := 0) hC dL_isWhole_670 (by decide) ?_
            refine g_aload_n hC dL_isWhole_671 rfl 0 rfl ?_
            refine g_iload hC dL_isWhole_672 11 rfl ?_
            obtain ⟨r320, h321, h307⟩ := fb_open h307
            refine g_callLW hC hL [.ref a0, .int s306.2] (c_L_often l D cy a0 s306.2 z256.2.2.2.2.2.2.2.2 r320 h321) (Or.inl rfl) (fun _ _ h => nomatch h) q_1340 q_72 q_1338 q_1339 h9_L_often ⟨Nat.le_of_ble_eq_true rfl, Nat.le_of_ble_eq_true rfl⟩ ⟨show ((27 - (n315 + 1)) * 1 + 2693) ≤ 2792 from by omega, show ((27 - (n315 + 1)) * 6 + 16158) ≤ 16752 from by omega⟩ (Nat.le_of_ble_eq_true rfl) rfl dL_isWhole_674 (fun z323 _ e322 => ?_)
            show gAt X ((27 - (n315 + 1)) * 1 + 2693) ((27 - (n315 + 1)) * 6 + 16158) 20 z256.2.2.2.2.2.2.2.2 z323 gE0 [(0, .ref a0), (1, .int r1), (2, .int z256.1), (3, .int z256.2.1), (4, .int z256.2.2.1), (5, .int z256.2.2.2.1), (6, .int z256.2.2.2.2.1), (7, .int z256.2.2.2.2.2.1), (8, .int z256.2.2.2.2.2.2.1), (9, .int z256.2.2.2.2.2.2.2.1), (10, .int s306.1), (11, .int s306.2)] [.int r320, .int 0, .int s306.1] 677
            obtain ⟨r324, h325, h307⟩ := fb_open h307
            refine g_callS hC [.int 0, .int r320] (c_J9_max_7cf53 l D cy 0 r320 z256.2.2.2.2.2.2.2.2 r324 h325) q_694 q_85 q_1272 q_693 h9_J9_max_7cf53 ⟨Nat.le_of_ble_eq_true rfl, Nat.le_of_ble_eq_true rfl⟩ ⟨show ((27 - (n315 + 1)) * 1 + 2693) ≤ 2792 from by omega, show ((27 - (n315 + 1)) * 6 + 16158) ≤ 16752 from by omega⟩ (Nat.le_of_ble_eq_true rfl) rfl dL_isWhole_677 (fun z327 _ e326 => ?_)
            show gAt X ((27 - (n315 + 1)) * 1 + 2693) ((27 - (n315 + 1)) * 6 + 16158) 20 z256.2.2.2.2.2.2.2.2 z327 gE0 [(0, .ref a0), (1, .int r1), (2, .int z256.1), (3, .int z256.2.1), (4, .int z256.2.2.1), (5, .int z256.2.2.2.1), (6, .int z256.2.2.2.2.1), (7, .int z256.2.2.2.2.2.1), (8, .int z256.2.2.2.2.2.2.1), (9, .int z256.2.2.2.2.2.2.2.1), (10, .int s306.1), (11, .int s306.2)] [.int r324, .int s306.1] 680
            refine g_iadd hC dL_isWhole_680 ?_
            refine g_istore (L' := [(10, .int (s306.1 + r324)), (0, .ref a0), (1, .int r1), (2, .int z256.1), (3, .int z256.2.1), (4, .int z256.2.2.1), (5, .int z256.2.2.2.1), (6, .int z256.2.2.2.2.1), (7, .int z256.2.2.2.2.2.1), (8, .int z256.2.2.2.2.2.2.1), (9, .int z256.2.2.2.2.2.2.2.1), (11, .int s306.2)]) hC dL_isWhole_681 (by decide) rfl ?_
            refine g_iload hC dL_isWhole_683 11 rfl ?_
            refine g_iconst (v := 1) hC dL_isWhole_685 (by decide) ?_
            refine g_iadd hC dL_isWhole_686 ?_
            refine g_i2c hC dL_isWhole_687 ?_
            refine g_istore (L' := [(11, .int (fch (s306.2 + 1))), (10, .int (s306.1 + r324)), (0, .ref a0), (1, .int r1), (2, .int z256.1), (3, .int z256.2.1), (4, .int z256.2.2.1), (5, .int z256.2.2.2.1), (6, .int z256.2.2.2.2.1), (7, .int z256.2.2.2.2.2.1), (8, .int z256.2.2.2.2.2.2.1), (9, .int z256.2.2.2.2.2.2.2.1)]) hC dL_isWhole_688 (by decide) rfl ?_
            refine g_goto hC 661 dL_isWhole_690 (by decide) ?_
            obtain rfl := Option.some.inj h307
            refine g_sub (L' := [(0, .ref a0), (1, .int r1), (2, .int z256.1), (3, .int z256.2.1), (4, .int z256.2.2.1), (5, .int z256.2.2.2.1), (6, .int z256.2.2.2.2.1), (7, .int z256.2.2.2.2.2.1), (8, .int z256.2.2.2.2.2.2.1), (9, .int z256.2.2.2.2.2.2.2.1), (10, .int (s306.1 + r324)), (11, .int (fch (s306.2 + 1)))]) [2, 3, 4, 5, 6, 7, 8, 9, 10, 11, 1, 0] rfl ?_
            refine g_widen (k' := ((27 - n315) * 1 + 2692)) (s' := ((27 - n315) * 6 + 16152)) (by omega) (by omega) ?_
            have z9 := go308 ((s306.1 + r324), (fch (s306.2 + 1))) rfl (by omega) _
            exact z9)
      exact q8 27 _ h313 (Nat.le_refl _) _
    refine g_sub (L' := [(0, .ref a0), (1, .int r1), (2, .int z256.1), (3, .int z256.2.1), (4, .int z256.2.2.1), (5, .int z256.2.2.2.1), (6, .int z256.2.2.2.2.1), (7, .int z256.2.2.2.2.2.1), (8, .int z256.2.2.2.2.2.2.1), (9, .int z256.2.2.2.2.2.2.2.1), (10, .int 0)]) [1, 2, 3, 4, 5, 6, 7, 8, 9, 10, 0] rfl ?_
    refine g_widen (k' := ((4 - 4) * 90 + 2332)) (s' := ((4 - 4) * 540 + 13992)) (by omega) (by omega) ?_
    have q8 : ∀ n9 s9, _ → (fun (n266 : Nat) (s257 : Int32) => n266 ≤ 4 → ∀ z268 : Nat, gAt X ((4 - n266) * 90 + 2332) ((4 - n266) * 540 + 13992) 20 z256.2.2.2.2.2.2.2.2 z268 gE0 [(0, .ref a0), (1, .int r1), (2, .int z256.1), (3, .int z256.2.1), (4, .int z256.2.2.1), (5, .int z256.2.2.2.1), (6, .int z256.2.2.2.2.1), (7, .int z256.2.2.2.2.2.1), (8, .int z256.2.2.2.2.2.2.1), (9, .int z256.2.2.2.2.2.2.2.1), (10, .int s257)] [] 567) n9 s9 := fLoopB_ind (fun (n266 : Nat) (s257 : Int32) => n266 ≤ 4 → ∀ z268 : Nat, gAt X ((4 - n266) * 90 + 2332) ((4 - n266) * 540 + 13992) 20 z256.2.2.2.2.2.2.2.2 z268 gE0 [(0, .ref a0), (1, .int r1), (2, .int z256.1), (3, .int z256.2.1), (4, .int z256.2.2.1), (5, .int z256.2.2.2.1), (6, .int z256.2.2.2.2.1), (7, .int z256.2.2.2.2.2.1), (8, .int z256.2.2.2.2.2.2.1), (9, .int z256.2.2.2.2.2.2.2.1), (10, .int s257)] [] 567) (fun n266 s257 y262 h258 go259 ou260 => by
        intro l267 z268
        refine g_iload hC dL_isWhole_567 10 rfl ?_
        refine g_iconst (v := 3) hC dL_isWhole_569 (by decide) ?_
        refine g_icmp_ge hC 654 dL_isWhole_570 (by decide) (fun c270 => ?_) (fun c270 => ?_)
        · replace h258 := fi_pos h258 c270
          obtain rfl := Option.some.inj h258
          have eo := ou260 _ rfl
          refine g_sub (L' := [(0, .ref a0), (1, .int r1), (2, .int z256.1), (3, .int z256.2.1), (4, .int z256.2.2.1), (5, .int z256.2.2.2.1), (6, .int z256.2.2.2.2.1), (7, .int z256.2.2.2.2.2.1), (8, .int z256.2.2.2.2.2.2.1), (9, .int z256.2.2.2.2.2.2.2.1)]) [0, 1, 2, 3, 4, 5, 6, 7, 8, 9] rfl ?_
          refine g_widen (k' := 2692) (s' := 16152) (by omega) (by omega) ?_
          exact K265 _ eo.symm _
        · replace h258 := fi_neg h258 c270
          refine g_iconst (v := 1) hC dL_isWhole_573 (by decide) ?_
          refine g_istore (L' := [(11, .int 1), (0, .ref a0), (1, .int r1), (2, .int z256.1), (3, .int z256.2.1), (4, .int z256.2.2.1), (5, .int z256.2.2.2.1), (6, .int z256.2.2.2.2.1), (7, .int z256.2.2.2.2.2.1), (8, .int z256.2.2.2.2.2.2.1), (9, .int z256.2.2.2.2.2.2.2.1), (10, .int s257)]) hC dL_isWhole_574 (by decide) rfl ?_
          obtain ⟨x277, h278, h258⟩ := fb_open h258
          have K279 : ∀ z304, x277 = .inl z304 → ∀ z283, gAt X ((4 - (n266 + 1)) * 90 + 2422) ((4 - (n266 + 1)) * 540 + 14532) 20 z256.2.2.2.2.2.2.2.2 z283 gE0 [(0, .ref a0), (1, .int r1), (2, .int z256.1), (3, .int z256.2.1), (4, .int z256.2.2.1), (5, .int z256.2.2.2.1), (6, .int z256.2.2.2.2.1), (7, .int z256.2.2.2.2.2.1), (8, .int z256.2.2.2.2.2.2.1), (9, .int z256.2.2.2.2.2.2.2.1), (10, .int s257)] [] 648 := by
            intro z304 hz9 z283
            subst hz9
            refine g_iinc (L' := [(10, .int (s257 + 1)), (0, .ref a0), (1, .int r1), (2, .int z256.1), (3, .int z256.2.1), (4, .int z256.2.2.1), (5, .int z256.2.2.2.1), (6, .int z256.2.2.2.2.1), (7, .int z256.2.2.2.2.2.1), (8, .int z256.2.2.2.2.2.2.1), (9, .int z256.2.2.2.2.2.2.2.1)]) hC dL_isWhole_648 10 rfl rfl (by decide) rfl ?_
            refine g_goto hC 567 dL_isWhole_651 (by decide) ?_
            obtain rfl := Option.some.inj h258
            refine g_sub (L' := [(0, .ref a0), (1, .int r1), (2, .int z256.1), (3, .int z256.2.1), (4, .int z256.2.2.1), (5, .int z256.2.2.2.1), (6, .int z256.2.2.2.2.1), (7, .int z256.2.2.2.2.2.1), (8, .int z256.2.2.2.2.2.2.1), (9, .int z256.2.2.2.2.2.2.2.1), (10, .int (s257 + 1))]) [1, 2, 3, 4, 5, 6, 7, 8, 9, 10, 0] rfl ?_
            refine g_widen (k' := ((4 - n266) * 90 + 2332)) (s' := ((4 - n266) * 540 + 13992)) (by omega) (by omega) ?_
            have z9 := go259 (s257 + 1) rfl (by omega) _
            exact z9
          refine g_sub (L' := [(0, .ref a0), (1, .int r1), (2, .int z256.1), (3, .int z256.2.1), (4, .int z256.2.2.1), (5, .int z256.2.2.2.1), (6, .int z256.2.2.2.2.1), (7, .int z256.2.2.2.2.2.1), (8, .int z256.2.2.2.2.2.2.1), (9, .int z256.2.2.2.2.2.2.2.1), (10, .int s257), (11, .int 1)]) [1, 2, 3, 4, 5, 6, 7, 8, 9, 10, 11, 0] rfl ?_
          refine g_widen (k' := ((4 - (n266 + 1)) * 90 + (9 - 9) * 10 + 2332)) (s' := ((4 - (n266 + 1)) * 540 + (9 - 9) * 60 + 13992)) (by omega) (by omega) ?_
          have q8 : ∀ n9 s9, _ → (fun (n280 : Nat) (s271 : Int32) => n280 ≤ 9 → ∀ z282 : Nat, gAt X ((4 - (n266 + 1)) * 90 + (9 - n280) * 10 + 2332) ((4 - (n266 + 1)) * 540 + (9 - n280) * 60 + 13992) 20 z256.2.2.2.2.2.2.2.2 z282 gE0 [(0, .ref a0), (1, .int r1), (2, .int z256.1), (3, .int z256.2.1), (4, .int z256.2.2.1), (5, .int z256.2.2.2.1), (6, .int z256.2.2.2.2.1), (7, .int z256.2.2.2.2.2.1), (8, .int z256.2.2.2.2.2.2.1), (9, .int z256.2.2.2.2.2.2.2.1), (10, .int s257), (11, .int s271)] [] 576) n9 s9 := fLoopB_ind (fun (n280 : Nat) (s271 : Int32) => n280 ≤ 9 → ∀ z282 : Nat, gAt X ((4 - (n266 + 1)) * 90 + (9 - n280) * 10 + 2332) ((4 - (n266 + 1)) * 540 + (9 - n280) * 60 + 13992) 20 z256.2.2.2.2.2.2.2.2 z282 gE0 [(0, .ref a0), (1, .int r1), (2, .int z256.1), (3, .int z256.2.1), (4, .int z256.2.2.1), (5, .int z256.2.2.2.1), (6, .int z256.2.2.2.2.1), (7, .int z256.2.2.2.2.2.1), (8, .int z256.2.2.2.2.2.2.1), (9, .int z256.2.2.2.2.2.2.2.1), (10, .int s257), (11, .int s271)] [] 576) (fun n280 s271 y276 h272 go273 ou274 => by
              intro l281 z282
              refine g_iload hC dL_isWhole_576 11 rfl ?_
              refine g_iload_n hC dL_isWhole_578 rfl 1 rfl ?_
              refine g_icmp_ge hC 648 dL_isWhole_579 (by decide) (fun c284 => ?_) (fun c284 => ?_)
              · replace h272 := fi_pos h272 c284
                obtain rfl := Option.some.inj h272
                have eo := ou274 _ rfl
                refine g_sub (L' := [(0, .ref a0), (1, .int r1), (2, .int z256.1), (3, .int z256.2.1), (4, .int z256.2.2.1), (5, .int z256.2.2.2.1), (6, .int z256.2.2.2.2.1), (7, .int z256.2.2.2.2.2.1), (8, .int z256.2.2.2.2.2.2.1), (9, .int z256.2.2.2.2.2.2.2.1), (10, .int s257)]) [0, 1, 2, 3, 4, 5, 6, 7, 8, 9, 10] rfl ?_
                refine g_widen (k' := ((4 - (n266 + 1)) * 90 + 2422)) (s' := ((4 - (n266 + 1)) * 540 + 14532)) (by omega) (by omega) ?_
                exact K279 _ eo.symm _
              · replace h272 := fi_neg h272 c284
                refine g_aload_n hC dL_isWhole_582 rfl 0 rfl ?_
                refine g_iload hC dL_isWhole_583 10 rfl ?_
                refine g_iload hC dL_isWhole_585 11 rfl ?_
                refine g_iconst (v := 1) hC dL_isWhole_587 (by decide) ?_
                refine g_isub hC dL_isWhole_588 ?_
                obtain ⟨r285, h286, h272⟩ := fb_open h272
                refine g_callLW hC hL [.ref a0, .int s257, .int (s271 - 1)] (c_L_ranked l D cy a0 s257 (s271 - 1) z256.2.2.2.2.2.2.2.2 r285 h286) (Or.inl rfl) (fun _ _ h => nomatch h) q_1315 q_72 q_1313 q_1314 h9_L_ranked ⟨Nat.le_of_ble_eq_true rfl, Nat.le_of_ble_eq_true rfl⟩ ⟨show ((4 - (n266 + 1)) * 90 + (9 - (n280 + 1)) * 10 + 2333) ≤ 2792 from by omega, show ((4 - (n266 + 1)) * 540 + (9 - (n280 + 1)) * 60 + 13998) ≤ 16752 from by omega⟩ (Nat.le_of_ble_eq_true rfl) rfl dL_isWhole_589 (fun z288 _ e287 => ?_)
                show gAt X ((4 - (n266 + 1)) * 90 + (9 - (n280 + 1)) * 10 + 2333) ((4 - (n266 + 1)) * 540 + (9 - (n280 + 1)) * 60 + 13998) 20 z256.2.2.2.2.2.2.2.2 z288 gE0 [(0, .ref a0), (1, .int r1), (2, .int z256.1), (3, .int z256.2.1), (4, .int z256.2.2.1), (5, .int z256.2.2.2.1), (6, .int z256.2.2.2.2.1), (7, .int z256.2.2.2.2.2.1), (8, .int z256.2.2.2.2.2.2.1), (9, .int z256.2.2.2.2.2.2.2.1), (10, .int s257), (11, .int s271)] [.int r285] 592
                refine g_istore (L' := [(12, .int r285), (0, .ref a0), (1, .int r1), (2, .int z256.1), (3, .int z256.2.1), (4, .int z256.2.2.1), (5, .int z256.2.2.2.1), (6, .int z256.2.2.2.2.1), (7, .int z256.2.2.2.2.2.1), (8, .int z256.2.2.2.2.2.2.1), (9, .int z256.2.2.2.2.2.2.2.1), (10, .int s257), (11, .int s271)]) hC dL_isWhole_592 (by decide) rfl ?_
                refine g_aload_n hC dL_isWhole_594 rfl 1 rfl ?_
                refine g_iload hC dL_isWhole_595 11 rfl ?_
                refine g_iload hC dL_isWhole_597 12 rfl ?_
                obtain ⟨r289, h290, h272⟩ := fb_open h272
                refine g_callLW hC hL [.ref a0, .int s257, .int s271] (c_L_ranked l D cy a0 s257 s271 z256.2.2.2.2.2.2.2.2 r289 h290) (Or.inl rfl) (fun _ _ h => nomatch h) q_1315 q_72 q_1313 q_1314 h9_L_ranked ⟨Nat.le_of_ble_eq_true rfl, Nat.le_of_ble_eq_true rfl⟩ ⟨show ((4 - (n266 + 1)) * 90 + (9 - (n280 + 1)) * 10 + 2334) ≤ 2792 from by omega, show ((4 - (n266 + 1)) * 540 + (9 - (n280 + 1)) * 60 + 14004) ≤ 16752 from by omega⟩ (Nat.le_of_ble_eq_true rfl) rfl dL_isWhole_599 (fun z292 _ e291 => ?_)
                show gAt X ((4 - (n266 + 1)) * 90 + (9 - (n280 + 1)) * 10 + 2334) ((4 - (n266 + 1)) * 540 + (9 - (n280 + 1)) * 60 + 14004) 20 z256.2.2.2.2.2.2.2.2 z292 gE0 [(12, .int r285), (0, .ref a0), (1, .int r1), (2, .int z256.1), (3, .int z256.2.1), (4, .int z256.2.2.1), (5, .int z256.2.2.2.1), (6, .int z256.2.2.2.2.1), (7, .int z256.2.2.2.2.2.1), (8, .int z256.2.2.2.2.2.2.1), (9, .int z256.2.2.2.2.2.2.2.1), (10, .int s257), (11, .int s271)] [.int r289] 602
                refine g_istore (L' := [(13, .int r289), (12, .int r285), (0, .ref a0), (1, .int r1), (2, .int z256.1), (3, .int z256.2.1), (4, .int z256.2.2.1), (5, .int z256.2.2.2.1), (6, .int z256.2.2.2.2.1), (7, .int z256.2.2.2.2.2.1), (8, .int z256.2.2.2.2.2.2.1), (9, .int z256.2.2.2.2.2.2.2.1), (10, .int s257), (11, .int s271)]) hC dL_isWhole_602 (by decide) rfl ?_
                refine g_aload_n hC dL_isWhole_604 rfl 2 rfl ?_
                refine g_iload hC dL_isWhole_605 12 rfl ?_
                refine g_iload hC dL_isWhole_607 1 rfl ?_
                obtain ⟨r293, h294, h272⟩ := fb_open h272
                refine g_callL hC hL [.ref a0, .int s257, .int r285] (c_L_measure l D cy a0 s257 r285 z256.2.2.2.2.2.2.2.2 r293 h294) (Or.inl rfl) (fun _ _ h => nomatch h) q_1337 q_72 q_1335 q_1336 h9_L_measure ⟨Nat.le_of_ble_eq_true rfl, Nat.le_of_ble_eq_true rfl⟩ ⟨show ((4 - (n266 + 1)) * 90 + (9 - (n280 + 1)) * 10 + 2338) ≤ 2792 from by omega, show ((4 - (n266 + 1)) * 540 + (9 - (n280 + 1)) * 60 + 14028) ≤ 16752 from by omega⟩ (Nat.le_of_ble_eq_true rfl) rfl dL_isWhole_609 (fun z296 _ e295 => ?_)
                show gAt X ((4 - (n266 + 1)) * 90 + (9 - (n280 + 1)) * 10 + 2338) ((4 - (n266 + 1)) * 540 + (9 - (n280 + 1)) * 60 + 14028) 20 z256.2.2.2.2.2.2.2.2 z296 gE0 [(13, .int r289), (12, .int r285), (0, .ref a0), (1, .int r1), (2, .int z256.1), (3, .int z256.2.1), (4, .int z256.2.2.1), (5, .int z256.2.2.2.1), (6, .int z256.2.2.2.2.1), (7, .int z256.2.2.2.2.2.1), (8, .int z256.2.2.2.2.2.2.1), (9, .int z256.2.2.2.2.2.2.2.1), (10, .int s257), (11, .int s271)] [.int r293] 612
                refine g_aload_n hC dL_isWhole_612 rfl 2 rfl ?_
                refine g_iload hC dL_isWhole_613 12 rfl ?_
                refine g_iload hC dL_isWhole_615 0 rfl ?_
                obtain ⟨r297, h298, h272⟩ := fb_open h272
                refine g_callL hC hL [.ref a0, .int s257, .int r289] (c_L_measure l D cy a0 s257 r289 z256.2.2.2.2.2.2.2.2 r297 h298) (Or.inl rfl) (fun _ _ h => nomatch h) q_1337 q_72 q_1335 q_1336 h9_L_measure ⟨Nat.le_of_ble_eq_true rfl, Nat.le_of_ble_eq_true rfl⟩ ⟨show ((4 - (n266 + 1)) * 90 + (9 - (n280 + 1)) * 10 + 2342) ≤ 2792 from by omega, show ((4 - (n266 + 1)) * 540 + (9 - (n280 + 1)) * 60 + 14052) ≤ 16752 from by omega⟩ (Nat.le_of_ble_eq_true rfl) rfl dL_isWhole_617 (fun z300 _ e299 => ?_)
                show gAt X ((4 - (n266 + 1)) * 90 + (9 - (n280 + 1)) * 10 + 2342) ((4 - (n266 + 1)) * 540 + (9 - (n280 + 1)) * 60 + 14052) 20 z256.2.2.2.2.2.2.2.2 z300 gE0 [(13, .int r289), (12, .int r285), (0, .ref a0), (1, .int r1), (2, .int z256.1), (3, .int z256.2.1), (4, .int z256.2.2.1), (5, .int z256.2.2.2.1), (6, .int z256.2.2.2.2.1), (7, .int z256.2.2.2.2.2.1), (8, .int z256.2.2.2.2.2.2.1), (9, .int z256.2.2.2.2.2.2.2.1), (10, .int s257), (11, .int s271)] [.int r297, .int r293] 620
                refine g_isub hC dL_isWhole_620 ?_
                refine g_istore (L' := [(14, .int (r293 - r297)), (13, .int r289), (12, .int r285), (0, .ref a0), (1, .int r1), (2, .int z256.1), (3, .int z256.2.1), (4, .int z256.2.2.1), (5, .int z256.2.2.2.1), (6, .int z256.2.2.2.2.1), (7, .int z256.2.2.2.2.2.1), (8, .int z256.2.2.2.2.2.2.1), (9, .int z256.2.2.2.2.2.2.2.1), (10, .int s257), (11, .int s271)]) hC dL_isWhole_621 (by decide) rfl ?_
                refine g_iload hC dL_isWhole_623 0 rfl ?_
                refine g_if_lt hC 640 dL_isWhole_625 (by decide) (fun c301 => ?_) (fun c301 => ?_)
                · replace h272 := fi_pos h272 c301
                  refine g_iconst (v := 0) hC dL_isWhole_640 (by decide) ?_
                  obtain rfl := Option.some.inj h272
                  obtain rfl := ou274 _ rfl
                  obtain rfl := Option.some.inj h258
                  obtain rfl := ou260 _ rfl
                  obtain rfl := Option.some.inj hF
                  refine g_widen (k' := 2792) (s' := 16752) (by omega) (by omega) ?_
                  exact g_zret hC hEn p9 (nar_z (by decide)) dL_isWhole_641
                · replace h272 := fi_neg h272 c301
                  refine g_iload hC dL_isWhole_628 0 rfl ?_
                  refine g_if_ne hC 642 dL_isWhole_630 (by decide) (fun c302 => ?_) (fun c302 => ?_)
                  · replace h272 := fi_neg h272 c302
                    refine g_iinc (L' := [(11, .int (s271 + 1)), (14, .int (r293 - r297)), (13, .int r289), (12, .int r285), (0, .ref a0), (1, .int r1), (2, .int z256.1), (3, .int z256.2.1), (4, .int z256.2.2.1), (5, .int z256.2.2.2.1), (6, .int z256.2.2.2.2.1), (7, .int z256.2.2.2.2.2.1), (8, .int z256.2.2.2.2.2.2.1), (9, .int z256.2.2.2.2.2.2.2.1), (10, .int s257)]) hC dL_isWhole_642 14 rfl rfl (by decide) rfl ?_
                    refine g_goto hC 576 dL_isWhole_645 (by decide) ?_
                    obtain rfl := Option.some.inj h272
                    refine g_sub (L' := [(0, .ref a0), (1, .int r1), (2, .int z256.1), (3, .int z256.2.1), (4, .int z256.2.2.1), (5, .int z256.2.2.2.1), (6, .int z256.2.2.2.2.1), (7, .int z256.2.2.2.2.2.1), (8, .int z256.2.2.2.2.2.2.1), (9, .int z256.2.2.2.2.2.2.2.1), (10, .int s257), (11, .int (s271 + 1))]) [4, 5, 6, 7, 8, 9, 10, 11, 12, 13, 14, 0] rfl ?_
                    refine g_widen (k' := ((4 - (n266 + 1)) * 90 + (9 - n280) * 10 + 2332)) (s' := ((4 - (n266 + 1)) * 540 + (9 - n280) * 60 + 13992)) (by omega) (by omega) ?_
                    have z9 := go273 (s271 + 1) rfl (by omega) _
                    exact z9
                  · replace h272 := fi_pos h272 c302
                    refine g_iload hC dL_isWhole_633 2 rfl ?_
                    refine g_iload hC dL_isWhole_635 1 rfl ?_
                    refine g_icmp_le hC 642 dL_isWhole_637 (by decide) (fun c303 => ?_) (fun c303 => ?_)
                    · replace h272 := fi_pos h272 c303
                      refine g_iinc (L' := [(11, .int (s271 + 1)), (14, .int (r293 - r297)), (13, .int r289), (12, .int r285), (0, .ref a0), (1, .int r1), (2, .int z256.1), (3, .int z256.2.1), (4, .int z256.2.2.1), (5, .int z256.2.2.2.1), (6, .int z256.2.2.2.2.1), (7, .int z256.2.2.2.2.2.1), (8, .int z256.2.2.2.2.2.2.1), (9, .int z256.2.2.2.2.2.2.2.1), (10, .int s257)]) hC dL_isWhole_642 14 rfl rfl (by decide) rfl ?_
                      refine g_goto hC 576 dL_isWhole_645 (by decide) ?_
                      obtain rfl := Option.some.inj h272
                      refine g_sub (L' := [(0, .ref a0), (1, .int r1), (2, .int z256.1), (3, .int z256.2.1), (4, .int z256.2.2.1), (5, .int z256.2.2.2.1), (6, .int z256.2.2.2.2.1), (7, .int z256.2.2.2.2.2.1), (8, .int z256.2.2.2.2.2.2.1), (9, .int z256.2.2.2.2.2.2.2.1), (10, .int s257), (11, .int (s271 + 1))]) [4, 5, 6, 7, 8, 9, 10, 11, 12, 13, 14, 0] rfl ?_
                      refine g_widen (k' := ((4 - (n266 + 1)) * 90 + (9 - n280) * 10 + 2332)) (s' := ((4 - (n266 + 1)) * 540 + (9 - n280) * 60 + 13992)) (by omega) (by omega) ?_
                      have z9 := go273 (s271 + 1) rfl (by omega) _
                      exact z9
                    · replace h272 := fi_neg h272 c303
                      refine g_iconst (v := 0) hC dL_isWhole_640 (by decide) ?_
                      obtain rfl := Option.some.inj h272
                      obtain rfl := ou274 _ rfl
                      obtain rfl := Option.some.inj h258
                      obtain rfl := ou260 _ rfl
                      obtain rfl := Option.some.inj hF
                      refine g_widen (k' := 2792) (s' := 16752) (by omega) (by omega) ?_
                      exact g_zret hC hEn p9 (nar_z (by decide)) dL_isWhole_641)
          exact q8 9 _ h278 (Nat.le_refl _) _)
    exact q8 4 _ h264 (Nat.le_refl _) _
  refine g_sub (L' := [(0, .ref a0), (1, .int r1), (2, .int 0), (3, .int 0), (4, .int 0), (5, .int 0), (6, .int 0), (7, .int 0), (8, .int 0), (9, .int 0), (10, .int 0)]) [10, 9, 8, 7, 6, 5, 4, 3, 2, 1, 0] rfl ?_
  refine g_widen (k' := ((9 - 9) * 259 + 1)) (s' := ((9 - 9) * 1554 + 6)) (by omega) (by omega) ?_
  have q8 : ∀ n9 s9, _ → (fun (n14 : Nat) (s5 : Int32 × Int32 × Int32 × Int32 × Int32 × Int32 × Int32 × Int32 × Int32 × FW) => n14 ≤ 9 → ∀ z16 : Nat, fSm s5.2.2.2.2.2.2.2.2.2 w → gAt X ((9 - n14) * 259 + 1) ((9 - n14) * 1554 + 6) 20 s5.2.2.2.2.2.2.2.2.2 z16 gE0 [(0, .ref a0), (1, .int r1), (2, .int s5.1), (3, .int s5.2.1), (4, .int s5.2.2.1), (5, .int s5.2.2.2.1), (6, .int s5.2.2.2.2.1), (7, .int s5.2.2.2.2.2.1), (8, .int s5.2.2.2.2.2.2.1), (9, .int s5.2.2.2.2.2.2.2.1), (10, .int s5.2.2.2.2.2.2.2.2.1)] [] 31) n9 s9 := fLoopB_ind (fun (n14 : Nat) (s5 : Int32 × Int32 × Int32 × Int32 × Int32 × Int32 × Int32 × Int32 × Int32 × FW) => n14 ≤ 9 → ∀ z16 : Nat, fSm s5.2.2.2.2.2.2.2.2.2 w → gAt X ((9 - n14) * 259 + 1) ((9 - n14) * 1554 + 6) 20 s5.2.2.2.2.2.2.2.2.2 z16 gE0 [(0, .ref a0), (1, .int r1), (2, .int s5.1), (3, .int s5.2.1), (4, .int s5.2.2.1), (5, .int s5.2.2.2.1), (6, .int s5.2.2.2.2.1), (7, .int s5.2.2.2.2.2.1), (8, .int s5.2.2.2.2.2.2.1), (9, .int s5.2.2.2.2.2.2.2.1), (10, .int s5.2.2.2.2.2.2.2.2.1)] [] 31) (fun n14 s5 y10 h6 go7 ou8 => by
      intro l15 z16 p9
      refine g_iload hC dL_isWhole_31 10 rfl ?_
      refine g_iload_n hC dL_isWhole_33 rfl 1 rfl ?_
      refine g_icmp_ge hC 564 dL_isWhole_34 (by decide) (fun c18 => ?_) (fun c18 => ?_)
      · replace h6 := fi_pos h6 c18
        obtain rfl := Option.some.inj h6
        have eo := ou8 _ rfl
        refine g_sub (L' := [(0, .ref a0), (1, .int r1), (2, .int s5.1), (3, .int s5.2.1), (4, .int s5.2.2.1), (5, .int s5.2.2.2.1), (6, .int s5.2.2.2.2.1), (7, .int s5.2.2.2.2.2.1), (8, .int s5.2.2.2.2.2.2.1), (9, .int s5.2.2.2.2.2.2.2.1)]) [0, 1, 2, 3, 4, 5, 6, 7, 8, 9] rfl ?_
        refine g_widen (k' := 2332) (s' := 13992) (by omega) (by omega) ?_
        exact K13 _ eo.symm _ p9
      · replace h6 := fi_neg h6 c18
        refine g_aload_n hC dL_isWhole_37 rfl 0 rfl ?_
        refine g_iload hC dL_isWhole_38 10 rfl ?_
        refine g_iconst (v := 0) hC dL_isWhole_40 (by decide) ?_
        obtain ⟨r19, h20, h6⟩ := fb_open h6
        refine g_callL hC hL [.ref a0, .int s5.2.2.2.2.2.2.2.2.1, .int 0] (c_L_isHalf l D cy a0 s5.2.2.2.2.2.2.2.2.1 0 s5.2.2.2.2.2.2.2.2.2 r19 h20) (Or.inl rfl) (fun _ _ h => nomatch h) q_1213 q_72 q_1211 q_1212 h9_L_isHalf ⟨Nat.le_of_ble_eq_true rfl, Nat.le_of_ble_eq_true rfl⟩ ⟨show ((9 - (n14 + 1)) * 259 + 66) ≤ 2792 from by omega, show ((9 - (n14 + 1)) * 1554 + 396) ≤ 16752 from by omega⟩ (Nat.le_of_ble_eq_true rfl) rfl dL_isWhole_41 (fun z22 _ e21 => ?_)
        show gAt X ((9 - (n14 + 1)) * 259 + 66) ((9 - (n14 + 1)) * 1554 + 396) 20 r19.2 z22 gE0 [(0, .ref a0), (1, .int r1), (2, .int s5.1), (3, .int s5.2.1), (4, .int s5.2.2.1), (5, .int s5.2.2.2.1), (6, .int s5.2.2.2.2.1), (7, .int s5.2.2.2.2.2.1), (8, .int s5.2.2.2.2.2.2.1), (9, .int s5.2.2.2.2.2.2.2.1), (10, .int s5.2.2.2.2.2.2.2.2.1)] [.int r19.1] 44
        refine g_if_eq hC 57 dL_isWhole_44 (by decide) (fun c23 => ?_) (fun c23 => ?_)
        · replace h6 := fi_pos h6 c23
          refine g_iconst (v := 0) hC dL_isWhole_57 (by decide) ?_
          obtain rfl := Option.some.inj h6
          obtain rfl := ou8 _ rfl
          obtain rfl := Option.some.inj hF
          refine g_widen (k' := 2792) (s' := 16752) (by omega) (by omega) ?_
          exact g_zret hC hEn (fSm.tr e21 p9) (nar_z (by decide)) dL_isWhole_58
        · replace h6 := fi_neg h6 c23
          refine g_aload_n hC dL_isWhole_47 rfl 0 rfl ?_
          refine g_iload hC dL_isWhole_48 10 rfl ?_
          refine g_iconst (v := 1) hC dL_isWhole_50 (by decide) ?_
          obtain ⟨r24, h25, h6⟩ := fb_open h6
          refine g_callL hC hL [.ref a0, .int s5.2.2.2.2.2.2.2.2.1, .int 1] (c_L_isHalf l D cy a0 s5.2.2.2.2.2.2.2.2.1 1 r19.2 r24 h25) (Or.inl rfl) (fun _ _ h => nomatch h) q_1213 q_72 q_1211 q_1212 h9_L_isHalf ⟨Nat.le_of_ble_eq_true rfl, Nat.le_of_ble_eq_true rfl⟩ ⟨show ((9 - (n14 + 1)) * 259 + 131) ≤ 2792 from by omega, show ((9 - (n14 + 1)) * 1554 + 786) ≤ 16752 from by omega⟩ (Nat.le_of_ble_eq_true rfl) rfl dL_isWhole_51 (fun z27 _ e26 => ?_)
          show gAt X ((9 - (n14 + 1)) * 259 + 131) ((9 - (n14 + 1)) * 1554 + 786) 20 r24.2 z27 gE0 [(0, .ref a0), (1, .int r1), (2, .int s5.1), (3, .int s5.2.1), (4, .int s5.2.2.1), (5, .int s5.2.2.2.1), (6, .int s5.2.2.2.2.1), (7, .int s5.2.2.2.2.2.1), (8, .int s5.2.2.2.2.2.2.1), (9, .int s5.2.2.2.2.2.2.2.1), (10, .int s5.2.2.2.2.2.2.2.2.1)] [.int r24.1] 54
          refine g_if_ne hC 59 dL_isWhole_54 (by decide) (fun c28 => ?_) (fun c28 => ?_)
          · replace h6 := fi_neg h6 c28
            refine g_aload_n hC dL_isWhole_59 rfl 0 rfl ?_
            refine g_iload hC dL_isWhole_60 10 rfl ?_
            refine g_iconst (v := 5) hC dL_isWhole_62 (by decide) ?_
            obtain ⟨r29, h30, h6⟩ := fb_open h6
            refine g_callLW hC hL [.ref a0, .int s5.2.2.2.2.2.2.2.2.1, .int 5] (c_L_ticketOf l D cy a0 s5.2.2.2.2.2.2.2.2.1 5 r24.2 r29 h30) (Or.inl rfl) (fun _ _ h => nomatch h) q_1191 q_72 q_1189 q_1190 h9_L_ticketOf ⟨Nat.le_of_ble_eq_true rfl, Nat.le_of_ble_eq_true rfl⟩ ⟨show ((9 - (n14 + 1)) * 259 + 133) ≤ 2792 from by omega, show ((9 - (n14 + 1)) * 1554 + 798) ≤ 16752 from by omega⟩ (Nat.le_of_ble_eq_true rfl) rfl dL_isWhole_63 (fun z32 _ e31 => ?_)
            show gAt X ((9 - (n14 + 1)) * 259 + 133) ((9 - (n14 + 1)) * 1554 + 798) 20 r24.2 z32 gE0 [(0, .ref a0), (1, .int r1), (2, .int s5.1), (3, .int s5.2.1), (4, .int s5.2.2.1), (5, .int s5.2.2.2.1), (6, .int s5.2.2.2.2.1), (7, .int s5.2.2.2.2.2.1), (8, .int s5.2.2.2.2.2.2.1), (9, .int s5.2.2.2.2.2.2.2.1), (10, .int s5.2.2.2.2.2.2.2.2.1)] [.int r29] 66
            obtain ⟨x33, h34, h6⟩ := fb_open h6
            have K36 : ∀ z37, gAt X ((9 - (n14 + 1)) * 259 + 133) ((9 - (n14 + 1)) * 1554 + 798) 20 r24.2 z37 gE0 [(0, .ref a0), (1, .int r1), (2, .int s5.1), (3, .int s5.2.1), (4, .int s5.2.2.1), (5, .int s5.2.2.2.1), (6, .int s5.2.2.2.2.1), (7, .int s5.2.2.2.2.2.1), (8, .int s5.2.2.2.2.2.2.1), (9, .int s5.2.2.2.2.2.2.2.1), (10, .int s5.2.2.2.2.2.2.2.2.1)] [.int x33] 74 := by
              intro z37
              refine g_istore (L' := [(11, .int x33), (0, .ref a0), (1, .int r1), (2, .int s5.1), (3, .int s5.2.1), (4, .int s5.2.2.1), (5, .int s5.2.2.2.1), (6, .int s5.2.2.2.2.1), (7, .int s5.2.2.2.2.2.1), (8, .int s5.2.2.2.2.2.2.1), (9, .int s5.2.2.2.2.2.2.2.1), (10, .int s5.2.2.2.2.2.2.2.2.1)]) hC dL_isWhole_74 (by decide) rfl ?_
              refine g_aload_n hC dL_isWhole_76 rfl 1 rfl ?_
              refine g_iload hC dL_isWhole_77 11 rfl ?_
              refine g_iconst (v := 0) hC dL_isWhole_79 (by decide) ?_
              refine g_iconst (v := 0) hC dL_isWhole_80 (by decide) ?_
              obtain ⟨r38, h39, h6⟩ := fb_open h6
              refine g_callLW hC hL [.ref a0, .int s5.2.2.2.2.2.2.2.2.1, .int 0, .int 0] (c_L_halfOf l D cy a0 s5.2.2.2.2.2.2.2.2.1 0 0 r24.2 r38 h39) (Or.inl rfl) (fun _ _ h => nomatch h) q_315 q_72 q_313 q_314 h9_L_halfOf ⟨Nat.le_of_ble_eq_true rfl, Nat.le_of_ble_eq_true rfl⟩ ⟨show ((9 - (n14 + 1)) * 259 + 135) ≤ 2792 from by omega, show ((9 - (n14 + 1)) * 1554 + 810) ≤ 16752 from by omega⟩ (Nat.le_of_ble_eq_true rfl) rfl dL_isWhole_81 (fun z41 _ e40 => ?_)
              show gAt X ((9 - (n14 + 1)) * 259 + 135) ((9 - (n14 + 1)) * 1554 + 810) 20 r24.2 z41 gE0 [(11, .int x33), (0, .ref a0), (1, .int r1), (2, .int s5.1), (3, .int s5.2.1), (4, .int s5.2.2.1), (5, .int s5.2.2.2.1), (6, .int s5.2.2.2.2.1), (7, .int s5.2.2.2.2.2.1), (8, .int s5.2.2.2.2.2.2.1), (9, .int s5.2.2.2.2.2.2.2.1), (10, .int s5.2.2.2.2.2.2.2.2.1)] [.int r38] 84
              refine g_iconst (v := 1) hC dL_isWhole_84 (by decide) ?_
              obtain ⟨x42, h43, h6⟩ := fb_open h6
              have K45 : ∀ z46, gAt X ((9 - (n14 + 1)) * 259 + 137) ((9 - (n14 + 1)) * 1554 + 822) 20 r24.2 z46 gE0 [(0, .ref a0), (1, .int r1), (2, .int s5.1), (3, .int s5.2.1), (4, .int s5.2.2.1), (5, .int s5.2.2.2.1), (6, .int s5.2.2.2.2.1), (7, .int s5.2.2.2.2.2.1), (8, .int s5.2.2.2.2.2.2.1), (9, .int s5.2.2.2.2.2.2.2.1), (10, .int s5.2.2.2.2.2.2.2.2.1), (11, .int x33)] [.int x42] 105 := by
                intro z46
                refine g_istore (L' := [(12, .int x42), (0, .ref a0), (1, .int r1), (2, .int s5.1), (3, .int s5.2.1), (4, .int s5.2.2.1), (5, .int s5.2.2.2.1), (6, .int s5.2.2.2.2.1), (7, .int s5.2.2.2.2.2.1), (8, .int s5.2.2.2.2.2.2.1), (9, .int s5.2.2.2.2.2.2.2.1), (10, .int s5.2.2.2.2.2.2.2.2.1), (11, .int x33)]) hC dL_isWhole_105 (by decide) rfl ?_
                refine g_iload hC dL_isWhole_107 0 rfl ?_
                refine g_istore (L' := [(13, .int x42), (12, .int x42), (0, .ref a0), (1, .int r1), (2, .int s5.1), (3, .int s5.2.1), (4, .int s5.2.2.1), (5, .int s5.2.2.2.1), (6, .int s5.2.2.2.2.1), (7, .int s5.2.2.2.2.2.1), (8, .int s5.2.2.2.2.2.2.1), (9, .int s5.2.2.2.2.2.2.2.1), (10, .int s5.2.2.2.2.2.2.2.2.1), (11, .int x33)]) hC dL_isWhole_109 (by decide) rfl ?_
                refine g_iconst (v := 0) hC dL_isWhole_111 (by decide) ?_
                refine g_istore (L' := [(14, .int 0), (13, .int x42), (12, .int x42), (0, .ref a0), (1, .int r1), (2, .int s5.1), (3, .int s5.2.1), (4, .int s5.2.2.1), (5, .int s5.2.2.2.1), (6, .int s5.2.2.2.2.1), (7, .int s5.2.2.2.2.2.1), (8, .int s5.2.2.2.2.2.2.1), (9, .int s5.2.2.2.2.2.2.2.1), (10, .int s5.2.2.2.2.2.2.2.2.1), (11, .int x33)]) hC dL_isWhole_112 (by decide) rfl ?_
                obtain ⟨x53, h54, h6⟩ := fb_open h6
                have K55 : ∀ z59, gAt X ((9 - (n14 + 1)) * 259 + 193) ((9 - (n14 + 1)) * 1554 + 1158) 20 r24.2 z59 gE0 [(0, .ref a0), (1, .int r1), (2, .int s5.1), (3, .int s5.2.1), (4, .int s5.2.2.1), (5, .int s5.2.2.2.1), (6, .int s5.2.2.2.2.1), (7, .int s5.2.2.2.2.2.1), (8, .int s5.2.2.2.2.2.2.1), (9, .int s5.2.2.2.2.2.2.2.1), (10, .int s5.2.2.2.2.2.2.2.2.1), (11, .int x33), (13, .int x53)] [] 165 := by
                  intro z59
                  refine g_aload_n hC dL_isWhole_165 rfl 0 rfl ?_
                  refine g_iload hC dL_isWhole_166 10 rfl ?_
                  refine g_bipush (v := 6) hC dL_isWhole_168 (by decide) ?_
                  obtain ⟨r75, h76, h6⟩ := fb_open h6
                  refine g_callLW hC hL [.ref a0, .int s5.2.2.2.2.2.2.2.2.1, .int 6] (c_L_ticketOf l D cy a0 s5.2.2.2.2.2.2.2.2.1 6 r24.2 r75 h76) (Or.inl rfl) (fun _ _ h => nomatch h) q_1191 q_72 q_1189 q_1190 h9_L_ticketOf ⟨Nat.le_of_ble_eq_true rfl, Nat.le_of_ble_eq_true rfl⟩ ⟨show ((9 - (n14 + 1)) * 259 + 195) ≤ 2792 from by omega, show ((9 - (n14 + 1)) * 1554 + 1170) ≤ 16752 from by omega⟩ (Nat.le_of_ble_eq_true rfl) rfl dL_isWhole_170 (fun z78 _ e77 => ?_)
                  show gAt X ((9 - (n14 + 1)) * 259 + 195) ((9 - (n14 + 1)) * 1554 + 1170) 20 r24.2 z78 gE0 [(0, .ref a0), (1, .int r1), (2, .int s5.1), (3, .int s5.2.1), (4, .int s5.2.2.1), (5, .int s5.2.2.2.1), (6, .int s5.2.2.2.2.1), (7, .int s5.2.2.2.2.2.1), (8, .int s5.2.2.2.2.2.2.1), (9, .int s5.2.2.2.2.2.2.2.1), (10, .int s5.2.2.2.2.2.2.2.2.1), (11, .int x33), (13, .int x53)] [.int r75] 173
                  refine g_istore (L' := [(14, .int r75), (0, .ref a0), (1, .int r1), (2, .int s5.1), (3, .int s5.2.1), (4, .int s5.2.2.1), (5, .int s5.2.2.2.1), (6, .int s5.2.2.2.2.1), (7, .int s5.2.2.2.2.2.1), (8, .int s5.2.2.2.2.2.2.1), (9, .int s5.2.2.2.2.2.2.2.1), (10, .int s5.2.2.2.2.2.2.2.2.1), (11, .int x33), (13, .int x53)]) hC dL_isWhole_173 (by decide) rfl ?_
                  refine g_iload hC dL_isWhole_175 0 rfl ?_
                  obtain ⟨x79, h80, h6⟩ := fb_open h6
                  have K82 : ∀ z83, gAt X ((9 - (n14 + 1)) * 259 + 198) ((9 - (n14 + 1)) * 1554 + 1188) 20 r24.2 z83 gE0 [(0, .ref a0), (1, .int r1), (2, .int s5.1), (3, .int s5.2.1), (4, .int s5.2.2.1), (5, .int s5.2.2.2.1), (6, .int s5.2.2.2.2.1), (7, .int s5.2.2.2.2.2.1), (8, .int s5.2.2.2.2.2.2.1), (9, .int s5.2.2.2.2.2.2.2.1), (10, .int s5.2.2.2.2.2.2.2.2.1), (11, .int x33), (13, .int x53), (14, .int r75)] [.int x79] 205 := by
                    intro z83
                    refine g_istore (L' := [(15, .int x79), (0, .ref a0), (1, .int r1), (2, .int s5.1), (3, .int s5.2.1), (4, .int s5.2.2.1), (5, .int s5.2.2.2.1), (6, .int s5.2.2.2.2.1), (7, .int s5.2.2.2.2.2.1), (8, .int s5.2.2.2.2.2.2.1), (9, .int s5.2.2.2.2.2.2.2.1), (10, .int s5.2.2.2.2.2.2.2.2.1), (11, .int x33), (13, .int x53), (14, .int r75)]) hC dL_isWhole_205 (by decide) rfl ?_
                    refine g_aload_n hC dL_isWhole_207 rfl 1 rfl ?_
                    refine g_iload hC dL_isWhole_208 11 rfl ?_
                    refine g_iconst (v := 0) hC dL_isWhole_210 (by decide) ?_
                    obtain ⟨r84, h85, h6⟩ := fb_open h6
                    refine g_callLW hC hL [.ref a0, .int s5.2.2.2.2.2.2.2.2.1, .int 0] (c_L_doAgree l D cy a0 s5.2.2.2.2.2.2.2.2.1 0 r24.2 r84 h85) (Or.inl rfl) (fun _ _ h => nomatch h) q_1275 q_72 q_1273 q_1274 h9_L_doAgree ⟨Nat.le_of_ble_eq_true rfl, Nat.le_of_ble_eq_true rfl⟩ ⟨show ((9 - (n14 + 1)) * 259 + 199) ≤ 2792 from by omega, show ((9 - (n14 + 1)) * 1554 + 1194) ≤ 16752 from by omega⟩ (Nat.le_of_ble_eq_true rfl) rfl dL_isWhole_211 (fun z87 _ e86 => ?_)
                    show gAt X ((9 - (n14 + 1)) * 259 + 199) ((9 - (n14 + 1)) * 1554 + 1194) 20 r24.2 z87 gE0 [(15, .int x79), (0, .ref a0), (1, .int r1), (2, .int s5.1), (3, .int s5.2.1), (4, .int s5.2.2.1), (5, .int s5.2.2.2.1), (6, .int s5.2.2.2.2.1), (7, .int s5.2.2.2.2.2.1), (8, .int s5.2.2.2.2.2.2.1), (9, .int s5.2.2.2.2.2.2.2.1), (10, .int s5.2.2.2.2.2.2.2.2.1), (11, .int x33), (13, .int x53), (14, .int r75)] [.int r84] 214
                    refine g_iload hC dL_isWhole_214 13 rfl ?_
                    obtain ⟨x88, h89, h6⟩ := fb_open h6
                    have K91 : ∀ z92, gAt X ((9 - (n14 + 1)) * 259 + 199) ((9 - (n14 + 1)) * 1554 + 1194) 20 r24.2 z92 gE0 [(0, .ref a0), (1, .int r1), (2, .int s5.1), (3, .int s5.2.1), (4, .int s5.2.2.1), (5, .int s5.2.2.2.1), (6, .int s5.2.2.2.2.1), (7, .int s5.2.2.2.2.2.1), (8, .int s5.2.2.2.2.2.2.1), (9, .int s5.2.2.2.2.2.2.2.1), (10, .int s5.2.2.2.2.2.2.2.2.1), (11, .int x33), (13, .int x53), (14, .int r75), (15, .int x79)] [.int x88, .int r84] 224 := by
                      intro z92
                      obtain ⟨x93, h94, h6⟩ := fb_open h6
                      have K96 : ∀ z97, gAt X ((9 - (n14 + 1)) * 259 + 206) ((9 - (n14 + 1)) * 1554 + 1236) 20 r24.2 z97 gE0 [(0, .ref a0), (1, .int r1), (2, .int s5.1), (3, .int s5.2.1), (4, .int s5.2.2.1), (5, .int s5.2.2.2.1), (6, .int s5.2.2.2.2.1), (7, .int s5.2.2.2.2.2.1), (8, .int s5.2.2.2.2.2.2.1), (9, .int s5.2.2.2.2.2.2.2.1), (10, .int s5.2.2.2.2.2.2.2.2.1), (11, .int x33)] [.int x93] 311 := by
                        intro z97
                        refine g_istore (L' := [(16, .int x93), (0, .ref a0), (1, .int r1), (2, .int s5.1), (3, .int s5.2.1), (4, .int s5.2.2.1), (5, .int s5.2.2.2.1), (6, .int s5.2.2.2.2.1), (7, .int s5.2.2.2.2.2.1), (8, .int s5.2.2.2.2.2.2.1), (9, .int s5.2.2.2.2.2.2.2.1), (10, .int s5.2.2.2.2.2.2.2.2.1), (11, .int x33)]) hC dL_isWhole_311 (by decide) rfl ?_
                        refine g_iload hC dL_isWhole_313 12 rfl ?_
                        obtain ⟨x98, h99, h6⟩ := fb_open h6
                        have K101 : ∀ z102, gAt X ((9 - (n14 + 1)) * 259 + 214) ((9 - (n14 + 1)) * 1554 + 1284) 20 r24.2 z102 gE0 [(0, .ref a0), (1, .int r1), (2, .int s5.1), (3, .int s5.2.1), (4, .int s5.2.2.1), (5, .int s5.2.2.2.1), (6, .int s5.2.2.2.2.1), (7, .int s5.2.2.2.2.2.1), (8, .int s5.2.2.2.2.2.2.1), (9, .int s5.2.2.2.2.2.2.2.1), (10, .int s5.2.2.2.2.2.2.2.2.1), (11, .int x33), (16, .int x93)] [.int x98] 368 := by
                          intro z102
                          refine g_istore (L' := [(17, .int x98), (0, .ref a0), (1, .int r1), (2, .int s5.1), (3, .int s5.2.1), (4, .int s5.2.2.1), (5, .int s5.2.2.2.1), (6, .int s5.2.2.2.2.1), (7, .int s5.2.2.2.2.2.1), (8, .int s5.2.2.2.2.2.2.1), (9, .int s5.2.2.2.2.2.2.2.1), (10, .int s5.2.2.2.2.2.2.2.2.1), (11, .int x33), (16, .int x93)]) hC dL_isWhole_368 (by decide) rfl ?_
                          refine g_iload hC dL_isWhole_370 13 rfl ?_
                          refine g_if_eq hC 391 dL_isWhole_372 (by decide) (fun c103 => ?_) (fun c103 => ?_)
                          · replace h6 := fi_pos h6 c103
                            refine g_iconst (v := 0) hC dL_isWhole_391 (by decide) ?_
                            obtain rfl := Option.some.inj h6
                            obtain rfl := ou8 _ rfl
                            obtain rfl := Option.some.inj hF
                            refine g_widen (k' := 2792) (s' := 16752) (by omega) (by omega) ?_
                            exact g_zret hC hEn (fSm.tr e26 (fSm.tr e21 p9)) (nar_z (by decide)) dL_isWhole_392
                          · replace h6 := fi_neg h6 c103
                            refine g_iload hC dL_isWhole_375 0 rfl ?_
                            refine g_if_eq hC 391 dL_isWhole_377 (by decide) (fun c104 => ?_) (fun c104 => ?_)
                            · replace h6 := fi_pos h6 c104
                              refine g_iconst (v := 0) hC dL_isWhole_391 (by decide) ?_
                              obtain rfl := Option.some.inj h6
                              obtain rfl := ou8 _ rfl
                              obtain rfl := Option.some.inj hF
                              refine g_widen (k' := 2792) (s' := 16752) (by omega) (by omega) ?_
                              exact g_zret hC hEn (fSm.tr e26 (fSm.tr e21 p9)) (nar_z (by decide)) dL_isWhole_392
                            · replace h6 := fi_neg h6 c104
                              refine g_aload_n hC dL_isWhole_380 rfl 1 rfl ?_
                              refine g_iload hC dL_isWhole_381 11 rfl ?_
                              obtain ⟨r105, h106, h6⟩ := fb_open h6
                              refine g_callLW hC hL [.ref a0, .int s5.2.2.2.2.2.2.2.2.1] (c_L_line l D cy a0 s5.2.2.2.2.2.2.2.2.1 r24.2 r105 h106) (Or.inl rfl) (fun _ _ h => nomatch h) q_1304 q_72 q_1302 q_1303 h9_L_line ⟨Nat.le_of_ble_eq_true rfl, Nat.le_of_ble_eq_true rfl⟩ ⟨show ((9 - (n14 + 1)) * 259 + 215) ≤ 2792 from by omega, show ((9 - (n14 + 1)) * 1554 + 1290) ≤ 16752 from by omega⟩ (Nat.le_of_ble_eq_true rfl) rfl dL_isWhole_383 (fun z108 _ e107 => ?_)
                              show gAt X ((9 - (n14 + 1)) * 259 + 215) ((9 - (n14 + 1)) * 1554 + 1290) 20 r105.2 z108 gE0 [(17, .int x98), (0, .ref a0), (1, .int r1), (2, .int s5.1), (3, .int s5.2.1), (4, .int s5.2.2.1), (5, .int s5.2.2.2.1), (6, .int s5.2.2.2.2.1), (7, .int s5.2.2.2.2.2.1), (8, .int s5.2.2.2.2.2.2.1), (9, .int s5.2.2.2.2.2.2.2.1), (10, .int s5.2.2.2.2.2.2.2.2.1), (11, .int x33), (16, .int x93)] [.int r105.1] 386
                              refine g_bipush (v := 7) hC dL_isWhole_386 (by decide) ?_
                              refine g_icmp_ge hC 393 dL_isWhole_388 (by decide) (fun c109 => ?_) (fun c109 => ?_)
                              · replace h6 := fi_pos h6 c109
                                refine g_iconst (v := 0) hC dL_isWhole_393 (by decide) ?_
                                refine g_istore (L' := [(18, .int 0), (17, .int x98), (0, .ref a0), (1, .int r1), (2, .int s5.1), (3, .int s5.2.1), (4, .int s5.2.2.1), (5, .int s5.2.2.2.1), (6, .int s5.2.2.2.2.1), (7, .int s5.2.2.2.2.2.1), (8, .int s5.2.2.2.2.2.2.1), (9, .int s5.2.2.2.2.2.2.2.1), (10, .int s5.2.2.2.2.2.2.2.2.1), (11, .int x33), (16, .int x93)]) hC dL_isWhole_394 (by decide) rfl ?_
                                obtain ⟨x116, h117, h6⟩ := fb_open h6
                                have K118 : ∀ z122, gAt X ((9 - (n14 + 1)) * 259 + 257) ((9 - (n14 + 1)) * 1554 + 1542) 20 r105.2 z122 gE0 [(0, .ref a0), (1, .int r1), (2, .int s5.1), (3, .int x116.1), (4, .int x116.2.1), (5, .int x116.2.2.1), (6, .int x116.2.2.2.1), (7, .int x116.2.2.2.2), (8, .int s5.2.2.2.2.2.2.1), (9, .int s5.2.2.2.2.2.2.2.1), (10, .int s5.2.2.2.2.2.2.2.2.1), (11, .int x33)] [] 518 := by
                                  intro z122
                                  refine g_iload_n hC dL_isWhole_518 rfl 2 rfl ?_
                                  refine g_iload hC dL_isWhole_519 11 rfl ?_
                                  obtain ⟨x160, h161, h6⟩ := fb_open h6
                                  have K163 : ∀ z164, gAt X ((9 - (n14 + 1)) * 259 + 257) ((9 - (n14 + 1)) * 1554 + 1542) 20 r105.2 z164 gE0 [(0, .ref a0), (1, .int r1), (3, .int x116.1), (4, .int x116.2.1), (5, .int x116.2.2.1), (6, .int x116.2.2.2.1), (7, .int x116.2.2.2.2), (8, .int s5.2.2.2.2.2.2.1), (9, .int s5.2.2.2.2.2.2.2.1), (10, .int s5.2.2.2.2.2.2.2.2.1)] [.int x160, .int s5.1] 529 := by
                                    intro z164
                                    refine g_iadd hC dL_isWhole_529 ?_
                                    refine g_istore_n (L' := [(2, .int (s5.1 + x160)), (0, .ref a0), (1, .int r1), (3, .int x116.1), (4, .int x116.2.1), (5, .int x116.2.2.1), (6, .int x116.2.2.2.1), (7, .int x116.2.2.2.2), (8, .int s5.2.2.2.2.2.2.1), (9, .int s5.2.2.2.2.2.2.2.1), (10, .int s5.2.2.2.2.2.2.2.2.1)]) hC dL_isWhole_530 rfl (by decide) rfl ?_
                                    refine g_iload hC dL_isWhole_531 8 rfl ?_
                                    refine g_aload_n hC dL_isWhole_533 rfl 1 rfl ?_
                                    refine g_iload hC dL_isWhole_534 10 rfl ?_
                                    refine g_iconst (v := 0) hC dL_isWhole_536 (by decide) ?_
                                    obtain ⟨r165, h166, h6⟩ := fb_open h6
                                    refine g_callLW hC hL [.ref a0, .int s5.2.2.2.2.2.2.2.2.1, .int 0] (c_L_ticketOf l D cy a0 s5.2.2.2.2.2.2.2.2.1 0 r105.2 r165 h166) (Or.inl rfl) (fun _ _ h => nomatch h) q_1191 q_72 q_1189 q_1190 h9_L_ticketOf ⟨Nat.le_of_ble_eq_true rfl, Nat.le_of_ble_eq_true rfl⟩ ⟨show ((9 - (n14 + 1)) * 259 + 259) ≤ 2792 from by omega, show ((9 - (n14 + 1)) * 1554 + 1554) ≤ 16752 from by omega⟩ (Nat.le_of_ble_eq_true rfl) rfl dL_isWhole_537 (fun z168 _ e167 => ?_)
                                    show gAt X ((9 - (n14 + 1)) * 259 + 259) ((9 - (n14 + 1)) * 1554 + 1554) 20 r105.2 z168 gE0 [(2, .int (s5.1 + x160)), (0, .ref a0), (1, .int r1), (3, .int x116.1), (4, .int x116.2.1), (5, .int x116.2.2.1), (6, .int x116.2.2.2.1), (7, .int x116.2.2.2.2), (8, .int s5.2.2.2.2.2.2.1), (9, .int s5.2.2.2.2.2.2.2.1), (10, .int s5.2.2.2.2.2.2.2.2.1)] [.int r165, .int s5.2.2.2.2.2.2.1] 540
                                    refine g_iadd hC dL_isWhole_540 ?_
                                    refine g_istore (L' := [(8, .int (s5.2.2.2.2.2.2.1 + r165)), (2, .int (s5.1 + x160)), (0, .ref a0), (1, .int r1), (3, .int x116.1), (4, .int x116.2.1), (5, .int x116.2.2.1), (6, .int x116.2.2.2.1), (7, .int x116.2.2.2.2), (9, .int s5.2.2.2.2.2.2.2.1), (10, .int s5.2.2.2.2.2.2.2.2.1)]) hC dL_isWhole_541 (by decide) rfl ?_
                                    refine g_iload hC dL_isWhole_543 9 rfl ?_
                                    refine g_sipush (v := 840) hC dL_isWhole_545 (by decide) ?_
                                    refine g_aload_n hC dL_isWhole_548 rfl 2 rfl ?_
                                    refine g_iload hC dL_isWhole_549 10 rfl ?_
                                    obtain ⟨r169, h170, h6⟩ := fb_open h6
                                    refine g_callLW hC hL [.ref a0, .int s5.2.2.2.2.2.2.2.2.1] (c_L_sharing l D cy a0 s5.2.2.2.2.2.2.2.2.1 r105.2 r169 h170) (Or.inl rfl) (fun _ _ h => nomatch h) q_1263 q_72 q_1261 q_1262 h9_L_sharing ⟨Nat.le_of_ble_eq_true rfl, Nat.le_of_ble_eq_true rfl⟩ ⟨show ((9 - (n14 + 1)) * 259 + 260) ≤ 2792 from by omega, show ((9 - (n14 + 1)) * 1554 + 1560) ≤ 16752 from by omega⟩ (Nat.le_of_ble_eq_true rfl) rfl dL_isWhole_551 (fun z172 _ e171 => ?_)
                                    show gAt X ((9 - (n14 + 1)) * 259 + 260) ((9 - (n14 + 1)) * 1554 + 1560) 20 r105.2 z172 gE0 [(8, .int (s5.2.2.2.2.2.2.1 + r165)), (2, .int (s5.1 + x160)), (0, .ref a0), (1, .int r1), (3, .int x116.1), (4, .int x116.2.1), (5, .int x116.2.2.1), (6, .int x116.2.2.2.1), (7, .int x116.2.2.2.2), (9, .int s5.2.2.2.2.2.2.2.1), (10, .int s5.2.2.2.2.2.2.2.2.1)] [.int r169, .int 840, .int s5.2.2.2.2.2.2.2.1] 554
                                    obtain ⟨g173, h6⟩ := fg_open h6
                                    refine g_idiv hC dL_isWhole_554 g173 ?_
                                    refine g_iadd hC dL_isWhole_555 ?_
                                    refine g_istore (L' := [(9, .int (s5.2.2.2.2.2.2.2.1 + (840 / r169))), (8, .int (s5.2.2.2.2.2.2.1 + r165)), (2, .int (s5.1 + x160)), (0, .ref a0), (1, .int r1), (3, .int x116.1), (4, .int x116.2.1), (5, .int x116.2.2.1), (6, .int x116.2.2.2.1), (7, .int x116.2.2.2.2), (10, .int s5.2.2.2.2.2.2.2.2.1)]) hC dL_isWhole_556 (by decide) rfl ?_
                                    refine g_iinc (L' := [(10, .int (s5.2.2.2.2.2.2.2.2.1 + 1)), (9, .int (s5.2.2.2.2.2.2.2.1 + (840 / r169))), (8, .int (s5.2.2.2.2.2.2.1 + r165)), (2, .int (s5.1 + x160)), (0, .ref a0), (1, .int r1), (3, .int x116.1), (4, .int x116.2.1), (5, .int x116.2.2.1), (6, .int x116.2.2.2.1), (7, .int x116.2.2.2.2)]) hC dL_isWhole_558 10 rfl rfl (by decide) rfl ?_
                                    refine g_goto hC 31 dL_isWhole_561 (by decide) ?_
                                    obtain rfl := Option.some.inj h6
                                    refine g_sub (L' := [(0, .ref a0), (1, .int r1), (2, .int (s5.1 + x160)), (3, .int x116.1), (4, .int x116.2.1), (5, .int x116.2.2.1), (6, .int x116.2.2.2.1), (7, .int x116.2.2.2.2), (8, .int (s5.2.2.2.2.2.2.1 + r165)), (9, .int (s5.2.2.2.2.2.2.2.1 + (840 / r169))), (10, .int (s5.2.2.2.2.2.2.2.2.1 + 1))]) [4, 5, 3, 6, 7, 8, 9, 10, 2, 1, 0] rfl ?_
                                    refine g_widen (k' := ((9 - n14) * 259 + 1)) (s' := ((9 - n14) * 1554 + 6)) (by omega) (by omega) ?_
                                    have z9 := go7 ((s5.1 + x160), x116.1, x116.2.1, x116.2.2.1, x116.2.2.2.1, x116.2.2.2.2, (s5.2.2.2.2.2.2.1 + r165), (s5.2.2.2.2.2.2.2.1 + (840 / r169)), (s5.2.2.2.2.2.2.2.2.1 + 1), r105.2) rfl (by omega) _ (fSm.tr e107 (fSm.tr e26 (fSm.tr e21 p9)))
                                    exact z9
                                  refine g_if_eq hC 528 dL_isWhole_521 (by decide) (fun c174 => ?_) (fun c174 => ?_)
                                  · replace h161 := fi_pos h161 c174
                                    refine g_iconst (v := 1) hC dL_isWhole_528 (by decide) ?_
                                    obtain rfl := Option.some.inj h161
                                    refine g_sub (L' := [(0, .ref a0), (1, .int r1), (3, .int x116.1), (4, .int x116.2.1), (5, .int x116.2.2.1), (6, .int x116.2.2.2.1), (7, .int x116.2.2.2.2), (8, .int s5.2.2.2.2.2.2.1), (9, .int s5.2.2.2.2.2.2.2.1), (10, .int s5.2.2.2.2.2.2.2.2.1)]) [0, 1, 3, 4, 5, 6, 7, 8, 9, 10] rfl ?_
                                    exact K163 _
                                  · replace h161 := fi_neg h161 c174
                                    refine g_iconst (v := 0) hC dL_isWhole_524 (by decide) ?_
                                    refine g_goto hC 529 dL_isWhole_525 (by decide) ?_
                                    obtain rfl := Option.some.inj h161
                                    refine g_sub (L' := [(0, .ref a0), (1, .int r1), (3, .int x116.1), (4, .int x116.2.1), (5, .int x116.2.2.1), (6, .int x116.2.2.2.1), (7, .int x116.2.2.2.2), (8, .int s5.2.2.2.2.2.2.1), (9, .int s5.2.2.2.2.2.2.2.1), (10, .int s5.2.2.2.2.2.2.2.2.1)]) [0, 1, 3, 4, 5, 6, 7, 8, 9, 10] rfl ?_
                                    exact K163 _
                                refine g_sub (L' := [(0, .ref a0), (1, .int r1), (2, .int s5.1), (3, .int s5.2.1), (4, .int s5.2.2.1), (5, .int s5.2.2.2.1), (6, .int s5.2.2.2.2.1), (7, .int s5.2.2.2.2.2.1), (8, .int s5.2.2.2.2.2.2.1), (9, .int s5.2.2.2.2.2.2.2.1), (10, .int s5.2.2.2.2.2.2.2.2.1), (11, .int x33), (18, .int 0)]) [2, 3, 4, 5, 6, 7, 8, 9, 10, 11, 12, 13, 0] rfl ?_
                                refine g_widen (k' := ((9 - (n14 + 1)) * 259 + (3 - 3) * 14 + 215)) (s' := ((9 - (n14 + 1)) * 1554 + (3 - 3) * 84 + 1290)) (by omega) (by omega) ?_
                                have q8 : ∀ n9 s9, _ → (fun (n119 : Nat) (s110 : Int32 × Int32 × Int32 × Int32 × Int32 × Int32) => n119 ≤ 3 → ∀ z121 : Nat, gAt X ((9 - (n14 + 1)) * 259 + (3 - n119) * 14 + 215) ((9 - (n14 + 1)) * 1554 + (3 - n119) * 84 + 1290) 20 r105.2 z121 gE0 [(0, .ref a0), (1, .int r1), (2, .int s5.1), (3, .int s110.1), (4, .int s110.2.1), (5, .int s110.2.2.1), (6, .int s110.2.2.2.1), (7, .int s110.2.2.2.2.1), (8, .int s5.2.2.2.2.2.2.1), (9, .int s5.2.2.2.2.2.2.2.1), (10, .int s5.2.2.2.2.2.2.2.2.1), (11, .int x33), (18, .int s110.2.2.2.2.2)] [] 396) n9 s9 := fLoopB_ind (fun (n119 : Nat) (s110 : Int32 × Int32 × Int32 × Int32 × Int32 × Int32) => n119 ≤ 3 → ∀ z121 : Nat, gAt X ((9 - (n14 + 1)) * 259 + (3 - n119) * 14 + 215) ((9 - (n14 + 1)) * 1554 + (3 - n119) * 84 + 1290) 20 r105.2 z121 gE0 [(0, .ref a0), (1, .int r1), (2, .int s5.1), (3, .int s110.1), (4, .int s110.2.1), (5, .int s110.2.2.1), (6, .int s110.2.2.2.1), (7, .int s110.2.2.2.2.1), (8, .int s5.2.2.2.2.2.2.1), (9, .int s5.2.2.2.2.2.2.2.1), (10, .int s5.2.2.2.2.2.2.2.2.1), (11, .int x33), (18, .int s110.2.2.2.2.2)] [] 396) (fun n119 s110 y115 h111 go112 ou113 => by
                                    intro l120 z121
                                    refine g_iload hC dL_isWhole_396 12 rfl ?_
                                    refine g_iconst (v := 2) hC dL_isWhole_398 (by decide) ?_
                                    refine g_icmp_ge hC 518 dL_isWhole_399 (by decide) (fun c123 => ?_) (fun c123 => ?_)
                                    · replace h111 := fi_pos h111 c123
                                      obtain rfl := Option.some.inj h111
                                      obtain rfl := ou113 _ rfl
                                      refine g_sub (L' := [(0, .ref a0), (1, .int r1), (2, .int s5.1), (3, .int s110.1), (4, .int s110.2.1), (5, .int s110.2.2.1), (6, .int s110.2.2.2.1), (7, .int s110.2.2.2.2.1), (8, .int s5.2.2.2.2.2.2.1), (9, .int s5.2.2.2.2.2.2.2.1), (10, .int s5.2.2.2.2.2.2.2.2.1), (11, .int x33)]) [0, 1, 2, 3, 4, 5, 6, 7, 8, 9, 10, 11] rfl ?_
                                      refine g_widen (k' := ((9 - (n14 + 1)) * 259 + 257)) (s' := ((9 - (n14 + 1)) * 1554 + 1542)) (by omega) (by omega) ?_
                                      exact K118 _
                                    · replace h111 := fi_neg h111 c123
                                      refine g_iload hC dL_isWhole_402 12 rfl ?_
                                      refine g_iconst (v := 1) hC dL_isWhole_404 (by decide) ?_
                                      obtain ⟨x124, h125, h111⟩ := fb_open h111
                                      have K127 : ∀ z128, gAt X ((9 - (n14 + 1)) * 259 + (3 - (n119 + 1)) * 14 + 215) ((9 - (n14 + 1)) * 1554 + (3 - (n119 + 1)) * 84 + 1290) 20 r105.2 z128 gE0 [(0, .ref a0), (1, .int r1), (2, .int s5.1), (3, .int s110.1), (4, .int s110.2.1), (5, .int s110.2.2.1), (6, .int s110.2.2.2.1), (7, .int s110.2.2.2.2.1), (8, .int s5.2.2.2.2.2.2.1), (9, .int s5.2.2.2.2.2.2.2.1), (10, .int s5.2.2.2.2.2.2.2.2.1), (11, .int x33), (18, .int s110.2.2.2.2.2)] [.int x124] 413 := by
                                        intro z128
                                        refine g_istore (L' := [(19, .int x124), (0, .ref a0), (1, .int r1), (2, .int s5.1), (3, .int s110.1), (4, .int s110.2.1), (5, .int s110.2.2.1), (6, .int s110.2.2.2.1), (7, .int s110.2.2.2.2.1), (8, .int s5.2.2.2.2.2.2.1), (9, .int s5.2.2.2.2.2.2.2.1), (10, .int s5.2.2.2.2.2.2.2.2.1), (11, .int x33), (18, .int s110.2.2.2.2.2)]) hC dL_isWhole_413 (by decide) rfl ?_
                                        refine g_iload_n hC dL_isWhole_415 rfl 4 rfl ?_
                                        refine g_aload_n hC dL_isWhole_416 rfl 1 rfl ?_
                                        refine g_iload hC dL_isWhole_417 11 rfl ?_
                                        refine g_iload hC dL_isWhole_419 0 rfl ?_
                                        refine g_iconst (v := 5) hC dL_isWhole_421 (by decide) ?_
                                        obtain ⟨r129, h130, h111⟩ := fb_open h111
                                        refine g_callLW hC hL [.ref a0, .int s5.2.2.2.2.2.2.2.2.1, .int x124, .int 5] (c_L_halfOf l D cy a0 s5.2.2.2.2.2.2.2.2.1 x124 5 r105.2 r129 h130) (Or.inl rfl) (fun _ _ h => nomatch h) q_315 q_72 q_313 q_314 h9_L_halfOf ⟨Nat.le_of_ble_eq_true rfl, Nat.le_of_ble_eq_true rfl⟩ ⟨show ((9 - (n14 + 1)) * 259 + (3 - (n119 + 1)) * 14 + 217) ≤ 2792 from by omega, show ((9 - (n14 + 1)) * 1554 + (3 - (n119 + 1)) * 84 + 1302) ≤ 16752 from by omega⟩ (Nat.le_of_ble_eq_true rfl) rfl dL_isWhole_422 (fun z132 _ e131 => ?_)
                                        show gAt X ((9 - (n14 + 1)) * 259 + (3 - (n119 + 1)) * 14 + 217) ((9 - (n14 + 1)) * 1554 + (3 - (n119 + 1)) * 84 + 1302) 20 r105.2 z132 gE0 [(19, .int x124), (0, .ref a0), (1, .int r1), (2, .int s5.1), (3, .int s110.1), (4, .int s110.2.1), (5, .int s110.2.2.1), (6, .int s110.2.2.2.1), (7, .int s110.2.2.2.2.1), (8, .int s5.2.2.2.2.2.2.1), (9, .int s5.2.2.2.2.2.2.2.1), (10, .int s5.2.2.2.2.2.2.2.2.1), (11, .int x33), (18, .int s110.2.2.2.2.2)] [.int r129, .int s110.1] 425
                                        refine g_iadd hC dL_isWhole_425 ?_
                                        refine g_istore_n (L' := [(3, .int (s110.1 + r129)), (19, .int x124), (0, .ref a0), (1, .int r1), (2, .int s5.1), (4, .int s110.2.1), (5, .int s110.2.2.1), (6, .int s110.2.2.2.1), (7, .int s110.2.2.2.2.1), (8, .int s5.2.2.2.2.2.2.1), (9, .int s5.2.2.2.2.2.2.2.1), (10, .int s5.2.2.2.2.2.2.2.2.1), (11, .int x33), (18, .int s110.2.2.2.2.2)]) hC dL_isWhole_426 rfl (by decide) rfl ?_
                                        refine g_iload hC dL_isWhole_427 5 rfl ?_
                                        refine g_aload_n hC dL_isWhole_429 rfl 2 rfl ?_
                                        refine g_iload hC dL_isWhole_430 11 rfl ?_
                                        refine g_iload hC dL_isWhole_432 1 rfl ?_
                                        refine g_iconst (v := 0) hC dL_isWhole_434 (by decide) ?_
                                        obtain ⟨r133, h134, h111⟩ := fb_open h111
                                        refine g_callLW hC hL [.ref a0, .int s5.2.2.2.2.2.2.2.2.1, .int x124, .int 0] (c_L_halfOf l D cy a0 s5.2.2.2.2.2.2.2.2.1 x124 0 r105.2 r133 h134) (Or.inl rfl) (fun _ _ h => nomatch h) q_315 q_72 q_313 q_314 h9_L_halfOf ⟨Nat.le_of_ble_eq_true rfl, Nat.le_of_ble_eq_true rfl⟩ ⟨show ((9 - (n14 + 1)) * 259 + (3 - (n119 + 1)) * 14 + 219) ≤ 2792 from by omega, show ((9 - (n14 + 1)) * 1554 + (3 - (n119 + 1)) * 84 + 1314) ≤ 16752 from by omega⟩ (Nat.le_of_ble_eq_true rfl) rfl dL_isWhole_435 (fun z136 _ e135 => ?_)
                                        show gAt X ((9 - (n14 + 1)) * 259 + (3 - (n119 + 1)) * 14 + 219) ((9 - (n14 + 1)) * 1554 + (3 - (n119 + 1)) * 84 + 1314) 20 r105.2 z136 gE0 [(3, .int (s110.1 + r129)), (19, .int x124), (0, .ref a0), (1, .int r1), (2, .int s5.1), (4, .int s110.2.1), (5, .int s110.2.2.1), (6, .int s110.2.2.2.1), (7, .int s110.2.2.2.2.1), (8, .int s5.2.2.2.2.2.2.1), (9, .int s5.2.2.2.2.2.2.2.1), (10, .int s5.2.2.2.2.2.2.2.2.1), (11, .int x33), (18, .int s110.2.2.2.2.2)] [.int r133, .int s110.2.1] 438
                                        refine g_iadd hC dL_isWhole_438 ?_
                                        refine g_istore (L' := [(4, .int (s110.2.1 + r133)), (3, .int (s110.1 + r129)), (19, .int x124), (0, .ref a0), (1, .int r1), (2, .int s5.1), (5, .int s110.2.2.1), (6, .int s110.2.2.2.1), (7, .int s110.2.2.2.2.1), (8, .int s5.2.2.2.2.2.2.1), (9, .int s5.2.2.2.2.2.2.2.1), (10, .int s5.2.2.2.2.2.2.2.2.1), (11, .int x33), (18, .int s110.2.2.2.2.2)]) hC dL_isWhole_439 (by decide) rfl ?_
                                        refine g_iload hC dL_isWhole_441 6 rfl ?_
                                        refine g_aload_n hC dL_isWhole_443 rfl 3 rfl ?_
                                        refine g_iload hC dL_isWhole_444 11 rfl ?_
                                        refine g_iload hC dL_isWhole_446 2 rfl ?_
                                        refine g_iconst (v := 4) hC dL_isWhole_448 (by decide) ?_
                                        obtain ⟨r137, h138, h111⟩ := fb_open h111
                                        refine g_callLW hC hL [.ref a0, .int s5.2.2.2.2.2.2.2.2.1, .int x124, .int 4] (c_L_halfOf l D cy a0 s5.2.2.2.2.2.2.2.2.1 x124 4 r105.2 r137 h138) (Or.inl rfl) (fun _ _ h => nomatch h) q_315 q_72 q_313 q_314 h9_L_halfOf ⟨Nat.le_of_ble_eq_true rfl, Nat.le_of_ble_eq_true rfl⟩ ⟨show ((9 - (n14 + 1)) * 259 + (3 - (n119 + 1)) * 14 + 221) ≤ 2792 from by omega, show ((9 - (n14 + 1)) * 1554 + (3 - (n119 + 1)) * 84 + 1326) ≤ 16752 from by omega⟩ (Nat.le_of_ble_eq_true rfl) rfl dL_isWhole_449 (fun z140 _ e139 => ?_)
                                        show gAt X ((9 - (n14 + 1)) * 259 + (3 - (n119 + 1)) * 14 + 221) ((9 - (n14 + 1)) * 1554 + (3 - (n119 + 1)) * 84 + 1326) 20 r105.2 z140 gE0 [(4, .int (s110.2.1 + r133)), (3, .int (s110.1 + r129)), (19, .int x124), (0, .ref a0), (1, .int r1), (2, .int s5.1), (5, .int s110.2.2.1), (6, .int s110.2.2.2.1), (7, .int s110.2.2.2.2.1), (8, .int s5.2.2.2.2.2.2.1), (9, .int s5.2.2.2.2.2.2.2.1), (10, .int s5.2.2.2.2.2.2.2.2.1), (11, .int x33), (18, .int s110.2.2.2.2.2)] [.int r137, .int s110.2.2.1] 452
                                        refine g_iadd hC dL_isWhole_452 ?_
                                        refine g_istore (L' := [(5, .int (s110.2.2.1 + r137)), (4, .int (s110.2.1 + r133)), (3, .int (s110.1 + r129)), (19, .int x124), (0, .ref a0), (1, .int r1), (2, .int s5.1), (6, .int s110.2.2.2.1), (7, .int s110.2.2.2.2.1), (8, .int s5.2.2.2.2.2.2.1), (9, .int s5.2.2.2.2.2.2.2.1), (10, .int s5.2.2.2.2.2.2.2.2.1), (11, .int x33), (18, .int s110.2.2.2.2.2)]) hC dL_isWhole_453 (by decide) rfl ?_
                                        refine g_iload hC dL_isWhole_455 7 rfl ?_
                                        refine g_aload_n hC dL_isWhole_457 rfl 4 rfl ?_
                                        refine g_iload hC dL_isWhole_458 11 rfl ?_
                                        refine g_iload hC dL_isWhole_460 3 rfl ?_
                                        refine g_iconst (v := 2) hC dL_isWhole_462 (by decide) ?_
                                        obtain ⟨r141, h142, h111⟩ := fb_open h111
                                        refine g_callLW hC hL [.ref a0, .int s5.2.2.2.2.2.2.2.2.1, .int x124, .int 2] (c_L_halfOf l D cy a0 s5.2.2.2.2.2.2.2.2.1 x124 2 r105.2 r141 h142) (Or.inl rfl) (fun _ _ h => nomatch h) q_315 q_72 q_313 q_314 h9_L_halfOf ⟨Nat.le_of_ble_eq_true rfl, Nat.le_of_ble_eq_true rfl⟩ ⟨show ((9 - (n14 + 1)) * 259 + (3 - (n119 + 1)) * 14 + 223) ≤ 2792 from by omega, show ((9 - (n14 + 1)) * 1554 + (3 - (n119 + 1)) * 84 + 1338) ≤ 16752 from by omega⟩ (Nat.le_of_ble_eq_true rfl) rfl dL_isWhole_463 (fun z144 _ e143 => ?_)
                                        show gAt X ((9 - (n14 + 1)) * 259 + (3 - (n119 + 1)) * 14 + 223) ((9 - (n14 + 1)) * 1554 + (3 - (n119 + 1)) * 84 + 1338) 20 r105.2 z144 gE0 [(5, .int (s110.2.2.1 + r137)), (4, .int (s110.2.1 + r133)), (3, .int (s110.1 + r129)), (19, .int x124), (0, .ref a0), (1, .int r1), (2, .int s5.1), (6, .int s110.2.2.2.1), (7, .int s110.2.2.2.2.1), (8, .int s5.2.2.2.2.2.2.1), (9, .int s5.2.2.2.2.2.2.2.1), (10, .int s5.2.2.2.2.2.2.2.2.1), (11, .int x33), (18, .int s110.2.2.2.2.2)] [.int r141, .int s110.2.2.2.1] 466
                                        refine g_iadd hC dL_isWhole_466 ?_
                                        refine g_istore (L' := [(6, .int (s110.2.2.2.1 + r141)), (5, .int (s110.2.2.1 + r137)), (4, .int (s110.2.1 + r133)), (3, .int (s110.1 + r129)), (19, .int x124), (0, .ref a0), (1, .int r1), (2, .int s5.1), (7, .int s110.2.2.2.2.1), (8, .int s5.2.2.2.2.2.2.1), (9, .int s5.2.2.2.2.2.2.2.1), (10, .int s5.2.2.2.2.2.2.2.2.1), (11, .int x33), (18, .int s110.2.2.2.2.2)]) hC dL_isWhole_467 (by decide) rfl ?_
                                        refine g_iload hC dL_isWhole_469 8 rfl ?_
                                        refine g_aload_n hC dL_isWhole_471 rfl 5 rfl ?_
                                        refine g_iload hC dL_isWhole_472 11 rfl ?_
                                        refine g_iload hC dL_isWhole_474 4 rfl ?_
                                        refine g_iconst (v := 0) hC dL_isWhole_476 (by decide) ?_
                                        obtain ⟨r145, h146, h111⟩ := fb_open h111
                                        refine g_callLW hC hL [.ref a0, .int s5.2.2.2.2.2.2.2.2.1, .int x124, .int 0] (c_L_halfOf l D cy a0 s5.2.2.2.2.2.2.2.2.1 x124 0 r105.2 r145 h146) (Or.inl rfl) (fun _ _ h => nomatch h) q_315 q_72 q_313 q_314 h9_L_halfOf ⟨Nat.le_of_ble_eq_true rfl, Nat.le_of_ble_eq_true rfl⟩ ⟨show ((9 - (n14 + 1)) * 259 + (3 - (n119 + 1)) * 14 + 225) ≤ 2792 from by omega, show ((9 - (n14 + 1)) * 1554 + (3 - (n119 + 1)) * 84 + 1350) ≤ 16752 from by omega⟩ (Nat.le_of_ble_eq_true rfl) rfl dL_isWhole_477 (fun z148 _ e147 => ?_)
                                        show gAt X ((9 - (n14 + 1)) * 259 + (3 - (n119 + 1)) * 14 + 225) ((9 - (n14 + 1)) * 1554 + (3 - (n119 + 1)) * 84 + 1350) 20 r105.2 z148 gE0 [(6, .int (s110.2.2.2.1 + r141)), (5, .int (s110.2.2.1 + r137)), (4, .int (s110.2.1 + r133)), (3, .int (s110.1 + r129)), (19, .int x124), (0, .ref a0), (1, .int r1), (2, .int s5.1), (7, .int s110.2.2.2.2.1), (8, .int s5.2.2.2.2.2.2.1), (9, .int s5.2.2.2.2.2.2.2.1), (10, .int s5.2.2.2.2.2.2.2.2.1), (11, .int x33), (18, .int s110.2.2.2.2.2)] [.int r145, .int s110.2.2.2.2.1] 480
                                        refine g_iconst (v := 1) hC dL_isWhole_480 (by decide) ?_
                                        refine g_icmp_ne hC 508 dL_isWhole_481 (by decide) (fun c149 => ?_) (fun c149 => ?_)
                                        · replace h111 := fi_neg h111 c149
                                          refine g_iconst (v := 0) hC dL_isWhole_508 (by decide) ?_
                                          refine g_iadd hC dL_isWhole_509 ?_
                                          refine g_istore (L' := [(7, .int (s110.2.2.2.2.1 + 0)), (6, .int (s110.2.2.2.1 + r141)), (5, .int (s110.2.2.1 + r137)), (4, .int (s110.2.1 + r133)), (3, .int (s110.1 + r129)), (19, .int x124), (0, .ref a0), (1, .int r1), (2, .int s5.1), (8, .int s5.2.2.2.2.2.2.1), (9, .int s5.2.2.2.2.2.2.2.1), (10, .int s5.2.2.2.2.2.2.2.2.1), (11, .int x33), (18, .int s110.2.2.2.2.2)]) hC dL_isWhole_510 (by decide) rfl ?_
                                          refine g_iinc (L' := [(18, .int (s110.2.2.2.2.2 + 1)), (7, .int (s110.2.2.2.2.1 + 0)), (6, .int (s110.2.2.2.1 + r141)), (5, .int (s110.2.2.1 + r137)), (4, .int (s110.2.1 + r133)), (3, .int (s110.1 + r129)), (19, .int x124), (0, .ref a0), (1, .int r1), (2, .int s5.1), (8, .int s5.2.2.2.2.2.2.1), (9, .int s5.2.2.2.2.2.2.2.1), (10, .int s5.2.2.2.2.2.2.2.2.1), (11, .int x33)]) hC dL_isWhole_512 13 rfl rfl (by decide) rfl ?_
                                          refine g_goto hC 396 dL_isWhole_515 (by decide) ?_
                                          obtain rfl := Option.some.inj h111
                                          refine g_sub (L' := [(0, .ref a0), (1, .int r1), (2, .int s5.1), (3, .int (s110.1 + r129)), (4, .int (s110.2.1 + r133)), (5, .int (s110.2.2.1 + r137)), (6, .int (s110.2.2.2.1 + r141)), (7, .int (s110.2.2.2.2.1 + 0)), (8, .int s5.2.2.2.2.2.2.1), (9, .int s5.2.2.2.2.2.2.2.1), (10, .int s5.2.2.2.2.2.2.2.2.1), (11, .int x33), (18, .int (s110.2.2.2.2.2 + 1))]) [7, 8, 9, 5, 4, 3, 2, 1, 10, 11, 12, 13, 0] rfl ?_
                                          refine g_widen (k' := ((9 - (n14 + 1)) * 259 + (3 - n119) * 14 + 215)) (s' := ((9 - (n14 + 1)) * 1554 + (3 - n119) * 84 + 1290)) (by omega) (by omega) ?_
                                          have z9 := go112 ((s110.1 + r129), (s110.2.1 + r133), (s110.2.2.1 + r137), (s110.2.2.2.1 + r141), (s110.2.2.2.2.1 + 0), (s110.2.2.2.2.2 + 1)) rfl (by omega) _
                                          exact z9
                                        · replace h111 := fi_pos h111 c149
                                          refine g_aload_n hC dL_isWhole_484 rfl 5 rfl ?_
                                          refine g_iload hC dL_isWhole_485 11 rfl ?_
                                          refine g_iload hC dL_isWhole_487 4 rfl ?_
                                          refine g_bipush (v := 7) hC dL_isWhole_489 (by decide) ?_
                                          obtain ⟨r150, h151, h111⟩ := fb_open h111
                                          refine g_callLW hC hL [.ref a0, .int s5.2.2.2.2.2.2.2.2.1, .int x124, .int 7] (c_L_halfOf l D cy a0 s5.2.2.2.2.2.2.2.2.1 x124 7 r105.2 r150 h151) (Or.inl rfl) (fun _ _ h => nomatch h) q_315 q_72 q_313 q_314 h9_L_halfOf ⟨Nat.le_of_ble_eq_true rfl, Nat.le_of_ble_eq_true rfl⟩ ⟨show ((9 - (n14 + 1)) * 259 + (3 - (n119 + 1)) * 14 + 227) ≤ 2792 from by omega, show ((9 - (n14 + 1)) * 1554 + (3 - (n119 + 1)) * 84 + 1362) ≤ 16752 from by omega⟩ (Nat.le_of_ble_eq_true rfl) rfl dL_isWhole_491 (fun z153 _ e152 => ?_)
                                          show gAt X ((9 - (n14 + 1)) * 259 + (3 - (n119 + 1)) * 14 + 227) ((9 - (n14 + 1)) * 1554 + (3 - (n119 + 1)) * 84 + 1362) 20 r105.2 z153 gE0 [(6, .int (s110.2.2.2.1 + r141)), (5, .int (s110.2.2.1 + r137)), (4, .int (s110.2.1 + r133)), (3, .int (s110.1 + r129)), (19, .int x124), (0, .ref a0), (1, .int r1), (2, .int s5.1), (7, .int s110.2.2.2.2.1), (8, .int s5.2.2.2.2.2.2.1), (9, .int s5.2.2.2.2.2.2.2.1), (10, .int s5.2.2.2.2.2.2.2.2.1), (11, .int x33), (18, .int s110.2.2.2.2.2)] [.int r150, .int s110.2.2.2.2.1] 494
                                          refine g_aload_n hC dL_isWhole_494 rfl 5 rfl ?_
                                          refine g_iload hC dL_isWhole_495 11 rfl ?_
                                          refine g_iconst (v := 0) hC dL_isWhole_497 (by decide) ?_
                                          obtain ⟨r154, h155, h111⟩ := fb_open h111
                                          refine g_callLW hC hL [.ref a0, .int s5.2.2.2.2.2.2.2.2.1, .int 0] (c_L_ticketOf l D cy a0 s5.2.2.2.2.2.2.2.2.1 0 r105.2 r154 h155) (Or.inl rfl) (fun _ _ h => nomatch h) q_1191 q_72 q_1189 q_1190 h9_L_ticketOf ⟨Nat.le_of_ble_eq_true rfl, Nat.le_of_ble_eq_true rfl⟩ ⟨show ((9 - (n14 + 1)) * 259 + (3 - (n119 + 1)) * 14 + 229) ≤ 2792 from by omega, show ((9 - (n14 + 1)) * 1554 + (3 - (n119 + 1)) * 84 + 1374) ≤ 16752 from by omega⟩ (Nat.le_of_ble_eq_true rfl) rfl dL_isWhole_498 (fun z157 _ e156 => ?_)
                                          show gAt X ((9 - (n14 + 1)) * 259 + (3 - (n119 + 1)) * 14 + 229) ((9 - (n14 + 1)) * 1554 + (3 - (n119 + 1)) * 84 + 1374) 20 r105.2 z157 gE0 [(6, .int (s110.2.2.2.1 + r141)), (5, .int (s110.2.2.1 + r137)), (4, .int (s110.2.1 + r133)), (3, .int (s110.1 + r129)), (19, .int x124), (0, .ref a0), (1, .int r1), (2, .int s5.1), (7, .int s110.2.2.2.2.1), (8, .int s5.2.2.2.2.2.2.1), (9, .int s5.2.2.2.2.2.2.2.1), (10, .int s5.2.2.2.2.2.2.2.2.1), (11, .int x33), (18, .int s110.2.2.2.2.2)] [.int r154, .int r150, .int s110.2.2.2.2.1] 501
                                          refine g_icmp_ne hC 508 dL_isWhole_501 (by decide) (fun c158 => ?_) (fun c158 => ?_)
                                          · replace h111 := fi_neg h111 c158
                                            refine g_iconst (v := 0) hC dL_isWhole_508 (by decide) ?_
                                            refine g_iadd hC dL_isWhole_509 ?_
                                            refine g_istore (L' := [(7, .int (s110.2.2.2.2.1 + 0)), (6, .int (s110.2.2.2.1 + r141)), (5, .int (s110.2.2.1 + r137)), (4, .int (s110.2.1 + r133)), (3, .int (s110.1 + r129)), (19, .int x124), (0, .ref a0), (1, .int r1), (2, .int s5.1), (8, .int s5.2.2.2.2.2.2.1), (9, .int s5.2.2.2.2.2.2.2.1), (10, .int s5.2.2.2.2.2.2.2.2.1), (11, .int x33), (18, .int s110.2.2.2.2.2)]) hC dL_isWhole_510 (by decide) rfl ?_
                                            refine g_iinc (L' := [(18, .int (s110.2.2.2.2.2 + 1)), (7, .int (s110.2.2.2.2.1 + 0)), (6, .int (s110.2.2.2.1 + r141)), (5, .int (s110.2.2.1 + r137)), (4, .int (s110.2.1 + r133)), (3, .int (s110.1 + r129)), (19, .int x124), (0, .ref a0), (1, .int r1), (2, .int s5.1), (8, .int s5.2.2.2.2.2.2.1), (9, .int s5.2.2.2.2.2.2.2.1), (10, .int s5.2.2.2.2.2.2.2.2.1), (11, .int x33)]) hC dL_isWhole_512 13 rfl rfl (by decide) rfl ?_
                                            refine g_goto hC 396 dL_isWhole_515 (by decide) ?_
                                            obtain rfl := Option.some.inj h111
                                            refine g_sub (L' := [(0, .ref a0), (1, .int r1), (2, .int s5.1), (3, .int (s110.1 + r129)), (4, .int (s110.2.1 + r133)), (5, .int (s110.2.2.1 + r137)), (6, .int (s110.2.2.2.1 + r141)), (7, .int (s110.2.2.2.2.1 + 0)), (8, .int s5.2.2.2.2.2.2.1), (9, .int s5.2.2.2.2.2.2.2.1), (10, .int s5.2.2.2.2.2.2.2.2.1), (11, .int x33), (18, .int (s110.2.2.2.2.2 + 1))]) [7, 8, 9, 5, 4, 3, 2, 1, 10, 11, 12, 13, 0] rfl ?_
                                            refine g_widen (k' := ((9 - (n14 + 1)) * 259 + (3 - n119) * 14 + 215)) (s' := ((9 - (n14 + 1)) * 1554 + (3 - n119) * 84 + 1290)) (by omega) (by omega) ?_
                                            have z9 := go112 ((s110.1 + r129), (s110.2.1 + r133), (s110.2.2.1 + r137), (s110.2.2.2.1 + r141), (s110.2.2.2.2.1 + 0), (s110.2.2.2.2.2 + 1)) rfl (by omega) _
                                            exact z9
                                          · replace h111 := fi_pos h111 c158
                                            refine g_iconst (v := 1) hC dL_isWhole_504 (by decide) ?_
                                            refine g_goto hC 509 dL_isWhole_505 (by decide) ?_
                                            refine g_iadd hC dL_isWhole_509 ?_
                                            refine g_istore (L' := [(7, .int (s110.2.2.2.2.1 + 1)), (6, .int (s110.2.2.2.1 + r141)), (5, .int (s110.2.2.1 + r137)), (4, .int (s110.2.1 + r133)), (3, .int (s110.1 + r129)), (19, .int x124), (0, .ref a0), (1, .int r1), (2, .int s5.1), (8, .int s5.2.2.2.2.2.2.1), (9, .int s5.2.2.2.2.2.2.2.1), (10, .int s5.2.2.2.2.2.2.2.2.1), (11, .int x33), (18, .int s110.2.2.2.2.2)]) hC dL_isWhole_510 (by decide) rfl ?_
                                            refine g_iinc (L' := [(18, .int (s110.2.2.2.2.2 + 1)), (7, .int (s110.2.2.2.2.1 + 1)), (6, .int (s110.2.2.2.1 + r141)), (5, .int (s110.2.2.1 + r137)), (4, .int (s110.2.1 + r133)), (3, .int (s110.1 + r129)), (19, .int x124), (0, .ref a0), (1, .int r1), (2, .int s5.1), (8, .int s5.2.2.2.2.2.2.1), (9, .int s5.2.2.2.2.2.2.2.1), (10, .int s5.2.2.2.2.2.2.2.2.1), (11, .int x33)]) hC dL_isWhole_512 13 rfl rfl (by decide) rfl ?_
                                            refine g_goto hC 396 dL_isWhole_515 (by decide) ?_
                                            obtain rfl := Option.some.inj h111
                                            refine g_sub (L' := [(0, .ref a0), (1, .int r1), (2, .int s5.1), (3, .int (s110.1 + r129)), (4, .int (s110.2.1 + r133)), (5, .int (s110.2.2.1 + r137)), (6, .int (s110.2.2.2.1 + r141)), (7, .int (s110.2.2.2.2.1 + 1)), (8, .int s5.2.2.2.2.2.2.1), (9, .int s5.2.2.2.2.2.2.2.1), (10, .int s5.2.2.2.2.2.2.2.2.1), (11, .int x33), (18, .int (s110.2.2.2.2.2 + 1))]) [7, 8, 9, 5, 4, 3, 2, 1, 10, 11, 12, 13, 0] rfl ?_
                                            refine g_widen (k' := ((9 - (n14 + 1)) * 259 + (3 - n119) * 14 + 215)) (s' := ((9 - (n14 + 1)) * 1554 + (3 - n119) * 84 + 1290)) (by omega) (by omega) ?_
                                            have z9 := go112 ((s110.1 + r129), (s110.2.1 + r133), (s110.2.2.1 + r137), (s110.2.2.2.1 + r141), (s110.2.2.2.2.1 + 1), (s110.2.2.2.2.2 + 1)) rfl (by omega) _
                                            exact z9
                                      refine g_icmp_ne hC 412 dL_isWhole_405 (by decide) (fun c159 => ?_) (fun c159 => ?_)
                                      · replace h125 := fi_neg h125 c159
                                        refine g_iconst (v := 0) hC dL_isWhole_412 (by decide) ?_
                                        obtain rfl := Option.some.inj h125
                                        exact K127 _
                                      · replace h125 := fi_pos h125 c159
                                        refine g_iconst (v := 1) hC dL_isWhole_408 (by decide) ?_
                                        refine g_goto hC 413 dL_isWhole_409 (by decide) ?_
                                        obtain rfl := Option.some.inj h125
                                        exact K127 _)
                                exact q8 3 _ h117 (Nat.le_refl _) _
                              · replace h6 := fi_neg h6 c109
                                refine g_iconst (v := 0) hC dL_isWhole_391 (by decide) ?_
                                obtain rfl := Option.some.inj h6
                                obtain rfl := ou8 _ rfl
                                obtain rfl := Option.some.inj hF
                                refine g_widen (k' := 2792) (s' := 16752) (by omega) (by omega) ?_
                                exact g_zret hC hEn (fSm.tr e107 (fSm.tr e26 (fSm.tr e21 p9))) (nar_z (by decide)) dL_isWhole_392
                        refine g_if_eq hC 363 dL_isWhole_315 (by decide) (fun c175 => ?_) (fun c175 => ?_)
                        · replace h99 := fi_pos h99 c175
                          refine g_iconst (v := 1) hC dL_isWhole_363 (by decide) ?_
                          refine g_goto hC 368 dL_isWhole_364 (by decide) ?_
                          obtain rfl := Option.some.inj h99
                          refine g_sub (L' := [(0, .ref a0), (1, .int r1), (2, .int s5.1), (3, .int s5.2.1), (4, .int s5.2.2.1), (5, .int s5.2.2.2.1), (6, .int s5.2.2.2.2.1), (7, .int s5.2.2.2.2.2.1), (8, .int s5.2.2.2.2.2.2.1), (9, .int s5.2.2.2.2.2.2.2.1), (10, .int s5.2.2.2.2.2.2.2.2.1), (11, .int x33), (16, .int x93)]) [1, 2, 3, 4, 5, 6, 7, 8, 9, 10, 11, 12, 0] rfl ?_
                          refine g_widen (k' := ((9 - (n14 + 1)) * 259 + 214)) (s' := ((9 - (n14 + 1)) * 1554 + 1284)) (by omega) (by omega) ?_
                          exact K101 _
                        · replace h99 := fi_neg h99 c175
                          refine g_aload_n hC dL_isWhole_318 rfl 1 rfl ?_
                          refine g_iload hC dL_isWhole_319 11 rfl ?_
                          refine g_iconst (v := 0) hC dL_isWhole_321 (by decide) ?_
                          refine g_iconst (v := 5) hC dL_isWhole_322 (by decide) ?_
                          obtain ⟨r176, h177, h99⟩ := fb_open h99
                          refine g_callLW hC hL [.ref a0, .int s5.2.2.2.2.2.2.2.2.1, .int 0, .int 5] (c_L_halfOf l D cy a0 s5.2.2.2.2.2.2.2.2.1 0 5 r24.2 r176 h177) (Or.inl rfl) (fun _ _ h => nomatch h) q_315 q_72 q_313 q_314 h9_L_halfOf ⟨Nat.le_of_ble_eq_true rfl, Nat.le_of_ble_eq_true rfl⟩ ⟨show ((9 - (n14 + 1)) * 259 + 208) ≤ 2792 from by omega, show ((9 - (n14 + 1)) * 1554 + 1248) ≤ 16752 from by omega⟩ (Nat.le_of_ble_eq_true rfl) rfl dL_isWhole_323 (fun z179 _ e178 => ?_)
                          show gAt X ((9 - (n14 + 1)) * 259 + 208) ((9 - (n14 + 1)) * 1554 + 1248) 20 r24.2 z179 gE0 [(16, .int x93), (0, .ref a0), (1, .int r1), (2, .int s5.1), (3, .int s5.2.1), (4, .int s5.2.2.1), (5, .int s5.2.2.2.1), (6, .int s5.2.2.2.2.1), (7, .int s5.2.2.2.2.2.1), (8, .int s5.2.2.2.2.2.2.1), (9, .int s5.2.2.2.2.2.2.2.1), (10, .int s5.2.2.2.2.2.2.2.2.1), (11, .int x33)] [.int r176] 326
                          refine g_aload_n hC dL_isWhole_326 rfl 1 rfl ?_
                          refine g_iload hC dL_isWhole_327 11 rfl ?_
                          refine g_iconst (v := 1) hC dL_isWhole_329 (by decide) ?_
                          refine g_iconst (v := 5) hC dL_isWhole_330 (by decide) ?_
                          obtain ⟨r180, h181, h99⟩ := fb_open h99
                          refine g_callLW hC hL [.ref a0, .int s5.2.2.2.2.2.2.2.2.1, .int 1, .int 5] (c_L_halfOf l D cy a0 s5.2.2.2.2.2.2.2.2.1 1 5 r24.2 r180 h181) (Or.inl rfl) (fun _ _ h => nomatch h) q_315 q_72 q_313 q_314 h9_L_halfOf ⟨Nat.le_of_ble_eq_true rfl, Nat.le_of_ble_eq_true rfl⟩ ⟨show ((9 - (n14 + 1)) * 259 + 210) ≤ 2792 from by omega, show ((9 - (n14 + 1)) * 1554 + 1260) ≤ 16752 from by omega⟩ (Nat.le_of_ble_eq_true rfl) rfl dL_isWhole_331 (fun z183 _ e182 => ?_)
                          show gAt X ((9 - (n14 + 1)) * 259 + 210) ((9 - (n14 + 1)) * 1554 + 1260) 20 r24.2 z183 gE0 [(16, .int x93), (0, .ref a0), (1, .int r1), (2, .int s5.1), (3, .int s5.2.1), (4, .int s5.2.2.1), (5, .int s5.2.2.2.1), (6, .int s5.2.2.2.2.1), (7, .int s5.2.2.2.2.2.1), (8, .int s5.2.2.2.2.2.2.1), (9, .int s5.2.2.2.2.2.2.2.1), (10, .int s5.2.2.2.2.2.2.2.2.1), (11, .int x33)] [.int r180, .int r176] 334
                          refine g_icmp_ne hC 367 dL_isWhole_334 (by decide) (fun c184 => ?_) (fun c184 => ?_)
                          · replace h99 := fi_neg h99 c184
                            refine g_iconst (v := 0) hC dL_isWhole_367 (by decide) ?_
                            obtain rfl := Option.some.inj h99
                            refine g_sub (L' := [(0, .ref a0), (1, .int r1), (2, .int s5.1), (3, .int s5.2.1), (4, .int s5.2.2.1), (5, .int s5.2.2.2.1), (6, .int s5.2.2.2.2.1), (7, .int s5.2.2.2.2.2.1), (8, .int s5.2.2.2.2.2.2.1), (9, .int s5.2.2.2.2.2.2.2.1), (10, .int s5.2.2.2.2.2.2.2.2.1), (11, .int x33), (16, .int x93)]) [1, 2, 3, 4, 5, 6, 7, 8, 9, 10, 11, 12, 0] rfl ?_
                            refine g_widen (k' := ((9 - (n14 + 1)) * 259 + 214)) (s' := ((9 - (n14 + 1)) * 1554 + 1284)) (by omega) (by omega) ?_
                            exact K101 _
                          · replace h99 := fi_pos h99 c184
                            refine g_aload_n hC dL_isWhole_337 rfl 1 rfl ?_
                            refine g_iload hC dL_isWhole_338 11 rfl ?_
                            refine g_iconst (v := 0) hC dL_isWhole_340 (by decide) ?_
                            refine g_iconst (v := 2) hC dL_isWhole_341 (by decide) ?_
                            obtain ⟨r185, h186, h99⟩ := fb_open h99
                            refine g_callLW hC hL [.ref a0, .int s5.2.2.2.2.2.2.2.2.1, .int 0, .int 2] (c_L_halfOf l D cy a0 s5.2.2.2.2.2.2.2.2.1 0 2 r24.2 r185 h186) (Or.inl rfl) (fun _ _ h => nomatch h) q_315 q_72 q_313 q_314 h9_L_halfOf ⟨Nat.le_of_ble_eq_true rfl, Nat.le_of_ble_eq_true rfl⟩ ⟨show ((9 - (n14 + 1)) * 259 + 212) ≤ 2792 from by omega, show ((9 - (n14 + 1)) * 1554 + 1272) ≤ 16752 from by omega⟩ (Nat.le_of_ble_eq_true rfl) rfl dL_isWhole_342 (fun z188 _ e187 => ?_)
                            show gAt X ((9 - (n14 + 1)) * 259 + 212) ((9 - (n14 + 1)) * 1554 + 1272) 20 r24.2 z188 gE0 [(16, .int x93), (0, .ref a0), (1, .int r1), (2, .int s5.1), (3, .int s5.2.1), (4, .int s5.2.2.1), (5, .int s5.2.2.2.1), (6, .int s5.2.2.2.2.1), (7, .int s5.2.2.2.2.2.1), (8, .int s5.2.2.2.2.2.2.1), (9, .int s5.2.2.2.2.2.2.2.1), (10, .int s5.2.2.2.2.2.2.2.2.1), (11, .int x33)] [.int r185] 345
                            refine g_bipush (v := 6) hC dL_isWhole_345 (by decide) ?_
                            refine g_icmp_ge hC 367 dL_isWhole_347 (by decide) (fun c189 => ?_) (fun c189 => ?_)
                            · replace h99 := fi_pos h99 c189
                              refine g_iconst (v := 0) hC dL_isWhole_367 (by decide) ?_
                              obtain rfl := Option.some.inj h99
                              refine g_sub (L' := [(0, .ref a0), (1, .int r1), (2, .int s5.1), (3, .int s5.2.1), (4, .int s5.2.2.1), (5, .int s5.2.2.2.1), (6, .int s5.2.2.2.2.1), (7, .int s5.2.2.2.2.2.1), (8, .int s5.2.2.2.2.2.2.1), (9, .int s5.2.2.2.2.2.2.2.1), (10, .int s5.2.2.2.2.2.2.2.2.1), (11, .int x33), (16, .int x93)]) [1, 2, 3, 4, 5, 6, 7, 8, 9, 10, 11, 12, 0] rfl ?_
                              refine g_widen (k' := ((9 - (n14 + 1)) * 259 + 214)) (s' := ((9 - (n14 + 1)) * 1554 + 1284)) (by omega) (by omega) ?_
                              exact K101 _
                            · replace h99 := fi_neg h99 c189
                              refine g_aload_n hC dL_isWhole_350 rfl 1 rfl ?_
                              refine g_iload hC dL_isWhole_351 11 rfl ?_
                              refine g_iconst (v := 1) hC dL_isWhole_353 (by decide) ?_
                              refine g_iconst (v := 2) hC dL_isWhole_354 (by decide) ?_
                              obtain ⟨r190, h191, h99⟩ := fb_open h99
                              refine g_callLW hC hL [.ref a0, .int s5.2.2.2.2.2.2.2.2.1, .int 1, .int 2] (c_L_halfOf l D cy a0 s5.2.2.2.2.2.2.2.2.1 1 2 r24.2 r190 h191) (Or.inl rfl) (fun _ _ h => nomatch h) q_315 q_72 q_313 q_314 h9_L_halfOf ⟨Nat.le_of_ble_eq_true rfl, Nat.le_of_ble_eq_true rfl⟩ ⟨show ((9 - (n14 + 1)) * 259 + 214) ≤ 2792 from by omega, show ((9 - (n14 + 1)) * 1554 + 1284) ≤ 16752 from by omega⟩ (Nat.le_of_ble_eq_true rfl) rfl dL_isWhole_355 (fun z193 _ e192 => ?_)
                              show gAt X ((9 - (n14 + 1)) * 259 + 214) ((9 - (n14 + 1)) * 1554 + 1284) 20 r24.2 z193 gE0 [(16, .int x93), (0, .ref a0), (1, .int r1), (2, .int s5.1), (3, .int s5.2.1), (4, .int s5.2.2.1), (5, .int s5.2.2.2.1), (6, .int s5.2.2.2.2.1), (7, .int s5.2.2.2.2.2.1), (8, .int s5.2.2.2.2.2.2.1), (9, .int s5.2.2.2.2.2.2.2.1), (10, .int s5.2.2.2.2.2.2.2.2.1), (11, .int x33)] [.int r190] 358
                              refine g_bipush (v := 6) hC dL_isWhole_358 (by decide) ?_
                              refine g_icmp_ge hC 367 dL_isWhole_360 (by decide) (fun c194 => ?_) (fun c194 => ?_)
                              · replace h99 := fi_pos h99 c194
                                refine g_iconst (v := 0) hC dL_isWhole_367 (by decide) ?_
                                obtain rfl := Option.some.inj h99
                                refine g_sub (L' := [(0, .ref a0), (1, .int r1), (2, .int s5.1), (3, .int s5.2.1), (4, .int s5.2.2.1), (5, .int s5.2.2.2.1), (6, .int s5.2.2.2.2.1), (7, .int s5.2.2.2.2.2.1), (8, .int s5.2.2.2.2.2.2.1), (9, .int s5.2.2.2.2.2.2.2.1), (10, .int s5.2.2.2.2.2.2.2.2.1), (11, .int x33), (16, .int x93)]) [1, 2, 3, 4, 5, 6, 7, 8, 9, 10, 11, 12, 0] rfl ?_
                                exact K101 _
                              · replace h99 := fi_neg h99 c194
                                refine g_iconst (v := 1) hC dL_isWhole_363 (by decide) ?_
                                refine g_goto hC 368 dL_isWhole_364 (by decide) ?_
                                obtain rfl := Option.some.inj h99
                                refine g_sub (L' := [(0, .ref a0), (1, .int r1), (2, .int s5.1), (3, .int s5.2.1), (4, .int s5.2.2.1), (5, .int s5.2.2.2.1), (6, .int s5.2.2.2.2.1), (7, .int s5.2.2.2.2.2.1), (8, .int s5.2.2.2.2.2.2.1), (9, .int s5.2.2.2.2.2.2.2.1), (10, .int s5.2.2.2.2.2.2.2.2.1), (11, .int x33), (16, .int x93)]) [1, 2, 3, 4, 5, 6, 7, 8, 9, 10, 11, 12, 0] rfl ?_
                                exact K101 _
                      refine g_icmp_ne hC 310 dL_isWhole_224 (by decide) (fun c195 => ?_) (fun c195 => ?_)
                      · replace h94 := fi_neg h94 c195
                        refine g_iconst (v := 0) hC dL_isWhole_310 (by decide) ?_
                        obtain rfl := Option.some.inj h94
                        refine g_sub (L' := [(0, .ref a0), (1, .int r1), (2, .int s5.1), (3, .int s5.2.1), (4, .int s5.2.2.1), (5, .int s5.2.2.2.1), (6, .int s5.2.2.2.2.1), (7, .int s5.2.2.2.2.2.1), (8, .int s5.2.2.2.2.2.2.1), (9, .int s5.2.2.2.2.2.2.2.1), (10, .int s5.2.2.2.2.2.2.2.2.1), (11, .int x33)]) [0, 1, 2, 3, 4, 5, 6, 7, 8, 9, 10, 11] rfl ?_
                        refine g_widen (k' := ((9 - (n14 + 1)) * 259 + 206)) (s' := ((9 - (n14 + 1)) * 1554 + 1236)) (by omega) (by omega) ?_
                        exact K96 _
                      · replace h94 := fi_pos h94 c195
                        refine g_aload_n hC dL_isWhole_227 rfl 0 rfl ?_
                        refine g_iload hC dL_isWhole_228 10 rfl ?_
                        refine g_iconst (v := 1) hC dL_isWhole_230 (by decide) ?_
                        obtain ⟨r196, h197, h94⟩ := fb_open h94
                        refine g_callLW hC hL [.ref a0, .int s5.2.2.2.2.2.2.2.2.1, .int 1] (c_L_doAgree l D cy a0 s5.2.2.2.2.2.2.2.2.1 1 r24.2 r196 h197) (Or.inl rfl) (fun _ _ h => nomatch h) q_1275 q_72 q_1273 q_1274 h9_L_doAgree ⟨Nat.le_of_ble_eq_true rfl, Nat.le_of_ble_eq_true rfl⟩ ⟨show ((9 - (n14 + 1)) * 259 + 200) ≤ 2792 from by omega, show ((9 - (n14 + 1)) * 1554 + 1200) ≤ 16752 from by omega⟩ (Nat.le_of_ble_eq_true rfl) rfl dL_isWhole_231 (fun z199 _ e198 => ?_)
                        show gAt X ((9 - (n14 + 1)) * 259 + 200) ((9 - (n14 + 1)) * 1554 + 1200) 20 r24.2 z199 gE0 [(0, .ref a0), (1, .int r1), (2, .int s5.1), (3, .int s5.2.1), (4, .int s5.2.2.1), (5, .int s5.2.2.2.1), (6, .int s5.2.2.2.2.1), (7, .int s5.2.2.2.2.2.1), (8, .int s5.2.2.2.2.2.2.1), (9, .int s5.2.2.2.2.2.2.2.1), (10, .int s5.2.2.2.2.2.2.2.2.1), (11, .int x33), (13, .int x53), (14, .int r75), (15, .int x79)] [.int r196] 234
                        refine g_iload hC dL_isWhole_234 12 rfl ?_
                        obtain ⟨x200, h201, h94⟩ := fb_open h94
                        have K203 : ∀ z204, gAt X ((9 - (n14 + 1)) * 259 + 200) ((9 - (n14 + 1)) * 1554 + 1200) 20 r24.2 z204 gE0 [(0, .ref a0), (1, .int r1), (2, .int s5.1), (3, .int s5.2.1), (4, .int s5.2.2.1), (5, .int s5.2.2.2.1), (6, .int s5.2.2.2.2.1), (7, .int s5.2.2.2.2.2.1), (8, .int s5.2.2.2.2.2.2.1), (9, .int s5.2.2.2.2.2.2.2.1), (10, .int s5.2.2.2.2.2.2.2.2.1), (11, .int x33), (14, .int r75), (15, .int x79)] [.int x200, .int r196] 244 := by
                          intro z204
                          refine g_icmp_ne hC 310 dL_isWhole_244 (by decide) (fun c205 => ?_) (fun c205 => ?_)
                          · replace h94 := fi_neg h94 c205
                            refine g_iconst (v := 0) hC dL_isWhole_310 (by decide) ?_
                            obtain rfl := Option.some.inj h94
                            refine g_sub (L' := [(0, .ref a0), (1, .int r1), (2, .int s5.1), (3, .int s5.2.1), (4, .int s5.2.2.1), (5, .int s5.2.2.2.1), (6, .int s5.2.2.2.2.1), (7, .int s5.2.2.2.2.2.1), (8, .int s5.2.2.2.2.2.2.1), (9, .int s5.2.2.2.2.2.2.2.1), (10, .int s5.2.2.2.2.2.2.2.2.1), (11, .int x33)]) [0, 1, 2, 3, 4, 5, 6, 7, 8, 9, 10, 11] rfl ?_
                            refine g_widen (k' := ((9 - (n14 + 1)) * 259 + 206)) (s' := ((9 - (n14 + 1)) * 1554 + 1236)) (by omega) (by omega) ?_
                            exact K96 _
                          · replace h94 := fi_pos h94 c205
                            refine g_aload_n hC dL_isWhole_247 rfl 0 rfl ?_
                            refine g_iload hC dL_isWhole_248 10 rfl ?_
                            obtain ⟨r206, h207, h94⟩ := fb_open h94
                            refine g_callLW hC hL [.ref a0, .int s5.2.2.2.2.2.2.2.2.1] (c_L_daysLeft l D cy a0 s5.2.2.2.2.2.2.2.2.1 r24.2 r206 h207) (Or.inl rfl) (fun _ _ h => nomatch h) q_1295 q_72 q_1293 q_1294 h9_L_daysLeft ⟨Nat.le_of_ble_eq_true rfl, Nat.le_of_ble_eq_true rfl⟩ ⟨show ((9 - (n14 + 1)) * 259 + 202) ≤ 2792 from by omega, show ((9 - (n14 + 1)) * 1554 + 1212) ≤ 16752 from by omega⟩ (Nat.le_of_ble_eq_true rfl) rfl dL_isWhole_250 (fun z209 _ e208 => ?_)
                            show gAt X ((9 - (n14 + 1)) * 259 + 202) ((9 - (n14 + 1)) * 1554 + 1212) 20 r24.2 z209 gE0 [(0, .ref a0), (1, .int r1), (2, .int s5.1), (3, .int s5.2.1), (4, .int s5.2.2.1), (5, .int s5.2.2.2.1), (6, .int s5.2.2.2.2.1), (7, .int s5.2.2.2.2.2.1), (8, .int s5.2.2.2.2.2.2.1), (9, .int s5.2.2.2.2.2.2.2.1), (10, .int s5.2.2.2.2.2.2.2.2.1), (11, .int x33), (14, .int r75), (15, .int x79)] [.int r206] 253
                            refine g_iload hC dL_isWhole_253 13 rfl ?_
                            refine g_icmp_ne hC 310 dL_isWhole_255 (by decide) (fun c210 => ?_) (fun c210 => ?_)
                            · replace h94 := fi_neg h94 c210
                              refine g_iconst (v := 0) hC dL_isWhole_310 (by decide) ?_
                              obtain rfl := Option.some.inj h94
                              refine g_sub (L' := [(0, .ref a0), (1, .int r1), (2, .int s5.1), (3, .int s5.2.1), (4, .int s5.2.2.1), (5, .int s5.2.2.2.1), (6, .int s5.2.2.2.2.1), (7, .int s5.2.2.2.2.2.1), (8, .int s5.2.2.2.2.2.2.1), (9, .int s5.2.2.2.2.2.2.2.1), (10, .int s5.2.2.2.2.2.2.2.2.1), (11, .int x33)]) [0, 1, 2, 3, 4, 5, 6, 7, 8, 9, 10, 11] rfl ?_
                              refine g_widen (k' := ((9 - (n14 + 1)) * 259 + 206)) (s' := ((9 - (n14 + 1)) * 1554 + 1236)) (by omega) (by omega) ?_
                              exact K96 _
                            · replace h94 := fi_pos h94 c210
                              refine g_iload hC dL_isWhole_258 12 rfl ?_
                              obtain ⟨x211, h212, h94⟩ := fb_open h94
                              have K214 : ∀ z215, gAt X ((9 - (n14 + 1)) * 259 + 202) ((9 - (n14 + 1)) * 1554 + 1212) 20 r24.2 z215 gE0 [(0, .ref a0), (1, .int r1), (2, .int s5.1), (3, .int s5.2.1), (4, .int s5.2.2.1), (5, .int s5.2.2.2.1), (6, .int s5.2.2.2.2.1), (7, .int s5.2.2.2.2.2.1), (8, .int s5.2.2.2.2.2.2.1), (9, .int s5.2.2.2.2.2.2.2.1), (10, .int s5.2.2.2.2.2.2.2.2.1), (11, .int x33), (14, .int r75)] [.int x211] 268 := by
                                intro z215
                                refine g_aload_n hC dL_isWhole_268 rfl 0 rfl ?_
                                refine g_iload hC dL_isWhole_269 10 rfl ?_
                                refine g_iconst (v := 0) hC dL_isWhole_271 (by decide) ?_
                                refine g_bipush (v := 6) hC dL_isWhole_272 (by decide) ?_
                                obtain ⟨r216, h217, h94⟩ := fb_open h94
                                refine g_callLW hC hL [.ref a0, .int s5.2.2.2.2.2.2.2.2.1, .int 0, .int 6] (c_L_halfOf l D cy a0 s5.2.2.2.2.2.2.2.2.1 0 6 r24.2 r216 h217) (Or.inl rfl) (fun _ _ h => nomatch h) q_315 q_72 q_313 q_314 h9_L_halfOf ⟨Nat.le_of_ble_eq_true rfl, Nat.le_of_ble_eq_true rfl⟩ ⟨show ((9 - (n14 + 1)) * 259 + 204) ≤ 2792 from by omega, show ((9 - (n14 + 1)) * 1554 + 1224) ≤ 16752 from by omega⟩ (Nat.le_of_ble_eq_true rfl) rfl dL_isWhole_274 (fun z219 _ e218 => ?_)
                                show gAt X ((9 - (n14 + 1)) * 259 + 204) ((9 - (n14 + 1)) * 1554 + 1224) 20 r24.2 z219 gE0 [(0, .ref a0), (1, .int r1), (2, .int s5.1), (3, .int s5.2.1), (4, .int s5.2.2.1), (5, .int s5.2.2.2.1), (6, .int s5.2.2.2.2.1), (7, .int s5.2.2.2.2.2.1), (8, .int s5.2.2.2.2.2.2.1), (9, .int s5.2.2.2.2.2.2.2.1), (10, .int s5.2.2.2.2.2.2.2.2.1), (11, .int x33), (14, .int r75)] [.int r216, .int x211] 277
                                refine g_iconst (v := 1) hC dL_isWhole_277 (by decide) ?_
                                obtain ⟨x220, h221, h94⟩ := fb_open h94
                                have K223 : ∀ z224, gAt X ((9 - (n14 + 1)) * 259 + 204) ((9 - (n14 + 1)) * 1554 + 1224) 20 r24.2 z224 gE0 [(0, .ref a0), (1, .int r1), (2, .int s5.1), (3, .int s5.2.1), (4, .int s5.2.2.1), (5, .int s5.2.2.2.1), (6, .int s5.2.2.2.2.1), (7, .int s5.2.2.2.2.2.1), (8, .int s5.2.2.2.2.2.2.1), (9, .int s5.2.2.2.2.2.2.2.1), (10, .int s5.2.2.2.2.2.2.2.2.1), (11, .int x33), (14, .int r75)] [.int x220, .int x211] 286 := by
                                  intro z224
                                  refine g_icmp_ne hC 310 dL_isWhole_286 (by decide) (fun c225 => ?_) (fun c225 => ?_)
                                  · replace h94 := fi_neg h94 c225
                                    refine g_iconst (v := 0) hC dL_isWhole_310 (by decide) ?_
                                    obtain rfl := Option.some.inj h94
                                    refine g_sub (L' := [(0, .ref a0), (1, .int r1), (2, .int s5.1), (3, .int s5.2.1), (4, .int s5.2.2.1), (5, .int s5.2.2.2.1), (6, .int s5.2.2.2.2.1), (7, .int s5.2.2.2.2.2.1), (8, .int s5.2.2.2.2.2.2.1), (9, .int s5.2.2.2.2.2.2.2.1), (10, .int s5.2.2.2.2.2.2.2.2.1), (11, .int x33)]) [0, 1, 2, 3, 4, 5, 6, 7, 8, 9, 10, 11] rfl ?_
                                    refine g_widen (k' := ((9 - (n14 + 1)) * 259 + 206)) (s' := ((9 - (n14 + 1)) * 1554 + 1236)) (by omega) (by omega) ?_
                                    exact K96 _
                                  · replace h94 := fi_pos h94 c225
                                    refine g_aload_n hC dL_isWhole_289 rfl 0 rfl ?_
                                    refine g_iload hC dL_isWhole_290 10 rfl ?_
                                    refine g_iconst (v := 1) hC dL_isWhole_292 (by decide) ?_
                                    refine g_bipush (v := 6) hC dL_isWhole_293 (by decide) ?_
                                    obtain ⟨r226, h227, h94⟩ := fb_open h94
                                    refine g_callLW hC hL [.ref a0, .int s5.2.2.2.2.2.2.2.2.1, .int 1, .int 6] (c_L_halfOf l D cy a0 s5.2.2.2.2.2.2.2.2.1 1 6 r24.2 r226 h227) (Or.inl rfl) (fun _ _ h => nomatch h) q_315 q_72 q_313 q_314 h9_L_halfOf ⟨Nat.le_of_ble_eq_true rfl, Nat.le_of_ble_eq_true rfl⟩ ⟨show ((9 - (n14 + 1)) * 259 + 206) ≤ 2792 from by omega, show ((9 - (n14 + 1)) * 1554 + 1236) ≤ 16752 from by omega⟩ (Nat.le_of_ble_eq_true rfl) rfl dL_isWhole_295 (fun z229 _ e228 => ?_)
                                    show gAt X ((9 - (n14 + 1)) * 259 + 206) ((9 - (n14 + 1)) * 1554 + 1236) 20 r24.2 z229 gE0 [(0, .ref a0), (1, .int r1), (2, .int s5.1), (3, .int s5.2.1), (4, .int s5.2.2.1), (5, .int s5.2.2.2.1), (6, .int s5.2.2.2.2.1), (7, .int s5.2.2.2.2.2.1), (8, .int s5.2.2.2.2.2.2.1), (9, .int s5.2.2.2.2.2.2.2.1), (10, .int s5.2.2.2.2.2.2.2.2.1), (11, .int x33), (14, .int r75)] [.int r226] 298
                                    refine g_if_eq hC 306 dL_isWhole_298 (by decide) (fun c230 => ?_) (fun c230 => ?_)
                                    · replace h94 := fi_pos h94 c230
                                      refine g_iconst (v := 1) hC dL_isWhole_306 (by decide) ?_
                                      refine g_goto hC 311 dL_isWhole_307 (by decide) ?_
                                      obtain rfl := Option.some.inj h94
                                      refine g_sub (L' := [(0, .ref a0), (1, .int r1), (2, .int s5.1), (3, .int s5.2.1), (4, .int s5.2.2.1), (5, .int s5.2.2.2.1), (6, .int s5.2.2.2.2.1), (7, .int s5.2.2.2.2.2.1), (8, .int s5.2.2.2.2.2.2.1), (9, .int s5.2.2.2.2.2.2.2.1), (10, .int s5.2.2.2.2.2.2.2.2.1), (11, .int x33)]) [0, 1, 2, 3, 4, 5, 6, 7, 8, 9, 10, 11] rfl ?_
                                      exact K96 _
                                    · replace h94 := fi_neg h94 c230
                                      refine g_iload hC dL_isWhole_301 12 rfl ?_
                                      refine g_if_lt hC 310 dL_isWhole_303 (by decide) (fun c231 => ?_) (fun c231 => ?_)
                                      · replace h94 := fi_pos h94 c231
                                        refine g_iconst (v := 0) hC dL_isWhole_310 (by decide) ?_
                                        obtain rfl := Option.some.inj h94
                                        refine g_sub (L' := [(0, .ref a0), (1, .int r1), (2, .int s5.1), (3, .int s5.2.1), (4, .int s5.2.2.1), (5, .int s5.2.2.2.1), (6, .int s5.2.2.2.2.1), (7, .int s5.2.2.2.2.2.1), (8, .int s5.2.2.2.2.2.2.1), (9, .int s5.2.2.2.2.2.2.2.1), (10, .int s5.2.2.2.2.2.2.2.2.1), (11, .int x33)]) [0, 1, 2, 3, 4, 5, 6, 7, 8, 9, 10, 11] rfl ?_
                                        exact K96 _
                                      · replace h94 := fi_neg h94 c231
                                        refine g_iconst (v := 1) hC dL_isWhole_306 (by decide) ?_
                                        refine g_goto hC 311 dL_isWhole_307 (by decide) ?_
                                        obtain rfl := Option.some.inj h94
                                        refine g_sub (L' := [(0, .ref a0), (1, .int r1), (2, .int s5.1), (3, .int s5.2.1), (4, .int s5.2.2.1), (5, .int s5.2.2.2.1), (6, .int s5.2.2.2.2.1), (7, .int s5.2.2.2.2.2.1), (8, .int s5.2.2.2.2.2.2.1), (9, .int s5.2.2.2.2.2.2.2.1), (10, .int s5.2.2.2.2.2.2.2.2.1), (11, .int x33)]) [0, 1, 2, 3, 4, 5, 6, 7, 8, 9, 10, 11] rfl ?_
                                        exact K96 _
                                refine g_icmp_ne hC 285 dL_isWhole_278 (by decide) (fun c232 => ?_) (fun c232 => ?_)
                                · replace h221 := fi_neg h221 c232
                                  refine g_iconst (v := 0) hC dL_isWhole_285 (by decide) ?_
                                  obtain rfl := Option.some.inj h221
                                  exact K223 _
                                · replace h221 := fi_pos h221 c232
                                  refine g_iconst (v := 1) hC dL_isWhole_281 (by decide) ?_
                                  refine g_goto hC 286 dL_isWhole_282 (by decide) ?_
                                  obtain rfl := Option.some.inj h221
                                  exact K223 _
                              refine g_if_lt hC 267 dL_isWhole_260 (by decide) (fun c233 => ?_) (fun c233 => ?_)
                              · replace h212 := fi_pos h212 c233
                                refine g_iconst (v := 0) hC dL_isWhole_267 (by decide) ?_
                                obtain rfl := Option.some.inj h212
                                refine g_sub (L' := [(0, .ref a0), (1, .int r1), (2, .int s5.1), (3, .int s5.2.1), (4, .int s5.2.2.1), (5, .int s5.2.2.2.1), (6, .int s5.2.2.2.2.1), (7, .int s5.2.2.2.2.2.1), (8, .int s5.2.2.2.2.2.2.1), (9, .int s5.2.2.2.2.2.2.2.1), (10, .int s5.2.2.2.2.2.2.2.2.1), (11, .int x33), (14, .int r75)]) [0, 1, 2, 3, 4, 5, 6, 7, 8, 9, 10, 11, 12] rfl ?_
                                exact K214 _
                              · replace h212 := fi_neg h212 c233
                                refine g_iconst (v := 1) hC dL_isWhole_263 (by decide) ?_
                                refine g_goto hC 268 dL_isWhole_264 (by decide) ?_
                                obtain rfl := Option.some.inj h212
                                refine g_sub (L' := [(0, .ref a0), (1, .int r1), (2, .int s5.1), (3, .int s5.2.1), (4, .int s5.2.2.1), (5, .int s5.2.2.2.1), (6, .int s5.2.2.2.2.1), (7, .int s5.2.2.2.2.2.1), (8, .int s5.2.2.2.2.2.2.1), (9, .int s5.2.2.2.2.2.2.2.1), (10, .int s5.2.2.2.2.2.2.2.2.1), (11, .int x33), (14, .int r75)]) [0, 1, 2, 3, 4, 5, 6, 7, 8, 9, 10, 11, 12] rfl ?_
                                exact K214 _
                        refine g_if_eq hC 243 dL_isWhole_236 (by decide) (fun c234 => ?_) (fun c234 => ?_)
                        · replace h201 := fi_pos h201 c234
                          refine g_iconst (v := 0) hC dL_isWhole_243 (by decide) ?_
                          obtain rfl := Option.some.inj h201
                          refine g_sub (L' := [(0, .ref a0), (1, .int r1), (2, .int s5.1), (3, .int s5.2.1), (4, .int s5.2.2.1), (5, .int s5.2.2.2.1), (6, .int s5.2.2.2.2.1), (7, .int s5.2.2.2.2.2.1), (8, .int s5.2.2.2.2.2.2.1), (9, .int s5.2.2.2.2.2.2.2.1), (10, .int s5.2.2.2.2.2.2.2.2.1), (11, .int x33), (14, .int r75), (15, .int x79)]) [0, 1, 2, 3, 4, 5, 6, 7, 8, 9, 10, 11, 13, 14] rfl ?_
                          exact K203 _
                        · replace h201 := fi_neg h201 c234
                          refine g_iconst (v := 1) hC dL_isWhole_239 (by decide) ?_
                          refine g_goto hC 244 dL_isWhole_240 (by decide) ?_
                          obtain rfl := Option.some.inj h201
                          refine g_sub (L' := [(0, .ref a0), (1, .int r1), (2, .int s5.1), (3, .int s5.2.1), (4, .int s5.2.2.1), (5, .int s5.2.2.2.1), (6, .int s5.2.2.2.2.1), (7, .int s5.2.2.2.2.2.1), (8, .int s5.2.2.2.2.2.2.1), (9, .int s5.2.2.2.2.2.2.2.1), (10, .int s5.2.2.2.2.2.2.2.2.1), (11, .int x33), (14, .int r75), (15, .int x79)]) [0, 1, 2, 3, 4, 5, 6, 7, 8, 9, 10, 11, 13, 14] rfl ?_
                          exact K203 _
                    refine g_if_eq hC 223 dL_isWhole_216 (by decide) (fun c235 => ?_) (fun c235 => ?_)
                    · replace h89 := fi_pos h89 c235
                      refine g_iconst (v := 0) hC dL_isWhole_223 (by decide) ?_
                      obtain rfl := Option.some.inj h89
                      refine g_sub (L' := [(0, .ref a0), (1, .int r1), (2, .int s5.1), (3, .int s5.2.1), (4, .int s5.2.2.1), (5, .int s5.2.2.2.1), (6, .int s5.2.2.2.2.1), (7, .int s5.2.2.2.2.2.1), (8, .int s5.2.2.2.2.2.2.1), (9, .int s5.2.2.2.2.2.2.2.1), (10, .int s5.2.2.2.2.2.2.2.2.1), (11, .int x33), (13, .int x53), (14, .int r75), (15, .int x79)]) [1, 2, 3, 4, 5, 6, 7, 8, 9, 10, 11, 12, 13, 14, 0] rfl ?_
                      exact K91 _
                    · replace h89 := fi_neg h89 c235
                      refine g_iconst (v := 1) hC dL_isWhole_219 (by decide) ?_
                      refine g_goto hC 224 dL_isWhole_220 (by decide) ?_
                      obtain rfl := Option.some.inj h89
                      refine g_sub (L' := [(0, .ref a0), (1, .int r1), (2, .int s5.1), (3, .int s5.2.1), (4, .int s5.2.2.1), (5, .int s5.2.2.2.1), (6, .int s5.2.2.2.2.1), (7, .int s5.2.2.2.2.2.1), (8, .int s5.2.2.2.2.2.2.1), (9, .int s5.2.2.2.2.2.2.2.1), (10, .int s5.2.2.2.2.2.2.2.2.1), (11, .int x33), (13, .int x53), (14, .int r75), (15, .int x79)]) [1, 2, 3, 4, 5, 6, 7, 8, 9, 10, 11, 12, 13, 14, 0] rfl ?_
                      exact K91 _
                  refine g_if_ge hC 185 dL_isWhole_177 (by decide) (fun c236 => ?_) (fun c236 => ?_)
                  · replace h80 := fi_pos h80 c236
                    refine g_iconst (v := (-1)) hC dL_isWhole_185 (by decide) ?_
                    refine g_aload_n hC dL_isWhole_186 rfl 1 rfl ?_
                    refine g_iload hC dL_isWhole_187 11 rfl ?_
                    refine g_iconst (v := 4) hC dL_isWhole_189 (by decide) ?_
                    obtain ⟨r237, h238, h80⟩ := fb_open h80
                    refine g_callLW hC hL [.ref a0, .int s5.2.2.2.2.2.2.2.2.1, .int 4] (c_L_ticketOf l D cy a0 s5.2.2.2.2.2.2.2.2.1 4 r24.2 r237 h238) (Or.inl rfl) (fun _ _ h => nomatch h) q_1191 q_72 q_1189 q_1190 h9_L_ticketOf ⟨Nat.le_of_ble_eq_true rfl, Nat.le_of_ble_eq_true rfl⟩ ⟨show ((9 - (n14 + 1)) * 259 + 197) ≤ 2792 from by omega, show ((9 - (n14 + 1)) * 1554 + 1182) ≤ 16752 from by omega⟩ (Nat.le_of_ble_eq_true rfl) rfl dL_isWhole_190 (fun z240 _ e239 => ?_)
                    show gAt X ((9 - (n14 + 1)) * 259 + 197) ((9 - (n14 + 1)) * 1554 + 1182) 20 r24.2 z240 gE0 [(14, .int r75), (0, .ref a0), (1, .int r1), (2, .int s5.1), (3, .int s5.2.1), (4, .int s5.2.2.1), (5, .int s5.2.2.2.1), (6, .int s5.2.2.2.2.1), (7, .int s5.2.2.2.2.2.1), (8, .int s5.2.2.2.2.2.2.1), (9, .int s5.2.2.2.2.2.2.2.1), (10, .int s5.2.2.2.2.2.2.2.2.1), (11, .int x33), (13, .int x53)] [.int r237, .int (-1)] 193
                    refine g_aload_n hC dL_isWhole_193 rfl 1 rfl ?_
                    refine g_iconst (v := 2) hC dL_isWhole_194 (by decide) ?_
                    obtain ⟨r241, h242, h80⟩ := fb_open h80
                    refine g_callLW hC hL [.ref a0, .int 2] (c_L_account l D cy a0 2 r24.2 r241 h242) (Or.inl rfl) (fun _ _ h => nomatch h) q_597 q_72 q_595 q_596 h9_L_account ⟨Nat.le_of_ble_eq_true rfl, Nat.le_of_ble_eq_true rfl⟩ ⟨show ((9 - (n14 + 1)) * 259 + 198) ≤ 2792 from by omega, show ((9 - (n14 + 1)) * 1554 + 1188) ≤ 16752 from by omega⟩ (Nat.le_of_ble_eq_true rfl) rfl dL_isWhole_195 (fun z244 _ e243 => ?_)
                    show gAt X ((9 - (n14 + 1)) * 259 + 198) ((9 - (n14 + 1)) * 1554 + 1188) 20 r24.2 z244 gE0 [(14, .int r75), (0, .ref a0), (1, .int r1), (2, .int s5.1), (3, .int s5.2.1), (4, .int s5.2.2.1), (5, .int s5.2.2.2.1), (6, .int s5.2.2.2.2.1), (7, .int s5.2.2.2.2.2.1), (8, .int s5.2.2.2.2.2.2.1), (9, .int s5.2.2.2.2.2.2.2.1), (10, .int s5.2.2.2.2.2.2.2.2.1), (11, .int x33), (13, .int x53)] [.int r241, .int r237, .int (-1)] 198
                    refine g_isub hC dL_isWhole_198 ?_
                    refine g_iload hC dL_isWhole_199 0 rfl ?_
                    refine g_iadd hC dL_isWhole_201 ?_
                    obtain ⟨r245, h246, h80⟩ := fb_open h80
                    refine g_callS hC [.int (-1), .int ((r237 - r241) + r75)] (c_J9_max_7cf53 l D cy (-1) ((r237 - r241) + r75) r24.2 r245 h246) q_694 q_85 q_1272 q_693 h9_J9_max_7cf53 ⟨Nat.le_of_ble_eq_true rfl, Nat.le_of_ble_eq_true rfl⟩ ⟨show ((9 - (n14 + 1)) * 259 + 198) ≤ 2792 from by omega, show ((9 - (n14 + 1)) * 1554 + 1188) ≤ 16752 from by omega⟩ (Nat.le_of_ble_eq_true rfl) rfl dL_isWhole_202 (fun z248 _ e247 => ?_)
                    show gAt X ((9 - (n14 + 1)) * 259 + 198) ((9 - (n14 + 1)) * 1554 + 1188) 20 r24.2 z248 gE0 [(14, .int r75), (0, .ref a0), (1, .int r1), (2, .int s5.1), (3, .int s5.2.1), (4, .int s5.2.2.1), (5, .int s5.2.2.2.1), (6, .int s5.2.2.2.2.1), (7, .int s5.2.2.2.2.2.1), (8, .int s5.2.2.2.2.2.2.1), (9, .int s5.2.2.2.2.2.2.2.1), (10, .int s5.2.2.2.2.2.2.2.2.1), (11, .int x33), (13, .int x53)] [.int r245] 205
                    obtain rfl := Option.some.inj h80
                    refine g_sub (L' := [(0, .ref a0), (1, .int r1), (2, .int s5.1), (3, .int s5.2.1), (4, .int s5.2.2.1), (5, .int s5.2.2.2.1), (6, .int s5.2.2.2.2.1), (7, .int s5.2.2.2.2.2.1), (8, .int s5.2.2.2.2.2.2.1), (9, .int s5.2.2.2.2.2.2.2.1), (10, .int s5.2.2.2.2.2.2.2.2.1), (11, .int x33), (13, .int x53), (14, .int r75)]) [1, 2, 3, 4, 5, 6, 7, 8, 9, 10, 11, 12, 13, 0] rfl ?_
                    exact K82 _
                  · replace h80 := fi_neg h80 c236
                    refine g_bipush (v := (-75)) hC dL_isWhole_180 (by decide) ?_
                    refine g_goto hC 205 dL_isWhole_182 (by decide) ?_
                    obtain rfl := Option.some.inj h80
                    refine g_sub (L' := [(0, .ref a0), (1, .int r1), (2, .int s5.1), (3, .int s5.2.1), (4, .int s5.2.2.1), (5, .int s5.2.2.2.1), (6, .int s5.2.2.2.2.1), (7, .int s5.2.2.2.2.2.1), (8, .int s5.2.2.2.2.2.2.1), (9, .int s5.2.2.2.2.2.2.2.1), (10, .int s5.2.2.2.2.2.2.2.2.1), (11, .int x33), (13, .int x53), (14, .int r75)]) [1, 2, 3, 4, 5, 6, 7, 8, 9, 10, 11, 12, 13, 0] rfl ?_
                    refine g_widen (k' := ((9 - (n14 + 1)) * 259 + 198)) (s' := ((9 - (n14 + 1)) * 1554 + 1188)) (by omega) (by omega) ?_
                    exact K82 _
                refine g_sub (L' := [(0, .ref a0), (1, .int r1), (2, .int s5.1), (3, .int s5.2.1), (4, .int s5.2.2.1), (5, .int s5.2.2.2.1), (6, .int s5.2.2.2.2.1), (7, .int s5.2.2.2.2.2.1), (8, .int s5.2.2.2.2.2.2.1), (9, .int s5.2.2.2.2.2.2.2.1), (10, .int s5.2.2.2.2.2.2.2.2.1), (11, .int x33), (13, .int x42), (14, .int 0)]) [3, 4, 5, 6, 7, 8, 9, 10, 11, 12, 13, 14, 1, 0] rfl ?_
                refine g_widen (k' := ((9 - (n14 + 1)) * 259 + (7 - 7) * 8 + 137)) (s' := ((9 - (n14 + 1)) * 1554 + (7 - 7) * 48 + 822)) (by omega) (by omega) ?_
                have q8 : ∀ n9 s9, _ → (fun (n56 : Nat) (s47 : Int32 × Int32) => n56 ≤ 7 → ∀ z58 : Nat, gAt X ((9 - (n14 + 1)) * 259 + (7 - n56) * 8 + 137) ((9 - (n14 + 1)) * 1554 + (7 - n56) * 48 + 822) 20 r24.2 z58 gE0 [(0, .ref a0), (1, .int r1), (2, .int s5.1), (3, .int s5.2.1), (4, .int s5.2.2.1), (5, .int s5.2.2.2.1), (6, .int s5.2.2.2.2.1), (7, .int s5.2.2.2.2.2.1), (8, .int s5.2.2.2.2.2.2.1), (9, .int s5.2.2.2.2.2.2.2.1), (10, .int s5.2.2.2.2.2.2.2.2.1), (11, .int x33), (13, .int s47.1), (14, .int s47.2)] [] 114) n9 s9 := fLoopB_ind (fun (n56 : Nat) (s47 : Int32 × Int32) => n56 ≤ 7 → ∀ z58 : Nat, gAt X ((9 - (n14 + 1)) * 259 + (7 - n56) * 8 + 137) ((9 - (n14 + 1)) * 1554 + (7 - n56) * 48 + 822) 20 r24.2 z58 gE0 [(0, .ref a0), (1, .int r1), (2, .int s5.1), (3, .int s5.2.1), (4, .int s5.2.2.1), (5, .int s5.2.2.2.1), (6, .int s5.2.2.2.2.1), (7, .int s5.2.2.2.2.2.1), (8, .int s5.2.2.2.2.2.2.1), (9, .int s5.2.2.2.2.2.2.2.1), (10, .int s5.2.2.2.2.2.2.2.2.1), (11, .int x33), (13, .int s47.1), (14, .int s47.2)] [] 114) (fun n56 s47 y52 h48 go49 ou50 => by
                    intro l57 z58
                    refine g_iload hC dL_isWhole_114 13 rfl ?_
                    refine g_aload_n hC dL_isWhole_116 rfl 0 rfl ?_
                    refine g_iload hC dL_isWhole_117 10 rfl ?_
                    refine g_iconst (v := 0) hC dL_isWhole_119 (by decide) ?_
                    obtain ⟨r60, h61, h48⟩ := fb_open h48
                    refine g_callLW hC hL [.ref a0, .int s5.2.2.2.2.2.2.2.2.1, .int 0] (c_L_ticketOf l D cy a0 s5.2.2.2.2.2.2.2.2.1 0 r24.2 r60 h61) (Or.inl rfl) (fun _ _ h => nomatch h) q_1191 q_72 q_1189 q_1190 h9_L_ticketOf ⟨Nat.le_of_ble_eq_true rfl, Nat.le_of_ble_eq_true rfl⟩ ⟨show ((9 - (n14 + 1)) * 259 + (7 - (n56 + 1)) * 8 + 139) ≤ 2792 from by omega, show ((9 - (n14 + 1)) * 1554 + (7 - (n56 + 1)) * 48 + 834) ≤ 16752 from by omega⟩ (Nat.le_of_ble_eq_true rfl) rfl dL_isWhole_120 (fun z63 _ e62 => ?_)
                    show gAt X ((9 - (n14 + 1)) * 259 + (7 - (n56 + 1)) * 8 + 139) ((9 - (n14 + 1)) * 1554 + (7 - (n56 + 1)) * 48 + 834) 20 r24.2 z63 gE0 [(0, .ref a0), (1, .int r1), (2, .int s5.1), (3, .int s5.2.1), (4, .int s5.2.2.1), (5, .int s5.2.2.2.1), (6, .int s5.2.2.2.2.1), (7, .int s5.2.2.2.2.2.1), (8, .int s5.2.2.2.2.2.2.1), (9, .int s5.2.2.2.2.2.2.2.1), (10, .int s5.2.2.2.2.2.2.2.2.1), (11, .int x33), (13, .int s47.1), (14, .int s47.2)] [.int r60, .int s47.2] 123
                    refine g_icmp_ge hC 165 dL_isWhole_123 (by decide) (fun c64 => ?_) (fun c64 => ?_)
                    · replace h48 := fi_pos h48 c64
                      obtain rfl := Option.some.inj h48
                      obtain rfl := ou50 _ rfl
                      refine g_sub (L' := [(0, .ref a0), (1, .int r1), (2, .int s5.1), (3, .int s5.2.1), (4, .int s5.2.2.1), (5, .int s5.2.2.2.1), (6, .int s5.2.2.2.2.1), (7, .int s5.2.2.2.2.2.1), (8, .int s5.2.2.2.2.2.2.1), (9, .int s5.2.2.2.2.2.2.2.1), (10, .int s5.2.2.2.2.2.2.2.2.1), (11, .int x33), (13, .int s47.1)]) [0, 1, 2, 3, 4, 5, 6, 7, 8, 9, 10, 11, 12] rfl ?_
                      refine g_widen (k' := ((9 - (n14 + 1)) * 259 + 193)) (s' := ((9 - (n14 + 1)) * 1554 + 1158)) (by omega) (by omega) ?_
                      exact K55 _
                    · replace h48 := fi_neg h48 c64
                      refine g_iload hC dL_isWhole_126 12 rfl ?_
                      refine g_if_eq hC 165 dL_isWhole_128 (by decide) (fun c65 => ?_) (fun c65 => ?_)
                      · replace h48 := fi_pos h48 c65
                        obtain rfl := Option.some.inj h48
                        obtain rfl := ou50 _ rfl
                        refine g_sub (L' := [(0, .ref a0), (1, .int r1), (2, .int s5.1), (3, .int s5.2.1), (4, .int s5.2.2.1), (5, .int s5.2.2.2.1), (6, .int s5.2.2.2.2.1), (7, .int s5.2.2.2.2.2.1), (8, .int s5.2.2.2.2.2.2.1), (9, .int s5.2.2.2.2.2.2.2.1), (10, .int s5.2.2.2.2.2.2.2.2.1), (11, .int x33), (13, .int s47.1)]) [0, 1, 2, 3, 4, 5, 6, 7, 8, 9, 10, 11, 12] rfl ?_
                        refine g_widen (k' := ((9 - (n14 + 1)) * 259 + 193)) (s' := ((9 - (n14 + 1)) * 1554 + 1158)) (by omega) (by omega) ?_
                        exact K55 _
                      · replace h48 := fi_neg h48 c65
                        refine g_aload_n hC dL_isWhole_131 rfl 0 rfl ?_
                        refine g_iload hC dL_isWhole_132 10 rfl ?_
                        refine g_iconst (v := 0) hC dL_isWhole_134 (by decide) ?_
                        refine g_iload hC dL_isWhole_135 13 rfl ?_
                        obtain ⟨r66, h67, h48⟩ := fb_open h48
                        refine g_callLW hC hL [.ref a0, .int s5.2.2.2.2.2.2.2.2.1, .int 0, .int s47.2] (c_L_readAt l D cy a0 s5.2.2.2.2.2.2.2.2.1 0 s47.2 r24.2 r66 h67) (Or.inl rfl) (fun _ _ h => nomatch h) q_1216 q_72 q_1214 q_1215 h9_L_readAt ⟨Nat.le_of_ble_eq_true rfl, Nat.le_of_ble_eq_true rfl⟩ ⟨show ((9 - (n14 + 1)) * 259 + (7 - (n56 + 1)) * 8 + 142) ≤ 2792 from by omega, show ((9 - (n14 + 1)) * 1554 + (7 - (n56 + 1)) * 48 + 852) ≤ 16752 from by omega⟩ (Nat.le_of_ble_eq_true rfl) rfl dL_isWhole_137 (fun z69 _ e68 => ?_)
                        show gAt X ((9 - (n14 + 1)) * 259 + (7 - (n56 + 1)) * 8 + 142) ((9 - (n14 + 1)) * 1554 + (7 - (n56 + 1)) * 48 + 852) 20 r24.2 z69 gE0 [(0, .ref a0), (1, .int r1), (2, .int s5.1), (3, .int s5.2.1), (4, .int s5.2.2.1), (5, .int s5.2.2.2.1), (6, .int s5.2.2.2.2.1), (7, .int s5.2.2.2.2.2.1), (8, .int s5.2.2.2.2.2.2.1), (9, .int s5.2.2.2.2.2.2.2.1), (10, .int s5.2.2.2.2.2.2.2.2.1), (11, .int x33), (13, .int s47.1), (14, .int s47.2)] [.int r66] 140
                        refine g_aload_n hC dL_isWhole_140 rfl 0 rfl ?_
                        refine g_iload hC dL_isWhole_141 10 rfl ?_
                        refine g_iconst (v := 1) hC dL_isWhole_143 (by decide) ?_
                        refine g_iload hC dL_isWhole_144 13 rfl ?_
                        obtain ⟨r70, h71, h48⟩ := fb_open h48
                        refine g_callLW hC hL [.ref a0, .int s5.2.2.2.2.2.2.2.2.1, .int 1, .int s47.2] (c_L_readAt l D cy a0 s5.2.2.2.2.2.2.2.2.1 1 s47.2 r24.2 r70 h71) (Or.inl rfl) (fun _ _ h => nomatch h) q_1216 q_72 q_1214 q_1215 h9_L_readAt ⟨Nat.le_of_ble_eq_true rfl, Nat.le_of_ble_eq_true rfl⟩ ⟨show ((9 - (n14 + 1)) * 259 + (7 - (n56 + 1)) * 8 + 145) ≤ 2792 from by omega, show ((9 - (n14 + 1)) * 1554 + (7 - (n56 + 1)) * 48 + 870) ≤ 16752 from by omega⟩ (Nat.le_of_ble_eq_true rfl) rfl dL_isWhole_146 (fun z73 _ e72 => ?_)
                        show gAt X ((9 - (n14 + 1)) * 259 + (7 - (n56 + 1)) * 8 + 145) ((9 - (n14 + 1)) * 1554 + (7 - (n56 + 1)) * 48 + 870) 20 r24.2 z73 gE0 [(0, .ref a0), (1, .int r1), (2, .int s5.1), (3, .int s5.2.1), (4, .int s5.2.2.1), (5, .int s5.2.2.2.1), (6, .int s5.2.2.2.2.1), (7, .int s5.2.2.2.2.2.1), (8, .int s5.2.2.2.2.2.2.1), (9, .int s5.2.2.2.2.2.2.2.1), (10, .int s5.2.2.2.2.2.2.2.2.1), (11, .int x33), (13, .int s47.1), (14, .int s47.2)] [.int r70, .int r66] 149
                        refine g_icmp_ne hC 156 dL_isWhole_149 (by decide) (fun c74 => ?_) (fun c74 => ?_)
                        · replace h48 := fi_neg h48 c74
                          refine g_iconst (v := 0) hC dL_isWhole_156 (by decide) ?_
                          refine g_istore (L' := [(13, .int 0), (0, .ref a0), (1, .int r1), (2, .int s5.1), (3, .int s5.2.1), (4, .int s5.2.2.1), (5, .int s5.2.2.2.1), (6, .int s5.2.2.2.2.1), (7, .int s5.2.2.2.2.2.1), (8, .int s5.2.2.2.2.2.2.1), (9, .int s5.2.2.2.2.2.2.2.1), (10, .int s5.2.2.2.2.2.2.2.2.1), (11, .int x33), (14, .int s47.2)]) hC dL_isWhole_157 (by decide) rfl ?_
                          refine g_iinc (L' := [(14, .int (s47.2 + 1)), (13, .int 0), (0, .ref a0), (1, .int r1), (2, .int s5.1), (3, .int s5.2.1), (4, .int s5.2.2.1), (5, .int s5.2.2.2.1), (6, .int s5.2.2.2.2.1), (7, .int s5.2.2.2.2.2.1), (8, .int s5.2.2.2.2.2.2.1), (9, .int s5.2.2.2.2.2.2.2.1), (10, .int s5.2.2.2.2.2.2.2.2.1), (11, .int x33)]) hC dL_isWhole_159 13 rfl rfl (by decide) rfl ?_
                          refine g_goto hC 114 dL_isWhole_162 (by decide) ?_
                          obtain rfl := Option.some.inj h48
                          refine g_sub (L' := [(0, .ref a0), (1, .int r1), (2, .int s5.1), (3, .int s5.2.1), (4, .int s5.2.2.1), (5, .int s5.2.2.2.1), (6, .int s5.2.2.2.2.1), (7, .int s5.2.2.2.2.2.1), (8, .int s5.2.2.2.2.2.2.1), (9, .int s5.2.2.2.2.2.2.2.1), (10, .int s5.2.2.2.2.2.2.2.2.1), (11, .int x33), (13, .int 0), (14, .int (s47.2 + 1))]) [2, 3, 4, 5, 6, 7, 8, 9, 10, 11, 12, 13, 1, 0] rfl ?_
                          refine g_widen (k' := ((9 - (n14 + 1)) * 259 + (7 - n56) * 8 + 137)) (s' := ((9 - (n14 + 1)) * 1554 + (7 - n56) * 48 + 822)) (by omega) (by omega) ?_
                          have z9 := go49 (0, (s47.2 + 1)) rfl (by omega) _
                          exact z9
                        · replace h48 := fi_pos h48 c74
                          refine g_iconst (v := 1) hC dL_isWhole_152 (by decide) ?_
                          refine g_goto hC 157 dL_isWhole_153 (by decide) ?_
                          refine g_istore (L' := [(13, .int 1), (0, .ref a0), (1, .int r1), (2, .int s5.1), (3, .int s5.2.1), (4, .int s5.2.2.1), (5, .int s5.2.2.2.1), (6, .int s5.2.2.2.2.1), (7, .int s5.2.2.2.2.2.1), (8, .int s5.2.2.2.2.2.2.1), (9, .int s5.2.2.2.2.2.2.2.1), (10, .int s5.2.2.2.2.2.2.2.2.1), (11, .int x33), (14, .int s47.2)]) hC dL_isWhole_157 (by decide) rfl ?_
                          refine g_iinc (L' := [(14, .int (s47.2 + 1)), (13, .int 1), (0, .ref a0), (1, .int r1), (2, .int s5.1), (3, .int s5.2.1), (4, .int s5.2.2.1), (5, .int s5.2.2.2.1), (6, .int s5.2.2.2.2.1), (7, .int s5.2.2.2.2.2.1), (8, .int s5.2.2.2.2.2.2.1), (9, .int s5.2.2.2.2.2.2.2.1), (10, .int s5.2.2.2.2.2.2.2.2.1), (11, .int x33)]) hC dL_isWhole_159 13 rfl rfl (by decide) rfl ?_
                          refine g_goto hC 114 dL_isWhole_162 (by decide) ?_
                          obtain rfl := Option.some.inj h48
                          refine g_sub (L' := [(0, .ref a0), (1, .int r1), (2, .int s5.1), (3, .int s5.2.1), (4, .int s5.2.2.1), (5, .int s5.2.2.2.1), (6, .int s5.2.2.2.2.1), (7, .int s5.2.2.2.2.2.1), (8, .int s5.2.2.2.2.2.2.1), (9, .int s5.2.2.2.2.2.2.2.1), (10, .int s5.2.2.2.2.2.2.2.2.1), (11, .int x33), (13, .int 1), (14, .int (s47.2 + 1))]) [2, 3, 4, 5, 6, 7, 8, 9, 10, 11, 12, 13, 1, 0] rfl ?_
                          refine g_widen (k' := ((9 - (n14 + 1)) * 259 + (7 - n56) * 8 + 137)) (s' := ((9 - (n14 + 1)) * 1554 + (7 - n56) * 48 + 822)) (by omega) (by omega) ?_
                          have z9 := go49 (1, (s47.2 + 1)) rfl (by omega) _
                          exact z9)
                exact q8 7 _ h54 (Nat.le_refl _) _
              refine g_icmp_ne hC 104 dL_isWhole_85 (by decide) (fun c249 => ?_) (fun c249 => ?_)
              · replace h43 := fi_neg h43 c249
                refine g_iconst (v := 0) hC dL_isWhole_104 (by decide) ?_
                obtain rfl := Option.some.inj h43
                refine g_sub (L' := [(0, .ref a0), (1, .int r1), (2, .int s5.1), (3, .int s5.2.1), (4, .int s5.2.2.1), (5, .int s5.2.2.2.1), (6, .int s5.2.2.2.2.1), (7, .int s5.2.2.2.2.2.1), (8, .int s5.2.2.2.2.2.2.1), (9, .int s5.2.2.2.2.2.2.2.1), (10, .int s5.2.2.2.2.2.2.2.2.1), (11, .int x33)]) [1, 2, 3, 4, 5, 6, 7, 8, 9, 10, 11, 0] rfl ?_
                refine g_widen (k' := ((9 - (n14 + 1)) * 259 + 137)) (s' := ((9 - (n14 + 1)) * 1554 + 822)) (by omega) (by omega) ?_
                exact K45 _
              · replace h43 := fi_pos h43 c249
                refine g_aload_n hC dL_isWhole_88 rfl 1 rfl ?_
                refine g_iload hC dL_isWhole_89 11 rfl ?_
                refine g_iconst (v := 1) hC dL_isWhole_91 (by decide) ?_
                refine g_iconst (v := 0) hC dL_isWhole_92 (by decide) ?_
                obtain ⟨r250, h251, h43⟩ := fb_open h43
                refine g_callLW hC hL [.ref a0, .int s5.2.2.2.2.2.2.2.2.1, .int 1, .int 0] (c_L_halfOf l D cy a0 s5.2.2.2.2.2.2.2.2.1 1 0 r24.2 r250 h251) (Or.inl rfl) (fun _ _ h => nomatch h) q_315 q_72 q_313 q_314 h9_L_halfOf ⟨Nat.le_of_ble_eq_true rfl, Nat.le_of_ble_eq_true rfl⟩ ⟨show ((9 - (n14 + 1)) * 259 + 137) ≤ 2792 from by omega, show ((9 - (n14 + 1)) * 1554 + 822) ≤ 16752 from by omega⟩ (Nat.le_of_ble_eq_true rfl) rfl dL_isWhole_93 (fun z253 _ e252 => ?_)
                show gAt X ((9 - (n14 + 1)) * 259 + 137) ((9 - (n14 + 1)) * 1554 + 822) 20 r24.2 z253 gE0 [(11, .int x33), (0, .ref a0), (1, .int r1), (2, .int s5.1), (3, .int s5.2.1), (4, .int s5.2.2.1), (5, .int s5.2.2.2.1), (6, .int s5.2.2.2.2.1), (7, .int s5.2.2.2.2.2.1), (8, .int s5.2.2.2.2.2.2.1), (9, .int s5.2.2.2.2.2.2.2.1), (10, .int s5.2.2.2.2.2.2.2.2.1)] [.int r250] 96
                refine g_iconst (v := 1) hC dL_isWhole_96 (by decide) ?_
                refine g_icmp_ne hC 104 dL_isWhole_97 (by decide) (fun c254 => ?_) (fun c254 => ?_)
                · replace h43 := fi_neg h43 c254
                  refine g_iconst (v := 0) hC dL_isWhole_104 (by decide) ?_
                  obtain rfl := Option.some.inj h43
                  refine g_sub (L' := [(0, .ref a0), (1, .int r1), (2, .int s5.1), (3, .int s5.2.1), (4, .int s5.2.2.1), (5, .int s5.2.2.2.1), (6, .int s5.2.2.2.2.1), (7, .int s5.2.2.2.2.2.1), (8, .int s5.2.2.2.2.2.2.1), (9, .int s5.2.2.2.2.2.2.2.1), (10, .int s5.2.2.2.2.2.2.2.2.1), (11, .int x33)]) [1, 2, 3, 4, 5, 6, 7, 8, 9, 10, 11, 0] rfl ?_
                  exact K45 _
                · replace h43 := fi_pos h43 c254
                  refine g_iconst (v := 1) hC dL_isWhole_100 (by decide) ?_
                  refine g_goto hC 105 dL_isWhole_101 (by decide) ?_
                  obtain rfl := Option.some.inj h43
                  refine g_sub (L' := [(0, .ref a0), (1, .int r1), (2, .int s5.1), (3, .int s5.2.1), (4, .int s5.2.2.1), (5, .int s5.2.2.2.1), (6, .int s5.2.2.2.2.1), (7, .int s5.2.2.2.2.2.1), (8, .int s5.2.2.2.2.2.2.1), (9, .int s5.2.2.2.2.2.2.2.1), (10, .int s5.2.2.2.2.2.2.2.2.1), (11, .int x33)]) [1, 2, 3, 4, 5, 6, 7, 8, 9, 10, 11, 0] rfl ?_
                  exact K45 _
            refine g_if_ne hC 73 dL_isWhole_66 (by decide) (fun c255 => ?_) (fun c255 => ?_)
            · replace h34 := fi_neg h34 c255
              refine g_iconst (v := 0) hC dL_isWhole_73 (by decide) ?_
              obtain rfl := Option.some.inj h34
              exact K36 _
            · replace h34 := fi_pos h34 c255
              refine g_iconst (v := 1) hC dL_isWhole_69 (by decide) ?_
              refine g_goto hC 74 dL_isWhole_70 (by decide) ?_
              obtain rfl := Option.some.inj h34
              exact K36 _
          · replace h6 := fi_pos h6 c28
            refine g_iconst (v := 0) hC dL_isWhole_57 (by decide) ?_
            obtain rfl := Option.some.inj h6
            obtain rfl := ou8 _ rfl
            obtain rfl := Option.some.inj hF
            refine g_widen (k' := 2792) (s' := 16752) (by omega) (by omega) ?_
            exact g_zret hC hEn (fSm.tr e26 (fSm.tr e21 p9)) (nar_z (by decide)) dL_isWhole_58)
  exact q8 9 _ h12 (Nat.le_refl _) _ (fSm.rf w)
