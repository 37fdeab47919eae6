theorem dL_isWhole_0 : decode cL_isWhole 0 = .ok (.aload_n 0, 1) := by decide +kernel
theorem dL_isWhole_1 : decode cL_isWhole 1 = .ok (.iconst 0, 1) := by decide +kernel
theorem dL_isWhole_2 : decode cL_isWhole 2 = .ok (.invokestatic 189, 3) := by decide +kernel
theorem dL_isWhole_5 : decode cL_isWhole 5 = .ok (.istore_n 1, 1) := by decide +kernel
theorem dL_isWhole_6 : decode cL_isWhole 6 = .ok (.iconst 0, 1) := by decide +kernel
theorem dL_isWhole_7 : decode cL_isWhole 7 = .ok (.istore_n 2, 1) := by decide +kernel
theorem dL_isWhole_8 : decode cL_isWhole 8 = .ok (.iconst 0, 1) := by decide +kernel
theorem dL_isWhole_9 : decode cL_isWhole 9 = .ok (.istore_n 3, 1) := by decide +kernel
theorem dL_isWhole_10 : decode cL_isWhole 10 = .ok (.iconst 0, 1) := by decide +kernel
theorem dL_isWhole_11 : decode cL_isWhole 11 = .ok (.istore 4, 2) := by decide +kernel
theorem dL_isWhole_13 : decode cL_isWhole 13 = .ok (.iconst 0, 1) := by decide +kernel
theorem dL_isWhole_14 : decode cL_isWhole 14 = .ok (.istore 5, 2) := by decide +kernel
theorem dL_isWhole_16 : decode cL_isWhole 16 = .ok (.iconst 0, 1) := by decide +kernel
theorem dL_isWhole_17 : decode cL_isWhole 17 = .ok (.istore 6, 2) := by decide +kernel
theorem dL_isWhole_19 : decode cL_isWhole 19 = .ok (.iconst 0, 1) := by decide +kernel
theorem dL_isWhole_20 : decode cL_isWhole 20 = .ok (.istore 7, 2) := by decide +kernel
theorem dL_isWhole_22 : decode cL_isWhole 22 = .ok (.iconst 0, 1) := by decide +kernel
theorem dL_isWhole_23 : decode cL_isWhole 23 = .ok (.istore 8, 2) := by decide +kernel
theorem dL_isWhole_25 : decode cL_isWhole 25 = .ok (.iconst 0, 1) := by decide +kernel
theorem dL_isWhole_26 : decode cL_isWhole 26 = .ok (.istore 9, 2) := by decide +kernel
theorem dL_isWhole_28 : decode cL_isWhole 28 = .ok (.iconst 0, 1) := by decide +kernel
theorem dL_isWhole_29 : decode cL_isWhole 29 = .ok (.istore 10, 2) := by decide +kernel
theorem dL_isWhole_31 : decode cL_isWhole 31 = .ok (.iload 10, 2) := by decide +kernel
theorem dL_isWhole_33 : decode cL_isWhole 33 = .ok (.iload_n 1, 1) := by decide +kernel
theorem dL_isWhole_34 : decode cL_isWhole 34 = .ok (.if_icmp .ge 530, 3) := by decide +kernel
theorem dL_isWhole_37 : decode cL_isWhole 37 = .ok (.aload_n 0, 1) := by decide +kernel
theorem dL_isWhole_38 : decode cL_isWhole 38 = .ok (.iload 10, 2) := by decide +kernel
theorem dL_isWhole_40 : decode cL_isWhole 40 = .ok (.iconst 0, 1) := by decide +kernel
theorem dL_isWhole_41 : decode cL_isWhole 41 = .ok (.invokestatic 318, 3) := by decide +kernel
theorem dL_isWhole_44 : decode cL_isWhole 44 = .ok (.ifCond .eq 13, 3) := by decide +kernel
theorem dL_isWhole_47 : decode cL_isWhole 47 = .ok (.aload_n 0, 1) := by decide +kernel
theorem dL_isWhole_48 : decode cL_isWhole 48 = .ok (.iload 10, 2) := by decide +kernel
theorem dL_isWhole_50 : decode cL_isWhole 50 = .ok (.iconst 1, 1) := by decide +kernel
theorem dL_isWhole_51 : decode cL_isWhole 51 = .ok (.invokestatic 318, 3) := by decide +kernel
theorem dL_isWhole_54 : decode cL_isWhole 54 = .ok (.ifCond .ne 5, 3) := by decide +kernel
theorem dL_isWhole_57 : decode cL_isWhole 57 = .ok (.iconst 0, 1) := by decide +kernel
theorem dL_isWhole_58 : decode cL_isWhole 58 = .ok (.ireturn, 1) := by decide +kernel
theorem dL_isWhole_59 : decode cL_isWhole 59 = .ok (.aload_n 0, 1) := by decide +kernel
theorem dL_isWhole_60 : decode cL_isWhole 60 = .ok (.iload 10, 2) := by decide +kernel
theorem dL_isWhole_62 : decode cL_isWhole 62 = .ok (.iconst 5, 1) := by decide +kernel
theorem dL_isWhole_63 : decode cL_isWhole 63 = .ok (.invokestatic 302, 3) := by decide +kernel
theorem dL_isWhole_66 : decode cL_isWhole 66 = .ok (.ifCond .ne 7, 3) := by decide +kernel
theorem dL_isWhole_69 : decode cL_isWhole 69 = .ok (.iconst 1, 1) := by decide +kernel
theorem dL_isWhole_70 : decode cL_isWhole 70 = .ok (.goto 4, 3) := by decide +kernel
theorem dL_isWhole_73 : decode cL_isWhole 73 = .ok (.iconst 0, 1) := by decide +kernel
theorem dL_isWhole_74 : decode cL_isWhole 74 = .ok (.istore 11, 2) := by decide +kernel
theorem dL_isWhole_76 : decode cL_isWhole 76 = .ok (.aload_n 0, 1) := by decide +kernel
theorem dL_isWhole_77 : decode cL_isWhole 77 = .ok (.iload 10, 2) := by decide +kernel
theorem dL_isWhole_79 : decode cL_isWhole 79 = .ok (.iconst 0, 1) := by decide +kernel
theorem dL_isWhole_80 : decode cL_isWhole 80 = .ok (.iconst 0, 1) := by decide +kernel
theorem dL_isWhole_81 : decode cL_isWhole 81 = .ok (.invokestatic 205, 3) := by decide +kernel
theorem dL_isWhole_84 : decode cL_isWhole 84 = .ok (.iconst 1, 1) := by decide +kernel
theorem dL_isWhole_85 : decode cL_isWhole 85 = .ok (.if_icmp .ne 19, 3) := by decide +kernel
theorem dL_isWhole_88 : decode cL_isWhole 88 = .ok (.aload_n 0, 1) := by decide +kernel
theorem dL_isWhole_89 : decode cL_isWhole 89 = .ok (.iload 10, 2) := by decide +kernel
theorem dL_isWhole_91 : decode cL_isWhole 91 = .ok (.iconst 1, 1) := by decide +kernel
theorem dL_isWhole_92 : decode cL_isWhole 92 = .ok (.iconst 0, 1) := by decide +kernel
theorem dL_isWhole_93 : decode cL_isWhole 93 = .ok (.invokestatic 205, 3) := by decide +kernel
theorem dL_isWhole_96 : decode cL_isWhole 96 = .ok (.iconst 1, 1) := by decide +kernel
theorem dL_isWhole_97 : decode cL_isWhole 97 = .ok (.if_icmp .ne 7, 3) := by decide +kernel
theorem dL_isWhole_100 : decode cL_isWhole 100 = .ok (.iconst 1, 1) := by decide +kernel
theorem dL_isWhole_101 : decode cL_isWhole 101 = .ok (.goto 4, 3) := by decide +kernel
theorem dL_isWhole_104 : decode cL_isWhole 104 = .ok (.iconst 0, 1) := by decide +kernel
theorem dL_isWhole_105 : decode cL_isWhole 105 = .ok (.istore 12, 2) := by decide +kernel
theorem dL_isWhole_107 : decode cL_isWhole 107 = .ok (.iload 12, 2) := by decide +kernel
theorem dL_isWhole_109 : decode cL_isWhole 109 = .ok (.istore 13, 2) := by decide +kernel
theorem dL_isWhole_111 : decode cL_isWhole 111 = .ok (.iconst 0, 1) := by decide +kernel
theorem dL_isWhole_112 : decode cL_isWhole 112 = .ok (.istore 14, 2) := by decide +kernel
theorem dL_isWhole_114 : decode cL_isWhole 114 = .ok (.iload 14, 2) := by decide +kernel
theorem dL_isWhole_116 : decode cL_isWhole 116 = .ok (.aload_n 0, 1) := by decide +kernel
theorem dL_isWhole_117 : decode cL_isWhole 117 = .ok (.iload 10, 2) := by decide +kernel
theorem dL_isWhole_119 : decode cL_isWhole 119 = .ok (.iconst 0, 1) := by decide +kernel
theorem dL_isWhole_120 : decode cL_isWhole 120 = .ok (.invokestatic 302, 3) := by decide +kernel
theorem dL_isWhole_123 : decode cL_isWhole 123 = .ok (.if_icmp .ge 42, 3) := by decide +kernel
theorem dL_isWhole_126 : decode cL_isWhole 126 = .ok (.iload 13, 2) := by decide +kernel
theorem dL_isWhole_128 : decode cL_isWhole 128 = .ok (.ifCond .eq 37, 3) := by decide +kernel
theorem dL_isWhole_131 : decode cL_isWhole 131 = .ok (.aload_n 0, 1) := by decide +kernel
theorem dL_isWhole_132 : decode cL_isWhole 132 = .ok (.iload 10, 2) := by decide +kernel
theorem dL_isWhole_134 : decode cL_isWhole 134 = .ok (.iconst 0, 1) := by decide +kernel
theorem dL_isWhole_135 : decode cL_isWhole 135 = .ok (.iload 14, 2) := by decide +kernel
theorem dL_isWhole_137 : decode cL_isWhole 137 = .ok (.invokestatic 308, 3) := by decide +kernel
theorem dL_isWhole_140 : decode cL_isWhole 140 = .ok (.aload_n 0, 1) := by decide +kernel
theorem dL_isWhole_141 : decode cL_isWhole 141 = .ok (.iload 10, 2) := by decide +kernel
theorem dL_isWhole_143 : decode cL_isWhole 143 = .ok (.iconst 1, 1) := by decide +kernel
theorem dL_isWhole_144 : decode cL_isWhole 144 = .ok (.iload 14, 2) := by decide +kernel
theorem dL_isWhole_146 : decode cL_isWhole 146 = .ok (.invokestatic 308, 3) := by decide +kernel
theorem dL_isWhole_149 : decode cL_isWhole 149 = .ok (.if_icmp .ne 7, 3) := by decide +kernel
theorem dL_isWhole_152 : decode cL_isWhole 152 = .ok (.iconst 1, 1) := by decide +kernel
theorem dL_isWhole_153 : decode cL_isWhole 153 = .ok (.goto 4, 3) := by decide +kernel
theorem dL_isWhole_156 : decode cL_isWhole 156 = .ok (.iconst 0, 1) := by decide +kernel
theorem dL_isWhole_157 : decode cL_isWhole 157 = .ok (.istore 13, 2) := by decide +kernel
theorem dL_isWhole_159 : decode cL_isWhole 159 = .ok (.iinc 14 1, 3) := by decide +kernel
theorem dL_isWhole_162 : decode cL_isWhole 162 = .ok (.goto (-48), 3) := by decide +kernel
theorem dL_isWhole_165 : decode cL_isWhole 165 = .ok (.aload_n 0, 1) := by decide +kernel
theorem dL_isWhole_166 : decode cL_isWhole 166 = .ok (.iload 10, 2) := by decide +kernel
theorem dL_isWhole_168 : decode cL_isWhole 168 = .ok (.bipush 6, 2) := by decide +kernel
theorem dL_isWhole_170 : decode cL_isWhole 170 = .ok (.invokestatic 302, 3) := by decide +kernel
theorem dL_isWhole_173 : decode cL_isWhole 173 = .ok (.istore 14, 2) := by decide +kernel
theorem dL_isWhole_175 : decode cL_isWhole 175 = .ok (.iload 14, 2) := by decide +kernel
theorem dL_isWhole_177 : decode cL_isWhole 177 = .ok (.ifCond .ge 8, 3) := by decide +kernel
theorem dL_isWhole_180 : decode cL_isWhole 180 = .ok (.bipush (-75), 2) := by decide +kernel
theorem dL_isWhole_182 : decode cL_isWhole 182 = .ok (.goto 23, 3) := by decide +kernel
theorem dL_isWhole_185 : decode cL_isWhole 185 = .ok (.iconst (-1), 1) := by decide +kernel
theorem dL_isWhole_186 : decode cL_isWhole 186 = .ok (.aload_n 0, 1) := by decide +kernel
theorem dL_isWhole_187 : decode cL_isWhole 187 = .ok (.iload 10, 2) := by decide +kernel
theorem dL_isWhole_189 : decode cL_isWhole 189 = .ok (.iconst 4, 1) := by decide +kernel
theorem dL_isWhole_190 : decode cL_isWhole 190 = .ok (.invokestatic 302, 3) := by decide +kernel
theorem dL_isWhole_193 : decode cL_isWhole 193 = .ok (.aload_n 0, 1) := by decide +kernel
theorem dL_isWhole_194 : decode cL_isWhole 194 = .ok (.iconst 2, 1) := by decide +kernel
theorem dL_isWhole_195 : decode cL_isWhole 195 = .ok (.invokestatic 189, 3) := by decide +kernel
theorem dL_isWhole_198 : decode cL_isWhole 198 = .ok (.isub, 1) := by decide +kernel
theorem dL_isWhole_199 : decode cL_isWhole 199 = .ok (.iload 14, 2) := by decide +kernel
theorem dL_isWhole_201 : decode cL_isWhole 201 = .ok (.iadd, 1) := by decide +kernel
theorem dL_isWhole_202 : decode cL_isWhole 202 = .ok (.invokestatic 322, 3) := by decide +kernel
theorem dL_isWhole_205 : decode cL_isWhole 205 = .ok (.istore 15, 2) := by decide +kernel
theorem dL_isWhole_207 : decode cL_isWhole 207 = .ok (.aload_n 0, 1) := by decide +kernel
theorem dL_isWhole_208 : decode cL_isWhole 208 = .ok (.iload 10, 2) := by decide +kernel
theorem dL_isWhole_210 : decode cL_isWhole 210 = .ok (.iconst 0, 1) := by decide +kernel
theorem dL_isWhole_211 : decode cL_isWhole 211 = .ok (.invokestatic 327, 3) := by decide +kernel
theorem dL_isWhole_214 : decode cL_isWhole 214 = .ok (.iload 13, 2) := by decide +kernel
theorem dL_isWhole_216 : decode cL_isWhole 216 = .ok (.ifCond .eq 7, 3) := by decide +kernel
theorem dL_isWhole_219 : decode cL_isWhole 219 = .ok (.iconst 1, 1) := by decide +kernel
theorem dL_isWhole_220 : decode cL_isWhole 220 = .ok (.goto 4, 3) := by decide +kernel
theorem dL_isWhole_223 : decode cL_isWhole 223 = .ok (.iconst 0, 1) := by decide +kernel
theorem dL_isWhole_224 : decode cL_isWhole 224 = .ok (.if_icmp .ne 86, 3) := by decide +kernel
theorem dL_isWhole_227 : decode cL_isWhole 227 = .ok (.aload_n 0, 1) := by decide +kernel
theorem dL_isWhole_228 : decode cL_isWhole 228 = .ok (.iload 10, 2) := by decide +kernel
theorem dL_isWhole_230 : decode cL_isWhole 230 = .ok (.iconst 1, 1) := by decide +kernel
theorem dL_isWhole_231 : decode cL_isWhole 231 = .ok (.invokestatic 327, 3) := by decide +kernel
theorem dL_isWhole_234 : decode cL_isWhole 234 = .ok (.iload 13, 2) := by decide +kernel
theorem dL_isWhole_236 : decode cL_isWhole 236 = .ok (.ifCond .eq 7, 3) := by decide +kernel
theorem dL_isWhole_239 : decode cL_isWhole 239 = .ok (.iconst 1, 1) := by decide +kernel
theorem dL_isWhole_240 : decode cL_isWhole 240 = .ok (.goto 4, 3) := by decide +kernel
theorem dL_isWhole_243 : decode cL_isWhole 243 = .ok (.iconst 0, 1) := by decide +kernel
theorem dL_isWhole_244 : decode cL_isWhole 244 = .ok (.if_icmp .ne 66, 3) := by decide +kernel
theorem dL_isWhole_247 : decode cL_isWhole 247 = .ok (.aload_n 0, 1) := by decide +kernel
theorem dL_isWhole_248 : decode cL_isWhole 248 = .ok (.iload 10, 2) := by decide +kernel
theorem dL_isWhole_250 : decode cL_isWhole 250 = .ok (.invokestatic 329, 3) := by decide +kernel
theorem dL_isWhole_253 : decode cL_isWhole 253 = .ok (.iload 15, 2) := by decide +kernel
theorem dL_isWhole_255 : decode cL_isWhole 255 = .ok (.if_icmp .ne 55, 3) := by decide +kernel
theorem dL_isWhole_258 : decode cL_isWhole 258 = .ok (.iload 14, 2) := by decide +kernel
theorem dL_isWhole_260 : decode cL_isWhole 260 = .ok (.ifCond .lt 7, 3) := by decide +kernel
theorem dL_isWhole_263 : decode cL_isWhole 263 = .ok (.iconst 1, 1) := by decide +kernel
theorem dL_isWhole_264 : decode cL_isWhole 264 = .ok (.goto 4, 3) := by decide +kernel
theorem dL_isWhole_267 : decode cL_isWhole 267 = .ok (.iconst 0, 1) := by decide +kernel
theorem dL_isWhole_268 : decode cL_isWhole 268 = .ok (.aload_n 0, 1) := by decide +kernel
theorem dL_isWhole_269 : decode cL_isWhole 269 = .ok (.iload 10, 2) := by decide +kernel
theorem dL_isWhole_271 : decode cL_isWhole 271 = .ok (.iconst 0, 1) := by decide +kernel
theorem dL_isWhole_272 : decode cL_isWhole 272 = .ok (.bipush 6, 2) := by decide +kernel
theorem dL_isWhole_274 : decode cL_isWhole 274 = .ok (.invokestatic 205, 3) := by decide +kernel
theorem dL_isWhole_277 : decode cL_isWhole 277 = .ok (.iconst 1, 1) := by decide +kernel
theorem dL_isWhole_278 : decode cL_isWhole 278 = .ok (.if_icmp .ne 7, 3) := by decide +kernel
theorem dL_isWhole_281 : decode cL_isWhole 281 = .ok (.iconst 1, 1) := by decide +kernel
theorem dL_isWhole_282 : decode cL_isWhole 282 = .ok (.goto 4, 3) := by decide +kernel
theorem dL_isWhole_285 : decode cL_isWhole 285 = .ok (.iconst 0, 1) := by decide +kernel
theorem dL_isWhole_286 : decode cL_isWhole 286 = .ok (.if_icmp .ne 24, 3) := by decide +kernel
theorem dL_isWhole_289 : decode cL_isWhole 289 = .ok (.aload_n 0, 1) := by decide +kernel
theorem dL_isWhole_290 : decode cL_isWhole 290 = .ok (.iload 10, 2) := by decide +kernel
theorem dL_isWhole_292 : decode cL_isWhole 292 = .ok (.iconst 1, 1) := by decide +kernel
theorem dL_isWhole_293 : decode cL_isWhole 293 = .ok (.bipush 6, 2) := by decide +kernel
theorem dL_isWhole_295 : decode cL_isWhole 295 = .ok (.invokestatic 205, 3) := by decide +kernel
theorem dL_isWhole_298 : decode cL_isWhole 298 = .ok (.ifCond .eq 8, 3) := by decide +kernel
theorem dL_isWhole_301 : decode cL_isWhole 301 = .ok (.iload 14, 2) := by decide +kernel
theorem dL_isWhole_303 : decode cL_isWhole 303 = .ok (.ifCond .lt 7, 3) := by decide +kernel
theorem dL_isWhole_306 : decode cL_isWhole 306 = .ok (.iconst 1, 1) := by decide +kernel
theorem dL_isWhole_307 : decode cL_isWhole 307 = .ok (.goto 4, 3) := by decide +kernel
theorem dL_isWhole_310 : decode cL_isWhole 310 = .ok (.iconst 0, 1) := by decide +kernel
theorem dL_isWhole_311 : decode cL_isWhole 311 = .ok (.istore 16, 2) := by decide +kernel
theorem dL_isWhole_313 : decode cL_isWhole 313 = .ok (.iload 11, 2) := by decide +kernel
theorem dL_isWhole_315 : decode cL_isWhole 315 = .ok (.ifCond .eq 48, 3) := by decide +kernel
theorem dL_isWhole_318 : decode cL_isWhole 318 = .ok (.aload_n 0, 1) := by decide +kernel
theorem dL_isWhole_319 : decode cL_isWhole 319 = .ok (.iload 10, 2) := by decide +kernel
theorem dL_isWhole_321 : decode cL_isWhole 321 = .ok (.iconst 0, 1) := by decide +kernel
theorem dL_isWhole_322 : decode cL_isWhole 322 = .ok (.iconst 5, 1) := by decide +kernel
theorem dL_isWhole_323 : decode cL_isWhole 323 = .ok (.invokestatic 205, 3) := by decide +kernel
theorem dL_isWhole_326 : decode cL_isWhole 326 = .ok (.aload_n 0, 1) := by decide +kernel
theorem dL_isWhole_327 : decode cL_isWhole 327 = .ok (.iload 10, 2) := by decide +kernel
theorem dL_isWhole_329 : decode cL_isWhole 329 = .ok (.iconst 1, 1) := by decide +kernel
theorem dL_isWhole_330 : decode cL_isWhole 330 = .ok (.iconst 5, 1) := by decide +kernel
theorem dL_isWhole_331 : decode cL_isWhole 331 = .ok (.invokestatic 205, 3) := by decide +kernel
theorem dL_isWhole_334 : decode cL_isWhole 334 = .ok (.if_icmp .ne 33, 3) := by decide +kernel
theorem dL_isWhole_337 : decode cL_isWhole 337 = .ok (.aload_n 0, 1) := by decide +kernel
theorem dL_isWhole_338 : decode cL_isWhole 338 = .ok (.iload 10, 2) := by decide +kernel
theorem dL_isWhole_340 : decode cL_isWhole 340 = .ok (.iconst 0, 1) := by decide +kernel
theorem dL_isWhole_341 : decode cL_isWhole 341 = .ok (.iconst 2, 1) := by decide +kernel
theorem dL_isWhole_342 : decode cL_isWhole 342 = .ok (.invokestatic 205, 3) := by decide +kernel
theorem dL_isWhole_345 : decode cL_isWhole 345 = .ok (.bipush 6, 2) := by decide +kernel
theorem dL_isWhole_347 : decode cL_isWhole 347 = .ok (.if_icmp .ge 20, 3) := by decide +kernel
theorem dL_isWhole_350 : decode cL_isWhole 350 = .ok (.aload_n 0, 1) := by decide +kernel
theorem dL_isWhole_351 : decode cL_isWhole 351 = .ok (.iload 10, 2) := by decide +kernel
theorem dL_isWhole_353 : decode cL_isWhole 353 = .ok (.iconst 1, 1) := by decide +kernel
theorem dL_isWhole_354 : decode cL_isWhole 354 = .ok (.iconst 2, 1) := by decide +kernel
theorem dL_isWhole_355 : decode cL_isWhole 355 = .ok (.invokestatic 205, 3) := by decide +kernel
theorem dL_isWhole_358 : decode cL_isWhole 358 = .ok (.bipush 6, 2) := by decide +kernel
theorem dL_isWhole_360 : decode cL_isWhole 360 = .ok (.if_icmp .ge 7, 3) := by decide +kernel
theorem dL_isWhole_363 : decode cL_isWhole 363 = .ok (.iconst 1, 1) := by decide +kernel
theorem dL_isWhole_364 : decode cL_isWhole 364 = .ok (.goto 4, 3) := by decide +kernel
theorem dL_isWhole_367 : decode cL_isWhole 367 = .ok (.iconst 0, 1) := by decide +kernel
theorem dL_isWhole_368 : decode cL_isWhole 368 = .ok (.istore 17, 2) := by decide +kernel
theorem dL_isWhole_370 : decode cL_isWhole 370 = .ok (.iload 16, 2) := by decide +kernel
theorem dL_isWhole_372 : decode cL_isWhole 372 = .ok (.ifCond .eq 19, 3) := by decide +kernel
theorem dL_isWhole_375 : decode cL_isWhole 375 = .ok (.iload 17, 2) := by decide +kernel
theorem dL_isWhole_377 : decode cL_isWhole 377 = .ok (.ifCond .eq 14, 3) := by decide +kernel
theorem dL_isWhole_380 : decode cL_isWhole 380 = .ok (.aload_n 0, 1) := by decide +kernel
theorem dL_isWhole_381 : decode cL_isWhole 381 = .ok (.iload 10, 2) := by decide +kernel
theorem dL_isWhole_383 : decode cL_isWhole 383 = .ok (.invokestatic 331, 3) := by decide +kernel
theorem dL_isWhole_386 : decode cL_isWhole 386 = .ok (.bipush 7, 2) := by decide +kernel
theorem dL_isWhole_388 : decode cL_isWhole 388 = .ok (.if_icmp .ge 5, 3) := by decide +kernel
theorem dL_isWhole_391 : decode cL_isWhole 391 = .ok (.iconst 0, 1) := by decide +kernel
theorem dL_isWhole_392 : decode cL_isWhole 392 = .ok (.ireturn, 1) := by decide +kernel
theorem dL_isWhole_393 : decode cL_isWhole 393 = .ok (.iconst 0, 1) := by decide +kernel
theorem dL_isWhole_394 : decode cL_isWhole 394 = .ok (.istore 18, 2) := by decide +kernel
theorem dL_isWhole_396 : decode cL_isWhole 396 = .ok (.iload 18, 2) := by decide +kernel
theorem dL_isWhole_398 : decode cL_isWhole 398 = .ok (.iconst 2, 1) := by decide +kernel
theorem dL_isWhole_399 : decode cL_isWhole 399 = .ok (.if_icmp .ge 119, 3) := by decide +kernel
theorem dL_isWhole_402 : decode cL_isWhole 402 = .ok (.iload 18, 2) := by decide +kernel
theorem dL_isWhole_404 : decode cL_isWhole 404 = .ok (.iconst 1, 1) := by decide +kernel
theorem dL_isWhole_405 : decode cL_isWhole 405 = .ok (.if_icmp .ne 7, 3) := by decide +kernel
theorem dL_isWhole_408 : decode cL_isWhole 408 = .ok (.iconst 1, 1) := by decide +kernel
theorem dL_isWhole_409 : decode cL_isWhole 409 = .ok (.goto 4, 3) := by decide +kernel
theorem dL_isWhole_412 : decode cL_isWhole 412 = .ok (.iconst 0, 1) := by decide +kernel
theorem dL_isWhole_413 : decode cL_isWhole 413 = .ok (.istore 19, 2) := by decide +kernel
theorem dL_isWhole_415 : decode cL_isWhole 415 = .ok (.iload_n 3, 1) := by decide +kernel
theorem dL_isWhole_416 : decode cL_isWhole 416 = .ok (.aload_n 0, 1) := by decide +kernel
theorem dL_isWhole_417 : decode cL_isWhole 417 = .ok (.iload 10, 2) := by decide +kernel
theorem dL_isWhole_419 : decode cL_isWhole 419 = .ok (.iload 19, 2) := by decide +kernel
theorem dL_isWhole_421 : decode cL_isWhole 421 = .ok (.iconst 5, 1) := by decide +kernel
theorem dL_isWhole_422 : decode cL_isWhole 422 = .ok (.invokestatic 205, 3) := by decide +kernel
theorem dL_isWhole_425 : decode cL_isWhole 425 = .ok (.iadd, 1) := by decide +kernel
theorem dL_isWhole_426 : decode cL_isWhole 426 = .ok (.istore_n 3, 1) := by decide +kernel
theorem dL_isWhole_427 : decode cL_isWhole 427 = .ok (.iload 4, 2) := by decide +kernel
theorem dL_isWhole_429 : decode cL_isWhole 429 = .ok (.aload_n 0, 1) := by decide +kernel
theorem dL_isWhole_430 : decode cL_isWhole 430 = .ok (.iload 10, 2) := by decide +kernel
theorem dL_isWhole_432 : decode cL_isWhole 432 = .ok (.iload 19, 2) := by decide +kernel
theorem dL_isWhole_434 : decode cL_isWhole 434 = .ok (.iconst 0, 1) := by decide +kernel
theorem dL_isWhole_435 : decode cL_isWhole 435 = .ok (.invokestatic 205, 3) := by decide +kernel
theorem dL_isWhole_438 : decode cL_isWhole 438 = .ok (.iadd, 1) := by decide +kernel
theorem dL_isWhole_439 : decode cL_isWhole 439 = .ok (.istore 4, 2) := by decide +kernel
theorem dL_isWhole_441 : decode cL_isWhole 441 = .ok (.iload 5, 2) := by decide +kernel
theorem dL_isWhole_443 : decode cL_isWhole 443 = .ok (.aload_n 0, 1) := by decide +kernel
theorem dL_isWhole_444 : decode cL_isWhole 444 = .ok (.iload 10, 2) := by decide +kernel
theorem dL_isWhole_446 : decode cL_isWhole 446 = .ok (.iload 19, 2) := by decide +kernel
theorem dL_isWhole_448 : decode cL_isWhole 448 = .ok (.iconst 4, 1) := by decide +kernel
theorem dL_isWhole_449 : decode cL_isWhole 449 = .ok (.invokestatic 205, 3) := by decide +kernel
theorem dL_isWhole_452 : decode cL_isWhole 452 = .ok (.iadd, 1) := by decide +kernel
theorem dL_isWhole_453 : decode cL_isWhole 453 = .ok (.istore 5, 2) := by decide +kernel
theorem dL_isWhole_455 : decode cL_isWhole 455 = .ok (.iload 6, 2) := by decide +kernel
theorem dL_isWhole_457 : decode cL_isWhole 457 = .ok (.aload_n 0, 1) := by decide +kernel
theorem dL_isWhole_458 : decode cL_isWhole 458 = .ok (.iload 10, 2) := by decide +kernel
theorem dL_isWhole_460 : decode cL_isWhole 460 = .ok (.iload 19, 2) := by decide +kernel
theorem dL_isWhole_462 : decode cL_isWhole 462 = .ok (.iconst 2, 1) := by decide +kernel
theorem dL_isWhole_463 : decode cL_isWhole 463 = .ok (.invokestatic 205, 3) := by decide +kernel
theorem dL_isWhole_466 : decode cL_isWhole 466 = .ok (.iadd, 1) := by decide +kernel
theorem dL_isWhole_467 : decode cL_isWhole 467 = .ok (.istore 6, 2) := by decide +kernel
theorem dL_isWhole_469 : decode cL_isWhole 469 = .ok (.iload 7, 2) := by decide +kernel
theorem dL_isWhole_471 : decode cL_isWhole 471 = .ok (.aload_n 0, 1) := by decide +kernel
theorem dL_isWhole_472 : decode cL_isWhole 472 = .ok (.iload 10, 2) := by decide +kernel
theorem dL_isWhole_474 : decode cL_isWhole 474 = .ok (.iload 19, 2) := by decide +kernel
theorem dL_isWhole_476 : decode cL_isWhole 476 = .ok (.iconst 0, 1) := by decide +kernel
theorem dL_isWhole_477 : decode cL_isWhole 477 = .ok (.invokestatic 205, 3) := by decide +kernel
theorem dL_isWhole_480 : decode cL_isWhole 480 = .ok (.iconst 1, 1) := by decide +kernel
theorem dL_isWhole_481 : decode cL_isWhole 481 = .ok (.if_icmp .ne 27, 3) := by decide +kernel
theorem dL_isWhole_484 : decode cL_isWhole 484 = .ok (.aload_n 0, 1) := by decide +kernel
theorem dL_isWhole_485 : decode cL_isWhole 485 = .ok (.iload 10, 2) := by decide +kernel
theorem dL_isWhole_487 : decode cL_isWhole 487 = .ok (.iload 19, 2) := by decide +kernel
theorem dL_isWhole_489 : decode cL_isWhole 489 = .ok (.bipush 7, 2) := by decide +kernel
theorem dL_isWhole_491 : decode cL_isWhole 491 = .ok (.invokestatic 205, 3) := by decide +kernel
theorem dL_isWhole_494 : decode cL_isWhole 494 = .ok (.aload_n 0, 1) := by decide +kernel
theorem dL_isWhole_495 : decode cL_isWhole 495 = .ok (.iload 10, 2) := by decide +kernel
theorem dL_isWhole_497 : decode cL_isWhole 497 = .ok (.iconst 0, 1) := by decide +kernel
theorem dL_isWhole_498 : decode cL_isWhole 498 = .ok (.invokestatic 302, 3) := by decide +kernel
theorem dL_isWhole_501 : decode cL_isWhole 501 = .ok (.if_icmp .ne 7, 3) := by decide +kernel
theorem dL_isWhole_504 : decode cL_isWhole 504 = .ok (.iconst 1, 1) := by decide +kernel
theorem dL_isWhole_505 : decode cL_isWhole 505 = .ok (.goto 4, 3) := by decide +kernel
theorem dL_isWhole_508 : decode cL_isWhole 508 = .ok (.iconst 0, 1) := by decide +kernel
theorem dL_isWhole_509 : decode cL_isWhole 509 = .ok (.iadd, 1) := by decide +kernel
theorem dL_isWhole_510 : decode cL_isWhole 510 = .ok (.istore 7, 2) := by decide +kernel
theorem dL_isWhole_512 : decode cL_isWhole 512 = .ok (.iinc 18 1, 3) := by decide +kernel
theorem dL_isWhole_515 : decode cL_isWhole 515 = .ok (.goto (-119), 3) := by decide +kernel
theorem dL_isWhole_518 : decode cL_isWhole 518 = .ok (.iload_n 2, 1) := by decide +kernel
theorem dL_isWhole_519 : decode cL_isWhole 519 = .ok (.iload 11, 2) := by decide +kernel
theorem dL_isWhole_521 : decode cL_isWhole 521 = .ok (.ifCond .eq 7, 3) := by decide +kernel
theorem dL_isWhole_524 : decode cL_isWhole 524 = .ok (.iconst 0, 1) := by decide +kernel
theorem dL_isWhole_525 : decode cL_isWhole 525 = .ok (.goto 4, 3) := by decide +kernel
theorem dL_isWhole_528 : decode cL_isWhole 528 = .ok (.iconst 1, 1) := by decide +kernel
theorem dL_isWhole_529 : decode cL_isWhole 529 = .ok (.iadd, 1) := by decide +kernel
theorem dL_isWhole_530 : decode cL_isWhole 530 = .ok (.istore_n 2, 1) := by decide +kernel
theorem dL_isWhole_531 : decode cL_isWhole 531 = .ok (.iload 8, 2) := by decide +kernel
theorem dL_isWhole_533 : decode cL_isWhole 533 = .ok (.aload_n 0, 1) := by decide +kernel
theorem dL_isWhole_534 : decode cL_isWhole 534 = .ok (.iload 10, 2) := by decide +kernel
theorem dL_isWhole_536 : decode cL_isWhole 536 = .ok (.iconst 0, 1) := by decide +kernel
theorem dL_isWhole_537 : decode cL_isWhole 537 = .ok (.invokestatic 302, 3) := by decide +kernel
theorem dL_isWhole_540 : decode cL_isWhole 540 = .ok (.iadd, 1) := by decide +kernel
theorem dL_isWhole_541 : decode cL_isWhole 541 = .ok (.istore 8, 2) := by decide +kernel
theorem dL_isWhole_543 : decode cL_isWhole 543 = .ok (.iload 9, 2) := by decide +kernel
theorem dL_isWhole_545 : decode cL_isWhole 545 = .ok (.sipush 840, 3) := by decide +kernel
theorem dL_isWhole_548 : decode cL_isWhole 548 = .ok (.aload_n 0, 1) := by decide +kernel
theorem dL_isWhole_549 : decode cL_isWhole 549 = .ok (.iload 10, 2) := by decide +kernel
theorem dL_isWhole_551 : decode cL_isWhole 551 = .ok (.invokestatic 316, 3) := by decide +kernel
theorem dL_isWhole_554 : decode cL_isWhole 554 = .ok (.idiv, 1) := by decide +kernel
theorem dL_isWhole_555 : decode cL_isWhole 555 = .ok (.iadd, 1) := by decide +kernel
theorem dL_isWhole_556 : decode cL_isWhole 556 = .ok (.istore 9, 2) := by decide +kernel
theorem dL_isWhole_558 : decode cL_isWhole 558 = .ok (.iinc 10 1, 3) := by decide +kernel
theorem dL_isWhole_561 : decode cL_isWhole 561 = .ok (.goto (-530), 3) := by decide +kernel
theorem dL_isWhole_564 : decode cL_isWhole 564 = .ok (.iconst 0, 1) := by decide +kernel
theorem dL_isWhole_565 : decode cL_isWhole 565 = .ok (.istore 10, 2) := by decide +kernel
theorem dL_isWhole_567 : decode cL_isWhole 567 = .ok (.iload 10, 2) := by decide +kernel
theorem dL_isWhole_569 : decode cL_isWhole 569 = .ok (.iconst 3, 1) := by decide +kernel
theorem dL_isWhole_570 : decode cL_isWhole 570 = .ok (.if_icmp .ge 84, 3) := by decide +kernel
theorem dL_isWhole_573 : decode cL_isWhole 573 = .ok (.iconst 1, 1) := by decide +kernel
theorem dL_isWhole_574 : decode cL_isWhole 574 = .ok (.istore 11, 2) := by decide +kernel
theorem dL_isWhole_576 : decode cL_isWhole 576 = .ok (.iload 11, 2) := by decide +kernel
theorem dL_isWhole_578 : decode cL_isWhole 578 = .ok (.iload_n 1, 1) := by decide +kernel
theorem dL_isWhole_579 : decode cL_isWhole 579 = .ok (.if_icmp .ge 69, 3) := by decide +kernel
theorem dL_isWhole_582 : decode cL_isWhole 582 = .ok (.aload_n 0, 1) := by decide +kernel
theorem dL_isWhole_583 : decode cL_isWhole 583 = .ok (.iload 10, 2) := by decide +kernel
theorem dL_isWhole_585 : decode cL_isWhole 585 = .ok (.iload 11, 2) := by decide +kernel
theorem dL_isWhole_587 : decode cL_isWhole 587 = .ok (.iconst 1, 1) := by decide +kernel
theorem dL_isWhole_588 : decode cL_isWhole 588 = .ok (.isub, 1) := by decide +kernel
theorem dL_isWhole_589 : decode cL_isWhole 589 = .ok (.invokestatic 333, 3) := by decide +kernel
theorem dL_isWhole_592 : decode cL_isWhole 592 = .ok (.istore 12, 2) := by decide +kernel
theorem dL_isWhole_594 : decode cL_isWhole 594 = .ok (.aload_n 0, 1) := by decide +kernel
theorem dL_isWhole_595 : decode cL_isWhole 595 = .ok (.iload 10, 2) := by decide +kernel
theorem dL_isWhole_597 : decode cL_isWhole 597 = .ok (.iload 11, 2) := by decide +kernel
theorem dL_isWhole_599 : decode cL_isWhole 599 = .ok (.invokestatic 333, 3) := by decide +kernel
theorem dL_isWhole_602 : decode cL_isWhole 602 = .ok (.istore 13, 2) := by decide +kernel
theorem dL_isWhole_604 : decode cL_isWhole 604 = .ok (.aload_n 0, 1) := by decide +kernel
theorem dL_isWhole_605 : decode cL_isWhole 605 = .ok (.iload 10, 2) := by decide +kernel
theorem dL_isWhole_607 : decode cL_isWhole 607 = .ok (.iload 12, 2) := by decide +kernel
theorem dL_isWhole_609 : decode cL_isWhole 609 = .ok (.invokestatic 335, 3) := by decide +kernel
theorem dL_isWhole_612 : decode cL_isWhole 612 = .ok (.aload_n 0, 1) := by decide +kernel
theorem dL_isWhole_613 : decode cL_isWhole 613 = .ok (.iload 10, 2) := by decide +kernel
theorem dL_isWhole_615 : decode cL_isWhole 615 = .ok (.iload 13, 2) := by decide +kernel
theorem dL_isWhole_617 : decode cL_isWhole 617 = .ok (.invokestatic 335, 3) := by decide +kernel
theorem dL_isWhole_620 : decode cL_isWhole 620 = .ok (.isub, 1) := by decide +kernel
theorem dL_isWhole_621 : decode cL_isWhole 621 = .ok (.istore 14, 2) := by decide +kernel
theorem dL_isWhole_623 : decode cL_isWhole 623 = .ok (.iload 14, 2) := by decide +kernel
theorem dL_isWhole_625 : decode cL_isWhole 625 = .ok (.ifCond .lt 15, 3) := by decide +kernel
theorem dL_isWhole_628 : decode cL_isWhole 628 = .ok (.iload 14, 2) := by decide +kernel
theorem dL_isWhole_630 : decode cL_isWhole 630 = .ok (.ifCond .ne 12, 3) := by decide +kernel
theorem dL_isWhole_633 : decode cL_isWhole 633 = .ok (.iload 12, 2) := by decide +kernel
theorem dL_isWhole_635 : decode cL_isWhole 635 = .ok (.iload 13, 2) := by decide +kernel
theorem dL_isWhole_637 : decode cL_isWhole 637 = .ok (.if_icmp .le 5, 3) := by decide +kernel
theorem dL_isWhole_640 : decode cL_isWhole 640 = .ok (.iconst 0, 1) := by decide +kernel
theorem dL_isWhole_641 : decode cL_isWhole 641 = .ok (.ireturn, 1) := by decide +kernel
theorem dL_isWhole_642 : decode cL_isWhole 642 = .ok (.iinc 11 1, 3) := by decide +kernel
theorem dL_isWhole_645 : decode cL_isWhole 645 = .ok (.goto (-69), 3) := by decide +kernel
theorem dL_isWhole_648 : decode cL_isWhole 648 = .ok (.iinc 10 1, 3) := by decide +kernel
theorem dL_isWhole_651 : decode cL_isWhole 651 = .ok (.goto (-84), 3) := by decide +kernel
theorem dL_isWhole_654 : decode cL_isWhole 654 = .ok (.iconst 0, 1) := by decide +kernel
theorem dL_isWhole_655 : decode cL_isWhole 655 = .ok (.istore 10, 2) := by decide +kernel
theorem dL_isWhole_657 : decode cL_isWhole 657 = .ok (.bipush 97, 2) := by decide +kernel
theorem dL_isWhole_659 : decode cL_isWhole 659 = .ok (.istore 11, 2) := by decide +kernel
theorem dL_isWhole_661 : decode cL_isWhole 661 = .ok (.iload 11, 2) := by decide +kernel
theorem dL_isWhole_663 : decode cL_isWhole 663 = .ok (.bipush 122, 2) := by decide +kernel
theorem dL_isWhole_665 : decode cL_isWhole 665 = .ok (.if_icmp .gt 28, 3) := by decide +kernel
theorem dL_isWhole_668 : decode cL_isWhole 668 = .ok (.iload 10, 2) := by decide +kernel
theorem dL_isWhole_670 : decode cL_isWhole 670 = .ok (.iconst 0, 1) := by decide +kernel
theorem dL_isWhole_671 : decode cL_isWhole 671 = .ok (.aload_n 0, 1) := by decide +kernel
theorem dL_isWhole_672 : decode cL_isWhole 672 = .ok (.iload 11, 2) := by decide +kernel
theorem dL_isWhole_674 : decode cL_isWhole 674 = .ok (.invokestatic 338, 3) := by decide +kernel
theorem dL_isWhole_677 : decode cL_isWhole 677 = .ok (.invokestatic 322, 3) := by decide +kernel
theorem dL_isWhole_680 : decode cL_isWhole 680 = .ok (.iadd, 1) := by decide +kernel
theorem dL_isWhole_681 : decode cL_isWhole 681 = .ok (.istore 10, 2) := by decide +kernel
theorem dL_isWhole_683 : decode cL_isWhole 683 = .ok (.iload 11, 2) := by decide +kernel
theorem dL_isWhole_685 : decode cL_isWhole 685 = .ok (.iconst 1, 1) := by decide +kernel
theorem dL_isWhole_686 : decode cL_isWhole 686 = .ok (.iadd, 1) := by decide +kernel
theorem dL_isWhole_687 : decode cL_isWhole 687 = .ok (.i2c, 1) := by decide +kernel
theorem dL_isWhole_688 : decode cL_isWhole 688 = .ok (.istore 11, 2) := by decide +kernel
theorem dL_isWhole_690 : decode cL_isWhole 690 = .ok (.goto (-29), 3) := by decide +kernel
theorem dL_isWhole_693 : decode cL_isWhole 693 = .ok (.aload_n 0, 1) := by decide +kernel
theorem dL_isWhole_694 : decode cL_isWhole 694 = .ok (.iconst 4, 1) := by decide +kernel
theorem dL_isWhole_695 : decode cL_isWhole 695 = .ok (.invokestatic 189, 3) := by decide +kernel
theorem dL_isWhole_698 : decode cL_isWhole 698 = .ok (.iload_n 2, 1) := by decide +kernel
theorem dL_isWhole_699 : decode cL_isWhole 699 = .ok (.if_icmp .ne 110, 3) := by decide +kernel
theorem dL_isWhole_702 : decode cL_isWhole 702 = .ok (.aload_n 0, 1) := by decide +kernel
theorem dL_isWhole_703 : decode cL_isWhole 703 = .ok (.iconst 5, 1) := by decide +kernel
theorem dL_isWhole_704 : decode cL_isWhole 704 = .ok (.invokestatic 189, 3) := by decide +kernel
theorem dL_isWhole_707 : decode cL_isWhole 707 = .ok (.iload_n 3, 1) := by decide +kernel
theorem dL_isWhole_708 : decode cL_isWhole 708 = .ok (.if_icmp .ne 101, 3) := by decide +kernel
theorem dL_isWhole_711 : decode cL_isWhole 711 = .ok (.aload_n 0, 1) := by decide +kernel
theorem dL_isWhole_712 : decode cL_isWhole 712 = .ok (.bipush 6, 2) := by decide +kernel
theorem dL_isWhole_714 : decode cL_isWhole 714 = .ok (.invokestatic 189, 3) := by decide +kernel
theorem dL_isWhole_717 : decode cL_isWhole 717 = .ok (.iload 4, 2) := by decide +kernel
theorem dL_isWhole_719 : decode cL_isWhole 719 = .ok (.if_icmp .ne 90, 3) := by decide +kernel
theorem dL_isWhole_722 : decode cL_isWhole 722 = .ok (.aload_n 0, 1) := by decide +kernel
theorem dL_isWhole_723 : decode cL_isWhole 723 = .ok (.bipush 7, 2) := by decide +kernel
theorem dL_isWhole_725 : decode cL_isWhole 725 = .ok (.invokestatic 189, 3) := by decide +kernel
theorem dL_isWhole_728 : decode cL_isWhole 728 = .ok (.iload 5, 2) := by decide +kernel
theorem dL_isWhole_730 : decode cL_isWhole 730 = .ok (.if_icmp .ne 79, 3) := by decide +kernel
theorem dL_isWhole_733 : decode cL_isWhole 733 = .ok (.aload_n 0, 1) := by decide +kernel
theorem dL_isWhole_734 : decode cL_isWhole 734 = .ok (.bipush 8, 2) := by decide +kernel
theorem dL_isWhole_736 : decode cL_isWhole 736 = .ok (.invokestatic 189, 3) := by decide +kernel
theorem dL_isWhole_739 : decode cL_isWhole 739 = .ok (.iload_n 1, 1) := by decide +kernel
theorem dL_isWhole_740 : decode cL_isWhole 740 = .ok (.if_icmp .lt 69, 3) := by decide +kernel
theorem dL_isWhole_743 : decode cL_isWhole 743 = .ok (.aload_n 0, 1) := by decide +kernel
theorem dL_isWhole_744 : decode cL_isWhole 744 = .ok (.bipush 10, 2) := by decide +kernel
theorem dL_isWhole_746 : decode cL_isWhole 746 = .ok (.invokestatic 189, 3) := by decide +kernel
theorem dL_isWhole_749 : decode cL_isWhole 749 = .ok (.aload_n 0, 1) := by decide +kernel
theorem dL_isWhole_750 : decode cL_isWhole 750 = .ok (.bipush 9, 2) := by decide +kernel
theorem dL_isWhole_752 : decode cL_isWhole 752 = .ok (.invokestatic 189, 3) := by decide +kernel
theorem dL_isWhole_755 : decode cL_isWhole 755 = .ok (.if_icmp .gt 54, 3) := by decide +kernel
theorem dL_isWhole_758 : decode cL_isWhole 758 = .ok (.aload_n 0, 1) := by decide +kernel
theorem dL_isWhole_759 : decode cL_isWhole 759 = .ok (.bipush 11, 2) := by decide +kernel
theorem dL_isWhole_761 : decode cL_isWhole 761 = .ok (.invokestatic 189, 3) := by decide +kernel
theorem dL_isWhole_764 : decode cL_isWhole 764 = .ok (.iload 5, 2) := by decide +kernel
theorem dL_isWhole_766 : decode cL_isWhole 766 = .ok (.if_icmp .lt 43, 3) := by decide +kernel
theorem dL_isWhole_769 : decode cL_isWhole 769 = .ok (.iload 10, 2) := by decide +kernel
theorem dL_isWhole_771 : decode cL_isWhole 771 = .ok (.iload 8, 2) := by decide +kernel
theorem dL_isWhole_773 : decode cL_isWhole 773 = .ok (.if_icmp .ne 36, 3) := by decide +kernel
theorem dL_isWhole_776 : decode cL_isWhole 776 = .ok (.sipush 840, 3) := by decide +kernel
theorem dL_isWhole_779 : decode cL_isWhole 779 = .ok (.aload_n 0, 1) := by decide +kernel
theorem dL_isWhole_780 : decode cL_isWhole 780 = .ok (.invokevirtual 340, 3) := by decide +kernel
theorem dL_isWhole_783 : decode cL_isWhole 783 = .ok (.imul, 1) := by decide +kernel
theorem dL_isWhole_784 : decode cL_isWhole 784 = .ok (.iload 9, 2) := by decide +kernel
theorem dL_isWhole_786 : decode cL_isWhole 786 = .ok (.if_icmp .ne 23, 3) := by decide +kernel
theorem dL_isWhole_789 : decode cL_isWhole 789 = .ok (.aload_n 0, 1) := by decide +kernel
theorem dL_isWhole_790 : decode cL_isWhole 790 = .ok (.iconst 1, 1) := by decide +kernel
theorem dL_isWhole_791 : decode cL_isWhole 791 = .ok (.invokestatic 189, 3) := by decide +kernel
theorem dL_isWhole_794 : decode cL_isWhole 794 = .ok (.bipush 6, 2) := by decide +kernel
theorem dL_isWhole_796 : decode cL_isWhole 796 = .ok (.if_icmp .gt 13, 3) := by decide +kernel
theorem dL_isWhole_799 : decode cL_isWhole 799 = .ok (.iload_n 1, 1) := by decide +kernel
theorem dL_isWhole_800 : decode cL_isWhole 800 = .ok (.bipush 8, 2) := by decide +kernel
theorem dL_isWhole_802 : decode cL_isWhole 802 = .ok (.if_icmp .gt 7, 3) := by decide +kernel
theorem dL_isWhole_805 : decode cL_isWhole 805 = .ok (.iconst 1, 1) := by decide +kernel
theorem dL_isWhole_806 : decode cL_isWhole 806 = .ok (.goto 4, 3) := by decide +kernel
theorem dL_isWhole_809 : decode cL_isWhole 809 = .ok (.iconst 0, 1) := by decide +kernel
theorem dL_isWhole_810 : decode cL_isWhole 810 = .ok (.istore 11, 2) := by decide +kernel
theorem dL_isWhole_812 : decode cL_isWhole 812 = .ok (.iload_n 1, 1) := by decide +kernel
theorem dL_isWhole_813 : decode cL_isWhole 813 = .ok (.ifCond .ne 9, 3) := by decide +kernel
theorem dL_isWhole_816 : decode cL_isWhole 816 = .ok (.ldc2_w 134, 3) := by decide +kernel
theorem dL_isWhole_819 : decode cL_isWhole 819 = .ok (.goto 11, 3) := by decide +kernel
theorem dL_isWhole_822 : decode cL_isWhole 822 = .ok (.iload 6, 2) := by decide +kernel
theorem dL_isWhole_824 : decode cL_isWhole 824 = .ok (.i2d, 1) := by decide +kernel
theorem dL_isWhole_825 : decode cL_isWhole 825 = .ok (.iconst 2, 1) := by decide +kernel
theorem dL_isWhole_826 : decode cL_isWhole 826 = .ok (.iload_n 1, 1) := by decide +kernel
theorem dL_isWhole_827 : decode cL_isWhole 827 = .ok (.imul, 1) := by decide +kernel
theorem dL_isWhole_828 : decode cL_isWhole 828 = .ok (.i2d, 1) := by decide +kernel
theorem dL_isWhole_829 : decode cL_isWhole 829 = .ok (.ddiv, 1) := by decide +kernel
theorem dL_isWhole_830 : decode cL_isWhole 830 = .ok (.dstore 12, 2) := by decide +kernel
theorem dL_isWhole_832 : decode cL_isWhole 832 = .ok (.iload 4, 2) := by decide +kernel
theorem dL_isWhole_834 : decode cL_isWhole 834 = .ok (.ifCond .ne 8, 3) := by decide +kernel
theorem dL_isWhole_837 : decode cL_isWhole 837 = .ok (.ldc 140, 2) := by decide +kernel
theorem dL_isWhole_839 : decode cL_isWhole 839 = .ok (.goto 10, 3) := by decide +kernel
theorem dL_isWhole_842 : decode cL_isWhole 842 = .ok (.iload 7, 2) := by decide +kernel
theorem dL_isWhole_844 : decode cL_isWhole 844 = .ok (.i2f, 1) := by decide +kernel
theorem dL_isWhole_845 : decode cL_isWhole 845 = .ok (.iload 4, 2) := by decide +kernel
theorem dL_isWhole_847 : decode cL_isWhole 847 = .ok (.i2f, 1) := by decide +kernel
theorem dL_isWhole_848 : decode cL_isWhole 848 = .ok (.fdiv, 1) := by decide +kernel
theorem dL_isWhole_849 : decode cL_isWhole 849 = .ok (.fstore 14, 2) := by decide +kernel
theorem dL_isWhole_851 : decode cL_isWhole 851 = .ok (.iload 11, 2) := by decide +kernel
theorem dL_isWhole_853 : decode cL_isWhole 853 = .ok (.ifCond .eq 45, 3) := by decide +kernel
theorem dL_isWhole_856 : decode cL_isWhole 856 = .ok (.aload_n 0, 1) := by decide +kernel
theorem dL_isWhole_857 : decode cL_isWhole 857 = .ok (.invokestatic 343, 3) := by decide +kernel
theorem dL_isWhole_860 : decode cL_isWhole 860 = .ok (.dload 12, 2) := by decide +kernel
theorem dL_isWhole_862 : decode cL_isWhole 862 = .ok (.dcmp .l, 1) := by decide +kernel
theorem dL_isWhole_863 : decode cL_isWhole 863 = .ok (.ifCond .ne 35, 3) := by decide +kernel
theorem dL_isWhole_866 : decode cL_isWhole 866 = .ok (.aload_n 0, 1) := by decide +kernel
theorem dL_isWhole_867 : decode cL_isWhole 867 = .ok (.invokestatic 346, 3) := by decide +kernel
theorem dL_isWhole_870 : decode cL_isWhole 870 = .ok (.fload 14, 2) := by decide +kernel
theorem dL_isWhole_872 : decode cL_isWhole 872 = .ok (.fcmp .l, 1) := by decide +kernel
theorem dL_isWhole_873 : decode cL_isWhole 873 = .ok (.ifCond .ne 25, 3) := by decide +kernel
theorem dL_isWhole_876 : decode cL_isWhole 876 = .ok (.aload_n 0, 1) := by decide +kernel
theorem dL_isWhole_877 : decode cL_isWhole 877 = .ok (.invokevirtual 349, 3) := by decide +kernel
theorem dL_isWhole_880 : decode cL_isWhole 880 = .ok (.ifCond .eq 18, 3) := by decide +kernel
theorem dL_isWhole_883 : decode cL_isWhole 883 = .ok (.aload_n 0, 1) := by decide +kernel
theorem dL_isWhole_884 : decode cL_isWhole 884 = .ok (.iconst 0, 1) := by decide +kernel
theorem dL_isWhole_885 : decode cL_isWhole 885 = .ok (.iload_n 1, 1) := by decide +kernel
theorem dL_isWhole_886 : decode cL_isWhole 886 = .ok (.invokestatic 333, 3) := by decide +kernel
theorem dL_isWhole_889 : decode cL_isWhole 889 = .ok (.bipush (-75), 2) := by decide +kernel
theorem dL_isWhole_891 : decode cL_isWhole 891 = .ok (.if_icmp .ne 7, 3) := by decide +kernel
theorem dL_isWhole_894 : decode cL_isWhole 894 = .ok (.iconst 1, 1) := by decide +kernel
theorem dL_isWhole_895 : decode cL_isWhole 895 = .ok (.goto 4, 3) := by decide +kernel
theorem dL_isWhole_898 : decode cL_isWhole 898 = .ok (.iconst 0, 1) := by decide +kernel
theorem dL_isWhole_899 : decode cL_isWhole 899 = .ok (.ireturn, 1) := by decide +kernel
theorem h9_L_isWhole : yL_isWhole.cls ≠ "java/lang/invoke/MethodHandle" ∧ yL_isWhole.cls ≠ "java/lang/invoke/VarHandle" ∧ (parseMethodDescriptor yL_isWhole.desc).map (fun d => d.parameters.length) = some 1 := by decide +kernel
noncomputable def F_L_isWhole (a0 : Nat) (w : FW) : Option (Int32 × FW) :=
  (F_L_account a0 0 w).bind (fun r1 => (fLoopB (σ := Int32 × Int32 × Int32 × Int32 × Int32 × Int32 × Int32 × Int32 × Int32 × FW) (ρ := (Int32 × Int32 × Int32 × Int32 × Int32 × Int32 × Int32 × Int32 × FW) ⊕ (Int32 × FW)) (fun s5 => (if r1 ≤ s5.2.2.2.2.2.2.2.2.1 then some (.inr (.inl (s5.1, s5.2.1, s5.2.2.1, s5.2.2.2.1, s5.2.2.2.2.1, s5.2.2.2.2.2.1, s5.2.2.2.2.2.2.1, s5.2.2.2.2.2.2.2.1, s5.2.2.2.2.2.2.2.2.2))) else (F_L_isHalf a0 s5.2.2.2.2.2.2.2.2.1 0 s5.2.2.2.2.2.2.2.2.2).bind (fun r21 => (if r21.1 = 0 then some (.inr (.inr (0, r21.2))) else (F_L_isHalf a0 s5.2.2.2.2.2.2.2.2.1 1 r21.2).bind (fun r28 => (if r28.1 = 0 then some (.inr (.inr (0, r28.2))) else (F_L_ticketOf a0 s5.2.2.2.2.2.2.2.2.1 5 r28.2).bind (fun r35 => ((if r35 = 0 then some 1 else some 0) : Option (Int32)).bind (fun x39 => (F_L_halfOf a0 s5.2.2.2.2.2.2.2.2.1 0 0 r28.2).bind (fun r44 => ((if r44 = 1 then (F_L_halfOf a0 s5.2.2.2.2.2.2.2.2.1 1 0 r28.2).bind (fun r262 => (if r262 = 1 then some 1 else some 0)) else some 0) : Option (Int32)).bind (fun x48 => (fLoopB (σ := Int32 × Int32) (ρ := Int32) (fun s53 => (F_L_ticketOf a0 s5.2.2.2.2.2.2.2.2.1 0 r28.2).bind (fun r68 => (if r68 ≤ s53.2 then some (.inr s53.1) else (if s53.1 = 0 then some (.inr s53.1) else (F_L_readAt a0 s5.2.2.2.2.2.2.2.2.1 0 s53.2 r28.2).bind (fun r74 => (F_L_readAt a0 s5.2.2.2.2.2.2.2.2.1 1 s53.2 r28.2).bind (fun r78 => (if r74 = r78 then some (.inl (1, (s53.2 + 1))) else some (.inl (0, (s53.2 + 1)))))))))) 7 (x48, 0)).bind (fun x59 => (F_L_ticketOf a0 s5.2.2.2.2.2.2.2.2.1 6 r28.2).bind (fun r83 => ((if 0 ≤ r83 then (F_L_ticketOf a0 s5.2.2.2.2.2.2.2.2.1 4 r28.2).bind (fun r249 => (F_L_account a0 2 r28.2).bind (fun r253 => (F_J9_max_7cf53 (-1) ((r249 - r253) + r83) r28.2).bind (fun r257 => some r257))) else some (-75)) : Option (Int32)).bind (fun x87 => (F_L_doAgree a0 s5.2.2.2.2.2.2.2.2.1 0 r28.2).bind (fun r92 => ((if x59 = 0 then some 0 else some 1) : Option (Int32)).bind (fun x96 => ((if r92 = x96 then (F_L_doAgree a0 s5.2.2.2.2.2.2.2.2.1 1 r28.2).bind (fun r208 => ((if x59 = 0 then some 0 else some 1) : Option (Int32)).bind (fun x212 => (if r208 = x212 then (F_L_daysLeft a0 s5.2.2.2.2.2.2.2.2.1 r28.2).bind (fun r218 => (if r218 = x87 then ((if r83 < 0 then some 0 else some 1) : Option (Int32)).bind (fun x223 => (F_L_halfOf a0 s5.2.2.2.2.2.2.2.2.1 0 6 r28.2).bind (fun r228 => ((if r228 = 1 then some 1 else some 0) : Option (Int32)).bind (fun x232 => (if x223 = x232 then (F_L_halfOf a0 s5.2.2.2.2.2.2.2.2.1 1 6 r28.2).bind (fun r238 => (if r238 = 0 then some 1 else (if r83 < 0 then some 0 else some 1))) else some 0)))) else some 0)) else some 0))) else some 0) : Option (Int32)).bind (fun x101 => ((if x39 = 0 then some 1 else (F_L_halfOf a0 s5.2.2.2.2.2.2.2.2.1 0 5 r28.2).bind (fun r188 => (F_L_halfOf a0 s5.2.2.2.2.2.2.2.2.1 1 5 r28.2).bind (fun r192 => (if r188 = r192 then (F_L_halfOf a0 s5.2.2.2.2.2.2.2.2.1 0 2 r28.2).bind (fun r197 => (if 6 ≤ r197 then some 0 else (F_L_halfOf a0 s5.2.2.2.2.2.2.2.2.1 1 2 r28.2).bind (fun r202 => (if 6 ≤ r202 then some 0 else some 1)))) else some 0)))) : Option (Int32)).bind (fun x106 => (if x101 = 0 then some (.inr (.inr (0, r28.2))) else (if x106 = 0 then some (.inr (.inr (0, r28.2))) else (F_L_line a0 s5.2.2.2.2.2.2.2.2.1 r28.2).bind (fun r113 => (if 7 ≤ r113.1 then (fLoopB (σ := Int32 × Int32 × Int32 × Int32 × Int32 × Int32) (ρ := Int32 × Int32 × Int32 × Int32 × Int32) (fun s120 => (if 2 ≤ s120.2.2.2.2.2 then some (.inr (s120.1, s120.2.1, s120.2.2.1, s120.2.2.2.1, s120.2.2.2.2.1)) else ((if s120.2.2.2.2.2 = 1 then some 1 else some 0) : Option (Int32)).bind (fun x136 => (F_L_halfOf a0 s5.2.2.2.2.2.2.2.2.1 x136 5 r113.2).bind (fun r141 => (F_L_halfOf a0 s5.2.2.2.2.2.2.2.2.1 x136 0 r113.2).bind (fun r145 => (F_L_halfOf a0 s5.2.2.2.2.2.2.2.2.1 x136 4 r113.2).bind (fun r149 => (F_L_halfOf a0 s5.2.2.2.2.2.2.2.2.1 x136 2 r113.2).bind (fun r153 => (F_L_halfOf a0 s5.2.2.2.2.2.2.2.2.1 x136 0 r113.2).bind (fun r157 => (if r157 = 1 then (F_L_halfOf a0 s5.2.2.2.2.2.2.2.2.1 x136 7 r113.2).bind (fun r162 => (F_L_ticketOf a0 s5.2.2.2.2.2.2.2.2.1 0 r113.2).bind (fun r166 => (if r162 = r166 then some (.inl ((s120.1 + r141), (s120.2.1 + r145), (s120.2.2.1 + r149), (s120.2.2.2.1 + r153), (s120.2.2.2.2.1 + 1), (s120.2.2.2.2.2 + 1))) else some (.inl ((s120.1 + r141), (s120.2.1 + r145), (s120.2.2.1 + r149), (s120.2.2.2.1 + r153), (s120.2.2.2.2.1 + 0), (s120.2.2.2.2.2 + 1)))))) else some (.inl ((s120.1 + r141), (s120.2.1 + r145), (s120.2.2.1 + r149), (s120.2.2.2.1 + r153), (s120.2.2.2.2.1 + 0), (s120.2.2.2.2.2 + 1)))))))))))) 3 (s5.2.1, s5.2.2.1, s5.2.2.2.1, s5.2.2.2.2.1, s5.2.2.2.2.2.1, 0)).bind (fun x126 => ((if x39 = 0 then some 1 else some 0) : Option (Int32)).bind (fun x172 => (F_L_ticketOf a0 s5.2.2.2.2.2.2.2.2.1 0 r113.2).bind (fun r177 => (F_L_sharing a0 s5.2.2.2.2.2.2.2.2.1 r113.2).bind (fun r181 => fg (¬ r181 = 0) inferInstance (some (.inl ((s5.1 + x172), x126.1, x126.2.1, x126.2.2.1, x126.2.2.2.1, x126.2.2.2.2, (s5.2.2.2.2.2.2.1 + r177), (s5.2.2.2.2.2.2.2.1 + (840 / r181)), (s5.2.2.2.2.2.2.2.2.1 + 1), r113.2))))))) else some (.inr (.inr (0, r113.2)))))))))))))))))))))))) 9 (0, 0, 0, 0, 0, 0, 0, 0, 0, w)).bind (fun x11 => fse x11 (fun z268 => (fLoopB (σ := Int32) (ρ := (Unit) ⊕ (Int32 × FW)) (fun s269 => (if 3 ≤ s269 then some (.inr (.inl ())) else (fLoopB (σ := Int32) (ρ := (Unit) ⊕ (Int32 × FW)) (fun s285 => (if r1 ≤ s285 then some (.inr (.inl ())) else (F_L_ranked a0 s269 (s285 - 1) z268.2.2.2.2.2.2.2.2).bind (fun r301 => (F_L_ranked a0 s269 s285 z268.2.2.2.2.2.2.2.2).bind (fun r305 => (F_L_measure a0 s269 r301 z268.2.2.2.2.2.2.2.2).bind (fun r309 => (F_L_measure a0 s269 r305 z268.2.2.2.2.2.2.2.2).bind (fun r313 => (if (r309 - r313) < 0 then some (.inr (.inr (0, z268.2.2.2.2.2.2.2.2))) else (if (r309 - r313) = 0 then (if r301 ≤ r305 then some (.inl (s285 + 1)) else some (.inr (.inr (0, z268.2.2.2.2.2.2.2.2)))) else some (.inl (s285 + 1)))))))))) 9 1).bind (fun x291 => fse x291 (fun z320 => some (.inl (s269 + 1))) (fun q9 => some (.inr (.inr q9)))))) 4 0).bind (fun x275 => fse x275 (fun z321 => (fLoopB (σ := Int32 × Int32) (ρ := Int32) (fun s322 => (if 122 < s322.2 then some (.inr s322.1) else (F_L_often a0 s322.2 z268.2.2.2.2.2.2.2.2).bind (fun r338 => (F_J9_max_7cf53 0 r338 z268.2.2.2.2.2.2.2.2).bind (fun r342 => some (.inl ((s322.1 + r342), (fch (s322.2 + 1)))))))) 27 (0, 97)).bind (fun x328 => (F_L_account a0 4 z268.2.2.2.2.2.2.2.2).bind (fun r346 => ((if r346 = z268.1 then (F_L_account a0 5 z268.2.2.2.2.2.2.2.2).bind (fun r392 => (if r392 = z268.2.1 then (F_L_account a0 6 z268.2.2.2.2.2.2.2.2).bind (fun r397 => (if r397 = z268.2.2.1 then (F_L_account a0 7 z268.2.2.2.2.2.2.2.2).bind (fun r402 => (if r402 = z268.2.2.2.1 then (F_L_account a0 8 z268.2.2.2.2.2.2.2.2).bind (fun r407 => (if r407 < r1 then some 0 else (F_L_account a0 10 z268.2.2.2.2.2.2.2.2).bind (fun r412 => (F_L_account a0 9 z268.2.2.2.2.2.2.2.2).bind (fun r416 => (if r416 < r412 then some 0 else (F_L_account a0 11 z268.2.2.2.2.2.2.2.2).bind (fun r421 => (if r421 < z268.2.2.2.1 then some 0 else (if x328 = z268.2.2.2.2.2.2.1 then fg (w.1 a0 = 5) inferInstance ((F_X4_words a0 z268.2.2.2.2.2.2.2.2).bind (fun r427 => (if (840 * r427) = z268.2.2.2.2.2.2.2.1 then (F_L_account a0 1 z268.2.2.2.2.2.2.2.2).bind (fun r433 => (if 6 < r433 then some 0 else (if 8 < r1 then some 0 else some 1))) else some 0))) else some 0)))))))) else some 0)) else some 0)) else some 0)) else some 0) : Option (Int32)).bind (fun x350 => ((if r1 = 0 then some (13858279740860792832 : UInt64) else fg ((FP.ddiv (FP.i2d z268.2.2.2.2.1) (FP.i2d (2 * r1))) &&& 0x7fffffffffffffff ≤ 0x7ff0000000000000) inferInstance (some (FP.ddiv (FP.i2d z268.2.2.2.2.1) (FP.i2d (2 * r1))))) : Option (UInt64)).bind (fun x355 => ((if z268.2.2.1 = 0 then some (3264479232 : UInt32) else fg ((FP.fdiv (FP.i2f z268.2.2.2.2.2.1) (FP.i2f z268.2.2.1)) &&& 0x7fffffff ≤ 0x7f800000) inferInstance (some (FP.fdiv (FP.i2f z268.2.2.2.2.2.1) (FP.i2f z268.2.2.1)))) : Option (UInt32)).bind (fun x360 => (if x350 = 0 then some (0, z268.2.2.2.2.2.2.2.2) else (F_L_meanWet a0 z268.2.2.2.2.2.2.2.2).bind (fun r366 => (if (Op.cmpValue (FP.dcmp r366 x355) .l) = 0 then (F_L_readShare a0 z268.2.2.2.2.2.2.2.2).bind (fun r371 => (if (Op.cmpValue (FP.fcmp r371 x360) .l) = 0 then fg (w.1 a0 = 5) inferInstance ((F_X4_isRight a0 z268.2.2.2.2.2.2.2.2).bind (fun r376 => (if r376 = 0 then some (0, z268.2.2.2.2.2.2.2.2) else (F_L_ranked a0 0 r1 z268.2.2.2.2.2.2.2.2).bind (fun r382 => (if r382 = (-75) then some (1, z268.2.2.2.2.2.2.2.2) else some (0, z268.2.2.2.2.2.2.2.2)))))) else some (0, z268.2.2.2.2.2.2.2.2))) else some (0, z268.2.2.2.2.2.2.2.2)))))))))) (fun q9 => some q9))) (fun q9 => some q9)))
set_option maxHeartbeats 4000000 in
set_option maxRecDepth 100000 in
theorem c_L_isWhole (l : Launch) (D : va_G) (cy : Nat → ClassId) (a0 : Nat) (w : FW) (r : Int32 × FW) (hF : F_L_isWhole a0 w = some r) : lSpec l D cy yL_isWhole (.code yL_isWhole cL_isWhole 20 (some .boolean)) { frames := 10, cells := 2731, slots := 16386, locals := 243 } [.ref a0] gE0 none w r.2 (some (.int r.1)) := by
  refine l_begin (by decide +kernel) (Nat.le_of_ble_eq_true rfl) (fun X h hC hEn hL => ?_)
  unfold F_L_isWhole at hF
  show gAt X 0 0 20 w h gE0 [(0, .ref a0)] [] 0
  refine g_aload_n hC dL_isWhole_0 rfl 0 rfl ?_
  refine g_iconst (v := 0) hC dL_isWhole_1 (by decide) ?_
  obtain ⟨r1, h2, hF⟩ := fb_open hF
  refine g_callLWk hC hL [.ref a0, .int 0] (c_L_account l D cy a0 0 w r1 h2) (Or.inl rfl) (fun _ _ h => nomatch h) q_597 q_72 q_595 q_596 h9_L_account ⟨Nat.le_of_ble_eq_true rfl, Nat.le_of_ble_eq_true rfl⟩ 1 6 rfl rfl ⟨Nat.le_of_ble_eq_true rfl, Nat.le_of_ble_eq_true rfl⟩ (Nat.le_of_ble_eq_true rfl) rfl dL_isWhole_2 (fun z4 _ e3 => ?_)
  show gAt X 1 6 20 w z4 gE0 [(0, .ref a0)] [.int r1] 5
  refine g_istore_n (L' := [(1, .int r1), (0, .ref a0)]) hC dL_isWhole_5 rfl (by decide) rfl ?_
  refine g_iconst (v := 0) hC dL_isWhole_6 (by decide) ?_
  refine g_istore_n (L' := [(2, .int 0), (1, .int r1), (0, .ref a0)]) hC dL_isWhole_7 rfl (by decide) rfl ?_
  refine g_iconst (v := 0) hC dL_isWhole_8 (by decide) ?_
  refine g_istore_n (L' := [(3, .int 0), (2, .int 0), (1, .int r1), (0, .ref a0)]) hC dL_isWhole_9 rfl (by decide) rfl ?_
  refine g_iconst (v := 0) hC dL_isWhole_10 (by decide) ?_
  refine g_istore (L' := [(4, .int 0), (3, .int 0), (2, .int 0), (1, .int r1), (0, .ref a0)]) hC dL_isWhole_11 (by decide) rfl ?_
  refine g_iconst (v := 0) hC dL_isWhole_13 (by decide) ?_
  refine g_istore (L' := [(5, .int 0), (4, .int 0), (3, .int 0), (2, .int 0), (1, .int r1), (0, .ref a0)]) hC dL_isWhole_14 (by decide) rfl ?_
  refine g_iconst (v := 0) hC dL_isWhole_16 (by decide) ?_
  refine g_istore (L' := [(6, .int 0), (5, .int 0), (4, .int 0), (3, .int 0), (2, .int 0), (1, .int r1), (0, .ref a0)]) hC dL_isWhole_17 (by decide) rfl ?_
  refine g_iconst (v := 0) hC dL_isWhole_19 (by decide) ?_
  refine g_istore (L' := [(7, .int 0), (6, .int 0), (5, .int 0), (4, .int 0), (3, .int 0), (2, .int 0), (1, .int r1), (0, .ref a0)]) hC dL_isWhole_20 (by decide) rfl ?_
  refine g_iconst (v := 0) hC dL_isWhole_22 (by decide) ?_
  refine g_istore (L' := [(8, .int 0), (7, .int 0), (6, .int 0), (5, .int 0), (4, .int 0), (3, .int 0), (2, .int 0), (1, .int r1), (0, .ref a0)]) hC dL_isWhole_23 (by decide) rfl ?_
  refine g_iconst (v := 0) hC dL_isWhole_25 (by decide) ?_
  refine g_istore (L' := [(9, .int 0), (8, .int 0), (7, .int 0), (6, .int 0), (5, .int 0), (4, .int 0), (3, .int 0), (2, .int 0), (1, .int r1), (0, .ref a0)]) hC dL_isWhole_26 (by decide) rfl ?_
  refine g_iconst (v := 0) hC dL_isWhole_28 (by decide) ?_
  refine g_istore (L' := [(10, .int 0), (9, .int 0), (8, .int 0), (7, .int 0), (6, .int 0), (5, .int 0), (4, .int 0), (3, .int 0), (2, .int 0), (1, .int r1), (0, .ref a0)]) hC dL_isWhole_29 (by decide) rfl ?_
  obtain ⟨x11, h12, hF⟩ := fb_open hF
  have K13 : ∀ z268, x11 = .inl z268 → ∀ z17, fSm z268.2.2.2.2.2.2.2.2 w → gAt X 2332 13992 20 z268.2.2.2.2.2.2.2.2 z17 gE0 [(0, .ref a0), (1, .int r1), (2, .int z268.1), (3, .int z268.2.1), (4, .int z268.2.2.1), (5, .int z268.2.2.2.1), (6, .int z268.2.2.2.2.1), (7, .int z268.2.2.2.2.2.1), (8, .int z268.2.2.2.2.2.2.1), (9, .int z268.2.2.2.2.2.2.2.1)] [] 564 := by
    intro z268 hz9 z17 p9
    subst hz9
    refine g_iconst (v := 0) hC dL_isWhole_564 (by decide) ?_
    refine g_istore (L' := [(10, .int 0), (0, .ref a0), (1, .int r1), (2, .int z268.1), (3, .int z268.2.1), (4, .int z268.2.2.1), (5, .int z268.2.2.2.1), (6, .int z268.2.2.2.2.1), (7, .int z268.2.2.2.2.2.1), (8, .int z268.2.2.2.2.2.2.1), (9, .int z268.2.2.2.2.2.2.2.1)]) hC dL_isWhole_565 (by decide) rfl ?_
    obtain ⟨x275, h276, hF⟩ := fb_open hF
    have K277 : ∀ z321, x275 = .inl z321 → ∀ z281, gAt X 2692 16152 20 z268.2.2.2.2.2.2.2.2 z281 gE0 [(0, .ref a0), (1, .int r1), (2, .int z268.1), (3, .int z268.2.1), (4, .int z268.2.2.1), (5, .int z268.2.2.2.1), (6, .int z268.2.2.2.2.1), (7, .int z268.2.2.2.2.2.1), (8, .int z268.2.2.2.2.2.2.1), (9, .int z268.2.2.2.2.2.2.2.1)] [] 654 := by
      intro z321 hz9 z281
      subst hz9
      refine g_iconst (v := 0) hC dL_isWhole_654 (by decide) ?_
      refine g_istore (L' := [(10, .int 0), (0, .ref a0), (1, .int r1), (2, .int z268.1), (3, .int z268.2.1), (4, .int z268.2.2.1), (5, .int z268.2.2.2.1), (6, .int z268.2.2.2.2.1), (7, .int z268.2.2.2.2.2.1), (8, .int z268.2.2.2.2.2.2.1), (9, .int z268.2.2.2.2.2.2.2.1)]) hC dL_isWhole_655 (by decide) rfl ?_
      refine g_bipush (v := 97) hC dL_isWhole_657 (by decide) ?_
      refine g_istore (L' := [(11, .int 97), (10, .int 0), (0, .ref a0), (1, .int r1), (2, .int z268.1), (3, .int z268.2.1), (4, .int z268.2.2.1), (5, .int z268.2.2.2.1), (6, .int z268.2.2.2.2.1), (7, .int z268.2.2.2.2.2.1), (8, .int z268.2.2.2.2.2.2.1), (9, .int z268.2.2.2.2.2.2.2.1)]) hC dL_isWhole_659 (by decide) rfl ?_
      obtain ⟨x328, h329, hF⟩ := fb_open hF
      have K330 : ∀ z334, gAt X 2719 16314 20 z268.2.2.2.2.2.2.2.2 z334 gE0 [(0, .ref a0), (1, .int r1), (2, .int z268.1), (3, .int z268.2.1), (4, .int z268.2.2.1), (5, .int z268.2.2.2.1), (6, .int z268.2.2.2.2.1), (7, .int z268.2.2.2.2.2.1), (8, .int z268.2.2.2.2.2.2.1), (9, .int z268.2.2.2.2.2.2.2.1), (10, .int x328)] [] 693 := by
        intro z334
        refine g_aload_n hC dL_isWhole_693 rfl 0 rfl ?_
        refine g_iconst (v := 4) hC dL_isWhole_694 (by decide) ?_
        obtain ⟨r346, h347, hF⟩ := fb_open hF
        refine g_callLWk hC hL [.ref a0, .int 4] (c_L_account l D cy a0 4 z268.2.2.2.2.2.2.2.2 r346 h347) (Or.inl rfl) (fun _ _ h => nomatch h) q_597 q_72 q_595 q_596 h9_L_account ⟨Nat.le_of_ble_eq_true rfl, Nat.le_of_ble_eq_true rfl⟩ 1 6 rfl rfl ⟨Nat.le_of_ble_eq_true rfl, Nat.le_of_ble_eq_true rfl⟩ (Nat.le_of_ble_eq_true rfl) rfl dL_isWhole_695 (fun z349 _ e348 => ?_)
        show gAt X 2720 16320 20 z268.2.2.2.2.2.2.2.2 z349 gE0 [(0, .ref a0), (1, .int r1), (2, .int z268.1), (3, .int z268.2.1), (4, .int z268.2.2.1), (5, .int z268.2.2.2.1), (6, .int z268.2.2.2.2.1), (7, .int z268.2.2.2.2.2.1), (8, .int z268.2.2.2.2.2.2.1), (9, .int z268.2.2.2.2.2.2.2.1), (10, .int x328)] [.int r346] 698
        refine g_iload_n hC dL_isWhole_698 rfl 2 rfl ?_
        obtain ⟨x350, h351, hF⟩ := fb_open hF
        have K353 : ∀ z354, gAt X 2728 16368 20 z268.2.2.2.2.2.2.2.2 z354 gE0 [(0, .ref a0), (1, .int r1), (4, .int z268.2.2.1), (6, .int z268.2.2.2.2.1), (7, .int z268.2.2.2.2.2.1)] [.int x350] 810 := by
          intro z354
          refine g_istore (L' := [(11, .int x350), (0, .ref a0), (1, .int r1), (4, .int z268.2.2.1), (6, .int z268.2.2.2.2.1), (7, .int z268.2.2.2.2.2.1)]) hC dL_isWhole_810 (by decide) rfl ?_
          refine g_iload_n hC dL_isWhole_812 rfl 2 rfl ?_
          obtain ⟨x355, h356, hF⟩ := fb_open hF
          have K358 : ∀ z359, gAt X 2728 16368 20 z268.2.2.2.2.2.2.2.2 z359 gE0 [(0, .ref a0), (1, .int r1), (4, .int z268.2.2.1), (7, .int z268.2.2.2.2.2.1), (11, .int x350)] [.double x355] 830 := by
            intro z359
            refine g_dstore (L' := [(12, .double x355), (0, .ref a0), (1, .int r1), (4, .int z268.2.2.1), (7, .int z268.2.2.2.2.2.1), (11, .int x350)]) hC dL_isWhole_830 (by decide) rfl ?_
            refine g_iload hC dL_isWhole_832 3 rfl ?_
            obtain ⟨x360, h361, hF⟩ := fb_open hF
            have K363 : ∀ z364, gAt X 2728 16368 20 z268.2.2.2.2.2.2.2.2 z364 gE0 [(0, .ref a0), (1, .int r1), (11, .int x350), (12, .double x355)] [.float x360] 849 := by
              intro z364
              refine g_fstore (L' := [(14, .float x360), (0, .ref a0), (1, .int r1), (11, .int x350), (12, .double x355)]) hC dL_isWhole_849 (by decide) rfl ?_
              refine g_iload hC dL_isWhole_851 3 rfl ?_
              refine g_if_eq hC 898 dL_isWhole_853 (by decide) (fun c365 => ?_) (fun c365 => ?_)
              · replace hF := fi_pos hF c365
                refine g_iconst (v := 0) hC dL_isWhole_898 (by decide) ?_
                obtain rfl := Option.some.inj hF
                refine g_widen (k' := 2731) (s' := 16386) (by omega) (by omega) ?_
                exact g_zret hC hEn p9 (nar_z (by decide)) dL_isWhole_899
              · replace hF := fi_neg hF c365
                refine g_aload_n hC dL_isWhole_856 rfl 1 rfl ?_
                obtain ⟨r366, h367, hF⟩ := fb_open hF
                refine g_callLWk hC hL [.ref a0] (c_L_meanWet l D cy a0 z268.2.2.2.2.2.2.2.2 r366 h367) (Or.inl rfl) (fun _ _ h => nomatch h) q_1363 q_72 q_1361 q_1362 h9_L_meanWet ⟨Nat.le_of_ble_eq_true rfl, Nat.le_of_ble_eq_true rfl⟩ 1 6 rfl rfl ⟨Nat.le_of_ble_eq_true rfl, Nat.le_of_ble_eq_true rfl⟩ (Nat.le_of_ble_eq_true rfl) rfl dL_isWhole_857 (fun z369 _ e368 => ?_)
                show gAt X 2729 16374 20 z268.2.2.2.2.2.2.2.2 z369 gE0 [(14, .float x360), (0, .ref a0), (1, .int r1), (11, .int x350), (12, .double x355)] [.double r366] 860
                refine g_dload hC dL_isWhole_860 4 rfl ?_
                refine g_dcmp hC dL_isWhole_862 ?_
                refine g_if_ne hC 898 dL_isWhole_863 (by decide) (fun c370 => ?_) (fun c370 => ?_)
                · replace hF := fi_neg hF c370
                  refine g_iconst (v := 0) hC dL_isWhole_898 (by decide) ?_
                  obtain rfl := Option.some.inj hF
                  refine g_widen (k' := 2731) (s' := 16386) (by omega) (by omega) ?_
                  exact g_zret hC hEn p9 (nar_z (by decide)) dL_isWhole_899
                · replace hF := fi_pos hF c370
                  refine g_aload_n hC dL_isWhole_866 rfl 1 rfl ?_
                  obtain ⟨r371, h372, hF⟩ := fb_open hF
                  refine g_callLWk hC hL [.ref a0] (c_L_readShare l D cy a0 z268.2.2.2.2.2.2.2.2 r371 h372) (Or.inl rfl) (fun _ _ h => nomatch h) q_1388 q_72 q_1386 q_1387 h9_L_readShare ⟨Nat.le_of_ble_eq_true rfl, Nat.le_of_ble_eq_true rfl⟩ 1 6 rfl rfl ⟨Nat.le_of_ble_eq_true rfl, Nat.le_of_ble_eq_true rfl⟩ (Nat.le_of_ble_eq_true rfl) rfl dL_isWhole_867 (fun z374 _ e373 => ?_)
                  show gAt X 2730 16380 20 z268.2.2.2.2.2.2.2.2 z374 gE0 [(14, .float x360), (0, .ref a0), (1, .int r1), (11, .int x350), (12, .double x355)] [.float r371] 870
                  refine g_fload hC dL_isWhole_870 0 rfl ?_
                  refine g_fcmp hC dL_isWhole_872 ?_
                  refine g_if_ne hC 898 dL_isWhole_873 (by decide) (fun c375 => ?_) (fun c375 => ?_)
                  · replace hF := fi_neg hF c375
                    refine g_iconst (v := 0) hC dL_isWhole_898 (by decide) ?_
                    obtain rfl := Option.some.inj hF
                    refine g_widen (k' := 2731) (s' := 16386) (by omega) (by omega) ?_
                    exact g_zret hC hEn p9 (nar_z (by decide)) dL_isWhole_899
                  · replace hF := fi_pos hF c375
                    refine g_aload_n hC dL_isWhole_876 rfl 1 rfl ?_
                    obtain ⟨g380, hF⟩ := fg_open hF
                    obtain ⟨r376, h377, hF⟩ := fb_open hF
                    refine g_callVk hC [] (c_X4_isRight l D cy a0 z268.2.2.2.2.2.2.2.2 r376 h377) q_1406 q_73 q_1403 q_1404 q_1405 h9_X4_isRight (T := TX4) (N := 15) (ci := 4) rfl (fSm.k p9 g380) ⟨Nat.le_of_ble_eq_true rfl, Nat.le_of_ble_eq_true rfl⟩ 0 0 rfl rfl ⟨Nat.le_of_ble_eq_true rfl, Nat.le_of_ble_eq_true rfl⟩ (Nat.le_of_ble_eq_true rfl) rfl dL_isWhole_877 (fun z379 _ e378 => ?_)
                    show gAt X 2730 16380 20 z268.2.2.2.2.2.2.2.2 z379 gE0 [(14, .float x360), (0, .ref a0), (1, .int r1), (11, .int x350), (12, .double x355)] [.int r376] 880
                    refine g_if_eq hC 898 dL_isWhole_880 (by decide) (fun c381 => ?_) (fun c381 => ?_)
                    · replace hF := fi_pos hF c381
                      refine g_iconst (v := 0) hC dL_isWhole_898 (by decide) ?_
                      obtain rfl := Option.some.inj hF
                      refine g_widen (k' := 2731) (s' := 16386) (by omega) (by omega) ?_
                      exact g_zret hC hEn p9 (nar_z (by decide)) dL_isWhole_899
                    · replace hF := fi_neg hF c381
                      refine g_aload_n hC dL_isWhole_883 rfl 1 rfl ?_
                      refine g_iconst (v := 0) hC dL_isWhole_884 (by decide) ?_
                      refine g_iload_n hC dL_isWhole_885 rfl 2 rfl ?_
                      obtain ⟨r382, h383, hF⟩ := fb_open hF
                      refine g_callLWk hC hL [.ref a0, .int 0, .int r1] (c_L_ranked l D cy a0 0 r1 z268.2.2.2.2.2.2.2.2 r382 h383) (Or.inl rfl) (fun _ _ h => nomatch h) q_1315 q_72 q_1313 q_1314 h9_L_ranked ⟨Nat.le_of_ble_eq_true rfl, Nat.le_of_ble_eq_true rfl⟩ 1 6 rfl rfl ⟨Nat.le_of_ble_eq_true rfl, Nat.le_of_ble_eq_true rfl⟩ (Nat.le_of_ble_eq_true rfl) rfl dL_isWhole_886 (fun z385 _ e384 => ?_)
                      show gAt X 2731 16386 20 z268.2.2.2.2.2.2.2.2 z385 gE0 [(14, .float x360), (0, .ref a0), (1, .int r1), (11, .int x350), (12, .double x355)] [.int r382] 889
                      refine g_bipush (v := (-75)) hC dL_isWhole_889 (by decide) ?_
                      refine g_icmp_ne hC 898 dL_isWhole_891 (by decide) (fun c386 => ?_) (fun c386 => ?_)
                      · replace hF := fi_neg hF c386
                        refine g_iconst (v := 0) hC dL_isWhole_898 (by decide) ?_
                        obtain rfl := Option.some.inj hF
                        refine g_widen (k' := 2731) (s' := 16386) (by omega) (by omega) ?_
                        exact g_zret hC hEn p9 (nar_z (by decide)) dL_isWhole_899
                      · replace hF := fi_pos hF c386
                        refine g_iconst (v := 1) hC dL_isWhole_894 (by decide) ?_
                        refine g_goto hC 899 dL_isWhole_895 (by decide) ?_
                        obtain rfl := Option.some.inj hF
                        refine g_widen (k' := 2731) (s' := 16386) (by omega) (by omega) ?_
                        exact g_zret hC hEn p9 (nar_z (by decide)) dL_isWhole_899
            refine g_if_ne hC 842 dL_isWhole_834 (by decide) (fun c387 => ?_) (fun c387 => ?_)
            · replace h361 := fi_neg h361 c387
              refine g_iload hC dL_isWhole_842 4 rfl ?_
              refine g_i2f hC dL_isWhole_844 ?_
              refine g_iload hC dL_isWhole_845 3 rfl ?_
              refine g_i2f hC dL_isWhole_847 ?_
              obtain ⟨g388, h361⟩ := fg_open h361
              refine g_fdiv hC dL_isWhole_848 g388 ?_
              obtain rfl := Option.some.inj h361
              refine g_sub (L' := [(0, .ref a0), (1, .int r1), (11, .int x350), (12, .double x355)]) [1, 2, 5, 0] rfl ?_
              exact K363 _
            · replace h361 := fi_pos h361 c387
              refine g_ldcF hC q_1360 dL_isWhole_837 ?_
              refine g_goto hC 849 dL_isWhole_839 (by decide) ?_
              obtain rfl := Option.some.inj h361
              refine g_sub (L' := [(0, .ref a0), (1, .int r1), (11, .int x350), (12, .double x355)]) [1, 2, 5, 0] rfl ?_
              exact K363 _
          refine g_if_ne hC 822 dL_isWhole_813 (by decide) (fun c389 => ?_) (fun c389 => ?_)
          · replace h356 := fi_neg h356 c389
            refine g_iload hC dL_isWhole_822 4 rfl ?_
            refine g_i2d hC dL_isWhole_824 ?_
            refine g_iconst (v := 2) hC dL_isWhole_825 (by decide) ?_
            refine g_iload_n hC dL_isWhole_826 rfl 2 rfl ?_
            refine g_imul hC dL_isWhole_827 ?_
            refine g_i2d hC dL_isWhole_828 ?_
            obtain ⟨g390, h356⟩ := fg_open h356
            refine g_ddiv hC dL_isWhole_829 g390 ?_
            obtain rfl := Option.some.inj h356
            refine g_sub (L' := [(0, .ref a0), (1, .int r1), (4, .int z268.2.2.1), (7, .int z268.2.2.2.2.2.1), (11, .int x350)]) [1, 2, 3, 5, 0] rfl ?_
            exact K358 _
          · replace h356 := fi_pos h356 c389
            refine g_ldc2d hC q_1359 dL_isWhole_816 ?_
            refine g_goto hC 830 dL_isWhole_819 (by decide) ?_
            obtain rfl := Option.some.inj h356
            refine g_sub (L' := [(0, .ref a0), (1, .int r1), (4, .int z268.2.2.1), (7, .int z268.2.2.2.2.2.1), (11, .int x350)]) [1, 2, 3, 5, 0] rfl ?_
            exact K358 _
        refine g_icmp_ne hC 809 dL_isWhole_699 (by decide) (fun c391 => ?_) (fun c391 => ?_)
        · replace h351 := fi_neg h351 c391
          refine g_iconst (v := 0) hC dL_isWhole_809 (by decide) ?_
          obtain rfl := Option.some.inj h351
          refine g_sub (L' := [(0, .ref a0), (1, .int r1), (4, .int z268.2.2.1), (6, .int z268.2.2.2.2.1), (7, .int z268.2.2.2.2.2.1)]) [0, 1, 4, 6, 7] rfl ?_
          refine g_widen (k' := 2728) (s' := 16368) (by omega) (by omega) ?_
          exact K353 _
        · replace h351 := fi_pos h351 c391
          refine g_aload_n hC dL_isWhole_702 rfl 0 rfl ?_
          refine g_iconst (v := 5) hC dL_isWhole_703 (by decide) ?_
          obtain ⟨r392, h393, h351⟩ := fb_open h351
          refine g_callLWk hC hL [.ref a0, .int 5] (c_L_account l D cy a0 5 z268.2.2.2.2.2.2.2.2 r392 h393) (Or.inl rfl) (fun _ _ h => nomatch h) q_597 q_72 q_595 q_596 h9_L_account ⟨Nat.le_of_ble_eq_true rfl, Nat.le_of_ble_eq_true rfl⟩ 1 6 rfl rfl ⟨Nat.le_of_ble_eq_true rfl, Nat.le_of_ble_eq_true rfl⟩ (Nat.le_of_ble_eq_true rfl) rfl dL_isWhole_704 (fun z395 _ e394 => ?_)
          show gAt X 2721 16326 20 z268.2.2.2.2.2.2.2.2 z395 gE0 [(0, .ref a0), (1, .int r1), (2, .int z268.1), (3, .int z268.2.1), (4, .int z268.2.2.1), (5, .int z268.2.2.2.1), (6, .int z268.2.2.2.2.1), (7, .int z268.2.2.2.2.2.1), (8, .int z268.2.2.2.2.2.2.1), (9, .int z268.2.2.2.2.2.2.2.1), (10, .int x328)] [.int r392] 707
          refine g_iload_n hC dL_isWhole_707 rfl 3 rfl ?_
          refine g_icmp_ne hC 809 dL_isWhole_708 (by decide) (fun c396 => ?_) (fun c396 => ?_)
          · replace h351 := fi_neg h351 c396
            refine g_iconst (v := 0) hC dL_isWhole_809 (by decide) ?_
            obtain rfl := Option.some.inj h351
            refine g_sub (L' := [(0, .ref a0), (1, .int r1), (4, .int z268.2.2.1), (6, .int z268.2.2.2.2.1), (7, .int z268.2.2.2.2.2.1)]) [0, 1, 4, 6, 7] rfl ?_
            refine g_widen (k' := 2728) (s' := 16368) (by omega) (by omega) ?_
            exact K353 _
          · replace h351 := fi_pos h351 c396
            refine g_aload_n hC dL_isWhole_711 rfl 0 rfl ?_
            refine g_bipush (v := 6) hC dL_isWhole_712 (by decide) ?_
            obtain ⟨r397, h398, h351⟩ := fb_open h351
            refine g_callLWk hC hL [.ref a0, .int 6] (c_L_account l D cy a0 6 z268.2.2.2.2.2.2.2.2 r397 h398) (Or.inl rfl) (fun _ _ h => nomatch h) q_597 q_72 q_595 q_596 h9_L_account ⟨Nat.le_of_ble_eq_true rfl, Nat.le_of_ble_eq_true rfl⟩ 1 6 rfl rfl ⟨Nat.le_of_ble_eq_true rfl, Nat.le_of_ble_eq_true rfl⟩ (Nat.le_of_ble_eq_true rfl) rfl dL_isWhole_714 (fun z400 _ e399 => ?_)
            show gAt X 2722 16332 20 z268.2.2.2.2.2.2.2.2 z400 gE0 [(0, .ref a0), (1, .int r1), (2, .int z268.1), (3, .int z268.2.1), (4, .int z268.2.2.1), (5, .int z268.2.2.2.1), (6, .int z268.2.2.2.2.1), (7, .int z268.2.2.2.2.2.1), (8, .int z268.2.2.2.2.2.2.1), (9, .int z268.2.2.2.2.2.2.2.1), (10, .int x328)] [.int r397] 717
            refine g_iload hC dL_isWhole_717 4 rfl ?_
            refine g_icmp_ne hC 809 dL_isWhole_719 (by decide) (fun c401 => ?_) (fun c401 => ?_)
            · replace h351 := fi_neg h351 c401
              refine g_iconst (v := 0) hC dL_isWhole_809 (by decide) ?_
              obtain rfl := Option.some.inj h351
              refine g_sub (L' := [(0, .ref a0), (1, .int r1), (4, .int z268.2.2.1), (6, .int z268.2.2.2.2.1), (7, .int z268.2.2.2.2.2.1)]) [0, 1, 4, 6, 7] rfl ?_
              refine g_widen (k' := 2728) (s' := 16368) (by omega) (by omega) ?_
              exact K353 _
            · replace h351 := fi_pos h351 c401
              refine g_aload_n hC dL_isWhole_722 rfl 0 rfl ?_
              refine g_bipush (v := 7) hC dL_isWhole_723 (by decide) ?_
              obtain ⟨r402, h403, h351⟩ := fb_open h351
              refine g_callLWk hC hL [.ref a0, .int 7] (c_L_account l D cy a0 7 z268.2.2.2.2.2.2.2.2 r402 h403) (Or.inl rfl) (fun _ _ h => nomatch h) q_597 q_72 q_595 q_596 h9_L_account ⟨Nat.le_of_ble_eq_true rfl, Nat.le_of_ble_eq_true rfl⟩ 1 6 rfl rfl ⟨Nat.le_of_ble_eq_true rfl, Nat.le_of_ble_eq_true rfl⟩ (Nat.le_of_ble_eq_true rfl) rfl dL_isWhole_725 (fun z405 _ e404 => ?_)
              show gAt X 2723 16338 20 z268.2.2.2.2.2.2.2.2 z405 gE0 [(0, .ref a0), (1, .int r1), (2, .int z268.1), (3, .int z268.2.1), (4, .int z268.2.2.1), (5, .int z268.2.2.2.1), (6, .int z268.2.2.2.2.1), (7, .int z268.2.2.2.2.2.1), (8, .int z268.2.2.2.2.2.2.1), (9, .int z268.2.2.2.2.2.2.2.1), (10, .int x328)] [.int r402] 728
              refine g_iload hC dL_isWhole_728 5 rfl ?_
              refine g_icmp_ne hC 809 dL_isWhole_730 (by decide) (fun c406 => ?_) (fun c406 => ?_)
              · replace h351 := fi_neg h351 c406
                refine g_iconst (v := 0) hC dL_isWhole_809 (by decide) ?_
                obtain rfl := Option.some.inj h351
                refine g_sub (L' := [(0, .ref a0), (1, .int r1), (4, .int z268.2.2.1), (6, .int z268.2.2.2.2.1), (7, .int z268.2.2.2.2.2.1)]) [0, 1, 4, 6, 7] rfl ?_
                refine g_widen (k' := 2728) (s' := 16368) (by omega) (by omega) ?_
                exact K353 _
              · replace h351 := fi_pos h351 c406
                refine g_aload_n hC dL_isWhole_733 rfl 0 rfl ?_
                refine g_bipush (v := 8) hC dL_isWhole_734 (by decide) ?_
                obtain ⟨r407, h408, h351⟩ := fb_open h351
                refine g_callLWk hC hL [.ref a0, .int 8] (c_L_account l D cy a0 8 z268.2.2.2.2.2.2.2.2 r407 h408) (Or.inl rfl) (fun _ _ h => nomatch h) q_597 q_72 q_595 q_596 h9_L_account ⟨Nat.le_of_ble_eq_true rfl, Nat.le_of_ble_eq_true rfl⟩ 1 6 rfl rfl ⟨Nat.le_of_ble_eq_true rfl, Nat.le_of_ble_eq_true rfl⟩ (Nat.le_of_ble_eq_true rfl) rfl dL_isWhole_736 (fun z410 _ e409 => ?_)
                show gAt X 2724 16344 20 z268.2.2.2.2.2.2.2.2 z410 gE0 [(0, .ref a0), (1, .int r1), (2, .int z268.1), (3, .int z268.2.1), (4, .int z268.2.2.1), (5, .int z268.2.2.2.1), (6, .int z268.2.2.2.2.1), (7, .int z268.2.2.2.2.2.1), (8, .int z268.2.2.2.2.2.2.1), (9, .int z268.2.2.2.2.2.2.2.1), (10, .int x328)] [.int r407] 739
                refine g_iload_n hC dL_isWhole_739 rfl 1 rfl ?_
                refine g_icmp_lt hC 809 dL_isWhole_740 (by decide) (fun c411 => ?_) (fun c411 => ?_)
                · replace h351 := fi_pos h351 c411
                  refine g_iconst (v := 0) hC dL_isWhole_809 (by decide) ?_
                  obtain rfl := Option.some.inj h351
                  refine g_sub (L' := [(0, .ref a0), (1, .int r1), (4, .int z268.2.2.1), (6, .int z268.2.2.2.2.1), (7, .int z268.2.2.2.2.2.1)]) [0, 1, 4, 6, 7] rfl ?_
                  refine g_widen (k' := 2728) (s' := 16368) (by omega) (by omega) ?_
                  exact K353 _
                · replace h351 := fi_neg h351 c411
                  refine g_aload_n hC dL_isWhole_743 rfl 0 rfl ?_
                  refine g_bipush (v := 10) hC dL_isWhole_744 (by decide) ?_
                  obtain ⟨r412, h413, h351⟩ := fb_open h351
                  refine g_callLWk hC hL [.ref a0, .int 10] (c_L_account l D cy a0 10 z268.2.2.2.2.2.2.2.2 r412 h413) (Or.inl rfl) (fun _ _ h => nomatch h) q_597 q_72 q_595 q_596 h9_L_account ⟨Nat.le_of_ble_eq_true rfl, Nat.le_of_ble_eq_true rfl⟩ 1 6 rfl rfl ⟨Nat.le_of_ble_eq_true rfl, Nat.le_of_ble_eq_true rfl⟩ (Nat.le_of_ble_eq_true rfl) rfl dL_isWhole_746 (fun z415 _ e414 => ?_)
                  show gAt X 2725 16350 20 z268.2.2.2.2.2.2.2.2 z415 gE0 [(0, .ref a0), (1, .int r1), (2, .int z268.1), (3, .int z268.2.1), (4, .int z268.2.2.1), (5, .int z268.2.2.2.1), (6, .int z268.2.2.2.2.1), (7, .int z268.2.2.2.2.2.1), (8, .int z268.2.2.2.2.2.2.1), (9, .int z268.2.2.2.2.2.2.2.1), (10, .int x328)] [.int r412] 749
                  refine g_aload_n hC dL_isWhole_749 rfl 0 rfl ?_
                  refine g_bipush (v := 9) hC dL_isWhole_750 (by decide) ?_
                  obtain ⟨r416, h417, h351⟩ := fb_open h351
                  refine g_callLWk hC hL [.ref a0, .int 9] (c_L_account l D cy a0 9 z268.2.2.2.2.2.2.2.2 r416 h417) (Or.inl rfl) (fun _ _ h => nomatch h) q_597 q_72 q_595 q_596 h9_L_account ⟨Nat.le_of_ble_eq_true rfl, Nat.le_of_ble_eq_true rfl⟩ 1 6 rfl rfl ⟨Nat.le_of_ble_eq_true rfl, Nat.le_of_ble_eq_true rfl⟩ (Nat.le_of_ble_eq_true rfl) rfl dL_isWhole_752 (fun z419 _ e418 => ?_)
                  show gAt X 2726 16356 20 z268.2.2.2.2.2.2.2.2 z419 gE0 [(0, .ref a0), (1, .int r1), (2, .int z268.1), (3, .int z268.2.1), (4, .int z268.2.2.1), (5, .int z268.2.2.2.1), (6, .int z268.2.2.2.2.1), (7, .int z268.2.2.2.2.2.1), (8, .int z268.2.2.2.2.2.2.1), (9, .int z268.2.2.2.2.2.2.2.1), (10, .int x328)] [.int r416, .int r412] 755
                  refine g_icmp_gt hC 809 dL_isWhole_755 (by decide) (fun c420 => ?_) (fun c420 => ?_)
                  · replace h351 := fi_pos h351 c420
                    refine g_iconst (v := 0) hC dL_isWhole_809 (by decide) ?_
                    obtain rfl := Option.some.inj h351
                    refine g_sub (L' := [(0, .ref a0), (1, .int r1), (4, .int z268.2.2.1), (6, .int z268.2.2.2.2.1), (7, .int z268.2.2.2.2.2.1)]) [0, 1, 4, 6, 7] rfl ?_
                    refine g_widen (k' := 2728) (s' := 16368) (by omega) (by omega) ?_
                    exact K353 _
                  · replace h351 := fi_neg h351 c420
                    refine g_aload_n hC dL_isWhole_758 rfl 0 rfl ?_
                    refine g_bipush (v := 11) hC dL_isWhole_759 (by decide) ?_
                    obtain ⟨r421, h422, h351⟩ := fb_open h351
                    refine g_callLWk hC hL [.ref a0, .int 11] (c_L_account l D cy a0 11 z268.2.2.2.2.2.2.2.2 r421 h422) (Or.inl rfl) (fun _ _ h => nomatch h) q_597 q_72 q_595 q_596 h9_L_account ⟨Nat.le_of_ble_eq_true rfl, Nat.le_of_ble_eq_true rfl⟩ 1 6 rfl rfl ⟨Nat.le_of_ble_eq_true rfl, Nat.le_of_ble_eq_true rfl⟩ (Nat.le_of_ble_eq_true rfl) rfl dL_isWhole_761 (fun z424 _ e423 => ?_)
                    show gAt X 2727 16362 20 z268.2.2.2.2.2.2.2.2 z424 gE0 [(0, .ref a0), (1, .int r1), (2, .int z268.1), (3, .int z268.2.1), (4, .int z268.2.2.1), (5, .int z268.2.2.2.1), (6, .int z268.2.2.2.2.1), (7, .int z268.2.2.2.2.2.1), (8, .int z268.2.2.2.2.2.2.1), (9, .int z268.2.2.2.2.2.2.2.1), (10, .int x328)] [.int r421] 764
                    refine g_iload hC dL_isWhole_764 5 rfl ?_
                    refine g_icmp_lt hC 809 dL_isWhole_766 (by decide) (fun c425 => ?_) (fun c425 => ?_)
                    · replace h351 := fi_pos h351 c425
                      refine g_iconst (v := 0) hC dL_isWhole_809 (by decide) ?_
                      obtain rfl := Option.some.inj h351
                      refine g_sub (L' := [(0, .ref a0), (1, .int r1), (4, .int z268.2.2.1), (6, .int z268.2.2.2.2.1), (7, .int z268.2.2.2.2.2.1)]) [0, 1, 4, 6, 7] rfl ?_
                      refine g_widen (k' := 2728) (s' := 16368) (by omega) (by omega) ?_
                      exact K353 _
                    · replace h351 := fi_neg h351 c425
                      refine g_iload hC dL_isWhole_769 10 rfl ?_
                      refine g_iload hC dL_isWhole_771 8 rfl ?_
                      refine g_icmp_ne hC 809 dL_isWhole_773 (by decide) (fun c426 => ?_) (fun c426 => ?_)
                      · replace h351 := fi_neg h351 c426
                        refine g_iconst (v := 0) hC dL_isWhole_809 (by decide) ?_
                        obtain rfl := Option.some.inj h351
                        refine g_sub (L' := [(0, .ref a0), (1, .int r1), (4, .int z268.2.2.1), (6, .int z268.2.2.2.2.1), (7, .int z268.2.2.2.2.2.1)]) [0, 1, 4, 6, 7] rfl ?_
                        refine g_widen (k' := 2728) (s' := 16368) (by omega) (by omega) ?_
                        exact K353 _
                      · replace h351 := fi_pos h351 c426
                        refine g_sipush (v := 840) hC dL_isWhole_776 (by decide) ?_
                        refine g_aload_n hC dL_isWhole_779 rfl 0 rfl ?_
                        obtain ⟨g431, h351⟩ := fg_open h351
                        obtain ⟨r427, h428, h351⟩ := fb_open h351
                        refine g_callVk hC [] (c_X4_words l D cy a0 z268.2.2.2.2.2.2.2.2 r427 h428) q_1353 q_73 q_1350 q_1351 q_1352 h9_X4_words (T := TX4) (N := 15) (ci := 4) rfl (fSm.k p9 g431) ⟨Nat.le_of_ble_eq_true rfl, Nat.le_of_ble_eq_true rfl⟩ 0 0 rfl rfl ⟨Nat.le_of_ble_eq_true rfl, Nat.le_of_ble_eq_true rfl⟩ (Nat.le_of_ble_eq_true rfl) rfl dL_isWhole_780 (fun z430 _ e429 => ?_)
                        show gAt X 2727 16362 20 z268.2.2.2.2.2.2.2.2 z430 gE0 [(0, .ref a0), (1, .int r1), (2, .int z268.1), (3, .int z268.2.1), (4, .int z268.2.2.1), (5, .int z268.2.2.2.1), (6, .int z268.2.2.2.2.1), (7, .int z268.2.2.2.2.2.1), (8, .int z268.2.2.2.2.2.2.1), (9, .int z268.2.2.2.2.2.2.2.1), (10, .int x328)] [.int r427, .int 840] 783
                        refine g_imul hC dL_isWhole_783 ?_
                        refine g_iload hC dL_isWhole_784 9 rfl ?_
                        refine g_icmp_ne hC 809 dL_isWhole_786 (by decide) (fun c432 => ?_) (fun c432 => ?_)
                        · replace h351 := fi_neg h351 c432
                          refine g_iconst (v := 0) hC dL_isWhole_809 (by decide) ?_
                          obtain rfl := Option.some.inj h351
                          refine g_sub (L' := [(0, .ref a0), (1, .int r1), (4, .int z268.2.2.1), (6, .int z268.2.2.2.2.1), (7, .int z268.2.2.2.2.2.1)]) [0, 1, 4, 6, 7] rfl ?_
                          refine g_widen (k' := 2728) (s' := 16368) (by omega) (by omega) ?_
                          exact K353 _
                        · replace h351 := fi_pos h351 c432
                          refine g_aload_n hC dL_isWhole_789 rfl 0 rfl ?_
                          refine g_iconst (v := 1) hC dL_isWhole_790 (by decide) ?_
                          obtain ⟨r433, h434, h351⟩ := fb_open h351
                          refine g_callLWk hC hL [.ref a0, .int 1] (c_L_account l D cy a0 1 z268.2.2.2.2.2.2.2.2 r433 h434) (Or.inl rfl) (fun _ _ h => nomatch h) q_597 q_72 q_595 q_596 h9_L_account ⟨Nat.le_of_ble_eq_true rfl, Nat.le_of_ble_eq_true rfl⟩ 1 6 rfl rfl ⟨Nat.le_of_ble_eq_true rfl, Nat.le_of_ble_eq_true rfl⟩ (Nat.le_of_ble_eq_true rfl) rfl dL_isWhole_791 (fun z436 _ e435 => ?_)
                          show gAt X 2728 16368 20 z268.2.2.2.2.2.2.2.2 z436 gE0 [(0, .ref a0), (1, .int r1), (2, .int z268.1), (3, .int z268.2.1), (4, .int z268.2.2.1), (5, .int z268.2.2.2.1), (6, .int z268.2.2.2.2.1), (7, .int z268.2.2.2.2.2.1), (8, .int z268.2.2.2.2.2.2.1), (9, .int z268.2.2.2.2.2.2.2.1), (10, .int x328)] [.int r433] 794
                          refine g_bipush (v := 6) hC dL_isWhole_794 (by decide) ?_
                          refine g_icmp_gt hC 809 dL_isWhole_796 (by decide) (fun c437 => ?_) (fun c437 => ?_)
                          · replace h351 := fi_pos h351 c437
                            refine g_iconst (v := 0) hC dL_isWhole_809 (by decide) ?_
                            obtain rfl := Option.some.inj h351
                            refine g_sub (L' := [(0, .ref a0), (1, .int r1), (4, .int z268.2.2.1), (6, .int z268.2.2.2.2.1), (7, .int z268.2.2.2.2.2.1)]) [0, 1, 4, 6, 7] rfl ?_
                            exact K353 _
                          · replace h351 := fi_neg h351 c437
                            refine g_iload_n hC dL_isWhole_799 rfl 1 rfl ?_
                            refine g_bipush (v := 8) hC dL_isWhole_800 (by decide) ?_
                            refine g_icmp_gt hC 809 dL_isWhole_802 (by decide) (fun c438 => ?_) (fun c438 => ?_)
                            · replace h351 := fi_pos h351 c438
                              refine g_iconst (v := 0) hC dL_isWhole_809 (by decide) ?_
                              obtain rfl := Option.some.inj h351
                              refine g_sub (L' := [(0, .ref a0), (1, .int r1), (4, .int z268.2.2.1), (6, .int z268.2.2.2.2.1), (7, .int z268.2.2.2.2.2.1)]) [0, 1, 4, 6, 7] rfl ?_
                              exact K353 _
                            · replace h351 := fi_neg h351 c438
                              refine g_iconst (v := 1) hC dL_isWhole_805 (by decide) ?_
                              refine g_goto hC 810 dL_isWhole_806 (by decide) ?_
                              obtain rfl := Option.some.inj h351
                              refine g_sub (L' := [(0, .ref a0), (1, .int r1), (4, .int z268.2.2.1), (6, .int z268.2.2.2.2.1), (7, .int z268.2.2.2.2.2.1)]) [0, 1, 4, 6, 7] rfl ?_
                              exact K353 _
      refine g_sub (L' := [(0, .ref a0), (1, .int r1), (2, .int z268.1), (3, .int z268.2.1), (4, .int z268.2.2.1), (5, .int z268.2.2.2.1), (6, .int z268.2.2.2.2.1), (7, .int z268.2.2.2.2.2.1), (8, .int z268.2.2.2.2.2.2.1), (9, .int z268.2.2.2.2.2.2.2.1), (10, .int 0), (11, .int 97)]) [2, 3, 4, 5, 6, 7, 8, 9, 10, 11, 1, 0] rfl ?_
      refine fLoopB_use h329 (fun (n331 : Nat) (s322 : Int32 × Int32) => ∀ b335 d335 : Nat, b335 + n331 * 1 ≤ 2719 ∧ d335 + n331 * 6 ≤ 16314 → ∀ z333 : Nat, gAt X b335 d335 20 z268.2.2.2.2.2.2.2.2 z333 gE0 [(0, .ref a0), (1, .int r1), (2, .int z268.1), (3, .int z268.2.1), (4, .int z268.2.2.1), (5, .int z268.2.2.2.1), (6, .int z268.2.2.2.2.1), (7, .int z268.2.2.2.2.2.1), (8, .int z268.2.2.2.2.2.2.1), (9, .int z268.2.2.2.2.2.2.2.1), (10, .int s322.1), (11, .int s322.2)] [] 661) (fun n331 s322 y327 h323 go324 ou325 => ?_) 2692 16152 ⟨Nat.le_of_ble_eq_true rfl, Nat.le_of_ble_eq_true rfl⟩ _
      intro b335 d335 k336 z333
      obtain ⟨k336, k336'⟩ := k336
      refine g_iload hC dL_isWhole_661 11 rfl ?_
      refine g_bipush (v := 122) hC dL_isWhole_663 (by decide) ?_
      refine g_icmp_gt hC 693 dL_isWhole_665 (by decide) (fun c337 => ?_) (fun c337 => ?_)
      · replace h323 := fi_pos h323 c337
        obtain rfl := Option.some.inj h323
        obtain rfl := ou325 _ rfl
        refine g_sub (L' := [(0, .ref a0), (1, .int r1), (2, .int z268.1), (3, .int z268.2.1), (4, .int z268.2.2.1), (5, .int z268.2.2.2.1), (6, .int z268.2.2.2.2.1), (7, .int z268.2.2.2.2.2.1), (8, .int z268.2.2.2.2.2.2.1), (9, .int z268.2.2.2.2.2.2.2.1), (10, .int s322.1)]) [0, 1, 2, 3, 4, 5, 6, 7, 8, 9, 10] rfl ?_
        refine g_widen (k' := 2719) (s' := 16314) (by omega) (by omega) ?_
        exact K330 _
      · replace h323 := fi_neg h323 c337
        refine g_iload hC dL_isWhole_668 10 rfl ?_
        refine g_iconst (v := 0) hC dL_isWhole_670 (by decide) ?_
        refine g_aload_n hC dL_isWhole_671 rfl 0 rfl ?_
        refine g_iload hC dL_isWhole_672 11 rfl ?_
        obtain ⟨r338, h339, h323⟩ := fb_open h323
        refine g_callLWk hC hL [.ref a0, .int s322.2] (c_L_often l D cy a0 s322.2 z268.2.2.2.2.2.2.2.2 r338 h339) (Or.inl rfl) (fun _ _ h => nomatch h) q_1340 q_72 q_1338 q_1339 h9_L_often ⟨Nat.le_of_ble_eq_true rfl, Nat.le_of_ble_eq_true rfl⟩ 1 6 rfl rfl ⟨show b335 + 1 ≤ 2731 from by omega, show d335 + 6 ≤ 16386 from by omega⟩ (Nat.le_of_ble_eq_true rfl) rfl dL_isWhole_674 (fun z341 _ e340 => ?_)
        refine g_cs (b335 + 1) (d335 + 6) (show (b335 + 1) = b335 + 1 from by omega) (show (d335 + 6) = d335 + 6 from by omega) ?_
        show gAt X (b335 + 1) (d335 + 6) 20 z268.2.2.2.2.2.2.2.2 z341 gE0 [(0, .ref a0), (1, .int r1), (2, .int z268.1), (3, .int z268.2.1), (4, .int z268.2.2.1), (5, .int z268.2.2.2.1), (6, .int z268.2.2.2.2.1), (7, .int z268.2.2.2.2.2.1), (8, .int z268.2.2.2.2.2.2.1), (9, .int z268.2.2.2.2.2.2.2.1), (10, .int s322.1), (11, .int s322.2)] [.int r338, .int 0, .int s322.1] 677
        obtain ⟨r342, h343, h323⟩ := fb_open h323
        refine g_callSk hC [.int 0, .int r338] (c_J9_max_7cf53 l D cy 0 r338 z268.2.2.2.2.2.2.2.2 r342 h343) q_694 q_85 q_1272 q_693 h9_J9_max_7cf53 ⟨Nat.le_of_ble_eq_true rfl, Nat.le_of_ble_eq_true rfl⟩ 0 0 rfl rfl ⟨show (b335 + 1) + 0 ≤ 2731 from by omega, show (d335 + 6) + 0 ≤ 16386 from by omega⟩ (Nat.le_of_ble_eq_true rfl) rfl dL_isWhole_677 (fun z345 _ e344 => ?_)
        refine g_cs (b335 + 1) (d335 + 6) (show (b335 + 1) = (b335 + 1) + 0 from by omega) (show (d335 + 6) = (d335 + 6) + 0 from by omega) ?_
        show gAt X (b335 + 1) (d335 + 6) 20 z268.2.2.2.2.2.2.2.2 z345 gE0 [(0, .ref a0), (1, .int r1), (2, .int z268.1), (3, .int z268.2.1), (4, .int z268.2.2.1), (5, .int z268.2.2.2.1), (6, .int z268.2.2.2.2.1), (7, .int z268.2.2.2.2.2.1), (8, .int z268.2.2.2.2.2.2.1), (9, .int z268.2.2.2.2.2.2.2.1), (10, .int s322.1), (11, .int s322.2)] [.int r342, .int s322.1] 680
        refine g_iadd hC dL_isWhole_680 ?_
        refine g_istore (L' := [(10, .int (s322.1 + r342)), (0, .ref a0), (1, .int r1), (2, .int z268.1), (3, .int z268.2.1), (4, .int z268.2.2.1), (5, .int z268.2.2.2.1), (6, .int z268.2.2.2.2.1), (7, .int z268.2.2.2.2.2.1), (8, .int z268.2.2.2.2.2.2.1), (9, .int z268.2.2.2.2.2.2.2.1), (11, .int s322.2)]) hC dL_isWhole_681 (by decide) rfl ?_
        refine g_iload hC dL_isWhole_683 11 rfl ?_
        refine g_iconst (v := 1) hC dL_isWhole_685 (by decide) ?_
        refine g_iadd hC dL_isWhole_686 ?_
        refine g_i2c hC dL_isWhole_687 ?_
        refine g_istore (L' := [(11, .int (fch (s322.2 + 1))), (10, .int (s322.1 + r342)), (0, .ref a0), (1, .int r1), (2, .int z268.1), (3, .int z268.2.1), (4, .int z268.2.2.1), (5, .int z268.2.2.2.1), (6, .int z268.2.2.2.2.1), (7, .int z268.2.2.2.2.2.1), (8, .int z268.2.2.2.2.2.2.1), (9, .int z268.2.2.2.2.2.2.2.1)]) hC dL_isWhole_688 (by decide) rfl ?_
        refine g_goto hC 661 dL_isWhole_690 (by decide) ?_
        obtain rfl := Option.some.inj h323
        refine g_sub (L' := [(0, .ref a0), (1, .int r1), (2, .int z268.1), (3, .int z268.2.1), (4, .int z268.2.2.1), (5, .int z268.2.2.2.1), (6, .int z268.2.2.2.2.1), (7, .int z268.2.2.2.2.2.1), (8, .int z268.2.2.2.2.2.2.1), (9, .int z268.2.2.2.2.2.2.2.1), (10, .int (s322.1 + r342)), (11, .int (fch (s322.2 + 1)))]) [2, 3, 4, 5, 6, 7, 8, 9, 10, 11, 1, 0] rfl ?_
        exact go324 ((s322.1 + r342), (fch (s322.2 + 1))) rfl _ _ ⟨by omega, by omega⟩ _
    refine g_sub (L' := [(0, .ref a0), (1, .int r1), (2, .int z268.1), (3, .int z268.2.1), (4, .int z268.2.2.1), (5, .int z268.2.2.2.1), (6, .int z268.2.2.2.2.1), (7, .int z268.2.2.2.2.2.1), (8, .int z268.2.2.2.2.2.2.1), (9, .int z268.2.2.2.2.2.2.2.1), (10, .int 0)]) [1, 2, 3, 4, 5, 6, 7, 8, 9, 10, 0] rfl ?_
    refine fLoopB_use h276 (fun (n278 : Nat) (s269 : Int32) => ∀ b282 d282 : Nat, b282 + n278 * 90 ≤ 2692 ∧ d282 + n278 * 540 ≤ 16152 → ∀ z280 : Nat, gAt X b282 d282 20 z268.2.2.2.2.2.2.2.2 z280 gE0 [(0, .ref a0), (1, .int r1), (2, .int z268.1), (3, .int z268.2.1), (4, .int z268.2.2.1), (5, .int z268.2.2.2.1), (6, .int z268.2.2.2.2.1), (7, .int z268.2.2.2.2.2.1), (8, .int z268.2.2.2.2.2.2.1), (9, .int z268.2.2.2.2.2.2.2.1), (10, .int s269)] [] 567) (fun n278 s269 y274 h270 go271 ou272 => ?_) 2332 13992 ⟨Nat.le_of_ble_eq_true rfl, Nat.le_of_ble_eq_true rfl⟩ _
    intro b282 d282 k283 z280
    obtain ⟨k283, k283'⟩ := k283
    refine g_iload hC dL_isWhole_567 10 rfl ?_
    refine g_iconst (v := 3) hC dL_isWhole_569 (by decide) ?_
    refine g_icmp_ge hC 654 dL_isWhole_570 (by decide) (fun c284 => ?_) (fun c284 => ?_)
    · replace h270 := fi_pos h270 c284
      obtain rfl := Option.some.inj h270
      have eo := ou272 _ rfl
      refine g_sub (L' := [(0, .ref a0), (1, .int r1), (2, .int z268.1), (3, .int z268.2.1), (4, .int z268.2.2.1), (5, .int z268.2.2.2.1), (6, .int z268.2.2.2.2.1), (7, .int z268.2.2.2.2.2.1), (8, .int z268.2.2.2.2.2.2.1), (9, .int z268.2.2.2.2.2.2.2.1)]) [0, 1, 2, 3, 4, 5, 6, 7, 8, 9] rfl ?_
      refine g_widen (k' := 2692) (s' := 16152) (by omega) (by omega) ?_
      exact K277 _ eo.symm _
    · replace h270 := fi_neg h270 c284
      refine g_iconst (v := 1) hC dL_isWhole_573 (by decide) ?_
      refine g_istore (L' := [(11, .int 1), (0, .ref a0), (1, .int r1), (2, .int z268.1), (3, .int z268.2.1), (4, .int z268.2.2.1), (5, .int z268.2.2.2.1), (6, .int z268.2.2.2.2.1), (7, .int z268.2.2.2.2.2.1), (8, .int z268.2.2.2.2.2.2.1), (9, .int z268.2.2.2.2.2.2.2.1), (10, .int s269)]) hC dL_isWhole_574 (by decide) rfl ?_
      obtain ⟨x291, h292, h270⟩ := fb_open h270
      have K293 : ∀ z320, x291 = .inl z320 → ∀ z297, gAt X (b282 + 90) (d282 + 540) 20 z268.2.2.2.2.2.2.2.2 z297 gE0 [(0, .ref a0), (1, .int r1), (2, .int z268.1), (3, .int z268.2.1), (4, .int z268.2.2.1), (5, .int z268.2.2.2.1), (6, .int z268.2.2.2.2.1), (7, .int z268.2.2.2.2.2.1), (8, .int z268.2.2.2.2.2.2.1), (9, .int z268.2.2.2.2.2.2.2.1), (10, .int s269)] [] 648 := by
        intro z320 hz9 z297
        subst hz9
        refine g_iinc (L' := [(10, .int (s269 + 1)), (0, .ref a0), (1, .int r1), (2, .int z268.1), (3, .int z268.2.1), (4, .int z268.2.2.1), (5, .int z268.2.2.2.1), (6, .int z268.2.2.2.2.1), (7, .int z268.2.2.2.2.2.1), (8, .int z268.2.2.2.2.2.2.1), (9, .int z268.2.2.2.2.2.2.2.1)]) hC dL_isWhole_648 10 rfl rfl (by decide) rfl ?_
        refine g_goto hC 567 dL_isWhole_651 (by decide) ?_
        obtain rfl := Option.some.inj h270
        refine g_sub (L' := [(0, .ref a0), (1, .int r1), (2, .int z268.1), (3, .int z268.2.1), (4, .int z268.2.2.1), (5, .int z268.2.2.2.1), (6, .int z268.2.2.2.2.1), (7, .int z268.2.2.2.2.2.1), (8, .int z268.2.2.2.2.2.2.1), (9, .int z268.2.2.2.2.2.2.2.1), (10, .int (s269 + 1))]) [1, 2, 3, 4, 5, 6, 7, 8, 9, 10, 0] rfl ?_
        exact go271 (s269 + 1) rfl _ _ ⟨by omega, by omega⟩ _
      refine g_sub (L' := [(0, .ref a0), (1, .int r1), (2, .int z268.1), (3, .int z268.2.1), (4, .int z268.2.2.1), (5, .int z268.2.2.2.1), (6, .int z268.2.2.2.2.1), (7, .int z268.2.2.2.2.2.1), (8, .int z268.2.2.2.2.2.2.1), (9, .int z268.2.2.2.2.2.2.2.1), (10, .int s269), (11, .int 1)]) [1, 2, 3, 4, 5, 6, 7, 8, 9, 10, 11, 0] rfl ?_
      refine fLoopB_use h292 (fun (n294 : Nat) (s285 : Int32) => ∀ b298 d298 : Nat, b298 + n294 * 10 ≤ (b282 + 90) ∧ d298 + n294 * 60 ≤ (d282 + 540) → ∀ z296 : Nat, gAt X b298 d298 20 z268.2.2.2.2.2.2.2.2 z296 gE0 [(0, .ref a0), (1, .int r1), (2, .int z268.1), (3, .int z268.2.1), (4, .int z268.2.2.1), (5, .int z268.2.2.2.1), (6, .int z268.2.2.2.2.1), (7, .int z268.2.2.2.2.2.1), (8, .int z268.2.2.2.2.2.2.1), (9, .int z268.2.2.2.2.2.2.2.1), (10, .int s269), (11, .int s285)] [] 576) (fun n294 s285 y290 h286 go287 ou288 => ?_) b282 d282 ⟨Nat.le_refl _, Nat.le_refl _⟩ _
      intro b298 d298 k299 z296
      obtain ⟨k299, k299'⟩ := k299
      refine g_iload hC dL_isWhole_576 11 rfl ?_
      refine g_iload_n hC dL_isWhole_578 rfl 1 rfl ?_
      refine g_icmp_ge hC 648 dL_isWhole_579 (by decide) (fun c300 => ?_) (fun c300 => ?_)
      · replace h286 := fi_pos h286 c300
        obtain rfl := Option.some.inj h286
        have eo := ou288 _ rfl
        refine g_sub (L' := [(0, .ref a0), (1, .int r1), (2, .int z268.1), (3, .int z268.2.1), (4, .int z268.2.2.1), (5, .int z268.2.2.2.1), (6, .int z268.2.2.2.2.1), (7, .int z268.2.2.2.2.2.1), (8, .int z268.2.2.2.2.2.2.1), (9, .int z268.2.2.2.2.2.2.2.1), (10, .int s269)]) [0, 1, 2, 3, 4, 5, 6, 7, 8, 9, 10] rfl ?_
        refine g_widen (k' := (b282 + 90)) (s' := (d282 + 540)) (by omega) (by omega) ?_
        exact K293 _ eo.symm _
      · replace h286 := fi_neg h286 c300
        refine g_aload_n hC dL_isWhole_582 rfl 0 rfl ?_
        refine g_iload hC dL_isWhole_583 10 rfl ?_
        refine g_iload hC dL_isWhole_585 11 rfl ?_
        refine g_iconst (v := 1) hC dL_isWhole_587 (by decide) ?_
        refine g_isub hC dL_isWhole_588 ?_
        obtain ⟨r301, h302, h286⟩ := fb_open h286
        refine g_callLWk hC hL [.ref a0, .int s269, .int (s285 - 1)] (c_L_ranked l D cy a0 s269 (s285 - 1) z268.2.2.2.2.2.2.2.2 r301 h302) (Or.inl rfl) (fun _ _ h => nomatch h) q_1315 q_72 q_1313 q_1314 h9_L_ranked ⟨Nat.le_of_ble_eq_true rfl, Nat.le_of_ble_eq_true rfl⟩ 1 6 rfl rfl ⟨show b298 + 1 ≤ 2731 from by omega, show d298 + 6 ≤ 16386 from by omega⟩ (Nat.le_of_ble_eq_true rfl) rfl dL_isWhole_589 (fun z304 _ e303 => ?_)
        refine g_cs (b298 + 1) (d298 + 6) (show (b298 + 1) = b298 + 1 from by omega) (show (d298 + 6) = d298 + 6 from by omega) ?_
        show gAt X (b298 + 1) (d298 + 6) 20 z268.2.2.2.2.2.2.2.2 z304 gE0 [(0, .ref a0), (1, .int r1), (2, .int z268.1), (3, .int z268.2.1), (4, .int z268.2.2.1), (5, .int z268.2.2.2.1), (6, .int z268.2.2.2.2.1), (7, .int z268.2.2.2.2.2.1), (8, .int z268.2.2.2.2.2.2.1), (9, .int z268.2.2.2.2.2.2.2.1), (10, .int s269), (11, .int s285)] [.int r301] 592
        refine g_istore (L' := [(12, .int r301), (0, .ref a0), (1, .int r1), (2, .int z268.1), (3, .int z268.2.1), (4, .int z268.2.2.1), (5, .int z268.2.2.2.1), (6, .int z268.2.2.2.2.1), (7, .int z268.2.2.2.2.2.1), (8, .int z268.2.2.2.2.2.2.1), (9, .int z268.2.2.2.2.2.2.2.1), (10, .int s269), (11, .int s285)]) hC dL_isWhole_592 (by decide) rfl ?_
        refine g_aload_n hC dL_isWhole_594 rfl 1 rfl ?_
        refine g_iload hC dL_isWhole_595 11 rfl ?_
        refine g_iload hC dL_isWhole_597 12 rfl ?_
        obtain ⟨r305, h306, h286⟩ := fb_open h286
        refine g_callLWk hC hL [.ref a0, .int s269, .int s285] (c_L_ranked l D cy a0 s269 s285 z268.2.2.2.2.2.2.2.2 r305 h306) (Or.inl rfl) (fun _ _ h => nomatch h) q_1315 q_72 q_1313 q_1314 h9_L_ranked ⟨Nat.le_of_ble_eq_true rfl, Nat.le_of_ble_eq_true rfl⟩ 1 6 rfl rfl ⟨show (b298 + 1) + 1 ≤ 2731 from by omega, show (d298 + 6) + 6 ≤ 16386 from by omega⟩ (Nat.le_of_ble_eq_true rfl) rfl dL_isWhole_599 (fun z308 _ e307 => ?_)
        refine g_cs (b298 + 2) (d298 + 12) (show (b298 + 2) = (b298 + 1) + 1 from by omega) (show (d298 + 12) = (d298 + 6) + 6 from by omega) ?_
        show gAt X (b298 + 2) (d298 + 12) 20 z268.2.2.2.2.2.2.2.2 z308 gE0 [(12, .int r301), (0, .ref a0), (1, .int r1), (2, .int z268.1), (3, .int z268.2.1), (4, .int z268.2.2.1), (5, .int z268.2.2.2.1), (6, .int z268.2.2.2.2.1), (7, .int z268.2.2.2.2.2.1), (8, .int z268.2.2.2.2.2.2.1), (9, .int z268.2.2.2.2.2.2.2.1), (10, .int s269), (11, .int s285)] [.int r305] 602
        refine g_istore (L' := [(13, .int r305), (12, .int r301), (0, .ref a0), (1, .int r1), (2, .int z268.1), (3, .int z268.2.1), (4, .int z268.2.2.1), (5, .int z268.2.2.2.1), (6, .int z268.2.2.2.2.1), (7, .int z268.2.2.2.2.2.1), (8, .int z268.2.2.2.2.2.2.1), (9, .int z268.2.2.2.2.2.2.2.1), (10, .int s269), (11, .int s285)]) hC dL_isWhole_602 (by decide) rfl ?_
        refine g_aload_n hC dL_isWhole_604 rfl 2 rfl ?_
        refine g_iload hC dL_isWhole_605 12 rfl ?_
        refine g_iload hC dL_isWhole_607 1 rfl ?_
        obtain ⟨r309, h310, h286⟩ := fb_open h286
        refine g_callLk hC hL [.ref a0, .int s269, .int r301] (c_L_measure l D cy a0 s269 r301 z268.2.2.2.2.2.2.2.2 r309 h310) (Or.inl rfl) (fun _ _ h => nomatch h) q_1337 q_72 q_1335 q_1336 h9_L_measure ⟨Nat.le_of_ble_eq_true rfl, Nat.le_of_ble_eq_true rfl⟩ 4 24 rfl rfl ⟨show (b298 + 2) + 4 ≤ 2731 from by omega, show (d298 + 12) + 24 ≤ 16386 from by omega⟩ (Nat.le_of_ble_eq_true rfl) rfl dL_isWhole_609 (fun z312 _ e311 => ?_)
        refine g_cs (b298 + 6) (d298 + 36) (show (b298 + 6) = (b298 + 2) + 4 from by omega) (show (d298 + 36) = (d298 + 12) + 24 from by omega) ?_
        show gAt X (b298 + 6) (d298 + 36) 20 z268.2.2.2.2.2.2.2.2 z312 gE0 [(13, .int r305), (12, .int r301), (0, .ref a0), (1, .int r1), (2, .int z268.1), (3, .int z268.2.1), (4, .int z268.2.2.1), (5, .int z268.2.2.2.1), (6, .int z268.2.2.2.2.1), (7, .int z268.2.2.2.2.2.1), (8, .int z268.2.2.2.2.2.2.1), (9, .int z268.2.2.2.2.2.2.2.1), (10, .int s269), (11, .int s285)] [.int r309] 612
        refine g_aload_n hC dL_isWhole_612 rfl 2 rfl ?_
        refine g_iload hC dL_isWhole_613 12 rfl ?_
        refine g_iload hC dL_isWhole_615 0 rfl ?_
        obtain ⟨r313, h314, h286⟩ := fb_open h286
        refine g_callLk hC hL [.ref a0, .int s269, .int r305] (c_L_measure l D cy a0 s269 r305 z268.2.2.2.2.2.2.2.2 r313 h314) (Or.inl rfl) (fun _ _ h => nomatch h) q_1337 q_72 q_1335 q_1336 h9_L_measure ⟨Nat.le_of_ble_eq_true rfl, Nat.le_of_ble_eq_true rfl⟩ 4 24 rfl rfl ⟨show (b298 + 6) + 4 ≤ 2731 from by omega, show (d298 + 36) + 24 ≤ 16386 from by omega⟩ (Nat.le_of_ble_eq_true rfl) rfl dL_isWhole_617 (fun z316 _ e315 => ?_)
        refine g_cs (b298 + 10) (d298 + 60) (show (b298 + 10) = (b298 + 6) + 4 from by omega) (show (d298 + 60) = (d298 + 36) + 24 from by omega) ?_
        show gAt X (b298 + 10) (d298 + 60) 20 z268.2.2.2.2.2.2.2.2 z316 gE0 [(13, .int r305), (12, .int r301), (0, .ref a0), (1, .int r1), (2, .int z268.1), (3, .int z268.2.1), (4, .int z268.2.2.1), (5, .int z268.2.2.2.1), (6, .int z268.2.2.2.2.1), (7, .int z268.2.2.2.2.2.1), (8, .int z268.2.2.2.2.2.2.1), (9, .int z268.2.2.2.2.2.2.2.1), (10, .int s269), (11, .int s285)] [.int r313, .int r309] 620
        refine g_isub hC dL_isWhole_620 ?_
        refine g_istore (L' := [(14, .int (r309 - r313)), (13, .int r305), (12, .int r301), (0, .ref a0), (1, .int r1), (2, .int z268.1), (3, .int z268.2.1), (4, .int z268.2.2.1), (5, .int z268.2.2.2.1), (6, .int z268.2.2.2.2.1), (7, .int z268.2.2.2.2.2.1), (8, .int z268.2.2.2.2.2.2.1), (9, .int z268.2.2.2.2.2.2.2.1), (10, .int s269), (11, .int s285)]) hC dL_isWhole_621 (by decide) rfl ?_
        refine g_iload hC dL_isWhole_623 0 rfl ?_
        refine g_if_lt hC 640 dL_isWhole_625 (by decide) (fun c317 => ?_) (fun c317 => ?_)
        · replace h286 := fi_pos h286 c317
          refine g_iconst (v := 0) hC dL_isWhole_640 (by decide) ?_
          obtain rfl := Option.some.inj h286
          obtain rfl := ou288 _ rfl
          obtain rfl := Option.some.inj h270
          obtain rfl := ou272 _ rfl
          obtain rfl := Option.some.inj hF
          refine g_widen (k' := 2731) (s' := 16386) (by omega) (by omega) ?_
          exact g_zret hC hEn p9 (nar_z (by decide)) dL_isWhole_641
        · replace h286 := fi_neg h286 c317
          refine g_iload hC dL_isWhole_628 0 rfl ?_
          refine g_if_ne hC 642 dL_isWhole_630 (by decide) (fun c318 => ?_) (fun c318 => ?_)
          · replace h286 := fi_neg h286 c318
            refine g_iinc (L' := [(11, .int (s285 + 1)), (14, .int (r309 - r313)), (13, .int r305), (12, .int r301), (0, .ref a0), (1, .int r1), (2, .int z268.1), (3, .int z268.2.1), (4, .int z268.2.2.1), (5, .int z268.2.2.2.1), (6, .int z268.2.2.2.2.1), (7, .int z268.2.2.2.2.2.1), (8, .int z268.2.2.2.2.2.2.1), (9, .int z268.2.2.2.2.2.2.2.1), (10, .int s269)]) hC dL_isWhole_642 14 rfl rfl (by decide) rfl ?_
            refine g_goto hC 576 dL_isWhole_645 (by decide) ?_
            obtain rfl := Option.some.inj h286
            refine g_sub (L' := [(0, .ref a0), (1, .int r1), (2, .int z268.1), (3, .int z268.2.1), (4, .int z268.2.2.1), (5, .int z268.2.2.2.1), (6, .int z268.2.2.2.2.1), (7, .int z268.2.2.2.2.2.1), (8, .int z268.2.2.2.2.2.2.1), (9, .int z268.2.2.2.2.2.2.2.1), (10, .int s269), (11, .int (s285 + 1))]) [4, 5, 6, 7, 8, 9, 10, 11, 12, 13, 14, 0] rfl ?_
            exact go287 (s285 + 1) rfl _ _ ⟨by omega, by omega⟩ _
          · replace h286 := fi_pos h286 c318
            refine g_iload hC dL_isWhole_633 2 rfl ?_
            refine g_iload hC dL_isWhole_635 1 rfl ?_
            refine g_icmp_le hC 642 dL_isWhole_637 (by decide) (fun c319 => ?_) (fun c319 => ?_)
            · replace h286 := fi_pos h286 c319
              refine g_iinc (L' := [(11, .int (s285 + 1)), (14, .int (r309 - r313)), (13, .int r305), (12, .int r301), (0, .ref a0), (1, .int r1), (2, .int z268.1), (3, .int z268.2.1), (4, .int z268.2.2.1), (5, .int z268.2.2.2.1), (6, .int z268.2.2.2.2.1), (7, .int z268.2.2.2.2.2.1), (8, .int z268.2.2.2.2.2.2.1), (9, .int z268.2.2.2.2.2.2.2.1), (10, .int s269)]) hC dL_isWhole_642 14 rfl rfl (by decide) rfl ?_
              refine g_goto hC 576 dL_isWhole_645 (by decide) ?_
              obtain rfl := Option.some.inj h286
              refine g_sub (L' := [(0, .ref a0), (1, .int r1), (2, .int z268.1), (3, .int z268.2.1), (4, .int z268.2.2.1), (5, .int z268.2.2.2.1), (6, .int z268.2.2.2.2.1), (7, .int z268.2.2.2.2.2.1), (8, .int z268.2.2.2.2.2.2.1), (9, .int z268.2.2.2.2.2.2.2.1), (10, .int s269), (11, .int (s285 + 1))]) [4, 5, 6, 7, 8, 9, 10, 11, 12, 13, 14, 0] rfl ?_
              exact go287 (s285 + 1) rfl _ _ ⟨by omega, by omega⟩ _
            · replace h286 := fi_neg h286 c319
              refine g_iconst (v := 0) hC dL_isWhole_640 (by decide) ?_
              obtain rfl := Option.some.inj h286
              obtain rfl := ou288 _ rfl
              obtain rfl := Option.some.inj h270
              obtain rfl := ou272 _ rfl
              obtain rfl := Option.some.inj hF
              refine g_widen (k' := 2731) (s' := 16386) (by omega) (by omega) ?_
              exact g_zret hC hEn p9 (nar_z (by decide)) dL_isWhole_641
  refine g_sub (L' := [(0, .ref a0), (1, .int r1), (2, .int 0), (3, .int 0), (4, .int 0), (5, .int 0), (6, .int 0), (7, .int 0), (8, .int 0), (9, .int 0), (10, .int 0)]) [10, 9, 8, 7, 6, 5, 4, 3, 2, 1, 0] rfl ?_
  refine fLoopB_use h12 (fun (n14 : Nat) (s5 : Int32 × Int32 × Int32 × Int32 × Int32 × Int32 × Int32 × Int32 × Int32 × FW) => ∀ b18 d18 : Nat, b18 + n14 * 259 ≤ 2332 ∧ d18 + n14 * 1554 ≤ 13992 → ∀ z16 : Nat, fSm s5.2.2.2.2.2.2.2.2.2 w → gAt X b18 d18 20 s5.2.2.2.2.2.2.2.2.2 z16 gE0 [(0, .ref a0), (1, .int r1), (2, .int s5.1), (3, .int s5.2.1), (4, .int s5.2.2.1), (5, .int s5.2.2.2.1), (6, .int s5.2.2.2.2.1), (7, .int s5.2.2.2.2.2.1), (8, .int s5.2.2.2.2.2.2.1), (9, .int s5.2.2.2.2.2.2.2.1), (10, .int s5.2.2.2.2.2.2.2.2.1)] [] 31) (fun n14 s5 y10 h6 go7 ou8 => ?_) 1 6 ⟨Nat.le_of_ble_eq_true rfl, Nat.le_of_ble_eq_true rfl⟩ _ (fSm.rf w)
  intro b18 d18 k19 z16 p9
  obtain ⟨k19, k19'⟩ := k19
  refine g_iload hC dL_isWhole_31 10 rfl ?_
  refine g_iload_n hC dL_isWhole_33 rfl 1 rfl ?_
  refine g_icmp_ge hC 564 dL_isWhole_34 (by decide) (fun c20 => ?_) (fun c20 => ?_)
  · replace h6 := fi_pos h6 c20
    obtain rfl := Option.some.inj h6
    have eo := ou8 _ rfl
    refine g_sub (L' := [(0, .ref a0), (1, .int r1), (2, .int s5.1), (3, .int s5.2.1), (4, .int s5.2.2.1), (5, .int s5.2.2.2.1), (6, .int s5.2.2.2.2.1), (7, .int s5.2.2.2.2.2.1), (8, .int s5.2.2.2.2.2.2.1), (9, .int s5.2.2.2.2.2.2.2.1)]) [0, 1, 2, 3, 4, 5, 6, 7, 8, 9] rfl ?_
    refine g_widen (k' := 2332) (s' := 13992) (by omega) (by omega) ?_
    exact K13 _ eo.symm _ p9
  · replace h6 := fi_neg h6 c20
    refine g_aload_n hC dL_isWhole_37 rfl 0 rfl ?_
    refine g_iload hC dL_isWhole_38 10 rfl ?_
    refine g_iconst (v := 0) hC dL_isWhole_40 (by decide) ?_
    obtain ⟨r21, h22, h6⟩ := fb_open h6
    obtain ⟨v25, w26⟩ := r21
    refine g_callLk hC hL [.ref a0, .int s5.2.2.2.2.2.2.2.2.1, .int 0] (c_L_isHalf l D cy a0 s5.2.2.2.2.2.2.2.2.1 0 s5.2.2.2.2.2.2.2.2.2 (v25, w26) h22) (Or.inl rfl) (fun _ _ h => nomatch h) q_1213 q_72 q_1211 q_1212 h9_L_isHalf ⟨Nat.le_of_ble_eq_true rfl, Nat.le_of_ble_eq_true rfl⟩ 65 390 rfl rfl ⟨show b18 + 65 ≤ 2731 from by omega, show d18 + 390 ≤ 16386 from by omega⟩ (Nat.le_of_ble_eq_true rfl) rfl dL_isWhole_41 (fun z24 _ e23 => ?_)
    refine g_cs (b18 + 65) (d18 + 390) (show (b18 + 65) = b18 + 65 from by omega) (show (d18 + 390) = d18 + 390 from by omega) ?_
    show gAt X (b18 + 65) (d18 + 390) 20 w26 z24 gE0 [(0, .ref a0), (1, .int r1), (2, .int s5.1), (3, .int s5.2.1), (4, .int s5.2.2.1), (5, .int s5.2.2.2.1), (6, .int s5.2.2.2.2.1), (7, .int s5.2.2.2.2.2.1), (8, .int s5.2.2.2.2.2.2.1), (9, .int s5.2.2.2.2.2.2.2.1), (10, .int s5.2.2.2.2.2.2.2.2.1)] [.int v25] 44
    refine g_if_eq hC 57 dL_isWhole_44 (by decide) (fun c27 => ?_) (fun c27 => ?_)
    · replace h6 := fi_pos h6 c27
      refine g_iconst (v := 0) hC dL_isWhole_57 (by decide) ?_
      obtain rfl := Option.some.inj h6
      obtain rfl := ou8 _ rfl
      obtain rfl := Option.some.inj hF
      refine g_widen (k' := 2731) (s' := 16386) (by omega) (by omega) ?_
      exact g_zret hC hEn (fSm.tr e23 p9) (nar_z (by decide)) dL_isWhole_58
    · replace h6 := fi_neg h6 c27
      refine g_aload_n hC dL_isWhole_47 rfl 0 rfl ?_
      refine g_iload hC dL_isWhole_48 10 rfl ?_
      refine g_iconst (v := 1) hC dL_isWhole_50 (by decide) ?_
      obtain ⟨r28, h29, h6⟩ := fb_open h6
      obtain ⟨v32, w33⟩ := r28
      refine g_callLk hC hL [.ref a0, .int s5.2.2.2.2.2.2.2.2.1, .int 1] (c_L_isHalf l D cy a0 s5.2.2.2.2.2.2.2.2.1 1 w26 (v32, w33) h29) (Or.inl rfl) (fun _ _ h => nomatch h) q_1213 q_72 q_1211 q_1212 h9_L_isHalf ⟨Nat.le_of_ble_eq_true rfl, Nat.le_of_ble_eq_true rfl⟩ 65 390 rfl rfl ⟨show (b18 + 65) + 65 ≤ 2731 from by omega, show (d18 + 390) + 390 ≤ 16386 from by omega⟩ (Nat.le_of_ble_eq_true rfl) rfl dL_isWhole_51 (fun z31 _ e30 => ?_)
      refine g_cs (b18 + 130) (d18 + 780) (show (b18 + 130) = (b18 + 65) + 65 from by omega) (show (d18 + 780) = (d18 + 390) + 390 from by omega) ?_
      show gAt X (b18 + 130) (d18 + 780) 20 w33 z31 gE0 [(0, .ref a0), (1, .int r1), (2, .int s5.1), (3, .int s5.2.1), (4, .int s5.2.2.1), (5, .int s5.2.2.2.1), (6, .int s5.2.2.2.2.1), (7, .int s5.2.2.2.2.2.1), (8, .int s5.2.2.2.2.2.2.1), (9, .int s5.2.2.2.2.2.2.2.1), (10, .int s5.2.2.2.2.2.2.2.2.1)] [.int v32] 54
      refine g_if_ne hC 59 dL_isWhole_54 (by decide) (fun c34 => ?_) (fun c34 => ?_)
      · replace h6 := fi_neg h6 c34
        refine g_aload_n hC dL_isWhole_59 rfl 0 rfl ?_
        refine g_iload hC dL_isWhole_60 10 rfl ?_
        refine g_iconst (v := 5) hC dL_isWhole_62 (by decide) ?_
        obtain ⟨r35, h36, h6⟩ := fb_open h6
        refine g_callLWk hC hL [.ref a0, .int s5.2.2.2.2.2.2.2.2.1, .int 5] (c_L_ticketOf l D cy a0 s5.2.2.2.2.2.2.2.2.1 5 w33 r35 h36) (Or.inl rfl) (fun _ _ h => nomatch h) q_1191 q_72 q_1189 q_1190 h9_L_ticketOf ⟨Nat.le_of_ble_eq_true rfl, Nat.le_of_ble_eq_true rfl⟩ 2 12 rfl rfl ⟨show (b18 + 130) + 2 ≤ 2731 from by omega, show (d18 + 780) + 12 ≤ 16386 from by omega⟩ (Nat.le_of_ble_eq_true rfl) rfl dL_isWhole_63 (fun z38 _ e37 => ?_)
        refine g_cs (b18 + 132) (d18 + 792) (show (b18 + 132) = (b18 + 130) + 2 from by omega) (show (d18 + 792) = (d18 + 780) + 12 from by omega) ?_
        show gAt X (b18 + 132) (d18 + 792) 20 w33 z38 gE0 [(0, .ref a0), (1, .int r1), (2, .int s5.1), (3, .int s5.2.1), (4, .int s5.2.2.1), (5, .int s5.2.2.2.1), (6, .int s5.2.2.2.2.1), (7, .int s5.2.2.2.2.2.1), (8, .int s5.2.2.2.2.2.2.1), (9, .int s5.2.2.2.2.2.2.2.1), (10, .int s5.2.2.2.2.2.2.2.2.1)] [.int r35] 66
        obtain ⟨x39, h40, h6⟩ := fb_open h6
        have K42 : ∀ z43, gAt X (b18 + 132) (d18 + 792) 20 w33 z43 gE0 [(0, .ref a0), (1, .int r1), (2, .int s5.1), (3, .int s5.2.1), (4, .int s5.2.2.1), (5, .int s5.2.2.2.1), (6, .int s5.2.2.2.2.1), (7, .int s5.2.2.2.2.2.1), (8, .int s5.2.2.2.2.2.2.1), (9, .int s5.2.2.2.2.2.2.2.1), (10, .int s5.2.2.2.2.2.2.2.2.1)] [.int x39] 74 := by
          intro z43
          refine g_istore (L' := [(11, .int x39), (0, .ref a0), (1, .int r1), (2, .int s5.1), (3, .int s5.2.1), (4, .int s5.2.2.1), (5, .int s5.2.2.2.1), (6, .int s5.2.2.2.2.1), (7, .int s5.2.2.2.2.2.1), (8, .int s5.2.2.2.2.2.2.1), (9, .int s5.2.2.2.2.2.2.2.1), (10, .int s5.2.2.2.2.2.2.2.2.1)]) hC dL_isWhole_74 (by decide) rfl ?_
          refine g_aload_n hC dL_isWhole_76 rfl 1 rfl ?_
          refine g_iload hC dL_isWhole_77 11 rfl ?_
          refine g_iconst (v := 0) hC dL_isWhole_79 (by decide) ?_
          refine g_iconst (v := 0) hC dL_isWhole_80 (by decide) ?_
          obtain ⟨r44, h45, h6⟩ := fb_open h6
          refine g_callLWk hC hL [.ref a0, .int s5.2.2.2.2.2.2.2.2.1, .int 0, .int 0] (c_L_halfOf l D cy a0 s5.2.2.2.2.2.2.2.2.1 0 0 w33 r44 h45) (Or.inl rfl) (fun _ _ h => nomatch h) q_315 q_72 q_313 q_314 h9_L_halfOf ⟨Nat.le_of_ble_eq_true rfl, Nat.le_of_ble_eq_true rfl⟩ 2 12 rfl rfl ⟨show (b18 + 132) + 2 ≤ 2731 from by omega, show (d18 + 792) + 12 ≤ 16386 from by omega⟩ (Nat.le_of_ble_eq_true rfl) rfl dL_isWhole_81 (fun z47 _ e46 => ?_)
          refine g_cs (b18 + 134) (d18 + 804) (show (b18 + 134) = (b18 + 132) + 2 from by omega) (show (d18 + 804) = (d18 + 792) + 12 from by omega) ?_
          show gAt X (b18 + 134) (d18 + 804) 20 w33 z47 gE0 [(11, .int x39), (0, .ref a0), (1, .int r1), (2, .int s5.1), (3, .int s5.2.1), (4, .int s5.2.2.1), (5, .int s5.2.2.2.1), (6, .int s5.2.2.2.2.1), (7, .int s5.2.2.2.2.2.1), (8, .int s5.2.2.2.2.2.2.1), (9, .int s5.2.2.2.2.2.2.2.1), (10, .int s5.2.2.2.2.2.2.2.2.1)] [.int r44] 84
          refine g_iconst (v := 1) hC dL_isWhole_84 (by decide) ?_
          obtain ⟨x48, h49, h6⟩ := fb_open h6
          have K51 : ∀ z52, gAt X (b18 + 136) (d18 + 816) 20 w33 z52 gE0 [(0, .ref a0), (1, .int r1), (2, .int s5.1), (3, .int s5.2.1), (4, .int s5.2.2.1), (5, .int s5.2.2.2.1), (6, .int s5.2.2.2.2.1), (7, .int s5.2.2.2.2.2.1), (8, .int s5.2.2.2.2.2.2.1), (9, .int s5.2.2.2.2.2.2.2.1), (10, .int s5.2.2.2.2.2.2.2.2.1), (11, .int x39)] [.int x48] 105 := by
            intro z52
            refine g_istore (L' := [(12, .int x48), (0, .ref a0), (1, .int r1), (2, .int s5.1), (3, .int s5.2.1), (4, .int s5.2.2.1), (5, .int s5.2.2.2.1), (6, .int s5.2.2.2.2.1), (7, .int s5.2.2.2.2.2.1), (8, .int s5.2.2.2.2.2.2.1), (9, .int s5.2.2.2.2.2.2.2.1), (10, .int s5.2.2.2.2.2.2.2.2.1), (11, .int x39)]) hC dL_isWhole_105 (by decide) rfl ?_
            refine g_iload hC dL_isWhole_107 0 rfl ?_
            refine g_istore (L' := [(13, .int x48), (12, .int x48), (0, .ref a0), (1, .int r1), (2, .int s5.1), (3, .int s5.2.1), (4, .int s5.2.2.1), (5, .int s5.2.2.2.1), (6, .int s5.2.2.2.2.1), (7, .int s5.2.2.2.2.2.1), (8, .int s5.2.2.2.2.2.2.1), (9, .int s5.2.2.2.2.2.2.2.1), (10, .int s5.2.2.2.2.2.2.2.2.1), (11, .int x39)]) hC dL_isWhole_109 (by decide) rfl ?_
            refine g_iconst (v := 0) hC dL_isWhole_111 (by decide) ?_
            refine g_istore (L' := [(14, .int 0), (13, .int x48), (12, .int x48), (0, .ref a0), (1, .int r1), (2, .int s5.1), (3, .int s5.2.1), (4, .int s5.2.2.1), (5, .int s5.2.2.2.1), (6, .int s5.2.2.2.2.1), (7, .int s5.2.2.2.2.2.1), (8, .int s5.2.2.2.2.2.2.1), (9, .int s5.2.2.2.2.2.2.2.1), (10, .int s5.2.2.2.2.2.2.2.2.1), (11, .int x39)]) hC dL_isWhole_112 (by decide) rfl ?_
            obtain ⟨x59, h60, h6⟩ := fb_open h6
            have K61 : ∀ z65, gAt X (b18 + 192) (d18 + 1152) 20 w33 z65 gE0 [(0, .ref a0), (1, .int r1), (2, .int s5.1), (3, .int s5.2.1), (4, .int s5.2.2.1), (5, .int s5.2.2.2.1), (6, .int s5.2.2.2.2.1), (7, .int s5.2.2.2.2.2.1), (8, .int s5.2.2.2.2.2.2.1), (9, .int s5.2.2.2.2.2.2.2.1), (10, .int s5.2.2.2.2.2.2.2.2.1), (11, .int x39), (13, .int x59)] [] 165 := by
              intro z65
              refine g_aload_n hC dL_isWhole_165 rfl 0 rfl ?_
              refine g_iload hC dL_isWhole_166 10 rfl ?_
              refine g_bipush (v := 6) hC dL_isWhole_168 (by decide) ?_
              obtain ⟨r83, h84, h6⟩ := fb_open h6
              refine g_callLWk hC hL [.ref a0, .int s5.2.2.2.2.2.2.2.2.1, .int 6] (c_L_ticketOf l D cy a0 s5.2.2.2.2.2.2.2.2.1 6 w33 r83 h84) (Or.inl rfl) (fun _ _ h => nomatch h) q_1191 q_72 q_1189 q_1190 h9_L_ticketOf ⟨Nat.le_of_ble_eq_true rfl, Nat.le_of_ble_eq_true rfl⟩ 2 12 rfl rfl ⟨show (b18 + 192) + 2 ≤ 2731 from by omega, show (d18 + 1152) + 12 ≤ 16386 from by omega⟩ (Nat.le_of_ble_eq_true rfl) rfl dL_isWhole_170 (fun z86 _ e85 => ?_)
              refine g_cs (b18 + 194) (d18 + 1164) (show (b18 + 194) = (b18 + 192) + 2 from by omega) (show (d18 + 1164) = (d18 + 1152) + 12 from by omega) ?_
              show gAt X (b18 + 194) (d18 + 1164) 20 w33 z86 gE0 [(0, .ref a0), (1, .int r1), (2, .int s5.1), (3, .int s5.2.1), (4, .int s5.2.2.1), (5, .int s5.2.2.2.1), (6, .int s5.2.2.2.2.1), (7, .int s5.2.2.2.2.2.1), (8, .int s5.2.2.2.2.2.2.1), (9, .int s5.2.2.2.2.2.2.2.1), (10, .int s5.2.2.2.2.2.2.2.2.1), (11, .int x39), (13, .int x59)] [.int r83] 173
              refine g_istore (L' := [(14, .int r83), (0, .ref a0), (1, .int r1), (2, .int s5.1), (3, .int s5.2.1), (4, .int s5.2.2.1), (5, .int s5.2.2.2.1), (6, .int s5.2.2.2.2.1), (7, .int s5.2.2.2.2.2.1), (8, .int s5.2.2.2.2.2.2.1), (9, .int s5.2.2.2.2.2.2.2.1), (10, .int s5.2.2.2.2.2.2.2.2.1), (11, .int x39), (13, .int x59)]) hC dL_isWhole_173 (by decide) rfl ?_
              refine g_iload hC dL_isWhole_175 0 rfl ?_
              obtain ⟨x87, h88, h6⟩ := fb_open h6
              have K90 : ∀ z91, gAt X (b18 + 197) (d18 + 1182) 20 w33 z91 gE0 [(0, .ref a0), (1, .int r1), (2, .int s5.1), (3, .int s5.2.1), (4, .int s5.2.2.1), (5, .int s5.2.2.2.1), (6, .int s5.2.2.2.2.1), (7, .int s5.2.2.2.2.2.1), (8, .int s5.2.2.2.2.2.2.1), (9, .int s5.2.2.2.2.2.2.2.1), (10, .int s5.2.2.2.2.2.2.2.2.1), (11, .int x39), (13, .int x59), (14, .int r83)] [.int x87] 205 := by
                intro z91
                refine g_istore (L' := [(15, .int x87), (0, .ref a0), (1, .int r1), (2, .int s5.1), (3, .int s5.2.1), (4, .int s5.2.2.1), (5, .int s5.2.2.2.1), (6, .int s5.2.2.2.2.1), (7, .int s5.2.2.2.2.2.1), (8, .int s5.2.2.2.2.2.2.1), (9, .int s5.2.2.2.2.2.2.2.1), (10, .int s5.2.2.2.2.2.2.2.2.1), (11, .int x39), (13, .int x59), (14, .int r83)]) hC dL_isWhole_205 (by decide) rfl ?_
                refine g_aload_n hC dL_isWhole_207 rfl 1 rfl ?_
                refine g_iload hC dL_isWhole_208 11 rfl ?_
                refine g_iconst (v := 0) hC dL_isWhole_210 (by decide) ?_
                obtain ⟨r92, h93, h6⟩ := fb_open h6
                refine g_callLWk hC hL [.ref a0, .int s5.2.2.2.2.2.2.2.2.1, .int 0] (c_L_doAgree l D cy a0 s5.2.2.2.2.2.2.2.2.1 0 w33 r92 h93) (Or.inl rfl) (fun _ _ h => nomatch h) q_1275 q_72 q_1273 q_1274 h9_L_doAgree ⟨Nat.le_of_ble_eq_true rfl, Nat.le_of_ble_eq_true rfl⟩ 1 6 rfl rfl ⟨show (b18 + 197) + 1 ≤ 2731 from by omega, show (d18 + 1182) + 6 ≤ 16386 from by omega⟩ (Nat.le_of_ble_eq_true rfl) rfl dL_isWhole_211 (fun z95 _ e94 => ?_)
                refine g_cs (b18 + 198) (d18 + 1188) (show (b18 + 198) = (b18 + 197) + 1 from by omega) (show (d18 + 1188) = (d18 + 1182) + 6 from by omega) ?_
                show gAt X (b18 + 198) (d18 + 1188) 20 w33 z95 gE0 [(15, .int x87), (0, .ref a0), (1, .int r1), (2, .int s5.1), (3, .int s5.2.1), (4, .int s5.2.2.1), (5, .int s5.2.2.2.1), (6, .int s5.2.2.2.2.1), (7, .int s5.2.2.2.2.2.1), (8, .int s5.2.2.2.2.2.2.1), (9, .int s5.2.2.2.2.2.2.2.1), (10, .int s5.2.2.2.2.2.2.2.2.1), (11, .int x39), (13, .int x59), (14, .int r83)] [.int r92] 214
                refine g_iload hC dL_isWhole_214 13 rfl ?_
                obtain ⟨x96, h97, h6⟩ := fb_open h6
                have K99 : ∀ z100, gAt X (b18 + 198) (d18 + 1188) 20 w33 z100 gE0 [(0, .ref a0), (1, .int r1), (2, .int s5.1), (3, .int s5.2.1), (4, .int s5.2.2.1), (5, .int s5.2.2.2.1), (6, .int s5.2.2.2.2.1), (7, .int s5.2.2.2.2.2.1), (8, .int s5.2.2.2.2.2.2.1), (9, .int s5.2.2.2.2.2.2.2.1), (10, .int s5.2.2.2.2.2.2.2.2.1), (11, .int x39), (13, .int x59), (14, .int r83), (15, .int x87)] [.int x96, .int r92] 224 := by
                  intro z100
                  obtain ⟨x101, h102, h6⟩ := fb_open h6
                  have K104 : ∀ z105, gAt X (b18 + 205) (d18 + 1230) 20 w33 z105 gE0 [(0, .ref a0), (1, .int r1), (2, .int s5.1), (3, .int s5.2.1), (4, .int s5.2.2.1), (5, .int s5.2.2.2.1), (6, .int s5.2.2.2.2.1), (7, .int s5.2.2.2.2.2.1), (8, .int s5.2.2.2.2.2.2.1), (9, .int s5.2.2.2.2.2.2.2.1), (10, .int s5.2.2.2.2.2.2.2.2.1), (11, .int x39)] [.int x101] 311 := by
                    intro z105
                    refine g_istore (L' := [(16, .int x101), (0, .ref a0), (1, .int r1), (2, .int s5.1), (3, .int s5.2.1), (4, .int s5.2.2.1), (5, .int s5.2.2.2.1), (6, .int s5.2.2.2.2.1), (7, .int s5.2.2.2.2.2.1), (8, .int s5.2.2.2.2.2.2.1), (9, .int s5.2.2.2.2.2.2.2.1), (10, .int s5.2.2.2.2.2.2.2.2.1), (11, .int x39)]) hC dL_isWhole_311 (by decide) rfl ?_
                    refine g_iload hC dL_isWhole_313 12 rfl ?_
                    obtain ⟨x106, h107, h6⟩ := fb_open h6
                    have K109 : ∀ z110, gAt X (b18 + 213) (d18 + 1278) 20 w33 z110 gE0 [(0, .ref a0), (1, .int r1), (2, .int s5.1), (3, .int s5.2.1), (4, .int s5.2.2.1), (5, .int s5.2.2.2.1), (6, .int s5.2.2.2.2.1), (7, .int s5.2.2.2.2.2.1), (8, .int s5.2.2.2.2.2.2.1), (9, .int s5.2.2.2.2.2.2.2.1), (10, .int s5.2.2.2.2.2.2.2.2.1), (11, .int x39), (16, .int x101)] [.int x106] 368 := by
                      intro z110
                      refine g_istore (L' := [(17, .int x106), (0, .ref a0), (1, .int r1), (2, .int s5.1), (3, .int s5.2.1), (4, .int s5.2.2.1), (5, .int s5.2.2.2.1), (6, .int s5.2.2.2.2.1), (7, .int s5.2.2.2.2.2.1), (8, .int s5.2.2.2.2.2.2.1), (9, .int s5.2.2.2.2.2.2.2.1), (10, .int s5.2.2.2.2.2.2.2.2.1), (11, .int x39), (16, .int x101)]) hC dL_isWhole_368 (by decide) rfl ?_
                      refine g_iload hC dL_isWhole_370 13 rfl ?_
                      refine g_if_eq hC 391 dL_isWhole_372 (by decide) (fun c111 => ?_) (fun c111 => ?_)
                      · replace h6 := fi_pos h6 c111
                        refine g_iconst (v := 0) hC dL_isWhole_391 (by decide) ?_
                        obtain rfl := Option.some.inj h6
                        obtain rfl := ou8 _ rfl
                        obtain rfl := Option.some.inj hF
                        refine g_widen (k' := 2731) (s' := 16386) (by omega) (by omega) ?_
                        exact g_zret hC hEn (fSm.tr e30 (fSm.tr e23 p9)) (nar_z (by decide)) dL_isWhole_392
                      · replace h6 := fi_neg h6 c111
                        refine g_iload hC dL_isWhole_375 0 rfl ?_
                        refine g_if_eq hC 391 dL_isWhole_377 (by decide) (fun c112 => ?_) (fun c112 => ?_)
                        · replace h6 := fi_pos h6 c112
                          refine g_iconst (v := 0) hC dL_isWhole_391 (by decide) ?_
                          obtain rfl := Option.some.inj h6
                          obtain rfl := ou8 _ rfl
                          obtain rfl := Option.some.inj hF
                          refine g_widen (k' := 2731) (s' := 16386) (by omega) (by omega) ?_
                          exact g_zret hC hEn (fSm.tr e30 (fSm.tr e23 p9)) (nar_z (by decide)) dL_isWhole_392
                        · replace h6 := fi_neg h6 c112
                          refine g_aload_n hC dL_isWhole_380 rfl 1 rfl ?_
                          refine g_iload hC dL_isWhole_381 11 rfl ?_
                          obtain ⟨r113, h114, h6⟩ := fb_open h6
                          obtain ⟨v117, w118⟩ := r113
                          refine g_callLWk hC hL [.ref a0, .int s5.2.2.2.2.2.2.2.2.1] (c_L_line l D cy a0 s5.2.2.2.2.2.2.2.2.1 w33 (v117, w118) h114) (Or.inl rfl) (fun _ _ h => nomatch h) q_1304 q_72 q_1302 q_1303 h9_L_line ⟨Nat.le_of_ble_eq_true rfl, Nat.le_of_ble_eq_true rfl⟩ 1 6 rfl rfl ⟨show (b18 + 213) + 1 ≤ 2731 from by omega, show (d18 + 1278) + 6 ≤ 16386 from by omega⟩ (Nat.le_of_ble_eq_true rfl) rfl dL_isWhole_383 (fun z116 _ e115 => ?_)
                          refine g_cs (b18 + 214) (d18 + 1284) (show (b18 + 214) = (b18 + 213) + 1 from by omega) (show (d18 + 1284) = (d18 + 1278) + 6 from by omega) ?_
                          show gAt X (b18 + 214) (d18 + 1284) 20 w118 z116 gE0 [(17, .int x106), (0, .ref a0), (1, .int r1), (2, .int s5.1), (3, .int s5.2.1), (4, .int s5.2.2.1), (5, .int s5.2.2.2.1), (6, .int s5.2.2.2.2.1), (7, .int s5.2.2.2.2.2.1), (8, .int s5.2.2.2.2.2.2.1), (9, .int s5.2.2.2.2.2.2.2.1), (10, .int s5.2.2.2.2.2.2.2.2.1), (11, .int x39), (16, .int x101)] [.int v117] 386
                          refine g_bipush (v := 7) hC dL_isWhole_386 (by decide) ?_
                          refine g_icmp_ge hC 393 dL_isWhole_388 (by decide) (fun c119 => ?_) (fun c119 => ?_)
                          · replace h6 := fi_pos h6 c119
                            refine g_iconst (v := 0) hC dL_isWhole_393 (by decide) ?_
                            refine g_istore (L' := [(18, .int 0), (17, .int x106), (0, .ref a0), (1, .int r1), (2, .int s5.1), (3, .int s5.2.1), (4, .int s5.2.2.1), (5, .int s5.2.2.2.1), (6, .int s5.2.2.2.2.1), (7, .int s5.2.2.2.2.2.1), (8, .int s5.2.2.2.2.2.2.1), (9, .int s5.2.2.2.2.2.2.2.1), (10, .int s5.2.2.2.2.2.2.2.2.1), (11, .int x39), (16, .int x101)]) hC dL_isWhole_394 (by decide) rfl ?_
                            obtain ⟨x126, h127, h6⟩ := fb_open h6
                            have K128 : ∀ z132, gAt X (b18 + 256) (d18 + 1536) 20 w118 z132 gE0 [(0, .ref a0), (1, .int r1), (2, .int s5.1), (3, .int x126.1), (4, .int x126.2.1), (5, .int x126.2.2.1), (6, .int x126.2.2.2.1), (7, .int x126.2.2.2.2), (8, .int s5.2.2.2.2.2.2.1), (9, .int s5.2.2.2.2.2.2.2.1), (10, .int s5.2.2.2.2.2.2.2.2.1), (11, .int x39)] [] 518 := by
                              intro z132
                              refine g_iload_n hC dL_isWhole_518 rfl 2 rfl ?_
                              refine g_iload hC dL_isWhole_519 11 rfl ?_
                              obtain ⟨x172, h173, h6⟩ := fb_open h6
                              have K175 : ∀ z176, gAt X (b18 + 256) (d18 + 1536) 20 w118 z176 gE0 [(0, .ref a0), (1, .int r1), (3, .int x126.1), (4, .int x126.2.1), (5, .int x126.2.2.1), (6, .int x126.2.2.2.1), (7, .int x126.2.2.2.2), (8, .int s5.2.2.2.2.2.2.1), (9, .int s5.2.2.2.2.2.2.2.1), (10, .int s5.2.2.2.2.2.2.2.2.1)] [.int x172, .int s5.1] 529 := by
                                intro z176
                                refine g_iadd hC dL_isWhole_529 ?_
                                refine g_istore_n (L' := [(2, .int (s5.1 + x172)), (0, .ref a0), (1, .int r1), (3, .int x126.1), (4, .int x126.2.1), (5, .int x126.2.2.1), (6, .int x126.2.2.2.1), (7, .int x126.2.2.2.2), (8, .int s5.2.2.2.2.2.2.1), (9, .int s5.2.2.2.2.2.2.2.1), (10, .int s5.2.2.2.2.2.2.2.2.1)]) hC dL_isWhole_530 rfl (by decide) rfl ?_
                                refine g_iload hC dL_isWhole_531 8 rfl ?_
                                refine g_aload_n hC dL_isWhole_533 rfl 1 rfl ?_
                                refine g_iload hC dL_isWhole_534 10 rfl ?_
                                refine g_iconst (v := 0) hC dL_isWhole_536 (by decide) ?_
                                obtain ⟨r177, h178, h6⟩ := fb_open h6
                                refine g_callLWk hC hL [.ref a0, .int s5.2.2.2.2.2.2.2.2.1, .int 0] (c_L_ticketOf l D cy a0 s5.2.2.2.2.2.2.2.2.1 0 w118 r177 h178) (Or.inl rfl) (fun _ _ h => nomatch h) q_1191 q_72 q_1189 q_1190 h9_L_ticketOf ⟨Nat.le_of_ble_eq_true rfl, Nat.le_of_ble_eq_true rfl⟩ 2 12 rfl rfl ⟨show (b18 + 256) + 2 ≤ 2731 from by omega, show (d18 + 1536) + 12 ≤ 16386 from by omega⟩ (Nat.le_of_ble_eq_true rfl) rfl dL_isWhole_537 (fun z180 _ e179 => ?_)
                                refine g_cs (b18 + 258) (d18 + 1548) (show (b18 + 258) = (b18 + 256) + 2 from by omega) (show (d18 + 1548) = (d18 + 1536) + 12 from by omega) ?_
                                show gAt X (b18 + 258) (d18 + 1548) 20 w118 z180 gE0 [(2, .int (s5.1 + x172)), (0, .ref a0), (1, .int r1), (3, .int x126.1), (4, .int x126.2.1), (5, .int x126.2.2.1), (6, .int x126.2.2.2.1), (7, .int x126.2.2.2.2), (8, .int s5.2.2.2.2.2.2.1), (9, .int s5.2.2.2.2.2.2.2.1), (10, .int s5.2.2.2.2.2.2.2.2.1)] [.int r177, .int s5.2.2.2.2.2.2.1] 540
                                refine g_iadd hC dL_isWhole_540 ?_
                                refine g_istore (L' := [(8, .int (s5.2.2.2.2.2.2.1 + r177)), (2, .int (s5.1 + x172)), (0, .ref a0), (1, .int r1), (3, .int x126.1), (4, .int x126.2.1), (5, .int x126.2.2.1), (6, .int x126.2.2.2.1), (7, .int x126.2.2.2.2), (9, .int s5.2.2.2.2.2.2.2.1), (10, .int s5.2.2.2.2.2.2.2.2.1)]) hC dL_isWhole_541 (by decide) rfl ?_
                                refine g_iload hC dL_isWhole_543 9 rfl ?_
                                refine g_sipush (v := 840) hC dL_isWhole_545 (by decide) ?_
                                refine g_aload_n hC dL_isWhole_548 rfl 2 rfl ?_
                                refine g_iload hC dL_isWhole_549 10 rfl ?_
                                obtain ⟨r181, h182, h6⟩ := fb_open h6
                                refine g_callLWk hC hL [.ref a0, .int s5.2.2.2.2.2.2.2.2.1] (c_L_sharing l D cy a0 s5.2.2.2.2.2.2.2.2.1 w118 r181 h182) (Or.inl rfl) (fun _ _ h => nomatch h) q_1263 q_72 q_1261 q_1262 h9_L_sharing ⟨Nat.le_of_ble_eq_true rfl, Nat.le_of_ble_eq_true rfl⟩ 1 6 rfl rfl ⟨show (b18 + 258) + 1 ≤ 2731 from by omega, show (d18 + 1548) + 6 ≤ 16386 from by omega⟩ (Nat.le_of_ble_eq_true rfl) rfl dL_isWhole_551 (fun z184 _ e183 => ?_)
                                refine g_cs (b18 + 259) (d18 + 1554) (show (b18 + 259) = (b18 + 258) + 1 from by omega) (show (d18 + 1554) = (d18 + 1548) + 6 from by omega) ?_
                                show gAt X (b18 + 259) (d18 + 1554) 20 w118 z184 gE0 [(8, .int (s5.2.2.2.2.2.2.1 + r177)), (2, .int (s5.1 + x172)), (0, .ref a0), (1, .int r1), (3, .int x126.1), (4, .int x126.2.1), (5, .int x126.2.2.1), (6, .int x126.2.2.2.1), (7, .int x126.2.2.2.2), (9, .int s5.2.2.2.2.2.2.2.1), (10, .int s5.2.2.2.2.2.2.2.2.1)] [.int r181, .int 840, .int s5.2.2.2.2.2.2.2.1] 554
                                obtain ⟨g185, h6⟩ := fg_open h6
                                refine g_idiv hC dL_isWhole_554 g185 ?_
                                refine g_iadd hC dL_isWhole_555 ?_
                                refine g_istore (L' := [(9, .int (s5.2.2.2.2.2.2.2.1 + (840 / r181))), (8, .int (s5.2.2.2.2.2.2.1 + r177)), (2, .int (s5.1 + x172)), (0, .ref a0), (1, .int r1), (3, .int x126.1), (4, .int x126.2.1), (5, .int x126.2.2.1), (6, .int x126.2.2.2.1), (7, .int x126.2.2.2.2), (10, .int s5.2.2.2.2.2.2.2.2.1)]) hC dL_isWhole_556 (by decide) rfl ?_
                                refine g_iinc (L' := [(10, .int (s5.2.2.2.2.2.2.2.2.1 + 1)), (9, .int (s5.2.2.2.2.2.2.2.1 + (840 / r181))), (8, .int (s5.2.2.2.2.2.2.1 + r177)), (2, .int (s5.1 + x172)), (0, .ref a0), (1, .int r1), (3, .int x126.1), (4, .int x126.2.1), (5, .int x126.2.2.1), (6, .int x126.2.2.2.1), (7, .int x126.2.2.2.2)]) hC dL_isWhole_558 10 rfl rfl (by decide) rfl ?_
                                refine g_goto hC 31 dL_isWhole_561 (by decide) ?_
                                obtain rfl := Option.some.inj h6
                                refine g_sub (L' := [(0, .ref a0), (1, .int r1), (2, .int (s5.1 + x172)), (3, .int x126.1), (4, .int x126.2.1), (5, .int x126.2.2.1), (6, .int x126.2.2.2.1), (7, .int x126.2.2.2.2), (8, .int (s5.2.2.2.2.2.2.1 + r177)), (9, .int (s5.2.2.2.2.2.2.2.1 + (840 / r181))), (10, .int (s5.2.2.2.2.2.2.2.2.1 + 1))]) [4, 5, 3, 6, 7, 8, 9, 10, 2, 1, 0] rfl ?_
                                exact go7 ((s5.1 + x172), x126.1, x126.2.1, x126.2.2.1, x126.2.2.2.1, x126.2.2.2.2, (s5.2.2.2.2.2.2.1 + r177), (s5.2.2.2.2.2.2.2.1 + (840 / r181)), (s5.2.2.2.2.2.2.2.2.1 + 1), w118) rfl _ _ ⟨by omega, by omega⟩ _ (fSm.tr e115 (fSm.tr e30 (fSm.tr e23 p9)))
                              refine g_if_eq hC 528 dL_isWhole_521 (by decide) (fun c186 => ?_) (fun c186 => ?_)
                              · replace h173 := fi_pos h173 c186
                                refine g_iconst (v := 1) hC dL_isWhole_528 (by decide) ?_
                                obtain rfl := Option.some.inj h173
                                refine g_sub (L' := [(0, .ref a0), (1, .int r1), (3, .int x126.1), (4, .int x126.2.1), (5, .int x126.2.2.1), (6, .int x126.2.2.2.1), (7, .int x126.2.2.2.2), (8, .int s5.2.2.2.2.2.2.1), (9, .int s5.2.2.2.2.2.2.2.1), (10, .int s5.2.2.2.2.2.2.2.2.1)]) [0, 1, 3, 4, 5, 6, 7, 8, 9, 10] rfl ?_
                                exact K175 _
                              · replace h173 := fi_neg h173 c186
                                refine g_iconst (v := 0) hC dL_isWhole_524 (by decide) ?_
                                refine g_goto hC 529 dL_isWhole_525 (by decide) ?_
                                obtain rfl := Option.some.inj h173
                                refine g_sub (L' := [(0, .ref a0), (1, .int r1), (3, .int x126.1), (4, .int x126.2.1), (5, .int x126.2.2.1), (6, .int x126.2.2.2.1), (7, .int x126.2.2.2.2), (8, .int s5.2.2.2.2.2.2.1), (9, .int s5.2.2.2.2.2.2.2.1), (10, .int s5.2.2.2.2.2.2.2.2.1)]) [0, 1, 3, 4, 5, 6, 7, 8, 9, 10] rfl ?_
                                exact K175 _
                            refine g_sub (L' := [(0, .ref a0), (1, .int r1), (2, .int s5.1), (3, .int s5.2.1), (4, .int s5.2.2.1), (5, .int s5.2.2.2.1), (6, .int s5.2.2.2.2.1), (7, .int s5.2.2.2.2.2.1), (8, .int s5.2.2.2.2.2.2.1), (9, .int s5.2.2.2.2.2.2.2.1), (10, .int s5.2.2.2.2.2.2.2.2.1), (11, .int x39), (18, .int 0)]) [2, 3, 4, 5, 6, 7, 8, 9, 10, 11, 12, 13, 0] rfl ?_
                            refine fLoopB_use h127 (fun (n129 : Nat) (s120 : Int32 × Int32 × Int32 × Int32 × Int32 × Int32) => ∀ b133 d133 : Nat, b133 + n129 * 14 ≤ (b18 + 256) ∧ d133 + n129 * 84 ≤ (d18 + 1536) → ∀ z131 : Nat, gAt X b133 d133 20 w118 z131 gE0 [(0, .ref a0), (1, .int r1), (2, .int s5.1), (3, .int s120.1), (4, .int s120.2.1), (5, .int s120.2.2.1), (6, .int s120.2.2.2.1), (7, .int s120.2.2.2.2.1), (8, .int s5.2.2.2.2.2.2.1), (9, .int s5.2.2.2.2.2.2.2.1), (10, .int s5.2.2.2.2.2.2.2.2.1), (11, .int x39), (18, .int s120.2.2.2.2.2)] [] 396) (fun n129 s120 y125 h121 go122 ou123 => ?_) (b18 + 214) (d18 + 1284) ⟨bud3 b18 214 (3 * 14) 256 rfl, bud3 d18 1284 (3 * 84) 1536 rfl⟩ _
                            intro b133 d133 k134 z131
                            obtain ⟨k134, k134'⟩ := k134
                            refine g_iload hC dL_isWhole_396 12 rfl ?_
                            refine g_iconst (v := 2) hC dL_isWhole_398 (by decide) ?_
                            refine g_icmp_ge hC 518 dL_isWhole_399 (by decide) (fun c135 => ?_) (fun c135 => ?_)
                            · replace h121 := fi_pos h121 c135
                              obtain rfl := Option.some.inj h121
                              obtain rfl := ou123 _ rfl
                              refine g_sub (L' := [(0, .ref a0), (1, .int r1), (2, .int s5.1), (3, .int s120.1), (4, .int s120.2.1), (5, .int s120.2.2.1), (6, .int s120.2.2.2.1), (7, .int s120.2.2.2.2.1), (8, .int s5.2.2.2.2.2.2.1), (9, .int s5.2.2.2.2.2.2.2.1), (10, .int s5.2.2.2.2.2.2.2.2.1), (11, .int x39)]) [0, 1, 2, 3, 4, 5, 6, 7, 8, 9, 10, 11] rfl ?_
                              refine g_widen (k' := (b18 + 256)) (s' := (d18 + 1536)) (by omega) (by omega) ?_
                              exact K128 _
                            · replace h121 := fi_neg h121 c135
                              refine g_iload hC dL_isWhole_402 12 rfl ?_
                              refine g_iconst (v := 1) hC dL_isWhole_404 (by decide) ?_
                              obtain ⟨x136, h137, h121⟩ := fb_open h121
                              have K139 : ∀ z140, gAt X b133 d133 20 w118 z140 gE0 [(0, .ref a0), (1, .int r1), (2, .int s5.1), (3, .int s120.1), (4, .int s120.2.1), (5, .int s120.2.2.1), (6, .int s120.2.2.2.1), (7, .int s120.2.2.2.2.1), (8, .int s5.2.2.2.2.2.2.1), (9, .int s5.2.2.2.2.2.2.2.1), (10, .int s5.2.2.2.2.2.2.2.2.1), (11, .int x39), (18, .int s120.2.2.2.2.2)] [.int x136] 413 := by
                                intro z140
                                refine g_istore (L' := [(19, .int x136), (0, .ref a0), (1, .int r1), (2, .int s5.1), (3, .int s120.1), (4, .int s120.2.1), (5, .int s120.2.2.1), (6, .int s120.2.2.2.1), (7, .int s120.2.2.2.2.1), (8, .int s5.2.2.2.2.2.2.1), (9, .int s5.2.2.2.2.2.2.2.1), (10, .int s5.2.2.2.2.2.2.2.2.1), (11, .int x39), (18, .int s120.2.2.2.2.2)]) hC dL_isWhole_413 (by decide) rfl ?_
                                refine g_iload_n hC dL_isWhole_415 rfl 4 rfl ?_
                                refine g_aload_n hC dL_isWhole_416 rfl 1 rfl ?_
                                refine g_iload hC dL_isWhole_417 11 rfl ?_
                                refine g_iload hC dL_isWhole_419 0 rfl ?_
                                refine g_iconst (v := 5) hC dL_isWhole_421 (by decide) ?_
                                obtain ⟨r141, h142, h121⟩ := fb_open h121
                                refine g_callLWk hC hL [.ref a0, .int s5.2.2.2.2.2.2.2.2.1, .int x136, .int 5] (c_L_halfOf l D cy a0 s5.2.2.2.2.2.2.2.2.1 x136 5 w118 r141 h142) (Or.inl rfl) (fun _ _ h => nomatch h) q_315 q_72 q_313 q_314 h9_L_halfOf ⟨Nat.le_of_ble_eq_true rfl, Nat.le_of_ble_eq_true rfl⟩ 2 12 rfl rfl ⟨show b133 + 2 ≤ 2731 from by omega, show d133 + 12 ≤ 16386 from by omega⟩ (Nat.le_of_ble_eq_true rfl) rfl dL_isWhole_422 (fun z144 _ e143 => ?_)
                                refine g_cs (b133 + 2) (d133 + 12) (show (b133 + 2) = b133 + 2 from by omega) (show (d133 + 12) = d133 + 12 from by omega) ?_
                                show gAt X (b133 + 2) (d133 + 12) 20 w118 z144 gE0 [(19, .int x136), (0, .ref a0), (1, .int r1), (2, .int s5.1), (3, .int s120.1), (4, .int s120.2.1), (5, .int s120.2.2.1), (6, .int s120.2.2.2.1), (7, .int s120.2.2.2.2.1), (8, .int s5.2.2.2.2.2.2.1), (9, .int s5.2.2.2.2.2.2.2.1), (10, .int s5.2.2.2.2.2.2.2.2.1), (11, .int x39), (18, .int s120.2.2.2.2.2)] [.int r141, .int s120.1] 425
                                refine g_iadd hC dL_isWhole_425 ?_
                                refine g_istore_n (L' := [(3, .int (s120.1 + r141)), (19, .int x136), (0, .ref a0), (1, .int r1), (2, .int s5.1), (4, .int s120.2.1), (5, .int s120.2.2.1), (6, .int s120.2.2.2.1), (7, .int s120.2.2.2.2.1), (8, .int s5.2.2.2.2.2.2.1), (9, .int s5.2.2.2.2.2.2.2.1), (10, .int s5.2.2.2.2.2.2.2.2.1), (11, .int x39), (18, .int s120.2.2.2.2.2)]) hC dL_isWhole_426 rfl (by decide) rfl ?_
                                refine g_iload hC dL_isWhole_427 5 rfl ?_
                                refine g_aload_n hC dL_isWhole_429 rfl 2 rfl ?_
                                refine g_iload hC dL_isWhole_430 11 rfl ?_
                                refine g_iload hC dL_isWhole_432 1 rfl ?_
                                refine g_iconst (v := 0) hC dL_isWhole_434 (by decide) ?_
                                obtain ⟨r145, h146, h121⟩ := fb_open h121
                                refine g_callLWk hC hL [.ref a0, .int s5.2.2.2.2.2.2.2.2.1, .int x136, .int 0] (c_L_halfOf l D cy a0 s5.2.2.2.2.2.2.2.2.1 x136 0 w118 r145 h146) (Or.inl rfl) (fun _ _ h => nomatch h) q_315 q_72 q_313 q_314 h9_L_halfOf ⟨Nat.le_of_ble_eq_true rfl, Nat.le_of_ble_eq_true rfl⟩ 2 12 rfl rfl ⟨show (b133 + 2) + 2 ≤ 2731 from by omega, show (d133 + 12) + 12 ≤ 16386 from by omega⟩ (Nat.le_of_ble_eq_true rfl) rfl dL_isWhole_435 (fun z148 _ e147 => ?_)
                                refine g_cs (b133 + 4) (d133 + 24) (show (b133 + 4) = (b133 + 2) + 2 from by omega) (show (d133 + 24) = (d133 + 12) + 12 from by omega) ?_
                                show gAt X (b133 + 4) (d133 + 24) 20 w118 z148 gE0 [(3, .int (s120.1 + r141)), (19, .int x136), (0, .ref a0), (1, .int r1), (2, .int s5.1), (4, .int s120.2.1), (5, .int s120.2.2.1), (6, .int s120.2.2.2.1), (7, .int s120.2.2.2.2.1), (8, .int s5.2.2.2.2.2.2.1), (9, .int s5.2.2.2.2.2.2.2.1), (10, .int s5.2.2.2.2.2.2.2.2.1), (11, .int x39), (18, .int s120.2.2.2.2.2)] [.int r145, .int s120.2.1] 438
                                refine g_iadd hC dL_isWhole_438 ?_
                                refine g_istore (L' := [(4, .int (s120.2.1 + r145)), (3, .int (s120.1 + r141)), (19, .int x136), (0, .ref a0), (1, .int r1), (2, .int s5.1), (5, .int s120.2.2.1), (6, .int s120.2.2.2.1), (7, .int s120.2.2.2.2.1), (8, .int s5.2.2.2.2.2.2.1), (9, .int s5.2.2.2.2.2.2.2.1), (10, .int s5.2.2.2.2.2.2.2.2.1), (11, .int x39), (18, .int s120.2.2.2.2.2)]) hC dL_isWhole_439 (by decide) rfl ?_
                                refine g_iload hC dL_isWhole_441 6 rfl ?_
                                refine g_aload_n hC dL_isWhole_443 rfl 3 rfl ?_
                                refine g_iload hC dL_isWhole_444 11 rfl ?_
                                refine g_iload hC dL_isWhole_446 2 rfl ?_
                                refine g_iconst (v := 4) hC dL_isWhole_448 (by decide) ?_
                                obtain ⟨r149, h150, h121⟩ := fb_open h121
                                refine g_callLWk hC hL [.ref a0, .int s5.2.2.2.2.2.2.2.2.1, .int x136, .int 4] (c_L_halfOf l D cy a0 s5.2.2.2.2.2.2.2.2.1 x136 4 w118 r149 h150) (Or.inl rfl) (fun _ _ h => nomatch h) q_315 q_72 q_313 q_314 h9_L_halfOf ⟨Nat.le_of_ble_eq_true rfl, Nat.le_of_ble_eq_true rfl⟩ 2 12 rfl rfl ⟨show (b133 + 4) + 2 ≤ 2731 from by omega, show (d133 + 24) + 12 ≤ 16386 from by omega⟩ (Nat.le_of_ble_eq_true rfl) rfl dL_isWhole_449 (fun z152 _ e151 => ?_)
                                refine g_cs (b133 + 6) (d133 + 36) (show (b133 + 6) = (b133 + 4) + 2 from by omega) (show (d133 + 36) = (d133 + 24) + 12 from by omega) ?_
                                show gAt X (b133 + 6) (d133 + 36) 20 w118 z152 gE0 [(4, .int (s120.2.1 + r145)), (3, .int (s120.1 + r141)), (19, .int x136), (0, .ref a0), (1, .int r1), (2, .int s5.1), (5, .int s120.2.2.1), (6, .int s120.2.2.2.1), (7, .int s120.2.2.2.2.1), (8, .int s5.2.2.2.2.2.2.1), (9, .int s5.2.2.2.2.2.2.2.1), (10, .int s5.2.2.2.2.2.2.2.2.1), (11, .int x39), (18, .int s120.2.2.2.2.2)] [.int r149, .int s120.2.2.1] 452
                                refine g_iadd hC dL_isWhole_452 ?_
                                refine g_istore (L' := [(5, .int (s120.2.2.1 + r149)), (4, .int (s120.2.1 + r145)), (3, .int (s120.1 + r141)), (19, .int x136), (0, .ref a0), (1, .int r1), (2, .int s5.1), (6, .int s120.2.2.2.1), (7, .int s120.2.2.2.2.1), (8, .int s5.2.2.2.2.2.2.1), (9, .int s5.2.2.2.2.2.2.2.1), (10, .int s5.2.2.2.2.2.2.2.2.1), (11, .int x39), (18, .int s120.2.2.2.2.2)]) hC dL_isWhole_453 (by decide) rfl ?_
                                refine g_iload hC dL_isWhole_455 7 rfl ?_
                                refine g_aload_n hC dL_isWhole_457 rfl 4 rfl ?_
                                refine g_iload hC dL_isWhole_458 11 rfl ?_
                                refine g_iload hC dL_isWhole_460 3 rfl ?_
                                refine g_iconst (v := 2) hC dL_isWhole_462 (by decide) ?_
                                obtain ⟨r153, h154, h121⟩ := fb_open h121
                                refine g_callLWk hC hL [.ref a0, .int s5.2.2.2.2.2.2.2.2.1, .int x136, .int 2] (c_L_halfOf l D cy a0 s5.2.2.2.2.2.2.2.2.1 x136 2 w118 r153 h154) (Or.inl rfl) (fun _ _ h => nomatch h) q_315 q_72 q_313 q_314 h9_L_halfOf ⟨Nat.le_of_ble_eq_true rfl, Nat.le_of_ble_eq_true rfl⟩ 2 12 rfl rfl ⟨show (b133 + 6) + 2 ≤ 2731 from by omega, show (d133 + 36) + 12 ≤ 16386 from by omega⟩ (Nat.le_of_ble_eq_true rfl) rfl dL_isWhole_463 (fun z156 _ e155 => ?_)
                                refine g_cs (b133 + 8) (d133 + 48) (show (b133 + 8) = (b133 + 6) + 2 from by omega) (show (d133 + 48) = (d133 + 36) + 12 from by omega) ?_
                                show gAt X (b133 + 8) (d133 + 48) 20 w118 z156 gE0 [(5, .int (s120.2.2.1 + r149)), (4, .int (s120.2.1 + r145)), (3, .int (s120.1 + r141)), (19, .int x136), (0, .ref a0), (1, .int r1), (2, .int s5.1), (6, .int s120.2.2.2.1), (7, .int s120.2.2.2.2.1), (8, .int s5.2.2.2.2.2.2.1), (9, .int s5.2.2.2.2.2.2.2.1), (10, .int s5.2.2.2.2.2.2.2.2.1), (11, .int x39), (18, .int s120.2.2.2.2.2)] [.int r153, .int s120.2.2.2.1] 466
                                refine g_iadd hC dL_isWhole_466 ?_
                                refine g_istore (L' := [(6, .int (s120.2.2.2.1 + r153)), (5, .int (s120.2.2.1 + r149)), (4, .int (s120.2.1 + r145)), (3, .int (s120.1 + r141)), (19, .int x136), (0, .ref a0), (1, .int r1), (2, .int s5.1), (7, .int s120.2.2.2.2.1), (8, .int s5.2.2.2.2.2.2.1), (9, .int s5.2.2.2.2.2.2.2.1), (10, .int s5.2.2.2.2.2.2.2.2.1), (11, .int x39), (18, .int s120.2.2.2.2.2)]) hC dL_isWhole_467 (by decide) rfl ?_
                                refine g_iload hC dL_isWhole_469 8 rfl ?_
                                refine g_aload_n hC dL_isWhole_471 rfl 5 rfl ?_
                                refine g_iload hC dL_isWhole_472 11 rfl ?_
                                refine g_iload hC dL_isWhole_474 4 rfl ?_
                                refine g_iconst (v := 0) hC dL_isWhole_476 (by decide) ?_
                                obtain ⟨r157, h158, h121⟩ := fb_open h121
                                refine g_callLWk hC hL [.ref a0, .int s5.2.2.2.2.2.2.2.2.1, .int x136, .int 0] (c_L_halfOf l D cy a0 s5.2.2.2.2.2.2.2.2.1 x136 0 w118 r157 h158) (Or.inl rfl) (fun _ _ h => nomatch h) q_315 q_72 q_313 q_314 h9_L_halfOf ⟨Nat.le_of_ble_eq_true rfl, Nat.le_of_ble_eq_true rfl⟩ 2 12 rfl rfl ⟨show (b133 + 8) + 2 ≤ 2731 from by omega, show (d133 + 48) + 12 ≤ 16386 from by omega⟩ (Nat.le_of_ble_eq_true rfl) rfl dL_isWhole_477 (fun z160 _ e159 => ?_)
                                refine g_cs (b133 + 10) (d133 + 60) (show (b133 + 10) = (b133 + 8) + 2 from by omega) (show (d133 + 60) = (d133 + 48) + 12 from by omega) ?_
                                show gAt X (b133 + 10) (d133 + 60) 20 w118 z160 gE0 [(6, .int (s120.2.2.2.1 + r153)), (5, .int (s120.2.2.1 + r149)), (4, .int (s120.2.1 + r145)), (3, .int (s120.1 + r141)), (19, .int x136), (0, .ref a0), (1, .int r1), (2, .int s5.1), (7, .int s120.2.2.2.2.1), (8, .int s5.2.2.2.2.2.2.1), (9, .int s5.2.2.2.2.2.2.2.1), (10, .int s5.2.2.2.2.2.2.2.2.1), (11, .int x39), (18, .int s120.2.2.2.2.2)] [.int r157, .int s120.2.2.2.2.1] 480
                                refine g_iconst (v := 1) hC dL_isWhole_480 (by decide) ?_
                                refine g_icmp_ne hC 508 dL_isWhole_481 (by decide) (fun c161 => ?_) (fun c161 => ?_)
                                · replace h121 := fi_neg h121 c161
                                  refine g_iconst (v := 0) hC dL_isWhole_508 (by decide) ?_
                                  refine g_iadd hC dL_isWhole_509 ?_
                                  refine g_istore (L' := [(7, .int (s120.2.2.2.2.1 + 0)), (6, .int (s120.2.2.2.1 + r153)), (5, .int (s120.2.2.1 + r149)), (4, .int (s120.2.1 + r145)), (3, .int (s120.1 + r141)), (19, .int x136), (0, .ref a0), (1, .int r1), (2, .int s5.1), (8, .int s5.2.2.2.2.2.2.1), (9, .int s5.2.2.2.2.2.2.2.1), (10, .int s5.2.2.2.2.2.2.2.2.1), (11, .int x39), (18, .int s120.2.2.2.2.2)]) hC dL_isWhole_510 (by decide) rfl ?_
                                  refine g_iinc (L' := [(18, .int (s120.2.2.2.2.2 + 1)), (7, .int (s120.2.2.2.2.1 + 0)), (6, .int (s120.2.2.2.1 + r153)), (5, .int (s120.2.2.1 + r149)), (4, .int (s120.2.1 + r145)), (3, .int (s120.1 + r141)), (19, .int x136), (0, .ref a0), (1, .int r1), (2, .int s5.1), (8, .int s5.2.2.2.2.2.2.1), (9, .int s5.2.2.2.2.2.2.2.1), (10, .int s5.2.2.2.2.2.2.2.2.1), (11, .int x39)]) hC dL_isWhole_512 13 rfl rfl (by decide) rfl ?_
                                  refine g_goto hC 396 dL_isWhole_515 (by decide) ?_
                                  obtain rfl := Option.some.inj h121
                                  refine g_sub (L' := [(0, .ref a0), (1, .int r1), (2, .int s5.1), (3, .int (s120.1 + r141)), (4, .int (s120.2.1 + r145)), (5, .int (s120.2.2.1 + r149)), (6, .int (s120.2.2.2.1 + r153)), (7, .int (s120.2.2.2.2.1 + 0)), (8, .int s5.2.2.2.2.2.2.1), (9, .int s5.2.2.2.2.2.2.2.1), (10, .int s5.2.2.2.2.2.2.2.2.1), (11, .int x39), (18, .int (s120.2.2.2.2.2 + 1))]) [7, 8, 9, 5, 4, 3, 2, 1, 10, 11, 12, 13, 0] rfl ?_
                                  exact go122 ((s120.1 + r141), (s120.2.1 + r145), (s120.2.2.1 + r149), (s120.2.2.2.1 + r153), (s120.2.2.2.2.1 + 0), (s120.2.2.2.2.2 + 1)) rfl _ _ ⟨by omega, by omega⟩ _
                                · replace h121 := fi_pos h121 c161
                                  refine g_aload_n hC dL_isWhole_484 rfl 5 rfl ?_
                                  refine g_iload hC dL_isWhole_485 11 rfl ?_
                                  refine g_iload hC dL_isWhole_487 4 rfl ?_
                                  refine g_bipush (v := 7) hC dL_isWhole_489 (by decide) ?_
                                  obtain ⟨r162, h163, h121⟩ := fb_open h121
                                  refine g_callLWk hC hL [.ref a0, .int s5.2.2.2.2.2.2.2.2.1, .int x136, .int 7] (c_L_halfOf l D cy a0 s5.2.2.2.2.2.2.2.2.1 x136 7 w118 r162 h163) (Or.inl rfl) (fun _ _ h => nomatch h) q_315 q_72 q_313 q_314 h9_L_halfOf ⟨Nat.le_of_ble_eq_true rfl, Nat.le_of_ble_eq_true rfl⟩ 2 12 rfl rfl ⟨show (b133 + 10) + 2 ≤ 2731 from by omega, show (d133 + 60) + 12 ≤ 16386 from by omega⟩ (Nat.le_of_ble_eq_true rfl) rfl dL_isWhole_491 (fun z165 _ e164 => ?_)
                                  refine g_cs (b133 + 12) (d133 + 72) (show (b133 + 12) = (b133 + 10) + 2 from by omega) (show (d133 + 72) = (d133 + 60) + 12 from by omega) ?_
                                  show gAt X (b133 + 12) (d133 + 72) 20 w118 z165 gE0 [(6, .int (s120.2.2.2.1 + r153)), (5, .int (s120.2.2.1 + r149)), (4, .int (s120.2.1 + r145)), (3, .int (s120.1 + r141)), (19, .int x136), (0, .ref a0), (1, .int r1), (2, .int s5.1), (7, .int s120.2.2.2.2.1), (8, .int s5.2.2.2.2.2.2.1), (9, .int s5.2.2.2.2.2.2.2.1), (10, .int s5.2.2.2.2.2.2.2.2.1), (11, .int x39), (18, .int s120.2.2.2.2.2)] [.int r162, .int s120.2.2.2.2.1] 494
                                  refine g_aload_n hC dL_isWhole_494 rfl 5 rfl ?_
                                  refine g_iload hC dL_isWhole_495 11 rfl ?_
                                  refine g_iconst (v := 0) hC dL_isWhole_497 (by decide) ?_
                                  obtain ⟨r166, h167, h121⟩ := fb_open h121
                                  refine g_callLWk hC hL [.ref a0, .int s5.2.2.2.2.2.2.2.2.1, .int 0] (c_L_ticketOf l D cy a0 s5.2.2.2.2.2.2.2.2.1 0 w118 r166 h167) (Or.inl rfl) (fun _ _ h => nomatch h) q_1191 q_72 q_1189 q_1190 h9_L_ticketOf ⟨Nat.le_of_ble_eq_true rfl, Nat.le_of_ble_eq_true rfl⟩ 2 12 rfl rfl ⟨show (b133 + 12) + 2 ≤ 2731 from by omega, show (d133 + 72) + 12 ≤ 16386 from by omega⟩ (Nat.le_of_ble_eq_true rfl) rfl dL_isWhole_498 (fun z169 _ e168 => ?_)
                                  refine g_cs (b133 + 14) (d133 + 84) (show (b133 + 14) = (b133 + 12) + 2 from by omega) (show (d133 + 84) = (d133 + 72) + 12 from by omega) ?_
                                  show gAt X (b133 + 14) (d133 + 84) 20 w118 z169 gE0 [(6, .int (s120.2.2.2.1 + r153)), (5, .int (s120.2.2.1 + r149)), (4, .int (s120.2.1 + r145)), (3, .int (s120.1 + r141)), (19, .int x136), (0, .ref a0), (1, .int r1), (2, .int s5.1), (7, .int s120.2.2.2.2.1), (8, .int s5.2.2.2.2.2.2.1), (9, .int s5.2.2.2.2.2.2.2.1), (10, .int s5.2.2.2.2.2.2.2.2.1), (11, .int x39), (18, .int s120.2.2.2.2.2)] [.int r166, .int r162, .int s120.2.2.2.2.1] 501
                                  refine g_icmp_ne hC 508 dL_isWhole_501 (by decide) (fun c170 => ?_) (fun c170 => ?_)
                                  · replace h121 := fi_neg h121 c170
                                    refine g_iconst (v := 0) hC dL_isWhole_508 (by decide) ?_
                                    refine g_iadd hC dL_isWhole_509 ?_
                                    refine g_istore (L' := [(7, .int (s120.2.2.2.2.1 + 0)), (6, .int (s120.2.2.2.1 + r153)), (5, .int (s120.2.2.1 + r149)), (4, .int (s120.2.1 + r145)), (3, .int (s120.1 + r141)), (19, .int x136), (0, .ref a0), (1, .int r1), (2, .int s5.1), (8, .int s5.2.2.2.2.2.2.1), (9, .int s5.2.2.2.2.2.2.2.1), (10, .int s5.2.2.2.2.2.2.2.2.1), (11, .int x39), (18, .int s120.2.2.2.2.2)]) hC dL_isWhole_510 (by decide) rfl ?_
                                    refine g_iinc (L' := [(18, .int (s120.2.2.2.2.2 + 1)), (7, .int (s120.2.2.2.2.1 + 0)), (6, .int (s120.2.2.2.1 + r153)), (5, .int (s120.2.2.1 + r149)), (4, .int (s120.2.1 + r145)), (3, .int (s120.1 + r141)), (19, .int x136), (0, .ref a0), (1, .int r1), (2, .int s5.1), (8, .int s5.2.2.2.2.2.2.1), (9, .int s5.2.2.2.2.2.2.2.1), (10, .int s5.2.2.2.2.2.2.2.2.1), (11, .int x39)]) hC dL_isWhole_512 13 rfl rfl (by decide) rfl ?_
                                    refine g_goto hC 396 dL_isWhole_515 (by decide) ?_
                                    obtain rfl := Option.some.inj h121
                                    refine g_sub (L' := [(0, .ref a0), (1, .int r1), (2, .int s5.1), (3, .int (s120.1 + r141)), (4, .int (s120.2.1 + r145)), (5, .int (s120.2.2.1 + r149)), (6, .int (s120.2.2.2.1 + r153)), (7, .int (s120.2.2.2.2.1 + 0)), (8, .int s5.2.2.2.2.2.2.1), (9, .int s5.2.2.2.2.2.2.2.1), (10, .int s5.2.2.2.2.2.2.2.2.1), (11, .int x39), (18, .int (s120.2.2.2.2.2 + 1))]) [7, 8, 9, 5, 4, 3, 2, 1, 10, 11, 12, 13, 0] rfl ?_
                                    exact go122 ((s120.1 + r141), (s120.2.1 + r145), (s120.2.2.1 + r149), (s120.2.2.2.1 + r153), (s120.2.2.2.2.1 + 0), (s120.2.2.2.2.2 + 1)) rfl _ _ ⟨by omega, by omega⟩ _
                                  · replace h121 := fi_pos h121 c170
                                    refine g_iconst (v := 1) hC dL_isWhole_504 (by decide) ?_
                                    refine g_goto hC 509 dL_isWhole_505 (by decide) ?_
                                    refine g_iadd hC dL_isWhole_509 ?_
                                    refine g_istore (L' := [(7, .int (s120.2.2.2.2.1 + 1)), (6, .int (s120.2.2.2.1 + r153)), (5, .int (s120.2.2.1 + r149)), (4, .int (s120.2.1 + r145)), (3, .int (s120.1 + r141)), (19, .int x136), (0, .ref a0), (1, .int r1), (2, .int s5.1), (8, .int s5.2.2.2.2.2.2.1), (9, .int s5.2.2.2.2.2.2.2.1), (10, .int s5.2.2.2.2.2.2.2.2.1), (11, .int x39), (18, .int s120.2.2.2.2.2)]) hC dL_isWhole_510 (by decide) rfl ?_
                                    refine g_iinc (L' := [(18, .int (s120.2.2.2.2.2 + 1)), (7, .int (s120.2.2.2.2.1 + 1)), (6, .int (s120.2.2.2.1 + r153)), (5, .int (s120.2.2.1 + r149)), (4, .int (s120.2.1 + r145)), (3, .int (s120.1 + r141)), (19, .int x136), (0, .ref a0), (1, .int r1), (2, .int s5.1), (8, .int s5.2.2.2.2.2.2.1), (9, .int s5.2.2.2.2.2.2.2.1), (10, .int s5.2.2.2.2.2.2.2.2.1), (11, .int x39)]) hC dL_isWhole_512 13 rfl rfl (by decide) rfl ?_
                                    refine g_goto hC 396 dL_isWhole_515 (by decide) ?_
                                    obtain rfl := Option.some.inj h121
                                    refine g_sub (L' := [(0, .ref a0), (1, .int r1), (2, .int s5.1), (3, .int (s120.1 + r141)), (4, .int (s120.2.1 + r145)), (5, .int (s120.2.2.1 + r149)), (6, .int (s120.2.2.2.1 + r153)), (7, .int (s120.2.2.2.2.1 + 1)), (8, .int s5.2.2.2.2.2.2.1), (9, .int s5.2.2.2.2.2.2.2.1), (10, .int s5.2.2.2.2.2.2.2.2.1), (11, .int x39), (18, .int (s120.2.2.2.2.2 + 1))]) [7, 8, 9, 5, 4, 3, 2, 1, 10, 11, 12, 13, 0] rfl ?_
                                    exact go122 ((s120.1 + r141), (s120.2.1 + r145), (s120.2.2.1 + r149), (s120.2.2.2.1 + r153), (s120.2.2.2.2.1 + 1), (s120.2.2.2.2.2 + 1)) rfl _ _ ⟨by omega, by omega⟩ _
                              refine g_icmp_ne hC 412 dL_isWhole_405 (by decide) (fun c171 => ?_) (fun c171 => ?_)
                              · replace h137 := fi_neg h137 c171
                                refine g_iconst (v := 0) hC dL_isWhole_412 (by decide) ?_
                                obtain rfl := Option.some.inj h137
                                exact K139 _
                              · replace h137 := fi_pos h137 c171
                                refine g_iconst (v := 1) hC dL_isWhole_408 (by decide) ?_
                                refine g_goto hC 413 dL_isWhole_409 (by decide) ?_
                                obtain rfl := Option.some.inj h137
                                exact K139 _
                          · replace h6 := fi_neg h6 c119
                            refine g_iconst (v := 0) hC dL_isWhole_391 (by decide) ?_
                            obtain rfl := Option.some.inj h6
                            obtain rfl := ou8 _ rfl
                            obtain rfl := Option.some.inj hF
                            refine g_widen (k' := 2731) (s' := 16386) (by omega) (by omega) ?_
                            exact g_zret hC hEn (fSm.tr e115 (fSm.tr e30 (fSm.tr e23 p9))) (nar_z (by decide)) dL_isWhole_392
                    refine g_if_eq hC 363 dL_isWhole_315 (by decide) (fun c187 => ?_) (fun c187 => ?_)
                    · replace h107 := fi_pos h107 c187
                      refine g_iconst (v := 1) hC dL_isWhole_363 (by decide) ?_
                      refine g_goto hC 368 dL_isWhole_364 (by decide) ?_
                      obtain rfl := Option.some.inj h107
                      refine g_sub (L' := [(0, .ref a0), (1, .int r1), (2, .int s5.1), (3, .int s5.2.1), (4, .int s5.2.2.1), (5, .int s5.2.2.2.1), (6, .int s5.2.2.2.2.1), (7, .int s5.2.2.2.2.2.1), (8, .int s5.2.2.2.2.2.2.1), (9, .int s5.2.2.2.2.2.2.2.1), (10, .int s5.2.2.2.2.2.2.2.2.1), (11, .int x39), (16, .int x101)]) [1, 2, 3, 4, 5, 6, 7, 8, 9, 10, 11, 12, 0] rfl ?_
                      refine g_widen (k' := (b18 + 213)) (s' := (d18 + 1278)) (by omega) (by omega) ?_
                      exact K109 _
                    · replace h107 := fi_neg h107 c187
                      refine g_aload_n hC dL_isWhole_318 rfl 1 rfl ?_
                      refine g_iload hC dL_isWhole_319 11 rfl ?_
                      refine g_iconst (v := 0) hC dL_isWhole_321 (by decide) ?_
                      refine g_iconst (v := 5) hC dL_isWhole_322 (by decide) ?_
                      obtain ⟨r188, h189, h107⟩ := fb_open h107
                      refine g_callLWk hC hL [.ref a0, .int s5.2.2.2.2.2.2.2.2.1, .int 0, .int 5] (c_L_halfOf l D cy a0 s5.2.2.2.2.2.2.2.2.1 0 5 w33 r188 h189) (Or.inl rfl) (fun _ _ h => nomatch h) q_315 q_72 q_313 q_314 h9_L_halfOf ⟨Nat.le_of_ble_eq_true rfl, Nat.le_of_ble_eq_true rfl⟩ 2 12 rfl rfl ⟨show (b18 + 205) + 2 ≤ 2731 from by omega, show (d18 + 1230) + 12 ≤ 16386 from by omega⟩ (Nat.le_of_ble_eq_true rfl) rfl dL_isWhole_323 (fun z191 _ e190 => ?_)
                      refine g_cs (b18 + 207) (d18 + 1242) (show (b18 + 207) = (b18 + 205) + 2 from by omega) (show (d18 + 1242) = (d18 + 1230) + 12 from by omega) ?_
                      show gAt X (b18 + 207) (d18 + 1242) 20 w33 z191 gE0 [(16, .int x101), (0, .ref a0), (1, .int r1), (2, .int s5.1), (3, .int s5.2.1), (4, .int s5.2.2.1), (5, .int s5.2.2.2.1), (6, .int s5.2.2.2.2.1), (7, .int s5.2.2.2.2.2.1), (8, .int s5.2.2.2.2.2.2.1), (9, .int s5.2.2.2.2.2.2.2.1), (10, .int s5.2.2.2.2.2.2.2.2.1), (11, .int x39)] [.int r188] 326
                      refine g_aload_n hC dL_isWhole_326 rfl 1 rfl ?_
                      refine g_iload hC dL_isWhole_327 11 rfl ?_
                      refine g_iconst (v := 1) hC dL_isWhole_329 (by decide) ?_
                      refine g_iconst (v := 5) hC dL_isWhole_330 (by decide) ?_
                      obtain ⟨r192, h193, h107⟩ := fb_open h107
                      refine g_callLWk hC hL [.ref a0, .int s5.2.2.2.2.2.2.2.2.1, .int 1, .int 5] (c_L_halfOf l D cy a0 s5.2.2.2.2.2.2.2.2.1 1 5 w33 r192 h193) (Or.inl rfl) (fun _ _ h => nomatch h) q_315 q_72 q_313 q_314 h9_L_halfOf ⟨Nat.le_of_ble_eq_true rfl, Nat.le_of_ble_eq_true rfl⟩ 2 12 rfl rfl ⟨show (b18 + 207) + 2 ≤ 2731 from by omega, show (d18 + 1242) + 12 ≤ 16386 from by omega⟩ (Nat.le_of_ble_eq_true rfl) rfl dL_isWhole_331 (fun z195 _ e194 => ?_)
                      refine g_cs (b18 + 209) (d18 + 1254) (show (b18 + 209) = (b18 + 207) + 2 from by omega) (show (d18 + 1254) = (d18 + 1242) + 12 from by omega) ?_
                      show gAt X (b18 + 209) (d18 + 1254) 20 w33 z195 gE0 [(16, .int x101), (0, .ref a0), (1, .int r1), (2, .int s5.1), (3, .int s5.2.1), (4, .int s5.2.2.1), (5, .int s5.2.2.2.1), (6, .int s5.2.2.2.2.1), (7, .int s5.2.2.2.2.2.1), (8, .int s5.2.2.2.2.2.2.1), (9, .int s5.2.2.2.2.2.2.2.1), (10, .int s5.2.2.2.2.2.2.2.2.1), (11, .int x39)] [.int r192, .int r188] 334
                      refine g_icmp_ne hC 367 dL_isWhole_334 (by decide) (fun c196 => ?_) (fun c196 => ?_)
                      · replace h107 := fi_neg h107 c196
                        refine g_iconst (v := 0) hC dL_isWhole_367 (by decide) ?_
                        obtain rfl := Option.some.inj h107
                        refine g_sub (L' := [(0, .ref a0), (1, .int r1), (2, .int s5.1), (3, .int s5.2.1), (4, .int s5.2.2.1), (5, .int s5.2.2.2.1), (6, .int s5.2.2.2.2.1), (7, .int s5.2.2.2.2.2.1), (8, .int s5.2.2.2.2.2.2.1), (9, .int s5.2.2.2.2.2.2.2.1), (10, .int s5.2.2.2.2.2.2.2.2.1), (11, .int x39), (16, .int x101)]) [1, 2, 3, 4, 5, 6, 7, 8, 9, 10, 11, 12, 0] rfl ?_
                        refine g_widen (k' := (b18 + 213)) (s' := (d18 + 1278)) (by omega) (by omega) ?_
                        exact K109 _
                      · replace h107 := fi_pos h107 c196
                        refine g_aload_n hC dL_isWhole_337 rfl 1 rfl ?_
                        refine g_iload hC dL_isWhole_338 11 rfl ?_
                        refine g_iconst (v := 0) hC dL_isWhole_340 (by decide) ?_
                        refine g_iconst (v := 2) hC dL_isWhole_341 (by decide) ?_
                        obtain ⟨r197, h198, h107⟩ := fb_open h107
                        refine g_callLWk hC hL [.ref a0, .int s5.2.2.2.2.2.2.2.2.1, .int 0, .int 2] (c_L_halfOf l D cy a0 s5.2.2.2.2.2.2.2.2.1 0 2 w33 r197 h198) (Or.inl rfl) (fun _ _ h => nomatch h) q_315 q_72 q_313 q_314 h9_L_halfOf ⟨Nat.le_of_ble_eq_true rfl, Nat.le_of_ble_eq_true rfl⟩ 2 12 rfl rfl ⟨show (b18 + 209) + 2 ≤ 2731 from by omega, show (d18 + 1254) + 12 ≤ 16386 from by omega⟩ (Nat.le_of_ble_eq_true rfl) rfl dL_isWhole_342 (fun z200 _ e199 => ?_)
                        refine g_cs (b18 + 211) (d18 + 1266) (show (b18 + 211) = (b18 + 209) + 2 from by omega) (show (d18 + 1266) = (d18 + 1254) + 12 from by omega) ?_
                        show gAt X (b18 + 211) (d18 + 1266) 20 w33 z200 gE0 [(16, .int x101), (0, .ref a0), (1, .int r1), (2, .int s5.1), (3, .int s5.2.1), (4, .int s5.2.2.1), (5, .int s5.2.2.2.1), (6, .int s5.2.2.2.2.1), (7, .int s5.2.2.2.2.2.1), (8, .int s5.2.2.2.2.2.2.1), (9, .int s5.2.2.2.2.2.2.2.1), (10, .int s5.2.2.2.2.2.2.2.2.1), (11, .int x39)] [.int r197] 345
                        refine g_bipush (v := 6) hC dL_isWhole_345 (by decide) ?_
                        refine g_icmp_ge hC 367 dL_isWhole_347 (by decide) (fun c201 => ?_) (fun c201 => ?_)
                        · replace h107 := fi_pos h107 c201
                          refine g_iconst (v := 0) hC dL_isWhole_367 (by decide) ?_
                          obtain rfl := Option.some.inj h107
                          refine g_sub (L' := [(0, .ref a0), (1, .int r1), (2, .int s5.1), (3, .int s5.2.1), (4, .int s5.2.2.1), (5, .int s5.2.2.2.1), (6, .int s5.2.2.2.2.1), (7, .int s5.2.2.2.2.2.1), (8, .int s5.2.2.2.2.2.2.1), (9, .int s5.2.2.2.2.2.2.2.1), (10, .int s5.2.2.2.2.2.2.2.2.1), (11, .int x39), (16, .int x101)]) [1, 2, 3, 4, 5, 6, 7, 8, 9, 10, 11, 12, 0] rfl ?_
                          refine g_widen (k' := (b18 + 213)) (s' := (d18 + 1278)) (by omega) (by omega) ?_
                          exact K109 _
                        · replace h107 := fi_neg h107 c201
                          refine g_aload_n hC dL_isWhole_350 rfl 1 rfl ?_
                          refine g_iload hC dL_isWhole_351 11 rfl ?_
                          refine g_iconst (v := 1) hC dL_isWhole_353 (by decide) ?_
                          refine g_iconst (v := 2) hC dL_isWhole_354 (by decide) ?_
                          obtain ⟨r202, h203, h107⟩ := fb_open h107
                          refine g_callLWk hC hL [.ref a0, .int s5.2.2.2.2.2.2.2.2.1, .int 1, .int 2] (c_L_halfOf l D cy a0 s5.2.2.2.2.2.2.2.2.1 1 2 w33 r202 h203) (Or.inl rfl) (fun _ _ h => nomatch h) q_315 q_72 q_313 q_314 h9_L_halfOf ⟨Nat.le_of_ble_eq_true rfl, Nat.le_of_ble_eq_true rfl⟩ 2 12 rfl rfl ⟨show (b18 + 211) + 2 ≤ 2731 from by omega, show (d18 + 1266) + 12 ≤ 16386 from by omega⟩ (Nat.le_of_ble_eq_true rfl) rfl dL_isWhole_355 (fun z205 _ e204 => ?_)
                          refine g_cs (b18 + 213) (d18 + 1278) (show (b18 + 213) = (b18 + 211) + 2 from by omega) (show (d18 + 1278) = (d18 + 1266) + 12 from by omega) ?_
                          show gAt X (b18 + 213) (d18 + 1278) 20 w33 z205 gE0 [(16, .int x101), (0, .ref a0), (1, .int r1), (2, .int s5.1), (3, .int s5.2.1), (4, .int s5.2.2.1), (5, .int s5.2.2.2.1), (6, .int s5.2.2.2.2.1), (7, .int s5.2.2.2.2.2.1), (8, .int s5.2.2.2.2.2.2.1), (9, .int s5.2.2.2.2.2.2.2.1), (10, .int s5.2.2.2.2.2.2.2.2.1), (11, .int x39)] [.int r202] 358
                          refine g_bipush (v := 6) hC dL_isWhole_358 (by decide) ?_
                          refine g_icmp_ge hC 367 dL_isWhole_360 (by decide) (fun c206 => ?_) (fun c206 => ?_)
                          · replace h107 := fi_pos h107 c206
                            refine g_iconst (v := 0) hC dL_isWhole_367 (by decide) ?_
                            obtain rfl := Option.some.inj h107
                            refine g_sub (L' := [(0, .ref a0), (1, .int r1), (2, .int s5.1), (3, .int s5.2.1), (4, .int s5.2.2.1), (5, .int s5.2.2.2.1), (6, .int s5.2.2.2.2.1), (7, .int s5.2.2.2.2.2.1), (8, .int s5.2.2.2.2.2.2.1), (9, .int s5.2.2.2.2.2.2.2.1), (10, .int s5.2.2.2.2.2.2.2.2.1), (11, .int x39), (16, .int x101)]) [1, 2, 3, 4, 5, 6, 7, 8, 9, 10, 11, 12, 0] rfl ?_
                            exact K109 _
                          · replace h107 := fi_neg h107 c206
                            refine g_iconst (v := 1) hC dL_isWhole_363 (by decide) ?_
                            refine g_goto hC 368 dL_isWhole_364 (by decide) ?_
                            obtain rfl := Option.some.inj h107
                            refine g_sub (L' := [(0, .ref a0), (1, .int r1), (2, .int s5.1), (3, .int s5.2.1), (4, .int s5.2.2.1), (5, .int s5.2.2.2.1), (6, .int s5.2.2.2.2.1), (7, .int s5.2.2.2.2.2.1), (8, .int s5.2.2.2.2.2.2.1), (9, .int s5.2.2.2.2.2.2.2.1), (10, .int s5.2.2.2.2.2.2.2.2.1), (11, .int x39), (16, .int x101)]) [1, 2, 3, 4, 5, 6, 7, 8, 9, 10, 11, 12, 0] rfl ?_
                            exact K109 _
                  refine g_icmp_ne hC 310 dL_isWhole_224 (by decide) (fun c207 => ?_) (fun c207 => ?_)
                  · replace h102 := fi_neg h102 c207
                    refine g_iconst (v := 0) hC dL_isWhole_310 (by decide) ?_
                    obtain rfl := Option.some.inj h102
                    refine g_sub (L' := [(0, .ref a0), (1, .int r1), (2, .int s5.1), (3, .int s5.2.1), (4, .int s5.2.2.1), (5, .int s5.2.2.2.1), (6, .int s5.2.2.2.2.1), (7, .int s5.2.2.2.2.2.1), (8, .int s5.2.2.2.2.2.2.1), (9, .int s5.2.2.2.2.2.2.2.1), (10, .int s5.2.2.2.2.2.2.2.2.1), (11, .int x39)]) [0, 1, 2, 3, 4, 5, 6, 7, 8, 9, 10, 11] rfl ?_
                    refine g_widen (k' := (b18 + 205)) (s' := (d18 + 1230)) (by omega) (by omega) ?_
                    exact K104 _
                  · replace h102 := fi_pos h102 c207
                    refine g_aload_n hC dL_isWhole_227 rfl 0 rfl ?_
                    refine g_iload hC dL_isWhole_228 10 rfl ?_
                    refine g_iconst (v := 1) hC dL_isWhole_230 (by decide) ?_
                    obtain ⟨r208, h209, h102⟩ := fb_open h102
                    refine g_callLWk hC hL [.ref a0, .int s5.2.2.2.2.2.2.2.2.1, .int 1] (c_L_doAgree l D cy a0 s5.2.2.2.2.2.2.2.2.1 1 w33 r208 h209) (Or.inl rfl) (fun _ _ h => nomatch h) q_1275 q_72 q_1273 q_1274 h9_L_doAgree ⟨Nat.le_of_ble_eq_true rfl, Nat.le_of_ble_eq_true rfl⟩ 1 6 rfl rfl ⟨show (b18 + 198) + 1 ≤ 2731 from by omega, show (d18 + 1188) + 6 ≤ 16386 from by omega⟩ (Nat.le_of_ble_eq_true rfl) rfl dL_isWhole_231 (fun z211 _ e210 => ?_)
                    refine g_cs (b18 + 199) (d18 + 1194) (show (b18 + 199) = (b18 + 198) + 1 from by omega) (show (d18 + 1194) = (d18 + 1188) + 6 from by omega) ?_
                    show gAt X (b18 + 199) (d18 + 1194) 20 w33 z211 gE0 [(0, .ref a0), (1, .int r1), (2, .int s5.1), (3, .int s5.2.1), (4, .int s5.2.2.1), (5, .int s5.2.2.2.1), (6, .int s5.2.2.2.2.1), (7, .int s5.2.2.2.2.2.1), (8, .int s5.2.2.2.2.2.2.1), (9, .int s5.2.2.2.2.2.2.2.1), (10, .int s5.2.2.2.2.2.2.2.2.1), (11, .int x39), (13, .int x59), (14, .int r83), (15, .int x87)] [.int r208] 234
                    refine g_iload hC dL_isWhole_234 12 rfl ?_
                    obtain ⟨x212, h213, h102⟩ := fb_open h102
                    have K215 : ∀ z216, gAt X (b18 + 199) (d18 + 1194) 20 w33 z216 gE0 [(0, .ref a0), (1, .int r1), (2, .int s5.1), (3, .int s5.2.1), (4, .int s5.2.2.1), (5, .int s5.2.2.2.1), (6, .int s5.2.2.2.2.1), (7, .int s5.2.2.2.2.2.1), (8, .int s5.2.2.2.2.2.2.1), (9, .int s5.2.2.2.2.2.2.2.1), (10, .int s5.2.2.2.2.2.2.2.2.1), (11, .int x39), (14, .int r83), (15, .int x87)] [.int x212, .int r208] 244 := by
                      intro z216
                      refine g_icmp_ne hC 310 dL_isWhole_244 (by decide) (fun c217 => ?_) (fun c217 => ?_)
                      · replace h102 := fi_neg h102 c217
                        refine g_iconst (v := 0) hC dL_isWhole_310 (by decide) ?_
                        obtain rfl := Option.some.inj h102
                        refine g_sub (L' := [(0, .ref a0), (1, .int r1), (2, .int s5.1), (3, .int s5.2.1), (4, .int s5.2.2.1), (5, .int s5.2.2.2.1), (6, .int s5.2.2.2.2.1), (7, .int s5.2.2.2.2.2.1), (8, .int s5.2.2.2.2.2.2.1), (9, .int s5.2.2.2.2.2.2.2.1), (10, .int s5.2.2.2.2.2.2.2.2.1), (11, .int x39)]) [0, 1, 2, 3, 4, 5, 6, 7, 8, 9, 10, 11] rfl ?_
                        refine g_widen (k' := (b18 + 205)) (s' := (d18 + 1230)) (by omega) (by omega) ?_
                        exact K104 _
                      · replace h102 := fi_pos h102 c217
                        refine g_aload_n hC dL_isWhole_247 rfl 0 rfl ?_
                        refine g_iload hC dL_isWhole_248 10 rfl ?_
                        obtain ⟨r218, h219, h102⟩ := fb_open h102
                        refine g_callLWk hC hL [.ref a0, .int s5.2.2.2.2.2.2.2.2.1] (c_L_daysLeft l D cy a0 s5.2.2.2.2.2.2.2.2.1 w33 r218 h219) (Or.inl rfl) (fun _ _ h => nomatch h) q_1295 q_72 q_1293 q_1294 h9_L_daysLeft ⟨Nat.le_of_ble_eq_true rfl, Nat.le_of_ble_eq_true rfl⟩ 2 12 rfl rfl ⟨show (b18 + 199) + 2 ≤ 2731 from by omega, show (d18 + 1194) + 12 ≤ 16386 from by omega⟩ (Nat.le_of_ble_eq_true rfl) rfl dL_isWhole_250 (fun z221 _ e220 => ?_)
                        refine g_cs (b18 + 201) (d18 + 1206) (show (b18 + 201) = (b18 + 199) + 2 from by omega) (show (d18 + 1206) = (d18 + 1194) + 12 from by omega) ?_
                        show gAt X (b18 + 201) (d18 + 1206) 20 w33 z221 gE0 [(0, .ref a0), (1, .int r1), (2, .int s5.1), (3, .int s5.2.1), (4, .int s5.2.2.1), (5, .int s5.2.2.2.1), (6, .int s5.2.2.2.2.1), (7, .int s5.2.2.2.2.2.1), (8, .int s5.2.2.2.2.2.2.1), (9, .int s5.2.2.2.2.2.2.2.1), (10, .int s5.2.2.2.2.2.2.2.2.1), (11, .int x39), (14, .int r83), (15, .int x87)] [.int r218] 253
                        refine g_iload hC dL_isWhole_253 13 rfl ?_
                        refine g_icmp_ne hC 310 dL_isWhole_255 (by decide) (fun c222 => ?_) (fun c222 => ?_)
                        · replace h102 := fi_neg h102 c222
                          refine g_iconst (v := 0) hC dL_isWhole_310 (by decide) ?_
                          obtain rfl := Option.some.inj h102
                          refine g_sub (L' := [(0, .ref a0), (1, .int r1), (2, .int s5.1), (3, .int s5.2.1), (4, .int s5.2.2.1), (5, .int s5.2.2.2.1), (6, .int s5.2.2.2.2.1), (7, .int s5.2.2.2.2.2.1), (8, .int s5.2.2.2.2.2.2.1), (9, .int s5.2.2.2.2.2.2.2.1), (10, .int s5.2.2.2.2.2.2.2.2.1), (11, .int x39)]) [0, 1, 2, 3, 4, 5, 6, 7, 8, 9, 10, 11] rfl ?_
                          refine g_widen (k' := (b18 + 205)) (s' := (d18 + 1230)) (by omega) (by omega) ?_
                          exact K104 _
                        · replace h102 := fi_pos h102 c222
                          refine g_iload hC dL_isWhole_258 12 rfl ?_
                          obtain ⟨x223, h224, h102⟩ := fb_open h102
                          have K226 : ∀ z227, gAt X (b18 + 201) (d18 + 1206) 20 w33 z227 gE0 [(0, .ref a0), (1, .int r1), (2, .int s5.1), (3, .int s5.2.1), (4, .int s5.2.2.1), (5, .int s5.2.2.2.1), (6, .int s5.2.2.2.2.1), (7, .int s5.2.2.2.2.2.1), (8, .int s5.2.2.2.2.2.2.1), (9, .int s5.2.2.2.2.2.2.2.1), (10, .int s5.2.2.2.2.2.2.2.2.1), (11, .int x39), (14, .int r83)] [.int x223] 268 := by
                            intro z227
                            refine g_aload_n hC dL_isWhole_268 rfl 0 rfl ?_
                            refine g_iload hC dL_isWhole_269 10 rfl ?_
                            refine g_iconst (v := 0) hC dL_isWhole_271 (by decide) ?_
                            refine g_bipush (v := 6) hC dL_isWhole_272 (by decide) ?_
                            obtain ⟨r228, h229, h102⟩ := fb_open h102
                            refine g_callLWk hC hL [.ref a0, .int s5.2.2.2.2.2.2.2.2.1, .int 0, .int 6] (c_L_halfOf l D cy a0 s5.2.2.2.2.2.2.2.2.1 0 6 w33 r228 h229) (Or.inl rfl) (fun _ _ h => nomatch h) q_315 q_72 q_313 q_314 h9_L_halfOf ⟨Nat.le_of_ble_eq_true rfl, Nat.le_of_ble_eq_true rfl⟩ 2 12 rfl rfl ⟨show (b18 + 201) + 2 ≤ 2731 from by omega, show (d18 + 1206) + 12 ≤ 16386 from by omega⟩ (Nat.le_of_ble_eq_true rfl) rfl dL_isWhole_274 (fun z231 _ e230 => ?_)
                            refine g_cs (b18 + 203) (d18 + 1218) (show (b18 + 203) = (b18 + 201) + 2 from by omega) (show (d18 + 1218) = (d18 + 1206) + 12 from by omega) ?_
                            show gAt X (b18 + 203) (d18 + 1218) 20 w33 z231 gE0 [(0, .ref a0), (1, .int r1), (2, .int s5.1), (3, .int s5.2.1), (4, .int s5.2.2.1), (5, .int s5.2.2.2.1), (6, .int s5.2.2.2.2.1), (7, .int s5.2.2.2.2.2.1), (8, .int s5.2.2.2.2.2.2.1), (9, .int s5.2.2.2.2.2.2.2.1), (10, .int s5.2.2.2.2.2.2.2.2.1), (11, .int x39), (14, .int r83)] [.int r228, .int x223] 277
                            refine g_iconst (v := 1) hC dL_isWhole_277 (by decide) ?_
                            obtain ⟨x232, h233, h102⟩ := fb_open h102
                            have K235 : ∀ z236, gAt X (b18 + 203) (d18 + 1218) 20 w33 z236 gE0 [(0, .ref a0), (1, .int r1), (2, .int s5.1), (3, .int s5.2.1), (4, .int s5.2.2.1), (5, .int s5.2.2.2.1), (6, .int s5.2.2.2.2.1), (7, .int s5.2.2.2.2.2.1), (8, .int s5.2.2.2.2.2.2.1), (9, .int s5.2.2.2.2.2.2.2.1), (10, .int s5.2.2.2.2.2.2.2.2.1), (11, .int x39), (14, .int r83)] [.int x232, .int x223] 286 := by
                              intro z236
                              refine g_icmp_ne hC 310 dL_isWhole_286 (by decide) (fun c237 => ?_) (fun c237 => ?_)
                              · replace h102 := fi_neg h102 c237
                                refine g_iconst (v := 0) hC dL_isWhole_310 (by decide) ?_
                                obtain rfl := Option.some.inj h102
                                refine g_sub (L' := [(0, .ref a0), (1, .int r1), (2, .int s5.1), (3, .int s5.2.1), (4, .int s5.2.2.1), (5, .int s5.2.2.2.1), (6, .int s5.2.2.2.2.1), (7, .int s5.2.2.2.2.2.1), (8, .int s5.2.2.2.2.2.2.1), (9, .int s5.2.2.2.2.2.2.2.1), (10, .int s5.2.2.2.2.2.2.2.2.1), (11, .int x39)]) [0, 1, 2, 3, 4, 5, 6, 7, 8, 9, 10, 11] rfl ?_
                                refine g_widen (k' := (b18 + 205)) (s' := (d18 + 1230)) (by omega) (by omega) ?_
                                exact K104 _
                              · replace h102 := fi_pos h102 c237
                                refine g_aload_n hC dL_isWhole_289 rfl 0 rfl ?_
                                refine g_iload hC dL_isWhole_290 10 rfl ?_
                                refine g_iconst (v := 1) hC dL_isWhole_292 (by decide) ?_
                                refine g_bipush (v := 6) hC dL_isWhole_293 (by decide) ?_
                                obtain ⟨r238, h239, h102⟩ := fb_open h102
                                refine g_callLWk hC hL [.ref a0, .int s5.2.2.2.2.2.2.2.2.1, .int 1, .int 6] (c_L_halfOf l D cy a0 s5.2.2.2.2.2.2.2.2.1 1 6 w33 r238 h239) (Or.inl rfl) (fun _ _ h => nomatch h) q_315 q_72 q_313 q_314 h9_L_halfOf ⟨Nat.le_of_ble_eq_true rfl, Nat.le_of_ble_eq_true rfl⟩ 2 12 rfl rfl ⟨show (b18 + 203) + 2 ≤ 2731 from by omega, show (d18 + 1218) + 12 ≤ 16386 from by omega⟩ (Nat.le_of_ble_eq_true rfl) rfl dL_isWhole_295 (fun z241 _ e240 => ?_)
                                refine g_cs (b18 + 205) (d18 + 1230) (show (b18 + 205) = (b18 + 203) + 2 from by omega) (show (d18 + 1230) = (d18 + 1218) + 12 from by omega) ?_
                                show gAt X (b18 + 205) (d18 + 1230) 20 w33 z241 gE0 [(0, .ref a0), (1, .int r1), (2, .int s5.1), (3, .int s5.2.1), (4, .int s5.2.2.1), (5, .int s5.2.2.2.1), (6, .int s5.2.2.2.2.1), (7, .int s5.2.2.2.2.2.1), (8, .int s5.2.2.2.2.2.2.1), (9, .int s5.2.2.2.2.2.2.2.1), (10, .int s5.2.2.2.2.2.2.2.2.1), (11, .int x39), (14, .int r83)] [.int r238] 298
                                refine g_if_eq hC 306 dL_isWhole_298 (by decide) (fun c242 => ?_) (fun c242 => ?_)
                                · replace h102 := fi_pos h102 c242
                                  refine g_iconst (v := 1) hC dL_isWhole_306 (by decide) ?_
                                  refine g_goto hC 311 dL_isWhole_307 (by decide) ?_
                                  obtain rfl := Option.some.inj h102
                                  refine g_sub (L' := [(0, .ref a0), (1, .int r1), (2, .int s5.1), (3, .int s5.2.1), (4, .int s5.2.2.1), (5, .int s5.2.2.2.1), (6, .int s5.2.2.2.2.1), (7, .int s5.2.2.2.2.2.1), (8, .int s5.2.2.2.2.2.2.1), (9, .int s5.2.2.2.2.2.2.2.1), (10, .int s5.2.2.2.2.2.2.2.2.1), (11, .int x39)]) [0, 1, 2, 3, 4, 5, 6, 7, 8, 9, 10, 11] rfl ?_
                                  exact K104 _
                                · replace h102 := fi_neg h102 c242
                                  refine g_iload hC dL_isWhole_301 12 rfl ?_
                                  refine g_if_lt hC 310 dL_isWhole_303 (by decide) (fun c243 => ?_) (fun c243 => ?_)
                                  · replace h102 := fi_pos h102 c243
                                    refine g_iconst (v := 0) hC dL_isWhole_310 (by decide) ?_
                                    obtain rfl := Option.some.inj h102
                                    refine g_sub (L' := [(0, .ref a0), (1, .int r1), (2, .int s5.1), (3, .int s5.2.1), (4, .int s5.2.2.1), (5, .int s5.2.2.2.1), (6, .int s5.2.2.2.2.1), (7, .int s5.2.2.2.2.2.1), (8, .int s5.2.2.2.2.2.2.1), (9, .int s5.2.2.2.2.2.2.2.1), (10, .int s5.2.2.2.2.2.2.2.2.1), (11, .int x39)]) [0, 1, 2, 3, 4, 5, 6, 7, 8, 9, 10, 11] rfl ?_
                                    exact K104 _
                                  · replace h102 := fi_neg h102 c243
                                    refine g_iconst (v := 1) hC dL_isWhole_306 (by decide) ?_
                                    refine g_goto hC 311 dL_isWhole_307 (by decide) ?_
                                    obtain rfl := Option.some.inj h102
                                    refine g_sub (L' := [(0, .ref a0), (1, .int r1), (2, .int s5.1), (3, .int s5.2.1), (4, .int s5.2.2.1), (5, .int s5.2.2.2.1), (6, .int s5.2.2.2.2.1), (7, .int s5.2.2.2.2.2.1), (8, .int s5.2.2.2.2.2.2.1), (9, .int s5.2.2.2.2.2.2.2.1), (10, .int s5.2.2.2.2.2.2.2.2.1), (11, .int x39)]) [0, 1, 2, 3, 4, 5, 6, 7, 8, 9, 10, 11] rfl ?_
                                    exact K104 _
                            refine g_icmp_ne hC 285 dL_isWhole_278 (by decide) (fun c244 => ?_) (fun c244 => ?_)
                            · replace h233 := fi_neg h233 c244
                              refine g_iconst (v := 0) hC dL_isWhole_285 (by decide) ?_
                              obtain rfl := Option.some.inj h233
                              exact K235 _
                            · replace h233 := fi_pos h233 c244
                              refine g_iconst (v := 1) hC dL_isWhole_281 (by decide) ?_
                              refine g_goto hC 286 dL_isWhole_282 (by decide) ?_
                              obtain rfl := Option.some.inj h233
                              exact K235 _
                          refine g_if_lt hC 267 dL_isWhole_260 (by decide) (fun c245 => ?_) (fun c245 => ?_)
                          · replace h224 := fi_pos h224 c245
                            refine g_iconst (v := 0) hC dL_isWhole_267 (by decide) ?_
                            obtain rfl := Option.some.inj h224
                            refine g_sub (L' := [(0, .ref a0), (1, .int r1), (2, .int s5.1), (3, .int s5.2.1), (4, .int s5.2.2.1), (5, .int s5.2.2.2.1), (6, .int s5.2.2.2.2.1), (7, .int s5.2.2.2.2.2.1), (8, .int s5.2.2.2.2.2.2.1), (9, .int s5.2.2.2.2.2.2.2.1), (10, .int s5.2.2.2.2.2.2.2.2.1), (11, .int x39), (14, .int r83)]) [0, 1, 2, 3, 4, 5, 6, 7, 8, 9, 10, 11, 12] rfl ?_
                            exact K226 _
                          · replace h224 := fi_neg h224 c245
                            refine g_iconst (v := 1) hC dL_isWhole_263 (by decide) ?_
                            refine g_goto hC 268 dL_isWhole_264 (by decide) ?_
                            obtain rfl := Option.some.inj h224
                            refine g_sub (L' := [(0, .ref a0), (1, .int r1), (2, .int s5.1), (3, .int s5.2.1), (4, .int s5.2.2.1), (5, .int s5.2.2.2.1), (6, .int s5.2.2.2.2.1), (7, .int s5.2.2.2.2.2.1), (8, .int s5.2.2.2.2.2.2.1), (9, .int s5.2.2.2.2.2.2.2.1), (10, .int s5.2.2.2.2.2.2.2.2.1), (11, .int x39), (14, .int r83)]) [0, 1, 2, 3, 4, 5, 6, 7, 8, 9, 10, 11, 12] rfl ?_
                            exact K226 _
                    refine g_if_eq hC 243 dL_isWhole_236 (by decide) (fun c246 => ?_) (fun c246 => ?_)
                    · replace h213 := fi_pos h213 c246
                      refine g_iconst (v := 0) hC dL_isWhole_243 (by decide) ?_
                      obtain rfl := Option.some.inj h213
                      refine g_sub (L' := [(0, .ref a0), (1, .int r1), (2, .int s5.1), (3, .int s5.2.1), (4, .int s5.2.2.1), (5, .int s5.2.2.2.1), (6, .int s5.2.2.2.2.1), (7, .int s5.2.2.2.2.2.1), (8, .int s5.2.2.2.2.2.2.1), (9, .int s5.2.2.2.2.2.2.2.1), (10, .int s5.2.2.2.2.2.2.2.2.1), (11, .int x39), (14, .int r83), (15, .int x87)]) [0, 1, 2, 3, 4, 5, 6, 7, 8, 9, 10, 11, 13, 14] rfl ?_
                      exact K215 _
                    · replace h213 := fi_neg h213 c246
                      refine g_iconst (v := 1) hC dL_isWhole_239 (by decide) ?_
                      refine g_goto hC 244 dL_isWhole_240 (by decide) ?_
                      obtain rfl := Option.some.inj h213
                      refine g_sub (L' := [(0, .ref a0), (1, .int r1), (2, .int s5.1), (3, .int s5.2.1), (4, .int s5.2.2.1), (5, .int s5.2.2.2.1), (6, .int s5.2.2.2.2.1), (7, .int s5.2.2.2.2.2.1), (8, .int s5.2.2.2.2.2.2.1), (9, .int s5.2.2.2.2.2.2.2.1), (10, .int s5.2.2.2.2.2.2.2.2.1), (11, .int x39), (14, .int r83), (15, .int x87)]) [0, 1, 2, 3, 4, 5, 6, 7, 8, 9, 10, 11, 13, 14] rfl ?_
                      exact K215 _
                refine g_if_eq hC 223 dL_isWhole_216 (by decide) (fun c247 => ?_) (fun c247 => ?_)
                · replace h97 := fi_pos h97 c247
                  refine g_iconst (v := 0) hC dL_isWhole_223 (by decide) ?_
                  obtain rfl := Option.some.inj h97
                  refine g_sub (L' := [(0, .ref a0), (1, .int r1), (2, .int s5.1), (3, .int s5.2.1), (4, .int s5.2.2.1), (5, .int s5.2.2.2.1), (6, .int s5.2.2.2.2.1), (7, .int s5.2.2.2.2.2.1), (8, .int s5.2.2.2.2.2.2.1), (9, .int s5.2.2.2.2.2.2.2.1), (10, .int s5.2.2.2.2.2.2.2.2.1), (11, .int x39), (13, .int x59), (14, .int r83), (15, .int x87)]) [1, 2, 3, 4, 5, 6, 7, 8, 9, 10, 11, 12, 13, 14, 0] rfl ?_
                  exact K99 _
                · replace h97 := fi_neg h97 c247
                  refine g_iconst (v := 1) hC dL_isWhole_219 (by decide) ?_
                  refine g_goto hC 224 dL_isWhole_220 (by decide) ?_
                  obtain rfl := Option.some.inj h97
                  refine g_sub (L' := [(0, .ref a0), (1, .int r1), (2, .int s5.1), (3, .int s5.2.1), (4, .int s5.2.2.1), (5, .int s5.2.2.2.1), (6, .int s5.2.2.2.2.1), (7, .int s5.2.2.2.2.2.1), (8, .int s5.2.2.2.2.2.2.1), (9, .int s5.2.2.2.2.2.2.2.1), (10, .int s5.2.2.2.2.2.2.2.2.1), (11, .int x39), (13, .int x59), (14, .int r83), (15, .int x87)]) [1, 2, 3, 4, 5, 6, 7, 8, 9, 10, 11, 12, 13, 14, 0] rfl ?_
                  exact K99 _
              refine g_if_ge hC 185 dL_isWhole_177 (by decide) (fun c248 => ?_) (fun c248 => ?_)
              · replace h88 := fi_pos h88 c248
                refine g_iconst (v := (-1)) hC dL_isWhole_185 (by decide) ?_
                refine g_aload_n hC dL_isWhole_186 rfl 1 rfl ?_
                refine g_iload hC dL_isWhole_187 11 rfl ?_
                refine g_iconst (v := 4) hC dL_isWhole_189 (by decide) ?_
                obtain ⟨r249, h250, h88⟩ := fb_open h88
                refine g_callLWk hC hL [.ref a0, .int s5.2.2.2.2.2.2.2.2.1, .int 4] (c_L_ticketOf l D cy a0 s5.2.2.2.2.2.2.2.2.1 4 w33 r249 h250) (Or.inl rfl) (fun _ _ h => nomatch h) q_1191 q_72 q_1189 q_1190 h9_L_ticketOf ⟨Nat.le_of_ble_eq_true rfl, Nat.le_of_ble_eq_true rfl⟩ 2 12 rfl rfl ⟨show (b18 + 194) + 2 ≤ 2731 from by omega, show (d18 + 1164) + 12 ≤ 16386 from by omega⟩ (Nat.le_of_ble_eq_true rfl) rfl dL_isWhole_190 (fun z252 _ e251 => ?_)
                refine g_cs (b18 + 196) (d18 + 1176) (show (b18 + 196) = (b18 + 194) + 2 from by omega) (show (d18 + 1176) = (d18 + 1164) + 12 from by omega) ?_
                show gAt X (b18 + 196) (d18 + 1176) 20 w33 z252 gE0 [(14, .int r83), (0, .ref a0), (1, .int r1), (2, .int s5.1), (3, .int s5.2.1), (4, .int s5.2.2.1), (5, .int s5.2.2.2.1), (6, .int s5.2.2.2.2.1), (7, .int s5.2.2.2.2.2.1), (8, .int s5.2.2.2.2.2.2.1), (9, .int s5.2.2.2.2.2.2.2.1), (10, .int s5.2.2.2.2.2.2.2.2.1), (11, .int x39), (13, .int x59)] [.int r249, .int (-1)] 193
                refine g_aload_n hC dL_isWhole_193 rfl 1 rfl ?_
                refine g_iconst (v := 2) hC dL_isWhole_194 (by decide) ?_
                obtain ⟨r253, h254, h88⟩ := fb_open h88
                refine g_callLWk hC hL [.ref a0, .int 2] (c_L_account l D cy a0 2 w33 r253 h254) (Or.inl rfl) (fun _ _ h => nomatch h) q_597 q_72 q_595 q_596 h9_L_account ⟨Nat.le_of_ble_eq_true rfl, Nat.le_of_ble_eq_true rfl⟩ 1 6 rfl rfl ⟨show (b18 + 196) + 1 ≤ 2731 from by omega, show (d18 + 1176) + 6 ≤ 16386 from by omega⟩ (Nat.le_of_ble_eq_true rfl) rfl dL_isWhole_195 (fun z256 _ e255 => ?_)
                refine g_cs (b18 + 197) (d18 + 1182) (show (b18 + 197) = (b18 + 196) + 1 from by omega) (show (d18 + 1182) = (d18 + 1176) + 6 from by omega) ?_
                show gAt X (b18 + 197) (d18 + 1182) 20 w33 z256 gE0 [(14, .int r83), (0, .ref a0), (1, .int r1), (2, .int s5.1), (3, .int s5.2.1), (4, .int s5.2.2.1), (5, .int s5.2.2.2.1), (6, .int s5.2.2.2.2.1), (7, .int s5.2.2.2.2.2.1), (8, .int s5.2.2.2.2.2.2.1), (9, .int s5.2.2.2.2.2.2.2.1), (10, .int s5.2.2.2.2.2.2.2.2.1), (11, .int x39), (13, .int x59)] [.int r253, .int r249, .int (-1)] 198
                refine g_isub hC dL_isWhole_198 ?_
                refine g_iload hC dL_isWhole_199 0 rfl ?_
                refine g_iadd hC dL_isWhole_201 ?_
                obtain ⟨r257, h258, h88⟩ := fb_open h88
                refine g_callSk hC [.int (-1), .int ((r249 - r253) + r83)] (c_J9_max_7cf53 l D cy (-1) ((r249 - r253) + r83) w33 r257 h258) q_694 q_85 q_1272 q_693 h9_J9_max_7cf53 ⟨Nat.le_of_ble_eq_true rfl, Nat.le_of_ble_eq_true rfl⟩ 0 0 rfl rfl ⟨show (b18 + 197) + 0 ≤ 2731 from by omega, show (d18 + 1182) + 0 ≤ 16386 from by omega⟩ (Nat.le_of_ble_eq_true rfl) rfl dL_isWhole_202 (fun z260 _ e259 => ?_)
                refine g_cs (b18 + 197) (d18 + 1182) (show (b18 + 197) = (b18 + 197) + 0 from by omega) (show (d18 + 1182) = (d18 + 1182) + 0 from by omega) ?_
                show gAt X (b18 + 197) (d18 + 1182) 20 w33 z260 gE0 [(14, .int r83), (0, .ref a0), (1, .int r1), (2, .int s5.1), (3, .int s5.2.1), (4, .int s5.2.2.1), (5, .int s5.2.2.2.1), (6, .int s5.2.2.2.2.1), (7, .int s5.2.2.2.2.2.1), (8, .int s5.2.2.2.2.2.2.1), (9, .int s5.2.2.2.2.2.2.2.1), (10, .int s5.2.2.2.2.2.2.2.2.1), (11, .int x39), (13, .int x59)] [.int r257] 205
                obtain rfl := Option.some.inj h88
                refine g_sub (L' := [(0, .ref a0), (1, .int r1), (2, .int s5.1), (3, .int s5.2.1), (4, .int s5.2.2.1), (5, .int s5.2.2.2.1), (6, .int s5.2.2.2.2.1), (7, .int s5.2.2.2.2.2.1), (8, .int s5.2.2.2.2.2.2.1), (9, .int s5.2.2.2.2.2.2.2.1), (10, .int s5.2.2.2.2.2.2.2.2.1), (11, .int x39), (13, .int x59), (14, .int r83)]) [1, 2, 3, 4, 5, 6, 7, 8, 9, 10, 11, 12, 13, 0] rfl ?_
                exact K90 _
              · replace h88 := fi_neg h88 c248
                refine g_bipush (v := (-75)) hC dL_isWhole_180 (by decide) ?_
                refine g_goto hC 205 dL_isWhole_182 (by decide) ?_
                obtain rfl := Option.some.inj h88
                refine g_sub (L' := [(0, .ref a0), (1, .int r1), (2, .int s5.1), (3, .int s5.2.1), (4, .int s5.2.2.1), (5, .int s5.2.2.2.1), (6, .int s5.2.2.2.2.1), (7, .int s5.2.2.2.2.2.1), (8, .int s5.2.2.2.2.2.2.1), (9, .int s5.2.2.2.2.2.2.2.1), (10, .int s5.2.2.2.2.2.2.2.2.1), (11, .int x39), (13, .int x59), (14, .int r83)]) [1, 2, 3, 4, 5, 6, 7, 8, 9, 10, 11, 12, 13, 0] rfl ?_
                refine g_widen (k' := (b18 + 197)) (s' := (d18 + 1182)) (by omega) (by omega) ?_
                exact K90 _
            refine g_sub (L' := [(0, .ref a0), (1, .int r1), (2, .int s5.1), (3, .int s5.2.1), (4, .int s5.2.2.1), (5, .int s5.2.2.2.1), (6, .int s5.2.2.2.2.1), (7, .int s5.2.2.2.2.2.1), (8, .int s5.2.2.2.2.2.2.1), (9, .int s5.2.2.2.2.2.2.2.1), (10, .int s5.2.2.2.2.2.2.2.2.1), (11, .int x39), (13, .int x48), (14, .int 0)]) [3, 4, 5, 6, 7, 8, 9, 10, 11, 12, 13, 14, 1, 0] rfl ?_
            refine fLoopB_use h60 (fun (n62 : Nat) (s53 : Int32 × Int32) => ∀ b66 d66 : Nat, b66 + n62 * 8 ≤ (b18 + 192) ∧ d66 + n62 * 48 ≤ (d18 + 1152) → ∀ z64 : Nat, gAt X b66 d66 20 w33 z64 gE0 [(0, .ref a0), (1, .int r1), (2, .int s5.1), (3, .int s5.2.1), (4, .int s5.2.2.1), (5, .int s5.2.2.2.1), (6, .int s5.2.2.2.2.1), (7, .int s5.2.2.2.2.2.1), (8, .int s5.2.2.2.2.2.2.1), (9, .int s5.2.2.2.2.2.2.2.1), (10, .int s5.2.2.2.2.2.2.2.2.1), (11, .int x39), (13, .int s53.1), (14, .int s53.2)] [] 114) (fun n62 s53 y58 h54 go55 ou56 => ?_) (b18 + 136) (d18 + 816) ⟨bud3 b18 136 (7 * 8) 192 rfl, bud3 d18 816 (7 * 48) 1152 rfl⟩ _
            intro b66 d66 k67 z64
            obtain ⟨k67, k67'⟩ := k67
            refine g_iload hC dL_isWhole_114 13 rfl ?_
            refine g_aload_n hC dL_isWhole_116 rfl 0 rfl ?_
            refine g_iload hC dL_isWhole_117 10 rfl ?_
            refine g_iconst (v := 0) hC dL_isWhole_119 (by decide) ?_
            obtain ⟨r68, h69, h54⟩ := fb_open h54
            refine g_callLWk hC hL [.ref a0, .int s5.2.2.2.2.2.2.2.2.1, .int 0] (c_L_ticketOf l D cy a0 s5.2.2.2.2.2.2.2.2.1 0 w33 r68 h69) (Or.inl rfl) (fun _ _ h => nomatch h) q_1191 q_72 q_1189 q_1190 h9_L_ticketOf ⟨Nat.le_of_ble_eq_true rfl, Nat.le_of_ble_eq_true rfl⟩ 2 12 rfl rfl ⟨show b66 + 2 ≤ 2731 from by omega, show d66 + 12 ≤ 16386 from by omega⟩ (Nat.le_of_ble_eq_true rfl) rfl dL_isWhole_120 (fun z71 _ e70 => ?_)
            refine g_cs (b66 + 2) (d66 + 12) (show (b66 + 2) = b66 + 2 from by omega) (show (d66 + 12) = d66 + 12 from by omega) ?_
            show gAt X (b66 + 2) (d66 + 12) 20 w33 z71 gE0 [(0, .ref a0), (1, .int r1), (2, .int s5.1), (3, .int s5.2.1), (4, .int s5.2.2.1), (5, .int s5.2.2.2.1), (6, .int s5.2.2.2.2.1), (7, .int s5.2.2.2.2.2.1), (8, .int s5.2.2.2.2.2.2.1), (9, .int s5.2.2.2.2.2.2.2.1), (10, .int s5.2.2.2.2.2.2.2.2.1), (11, .int x39), (13, .int s53.1), (14, .int s53.2)] [.int r68, .int s53.2] 123
            refine g_icmp_ge hC 165 dL_isWhole_123 (by decide) (fun c72 => ?_) (fun c72 => ?_)
            · replace h54 := fi_pos h54 c72
              obtain rfl := Option.some.inj h54
              obtain rfl := ou56 _ rfl
              refine g_sub (L' := [(0, .ref a0), (1, .int r1), (2, .int s5.1), (3, .int s5.2.1), (4, .int s5.2.2.1), (5, .int s5.2.2.2.1), (6, .int s5.2.2.2.2.1), (7, .int s5.2.2.2.2.2.1), (8, .int s5.2.2.2.2.2.2.1), (9, .int s5.2.2.2.2.2.2.2.1), (10, .int s5.2.2.2.2.2.2.2.2.1), (11, .int x39), (13, .int s53.1)]) [0, 1, 2, 3, 4, 5, 6, 7, 8, 9, 10, 11, 12] rfl ?_
              refine g_widen (k' := (b18 + 192)) (s' := (d18 + 1152)) (by omega) (by omega) ?_
              exact K61 _
            · replace h54 := fi_neg h54 c72
              refine g_iload hC dL_isWhole_126 12 rfl ?_
              refine g_if_eq hC 165 dL_isWhole_128 (by decide) (fun c73 => ?_) (fun c73 => ?_)
              · replace h54 := fi_pos h54 c73
                obtain rfl := Option.some.inj h54
                obtain rfl := ou56 _ rfl
                refine g_sub (L' := [(0, .ref a0), (1, .int r1), (2, .int s5.1), (3, .int s5.2.1), (4, .int s5.2.2.1), (5, .int s5.2.2.2.1), (6, .int s5.2.2.2.2.1), (7, .int s5.2.2.2.2.2.1), (8, .int s5.2.2.2.2.2.2.1), (9, .int s5.2.2.2.2.2.2.2.1), (10, .int s5.2.2.2.2.2.2.2.2.1), (11, .int x39), (13, .int s53.1)]) [0, 1, 2, 3, 4, 5, 6, 7, 8, 9, 10, 11, 12] rfl ?_
                refine g_widen (k' := (b18 + 192)) (s' := (d18 + 1152)) (by omega) (by omega) ?_
                exact K61 _
              · replace h54 := fi_neg h54 c73
                refine g_aload_n hC dL_isWhole_131 rfl 0 rfl ?_
                refine g_iload hC dL_isWhole_132 10 rfl ?_
                refine g_iconst (v := 0) hC dL_isWhole_134 (by decide) ?_
                refine g_iload hC dL_isWhole_135 13 rfl ?_
                obtain ⟨r74, h75, h54⟩ := fb_open h54
                refine g_callLWk hC hL [.ref a0, .int s5.2.2.2.2.2.2.2.2.1, .int 0, .int s53.2] (c_L_readAt l D cy a0 s5.2.2.2.2.2.2.2.2.1 0 s53.2 w33 r74 h75) (Or.inl rfl) (fun _ _ h => nomatch h) q_1216 q_72 q_1214 q_1215 h9_L_readAt ⟨Nat.le_of_ble_eq_true rfl, Nat.le_of_ble_eq_true rfl⟩ 3 18 rfl rfl ⟨show (b66 + 2) + 3 ≤ 2731 from by omega, show (d66 + 12) + 18 ≤ 16386 from by omega⟩ (Nat.le_of_ble_eq_true rfl) rfl dL_isWhole_137 (fun z77 _ e76 => ?_)
                refine g_cs (b66 + 5) (d66 + 30) (show (b66 + 5) = (b66 + 2) + 3 from by omega) (show (d66 + 30) = (d66 + 12) + 18 from by omega) ?_
                show gAt X (b66 + 5) (d66 + 30) 20 w33 z77 gE0 [(0, .ref a0), (1, .int r1), (2, .int s5.1), (3, .int s5.2.1), (4, .int s5.2.2.1), (5, .int s5.2.2.2.1), (6, .int s5.2.2.2.2.1), (7, .int s5.2.2.2.2.2.1), (8, .int s5.2.2.2.2.2.2.1), (9, .int s5.2.2.2.2.2.2.2.1), (10, .int s5.2.2.2.2.2.2.2.2.1), (11, .int x39), (13, .int s53.1), (14, .int s53.2)] [.int r74] 140
                refine g_aload_n hC dL_isWhole_140 rfl 0 rfl ?_
                refine g_iload hC dL_isWhole_141 10 rfl ?_
                refine g_iconst (v := 1) hC dL_isWhole_143 (by decide) ?_
                refine g_iload hC dL_isWhole_144 13 rfl ?_
                obtain ⟨r78, h79, h54⟩ := fb_open h54
                refine g_callLWk hC hL [.ref a0, .int s5.2.2.2.2.2.2.2.2.1, .int 1, .int s53.2] (c_L_readAt l D cy a0 s5.2.2.2.2.2.2.2.2.1 1 s53.2 w33 r78 h79) (Or.inl rfl) (fun _ _ h => nomatch h) q_1216 q_72 q_1214 q_1215 h9_L_readAt ⟨Nat.le_of_ble_eq_true rfl, Nat.le_of_ble_eq_true rfl⟩ 3 18 rfl rfl ⟨show (b66 + 5) + 3 ≤ 2731 from by omega, show (d66 + 30) + 18 ≤ 16386 from by omega⟩ (Nat.le_of_ble_eq_true rfl) rfl dL_isWhole_146 (fun z81 _ e80 => ?_)
                refine g_cs (b66 + 8) (d66 + 48) (show (b66 + 8) = (b66 + 5) + 3 from by omega) (show (d66 + 48) = (d66 + 30) + 18 from by omega) ?_
                show gAt X (b66 + 8) (d66 + 48) 20 w33 z81 gE0 [(0, .ref a0), (1, .int r1), (2, .int s5.1), (3, .int s5.2.1), (4, .int s5.2.2.1), (5, .int s5.2.2.2.1), (6, .int s5.2.2.2.2.1), (7, .int s5.2.2.2.2.2.1), (8, .int s5.2.2.2.2.2.2.1), (9, .int s5.2.2.2.2.2.2.2.1), (10, .int s5.2.2.2.2.2.2.2.2.1), (11, .int x39), (13, .int s53.1), (14, .int s53.2)] [.int r78, .int r74] 149
                refine g_icmp_ne hC 156 dL_isWhole_149 (by decide) (fun c82 => ?_) (fun c82 => ?_)
                · replace h54 := fi_neg h54 c82
                  refine g_iconst (v := 0) hC dL_isWhole_156 (by decide) ?_
                  refine g_istore (L' := [(13, .int 0), (0, .ref a0), (1, .int r1), (2, .int s5.1), (3, .int s5.2.1), (4, .int s5.2.2.1), (5, .int s5.2.2.2.1), (6, .int s5.2.2.2.2.1), (7, .int s5.2.2.2.2.2.1), (8, .int s5.2.2.2.2.2.2.1), (9, .int s5.2.2.2.2.2.2.2.1), (10, .int s5.2.2.2.2.2.2.2.2.1), (11, .int x39), (14, .int s53.2)]) hC dL_isWhole_157 (by decide) rfl ?_
                  refine g_iinc (L' := [(14, .int (s53.2 + 1)), (13, .int 0), (0, .ref a0), (1, .int r1), (2, .int s5.1), (3, .int s5.2.1), (4, .int s5.2.2.1), (5, .int s5.2.2.2.1), (6, .int s5.2.2.2.2.1), (7, .int s5.2.2.2.2.2.1), (8, .int s5.2.2.2.2.2.2.1), (9, .int s5.2.2.2.2.2.2.2.1), (10, .int s5.2.2.2.2.2.2.2.2.1), (11, .int x39)]) hC dL_isWhole_159 13 rfl rfl (by decide) rfl ?_
                  refine g_goto hC 114 dL_isWhole_162 (by decide) ?_
                  obtain rfl := Option.some.inj h54
                  refine g_sub (L' := [(0, .ref a0), (1, .int r1), (2, .int s5.1), (3, .int s5.2.1), (4, .int s5.2.2.1), (5, .int s5.2.2.2.1), (6, .int s5.2.2.2.2.1), (7, .int s5.2.2.2.2.2.1), (8, .int s5.2.2.2.2.2.2.1), (9, .int s5.2.2.2.2.2.2.2.1), (10, .int s5.2.2.2.2.2.2.2.2.1), (11, .int x39), (13, .int 0), (14, .int (s53.2 + 1))]) [2, 3, 4, 5, 6, 7, 8, 9, 10, 11, 12, 13, 1, 0] rfl ?_
                  exact go55 (0, (s53.2 + 1)) rfl _ _ ⟨by omega, by omega⟩ _
                · replace h54 := fi_pos h54 c82
                  refine g_iconst (v := 1) hC dL_isWhole_152 (by decide) ?_
                  refine g_goto hC 157 dL_isWhole_153 (by decide) ?_
                  refine g_istore (L' := [(13, .int 1), (0, .ref a0), (1, .int r1), (2, .int s5.1), (3, .int s5.2.1), (4, .int s5.2.2.1), (5, .int s5.2.2.2.1), (6, .int s5.2.2.2.2.1), (7, .int s5.2.2.2.2.2.1), (8, .int s5.2.2.2.2.2.2.1), (9, .int s5.2.2.2.2.2.2.2.1), (10, .int s5.2.2.2.2.2.2.2.2.1), (11, .int x39), (14, .int s53.2)]) hC dL_isWhole_157 (by decide) rfl ?_
                  refine g_iinc (L' := [(14, .int (s53.2 + 1)), (13, .int 1), (0, .ref a0), (1, .int r1), (2, .int s5.1), (3, .int s5.2.1), (4, .int s5.2.2.1), (5, .int s5.2.2.2.1), (6, .int s5.2.2.2.2.1), (7, .int s5.2.2.2.2.2.1), (8, .int s5.2.2.2.2.2.2.1), (9, .int s5.2.2.2.2.2.2.2.1), (10, .int s5.2.2.2.2.2.2.2.2.1), (11, .int x39)]) hC dL_isWhole_159 13 rfl rfl (by decide) rfl ?_
                  refine g_goto hC 114 dL_isWhole_162 (by decide) ?_
                  obtain rfl := Option.some.inj h54
                  refine g_sub (L' := [(0, .ref a0), (1, .int r1), (2, .int s5.1), (3, .int s5.2.1), (4, .int s5.2.2.1), (5, .int s5.2.2.2.1), (6, .int s5.2.2.2.2.1), (7, .int s5.2.2.2.2.2.1), (8, .int s5.2.2.2.2.2.2.1), (9, .int s5.2.2.2.2.2.2.2.1), (10, .int s5.2.2.2.2.2.2.2.2.1), (11, .int x39), (13, .int 1), (14, .int (s53.2 + 1))]) [2, 3, 4, 5, 6, 7, 8, 9, 10, 11, 12, 13, 1, 0] rfl ?_
                  exact go55 (1, (s53.2 + 1)) rfl _ _ ⟨by omega, by omega⟩ _
          refine g_icmp_ne hC 104 dL_isWhole_85 (by decide) (fun c261 => ?_) (fun c261 => ?_)
          · replace h49 := fi_neg h49 c261
            refine g_iconst (v := 0) hC dL_isWhole_104 (by decide) ?_
            obtain rfl := Option.some.inj h49
            refine g_sub (L' := [(0, .ref a0), (1, .int r1), (2, .int s5.1), (3, .int s5.2.1), (4, .int s5.2.2.1), (5, .int s5.2.2.2.1), (6, .int s5.2.2.2.2.1), (7, .int s5.2.2.2.2.2.1), (8, .int s5.2.2.2.2.2.2.1), (9, .int s5.2.2.2.2.2.2.2.1), (10, .int s5.2.2.2.2.2.2.2.2.1), (11, .int x39)]) [1, 2, 3, 4, 5, 6, 7, 8, 9, 10, 11, 0] rfl ?_
            refine g_widen (k' := (b18 + 136)) (s' := (d18 + 816)) (by omega) (by omega) ?_
            exact K51 _
          · replace h49 := fi_pos h49 c261
            refine g_aload_n hC dL_isWhole_88 rfl 1 rfl ?_
            refine g_iload hC dL_isWhole_89 11 rfl ?_
            refine g_iconst (v := 1) hC dL_isWhole_91 (by decide) ?_
            refine g_iconst (v := 0) hC dL_isWhole_92 (by decide) ?_
            obtain ⟨r262, h263, h49⟩ := fb_open h49
            refine g_callLWk hC hL [.ref a0, .int s5.2.2.2.2.2.2.2.2.1, .int 1, .int 0] (c_L_halfOf l D cy a0 s5.2.2.2.2.2.2.2.2.1 1 0 w33 r262 h263) (Or.inl rfl) (fun _ _ h => nomatch h) q_315 q_72 q_313 q_314 h9_L_halfOf ⟨Nat.le_of_ble_eq_true rfl, Nat.le_of_ble_eq_true rfl⟩ 2 12 rfl rfl ⟨show (b18 + 134) + 2 ≤ 2731 from by omega, show (d18 + 804) + 12 ≤ 16386 from by omega⟩ (Nat.le_of_ble_eq_true rfl) rfl dL_isWhole_93 (fun z265 _ e264 => ?_)
            refine g_cs (b18 + 136) (d18 + 816) (show (b18 + 136) = (b18 + 134) + 2 from by omega) (show (d18 + 816) = (d18 + 804) + 12 from by omega) ?_
            show gAt X (b18 + 136) (d18 + 816) 20 w33 z265 gE0 [(11, .int x39), (0, .ref a0), (1, .int r1), (2, .int s5.1), (3, .int s5.2.1), (4, .int s5.2.2.1), (5, .int s5.2.2.2.1), (6, .int s5.2.2.2.2.1), (7, .int s5.2.2.2.2.2.1), (8, .int s5.2.2.2.2.2.2.1), (9, .int s5.2.2.2.2.2.2.2.1), (10, .int s5.2.2.2.2.2.2.2.2.1)] [.int r262] 96
            refine g_iconst (v := 1) hC dL_isWhole_96 (by decide) ?_
            refine g_icmp_ne hC 104 dL_isWhole_97 (by decide) (fun c266 => ?_) (fun c266 => ?_)
            · replace h49 := fi_neg h49 c266
              refine g_iconst (v := 0) hC dL_isWhole_104 (by decide) ?_
              obtain rfl := Option.some.inj h49
              refine g_sub (L' := [(0, .ref a0), (1, .int r1), (2, .int s5.1), (3, .int s5.2.1), (4, .int s5.2.2.1), (5, .int s5.2.2.2.1), (6, .int s5.2.2.2.2.1), (7, .int s5.2.2.2.2.2.1), (8, .int s5.2.2.2.2.2.2.1), (9, .int s5.2.2.2.2.2.2.2.1), (10, .int s5.2.2.2.2.2.2.2.2.1), (11, .int x39)]) [1, 2, 3, 4, 5, 6, 7, 8, 9, 10, 11, 0] rfl ?_
              exact K51 _
            · replace h49 := fi_pos h49 c266
              refine g_iconst (v := 1) hC dL_isWhole_100 (by decide) ?_
              refine g_goto hC 105 dL_isWhole_101 (by decide) ?_
              obtain rfl := Option.some.inj h49
              refine g_sub (L' := [(0, .ref a0), (1, .int r1), (2, .int s5.1), (3, .int s5.2.1), (4, .int s5.2.2.1), (5, .int s5.2.2.2.1), (6, .int s5.2.2.2.2.1), (7, .int s5.2.2.2.2.2.1), (8, .int s5.2.2.2.2.2.2.1), (9, .int s5.2.2.2.2.2.2.2.1), (10, .int s5.2.2.2.2.2.2.2.2.1), (11, .int x39)]) [1, 2, 3, 4, 5, 6, 7, 8, 9, 10, 11, 0] rfl ?_
              exact K51 _
        refine g_if_ne hC 73 dL_isWhole_66 (by decide) (fun c267 => ?_) (fun c267 => ?_)
        · replace h40 := fi_neg h40 c267
          refine g_iconst (v := 0) hC dL_isWhole_73 (by decide) ?_
          obtain rfl := Option.some.inj h40
          exact K42 _
        · replace h40 := fi_pos h40 c267
          refine g_iconst (v := 1) hC dL_isWhole_69 (by decide) ?_
          refine g_goto hC 74 dL_isWhole_70 (by decide) ?_
          obtain rfl := Option.some.inj h40
          exact K42 _
      · replace h6 := fi_pos h6 c34
        refine g_iconst (v := 0) hC dL_isWhole_57 (by decide) ?_
        obtain rfl := Option.some.inj h6
        obtain rfl := ou8 _ rfl
        obtain rfl := Option.some.inj hF
        refine g_widen (k' := 2731) (s' := 16386) (by omega) (by omega) ?_
        exact g_zret hC hEn (fSm.tr e30 (fSm.tr e23 p9)) (nar_z (by decide)) dL_isWhole_58
