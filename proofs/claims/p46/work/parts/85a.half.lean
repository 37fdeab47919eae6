theorem dL_isHalf_0 : decode cL_isHalf 0 = .ok (.aload_n 0, 1) := by decide +kernel
theorem dL_isHalf_1 : decode cL_isHalf 1 = .ok (.iload_n 1, 1) := by decide +kernel
theorem dL_isHalf_2 : decode cL_isHalf 2 = .ok (.iconst 0, 1) := by decide +kernel
theorem dL_isHalf_3 : decode cL_isHalf 3 = .ok (.invokestatic 302, 3) := by decide +kernel
theorem dL_isHalf_6 : decode cL_isHalf 6 = .ok (.istore_n 3, 1) := by decide +kernel
theorem dL_isHalf_7 : decode cL_isHalf 7 = .ok (.aload_n 0, 1) := by decide +kernel
theorem dL_isHalf_8 : decode cL_isHalf 8 = .ok (.iload_n 1, 1) := by decide +kernel
theorem dL_isHalf_9 : decode cL_isHalf 9 = .ok (.iload_n 2, 1) := by decide +kernel
theorem dL_isHalf_10 : decode cL_isHalf 10 = .ok (.iconst 2, 1) := by decide +kernel
theorem dL_isHalf_11 : decode cL_isHalf 11 = .ok (.invokestatic 205, 3) := by decide +kernel
theorem dL_isHalf_14 : decode cL_isHalf 14 = .ok (.istore 4, 2) := by decide +kernel
theorem dL_isHalf_16 : decode cL_isHalf 16 = .ok (.aload_n 0, 1) := by decide +kernel
theorem dL_isHalf_17 : decode cL_isHalf 17 = .ok (.iload_n 1, 1) := by decide +kernel
theorem dL_isHalf_18 : decode cL_isHalf 18 = .ok (.iload_n 2, 1) := by decide +kernel
theorem dL_isHalf_19 : decode cL_isHalf 19 = .ok (.iconst 3, 1) := by decide +kernel
theorem dL_isHalf_20 : decode cL_isHalf 20 = .ok (.invokestatic 205, 3) := by decide +kernel
theorem dL_isHalf_23 : decode cL_isHalf 23 = .ok (.istore 5, 2) := by decide +kernel
theorem dL_isHalf_25 : decode cL_isHalf 25 = .ok (.aload_n 0, 1) := by decide +kernel
theorem dL_isHalf_26 : decode cL_isHalf 26 = .ok (.iload_n 1, 1) := by decide +kernel
theorem dL_isHalf_27 : decode cL_isHalf 27 = .ok (.iload_n 2, 1) := by decide +kernel
theorem dL_isHalf_28 : decode cL_isHalf 28 = .ok (.iconst 4, 1) := by decide +kernel
theorem dL_isHalf_29 : decode cL_isHalf 29 = .ok (.invokestatic 205, 3) := by decide +kernel
theorem dL_isHalf_32 : decode cL_isHalf 32 = .ok (.istore 6, 2) := by decide +kernel
theorem dL_isHalf_34 : decode cL_isHalf 34 = .ok (.aload_n 0, 1) := by decide +kernel
theorem dL_isHalf_35 : decode cL_isHalf 35 = .ok (.iload_n 1, 1) := by decide +kernel
theorem dL_isHalf_36 : decode cL_isHalf 36 = .ok (.iconst 1, 1) := by decide +kernel
theorem dL_isHalf_37 : decode cL_isHalf 37 = .ok (.invokestatic 302, 3) := by decide +kernel
theorem dL_isHalf_40 : decode cL_isHalf 40 = .ok (.istore 7, 2) := by decide +kernel
theorem dL_isHalf_42 : decode cL_isHalf 42 = .ok (.aload_n 0, 1) := by decide +kernel
theorem dL_isHalf_43 : decode cL_isHalf 43 = .ok (.iload_n 1, 1) := by decide +kernel
theorem dL_isHalf_44 : decode cL_isHalf 44 = .ok (.iload_n 2, 1) := by decide +kernel
theorem dL_isHalf_45 : decode cL_isHalf 45 = .ok (.iconst 0, 1) := by decide +kernel
theorem dL_isHalf_46 : decode cL_isHalf 46 = .ok (.invokestatic 205, 3) := by decide +kernel
theorem dL_isHalf_49 : decode cL_isHalf 49 = .ok (.iconst 1, 1) := by decide +kernel
theorem dL_isHalf_50 : decode cL_isHalf 50 = .ok (.if_icmp .ne 7, 3) := by decide +kernel
theorem dL_isHalf_53 : decode cL_isHalf 53 = .ok (.iconst 1, 1) := by decide +kernel
theorem dL_isHalf_54 : decode cL_isHalf 54 = .ok (.goto 4, 3) := by decide +kernel
theorem dL_isHalf_57 : decode cL_isHalf 57 = .ok (.iconst 0, 1) := by decide +kernel
theorem dL_isHalf_58 : decode cL_isHalf 58 = .ok (.istore 8, 2) := by decide +kernel
theorem dL_isHalf_60 : decode cL_isHalf 60 = .ok (.iload 8, 2) := by decide +kernel
theorem dL_isHalf_62 : decode cL_isHalf 62 = .ok (.ifCond .ne 97, 3) := by decide +kernel
theorem dL_isHalf_65 : decode cL_isHalf 65 = .ok (.aload_n 0, 1) := by decide +kernel
theorem dL_isHalf_66 : decode cL_isHalf 66 = .ok (.iload_n 1, 1) := by decide +kernel
theorem dL_isHalf_67 : decode cL_isHalf 67 = .ok (.iload_n 2, 1) := by decide +kernel
theorem dL_isHalf_68 : decode cL_isHalf 68 = .ok (.iconst 1, 1) := by decide +kernel
theorem dL_isHalf_69 : decode cL_isHalf 69 = .ok (.invokestatic 205, 3) := by decide +kernel
theorem dL_isHalf_72 : decode cL_isHalf 72 = .ok (.iconst (-1), 1) := by decide +kernel
theorem dL_isHalf_73 : decode cL_isHalf 73 = .ok (.if_icmp .ne 84, 3) := by decide +kernel
theorem dL_isHalf_76 : decode cL_isHalf 76 = .ok (.iload 5, 2) := by decide +kernel
theorem dL_isHalf_78 : decode cL_isHalf 78 = .ok (.ifCond .ne 79, 3) := by decide +kernel
theorem dL_isHalf_81 : decode cL_isHalf 81 = .ok (.iload 6, 2) := by decide +kernel
theorem dL_isHalf_83 : decode cL_isHalf 83 = .ok (.ifCond .ne 74, 3) := by decide +kernel
theorem dL_isHalf_86 : decode cL_isHalf 86 = .ok (.aload_n 0, 1) := by decide +kernel
theorem dL_isHalf_87 : decode cL_isHalf 87 = .ok (.iload_n 1, 1) := by decide +kernel
theorem dL_isHalf_88 : decode cL_isHalf 88 = .ok (.iload_n 2, 1) := by decide +kernel
theorem dL_isHalf_89 : decode cL_isHalf 89 = .ok (.bipush 6, 2) := by decide +kernel
theorem dL_isHalf_91 : decode cL_isHalf 91 = .ok (.invokestatic 205, 3) := by decide +kernel
theorem dL_isHalf_94 : decode cL_isHalf 94 = .ok (.ifCond .ne 63, 3) := by decide +kernel
theorem dL_isHalf_97 : decode cL_isHalf 97 = .ok (.aload_n 0, 1) := by decide +kernel
theorem dL_isHalf_98 : decode cL_isHalf 98 = .ok (.iload_n 1, 1) := by decide +kernel
theorem dL_isHalf_99 : decode cL_isHalf 99 = .ok (.iload_n 2, 1) := by decide +kernel
theorem dL_isHalf_100 : decode cL_isHalf 100 = .ok (.bipush 7, 2) := by decide +kernel
theorem dL_isHalf_102 : decode cL_isHalf 102 = .ok (.invokestatic 205, 3) := by decide +kernel
theorem dL_isHalf_105 : decode cL_isHalf 105 = .ok (.ifCond .ne 52, 3) := by decide +kernel
theorem dL_isHalf_108 : decode cL_isHalf 108 = .ok (.aload_n 0, 1) := by decide +kernel
theorem dL_isHalf_109 : decode cL_isHalf 109 = .ok (.iload_n 1, 1) := by decide +kernel
theorem dL_isHalf_110 : decode cL_isHalf 110 = .ok (.iload_n 2, 1) := by decide +kernel
theorem dL_isHalf_111 : decode cL_isHalf 111 = .ok (.iconst 0, 1) := by decide +kernel
theorem dL_isHalf_112 : decode cL_isHalf 112 = .ok (.invokestatic 308, 3) := by decide +kernel
theorem dL_isHalf_115 : decode cL_isHalf 115 = .ok (.bipush (-75), 2) := by decide +kernel
theorem dL_isHalf_117 : decode cL_isHalf 117 = .ok (.if_icmp .ne 40, 3) := by decide +kernel
theorem dL_isHalf_120 : decode cL_isHalf 120 = .ok (.aload_n 0, 1) := by decide +kernel
theorem dL_isHalf_121 : decode cL_isHalf 121 = .ok (.iload_n 1, 1) := by decide +kernel
theorem dL_isHalf_122 : decode cL_isHalf 122 = .ok (.iload_n 2, 1) := by decide +kernel
theorem dL_isHalf_123 : decode cL_isHalf 123 = .ok (.invokestatic 310, 3) := by decide +kernel
theorem dL_isHalf_126 : decode cL_isHalf 126 = .ok (.bipush (-75), 2) := by decide +kernel
theorem dL_isHalf_128 : decode cL_isHalf 128 = .ok (.if_icmp .ne 29, 3) := by decide +kernel
theorem dL_isHalf_131 : decode cL_isHalf 131 = .ok (.aload_n 0, 1) := by decide +kernel
theorem dL_isHalf_132 : decode cL_isHalf 132 = .ok (.iload_n 1, 1) := by decide +kernel
theorem dL_isHalf_133 : decode cL_isHalf 133 = .ok (.iload_n 2, 1) := by decide +kernel
theorem dL_isHalf_134 : decode cL_isHalf 134 = .ok (.invokestatic 312, 3) := by decide +kernel
theorem dL_isHalf_137 : decode cL_isHalf 137 = .ok (.bipush (-75), 2) := by decide +kernel
theorem dL_isHalf_139 : decode cL_isHalf 139 = .ok (.if_icmp .ne 18, 3) := by decide +kernel
theorem dL_isHalf_142 : decode cL_isHalf 142 = .ok (.aload_n 0, 1) := by decide +kernel
theorem dL_isHalf_143 : decode cL_isHalf 143 = .ok (.iload_n 1, 1) := by decide +kernel
theorem dL_isHalf_144 : decode cL_isHalf 144 = .ok (.iload_n 2, 1) := by decide +kernel
theorem dL_isHalf_145 : decode cL_isHalf 145 = .ok (.invokestatic 314, 3) := by decide +kernel
theorem dL_isHalf_148 : decode cL_isHalf 148 = .ok (.bipush (-75), 2) := by decide +kernel
theorem dL_isHalf_150 : decode cL_isHalf 150 = .ok (.if_icmp .ne 7, 3) := by decide +kernel
theorem dL_isHalf_153 : decode cL_isHalf 153 = .ok (.iconst 1, 1) := by decide +kernel
theorem dL_isHalf_154 : decode cL_isHalf 154 = .ok (.goto 4, 3) := by decide +kernel
theorem dL_isHalf_157 : decode cL_isHalf 157 = .ok (.iconst 0, 1) := by decide +kernel
theorem dL_isHalf_158 : decode cL_isHalf 158 = .ok (.ireturn, 1) := by decide +kernel
theorem dL_isHalf_159 : decode cL_isHalf 159 = .ok (.iconst 0, 1) := by decide +kernel
theorem dL_isHalf_160 : decode cL_isHalf 160 = .ok (.istore 9, 2) := by decide +kernel
theorem dL_isHalf_162 : decode cL_isHalf 162 = .ok (.iconst 0, 1) := by decide +kernel
theorem dL_isHalf_163 : decode cL_isHalf 163 = .ok (.istore 10, 2) := by decide +kernel
theorem dL_isHalf_165 : decode cL_isHalf 165 = .ok (.iconst 0, 1) := by decide +kernel
theorem dL_isHalf_166 : decode cL_isHalf 166 = .ok (.istore 11, 2) := by decide +kernel
theorem dL_isHalf_168 : decode cL_isHalf 168 = .ok (.iload 11, 2) := by decide +kernel
theorem dL_isHalf_170 : decode cL_isHalf 170 = .ok (.iload_n 3, 1) := by decide +kernel
theorem dL_isHalf_171 : decode cL_isHalf 171 = .ok (.if_icmp .ge 58, 3) := by decide +kernel
theorem dL_isHalf_174 : decode cL_isHalf 174 = .ok (.aload_n 0, 1) := by decide +kernel
theorem dL_isHalf_175 : decode cL_isHalf 175 = .ok (.iload_n 1, 1) := by decide +kernel
theorem dL_isHalf_176 : decode cL_isHalf 176 = .ok (.iload_n 2, 1) := by decide +kernel
theorem dL_isHalf_177 : decode cL_isHalf 177 = .ok (.iload 11, 2) := by decide +kernel
theorem dL_isHalf_179 : decode cL_isHalf 179 = .ok (.invokestatic 308, 3) := by decide +kernel
theorem dL_isHalf_182 : decode cL_isHalf 182 = .ok (.istore 12, 2) := by decide +kernel
theorem dL_isHalf_184 : decode cL_isHalf 184 = .ok (.iload 9, 2) := by decide +kernel
theorem dL_isHalf_186 : decode cL_isHalf 186 = .ok (.iload 12, 2) := by decide +kernel
theorem dL_isHalf_188 : decode cL_isHalf 188 = .ok (.aload_n 0, 1) := by decide +kernel
theorem dL_isHalf_189 : decode cL_isHalf 189 = .ok (.iload_n 1, 1) := by decide +kernel
theorem dL_isHalf_190 : decode cL_isHalf 190 = .ok (.iload 11, 2) := by decide +kernel
theorem dL_isHalf_192 : decode cL_isHalf 192 = .ok (.invokestatic 306, 3) := by decide +kernel
theorem dL_isHalf_195 : decode cL_isHalf 195 = .ok (.if_icmp .ne 7, 3) := by decide +kernel
theorem dL_isHalf_198 : decode cL_isHalf 198 = .ok (.iconst 1, 1) := by decide +kernel
theorem dL_isHalf_199 : decode cL_isHalf 199 = .ok (.goto 4, 3) := by decide +kernel
theorem dL_isHalf_202 : decode cL_isHalf 202 = .ok (.iconst 0, 1) := by decide +kernel
theorem dL_isHalf_203 : decode cL_isHalf 203 = .ok (.iadd, 1) := by decide +kernel
theorem dL_isHalf_204 : decode cL_isHalf 204 = .ok (.istore 9, 2) := by decide +kernel
theorem dL_isHalf_206 : decode cL_isHalf 206 = .ok (.iload 10, 2) := by decide +kernel
theorem dL_isHalf_208 : decode cL_isHalf 208 = .ok (.iload 12, 2) := by decide +kernel
theorem dL_isHalf_210 : decode cL_isHalf 210 = .ok (.bipush 63, 2) := by decide +kernel
theorem dL_isHalf_212 : decode cL_isHalf 212 = .ok (.if_icmp .ne 7, 3) := by decide +kernel
theorem dL_isHalf_215 : decode cL_isHalf 215 = .ok (.iconst 1, 1) := by decide +kernel
theorem dL_isHalf_216 : decode cL_isHalf 216 = .ok (.goto 4, 3) := by decide +kernel
theorem dL_isHalf_219 : decode cL_isHalf 219 = .ok (.iconst 0, 1) := by decide +kernel
theorem dL_isHalf_220 : decode cL_isHalf 220 = .ok (.iadd, 1) := by decide +kernel
theorem dL_isHalf_221 : decode cL_isHalf 221 = .ok (.istore 10, 2) := by decide +kernel
theorem dL_isHalf_223 : decode cL_isHalf 223 = .ok (.iinc 11 1, 3) := by decide +kernel
theorem dL_isHalf_226 : decode cL_isHalf 226 = .ok (.goto (-58), 3) := by decide +kernel
theorem dL_isHalf_229 : decode cL_isHalf 229 = .ok (.aload_n 0, 1) := by decide +kernel
theorem dL_isHalf_230 : decode cL_isHalf 230 = .ok (.iload_n 1, 1) := by decide +kernel
theorem dL_isHalf_231 : decode cL_isHalf 231 = .ok (.iload_n 2, 1) := by decide +kernel
theorem dL_isHalf_232 : decode cL_isHalf 232 = .ok (.iconst 1, 1) := by decide +kernel
theorem dL_isHalf_233 : decode cL_isHalf 233 = .ok (.invokestatic 205, 3) := by decide +kernel
theorem dL_isHalf_236 : decode cL_isHalf 236 = .ok (.istore 11, 2) := by decide +kernel
theorem dL_isHalf_238 : decode cL_isHalf 238 = .ok (.aload_n 0, 1) := by decide +kernel
theorem dL_isHalf_239 : decode cL_isHalf 239 = .ok (.iload_n 1, 1) := by decide +kernel
theorem dL_isHalf_240 : decode cL_isHalf 240 = .ok (.iload_n 2, 1) := by decide +kernel
theorem dL_isHalf_241 : decode cL_isHalf 241 = .ok (.invokestatic 310, 3) := by decide +kernel
theorem dL_isHalf_244 : decode cL_isHalf 244 = .ok (.istore 12, 2) := by decide +kernel
theorem dL_isHalf_246 : decode cL_isHalf 246 = .ok (.iload 5, 2) := by decide +kernel
theorem dL_isHalf_248 : decode cL_isHalf 248 = .ok (.iload 7, 2) := by decide +kernel
theorem dL_isHalf_250 : decode cL_isHalf 250 = .ok (.if_icmp .lt 56, 3) := by decide +kernel
theorem dL_isHalf_253 : decode cL_isHalf 253 = .ok (.iload 5, 2) := by decide +kernel
theorem dL_isHalf_255 : decode cL_isHalf 255 = .ok (.iconst 5, 1) := by decide +kernel
theorem dL_isHalf_256 : decode cL_isHalf 256 = .ok (.iload 7, 2) := by decide +kernel
theorem dL_isHalf_258 : decode cL_isHalf 258 = .ok (.imul, 1) := by decide +kernel
theorem dL_isHalf_259 : decode cL_isHalf 259 = .ok (.if_icmp .gt 47, 3) := by decide +kernel
theorem dL_isHalf_262 : decode cL_isHalf 262 = .ok (.iload 6, 2) := by decide +kernel
theorem dL_isHalf_264 : decode cL_isHalf 264 = .ok (.iload 5, 2) := by decide +kernel
theorem dL_isHalf_266 : decode cL_isHalf 266 = .ok (.if_icmp .gt 40, 3) := by decide +kernel
theorem dL_isHalf_269 : decode cL_isHalf 269 = .ok (.iload 6, 2) := by decide +kernel
theorem dL_isHalf_271 : decode cL_isHalf 271 = .ok (.iload 5, 2) := by decide +kernel
theorem dL_isHalf_273 : decode cL_isHalf 273 = .ok (.iload 7, 2) := by decide +kernel
theorem dL_isHalf_275 : decode cL_isHalf 275 = .ok (.iload 4, 2) := by decide +kernel
theorem dL_isHalf_277 : decode cL_isHalf 277 = .ok (.iconst 3, 1) := by decide +kernel
theorem dL_isHalf_278 : decode cL_isHalf 278 = .ok (.idiv, 1) := by decide +kernel
theorem dL_isHalf_279 : decode cL_isHalf 279 = .ok (.imul, 1) := by decide +kernel
theorem dL_isHalf_280 : decode cL_isHalf 280 = .ok (.isub, 1) := by decide +kernel
theorem dL_isHalf_281 : decode cL_isHalf 281 = .ok (.if_icmp .lt 25, 3) := by decide +kernel
theorem dL_isHalf_284 : decode cL_isHalf 284 = .ok (.iload 4, 2) := by decide +kernel
theorem dL_isHalf_286 : decode cL_isHalf 286 = .ok (.bipush 9, 2) := by decide +kernel
theorem dL_isHalf_288 : decode cL_isHalf 288 = .ok (.if_icmp .gt 18, 3) := by decide +kernel
theorem dL_isHalf_291 : decode cL_isHalf 291 = .ok (.iload 11, 2) := by decide +kernel
theorem dL_isHalf_293 : decode cL_isHalf 293 = .ok (.ifCond .lt 13, 3) := by decide +kernel
theorem dL_isHalf_296 : decode cL_isHalf 296 = .ok (.iload 11, 2) := by decide +kernel
theorem dL_isHalf_298 : decode cL_isHalf 298 = .ok (.iconst 5, 1) := by decide +kernel
theorem dL_isHalf_299 : decode cL_isHalf 299 = .ok (.if_icmp .ge 7, 3) := by decide +kernel
theorem dL_isHalf_302 : decode cL_isHalf 302 = .ok (.iconst 1, 1) := by decide +kernel
theorem dL_isHalf_303 : decode cL_isHalf 303 = .ok (.goto 4, 3) := by decide +kernel
theorem dL_isHalf_306 : decode cL_isHalf 306 = .ok (.iconst 0, 1) := by decide +kernel
theorem dL_isHalf_307 : decode cL_isHalf 307 = .ok (.istore 13, 2) := by decide +kernel
theorem dL_isHalf_309 : decode cL_isHalf 309 = .ok (.aload_n 0, 1) := by decide +kernel
theorem dL_isHalf_310 : decode cL_isHalf 310 = .ok (.iload_n 1, 1) := by decide +kernel
theorem dL_isHalf_311 : decode cL_isHalf 311 = .ok (.iload_n 2, 1) := by decide +kernel
theorem dL_isHalf_312 : decode cL_isHalf 312 = .ok (.bipush 7, 2) := by decide +kernel
theorem dL_isHalf_314 : decode cL_isHalf 314 = .ok (.invokestatic 205, 3) := by decide +kernel
theorem dL_isHalf_317 : decode cL_isHalf 317 = .ok (.iload 9, 2) := by decide +kernel
theorem dL_isHalf_319 : decode cL_isHalf 319 = .ok (.if_icmp .ne 64, 3) := by decide +kernel
theorem dL_isHalf_322 : decode cL_isHalf 322 = .ok (.iload 9, 2) := by decide +kernel
theorem dL_isHalf_324 : decode cL_isHalf 324 = .ok (.iload_n 3, 1) := by decide +kernel
theorem dL_isHalf_325 : decode cL_isHalf 325 = .ok (.iload 7, 2) := by decide +kernel
theorem dL_isHalf_327 : decode cL_isHalf 327 = .ok (.isub, 1) := by decide +kernel
theorem dL_isHalf_328 : decode cL_isHalf 328 = .ok (.if_icmp .lt 55, 3) := by decide +kernel
theorem dL_isHalf_331 : decode cL_isHalf 331 = .ok (.iload 4, 2) := by decide +kernel
theorem dL_isHalf_333 : decode cL_isHalf 333 = .ok (.iconst 2, 1) := by decide +kernel
theorem dL_isHalf_334 : decode cL_isHalf 334 = .ok (.if_icmp .gt 21, 3) := by decide +kernel
theorem dL_isHalf_337 : decode cL_isHalf 337 = .ok (.iload 9, 2) := by decide +kernel
theorem dL_isHalf_339 : decode cL_isHalf 339 = .ok (.iload_n 3, 1) := by decide +kernel
theorem dL_isHalf_340 : decode cL_isHalf 340 = .ok (.if_icmp .ne 43, 3) := by decide +kernel
theorem dL_isHalf_343 : decode cL_isHalf 343 = .ok (.iload 6, 2) := by decide +kernel
theorem dL_isHalf_345 : decode cL_isHalf 345 = .ok (.iload 5, 2) := by decide +kernel
theorem dL_isHalf_347 : decode cL_isHalf 347 = .ok (.if_icmp .ne 36, 3) := by decide +kernel
theorem dL_isHalf_350 : decode cL_isHalf 350 = .ok (.iload 10, 2) := by decide +kernel
theorem dL_isHalf_352 : decode cL_isHalf 352 = .ok (.ifCond .ne 31, 3) := by decide +kernel
theorem dL_isHalf_355 : decode cL_isHalf 355 = .ok (.aload_n 0, 1) := by decide +kernel
theorem dL_isHalf_356 : decode cL_isHalf 356 = .ok (.iload_n 1, 1) := by decide +kernel
theorem dL_isHalf_357 : decode cL_isHalf 357 = .ok (.iload_n 2, 1) := by decide +kernel
theorem dL_isHalf_358 : decode cL_isHalf 358 = .ok (.iconst 0, 1) := by decide +kernel
theorem dL_isHalf_359 : decode cL_isHalf 359 = .ok (.invokestatic 198, 3) := by decide +kernel
theorem dL_isHalf_362 : decode cL_isHalf 362 = .ok (.iload 9, 2) := by decide +kernel
theorem dL_isHalf_364 : decode cL_isHalf 364 = .ok (.if_icmp .ne 19, 3) := by decide +kernel
theorem dL_isHalf_367 : decode cL_isHalf 367 = .ok (.aload_n 0, 1) := by decide +kernel
theorem dL_isHalf_368 : decode cL_isHalf 368 = .ok (.iload_n 1, 1) := by decide +kernel
theorem dL_isHalf_369 : decode cL_isHalf 369 = .ok (.iload_n 2, 1) := by decide +kernel
theorem dL_isHalf_370 : decode cL_isHalf 370 = .ok (.iload_n 3, 1) := by decide +kernel
theorem dL_isHalf_371 : decode cL_isHalf 371 = .ok (.invokestatic 308, 3) := by decide +kernel
theorem dL_isHalf_374 : decode cL_isHalf 374 = .ok (.bipush (-75), 2) := by decide +kernel
theorem dL_isHalf_376 : decode cL_isHalf 376 = .ok (.if_icmp .ne 7, 3) := by decide +kernel
theorem dL_isHalf_379 : decode cL_isHalf 379 = .ok (.iconst 1, 1) := by decide +kernel
theorem dL_isHalf_380 : decode cL_isHalf 380 = .ok (.goto 4, 3) := by decide +kernel
theorem dL_isHalf_383 : decode cL_isHalf 383 = .ok (.iconst 0, 1) := by decide +kernel
theorem dL_isHalf_384 : decode cL_isHalf 384 = .ok (.istore 14, 2) := by decide +kernel
theorem dL_isHalf_386 : decode cL_isHalf 386 = .ok (.iload 12, 2) := by decide +kernel
theorem dL_isHalf_388 : decode cL_isHalf 388 = .ok (.bipush (-75), 2) := by decide +kernel
theorem dL_isHalf_390 : decode cL_isHalf 390 = .ok (.if_icmp .ne 17, 3) := by decide +kernel
theorem dL_isHalf_393 : decode cL_isHalf 393 = .ok (.iload 9, 2) := by decide +kernel
theorem dL_isHalf_395 : decode cL_isHalf 395 = .ok (.iload_n 3, 1) := by decide +kernel
theorem dL_isHalf_396 : decode cL_isHalf 396 = .ok (.if_icmp .ge 7, 3) := by decide +kernel
theorem dL_isHalf_399 : decode cL_isHalf 399 = .ok (.iconst 1, 1) := by decide +kernel
theorem dL_isHalf_400 : decode cL_isHalf 400 = .ok (.goto 54, 3) := by decide +kernel
theorem dL_isHalf_403 : decode cL_isHalf 403 = .ok (.iconst 0, 1) := by decide +kernel
theorem dL_isHalf_404 : decode cL_isHalf 404 = .ok (.goto 50, 3) := by decide +kernel
theorem dL_isHalf_407 : decode cL_isHalf 407 = .ok (.iload 12, 2) := by decide +kernel
theorem dL_isHalf_409 : decode cL_isHalf 409 = .ok (.ifCond .lt 44, 3) := by decide +kernel
theorem dL_isHalf_412 : decode cL_isHalf 412 = .ok (.iload 12, 2) := by decide +kernel
theorem dL_isHalf_414 : decode cL_isHalf 414 = .ok (.iconst 5, 1) := by decide +kernel
theorem dL_isHalf_415 : decode cL_isHalf 415 = .ok (.if_icmp .ge 38, 3) := by decide +kernel
theorem dL_isHalf_418 : decode cL_isHalf 418 = .ok (.iload 10, 2) := by decide +kernel
theorem dL_isHalf_420 : decode cL_isHalf 420 = .ok (.ifCond .ne 33, 3) := by decide +kernel
theorem dL_isHalf_423 : decode cL_isHalf 423 = .ok (.iload 9, 2) := by decide +kernel
theorem dL_isHalf_425 : decode cL_isHalf 425 = .ok (.iload_n 3, 1) := by decide +kernel
theorem dL_isHalf_426 : decode cL_isHalf 426 = .ok (.if_icmp .ge 7, 3) := by decide +kernel
theorem dL_isHalf_429 : decode cL_isHalf 429 = .ok (.iconst 1, 1) := by decide +kernel
theorem dL_isHalf_430 : decode cL_isHalf 430 = .ok (.goto 4, 3) := by decide +kernel
theorem dL_isHalf_433 : decode cL_isHalf 433 = .ok (.iconst 0, 1) := by decide +kernel
theorem dL_isHalf_434 : decode cL_isHalf 434 = .ok (.iload 12, 2) := by decide +kernel
theorem dL_isHalf_436 : decode cL_isHalf 436 = .ok (.iload 11, 2) := by decide +kernel
theorem dL_isHalf_438 : decode cL_isHalf 438 = .ok (.if_icmp .eq 7, 3) := by decide +kernel
theorem dL_isHalf_441 : decode cL_isHalf 441 = .ok (.iconst 1, 1) := by decide +kernel
theorem dL_isHalf_442 : decode cL_isHalf 442 = .ok (.goto 4, 3) := by decide +kernel
theorem dL_isHalf_445 : decode cL_isHalf 445 = .ok (.iconst 0, 1) := by decide +kernel
theorem dL_isHalf_446 : decode cL_isHalf 446 = .ok (.if_icmp .ne 7, 3) := by decide +kernel
theorem dL_isHalf_449 : decode cL_isHalf 449 = .ok (.iconst 1, 1) := by decide +kernel
theorem dL_isHalf_450 : decode cL_isHalf 450 = .ok (.goto 4, 3) := by decide +kernel
theorem dL_isHalf_453 : decode cL_isHalf 453 = .ok (.iconst 0, 1) := by decide +kernel
theorem dL_isHalf_454 : decode cL_isHalf 454 = .ok (.istore 15, 2) := by decide +kernel
theorem dL_isHalf_456 : decode cL_isHalf 456 = .ok (.aload_n 0, 1) := by decide +kernel
theorem dL_isHalf_457 : decode cL_isHalf 457 = .ok (.iload_n 1, 1) := by decide +kernel
theorem dL_isHalf_458 : decode cL_isHalf 458 = .ok (.iload_n 2, 1) := by decide +kernel
theorem dL_isHalf_459 : decode cL_isHalf 459 = .ok (.invokestatic 312, 3) := by decide +kernel
theorem dL_isHalf_462 : decode cL_isHalf 462 = .ok (.istore 16, 2) := by decide +kernel
theorem dL_isHalf_464 : decode cL_isHalf 464 = .ok (.iload 13, 2) := by decide +kernel
theorem dL_isHalf_466 : decode cL_isHalf 466 = .ok (.ifCond .eq 58, 3) := by decide +kernel
theorem dL_isHalf_469 : decode cL_isHalf 469 = .ok (.iload 14, 2) := by decide +kernel
theorem dL_isHalf_471 : decode cL_isHalf 471 = .ok (.ifCond .eq 53, 3) := by decide +kernel
theorem dL_isHalf_474 : decode cL_isHalf 474 = .ok (.iload 15, 2) := by decide +kernel
theorem dL_isHalf_476 : decode cL_isHalf 476 = .ok (.ifCond .eq 48, 3) := by decide +kernel
theorem dL_isHalf_479 : decode cL_isHalf 479 = .ok (.iload 16, 2) := by decide +kernel
theorem dL_isHalf_481 : decode cL_isHalf 481 = .ok (.ifCond .lt 43, 3) := by decide +kernel
theorem dL_isHalf_484 : decode cL_isHalf 484 = .ok (.iload 9, 2) := by decide +kernel
theorem dL_isHalf_486 : decode cL_isHalf 486 = .ok (.iload_n 3, 1) := by decide +kernel
theorem dL_isHalf_487 : decode cL_isHalf 487 = .ok (.if_icmp .lt 23, 3) := by decide +kernel
theorem dL_isHalf_490 : decode cL_isHalf 490 = .ok (.aload_n 0, 1) := by decide +kernel
theorem dL_isHalf_491 : decode cL_isHalf 491 = .ok (.iload 16, 2) := by decide +kernel
theorem dL_isHalf_493 : decode cL_isHalf 493 = .ok (.invokestatic 316, 3) := by decide +kernel
theorem dL_isHalf_496 : decode cL_isHalf 496 = .ok (.aload_n 0, 1) := by decide +kernel
theorem dL_isHalf_497 : decode cL_isHalf 497 = .ok (.iload_n 1, 1) := by decide +kernel
theorem dL_isHalf_498 : decode cL_isHalf 498 = .ok (.invokestatic 316, 3) := by decide +kernel
theorem dL_isHalf_501 : decode cL_isHalf 501 = .ok (.if_icmp .ne 23, 3) := by decide +kernel
theorem dL_isHalf_504 : decode cL_isHalf 504 = .ok (.iload 16, 2) := by decide +kernel
theorem dL_isHalf_506 : decode cL_isHalf 506 = .ok (.iload_n 1, 1) := by decide +kernel
theorem dL_isHalf_507 : decode cL_isHalf 507 = .ok (.if_icmp .gt 17, 3) := by decide +kernel
theorem dL_isHalf_510 : decode cL_isHalf 510 = .ok (.aload_n 0, 1) := by decide +kernel
theorem dL_isHalf_511 : decode cL_isHalf 511 = .ok (.iload_n 1, 1) := by decide +kernel
theorem dL_isHalf_512 : decode cL_isHalf 512 = .ok (.iload_n 2, 1) := by decide +kernel
theorem dL_isHalf_513 : decode cL_isHalf 513 = .ok (.invokestatic 314, 3) := by decide +kernel
theorem dL_isHalf_516 : decode cL_isHalf 516 = .ok (.iload_n 3, 1) := by decide +kernel
theorem dL_isHalf_517 : decode cL_isHalf 517 = .ok (.if_icmp .ne 7, 3) := by decide +kernel
theorem dL_isHalf_520 : decode cL_isHalf 520 = .ok (.iconst 1, 1) := by decide +kernel
theorem dL_isHalf_521 : decode cL_isHalf 521 = .ok (.goto 4, 3) := by decide +kernel
theorem dL_isHalf_524 : decode cL_isHalf 524 = .ok (.iconst 0, 1) := by decide +kernel
theorem dL_isHalf_525 : decode cL_isHalf 525 = .ok (.ireturn, 1) := by decide +kernel
theorem h9_L_isHalf : yL_isHalf.cls ≠ "java/lang/invoke/MethodHandle" ∧ yL_isHalf.cls ≠ "java/lang/invoke/VarHandle" ∧ (parseMethodDescriptor yL_isHalf.desc).map (fun d => d.parameters.length) = some 3 := by decide +kernel
noncomputable def F_L_isHalf (a0 : Nat) (u1 : Int32) (u2 : Int32) (w : FW) : Option (Int32 × FW) :=
  (F_L_ticketOf a0 u1 0 w).bind (fun r1 => (F_L_halfOf a0 u1 u2 2 w).bind (fun r5 => (F_L_halfOf a0 u1 u2 3 w).bind (fun r9 => (F_L_halfOf a0 u1 u2 4 w).bind (fun r13 => (F_L_ticketOf a0 u1 1 w).bind (fun r17 => (F_L_halfOf a0 u1 u2 0 w).bind (fun r21 => ((if r21 = 1 then some 1 else some 0) : Option (Int32)).bind (fun x25 => (if x25 = 0 then (F_L_halfOf a0 u1 u2 1 w).bind (fun r173 => (if r173 = (-1) then (if r9 = 0 then (if r13 = 0 then (F_L_halfOf a0 u1 u2 6 w).bind (fun r180 => (if r180 = 0 then (F_L_halfOf a0 u1 u2 7 w).bind (fun r185 => (if r185 = 0 then (F_L_readAt a0 u1 u2 0 w).bind (fun r190 => (if r190 = (-75) then (F_L_moodFor a0 u1 u2 w).bind (fun r195 => (if r195 = (-75) then (F_L_likely a0 u1 u2 w).bind (fun r200 => (if r200 = (-75) then (F_L_holeLine a0 u1 u2 w).bind (fun r205 => (if r205.1 = (-75) then some (1, r205.2) else some (0, r205.2))) else some (0, w))) else some (0, w))) else some (0, w))) else some (0, w))) else some (0, w))) else some (0, w)) else some (0, w)) else some (0, w))) else (fLoopB (σ := Int32 × Int32 × Int32) (ρ := Int32 × Int32) (fun s31 => (if r1 ≤ s31.2.2 then some (.inr (s31.1, s31.2.1)) else (F_L_readAt a0 u1 u2 s31.2.2 w).bind (fun r47 => (F_L_wordAt a0 u1 s31.2.2 w).bind (fun r51 => ((if r47 = r51 then some 1 else some 0) : Option (Int32)).bind (fun x55 => (if r47 = 63 then some (.inl ((s31.1 + x55), (s31.2.1 + 1), (s31.2.2 + 1))) else some (.inl ((s31.1 + x55), (s31.2.1 + 0), (s31.2.2 + 1))))))))) 7 (0, 0, 0)).bind (fun x37 => (F_L_halfOf a0 u1 u2 1 w).bind (fun r62 => (F_L_moodFor a0 u1 u2 w).bind (fun r66 => ((if r9 < r17 then some 0 else (if (5 * r17) < r9 then some 0 else (if r9 < r13 then some 0 else (if r13 < (r9 - (r17 * (r5 / 3))) then some 0 else (if 9 < r5 then some 0 else (if r62 < 0 then some 0 else (if 5 ≤ r62 then some 0 else some 1))))))) : Option (Int32)).bind (fun x70 => (F_L_halfOf a0 u1 u2 7 w).bind (fun r75 => ((if r75 = x37.1 then (if x37.1 < (r1 - r17) then some 0 else (if 2 < r5 then (F_L_would a0 u1 u2 0 w).bind (fun r143 => (if r143 = x37.1 then (F_L_readAt a0 u1 u2 r1 w).bind (fun r148 => (if r148 = (-75) then some 1 else some 0)) else some 0)) else (if x37.1 = r1 then (if r13 = r9 then (if x37.2 = 0 then (F_L_would a0 u1 u2 0 w).bind (fun r156 => (if r156 = x37.1 then (F_L_readAt a0 u1 u2 r1 w).bind (fun r161 => (if r161 = (-75) then some 1 else some 0)) else some 0)) else some 0) else some 0) else some 0))) else some 0) : Option (Int32)).bind (fun x79 => ((if r66 = (-75) then (if r1 ≤ x37.1 then some 0 else some 1) else (if r66 < 0 then some 0 else (if 5 ≤ r66 then some 0 else (if x37.2 = 0 then ((if r1 ≤ x37.1 then some 0 else some 1) : Option (Int32)).bind (fun x126 => ((if r66 = r62 then some 0 else some 1) : Option (Int32)).bind (fun x131 => (if x126 = x131 then some 1 else some 0))) else some 0)))) : Option (Int32)).bind (fun x84 => (F_L_likely a0 u1 u2 w).bind (fun r89 => (if x70 = 0 then some (0, w) else (if x79 = 0 then some (0, w) else (if x84 = 0 then some (0, w) else (if r89 < 0 then some (0, w) else (if x37.1 < r1 then (F_L_holeLine a0 u1 u2 w).bind (fun r98 => (if r98.1 = r1 then some (1, r98.2) else some (0, r98.2))) else (F_L_sharing a0 r89 w).bind (fun r105 => (F_L_sharing a0 u1 w).bind (fun r109 => (if r105 = r109 then (if u1 < r89 then some (0, w) else (F_L_holeLine a0 u1 u2 w).bind (fun r115 => (if r115.1 = r1 then some (1, r115.2) else some (0, r115.2)))) else some (0, w)))))))))))))))))))))))))
set_option maxHeartbeats 4000000 in
set_option maxRecDepth 100000 in
theorem c_L_isHalf (l : Launch) (D : va_G) (cy : Nat → ClassId) (a0 : Nat) (u1 : Int32) (u2 : Int32) (w : FW) (r : Int32 × FW) (hF : F_L_isHalf a0 u1 u2 w = some r) : lSpec l D cy yL_isHalf (.code yL_isHalf cL_isHalf 17 (some .boolean)) { frames := 9, cells := 65, slots := 390, locals := 207 } [.ref a0, .int u1, .int u2] gE0 none w r.2 (some (.int r.1)) := by
  refine l_begin (by decide +kernel) (Nat.le_of_ble_eq_true rfl) (fun X h hC hEn hL => ?_)
  unfold F_L_isHalf at hF
  show gAt X 0 0 17 w h gE0 [(0, .ref a0), (1, .int u1), (2, .int u2)] [] 0
  refine g_aload_n hC dL_isHalf_0 rfl 0 rfl ?_
  refine g_iload_n hC dL_isHalf_1 rfl 1 rfl ?_
  refine g_iconst (v := 0) hC dL_isHalf_2 (by decide) ?_
  obtain ⟨r1, h2, hF⟩ := fb_open hF
  refine g_callLWk hC hL [.ref a0, .int u1, .int 0] (c_L_ticketOf l D cy a0 u1 0 w r1 h2) (Or.inl rfl) (fun _ _ h => nomatch h) q_1191 q_72 q_1189 q_1190 h9_L_ticketOf ⟨Nat.le_of_ble_eq_true rfl, Nat.le_of_ble_eq_true rfl⟩ 2 12 rfl rfl ⟨Nat.le_of_ble_eq_true rfl, Nat.le_of_ble_eq_true rfl⟩ (Nat.le_of_ble_eq_true rfl) rfl dL_isHalf_3 (fun z4 _ e3 => ?_)
  show gAt X 2 12 17 w z4 gE0 [(0, .ref a0), (1, .int u1), (2, .int u2)] [.int r1] 6
  refine g_istore_n (L' := [(3, .int r1), (0, .ref a0), (1, .int u1), (2, .int u2)]) hC dL_isHalf_6 rfl (by decide) rfl ?_
  refine g_aload_n hC dL_isHalf_7 rfl 1 rfl ?_
  refine g_iload_n hC dL_isHalf_8 rfl 2 rfl ?_
  refine g_iload_n hC dL_isHalf_9 rfl 3 rfl ?_
  refine g_iconst (v := 2) hC dL_isHalf_10 (by decide) ?_
  obtain ⟨r5, h6, hF⟩ := fb_open hF
  refine g_callLWk hC hL [.ref a0, .int u1, .int u2, .int 2] (c_L_halfOf l D cy a0 u1 u2 2 w r5 h6) (Or.inl rfl) (fun _ _ h => nomatch h) q_315 q_72 q_313 q_314 h9_L_halfOf ⟨Nat.le_of_ble_eq_true rfl, Nat.le_of_ble_eq_true rfl⟩ 2 12 rfl rfl ⟨Nat.le_of_ble_eq_true rfl, Nat.le_of_ble_eq_true rfl⟩ (Nat.le_of_ble_eq_true rfl) rfl dL_isHalf_11 (fun z8 _ e7 => ?_)
  show gAt X 4 24 17 w z8 gE0 [(3, .int r1), (0, .ref a0), (1, .int u1), (2, .int u2)] [.int r5] 14
  refine g_istore (L' := [(4, .int r5), (3, .int r1), (0, .ref a0), (1, .int u1), (2, .int u2)]) hC dL_isHalf_14 (by decide) rfl ?_
  refine g_aload_n hC dL_isHalf_16 rfl 2 rfl ?_
  refine g_iload_n hC dL_isHalf_17 rfl 3 rfl ?_
  refine g_iload_n hC dL_isHalf_18 rfl 4 rfl ?_
  refine g_iconst (v := 3) hC dL_isHalf_19 (by decide) ?_
  obtain ⟨r9, h10, hF⟩ := fb_open hF
  refine g_callLWk hC hL [.ref a0, .int u1, .int u2, .int 3] (c_L_halfOf l D cy a0 u1 u2 3 w r9 h10) (Or.inl rfl) (fun _ _ h => nomatch h) q_315 q_72 q_313 q_314 h9_L_halfOf ⟨Nat.le_of_ble_eq_true rfl, Nat.le_of_ble_eq_true rfl⟩ 2 12 rfl rfl ⟨Nat.le_of_ble_eq_true rfl, Nat.le_of_ble_eq_true rfl⟩ (Nat.le_of_ble_eq_true rfl) rfl dL_isHalf_20 (fun z12 _ e11 => ?_)
  show gAt X 6 36 17 w z12 gE0 [(4, .int r5), (3, .int r1), (0, .ref a0), (1, .int u1), (2, .int u2)] [.int r9] 23
  refine g_istore (L' := [(5, .int r9), (4, .int r5), (3, .int r1), (0, .ref a0), (1, .int u1), (2, .int u2)]) hC dL_isHalf_23 (by decide) rfl ?_
  refine g_aload_n hC dL_isHalf_25 rfl 3 rfl ?_
  refine g_iload_n hC dL_isHalf_26 rfl 4 rfl ?_
  refine g_iload_n hC dL_isHalf_27 rfl 5 rfl ?_
  refine g_iconst (v := 4) hC dL_isHalf_28 (by decide) ?_
  obtain ⟨r13, h14, hF⟩ := fb_open hF
  refine g_callLWk hC hL [.ref a0, .int u1, .int u2, .int 4] (c_L_halfOf l D cy a0 u1 u2 4 w r13 h14) (Or.inl rfl) (fun _ _ h => nomatch h) q_315 q_72 q_313 q_314 h9_L_halfOf ⟨Nat.le_of_ble_eq_true rfl, Nat.le_of_ble_eq_true rfl⟩ 2 12 rfl rfl ⟨Nat.le_of_ble_eq_true rfl, Nat.le_of_ble_eq_true rfl⟩ (Nat.le_of_ble_eq_true rfl) rfl dL_isHalf_29 (fun z16 _ e15 => ?_)
  show gAt X 8 48 17 w z16 gE0 [(5, .int r9), (4, .int r5), (3, .int r1), (0, .ref a0), (1, .int u1), (2, .int u2)] [.int r13] 32
  refine g_istore (L' := [(6, .int r13), (5, .int r9), (4, .int r5), (3, .int r1), (0, .ref a0), (1, .int u1), (2, .int u2)]) hC dL_isHalf_32 (by decide) rfl ?_
  refine g_aload_n hC dL_isHalf_34 rfl 4 rfl ?_
  refine g_iload_n hC dL_isHalf_35 rfl 5 rfl ?_
  refine g_iconst (v := 1) hC dL_isHalf_36 (by decide) ?_
  obtain ⟨r17, h18, hF⟩ := fb_open hF
  refine g_callLWk hC hL [.ref a0, .int u1, .int 1] (c_L_ticketOf l D cy a0 u1 1 w r17 h18) (Or.inl rfl) (fun _ _ h => nomatch h) q_1191 q_72 q_1189 q_1190 h9_L_ticketOf ⟨Nat.le_of_ble_eq_true rfl, Nat.le_of_ble_eq_true rfl⟩ 2 12 rfl rfl ⟨Nat.le_of_ble_eq_true rfl, Nat.le_of_ble_eq_true rfl⟩ (Nat.le_of_ble_eq_true rfl) rfl dL_isHalf_37 (fun z20 _ e19 => ?_)
  show gAt X 10 60 17 w z20 gE0 [(6, .int r13), (5, .int r9), (4, .int r5), (3, .int r1), (0, .ref a0), (1, .int u1), (2, .int u2)] [.int r17] 40
  refine g_istore (L' := [(7, .int r17), (6, .int r13), (5, .int r9), (4, .int r5), (3, .int r1), (0, .ref a0), (1, .int u1), (2, .int u2)]) hC dL_isHalf_40 (by decide) rfl ?_
  refine g_aload_n hC dL_isHalf_42 rfl 5 rfl ?_
  refine g_iload_n hC dL_isHalf_43 rfl 6 rfl ?_
  refine g_iload_n hC dL_isHalf_44 rfl 7 rfl ?_
  refine g_iconst (v := 0) hC dL_isHalf_45 (by decide) ?_
  obtain ⟨r21, h22, hF⟩ := fb_open hF
  refine g_callLWk hC hL [.ref a0, .int u1, .int u2, .int 0] (c_L_halfOf l D cy a0 u1 u2 0 w r21 h22) (Or.inl rfl) (fun _ _ h => nomatch h) q_315 q_72 q_313 q_314 h9_L_halfOf ⟨Nat.le_of_ble_eq_true rfl, Nat.le_of_ble_eq_true rfl⟩ 2 12 rfl rfl ⟨Nat.le_of_ble_eq_true rfl, Nat.le_of_ble_eq_true rfl⟩ (Nat.le_of_ble_eq_true rfl) rfl dL_isHalf_46 (fun z24 _ e23 => ?_)
  show gAt X 12 72 17 w z24 gE0 [(7, .int r17), (6, .int r13), (5, .int r9), (4, .int r5), (3, .int r1), (0, .ref a0), (1, .int u1), (2, .int u2)] [.int r21] 49
  refine g_iconst (v := 1) hC dL_isHalf_49 (by decide) ?_
  obtain ⟨x25, h26, hF⟩ := fb_open hF
  have K28 : ∀ z29, gAt X 12 72 17 w z29 gE0 [(0, .ref a0), (1, .int u1), (2, .int u2), (3, .int r1), (4, .int r5), (5, .int r9), (6, .int r13), (7, .int r17)] [.int x25] 58 := by
    intro z29
    refine g_istore (L' := [(8, .int x25), (0, .ref a0), (1, .int u1), (2, .int u2), (3, .int r1), (4, .int r5), (5, .int r9), (6, .int r13), (7, .int r17)]) hC dL_isHalf_58 (by decide) rfl ?_
    refine g_iload hC dL_isHalf_60 0 rfl ?_
    refine g_if_ne hC 159 dL_isHalf_62 (by decide) (fun c30 => ?_) (fun c30 => ?_)
    · replace hF := fi_neg hF c30
      refine g_iconst (v := 0) hC dL_isHalf_159 (by decide) ?_
      refine g_istore (L' := [(9, .int 0), (8, .int x25), (0, .ref a0), (1, .int u1), (2, .int u2), (3, .int r1), (4, .int r5), (5, .int r9), (6, .int r13), (7, .int r17)]) hC dL_isHalf_160 (by decide) rfl ?_
      refine g_iconst (v := 0) hC dL_isHalf_162 (by decide) ?_
      refine g_istore (L' := [(10, .int 0), (9, .int 0), (8, .int x25), (0, .ref a0), (1, .int u1), (2, .int u2), (3, .int r1), (4, .int r5), (5, .int r9), (6, .int r13), (7, .int r17)]) hC dL_isHalf_163 (by decide) rfl ?_
      refine g_iconst (v := 0) hC dL_isHalf_165 (by decide) ?_
      refine g_istore (L' := [(11, .int 0), (10, .int 0), (9, .int 0), (8, .int x25), (0, .ref a0), (1, .int u1), (2, .int u2), (3, .int r1), (4, .int r5), (5, .int r9), (6, .int r13), (7, .int r17)]) hC dL_isHalf_166 (by decide) rfl ?_
      obtain ⟨x37, h38, hF⟩ := fb_open hF
      have K39 : ∀ z43, gAt X 47 282 17 w z43 gE0 [(0, .ref a0), (1, .int u1), (2, .int u2), (3, .int r1), (4, .int r5), (5, .int r9), (6, .int r13), (7, .int r17), (9, .int x37.1), (10, .int x37.2)] [] 229 := by
        intro z43
        refine g_aload_n hC dL_isHalf_229 rfl 0 rfl ?_
        refine g_iload_n hC dL_isHalf_230 rfl 1 rfl ?_
        refine g_iload_n hC dL_isHalf_231 rfl 2 rfl ?_
        refine g_iconst (v := 1) hC dL_isHalf_232 (by decide) ?_
        obtain ⟨r62, h63, hF⟩ := fb_open hF
        refine g_callLWk hC hL [.ref a0, .int u1, .int u2, .int 1] (c_L_halfOf l D cy a0 u1 u2 1 w r62 h63) (Or.inl rfl) (fun _ _ h => nomatch h) q_315 q_72 q_313 q_314 h9_L_halfOf ⟨Nat.le_of_ble_eq_true rfl, Nat.le_of_ble_eq_true rfl⟩ 2 12 rfl rfl ⟨Nat.le_of_ble_eq_true rfl, Nat.le_of_ble_eq_true rfl⟩ (Nat.le_of_ble_eq_true rfl) rfl dL_isHalf_233 (fun z65 _ e64 => ?_)
        show gAt X 49 294 17 w z65 gE0 [(0, .ref a0), (1, .int u1), (2, .int u2), (3, .int r1), (4, .int r5), (5, .int r9), (6, .int r13), (7, .int r17), (9, .int x37.1), (10, .int x37.2)] [.int r62] 236
        refine g_istore (L' := [(11, .int r62), (0, .ref a0), (1, .int u1), (2, .int u2), (3, .int r1), (4, .int r5), (5, .int r9), (6, .int r13), (7, .int r17), (9, .int x37.1), (10, .int x37.2)]) hC dL_isHalf_236 (by decide) rfl ?_
        refine g_aload_n hC dL_isHalf_238 rfl 1 rfl ?_
        refine g_iload_n hC dL_isHalf_239 rfl 2 rfl ?_
        refine g_iload_n hC dL_isHalf_240 rfl 3 rfl ?_
        obtain ⟨r66, h67, hF⟩ := fb_open hF
        refine g_callLWk hC hL [.ref a0, .int u1, .int u2] (c_L_moodFor l D cy a0 u1 u2 w r66 h67) (Or.inl rfl) (fun _ _ h => nomatch h) q_1227 q_72 q_1225 q_1226 h9_L_moodFor ⟨Nat.le_of_ble_eq_true rfl, Nat.le_of_ble_eq_true rfl⟩ 3 18 rfl rfl ⟨Nat.le_of_ble_eq_true rfl, Nat.le_of_ble_eq_true rfl⟩ (Nat.le_of_ble_eq_true rfl) rfl dL_isHalf_241 (fun z69 _ e68 => ?_)
        show gAt X 52 312 17 w z69 gE0 [(11, .int r62), (0, .ref a0), (1, .int u1), (2, .int u2), (3, .int r1), (4, .int r5), (5, .int r9), (6, .int r13), (7, .int r17), (9, .int x37.1), (10, .int x37.2)] [.int r66] 244
        refine g_istore (L' := [(12, .int r66), (11, .int r62), (0, .ref a0), (1, .int u1), (2, .int u2), (3, .int r1), (4, .int r5), (5, .int r9), (6, .int r13), (7, .int r17), (9, .int x37.1), (10, .int x37.2)]) hC dL_isHalf_244 (by decide) rfl ?_
        refine g_iload hC dL_isHalf_246 7 rfl ?_
        refine g_iload hC dL_isHalf_248 9 rfl ?_
        obtain ⟨x70, h71, hF⟩ := fb_open hF
        have K73 : ∀ z74, gAt X 52 312 17 w z74 gE0 [(0, .ref a0), (1, .int u1), (2, .int u2), (3, .int r1), (4, .int r5), (5, .int r9), (6, .int r13), (7, .int r17), (9, .int x37.1), (10, .int x37.2), (11, .int r62), (12, .int r66)] [.int x70] 307 := by
          intro z74
          refine g_istore (L' := [(13, .int x70), (0, .ref a0), (1, .int u1), (2, .int u2), (3, .int r1), (4, .int r5), (5, .int r9), (6, .int r13), (7, .int r17), (9, .int x37.1), (10, .int x37.2), (11, .int r62), (12, .int r66)]) hC dL_isHalf_307 (by decide) rfl ?_
          refine g_aload_n hC dL_isHalf_309 rfl 1 rfl ?_
          refine g_iload_n hC dL_isHalf_310 rfl 2 rfl ?_
          refine g_iload_n hC dL_isHalf_311 rfl 3 rfl ?_
          refine g_bipush (v := 7) hC dL_isHalf_312 (by decide) ?_
          obtain ⟨r75, h76, hF⟩ := fb_open hF
          refine g_callLWk hC hL [.ref a0, .int u1, .int u2, .int 7] (c_L_halfOf l D cy a0 u1 u2 7 w r75 h76) (Or.inl rfl) (fun _ _ h => nomatch h) q_315 q_72 q_313 q_314 h9_L_halfOf ⟨Nat.le_of_ble_eq_true rfl, Nat.le_of_ble_eq_true rfl⟩ 2 12 rfl rfl ⟨Nat.le_of_ble_eq_true rfl, Nat.le_of_ble_eq_true rfl⟩ (Nat.le_of_ble_eq_true rfl) rfl dL_isHalf_314 (fun z78 _ e77 => ?_)
          show gAt X 54 324 17 w z78 gE0 [(13, .int x70), (0, .ref a0), (1, .int u1), (2, .int u2), (3, .int r1), (4, .int r5), (5, .int r9), (6, .int r13), (7, .int r17), (9, .int x37.1), (10, .int x37.2), (11, .int r62), (12, .int r66)] [.int r75] 317
          refine g_iload hC dL_isHalf_317 9 rfl ?_
          obtain ⟨x79, h80, hF⟩ := fb_open hF
          have K82 : ∀ z83, gAt X 59 354 17 w z83 gE0 [(0, .ref a0), (1, .int u1), (2, .int u2), (3, .int r1), (9, .int x37.1), (10, .int x37.2), (11, .int r62), (12, .int r66), (13, .int x70)] [.int x79] 384 := by
            intro z83
            refine g_istore (L' := [(14, .int x79), (0, .ref a0), (1, .int u1), (2, .int u2), (3, .int r1), (9, .int x37.1), (10, .int x37.2), (11, .int r62), (12, .int r66), (13, .int x70)]) hC dL_isHalf_384 (by decide) rfl ?_
            refine g_iload hC dL_isHalf_386 8 rfl ?_
            refine g_bipush (v := (-75)) hC dL_isHalf_388 (by decide) ?_
            obtain ⟨x84, h85, hF⟩ := fb_open hF
            have K87 : ∀ z88, gAt X 59 354 17 w z88 gE0 [(0, .ref a0), (1, .int u1), (2, .int u2), (3, .int r1), (9, .int x37.1), (13, .int x70), (14, .int x79)] [.int x84] 454 := by
              intro z88
              refine g_istore (L' := [(15, .int x84), (0, .ref a0), (1, .int u1), (2, .int u2), (3, .int r1), (9, .int x37.1), (13, .int x70), (14, .int x79)]) hC dL_isHalf_454 (by decide) rfl ?_
              refine g_aload_n hC dL_isHalf_456 rfl 1 rfl ?_
              refine g_iload_n hC dL_isHalf_457 rfl 2 rfl ?_
              refine g_iload_n hC dL_isHalf_458 rfl 3 rfl ?_
              obtain ⟨r89, h90, hF⟩ := fb_open hF
              refine g_callLWk hC hL [.ref a0, .int u1, .int u2] (c_L_likely l D cy a0 u1 u2 w r89 h90) (Or.inl rfl) (fun _ _ h => nomatch h) q_1235 q_72 q_1233 q_1234 h9_L_likely ⟨Nat.le_of_ble_eq_true rfl, Nat.le_of_ble_eq_true rfl⟩ 2 12 rfl rfl ⟨Nat.le_of_ble_eq_true rfl, Nat.le_of_ble_eq_true rfl⟩ (Nat.le_of_ble_eq_true rfl) rfl dL_isHalf_459 (fun z92 _ e91 => ?_)
              show gAt X 61 366 17 w z92 gE0 [(15, .int x84), (0, .ref a0), (1, .int u1), (2, .int u2), (3, .int r1), (9, .int x37.1), (13, .int x70), (14, .int x79)] [.int r89] 462
              refine g_istore (L' := [(16, .int r89), (15, .int x84), (0, .ref a0), (1, .int u1), (2, .int u2), (3, .int r1), (9, .int x37.1), (13, .int x70), (14, .int x79)]) hC dL_isHalf_462 (by decide) rfl ?_
              refine g_iload hC dL_isHalf_464 7 rfl ?_
              refine g_if_eq hC 524 dL_isHalf_466 (by decide) (fun c93 => ?_) (fun c93 => ?_)
              · replace hF := fi_pos hF c93
                refine g_iconst (v := 0) hC dL_isHalf_524 (by decide) ?_
                obtain rfl := Option.some.inj hF
                refine g_widen (k' := 65) (s' := 390) (by omega) (by omega) ?_
                exact g_zret hC hEn (fSm.rf w) (nar_z (by decide)) dL_isHalf_525
              · replace hF := fi_neg hF c93
                refine g_iload hC dL_isHalf_469 8 rfl ?_
                refine g_if_eq hC 524 dL_isHalf_471 (by decide) (fun c94 => ?_) (fun c94 => ?_)
                · replace hF := fi_pos hF c94
                  refine g_iconst (v := 0) hC dL_isHalf_524 (by decide) ?_
                  obtain rfl := Option.some.inj hF
                  refine g_widen (k' := 65) (s' := 390) (by omega) (by omega) ?_
                  exact g_zret hC hEn (fSm.rf w) (nar_z (by decide)) dL_isHalf_525
                · replace hF := fi_neg hF c94
                  refine g_iload hC dL_isHalf_474 1 rfl ?_
                  refine g_if_eq hC 524 dL_isHalf_476 (by decide) (fun c95 => ?_) (fun c95 => ?_)
                  · replace hF := fi_pos hF c95
                    refine g_iconst (v := 0) hC dL_isHalf_524 (by decide) ?_
                    obtain rfl := Option.some.inj hF
                    refine g_widen (k' := 65) (s' := 390) (by omega) (by omega) ?_
                    exact g_zret hC hEn (fSm.rf w) (nar_z (by decide)) dL_isHalf_525
                  · replace hF := fi_neg hF c95
                    refine g_iload hC dL_isHalf_479 0 rfl ?_
                    refine g_if_lt hC 524 dL_isHalf_481 (by decide) (fun c96 => ?_) (fun c96 => ?_)
                    · replace hF := fi_pos hF c96
                      refine g_iconst (v := 0) hC dL_isHalf_524 (by decide) ?_
                      obtain rfl := Option.some.inj hF
                      refine g_widen (k' := 65) (s' := 390) (by omega) (by omega) ?_
                      exact g_zret hC hEn (fSm.rf w) (nar_z (by decide)) dL_isHalf_525
                    · replace hF := fi_neg hF c96
                      refine g_iload hC dL_isHalf_484 6 rfl ?_
                      refine g_iload_n hC dL_isHalf_486 rfl 5 rfl ?_
                      refine g_icmp_lt hC 510 dL_isHalf_487 (by decide) (fun c97 => ?_) (fun c97 => ?_)
                      · replace hF := fi_pos hF c97
                        refine g_aload_n hC dL_isHalf_510 rfl 2 rfl ?_
                        refine g_iload_n hC dL_isHalf_511 rfl 3 rfl ?_
                        refine g_iload_n hC dL_isHalf_512 rfl 4 rfl ?_
                        obtain ⟨r98, h99, hF⟩ := fb_open hF
                        obtain ⟨v102, w103⟩ := r98
                        refine g_callLWk hC hL [.ref a0, .int u1, .int u2] (c_L_holeLine l D cy a0 u1 u2 w (v102, w103) h99) (Or.inl rfl) (fun _ _ h => nomatch h) q_1248 q_72 q_1246 q_1247 h9_L_holeLine ⟨Nat.le_of_ble_eq_true rfl, Nat.le_of_ble_eq_true rfl⟩ 2 12 rfl rfl ⟨Nat.le_of_ble_eq_true rfl, Nat.le_of_ble_eq_true rfl⟩ (Nat.le_of_ble_eq_true rfl) rfl dL_isHalf_513 (fun z101 _ e100 => ?_)
                        show gAt X 63 378 17 w103 z101 gE0 [(16, .int r89), (15, .int x84), (0, .ref a0), (1, .int u1), (2, .int u2), (3, .int r1), (9, .int x37.1), (13, .int x70), (14, .int x79)] [.int v102] 516
                        refine g_iload_n hC dL_isHalf_516 rfl 5 rfl ?_
                        refine g_icmp_ne hC 524 dL_isHalf_517 (by decide) (fun c104 => ?_) (fun c104 => ?_)
                        · replace hF := fi_neg hF c104
                          refine g_iconst (v := 0) hC dL_isHalf_524 (by decide) ?_
                          obtain rfl := Option.some.inj hF
                          refine g_widen (k' := 65) (s' := 390) (by omega) (by omega) ?_
                          exact g_zret hC hEn (fSm.tr e100 (fSm.rf w)) (nar_z (by decide)) dL_isHalf_525
                        · replace hF := fi_pos hF c104
                          refine g_iconst (v := 1) hC dL_isHalf_520 (by decide) ?_
                          refine g_goto hC 525 dL_isHalf_521 (by decide) ?_
                          obtain rfl := Option.some.inj hF
                          refine g_widen (k' := 65) (s' := 390) (by omega) (by omega) ?_
                          exact g_zret hC hEn (fSm.tr e100 (fSm.rf w)) (nar_z (by decide)) dL_isHalf_525
                      · replace hF := fi_neg hF c97
                        refine g_aload_n hC dL_isHalf_490 rfl 2 rfl ?_
                        refine g_iload hC dL_isHalf_491 0 rfl ?_
                        obtain ⟨r105, h106, hF⟩ := fb_open hF
                        refine g_callLWk hC hL [.ref a0, .int r89] (c_L_sharing l D cy a0 r89 w r105 h106) (Or.inl rfl) (fun _ _ h => nomatch h) q_1263 q_72 q_1261 q_1262 h9_L_sharing ⟨Nat.le_of_ble_eq_true rfl, Nat.le_of_ble_eq_true rfl⟩ 1 6 rfl rfl ⟨Nat.le_of_ble_eq_true rfl, Nat.le_of_ble_eq_true rfl⟩ (Nat.le_of_ble_eq_true rfl) rfl dL_isHalf_493 (fun z108 _ e107 => ?_)
                        show gAt X 62 372 17 w z108 gE0 [(16, .int r89), (15, .int x84), (0, .ref a0), (1, .int u1), (2, .int u2), (3, .int r1), (9, .int x37.1), (13, .int x70), (14, .int x79)] [.int r105] 496
                        refine g_aload_n hC dL_isHalf_496 rfl 2 rfl ?_
                        refine g_iload_n hC dL_isHalf_497 rfl 3 rfl ?_
                        obtain ⟨r109, h110, hF⟩ := fb_open hF
                        refine g_callLWk hC hL [.ref a0, .int u1] (c_L_sharing l D cy a0 u1 w r109 h110) (Or.inl rfl) (fun _ _ h => nomatch h) q_1263 q_72 q_1261 q_1262 h9_L_sharing ⟨Nat.le_of_ble_eq_true rfl, Nat.le_of_ble_eq_true rfl⟩ 1 6 rfl rfl ⟨Nat.le_of_ble_eq_true rfl, Nat.le_of_ble_eq_true rfl⟩ (Nat.le_of_ble_eq_true rfl) rfl dL_isHalf_498 (fun z112 _ e111 => ?_)
                        show gAt X 63 378 17 w z112 gE0 [(16, .int r89), (15, .int x84), (0, .ref a0), (1, .int u1), (2, .int u2), (3, .int r1), (9, .int x37.1), (13, .int x70), (14, .int x79)] [.int r109, .int r105] 501
                        refine g_icmp_ne hC 524 dL_isHalf_501 (by decide) (fun c113 => ?_) (fun c113 => ?_)
                        · replace hF := fi_neg hF c113
                          refine g_iconst (v := 0) hC dL_isHalf_524 (by decide) ?_
                          obtain rfl := Option.some.inj hF
                          refine g_widen (k' := 65) (s' := 390) (by omega) (by omega) ?_
                          exact g_zret hC hEn (fSm.rf w) (nar_z (by decide)) dL_isHalf_525
                        · replace hF := fi_pos hF c113
                          refine g_iload hC dL_isHalf_504 0 rfl ?_
                          refine g_iload_n hC dL_isHalf_506 rfl 3 rfl ?_
                          refine g_icmp_gt hC 524 dL_isHalf_507 (by decide) (fun c114 => ?_) (fun c114 => ?_)
                          · replace hF := fi_pos hF c114
                            refine g_iconst (v := 0) hC dL_isHalf_524 (by decide) ?_
                            obtain rfl := Option.some.inj hF
                            refine g_widen (k' := 65) (s' := 390) (by omega) (by omega) ?_
                            exact g_zret hC hEn (fSm.rf w) (nar_z (by decide)) dL_isHalf_525
                          · replace hF := fi_neg hF c114
                            refine g_aload_n hC dL_isHalf_510 rfl 2 rfl ?_
                            refine g_iload_n hC dL_isHalf_511 rfl 3 rfl ?_
                            refine g_iload_n hC dL_isHalf_512 rfl 4 rfl ?_
                            obtain ⟨r115, h116, hF⟩ := fb_open hF
                            obtain ⟨v119, w120⟩ := r115
                            refine g_callLWk hC hL [.ref a0, .int u1, .int u2] (c_L_holeLine l D cy a0 u1 u2 w (v119, w120) h116) (Or.inl rfl) (fun _ _ h => nomatch h) q_1248 q_72 q_1246 q_1247 h9_L_holeLine ⟨Nat.le_of_ble_eq_true rfl, Nat.le_of_ble_eq_true rfl⟩ 2 12 rfl rfl ⟨Nat.le_of_ble_eq_true rfl, Nat.le_of_ble_eq_true rfl⟩ (Nat.le_of_ble_eq_true rfl) rfl dL_isHalf_513 (fun z118 _ e117 => ?_)
                            show gAt X 65 390 17 w120 z118 gE0 [(16, .int r89), (15, .int x84), (0, .ref a0), (1, .int u1), (2, .int u2), (3, .int r1), (9, .int x37.1), (13, .int x70), (14, .int x79)] [.int v119] 516
                            refine g_iload_n hC dL_isHalf_516 rfl 5 rfl ?_
                            refine g_icmp_ne hC 524 dL_isHalf_517 (by decide) (fun c121 => ?_) (fun c121 => ?_)
                            · replace hF := fi_neg hF c121
                              refine g_iconst (v := 0) hC dL_isHalf_524 (by decide) ?_
                              obtain rfl := Option.some.inj hF
                              refine g_widen (k' := 65) (s' := 390) (by omega) (by omega) ?_
                              exact g_zret hC hEn (fSm.tr e117 (fSm.rf w)) (nar_z (by decide)) dL_isHalf_525
                            · replace hF := fi_pos hF c121
                              refine g_iconst (v := 1) hC dL_isHalf_520 (by decide) ?_
                              refine g_goto hC 525 dL_isHalf_521 (by decide) ?_
                              obtain rfl := Option.some.inj hF
                              refine g_widen (k' := 65) (s' := 390) (by omega) (by omega) ?_
                              exact g_zret hC hEn (fSm.tr e117 (fSm.rf w)) (nar_z (by decide)) dL_isHalf_525
            refine g_icmp_ne hC 407 dL_isHalf_390 (by decide) (fun c122 => ?_) (fun c122 => ?_)
            · replace h85 := fi_neg h85 c122
              refine g_iload hC dL_isHalf_407 8 rfl ?_
              refine g_if_lt hC 453 dL_isHalf_409 (by decide) (fun c123 => ?_) (fun c123 => ?_)
              · replace h85 := fi_pos h85 c123
                refine g_iconst (v := 0) hC dL_isHalf_453 (by decide) ?_
                obtain rfl := Option.some.inj h85
                refine g_sub (L' := [(0, .ref a0), (1, .int u1), (2, .int u2), (3, .int r1), (9, .int x37.1), (13, .int x70), (14, .int x79)]) [1, 2, 3, 4, 5, 9, 0] rfl ?_
                exact K87 _
              · replace h85 := fi_neg h85 c123
                refine g_iload hC dL_isHalf_412 8 rfl ?_
                refine g_iconst (v := 5) hC dL_isHalf_414 (by decide) ?_
                refine g_icmp_ge hC 453 dL_isHalf_415 (by decide) (fun c124 => ?_) (fun c124 => ?_)
                · replace h85 := fi_pos h85 c124
                  refine g_iconst (v := 0) hC dL_isHalf_453 (by decide) ?_
                  obtain rfl := Option.some.inj h85
                  refine g_sub (L' := [(0, .ref a0), (1, .int u1), (2, .int u2), (3, .int r1), (9, .int x37.1), (13, .int x70), (14, .int x79)]) [1, 2, 3, 4, 5, 9, 0] rfl ?_
                  exact K87 _
                · replace h85 := fi_neg h85 c124
                  refine g_iload hC dL_isHalf_418 6 rfl ?_
                  refine g_if_ne hC 453 dL_isHalf_420 (by decide) (fun c125 => ?_) (fun c125 => ?_)
                  · replace h85 := fi_neg h85 c125
                    refine g_iconst (v := 0) hC dL_isHalf_453 (by decide) ?_
                    obtain rfl := Option.some.inj h85
                    refine g_sub (L' := [(0, .ref a0), (1, .int u1), (2, .int u2), (3, .int r1), (9, .int x37.1), (13, .int x70), (14, .int x79)]) [1, 2, 3, 4, 5, 9, 0] rfl ?_
                    exact K87 _
                  · replace h85 := fi_pos h85 c125
                    refine g_iload hC dL_isHalf_423 5 rfl ?_
                    refine g_iload_n hC dL_isHalf_425 rfl 4 rfl ?_
                    obtain ⟨x126, h127, h85⟩ := fb_open h85
                    have K129 : ∀ z130, gAt X 59 354 17 w z130 gE0 [(0, .ref a0), (1, .int u1), (2, .int u2), (3, .int r1), (9, .int x37.1), (11, .int r62), (12, .int r66), (13, .int x70), (14, .int x79)] [.int x126] 434 := by
                      intro z130
                      refine g_iload hC dL_isHalf_434 6 rfl ?_
                      refine g_iload hC dL_isHalf_436 5 rfl ?_
                      obtain ⟨x131, h132, h85⟩ := fb_open h85
                      have K134 : ∀ z135, gAt X 59 354 17 w z135 gE0 [(0, .ref a0), (1, .int u1), (2, .int u2), (3, .int r1), (9, .int x37.1), (13, .int x70), (14, .int x79)] [.int x131, .int x126] 446 := by
                        intro z135
                        refine g_icmp_ne hC 453 dL_isHalf_446 (by decide) (fun c136 => ?_) (fun c136 => ?_)
                        · replace h85 := fi_neg h85 c136
                          refine g_iconst (v := 0) hC dL_isHalf_453 (by decide) ?_
                          obtain rfl := Option.some.inj h85
                          exact K87 _
                        · replace h85 := fi_pos h85 c136
                          refine g_iconst (v := 1) hC dL_isHalf_449 (by decide) ?_
                          refine g_goto hC 454 dL_isHalf_450 (by decide) ?_
                          obtain rfl := Option.some.inj h85
                          exact K87 _
                      refine g_icmp_eq hC 445 dL_isHalf_438 (by decide) (fun c137 => ?_) (fun c137 => ?_)
                      · replace h132 := fi_pos h132 c137
                        refine g_iconst (v := 0) hC dL_isHalf_445 (by decide) ?_
                        obtain rfl := Option.some.inj h132
                        refine g_sub (L' := [(0, .ref a0), (1, .int u1), (2, .int u2), (3, .int r1), (9, .int x37.1), (13, .int x70), (14, .int x79)]) [0, 1, 2, 3, 4, 7, 8] rfl ?_
                        exact K134 _
                      · replace h132 := fi_neg h132 c137
                        refine g_iconst (v := 1) hC dL_isHalf_441 (by decide) ?_
                        refine g_goto hC 446 dL_isHalf_442 (by decide) ?_
                        obtain rfl := Option.some.inj h132
                        refine g_sub (L' := [(0, .ref a0), (1, .int u1), (2, .int u2), (3, .int r1), (9, .int x37.1), (13, .int x70), (14, .int x79)]) [0, 1, 2, 3, 4, 7, 8] rfl ?_
                        exact K134 _
                    refine g_icmp_ge hC 433 dL_isHalf_426 (by decide) (fun c138 => ?_) (fun c138 => ?_)
                    · replace h127 := fi_pos h127 c138
                      refine g_iconst (v := 0) hC dL_isHalf_433 (by decide) ?_
                      obtain rfl := Option.some.inj h127
                      refine g_sub (L' := [(0, .ref a0), (1, .int u1), (2, .int u2), (3, .int r1), (9, .int x37.1), (11, .int r62), (12, .int r66), (13, .int x70), (14, .int x79)]) [1, 2, 3, 4, 5, 7, 8, 9, 0] rfl ?_
                      exact K129 _
                    · replace h127 := fi_neg h127 c138
                      refine g_iconst (v := 1) hC dL_isHalf_429 (by decide) ?_
                      refine g_goto hC 434 dL_isHalf_430 (by decide) ?_
                      obtain rfl := Option.some.inj h127
                      refine g_sub (L' := [(0, .ref a0), (1, .int u1), (2, .int u2), (3, .int r1), (9, .int x37.1), (11, .int r62), (12, .int r66), (13, .int x70), (14, .int x79)]) [1, 2, 3, 4, 5, 7, 8, 9, 0] rfl ?_
                      exact K129 _
            · replace h85 := fi_pos h85 c122
              refine g_iload hC dL_isHalf_393 5 rfl ?_
              refine g_iload_n hC dL_isHalf_395 rfl 4 rfl ?_
              refine g_icmp_ge hC 403 dL_isHalf_396 (by decide) (fun c139 => ?_) (fun c139 => ?_)
              · replace h85 := fi_pos h85 c139
                refine g_iconst (v := 0) hC dL_isHalf_403 (by decide) ?_
                refine g_goto hC 454 dL_isHalf_404 (by decide) ?_
                obtain rfl := Option.some.inj h85
                refine g_sub (L' := [(0, .ref a0), (1, .int u1), (2, .int u2), (3, .int r1), (9, .int x37.1), (13, .int x70), (14, .int x79)]) [1, 2, 3, 4, 5, 9, 0] rfl ?_
                exact K87 _
              · replace h85 := fi_neg h85 c139
                refine g_iconst (v := 1) hC dL_isHalf_399 (by decide) ?_
                refine g_goto hC 454 dL_isHalf_400 (by decide) ?_
                obtain rfl := Option.some.inj h85
                refine g_sub (L' := [(0, .ref a0), (1, .int u1), (2, .int u2), (3, .int r1), (9, .int x37.1), (13, .int x70), (14, .int x79)]) [1, 2, 3, 4, 5, 9, 0] rfl ?_
                exact K87 _
          refine g_icmp_ne hC 383 dL_isHalf_319 (by decide) (fun c140 => ?_) (fun c140 => ?_)
          · replace h80 := fi_neg h80 c140
            refine g_iconst (v := 0) hC dL_isHalf_383 (by decide) ?_
            obtain rfl := Option.some.inj h80
            refine g_sub (L' := [(0, .ref a0), (1, .int u1), (2, .int u2), (3, .int r1), (9, .int x37.1), (10, .int x37.2), (11, .int r62), (12, .int r66), (13, .int x70)]) [1, 2, 3, 4, 9, 10, 11, 12, 0] rfl ?_
            refine g_widen (k' := 59) (s' := 354) (by omega) (by omega) ?_
            exact K82 _
          · replace h80 := fi_pos h80 c140
            refine g_iload hC dL_isHalf_322 9 rfl ?_
            refine g_iload_n hC dL_isHalf_324 rfl 4 rfl ?_
            refine g_iload hC dL_isHalf_325 8 rfl ?_
            refine g_isub hC dL_isHalf_327 ?_
            refine g_icmp_lt hC 383 dL_isHalf_328 (by decide) (fun c141 => ?_) (fun c141 => ?_)
            · replace h80 := fi_pos h80 c141
              refine g_iconst (v := 0) hC dL_isHalf_383 (by decide) ?_
              obtain rfl := Option.some.inj h80
              refine g_sub (L' := [(0, .ref a0), (1, .int u1), (2, .int u2), (3, .int r1), (9, .int x37.1), (10, .int x37.2), (11, .int r62), (12, .int r66), (13, .int x70)]) [1, 2, 3, 4, 9, 10, 11, 12, 0] rfl ?_
              refine g_widen (k' := 59) (s' := 354) (by omega) (by omega) ?_
              exact K82 _
            · replace h80 := fi_neg h80 c141
              refine g_iload hC dL_isHalf_331 5 rfl ?_
              refine g_iconst (v := 2) hC dL_isHalf_333 (by decide) ?_
              refine g_icmp_gt hC 355 dL_isHalf_334 (by decide) (fun c142 => ?_) (fun c142 => ?_)
              · replace h80 := fi_pos h80 c142
                refine g_aload_n hC dL_isHalf_355 rfl 1 rfl ?_
                refine g_iload_n hC dL_isHalf_356 rfl 2 rfl ?_
                refine g_iload_n hC dL_isHalf_357 rfl 3 rfl ?_
                refine g_iconst (v := 0) hC dL_isHalf_358 (by decide) ?_
                obtain ⟨r143, h144, h80⟩ := fb_open h80
                refine g_callLWk hC hL [.ref a0, .int u1, .int u2, .int 0] (c_L_would l D cy a0 u1 u2 0 w r143 h144) (Or.inl rfl) (fun _ _ h => nomatch h) q_515 q_72 q_513 q_514 h9_L_would ⟨Nat.le_of_ble_eq_true rfl, Nat.le_of_ble_eq_true rfl⟩ 2 12 rfl rfl ⟨Nat.le_of_ble_eq_true rfl, Nat.le_of_ble_eq_true rfl⟩ (Nat.le_of_ble_eq_true rfl) rfl dL_isHalf_359 (fun z146 _ e145 => ?_)
                show gAt X 56 336 17 w z146 gE0 [(13, .int x70), (0, .ref a0), (1, .int u1), (2, .int u2), (3, .int r1), (4, .int r5), (5, .int r9), (6, .int r13), (7, .int r17), (9, .int x37.1), (10, .int x37.2), (11, .int r62), (12, .int r66)] [.int r143] 362
                refine g_iload hC dL_isHalf_362 9 rfl ?_
                refine g_icmp_ne hC 383 dL_isHalf_364 (by decide) (fun c147 => ?_) (fun c147 => ?_)
                · replace h80 := fi_neg h80 c147
                  refine g_iconst (v := 0) hC dL_isHalf_383 (by decide) ?_
                  obtain rfl := Option.some.inj h80
                  refine g_sub (L' := [(0, .ref a0), (1, .int u1), (2, .int u2), (3, .int r1), (9, .int x37.1), (10, .int x37.2), (11, .int r62), (12, .int r66), (13, .int x70)]) [1, 2, 3, 4, 9, 10, 11, 12, 0] rfl ?_
                  refine g_widen (k' := 59) (s' := 354) (by omega) (by omega) ?_
                  exact K82 _
                · replace h80 := fi_pos h80 c147
                  refine g_aload_n hC dL_isHalf_367 rfl 1 rfl ?_
                  refine g_iload_n hC dL_isHalf_368 rfl 2 rfl ?_
                  refine g_iload_n hC dL_isHalf_369 rfl 3 rfl ?_
                  refine g_iload_n hC dL_isHalf_370 rfl 4 rfl ?_
                  obtain ⟨r148, h149, h80⟩ := fb_open h80
                  refine g_callLWk hC hL [.ref a0, .int u1, .int u2, .int r1] (c_L_readAt l D cy a0 u1 u2 r1 w r148 h149) (Or.inl rfl) (fun _ _ h => nomatch h) q_1216 q_72 q_1214 q_1215 h9_L_readAt ⟨Nat.le_of_ble_eq_true rfl, Nat.le_of_ble_eq_true rfl⟩ 3 18 rfl rfl ⟨Nat.le_of_ble_eq_true rfl, Nat.le_of_ble_eq_true rfl⟩ (Nat.le_of_ble_eq_true rfl) rfl dL_isHalf_371 (fun z151 _ e150 => ?_)
                  show gAt X 59 354 17 w z151 gE0 [(13, .int x70), (0, .ref a0), (1, .int u1), (2, .int u2), (3, .int r1), (4, .int r5), (5, .int r9), (6, .int r13), (7, .int r17), (9, .int x37.1), (10, .int x37.2), (11, .int r62), (12, .int r66)] [.int r148] 374
                  refine g_bipush (v := (-75)) hC dL_isHalf_374 (by decide) ?_
                  refine g_icmp_ne hC 383 dL_isHalf_376 (by decide) (fun c152 => ?_) (fun c152 => ?_)
                  · replace h80 := fi_neg h80 c152
                    refine g_iconst (v := 0) hC dL_isHalf_383 (by decide) ?_
                    obtain rfl := Option.some.inj h80
                    refine g_sub (L' := [(0, .ref a0), (1, .int u1), (2, .int u2), (3, .int r1), (9, .int x37.1), (10, .int x37.2), (11, .int r62), (12, .int r66), (13, .int x70)]) [1, 2, 3, 4, 9, 10, 11, 12, 0] rfl ?_
                    exact K82 _
                  · replace h80 := fi_pos h80 c152
                    refine g_iconst (v := 1) hC dL_isHalf_379 (by decide) ?_
                    refine g_goto hC 384 dL_isHalf_380 (by decide) ?_
                    obtain rfl := Option.some.inj h80
                    refine g_sub (L' := [(0, .ref a0), (1, .int u1), (2, .int u2), (3, .int r1), (9, .int x37.1), (10, .int x37.2), (11, .int r62), (12, .int r66), (13, .int x70)]) [1, 2, 3, 4, 9, 10, 11, 12, 0] rfl ?_
                    exact K82 _
              · replace h80 := fi_neg h80 c142
                refine g_iload hC dL_isHalf_337 9 rfl ?_
                refine g_iload_n hC dL_isHalf_339 rfl 4 rfl ?_
                refine g_icmp_ne hC 383 dL_isHalf_340 (by decide) (fun c153 => ?_) (fun c153 => ?_)
                · replace h80 := fi_neg h80 c153
                  refine g_iconst (v := 0) hC dL_isHalf_383 (by decide) ?_
                  obtain rfl := Option.some.inj h80
                  refine g_sub (L' := [(0, .ref a0), (1, .int u1), (2, .int u2), (3, .int r1), (9, .int x37.1), (10, .int x37.2), (11, .int r62), (12, .int r66), (13, .int x70)]) [1, 2, 3, 4, 9, 10, 11, 12, 0] rfl ?_
                  refine g_widen (k' := 59) (s' := 354) (by omega) (by omega) ?_
                  exact K82 _
                · replace h80 := fi_pos h80 c153
                  refine g_iload hC dL_isHalf_343 7 rfl ?_
                  refine g_iload hC dL_isHalf_345 6 rfl ?_
                  refine g_icmp_ne hC 383 dL_isHalf_347 (by decide) (fun c154 => ?_) (fun c154 => ?_)
                  · replace h80 := fi_neg h80 c154
                    refine g_iconst (v := 0) hC dL_isHalf_383 (by decide) ?_
                    obtain rfl := Option.some.inj h80
                    refine g_sub (L' := [(0, .ref a0), (1, .int u1), (2, .int u2), (3, .int r1), (9, .int x37.1), (10, .int x37.2), (11, .int r62), (12, .int r66), (13, .int x70)]) [1, 2, 3, 4, 9, 10, 11, 12, 0] rfl ?_
                    refine g_widen (k' := 59) (s' := 354) (by omega) (by omega) ?_
                    exact K82 _
                  · replace h80 := fi_pos h80 c154
                    refine g_iload hC dL_isHalf_350 10 rfl ?_
                    refine g_if_ne hC 383 dL_isHalf_352 (by decide) (fun c155 => ?_) (fun c155 => ?_)
                    · replace h80 := fi_neg h80 c155
                      refine g_iconst (v := 0) hC dL_isHalf_383 (by decide) ?_
                      obtain rfl := Option.some.inj h80
                      refine g_sub (L' := [(0, .ref a0), (1, .int u1), (2, .int u2), (3, .int r1), (9, .int x37.1), (10, .int x37.2), (11, .int r62), (12, .int r66), (13, .int x70)]) [1, 2, 3, 4, 9, 10, 11, 12, 0] rfl ?_
                      refine g_widen (k' := 59) (s' := 354) (by omega) (by omega) ?_
                      exact K82 _
                    · replace h80 := fi_pos h80 c155
                      refine g_aload_n hC dL_isHalf_355 rfl 1 rfl ?_
                      refine g_iload_n hC dL_isHalf_356 rfl 2 rfl ?_
                      refine g_iload_n hC dL_isHalf_357 rfl 3 rfl ?_
                      refine g_iconst (v := 0) hC dL_isHalf_358 (by decide) ?_
                      obtain ⟨r156, h157, h80⟩ := fb_open h80
                      refine g_callLWk hC hL [.ref a0, .int u1, .int u2, .int 0] (c_L_would l D cy a0 u1 u2 0 w r156 h157) (Or.inl rfl) (fun _ _ h => nomatch h) q_515 q_72 q_513 q_514 h9_L_would ⟨Nat.le_of_ble_eq_true rfl, Nat.le_of_ble_eq_true rfl⟩ 2 12 rfl rfl ⟨Nat.le_of_ble_eq_true rfl, Nat.le_of_ble_eq_true rfl⟩ (Nat.le_of_ble_eq_true rfl) rfl dL_isHalf_359 (fun z159 _ e158 => ?_)
                      show gAt X 56 336 17 w z159 gE0 [(13, .int x70), (0, .ref a0), (1, .int u1), (2, .int u2), (3, .int r1), (4, .int r5), (5, .int r9), (6, .int r13), (7, .int r17), (9, .int x37.1), (10, .int x37.2), (11, .int r62), (12, .int r66)] [.int r156] 362
                      refine g_iload hC dL_isHalf_362 9 rfl ?_
                      refine g_icmp_ne hC 383 dL_isHalf_364 (by decide) (fun c160 => ?_) (fun c160 => ?_)
                      · replace h80 := fi_neg h80 c160
                        refine g_iconst (v := 0) hC dL_isHalf_383 (by decide) ?_
                        obtain rfl := Option.some.inj h80
                        refine g_sub (L' := [(0, .ref a0), (1, .int u1), (2, .int u2), (3, .int r1), (9, .int x37.1), (10, .int x37.2), (11, .int r62), (12, .int r66), (13, .int x70)]) [1, 2, 3, 4, 9, 10, 11, 12, 0] rfl ?_
                        refine g_widen (k' := 59) (s' := 354) (by omega) (by omega) ?_
                        exact K82 _
                      · replace h80 := fi_pos h80 c160
                        refine g_aload_n hC dL_isHalf_367 rfl 1 rfl ?_
                        refine g_iload_n hC dL_isHalf_368 rfl 2 rfl ?_
                        refine g_iload_n hC dL_isHalf_369 rfl 3 rfl ?_
                        refine g_iload_n hC dL_isHalf_370 rfl 4 rfl ?_
                        obtain ⟨r161, h162, h80⟩ := fb_open h80
                        refine g_callLWk hC hL [.ref a0, .int u1, .int u2, .int r1] (c_L_readAt l D cy a0 u1 u2 r1 w r161 h162) (Or.inl rfl) (fun _ _ h => nomatch h) q_1216 q_72 q_1214 q_1215 h9_L_readAt ⟨Nat.le_of_ble_eq_true rfl, Nat.le_of_ble_eq_true rfl⟩ 3 18 rfl rfl ⟨Nat.le_of_ble_eq_true rfl, Nat.le_of_ble_eq_true rfl⟩ (Nat.le_of_ble_eq_true rfl) rfl dL_isHalf_371 (fun z164 _ e163 => ?_)
                        show gAt X 59 354 17 w z164 gE0 [(13, .int x70), (0, .ref a0), (1, .int u1), (2, .int u2), (3, .int r1), (4, .int r5), (5, .int r9), (6, .int r13), (7, .int r17), (9, .int x37.1), (10, .int x37.2), (11, .int r62), (12, .int r66)] [.int r161] 374
                        refine g_bipush (v := (-75)) hC dL_isHalf_374 (by decide) ?_
                        refine g_icmp_ne hC 383 dL_isHalf_376 (by decide) (fun c165 => ?_) (fun c165 => ?_)
                        · replace h80 := fi_neg h80 c165
                          refine g_iconst (v := 0) hC dL_isHalf_383 (by decide) ?_
                          obtain rfl := Option.some.inj h80
                          refine g_sub (L' := [(0, .ref a0), (1, .int u1), (2, .int u2), (3, .int r1), (9, .int x37.1), (10, .int x37.2), (11, .int r62), (12, .int r66), (13, .int x70)]) [1, 2, 3, 4, 9, 10, 11, 12, 0] rfl ?_
                          exact K82 _
                        · replace h80 := fi_pos h80 c165
                          refine g_iconst (v := 1) hC dL_isHalf_379 (by decide) ?_
                          refine g_goto hC 384 dL_isHalf_380 (by decide) ?_
                          obtain rfl := Option.some.inj h80
                          refine g_sub (L' := [(0, .ref a0), (1, .int u1), (2, .int u2), (3, .int r1), (9, .int x37.1), (10, .int x37.2), (11, .int r62), (12, .int r66), (13, .int x70)]) [1, 2, 3, 4, 9, 10, 11, 12, 0] rfl ?_
                          exact K82 _
        refine g_icmp_lt hC 306 dL_isHalf_250 (by decide) (fun c166 => ?_) (fun c166 => ?_)
        · replace h71 := fi_pos h71 c166
          refine g_iconst (v := 0) hC dL_isHalf_306 (by decide) ?_
          obtain rfl := Option.some.inj h71
          refine g_sub (L' := [(0, .ref a0), (1, .int u1), (2, .int u2), (3, .int r1), (4, .int r5), (5, .int r9), (6, .int r13), (7, .int r17), (9, .int x37.1), (10, .int x37.2), (11, .int r62), (12, .int r66)]) [2, 3, 4, 5, 6, 7, 8, 9, 10, 11, 1, 0] rfl ?_
          exact K73 _
        · replace h71 := fi_neg h71 c166
          refine g_iload hC dL_isHalf_253 7 rfl ?_
          refine g_iconst (v := 5) hC dL_isHalf_255 (by decide) ?_
          refine g_iload hC dL_isHalf_256 9 rfl ?_
          refine g_imul hC dL_isHalf_258 ?_
          refine g_icmp_gt hC 306 dL_isHalf_259 (by decide) (fun c167 => ?_) (fun c167 => ?_)
          · replace h71 := fi_pos h71 c167
            refine g_iconst (v := 0) hC dL_isHalf_306 (by decide) ?_
            obtain rfl := Option.some.inj h71
            refine g_sub (L' := [(0, .ref a0), (1, .int u1), (2, .int u2), (3, .int r1), (4, .int r5), (5, .int r9), (6, .int r13), (7, .int r17), (9, .int x37.1), (10, .int x37.2), (11, .int r62), (12, .int r66)]) [2, 3, 4, 5, 6, 7, 8, 9, 10, 11, 1, 0] rfl ?_
            exact K73 _
          · replace h71 := fi_neg h71 c167
            refine g_iload hC dL_isHalf_262 8 rfl ?_
            refine g_iload hC dL_isHalf_264 7 rfl ?_
            refine g_icmp_gt hC 306 dL_isHalf_266 (by decide) (fun c168 => ?_) (fun c168 => ?_)
            · replace h71 := fi_pos h71 c168
              refine g_iconst (v := 0) hC dL_isHalf_306 (by decide) ?_
              obtain rfl := Option.some.inj h71
              refine g_sub (L' := [(0, .ref a0), (1, .int u1), (2, .int u2), (3, .int r1), (4, .int r5), (5, .int r9), (6, .int r13), (7, .int r17), (9, .int x37.1), (10, .int x37.2), (11, .int r62), (12, .int r66)]) [2, 3, 4, 5, 6, 7, 8, 9, 10, 11, 1, 0] rfl ?_
              exact K73 _
            · replace h71 := fi_neg h71 c168
              refine g_iload hC dL_isHalf_269 8 rfl ?_
              refine g_iload hC dL_isHalf_271 7 rfl ?_
              refine g_iload hC dL_isHalf_273 9 rfl ?_
              refine g_iload hC dL_isHalf_275 6 rfl ?_
              refine g_iconst (v := 3) hC dL_isHalf_277 (by decide) ?_
              refine g_idiv hC dL_isHalf_278 (by decide) ?_
              refine g_imul hC dL_isHalf_279 ?_
              refine g_isub hC dL_isHalf_280 ?_
              refine g_icmp_lt hC 306 dL_isHalf_281 (by decide) (fun c169 => ?_) (fun c169 => ?_)
              · replace h71 := fi_pos h71 c169
                refine g_iconst (v := 0) hC dL_isHalf_306 (by decide) ?_
                obtain rfl := Option.some.inj h71
                refine g_sub (L' := [(0, .ref a0), (1, .int u1), (2, .int u2), (3, .int r1), (4, .int r5), (5, .int r9), (6, .int r13), (7, .int r17), (9, .int x37.1), (10, .int x37.2), (11, .int r62), (12, .int r66)]) [2, 3, 4, 5, 6, 7, 8, 9, 10, 11, 1, 0] rfl ?_
                exact K73 _
              · replace h71 := fi_neg h71 c169
                refine g_iload hC dL_isHalf_284 6 rfl ?_
                refine g_bipush (v := 9) hC dL_isHalf_286 (by decide) ?_
                refine g_icmp_gt hC 306 dL_isHalf_288 (by decide) (fun c170 => ?_) (fun c170 => ?_)
                · replace h71 := fi_pos h71 c170
                  refine g_iconst (v := 0) hC dL_isHalf_306 (by decide) ?_
                  obtain rfl := Option.some.inj h71
                  refine g_sub (L' := [(0, .ref a0), (1, .int u1), (2, .int u2), (3, .int r1), (4, .int r5), (5, .int r9), (6, .int r13), (7, .int r17), (9, .int x37.1), (10, .int x37.2), (11, .int r62), (12, .int r66)]) [2, 3, 4, 5, 6, 7, 8, 9, 10, 11, 1, 0] rfl ?_
                  exact K73 _
                · replace h71 := fi_neg h71 c170
                  refine g_iload hC dL_isHalf_291 1 rfl ?_
                  refine g_if_lt hC 306 dL_isHalf_293 (by decide) (fun c171 => ?_) (fun c171 => ?_)
                  · replace h71 := fi_pos h71 c171
                    refine g_iconst (v := 0) hC dL_isHalf_306 (by decide) ?_
                    obtain rfl := Option.some.inj h71
                    refine g_sub (L' := [(0, .ref a0), (1, .int u1), (2, .int u2), (3, .int r1), (4, .int r5), (5, .int r9), (6, .int r13), (7, .int r17), (9, .int x37.1), (10, .int x37.2), (11, .int r62), (12, .int r66)]) [2, 3, 4, 5, 6, 7, 8, 9, 10, 11, 1, 0] rfl ?_
                    exact K73 _
                  · replace h71 := fi_neg h71 c171
                    refine g_iload hC dL_isHalf_296 1 rfl ?_
                    refine g_iconst (v := 5) hC dL_isHalf_298 (by decide) ?_
                    refine g_icmp_ge hC 306 dL_isHalf_299 (by decide) (fun c172 => ?_) (fun c172 => ?_)
                    · replace h71 := fi_pos h71 c172
                      refine g_iconst (v := 0) hC dL_isHalf_306 (by decide) ?_
                      obtain rfl := Option.some.inj h71
                      refine g_sub (L' := [(0, .ref a0), (1, .int u1), (2, .int u2), (3, .int r1), (4, .int r5), (5, .int r9), (6, .int r13), (7, .int r17), (9, .int x37.1), (10, .int x37.2), (11, .int r62), (12, .int r66)]) [2, 3, 4, 5, 6, 7, 8, 9, 10, 11, 1, 0] rfl ?_
                      exact K73 _
                    · replace h71 := fi_neg h71 c172
                      refine g_iconst (v := 1) hC dL_isHalf_302 (by decide) ?_
                      refine g_goto hC 307 dL_isHalf_303 (by decide) ?_
                      obtain rfl := Option.some.inj h71
                      refine g_sub (L' := [(0, .ref a0), (1, .int u1), (2, .int u2), (3, .int r1), (4, .int r5), (5, .int r9), (6, .int r13), (7, .int r17), (9, .int x37.1), (10, .int x37.2), (11, .int r62), (12, .int r66)]) [2, 3, 4, 5, 6, 7, 8, 9, 10, 11, 1, 0] rfl ?_
                      exact K73 _
      refine g_sub (L' := [(0, .ref a0), (1, .int u1), (2, .int u2), (3, .int r1), (4, .int r5), (5, .int r9), (6, .int r13), (7, .int r17), (9, .int 0), (10, .int 0), (11, .int 0)]) [4, 5, 6, 7, 8, 9, 10, 11, 2, 1, 0] rfl ?_
      refine fLoopB_use h38 (fun (n40 : Nat) (s31 : Int32 × Int32 × Int32) => ∀ b44 d44 : Nat, b44 + n40 * 5 ≤ 47 ∧ d44 + n40 * 30 ≤ 282 → ∀ z42 : Nat, gAt X b44 d44 17 w z42 gE0 [(0, .ref a0), (1, .int u1), (2, .int u2), (3, .int r1), (4, .int r5), (5, .int r9), (6, .int r13), (7, .int r17), (9, .int s31.1), (10, .int s31.2.1), (11, .int s31.2.2)] [] 168) (fun n40 s31 y36 h32 go33 ou34 => ?_) 12 72 ⟨Nat.le_of_ble_eq_true rfl, Nat.le_of_ble_eq_true rfl⟩ _
      intro b44 d44 k45 z42
      obtain ⟨k45, k45'⟩ := k45
      refine g_iload hC dL_isHalf_168 10 rfl ?_
      refine g_iload_n hC dL_isHalf_170 rfl 3 rfl ?_
      refine g_icmp_ge hC 229 dL_isHalf_171 (by decide) (fun c46 => ?_) (fun c46 => ?_)
      · replace h32 := fi_pos h32 c46
        obtain rfl := Option.some.inj h32
        obtain rfl := ou34 _ rfl
        refine g_sub (L' := [(0, .ref a0), (1, .int u1), (2, .int u2), (3, .int r1), (4, .int r5), (5, .int r9), (6, .int r13), (7, .int r17), (9, .int s31.1), (10, .int s31.2.1)]) [0, 1, 2, 3, 4, 5, 6, 7, 8, 9] rfl ?_
        refine g_widen (k' := 47) (s' := 282) (by omega) (by omega) ?_
        exact K39 _
      · replace h32 := fi_neg h32 c46
        refine g_aload_n hC dL_isHalf_174 rfl 0 rfl ?_
        refine g_iload_n hC dL_isHalf_175 rfl 1 rfl ?_
        refine g_iload_n hC dL_isHalf_176 rfl 2 rfl ?_
        refine g_iload hC dL_isHalf_177 10 rfl ?_
        obtain ⟨r47, h48, h32⟩ := fb_open h32
        refine g_callLWk hC hL [.ref a0, .int u1, .int u2, .int s31.2.2] (c_L_readAt l D cy a0 u1 u2 s31.2.2 w r47 h48) (Or.inl rfl) (fun _ _ h => nomatch h) q_1216 q_72 q_1214 q_1215 h9_L_readAt ⟨Nat.le_of_ble_eq_true rfl, Nat.le_of_ble_eq_true rfl⟩ 3 18 rfl rfl ⟨show b44 + 3 ≤ 65 from by omega, show d44 + 18 ≤ 390 from by omega⟩ (Nat.le_of_ble_eq_true rfl) rfl dL_isHalf_179 (fun z50 _ e49 => ?_)
        refine g_cs (b44 + 3) (d44 + 18) (show (b44 + 3) = b44 + 3 from by omega) (show (d44 + 18) = d44 + 18 from by omega) ?_
        show gAt X (b44 + 3) (d44 + 18) 17 w z50 gE0 [(0, .ref a0), (1, .int u1), (2, .int u2), (3, .int r1), (4, .int r5), (5, .int r9), (6, .int r13), (7, .int r17), (9, .int s31.1), (10, .int s31.2.1), (11, .int s31.2.2)] [.int r47] 182
        refine g_istore (L' := [(12, .int r47), (0, .ref a0), (1, .int u1), (2, .int u2), (3, .int r1), (4, .int r5), (5, .int r9), (6, .int r13), (7, .int r17), (9, .int s31.1), (10, .int s31.2.1), (11, .int s31.2.2)]) hC dL_isHalf_182 (by decide) rfl ?_
        refine g_iload hC dL_isHalf_184 9 rfl ?_
        refine g_iload hC dL_isHalf_186 0 rfl ?_
        refine g_aload_n hC dL_isHalf_188 rfl 1 rfl ?_
        refine g_iload_n hC dL_isHalf_189 rfl 2 rfl ?_
        refine g_iload hC dL_isHalf_190 11 rfl ?_
        obtain ⟨r51, h52, h32⟩ := fb_open h32
        refine g_callLWk hC hL [.ref a0, .int u1, .int s31.2.2] (c_L_wordAt l D cy a0 u1 s31.2.2 w r51 h52) (Or.inl rfl) (fun _ _ h => nomatch h) q_1200 q_72 q_1198 q_1199 h9_L_wordAt ⟨Nat.le_of_ble_eq_true rfl, Nat.le_of_ble_eq_true rfl⟩ 2 12 rfl rfl ⟨show (b44 + 3) + 2 ≤ 65 from by omega, show (d44 + 18) + 12 ≤ 390 from by omega⟩ (Nat.le_of_ble_eq_true rfl) rfl dL_isHalf_192 (fun z54 _ e53 => ?_)
        refine g_cs (b44 + 5) (d44 + 30) (show (b44 + 5) = (b44 + 3) + 2 from by omega) (show (d44 + 30) = (d44 + 18) + 12 from by omega) ?_
        show gAt X (b44 + 5) (d44 + 30) 17 w z54 gE0 [(12, .int r47), (0, .ref a0), (1, .int u1), (2, .int u2), (3, .int r1), (4, .int r5), (5, .int r9), (6, .int r13), (7, .int r17), (9, .int s31.1), (10, .int s31.2.1), (11, .int s31.2.2)] [.int r51, .int r47, .int s31.1] 195
        obtain ⟨x55, h56, h32⟩ := fb_open h32
        have K58 : ∀ z59, gAt X (b44 + 5) (d44 + 30) 17 w z59 gE0 [(0, .ref a0), (1, .int u1), (2, .int u2), (3, .int r1), (4, .int r5), (5, .int r9), (6, .int r13), (7, .int r17), (10, .int s31.2.1), (11, .int s31.2.2), (12, .int r47)] [.int x55, .int s31.1] 203 := by
          intro z59
          refine g_iadd hC dL_isHalf_203 ?_
          refine g_istore (L' := [(9, .int (s31.1 + x55)), (0, .ref a0), (1, .int u1), (2, .int u2), (3, .int r1), (4, .int r5), (5, .int r9), (6, .int r13), (7, .int r17), (10, .int s31.2.1), (11, .int s31.2.2), (12, .int r47)]) hC dL_isHalf_204 (by decide) rfl ?_
          refine g_iload hC dL_isHalf_206 9 rfl ?_
          refine g_iload hC dL_isHalf_208 11 rfl ?_
          refine g_bipush (v := 63) hC dL_isHalf_210 (by decide) ?_
          refine g_icmp_ne hC 219 dL_isHalf_212 (by decide) (fun c60 => ?_) (fun c60 => ?_)
          · replace h32 := fi_neg h32 c60
            refine g_iconst (v := 0) hC dL_isHalf_219 (by decide) ?_
            refine g_iadd hC dL_isHalf_220 ?_
            refine g_istore (L' := [(10, .int (s31.2.1 + 0)), (9, .int (s31.1 + x55)), (0, .ref a0), (1, .int u1), (2, .int u2), (3, .int r1), (4, .int r5), (5, .int r9), (6, .int r13), (7, .int r17), (11, .int s31.2.2), (12, .int r47)]) hC dL_isHalf_221 (by decide) rfl ?_
            refine g_iinc (L' := [(11, .int (s31.2.2 + 1)), (10, .int (s31.2.1 + 0)), (9, .int (s31.1 + x55)), (0, .ref a0), (1, .int u1), (2, .int u2), (3, .int r1), (4, .int r5), (5, .int r9), (6, .int r13), (7, .int r17), (12, .int r47)]) hC dL_isHalf_223 10 rfl rfl (by decide) rfl ?_
            refine g_goto hC 168 dL_isHalf_226 (by decide) ?_
            obtain rfl := Option.some.inj h32
            refine g_sub (L' := [(0, .ref a0), (1, .int u1), (2, .int u2), (3, .int r1), (4, .int r5), (5, .int r9), (6, .int r13), (7, .int r17), (9, .int (s31.1 + x55)), (10, .int (s31.2.1 + 0)), (11, .int (s31.2.2 + 1))]) [3, 4, 5, 6, 7, 8, 9, 10, 2, 1, 0] rfl ?_
            exact go33 ((s31.1 + x55), (s31.2.1 + 0), (s31.2.2 + 1)) rfl _ _ ⟨by omega, by omega⟩ _
          · replace h32 := fi_pos h32 c60
            refine g_iconst (v := 1) hC dL_isHalf_215 (by decide) ?_
            refine g_goto hC 220 dL_isHalf_216 (by decide) ?_
            refine g_iadd hC dL_isHalf_220 ?_
            refine g_istore (L' := [(10, .int (s31.2.1 + 1)), (9, .int (s31.1 + x55)), (0, .ref a0), (1, .int u1), (2, .int u2), (3, .int r1), (4, .int r5), (5, .int r9), (6, .int r13), (7, .int r17), (11, .int s31.2.2), (12, .int r47)]) hC dL_isHalf_221 (by decide) rfl ?_
            refine g_iinc (L' := [(11, .int (s31.2.2 + 1)), (10, .int (s31.2.1 + 1)), (9, .int (s31.1 + x55)), (0, .ref a0), (1, .int u1), (2, .int u2), (3, .int r1), (4, .int r5), (5, .int r9), (6, .int r13), (7, .int r17), (12, .int r47)]) hC dL_isHalf_223 10 rfl rfl (by decide) rfl ?_
            refine g_goto hC 168 dL_isHalf_226 (by decide) ?_
            obtain rfl := Option.some.inj h32
            refine g_sub (L' := [(0, .ref a0), (1, .int u1), (2, .int u2), (3, .int r1), (4, .int r5), (5, .int r9), (6, .int r13), (7, .int r17), (9, .int (s31.1 + x55)), (10, .int (s31.2.1 + 1)), (11, .int (s31.2.2 + 1))]) [3, 4, 5, 6, 7, 8, 9, 10, 2, 1, 0] rfl ?_
            exact go33 ((s31.1 + x55), (s31.2.1 + 1), (s31.2.2 + 1)) rfl _ _ ⟨by omega, by omega⟩ _
        refine g_icmp_ne hC 202 dL_isHalf_195 (by decide) (fun c61 => ?_) (fun c61 => ?_)
        · replace h56 := fi_neg h56 c61
          refine g_iconst (v := 0) hC dL_isHalf_202 (by decide) ?_
          obtain rfl := Option.some.inj h56
          refine g_sub (L' := [(0, .ref a0), (1, .int u1), (2, .int u2), (3, .int r1), (4, .int r5), (5, .int r9), (6, .int r13), (7, .int r17), (10, .int s31.2.1), (11, .int s31.2.2), (12, .int r47)]) [1, 2, 3, 4, 5, 6, 7, 8, 10, 11, 0] rfl ?_
          exact K58 _
        · replace h56 := fi_pos h56 c61
          refine g_iconst (v := 1) hC dL_isHalf_198 (by decide) ?_
          refine g_goto hC 203 dL_isHalf_199 (by decide) ?_
          obtain rfl := Option.some.inj h56
          refine g_sub (L' := [(0, .ref a0), (1, .int u1), (2, .int u2), (3, .int r1), (4, .int r5), (5, .int r9), (6, .int r13), (7, .int r17), (10, .int s31.2.1), (11, .int s31.2.2), (12, .int r47)]) [1, 2, 3, 4, 5, 6, 7, 8, 10, 11, 0] rfl ?_
          exact K58 _
    · replace hF := fi_pos hF c30
      refine g_aload_n hC dL_isHalf_65 rfl 1 rfl ?_
      refine g_iload_n hC dL_isHalf_66 rfl 2 rfl ?_
      refine g_iload_n hC dL_isHalf_67 rfl 3 rfl ?_
      refine g_iconst (v := 1) hC dL_isHalf_68 (by decide) ?_
      obtain ⟨r173, h174, hF⟩ := fb_open hF
      refine g_callLWk hC hL [.ref a0, .int u1, .int u2, .int 1] (c_L_halfOf l D cy a0 u1 u2 1 w r173 h174) (Or.inl rfl) (fun _ _ h => nomatch h) q_315 q_72 q_313 q_314 h9_L_halfOf ⟨Nat.le_of_ble_eq_true rfl, Nat.le_of_ble_eq_true rfl⟩ 2 12 rfl rfl ⟨Nat.le_of_ble_eq_true rfl, Nat.le_of_ble_eq_true rfl⟩ (Nat.le_of_ble_eq_true rfl) rfl dL_isHalf_69 (fun z176 _ e175 => ?_)
      show gAt X 14 84 17 w z176 gE0 [(8, .int x25), (0, .ref a0), (1, .int u1), (2, .int u2), (3, .int r1), (4, .int r5), (5, .int r9), (6, .int r13), (7, .int r17)] [.int r173] 72
      refine g_iconst (v := (-1)) hC dL_isHalf_72 (by decide) ?_
      refine g_icmp_ne hC 157 dL_isHalf_73 (by decide) (fun c177 => ?_) (fun c177 => ?_)
      · replace hF := fi_neg hF c177
        refine g_iconst (v := 0) hC dL_isHalf_157 (by decide) ?_
        obtain rfl := Option.some.inj hF
        refine g_widen (k' := 65) (s' := 390) (by omega) (by omega) ?_
        exact g_zret hC hEn (fSm.rf w) (nar_z (by decide)) dL_isHalf_158
      · replace hF := fi_pos hF c177
        refine g_iload hC dL_isHalf_76 6 rfl ?_
        refine g_if_ne hC 157 dL_isHalf_78 (by decide) (fun c178 => ?_) (fun c178 => ?_)
        · replace hF := fi_neg hF c178
          refine g_iconst (v := 0) hC dL_isHalf_157 (by decide) ?_
          obtain rfl := Option.some.inj hF
          refine g_widen (k' := 65) (s' := 390) (by omega) (by omega) ?_
          exact g_zret hC hEn (fSm.rf w) (nar_z (by decide)) dL_isHalf_158
        · replace hF := fi_pos hF c178
          refine g_iload hC dL_isHalf_81 7 rfl ?_
          refine g_if_ne hC 157 dL_isHalf_83 (by decide) (fun c179 => ?_) (fun c179 => ?_)
          · replace hF := fi_neg hF c179
            refine g_iconst (v := 0) hC dL_isHalf_157 (by decide) ?_
            obtain rfl := Option.some.inj hF
            refine g_widen (k' := 65) (s' := 390) (by omega) (by omega) ?_
            exact g_zret hC hEn (fSm.rf w) (nar_z (by decide)) dL_isHalf_158
          · replace hF := fi_pos hF c179
            refine g_aload_n hC dL_isHalf_86 rfl 1 rfl ?_
            refine g_iload_n hC dL_isHalf_87 rfl 2 rfl ?_
            refine g_iload_n hC dL_isHalf_88 rfl 3 rfl ?_
            refine g_bipush (v := 6) hC dL_isHalf_89 (by decide) ?_
            obtain ⟨r180, h181, hF⟩ := fb_open hF
            refine g_callLWk hC hL [.ref a0, .int u1, .int u2, .int 6] (c_L_halfOf l D cy a0 u1 u2 6 w r180 h181) (Or.inl rfl) (fun _ _ h => nomatch h) q_315 q_72 q_313 q_314 h9_L_halfOf ⟨Nat.le_of_ble_eq_true rfl, Nat.le_of_ble_eq_true rfl⟩ 2 12 rfl rfl ⟨Nat.le_of_ble_eq_true rfl, Nat.le_of_ble_eq_true rfl⟩ (Nat.le_of_ble_eq_true rfl) rfl dL_isHalf_91 (fun z183 _ e182 => ?_)
            show gAt X 16 96 17 w z183 gE0 [(8, .int x25), (0, .ref a0), (1, .int u1), (2, .int u2), (3, .int r1), (4, .int r5), (5, .int r9), (6, .int r13), (7, .int r17)] [.int r180] 94
            refine g_if_ne hC 157 dL_isHalf_94 (by decide) (fun c184 => ?_) (fun c184 => ?_)
            · replace hF := fi_neg hF c184
              refine g_iconst (v := 0) hC dL_isHalf_157 (by decide) ?_
              obtain rfl := Option.some.inj hF
              refine g_widen (k' := 65) (s' := 390) (by omega) (by omega) ?_
              exact g_zret hC hEn (fSm.rf w) (nar_z (by decide)) dL_isHalf_158
            · replace hF := fi_pos hF c184
              refine g_aload_n hC dL_isHalf_97 rfl 1 rfl ?_
              refine g_iload_n hC dL_isHalf_98 rfl 2 rfl ?_
              refine g_iload_n hC dL_isHalf_99 rfl 3 rfl ?_
              refine g_bipush (v := 7) hC dL_isHalf_100 (by decide) ?_
              obtain ⟨r185, h186, hF⟩ := fb_open hF
              refine g_callLWk hC hL [.ref a0, .int u1, .int u2, .int 7] (c_L_halfOf l D cy a0 u1 u2 7 w r185 h186) (Or.inl rfl) (fun _ _ h => nomatch h) q_315 q_72 q_313 q_314 h9_L_halfOf ⟨Nat.le_of_ble_eq_true rfl, Nat.le_of_ble_eq_true rfl⟩ 2 12 rfl rfl ⟨Nat.le_of_ble_eq_true rfl, Nat.le_of_ble_eq_true rfl⟩ (Nat.le_of_ble_eq_true rfl) rfl dL_isHalf_102 (fun z188 _ e187 => ?_)
              show gAt X 18 108 17 w z188 gE0 [(8, .int x25), (0, .ref a0), (1, .int u1), (2, .int u2), (3, .int r1), (4, .int r5), (5, .int r9), (6, .int r13), (7, .int r17)] [.int r185] 105
              refine g_if_ne hC 157 dL_isHalf_105 (by decide) (fun c189 => ?_) (fun c189 => ?_)
              · replace hF := fi_neg hF c189
                refine g_iconst (v := 0) hC dL_isHalf_157 (by decide) ?_
                obtain rfl := Option.some.inj hF
                refine g_widen (k' := 65) (s' := 390) (by omega) (by omega) ?_
                exact g_zret hC hEn (fSm.rf w) (nar_z (by decide)) dL_isHalf_158
              · replace hF := fi_pos hF c189
                refine g_aload_n hC dL_isHalf_108 rfl 1 rfl ?_
                refine g_iload_n hC dL_isHalf_109 rfl 2 rfl ?_
                refine g_iload_n hC dL_isHalf_110 rfl 3 rfl ?_
                refine g_iconst (v := 0) hC dL_isHalf_111 (by decide) ?_
                obtain ⟨r190, h191, hF⟩ := fb_open hF
                refine g_callLWk hC hL [.ref a0, .int u1, .int u2, .int 0] (c_L_readAt l D cy a0 u1 u2 0 w r190 h191) (Or.inl rfl) (fun _ _ h => nomatch h) q_1216 q_72 q_1214 q_1215 h9_L_readAt ⟨Nat.le_of_ble_eq_true rfl, Nat.le_of_ble_eq_true rfl⟩ 3 18 rfl rfl ⟨Nat.le_of_ble_eq_true rfl, Nat.le_of_ble_eq_true rfl⟩ (Nat.le_of_ble_eq_true rfl) rfl dL_isHalf_112 (fun z193 _ e192 => ?_)
                show gAt X 21 126 17 w z193 gE0 [(8, .int x25), (0, .ref a0), (1, .int u1), (2, .int u2), (3, .int r1), (4, .int r5), (5, .int r9), (6, .int r13), (7, .int r17)] [.int r190] 115
                refine g_bipush (v := (-75)) hC dL_isHalf_115 (by decide) ?_
                refine g_icmp_ne hC 157 dL_isHalf_117 (by decide) (fun c194 => ?_) (fun c194 => ?_)
                · replace hF := fi_neg hF c194
                  refine g_iconst (v := 0) hC dL_isHalf_157 (by decide) ?_
                  obtain rfl := Option.some.inj hF
                  refine g_widen (k' := 65) (s' := 390) (by omega) (by omega) ?_
                  exact g_zret hC hEn (fSm.rf w) (nar_z (by decide)) dL_isHalf_158
                · replace hF := fi_pos hF c194
                  refine g_aload_n hC dL_isHalf_120 rfl 1 rfl ?_
                  refine g_iload_n hC dL_isHalf_121 rfl 2 rfl ?_
                  refine g_iload_n hC dL_isHalf_122 rfl 3 rfl ?_
                  obtain ⟨r195, h196, hF⟩ := fb_open hF
                  refine g_callLWk hC hL [.ref a0, .int u1, .int u2] (c_L_moodFor l D cy a0 u1 u2 w r195 h196) (Or.inl rfl) (fun _ _ h => nomatch h) q_1227 q_72 q_1225 q_1226 h9_L_moodFor ⟨Nat.le_of_ble_eq_true rfl, Nat.le_of_ble_eq_true rfl⟩ 3 18 rfl rfl ⟨Nat.le_of_ble_eq_true rfl, Nat.le_of_ble_eq_true rfl⟩ (Nat.le_of_ble_eq_true rfl) rfl dL_isHalf_123 (fun z198 _ e197 => ?_)
                  show gAt X 24 144 17 w z198 gE0 [(8, .int x25), (0, .ref a0), (1, .int u1), (2, .int u2), (3, .int r1), (4, .int r5), (5, .int r9), (6, .int r13), (7, .int r17)] [.int r195] 126
                  refine g_bipush (v := (-75)) hC dL_isHalf_126 (by decide) ?_
                  refine g_icmp_ne hC 157 dL_isHalf_128 (by decide) (fun c199 => ?_) (fun c199 => ?_)
                  · replace hF := fi_neg hF c199
                    refine g_iconst (v := 0) hC dL_isHalf_157 (by decide) ?_
                    obtain rfl := Option.some.inj hF
                    refine g_widen (k' := 65) (s' := 390) (by omega) (by omega) ?_
                    exact g_zret hC hEn (fSm.rf w) (nar_z (by decide)) dL_isHalf_158
                  · replace hF := fi_pos hF c199
                    refine g_aload_n hC dL_isHalf_131 rfl 1 rfl ?_
                    refine g_iload_n hC dL_isHalf_132 rfl 2 rfl ?_
                    refine g_iload_n hC dL_isHalf_133 rfl 3 rfl ?_
                    obtain ⟨r200, h201, hF⟩ := fb_open hF
                    refine g_callLWk hC hL [.ref a0, .int u1, .int u2] (c_L_likely l D cy a0 u1 u2 w r200 h201) (Or.inl rfl) (fun _ _ h => nomatch h) q_1235 q_72 q_1233 q_1234 h9_L_likely ⟨Nat.le_of_ble_eq_true rfl, Nat.le_of_ble_eq_true rfl⟩ 2 12 rfl rfl ⟨Nat.le_of_ble_eq_true rfl, Nat.le_of_ble_eq_true rfl⟩ (Nat.le_of_ble_eq_true rfl) rfl dL_isHalf_134 (fun z203 _ e202 => ?_)
                    show gAt X 26 156 17 w z203 gE0 [(8, .int x25), (0, .ref a0), (1, .int u1), (2, .int u2), (3, .int r1), (4, .int r5), (5, .int r9), (6, .int r13), (7, .int r17)] [.int r200] 137
                    refine g_bipush (v := (-75)) hC dL_isHalf_137 (by decide) ?_
                    refine g_icmp_ne hC 157 dL_isHalf_139 (by decide) (fun c204 => ?_) (fun c204 => ?_)
                    · replace hF := fi_neg hF c204
                      refine g_iconst (v := 0) hC dL_isHalf_157 (by decide) ?_
                      obtain rfl := Option.some.inj hF
                      refine g_widen (k' := 65) (s' := 390) (by omega) (by omega) ?_
                      exact g_zret hC hEn (fSm.rf w) (nar_z (by decide)) dL_isHalf_158
                    · replace hF := fi_pos hF c204
                      refine g_aload_n hC dL_isHalf_142 rfl 1 rfl ?_
                      refine g_iload_n hC dL_isHalf_143 rfl 2 rfl ?_
                      refine g_iload_n hC dL_isHalf_144 rfl 3 rfl ?_
                      obtain ⟨r205, h206, hF⟩ := fb_open hF
                      obtain ⟨v209, w210⟩ := r205
                      refine g_callLWk hC hL [.ref a0, .int u1, .int u2] (c_L_holeLine l D cy a0 u1 u2 w (v209, w210) h206) (Or.inl rfl) (fun _ _ h => nomatch h) q_1248 q_72 q_1246 q_1247 h9_L_holeLine ⟨Nat.le_of_ble_eq_true rfl, Nat.le_of_ble_eq_true rfl⟩ 2 12 rfl rfl ⟨Nat.le_of_ble_eq_true rfl, Nat.le_of_ble_eq_true rfl⟩ (Nat.le_of_ble_eq_true rfl) rfl dL_isHalf_145 (fun z208 _ e207 => ?_)
                      show gAt X 28 168 17 w210 z208 gE0 [(8, .int x25), (0, .ref a0), (1, .int u1), (2, .int u2), (3, .int r1), (4, .int r5), (5, .int r9), (6, .int r13), (7, .int r17)] [.int v209] 148
                      refine g_bipush (v := (-75)) hC dL_isHalf_148 (by decide) ?_
                      refine g_icmp_ne hC 157 dL_isHalf_150 (by decide) (fun c211 => ?_) (fun c211 => ?_)
                      · replace hF := fi_neg hF c211
                        refine g_iconst (v := 0) hC dL_isHalf_157 (by decide) ?_
                        obtain rfl := Option.some.inj hF
                        refine g_widen (k' := 65) (s' := 390) (by omega) (by omega) ?_
                        exact g_zret hC hEn (fSm.tr e207 (fSm.rf w)) (nar_z (by decide)) dL_isHalf_158
                      · replace hF := fi_pos hF c211
                        refine g_iconst (v := 1) hC dL_isHalf_153 (by decide) ?_
                        refine g_goto hC 158 dL_isHalf_154 (by decide) ?_
                        obtain rfl := Option.some.inj hF
                        refine g_widen (k' := 65) (s' := 390) (by omega) (by omega) ?_
                        exact g_zret hC hEn (fSm.tr e207 (fSm.rf w)) (nar_z (by decide)) dL_isHalf_158
  refine g_icmp_ne hC 57 dL_isHalf_50 (by decide) (fun c212 => ?_) (fun c212 => ?_)
  · replace h26 := fi_neg h26 c212
    refine g_iconst (v := 0) hC dL_isHalf_57 (by decide) ?_
    obtain rfl := Option.some.inj h26
    refine g_sub (L' := [(0, .ref a0), (1, .int u1), (2, .int u2), (3, .int r1), (4, .int r5), (5, .int r9), (6, .int r13), (7, .int r17)]) [5, 6, 7, 4, 3, 2, 1, 0] rfl ?_
    exact K28 _
  · replace h26 := fi_pos h26 c212
    refine g_iconst (v := 1) hC dL_isHalf_53 (by decide) ?_
    refine g_goto hC 58 dL_isHalf_54 (by decide) ?_
    obtain rfl := Option.some.inj h26
    refine g_sub (L' := [(0, .ref a0), (1, .int u1), (2, .int u2), (3, .int r1), (4, .int r5), (5, .int r9), (6, .int r13), (7, .int r17)]) [5, 6, 7, 4, 3, 2, 1, 0] rfl ?_
    exact K28 _
