def ckB (o : Option Cond) (y : MethodName) (b : ByteArray) (m : Nat) (r : Option FieldType) : Bool := match o with
  | some (.code y' b' m' r') => decide (y' = y) && decide (m' = m) && decide (r' = r) && decide (b'.data.toList = b.data.toList)
  | _ => false
theorem ckB_s {o : Option Cond} {y : MethodName} {b : ByteArray} {m : Nat} {r : Option FieldType} (h : ckB o y b m r = true) : o = some (.code y b m r) := by
  unfold ckB at h
  split at h
  · rename_i y' b' m' r'
    simp only [Bool.and_eq_true, decide_eq_true_eq] at h
    obtain ⟨⟨⟨e1, e2⟩, e3⟩, h4⟩ := h
    rw [e1, e2, e3]
    have : b' = b := by
      cases b'
      cases b
      exact congrArg ByteArray.mk (Array.toList_inj.mp h4)
    rw [this]
  · exact absurd h (by decide)
theorem q_1210 : Cond.code yL_isWhole cL_isWhole 20 (some .boolean) ∈ lwA := mA 1210 (ckB_s (by decide +kernel)) rfl
theorem q_1208 : Cond.methodLink RL 207 yL_isWhole ∈ lwA := mA 1208 (by decide +kernel) rfl
theorem q_1209 : Cond.static yL_isWhole ∈ lwA := mA 1209 (by decide +kernel) rfl
theorem q_573 : Cond.codeWith yL_refusal cL_refusal 3 (some .int) [(0, 5, 6, 123)] ∈ lwA := mA 573 (by decide +kernel) rfl
theorem q_571 : Cond.methodLink RL 173 yL_refusal ∈ lwA := mA 571 (by decide +kernel) rfl
theorem q_572 : Cond.static yL_refusal ∈ lwA := mA 572 (by decide +kernel) rfl
theorem q_550 : Cond.codeWith yL_hinders cL_hinders 4 (some .int) [(0, 6, 7, 32)] ∈ lwA := mA 550 (by decide +kernel) rfl
theorem q_548 : Cond.methodLink RL 195 yL_hinders ∈ lwA := mA 548 (by decide +kernel) rfl
theorem q_549 : Cond.static yL_hinders ∈ lwA := mA 549 (by decide +kernel) rfl
theorem q_630 : Cond.code yL_does cL_does 9 (some .int) ∈ lwA := mA 630 (by decide +kernel) rfl
theorem q_628 : Cond.methodLink RL 201 yL_does ∈ lwA := mA 628 (by decide +kernel) rfl
theorem q_629 : Cond.static yL_does ∈ lwA := mA 629 (by decide +kernel) rfl
theorem h9_L_does : yL_does.cls ≠ "java/lang/invoke/MethodHandle" ∧ yL_does.cls ≠ "java/lang/invoke/VarHandle" ∧ (parseMethodDescriptor yL_does.desc).map (fun d => d.parameters.length) = some 7 := by decide +kernel
theorem dL_law_0 : decode cL_law 0 = .ok (.new 15, 3) := by decide +kernel
theorem dL_law_3 : decode cL_law 3 = .ok (.dup, 1) := by decide +kernel
theorem dL_law_4 : decode cL_law 4 = .ok (.invokespecial 184, 3) := by decide +kernel
theorem dL_law_7 : decode cL_law 7 = .ok (.astore_n 1, 1) := by decide +kernel
theorem dL_law_8 : decode cL_law 8 = .ok (.bipush 60, 2) := by decide +kernel
theorem dL_law_10 : decode cL_law 10 = .ok (.newarray .long, 2) := by decide +kernel
theorem dL_law_12 : decode cL_law 12 = .ok (.astore_n 2, 1) := by decide +kernel
theorem dL_law_13 : decode cL_law 13 = .ok (.iconst 0, 1) := by decide +kernel
theorem dL_law_14 : decode cL_law 14 = .ok (.istore_n 3, 1) := by decide +kernel
theorem dL_law_15 : decode cL_law 15 = .ok (.aload_n 2, 1) := by decide +kernel
theorem dL_law_16 : decode cL_law 16 = .ok (.iload_n 3, 1) := by decide +kernel
theorem dL_law_17 : decode cL_law 17 = .ok (.aload_n 1, 1) := by decide +kernel
theorem dL_law_18 : decode cL_law 18 = .ok (.invokestatic 185, 3) := by decide +kernel
theorem dL_law_21 : decode cL_law 21 = .ok (.lastore, 1) := by decide +kernel
theorem dL_law_22 : decode cL_law 22 = .ok (.iconst 0, 1) := by decide +kernel
theorem dL_law_23 : decode cL_law 23 = .ok (.istore 4, 2) := by decide +kernel
theorem dL_law_25 : decode cL_law 25 = .ok (.iconst 0, 1) := by decide +kernel
theorem dL_law_26 : decode cL_law 26 = .ok (.istore 5, 2) := by decide +kernel
theorem dL_law_28 : decode cL_law 28 = .ok (.iload 5, 2) := by decide +kernel
theorem dL_law_30 : decode cL_law 30 = .ok (.bipush 46, 2) := by decide +kernel
theorem dL_law_32 : decode cL_law 32 = .ok (.if_icmp .ge 332, 3) := by decide +kernel
theorem dL_law_35 : decode cL_law 35 = .ok (.aload_n 1, 1) := by decide +kernel
theorem dL_law_36 : decode cL_law 36 = .ok (.invokestatic 185, 3) := by decide +kernel
theorem dL_law_39 : decode cL_law 39 = .ok (.lstore 6, 2) := by decide +kernel
theorem dL_law_41 : decode cL_law 41 = .ok (.aload_n 1, 1) := by decide +kernel
theorem dL_law_42 : decode cL_law 42 = .ok (.bipush 13, 2) := by decide +kernel
theorem dL_law_44 : decode cL_law 44 = .ok (.invokestatic 189, 3) := by decide +kernel
theorem dL_law_47 : decode cL_law 47 = .ok (.istore 8, 2) := by decide +kernel
theorem dL_law_49 : decode cL_law 49 = .ok (.iload 5, 2) := by decide +kernel
theorem dL_law_51 : decode cL_law 51 = .ok (.iconst 2, 1) := by decide +kernel
theorem dL_law_52 : decode cL_law 52 = .ok (.if_icmp .ge 7, 3) := by decide +kernel
theorem dL_law_55 : decode cL_law 55 = .ok (.iconst 0, 1) := by decide +kernel
theorem dL_law_56 : decode cL_law 56 = .ok (.goto 11, 3) := by decide +kernel
theorem dL_law_59 : decode cL_law 59 = .ok (.aload_n 0, 1) := by decide +kernel
theorem dL_law_60 : decode cL_law 60 = .ok (.iload 4, 2) := by decide +kernel
theorem dL_law_62 : decode cL_law 62 = .ok (.bipush 34, 2) := by decide +kernel
theorem dL_law_64 : decode cL_law 64 = .ok (.invokestatic 191, 3) := by decide +kernel
theorem dL_law_67 : decode cL_law 67 = .ok (.istore 9, 2) := by decide +kernel
theorem dL_law_69 : decode cL_law 69 = .ok (.aload_n 0, 1) := by decide +kernel
theorem dL_law_70 : decode cL_law 70 = .ok (.iload 4, 2) := by decide +kernel
theorem dL_law_72 : decode cL_law 72 = .ok (.iconst 2, 1) := by decide +kernel
theorem dL_law_73 : decode cL_law 73 = .ok (.iadd, 1) := by decide +kernel
theorem dL_law_74 : decode cL_law 74 = .ok (.aload_n 1, 1) := by decide +kernel
theorem dL_law_75 : decode cL_law 75 = .ok (.iconst 0, 1) := by decide +kernel
theorem dL_law_76 : decode cL_law 76 = .ok (.invokestatic 189, 3) := by decide +kernel
theorem dL_law_79 : decode cL_law 79 = .ok (.iload 5, 2) := by decide +kernel
theorem dL_law_81 : decode cL_law 81 = .ok (.bipush 9, 2) := by decide +kernel
theorem dL_law_83 : decode cL_law 83 = .ok (.irem, 1) := by decide +kernel
theorem dL_law_84 : decode cL_law 84 = .ok (.bipush 8, 2) := by decide +kernel
theorem dL_law_86 : decode cL_law 86 = .ok (.if_icmp .eq 11, 3) := by decide +kernel
theorem dL_law_89 : decode cL_law 89 = .ok (.aload_n 1, 1) := by decide +kernel
theorem dL_law_90 : decode cL_law 90 = .ok (.iconst 0, 1) := by decide +kernel
theorem dL_law_91 : decode cL_law 91 = .ok (.invokestatic 189, 3) := by decide +kernel
theorem dL_law_94 : decode cL_law 94 = .ok (.ifCond .ne 7, 3) := by decide +kernel
theorem dL_law_97 : decode cL_law 97 = .ok (.iconst 1, 1) := by decide +kernel
theorem dL_law_98 : decode cL_law 98 = .ok (.goto 4, 3) := by decide +kernel
theorem dL_law_101 : decode cL_law 101 = .ok (.iconst 0, 1) := by decide +kernel
theorem dL_law_102 : decode cL_law 102 = .ok (.iadd, 1) := by decide +kernel
theorem dL_law_103 : decode cL_law 103 = .ok (.invokestatic 191, 3) := by decide +kernel
theorem dL_law_106 : decode cL_law 106 = .ok (.istore 10, 2) := by decide +kernel
theorem dL_law_108 : decode cL_law 108 = .ok (.aload_n 0, 1) := by decide +kernel
theorem dL_law_109 : decode cL_law 109 = .ok (.iload 4, 2) := by decide +kernel
theorem dL_law_111 : decode cL_law 111 = .ok (.iconst 3, 1) := by decide +kernel
theorem dL_law_112 : decode cL_law 112 = .ok (.iadd, 1) := by decide +kernel
theorem dL_law_113 : decode cL_law 113 = .ok (.iconst 2, 1) := by decide +kernel
theorem dL_law_114 : decode cL_law 114 = .ok (.invokestatic 191, 3) := by decide +kernel
theorem dL_law_117 : decode cL_law 117 = .ok (.iconst 1, 1) := by decide +kernel
theorem dL_law_118 : decode cL_law 118 = .ok (.if_icmp .ne 7, 3) := by decide +kernel
theorem dL_law_121 : decode cL_law 121 = .ok (.iconst 1, 1) := by decide +kernel
theorem dL_law_122 : decode cL_law 122 = .ok (.goto 4, 3) := by decide +kernel
theorem dL_law_125 : decode cL_law 125 = .ok (.iconst 0, 1) := by decide +kernel
theorem dL_law_126 : decode cL_law 126 = .ok (.istore 11, 2) := by decide +kernel
theorem dL_law_128 : decode cL_law 128 = .ok (.iconst 1, 1) := by decide +kernel
theorem dL_law_129 : decode cL_law 129 = .ok (.aload_n 0, 1) := by decide +kernel
theorem dL_law_130 : decode cL_law 130 = .ok (.iload 4, 2) := by decide +kernel
theorem dL_law_132 : decode cL_law 132 = .ok (.iconst 4, 1) := by decide +kernel
theorem dL_law_133 : decode cL_law 133 = .ok (.iadd, 1) := by decide +kernel
theorem dL_law_134 : decode cL_law 134 = .ok (.iconst 4, 1) := by decide +kernel
theorem dL_law_135 : decode cL_law 135 = .ok (.invokestatic 191, 3) := by decide +kernel
theorem dL_law_138 : decode cL_law 138 = .ok (.iadd, 1) := by decide +kernel
theorem dL_law_139 : decode cL_law 139 = .ok (.istore 12, 2) := by decide +kernel
theorem dL_law_141 : decode cL_law 141 = .ok (.aload_n 1, 1) := by decide +kernel
theorem dL_law_142 : decode cL_law 142 = .ok (.iload 10, 2) := by decide +kernel
theorem dL_law_144 : decode cL_law 144 = .ok (.iload 11, 2) := by decide +kernel
theorem dL_law_146 : decode cL_law 146 = .ok (.invokestatic 195, 3) := by decide +kernel
theorem dL_law_149 : decode cL_law 149 = .ok (.istore 13, 2) := by decide +kernel
theorem dL_law_151 : decode cL_law 151 = .ok (.aload_n 1, 1) := by decide +kernel
theorem dL_law_152 : decode cL_law 152 = .ok (.iload 10, 2) := by decide +kernel
theorem dL_law_154 : decode cL_law 154 = .ok (.iload 11, 2) := by decide +kernel
theorem dL_law_156 : decode cL_law 156 = .ok (.iload 12, 2) := by decide +kernel
theorem dL_law_158 : decode cL_law 158 = .ok (.invokestatic 198, 3) := by decide +kernel
theorem dL_law_161 : decode cL_law 161 = .ok (.istore 14, 2) := by decide +kernel
theorem dL_law_163 : decode cL_law 163 = .ok (.aload_n 0, 1) := by decide +kernel
theorem dL_law_164 : decode cL_law 164 = .ok (.iload 4, 2) := by decide +kernel
theorem dL_law_166 : decode cL_law 166 = .ok (.iload 9, 2) := by decide +kernel
theorem dL_law_168 : decode cL_law 168 = .ok (.aload_n 1, 1) := by decide +kernel
theorem dL_law_169 : decode cL_law 169 = .ok (.iload 10, 2) := by decide +kernel
theorem dL_law_171 : decode cL_law 171 = .ok (.iload 11, 2) := by decide +kernel
theorem dL_law_173 : decode cL_law 173 = .ok (.iload 12, 2) := by decide +kernel
theorem dL_law_175 : decode cL_law 175 = .ok (.invokestatic 201, 3) := by decide +kernel
theorem dL_law_178 : decode cL_law 178 = .ok (.istore 15, 2) := by decide +kernel
theorem dL_law_180 : decode cL_law 180 = .ok (.iload 9, 2) := by decide +kernel
theorem dL_law_182 : decode cL_law 182 = .ok (.bipush 24, 2) := by decide +kernel
theorem dL_law_184 : decode cL_law 184 = .ok (.if_icmp .le 14, 3) := by decide +kernel
theorem dL_law_187 : decode cL_law 187 = .ok (.iload 9, 2) := by decide +kernel
theorem dL_law_189 : decode cL_law 189 = .ok (.bipush 30, 2) := by decide +kernel
theorem dL_law_191 : decode cL_law 191 = .ok (.if_icmp .ge 7, 3) := by decide +kernel
theorem dL_law_194 : decode cL_law 194 = .ok (.iconst 1, 1) := by decide +kernel
theorem dL_law_195 : decode cL_law 195 = .ok (.goto 4, 3) := by decide +kernel
theorem dL_law_198 : decode cL_law 198 = .ok (.iconst 0, 1) := by decide +kernel
theorem dL_law_199 : decode cL_law 199 = .ok (.istore 16, 2) := by decide +kernel
theorem dL_law_201 : decode cL_law 201 = .ok (.iload 16, 2) := by decide +kernel
theorem dL_law_203 : decode cL_law 203 = .ok (.ifCond .eq 38, 3) := by decide +kernel
theorem dL_law_206 : decode cL_law 206 = .ok (.iload 13, 2) := by decide +kernel
theorem dL_law_208 : decode cL_law 208 = .ok (.ifCond .lt 33, 3) := by decide +kernel
theorem dL_law_211 : decode cL_law 211 = .ok (.iload 13, 2) := by decide +kernel
theorem dL_law_213 : decode cL_law 213 = .ok (.ifCond .ne 11, 3) := by decide +kernel
theorem dL_law_216 : decode cL_law 216 = .ok (.iload 15, 2) := by decide +kernel
theorem dL_law_218 : decode cL_law 218 = .ok (.ifCond .le 27, 3) := by decide +kernel
theorem dL_law_221 : decode cL_law 221 = .ok (.goto 20, 3) := by decide +kernel
theorem dL_law_224 : decode cL_law 224 = .ok (.iload 15, 2) := by decide +kernel
theorem dL_law_226 : decode cL_law 226 = .ok (.bipush (-76), 2) := by decide +kernel
theorem dL_law_228 : decode cL_law 228 = .ok (.if_icmp .ne 17, 3) := by decide +kernel
theorem dL_law_231 : decode cL_law 231 = .ok (.aload_n 1, 1) := by decide +kernel
theorem dL_law_232 : decode cL_law 232 = .ok (.iconst 0, 1) := by decide +kernel
theorem dL_law_233 : decode cL_law 233 = .ok (.invokestatic 173, 3) := by decide +kernel
theorem dL_law_236 : decode cL_law 236 = .ok (.iload 13, 2) := by decide +kernel
theorem dL_law_238 : decode cL_law 238 = .ok (.if_icmp .ne 7, 3) := by decide +kernel
theorem dL_law_241 : decode cL_law 241 = .ok (.iconst 1, 1) := by decide +kernel
theorem dL_law_242 : decode cL_law 242 = .ok (.goto 4, 3) := by decide +kernel
theorem dL_law_245 : decode cL_law 245 = .ok (.iconst 0, 1) := by decide +kernel
theorem dL_law_246 : decode cL_law 246 = .ok (.istore 17, 2) := by decide +kernel
theorem dL_law_248 : decode cL_law 248 = .ok (.iload 17, 2) := by decide +kernel
theorem dL_law_250 : decode cL_law 250 = .ok (.iload 9, 2) := by decide +kernel
theorem dL_law_252 : decode cL_law 252 = .ok (.bipush 16, 2) := by decide +kernel
theorem dL_law_254 : decode cL_law 254 = .ok (.if_icmp .lt 30, 3) := by decide +kernel
theorem dL_law_257 : decode cL_law 257 = .ok (.iload 9, 2) := by decide +kernel
theorem dL_law_259 : decode cL_law 259 = .ok (.bipush 19, 2) := by decide +kernel
theorem dL_law_261 : decode cL_law 261 = .ok (.if_icmp .gt 23, 3) := by decide +kernel
theorem dL_law_264 : decode cL_law 264 = .ok (.iload 14, 2) := by decide +kernel
theorem dL_law_266 : decode cL_law 266 = .ok (.ifCond .lt 18, 3) := by decide +kernel
theorem dL_law_269 : decode cL_law 269 = .ok (.aload_n 1, 1) := by decide +kernel
theorem dL_law_270 : decode cL_law 270 = .ok (.iload 10, 2) := by decide +kernel
theorem dL_law_272 : decode cL_law 272 = .ok (.iload 11, 2) := by decide +kernel
theorem dL_law_274 : decode cL_law 274 = .ok (.bipush 7, 2) := by decide +kernel
theorem dL_law_276 : decode cL_law 276 = .ok (.invokestatic 205, 3) := by decide +kernel
theorem dL_law_279 : decode cL_law 279 = .ok (.iload 14, 2) := by decide +kernel
theorem dL_law_281 : decode cL_law 281 = .ok (.if_icmp .ne 7, 3) := by decide +kernel
theorem dL_law_284 : decode cL_law 284 = .ok (.iconst 1, 1) := by decide +kernel
theorem dL_law_285 : decode cL_law 285 = .ok (.goto 4, 3) := by decide +kernel
theorem dL_law_288 : decode cL_law 288 = .ok (.iconst 0, 1) := by decide +kernel
theorem dL_law_289 : decode cL_law 289 = .ok (.iand, 1) := by decide +kernel
theorem dL_law_290 : decode cL_law 290 = .ok (.istore 17, 2) := by decide +kernel
theorem dL_law_292 : decode cL_law 292 = .ok (.iinc 4 6, 3) := by decide +kernel
theorem dL_law_295 : decode cL_law 295 = .ok (.iload 17, 2) := by decide +kernel
theorem dL_law_297 : decode cL_law 297 = .ok (.ifCond .eq 10, 3) := by decide +kernel
theorem dL_law_300 : decode cL_law 300 = .ok (.aload_n 1, 1) := by decide +kernel
theorem dL_law_301 : decode cL_law 301 = .ok (.invokestatic 207, 3) := by decide +kernel
theorem dL_law_304 : decode cL_law 304 = .ok (.ifCond .ne 5, 3) := by decide +kernel
theorem dL_law_307 : decode cL_law 307 = .ok (.iconst 0, 1) := by decide +kernel
theorem dL_law_308 : decode cL_law 308 = .ok (.ireturn, 1) := by decide +kernel
theorem dL_law_309 : decode cL_law 309 = .ok (.iload 15, 2) := by decide +kernel
theorem dL_law_311 : decode cL_law 311 = .ok (.bipush (-74), 2) := by decide +kernel
theorem dL_law_313 : decode cL_law 313 = .ok (.if_icmp .gt 35, 3) := by decide +kernel
theorem dL_law_316 : decode cL_law 316 = .ok (.aload_n 1, 1) := by decide +kernel
theorem dL_law_317 : decode cL_law 317 = .ok (.invokestatic 185, 3) := by decide +kernel
theorem dL_law_320 : decode cL_law 320 = .ok (.lload 6, 2) := by decide +kernel
theorem dL_law_322 : decode cL_law 322 = .ok (.lcmp, 1) := by decide +kernel
theorem dL_law_323 : decode cL_law 323 = .ok (.ifCond .ne 23, 3) := by decide +kernel
theorem dL_law_326 : decode cL_law 326 = .ok (.aload_n 1, 1) := by decide +kernel
theorem dL_law_327 : decode cL_law 327 = .ok (.bipush 13, 2) := by decide +kernel
theorem dL_law_329 : decode cL_law 329 = .ok (.invokestatic 189, 3) := by decide +kernel
theorem dL_law_332 : decode cL_law 332 = .ok (.iload 8, 2) := by decide +kernel
theorem dL_law_334 : decode cL_law 334 = .ok (.if_icmp .ne 12, 3) := by decide +kernel
theorem dL_law_337 : decode cL_law 337 = .ok (.aload_n 1, 1) := by decide +kernel
theorem dL_law_338 : decode cL_law 338 = .ok (.bipush 12, 2) := by decide +kernel
theorem dL_law_340 : decode cL_law 340 = .ok (.invokestatic 189, 3) := by decide +kernel
theorem dL_law_343 : decode cL_law 343 = .ok (.ifCond .eq 15, 3) := by decide +kernel
theorem dL_law_346 : decode cL_law 346 = .ok (.iconst 0, 1) := by decide +kernel
theorem dL_law_347 : decode cL_law 347 = .ok (.ireturn, 1) := by decide +kernel
theorem dL_law_348 : decode cL_law 348 = .ok (.iinc 3 1, 3) := by decide +kernel
theorem dL_law_351 : decode cL_law 351 = .ok (.aload_n 2, 1) := by decide +kernel
theorem dL_law_352 : decode cL_law 352 = .ok (.iload_n 3, 1) := by decide +kernel
theorem dL_law_353 : decode cL_law 353 = .ok (.aload_n 1, 1) := by decide +kernel
theorem dL_law_354 : decode cL_law 354 = .ok (.invokestatic 185, 3) := by decide +kernel
theorem dL_law_357 : decode cL_law 357 = .ok (.lastore, 1) := by decide +kernel
theorem dL_law_358 : decode cL_law 358 = .ok (.iinc 5 1, 3) := by decide +kernel
theorem dL_law_361 : decode cL_law 361 = .ok (.goto (-333), 3) := by decide +kernel
theorem dL_law_364 : decode cL_law 364 = .ok (.aload_n 1, 1) := by decide +kernel
theorem dL_law_365 : decode cL_law 365 = .ok (.aload_n 2, 1) := by decide +kernel
theorem dL_law_366 : decode cL_law 366 = .ok (.iload_n 3, 1) := by decide +kernel
theorem dL_law_367 : decode cL_law 367 = .ok (.invokestatic 211, 3) := by decide +kernel
theorem dL_law_370 : decode cL_law 370 = .ok (.ireturn, 1) := by decide +kernel
/-! A round of the law -/
def smE (cy : Nat → ClassId) (y : Nat) (fs : Nat → Int64) : gE := gE1 y (some (.inl (arrV (cy 5) 60 (fun k => .long (fs k)))))
/-- what holds ahead of a round -/
def LI (x n made : Nat) (w : FW) (fs : Nat → Int64) : Prop := ∃ A nn H sv S, CR w x A nn H sv S ∧ IV (31 * n) A ∧ DB (31 * n) A ∧ SS fs made nn A H ∧ gI w 408 x 0 = 0 ∧ made ≤ n
theorem g_lastS {X : FX} {cc : ByteArray} {nL : Nat} {own : String} {rm : Room} {l : Launch} {D : va_G} {cy : Nat → ClassId} {cells slots pc h y m : Nat} {w : FW} {L : List (Nat × Value)} {st : List Value} {fs : Nat → Int64} {v : Int64} (hC : fOK X cc nL own rm l D cy) (hm : m < 60) (hd : decode cc pc = .ok (.lastore, 1)) (k : gAt X cells slots nL w h (smE cy y (fun i => if i = m then v else fs i)) L st (pc + 1)) : gAt X cells slots nL w h (smE cy y fs) L (.long v :: .int (nI m) :: .ref y :: st) pc := by
  obtain ⟨p, l', e, R, s, m9, args, below, meth, c, Q, D', cy', A⟩ := X
  obtain ⟨hx, hb, hml, hown, hts, hE, hA, rfl, rfl, rfl, rfl⟩ := hC
  intro H locs ls hz h1 h2 h3 h4
  have hg := hz.2 y _ (gE1_b _ _)
  have hc : (nI m).toNatClampNeg = m := nI_clamp (by omega)
  refine W.last hx hb hg.2.2.2 ((hE.1.2 5 _ rfl).1 60 (fun k => .long (fs k))) (fun q => by cases q) (by show ¬ (nI m < 0 ∨ (arrV _ _ _).slots.size ≤ _); rw [arrV_size]; exact nI_in hm (by decide)) rfl rfl hd fun H1 e9 z oq => ?_
  have hp := hz.pin (gE1_b _ _) z oq (y := .inl (arrV (cy' 5) 60 (fun k => .long (if k = m then v else fs k)))) (by
    show H1[y]? = some (arrV _ _ _)
    rw [e9, arrV_store, hc]
    refine congrArg some (g_arrV (fun i hi => ?_))
    unfold updV
    by_cases e : i = m
    · rw [if_pos e, if_pos e]
    · rw [if_neg e, if_neg e])
  unfold smE at hp
  rw [gE1_up] at hp
  exact k H1 _ ls hp (h1.off hg.1 (Nat.le_of_eq z.symm) (fun q _ hq => oq q hq)) h2 (h3.put z oq hg.2.1) h4
section LAW
variable {X : FX} {l : Launch} {D : va_G} {cy : Nat → ClassId} {sb Ln x y cl sl h n made nn : Nat} {xs : Nat → Int32} {w : FW} {fs : Nat → Int64} {A H S : Nat → Int32} {sv r : Int32}
set_option maxHeartbeats 4000000 in
theorem law_no (hC : fOK X cL_law 18 RL room_1 l D cy) (hL : lOK X gE0 (some (sb, Ln, xs))) (hcl : cl + 12000 ≤ 795604) (hsl : sl + 80000 ≤ 6705037) (C : CR w x A nn H sv S) (hI : IV (31 * (n + 1)) A) (hy : DB (31 * (n + 1)) A) (hS : SS fs made nn A H) (h8 : gI w 408 x 0 = 0) (hm : made ≤ n) (hr : r ≤ -74) (kk : ∀ (h2 : Nat) (w2 : FW) (made2 : Nat) (fs2 : Nat → Int64), LI x (n + 1) made2 w2 fs2 → gAt X (cl + 4180) (sl + 25110) 18 w2 h2 (smE cy y fs2) [(5, .int (nI (n + 1))), (4, .int (nI (6 * (n + 1)))), (3, .int (nI made2)), (2, .ref y), (1, .ref x), (0, .ref sb)] [] 28) : gAt X (cl + 3471) (sl + 20858) 18 w h (smE cy y fs) [(4, .int (nI (6 * (n + 1)))), (15, .int r), (8, .int (nI nn)), (6, .long (sumA A)), (5, .int (nI n)), (3, .int (nI made)), (2, .ref y), (1, .ref x), (0, .ref sb)] [] 309 := by
  refine g_iload hC dL_law_309 1 rfl ?_
  refine g_bipush (v := (-74)) hC dL_law_311 (by decide) ?_
  refine g_icmp_gt hC 348 dL_law_313 (by decide) (fun h9 => absurd h9 (Int32.not_lt.mpr hr)) (fun _ => ?_)
  refine g_aload_n hC dL_law_316 rfl 7 rfl ?_
  refine g_callLk hC hL [.ref x] (c_L_sum l D cy x w (sumA A) (e_sum C.X C.2.2.1)) (Or.inl rfl) (fun _ _ h => nomatch h) q_1187 q_72 q_1185 q_1186 h9_L_sum ⟨Nat.le_of_ble_eq_true rfl, Nat.le_of_ble_eq_true rfl⟩ 706 4236 rfl rfl ⟨by show (cl + 3471) + 706 ≤ 795604; omega, by show (sl + 20858) + 4236 ≤ 6705037; omega⟩ (Nat.le_of_ble_eq_true rfl) rfl dL_law_317 (fun p1 _ _ => ?_)
  refine g_cs (cl + 4177) (sl + 25094) (show (cl + 4177) = (cl + 3471) + 706 from by omega) (show (sl + 25094) = (sl + 20858) + 4236 from by omega) ?_
  show gAt X (cl + 4177) (sl + 25094) 18 w p1 (smE cy y fs) [(4, .int (nI (6 * (n + 1)))), (15, .int r), (8, .int (nI nn)), (6, .long (sumA A)), (5, .int (nI n)), (3, .int (nI made)), (2, .ref y), (1, .ref x), (0, .ref sb)] [.long (sumA A)] 320
  refine g_lload hC dL_law_320 3 rfl ?_
  refine g_lcmp hC dL_law_322 ?_
  rw [lg_0]
  refine g_if_ne hC 346 dL_law_323 (by decide) (fun h9 => absurd rfl h9) (fun _ => ?_)
  refine g_aload_n hC dL_law_326 rfl 7 rfl ?_
  refine g_bipush (v := 13) hC dL_law_327 (by decide) ?_
  refine g_callLWk hC hL [.ref x, .int 13] (c_L_account l D cy x 13 w (nI nn) ((e_a13 C.X).trans (congrArg some C.2.2.2.1))) (Or.inl rfl) (fun _ _ h => nomatch h) q_597 q_72 q_595 q_596 h9_L_account ⟨Nat.le_of_ble_eq_true rfl, Nat.le_of_ble_eq_true rfl⟩ 1 6 rfl rfl ⟨by show (cl + 4177) + 1 ≤ 795604; omega, by show (sl + 25094) + 6 ≤ 6705037; omega⟩ (Nat.le_of_ble_eq_true rfl) rfl dL_law_329 (fun p2 _ _ => ?_)
  refine g_cs (cl + 4178) (sl + 25100) (show (cl + 4178) = (cl + 4177) + 1 from by omega) (show (sl + 25100) = (sl + 25094) + 6 from by omega) ?_
  show gAt X (cl + 4178) (sl + 25100) 18 w p2 (smE cy y fs) [(4, .int (nI (6 * (n + 1)))), (15, .int r), (8, .int (nI nn)), (6, .long (sumA A)), (5, .int (nI n)), (3, .int (nI made)), (2, .ref y), (1, .ref x), (0, .ref sb)] [.int (nI nn)] 332
  refine g_iload hC dL_law_332 2 rfl ?_
  refine g_icmp_ne hC 346 dL_law_334 (by decide) (fun h9 => absurd rfl h9) (fun _ => ?_)
  refine g_aload_n hC dL_law_337 rfl 7 rfl ?_
  refine g_bipush (v := 12) hC dL_law_338 (by decide) ?_
  refine g_callLWk hC hL [.ref x, .int 12] (c_L_account l D cy x 12 w 0 ((e_a12 C.X).trans (congrArg some h8))) (Or.inl rfl) (fun _ _ h => nomatch h) q_597 q_72 q_595 q_596 h9_L_account ⟨Nat.le_of_ble_eq_true rfl, Nat.le_of_ble_eq_true rfl⟩ 1 6 rfl rfl ⟨by show (cl + 4178) + 1 ≤ 795604; omega, by show (sl + 25100) + 6 ≤ 6705037; omega⟩ (Nat.le_of_ble_eq_true rfl) rfl dL_law_340 (fun p3 _ _ => ?_)
  refine g_cs (cl + 4179) (sl + 25106) (show (cl + 4179) = (cl + 4178) + 1 from by omega) (show (sl + 25106) = (sl + 25100) + 6 from by omega) ?_
  show gAt X (cl + 4179) (sl + 25106) 18 w p3 (smE cy y fs) [(4, .int (nI (6 * (n + 1)))), (15, .int r), (8, .int (nI nn)), (6, .long (sumA A)), (5, .int (nI n)), (3, .int (nI made)), (2, .ref y), (1, .ref x), (0, .ref sb)] [.int 0] 343
  refine g_if_eq hC 358 dL_law_343 (by decide) (fun _ => ?_) (fun h9 => absurd rfl h9)
  refine g_iinc (L' := [(5, .int (nI (n + 1))), (4, .int (nI (6 * (n + 1)))), (15, .int r), (8, .int (nI nn)), (6, .long (sumA A)), (3, .int (nI made)), (2, .ref y), (1, .ref x), (0, .ref sb)]) (v := nI (n + 1)) hC dL_law_358 4 rfl ?_ (by decide) rfl ?_
  · exact nI_add n 1
  refine g_goto hC 28 dL_law_361 (by decide) ?_
  refine g_sub (L' := [(5, .int (nI (n + 1))), (4, .int (nI (6 * (n + 1)))), (3, .int (nI made)), (2, .ref y), (1, .ref x), (0, .ref sb)]) [0, 1, 5, 6, 7, 8] rfl ?_
  refine g_widen (k' := cl + 4180) (s' := sl + 25110) (by omega) (by omega) ?_
  exact kk _ _ made fs ⟨A, nn, H, sv, S, C, hI, hy, hS, h8, by omega⟩
set_option maxHeartbeats 4000000 in
theorem law_yes (hC : fOK X cL_law 18 RL room_1 l D cy) (hL : lOK X gE0 (some (sb, Ln, xs))) (hcl : cl + 12000 ≤ 795604) (hsl : sl + 80000 ≤ 6705037) {w1 : FW} {A2 : Nat → Int32} (C1 : CR w1 x A nn H sv S) (C2 : CR w x A2 (if nn = 8 then 8 else nn + 1) (hPush nn A H) sv S) (hI : IV (31 * (n + 1)) A2) (hy : DB (31 * (n + 1)) A2) (hS : SS fs made nn A H) (h8 : gI w 408 x 0 = 0) (hm : made ≤ n) (hn : n < 46) (hr : ¬ r ≤ -74) (kk : ∀ (h2 : Nat) (w2 : FW) (made2 : Nat) (fs2 : Nat → Int64), LI x (n + 1) made2 w2 fs2 → gAt X (cl + 4180) (sl + 25110) 18 w2 h2 (smE cy y fs2) [(5, .int (nI (n + 1))), (4, .int (nI (6 * (n + 1)))), (3, .int (nI made2)), (2, .ref y), (1, .ref x), (0, .ref sb)] [] 28) : gAt X (cl + 3471) (sl + 20858) 18 w h (smE cy y fs) [(4, .int (nI (6 * (n + 1)))), (15, .int r), (8, .int (nI nn)), (6, .long (sumA A)), (5, .int (nI n)), (3, .int (nI made)), (2, .ref y), (1, .ref x), (0, .ref sb)] [] 309 := by
  refine g_iload hC dL_law_309 1 rfl ?_
  refine g_bipush (v := (-74)) hC dL_law_311 (by decide) ?_
  refine g_icmp_gt hC 348 dL_law_313 (by decide) (fun _ => ?_) (fun h9 => absurd (Int32.not_lt.mp h9) hr)
  refine g_iinc (L' := [(3, .int (nI (made + 1))), (4, .int (nI (6 * (n + 1)))), (15, .int r), (8, .int (nI nn)), (6, .long (sumA A)), (5, .int (nI n)), (2, .ref y), (1, .ref x), (0, .ref sb)]) (v := nI (made + 1)) hC dL_law_348 5 rfl ?_ (by decide) rfl ?_
  · exact nI_add made 1
  refine g_aload_n hC dL_law_351 rfl 6 rfl ?_
  refine g_iload_n hC dL_law_352 rfl 0 rfl ?_
  refine g_aload_n hC dL_law_353 rfl 7 rfl ?_
  refine g_callLk hC hL [.ref x] (c_L_sum l D cy x w (sumA A2) (e_sum C2.X C2.2.2.1)) (Or.inl rfl) (fun _ _ h => nomatch h) q_1187 q_72 q_1185 q_1186 h9_L_sum ⟨Nat.le_of_ble_eq_true rfl, Nat.le_of_ble_eq_true rfl⟩ 706 4236 rfl rfl ⟨by show (cl + 3471) + 706 ≤ 795604; omega, by show (sl + 20858) + 4236 ≤ 6705037; omega⟩ (Nat.le_of_ble_eq_true rfl) rfl dL_law_354 (fun p1 _ _ => ?_)
  refine g_cs (cl + 4177) (sl + 25094) (show (cl + 4177) = (cl + 3471) + 706 from by omega) (show (sl + 25094) = (sl + 20858) + 4236 from by omega) ?_
  show gAt X (cl + 4177) (sl + 25094) 18 w p1 (smE cy y fs) [(3, .int (nI (made + 1))), (4, .int (nI (6 * (n + 1)))), (15, .int r), (8, .int (nI nn)), (6, .long (sumA A)), (5, .int (nI n)), (2, .ref y), (1, .ref x), (0, .ref sb)] [.long (sumA A2), .int (nI (made + 1)), .ref y] 357
  refine g_lastS hC (m := made + 1) (by omega) dL_law_357 ?_
  refine g_iinc (L' := [(5, .int (nI (n + 1))), (3, .int (nI (made + 1))), (4, .int (nI (6 * (n + 1)))), (15, .int r), (8, .int (nI nn)), (6, .long (sumA A)), (2, .ref y), (1, .ref x), (0, .ref sb)]) (v := nI (n + 1)) hC dL_law_358 5 rfl ?_ (by decide) rfl ?_
  · exact nI_add n 1
  refine g_goto hC 28 dL_law_361 (by decide) ?_
  refine g_sub (L' := [(5, .int (nI (n + 1))), (4, .int (nI (6 * (n + 1)))), (3, .int (nI (made + 1))), (2, .ref y), (1, .ref x), (0, .ref sb)]) [0, 2, 1, 6, 7, 8] rfl ?_
  refine g_widen (k' := cl + 4180) (s' := sl + 25110) (by omega) (by omega) ?_
  exact kk _ _ (made + 1) _ ⟨A2, _, _, sv, S, C2, hI, hy, hS.push C2 C1 (by omega), h8, by omega⟩
set_option maxHeartbeats 4000000 in
theorem law_c (hC : fOK X cL_law 18 RL room_1 l D cy) (hL : lOK X gE0 (some (sb, Ln, xs))) (hcl : cl + 12000 ≤ 795604) (hsl : sl + 80000 ≤ 6705037) {u g t kd : Nat} {hv wv z : Int32} {v2 : FW} (hwh : F_L_isWhole x w = some (1, v2)) (kk : ∀ h, gAt X (cl + 3471) (sl + 20858) 18 v2 h (smE cy y fs) [(4, .int (nI (6 * (n + 1)))), (15, .int r), (8, .int (nI nn)), (6, .long (sumA A)), (5, .int (nI n)), (3, .int (nI made)), (2, .ref y), (1, .ref x), (0, .ref sb)] [] 309) : gAt X (cl + 740) (sl + 4472) 18 w h (smE cy y fs) [(17, .int 1), (16, .int z), (15, .int r), (14, .int wv), (13, .int hv), (12, .int (nI u)), (11, .int (nI g)), (10, .int (nI t)), (9, .int (nI kd)), (8, .int (nI nn)), (6, .long (sumA A)), (5, .int (nI n)), (4, .int (nI (6 * n))), (3, .int (nI made)), (2, .ref y), (1, .ref x), (0, .ref sb)] [] 292 := by
  refine g_iinc (L' := [(4, .int (nI (6 * (n + 1)))), (17, .int 1), (16, .int z), (15, .int r), (14, .int wv), (13, .int hv), (12, .int (nI u)), (11, .int (nI g)), (10, .int (nI t)), (9, .int (nI kd)), (8, .int (nI nn)), (6, .long (sumA A)), (5, .int (nI n)), (3, .int (nI made)), (2, .ref y), (1, .ref x), (0, .ref sb)]) (v := nI (6 * (n + 1))) hC dL_law_292 12 rfl ?_ (by decide) rfl ?_
  · exact (nI_add (6 * n) 6)
  refine g_iload hC dL_law_295 1 rfl ?_
  refine g_if_eq hC 307 dL_law_297 (by decide) (fun h9 => absurd h9 (by decide)) (fun _ => ?_)
  refine g_aload_n hC dL_law_300 rfl 15 rfl ?_
  refine g_callLk hC hL [.ref x] (c_L_isWhole l D cy x w (1, v2) hwh) (Or.inl rfl) (fun _ _ h => nomatch h) q_1210 q_72 q_1208 q_1209 h9_L_isWhole ⟨Nat.le_of_ble_eq_true rfl, Nat.le_of_ble_eq_true rfl⟩ 2731 16386 rfl rfl ⟨by show (cl + 740) + 2731 ≤ 795604; omega, by show (sl + 4472) + 16386 ≤ 6705037; omega⟩ (Nat.le_of_ble_eq_true rfl) rfl dL_law_301 (fun q1 _ _ => ?_)
  refine g_cs (cl + 3471) (sl + 20858) (show (cl + 3471) = (cl + 740) + 2731 from by omega) (show (sl + 20858) = (sl + 4472) + 16386 from by omega) ?_
  show gAt X (cl + 3471) (sl + 20858) 18 v2 q1 (smE cy y fs) [(4, .int (nI (6 * (n + 1)))), (17, .int 1), (16, .int z), (15, .int r), (14, .int wv), (13, .int hv), (12, .int (nI u)), (11, .int (nI g)), (10, .int (nI t)), (9, .int (nI kd)), (8, .int (nI nn)), (6, .long (sumA A)), (5, .int (nI n)), (3, .int (nI made)), (2, .ref y), (1, .ref x), (0, .ref sb)] [.int 1] 304
  refine g_if_ne hC 309 dL_law_304 (by decide) (fun _ => ?_) (fun h9 => absurd h9 (by decide))
  refine g_sub (L' := [(4, .int (nI (6 * (n + 1)))), (15, .int r), (8, .int (nI nn)), (6, .long (sumA A)), (5, .int (nI n)), (3, .int (nI made)), (2, .ref y), (1, .ref x), (0, .ref sb)]) [0, 3, 10, 11, 12, 13, 14, 15, 16] rfl ?_
  exact kk _
set_option maxHeartbeats 4000000 in
theorem law_b (hC : fOK X cL_law 18 RL room_1 l D cy) (hL : lOK X gE0 (some (sb, Ln, xs))) (hcl : cl + 12000 ≤ 795604) (hsl : sl + 80000 ≤ 6705037) {u g t kd : Nat} {hv wv z : Int32} {v2 : FW} (hkd : kd < 34) (hW : 15 < kd → kd < 20 → wv < 0 ∨ F_L_halfOf x (nI t) (nI g) 7 w = some wv) (hwh : F_L_isWhole x w = some (1, v2)) (kk : ∀ h, gAt X (cl + 3471) (sl + 20858) 18 v2 h (smE cy y fs) [(4, .int (nI (6 * (n + 1)))), (15, .int r), (8, .int (nI nn)), (6, .long (sumA A)), (5, .int (nI n)), (3, .int (nI made)), (2, .ref y), (1, .ref x), (0, .ref sb)] [] 309) : gAt X (cl + 738) (sl + 4460) 18 w h (smE cy y fs) [(17, .int 1), (16, .int z), (15, .int r), (14, .int wv), (13, .int hv), (12, .int (nI u)), (11, .int (nI g)), (10, .int (nI t)), (9, .int (nI kd)), (8, .int (nI nn)), (6, .long (sumA A)), (5, .int (nI n)), (4, .int (nI (6 * n))), (3, .int (nI made)), (2, .ref y), (1, .ref x), (0, .ref sb)] [] 248 := by
  refine g_iload hC dL_law_248 0 rfl ?_
  refine g_iload hC dL_law_250 8 rfl ?_
  refine g_bipush (v := (nI 16)) hC dL_law_252 (by decide) ?_
  have K : ∀ h, gAt X (cl + 740) (sl + 4472) 18 w h (smE cy y fs) [(17, .int 1), (16, .int z), (15, .int r), (14, .int wv), (13, .int hv), (12, .int (nI u)), (11, .int (nI g)), (10, .int (nI t)), (9, .int (nI kd)), (8, .int (nI nn)), (6, .long (sumA A)), (5, .int (nI n)), (4, .int (nI (6 * n))), (3, .int (nI made)), (2, .ref y), (1, .ref x), (0, .ref sb)] [.int 1] 284 := by
    intro h
    refine g_iconst (v := 1) hC dL_law_284 (by decide) ?_
    refine g_goto hC 289 dL_law_285 (by decide) ?_
    refine g_iand hC dL_law_289 ?_
    rw [show ((1 : Int32) &&& 1) = 1 from by decide]
    refine g_istore (L' := [(17, .int 1), (16, .int z), (15, .int r), (14, .int wv), (13, .int hv), (12, .int (nI u)), (11, .int (nI g)), (10, .int (nI t)), (9, .int (nI kd)), (8, .int (nI nn)), (6, .long (sumA A)), (5, .int (nI n)), (4, .int (nI (6 * n))), (3, .int (nI made)), (2, .ref y), (1, .ref x), (0, .ref sb)]) hC dL_law_290 (by decide) rfl ?_
    exact law_c hC hL hcl hsl hwh kk
  by_cases ca : 15 < kd ∧ kd < 20
  · refine g_icmp_lt hC 284 dL_law_254 (by decide) (fun h9 => absurd h9 (nI_nlt (by omega) (by omega))) (fun _ => ?_)
    refine g_iload hC dL_law_257 8 rfl ?_
    refine g_bipush (v := (nI 19)) hC dL_law_259 (by decide) ?_
    refine g_icmp_gt hC 284 dL_law_261 (by decide) (fun h9 => absurd h9 (nI_nlt (by omega) (by omega))) (fun _ => ?_)
    refine g_iload hC dL_law_264 3 rfl ?_
    refine g_if_lt hC 284 dL_law_266 (by decide) (fun _ => g_widen (by omega) (by omega) (K _)) (fun h9 => ?_)
    have hf := (hW ca.1 ca.2).resolve_left h9
    refine g_aload_n hC dL_law_269 rfl 15 rfl ?_
    refine g_iload hC dL_law_270 7 rfl ?_
    refine g_iload hC dL_law_272 6 rfl ?_
    refine g_bipush (v := 7) hC dL_law_274 (by decide) ?_
    refine g_callLWk hC hL [.ref x, .int (nI t), .int (nI g), .int 7] (c_L_halfOf l D cy x (nI t) (nI g) 7 w wv hf) (Or.inl rfl) (fun _ _ h => nomatch h) q_315 q_72 q_313 q_314 h9_L_halfOf ⟨Nat.le_of_ble_eq_true rfl, Nat.le_of_ble_eq_true rfl⟩ 2 12 rfl rfl ⟨by show (cl + 738) + 2 ≤ 795604; omega, by show (sl + 4460) + 12 ≤ 6705037; omega⟩ (Nat.le_of_ble_eq_true rfl) rfl dL_law_276 (fun q1 _ _ => ?_)
    refine g_cs (cl + 740) (sl + 4472) (show (cl + 740) = (cl + 738) + 2 from by omega) (show (sl + 4472) = (sl + 4460) + 12 from by omega) ?_
    show gAt X (cl + 740) (sl + 4472) 18 w q1 (smE cy y fs) [(17, .int 1), (16, .int z), (15, .int r), (14, .int wv), (13, .int hv), (12, .int (nI u)), (11, .int (nI g)), (10, .int (nI t)), (9, .int (nI kd)), (8, .int (nI nn)), (6, .long (sumA A)), (5, .int (nI n)), (4, .int (nI (6 * n))), (3, .int (nI made)), (2, .ref y), (1, .ref x), (0, .ref sb)] [.int wv, .int 1] 279
    refine g_iload hC dL_law_279 3 rfl ?_
    refine g_icmp_ne hC 288 dL_law_281 (by decide) (fun h8 => absurd rfl h8) (fun _ => ?_)
    exact K _
  · by_cases cb : kd < 16
    · exact g_icmp_lt hC 284 dL_law_254 (by decide) (fun _ => g_widen (by omega) (by omega) (K _)) (fun h9 => absurd (nI_lt cb (by decide)) h9)
    · refine g_icmp_lt hC 284 dL_law_254 (by decide) (fun h9 => absurd h9 (nI_nlt (by omega) (by omega))) (fun _ => ?_)
      refine g_iload hC dL_law_257 8 rfl ?_
      refine g_bipush (v := (nI 19)) hC dL_law_259 (by decide) ?_
      exact g_icmp_gt hC 284 dL_law_261 (by decide) (fun _ => g_widen (by omega) (by omega) (K _)) (fun h9 => absurd (nI_lt (by omega) (by omega)) h9)
set_option maxHeartbeats 4000000 in
theorem law_a (hC : fOK X cL_law 18 RL room_1 l D cy) (hL : lOK X gE0 (some (sb, Ln, xs))) (hcl : cl + 12000 ≤ 795604) (hsl : sl + 80000 ≤ 6705037) {u g t kd : Nat} {hv wv z : Int32} {v2 : FW} (hx : w.1 x = 5) (hz : z = 0 ∨ z = 1 ∧ 24 < kd ∧ kd < 30) (hkd : kd < 34) (hg : g < 2) (hR : 24 < kd → kd < 30 → hv < 0 ∨ hv = 0 ∧ 0 < r ∨ ¬ hv < 0 ∧ ¬ hv = 0 ∧ r = -76 ∧ gI w 411 x 0 = hv) (hW : 15 < kd → kd < 20 → wv < 0 ∨ F_L_halfOf x (nI t) (nI g) 7 w = some wv) (hwh : F_L_isWhole x w = some (1, v2)) (kk : ∀ h, gAt X (cl + 3471) (sl + 20858) 18 v2 h (smE cy y fs) [(4, .int (nI (6 * (n + 1)))), (15, .int r), (8, .int (nI nn)), (6, .long (sumA A)), (5, .int (nI n)), (3, .int (nI made)), (2, .ref y), (1, .ref x), (0, .ref sb)] [] 309) : gAt X (cl + 737) (sl + 4454) 18 w h (smE cy y fs) [(16, .int z), (15, .int r), (14, .int wv), (13, .int hv), (12, .int (nI u)), (11, .int (nI g)), (10, .int (nI t)), (9, .int (nI kd)), (8, .int (nI nn)), (6, .long (sumA A)), (5, .int (nI n)), (4, .int (nI (6 * n))), (3, .int (nI made)), (2, .ref y), (1, .ref x), (0, .ref sb)] [] 201 := by
  have K : ∀ h, gAt X (cl + 738) (sl + 4460) 18 w h (smE cy y fs) [(16, .int z), (15, .int r), (14, .int wv), (13, .int hv), (12, .int (nI u)), (11, .int (nI g)), (10, .int (nI t)), (9, .int (nI kd)), (8, .int (nI nn)), (6, .long (sumA A)), (5, .int (nI n)), (4, .int (nI (6 * n))), (3, .int (nI made)), (2, .ref y), (1, .ref x), (0, .ref sb)] [] 241 := by
    intro h
    refine g_iconst (v := 1) hC dL_law_241 (by decide) ?_
    refine g_goto hC 246 dL_law_242 (by decide) ?_
    refine g_istore (L' := [(17, .int 1), (16, .int z), (15, .int r), (14, .int wv), (13, .int hv), (12, .int (nI u)), (11, .int (nI g)), (10, .int (nI t)), (9, .int (nI kd)), (8, .int (nI nn)), (6, .long (sumA A)), (5, .int (nI n)), (4, .int (nI (6 * n))), (3, .int (nI made)), (2, .ref y), (1, .ref x), (0, .ref sb)]) hC dL_law_246 (by decide) rfl ?_
    exact law_b hC hL hcl hsl hkd hW hwh kk
  refine g_iload hC dL_law_201 0 rfl ?_
  rcases hz with hz | ⟨hz, k1, k2⟩
  · exact g_if_eq hC 241 dL_law_203 (by decide) (fun _ => g_widen (by omega) (by omega) (K _)) (fun h9 => absurd hz h9)
  · refine g_if_eq hC 241 dL_law_203 (by decide) (fun h9 => absurd (h9.symm.trans hz) (by decide)) (fun _ => ?_)
    refine g_iload hC dL_law_206 3 rfl ?_
    refine g_if_lt hC 241 dL_law_208 (by decide) (fun _ => g_widen (by omega) (by omega) (K _)) (fun h9 => ?_)
    refine g_iload hC dL_law_211 3 rfl ?_
    rcases (hR k1 k2).resolve_left h9 with ⟨a1, a2⟩ | ⟨a1, a2, a3, a4⟩
    · refine g_if_ne hC 224 dL_law_213 (by decide) (fun h8 => absurd a1 h8) (fun _ => ?_)
      refine g_iload hC dL_law_216 1 rfl ?_
      refine g_if_le hC 245 dL_law_218 (by decide) (fun h8 => absurd a2 (Int32.not_lt.mpr h8)) (fun _ => ?_)
      refine g_goto hC 241 dL_law_221 (by decide) ?_
      exact g_widen (by omega) (by omega) (K _)
    · refine g_if_ne hC 224 dL_law_213 (by decide) (fun _ => ?_) (fun h8 => absurd h8 a2)
      refine g_iload hC dL_law_224 1 rfl ?_
      refine g_bipush (v := (-76)) hC dL_law_226 (by decide) ?_
      refine g_icmp_ne hC 245 dL_law_228 (by decide) (fun h8 => absurd a3 h8) (fun _ => ?_)
      refine g_aload_n hC dL_law_231 rfl 14 rfl ?_
      refine g_iconst (v := 0) hC dL_law_232 (by decide) ?_
      have hf : F_L_refusal x 0 w = some hv := by
          rw [e_refusal hx, a4]
          unfold qRefusal
          rw [if_neg a2, if_pos rfl]
          rfl
      refine g_callLWk hC hL [.ref x, .int 0] (c_L_refusal l D cy x 0 w hv hf) (Or.inl rfl) (fun _ _ h => nomatch h) q_573 q_72 q_571 q_572 h9_L_refusal ⟨Nat.le_of_ble_eq_true rfl, Nat.le_of_ble_eq_true rfl⟩ 1 6 rfl rfl ⟨by show (cl + 737) + 1 ≤ 795604; omega, by show (sl + 4454) + 6 ≤ 6705037; omega⟩ (Nat.le_of_ble_eq_true rfl) rfl dL_law_233 (fun q1 _ _ => ?_)
      refine g_cs (cl + 738) (sl + 4460) (show (cl + 738) = (cl + 737) + 1 from by omega) (show (sl + 4460) = (sl + 4454) + 6 from by omega) ?_
      show gAt X (cl + 738) (sl + 4460) 18 w q1 (smE cy y fs) [(16, .int z), (15, .int r), (14, .int wv), (13, .int hv), (12, .int (nI u)), (11, .int (nI g)), (10, .int (nI t)), (9, .int (nI kd)), (8, .int (nI nn)), (6, .long (sumA A)), (5, .int (nI n)), (4, .int (nI (6 * n))), (3, .int (nI made)), (2, .ref y), (1, .ref x), (0, .ref sb)] [.int hv] 236
      refine g_iload hC dL_law_236 3 rfl ?_
      refine g_icmp_ne hC 245 dL_law_238 (by decide) (fun h8 => absurd rfl h8) (fun _ => ?_)
      exact K _
set_option maxHeartbeats 4000000 in
theorem law_0 (hC : fOK X cL_law 18 RL room_1 l D cy) (hL : lOK X gE0 (some (sb, Ln, xs))) (hcl : cl + 12000 ≤ 795604) (hsl : sl + 80000 ≤ 6705037) {u g t kd : Nat} {hv wv : Int32} {v2 : FW} (hx : w.1 x = 5) (hkd : kd < 34) (hg : g < 2) (hR : 24 < kd → kd < 30 → hv < 0 ∨ hv = 0 ∧ 0 < r ∨ ¬ hv < 0 ∧ ¬ hv = 0 ∧ r = -76 ∧ gI w 411 x 0 = hv) (hW : 15 < kd → kd < 20 → wv < 0 ∨ F_L_halfOf x (nI t) (nI g) 7 w = some wv) (hwh : F_L_isWhole x w = some (1, v2)) (kk : ∀ h, gAt X (cl + 3471) (sl + 20858) 18 v2 h (smE cy y fs) [(4, .int (nI (6 * (n + 1)))), (15, .int r), (8, .int (nI nn)), (6, .long (sumA A)), (5, .int (nI n)), (3, .int (nI made)), (2, .ref y), (1, .ref x), (0, .ref sb)] [] 309) : gAt X (cl + 737) (sl + 4454) 18 w h (smE cy y fs) [(15, .int r), (14, .int wv), (13, .int hv), (12, .int (nI u)), (11, .int (nI g)), (10, .int (nI t)), (9, .int (nI kd)), (8, .int (nI nn)), (6, .long (sumA A)), (5, .int (nI n)), (4, .int (nI (6 * n))), (3, .int (nI made)), (2, .ref y), (1, .ref x), (0, .ref sb)] [] 180 := by
  have K : ∀ (z : Int32), z = 0 ∨ z = 1 ∧ 24 < kd ∧ kd < 30 → gAt X (cl + 737) (sl + 4454) 18 w h (smE cy y fs) [(15, .int r), (14, .int wv), (13, .int hv), (12, .int (nI u)), (11, .int (nI g)), (10, .int (nI t)), (9, .int (nI kd)), (8, .int (nI nn)), (6, .long (sumA A)), (5, .int (nI n)), (4, .int (nI (6 * n))), (3, .int (nI made)), (2, .ref y), (1, .ref x), (0, .ref sb)] [.int z] 199 := by
    intro z hz
    refine g_istore (L' := [(16, .int z), (15, .int r), (14, .int wv), (13, .int hv), (12, .int (nI u)), (11, .int (nI g)), (10, .int (nI t)), (9, .int (nI kd)), (8, .int (nI nn)), (6, .long (sumA A)), (5, .int (nI n)), (4, .int (nI (6 * n))), (3, .int (nI made)), (2, .ref y), (1, .ref x), (0, .ref sb)]) hC dL_law_199 (by decide) rfl ?_
    exact law_a hC hL hcl hsl hx hz hkd hg hR hW hwh kk
  refine g_iload hC dL_law_180 6 rfl ?_
  refine g_bipush (v := (nI 24)) hC dL_law_182 (by decide) ?_
  by_cases ca : 24 < kd
  · refine g_icmp_le hC 198 dL_law_184 (by decide) (fun h9 => absurd h9 (nI_ge ca (by omega))) (fun _ => ?_)
    refine g_iload hC dL_law_187 6 rfl ?_
    refine g_bipush (v := (nI 30)) hC dL_law_189 (by decide) ?_
    by_cases cb : kd < 30
    · refine g_icmp_ge hC 198 dL_law_191 (by decide) (fun h9 => absurd h9 (nI_ge cb (by decide))) (fun _ => ?_)
      refine g_iconst (v := 1) hC dL_law_194 (by decide) ?_
      refine g_goto hC 199 dL_law_195 (by decide) ?_
      exact K 1 (Or.inr ⟨rfl, ca, cb⟩)
    · refine g_icmp_ge hC 198 dL_law_191 (by decide) (fun _ => ?_) (fun h9 => absurd (nI_le (by omega) (by omega)) h9)
      refine g_iconst (v := 0) hC dL_law_198 (by decide) ?_
      exact K 0 (Or.inl rfl)
  · refine g_icmp_le hC 198 dL_law_184 (by decide) (fun _ => ?_) (fun h9 => absurd (nI_le (by omega) (by decide)) h9)
    refine g_iconst (v := 0) hC dL_law_198 (by decide) ?_
    exact K 0 (Or.inl rfl)
set_option maxHeartbeats 4000000 in
theorem law_d (hC : fOK X cL_law 18 RL room_1 l D cy) (hL : lOK X gE0 (some (sb, Ln, xs))) (hcl : cl + 12000 ≤ 795604) (hsl : sl + 80000 ≤ 6705037) (C : CR w x A nn H sv S) (hI : IV (31 * n) A) (hy : DB (31 * n) A) (hS : SS fs made nn A H) (h8 : gI w 408 x 0 = 0) (hm : made ≤ n) (hn : n < 46) (hLn : Ln < 2 ^ 31) {u g t kd v : Nat} (hv : v < 1000) (hv9 : lpick xs Ln (nI (6 * n + 1)) (nI 1000) = nI v) (ht : t < 10) (hg : g < 2) (hu : 1 ≤ u ∧ u < 10) (hkd : kd < 34) (kk : ∀ (h2 : Nat) (w2 : FW) (made2 : Nat) (fs2 : Nat → Int64), LI x (n + 1) made2 w2 fs2 → gAt X (cl + 4180) (sl + 25110) 18 w2 h2 (smE cy y fs2) [(5, .int (nI (n + 1))), (4, .int (nI (6 * (n + 1)))), (3, .int (nI made2)), (2, .ref y), (1, .ref x), (0, .ref sb)] [] 28) : gAt X (cl + 709) (sl + 4254) 18 w h (smE cy y fs) [(12, .int (nI u)), (11, .int (nI g)), (10, .int (nI t)), (9, .int (nI kd)), (8, .int (nI nn)), (6, .long (sumA A)), (5, .int (nI n)), (4, .int (nI (6 * n))), (3, .int (nI made)), (2, .ref y), (1, .ref x), (0, .ref sb)] [] 141 := by
  refine g_aload_n hC dL_law_141 rfl 10 rfl ?_
  refine g_iload hC dL_law_142 2 rfl ?_
  refine g_iload hC dL_law_144 1 rfl ?_
  refine g_callLWk hC hL [.ref x, .int (nI t), .int (nI g)] (c_L_hinders l D cy x (nI t) (nI g) w _ (e_hinders C.X (nI t) hg (zz_n g hg))) (Or.inl rfl) (fun _ _ h => nomatch h) q_550 q_72 q_548 q_549 h9_L_hinders ⟨Nat.le_of_ble_eq_true rfl, Nat.le_of_ble_eq_true rfl⟩ 1 6 rfl rfl ⟨by show (cl + 709) + 1 ≤ 795604; omega, by show (sl + 4254) + 6 ≤ 6705037; omega⟩ (Nat.le_of_ble_eq_true rfl) rfl dL_law_146 (fun p1 _ _ => ?_)
  refine g_cs (cl + 710) (sl + 4260) (show (cl + 710) = (cl + 709) + 1 from by omega) (show (sl + 4260) = (sl + 4254) + 6 from by omega) ?_
  show gAt X (cl + 710) (sl + 4260) 18 w p1 (smE cy y fs) [(12, .int (nI u)), (11, .int (nI g)), (10, .int (nI t)), (9, .int (nI kd)), (8, .int (nI nn)), (6, .long (sumA A)), (5, .int (nI n)), (4, .int (nI (6 * n))), (3, .int (nI made)), (2, .ref y), (1, .ref x), (0, .ref sb)] [.int (lq (qHinders (nI t) g A))] 149
  refine g_istore (L' := [(13, .int (lq (qHinders (nI t) g A))), (12, .int (nI u)), (11, .int (nI g)), (10, .int (nI t)), (9, .int (nI kd)), (8, .int (nI nn)), (6, .long (sumA A)), (5, .int (nI n)), (4, .int (nI (6 * n))), (3, .int (nI made)), (2, .ref y), (1, .ref x), (0, .ref sb)]) hC dL_law_149 (by decide) rfl ?_
  refine g_aload_n hC dL_law_151 rfl 11 rfl ?_
  refine g_iload hC dL_law_152 3 rfl ?_
  refine g_iload hC dL_law_154 2 rfl ?_
  refine g_iload hC dL_law_156 1 rfl ?_
  refine g_callLWk hC hL [.ref x, .int (nI t), .int (nI g), .int (nI u)] (c_L_would l D cy x (nI t) (nI g) (nI u) w _ (e_would C.X (nI t) hg (zz_n g hg) (nI u))) (Or.inl rfl) (fun _ _ h => nomatch h) q_515 q_72 q_513 q_514 h9_L_would ⟨Nat.le_of_ble_eq_true rfl, Nat.le_of_ble_eq_true rfl⟩ 2 12 rfl rfl ⟨by show (cl + 710) + 2 ≤ 795604; omega, by show (sl + 4260) + 12 ≤ 6705037; omega⟩ (Nat.le_of_ble_eq_true rfl) rfl dL_law_158 (fun p2 _ _ => ?_)
  refine g_cs (cl + 712) (sl + 4272) (show (cl + 712) = (cl + 710) + 2 from by omega) (show (sl + 4272) = (sl + 4260) + 12 from by omega) ?_
  show gAt X (cl + 712) (sl + 4272) 18 w p2 (smE cy y fs) [(13, .int (lq (qHinders (nI t) g A))), (12, .int (nI u)), (11, .int (nI g)), (10, .int (nI t)), (9, .int (nI kd)), (8, .int (nI nn)), (6, .long (sumA A)), (5, .int (nI n)), (4, .int (nI (6 * n))), (3, .int (nI made)), (2, .ref y), (1, .ref x), (0, .ref sb)] [.int (lq (qWould (nI t) g (nI u) A))] 161
  refine g_istore (L' := [(14, .int (lq (qWould (nI t) g (nI u) A))), (13, .int (lq (qHinders (nI t) g A))), (12, .int (nI u)), (11, .int (nI g)), (10, .int (nI t)), (9, .int (nI kd)), (8, .int (nI nn)), (6, .long (sumA A)), (5, .int (nI n)), (4, .int (nI (6 * n))), (3, .int (nI made)), (2, .ref y), (1, .ref x), (0, .ref sb)]) hC dL_law_161 (by decide) rfl ?_
  refine g_aload_n hC dL_law_163 rfl 13 rfl ?_
  refine g_iload hC dL_law_164 9 rfl ?_
  refine g_iload hC dL_law_166 5 rfl ?_
  refine g_aload_n hC dL_law_168 rfl 12 rfl ?_
  refine g_iload hC dL_law_169 4 rfl ?_
  refine g_iload hC dL_law_171 3 rfl ?_
  refine g_iload hC dL_law_173 2 rfl ?_
  obtain ⟨r, w', hD, hDR, hRF, hWF⟩ := a_does C hI hy (by omega) h8 hv ht hg hu kd
  refine g_callLk hC hL [.ref sb, .int (nI (6 * n)), .int (nI kd), .ref x, .int (nI t), .int (nI g), .int (nI u)] (c_L_does l D cy sb Ln x (6 * n) kd t g u v xs w w' r hLn (by omega) hv9 hv ht hu.2 C.1.1 hg hkd hD) (Or.inr rfl) (fun _ _ h => nomatch h) q_630 q_72 q_628 q_629 h9_L_does ⟨Nat.le_of_ble_eq_true rfl, Nat.le_of_ble_eq_true rfl⟩ 25 182 rfl rfl ⟨by show (cl + 712) + 25 ≤ 795604; omega, by show (sl + 4272) + 182 ≤ 6705037; omega⟩ (Nat.le_of_ble_eq_true rfl) rfl dL_law_175 (fun p3 _ _ => ?_)
  refine g_cs (cl + 737) (sl + 4454) (show (cl + 737) = (cl + 712) + 25 from by omega) (show (sl + 4454) = (sl + 4272) + 182 from by omega) ?_
  show gAt X (cl + 737) (sl + 4454) 18 w' p3 (smE cy y fs) [(14, .int (lq (qWould (nI t) g (nI u) A))), (13, .int (lq (qHinders (nI t) g A))), (12, .int (nI u)), (11, .int (nI g)), (10, .int (nI t)), (9, .int (nI kd)), (8, .int (nI nn)), (6, .long (sumA A)), (5, .int (nI n)), (4, .int (nI (6 * n))), (3, .int (nI made)), (2, .ref y), (1, .ref x), (0, .ref sb)] [.int r] 178
  refine g_istore (L' := [(15, .int r), (14, .int (lq (qWould (nI t) g (nI u) A))), (13, .int (lq (qHinders (nI t) g A))), (12, .int (nI u)), (11, .int (nI g)), (10, .int (nI t)), (9, .int (nI kd)), (8, .int (nI nn)), (6, .long (sumA A)), (5, .int (nI n)), (4, .int (nI (6 * n))), (3, .int (nI made)), (2, .ref y), (1, .ref x), (0, .ref sb)]) hC dL_law_178 (by decide) rfl ?_
  obtain ⟨hDR1, h8w, hk1⟩ := hDR
  have hx' : w'.1 x = 5 := by rw [hk1]; exact C.1.1
  rcases hDR1 with ⟨hr, A2, C2, hI2, hy2⟩ | ⟨hr, C2⟩
  · have hI3 := iv_le hI2 (show 31 * n + 31 ≤ 31 * (n + 1) by omega)
    have hy3 := hy2.le (show 31 * n + 31 ≤ 31 * (n + 1) by omega)
    obtain ⟨z, e1, e2, C3, K3⟩ := l_isWhole C2 hI3 (by omega)
    obtain ⟨z1, v2⟩ := z
    have e2 : z1 = 1 := e2
    subst e2
    have h83 : gI v2 408 x 0 = 0 := (K3.1 408 (by decide)).trans h8w
    refine law_0 hC hL hcl hsl hx' hkd hg hRF hWF e1 (fun h3 => ?_)
    exact law_yes hC hL hcl hsl C C3 hI3 hy3 hS h83 hm hn hr kk
  · have hI3 := iv_le hI (show 31 * n ≤ 31 * (n + 1) by omega)
    have hy3 := hy.le (show 31 * n ≤ 31 * (n + 1) by omega)
    obtain ⟨z, e1, e2, C3, K3⟩ := l_isWhole C2 hI3 (by omega)
    obtain ⟨z1, v2⟩ := z
    have e2 : z1 = 1 := e2
    subst e2
    have h83 : gI v2 408 x 0 = 0 := (K3.1 408 (by decide)).trans h8w
    refine law_0 hC hL hcl hsl hx' hkd hg hRF hWF e1 (fun h3 => ?_)
    exact law_no hC hL hcl hsl C3 hI3 hy3 hS h83 hm hr kk
set_option maxHeartbeats 4000000 in
theorem law_e (hC : fOK X cL_law 18 RL room_1 l D cy) (hL : lOK X gE0 (some (sb, Ln, xs))) (hcl : cl + 12000 ≤ 795604) (hsl : sl + 80000 ≤ 6705037) (C : CR w x A nn H sv S) (hI : IV (31 * n) A) (hy : DB (31 * n) A) (hS : SS fs made nn A H) (h8 : gI w 408 x 0 = 0) (hm : made ≤ n) (hn : n < 46) (hLn : Ln < 2 ^ 31) {N c kd : Nat} (hN : N ≤ 8) (hc : c ≤ 1) (hNc : 1 ≤ N + c) (hkd : kd < 34) (kk : ∀ (h2 : Nat) (w2 : FW) (made2 : Nat) (fs2 : Nat → Int64), LI x (n + 1) made2 w2 fs2 → gAt X (cl + 4180) (sl + 25110) 18 w2 h2 (smE cy y fs2) [(5, .int (nI (n + 1))), (4, .int (nI (6 * (n + 1)))), (3, .int (nI made2)), (2, .ref y), (1, .ref x), (0, .ref sb)] [] 28) : gAt X (cl + 709) (sl + 4254) 18 w h (smE cy y fs) [(9, .int (nI kd)), (8, .int (nI nn)), (6, .long (sumA A)), (5, .int (nI n)), (4, .int (nI (6 * n))), (3, .int (nI made)), (2, .ref y), (1, .ref x), (0, .ref sb)] [.int (nI c), .int (nI N), .int (nI (6 * n + 2)), .ref sb] 102 := by
  refine g_iadd hC dL_law_102 ?_
  rw [nI_add]
  obtain ⟨t, ht, et⟩ := lpick_lt xs Ln (nI (6 * n + 2)) (m := N + c) (by omega) (by omega)
  refine g_callLk hC hL [.ref sb, .int (nI (6 * n + 2)), .int (nI (N + c))] (c_L_pick l D cy w sb Ln xs (nI (6 * n + 2)) (nI (N + c)) (nI_pos (by omega)) hLn (nI_ne0 (by omega) (by omega))) (Or.inr rfl) (fun _ _ h => nomatch h) q_308 q_72 q_306 q_307 h9_L_pick ⟨Nat.le_of_ble_eq_true rfl, Nat.le_of_ble_eq_true rfl⟩ 0 0 rfl rfl ⟨by show (cl + 709) + 0 ≤ 795604; omega, by show (sl + 4254) + 0 ≤ 6705037; omega⟩ (Nat.le_of_ble_eq_true rfl) rfl dL_law_103 (fun p1 _ _ => ?_)
  show gAt X (cl + 709) (sl + 4254) 18 w p1 (smE cy y fs) [(9, .int (nI kd)), (8, .int (nI nn)), (6, .long (sumA A)), (5, .int (nI n)), (4, .int (nI (6 * n))), (3, .int (nI made)), (2, .ref y), (1, .ref x), (0, .ref sb)] [.int (lpick xs Ln (nI (6 * n + 2)) (nI (N + c)))] 106
  rw [et]
  refine g_istore (L' := [(10, .int (nI t)), (9, .int (nI kd)), (8, .int (nI nn)), (6, .long (sumA A)), (5, .int (nI n)), (4, .int (nI (6 * n))), (3, .int (nI made)), (2, .ref y), (1, .ref x), (0, .ref sb)]) hC dL_law_106 (by decide) rfl ?_
  refine g_aload_n hC dL_law_108 rfl 9 rfl ?_
  refine g_iload hC dL_law_109 5 rfl ?_
  refine g_iconst (v := (nI 3)) hC dL_law_111 (by decide) ?_
  refine g_iadd hC dL_law_112 ?_
  rw [nI_add]
  refine g_iconst (v := (nI 2)) hC dL_law_113 (by decide) ?_
  obtain ⟨g, hg, eg9⟩ := lpick_lt xs Ln (nI (6 * n + 3)) (m := 2) (by decide) (by decide)
  refine g_callLk hC hL [.ref sb, .int (nI (6 * n + 3)), .int (nI 2)] (c_L_pick l D cy w sb Ln xs (nI (6 * n + 3)) (nI 2) (nI_pos (by omega)) hLn (by decide)) (Or.inr rfl) (fun _ _ h => nomatch h) q_308 q_72 q_306 q_307 h9_L_pick ⟨Nat.le_of_ble_eq_true rfl, Nat.le_of_ble_eq_true rfl⟩ 0 0 rfl rfl ⟨by show (cl + 709) + 0 ≤ 795604; omega, by show (sl + 4254) + 0 ≤ 6705037; omega⟩ (Nat.le_of_ble_eq_true rfl) rfl dL_law_114 (fun p2 _ _ => ?_)
  show gAt X (cl + 709) (sl + 4254) 18 w p2 (smE cy y fs) [(10, .int (nI t)), (9, .int (nI kd)), (8, .int (nI nn)), (6, .long (sumA A)), (5, .int (nI n)), (4, .int (nI (6 * n))), (3, .int (nI made)), (2, .ref y), (1, .ref x), (0, .ref sb)] [.int (lpick xs Ln (nI (6 * n + 3)) (nI 2))] 117
  rw [eg9]
  refine g_iconst (v := (nI 1)) hC dL_law_117 (by decide) ?_
  have K : gAt X (cl + 709) (sl + 4254) 18 w p2 (smE cy y fs) [(10, .int (nI t)), (9, .int (nI kd)), (8, .int (nI nn)), (6, .long (sumA A)), (5, .int (nI n)), (4, .int (nI (6 * n))), (3, .int (nI made)), (2, .ref y), (1, .ref x), (0, .ref sb)] [.int (nI g)] 126 := by
    refine g_istore (L' := [(11, .int (nI g)), (10, .int (nI t)), (9, .int (nI kd)), (8, .int (nI nn)), (6, .long (sumA A)), (5, .int (nI n)), (4, .int (nI (6 * n))), (3, .int (nI made)), (2, .ref y), (1, .ref x), (0, .ref sb)]) hC dL_law_126 (by decide) rfl ?_
    refine g_iconst (v := (nI 1)) hC dL_law_128 (by decide) ?_
    refine g_aload_n hC dL_law_129 rfl 10 rfl ?_
    refine g_iload hC dL_law_130 6 rfl ?_
    refine g_iconst (v := (nI 4)) hC dL_law_132 (by decide) ?_
    refine g_iadd hC dL_law_133 ?_
    rw [nI_add]
    refine g_iconst (v := (nI 4)) hC dL_law_134 (by decide) ?_
    obtain ⟨p4, hp4, ep4⟩ := lpick_lt xs Ln (nI (6 * n + 4)) (m := 4) (by decide) (by decide)
    refine g_callLk hC hL [.ref sb, .int (nI (6 * n + 4)), .int (nI 4)] (c_L_pick l D cy w sb Ln xs (nI (6 * n + 4)) (nI 4) (nI_pos (by omega)) hLn (by decide)) (Or.inr rfl) (fun _ _ h => nomatch h) q_308 q_72 q_306 q_307 h9_L_pick ⟨Nat.le_of_ble_eq_true rfl, Nat.le_of_ble_eq_true rfl⟩ 0 0 rfl rfl ⟨by show (cl + 709) + 0 ≤ 795604; omega, by show (sl + 4254) + 0 ≤ 6705037; omega⟩ (Nat.le_of_ble_eq_true rfl) rfl dL_law_135 (fun q1 _ _ => ?_)
    show gAt X (cl + 709) (sl + 4254) 18 w q1 (smE cy y fs) [(11, .int (nI g)), (10, .int (nI t)), (9, .int (nI kd)), (8, .int (nI nn)), (6, .long (sumA A)), (5, .int (nI n)), (4, .int (nI (6 * n))), (3, .int (nI made)), (2, .ref y), (1, .ref x), (0, .ref sb)] [.int (lpick xs Ln (nI (6 * n + 4)) (nI 4)), .int (nI 1)] 138
    rw [ep4]
    refine g_iadd hC dL_law_138 ?_
    rw [nI_add]
    refine g_istore (L' := [(12, .int (nI (1 + p4))), (11, .int (nI g)), (10, .int (nI t)), (9, .int (nI kd)), (8, .int (nI nn)), (6, .long (sumA A)), (5, .int (nI n)), (4, .int (nI (6 * n))), (3, .int (nI made)), (2, .ref y), (1, .ref x), (0, .ref sb)]) hC dL_law_139 (by decide) rfl ?_
    obtain ⟨v, hv, ev⟩ := lpick_lt xs Ln (nI (6 * n + 1)) (m := 1000) (by decide) (by decide)
    exact law_d hC hL hcl hsl C hI hy hS h8 hm hn hLn hv ev (by omega) hg ⟨by omega, by omega⟩ hkd kk
  rcases (show g = 0 ∨ g = 1 by omega) with hg9 | hg9
  · refine g_icmp_ne hC 125 dL_law_118 (by decide) (fun _ => ?_) (fun h9 => absurd ((nI_eq (by omega) (by decide)).mp h9) (by omega))
    refine g_iconst (v := (nI g)) hC dL_law_125 (by rw [hg9]; decide) ?_
    exact K
  · refine g_icmp_ne hC 125 dL_law_118 (by decide) (fun h9 => absurd (by rw [hg9]) h9) (fun _ => ?_)
    refine g_iconst (v := (nI g)) hC dL_law_121 (by rw [hg9]; decide) ?_
    refine g_goto hC 126 dL_law_122 (by decide) ?_
    exact K
set_option maxHeartbeats 4000000 in
theorem law_f (hC : fOK X cL_law 18 RL room_1 l D cy) (hL : lOK X gE0 (some (sb, Ln, xs))) (hcl : cl + 12000 ≤ 795604) (hsl : sl + 80000 ≤ 6705037) (C : CR w x A nn H sv S) (hI : IV (31 * n) A) (hy : DB (31 * n) A) (hS : SS fs made nn A H) (h8 : gI w 408 x 0 = 0) (hm : made ≤ n) (hn : n < 46) (hLn : Ln < 2 ^ 31) {kd : Nat} (hkd : kd < 34) (kk : ∀ (h2 : Nat) (w2 : FW) (made2 : Nat) (fs2 : Nat → Int64), LI x (n + 1) made2 w2 fs2 → gAt X (cl + 4180) (sl + 25110) 18 w2 h2 (smE cy y fs2) [(5, .int (nI (n + 1))), (4, .int (nI (6 * (n + 1)))), (3, .int (nI made2)), (2, .ref y), (1, .ref x), (0, .ref sb)] [] 28) : gAt X (cl + 707) (sl + 4242) 18 w h (smE cy y fs) [(8, .int (nI nn)), (6, .long (sumA A)), (5, .int (nI n)), (4, .int (nI (6 * n))), (3, .int (nI made)), (2, .ref y), (1, .ref x), (0, .ref sb)] [.int (nI kd)] 67 := by
  obtain ⟨N, hN, eN, -⟩ := C.2.2.1.1
  refine g_istore (L' := [(9, .int (nI kd)), (8, .int (nI nn)), (6, .long (sumA A)), (5, .int (nI n)), (4, .int (nI (6 * n))), (3, .int (nI made)), (2, .ref y), (1, .ref x), (0, .ref sb)]) hC dL_law_67 (by decide) rfl ?_
  refine g_aload_n hC dL_law_69 rfl 8 rfl ?_
  refine g_iload hC dL_law_70 4 rfl ?_
  refine g_iconst (v := (nI 2)) hC dL_law_72 (by decide) ?_
  refine g_iadd hC dL_law_73 ?_
  rw [nI_add]
  refine g_aload_n hC dL_law_74 rfl 7 rfl ?_
  refine g_iconst (v := 0) hC dL_law_75 (by decide) ?_
  refine g_callLWk hC hL [.ref x, .int 0] (c_L_account l D cy x 0 w (nI N) ((e_a0 C.X).trans (congrArg some eN))) (Or.inl rfl) (fun _ _ h => nomatch h) q_597 q_72 q_595 q_596 h9_L_account ⟨Nat.le_of_ble_eq_true rfl, Nat.le_of_ble_eq_true rfl⟩ 1 6 rfl rfl ⟨by show (cl + 707) + 1 ≤ 795604; omega, by show (sl + 4242) + 6 ≤ 6705037; omega⟩ (Nat.le_of_ble_eq_true rfl) rfl dL_law_76 (fun p1 _ _ => ?_)
  refine g_cs (cl + 708) (sl + 4248) (show (cl + 708) = (cl + 707) + 1 from by omega) (show (sl + 4248) = (sl + 4242) + 6 from by omega) ?_
  show gAt X (cl + 708) (sl + 4248) 18 w p1 (smE cy y fs) [(9, .int (nI kd)), (8, .int (nI nn)), (6, .long (sumA A)), (5, .int (nI n)), (4, .int (nI (6 * n))), (3, .int (nI made)), (2, .ref y), (1, .ref x), (0, .ref sb)] [.int (nI N), .int (nI (6 * n + 2)), .ref sb] 79
  refine g_iload hC dL_law_79 3 rfl ?_
  refine g_bipush (v := (nI 9)) hC dL_law_81 (by decide) ?_
  refine g_irem hC dL_law_83 (by decide) ?_
  rw [frem_n (a := n) (d := 9) (by omega) (by decide) (by decide)]
  refine g_bipush (v := (nI 8)) hC dL_law_84 (by decide) ?_
  by_cases c9 : n % 9 = 8
  · refine g_icmp_eq hC 97 dL_law_86 (by decide) (fun _ => ?_) (fun h9 => absurd (by rw [c9]) h9)
    refine g_iconst (v := (nI 1)) hC dL_law_97 (by decide) ?_
    refine g_goto hC 102 dL_law_98 (by decide) ?_
    exact g_widen (by omega) (by omega) (law_e hC hL hcl hsl C hI hy hS h8 hm hn hLn hN (by decide) (by omega) hkd kk)
  · refine g_icmp_eq hC 97 dL_law_86 (by decide) (fun h9 => absurd ((nI_eq (by omega) (by decide)).mp h9) c9) (fun _ => ?_)
    refine g_aload_n hC dL_law_89 rfl 7 rfl ?_
    refine g_iconst (v := 0) hC dL_law_90 (by decide) ?_
    refine g_callLWk hC hL [.ref x, .int 0] (c_L_account l D cy x 0 w (nI N) ((e_a0 C.X).trans (congrArg some eN))) (Or.inl rfl) (fun _ _ h => nomatch h) q_597 q_72 q_595 q_596 h9_L_account ⟨Nat.le_of_ble_eq_true rfl, Nat.le_of_ble_eq_true rfl⟩ 1 6 rfl rfl ⟨by show (cl + 708) + 1 ≤ 795604; omega, by show (sl + 4248) + 6 ≤ 6705037; omega⟩ (Nat.le_of_ble_eq_true rfl) rfl dL_law_91 (fun q1 _ _ => ?_)
    refine g_cs (cl + 709) (sl + 4254) (show (cl + 709) = (cl + 708) + 1 from by omega) (show (sl + 4254) = (sl + 4248) + 6 from by omega) ?_
    show gAt X (cl + 709) (sl + 4254) 18 w q1 (smE cy y fs) [(9, .int (nI kd)), (8, .int (nI nn)), (6, .long (sumA A)), (5, .int (nI n)), (4, .int (nI (6 * n))), (3, .int (nI made)), (2, .ref y), (1, .ref x), (0, .ref sb)] [.int (nI N), .int (nI N), .int (nI (6 * n + 2)), .ref sb] 94
    by_cases c0 : N = 0
    · refine g_if_ne hC 101 dL_law_94 (by decide) (fun h9 => absurd (by rw [c0]; exact nI_0) h9) (fun _ => ?_)
      refine g_iconst (v := (nI 1)) hC dL_law_97 (by decide) ?_
      refine g_goto hC 102 dL_law_98 (by decide) ?_
      exact law_e hC hL hcl hsl C hI hy hS h8 hm hn hLn hN (by decide) (by omega) hkd kk
    · refine g_if_ne hC 101 dL_law_94 (by decide) (fun _ => ?_) (fun h9 => absurd h9 (nI_ne0 (by omega) (by omega)))
      refine g_iconst (v := (nI 0)) hC dL_law_101 (by decide) ?_
      exact law_e hC hL hcl hsl C hI hy hS h8 hm hn hLn hN (by decide) (by omega) hkd kk
set_option maxHeartbeats 4000000 in
theorem law_g (hC : fOK X cL_law 18 RL room_1 l D cy) (hL : lOK X gE0 (some (sb, Ln, xs))) (hcl : cl + 12000 ≤ 795604) (hsl : sl + 80000 ≤ 6705037) (C : CR w x A nn H sv S) (hI : IV (31 * n) A) (hy : DB (31 * n) A) (hS : SS fs made nn A H) (h8 : gI w 408 x 0 = 0) (hm : made ≤ n) (hn : n < 46) (hLn : Ln < 2 ^ 31) (kk : ∀ (h2 : Nat) (w2 : FW) (made2 : Nat) (fs2 : Nat → Int64), LI x (n + 1) made2 w2 fs2 → gAt X (cl + 4180) (sl + 25110) 18 w2 h2 (smE cy y fs2) [(5, .int (nI (n + 1))), (4, .int (nI (6 * (n + 1)))), (3, .int (nI made2)), (2, .ref y), (1, .ref x), (0, .ref sb)] [] 28) : gAt X cl sl 18 w h (smE cy y fs) [(5, .int (nI n)), (4, .int (nI (6 * n))), (3, .int (nI made)), (2, .ref y), (1, .ref x), (0, .ref sb)] [] 35 := by
  refine g_aload_n hC dL_law_35 rfl 4 rfl ?_
  refine g_callLk hC hL [.ref x] (c_L_sum l D cy x w (sumA A) (e_sum C.X C.2.2.1)) (Or.inl rfl) (fun _ _ h => nomatch h) q_1187 q_72 q_1185 q_1186 h9_L_sum ⟨Nat.le_of_ble_eq_true rfl, Nat.le_of_ble_eq_true rfl⟩ 706 4236 rfl rfl ⟨by show cl + 706 ≤ 795604; omega, by show sl + 4236 ≤ 6705037; omega⟩ (Nat.le_of_ble_eq_true rfl) rfl dL_law_36 (fun p1 _ _ => ?_)
  refine g_cs (cl + 706) (sl + 4236) (show (cl + 706) = cl + 706 from by omega) (show (sl + 4236) = sl + 4236 from by omega) ?_
  show gAt X (cl + 706) (sl + 4236) 18 w p1 (smE cy y fs) [(5, .int (nI n)), (4, .int (nI (6 * n))), (3, .int (nI made)), (2, .ref y), (1, .ref x), (0, .ref sb)] [.long (sumA A)] 39
  refine g_lstore (L' := [(6, .long (sumA A)), (5, .int (nI n)), (4, .int (nI (6 * n))), (3, .int (nI made)), (2, .ref y), (1, .ref x), (0, .ref sb)]) hC dL_law_39 (by decide) rfl ?_
  refine g_aload_n hC dL_law_41 rfl 5 rfl ?_
  refine g_bipush (v := 13) hC dL_law_42 (by decide) ?_
  refine g_callLWk hC hL [.ref x, .int 13] (c_L_account l D cy x 13 w (nI nn) ((e_a13 C.X).trans (congrArg some C.2.2.2.1))) (Or.inl rfl) (fun _ _ h => nomatch h) q_597 q_72 q_595 q_596 h9_L_account ⟨Nat.le_of_ble_eq_true rfl, Nat.le_of_ble_eq_true rfl⟩ 1 6 rfl rfl ⟨by show (cl + 706) + 1 ≤ 795604; omega, by show (sl + 4236) + 6 ≤ 6705037; omega⟩ (Nat.le_of_ble_eq_true rfl) rfl dL_law_44 (fun p2 _ _ => ?_)
  refine g_cs (cl + 707) (sl + 4242) (show (cl + 707) = (cl + 706) + 1 from by omega) (show (sl + 4242) = (sl + 4236) + 6 from by omega) ?_
  show gAt X (cl + 707) (sl + 4242) 18 w p2 (smE cy y fs) [(6, .long (sumA A)), (5, .int (nI n)), (4, .int (nI (6 * n))), (3, .int (nI made)), (2, .ref y), (1, .ref x), (0, .ref sb)] [.int (nI nn)] 47
  refine g_istore (L' := [(8, .int (nI nn)), (6, .long (sumA A)), (5, .int (nI n)), (4, .int (nI (6 * n))), (3, .int (nI made)), (2, .ref y), (1, .ref x), (0, .ref sb)]) hC dL_law_47 (by decide) rfl ?_
  refine g_iload hC dL_law_49 2 rfl ?_
  refine g_iconst (v := (nI 2)) hC dL_law_51 (by decide) ?_
  by_cases c2 : n < 2
  · refine g_icmp_ge hC 59 dL_law_52 (by decide) (fun h9 => absurd h9 (nI_ge c2 (by decide))) (fun _ => ?_)
    refine g_iconst (v := (nI 0)) hC dL_law_55 (by decide) ?_
    refine g_goto hC 67 dL_law_56 (by decide) ?_
    exact law_f hC hL hcl hsl C hI hy hS h8 hm hn hLn (by decide) kk
  · refine g_icmp_ge hC 59 dL_law_52 (by decide) (fun _ => ?_) (fun h9 => absurd (nI_le (by omega) (by omega)) h9)
    refine g_aload_n hC dL_law_59 rfl 7 rfl ?_
    refine g_iload hC dL_law_60 3 rfl ?_
    refine g_bipush (v := (nI 34)) hC dL_law_62 (by decide) ?_
    obtain ⟨kd, hkd, ek⟩ := lpick_lt xs Ln (nI (6 * n)) (m := 34) (by decide) (by decide)
    refine g_callLk hC hL [.ref sb, .int (nI (6 * n)), .int (nI 34)] (c_L_pick l D cy w sb Ln xs (nI (6 * n)) (nI 34) (nI_pos (by omega)) hLn (by decide)) (Or.inr rfl) (fun _ _ h => nomatch h) q_308 q_72 q_306 q_307 h9_L_pick ⟨Nat.le_of_ble_eq_true rfl, Nat.le_of_ble_eq_true rfl⟩ 0 0 rfl rfl ⟨by show (cl + 707) + 0 ≤ 795604; omega, by show (sl + 4242) + 0 ≤ 6705037; omega⟩ (Nat.le_of_ble_eq_true rfl) rfl dL_law_64 (fun q1 _ _ => ?_)
    show gAt X (cl + 707) (sl + 4242) 18 w q1 (smE cy y fs) [(8, .int (nI nn)), (6, .long (sumA A)), (5, .int (nI n)), (4, .int (nI (6 * n))), (3, .int (nI made)), (2, .ref y), (1, .ref x), (0, .ref sb)] [.int (lpick xs Ln (nI (6 * n)) (nI 34))] 67
    rw [ek]
    exact law_f hC hL hcl hsl C hI hy hS h8 hm hn hLn hkd kk
end LAW
