theorem q_1070 : Cond.codeWith yL_letter cL_letter 3 (some .int) [(0, 5, 6, 20), (0, 5, 10, 22)] ∈ lwA := mA 1070 (by decide +kernel) rfl
theorem q_1068 : Cond.methodLink RL 252 yL_letter ∈ lwA := mA 1068 (by decide +kernel) rfl
theorem q_1069 : Cond.static yL_letter ∈ lwA := mA 1069 (by decide +kernel) rfl
theorem q_1088 : Cond.codeWith yL_unletter cL_unletter 2 (some .int) [(0, 4, 5, 22)] ∈ lwA := mA 1088 (by decide +kernel) rfl
theorem q_1086 : Cond.methodLink RL 255 yL_unletter ∈ lwA := mA 1086 (by decide +kernel) rfl
theorem q_1087 : Cond.static yL_unletter ∈ lwA := mA 1087 (by decide +kernel) rfl
theorem q_1099 : Cond.codeWith yL_print cL_print 5 (some .int) [(0, 7, 8, 32), (0, 7, 13, 20), (0, 7, 18, 22)] ∈ lwA := mA 1099 (by decide +kernel) rfl
theorem q_1097 : Cond.methodLink RL 257 yL_print ∈ lwA := mA 1097 (by decide +kernel) rfl
theorem q_1098 : Cond.static yL_print ∈ lwA := mA 1098 (by decide +kernel) rfl
theorem q_1106 : Cond.codeWith yL_mood cL_mood 4 (some .int) [(0, 6, 7, 32), (0, 6, 11, 20), (0, 6, 15, 22)] ∈ lwA := mA 1106 (by decide +kernel) rfl
theorem q_1104 : Cond.methodLink RL 260 yL_mood ∈ lwA := mA 1104 (by decide +kernel) rfl
theorem q_1105 : Cond.static yL_mood ∈ lwA := mA 1105 (by decide +kernel) rfl
theorem q_1118 : Cond.codeWith yL_pier cL_pier 4 (some .int) [(0, 6, 7, 32), (0, 6, 11, 22)] ∈ lwA := mA 1118 (by decide +kernel) rfl
theorem q_1116 : Cond.methodLink RL 263 yL_pier ∈ lwA := mA 1116 (by decide +kernel) rfl
theorem q_1117 : Cond.static yL_pier ∈ lwA := mA 1117 (by decide +kernel) rfl
theorem q_1126 : Cond.code yX4_day cX4_day 1 (some .int) ∈ lwA := mA 1126 (by decide +kernel) rfl
theorem q_1123 : Cond.methodLink RL 265 yX4_day ∈ lwA := mA 1123 (by decide +kernel) rfl
theorem q_1124 : Cond.instanceMethod yX4_day ∈ lwA := mA 1124 (by decide +kernel) rfl
theorem q_1125 : Cond.selects yX4_day.cls yX4_day yX4_day ∈ lwA := mA 1125 (by decide +kernel) rfl
theorem q_1129 : Cond.codeWith yL_punch cL_punch 5 (some .int) [(0, 7, 8, 32), (0, 7, 13, 22)] ∈ lwA := mA 1129 (by decide +kernel) rfl
theorem q_1127 : Cond.methodLink RL 268 yL_punch ∈ lwA := mA 1127 (by decide +kernel) rfl
theorem q_1128 : Cond.static yL_punch ∈ lwA := mA 1128 (by decide +kernel) rfl
theorem q_1136 : Cond.codeWith yL_wet cL_wet 5 (some .int) [(0, 7, 8, 32), (0, 7, 13, 20)] ∈ lwA := mA 1136 (by decide +kernel) rfl
theorem q_1134 : Cond.methodLink RL 270 yL_wet ∈ lwA := mA 1134 (by decide +kernel) rfl
theorem q_1135 : Cond.static yL_wet ∈ lwA := mA 1135 (by decide +kernel) rfl
theorem q_1143 : Cond.codeWith yL_tear cL_tear 3 (some .int) [(0, 5, 6, 32), (0, 5, 10, 22)] ∈ lwA := mA 1143 (by decide +kernel) rfl
theorem q_1141 : Cond.methodLink RL 272 yL_tear ∈ lwA := mA 1141 (by decide +kernel) rfl
theorem q_1142 : Cond.static yL_tear ∈ lwA := mA 1142 (by decide +kernel) rfl
theorem q_1150 : Cond.codeWith yL_lose cL_lose 4 (some .int) [(0, 6, 7, 32), (0, 6, 11, 22)] ∈ lwA := mA 1150 (by decide +kernel) rfl
theorem q_1148 : Cond.methodLink RL 274 yL_lose ∈ lwA := mA 1148 (by decide +kernel) rfl
theorem q_1149 : Cond.static yL_lose ∈ lwA := mA 1149 (by decide +kernel) rfl
theorem q_1157 : Cond.codeWith yL_find cL_find 4 (some .int) [(0, 6, 7, 32), (0, 6, 11, 22)] ∈ lwA := mA 1157 (by decide +kernel) rfl
theorem q_1155 : Cond.methodLink RL 276 yL_find ∈ lwA := mA 1155 (by decide +kernel) rfl
theorem q_1156 : Cond.static yL_find ∈ lwA := mA 1156 (by decide +kernel) rfl
theorem q_1164 : Cond.codeWith yL_throwAway cL_throwAway 3 (some .int) [(0, 5, 6, 32)] ∈ lwA := mA 1164 (by decide +kernel) rfl
theorem q_1162 : Cond.methodLink RL 278 yL_throwAway ∈ lwA := mA 1162 (by decide +kernel) rfl
theorem q_1163 : Cond.static yL_throwAway ∈ lwA := mA 1163 (by decide +kernel) rfl
theorem q_1171 : Cond.codeWith yL_ride cL_ride 4 (some .int) [(0, 6, 7, 32), (0, 6, 11, 22)] ∈ lwA := mA 1171 (by decide +kernel) rfl
theorem q_1169 : Cond.methodLink RL 280 yL_ride ∈ lwA := mA 1169 (by decide +kernel) rfl
theorem q_1170 : Cond.static yL_ride ∈ lwA := mA 1170 (by decide +kernel) rfl
theorem q_308 : Cond.code yL_pick cL_pick 3 (some .int) ∈ lwA := mA 308 (by decide +kernel) rfl
theorem q_306 : Cond.methodLink RL 191 yL_pick ∈ lwA := mA 306 (by decide +kernel) rfl
theorem q_307 : Cond.static yL_pick ∈ lwA := mA 307 (by decide +kernel) rfl
theorem q_631 : Cond.classLink RL 160 "java/lang/String" ∈ lwA := mA 631 (by decide +kernel) rfl
theorem q_632 : Cond.arrayOver (.object "java/lang/String") ∈ lwN := mN 632 (by decide +kernel) rfl
theorem h9_L_pick : yL_pick.cls ≠ "java/lang/invoke/MethodHandle" ∧ yL_pick.cls ≠ "java/lang/invoke/VarHandle" ∧ (parseMethodDescriptor yL_pick.desc).map (fun d => d.parameters.length) = some 3 := by decide +kernel
section DOF
variable {X : FX} {l : Launch} {D : va_G} {cy : Nat → ClassId} {sa n x ii kd t g u v h0 h1 : Nat} {f : Nat → Int32} {w w' : FW} {r : Int32}
set_option maxHeartbeats 4000000 in
theorem do_letter (hC : fOK X cL_does 9 RL rmD l D cy) (hL : lOK X gE0 (some (sa, n, f))) (hEn : fEnd X (some .int) (some (.int r)) w w' 25 182) (hv : v < 1000) (hF : F_L_letter x (fch (97 + nI (v % 21))) w = some (r, w')) : gAt X 1 6 9 w h1 (gUp gE0 h0 (some (wdA D cy 6))) [(8, .ref h0), (7, .int (nI v)), (0, .ref sa), (1, .int (nI ii)), (2, .int (nI kd)), (3, .ref x), (4, .int (nI t)), (5, .int (nI g)), (6, .int (nI u))] [] 255 := by
  refine g_aload_n hC dL_does_255 rfl 5 rfl ?_
  refine g_bipush (v := 97) hC dL_does_256 (by decide) ?_
  refine g_iload hC dL_does_258 1 rfl ?_
  refine g_bipush (v := (nI 21)) hC dL_does_260 (by decide) ?_
  refine g_irem hC dL_does_262 (by decide) ?_
  rw [frem_n (a := v) (d := 21) (by omega) (by decide) (by decide)]
  refine g_iadd hC dL_does_263 ?_
  refine g_i2c hC dL_does_264 ?_
  refine g_callLWk hC hL [.ref x, .int (fch (97 + nI (v % 21)))] (c_L_letter l D cy x (fch (97 + nI (v % 21))) w (r, w') hF) (Or.inl rfl) (fun _ _ h => nomatch h) q_1070 q_72 q_1068 q_1069 h9_L_letter ⟨Nat.le_of_ble_eq_true rfl, Nat.le_of_ble_eq_true rfl⟩ 1 6 rfl rfl ⟨Nat.le_of_ble_eq_true rfl, Nat.le_of_ble_eq_true rfl⟩ (Nat.le_of_ble_eq_true rfl) rfl dL_does_265 (fun h4 _ hs => ?_)
  show gAt X 2 12 9 w' h4 (gUp gE0 h0 (some (wdA D cy 6))) [(8, .ref h0), (7, .int (nI v)), (0, .ref sa), (1, .int (nI ii)), (2, .int (nI kd)), (3, .ref x), (4, .int (nI t)), (5, .int (nI g)), (6, .int (nI u))] [.int r] 268
  refine g_widen (k' := 25) (s' := 182) (by omega) (by omega) ?_
  exact g_iret hC hEn hs dL_does_268
set_option maxHeartbeats 4000000 in
theorem do_unl (hC : fOK X cL_does 9 RL rmD l D cy) (hL : lOK X gE0 (some (sa, n, f))) (hEn : fEnd X (some .int) (some (.int r)) w w' 25 182) (hv : v < 1000) (hv3 : v % 3 = 0) (hF : F_L_unletter x w = some (r, w')) : gAt X 1 6 9 w h1 (gUp gE0 h0 (some (wdA D cy 6))) [(8, .ref h0), (7, .int (nI v)), (0, .ref sa), (1, .int (nI ii)), (2, .int (nI kd)), (3, .ref x), (4, .int (nI t)), (5, .int (nI g)), (6, .int (nI u))] [] 269 := by
  refine g_iload hC dL_does_269 1 rfl ?_
  refine g_iconst (v := (nI 3)) hC dL_does_271 (by decide) ?_
  refine g_irem hC dL_does_272 (by decide) ?_
  rw [frem_n (a := v) (d := 3) (by omega) (by decide) (by decide)]
  rw [hv3]
  refine g_if_ne hC 283 dL_does_273 (by decide) (fun h9 => absurd nI_0 h9) (fun _ => ?_)
  refine g_aload_n hC dL_does_276 rfl 5 rfl ?_
  refine g_callLWk hC hL [.ref x] (c_L_unletter l D cy x w (r, w') hF) (Or.inl rfl) (fun _ _ h => nomatch h) q_1088 q_72 q_1086 q_1087 h9_L_unletter ⟨Nat.le_of_ble_eq_true rfl, Nat.le_of_ble_eq_true rfl⟩ 1 6 rfl rfl ⟨Nat.le_of_ble_eq_true rfl, Nat.le_of_ble_eq_true rfl⟩ (Nat.le_of_ble_eq_true rfl) rfl dL_does_277 (fun h4 _ hs => ?_)
  show gAt X 2 12 9 w' h4 (gUp gE0 h0 (some (wdA D cy 6))) [(8, .ref h0), (7, .int (nI v)), (0, .ref sa), (1, .int (nI ii)), (2, .int (nI kd)), (3, .ref x), (4, .int (nI t)), (5, .int (nI g)), (6, .int (nI u))] [.int r] 280
  refine g_goto hC 301 dL_does_280 (by decide) ?_
  refine g_widen (k' := 25) (s' := 182) (by omega) (by omega) ?_
  exact g_iret hC hEn hs dL_does_301
set_option maxHeartbeats 4000000 in
theorem do_print (hC : fOK X cL_does 9 RL rmD l D cy) (hL : lOK X gE0 (some (sa, n, f))) (hEn : fEnd X (some .int) (some (.int r)) w w' 25 182) (hv : v < 1000) (hv3 : ¬ v % 3 = 0) (hF : F_L_print x (nI (v % 5)) (nI (v / 5 % 5)) (nI (v % 4)) w = some (r, w')) : gAt X 1 6 9 w h1 (gUp gE0 h0 (some (wdA D cy 6))) [(8, .ref h0), (7, .int (nI v)), (0, .ref sa), (1, .int (nI ii)), (2, .int (nI kd)), (3, .ref x), (4, .int (nI t)), (5, .int (nI g)), (6, .int (nI u))] [] 269 := by
  refine g_iload hC dL_does_269 1 rfl ?_
  refine g_iconst (v := (nI 3)) hC dL_does_271 (by decide) ?_
  refine g_irem hC dL_does_272 (by decide) ?_
  rw [frem_n (a := v) (d := 3) (by omega) (by decide) (by decide)]
  refine g_if_ne hC 283 dL_does_273 (by decide) (fun _ => ?_) (fun h9 => absurd h9 (nI_ne0 (by omega) (by omega)))
  refine g_aload_n hC dL_does_283 rfl 5 rfl ?_
  refine g_iload hC dL_does_284 1 rfl ?_
  refine g_iconst (v := (nI 5)) hC dL_does_286 (by decide) ?_
  refine g_irem hC dL_does_287 (by decide) ?_
  rw [frem_n (a := v) (d := 5) (by omega) (by decide) (by decide)]
  refine g_iload hC dL_does_288 1 rfl ?_
  refine g_iconst (v := (nI 5)) hC dL_does_290 (by decide) ?_
  refine g_idiv hC dL_does_291 (by decide) ?_
  rw [pk_div (a := v) (d := 5) (by omega) (by decide) (by decide)]
  refine g_iconst (v := (nI 5)) hC dL_does_292 (by decide) ?_
  refine g_irem hC dL_does_293 (by decide) ?_
  rw [frem_n (a := (v / 5)) (d := 5) (by omega) (by decide) (by decide)]
  refine g_iload hC dL_does_294 1 rfl ?_
  refine g_iconst (v := (nI 4)) hC dL_does_296 (by decide) ?_
  refine g_irem hC dL_does_297 (by decide) ?_
  rw [frem_n (a := v) (d := 4) (by omega) (by decide) (by decide)]
  refine g_callLWk hC hL [.ref x, .int (nI (v % 5)), .int (nI ((v / 5) % 5)), .int (nI (v % 4))] (c_L_print l D cy x (nI (v % 5)) (nI (v / 5 % 5)) (nI (v % 4)) w (r, w') hF) (Or.inl rfl) (fun _ _ h => nomatch h) q_1099 q_72 q_1097 q_1098 h9_L_print ⟨Nat.le_of_ble_eq_true rfl, Nat.le_of_ble_eq_true rfl⟩ 1 6 rfl rfl ⟨Nat.le_of_ble_eq_true rfl, Nat.le_of_ble_eq_true rfl⟩ (Nat.le_of_ble_eq_true rfl) rfl dL_does_298 (fun h4 _ hs => ?_)
  show gAt X 2 12 9 w' h4 (gUp gE0 h0 (some (wdA D cy 6))) [(8, .ref h0), (7, .int (nI v)), (0, .ref sa), (1, .int (nI ii)), (2, .int (nI kd)), (3, .ref x), (4, .int (nI t)), (5, .int (nI g)), (6, .int (nI u))] [.int r] 301
  refine g_widen (k' := 25) (s' := 182) (by omega) (by omega) ?_
  exact g_iret hC hEn hs dL_does_301
set_option maxHeartbeats 4000000 in
theorem do_mood (hC : fOK X cL_does 9 RL rmD l D cy) (hL : lOK X gE0 (some (sa, n, f))) (hEn : fEnd X (some .int) (some (.int r)) w w' 25 182) (hv : v < 1000) (hF : F_L_mood x (nI (v % 3)) (nI (v % 6)) w = some (r, w')) : gAt X 1 6 9 w h1 (gUp gE0 h0 (some (wdA D cy 6))) [(8, .ref h0), (7, .int (nI v)), (0, .ref sa), (1, .int (nI ii)), (2, .int (nI kd)), (3, .ref x), (4, .int (nI t)), (5, .int (nI g)), (6, .int (nI u))] [] 302 := by
  refine g_aload_n hC dL_does_302 rfl 5 rfl ?_
  refine g_iload hC dL_does_303 1 rfl ?_
  refine g_iconst (v := (nI 3)) hC dL_does_305 (by decide) ?_
  refine g_irem hC dL_does_306 (by decide) ?_
  rw [frem_n (a := v) (d := 3) (by omega) (by decide) (by decide)]
  refine g_iload hC dL_does_307 1 rfl ?_
  refine g_bipush (v := (nI 6)) hC dL_does_309 (by decide) ?_
  refine g_irem hC dL_does_311 (by decide) ?_
  rw [frem_n (a := v) (d := 6) (by omega) (by decide) (by decide)]
  refine g_callLWk hC hL [.ref x, .int (nI (v % 3)), .int (nI (v % 6))] (c_L_mood l D cy x (nI (v % 3)) (nI (v % 6)) w (r, w') hF) (Or.inl rfl) (fun _ _ h => nomatch h) q_1106 q_72 q_1104 q_1105 h9_L_mood ⟨Nat.le_of_ble_eq_true rfl, Nat.le_of_ble_eq_true rfl⟩ 1 6 rfl rfl ⟨Nat.le_of_ble_eq_true rfl, Nat.le_of_ble_eq_true rfl⟩ (Nat.le_of_ble_eq_true rfl) rfl dL_does_312 (fun h4 _ hs => ?_)
  show gAt X 2 12 9 w' h4 (gUp gE0 h0 (some (wdA D cy 6))) [(8, .ref h0), (7, .int (nI v)), (0, .ref sa), (1, .int (nI ii)), (2, .int (nI kd)), (3, .ref x), (4, .int (nI t)), (5, .int (nI g)), (6, .int (nI u))] [.int r] 315
  refine g_widen (k' := 25) (s' := 182) (by omega) (by omega) ?_
  exact g_iret hC hEn hs dL_does_315
set_option maxHeartbeats 4000000 in
theorem do_pier0 (hC : fOK X cL_does 9 RL rmD l D cy) (hL : lOK X gE0 (some (sa, n, f))) (hEn : fEnd X (some .int) (some (.int r)) w w' 25 182) (hv : v < 1000) (hv2 : ¬ v % 2 = 0) (hF : F_L_pier x (nI (v % 5)) 0 w = some (r, w')) : gAt X 1 6 9 w h1 (gUp gE0 h0 (some (wdA D cy 6))) [(8, .ref h0), (7, .int (nI v)), (0, .ref sa), (1, .int (nI ii)), (2, .int (nI kd)), (3, .ref x), (4, .int (nI t)), (5, .int (nI g)), (6, .int (nI u))] [] 316 := by
  refine g_aload_n hC dL_does_316 rfl 5 rfl ?_
  refine g_iload hC dL_does_317 1 rfl ?_
  refine g_iconst (v := (nI 5)) hC dL_does_319 (by decide) ?_
  refine g_irem hC dL_does_320 (by decide) ?_
  rw [frem_n (a := v) (d := 5) (by omega) (by decide) (by decide)]
  refine g_iload hC dL_does_321 1 rfl ?_
  refine g_iconst (v := (nI 2)) hC dL_does_323 (by decide) ?_
  refine g_irem hC dL_does_324 (by decide) ?_
  rw [frem_n (a := v) (d := 2) (by omega) (by decide) (by decide)]
  refine g_if_ne hC 332 dL_does_325 (by decide) (fun _ => ?_) (fun h9 => absurd h9 (nI_ne0 (by omega) (by omega)))
  refine g_iconst (v := 0) hC dL_does_332 (by decide) ?_
  refine g_callLWk hC hL [.ref x, .int (nI (v % 5)), .int 0] (c_L_pier l D cy x (nI (v % 5)) 0 w (r, w') hF) (Or.inl rfl) (fun _ _ h => nomatch h) q_1118 q_72 q_1116 q_1117 h9_L_pier ⟨Nat.le_of_ble_eq_true rfl, Nat.le_of_ble_eq_true rfl⟩ 1 6 rfl rfl ⟨Nat.le_of_ble_eq_true rfl, Nat.le_of_ble_eq_true rfl⟩ (Nat.le_of_ble_eq_true rfl) rfl dL_does_333 (fun h4 _ hs => ?_)
  show gAt X 2 12 9 w' h4 (gUp gE0 h0 (some (wdA D cy 6))) [(8, .ref h0), (7, .int (nI v)), (0, .ref sa), (1, .int (nI ii)), (2, .int (nI kd)), (3, .ref x), (4, .int (nI t)), (5, .int (nI g)), (6, .int (nI u))] [.int r] 336
  refine g_widen (k' := 25) (s' := 182) (by omega) (by omega) ?_
  exact g_iret hC hEn hs dL_does_336
set_option maxHeartbeats 4000000 in
theorem do_pier1 (hC : fOK X cL_does 9 RL rmD l D cy) (hL : lOK X gE0 (some (sa, n, f))) (hEn : fEnd X (some .int) (some (.int r)) w w' 25 182) (hv : v < 1000) (hv2 : v % 2 = 0) (hF : F_L_pier x (nI (v % 5)) 1 w = some (r, w')) : gAt X 1 6 9 w h1 (gUp gE0 h0 (some (wdA D cy 6))) [(8, .ref h0), (7, .int (nI v)), (0, .ref sa), (1, .int (nI ii)), (2, .int (nI kd)), (3, .ref x), (4, .int (nI t)), (5, .int (nI g)), (6, .int (nI u))] [] 316 := by
  refine g_aload_n hC dL_does_316 rfl 5 rfl ?_
  refine g_iload hC dL_does_317 1 rfl ?_
  refine g_iconst (v := (nI 5)) hC dL_does_319 (by decide) ?_
  refine g_irem hC dL_does_320 (by decide) ?_
  rw [frem_n (a := v) (d := 5) (by omega) (by decide) (by decide)]
  refine g_iload hC dL_does_321 1 rfl ?_
  refine g_iconst (v := (nI 2)) hC dL_does_323 (by decide) ?_
  refine g_irem hC dL_does_324 (by decide) ?_
  rw [frem_n (a := v) (d := 2) (by omega) (by decide) (by decide)]
  rw [hv2]
  refine g_if_ne hC 332 dL_does_325 (by decide) (fun h9 => absurd nI_0 h9) (fun _ => ?_)
  refine g_iconst (v := 1) hC dL_does_328 (by decide) ?_
  refine g_goto hC 333 dL_does_329 (by decide) ?_
  refine g_callLWk hC hL [.ref x, .int (nI (v % 5)), .int 1] (c_L_pier l D cy x (nI (v % 5)) 1 w (r, w') hF) (Or.inl rfl) (fun _ _ h => nomatch h) q_1118 q_72 q_1116 q_1117 h9_L_pier ⟨Nat.le_of_ble_eq_true rfl, Nat.le_of_ble_eq_true rfl⟩ 1 6 rfl rfl ⟨Nat.le_of_ble_eq_true rfl, Nat.le_of_ble_eq_true rfl⟩ (Nat.le_of_ble_eq_true rfl) rfl dL_does_333 (fun h4 _ hs => ?_)
  show gAt X 2 12 9 w' h4 (gUp gE0 h0 (some (wdA D cy 6))) [(8, .ref h0), (7, .int (nI v)), (0, .ref sa), (1, .int (nI ii)), (2, .int (nI kd)), (3, .ref x), (4, .int (nI t)), (5, .int (nI g)), (6, .int (nI u))] [.int r] 336
  refine g_widen (k' := 25) (s' := 182) (by omega) (by omega) ?_
  exact g_iret hC hEn hs dL_does_336
set_option maxHeartbeats 4000000 in
theorem do_day (hC : fOK X cL_does 9 RL rmD l D cy) (hL : lOK X gE0 (some (sa, n, f))) (hEn : fEnd X (some .int) (some (.int r)) w w' 25 182) (hx : w.1 x = 5) (hF : F_X4_day x w = some (.inl r, w')) : gAt X 1 6 9 w h1 (gUp gE0 h0 (some (wdA D cy 6))) [(8, .ref h0), (7, .int (nI v)), (0, .ref sa), (1, .int (nI ii)), (2, .int (nI kd)), (3, .ref x), (4, .int (nI t)), (5, .int (nI g)), (6, .int (nI u))] [] 337 := by
  have hst := lOK_st hC hL
  refine g_aload_n hC dL_does_337 rfl 5 rfl ?_
  refine g_callVR hC hst [] (rv := some (.int r)) (c_X4_day l D cy x w (.inl r, w') hF) q_1126 q_73 q_1123 q_1124 q_1125 h9_X4_day (T := TX4) (N := 15) (ci := 4) rfl hx ⟨Nat.le_of_ble_eq_true rfl, Nat.le_of_ble_eq_true rfl⟩ ⟨Nat.le_of_ble_eq_true rfl, Nat.le_of_ble_eq_true rfl⟩ (Nat.le_of_ble_eq_true rfl) rfl dL_does_338 (fun h4 _ hs => ?_)
  show gAt X 2 12 9 w' h4 (gUp gE0 h0 (some (wdA D cy 6))) [(8, .ref h0), (7, .int (nI v)), (0, .ref sa), (1, .int (nI ii)), (2, .int (nI kd)), (3, .ref x), (4, .int (nI t)), (5, .int (nI g)), (6, .int (nI u))] [.int r] 341
  refine g_widen (k' := 25) (s' := 182) (by omega) (by omega) ?_
  exact g_iret hC hEn hs dL_does_341
set_option maxHeartbeats 4000000 in
theorem do_punch (hC : fOK X cL_does 9 RL rmD l D cy) (hL : lOK X gE0 (some (sa, n, f))) (hEn : fEnd X (some .int) (some (.int r)) w w' 25 182) (hv : v < 1000) (hF : F_L_punch x (nI t) (nI g) (nI (v % 3)) w = some (r, w')) : gAt X 1 6 9 w h1 (gUp gE0 h0 (some (wdA D cy 6))) [(8, .ref h0), (7, .int (nI v)), (0, .ref sa), (1, .int (nI ii)), (2, .int (nI kd)), (3, .ref x), (4, .int (nI t)), (5, .int (nI g)), (6, .int (nI u))] [] 342 := by
  refine g_aload_n hC dL_does_342 rfl 5 rfl ?_
  refine g_iload hC dL_does_343 6 rfl ?_
  refine g_iload hC dL_does_345 7 rfl ?_
  refine g_iload hC dL_does_347 1 rfl ?_
  refine g_iconst (v := (nI 3)) hC dL_does_349 (by decide) ?_
  refine g_irem hC dL_does_350 (by decide) ?_
  rw [frem_n (a := v) (d := 3) (by omega) (by decide) (by decide)]
  refine g_callLWk hC hL [.ref x, .int (nI t), .int (nI g), .int (nI (v % 3))] (c_L_punch l D cy x (nI t) (nI g) (nI (v % 3)) w (r, w') hF) (Or.inl rfl) (fun _ _ h => nomatch h) q_1129 q_72 q_1127 q_1128 h9_L_punch ⟨Nat.le_of_ble_eq_true rfl, Nat.le_of_ble_eq_true rfl⟩ 2 12 rfl rfl ⟨Nat.le_of_ble_eq_true rfl, Nat.le_of_ble_eq_true rfl⟩ (Nat.le_of_ble_eq_true rfl) rfl dL_does_351 (fun h4 _ hs => ?_)
  show gAt X 3 18 9 w' h4 (gUp gE0 h0 (some (wdA D cy 6))) [(8, .ref h0), (7, .int (nI v)), (0, .ref sa), (1, .int (nI ii)), (2, .int (nI kd)), (3, .ref x), (4, .int (nI t)), (5, .int (nI g)), (6, .int (nI u))] [.int r] 354
  refine g_widen (k' := 25) (s' := 182) (by omega) (by omega) ?_
  exact g_iret hC hEn hs dL_does_354
set_option maxHeartbeats 4000000 in
theorem do_wet (hC : fOK X cL_does 9 RL rmD l D cy) (hL : lOK X gE0 (some (sa, n, f))) (hEn : fEnd X (some .int) (some (.int r)) w w' 25 182) (hF : F_L_wet x (nI t) (nI g) (nI u) w = some (r, w')) : gAt X 1 6 9 w h1 (gUp gE0 h0 (some (wdA D cy 6))) [(8, .ref h0), (7, .int (nI v)), (0, .ref sa), (1, .int (nI ii)), (2, .int (nI kd)), (3, .ref x), (4, .int (nI t)), (5, .int (nI g)), (6, .int (nI u))] [] 355 := by
  refine g_aload_n hC dL_does_355 rfl 5 rfl ?_
  refine g_iload hC dL_does_356 6 rfl ?_
  refine g_iload hC dL_does_358 7 rfl ?_
  refine g_iload hC dL_does_360 8 rfl ?_
  refine g_callLWk hC hL [.ref x, .int (nI t), .int (nI g), .int (nI u)] (c_L_wet l D cy x (nI t) (nI g) (nI u) w (r, w') hF) (Or.inl rfl) (fun _ _ h => nomatch h) q_1136 q_72 q_1134 q_1135 h9_L_wet ⟨Nat.le_of_ble_eq_true rfl, Nat.le_of_ble_eq_true rfl⟩ 2 12 rfl rfl ⟨Nat.le_of_ble_eq_true rfl, Nat.le_of_ble_eq_true rfl⟩ (Nat.le_of_ble_eq_true rfl) rfl dL_does_362 (fun h4 _ hs => ?_)
  show gAt X 3 18 9 w' h4 (gUp gE0 h0 (some (wdA D cy 6))) [(8, .ref h0), (7, .int (nI v)), (0, .ref sa), (1, .int (nI ii)), (2, .int (nI kd)), (3, .ref x), (4, .int (nI t)), (5, .int (nI g)), (6, .int (nI u))] [.int r] 365
  refine g_widen (k' := 25) (s' := 182) (by omega) (by omega) ?_
  exact g_iret hC hEn hs dL_does_365
set_option maxHeartbeats 4000000 in
theorem do_tear (hC : fOK X cL_does 9 RL rmD l D cy) (hL : lOK X gE0 (some (sa, n, f))) (hEn : fEnd X (some .int) (some (.int r)) w w' 25 182) (hF : F_L_tear x (nI t) w = some (r, w')) : gAt X 1 6 9 w h1 (gUp gE0 h0 (some (wdA D cy 6))) [(8, .ref h0), (7, .int (nI v)), (0, .ref sa), (1, .int (nI ii)), (2, .int (nI kd)), (3, .ref x), (4, .int (nI t)), (5, .int (nI g)), (6, .int (nI u))] [] 366 := by
  refine g_aload_n hC dL_does_366 rfl 5 rfl ?_
  refine g_iload hC dL_does_367 6 rfl ?_
  refine g_callLWk hC hL [.ref x, .int (nI t)] (c_L_tear l D cy x (nI t) w (r, w') hF) (Or.inl rfl) (fun _ _ h => nomatch h) q_1143 q_72 q_1141 q_1142 h9_L_tear ⟨Nat.le_of_ble_eq_true rfl, Nat.le_of_ble_eq_true rfl⟩ 1 6 rfl rfl ⟨Nat.le_of_ble_eq_true rfl, Nat.le_of_ble_eq_true rfl⟩ (Nat.le_of_ble_eq_true rfl) rfl dL_does_369 (fun h4 _ hs => ?_)
  show gAt X 2 12 9 w' h4 (gUp gE0 h0 (some (wdA D cy 6))) [(8, .ref h0), (7, .int (nI v)), (0, .ref sa), (1, .int (nI ii)), (2, .int (nI kd)), (3, .ref x), (4, .int (nI t)), (5, .int (nI g)), (6, .int (nI u))] [.int r] 372
  refine g_widen (k' := 25) (s' := 182) (by omega) (by omega) ?_
  exact g_iret hC hEn hs dL_does_372
set_option maxHeartbeats 4000000 in
theorem do_lose (hC : fOK X cL_does 9 RL rmD l D cy) (hL : lOK X gE0 (some (sa, n, f))) (hEn : fEnd X (some .int) (some (.int r)) w w' 25 182) (hF : F_L_lose x (nI t) (nI g) w = some (r, w')) : gAt X 1 6 9 w h1 (gUp gE0 h0 (some (wdA D cy 6))) [(8, .ref h0), (7, .int (nI v)), (0, .ref sa), (1, .int (nI ii)), (2, .int (nI kd)), (3, .ref x), (4, .int (nI t)), (5, .int (nI g)), (6, .int (nI u))] [] 373 := by
  refine g_aload_n hC dL_does_373 rfl 5 rfl ?_
  refine g_iload hC dL_does_374 6 rfl ?_
  refine g_iload hC dL_does_376 7 rfl ?_
  refine g_callLWk hC hL [.ref x, .int (nI t), .int (nI g)] (c_L_lose l D cy x (nI t) (nI g) w (r, w') hF) (Or.inl rfl) (fun _ _ h => nomatch h) q_1150 q_72 q_1148 q_1149 h9_L_lose ⟨Nat.le_of_ble_eq_true rfl, Nat.le_of_ble_eq_true rfl⟩ 1 6 rfl rfl ⟨Nat.le_of_ble_eq_true rfl, Nat.le_of_ble_eq_true rfl⟩ (Nat.le_of_ble_eq_true rfl) rfl dL_does_378 (fun h4 _ hs => ?_)
  show gAt X 2 12 9 w' h4 (gUp gE0 h0 (some (wdA D cy 6))) [(8, .ref h0), (7, .int (nI v)), (0, .ref sa), (1, .int (nI ii)), (2, .int (nI kd)), (3, .ref x), (4, .int (nI t)), (5, .int (nI g)), (6, .int (nI u))] [.int r] 381
  refine g_widen (k' := 25) (s' := 182) (by omega) (by omega) ?_
  exact g_iret hC hEn hs dL_does_381
set_option maxHeartbeats 4000000 in
theorem do_find (hC : fOK X cL_does 9 RL rmD l D cy) (hL : lOK X gE0 (some (sa, n, f))) (hEn : fEnd X (some .int) (some (.int r)) w w' 25 182) (hF : F_L_find x (nI t) (nI g) w = some (r, w')) : gAt X 1 6 9 w h1 (gUp gE0 h0 (some (wdA D cy 6))) [(8, .ref h0), (7, .int (nI v)), (0, .ref sa), (1, .int (nI ii)), (2, .int (nI kd)), (3, .ref x), (4, .int (nI t)), (5, .int (nI g)), (6, .int (nI u))] [] 382 := by
  refine g_aload_n hC dL_does_382 rfl 5 rfl ?_
  refine g_iload hC dL_does_383 6 rfl ?_
  refine g_iload hC dL_does_385 7 rfl ?_
  refine g_callLWk hC hL [.ref x, .int (nI t), .int (nI g)] (c_L_find l D cy x (nI t) (nI g) w (r, w') hF) (Or.inl rfl) (fun _ _ h => nomatch h) q_1157 q_72 q_1155 q_1156 h9_L_find ⟨Nat.le_of_ble_eq_true rfl, Nat.le_of_ble_eq_true rfl⟩ 1 6 rfl rfl ⟨Nat.le_of_ble_eq_true rfl, Nat.le_of_ble_eq_true rfl⟩ (Nat.le_of_ble_eq_true rfl) rfl dL_does_387 (fun h4 _ hs => ?_)
  show gAt X 2 12 9 w' h4 (gUp gE0 h0 (some (wdA D cy 6))) [(8, .ref h0), (7, .int (nI v)), (0, .ref sa), (1, .int (nI ii)), (2, .int (nI kd)), (3, .ref x), (4, .int (nI t)), (5, .int (nI g)), (6, .int (nI u))] [.int r] 390
  refine g_widen (k' := 25) (s' := 182) (by omega) (by omega) ?_
  exact g_iret hC hEn hs dL_does_390
set_option maxHeartbeats 4000000 in
theorem do_throwAway (hC : fOK X cL_does 9 RL rmD l D cy) (hL : lOK X gE0 (some (sa, n, f))) (hEn : fEnd X (some .int) (some (.int r)) w w' 25 182) (hF : F_L_throwAway x (nI t) w = some (r, w')) : gAt X 1 6 9 w h1 (gUp gE0 h0 (some (wdA D cy 6))) [(8, .ref h0), (7, .int (nI v)), (0, .ref sa), (1, .int (nI ii)), (2, .int (nI kd)), (3, .ref x), (4, .int (nI t)), (5, .int (nI g)), (6, .int (nI u))] [] 391 := by
  refine g_aload_n hC dL_does_391 rfl 5 rfl ?_
  refine g_iload hC dL_does_392 6 rfl ?_
  refine g_callLWk hC hL [.ref x, .int (nI t)] (c_L_throwAway l D cy x (nI t) w (r, w') hF) (Or.inl rfl) (fun _ _ h => nomatch h) q_1164 q_72 q_1162 q_1163 h9_L_throwAway ⟨Nat.le_of_ble_eq_true rfl, Nat.le_of_ble_eq_true rfl⟩ 1 6 rfl rfl ⟨Nat.le_of_ble_eq_true rfl, Nat.le_of_ble_eq_true rfl⟩ (Nat.le_of_ble_eq_true rfl) rfl dL_does_394 (fun h4 _ hs => ?_)
  show gAt X 2 12 9 w' h4 (gUp gE0 h0 (some (wdA D cy 6))) [(8, .ref h0), (7, .int (nI v)), (0, .ref sa), (1, .int (nI ii)), (2, .int (nI kd)), (3, .ref x), (4, .int (nI t)), (5, .int (nI g)), (6, .int (nI u))] [.int r] 397
  refine g_widen (k' := 25) (s' := 182) (by omega) (by omega) ?_
  exact g_iret hC hEn hs dL_does_397
set_option maxHeartbeats 4000000 in
theorem do_ride (hC : fOK X cL_does 9 RL rmD l D cy) (hL : lOK X gE0 (some (sa, n, f))) (hEn : fEnd X (some .int) (some (.int r)) w w' 25 182) (hF : F_L_ride x (nI t) (nI g) w = some (r, w')) : gAt X 1 6 9 w h1 (gUp gE0 h0 (some (wdA D cy 6))) [(8, .ref h0), (7, .int (nI v)), (0, .ref sa), (1, .int (nI ii)), (2, .int (nI kd)), (3, .ref x), (4, .int (nI t)), (5, .int (nI g)), (6, .int (nI u))] [] 398 := by
  refine g_aload_n hC dL_does_398 rfl 5 rfl ?_
  refine g_iload hC dL_does_399 6 rfl ?_
  refine g_iload hC dL_does_401 7 rfl ?_
  refine g_callLWk hC hL [.ref x, .int (nI t), .int (nI g)] (c_L_ride l D cy x (nI t) (nI g) w (r, w') hF) (Or.inl rfl) (fun _ _ h => nomatch h) q_1171 q_72 q_1169 q_1170 h9_L_ride ⟨Nat.le_of_ble_eq_true rfl, Nat.le_of_ble_eq_true rfl⟩ 1 6 rfl rfl ⟨Nat.le_of_ble_eq_true rfl, Nat.le_of_ble_eq_true rfl⟩ (Nat.le_of_ble_eq_true rfl) rfl dL_does_403 (fun h4 _ hs => ?_)
  show gAt X 2 12 9 w' h4 (gUp gE0 h0 (some (wdA D cy 6))) [(8, .ref h0), (7, .int (nI v)), (0, .ref sa), (1, .int (nI ii)), (2, .int (nI kd)), (3, .ref x), (4, .int (nI t)), (5, .int (nI g)), (6, .int (nI u))] [.int r] 406
  refine g_widen (k' := 25) (s' := 182) (by omega) (by omega) ?_
  exact g_iret hC hEn hs dL_does_406
end DOF
