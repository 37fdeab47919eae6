theorem dL_would_0 : decode cL_would 0 = .ok (.aload_n 0, 1) := by decide +kernel
theorem dL_would_1 : decode cL_would 1 = .ok (.iload_n 1, 1) := by decide +kernel
theorem dL_would_2 : decode cL_would 2 = .ok (.iload_n 2, 1) := by decide +kernel
theorem dL_would_3 : decode cL_would 3 = .ok (.iload_n 3, 1) := by decide +kernel
theorem dL_would_4 : decode cL_would 4 = .ok (.invokevirtual 85, 3) := by decide +kernel
theorem dL_would_7 : decode cL_would 7 = .ok (.ireturn, 1) := by decide +kernel
theorem dL_would_8 : decode cL_would 8 = .ok (.astore 4, 2) := by decide +kernel
theorem dL_would_10 : decode cL_would 10 = .ok (.bipush (-77), 2) := by decide +kernel
theorem dL_would_12 : decode cL_would 12 = .ok (.ireturn, 1) := by decide +kernel
theorem dL_would_13 : decode cL_would 13 = .ok (.astore 4, 2) := by decide +kernel
theorem dL_would_15 : decode cL_would 15 = .ok (.bipush (-78), 2) := by decide +kernel
theorem dL_would_17 : decode cL_would 17 = .ok (.ireturn, 1) := by decide +kernel
theorem dL_would_18 : decode cL_would 18 = .ok (.astore 4, 2) := by decide +kernel
theorem dL_would_20 : decode cL_would 20 = .ok (.bipush (-75), 2) := by decide +kernel
theorem dL_would_22 : decode cL_would 22 = .ok (.ireturn, 1) := by decide +kernel
theorem h9_L_would : yL_would.cls ≠ "java/lang/invoke/MethodHandle" ∧ yL_would.cls ≠ "java/lang/invoke/VarHandle" ∧ (parseMethodDescriptor yL_would.desc).map (fun d => d.parameters.length) = some 4 := by decide +kernel
noncomputable def F_L_would (a0 : Nat) (x1 : Int32) (x2 : Int32) (x3 : Int32) (w : FW) : Option (Int32) :=
  fg (w.1 a0 = 5) inferInstance ((F_X4_would a0 x1 x2 x3 w).bind (fun r1 => fse r1 (fun v => some v) (fun q => (if q = 2 then some ((-77) : Int32) else (if q = 1 then some ((-78) : Int32) else (if q = 5 then some ((-75) : Int32) else none))))))
set_option maxHeartbeats 4000000 in
set_option maxRecDepth 100000 in
theorem c_L_would (l : Launch) (D : va_G) (cy : Nat → ClassId) (a0 : Nat) (x1 : Int32) (x2 : Int32) (x3 : Int32) (w : FW) (r : Int32) (hF : F_L_would a0 x1 x2 x3 w = some r) : lSpec l D cy yL_would (.codeWith yL_would cL_would 5 (some .int) [(0, 7, 8, 32), (0, 7, 13, 20), (0, 7, 18, 53)]) { frames := 8, cells := 2, slots := 12, locals := 161 } [.ref a0, .int x1, .int x2, .int x3] gE0 none w w (some (.int r)) := by
  refine l_beginW (by decide +kernel) (Nat.le_of_ble_eq_true rfl) (fun X h hC hEn hL hT => ?_)
  have hst := lOK_st hC hL
  unfold F_L_would at hF
  obtain ⟨hk0, hF⟩ := fg_open hF
  obtain ⟨o9, h1, hF⟩ := fb_open hF
  show gAt X 0 0 5 w h gE0 [(0, .ref a0), (1, .int x1), (2, .int x2), (3, .int x3)] [] 0
  refine g_aload_n hC dL_would_0 rfl 0 rfl ?_
  refine g_iload_n hC dL_would_1 rfl 1 rfl ?_
  refine g_iload_n hC dL_would_2 rfl 2 rfl ?_
  refine g_iload_n hC dL_would_3 rfl 3 rfl ?_
  rcases o9 with v | q
  · obtain rfl := Option.some.inj hF
    refine g_callVR hC hst [.int x1, .int x2, .int x3] (rv := some (.int v)) (c_X4_would l D cy a0 x1 x2 x3 w _ h1) q_520 q_73 q_517 q_518 q_519 h9_X4_would (T := TX4) (N := 15) (ci := 4) rfl hk0 ⟨Nat.le_of_ble_eq_true rfl, Nat.le_of_ble_eq_true rfl⟩ ⟨Nat.le_of_ble_eq_true rfl, Nat.le_of_ble_eq_true rfl⟩ (Nat.le_of_ble_eq_true rfl) rfl dL_would_4 (fun h2 _ hs => ?_)
    show gAt X 2 12 5 w h2 gE0 [(0, .ref a0), (1, .int x1), (2, .int x2), (3, .int x3)] [.int v] 7
    exact g_iret hC hEn (fSm.rf w) dL_would_7
  · replace hF : (if q = 2 then some ((-77) : Int32) else (if q = 1 then some ((-78) : Int32) else (if q = 5 then some ((-75) : Int32) else none))) = some r := hF
    by_cases e9 : q = 2
    · replace hF := fi_pos hF e9
      subst e9
      obtain rfl := Option.some.inj hF
      refine g_callVT hC hst [.int x1, .int x2, .int x3] (ex := 2) (c_X4_would l D cy a0 x1 x2 x3 w _ h1) q_520 q_73 q_517 q_518 q_519 h9_X4_would (T := TX4) (N := 15) (ci := 4) rfl hk0 ⟨Nat.le_of_ble_eq_true rfl, Nat.le_of_ble_eq_true rfl⟩ ⟨Nat.le_of_ble_eq_true rfl, Nat.le_of_ble_eq_true rfl⟩ (Nat.le_of_ble_eq_true rfl) rfl dL_would_4 (fun h2 _ hs => ?_)
      show gXt X 2 12 5 w h2 gE0 [(0, .ref a0), (1, .int x1), (2, .int x2), (3, .int x3)] 2 4
      refine g_catchL hC hL hT [] ⟨0, 7, 8, 32⟩ [⟨0, 7, 13, 20⟩, ⟨0, 7, 18, 53⟩] rfl (fun z hz => absurd hz List.not_mem_nil) (by decide) (by decide) q_316 q_411 (fun q9 => ?_)
      refine g_astore (L' := [(4, .ref q9), (0, .ref a0), (1, .int x1), (2, .int x2), (3, .int x3)]) hC dL_would_8 (by decide) rfl ?_
      refine g_bipush (v := (-77)) hC dL_would_10 (by decide) ?_
      exact g_iret hC hEn (fSm.rf w) dL_would_12
    replace hF := fi_neg hF e9
    by_cases e9 : q = 1
    · replace hF := fi_pos hF e9
      subst e9
      obtain rfl := Option.some.inj hF
      refine g_callVT hC hst [.int x1, .int x2, .int x3] (ex := 1) (c_X4_would l D cy a0 x1 x2 x3 w _ h1) q_520 q_73 q_517 q_518 q_519 h9_X4_would (T := TX4) (N := 15) (ci := 4) rfl hk0 ⟨Nat.le_of_ble_eq_true rfl, Nat.le_of_ble_eq_true rfl⟩ ⟨Nat.le_of_ble_eq_true rfl, Nat.le_of_ble_eq_true rfl⟩ (Nat.le_of_ble_eq_true rfl) rfl dL_would_4 (fun h2 _ hs => ?_)
      show gXt X 2 12 5 w h2 gE0 [(0, .ref a0), (1, .int x1), (2, .int x2), (3, .int x3)] 1 4
      have hpass : ∀ z ∈ ([⟨0, 7, 8, 32⟩] : List ExceptionTableEntry), z.catchType ≠ 0 ∧ ∃ nm : String, Cond.classLink RL z.catchType nm ∈ lwA ∧ (exN 1, nm) ∈ ncL := by
        intro z hz
        simp only [List.mem_cons, List.not_mem_nil, or_false] at hz
        subst hz
        exact ⟨by decide, _, q_316, by decide +kernel⟩
      refine g_catchL hC hL hT [⟨0, 7, 8, 32⟩] ⟨0, 7, 13, 20⟩ [⟨0, 7, 18, 53⟩] rfl hpass (by decide) (by decide) q_396 q_499 (fun q9 => ?_)
      refine g_astore (L' := [(4, .ref q9), (0, .ref a0), (1, .int x1), (2, .int x2), (3, .int x3)]) hC dL_would_13 (by decide) rfl ?_
      refine g_bipush (v := (-78)) hC dL_would_15 (by decide) ?_
      exact g_iret hC hEn (fSm.rf w) dL_would_17
    replace hF := fi_neg hF e9
    by_cases e9 : q = 5
    · replace hF := fi_pos hF e9
      subst e9
      obtain rfl := Option.some.inj hF
      refine g_callVT hC hst [.int x1, .int x2, .int x3] (ex := 5) (c_X4_would l D cy a0 x1 x2 x3 w _ h1) q_520 q_73 q_517 q_518 q_519 h9_X4_would (T := TX4) (N := 15) (ci := 4) rfl hk0 ⟨Nat.le_of_ble_eq_true rfl, Nat.le_of_ble_eq_true rfl⟩ ⟨Nat.le_of_ble_eq_true rfl, Nat.le_of_ble_eq_true rfl⟩ (Nat.le_of_ble_eq_true rfl) rfl dL_would_4 (fun h2 _ hs => ?_)
      show gXt X 2 12 5 w h2 gE0 [(0, .ref a0), (1, .int x1), (2, .int x2), (3, .int x3)] 5 4
      have hpass : ∀ z ∈ ([⟨0, 7, 8, 32⟩, ⟨0, 7, 13, 20⟩] : List ExceptionTableEntry), z.catchType ≠ 0 ∧ ∃ nm : String, Cond.classLink RL z.catchType nm ∈ lwA ∧ (exN 5, nm) ∈ ncL := by
        intro z hz
        simp only [List.mem_cons, List.not_mem_nil, or_false] at hz
        rcases hz with rfl | rfl
        · exact ⟨by decide, _, q_316, by decide +kernel⟩
        · exact ⟨by decide, _, q_396, by decide +kernel⟩
      refine g_catchL hC hL hT [⟨0, 7, 8, 32⟩, ⟨0, 7, 13, 20⟩] ⟨0, 7, 18, 53⟩ [] rfl hpass (by decide) (by decide) q_516 q_527 (fun q9 => ?_)
      refine g_astore (L' := [(4, .ref q9), (0, .ref a0), (1, .int x1), (2, .int x2), (3, .int x3)]) hC dL_would_18 (by decide) rfl ?_
      refine g_bipush (v := (-75)) hC dL_would_20 (by decide) ?_
      exact g_iret hC hEn (fSm.rf w) dL_would_22
    replace hF := fi_neg hF e9
    cases hF
theorem dL_likely_0 : decode cL_likely 0 = .ok (.aload_n 0, 1) := by decide +kernel
theorem dL_likely_1 : decode cL_likely 1 = .ok (.iload_n 1, 1) := by decide +kernel
theorem dL_likely_2 : decode cL_likely 2 = .ok (.iload_n 2, 1) := by decide +kernel
theorem dL_likely_3 : decode cL_likely 3 = .ok (.invokevirtual 88, 3) := by decide +kernel
theorem dL_likely_6 : decode cL_likely 6 = .ok (.ireturn, 1) := by decide +kernel
theorem dL_likely_7 : decode cL_likely 7 = .ok (.astore_n 3, 1) := by decide +kernel
theorem dL_likely_8 : decode cL_likely 8 = .ok (.bipush (-77), 2) := by decide +kernel
theorem dL_likely_10 : decode cL_likely 10 = .ok (.ireturn, 1) := by decide +kernel
theorem dL_likely_11 : decode cL_likely 11 = .ok (.astore_n 3, 1) := by decide +kernel
theorem dL_likely_12 : decode cL_likely 12 = .ok (.bipush (-75), 2) := by decide +kernel
theorem dL_likely_14 : decode cL_likely 14 = .ok (.ireturn, 1) := by decide +kernel
theorem h9_L_likely : yL_likely.cls ≠ "java/lang/invoke/MethodHandle" ∧ yL_likely.cls ≠ "java/lang/invoke/VarHandle" ∧ (parseMethodDescriptor yL_likely.desc).map (fun d => d.parameters.length) = some 3 := by decide +kernel
noncomputable def F_L_likely (a0 : Nat) (x1 : Int32) (x2 : Int32) (w : FW) : Option (Int32) :=
  fg (w.1 a0 = 5) inferInstance ((F_X4_likely a0 x1 x2 w).bind (fun r1 => fse r1 (fun v => some v) (fun q => (if q = 2 then some ((-77) : Int32) else (if q = 5 then some ((-75) : Int32) else none)))))
set_option maxHeartbeats 4000000 in
set_option maxRecDepth 100000 in
theorem c_L_likely (l : Launch) (D : va_G) (cy : Nat → ClassId) (a0 : Nat) (x1 : Int32) (x2 : Int32) (w : FW) (r : Int32) (hF : F_L_likely a0 x1 x2 w = some r) : lSpec l D cy yL_likely (.codeWith yL_likely cL_likely 4 (some .int) [(0, 6, 7, 32), (0, 6, 11, 53)]) { frames := 8, cells := 2, slots := 12, locals := 184 } [.ref a0, .int x1, .int x2] gE0 none w w (some (.int r)) := by
  refine l_beginW (by decide +kernel) (Nat.le_of_ble_eq_true rfl) (fun X h hC hEn hL hT => ?_)
  have hst := lOK_st hC hL
  unfold F_L_likely at hF
  obtain ⟨hk0, hF⟩ := fg_open hF
  obtain ⟨o9, h1, hF⟩ := fb_open hF
  show gAt X 0 0 4 w h gE0 [(0, .ref a0), (1, .int x1), (2, .int x2)] [] 0
  refine g_aload_n hC dL_likely_0 rfl 0 rfl ?_
  refine g_iload_n hC dL_likely_1 rfl 1 rfl ?_
  refine g_iload_n hC dL_likely_2 rfl 2 rfl ?_
  rcases o9 with v | q
  · obtain rfl := Option.some.inj hF
    refine g_callVR hC hst [.int x1, .int x2] (rv := some (.int v)) (c_X4_likely l D cy a0 x1 x2 w _ h1) q_1239 q_73 q_1236 q_1237 q_1238 h9_X4_likely (T := TX4) (N := 15) (ci := 4) rfl hk0 ⟨Nat.le_of_ble_eq_true rfl, Nat.le_of_ble_eq_true rfl⟩ ⟨Nat.le_of_ble_eq_true rfl, Nat.le_of_ble_eq_true rfl⟩ (Nat.le_of_ble_eq_true rfl) rfl dL_likely_3 (fun h2 _ hs => ?_)
    show gAt X 2 12 4 w h2 gE0 [(0, .ref a0), (1, .int x1), (2, .int x2)] [.int v] 6
    exact g_iret hC hEn (fSm.rf w) dL_likely_6
  · replace hF : (if q = 2 then some ((-77) : Int32) else (if q = 5 then some ((-75) : Int32) else none)) = some r := hF
    by_cases e9 : q = 2
    · replace hF := fi_pos hF e9
      subst e9
      obtain rfl := Option.some.inj hF
      refine g_callVT hC hst [.int x1, .int x2] (ex := 2) (c_X4_likely l D cy a0 x1 x2 w _ h1) q_1239 q_73 q_1236 q_1237 q_1238 h9_X4_likely (T := TX4) (N := 15) (ci := 4) rfl hk0 ⟨Nat.le_of_ble_eq_true rfl, Nat.le_of_ble_eq_true rfl⟩ ⟨Nat.le_of_ble_eq_true rfl, Nat.le_of_ble_eq_true rfl⟩ (Nat.le_of_ble_eq_true rfl) rfl dL_likely_3 (fun h2 _ hs => ?_)
      show gXt X 2 12 4 w h2 gE0 [(0, .ref a0), (1, .int x1), (2, .int x2)] 2 3
      refine g_catchL hC hL hT [] ⟨0, 6, 7, 32⟩ [⟨0, 6, 11, 53⟩] rfl (fun z hz => absurd hz List.not_mem_nil) (by decide) (by decide) q_316 q_411 (fun q9 => ?_)
      refine g_astore_n (L' := [(3, .ref q9), (0, .ref a0), (1, .int x1), (2, .int x2)]) hC dL_likely_7 rfl (by decide) rfl ?_
      refine g_bipush (v := (-77)) hC dL_likely_8 (by decide) ?_
      exact g_iret hC hEn (fSm.rf w) dL_likely_10
    replace hF := fi_neg hF e9
    by_cases e9 : q = 5
    · replace hF := fi_pos hF e9
      subst e9
      obtain rfl := Option.some.inj hF
      refine g_callVT hC hst [.int x1, .int x2] (ex := 5) (c_X4_likely l D cy a0 x1 x2 w _ h1) q_1239 q_73 q_1236 q_1237 q_1238 h9_X4_likely (T := TX4) (N := 15) (ci := 4) rfl hk0 ⟨Nat.le_of_ble_eq_true rfl, Nat.le_of_ble_eq_true rfl⟩ ⟨Nat.le_of_ble_eq_true rfl, Nat.le_of_ble_eq_true rfl⟩ (Nat.le_of_ble_eq_true rfl) rfl dL_likely_3 (fun h2 _ hs => ?_)
      show gXt X 2 12 4 w h2 gE0 [(0, .ref a0), (1, .int x1), (2, .int x2)] 5 3
      have hpass : ∀ z ∈ ([⟨0, 6, 7, 32⟩] : List ExceptionTableEntry), z.catchType ≠ 0 ∧ ∃ nm : String, Cond.classLink RL z.catchType nm ∈ lwA ∧ (exN 5, nm) ∈ ncL := by
        intro z hz
        simp only [List.mem_cons, List.not_mem_nil, or_false] at hz
        subst hz
        exact ⟨by decide, _, q_316, by decide +kernel⟩
      refine g_catchL hC hL hT [⟨0, 6, 7, 32⟩] ⟨0, 6, 11, 53⟩ [] rfl hpass (by decide) (by decide) q_516 q_527 (fun q9 => ?_)
      refine g_astore_n (L' := [(3, .ref q9), (0, .ref a0), (1, .int x1), (2, .int x2)]) hC dL_likely_11 rfl (by decide) rfl ?_
      refine g_bipush (v := (-75)) hC dL_likely_12 (by decide) ?_
      exact g_iret hC hEn (fSm.rf w) dL_likely_14
    replace hF := fi_neg hF e9
    cases hF
theorem dL_ride_0 : decode cL_ride 0 = .ok (.aload_n 0, 1) := by decide +kernel
theorem dL_ride_1 : decode cL_ride 1 = .ok (.iload_n 1, 1) := by decide +kernel
theorem dL_ride_2 : decode cL_ride 2 = .ok (.iload_n 2, 1) := by decide +kernel
theorem dL_ride_3 : decode cL_ride 3 = .ok (.invokevirtual 91, 3) := by decide +kernel
theorem dL_ride_6 : decode cL_ride 6 = .ok (.ireturn, 1) := by decide +kernel
theorem dL_ride_7 : decode cL_ride 7 = .ok (.astore_n 3, 1) := by decide +kernel
theorem dL_ride_8 : decode cL_ride 8 = .ok (.bipush (-77), 2) := by decide +kernel
theorem dL_ride_10 : decode cL_ride 10 = .ok (.ireturn, 1) := by decide +kernel
theorem dL_ride_11 : decode cL_ride 11 = .ok (.astore_n 3, 1) := by decide +kernel
theorem dL_ride_12 : decode cL_ride 12 = .ok (.bipush (-76), 2) := by decide +kernel
theorem dL_ride_14 : decode cL_ride 14 = .ok (.ireturn, 1) := by decide +kernel
theorem h9_L_ride : yL_ride.cls ≠ "java/lang/invoke/MethodHandle" ∧ yL_ride.cls ≠ "java/lang/invoke/VarHandle" ∧ (parseMethodDescriptor yL_ride.desc).map (fun d => d.parameters.length) = some 3 := by decide +kernel
noncomputable def F_L_ride (a0 : Nat) (x1 : Int32) (x2 : Int32) (w : FW) : Option (Int32 × FW) :=
  fg (w.1 a0 = 5) inferInstance ((F_X4_ride a0 x1 x2 w).bind (fun r1 => fse r1.1 (fun v => some (v, r1.2)) (fun q => (if q = 2 then some (((-77) : Int32), r1.2) else (if q = 4 then some (((-76) : Int32), r1.2) else none)))))
set_option maxHeartbeats 4000000 in
set_option maxRecDepth 100000 in
theorem c_L_ride (l : Launch) (D : va_G) (cy : Nat → ClassId) (a0 : Nat) (x1 : Int32) (x2 : Int32) (w : FW) (r : Int32 × FW) (hF : F_L_ride a0 x1 x2 w = some r) : lSpec l D cy yL_ride (.codeWith yL_ride cL_ride 4 (some .int) [(0, 6, 7, 32), (0, 6, 11, 22)]) { frames := 9, cells := 1, slots := 6, locals := 204 } [.ref a0, .int x1, .int x2] gE0 none w r.2 (some (.int r.1)) := by
  refine l_beginW (by decide +kernel) (Nat.le_of_ble_eq_true rfl) (fun X h hC hEn hL hT => ?_)
  have hst := lOK_st hC hL
  unfold F_L_ride at hF
  obtain ⟨hk0, hF⟩ := fg_open hF
  obtain ⟨o9, h1, hF⟩ := fb_open hF
  show gAt X 0 0 4 w h gE0 [(0, .ref a0), (1, .int x1), (2, .int x2)] [] 0
  refine g_aload_n hC dL_ride_0 rfl 0 rfl ?_
  refine g_iload_n hC dL_ride_1 rfl 1 rfl ?_
  refine g_iload_n hC dL_ride_2 rfl 2 rfl ?_
  obtain ⟨o9, w1⟩ := o9
  rcases o9 with v | q
  · obtain rfl := Option.some.inj hF
    refine g_callVR hC hst [.int x1, .int x2] (rv := some (.int v)) (c_X4_ride l D cy a0 x1 x2 w _ h1) q_1175 q_73 q_1172 q_1173 q_1174 h9_X4_ride (T := TX4) (N := 15) (ci := 4) rfl hk0 ⟨Nat.le_of_ble_eq_true rfl, Nat.le_of_ble_eq_true rfl⟩ ⟨Nat.le_of_ble_eq_true rfl, Nat.le_of_ble_eq_true rfl⟩ (Nat.le_of_ble_eq_true rfl) rfl dL_ride_3 (fun h2 _ hs => ?_)
    show gAt X 1 6 4 w1 h2 gE0 [(0, .ref a0), (1, .int x1), (2, .int x2)] [.int v] 6
    exact g_iret hC hEn hs dL_ride_6
  · replace hF : (if q = 2 then some (((-77) : Int32), w1) else (if q = 4 then some (((-76) : Int32), w1) else none)) = some r := hF
    by_cases e9 : q = 2
    · replace hF := fi_pos hF e9
      subst e9
      obtain rfl := Option.some.inj hF
      refine g_callVT hC hst [.int x1, .int x2] (ex := 2) (c_X4_ride l D cy a0 x1 x2 w _ h1) q_1175 q_73 q_1172 q_1173 q_1174 h9_X4_ride (T := TX4) (N := 15) (ci := 4) rfl hk0 ⟨Nat.le_of_ble_eq_true rfl, Nat.le_of_ble_eq_true rfl⟩ ⟨Nat.le_of_ble_eq_true rfl, Nat.le_of_ble_eq_true rfl⟩ (Nat.le_of_ble_eq_true rfl) rfl dL_ride_3 (fun h2 _ hs => ?_)
      show gXt X 1 6 4 w1 h2 gE0 [(0, .ref a0), (1, .int x1), (2, .int x2)] 2 3
      refine g_catchL hC hL hT [] ⟨0, 6, 7, 32⟩ [⟨0, 6, 11, 22⟩] rfl (fun z hz => absurd hz List.not_mem_nil) (by decide) (by decide) q_316 q_411 (fun q9 => ?_)
      refine g_astore_n (L' := [(3, .ref q9), (0, .ref a0), (1, .int x1), (2, .int x2)]) hC dL_ride_7 rfl (by decide) rfl ?_
      refine g_bipush (v := (-77)) hC dL_ride_8 (by decide) ?_
      exact g_iret hC hEn hs dL_ride_10
    replace hF := fi_neg hF e9
    by_cases e9 : q = 4
    · replace hF := fi_pos hF e9
      subst e9
      obtain rfl := Option.some.inj hF
      refine g_callVT hC hst [.int x1, .int x2] (ex := 4) (c_X4_ride l D cy a0 x1 x2 w _ h1) q_1175 q_73 q_1172 q_1173 q_1174 h9_X4_ride (T := TX4) (N := 15) (ci := 4) rfl hk0 ⟨Nat.le_of_ble_eq_true rfl, Nat.le_of_ble_eq_true rfl⟩ ⟨Nat.le_of_ble_eq_true rfl, Nat.le_of_ble_eq_true rfl⟩ (Nat.le_of_ble_eq_true rfl) rfl dL_ride_3 (fun h2 _ hs => ?_)
      show gXt X 1 6 4 w1 h2 gE0 [(0, .ref a0), (1, .int x1), (2, .int x2)] 4 3
      have hpass : ∀ z ∈ ([⟨0, 6, 7, 32⟩] : List ExceptionTableEntry), z.catchType ≠ 0 ∧ ∃ nm : String, Cond.classLink RL z.catchType nm ∈ lwA ∧ (exN 4, nm) ∈ ncL := by
        intro z hz
        simp only [List.mem_cons, List.not_mem_nil, or_false] at hz
        subst hz
        exact ⟨by decide, _, q_316, by decide +kernel⟩
      refine g_catchL hC hL hT [⟨0, 6, 7, 32⟩] ⟨0, 6, 11, 22⟩ [] rfl hpass (by decide) (by decide) q_881 q_1050 (fun q9 => ?_)
      refine g_astore_n (L' := [(3, .ref q9), (0, .ref a0), (1, .int x1), (2, .int x2)]) hC dL_ride_11 rfl (by decide) rfl ?_
      refine g_bipush (v := (-76)) hC dL_ride_12 (by decide) ?_
      exact g_iret hC hEn hs dL_ride_14
    replace hF := fi_neg hF e9
    cases hF
theorem dL_hinders_0 : decode cL_hinders 0 = .ok (.aload_n 0, 1) := by decide +kernel
theorem dL_hinders_1 : decode cL_hinders 1 = .ok (.iload_n 1, 1) := by decide +kernel
theorem dL_hinders_2 : decode cL_hinders 2 = .ok (.iload_n 2, 1) := by decide +kernel
theorem dL_hinders_3 : decode cL_hinders 3 = .ok (.invokevirtual 94, 3) := by decide +kernel
theorem dL_hinders_6 : decode cL_hinders 6 = .ok (.ireturn, 1) := by decide +kernel
theorem dL_hinders_7 : decode cL_hinders 7 = .ok (.astore_n 3, 1) := by decide +kernel
theorem dL_hinders_8 : decode cL_hinders 8 = .ok (.bipush (-77), 2) := by decide +kernel
theorem dL_hinders_10 : decode cL_hinders 10 = .ok (.ireturn, 1) := by decide +kernel
theorem h9_L_hinders : yL_hinders.cls ≠ "java/lang/invoke/MethodHandle" ∧ yL_hinders.cls ≠ "java/lang/invoke/VarHandle" ∧ (parseMethodDescriptor yL_hinders.desc).map (fun d => d.parameters.length) = some 3 := by decide +kernel
noncomputable def F_L_hinders (a0 : Nat) (x1 : Int32) (x2 : Int32) (w : FW) : Option (Int32) :=
  fg (w.1 a0 = 5) inferInstance ((F_X4_hinders a0 x1 x2 w).bind (fun r1 => fse r1 (fun v => some v) (fun q => (if q = 2 then some ((-77) : Int32) else none))))
set_option maxHeartbeats 4000000 in
set_option maxRecDepth 100000 in
theorem c_L_hinders (l : Launch) (D : va_G) (cy : Nat → ClassId) (a0 : Nat) (x1 : Int32) (x2 : Int32) (w : FW) (r : Int32) (hF : F_L_hinders a0 x1 x2 w = some r) : lSpec l D cy yL_hinders (.codeWith yL_hinders cL_hinders 4 (some .int) [(0, 6, 7, 32)]) { frames := 8, cells := 1, slots := 6, locals := 178 } [.ref a0, .int x1, .int x2] gE0 none w w (some (.int r)) := by
  refine l_beginW (by decide +kernel) (Nat.le_of_ble_eq_true rfl) (fun X h hC hEn hL hT => ?_)
  have hst := lOK_st hC hL
  unfold F_L_hinders at hF
  obtain ⟨hk0, hF⟩ := fg_open hF
  obtain ⟨o9, h1, hF⟩ := fb_open hF
  show gAt X 0 0 4 w h gE0 [(0, .ref a0), (1, .int x1), (2, .int x2)] [] 0
  refine g_aload_n hC dL_hinders_0 rfl 0 rfl ?_
  refine g_iload_n hC dL_hinders_1 rfl 1 rfl ?_
  refine g_iload_n hC dL_hinders_2 rfl 2 rfl ?_
  rcases o9 with v | q
  · obtain rfl := Option.some.inj hF
    refine g_callVR hC hst [.int x1, .int x2] (rv := some (.int v)) (c_X4_hinders l D cy a0 x1 x2 w _ h1) q_554 q_73 q_551 q_552 q_553 h9_X4_hinders (T := TX4) (N := 15) (ci := 4) rfl hk0 ⟨Nat.le_of_ble_eq_true rfl, Nat.le_of_ble_eq_true rfl⟩ ⟨Nat.le_of_ble_eq_true rfl, Nat.le_of_ble_eq_true rfl⟩ (Nat.le_of_ble_eq_true rfl) rfl dL_hinders_3 (fun h2 _ hs => ?_)
    show gAt X 1 6 4 w h2 gE0 [(0, .ref a0), (1, .int x1), (2, .int x2)] [.int v] 6
    exact g_iret hC hEn (fSm.rf w) dL_hinders_6
  · replace hF : (if q = 2 then some ((-77) : Int32) else none) = some r := hF
    by_cases e9 : q = 2
    · replace hF := fi_pos hF e9
      subst e9
      obtain rfl := Option.some.inj hF
      refine g_callVT hC hst [.int x1, .int x2] (ex := 2) (c_X4_hinders l D cy a0 x1 x2 w _ h1) q_554 q_73 q_551 q_552 q_553 h9_X4_hinders (T := TX4) (N := 15) (ci := 4) rfl hk0 ⟨Nat.le_of_ble_eq_true rfl, Nat.le_of_ble_eq_true rfl⟩ ⟨Nat.le_of_ble_eq_true rfl, Nat.le_of_ble_eq_true rfl⟩ (Nat.le_of_ble_eq_true rfl) rfl dL_hinders_3 (fun h2 _ hs => ?_)
      show gXt X 1 6 4 w h2 gE0 [(0, .ref a0), (1, .int x1), (2, .int x2)] 2 3
      refine g_catchL hC hL hT [] ⟨0, 6, 7, 32⟩ [] rfl (fun z hz => absurd hz List.not_mem_nil) (by decide) (by decide) q_316 q_411 (fun q9 => ?_)
      refine g_astore_n (L' := [(3, .ref q9), (0, .ref a0), (1, .int x1), (2, .int x2)]) hC dL_hinders_7 rfl (by decide) rfl ?_
      refine g_bipush (v := (-77)) hC dL_hinders_8 (by decide) ?_
      exact g_iret hC hEn (fSm.rf w) dL_hinders_10
    replace hF := fi_neg hF e9
    cases hF
theorem dL_daysLeft_0 : decode cL_daysLeft 0 = .ok (.aload_n 0, 1) := by decide +kernel
theorem dL_daysLeft_1 : decode cL_daysLeft 1 = .ok (.iload_n 1, 1) := by decide +kernel
theorem dL_daysLeft_2 : decode cL_daysLeft 2 = .ok (.invokevirtual 97, 3) := by decide +kernel
theorem dL_daysLeft_5 : decode cL_daysLeft 5 = .ok (.ireturn, 1) := by decide +kernel
theorem dL_daysLeft_6 : decode cL_daysLeft 6 = .ok (.astore_n 2, 1) := by decide +kernel
theorem dL_daysLeft_7 : decode cL_daysLeft 7 = .ok (.bipush (-77), 2) := by decide +kernel
theorem dL_daysLeft_9 : decode cL_daysLeft 9 = .ok (.ireturn, 1) := by decide +kernel
theorem dL_daysLeft_10 : decode cL_daysLeft 10 = .ok (.astore_n 2, 1) := by decide +kernel
theorem dL_daysLeft_11 : decode cL_daysLeft 11 = .ok (.bipush (-75), 2) := by decide +kernel
theorem dL_daysLeft_13 : decode cL_daysLeft 13 = .ok (.ireturn, 1) := by decide +kernel
theorem h9_L_daysLeft : yL_daysLeft.cls ≠ "java/lang/invoke/MethodHandle" ∧ yL_daysLeft.cls ≠ "java/lang/invoke/VarHandle" ∧ (parseMethodDescriptor yL_daysLeft.desc).map (fun d => d.parameters.length) = some 2 := by decide +kernel
noncomputable def F_L_daysLeft (a0 : Nat) (x1 : Int32) (w : FW) : Option (Int32) :=
  fg (w.1 a0 = 5) inferInstance ((F_X4_daysLeft a0 x1 w).bind (fun r1 => fse r1 (fun v => some v) (fun q => (if q = 2 then some ((-77) : Int32) else (if q = 5 then some ((-75) : Int32) else none)))))
set_option maxHeartbeats 4000000 in
set_option maxRecDepth 100000 in
theorem c_L_daysLeft (l : Launch) (D : va_G) (cy : Nat → ClassId) (a0 : Nat) (x1 : Int32) (w : FW) (r : Int32) (hF : F_L_daysLeft a0 x1 w = some r) : lSpec l D cy yL_daysLeft (.codeWith yL_daysLeft cL_daysLeft 3 (some .int) [(0, 5, 6, 32), (0, 5, 10, 53)]) { frames := 8, cells := 2, slots := 12, locals := 143 } [.ref a0, .int x1] gE0 none w w (some (.int r)) := by
  refine l_beginW (by decide +kernel) (Nat.le_of_ble_eq_true rfl) (fun X h hC hEn hL hT => ?_)
  have hst := lOK_st hC hL
  unfold F_L_daysLeft at hF
  obtain ⟨hk0, hF⟩ := fg_open hF
  obtain ⟨o9, h1, hF⟩ := fb_open hF
  show gAt X 0 0 3 w h gE0 [(0, .ref a0), (1, .int x1)] [] 0
  refine g_aload_n hC dL_daysLeft_0 rfl 0 rfl ?_
  refine g_iload_n hC dL_daysLeft_1 rfl 1 rfl ?_
  rcases o9 with v | q
  · obtain rfl := Option.some.inj hF
    refine g_callVR hC hst [.int x1] (rv := some (.int v)) (c_X4_daysLeft l D cy a0 x1 w _ h1) q_1299 q_73 q_1296 q_1297 q_1298 h9_X4_daysLeft (T := TX4) (N := 15) (ci := 4) rfl hk0 ⟨Nat.le_of_ble_eq_true rfl, Nat.le_of_ble_eq_true rfl⟩ ⟨Nat.le_of_ble_eq_true rfl, Nat.le_of_ble_eq_true rfl⟩ (Nat.le_of_ble_eq_true rfl) rfl dL_daysLeft_2 (fun h2 _ hs => ?_)
    show gAt X 2 12 3 w h2 gE0 [(0, .ref a0), (1, .int x1)] [.int v] 5
    exact g_iret hC hEn (fSm.rf w) dL_daysLeft_5
  · replace hF : (if q = 2 then some ((-77) : Int32) else (if q = 5 then some ((-75) : Int32) else none)) = some r := hF
    by_cases e9 : q = 2
    · replace hF := fi_pos hF e9
      subst e9
      obtain rfl := Option.some.inj hF
      refine g_callVT hC hst [.int x1] (ex := 2) (c_X4_daysLeft l D cy a0 x1 w _ h1) q_1299 q_73 q_1296 q_1297 q_1298 h9_X4_daysLeft (T := TX4) (N := 15) (ci := 4) rfl hk0 ⟨Nat.le_of_ble_eq_true rfl, Nat.le_of_ble_eq_true rfl⟩ ⟨Nat.le_of_ble_eq_true rfl, Nat.le_of_ble_eq_true rfl⟩ (Nat.le_of_ble_eq_true rfl) rfl dL_daysLeft_2 (fun h2 _ hs => ?_)
      show gXt X 2 12 3 w h2 gE0 [(0, .ref a0), (1, .int x1)] 2 2
      refine g_catchL hC hL hT [] ⟨0, 5, 6, 32⟩ [⟨0, 5, 10, 53⟩] rfl (fun z hz => absurd hz List.not_mem_nil) (by decide) (by decide) q_316 q_411 (fun q9 => ?_)
      refine g_astore_n (L' := [(2, .ref q9), (0, .ref a0), (1, .int x1)]) hC dL_daysLeft_6 rfl (by decide) rfl ?_
      refine g_bipush (v := (-77)) hC dL_daysLeft_7 (by decide) ?_
      exact g_iret hC hEn (fSm.rf w) dL_daysLeft_9
    replace hF := fi_neg hF e9
    by_cases e9 : q = 5
    · replace hF := fi_pos hF e9
      subst e9
      obtain rfl := Option.some.inj hF
      refine g_callVT hC hst [.int x1] (ex := 5) (c_X4_daysLeft l D cy a0 x1 w _ h1) q_1299 q_73 q_1296 q_1297 q_1298 h9_X4_daysLeft (T := TX4) (N := 15) (ci := 4) rfl hk0 ⟨Nat.le_of_ble_eq_true rfl, Nat.le_of_ble_eq_true rfl⟩ ⟨Nat.le_of_ble_eq_true rfl, Nat.le_of_ble_eq_true rfl⟩ (Nat.le_of_ble_eq_true rfl) rfl dL_daysLeft_2 (fun h2 _ hs => ?_)
      show gXt X 2 12 3 w h2 gE0 [(0, .ref a0), (1, .int x1)] 5 2
      have hpass : ∀ z ∈ ([⟨0, 5, 6, 32⟩] : List ExceptionTableEntry), z.catchType ≠ 0 ∧ ∃ nm : String, Cond.classLink RL z.catchType nm ∈ lwA ∧ (exN 5, nm) ∈ ncL := by
        intro z hz
        simp only [List.mem_cons, List.not_mem_nil, or_false] at hz
        subst hz
        exact ⟨by decide, _, q_316, by decide +kernel⟩
      refine g_catchL hC hL hT [⟨0, 5, 6, 32⟩] ⟨0, 5, 10, 53⟩ [] rfl hpass (by decide) (by decide) q_516 q_527 (fun q9 => ?_)
      refine g_astore_n (L' := [(2, .ref q9), (0, .ref a0), (1, .int x1)]) hC dL_daysLeft_10 rfl (by decide) rfl ?_
      refine g_bipush (v := (-75)) hC dL_daysLeft_11 (by decide) ?_
      exact g_iret hC hEn (fSm.rf w) dL_daysLeft_13
    replace hF := fi_neg hF e9
    cases hF
theorem dL_sharing_0 : decode cL_sharing 0 = .ok (.aload_n 0, 1) := by decide +kernel
theorem dL_sharing_1 : decode cL_sharing 1 = .ok (.iload_n 1, 1) := by decide +kernel
theorem dL_sharing_2 : decode cL_sharing 2 = .ok (.invokevirtual 100, 3) := by decide +kernel
theorem dL_sharing_5 : decode cL_sharing 5 = .ok (.ireturn, 1) := by decide +kernel
theorem dL_sharing_6 : decode cL_sharing 6 = .ok (.astore_n 2, 1) := by decide +kernel
theorem dL_sharing_7 : decode cL_sharing 7 = .ok (.bipush (-77), 2) := by decide +kernel
theorem dL_sharing_9 : decode cL_sharing 9 = .ok (.ireturn, 1) := by decide +kernel
theorem h9_L_sharing : yL_sharing.cls ≠ "java/lang/invoke/MethodHandle" ∧ yL_sharing.cls ≠ "java/lang/invoke/VarHandle" ∧ (parseMethodDescriptor yL_sharing.desc).map (fun d => d.parameters.length) = some 2 := by decide +kernel
noncomputable def F_L_sharing (a0 : Nat) (x1 : Int32) (w : FW) : Option (Int32) :=
  fg (w.1 a0 = 5) inferInstance ((F_X4_sharing a0 x1 w).bind (fun r1 => fse r1 (fun v => some v) (fun q => (if q = 2 then some ((-77) : Int32) else none))))
set_option maxHeartbeats 4000000 in
set_option maxRecDepth 100000 in
theorem c_L_sharing (l : Launch) (D : va_G) (cy : Nat → ClassId) (a0 : Nat) (x1 : Int32) (w : FW) (r : Int32) (hF : F_L_sharing a0 x1 w = some r) : lSpec l D cy yL_sharing (.codeWith yL_sharing cL_sharing 3 (some .int) [(0, 5, 6, 32)]) { frames := 8, cells := 1, slots := 6, locals := 145 } [.ref a0, .int x1] gE0 none w w (some (.int r)) := by
  refine l_beginW (by decide +kernel) (Nat.le_of_ble_eq_true rfl) (fun X h hC hEn hL hT => ?_)
  have hst := lOK_st hC hL
  unfold F_L_sharing at hF
  obtain ⟨hk0, hF⟩ := fg_open hF
  obtain ⟨o9, h1, hF⟩ := fb_open hF
  show gAt X 0 0 3 w h gE0 [(0, .ref a0), (1, .int x1)] [] 0
  refine g_aload_n hC dL_sharing_0 rfl 0 rfl ?_
  refine g_iload_n hC dL_sharing_1 rfl 1 rfl ?_
  rcases o9 with v | q
  · obtain rfl := Option.some.inj hF
    refine g_callVR hC hst [.int x1] (rv := some (.int v)) (c_X4_sharing l D cy a0 x1 w _ h1) q_1267 q_73 q_1264 q_1265 q_1266 h9_X4_sharing (T := TX4) (N := 15) (ci := 4) rfl hk0 ⟨Nat.le_of_ble_eq_true rfl, Nat.le_of_ble_eq_true rfl⟩ ⟨Nat.le_of_ble_eq_true rfl, Nat.le_of_ble_eq_true rfl⟩ (Nat.le_of_ble_eq_true rfl) rfl dL_sharing_2 (fun h2 _ hs => ?_)
    show gAt X 1 6 3 w h2 gE0 [(0, .ref a0), (1, .int x1)] [.int v] 5
    exact g_iret hC hEn (fSm.rf w) dL_sharing_5
  · replace hF : (if q = 2 then some ((-77) : Int32) else none) = some r := hF
    by_cases e9 : q = 2
    · replace hF := fi_pos hF e9
      subst e9
      obtain rfl := Option.some.inj hF
      refine g_callVT hC hst [.int x1] (ex := 2) (c_X4_sharing l D cy a0 x1 w _ h1) q_1267 q_73 q_1264 q_1265 q_1266 h9_X4_sharing (T := TX4) (N := 15) (ci := 4) rfl hk0 ⟨Nat.le_of_ble_eq_true rfl, Nat.le_of_ble_eq_true rfl⟩ ⟨Nat.le_of_ble_eq_true rfl, Nat.le_of_ble_eq_true rfl⟩ (Nat.le_of_ble_eq_true rfl) rfl dL_sharing_2 (fun h2 _ hs => ?_)
      show gXt X 1 6 3 w h2 gE0 [(0, .ref a0), (1, .int x1)] 2 2
      refine g_catchL hC hL hT [] ⟨0, 5, 6, 32⟩ [] rfl (fun z hz => absurd hz List.not_mem_nil) (by decide) (by decide) q_316 q_411 (fun q9 => ?_)
      refine g_astore_n (L' := [(2, .ref q9), (0, .ref a0), (1, .int x1)]) hC dL_sharing_6 rfl (by decide) rfl ?_
      refine g_bipush (v := (-77)) hC dL_sharing_7 (by decide) ?_
      exact g_iret hC hEn (fSm.rf w) dL_sharing_9
    replace hF := fi_neg hF e9
    cases hF
theorem dL_often_0 : decode cL_often 0 = .ok (.aload_n 0, 1) := by decide +kernel
theorem dL_often_1 : decode cL_often 1 = .ok (.iload_n 1, 1) := by decide +kernel
theorem dL_often_2 : decode cL_often 2 = .ok (.invokevirtual 103, 3) := by decide +kernel
theorem dL_often_5 : decode cL_often 5 = .ok (.ireturn, 1) := by decide +kernel
theorem dL_often_6 : decode cL_often 6 = .ok (.astore_n 2, 1) := by decide +kernel
theorem dL_often_7 : decode cL_often 7 = .ok (.bipush (-78), 2) := by decide +kernel
theorem dL_often_9 : decode cL_often 9 = .ok (.ireturn, 1) := by decide +kernel
theorem h9_L_often : yL_often.cls ≠ "java/lang/invoke/MethodHandle" ∧ yL_often.cls ≠ "java/lang/invoke/VarHandle" ∧ (parseMethodDescriptor yL_often.desc).map (fun d => d.parameters.length) = some 2 := by decide +kernel
noncomputable def F_L_often (a0 : Nat) (x1 : Int32) (w : FW) : Option (Int32) :=
  fg (w.1 a0 = 5) inferInstance ((F_X4_often a0 x1 w).bind (fun r1 => fse r1 (fun v => some v) (fun q => (if q = 1 then some ((-78) : Int32) else none))))
set_option maxHeartbeats 4000000 in
set_option maxRecDepth 100000 in
theorem c_L_often (l : Launch) (D : va_G) (cy : Nat → ClassId) (a0 : Nat) (x1 : Int32) (w : FW) (r : Int32) (hF : F_L_often a0 x1 w = some r) : lSpec l D cy yL_often (.codeWith yL_often cL_often 3 (some .int) [(0, 5, 6, 20)]) { frames := 7, cells := 1, slots := 6, locals := 123 } [.ref a0, .int x1] gE0 none w w (some (.int r)) := by
  refine l_beginW (by decide +kernel) (Nat.le_of_ble_eq_true rfl) (fun X h hC hEn hL hT => ?_)
  have hst := lOK_st hC hL
  unfold F_L_often at hF
  obtain ⟨hk0, hF⟩ := fg_open hF
  obtain ⟨o9, h1, hF⟩ := fb_open hF
  show gAt X 0 0 3 w h gE0 [(0, .ref a0), (1, .int x1)] [] 0
  refine g_aload_n hC dL_often_0 rfl 0 rfl ?_
  refine g_iload_n hC dL_often_1 rfl 1 rfl ?_
  rcases o9 with v | q
  · obtain rfl := Option.some.inj hF
    refine g_callVR hC hst [.int x1] (rv := some (.int v)) (c_X4_often l D cy a0 x1 w _ h1) q_1344 q_73 q_1341 q_1342 q_1343 h9_X4_often (T := TX4) (N := 15) (ci := 4) rfl hk0 ⟨Nat.le_of_ble_eq_true rfl, Nat.le_of_ble_eq_true rfl⟩ ⟨Nat.le_of_ble_eq_true rfl, Nat.le_of_ble_eq_true rfl⟩ (Nat.le_of_ble_eq_true rfl) rfl dL_often_2 (fun h2 _ hs => ?_)
    show gAt X 1 6 3 w h2 gE0 [(0, .ref a0), (1, .int x1)] [.int v] 5
    exact g_iret hC hEn (fSm.rf w) dL_often_5
  · replace hF : (if q = 1 then some ((-78) : Int32) else none) = some r := hF
    by_cases e9 : q = 1
    · replace hF := fi_pos hF e9
      subst e9
      obtain rfl := Option.some.inj hF
      refine g_callVT hC hst [.int x1] (ex := 1) (c_X4_often l D cy a0 x1 w _ h1) q_1344 q_73 q_1341 q_1342 q_1343 h9_X4_often (T := TX4) (N := 15) (ci := 4) rfl hk0 ⟨Nat.le_of_ble_eq_true rfl, Nat.le_of_ble_eq_true rfl⟩ ⟨Nat.le_of_ble_eq_true rfl, Nat.le_of_ble_eq_true rfl⟩ (Nat.le_of_ble_eq_true rfl) rfl dL_often_2 (fun h2 _ hs => ?_)
      show gXt X 1 6 3 w h2 gE0 [(0, .ref a0), (1, .int x1)] 1 2
      refine g_catchL hC hL hT [] ⟨0, 5, 6, 20⟩ [] rfl (fun z hz => absurd hz List.not_mem_nil) (by decide) (by decide) q_396 q_499 (fun q9 => ?_)
      refine g_astore_n (L' := [(2, .ref q9), (0, .ref a0), (1, .int x1)]) hC dL_often_6 rfl (by decide) rfl ?_
      refine g_bipush (v := (-78)) hC dL_often_7 (by decide) ?_
      exact g_iret hC hEn (fSm.rf w) dL_often_9
    replace hF := fi_neg hF e9
    cases hF
theorem dL_ranked_0 : decode cL_ranked 0 = .ok (.aload_n 0, 1) := by decide +kernel
theorem dL_ranked_1 : decode cL_ranked 1 = .ok (.iload_n 1, 1) := by decide +kernel
theorem dL_ranked_2 : decode cL_ranked 2 = .ok (.iload_n 2, 1) := by decide +kernel
theorem dL_ranked_3 : decode cL_ranked 3 = .ok (.invokevirtual 106, 3) := by decide +kernel
theorem dL_ranked_6 : decode cL_ranked 6 = .ok (.ireturn, 1) := by decide +kernel
theorem dL_ranked_7 : decode cL_ranked 7 = .ok (.astore_n 3, 1) := by decide +kernel
theorem dL_ranked_8 : decode cL_ranked 8 = .ok (.bipush (-78), 2) := by decide +kernel
theorem dL_ranked_10 : decode cL_ranked 10 = .ok (.ireturn, 1) := by decide +kernel
theorem dL_ranked_11 : decode cL_ranked 11 = .ok (.astore_n 3, 1) := by decide +kernel
theorem dL_ranked_12 : decode cL_ranked 12 = .ok (.bipush (-75), 2) := by decide +kernel
theorem dL_ranked_14 : decode cL_ranked 14 = .ok (.ireturn, 1) := by decide +kernel
theorem h9_L_ranked : yL_ranked.cls ≠ "java/lang/invoke/MethodHandle" ∧ yL_ranked.cls ≠ "java/lang/invoke/VarHandle" ∧ (parseMethodDescriptor yL_ranked.desc).map (fun d => d.parameters.length) = some 3 := by decide +kernel
noncomputable def F_L_ranked (a0 : Nat) (x1 : Int32) (x2 : Int32) (w : FW) : Option (Int32) :=
  fg (w.1 a0 = 5) inferInstance ((F_X4_ranked a0 x1 x2 w).bind (fun r1 => fse r1 (fun v => some v) (fun q => (if q = 1 then some ((-78) : Int32) else (if q = 5 then some ((-75) : Int32) else none)))))
set_option maxHeartbeats 4000000 in
set_option maxRecDepth 100000 in
theorem c_L_ranked (l : Launch) (D : va_G) (cy : Nat → ClassId) (a0 : Nat) (x1 : Int32) (x2 : Int32) (w : FW) (r : Int32) (hF : F_L_ranked a0 x1 x2 w = some r) : lSpec l D cy yL_ranked (.codeWith yL_ranked cL_ranked 4 (some .int) [(0, 6, 7, 20), (0, 6, 11, 53)]) { frames := 7, cells := 1, slots := 6, locals := 156 } [.ref a0, .int x1, .int x2] gE0 none w w (some (.int r)) := by
  refine l_beginW (by decide +kernel) (Nat.le_of_ble_eq_true rfl) (fun X h hC hEn hL hT => ?_)
  have hst := lOK_st hC hL
  unfold F_L_ranked at hF
  obtain ⟨hk0, hF⟩ := fg_open hF
  obtain ⟨o9, h1, hF⟩ := fb_open hF
  show gAt X 0 0 4 w h gE0 [(0, .ref a0), (1, .int x1), (2, .int x2)] [] 0
  refine g_aload_n hC dL_ranked_0 rfl 0 rfl ?_
  refine g_iload_n hC dL_ranked_1 rfl 1 rfl ?_
  refine g_iload_n hC dL_ranked_2 rfl 2 rfl ?_
  rcases o9 with v | q
  · obtain rfl := Option.some.inj hF
    refine g_callVR hC hst [.int x1, .int x2] (rv := some (.int v)) (c_X4_ranked l D cy a0 x1 x2 w _ h1) q_1319 q_73 q_1316 q_1317 q_1318 h9_X4_ranked (T := TX4) (N := 15) (ci := 4) rfl hk0 ⟨Nat.le_of_ble_eq_true rfl, Nat.le_of_ble_eq_true rfl⟩ ⟨Nat.le_of_ble_eq_true rfl, Nat.le_of_ble_eq_true rfl⟩ (Nat.le_of_ble_eq_true rfl) rfl dL_ranked_3 (fun h2 _ hs => ?_)
    show gAt X 1 6 4 w h2 gE0 [(0, .ref a0), (1, .int x1), (2, .int x2)] [.int v] 6
    exact g_iret hC hEn (fSm.rf w) dL_ranked_6
  · replace hF : (if q = 1 then some ((-78) : Int32) else (if q = 5 then some ((-75) : Int32) else none)) = some r := hF
    by_cases e9 : q = 1
    · replace hF := fi_pos hF e9
      subst e9
      obtain rfl := Option.some.inj hF
      refine g_callVT hC hst [.int x1, .int x2] (ex := 1) (c_X4_ranked l D cy a0 x1 x2 w _ h1) q_1319 q_73 q_1316 q_1317 q_1318 h9_X4_ranked (T := TX4) (N := 15) (ci := 4) rfl hk0 ⟨Nat.le_of_ble_eq_true rfl, Nat.le_of_ble_eq_true rfl⟩ ⟨Nat.le_of_ble_eq_true rfl, Nat.le_of_ble_eq_true rfl⟩ (Nat.le_of_ble_eq_true rfl) rfl dL_ranked_3 (fun h2 _ hs => ?_)
      show gXt X 1 6 4 w h2 gE0 [(0, .ref a0), (1, .int x1), (2, .int x2)] 1 3
      refine g_catchL hC hL hT [] ⟨0, 6, 7, 20⟩ [⟨0, 6, 11, 53⟩] rfl (fun z hz => absurd hz List.not_mem_nil) (by decide) (by decide) q_396 q_499 (fun q9 => ?_)
      refine g_astore_n (L' := [(3, .ref q9), (0, .ref a0), (1, .int x1), (2, .int x2)]) hC dL_ranked_7 rfl (by decide) rfl ?_
      refine g_bipush (v := (-78)) hC dL_ranked_8 (by decide) ?_
      exact g_iret hC hEn (fSm.rf w) dL_ranked_10
    replace hF := fi_neg hF e9
    by_cases e9 : q = 5
    · replace hF := fi_pos hF e9
      subst e9
      obtain rfl := Option.some.inj hF
      refine g_callVT hC hst [.int x1, .int x2] (ex := 5) (c_X4_ranked l D cy a0 x1 x2 w _ h1) q_1319 q_73 q_1316 q_1317 q_1318 h9_X4_ranked (T := TX4) (N := 15) (ci := 4) rfl hk0 ⟨Nat.le_of_ble_eq_true rfl, Nat.le_of_ble_eq_true rfl⟩ ⟨Nat.le_of_ble_eq_true rfl, Nat.le_of_ble_eq_true rfl⟩ (Nat.le_of_ble_eq_true rfl) rfl dL_ranked_3 (fun h2 _ hs => ?_)
      show gXt X 1 6 4 w h2 gE0 [(0, .ref a0), (1, .int x1), (2, .int x2)] 5 3
      have hpass : ∀ z ∈ ([⟨0, 6, 7, 20⟩] : List ExceptionTableEntry), z.catchType ≠ 0 ∧ ∃ nm : String, Cond.classLink RL z.catchType nm ∈ lwA ∧ (exN 5, nm) ∈ ncL := by
        intro z hz
        simp only [List.mem_cons, List.not_mem_nil, or_false] at hz
        subst hz
        exact ⟨by decide, _, q_396, by decide +kernel⟩
      refine g_catchL hC hL hT [⟨0, 6, 7, 20⟩] ⟨0, 6, 11, 53⟩ [] rfl hpass (by decide) (by decide) q_516 q_527 (fun q9 => ?_)
      refine g_astore_n (L' := [(3, .ref q9), (0, .ref a0), (1, .int x1), (2, .int x2)]) hC dL_ranked_11 rfl (by decide) rfl ?_
      refine g_bipush (v := (-75)) hC dL_ranked_12 (by decide) ?_
      exact g_iret hC hEn (fSm.rf w) dL_ranked_14
    replace hF := fi_neg hF e9
    cases hF
theorem dL_line_0 : decode cL_line 0 = .ok (.aload_n 0, 1) := by decide +kernel
theorem dL_line_1 : decode cL_line 1 = .ok (.iload_n 1, 1) := by decide +kernel
theorem dL_line_2 : decode cL_line 2 = .ok (.invokevirtual 109, 3) := by decide +kernel
theorem dL_line_5 : decode cL_line 5 = .ok (.ireturn, 1) := by decide +kernel
theorem dL_line_6 : decode cL_line 6 = .ok (.astore_n 2, 1) := by decide +kernel
theorem dL_line_7 : decode cL_line 7 = .ok (.bipush (-77), 2) := by decide +kernel
theorem dL_line_9 : decode cL_line 9 = .ok (.ireturn, 1) := by decide +kernel
theorem h9_L_line : yL_line.cls ≠ "java/lang/invoke/MethodHandle" ∧ yL_line.cls ≠ "java/lang/invoke/VarHandle" ∧ (parseMethodDescriptor yL_line.desc).map (fun d => d.parameters.length) = some 2 := by decide +kernel
noncomputable def F_L_line (a0 : Nat) (x1 : Int32) (w : FW) : Option (Int32 × FW) :=
  fg (w.1 a0 = 5) inferInstance ((F_X4_line a0 x1 w).bind (fun r1 => fse r1.1 (fun v => some (v, r1.2)) (fun q => (if q = 2 then some (((-77) : Int32), r1.2) else none))))
set_option maxHeartbeats 4000000 in
set_option maxRecDepth 100000 in
theorem c_L_line (l : Launch) (D : va_G) (cy : Nat → ClassId) (a0 : Nat) (x1 : Int32) (w : FW) (r : Int32 × FW) (hF : F_L_line a0 x1 w = some r) : lSpec l D cy yL_line (.codeWith yL_line cL_line 3 (some .int) [(0, 5, 6, 32)]) { frames := 8, cells := 1, slots := 6, locals := 177 } [.ref a0, .int x1] gE0 none w r.2 (some (.int r.1)) := by
  refine l_beginW (by decide +kernel) (Nat.le_of_ble_eq_true rfl) (fun X h hC hEn hL hT => ?_)
  have hst := lOK_st hC hL
  unfold F_L_line at hF
  obtain ⟨hk0, hF⟩ := fg_open hF
  obtain ⟨o9, h1, hF⟩ := fb_open hF
  show gAt X 0 0 3 w h gE0 [(0, .ref a0), (1, .int x1)] [] 0
  refine g_aload_n hC dL_line_0 rfl 0 rfl ?_
  refine g_iload_n hC dL_line_1 rfl 1 rfl ?_
  obtain ⟨o9, w1⟩ := o9
  rcases o9 with v | q
  · obtain rfl := Option.some.inj hF
    refine g_callVR hC hst [.int x1] (rv := some (.int v)) (c_X4_line l D cy a0 x1 w _ h1) q_1308 q_73 q_1305 q_1306 q_1307 h9_X4_line (T := TX4) (N := 15) (ci := 4) rfl hk0 ⟨Nat.le_of_ble_eq_true rfl, Nat.le_of_ble_eq_true rfl⟩ ⟨Nat.le_of_ble_eq_true rfl, Nat.le_of_ble_eq_true rfl⟩ (Nat.le_of_ble_eq_true rfl) rfl dL_line_2 (fun h2 _ hs => ?_)
    show gAt X 1 6 3 w1 h2 gE0 [(0, .ref a0), (1, .int x1)] [.int v] 5
    exact g_iret hC hEn hs dL_line_5
  · replace hF : (if q = 2 then some (((-77) : Int32), w1) else none) = some r := hF
    by_cases e9 : q = 2
    · replace hF := fi_pos hF e9
      subst e9
      obtain rfl := Option.some.inj hF
      refine g_callVT hC hst [.int x1] (ex := 2) (c_X4_line l D cy a0 x1 w _ h1) q_1308 q_73 q_1305 q_1306 q_1307 h9_X4_line (T := TX4) (N := 15) (ci := 4) rfl hk0 ⟨Nat.le_of_ble_eq_true rfl, Nat.le_of_ble_eq_true rfl⟩ ⟨Nat.le_of_ble_eq_true rfl, Nat.le_of_ble_eq_true rfl⟩ (Nat.le_of_ble_eq_true rfl) rfl dL_line_2 (fun h2 _ hs => ?_)
      show gXt X 1 6 3 w1 h2 gE0 [(0, .ref a0), (1, .int x1)] 2 2
      refine g_catchL hC hL hT [] ⟨0, 5, 6, 32⟩ [] rfl (fun z hz => absurd hz List.not_mem_nil) (by decide) (by decide) q_316 q_411 (fun q9 => ?_)
      refine g_astore_n (L' := [(2, .ref q9), (0, .ref a0), (1, .int x1)]) hC dL_line_6 rfl (by decide) rfl ?_
      refine g_bipush (v := (-77)) hC dL_line_7 (by decide) ?_
      exact g_iret hC hEn hs dL_line_9
    replace hF := fi_neg hF e9
    cases hF
theorem dL_holeLine_0 : decode cL_holeLine 0 = .ok (.aload_n 0, 1) := by decide +kernel
theorem dL_holeLine_1 : decode cL_holeLine 1 = .ok (.iload_n 1, 1) := by decide +kernel
theorem dL_holeLine_2 : decode cL_holeLine 2 = .ok (.iload_n 2, 1) := by decide +kernel
theorem dL_holeLine_3 : decode cL_holeLine 3 = .ok (.invokevirtual 112, 3) := by decide +kernel
theorem dL_holeLine_6 : decode cL_holeLine 6 = .ok (.ireturn, 1) := by decide +kernel
theorem dL_holeLine_7 : decode cL_holeLine 7 = .ok (.astore_n 3, 1) := by decide +kernel
theorem dL_holeLine_8 : decode cL_holeLine 8 = .ok (.bipush (-77), 2) := by decide +kernel
theorem dL_holeLine_10 : decode cL_holeLine 10 = .ok (.ireturn, 1) := by decide +kernel
theorem dL_holeLine_11 : decode cL_holeLine 11 = .ok (.astore_n 3, 1) := by decide +kernel
theorem dL_holeLine_12 : decode cL_holeLine 12 = .ok (.bipush (-75), 2) := by decide +kernel
theorem dL_holeLine_14 : decode cL_holeLine 14 = .ok (.ireturn, 1) := by decide +kernel
theorem h9_L_holeLine : yL_holeLine.cls ≠ "java/lang/invoke/MethodHandle" ∧ yL_holeLine.cls ≠ "java/lang/invoke/VarHandle" ∧ (parseMethodDescriptor yL_holeLine.desc).map (fun d => d.parameters.length) = some 3 := by decide +kernel
noncomputable def F_L_holeLine (a0 : Nat) (x1 : Int32) (x2 : Int32) (w : FW) : Option (Int32 × FW) :=
  fg (w.1 a0 = 5) inferInstance ((F_X4_holeLine a0 x1 x2 w).bind (fun r1 => fse r1.1 (fun v => some (v, r1.2)) (fun q => (if q = 2 then some (((-77) : Int32), r1.2) else (if q = 5 then some (((-75) : Int32), r1.2) else none)))))
set_option maxHeartbeats 4000000 in
set_option maxRecDepth 100000 in
theorem c_L_holeLine (l : Launch) (D : va_G) (cy : Nat → ClassId) (a0 : Nat) (x1 : Int32) (x2 : Int32) (w : FW) (r : Int32 × FW) (hF : F_L_holeLine a0 x1 x2 w = some r) : lSpec l D cy yL_holeLine (.codeWith yL_holeLine cL_holeLine 4 (some .int) [(0, 6, 7, 32), (0, 6, 11, 53)]) { frames := 8, cells := 2, slots := 12, locals := 149 } [.ref a0, .int x1, .int x2] gE0 none w r.2 (some (.int r.1)) := by
  refine l_beginW (by decide +kernel) (Nat.le_of_ble_eq_true rfl) (fun X h hC hEn hL hT => ?_)
  have hst := lOK_st hC hL
  unfold F_L_holeLine at hF
  obtain ⟨hk0, hF⟩ := fg_open hF
  obtain ⟨o9, h1, hF⟩ := fb_open hF
  show gAt X 0 0 4 w h gE0 [(0, .ref a0), (1, .int x1), (2, .int x2)] [] 0
  refine g_aload_n hC dL_holeLine_0 rfl 0 rfl ?_
  refine g_iload_n hC dL_holeLine_1 rfl 1 rfl ?_
  refine g_iload_n hC dL_holeLine_2 rfl 2 rfl ?_
  obtain ⟨o9, w1⟩ := o9
  rcases o9 with v | q
  · obtain rfl := Option.some.inj hF
    refine g_callVR hC hst [.int x1, .int x2] (rv := some (.int v)) (c_X4_holeLine l D cy a0 x1 x2 w _ h1) q_1252 q_73 q_1249 q_1250 q_1251 h9_X4_holeLine (T := TX4) (N := 15) (ci := 4) rfl hk0 ⟨Nat.le_of_ble_eq_true rfl, Nat.le_of_ble_eq_true rfl⟩ ⟨Nat.le_of_ble_eq_true rfl, Nat.le_of_ble_eq_true rfl⟩ (Nat.le_of_ble_eq_true rfl) rfl dL_holeLine_3 (fun h2 _ hs => ?_)
    show gAt X 2 12 4 w1 h2 gE0 [(0, .ref a0), (1, .int x1), (2, .int x2)] [.int v] 6
    exact g_iret hC hEn hs dL_holeLine_6
  · replace hF : (if q = 2 then some (((-77) : Int32), w1) else (if q = 5 then some (((-75) : Int32), w1) else none)) = some r := hF
    by_cases e9 : q = 2
    · replace hF := fi_pos hF e9
      subst e9
      obtain rfl := Option.some.inj hF
      refine g_callVT hC hst [.int x1, .int x2] (ex := 2) (c_X4_holeLine l D cy a0 x1 x2 w _ h1) q_1252 q_73 q_1249 q_1250 q_1251 h9_X4_holeLine (T := TX4) (N := 15) (ci := 4) rfl hk0 ⟨Nat.le_of_ble_eq_true rfl, Nat.le_of_ble_eq_true rfl⟩ ⟨Nat.le_of_ble_eq_true rfl, Nat.le_of_ble_eq_true rfl⟩ (Nat.le_of_ble_eq_true rfl) rfl dL_holeLine_3 (fun h2 _ hs => ?_)
      show gXt X 2 12 4 w1 h2 gE0 [(0, .ref a0), (1, .int x1), (2, .int x2)] 2 3
      refine g_catchL hC hL hT [] ⟨0, 6, 7, 32⟩ [⟨0, 6, 11, 53⟩] rfl (fun z hz => absurd hz List.not_mem_nil) (by decide) (by decide) q_316 q_411 (fun q9 => ?_)
      refine g_astore_n (L' := [(3, .ref q9), (0, .ref a0), (1, .int x1), (2, .int x2)]) hC dL_holeLine_7 rfl (by decide) rfl ?_
      refine g_bipush (v := (-77)) hC dL_holeLine_8 (by decide) ?_
      exact g_iret hC hEn hs dL_holeLine_10
    replace hF := fi_neg hF e9
    by_cases e9 : q = 5
    · replace hF := fi_pos hF e9
      subst e9
      obtain rfl := Option.some.inj hF
      refine g_callVT hC hst [.int x1, .int x2] (ex := 5) (c_X4_holeLine l D cy a0 x1 x2 w _ h1) q_1252 q_73 q_1249 q_1250 q_1251 h9_X4_holeLine (T := TX4) (N := 15) (ci := 4) rfl hk0 ⟨Nat.le_of_ble_eq_true rfl, Nat.le_of_ble_eq_true rfl⟩ ⟨Nat.le_of_ble_eq_true rfl, Nat.le_of_ble_eq_true rfl⟩ (Nat.le_of_ble_eq_true rfl) rfl dL_holeLine_3 (fun h2 _ hs => ?_)
      show gXt X 2 12 4 w1 h2 gE0 [(0, .ref a0), (1, .int x1), (2, .int x2)] 5 3
      have hpass : ∀ z ∈ ([⟨0, 6, 7, 32⟩] : List ExceptionTableEntry), z.catchType ≠ 0 ∧ ∃ nm : String, Cond.classLink RL z.catchType nm ∈ lwA ∧ (exN 5, nm) ∈ ncL := by
        intro z hz
        simp only [List.mem_cons, List.not_mem_nil, or_false] at hz
        subst hz
        exact ⟨by decide, _, q_316, by decide +kernel⟩
      refine g_catchL hC hL hT [⟨0, 6, 7, 32⟩] ⟨0, 6, 11, 53⟩ [] rfl hpass (by decide) (by decide) q_516 q_527 (fun q9 => ?_)
      refine g_astore_n (L' := [(3, .ref q9), (0, .ref a0), (1, .int x1), (2, .int x2)]) hC dL_holeLine_11 rfl (by decide) rfl ?_
      refine g_bipush (v := (-75)) hC dL_holeLine_12 (by decide) ?_
      exact g_iret hC hEn hs dL_holeLine_14
    replace hF := fi_neg hF e9
    cases hF
theorem dL_refusal_0 : decode cL_refusal 0 = .ok (.aload_n 0, 1) := by decide +kernel
theorem dL_refusal_1 : decode cL_refusal 1 = .ok (.iload_n 1, 1) := by decide +kernel
theorem dL_refusal_2 : decode cL_refusal 2 = .ok (.invokevirtual 119, 3) := by decide +kernel
theorem dL_refusal_5 : decode cL_refusal 5 = .ok (.ireturn, 1) := by decide +kernel
theorem dL_refusal_6 : decode cL_refusal 6 = .ok (.astore_n 2, 1) := by decide +kernel
theorem dL_refusal_7 : decode cL_refusal 7 = .ok (.bipush (-79), 2) := by decide +kernel
theorem dL_refusal_9 : decode cL_refusal 9 = .ok (.ireturn, 1) := by decide +kernel
theorem h9_L_refusal : yL_refusal.cls ≠ "java/lang/invoke/MethodHandle" ∧ yL_refusal.cls ≠ "java/lang/invoke/VarHandle" ∧ (parseMethodDescriptor yL_refusal.desc).map (fun d => d.parameters.length) = some 2 := by decide +kernel
noncomputable def F_L_refusal (a0 : Nat) (x1 : Int32) (w : FW) : Option (Int32) :=
  fg (w.1 a0 = 5) inferInstance ((F_X4_refusal a0 x1 w).bind (fun r1 => fse r1 (fun v => some v) (fun q => (if q = 0 then some ((-79) : Int32) else none))))
set_option maxHeartbeats 4000000 in
set_option maxRecDepth 100000 in
theorem c_L_refusal (l : Launch) (D : va_G) (cy : Nat → ClassId) (a0 : Nat) (x1 : Int32) (w : FW) (r : Int32) (hF : F_L_refusal a0 x1 w = some r) : lSpec l D cy yL_refusal (.codeWith yL_refusal cL_refusal 3 (some .int) [(0, 5, 6, 123)]) { frames := 7, cells := 1, slots := 6, locals := 121 } [.ref a0, .int x1] gE0 none w w (some (.int r)) := by
  refine l_beginW (by decide +kernel) (Nat.le_of_ble_eq_true rfl) (fun X h hC hEn hL hT => ?_)
  have hst := lOK_st hC hL
  unfold F_L_refusal at hF
  obtain ⟨hk0, hF⟩ := fg_open hF
  obtain ⟨o9, h1, hF⟩ := fb_open hF
  show gAt X 0 0 3 w h gE0 [(0, .ref a0), (1, .int x1)] [] 0
  refine g_aload_n hC dL_refusal_0 rfl 0 rfl ?_
  refine g_iload_n hC dL_refusal_1 rfl 1 rfl ?_
  rcases o9 with v | q
  · obtain rfl := Option.some.inj hF
    refine g_callVR hC hst [.int x1] (rv := some (.int v)) (c_X4_refusal l D cy a0 x1 w _ h1) q_578 q_73 q_575 q_576 q_577 h9_X4_refusal (T := TX4) (N := 15) (ci := 4) rfl hk0 ⟨Nat.le_of_ble_eq_true rfl, Nat.le_of_ble_eq_true rfl⟩ ⟨Nat.le_of_ble_eq_true rfl, Nat.le_of_ble_eq_true rfl⟩ (Nat.le_of_ble_eq_true rfl) rfl dL_refusal_2 (fun h2 _ hs => ?_)
    show gAt X 1 6 3 w h2 gE0 [(0, .ref a0), (1, .int x1)] [.int v] 5
    exact g_iret hC hEn (fSm.rf w) dL_refusal_5
  · replace hF : (if q = 0 then some ((-79) : Int32) else none) = some r := hF
    by_cases e9 : q = 0
    · replace hF := fi_pos hF e9
      subst e9
      obtain rfl := Option.some.inj hF
      refine g_callVT hC hst [.int x1] (ex := 0) (c_X4_refusal l D cy a0 x1 w _ h1) q_578 q_73 q_575 q_576 q_577 h9_X4_refusal (T := TX4) (N := 15) (ci := 4) rfl hk0 ⟨Nat.le_of_ble_eq_true rfl, Nat.le_of_ble_eq_true rfl⟩ ⟨Nat.le_of_ble_eq_true rfl, Nat.le_of_ble_eq_true rfl⟩ (Nat.le_of_ble_eq_true rfl) rfl dL_refusal_2 (fun h2 _ hs => ?_)
      show gXt X 1 6 3 w h2 gE0 [(0, .ref a0), (1, .int x1)] 0 2
      refine g_catchL hC hL hT [] ⟨0, 5, 6, 123⟩ [] rfl (fun z hz => absurd hz List.not_mem_nil) (by decide) (by decide) q_574 q_581 (fun q9 => ?_)
      refine g_astore_n (L' := [(2, .ref q9), (0, .ref a0), (1, .int x1)]) hC dL_refusal_6 rfl (by decide) rfl ?_
      refine g_bipush (v := (-79)) hC dL_refusal_7 (by decide) ?_
      exact g_iret hC hEn (fSm.rf w) dL_refusal_9
    replace hF := fi_neg hF e9
    cases hF
theorem dL_account_0 : decode cL_account 0 = .ok (.aload_n 0, 1) := by decide +kernel
theorem dL_account_1 : decode cL_account 1 = .ok (.iload_n 1, 1) := by decide +kernel
theorem dL_account_2 : decode cL_account 2 = .ok (.invokevirtual 125, 3) := by decide +kernel
theorem dL_account_5 : decode cL_account 5 = .ok (.ireturn, 1) := by decide +kernel
theorem dL_account_6 : decode cL_account 6 = .ok (.astore_n 2, 1) := by decide +kernel
theorem dL_account_7 : decode cL_account 7 = .ok (.bipush (-78), 2) := by decide +kernel
theorem dL_account_9 : decode cL_account 9 = .ok (.ireturn, 1) := by decide +kernel
theorem h9_L_account : yL_account.cls ≠ "java/lang/invoke/MethodHandle" ∧ yL_account.cls ≠ "java/lang/invoke/VarHandle" ∧ (parseMethodDescriptor yL_account.desc).map (fun d => d.parameters.length) = some 2 := by decide +kernel
noncomputable def F_L_account (a0 : Nat) (x1 : Int32) (w : FW) : Option (Int32) :=
  fg (w.1 a0 = 5) inferInstance ((F_X4_account a0 x1 w).bind (fun r1 => fse r1 (fun v => some v) (fun q => (if q = 1 then some ((-78) : Int32) else none))))
set_option maxHeartbeats 4000000 in
set_option maxRecDepth 100000 in
theorem c_L_account (l : Launch) (D : va_G) (cy : Nat → ClassId) (a0 : Nat) (x1 : Int32) (w : FW) (r : Int32) (hF : F_L_account a0 x1 w = some r) : lSpec l D cy yL_account (.codeWith yL_account cL_account 3 (some .int) [(0, 5, 6, 20)]) { frames := 7, cells := 1, slots := 6, locals := 129 } [.ref a0, .int x1] gE0 none w w (some (.int r)) := by
  refine l_beginW (by decide +kernel) (Nat.le_of_ble_eq_true rfl) (fun X h hC hEn hL hT => ?_)
  have hst := lOK_st hC hL
  unfold F_L_account at hF
  obtain ⟨hk0, hF⟩ := fg_open hF
  obtain ⟨o9, h1, hF⟩ := fb_open hF
  show gAt X 0 0 3 w h gE0 [(0, .ref a0), (1, .int x1)] [] 0
  refine g_aload_n hC dL_account_0 rfl 0 rfl ?_
  refine g_iload_n hC dL_account_1 rfl 1 rfl ?_
  rcases o9 with v | q
  · obtain rfl := Option.some.inj hF
    refine g_callVR hC hst [.int x1] (rv := some (.int v)) (c_X4_account l D cy a0 x1 w _ h1) q_601 q_73 q_598 q_599 q_600 h9_X4_account (T := TX4) (N := 15) (ci := 4) rfl hk0 ⟨Nat.le_of_ble_eq_true rfl, Nat.le_of_ble_eq_true rfl⟩ ⟨Nat.le_of_ble_eq_true rfl, Nat.le_of_ble_eq_true rfl⟩ (Nat.le_of_ble_eq_true rfl) rfl dL_account_2 (fun h2 _ hs => ?_)
    show gAt X 1 6 3 w h2 gE0 [(0, .ref a0), (1, .int x1)] [.int v] 5
    exact g_iret hC hEn (fSm.rf w) dL_account_5
  · replace hF : (if q = 1 then some ((-78) : Int32) else none) = some r := hF
    by_cases e9 : q = 1
    · replace hF := fi_pos hF e9
      subst e9
      obtain rfl := Option.some.inj hF
      refine g_callVT hC hst [.int x1] (ex := 1) (c_X4_account l D cy a0 x1 w _ h1) q_601 q_73 q_598 q_599 q_600 h9_X4_account (T := TX4) (N := 15) (ci := 4) rfl hk0 ⟨Nat.le_of_ble_eq_true rfl, Nat.le_of_ble_eq_true rfl⟩ ⟨Nat.le_of_ble_eq_true rfl, Nat.le_of_ble_eq_true rfl⟩ (Nat.le_of_ble_eq_true rfl) rfl dL_account_2 (fun h2 _ hs => ?_)
      show gXt X 1 6 3 w h2 gE0 [(0, .ref a0), (1, .int x1)] 1 2
      refine g_catchL hC hL hT [] ⟨0, 5, 6, 20⟩ [] rfl (fun z hz => absurd hz List.not_mem_nil) (by decide) (by decide) q_396 q_499 (fun q9 => ?_)
      refine g_astore_n (L' := [(2, .ref q9), (0, .ref a0), (1, .int x1)]) hC dL_account_6 rfl (by decide) rfl ?_
      refine g_bipush (v := (-78)) hC dL_account_7 (by decide) ?_
      exact g_iret hC hEn (fSm.rf w) dL_account_9
    replace hF := fi_neg hF e9
    cases hF
theorem dL_meanWet_0 : decode cL_meanWet 0 = .ok (.aload_n 0, 1) := by decide +kernel
theorem dL_meanWet_1 : decode cL_meanWet 1 = .ok (.invokevirtual 128, 3) := by decide +kernel
theorem dL_meanWet_4 : decode cL_meanWet 4 = .ok (.dreturn, 1) := by decide +kernel
theorem dL_meanWet_5 : decode cL_meanWet 5 = .ok (.astore_n 1, 1) := by decide +kernel
theorem dL_meanWet_6 : decode cL_meanWet 6 = .ok (.ldc2_w 134, 3) := by decide +kernel
theorem dL_meanWet_9 : decode cL_meanWet 9 = .ok (.dreturn, 1) := by decide +kernel
theorem h9_L_meanWet : yL_meanWet.cls ≠ "java/lang/invoke/MethodHandle" ∧ yL_meanWet.cls ≠ "java/lang/invoke/VarHandle" ∧ (parseMethodDescriptor yL_meanWet.desc).map (fun d => d.parameters.length) = some 1 := by decide +kernel
noncomputable def F_L_meanWet (a0 : Nat) (w : FW) : Option (UInt64) :=
  fg (w.1 a0 = 5) inferInstance ((F_X4_meanWet a0 w).bind (fun r1 => fse r1 (fun v => some v) (fun q => (if q = 3 then some (13858279740860792832 : UInt64) else none))))
set_option maxHeartbeats 4000000 in
set_option maxRecDepth 100000 in
theorem c_L_meanWet (l : Launch) (D : va_G) (cy : Nat → ClassId) (a0 : Nat) (w : FW) (r : UInt64) (hF : F_L_meanWet a0 w = some r) : lSpec l D cy yL_meanWet (.codeWith yL_meanWet cL_meanWet 2 (some .double) [(0, 4, 5, 132)]) { frames := 7, cells := 1, slots := 6, locals := 123 } [.ref a0] gE0 none w w (some (.double r)) := by
  refine l_beginW (by decide +kernel) (Nat.le_of_ble_eq_true rfl) (fun X h hC hEn hL hT => ?_)
  have hst := lOK_st hC hL
  unfold F_L_meanWet at hF
  obtain ⟨hk0, hF⟩ := fg_open hF
  obtain ⟨o9, h1, hF⟩ := fb_open hF
  show gAt X 0 0 2 w h gE0 [(0, .ref a0)] [] 0
  refine g_aload_n hC dL_meanWet_0 rfl 0 rfl ?_
  rcases o9 with v | q
  · obtain rfl := Option.some.inj hF
    refine g_callVR hC hst [] (rv := some (.double v)) (c_X4_meanWet l D cy a0 w _ h1) q_1381 q_73 q_1378 q_1379 q_1380 h9_X4_meanWet (T := TX4) (N := 15) (ci := 4) rfl hk0 ⟨Nat.le_of_ble_eq_true rfl, Nat.le_of_ble_eq_true rfl⟩ ⟨Nat.le_of_ble_eq_true rfl, Nat.le_of_ble_eq_true rfl⟩ (Nat.le_of_ble_eq_true rfl) rfl dL_meanWet_1 (fun h2 _ hs => ?_)
    show gAt X 1 6 2 w h2 gE0 [(0, .ref a0)] [.double v] 4
    exact g_dret hC hEn (fSm.rf w) dL_meanWet_4
  · replace hF : (if q = 3 then some (13858279740860792832 : UInt64) else none) = some r := hF
    by_cases e9 : q = 3
    · replace hF := fi_pos hF e9
      subst e9
      obtain rfl := Option.some.inj hF
      refine g_callVT hC hst [] (ex := 3) (c_X4_meanWet l D cy a0 w _ h1) q_1381 q_73 q_1378 q_1379 q_1380 h9_X4_meanWet (T := TX4) (N := 15) (ci := 4) rfl hk0 ⟨Nat.le_of_ble_eq_true rfl, Nat.le_of_ble_eq_true rfl⟩ ⟨Nat.le_of_ble_eq_true rfl, Nat.le_of_ble_eq_true rfl⟩ (Nat.le_of_ble_eq_true rfl) rfl dL_meanWet_1 (fun h2 _ hs => ?_)
      show gXt X 1 6 2 w h2 gE0 [(0, .ref a0)] 3 1
      refine g_catchL hC hL hT [] ⟨0, 4, 5, 132⟩ [] rfl (fun z hz => absurd hz List.not_mem_nil) (by decide) (by decide) q_1364 q_1376 (fun q9 => ?_)
      refine g_astore_n (L' := [(1, .ref q9), (0, .ref a0)]) hC dL_meanWet_5 rfl (by decide) rfl ?_
      refine g_ldc2d hC q_1359 dL_meanWet_6 ?_
      exact g_dret hC hEn (fSm.rf w) dL_meanWet_9
    replace hF := fi_neg hF e9
    cases hF
theorem dL_readShare_0 : decode cL_readShare 0 = .ok (.aload_n 0, 1) := by decide +kernel
theorem dL_readShare_1 : decode cL_readShare 1 = .ok (.invokevirtual 136, 3) := by decide +kernel
theorem dL_readShare_4 : decode cL_readShare 4 = .ok (.freturn, 1) := by decide +kernel
theorem dL_readShare_5 : decode cL_readShare 5 = .ok (.astore_n 1, 1) := by decide +kernel
theorem dL_readShare_6 : decode cL_readShare 6 = .ok (.ldc 140, 2) := by decide +kernel
theorem dL_readShare_8 : decode cL_readShare 8 = .ok (.freturn, 1) := by decide +kernel
theorem h9_L_readShare : yL_readShare.cls ≠ "java/lang/invoke/MethodHandle" ∧ yL_readShare.cls ≠ "java/lang/invoke/VarHandle" ∧ (parseMethodDescriptor yL_readShare.desc).map (fun d => d.parameters.length) = some 1 := by decide +kernel
noncomputable def F_L_readShare (a0 : Nat) (w : FW) : Option (UInt32) :=
  fg (w.1 a0 = 5) inferInstance ((F_X4_readShare a0 w).bind (fun r1 => fse r1 (fun v => some v) (fun q => (if q = 3 then some (3264479232 : UInt32) else none))))
set_option maxHeartbeats 4000000 in
set_option maxRecDepth 100000 in
theorem c_L_readShare (l : Launch) (D : va_G) (cy : Nat → ClassId) (a0 : Nat) (w : FW) (r : UInt32) (hF : F_L_readShare a0 w = some r) : lSpec l D cy yL_readShare (.codeWith yL_readShare cL_readShare 2 (some .float) [(0, 4, 5, 132)]) { frames := 9, cells := 1, slots := 6, locals := 197 } [.ref a0] gE0 none w w (some (.float r)) := by
  refine l_beginW (by decide +kernel) (Nat.le_of_ble_eq_true rfl) (fun X h hC hEn hL hT => ?_)
  have hst := lOK_st hC hL
  unfold F_L_readShare at hF
  obtain ⟨hk0, hF⟩ := fg_open hF
  obtain ⟨o9, h1, hF⟩ := fb_open hF
  show gAt X 0 0 2 w h gE0 [(0, .ref a0)] [] 0
  refine g_aload_n hC dL_readShare_0 rfl 0 rfl ?_
  rcases o9 with v | q
  · obtain rfl := Option.some.inj hF
    refine g_callVR hC hst [] (rv := some (.float v)) (c_X4_readShare l D cy a0 w _ h1) q_1392 q_73 q_1389 q_1390 q_1391 h9_X4_readShare (T := TX4) (N := 15) (ci := 4) rfl hk0 ⟨Nat.le_of_ble_eq_true rfl, Nat.le_of_ble_eq_true rfl⟩ ⟨Nat.le_of_ble_eq_true rfl, Nat.le_of_ble_eq_true rfl⟩ (Nat.le_of_ble_eq_true rfl) rfl dL_readShare_1 (fun h2 _ hs => ?_)
    show gAt X 1 6 2 w h2 gE0 [(0, .ref a0)] [.float v] 4
    exact g_fret hC hEn (fSm.rf w) dL_readShare_4
  · replace hF : (if q = 3 then some (3264479232 : UInt32) else none) = some r := hF
    by_cases e9 : q = 3
    · replace hF := fi_pos hF e9
      subst e9
      obtain rfl := Option.some.inj hF
      refine g_callVT hC hst [] (ex := 3) (c_X4_readShare l D cy a0 w _ h1) q_1392 q_73 q_1389 q_1390 q_1391 h9_X4_readShare (T := TX4) (N := 15) (ci := 4) rfl hk0 ⟨Nat.le_of_ble_eq_true rfl, Nat.le_of_ble_eq_true rfl⟩ ⟨Nat.le_of_ble_eq_true rfl, Nat.le_of_ble_eq_true rfl⟩ (Nat.le_of_ble_eq_true rfl) rfl dL_readShare_1 (fun h2 _ hs => ?_)
      show gXt X 1 6 2 w h2 gE0 [(0, .ref a0)] 3 1
      refine g_catchL hC hL hT [] ⟨0, 4, 5, 132⟩ [] rfl (fun z hz => absurd hz List.not_mem_nil) (by decide) (by decide) q_1364 q_1376 (fun q9 => ?_)
      refine g_astore_n (L' := [(1, .ref q9), (0, .ref a0)]) hC dL_readShare_5 rfl (by decide) rfl ?_
      refine g_ldcF hC q_1360 dL_readShare_6 ?_
      exact g_fret hC hEn (fSm.rf w) dL_readShare_8
    replace hF := fi_neg hF e9
    cases hF
theorem dL_append_0 : decode cL_append 0 = .ok (.aload_n 0, 1) := by decide +kernel
theorem dL_append_1 : decode cL_append 1 = .ok (.iload_n 1, 1) := by decide +kernel
theorem dL_append_2 : decode cL_append 2 = .ok (.invokevirtual 141, 3) := by decide +kernel
theorem dL_append_5 : decode cL_append 5 = .ok (.ireturn, 1) := by decide +kernel
theorem dL_append_6 : decode cL_append 6 = .ok (.astore_n 2, 1) := by decide +kernel
theorem dL_append_7 : decode cL_append 7 = .ok (.bipush (-78), 2) := by decide +kernel
theorem dL_append_9 : decode cL_append 9 = .ok (.ireturn, 1) := by decide +kernel
theorem dL_append_10 : decode cL_append 10 = .ok (.astore_n 2, 1) := by decide +kernel
theorem dL_append_11 : decode cL_append 11 = .ok (.bipush (-79), 2) := by decide +kernel
theorem dL_append_13 : decode cL_append 13 = .ok (.ireturn, 1) := by decide +kernel
theorem h9_L_append : yL_append.cls ≠ "java/lang/invoke/MethodHandle" ∧ yL_append.cls ≠ "java/lang/invoke/VarHandle" ∧ (parseMethodDescriptor yL_append.desc).map (fun d => d.parameters.length) = some 2 := by decide +kernel
noncomputable def F_L_append (a0 : Nat) (x1 : Int32) (w : FW) : Option (Int32 × FW) :=
  fg (w.1 a0 = 5) inferInstance ((F_X4_append a0 x1 w).bind (fun r1 => fse r1.1 (fun v => some (v, r1.2)) (fun q => (if q = 1 then some (((-78) : Int32), r1.2) else (if q = 0 then some (((-79) : Int32), r1.2) else none)))))
set_option maxHeartbeats 4000000 in
set_option maxRecDepth 100000 in
theorem c_L_append (l : Launch) (D : va_G) (cy : Nat → ClassId) (a0 : Nat) (x1 : Int32) (w : FW) (r : Int32 × FW) (hF : F_L_append a0 x1 w = some r) : lSpec l D cy yL_append (.codeWith yL_append cL_append 3 (some .int) [(0, 5, 6, 20), (0, 5, 10, 123)]) { frames := 7, cells := 1, slots := 6, locals := 124 } [.ref a0, .int x1] gE0 none w r.2 (some (.int r.1)) := by
  refine l_beginW (by decide +kernel) (Nat.le_of_ble_eq_true rfl) (fun X h hC hEn hL hT => ?_)
  have hst := lOK_st hC hL
  unfold F_L_append at hF
  obtain ⟨hk0, hF⟩ := fg_open hF
  obtain ⟨o9, h1, hF⟩ := fb_open hF
  show gAt X 0 0 3 w h gE0 [(0, .ref a0), (1, .int x1)] [] 0
  refine g_aload_n hC dL_append_0 rfl 0 rfl ?_
  refine g_iload_n hC dL_append_1 rfl 1 rfl ?_
  obtain ⟨o9, w1⟩ := o9
  rcases o9 with v | q
  · obtain rfl := Option.some.inj hF
    refine g_callVR hC hst [.int x1] (rv := some (.int v)) (c_X4_append l D cy a0 x1 w _ h1) q_875 q_73 q_872 q_873 q_874 h9_X4_append (T := TX4) (N := 15) (ci := 4) rfl hk0 ⟨Nat.le_of_ble_eq_true rfl, Nat.le_of_ble_eq_true rfl⟩ ⟨Nat.le_of_ble_eq_true rfl, Nat.le_of_ble_eq_true rfl⟩ (Nat.le_of_ble_eq_true rfl) rfl dL_append_2 (fun h2 _ hs => ?_)
    show gAt X 1 6 3 w1 h2 gE0 [(0, .ref a0), (1, .int x1)] [.int v] 5
    exact g_iret hC hEn hs dL_append_5
  · replace hF : (if q = 1 then some (((-78) : Int32), w1) else (if q = 0 then some (((-79) : Int32), w1) else none)) = some r := hF
    by_cases e9 : q = 1
    · replace hF := fi_pos hF e9
      subst e9
      obtain rfl := Option.some.inj hF
      refine g_callVT hC hst [.int x1] (ex := 1) (c_X4_append l D cy a0 x1 w _ h1) q_875 q_73 q_872 q_873 q_874 h9_X4_append (T := TX4) (N := 15) (ci := 4) rfl hk0 ⟨Nat.le_of_ble_eq_true rfl, Nat.le_of_ble_eq_true rfl⟩ ⟨Nat.le_of_ble_eq_true rfl, Nat.le_of_ble_eq_true rfl⟩ (Nat.le_of_ble_eq_true rfl) rfl dL_append_2 (fun h2 _ hs => ?_)
      show gXt X 1 6 3 w1 h2 gE0 [(0, .ref a0), (1, .int x1)] 1 2
      refine g_catchL hC hL hT [] ⟨0, 5, 6, 20⟩ [⟨0, 5, 10, 123⟩] rfl (fun z hz => absurd hz List.not_mem_nil) (by decide) (by decide) q_396 q_499 (fun q9 => ?_)
      refine g_astore_n (L' := [(2, .ref q9), (0, .ref a0), (1, .int x1)]) hC dL_append_6 rfl (by decide) rfl ?_
      refine g_bipush (v := (-78)) hC dL_append_7 (by decide) ?_
      exact g_iret hC hEn hs dL_append_9
    replace hF := fi_neg hF e9
    by_cases e9 : q = 0
    · replace hF := fi_pos hF e9
      subst e9
      obtain rfl := Option.some.inj hF
      refine g_callVT hC hst [.int x1] (ex := 0) (c_X4_append l D cy a0 x1 w _ h1) q_875 q_73 q_872 q_873 q_874 h9_X4_append (T := TX4) (N := 15) (ci := 4) rfl hk0 ⟨Nat.le_of_ble_eq_true rfl, Nat.le_of_ble_eq_true rfl⟩ ⟨Nat.le_of_ble_eq_true rfl, Nat.le_of_ble_eq_true rfl⟩ (Nat.le_of_ble_eq_true rfl) rfl dL_append_2 (fun h2 _ hs => ?_)
      show gXt X 1 6 3 w1 h2 gE0 [(0, .ref a0), (1, .int x1)] 0 2
      have hpass : ∀ z ∈ ([⟨0, 5, 6, 20⟩] : List ExceptionTableEntry), z.catchType ≠ 0 ∧ ∃ nm : String, Cond.classLink RL z.catchType nm ∈ lwA ∧ (exN 0, nm) ∈ ncL := by
        intro z hz
        simp only [List.mem_cons, List.not_mem_nil, or_false] at hz
        subst hz
        exact ⟨by decide, _, q_396, by decide +kernel⟩
      refine g_catchL hC hL hT [⟨0, 5, 6, 20⟩] ⟨0, 5, 10, 123⟩ [] rfl hpass (by decide) (by decide) q_574 q_581 (fun q9 => ?_)
      refine g_astore_n (L' := [(2, .ref q9), (0, .ref a0), (1, .int x1)]) hC dL_append_10 rfl (by decide) rfl ?_
      refine g_bipush (v := (-79)) hC dL_append_11 (by decide) ?_
      exact g_iret hC hEn hs dL_append_13
    replace hF := fi_neg hF e9
    cases hF
theorem dL_read_0 : decode cL_read 0 = .ok (.aload_n 0, 1) := by decide +kernel
theorem dL_read_1 : decode cL_read 1 = .ok (.invokevirtual 144, 3) := by decide +kernel
theorem dL_read_4 : decode cL_read 4 = .ok (.ireturn, 1) := by decide +kernel
theorem dL_read_5 : decode cL_read 5 = .ok (.astore_n 1, 1) := by decide +kernel
theorem dL_read_6 : decode cL_read 6 = .ok (.bipush (-78), 2) := by decide +kernel
theorem dL_read_8 : decode cL_read 8 = .ok (.ireturn, 1) := by decide +kernel
theorem dL_read_9 : decode cL_read 9 = .ok (.astore_n 1, 1) := by decide +kernel
theorem dL_read_10 : decode cL_read 10 = .ok (.bipush (-76), 2) := by decide +kernel
theorem dL_read_12 : decode cL_read 12 = .ok (.ireturn, 1) := by decide +kernel
theorem h9_L_read : yL_read.cls ≠ "java/lang/invoke/MethodHandle" ∧ yL_read.cls ≠ "java/lang/invoke/VarHandle" ∧ (parseMethodDescriptor yL_read.desc).map (fun d => d.parameters.length) = some 1 := by decide +kernel
noncomputable def F_L_read (a0 : Nat) (w : FW) : Option (Int32 × FW) :=
  fg (w.1 a0 = 5) inferInstance ((F_X4_read a0 w).bind (fun r1 => fse r1.1 (fun v => some (v, r1.2)) (fun q => (if q = 1 then some (((-78) : Int32), r1.2) else (if q = 4 then some (((-76) : Int32), r1.2) else none)))))
set_option maxHeartbeats 4000000 in
set_option maxRecDepth 100000 in
theorem c_L_read (l : Launch) (D : va_G) (cy : Nat → ClassId) (a0 : Nat) (w : FW) (r : Int32 × FW) (hF : F_L_read a0 w = some r) : lSpec l D cy yL_read (.codeWith yL_read cL_read 2 (some .int) [(0, 4, 5, 20), (0, 4, 9, 22)]) { frames := 11, cells := 1, slots := 6, locals := 252 } [.ref a0] gE0 none w r.2 (some (.int r.1)) := by
  refine l_beginW (by decide +kernel) (Nat.le_of_ble_eq_true rfl) (fun X h hC hEn hL hT => ?_)
  have hst := lOK_st hC hL
  unfold F_L_read at hF
  obtain ⟨hk0, hF⟩ := fg_open hF
  obtain ⟨o9, h1, hF⟩ := fb_open hF
  show gAt X 0 0 2 w h gE0 [(0, .ref a0)] [] 0
  refine g_aload_n hC dL_read_0 rfl 0 rfl ?_
  obtain ⟨o9, w1⟩ := o9
  rcases o9 with v | q
  · obtain rfl := Option.some.inj hF
    refine g_callVR hC hst [] (rv := some (.int v)) (c_X4_read l D cy a0 w _ h1) q_885 q_73 q_882 q_883 q_884 h9_X4_read (T := TX4) (N := 15) (ci := 4) rfl hk0 ⟨Nat.le_of_ble_eq_true rfl, Nat.le_of_ble_eq_true rfl⟩ ⟨Nat.le_of_ble_eq_true rfl, Nat.le_of_ble_eq_true rfl⟩ (Nat.le_of_ble_eq_true rfl) rfl dL_read_1 (fun h2 _ hs => ?_)
    show gAt X 1 6 2 w1 h2 gE0 [(0, .ref a0)] [.int v] 4
    exact g_iret hC hEn hs dL_read_4
  · replace hF : (if q = 1 then some (((-78) : Int32), w1) else (if q = 4 then some (((-76) : Int32), w1) else none)) = some r := hF
    by_cases e9 : q = 1
    · replace hF := fi_pos hF e9
      subst e9
      obtain rfl := Option.some.inj hF
      refine g_callVT hC hst [] (ex := 1) (c_X4_read l D cy a0 w _ h1) q_885 q_73 q_882 q_883 q_884 h9_X4_read (T := TX4) (N := 15) (ci := 4) rfl hk0 ⟨Nat.le_of_ble_eq_true rfl, Nat.le_of_ble_eq_true rfl⟩ ⟨Nat.le_of_ble_eq_true rfl, Nat.le_of_ble_eq_true rfl⟩ (Nat.le_of_ble_eq_true rfl) rfl dL_read_1 (fun h2 _ hs => ?_)
      show gXt X 1 6 2 w1 h2 gE0 [(0, .ref a0)] 1 1
      refine g_catchL hC hL hT [] ⟨0, 4, 5, 20⟩ [⟨0, 4, 9, 22⟩] rfl (fun z hz => absurd hz List.not_mem_nil) (by decide) (by decide) q_396 q_499 (fun q9 => ?_)
      refine g_astore_n (L' := [(1, .ref q9), (0, .ref a0)]) hC dL_read_5 rfl (by decide) rfl ?_
      refine g_bipush (v := (-78)) hC dL_read_6 (by decide) ?_
      exact g_iret hC hEn hs dL_read_8
    replace hF := fi_neg hF e9
    by_cases e9 : q = 4
    · replace hF := fi_pos hF e9
      subst e9
      obtain rfl := Option.some.inj hF
      refine g_callVT hC hst [] (ex := 4) (c_X4_read l D cy a0 w _ h1) q_885 q_73 q_882 q_883 q_884 h9_X4_read (T := TX4) (N := 15) (ci := 4) rfl hk0 ⟨Nat.le_of_ble_eq_true rfl, Nat.le_of_ble_eq_true rfl⟩ ⟨Nat.le_of_ble_eq_true rfl, Nat.le_of_ble_eq_true rfl⟩ (Nat.le_of_ble_eq_true rfl) rfl dL_read_1 (fun h2 _ hs => ?_)
      show gXt X 1 6 2 w1 h2 gE0 [(0, .ref a0)] 4 1
      have hpass : ∀ z ∈ ([⟨0, 4, 5, 20⟩] : List ExceptionTableEntry), z.catchType ≠ 0 ∧ ∃ nm : String, Cond.classLink RL z.catchType nm ∈ lwA ∧ (exN 4, nm) ∈ ncL := by
        intro z hz
        simp only [List.mem_cons, List.not_mem_nil, or_false] at hz
        subst hz
        exact ⟨by decide, _, q_396, by decide +kernel⟩
      refine g_catchL hC hL hT [⟨0, 4, 5, 20⟩] ⟨0, 4, 9, 22⟩ [] rfl hpass (by decide) (by decide) q_881 q_1050 (fun q9 => ?_)
      refine g_astore_n (L' := [(1, .ref q9), (0, .ref a0)]) hC dL_read_9 rfl (by decide) rfl ?_
      refine g_bipush (v := (-76)) hC dL_read_10 (by decide) ?_
      exact g_iret hC hEn hs dL_read_12
    replace hF := fi_neg hF e9
    cases hF
theorem dL_undo_0 : decode cL_undo 0 = .ok (.aload_n 0, 1) := by decide +kernel
theorem dL_undo_1 : decode cL_undo 1 = .ok (.invokevirtual 153, 3) := by decide +kernel
theorem dL_undo_4 : decode cL_undo 4 = .ok (.ireturn, 1) := by decide +kernel
theorem dL_undo_5 : decode cL_undo 5 = .ok (.astore_n 1, 1) := by decide +kernel
theorem dL_undo_6 : decode cL_undo 6 = .ok (.bipush (-79), 2) := by decide +kernel
theorem dL_undo_8 : decode cL_undo 8 = .ok (.ireturn, 1) := by decide +kernel
theorem h9_L_undo : yL_undo.cls ≠ "java/lang/invoke/MethodHandle" ∧ yL_undo.cls ≠ "java/lang/invoke/VarHandle" ∧ (parseMethodDescriptor yL_undo.desc).map (fun d => d.parameters.length) = some 1 := by decide +kernel
noncomputable def F_L_undo (a0 : Nat) (w : FW) : Option (Int32 × FW) :=
  fg (w.1 a0 = 5) inferInstance ((F_X4_undo a0 w).bind (fun r1 => fse r1.1 (fun v => some (v, r1.2)) (fun q => (if q = 0 then some (((-79) : Int32), r1.2) else none))))
set_option maxHeartbeats 4000000 in
set_option maxRecDepth 100000 in
theorem c_L_undo (l : Launch) (D : va_G) (cy : Nat → ClassId) (a0 : Nat) (w : FW) (r : Int32 × FW) (hF : F_L_undo a0 w = some r) : lSpec l D cy yL_undo (.codeWith yL_undo cL_undo 2 (some .int) [(0, 4, 5, 123)]) { frames := 7, cells := 1, slots := 6, locals := 120 } [.ref a0] gE0 none w r.2 (some (.int r.1)) := by
  refine l_beginW (by decide +kernel) (Nat.le_of_ble_eq_true rfl) (fun X h hC hEn hL hT => ?_)
  have hst := lOK_st hC hL
  unfold F_L_undo at hF
  obtain ⟨hk0, hF⟩ := fg_open hF
  obtain ⟨o9, h1, hF⟩ := fb_open hF
  show gAt X 0 0 2 w h gE0 [(0, .ref a0)] [] 0
  refine g_aload_n hC dL_undo_0 rfl 0 rfl ?_
  obtain ⟨o9, w1⟩ := o9
  rcases o9 with v | q
  · obtain rfl := Option.some.inj hF
    refine g_callVR hC hst [] (rv := some (.int v)) (c_X4_undo l D cy a0 w _ h1) q_1426 q_73 q_1423 q_1424 q_1425 h9_X4_undo (T := TX4) (N := 15) (ci := 4) rfl hk0 ⟨Nat.le_of_ble_eq_true rfl, Nat.le_of_ble_eq_true rfl⟩ ⟨Nat.le_of_ble_eq_true rfl, Nat.le_of_ble_eq_true rfl⟩ (Nat.le_of_ble_eq_true rfl) rfl dL_undo_1 (fun h2 _ hs => ?_)
    show gAt X 1 6 2 w1 h2 gE0 [(0, .ref a0)] [.int v] 4
    exact g_iret hC hEn hs dL_undo_4
  · replace hF : (if q = 0 then some (((-79) : Int32), w1) else none) = some r := hF
    by_cases e9 : q = 0
    · replace hF := fi_pos hF e9
      subst e9
      obtain rfl := Option.some.inj hF
      refine g_callVT hC hst [] (ex := 0) (c_X4_undo l D cy a0 w _ h1) q_1426 q_73 q_1423 q_1424 q_1425 h9_X4_undo (T := TX4) (N := 15) (ci := 4) rfl hk0 ⟨Nat.le_of_ble_eq_true rfl, Nat.le_of_ble_eq_true rfl⟩ ⟨Nat.le_of_ble_eq_true rfl, Nat.le_of_ble_eq_true rfl⟩ (Nat.le_of_ble_eq_true rfl) rfl dL_undo_1 (fun h2 _ hs => ?_)
      show gXt X 1 6 2 w1 h2 gE0 [(0, .ref a0)] 0 1
      refine g_catchL hC hL hT [] ⟨0, 4, 5, 123⟩ [] rfl (fun z hz => absurd hz List.not_mem_nil) (by decide) (by decide) q_574 q_581 (fun q9 => ?_)
      refine g_astore_n (L' := [(1, .ref q9), (0, .ref a0)]) hC dL_undo_5 rfl (by decide) rfl ?_
      refine g_bipush (v := (-79)) hC dL_undo_6 (by decide) ?_
      exact g_iret hC hEn hs dL_undo_8
    replace hF := fi_neg hF e9
    cases hF
theorem dL_restore_0 : decode cL_restore 0 = .ok (.aload_n 0, 1) := by decide +kernel
theorem dL_restore_1 : decode cL_restore 1 = .ok (.invokevirtual 156, 3) := by decide +kernel
theorem dL_restore_4 : decode cL_restore 4 = .ok (.ireturn, 1) := by decide +kernel
theorem dL_restore_5 : decode cL_restore 5 = .ok (.astore_n 1, 1) := by decide +kernel
theorem dL_restore_6 : decode cL_restore 6 = .ok (.bipush (-79), 2) := by decide +kernel
theorem dL_restore_8 : decode cL_restore 8 = .ok (.ireturn, 1) := by decide +kernel
theorem h9_L_restore : yL_restore.cls ≠ "java/lang/invoke/MethodHandle" ∧ yL_restore.cls ≠ "java/lang/invoke/VarHandle" ∧ (parseMethodDescriptor yL_restore.desc).map (fun d => d.parameters.length) = some 1 := by decide +kernel
noncomputable def F_L_restore (a0 : Nat) (w : FW) : Option (Int32 × FW) :=
  fg (w.1 a0 = 5) inferInstance ((F_X4_restore a0 w).bind (fun r1 => fse r1.1 (fun v => some (v, r1.2)) (fun q => (if q = 0 then some (((-79) : Int32), r1.2) else none))))
set_option maxHeartbeats 4000000 in
set_option maxRecDepth 100000 in
theorem c_L_restore (l : Launch) (D : va_G) (cy : Nat → ClassId) (a0 : Nat) (w : FW) (r : Int32 × FW) (hF : F_L_restore a0 w = some r) : lSpec l D cy yL_restore (.codeWith yL_restore cL_restore 2 (some .int) [(0, 4, 5, 123)]) { frames := 7, cells := 1, slots := 6, locals := 120 } [.ref a0] gE0 none w r.2 (some (.int r.1)) := by
  refine l_beginW (by decide +kernel) (Nat.le_of_ble_eq_true rfl) (fun X h hC hEn hL hT => ?_)
  have hst := lOK_st hC hL
  unfold F_L_restore at hF
  obtain ⟨hk0, hF⟩ := fg_open hF
  obtain ⟨o9, h1, hF⟩ := fb_open hF
  show gAt X 0 0 2 w h gE0 [(0, .ref a0)] [] 0
  refine g_aload_n hC dL_restore_0 rfl 0 rfl ?_
  obtain ⟨o9, w1⟩ := o9
  rcases o9 with v | q
  · obtain rfl := Option.some.inj hF
    refine g_callVR hC hst [] (rv := some (.int v)) (c_X4_restore l D cy a0 w _ h1) q_1434 q_73 q_1431 q_1432 q_1433 h9_X4_restore (T := TX4) (N := 15) (ci := 4) rfl hk0 ⟨Nat.le_of_ble_eq_true rfl, Nat.le_of_ble_eq_true rfl⟩ ⟨Nat.le_of_ble_eq_true rfl, Nat.le_of_ble_eq_true rfl⟩ (Nat.le_of_ble_eq_true rfl) rfl dL_restore_1 (fun h2 _ hs => ?_)
    show gAt X 1 6 2 w1 h2 gE0 [(0, .ref a0)] [.int v] 4
    exact g_iret hC hEn hs dL_restore_4
  · replace hF : (if q = 0 then some (((-79) : Int32), w1) else none) = some r := hF
    by_cases e9 : q = 0
    · replace hF := fi_pos hF e9
      subst e9
      obtain rfl := Option.some.inj hF
      refine g_callVT hC hst [] (ex := 0) (c_X4_restore l D cy a0 w _ h1) q_1434 q_73 q_1431 q_1432 q_1433 h9_X4_restore (T := TX4) (N := 15) (ci := 4) rfl hk0 ⟨Nat.le_of_ble_eq_true rfl, Nat.le_of_ble_eq_true rfl⟩ ⟨Nat.le_of_ble_eq_true rfl, Nat.le_of_ble_eq_true rfl⟩ (Nat.le_of_ble_eq_true rfl) rfl dL_restore_1 (fun h2 _ hs => ?_)
      show gXt X 1 6 2 w1 h2 gE0 [(0, .ref a0)] 0 1
      refine g_catchL hC hL hT [] ⟨0, 4, 5, 123⟩ [] rfl (fun z hz => absurd hz List.not_mem_nil) (by decide) (by decide) q_574 q_581 (fun q9 => ?_)
      refine g_astore_n (L' := [(1, .ref q9), (0, .ref a0)]) hC dL_restore_5 rfl (by decide) rfl ?_
      refine g_bipush (v := (-79)) hC dL_restore_6 (by decide) ?_
      exact g_iret hC hEn hs dL_restore_8
    replace hF := fi_neg hF e9
    cases hF
