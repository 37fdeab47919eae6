theorem dL_ride_0 : decode cL_ride 0 = .ok (.aload_n 3, 1) := by decide +kernel
theorem dL_ride_1 : decode cL_ride 1 = .ok (.iconst 0, 1) := by decide +kernel
theorem dL_ride_2 : decode cL_ride 2 = .ok (.aload_n 0, 1) := by decide +kernel
theorem dL_ride_3 : decode cL_ride 3 = .ok (.iload_n 1, 1) := by decide +kernel
theorem dL_ride_4 : decode cL_ride 4 = .ok (.iload_n 2, 1) := by decide +kernel
theorem dL_ride_5 : decode cL_ride 5 = .ok (.invokevirtual 84, 3) := by decide +kernel
theorem dL_ride_8 : decode cL_ride 8 = .ok (.i2l, 1) := by decide +kernel
theorem dL_ride_9 : decode cL_ride 9 = .ok (.lastore, 1) := by decide +kernel
theorem dL_ride_10 : decode cL_ride 10 = .ok (.goto 11, 3) := by decide +kernel
theorem dL_ride_13 : decode cL_ride 13 = .ok (.astore 4, 2) := by decide +kernel
theorem dL_ride_15 : decode cL_ride 15 = .ok (.iconst 1, 1) := by decide +kernel
theorem dL_ride_16 : decode cL_ride 16 = .ok (.ireturn, 1) := by decide +kernel
theorem dL_ride_17 : decode cL_ride 17 = .ok (.astore 4, 2) := by decide +kernel
theorem dL_ride_19 : decode cL_ride 19 = .ok (.iconst 2, 1) := by decide +kernel
theorem dL_ride_20 : decode cL_ride 20 = .ok (.ireturn, 1) := by decide +kernel
theorem dL_ride_21 : decode cL_ride 21 = .ok (.iconst 0, 1) := by decide +kernel
theorem dL_ride_22 : decode cL_ride 22 = .ok (.ireturn, 1) := by decide +kernel
theorem h9_L_ride : yL_ride.cls ≠ "java/lang/invoke/MethodHandle" ∧ yL_ride.cls ≠ "java/lang/invoke/VarHandle" ∧ (parseMethodDescriptor yL_ride.desc).map (fun d => d.parameters.length) = some 4 := by decide +kernel
set_option maxHeartbeats 4000000 in
set_option maxRecDepth 100000 in
theorem c_L_ride (l : Launch) (D : va_G) (cy : Nat → ClassId) (a0 : Nat) (x1 : Int32) (x2 : Int32) (ao : Nat) (w w1 : FW) (v0 : Int64) (rx : Int32 ⊕ Nat) (hF : F_X4_ride a0 x1 x2 w = some (rx, w1)) (hk0 : w.1 a0 = 5) (hes : ∀ e, rx = .inr e → e ∈ [2, 4]) : fWSpec l D cy yL_ride cL_ride 5 [(0, 10, 13, 25), (0, 10, 17, 15)] { frames := 9, cells := 1, slots := 6, locals := 204 } [.ref a0, .int x1, .int x2, .ref ao] w w1 ao (arrV (cy 5) 1 (fun _ => .long v0)) (wO rx (arrV (cy 5) 1 (fun _ => .long v0)) (fun v => arrV (cy 5) 1 (fun _ => .long v.toInt64))) (wK [2, 4] rx) := by
  have hM := fun (D : va_G) (cy : Nat → ClassId) => c_X4_ride l D cy a0 x1 x2 w _ hF
  refine fw_begin (by decide +kernel) (Nat.le_of_ble_eq_true rfl) (fun X h hC hEn ho0 ho1 => ?_)
  have hst := fW_st hC hEn
  replace hM := hM D cy
  rcases rx with v | e
  · show gAt X 0 0 5 w h (gE1 ao (some (.inl (arrV (cy 5) 1 (fun _ => .long v0))))) [(0, .ref a0), (1, .int x1), (2, .int x2), (3, .ref ao)] [] 0
    refine g_aload_n hC dL_ride_0 rfl 3 rfl ?_
    refine g_iconst (v := 0) hC dL_ride_1 (by decide) ?_
    refine g_aload_n hC dL_ride_2 rfl 0 rfl ?_
    refine g_iload_n hC dL_ride_3 rfl 1 rfl ?_
    refine g_iload_n hC dL_ride_4 rfl 2 rfl ?_
    refine g_callVR hC hst [.int x1, .int x2] (rv := some (.int v)) hM q_945 q_132 q_942 q_943 q_944 h9_X4_ride (T := TX4) (N := 15) (ci := 4) rfl hk0 ⟨Nat.le_of_ble_eq_true rfl, Nat.le_of_ble_eq_true rfl⟩ ⟨Nat.le_of_ble_eq_true rfl, Nat.le_of_ble_eq_true rfl⟩ (Nat.le_of_ble_eq_true rfl) rfl dL_ride_5 (fun h1 hh1 hs1 => ?_)
    refine g_cs 1 6 (Nat.zero_add _).symm (Nat.zero_add _).symm ?_
    refine g_i2l hC dL_ride_8 ?_
    refine g_lastE hC (gE1_b _ _) dL_ride_9 ?_
    refine g_nm h1 (gE1 ao (some (.inl (arrV (cy 5) 1 (fun _ => .long v.toInt64))))) _ _ rfl (gE1_up _ _ _).symm rfl rfl ?_
    refine g_goto hC 21 dL_ride_10 (by decide) ?_
    refine g_iconst (v := 0) hC dL_ride_21 (by decide) ?_
    exact g_iretW hC hEn hs1 (gE1_b _ _) dL_ride_22
  · have he := hes e rfl
    simp only [List.mem_cons, List.not_mem_nil, or_false] at he
    rcases he with rfl | rfl
    · show gAt X 0 0 5 w h (gE1 ao (some (.inl (arrV (cy 5) 1 (fun _ => .long v0))))) [(0, .ref a0), (1, .int x1), (2, .int x2), (3, .ref ao)] [] 0
      refine g_aload_n hC dL_ride_0 rfl 3 rfl ?_
      refine g_iconst (v := 0) hC dL_ride_1 (by decide) ?_
      refine g_aload_n hC dL_ride_2 rfl 0 rfl ?_
      refine g_iload_n hC dL_ride_3 rfl 1 rfl ?_
      refine g_iload_n hC dL_ride_4 rfl 2 rfl ?_
      refine g_callVT hC hst [.int x1, .int x2] (ex := 2) hM q_945 q_132 q_942 q_943 q_944 h9_X4_ride (T := TX4) (N := 15) (ci := 4) rfl hk0 ⟨Nat.le_of_ble_eq_true rfl, Nat.le_of_ble_eq_true rfl⟩ ⟨Nat.le_of_ble_eq_true rfl, Nat.le_of_ble_eq_true rfl⟩ (Nat.le_of_ble_eq_true rfl) rfl dL_ride_5 (fun h1 hh1 hs1 => ?_)
      show gXt X (0 + 1) (0 + 6) 5 w1 h1 (gE1 ao (some (.inl (arrV (cy 5) 1 (fun _ => .long v0))))) [(0, .ref a0), (1, .int x1), (2, .int x2), (3, .ref ao)] 2 5
      refine g_catch hC hEn [] ⟨0, 10, 13, 25⟩ [⟨0, 10, 17, 15⟩] rfl (fun z hz => absurd hz List.not_mem_nil) (by decide) (by decide) q_660 q_403 (fun q9 => ?_)
      refine g_cs 1 6 (Nat.zero_add _).symm (Nat.zero_add _).symm ?_
      refine g_astore (L' := [(4, .ref q9), (0, .ref a0), (1, .int x1), (2, .int x2), (3, .ref ao)]) hC dL_ride_13 (by decide) rfl ?_
      refine g_iconst (v := 1) hC dL_ride_15 (by decide) ?_
      exact g_iretW hC hEn hs1 (gE1_b _ _) dL_ride_16
    · show gAt X 0 0 5 w h (gE1 ao (some (.inl (arrV (cy 5) 1 (fun _ => .long v0))))) [(0, .ref a0), (1, .int x1), (2, .int x2), (3, .ref ao)] [] 0
      refine g_aload_n hC dL_ride_0 rfl 3 rfl ?_
      refine g_iconst (v := 0) hC dL_ride_1 (by decide) ?_
      refine g_aload_n hC dL_ride_2 rfl 0 rfl ?_
      refine g_iload_n hC dL_ride_3 rfl 1 rfl ?_
      refine g_iload_n hC dL_ride_4 rfl 2 rfl ?_
      refine g_callVT hC hst [.int x1, .int x2] (ex := 4) hM q_945 q_132 q_942 q_943 q_944 h9_X4_ride (T := TX4) (N := 15) (ci := 4) rfl hk0 ⟨Nat.le_of_ble_eq_true rfl, Nat.le_of_ble_eq_true rfl⟩ ⟨Nat.le_of_ble_eq_true rfl, Nat.le_of_ble_eq_true rfl⟩ (Nat.le_of_ble_eq_true rfl) rfl dL_ride_5 (fun h1 hh1 hs1 => ?_)
      show gXt X (0 + 1) (0 + 6) 5 w1 h1 (gE1 ao (some (.inl (arrV (cy 5) 1 (fun _ => .long v0))))) [(0, .ref a0), (1, .int x1), (2, .int x2), (3, .ref ao)] 4 5
      have hpass : ∀ z ∈ ([⟨0, 10, 13, 25⟩] : List ExceptionTableEntry), z.catchType ≠ 0 ∧ ∃ nm : String, Cond.classLink RL z.catchType nm ∈ lwA ∧ (exN 4, nm) ∈ ncL := by
        intro z hz
        simp only [List.mem_cons, List.not_mem_nil, or_false] at hz
        subst hz
        exact ⟨by decide, _, q_660, by decide +kernel⟩
      refine g_catch hC hEn [⟨0, 10, 13, 25⟩] ⟨0, 10, 17, 15⟩ [] rfl hpass (by decide) (by decide) q_625 q_491 (fun q9 => ?_)
      refine g_cs 1 6 (Nat.zero_add _).symm (Nat.zero_add _).symm ?_
      refine g_astore (L' := [(4, .ref q9), (0, .ref a0), (1, .int x1), (2, .int x2), (3, .ref ao)]) hC dL_ride_17 (by decide) rfl ?_
      refine g_iconst (v := 2) hC dL_ride_19 (by decide) ?_
      exact g_iretW hC hEn hs1 (gE1_b _ _) dL_ride_20
theorem dL_hinders_0 : decode cL_hinders 0 = .ok (.aload_n 3, 1) := by decide +kernel
theorem dL_hinders_1 : decode cL_hinders 1 = .ok (.iconst 0, 1) := by decide +kernel
theorem dL_hinders_2 : decode cL_hinders 2 = .ok (.aload_n 0, 1) := by decide +kernel
theorem dL_hinders_3 : decode cL_hinders 3 = .ok (.iload_n 1, 1) := by decide +kernel
theorem dL_hinders_4 : decode cL_hinders 4 = .ok (.iload_n 2, 1) := by decide +kernel
theorem dL_hinders_5 : decode cL_hinders 5 = .ok (.invokevirtual 87, 3) := by decide +kernel
theorem dL_hinders_8 : decode cL_hinders 8 = .ok (.i2l, 1) := by decide +kernel
theorem dL_hinders_9 : decode cL_hinders 9 = .ok (.lastore, 1) := by decide +kernel
theorem dL_hinders_10 : decode cL_hinders 10 = .ok (.goto 7, 3) := by decide +kernel
theorem dL_hinders_13 : decode cL_hinders 13 = .ok (.astore 4, 2) := by decide +kernel
theorem dL_hinders_15 : decode cL_hinders 15 = .ok (.iconst 1, 1) := by decide +kernel
theorem dL_hinders_16 : decode cL_hinders 16 = .ok (.ireturn, 1) := by decide +kernel
theorem dL_hinders_17 : decode cL_hinders 17 = .ok (.iconst 0, 1) := by decide +kernel
theorem dL_hinders_18 : decode cL_hinders 18 = .ok (.ireturn, 1) := by decide +kernel
theorem h9_L_hinders : yL_hinders.cls ≠ "java/lang/invoke/MethodHandle" ∧ yL_hinders.cls ≠ "java/lang/invoke/VarHandle" ∧ (parseMethodDescriptor yL_hinders.desc).map (fun d => d.parameters.length) = some 4 := by decide +kernel
set_option maxHeartbeats 4000000 in
set_option maxRecDepth 100000 in
theorem c_L_hinders (l : Launch) (D : va_G) (cy : Nat → ClassId) (a0 : Nat) (x1 : Int32) (x2 : Int32) (ao : Nat) (w : FW) (v0 : Int64) (rx : Int32 ⊕ Nat) (hF : F_X4_hinders a0 x1 x2 w = some rx) (hk0 : w.1 a0 = 5) (hes : ∀ e, rx = .inr e → e ∈ [2]) : fWSpec l D cy yL_hinders cL_hinders 5 [(0, 10, 13, 25)] { frames := 8, cells := 1, slots := 6, locals := 178 } [.ref a0, .int x1, .int x2, .ref ao] w w ao (arrV (cy 5) 1 (fun _ => .long v0)) (wO rx (arrV (cy 5) 1 (fun _ => .long v0)) (fun v => arrV (cy 5) 1 (fun _ => .long v.toInt64))) (wK [2] rx) := by
  have hM := fun (D : va_G) (cy : Nat → ClassId) => c_X4_hinders l D cy a0 x1 x2 w _ hF
  refine fw_begin (by decide +kernel) (Nat.le_of_ble_eq_true rfl) (fun X h hC hEn ho0 ho1 => ?_)
  have hst := fW_st hC hEn
  replace hM := hM D cy
  rcases rx with v | e
  · show gAt X 0 0 5 w h (gE1 ao (some (.inl (arrV (cy 5) 1 (fun _ => .long v0))))) [(0, .ref a0), (1, .int x1), (2, .int x2), (3, .ref ao)] [] 0
    refine g_aload_n hC dL_hinders_0 rfl 3 rfl ?_
    refine g_iconst (v := 0) hC dL_hinders_1 (by decide) ?_
    refine g_aload_n hC dL_hinders_2 rfl 0 rfl ?_
    refine g_iload_n hC dL_hinders_3 rfl 1 rfl ?_
    refine g_iload_n hC dL_hinders_4 rfl 2 rfl ?_
    refine g_callVR hC hst [.int x1, .int x2] (rv := some (.int v)) hM q_973 q_132 q_970 q_971 q_972 h9_X4_hinders (T := TX4) (N := 15) (ci := 4) rfl hk0 ⟨Nat.le_of_ble_eq_true rfl, Nat.le_of_ble_eq_true rfl⟩ ⟨Nat.le_of_ble_eq_true rfl, Nat.le_of_ble_eq_true rfl⟩ (Nat.le_of_ble_eq_true rfl) rfl dL_hinders_5 (fun h1 hh1 hs1 => ?_)
    refine g_cs 1 6 (Nat.zero_add _).symm (Nat.zero_add _).symm ?_
    refine g_i2l hC dL_hinders_8 ?_
    refine g_lastE hC (gE1_b _ _) dL_hinders_9 ?_
    refine g_nm h1 (gE1 ao (some (.inl (arrV (cy 5) 1 (fun _ => .long v.toInt64))))) _ _ rfl (gE1_up _ _ _).symm rfl rfl ?_
    refine g_goto hC 17 dL_hinders_10 (by decide) ?_
    refine g_iconst (v := 0) hC dL_hinders_17 (by decide) ?_
    exact g_iretW hC hEn (fSm.rf w) (gE1_b _ _) dL_hinders_18
  · have he := hes e rfl
    simp only [List.mem_cons, List.not_mem_nil, or_false] at he
    subst he
    show gAt X 0 0 5 w h (gE1 ao (some (.inl (arrV (cy 5) 1 (fun _ => .long v0))))) [(0, .ref a0), (1, .int x1), (2, .int x2), (3, .ref ao)] [] 0
    refine g_aload_n hC dL_hinders_0 rfl 3 rfl ?_
    refine g_iconst (v := 0) hC dL_hinders_1 (by decide) ?_
    refine g_aload_n hC dL_hinders_2 rfl 0 rfl ?_
    refine g_iload_n hC dL_hinders_3 rfl 1 rfl ?_
    refine g_iload_n hC dL_hinders_4 rfl 2 rfl ?_
    refine g_callVT hC hst [.int x1, .int x2] (ex := 2) hM q_973 q_132 q_970 q_971 q_972 h9_X4_hinders (T := TX4) (N := 15) (ci := 4) rfl hk0 ⟨Nat.le_of_ble_eq_true rfl, Nat.le_of_ble_eq_true rfl⟩ ⟨Nat.le_of_ble_eq_true rfl, Nat.le_of_ble_eq_true rfl⟩ (Nat.le_of_ble_eq_true rfl) rfl dL_hinders_5 (fun h1 hh1 hs1 => ?_)
    show gXt X (0 + 1) (0 + 6) 5 w h1 (gE1 ao (some (.inl (arrV (cy 5) 1 (fun _ => .long v0))))) [(0, .ref a0), (1, .int x1), (2, .int x2), (3, .ref ao)] 2 5
    refine g_catch hC hEn [] ⟨0, 10, 13, 25⟩ [] rfl (fun z hz => absurd hz List.not_mem_nil) (by decide) (by decide) q_660 q_403 (fun q9 => ?_)
    refine g_cs 1 6 (Nat.zero_add _).symm (Nat.zero_add _).symm ?_
    refine g_astore (L' := [(4, .ref q9), (0, .ref a0), (1, .int x1), (2, .int x2), (3, .ref ao)]) hC dL_hinders_13 (by decide) rfl ?_
    refine g_iconst (v := 1) hC dL_hinders_15 (by decide) ?_
    exact g_iretW hC hEn (fSm.rf w) (gE1_b _ _) dL_hinders_16
theorem dL_daysLeft_0 : decode cL_daysLeft 0 = .ok (.aload_n 2, 1) := by decide +kernel
theorem dL_daysLeft_1 : decode cL_daysLeft 1 = .ok (.iconst 0, 1) := by decide +kernel
theorem dL_daysLeft_2 : decode cL_daysLeft 2 = .ok (.aload_n 0, 1) := by decide +kernel
theorem dL_daysLeft_3 : decode cL_daysLeft 3 = .ok (.iload_n 1, 1) := by decide +kernel
theorem dL_daysLeft_4 : decode cL_daysLeft 4 = .ok (.invokevirtual 90, 3) := by decide +kernel
theorem dL_daysLeft_7 : decode cL_daysLeft 7 = .ok (.i2l, 1) := by decide +kernel
theorem dL_daysLeft_8 : decode cL_daysLeft 8 = .ok (.lastore, 1) := by decide +kernel
theorem dL_daysLeft_9 : decode cL_daysLeft 9 = .ok (.goto 9, 3) := by decide +kernel
theorem dL_daysLeft_12 : decode cL_daysLeft 12 = .ok (.astore_n 3, 1) := by decide +kernel
theorem dL_daysLeft_13 : decode cL_daysLeft 13 = .ok (.iconst 1, 1) := by decide +kernel
theorem dL_daysLeft_14 : decode cL_daysLeft 14 = .ok (.ireturn, 1) := by decide +kernel
theorem dL_daysLeft_15 : decode cL_daysLeft 15 = .ok (.astore_n 3, 1) := by decide +kernel
theorem dL_daysLeft_16 : decode cL_daysLeft 16 = .ok (.iconst 2, 1) := by decide +kernel
theorem dL_daysLeft_17 : decode cL_daysLeft 17 = .ok (.ireturn, 1) := by decide +kernel
theorem dL_daysLeft_18 : decode cL_daysLeft 18 = .ok (.iconst 0, 1) := by decide +kernel
theorem dL_daysLeft_19 : decode cL_daysLeft 19 = .ok (.ireturn, 1) := by decide +kernel
theorem h9_L_daysLeft : yL_daysLeft.cls ≠ "java/lang/invoke/MethodHandle" ∧ yL_daysLeft.cls ≠ "java/lang/invoke/VarHandle" ∧ (parseMethodDescriptor yL_daysLeft.desc).map (fun d => d.parameters.length) = some 3 := by decide +kernel
set_option maxHeartbeats 4000000 in
set_option maxRecDepth 100000 in
theorem c_L_daysLeft (l : Launch) (D : va_G) (cy : Nat → ClassId) (a0 : Nat) (x1 : Int32) (ao : Nat) (w : FW) (v0 : Int64) (rx : Int32 ⊕ Nat) (hF : F_X4_daysLeft a0 x1 w = some rx) (hk0 : w.1 a0 = 5) (hes : ∀ e, rx = .inr e → e ∈ [2, 5]) : fWSpec l D cy yL_daysLeft cL_daysLeft 4 [(0, 9, 12, 25), (0, 9, 15, 46)] { frames := 8, cells := 2, slots := 12, locals := 143 } [.ref a0, .int x1, .ref ao] w w ao (arrV (cy 5) 1 (fun _ => .long v0)) (wO rx (arrV (cy 5) 1 (fun _ => .long v0)) (fun v => arrV (cy 5) 1 (fun _ => .long v.toInt64))) (wK [2, 5] rx) := by
  have hM := fun (D : va_G) (cy : Nat → ClassId) => c_X4_daysLeft l D cy a0 x1 w _ hF
  refine fw_begin (by decide +kernel) (Nat.le_of_ble_eq_true rfl) (fun X h hC hEn ho0 ho1 => ?_)
  have hst := fW_st hC hEn
  replace hM := hM D cy
  rcases rx with v | e
  · show gAt X 0 0 4 w h (gE1 ao (some (.inl (arrV (cy 5) 1 (fun _ => .long v0))))) [(0, .ref a0), (1, .int x1), (2, .ref ao)] [] 0
    refine g_aload_n hC dL_daysLeft_0 rfl 2 rfl ?_
    refine g_iconst (v := 0) hC dL_daysLeft_1 (by decide) ?_
    refine g_aload_n hC dL_daysLeft_2 rfl 0 rfl ?_
    refine g_iload_n hC dL_daysLeft_3 rfl 1 rfl ?_
    refine g_callVR hC hst [.int x1] (rv := some (.int v)) hM q_980 q_132 q_977 q_978 q_979 h9_X4_daysLeft (T := TX4) (N := 15) (ci := 4) rfl hk0 ⟨Nat.le_of_ble_eq_true rfl, Nat.le_of_ble_eq_true rfl⟩ ⟨Nat.le_of_ble_eq_true rfl, Nat.le_of_ble_eq_true rfl⟩ (Nat.le_of_ble_eq_true rfl) rfl dL_daysLeft_4 (fun h1 hh1 hs1 => ?_)
    refine g_cs 2 12 (Nat.zero_add _).symm (Nat.zero_add _).symm ?_
    refine g_i2l hC dL_daysLeft_7 ?_
    refine g_lastE hC (gE1_b _ _) dL_daysLeft_8 ?_
    refine g_nm h1 (gE1 ao (some (.inl (arrV (cy 5) 1 (fun _ => .long v.toInt64))))) _ _ rfl (gE1_up _ _ _).symm rfl rfl ?_
    refine g_goto hC 18 dL_daysLeft_9 (by decide) ?_
    refine g_iconst (v := 0) hC dL_daysLeft_18 (by decide) ?_
    exact g_iretW hC hEn (fSm.rf w) (gE1_b _ _) dL_daysLeft_19
  · have he := hes e rfl
    simp only [List.mem_cons, List.not_mem_nil, or_false] at he
    rcases he with rfl | rfl
    · show gAt X 0 0 4 w h (gE1 ao (some (.inl (arrV (cy 5) 1 (fun _ => .long v0))))) [(0, .ref a0), (1, .int x1), (2, .ref ao)] [] 0
      refine g_aload_n hC dL_daysLeft_0 rfl 2 rfl ?_
      refine g_iconst (v := 0) hC dL_daysLeft_1 (by decide) ?_
      refine g_aload_n hC dL_daysLeft_2 rfl 0 rfl ?_
      refine g_iload_n hC dL_daysLeft_3 rfl 1 rfl ?_
      refine g_callVT hC hst [.int x1] (ex := 2) hM q_980 q_132 q_977 q_978 q_979 h9_X4_daysLeft (T := TX4) (N := 15) (ci := 4) rfl hk0 ⟨Nat.le_of_ble_eq_true rfl, Nat.le_of_ble_eq_true rfl⟩ ⟨Nat.le_of_ble_eq_true rfl, Nat.le_of_ble_eq_true rfl⟩ (Nat.le_of_ble_eq_true rfl) rfl dL_daysLeft_4 (fun h1 hh1 hs1 => ?_)
      show gXt X (0 + 2) (0 + 12) 4 w h1 (gE1 ao (some (.inl (arrV (cy 5) 1 (fun _ => .long v0))))) [(0, .ref a0), (1, .int x1), (2, .ref ao)] 2 4
      refine g_catch hC hEn [] ⟨0, 9, 12, 25⟩ [⟨0, 9, 15, 46⟩] rfl (fun z hz => absurd hz List.not_mem_nil) (by decide) (by decide) q_660 q_403 (fun q9 => ?_)
      refine g_cs 2 12 (Nat.zero_add _).symm (Nat.zero_add _).symm ?_
      refine g_astore_n (L' := [(3, .ref q9), (0, .ref a0), (1, .int x1), (2, .ref ao)]) hC dL_daysLeft_12 rfl (by decide) rfl ?_
      refine g_iconst (v := 1) hC dL_daysLeft_13 (by decide) ?_
      exact g_iretW hC hEn (fSm.rf w) (gE1_b _ _) dL_daysLeft_14
    · show gAt X 0 0 4 w h (gE1 ao (some (.inl (arrV (cy 5) 1 (fun _ => .long v0))))) [(0, .ref a0), (1, .int x1), (2, .ref ao)] [] 0
      refine g_aload_n hC dL_daysLeft_0 rfl 2 rfl ?_
      refine g_iconst (v := 0) hC dL_daysLeft_1 (by decide) ?_
      refine g_aload_n hC dL_daysLeft_2 rfl 0 rfl ?_
      refine g_iload_n hC dL_daysLeft_3 rfl 1 rfl ?_
      refine g_callVT hC hst [.int x1] (ex := 5) hM q_980 q_132 q_977 q_978 q_979 h9_X4_daysLeft (T := TX4) (N := 15) (ci := 4) rfl hk0 ⟨Nat.le_of_ble_eq_true rfl, Nat.le_of_ble_eq_true rfl⟩ ⟨Nat.le_of_ble_eq_true rfl, Nat.le_of_ble_eq_true rfl⟩ (Nat.le_of_ble_eq_true rfl) rfl dL_daysLeft_4 (fun h1 hh1 hs1 => ?_)
      show gXt X (0 + 2) (0 + 12) 4 w h1 (gE1 ao (some (.inl (arrV (cy 5) 1 (fun _ => .long v0))))) [(0, .ref a0), (1, .int x1), (2, .ref ao)] 5 4
      have hpass : ∀ z ∈ ([⟨0, 9, 12, 25⟩] : List ExceptionTableEntry), z.catchType ≠ 0 ∧ ∃ nm : String, Cond.classLink RL z.catchType nm ∈ lwA ∧ (exN 5, nm) ∈ ncL := by
        intro z hz
        simp only [List.mem_cons, List.not_mem_nil, or_false] at hz
        subst hz
        exact ⟨by decide, _, q_660, by decide +kernel⟩
      refine g_catch hC hEn [⟨0, 9, 12, 25⟩] ⟨0, 9, 15, 46⟩ [] rfl hpass (by decide) (by decide) q_774 q_782 (fun q9 => ?_)
      refine g_cs 2 12 (Nat.zero_add _).symm (Nat.zero_add _).symm ?_
      refine g_astore_n (L' := [(3, .ref q9), (0, .ref a0), (1, .int x1), (2, .ref ao)]) hC dL_daysLeft_15 rfl (by decide) rfl ?_
      refine g_iconst (v := 2) hC dL_daysLeft_16 (by decide) ?_
      exact g_iretW hC hEn (fSm.rf w) (gE1_b _ _) dL_daysLeft_17
theorem dL_sharing_0 : decode cL_sharing 0 = .ok (.aload_n 2, 1) := by decide +kernel
theorem dL_sharing_1 : decode cL_sharing 1 = .ok (.iconst 0, 1) := by decide +kernel
theorem dL_sharing_2 : decode cL_sharing 2 = .ok (.aload_n 0, 1) := by decide +kernel
theorem dL_sharing_3 : decode cL_sharing 3 = .ok (.iload_n 1, 1) := by decide +kernel
theorem dL_sharing_4 : decode cL_sharing 4 = .ok (.invokevirtual 93, 3) := by decide +kernel
theorem dL_sharing_7 : decode cL_sharing 7 = .ok (.i2l, 1) := by decide +kernel
theorem dL_sharing_8 : decode cL_sharing 8 = .ok (.lastore, 1) := by decide +kernel
theorem dL_sharing_9 : decode cL_sharing 9 = .ok (.goto 6, 3) := by decide +kernel
theorem dL_sharing_12 : decode cL_sharing 12 = .ok (.astore_n 3, 1) := by decide +kernel
theorem dL_sharing_13 : decode cL_sharing 13 = .ok (.iconst 1, 1) := by decide +kernel
theorem dL_sharing_14 : decode cL_sharing 14 = .ok (.ireturn, 1) := by decide +kernel
theorem dL_sharing_15 : decode cL_sharing 15 = .ok (.iconst 0, 1) := by decide +kernel
theorem dL_sharing_16 : decode cL_sharing 16 = .ok (.ireturn, 1) := by decide +kernel
theorem h9_L_sharing : yL_sharing.cls ≠ "java/lang/invoke/MethodHandle" ∧ yL_sharing.cls ≠ "java/lang/invoke/VarHandle" ∧ (parseMethodDescriptor yL_sharing.desc).map (fun d => d.parameters.length) = some 3 := by decide +kernel
set_option maxHeartbeats 4000000 in
set_option maxRecDepth 100000 in
theorem c_L_sharing (l : Launch) (D : va_G) (cy : Nat → ClassId) (a0 : Nat) (x1 : Int32) (ao : Nat) (w : FW) (v0 : Int64) (rx : Int32 ⊕ Nat) (hF : F_X4_sharing a0 x1 w = some rx) (hk0 : w.1 a0 = 5) (hes : ∀ e, rx = .inr e → e ∈ [2]) : fWSpec l D cy yL_sharing cL_sharing 4 [(0, 9, 12, 25)] { frames := 8, cells := 1, slots := 6, locals := 145 } [.ref a0, .int x1, .ref ao] w w ao (arrV (cy 5) 1 (fun _ => .long v0)) (wO rx (arrV (cy 5) 1 (fun _ => .long v0)) (fun v => arrV (cy 5) 1 (fun _ => .long v.toInt64))) (wK [2] rx) := by
  have hM := fun (D : va_G) (cy : Nat → ClassId) => c_X4_sharing l D cy a0 x1 w _ hF
  refine fw_begin (by decide +kernel) (Nat.le_of_ble_eq_true rfl) (fun X h hC hEn ho0 ho1 => ?_)
  have hst := fW_st hC hEn
  replace hM := hM D cy
  rcases rx with v | e
  · show gAt X 0 0 4 w h (gE1 ao (some (.inl (arrV (cy 5) 1 (fun _ => .long v0))))) [(0, .ref a0), (1, .int x1), (2, .ref ao)] [] 0
    refine g_aload_n hC dL_sharing_0 rfl 2 rfl ?_
    refine g_iconst (v := 0) hC dL_sharing_1 (by decide) ?_
    refine g_aload_n hC dL_sharing_2 rfl 0 rfl ?_
    refine g_iload_n hC dL_sharing_3 rfl 1 rfl ?_
    refine g_callVR hC hst [.int x1] (rv := some (.int v)) hM q_989 q_132 q_986 q_987 q_988 h9_X4_sharing (T := TX4) (N := 15) (ci := 4) rfl hk0 ⟨Nat.le_of_ble_eq_true rfl, Nat.le_of_ble_eq_true rfl⟩ ⟨Nat.le_of_ble_eq_true rfl, Nat.le_of_ble_eq_true rfl⟩ (Nat.le_of_ble_eq_true rfl) rfl dL_sharing_4 (fun h1 hh1 hs1 => ?_)
    refine g_cs 1 6 (Nat.zero_add _).symm (Nat.zero_add _).symm ?_
    refine g_i2l hC dL_sharing_7 ?_
    refine g_lastE hC (gE1_b _ _) dL_sharing_8 ?_
    refine g_nm h1 (gE1 ao (some (.inl (arrV (cy 5) 1 (fun _ => .long v.toInt64))))) _ _ rfl (gE1_up _ _ _).symm rfl rfl ?_
    refine g_goto hC 15 dL_sharing_9 (by decide) ?_
    refine g_iconst (v := 0) hC dL_sharing_15 (by decide) ?_
    exact g_iretW hC hEn (fSm.rf w) (gE1_b _ _) dL_sharing_16
  · have he := hes e rfl
    simp only [List.mem_cons, List.not_mem_nil, or_false] at he
    subst he
    show gAt X 0 0 4 w h (gE1 ao (some (.inl (arrV (cy 5) 1 (fun _ => .long v0))))) [(0, .ref a0), (1, .int x1), (2, .ref ao)] [] 0
    refine g_aload_n hC dL_sharing_0 rfl 2 rfl ?_
    refine g_iconst (v := 0) hC dL_sharing_1 (by decide) ?_
    refine g_aload_n hC dL_sharing_2 rfl 0 rfl ?_
    refine g_iload_n hC dL_sharing_3 rfl 1 rfl ?_
    refine g_callVT hC hst [.int x1] (ex := 2) hM q_989 q_132 q_986 q_987 q_988 h9_X4_sharing (T := TX4) (N := 15) (ci := 4) rfl hk0 ⟨Nat.le_of_ble_eq_true rfl, Nat.le_of_ble_eq_true rfl⟩ ⟨Nat.le_of_ble_eq_true rfl, Nat.le_of_ble_eq_true rfl⟩ (Nat.le_of_ble_eq_true rfl) rfl dL_sharing_4 (fun h1 hh1 hs1 => ?_)
    show gXt X (0 + 1) (0 + 6) 4 w h1 (gE1 ao (some (.inl (arrV (cy 5) 1 (fun _ => .long v0))))) [(0, .ref a0), (1, .int x1), (2, .ref ao)] 2 4
    refine g_catch hC hEn [] ⟨0, 9, 12, 25⟩ [] rfl (fun z hz => absurd hz List.not_mem_nil) (by decide) (by decide) q_660 q_403 (fun q9 => ?_)
    refine g_cs 1 6 (Nat.zero_add _).symm (Nat.zero_add _).symm ?_
    refine g_astore_n (L' := [(3, .ref q9), (0, .ref a0), (1, .int x1), (2, .ref ao)]) hC dL_sharing_12 rfl (by decide) rfl ?_
    refine g_iconst (v := 1) hC dL_sharing_13 (by decide) ?_
    exact g_iretW hC hEn (fSm.rf w) (gE1_b _ _) dL_sharing_14
theorem dL_often_0 : decode cL_often 0 = .ok (.aload_n 2, 1) := by decide +kernel
theorem dL_often_1 : decode cL_often 1 = .ok (.iconst 0, 1) := by decide +kernel
theorem dL_often_2 : decode cL_often 2 = .ok (.aload_n 0, 1) := by decide +kernel
theorem dL_often_3 : decode cL_often 3 = .ok (.iload_n 1, 1) := by decide +kernel
theorem dL_often_4 : decode cL_often 4 = .ok (.invokevirtual 96, 3) := by decide +kernel
theorem dL_often_7 : decode cL_often 7 = .ok (.i2l, 1) := by decide +kernel
theorem dL_often_8 : decode cL_often 8 = .ok (.lastore, 1) := by decide +kernel
theorem dL_often_9 : decode cL_often 9 = .ok (.goto 6, 3) := by decide +kernel
theorem dL_often_12 : decode cL_often 12 = .ok (.astore_n 3, 1) := by decide +kernel
theorem dL_often_13 : decode cL_often 13 = .ok (.iconst 1, 1) := by decide +kernel
theorem dL_often_14 : decode cL_often 14 = .ok (.ireturn, 1) := by decide +kernel
theorem dL_often_15 : decode cL_often 15 = .ok (.iconst 0, 1) := by decide +kernel
theorem dL_often_16 : decode cL_often 16 = .ok (.ireturn, 1) := by decide +kernel
theorem h9_L_often : yL_often.cls ≠ "java/lang/invoke/MethodHandle" ∧ yL_often.cls ≠ "java/lang/invoke/VarHandle" ∧ (parseMethodDescriptor yL_often.desc).map (fun d => d.parameters.length) = some 3 := by decide +kernel
set_option maxHeartbeats 4000000 in
set_option maxRecDepth 100000 in
theorem c_L_often (l : Launch) (D : va_G) (cy : Nat → ClassId) (a0 : Nat) (x1 : Int32) (ao : Nat) (w : FW) (v0 : Int64) (rx : Int32 ⊕ Nat) (hF : F_X4_often a0 x1 w = some rx) (hk0 : w.1 a0 = 5) (hes : ∀ e, rx = .inr e → e ∈ [1]) : fWSpec l D cy yL_often cL_often 4 [(0, 9, 12, 13)] { frames := 7, cells := 1, slots := 6, locals := 123 } [.ref a0, .int x1, .ref ao] w w ao (arrV (cy 5) 1 (fun _ => .long v0)) (wO rx (arrV (cy 5) 1 (fun _ => .long v0)) (fun v => arrV (cy 5) 1 (fun _ => .long v.toInt64))) (wK [1] rx) := by
  have hM := fun (D : va_G) (cy : Nat → ClassId) => c_X4_often l D cy a0 x1 w _ hF
  refine fw_begin (by decide +kernel) (Nat.le_of_ble_eq_true rfl) (fun X h hC hEn ho0 ho1 => ?_)
  have hst := fW_st hC hEn
  replace hM := hM D cy
  rcases rx with v | e
  · show gAt X 0 0 4 w h (gE1 ao (some (.inl (arrV (cy 5) 1 (fun _ => .long v0))))) [(0, .ref a0), (1, .int x1), (2, .ref ao)] [] 0
    refine g_aload_n hC dL_often_0 rfl 2 rfl ?_
    refine g_iconst (v := 0) hC dL_often_1 (by decide) ?_
    refine g_aload_n hC dL_often_2 rfl 0 rfl ?_
    refine g_iload_n hC dL_often_3 rfl 1 rfl ?_
    refine g_callVR hC hst [.int x1] (rv := some (.int v)) hM q_997 q_132 q_994 q_995 q_996 h9_X4_often (T := TX4) (N := 15) (ci := 4) rfl hk0 ⟨Nat.le_of_ble_eq_true rfl, Nat.le_of_ble_eq_true rfl⟩ ⟨Nat.le_of_ble_eq_true rfl, Nat.le_of_ble_eq_true rfl⟩ (Nat.le_of_ble_eq_true rfl) rfl dL_often_4 (fun h1 hh1 hs1 => ?_)
    refine g_cs 1 6 (Nat.zero_add _).symm (Nat.zero_add _).symm ?_
    refine g_i2l hC dL_often_7 ?_
    refine g_lastE hC (gE1_b _ _) dL_often_8 ?_
    refine g_nm h1 (gE1 ao (some (.inl (arrV (cy 5) 1 (fun _ => .long v.toInt64))))) _ _ rfl (gE1_up _ _ _).symm rfl rfl ?_
    refine g_goto hC 15 dL_often_9 (by decide) ?_
    refine g_iconst (v := 0) hC dL_often_15 (by decide) ?_
    exact g_iretW hC hEn (fSm.rf w) (gE1_b _ _) dL_often_16
  · have he := hes e rfl
    simp only [List.mem_cons, List.not_mem_nil, or_false] at he
    subst he
    show gAt X 0 0 4 w h (gE1 ao (some (.inl (arrV (cy 5) 1 (fun _ => .long v0))))) [(0, .ref a0), (1, .int x1), (2, .ref ao)] [] 0
    refine g_aload_n hC dL_often_0 rfl 2 rfl ?_
    refine g_iconst (v := 0) hC dL_often_1 (by decide) ?_
    refine g_aload_n hC dL_often_2 rfl 0 rfl ?_
    refine g_iload_n hC dL_often_3 rfl 1 rfl ?_
    refine g_callVT hC hst [.int x1] (ex := 1) hM q_997 q_132 q_994 q_995 q_996 h9_X4_often (T := TX4) (N := 15) (ci := 4) rfl hk0 ⟨Nat.le_of_ble_eq_true rfl, Nat.le_of_ble_eq_true rfl⟩ ⟨Nat.le_of_ble_eq_true rfl, Nat.le_of_ble_eq_true rfl⟩ (Nat.le_of_ble_eq_true rfl) rfl dL_often_4 (fun h1 hh1 hs1 => ?_)
    show gXt X (0 + 1) (0 + 6) 4 w h1 (gE1 ao (some (.inl (arrV (cy 5) 1 (fun _ => .long v0))))) [(0, .ref a0), (1, .int x1), (2, .ref ao)] 1 4
    refine g_catch hC hEn [] ⟨0, 9, 12, 13⟩ [] rfl (fun z hz => absurd hz List.not_mem_nil) (by decide) (by decide) q_624 q_475 (fun q9 => ?_)
    refine g_cs 1 6 (Nat.zero_add _).symm (Nat.zero_add _).symm ?_
    refine g_astore_n (L' := [(3, .ref q9), (0, .ref a0), (1, .int x1), (2, .ref ao)]) hC dL_often_12 rfl (by decide) rfl ?_
    refine g_iconst (v := 1) hC dL_often_13 (by decide) ?_
    exact g_iretW hC hEn (fSm.rf w) (gE1_b _ _) dL_often_14
theorem dL_ranked_0 : decode cL_ranked 0 = .ok (.aload_n 3, 1) := by decide +kernel
theorem dL_ranked_1 : decode cL_ranked 1 = .ok (.iconst 0, 1) := by decide +kernel
theorem dL_ranked_2 : decode cL_ranked 2 = .ok (.aload_n 0, 1) := by decide +kernel
theorem dL_ranked_3 : decode cL_ranked 3 = .ok (.iload_n 1, 1) := by decide +kernel
theorem dL_ranked_4 : decode cL_ranked 4 = .ok (.iload_n 2, 1) := by decide +kernel
theorem dL_ranked_5 : decode cL_ranked 5 = .ok (.invokevirtual 99, 3) := by decide +kernel
theorem dL_ranked_8 : decode cL_ranked 8 = .ok (.i2l, 1) := by decide +kernel
theorem dL_ranked_9 : decode cL_ranked 9 = .ok (.lastore, 1) := by decide +kernel
theorem dL_ranked_10 : decode cL_ranked 10 = .ok (.goto 11, 3) := by decide +kernel
theorem dL_ranked_13 : decode cL_ranked 13 = .ok (.astore 4, 2) := by decide +kernel
theorem dL_ranked_15 : decode cL_ranked 15 = .ok (.iconst 1, 1) := by decide +kernel
theorem dL_ranked_16 : decode cL_ranked 16 = .ok (.ireturn, 1) := by decide +kernel
theorem dL_ranked_17 : decode cL_ranked 17 = .ok (.astore 4, 2) := by decide +kernel
theorem dL_ranked_19 : decode cL_ranked 19 = .ok (.iconst 2, 1) := by decide +kernel
theorem dL_ranked_20 : decode cL_ranked 20 = .ok (.ireturn, 1) := by decide +kernel
theorem dL_ranked_21 : decode cL_ranked 21 = .ok (.iconst 0, 1) := by decide +kernel
theorem dL_ranked_22 : decode cL_ranked 22 = .ok (.ireturn, 1) := by decide +kernel
theorem h9_L_ranked : yL_ranked.cls ≠ "java/lang/invoke/MethodHandle" ∧ yL_ranked.cls ≠ "java/lang/invoke/VarHandle" ∧ (parseMethodDescriptor yL_ranked.desc).map (fun d => d.parameters.length) = some 4 := by decide +kernel
set_option maxHeartbeats 4000000 in
set_option maxRecDepth 100000 in
theorem c_L_ranked (l : Launch) (D : va_G) (cy : Nat → ClassId) (a0 : Nat) (x1 : Int32) (x2 : Int32) (ao : Nat) (w : FW) (v0 : Int64) (rx : Int32 ⊕ Nat) (hF : F_X4_ranked a0 x1 x2 w = some rx) (hk0 : w.1 a0 = 5) (hes : ∀ e, rx = .inr e → e ∈ [1, 5]) : fWSpec l D cy yL_ranked cL_ranked 5 [(0, 10, 13, 13), (0, 10, 17, 46)] { frames := 7, cells := 1, slots := 6, locals := 156 } [.ref a0, .int x1, .int x2, .ref ao] w w ao (arrV (cy 5) 1 (fun _ => .long v0)) (wO rx (arrV (cy 5) 1 (fun _ => .long v0)) (fun v => arrV (cy 5) 1 (fun _ => .long v.toInt64))) (wK [1, 5] rx) := by
  have hM := fun (D : va_G) (cy : Nat → ClassId) => c_X4_ranked l D cy a0 x1 x2 w _ hF
  refine fw_begin (by decide +kernel) (Nat.le_of_ble_eq_true rfl) (fun X h hC hEn ho0 ho1 => ?_)
  have hst := fW_st hC hEn
  replace hM := hM D cy
  rcases rx with v | e
  · show gAt X 0 0 5 w h (gE1 ao (some (.inl (arrV (cy 5) 1 (fun _ => .long v0))))) [(0, .ref a0), (1, .int x1), (2, .int x2), (3, .ref ao)] [] 0
    refine g_aload_n hC dL_ranked_0 rfl 3 rfl ?_
    refine g_iconst (v := 0) hC dL_ranked_1 (by decide) ?_
    refine g_aload_n hC dL_ranked_2 rfl 0 rfl ?_
    refine g_iload_n hC dL_ranked_3 rfl 1 rfl ?_
    refine g_iload_n hC dL_ranked_4 rfl 2 rfl ?_
    refine g_callVR hC hst [.int x1, .int x2] (rv := some (.int v)) hM q_1009 q_132 q_1006 q_1007 q_1008 h9_X4_ranked (T := TX4) (N := 15) (ci := 4) rfl hk0 ⟨Nat.le_of_ble_eq_true rfl, Nat.le_of_ble_eq_true rfl⟩ ⟨Nat.le_of_ble_eq_true rfl, Nat.le_of_ble_eq_true rfl⟩ (Nat.le_of_ble_eq_true rfl) rfl dL_ranked_5 (fun h1 hh1 hs1 => ?_)
    refine g_cs 1 6 (Nat.zero_add _).symm (Nat.zero_add _).symm ?_
    refine g_i2l hC dL_ranked_8 ?_
    refine g_lastE hC (gE1_b _ _) dL_ranked_9 ?_
    refine g_nm h1 (gE1 ao (some (.inl (arrV (cy 5) 1 (fun _ => .long v.toInt64))))) _ _ rfl (gE1_up _ _ _).symm rfl rfl ?_
    refine g_goto hC 21 dL_ranked_10 (by decide) ?_
    refine g_iconst (v := 0) hC dL_ranked_21 (by decide) ?_
    exact g_iretW hC hEn (fSm.rf w) (gE1_b _ _) dL_ranked_22
  · have he := hes e rfl
    simp only [List.mem_cons, List.not_mem_nil, or_false] at he
    rcases he with rfl | rfl
    · show gAt X 0 0 5 w h (gE1 ao (some (.inl (arrV (cy 5) 1 (fun _ => .long v0))))) [(0, .ref a0), (1, .int x1), (2, .int x2), (3, .ref ao)] [] 0
      refine g_aload_n hC dL_ranked_0 rfl 3 rfl ?_
      refine g_iconst (v := 0) hC dL_ranked_1 (by decide) ?_
      refine g_aload_n hC dL_ranked_2 rfl 0 rfl ?_
      refine g_iload_n hC dL_ranked_3 rfl 1 rfl ?_
      refine g_iload_n hC dL_ranked_4 rfl 2 rfl ?_
      refine g_callVT hC hst [.int x1, .int x2] (ex := 1) hM q_1009 q_132 q_1006 q_1007 q_1008 h9_X4_ranked (T := TX4) (N := 15) (ci := 4) rfl hk0 ⟨Nat.le_of_ble_eq_true rfl, Nat.le_of_ble_eq_true rfl⟩ ⟨Nat.le_of_ble_eq_true rfl, Nat.le_of_ble_eq_true rfl⟩ (Nat.le_of_ble_eq_true rfl) rfl dL_ranked_5 (fun h1 hh1 hs1 => ?_)
      show gXt X (0 + 1) (0 + 6) 5 w h1 (gE1 ao (some (.inl (arrV (cy 5) 1 (fun _ => .long v0))))) [(0, .ref a0), (1, .int x1), (2, .int x2), (3, .ref ao)] 1 5
      refine g_catch hC hEn [] ⟨0, 10, 13, 13⟩ [⟨0, 10, 17, 46⟩] rfl (fun z hz => absurd hz List.not_mem_nil) (by decide) (by decide) q_624 q_475 (fun q9 => ?_)
      refine g_cs 1 6 (Nat.zero_add _).symm (Nat.zero_add _).symm ?_
      refine g_astore (L' := [(4, .ref q9), (0, .ref a0), (1, .int x1), (2, .int x2), (3, .ref ao)]) hC dL_ranked_13 (by decide) rfl ?_
      refine g_iconst (v := 1) hC dL_ranked_15 (by decide) ?_
      exact g_iretW hC hEn (fSm.rf w) (gE1_b _ _) dL_ranked_16
    · show gAt X 0 0 5 w h (gE1 ao (some (.inl (arrV (cy 5) 1 (fun _ => .long v0))))) [(0, .ref a0), (1, .int x1), (2, .int x2), (3, .ref ao)] [] 0
      refine g_aload_n hC dL_ranked_0 rfl 3 rfl ?_
      refine g_iconst (v := 0) hC dL_ranked_1 (by decide) ?_
      refine g_aload_n hC dL_ranked_2 rfl 0 rfl ?_
      refine g_iload_n hC dL_ranked_3 rfl 1 rfl ?_
      refine g_iload_n hC dL_ranked_4 rfl 2 rfl ?_
      refine g_callVT hC hst [.int x1, .int x2] (ex := 5) hM q_1009 q_132 q_1006 q_1007 q_1008 h9_X4_ranked (T := TX4) (N := 15) (ci := 4) rfl hk0 ⟨Nat.le_of_ble_eq_true rfl, Nat.le_of_ble_eq_true rfl⟩ ⟨Nat.le_of_ble_eq_true rfl, Nat.le_of_ble_eq_true rfl⟩ (Nat.le_of_ble_eq_true rfl) rfl dL_ranked_5 (fun h1 hh1 hs1 => ?_)
      show gXt X (0 + 1) (0 + 6) 5 w h1 (gE1 ao (some (.inl (arrV (cy 5) 1 (fun _ => .long v0))))) [(0, .ref a0), (1, .int x1), (2, .int x2), (3, .ref ao)] 5 5
      have hpass : ∀ z ∈ ([⟨0, 10, 13, 13⟩] : List ExceptionTableEntry), z.catchType ≠ 0 ∧ ∃ nm : String, Cond.classLink RL z.catchType nm ∈ lwA ∧ (exN 5, nm) ∈ ncL := by
        intro z hz
        simp only [List.mem_cons, List.not_mem_nil, or_false] at hz
        subst hz
        exact ⟨by decide, _, q_624, by decide +kernel⟩
      refine g_catch hC hEn [⟨0, 10, 13, 13⟩] ⟨0, 10, 17, 46⟩ [] rfl hpass (by decide) (by decide) q_774 q_782 (fun q9 => ?_)
      refine g_cs 1 6 (Nat.zero_add _).symm (Nat.zero_add _).symm ?_
      refine g_astore (L' := [(4, .ref q9), (0, .ref a0), (1, .int x1), (2, .int x2), (3, .ref ao)]) hC dL_ranked_17 (by decide) rfl ?_
      refine g_iconst (v := 2) hC dL_ranked_19 (by decide) ?_
      exact g_iretW hC hEn (fSm.rf w) (gE1_b _ _) dL_ranked_20
theorem dL_line_0 : decode cL_line 0 = .ok (.aload_n 2, 1) := by decide +kernel
theorem dL_line_1 : decode cL_line 1 = .ok (.iconst 0, 1) := by decide +kernel
theorem dL_line_2 : decode cL_line 2 = .ok (.aload_n 0, 1) := by decide +kernel
theorem dL_line_3 : decode cL_line 3 = .ok (.iload_n 1, 1) := by decide +kernel
theorem dL_line_4 : decode cL_line 4 = .ok (.invokevirtual 102, 3) := by decide +kernel
theorem dL_line_7 : decode cL_line 7 = .ok (.i2l, 1) := by decide +kernel
theorem dL_line_8 : decode cL_line 8 = .ok (.lastore, 1) := by decide +kernel
theorem dL_line_9 : decode cL_line 9 = .ok (.goto 6, 3) := by decide +kernel
theorem dL_line_12 : decode cL_line 12 = .ok (.astore_n 3, 1) := by decide +kernel
theorem dL_line_13 : decode cL_line 13 = .ok (.iconst 1, 1) := by decide +kernel
theorem dL_line_14 : decode cL_line 14 = .ok (.ireturn, 1) := by decide +kernel
theorem dL_line_15 : decode cL_line 15 = .ok (.iconst 0, 1) := by decide +kernel
theorem dL_line_16 : decode cL_line 16 = .ok (.ireturn, 1) := by decide +kernel
theorem h9_L_line : yL_line.cls ≠ "java/lang/invoke/MethodHandle" ∧ yL_line.cls ≠ "java/lang/invoke/VarHandle" ∧ (parseMethodDescriptor yL_line.desc).map (fun d => d.parameters.length) = some 3 := by decide +kernel
set_option maxHeartbeats 4000000 in
set_option maxRecDepth 100000 in
theorem c_L_line (l : Launch) (D : va_G) (cy : Nat → ClassId) (a0 : Nat) (x1 : Int32) (ao : Nat) (w w1 : FW) (v0 : Int64) (rx : Int32 ⊕ Nat) (hF : F_X4_line a0 x1 w = some (rx, w1)) (hk0 : w.1 a0 = 5) (hes : ∀ e, rx = .inr e → e ∈ [2]) : fWSpec l D cy yL_line cL_line 4 [(0, 9, 12, 25)] { frames := 8, cells := 1, slots := 6, locals := 177 } [.ref a0, .int x1, .ref ao] w w1 ao (arrV (cy 5) 1 (fun _ => .long v0)) (wO rx (arrV (cy 5) 1 (fun _ => .long v0)) (fun v => arrV (cy 5) 1 (fun _ => .long v.toInt64))) (wK [2] rx) := by
  have hM := fun (D : va_G) (cy : Nat → ClassId) => c_X4_line l D cy a0 x1 w _ hF
  refine fw_begin (by decide +kernel) (Nat.le_of_ble_eq_true rfl) (fun X h hC hEn ho0 ho1 => ?_)
  have hst := fW_st hC hEn
  replace hM := hM D cy
  rcases rx with v | e
  · show gAt X 0 0 4 w h (gE1 ao (some (.inl (arrV (cy 5) 1 (fun _ => .long v0))))) [(0, .ref a0), (1, .int x1), (2, .ref ao)] [] 0
    refine g_aload_n hC dL_line_0 rfl 2 rfl ?_
    refine g_iconst (v := 0) hC dL_line_1 (by decide) ?_
    refine g_aload_n hC dL_line_2 rfl 0 rfl ?_
    refine g_iload_n hC dL_line_3 rfl 1 rfl ?_
    refine g_callVR hC hst [.int x1] (rv := some (.int v)) hM q_1035 q_132 q_1032 q_1033 q_1034 h9_X4_line (T := TX4) (N := 15) (ci := 4) rfl hk0 ⟨Nat.le_of_ble_eq_true rfl, Nat.le_of_ble_eq_true rfl⟩ ⟨Nat.le_of_ble_eq_true rfl, Nat.le_of_ble_eq_true rfl⟩ (Nat.le_of_ble_eq_true rfl) rfl dL_line_4 (fun h1 hh1 hs1 => ?_)
    refine g_cs 1 6 (Nat.zero_add _).symm (Nat.zero_add _).symm ?_
    refine g_i2l hC dL_line_7 ?_
    refine g_lastE hC (gE1_b _ _) dL_line_8 ?_
    refine g_nm h1 (gE1 ao (some (.inl (arrV (cy 5) 1 (fun _ => .long v.toInt64))))) _ _ rfl (gE1_up _ _ _).symm rfl rfl ?_
    refine g_goto hC 15 dL_line_9 (by decide) ?_
    refine g_iconst (v := 0) hC dL_line_15 (by decide) ?_
    exact g_iretW hC hEn hs1 (gE1_b _ _) dL_line_16
  · have he := hes e rfl
    simp only [List.mem_cons, List.not_mem_nil, or_false] at he
    subst he
    show gAt X 0 0 4 w h (gE1 ao (some (.inl (arrV (cy 5) 1 (fun _ => .long v0))))) [(0, .ref a0), (1, .int x1), (2, .ref ao)] [] 0
    refine g_aload_n hC dL_line_0 rfl 2 rfl ?_
    refine g_iconst (v := 0) hC dL_line_1 (by decide) ?_
    refine g_aload_n hC dL_line_2 rfl 0 rfl ?_
    refine g_iload_n hC dL_line_3 rfl 1 rfl ?_
    refine g_callVT hC hst [.int x1] (ex := 2) hM q_1035 q_132 q_1032 q_1033 q_1034 h9_X4_line (T := TX4) (N := 15) (ci := 4) rfl hk0 ⟨Nat.le_of_ble_eq_true rfl, Nat.le_of_ble_eq_true rfl⟩ ⟨Nat.le_of_ble_eq_true rfl, Nat.le_of_ble_eq_true rfl⟩ (Nat.le_of_ble_eq_true rfl) rfl dL_line_4 (fun h1 hh1 hs1 => ?_)
    show gXt X (0 + 1) (0 + 6) 4 w1 h1 (gE1 ao (some (.inl (arrV (cy 5) 1 (fun _ => .long v0))))) [(0, .ref a0), (1, .int x1), (2, .ref ao)] 2 4
    refine g_catch hC hEn [] ⟨0, 9, 12, 25⟩ [] rfl (fun z hz => absurd hz List.not_mem_nil) (by decide) (by decide) q_660 q_403 (fun q9 => ?_)
    refine g_cs 1 6 (Nat.zero_add _).symm (Nat.zero_add _).symm ?_
    refine g_astore_n (L' := [(3, .ref q9), (0, .ref a0), (1, .int x1), (2, .ref ao)]) hC dL_line_12 rfl (by decide) rfl ?_
    refine g_iconst (v := 1) hC dL_line_13 (by decide) ?_
    exact g_iretW hC hEn hs1 (gE1_b _ _) dL_line_14
theorem dL_holeLine_0 : decode cL_holeLine 0 = .ok (.aload_n 3, 1) := by decide +kernel
theorem dL_holeLine_1 : decode cL_holeLine 1 = .ok (.iconst 0, 1) := by decide +kernel
theorem dL_holeLine_2 : decode cL_holeLine 2 = .ok (.aload_n 0, 1) := by decide +kernel
theorem dL_holeLine_3 : decode cL_holeLine 3 = .ok (.iload_n 1, 1) := by decide +kernel
theorem dL_holeLine_4 : decode cL_holeLine 4 = .ok (.iload_n 2, 1) := by decide +kernel
theorem dL_holeLine_5 : decode cL_holeLine 5 = .ok (.invokevirtual 105, 3) := by decide +kernel
theorem dL_holeLine_8 : decode cL_holeLine 8 = .ok (.i2l, 1) := by decide +kernel
theorem dL_holeLine_9 : decode cL_holeLine 9 = .ok (.lastore, 1) := by decide +kernel
theorem dL_holeLine_10 : decode cL_holeLine 10 = .ok (.goto 11, 3) := by decide +kernel
theorem dL_holeLine_13 : decode cL_holeLine 13 = .ok (.astore 4, 2) := by decide +kernel
theorem dL_holeLine_15 : decode cL_holeLine 15 = .ok (.iconst 1, 1) := by decide +kernel
theorem dL_holeLine_16 : decode cL_holeLine 16 = .ok (.ireturn, 1) := by decide +kernel
theorem dL_holeLine_17 : decode cL_holeLine 17 = .ok (.astore 4, 2) := by decide +kernel
theorem dL_holeLine_19 : decode cL_holeLine 19 = .ok (.iconst 2, 1) := by decide +kernel
theorem dL_holeLine_20 : decode cL_holeLine 20 = .ok (.ireturn, 1) := by decide +kernel
theorem dL_holeLine_21 : decode cL_holeLine 21 = .ok (.iconst 0, 1) := by decide +kernel
theorem dL_holeLine_22 : decode cL_holeLine 22 = .ok (.ireturn, 1) := by decide +kernel
theorem h9_L_holeLine : yL_holeLine.cls ≠ "java/lang/invoke/MethodHandle" ∧ yL_holeLine.cls ≠ "java/lang/invoke/VarHandle" ∧ (parseMethodDescriptor yL_holeLine.desc).map (fun d => d.parameters.length) = some 4 := by decide +kernel
set_option maxHeartbeats 4000000 in
set_option maxRecDepth 100000 in
theorem c_L_holeLine (l : Launch) (D : va_G) (cy : Nat → ClassId) (a0 : Nat) (x1 : Int32) (x2 : Int32) (ao : Nat) (w w1 : FW) (v0 : Int64) (rx : Int32 ⊕ Nat) (hF : F_X4_holeLine a0 x1 x2 w = some (rx, w1)) (hk0 : w.1 a0 = 5) (hes : ∀ e, rx = .inr e → e ∈ [2, 5]) : fWSpec l D cy yL_holeLine cL_holeLine 5 [(0, 10, 13, 25), (0, 10, 17, 46)] { frames := 8, cells := 2, slots := 12, locals := 149 } [.ref a0, .int x1, .int x2, .ref ao] w w1 ao (arrV (cy 5) 1 (fun _ => .long v0)) (wO rx (arrV (cy 5) 1 (fun _ => .long v0)) (fun v => arrV (cy 5) 1 (fun _ => .long v.toInt64))) (wK [2, 5] rx) := by
  have hM := fun (D : va_G) (cy : Nat → ClassId) => c_X4_holeLine l D cy a0 x1 x2 w _ hF
  refine fw_begin (by decide +kernel) (Nat.le_of_ble_eq_true rfl) (fun X h hC hEn ho0 ho1 => ?_)
  have hst := fW_st hC hEn
  replace hM := hM D cy
  rcases rx with v | e
  · show gAt X 0 0 5 w h (gE1 ao (some (.inl (arrV (cy 5) 1 (fun _ => .long v0))))) [(0, .ref a0), (1, .int x1), (2, .int x2), (3, .ref ao)] [] 0
    refine g_aload_n hC dL_holeLine_0 rfl 3 rfl ?_
    refine g_iconst (v := 0) hC dL_holeLine_1 (by decide) ?_
    refine g_aload_n hC dL_holeLine_2 rfl 0 rfl ?_
    refine g_iload_n hC dL_holeLine_3 rfl 1 rfl ?_
    refine g_iload_n hC dL_holeLine_4 rfl 2 rfl ?_
    refine g_callVR hC hst [.int x1, .int x2] (rv := some (.int v)) hM q_1053 q_132 q_1050 q_1051 q_1052 h9_X4_holeLine (T := TX4) (N := 15) (ci := 4) rfl hk0 ⟨Nat.le_of_ble_eq_true rfl, Nat.le_of_ble_eq_true rfl⟩ ⟨Nat.le_of_ble_eq_true rfl, Nat.le_of_ble_eq_true rfl⟩ (Nat.le_of_ble_eq_true rfl) rfl dL_holeLine_5 (fun h1 hh1 hs1 => ?_)
    refine g_cs 2 12 (Nat.zero_add _).symm (Nat.zero_add _).symm ?_
    refine g_i2l hC dL_holeLine_8 ?_
    refine g_lastE hC (gE1_b _ _) dL_holeLine_9 ?_
    refine g_nm h1 (gE1 ao (some (.inl (arrV (cy 5) 1 (fun _ => .long v.toInt64))))) _ _ rfl (gE1_up _ _ _).symm rfl rfl ?_
    refine g_goto hC 21 dL_holeLine_10 (by decide) ?_
    refine g_iconst (v := 0) hC dL_holeLine_21 (by decide) ?_
    exact g_iretW hC hEn hs1 (gE1_b _ _) dL_holeLine_22
  · have he := hes e rfl
    simp only [List.mem_cons, List.not_mem_nil, or_false] at he
    rcases he with rfl | rfl
    · show gAt X 0 0 5 w h (gE1 ao (some (.inl (arrV (cy 5) 1 (fun _ => .long v0))))) [(0, .ref a0), (1, .int x1), (2, .int x2), (3, .ref ao)] [] 0
      refine g_aload_n hC dL_holeLine_0 rfl 3 rfl ?_
      refine g_iconst (v := 0) hC dL_holeLine_1 (by decide) ?_
      refine g_aload_n hC dL_holeLine_2 rfl 0 rfl ?_
      refine g_iload_n hC dL_holeLine_3 rfl 1 rfl ?_
      refine g_iload_n hC dL_holeLine_4 rfl 2 rfl ?_
      refine g_callVT hC hst [.int x1, .int x2] (ex := 2) hM q_1053 q_132 q_1050 q_1051 q_1052 h9_X4_holeLine (T := TX4) (N := 15) (ci := 4) rfl hk0 ⟨Nat.le_of_ble_eq_true rfl, Nat.le_of_ble_eq_true rfl⟩ ⟨Nat.le_of_ble_eq_true rfl, Nat.le_of_ble_eq_true rfl⟩ (Nat.le_of_ble_eq_true rfl) rfl dL_holeLine_5 (fun h1 hh1 hs1 => ?_)
      show gXt X (0 + 2) (0 + 12) 5 w1 h1 (gE1 ao (some (.inl (arrV (cy 5) 1 (fun _ => .long v0))))) [(0, .ref a0), (1, .int x1), (2, .int x2), (3, .ref ao)] 2 5
      refine g_catch hC hEn [] ⟨0, 10, 13, 25⟩ [⟨0, 10, 17, 46⟩] rfl (fun z hz => absurd hz List.not_mem_nil) (by decide) (by decide) q_660 q_403 (fun q9 => ?_)
      refine g_cs 2 12 (Nat.zero_add _).symm (Nat.zero_add _).symm ?_
      refine g_astore (L' := [(4, .ref q9), (0, .ref a0), (1, .int x1), (2, .int x2), (3, .ref ao)]) hC dL_holeLine_13 (by decide) rfl ?_
      refine g_iconst (v := 1) hC dL_holeLine_15 (by decide) ?_
      exact g_iretW hC hEn hs1 (gE1_b _ _) dL_holeLine_16
    · show gAt X 0 0 5 w h (gE1 ao (some (.inl (arrV (cy 5) 1 (fun _ => .long v0))))) [(0, .ref a0), (1, .int x1), (2, .int x2), (3, .ref ao)] [] 0
      refine g_aload_n hC dL_holeLine_0 rfl 3 rfl ?_
      refine g_iconst (v := 0) hC dL_holeLine_1 (by decide) ?_
      refine g_aload_n hC dL_holeLine_2 rfl 0 rfl ?_
      refine g_iload_n hC dL_holeLine_3 rfl 1 rfl ?_
      refine g_iload_n hC dL_holeLine_4 rfl 2 rfl ?_
      refine g_callVT hC hst [.int x1, .int x2] (ex := 5) hM q_1053 q_132 q_1050 q_1051 q_1052 h9_X4_holeLine (T := TX4) (N := 15) (ci := 4) rfl hk0 ⟨Nat.le_of_ble_eq_true rfl, Nat.le_of_ble_eq_true rfl⟩ ⟨Nat.le_of_ble_eq_true rfl, Nat.le_of_ble_eq_true rfl⟩ (Nat.le_of_ble_eq_true rfl) rfl dL_holeLine_5 (fun h1 hh1 hs1 => ?_)
      show gXt X (0 + 2) (0 + 12) 5 w1 h1 (gE1 ao (some (.inl (arrV (cy 5) 1 (fun _ => .long v0))))) [(0, .ref a0), (1, .int x1), (2, .int x2), (3, .ref ao)] 5 5
      have hpass : ∀ z ∈ ([⟨0, 10, 13, 25⟩] : List ExceptionTableEntry), z.catchType ≠ 0 ∧ ∃ nm : String, Cond.classLink RL z.catchType nm ∈ lwA ∧ (exN 5, nm) ∈ ncL := by
        intro z hz
        simp only [List.mem_cons, List.not_mem_nil, or_false] at hz
        subst hz
        exact ⟨by decide, _, q_660, by decide +kernel⟩
      refine g_catch hC hEn [⟨0, 10, 13, 25⟩] ⟨0, 10, 17, 46⟩ [] rfl hpass (by decide) (by decide) q_774 q_782 (fun q9 => ?_)
      refine g_cs 2 12 (Nat.zero_add _).symm (Nat.zero_add _).symm ?_
      refine g_astore (L' := [(4, .ref q9), (0, .ref a0), (1, .int x1), (2, .int x2), (3, .ref ao)]) hC dL_holeLine_17 (by decide) rfl ?_
      refine g_iconst (v := 2) hC dL_holeLine_19 (by decide) ?_
      exact g_iretW hC hEn hs1 (gE1_b _ _) dL_holeLine_20
theorem dL_character_0 : decode cL_character 0 = .ok (.aload_n 2, 1) := by decide +kernel
theorem dL_character_1 : decode cL_character 1 = .ok (.iconst 0, 1) := by decide +kernel
theorem dL_character_2 : decode cL_character 2 = .ok (.aload_n 0, 1) := by decide +kernel
theorem dL_character_3 : decode cL_character 3 = .ok (.iload_n 1, 1) := by decide +kernel
theorem dL_character_4 : decode cL_character 4 = .ok (.invokevirtual 108, 3) := by decide +kernel
theorem dL_character_7 : decode cL_character 7 = .ok (.i2l, 1) := by decide +kernel
theorem dL_character_8 : decode cL_character 8 = .ok (.lastore, 1) := by decide +kernel
theorem dL_character_9 : decode cL_character 9 = .ok (.goto 6, 3) := by decide +kernel
theorem dL_character_12 : decode cL_character 12 = .ok (.astore_n 3, 1) := by decide +kernel
theorem dL_character_13 : decode cL_character 13 = .ok (.iconst 1, 1) := by decide +kernel
theorem dL_character_14 : decode cL_character 14 = .ok (.ireturn, 1) := by decide +kernel
theorem dL_character_15 : decode cL_character 15 = .ok (.iconst 0, 1) := by decide +kernel
theorem dL_character_16 : decode cL_character 16 = .ok (.ireturn, 1) := by decide +kernel
theorem h9_L_character : yL_character.cls ≠ "java/lang/invoke/MethodHandle" ∧ yL_character.cls ≠ "java/lang/invoke/VarHandle" ∧ (parseMethodDescriptor yL_character.desc).map (fun d => d.parameters.length) = some 3 := by decide +kernel
set_option maxHeartbeats 4000000 in
set_option maxRecDepth 100000 in
theorem c_L_character (l : Launch) (D : va_G) (cy : Nat → ClassId) (a0 : Nat) (x1 : Int32) (ao : Nat) (w : FW) (v0 : Int64) (rx : Int32 ⊕ Nat) (hF : F_X4_character a0 x1 w = some rx) (hk0 : w.1 a0 = 5) (hes : ∀ e, rx = .inr e → e ∈ [2]) : fWSpec l D cy yL_character cL_character 4 [(0, 9, 12, 25)] { frames := 7, cells := 1, slots := 6, locals := 121 } [.ref a0, .int x1, .ref ao] w w ao (arrV (cy 5) 1 (fun _ => .long v0)) (wO rx (arrV (cy 5) 1 (fun _ => .long v0)) (fun v => arrV (cy 5) 1 (fun _ => .long v.toInt64))) (wK [2] rx) := by
  have hM := fun (D : va_G) (cy : Nat → ClassId) => c_X4_character l D cy a0 x1 w _ hF
  refine fw_begin (by decide +kernel) (Nat.le_of_ble_eq_true rfl) (fun X h hC hEn ho0 ho1 => ?_)
  have hst := fW_st hC hEn
  replace hM := hM D cy
  rcases rx with v | e
  · show gAt X 0 0 4 w h (gE1 ao (some (.inl (arrV (cy 5) 1 (fun _ => .long v0))))) [(0, .ref a0), (1, .int x1), (2, .ref ao)] [] 0
    refine g_aload_n hC dL_character_0 rfl 2 rfl ?_
    refine g_iconst (v := 0) hC dL_character_1 (by decide) ?_
    refine g_aload_n hC dL_character_2 rfl 0 rfl ?_
    refine g_iload_n hC dL_character_3 rfl 1 rfl ?_
    refine g_callVR hC hst [.int x1] (rv := some (.int v)) hM q_1061 q_132 q_1058 q_1059 q_1060 h9_X4_character (T := TX4) (N := 15) (ci := 4) rfl hk0 ⟨Nat.le_of_ble_eq_true rfl, Nat.le_of_ble_eq_true rfl⟩ ⟨Nat.le_of_ble_eq_true rfl, Nat.le_of_ble_eq_true rfl⟩ (Nat.le_of_ble_eq_true rfl) rfl dL_character_4 (fun h1 hh1 hs1 => ?_)
    refine g_cs 1 6 (Nat.zero_add _).symm (Nat.zero_add _).symm ?_
    refine g_i2l hC dL_character_7 ?_
    refine g_lastE hC (gE1_b _ _) dL_character_8 ?_
    refine g_nm h1 (gE1 ao (some (.inl (arrV (cy 5) 1 (fun _ => .long v.toInt64))))) _ _ rfl (gE1_up _ _ _).symm rfl rfl ?_
    refine g_goto hC 15 dL_character_9 (by decide) ?_
    refine g_iconst (v := 0) hC dL_character_15 (by decide) ?_
    exact g_iretW hC hEn (fSm.rf w) (gE1_b _ _) dL_character_16
  · have he := hes e rfl
    simp only [List.mem_cons, List.not_mem_nil, or_false] at he
    subst he
    show gAt X 0 0 4 w h (gE1 ao (some (.inl (arrV (cy 5) 1 (fun _ => .long v0))))) [(0, .ref a0), (1, .int x1), (2, .ref ao)] [] 0
    refine g_aload_n hC dL_character_0 rfl 2 rfl ?_
    refine g_iconst (v := 0) hC dL_character_1 (by decide) ?_
    refine g_aload_n hC dL_character_2 rfl 0 rfl ?_
    refine g_iload_n hC dL_character_3 rfl 1 rfl ?_
    refine g_callVT hC hst [.int x1] (ex := 2) hM q_1061 q_132 q_1058 q_1059 q_1060 h9_X4_character (T := TX4) (N := 15) (ci := 4) rfl hk0 ⟨Nat.le_of_ble_eq_true rfl, Nat.le_of_ble_eq_true rfl⟩ ⟨Nat.le_of_ble_eq_true rfl, Nat.le_of_ble_eq_true rfl⟩ (Nat.le_of_ble_eq_true rfl) rfl dL_character_4 (fun h1 hh1 hs1 => ?_)
    show gXt X (0 + 1) (0 + 6) 4 w h1 (gE1 ao (some (.inl (arrV (cy 5) 1 (fun _ => .long v0))))) [(0, .ref a0), (1, .int x1), (2, .ref ao)] 2 4
    refine g_catch hC hEn [] ⟨0, 9, 12, 25⟩ [] rfl (fun z hz => absurd hz List.not_mem_nil) (by decide) (by decide) q_660 q_403 (fun q9 => ?_)
    refine g_cs 1 6 (Nat.zero_add _).symm (Nat.zero_add _).symm ?_
    refine g_astore_n (L' := [(3, .ref q9), (0, .ref a0), (1, .int x1), (2, .ref ao)]) hC dL_character_12 rfl (by decide) rfl ?_
    refine g_iconst (v := 1) hC dL_character_13 (by decide) ?_
    exact g_iretW hC hEn (fSm.rf w) (gE1_b _ _) dL_character_14
theorem dL_refusal_0 : decode cL_refusal 0 = .ok (.aload_n 2, 1) := by decide +kernel
theorem dL_refusal_1 : decode cL_refusal 1 = .ok (.iconst 0, 1) := by decide +kernel
theorem dL_refusal_2 : decode cL_refusal 2 = .ok (.aload_n 0, 1) := by decide +kernel
theorem dL_refusal_3 : decode cL_refusal 3 = .ok (.iload_n 1, 1) := by decide +kernel
theorem dL_refusal_4 : decode cL_refusal 4 = .ok (.invokevirtual 112, 3) := by decide +kernel
theorem dL_refusal_7 : decode cL_refusal 7 = .ok (.i2l, 1) := by decide +kernel
theorem dL_refusal_8 : decode cL_refusal 8 = .ok (.lastore, 1) := by decide +kernel
theorem dL_refusal_9 : decode cL_refusal 9 = .ok (.goto 6, 3) := by decide +kernel
theorem dL_refusal_12 : decode cL_refusal 12 = .ok (.astore_n 3, 1) := by decide +kernel
theorem dL_refusal_13 : decode cL_refusal 13 = .ok (.iconst 1, 1) := by decide +kernel
theorem dL_refusal_14 : decode cL_refusal 14 = .ok (.ireturn, 1) := by decide +kernel
theorem dL_refusal_15 : decode cL_refusal 15 = .ok (.iconst 0, 1) := by decide +kernel
theorem dL_refusal_16 : decode cL_refusal 16 = .ok (.ireturn, 1) := by decide +kernel
theorem h9_L_refusal : yL_refusal.cls ≠ "java/lang/invoke/MethodHandle" ∧ yL_refusal.cls ≠ "java/lang/invoke/VarHandle" ∧ (parseMethodDescriptor yL_refusal.desc).map (fun d => d.parameters.length) = some 3 := by decide +kernel
set_option maxHeartbeats 4000000 in
set_option maxRecDepth 100000 in
theorem c_L_refusal (l : Launch) (D : va_G) (cy : Nat → ClassId) (a0 : Nat) (x1 : Int32) (ao : Nat) (w : FW) (v0 : Int64) (rx : Int32 ⊕ Nat) (hF : F_X4_refusal a0 x1 w = some rx) (hk0 : w.1 a0 = 5) (hes : ∀ e, rx = .inr e → e ∈ [0]) : fWSpec l D cy yL_refusal cL_refusal 4 [(0, 9, 12, 116)] { frames := 7, cells := 1, slots := 6, locals := 121 } [.ref a0, .int x1, .ref ao] w w ao (arrV (cy 5) 1 (fun _ => .long v0)) (wO rx (arrV (cy 5) 1 (fun _ => .long v0)) (fun v => arrV (cy 5) 1 (fun _ => .long v.toInt64))) (wK [0] rx) := by
  have hM := fun (D : va_G) (cy : Nat → ClassId) => c_X4_refusal l D cy a0 x1 w _ hF
  refine fw_begin (by decide +kernel) (Nat.le_of_ble_eq_true rfl) (fun X h hC hEn ho0 ho1 => ?_)
  have hst := fW_st hC hEn
  replace hM := hM D cy
  rcases rx with v | e
  · show gAt X 0 0 4 w h (gE1 ao (some (.inl (arrV (cy 5) 1 (fun _ => .long v0))))) [(0, .ref a0), (1, .int x1), (2, .ref ao)] [] 0
    refine g_aload_n hC dL_refusal_0 rfl 2 rfl ?_
    refine g_iconst (v := 0) hC dL_refusal_1 (by decide) ?_
    refine g_aload_n hC dL_refusal_2 rfl 0 rfl ?_
    refine g_iload_n hC dL_refusal_3 rfl 1 rfl ?_
    refine g_callVR hC hst [.int x1] (rv := some (.int v)) hM q_1070 q_132 q_1067 q_1068 q_1069 h9_X4_refusal (T := TX4) (N := 15) (ci := 4) rfl hk0 ⟨Nat.le_of_ble_eq_true rfl, Nat.le_of_ble_eq_true rfl⟩ ⟨Nat.le_of_ble_eq_true rfl, Nat.le_of_ble_eq_true rfl⟩ (Nat.le_of_ble_eq_true rfl) rfl dL_refusal_4 (fun h1 hh1 hs1 => ?_)
    refine g_cs 1 6 (Nat.zero_add _).symm (Nat.zero_add _).symm ?_
    refine g_i2l hC dL_refusal_7 ?_
    refine g_lastE hC (gE1_b _ _) dL_refusal_8 ?_
    refine g_nm h1 (gE1 ao (some (.inl (arrV (cy 5) 1 (fun _ => .long v.toInt64))))) _ _ rfl (gE1_up _ _ _).symm rfl rfl ?_
    refine g_goto hC 15 dL_refusal_9 (by decide) ?_
    refine g_iconst (v := 0) hC dL_refusal_15 (by decide) ?_
    exact g_iretW hC hEn (fSm.rf w) (gE1_b _ _) dL_refusal_16
  · have he := hes e rfl
    simp only [List.mem_cons, List.not_mem_nil, or_false] at he
    subst he
    show gAt X 0 0 4 w h (gE1 ao (some (.inl (arrV (cy 5) 1 (fun _ => .long v0))))) [(0, .ref a0), (1, .int x1), (2, .ref ao)] [] 0
    refine g_aload_n hC dL_refusal_0 rfl 2 rfl ?_
    refine g_iconst (v := 0) hC dL_refusal_1 (by decide) ?_
    refine g_aload_n hC dL_refusal_2 rfl 0 rfl ?_
    refine g_iload_n hC dL_refusal_3 rfl 1 rfl ?_
    refine g_callVT hC hst [.int x1] (ex := 0) hM q_1070 q_132 q_1067 q_1068 q_1069 h9_X4_refusal (T := TX4) (N := 15) (ci := 4) rfl hk0 ⟨Nat.le_of_ble_eq_true rfl, Nat.le_of_ble_eq_true rfl⟩ ⟨Nat.le_of_ble_eq_true rfl, Nat.le_of_ble_eq_true rfl⟩ (Nat.le_of_ble_eq_true rfl) rfl dL_refusal_4 (fun h1 hh1 hs1 => ?_)
    show gXt X (0 + 1) (0 + 6) 4 w h1 (gE1 ao (some (.inl (arrV (cy 5) 1 (fun _ => .long v0))))) [(0, .ref a0), (1, .int x1), (2, .ref ao)] 0 4
    refine g_catch hC hEn [] ⟨0, 9, 12, 116⟩ [] rfl (fun z hz => absurd hz List.not_mem_nil) (by decide) (by decide) q_1066 q_1073 (fun q9 => ?_)
    refine g_cs 1 6 (Nat.zero_add _).symm (Nat.zero_add _).symm ?_
    refine g_astore_n (L' := [(3, .ref q9), (0, .ref a0), (1, .int x1), (2, .ref ao)]) hC dL_refusal_12 rfl (by decide) rfl ?_
    refine g_iconst (v := 1) hC dL_refusal_13 (by decide) ?_
    exact g_iretW hC hEn (fSm.rf w) (gE1_b _ _) dL_refusal_14
theorem dL_account_0 : decode cL_account 0 = .ok (.aload_n 2, 1) := by decide +kernel
theorem dL_account_1 : decode cL_account 1 = .ok (.iconst 0, 1) := by decide +kernel
theorem dL_account_2 : decode cL_account 2 = .ok (.aload_n 0, 1) := by decide +kernel
theorem dL_account_3 : decode cL_account 3 = .ok (.iload_n 1, 1) := by decide +kernel
theorem dL_account_4 : decode cL_account 4 = .ok (.invokevirtual 118, 3) := by decide +kernel
theorem dL_account_7 : decode cL_account 7 = .ok (.i2l, 1) := by decide +kernel
theorem dL_account_8 : decode cL_account 8 = .ok (.lastore, 1) := by decide +kernel
theorem dL_account_9 : decode cL_account 9 = .ok (.goto 6, 3) := by decide +kernel
theorem dL_account_12 : decode cL_account 12 = .ok (.astore_n 3, 1) := by decide +kernel
theorem dL_account_13 : decode cL_account 13 = .ok (.iconst 1, 1) := by decide +kernel
theorem dL_account_14 : decode cL_account 14 = .ok (.ireturn, 1) := by decide +kernel
theorem dL_account_15 : decode cL_account 15 = .ok (.iconst 0, 1) := by decide +kernel
theorem dL_account_16 : decode cL_account 16 = .ok (.ireturn, 1) := by decide +kernel
theorem h9_L_account : yL_account.cls ≠ "java/lang/invoke/MethodHandle" ∧ yL_account.cls ≠ "java/lang/invoke/VarHandle" ∧ (parseMethodDescriptor yL_account.desc).map (fun d => d.parameters.length) = some 3 := by decide +kernel
set_option maxHeartbeats 4000000 in
set_option maxRecDepth 100000 in
theorem c_L_account (l : Launch) (D : va_G) (cy : Nat → ClassId) (a0 : Nat) (x1 : Int32) (ao : Nat) (w : FW) (v0 : Int64) (rx : Int32 ⊕ Nat) (hF : F_X4_account a0 x1 w = some rx) (hk0 : w.1 a0 = 5) (hes : ∀ e, rx = .inr e → e ∈ [1]) : fWSpec l D cy yL_account cL_account 4 [(0, 9, 12, 13)] { frames := 7, cells := 1, slots := 6, locals := 129 } [.ref a0, .int x1, .ref ao] w w ao (arrV (cy 5) 1 (fun _ => .long v0)) (wO rx (arrV (cy 5) 1 (fun _ => .long v0)) (fun v => arrV (cy 5) 1 (fun _ => .long v.toInt64))) (wK [1] rx) := by
  have hM := fun (D : va_G) (cy : Nat → ClassId) => c_X4_account l D cy a0 x1 w _ hF
  refine fw_begin (by decide +kernel) (Nat.le_of_ble_eq_true rfl) (fun X h hC hEn ho0 ho1 => ?_)
  have hst := fW_st hC hEn
  replace hM := hM D cy
  rcases rx with v | e
  · show gAt X 0 0 4 w h (gE1 ao (some (.inl (arrV (cy 5) 1 (fun _ => .long v0))))) [(0, .ref a0), (1, .int x1), (2, .ref ao)] [] 0
    refine g_aload_n hC dL_account_0 rfl 2 rfl ?_
    refine g_iconst (v := 0) hC dL_account_1 (by decide) ?_
    refine g_aload_n hC dL_account_2 rfl 0 rfl ?_
    refine g_iload_n hC dL_account_3 rfl 1 rfl ?_
    refine g_callVR hC hst [.int x1] (rv := some (.int v)) hM q_1093 q_132 q_1090 q_1091 q_1092 h9_X4_account (T := TX4) (N := 15) (ci := 4) rfl hk0 ⟨Nat.le_of_ble_eq_true rfl, Nat.le_of_ble_eq_true rfl⟩ ⟨Nat.le_of_ble_eq_true rfl, Nat.le_of_ble_eq_true rfl⟩ (Nat.le_of_ble_eq_true rfl) rfl dL_account_4 (fun h1 hh1 hs1 => ?_)
    refine g_cs 1 6 (Nat.zero_add _).symm (Nat.zero_add _).symm ?_
    refine g_i2l hC dL_account_7 ?_
    refine g_lastE hC (gE1_b _ _) dL_account_8 ?_
    refine g_nm h1 (gE1 ao (some (.inl (arrV (cy 5) 1 (fun _ => .long v.toInt64))))) _ _ rfl (gE1_up _ _ _).symm rfl rfl ?_
    refine g_goto hC 15 dL_account_9 (by decide) ?_
    refine g_iconst (v := 0) hC dL_account_15 (by decide) ?_
    exact g_iretW hC hEn (fSm.rf w) (gE1_b _ _) dL_account_16
  · have he := hes e rfl
    simp only [List.mem_cons, List.not_mem_nil, or_false] at he
    subst he
    show gAt X 0 0 4 w h (gE1 ao (some (.inl (arrV (cy 5) 1 (fun _ => .long v0))))) [(0, .ref a0), (1, .int x1), (2, .ref ao)] [] 0
    refine g_aload_n hC dL_account_0 rfl 2 rfl ?_
    refine g_iconst (v := 0) hC dL_account_1 (by decide) ?_
    refine g_aload_n hC dL_account_2 rfl 0 rfl ?_
    refine g_iload_n hC dL_account_3 rfl 1 rfl ?_
    refine g_callVT hC hst [.int x1] (ex := 1) hM q_1093 q_132 q_1090 q_1091 q_1092 h9_X4_account (T := TX4) (N := 15) (ci := 4) rfl hk0 ⟨Nat.le_of_ble_eq_true rfl, Nat.le_of_ble_eq_true rfl⟩ ⟨Nat.le_of_ble_eq_true rfl, Nat.le_of_ble_eq_true rfl⟩ (Nat.le_of_ble_eq_true rfl) rfl dL_account_4 (fun h1 hh1 hs1 => ?_)
    show gXt X (0 + 1) (0 + 6) 4 w h1 (gE1 ao (some (.inl (arrV (cy 5) 1 (fun _ => .long v0))))) [(0, .ref a0), (1, .int x1), (2, .ref ao)] 1 4
    refine g_catch hC hEn [] ⟨0, 9, 12, 13⟩ [] rfl (fun z hz => absurd hz List.not_mem_nil) (by decide) (by decide) q_624 q_475 (fun q9 => ?_)
    refine g_cs 1 6 (Nat.zero_add _).symm (Nat.zero_add _).symm ?_
    refine g_astore_n (L' := [(3, .ref q9), (0, .ref a0), (1, .int x1), (2, .ref ao)]) hC dL_account_12 rfl (by decide) rfl ?_
    refine g_iconst (v := 1) hC dL_account_13 (by decide) ?_
    exact g_iretW hC hEn (fSm.rf w) (gE1_b _ _) dL_account_14
theorem dL_meanWet_0 : decode cL_meanWet 0 = .ok (.aload_n 1, 1) := by decide +kernel
theorem dL_meanWet_1 : decode cL_meanWet 1 = .ok (.iconst 0, 1) := by decide +kernel
theorem dL_meanWet_2 : decode cL_meanWet 2 = .ok (.aload_n 0, 1) := by decide +kernel
theorem dL_meanWet_3 : decode cL_meanWet 3 = .ok (.invokevirtual 121, 3) := by decide +kernel
theorem dL_meanWet_6 : decode cL_meanWet 6 = .ok (.dastore, 1) := by decide +kernel
theorem dL_meanWet_7 : decode cL_meanWet 7 = .ok (.goto 6, 3) := by decide +kernel
theorem dL_meanWet_10 : decode cL_meanWet 10 = .ok (.astore_n 2, 1) := by decide +kernel
theorem dL_meanWet_11 : decode cL_meanWet 11 = .ok (.iconst 1, 1) := by decide +kernel
theorem dL_meanWet_12 : decode cL_meanWet 12 = .ok (.ireturn, 1) := by decide +kernel
theorem dL_meanWet_13 : decode cL_meanWet 13 = .ok (.iconst 0, 1) := by decide +kernel
theorem dL_meanWet_14 : decode cL_meanWet 14 = .ok (.ireturn, 1) := by decide +kernel
theorem h9_L_meanWet : yL_meanWet.cls ≠ "java/lang/invoke/MethodHandle" ∧ yL_meanWet.cls ≠ "java/lang/invoke/VarHandle" ∧ (parseMethodDescriptor yL_meanWet.desc).map (fun d => d.parameters.length) = some 2 := by decide +kernel
set_option maxHeartbeats 4000000 in
set_option maxRecDepth 100000 in
theorem c_L_meanWet (l : Launch) (D : va_G) (cy : Nat → ClassId) (a0 : Nat) (ao : Nat) (w : FW) (v0 : UInt64) (rx : UInt64 ⊕ Nat) (hF : F_X4_meanWet a0 w = some rx) (hk0 : w.1 a0 = 5) (hes : ∀ e, rx = .inr e → e ∈ [3]) : fWSpec l D cy yL_meanWet cL_meanWet 3 [(0, 7, 10, 125)] { frames := 7, cells := 1, slots := 6, locals := 123 } [.ref a0, .ref ao] w w ao (arrV (cy 6) 1 (fun _ => .double v0)) (wO rx (arrV (cy 6) 1 (fun _ => .double v0)) (fun v => arrV (cy 6) 1 (fun _ => .double v))) (wK [3] rx) := by
  have hM := fun (D : va_G) (cy : Nat → ClassId) => c_X4_meanWet l D cy a0 w _ hF
  refine fw_begin (by decide +kernel) (Nat.le_of_ble_eq_true rfl) (fun X h hC hEn ho0 ho1 => ?_)
  have hst := fW_st hC hEn
  replace hM := hM D cy
  rcases rx with v | e
  · show gAt X 0 0 3 w h (gE1 ao (some (.inl (arrV (cy 6) 1 (fun _ => .double v0))))) [(0, .ref a0), (1, .ref ao)] [] 0
    refine g_aload_n hC dL_meanWet_0 rfl 1 rfl ?_
    refine g_iconst (v := 0) hC dL_meanWet_1 (by decide) ?_
    refine g_aload_n hC dL_meanWet_2 rfl 0 rfl ?_
    refine g_callVR hC hst [] (rv := some (.double v)) hM q_1124 q_132 q_1121 q_1122 q_1123 h9_X4_meanWet (T := TX4) (N := 15) (ci := 4) rfl hk0 ⟨Nat.le_of_ble_eq_true rfl, Nat.le_of_ble_eq_true rfl⟩ ⟨Nat.le_of_ble_eq_true rfl, Nat.le_of_ble_eq_true rfl⟩ (Nat.le_of_ble_eq_true rfl) rfl dL_meanWet_3 (fun h1 hh1 hs1 => ?_)
    refine g_cs 1 6 (Nat.zero_add _).symm (Nat.zero_add _).symm ?_
    refine g_dastE hC (gE1_b _ _) dL_meanWet_6 ?_
    refine g_nm h1 (gE1 ao (some (.inl (arrV (cy 6) 1 (fun _ => .double v))))) _ _ rfl (gE1_up _ _ _).symm rfl rfl ?_
    refine g_goto hC 13 dL_meanWet_7 (by decide) ?_
    refine g_iconst (v := 0) hC dL_meanWet_13 (by decide) ?_
    exact g_iretW hC hEn (fSm.rf w) (gE1_b _ _) dL_meanWet_14
  · have he := hes e rfl
    simp only [List.mem_cons, List.not_mem_nil, or_false] at he
    subst he
    show gAt X 0 0 3 w h (gE1 ao (some (.inl (arrV (cy 6) 1 (fun _ => .double v0))))) [(0, .ref a0), (1, .ref ao)] [] 0
    refine g_aload_n hC dL_meanWet_0 rfl 1 rfl ?_
    refine g_iconst (v := 0) hC dL_meanWet_1 (by decide) ?_
    refine g_aload_n hC dL_meanWet_2 rfl 0 rfl ?_
    refine g_callVT hC hst [] (ex := 3) hM q_1124 q_132 q_1121 q_1122 q_1123 h9_X4_meanWet (T := TX4) (N := 15) (ci := 4) rfl hk0 ⟨Nat.le_of_ble_eq_true rfl, Nat.le_of_ble_eq_true rfl⟩ ⟨Nat.le_of_ble_eq_true rfl, Nat.le_of_ble_eq_true rfl⟩ (Nat.le_of_ble_eq_true rfl) rfl dL_meanWet_3 (fun h1 hh1 hs1 => ?_)
    show gXt X (0 + 1) (0 + 6) 3 w h1 (gE1 ao (some (.inl (arrV (cy 6) 1 (fun _ => .double v0))))) [(0, .ref a0), (1, .ref ao)] 3 3
    refine g_catch hC hEn [] ⟨0, 7, 10, 125⟩ [] rfl (fun z hz => absurd hz List.not_mem_nil) (by decide) (by decide) q_1107 q_1119 (fun q9 => ?_)
    refine g_cs 1 6 (Nat.zero_add _).symm (Nat.zero_add _).symm ?_
    refine g_astore_n (L' := [(2, .ref q9), (0, .ref a0), (1, .ref ao)]) hC dL_meanWet_10 rfl (by decide) rfl ?_
    refine g_iconst (v := 1) hC dL_meanWet_11 (by decide) ?_
    exact g_iretW hC hEn (fSm.rf w) (gE1_b _ _) dL_meanWet_12
theorem dL_readShare_0 : decode cL_readShare 0 = .ok (.aload_n 1, 1) := by decide +kernel
theorem dL_readShare_1 : decode cL_readShare 1 = .ok (.iconst 0, 1) := by decide +kernel
theorem dL_readShare_2 : decode cL_readShare 2 = .ok (.aload_n 0, 1) := by decide +kernel
theorem dL_readShare_3 : decode cL_readShare 3 = .ok (.invokevirtual 127, 3) := by decide +kernel
theorem dL_readShare_6 : decode cL_readShare 6 = .ok (.f2d, 1) := by decide +kernel
theorem dL_readShare_7 : decode cL_readShare 7 = .ok (.dastore, 1) := by decide +kernel
theorem dL_readShare_8 : decode cL_readShare 8 = .ok (.goto 6, 3) := by decide +kernel
theorem dL_readShare_11 : decode cL_readShare 11 = .ok (.astore_n 2, 1) := by decide +kernel
theorem dL_readShare_12 : decode cL_readShare 12 = .ok (.iconst 1, 1) := by decide +kernel
theorem dL_readShare_13 : decode cL_readShare 13 = .ok (.ireturn, 1) := by decide +kernel
theorem dL_readShare_14 : decode cL_readShare 14 = .ok (.iconst 0, 1) := by decide +kernel
theorem dL_readShare_15 : decode cL_readShare 15 = .ok (.ireturn, 1) := by decide +kernel
theorem h9_L_readShare : yL_readShare.cls ≠ "java/lang/invoke/MethodHandle" ∧ yL_readShare.cls ≠ "java/lang/invoke/VarHandle" ∧ (parseMethodDescriptor yL_readShare.desc).map (fun d => d.parameters.length) = some 2 := by decide +kernel
set_option maxHeartbeats 4000000 in
set_option maxRecDepth 100000 in
theorem c_L_readShare (l : Launch) (D : va_G) (cy : Nat → ClassId) (a0 : Nat) (ao : Nat) (w : FW) (v0 : UInt64) (rx : UInt32 ⊕ Nat) (hF : F_X4_readShare a0 w = some rx) (hk0 : w.1 a0 = 5) (hes : ∀ e, rx = .inr e → e ∈ [3]) (hnan : ∀ v, rx = .inl v → vf_n64 (FP.f2d v)) : fWSpec l D cy yL_readShare cL_readShare 3 [(0, 8, 11, 125)] { frames := 9, cells := 1, slots := 6, locals := 197 } [.ref a0, .ref ao] w w ao (arrV (cy 6) 1 (fun _ => .double v0)) (wO rx (arrV (cy 6) 1 (fun _ => .double v0)) (fun v => arrV (cy 6) 1 (fun _ => .double (FP.f2d v)))) (wK [3] rx) := by
  have hM := fun (D : va_G) (cy : Nat → ClassId) => c_X4_readShare l D cy a0 w _ hF
  refine fw_begin (by decide +kernel) (Nat.le_of_ble_eq_true rfl) (fun X h hC hEn ho0 ho1 => ?_)
  have hst := fW_st hC hEn
  replace hM := hM D cy
  rcases rx with v | e
  · show gAt X 0 0 3 w h (gE1 ao (some (.inl (arrV (cy 6) 1 (fun _ => .double v0))))) [(0, .ref a0), (1, .ref ao)] [] 0
    refine g_aload_n hC dL_readShare_0 rfl 1 rfl ?_
    refine g_iconst (v := 0) hC dL_readShare_1 (by decide) ?_
    refine g_aload_n hC dL_readShare_2 rfl 0 rfl ?_
    refine g_callVR hC hst [] (rv := some (.float v)) hM q_1135 q_132 q_1132 q_1133 q_1134 h9_X4_readShare (T := TX4) (N := 15) (ci := 4) rfl hk0 ⟨Nat.le_of_ble_eq_true rfl, Nat.le_of_ble_eq_true rfl⟩ ⟨Nat.le_of_ble_eq_true rfl, Nat.le_of_ble_eq_true rfl⟩ (Nat.le_of_ble_eq_true rfl) rfl dL_readShare_3 (fun h1 hh1 hs1 => ?_)
    refine g_cs 1 6 (Nat.zero_add _).symm (Nat.zero_add _).symm ?_
    refine g_f2d hC (hnan v rfl) dL_readShare_6 ?_
    refine g_dastE hC (gE1_b _ _) dL_readShare_7 ?_
    refine g_nm h1 (gE1 ao (some (.inl (arrV (cy 6) 1 (fun _ => .double (FP.f2d v)))))) _ _ rfl (gE1_up _ _ _).symm rfl rfl ?_
    refine g_goto hC 14 dL_readShare_8 (by decide) ?_
    refine g_iconst (v := 0) hC dL_readShare_14 (by decide) ?_
    exact g_iretW hC hEn (fSm.rf w) (gE1_b _ _) dL_readShare_15
  · have he := hes e rfl
    simp only [List.mem_cons, List.not_mem_nil, or_false] at he
    subst he
    show gAt X 0 0 3 w h (gE1 ao (some (.inl (arrV (cy 6) 1 (fun _ => .double v0))))) [(0, .ref a0), (1, .ref ao)] [] 0
    refine g_aload_n hC dL_readShare_0 rfl 1 rfl ?_
    refine g_iconst (v := 0) hC dL_readShare_1 (by decide) ?_
    refine g_aload_n hC dL_readShare_2 rfl 0 rfl ?_
    refine g_callVT hC hst [] (ex := 3) hM q_1135 q_132 q_1132 q_1133 q_1134 h9_X4_readShare (T := TX4) (N := 15) (ci := 4) rfl hk0 ⟨Nat.le_of_ble_eq_true rfl, Nat.le_of_ble_eq_true rfl⟩ ⟨Nat.le_of_ble_eq_true rfl, Nat.le_of_ble_eq_true rfl⟩ (Nat.le_of_ble_eq_true rfl) rfl dL_readShare_3 (fun h1 hh1 hs1 => ?_)
    show gXt X (0 + 1) (0 + 6) 3 w h1 (gE1 ao (some (.inl (arrV (cy 6) 1 (fun _ => .double v0))))) [(0, .ref a0), (1, .ref ao)] 3 3
    refine g_catch hC hEn [] ⟨0, 8, 11, 125⟩ [] rfl (fun z hz => absurd hz List.not_mem_nil) (by decide) (by decide) q_1107 q_1119 (fun q9 => ?_)
    refine g_cs 1 6 (Nat.zero_add _).symm (Nat.zero_add _).symm ?_
    refine g_astore_n (L' := [(2, .ref q9), (0, .ref a0), (1, .ref ao)]) hC dL_readShare_11 rfl (by decide) rfl ?_
    refine g_iconst (v := 1) hC dL_readShare_12 (by decide) ?_
    exact g_iretW hC hEn (fSm.rf w) (gE1_b _ _) dL_readShare_13
theorem dL_append_0 : decode cL_append 0 = .ok (.aload_n 2, 1) := by decide +kernel
theorem dL_append_1 : decode cL_append 1 = .ok (.iconst 0, 1) := by decide +kernel
theorem dL_append_2 : decode cL_append 2 = .ok (.aload_n 0, 1) := by decide +kernel
theorem dL_append_3 : decode cL_append 3 = .ok (.iload_n 1, 1) := by decide +kernel
theorem dL_append_4 : decode cL_append 4 = .ok (.invokevirtual 131, 3) := by decide +kernel
theorem dL_append_7 : decode cL_append 7 = .ok (.i2l, 1) := by decide +kernel
theorem dL_append_8 : decode cL_append 8 = .ok (.lastore, 1) := by decide +kernel
theorem dL_append_9 : decode cL_append 9 = .ok (.goto 9, 3) := by decide +kernel
theorem dL_append_12 : decode cL_append 12 = .ok (.astore_n 3, 1) := by decide +kernel
theorem dL_append_13 : decode cL_append 13 = .ok (.iconst 1, 1) := by decide +kernel
theorem dL_append_14 : decode cL_append 14 = .ok (.ireturn, 1) := by decide +kernel
theorem dL_append_15 : decode cL_append 15 = .ok (.astore_n 3, 1) := by decide +kernel
theorem dL_append_16 : decode cL_append 16 = .ok (.iconst 2, 1) := by decide +kernel
theorem dL_append_17 : decode cL_append 17 = .ok (.ireturn, 1) := by decide +kernel
theorem dL_append_18 : decode cL_append 18 = .ok (.iconst 0, 1) := by decide +kernel
theorem dL_append_19 : decode cL_append 19 = .ok (.ireturn, 1) := by decide +kernel
theorem h9_L_append : yL_append.cls ≠ "java/lang/invoke/MethodHandle" ∧ yL_append.cls ≠ "java/lang/invoke/VarHandle" ∧ (parseMethodDescriptor yL_append.desc).map (fun d => d.parameters.length) = some 3 := by decide +kernel
set_option maxHeartbeats 4000000 in
set_option maxRecDepth 100000 in
theorem c_L_append (l : Launch) (D : va_G) (cy : Nat → ClassId) (a0 : Nat) (x1 : Int32) (ao : Nat) (w w1 : FW) (v0 : Int64) (rx : Int32 ⊕ Nat) (hF : F_X4_append a0 x1 w = some (rx, w1)) (hk0 : w.1 a0 = 5) (hes : ∀ e, rx = .inr e → e ∈ [1, 0]) : fWSpec l D cy yL_append cL_append 4 [(0, 9, 12, 13), (0, 9, 15, 116)] { frames := 7, cells := 1, slots := 6, locals := 124 } [.ref a0, .int x1, .ref ao] w w1 ao (arrV (cy 5) 1 (fun _ => .long v0)) (wO rx (arrV (cy 5) 1 (fun _ => .long v0)) (fun v => arrV (cy 5) 1 (fun _ => .long v.toInt64))) (wK [1, 0] rx) := by
  have hM := fun (D : va_G) (cy : Nat → ClassId) => c_X4_append l D cy a0 x1 w _ hF
  refine fw_begin (by decide +kernel) (Nat.le_of_ble_eq_true rfl) (fun X h hC hEn ho0 ho1 => ?_)
  have hst := fW_st hC hEn
  replace hM := hM D cy
  rcases rx with v | e
  · show gAt X 0 0 4 w h (gE1 ao (some (.inl (arrV (cy 5) 1 (fun _ => .long v0))))) [(0, .ref a0), (1, .int x1), (2, .ref ao)] [] 0
    refine g_aload_n hC dL_append_0 rfl 2 rfl ?_
    refine g_iconst (v := 0) hC dL_append_1 (by decide) ?_
    refine g_aload_n hC dL_append_2 rfl 0 rfl ?_
    refine g_iload_n hC dL_append_3 rfl 1 rfl ?_
    refine g_callVR hC hst [.int x1] (rv := some (.int v)) hM q_1148 q_132 q_1145 q_1146 q_1147 h9_X4_append (T := TX4) (N := 15) (ci := 4) rfl hk0 ⟨Nat.le_of_ble_eq_true rfl, Nat.le_of_ble_eq_true rfl⟩ ⟨Nat.le_of_ble_eq_true rfl, Nat.le_of_ble_eq_true rfl⟩ (Nat.le_of_ble_eq_true rfl) rfl dL_append_4 (fun h1 hh1 hs1 => ?_)
    refine g_cs 1 6 (Nat.zero_add _).symm (Nat.zero_add _).symm ?_
    refine g_i2l hC dL_append_7 ?_
    refine g_lastE hC (gE1_b _ _) dL_append_8 ?_
    refine g_nm h1 (gE1 ao (some (.inl (arrV (cy 5) 1 (fun _ => .long v.toInt64))))) _ _ rfl (gE1_up _ _ _).symm rfl rfl ?_
    refine g_goto hC 18 dL_append_9 (by decide) ?_
    refine g_iconst (v := 0) hC dL_append_18 (by decide) ?_
    exact g_iretW hC hEn hs1 (gE1_b _ _) dL_append_19
  · have he := hes e rfl
    simp only [List.mem_cons, List.not_mem_nil, or_false] at he
    rcases he with rfl | rfl
    · show gAt X 0 0 4 w h (gE1 ao (some (.inl (arrV (cy 5) 1 (fun _ => .long v0))))) [(0, .ref a0), (1, .int x1), (2, .ref ao)] [] 0
      refine g_aload_n hC dL_append_0 rfl 2 rfl ?_
      refine g_iconst (v := 0) hC dL_append_1 (by decide) ?_
      refine g_aload_n hC dL_append_2 rfl 0 rfl ?_
      refine g_iload_n hC dL_append_3 rfl 1 rfl ?_
      refine g_callVT hC hst [.int x1] (ex := 1) hM q_1148 q_132 q_1145 q_1146 q_1147 h9_X4_append (T := TX4) (N := 15) (ci := 4) rfl hk0 ⟨Nat.le_of_ble_eq_true rfl, Nat.le_of_ble_eq_true rfl⟩ ⟨Nat.le_of_ble_eq_true rfl, Nat.le_of_ble_eq_true rfl⟩ (Nat.le_of_ble_eq_true rfl) rfl dL_append_4 (fun h1 hh1 hs1 => ?_)
      show gXt X (0 + 1) (0 + 6) 4 w1 h1 (gE1 ao (some (.inl (arrV (cy 5) 1 (fun _ => .long v0))))) [(0, .ref a0), (1, .int x1), (2, .ref ao)] 1 4
      refine g_catch hC hEn [] ⟨0, 9, 12, 13⟩ [⟨0, 9, 15, 116⟩] rfl (fun z hz => absurd hz List.not_mem_nil) (by decide) (by decide) q_624 q_475 (fun q9 => ?_)
      refine g_cs 1 6 (Nat.zero_add _).symm (Nat.zero_add _).symm ?_
      refine g_astore_n (L' := [(3, .ref q9), (0, .ref a0), (1, .int x1), (2, .ref ao)]) hC dL_append_12 rfl (by decide) rfl ?_
      refine g_iconst (v := 1) hC dL_append_13 (by decide) ?_
      exact g_iretW hC hEn hs1 (gE1_b _ _) dL_append_14
    · show gAt X 0 0 4 w h (gE1 ao (some (.inl (arrV (cy 5) 1 (fun _ => .long v0))))) [(0, .ref a0), (1, .int x1), (2, .ref ao)] [] 0
      refine g_aload_n hC dL_append_0 rfl 2 rfl ?_
      refine g_iconst (v := 0) hC dL_append_1 (by decide) ?_
      refine g_aload_n hC dL_append_2 rfl 0 rfl ?_
      refine g_iload_n hC dL_append_3 rfl 1 rfl ?_
      refine g_callVT hC hst [.int x1] (ex := 0) hM q_1148 q_132 q_1145 q_1146 q_1147 h9_X4_append (T := TX4) (N := 15) (ci := 4) rfl hk0 ⟨Nat.le_of_ble_eq_true rfl, Nat.le_of_ble_eq_true rfl⟩ ⟨Nat.le_of_ble_eq_true rfl, Nat.le_of_ble_eq_true rfl⟩ (Nat.le_of_ble_eq_true rfl) rfl dL_append_4 (fun h1 hh1 hs1 => ?_)
      show gXt X (0 + 1) (0 + 6) 4 w1 h1 (gE1 ao (some (.inl (arrV (cy 5) 1 (fun _ => .long v0))))) [(0, .ref a0), (1, .int x1), (2, .ref ao)] 0 4
      have hpass : ∀ z ∈ ([⟨0, 9, 12, 13⟩] : List ExceptionTableEntry), z.catchType ≠ 0 ∧ ∃ nm : String, Cond.classLink RL z.catchType nm ∈ lwA ∧ (exN 0, nm) ∈ ncL := by
        intro z hz
        simp only [List.mem_cons, List.not_mem_nil, or_false] at hz
        subst hz
        exact ⟨by decide, _, q_624, by decide +kernel⟩
      refine g_catch hC hEn [⟨0, 9, 12, 13⟩] ⟨0, 9, 15, 116⟩ [] rfl hpass (by decide) (by decide) q_1066 q_1073 (fun q9 => ?_)
      refine g_cs 1 6 (Nat.zero_add _).symm (Nat.zero_add _).symm ?_
      refine g_astore_n (L' := [(3, .ref q9), (0, .ref a0), (1, .int x1), (2, .ref ao)]) hC dL_append_15 rfl (by decide) rfl ?_
      refine g_iconst (v := 2) hC dL_append_16 (by decide) ?_
      exact g_iretW hC hEn hs1 (gE1_b _ _) dL_append_17
theorem dL_read_0 : decode cL_read 0 = .ok (.aload_n 1, 1) := by decide +kernel
theorem dL_read_1 : decode cL_read 1 = .ok (.iconst 0, 1) := by decide +kernel
theorem dL_read_2 : decode cL_read 2 = .ok (.aload_n 0, 1) := by decide +kernel
theorem dL_read_3 : decode cL_read 3 = .ok (.invokevirtual 134, 3) := by decide +kernel
theorem dL_read_6 : decode cL_read 6 = .ok (.i2l, 1) := by decide +kernel
theorem dL_read_7 : decode cL_read 7 = .ok (.lastore, 1) := by decide +kernel
theorem dL_read_8 : decode cL_read 8 = .ok (.goto 9, 3) := by decide +kernel
theorem dL_read_11 : decode cL_read 11 = .ok (.astore_n 2, 1) := by decide +kernel
theorem dL_read_12 : decode cL_read 12 = .ok (.iconst 1, 1) := by decide +kernel
theorem dL_read_13 : decode cL_read 13 = .ok (.ireturn, 1) := by decide +kernel
theorem dL_read_14 : decode cL_read 14 = .ok (.astore_n 2, 1) := by decide +kernel
theorem dL_read_15 : decode cL_read 15 = .ok (.iconst 2, 1) := by decide +kernel
theorem dL_read_16 : decode cL_read 16 = .ok (.ireturn, 1) := by decide +kernel
theorem dL_read_17 : decode cL_read 17 = .ok (.iconst 0, 1) := by decide +kernel
theorem dL_read_18 : decode cL_read 18 = .ok (.ireturn, 1) := by decide +kernel
theorem h9_L_read : yL_read.cls ≠ "java/lang/invoke/MethodHandle" ∧ yL_read.cls ≠ "java/lang/invoke/VarHandle" ∧ (parseMethodDescriptor yL_read.desc).map (fun d => d.parameters.length) = some 2 := by decide +kernel
set_option maxHeartbeats 4000000 in
set_option maxRecDepth 100000 in
theorem c_L_read (l : Launch) (D : va_G) (cy : Nat → ClassId) (a0 : Nat) (ao : Nat) (w w1 : FW) (v0 : Int64) (rx : Int32 ⊕ Nat) (hF : F_X4_read a0 w = some (rx, w1)) (hk0 : w.1 a0 = 5) (hes : ∀ e, rx = .inr e → e ∈ [1, 4]) : fWSpec l D cy yL_read cL_read 3 [(0, 8, 11, 13), (0, 8, 14, 15)] { frames := 11, cells := 1, slots := 6, locals := 252 } [.ref a0, .ref ao] w w1 ao (arrV (cy 5) 1 (fun _ => .long v0)) (wO rx (arrV (cy 5) 1 (fun _ => .long v0)) (fun v => arrV (cy 5) 1 (fun _ => .long v.toInt64))) (wK [1, 4] rx) := by
  have hM := fun (D : va_G) (cy : Nat → ClassId) => c_X4_read l D cy a0 w _ hF
  refine fw_begin (by decide +kernel) (Nat.le_of_ble_eq_true rfl) (fun X h hC hEn ho0 ho1 => ?_)
  have hst := fW_st hC hEn
  replace hM := hM D cy
  rcases rx with v | e
  · show gAt X 0 0 3 w h (gE1 ao (some (.inl (arrV (cy 5) 1 (fun _ => .long v0))))) [(0, .ref a0), (1, .ref ao)] [] 0
    refine g_aload_n hC dL_read_0 rfl 1 rfl ?_
    refine g_iconst (v := 0) hC dL_read_1 (by decide) ?_
    refine g_aload_n hC dL_read_2 rfl 0 rfl ?_
    refine g_callVR hC hst [] (rv := some (.int v)) hM q_1157 q_132 q_1154 q_1155 q_1156 h9_X4_read (T := TX4) (N := 15) (ci := 4) rfl hk0 ⟨Nat.le_of_ble_eq_true rfl, Nat.le_of_ble_eq_true rfl⟩ ⟨Nat.le_of_ble_eq_true rfl, Nat.le_of_ble_eq_true rfl⟩ (Nat.le_of_ble_eq_true rfl) rfl dL_read_3 (fun h1 hh1 hs1 => ?_)
    refine g_cs 1 6 (Nat.zero_add _).symm (Nat.zero_add _).symm ?_
    refine g_i2l hC dL_read_6 ?_
    refine g_lastE hC (gE1_b _ _) dL_read_7 ?_
    refine g_nm h1 (gE1 ao (some (.inl (arrV (cy 5) 1 (fun _ => .long v.toInt64))))) _ _ rfl (gE1_up _ _ _).symm rfl rfl ?_
    refine g_goto hC 17 dL_read_8 (by decide) ?_
    refine g_iconst (v := 0) hC dL_read_17 (by decide) ?_
    exact g_iretW hC hEn hs1 (gE1_b _ _) dL_read_18
  · have he := hes e rfl
    simp only [List.mem_cons, List.not_mem_nil, or_false] at he
    rcases he with rfl | rfl
    · show gAt X 0 0 3 w h (gE1 ao (some (.inl (arrV (cy 5) 1 (fun _ => .long v0))))) [(0, .ref a0), (1, .ref ao)] [] 0
      refine g_aload_n hC dL_read_0 rfl 1 rfl ?_
      refine g_iconst (v := 0) hC dL_read_1 (by decide) ?_
      refine g_aload_n hC dL_read_2 rfl 0 rfl ?_
      refine g_callVT hC hst [] (ex := 1) hM q_1157 q_132 q_1154 q_1155 q_1156 h9_X4_read (T := TX4) (N := 15) (ci := 4) rfl hk0 ⟨Nat.le_of_ble_eq_true rfl, Nat.le_of_ble_eq_true rfl⟩ ⟨Nat.le_of_ble_eq_true rfl, Nat.le_of_ble_eq_true rfl⟩ (Nat.le_of_ble_eq_true rfl) rfl dL_read_3 (fun h1 hh1 hs1 => ?_)
      show gXt X (0 + 1) (0 + 6) 3 w1 h1 (gE1 ao (some (.inl (arrV (cy 5) 1 (fun _ => .long v0))))) [(0, .ref a0), (1, .ref ao)] 1 3
      refine g_catch hC hEn [] ⟨0, 8, 11, 13⟩ [⟨0, 8, 14, 15⟩] rfl (fun z hz => absurd hz List.not_mem_nil) (by decide) (by decide) q_624 q_475 (fun q9 => ?_)
      refine g_cs 1 6 (Nat.zero_add _).symm (Nat.zero_add _).symm ?_
      refine g_astore_n (L' := [(2, .ref q9), (0, .ref a0), (1, .ref ao)]) hC dL_read_11 rfl (by decide) rfl ?_
      refine g_iconst (v := 1) hC dL_read_12 (by decide) ?_
      exact g_iretW hC hEn hs1 (gE1_b _ _) dL_read_13
    · show gAt X 0 0 3 w h (gE1 ao (some (.inl (arrV (cy 5) 1 (fun _ => .long v0))))) [(0, .ref a0), (1, .ref ao)] [] 0
      refine g_aload_n hC dL_read_0 rfl 1 rfl ?_
      refine g_iconst (v := 0) hC dL_read_1 (by decide) ?_
      refine g_aload_n hC dL_read_2 rfl 0 rfl ?_
      refine g_callVT hC hst [] (ex := 4) hM q_1157 q_132 q_1154 q_1155 q_1156 h9_X4_read (T := TX4) (N := 15) (ci := 4) rfl hk0 ⟨Nat.le_of_ble_eq_true rfl, Nat.le_of_ble_eq_true rfl⟩ ⟨Nat.le_of_ble_eq_true rfl, Nat.le_of_ble_eq_true rfl⟩ (Nat.le_of_ble_eq_true rfl) rfl dL_read_3 (fun h1 hh1 hs1 => ?_)
      show gXt X (0 + 1) (0 + 6) 3 w1 h1 (gE1 ao (some (.inl (arrV (cy 5) 1 (fun _ => .long v0))))) [(0, .ref a0), (1, .ref ao)] 4 3
      have hpass : ∀ z ∈ ([⟨0, 8, 11, 13⟩] : List ExceptionTableEntry), z.catchType ≠ 0 ∧ ∃ nm : String, Cond.classLink RL z.catchType nm ∈ lwA ∧ (exN 4, nm) ∈ ncL := by
        intro z hz
        simp only [List.mem_cons, List.not_mem_nil, or_false] at hz
        subst hz
        exact ⟨by decide, _, q_624, by decide +kernel⟩
      refine g_catch hC hEn [⟨0, 8, 11, 13⟩] ⟨0, 8, 14, 15⟩ [] rfl hpass (by decide) (by decide) q_625 q_491 (fun q9 => ?_)
      refine g_cs 1 6 (Nat.zero_add _).symm (Nat.zero_add _).symm ?_
      refine g_astore_n (L' := [(2, .ref q9), (0, .ref a0), (1, .ref ao)]) hC dL_read_14 rfl (by decide) rfl ?_
      refine g_iconst (v := 2) hC dL_read_15 (by decide) ?_
      exact g_iretW hC hEn hs1 (gE1_b _ _) dL_read_16
theorem dL_errorPosition_0 : decode cL_errorPosition 0 = .ok (.aload_n 1, 1) := by decide +kernel
theorem dL_errorPosition_1 : decode cL_errorPosition 1 = .ok (.iconst 0, 1) := by decide +kernel
theorem dL_errorPosition_2 : decode cL_errorPosition 2 = .ok (.aload_n 0, 1) := by decide +kernel
theorem dL_errorPosition_3 : decode cL_errorPosition 3 = .ok (.invokevirtual 137, 3) := by decide +kernel
theorem dL_errorPosition_6 : decode cL_errorPosition 6 = .ok (.i2l, 1) := by decide +kernel
theorem dL_errorPosition_7 : decode cL_errorPosition 7 = .ok (.lastore, 1) := by decide +kernel
theorem dL_errorPosition_8 : decode cL_errorPosition 8 = .ok (.goto 6, 3) := by decide +kernel
theorem dL_errorPosition_11 : decode cL_errorPosition 11 = .ok (.astore_n 2, 1) := by decide +kernel
theorem dL_errorPosition_12 : decode cL_errorPosition 12 = .ok (.iconst 1, 1) := by decide +kernel
theorem dL_errorPosition_13 : decode cL_errorPosition 13 = .ok (.ireturn, 1) := by decide +kernel
theorem dL_errorPosition_14 : decode cL_errorPosition 14 = .ok (.iconst 0, 1) := by decide +kernel
theorem dL_errorPosition_15 : decode cL_errorPosition 15 = .ok (.ireturn, 1) := by decide +kernel
theorem h9_L_errorPosition : yL_errorPosition.cls ≠ "java/lang/invoke/MethodHandle" ∧ yL_errorPosition.cls ≠ "java/lang/invoke/VarHandle" ∧ (parseMethodDescriptor yL_errorPosition.desc).map (fun d => d.parameters.length) = some 2 := by decide +kernel
set_option maxHeartbeats 4000000 in
set_option maxRecDepth 100000 in
theorem c_L_errorPosition (l : Launch) (D : va_G) (cy : Nat → ClassId) (a0 : Nat) (ao : Nat) (w : FW) (v0 : Int64) (rx : Int32 ⊕ Nat) (hF : F_X4_errorPosition a0 w = some rx) (hk0 : w.1 a0 = 5) (hes : ∀ e, rx = .inr e → e ∈ [5]) : fWSpec l D cy yL_errorPosition cL_errorPosition 3 [(0, 8, 11, 46)] { frames := 7, cells := 1, slots := 6, locals := 120 } [.ref a0, .ref ao] w w ao (arrV (cy 5) 1 (fun _ => .long v0)) (wO rx (arrV (cy 5) 1 (fun _ => .long v0)) (fun v => arrV (cy 5) 1 (fun _ => .long v.toInt64))) (wK [5] rx) := by
  have hM := fun (D : va_G) (cy : Nat → ClassId) => c_X4_errorPosition l D cy a0 w _ hF
  refine fw_begin (by decide +kernel) (Nat.le_of_ble_eq_true rfl) (fun X h hC hEn ho0 ho1 => ?_)
  have hst := fW_st hC hEn
  replace hM := hM D cy
  rcases rx with v | e
  · show gAt X 0 0 3 w h (gE1 ao (some (.inl (arrV (cy 5) 1 (fun _ => .long v0))))) [(0, .ref a0), (1, .ref ao)] [] 0
    refine g_aload_n hC dL_errorPosition_0 rfl 1 rfl ?_
    refine g_iconst (v := 0) hC dL_errorPosition_1 (by decide) ?_
    refine g_aload_n hC dL_errorPosition_2 rfl 0 rfl ?_
    refine g_callVR hC hst [] (rv := some (.int v)) hM q_1227 q_132 q_1224 q_1225 q_1226 h9_X4_errorPosition (T := TX4) (N := 15) (ci := 4) rfl hk0 ⟨Nat.le_of_ble_eq_true rfl, Nat.le_of_ble_eq_true rfl⟩ ⟨Nat.le_of_ble_eq_true rfl, Nat.le_of_ble_eq_true rfl⟩ (Nat.le_of_ble_eq_true rfl) rfl dL_errorPosition_3 (fun h1 hh1 hs1 => ?_)
    refine g_cs 1 6 (Nat.zero_add _).symm (Nat.zero_add _).symm ?_
    refine g_i2l hC dL_errorPosition_6 ?_
    refine g_lastE hC (gE1_b _ _) dL_errorPosition_7 ?_
    refine g_nm h1 (gE1 ao (some (.inl (arrV (cy 5) 1 (fun _ => .long v.toInt64))))) _ _ rfl (gE1_up _ _ _).symm rfl rfl ?_
    refine g_goto hC 14 dL_errorPosition_8 (by decide) ?_
    refine g_iconst (v := 0) hC dL_errorPosition_14 (by decide) ?_
    exact g_iretW hC hEn (fSm.rf w) (gE1_b _ _) dL_errorPosition_15
  · have he := hes e rfl
    simp only [List.mem_cons, List.not_mem_nil, or_false] at he
    subst he
    show gAt X 0 0 3 w h (gE1 ao (some (.inl (arrV (cy 5) 1 (fun _ => .long v0))))) [(0, .ref a0), (1, .ref ao)] [] 0
    refine g_aload_n hC dL_errorPosition_0 rfl 1 rfl ?_
    refine g_iconst (v := 0) hC dL_errorPosition_1 (by decide) ?_
    refine g_aload_n hC dL_errorPosition_2 rfl 0 rfl ?_
    refine g_callVT hC hst [] (ex := 5) hM q_1227 q_132 q_1224 q_1225 q_1226 h9_X4_errorPosition (T := TX4) (N := 15) (ci := 4) rfl hk0 ⟨Nat.le_of_ble_eq_true rfl, Nat.le_of_ble_eq_true rfl⟩ ⟨Nat.le_of_ble_eq_true rfl, Nat.le_of_ble_eq_true rfl⟩ (Nat.le_of_ble_eq_true rfl) rfl dL_errorPosition_3 (fun h1 hh1 hs1 => ?_)
    show gXt X (0 + 1) (0 + 6) 3 w h1 (gE1 ao (some (.inl (arrV (cy 5) 1 (fun _ => .long v0))))) [(0, .ref a0), (1, .ref ao)] 5 3
    refine g_catch hC hEn [] ⟨0, 8, 11, 46⟩ [] rfl (fun z hz => absurd hz List.not_mem_nil) (by decide) (by decide) q_774 q_782 (fun q9 => ?_)
    refine g_cs 1 6 (Nat.zero_add _).symm (Nat.zero_add _).symm ?_
    refine g_astore_n (L' := [(2, .ref q9), (0, .ref a0), (1, .ref ao)]) hC dL_errorPosition_11 rfl (by decide) rfl ?_
    refine g_iconst (v := 1) hC dL_errorPosition_12 (by decide) ?_
    exact g_iretW hC hEn (fSm.rf w) (gE1_b _ _) dL_errorPosition_13
theorem dL_refusedItem_0 : decode cL_refusedItem 0 = .ok (.aload_n 1, 1) := by decide +kernel
theorem dL_refusedItem_1 : decode cL_refusedItem 1 = .ok (.iconst 0, 1) := by decide +kernel
theorem dL_refusedItem_2 : decode cL_refusedItem 2 = .ok (.aload_n 0, 1) := by decide +kernel
theorem dL_refusedItem_3 : decode cL_refusedItem 3 = .ok (.invokevirtual 140, 3) := by decide +kernel
theorem dL_refusedItem_6 : decode cL_refusedItem 6 = .ok (.i2l, 1) := by decide +kernel
theorem dL_refusedItem_7 : decode cL_refusedItem 7 = .ok (.lastore, 1) := by decide +kernel
theorem dL_refusedItem_8 : decode cL_refusedItem 8 = .ok (.goto 6, 3) := by decide +kernel
theorem dL_refusedItem_11 : decode cL_refusedItem 11 = .ok (.astore_n 2, 1) := by decide +kernel
theorem dL_refusedItem_12 : decode cL_refusedItem 12 = .ok (.iconst 1, 1) := by decide +kernel
theorem dL_refusedItem_13 : decode cL_refusedItem 13 = .ok (.ireturn, 1) := by decide +kernel
theorem dL_refusedItem_14 : decode cL_refusedItem 14 = .ok (.iconst 0, 1) := by decide +kernel
theorem dL_refusedItem_15 : decode cL_refusedItem 15 = .ok (.ireturn, 1) := by decide +kernel
theorem h9_L_refusedItem : yL_refusedItem.cls ≠ "java/lang/invoke/MethodHandle" ∧ yL_refusedItem.cls ≠ "java/lang/invoke/VarHandle" ∧ (parseMethodDescriptor yL_refusedItem.desc).map (fun d => d.parameters.length) = some 2 := by decide +kernel
set_option maxHeartbeats 4000000 in
set_option maxRecDepth 100000 in
theorem c_L_refusedItem (l : Launch) (D : va_G) (cy : Nat → ClassId) (a0 : Nat) (ao : Nat) (w : FW) (v0 : Int64) (rx : Int32 ⊕ Nat) (hF : F_X4_refusedItem a0 w = some rx) (hk0 : w.1 a0 = 5) (hes : ∀ e, rx = .inr e → e ∈ [5]) : fWSpec l D cy yL_refusedItem cL_refusedItem 3 [(0, 8, 11, 46)] { frames := 7, cells := 1, slots := 6, locals := 120 } [.ref a0, .ref ao] w w ao (arrV (cy 5) 1 (fun _ => .long v0)) (wO rx (arrV (cy 5) 1 (fun _ => .long v0)) (fun v => arrV (cy 5) 1 (fun _ => .long v.toInt64))) (wK [5] rx) := by
  have hM := fun (D : va_G) (cy : Nat → ClassId) => c_X4_refusedItem l D cy a0 w _ hF
  refine fw_begin (by decide +kernel) (Nat.le_of_ble_eq_true rfl) (fun X h hC hEn ho0 ho1 => ?_)
  have hst := fW_st hC hEn
  replace hM := hM D cy
  rcases rx with v | e
  · show gAt X 0 0 3 w h (gE1 ao (some (.inl (arrV (cy 5) 1 (fun _ => .long v0))))) [(0, .ref a0), (1, .ref ao)] [] 0
    refine g_aload_n hC dL_refusedItem_0 rfl 1 rfl ?_
    refine g_iconst (v := 0) hC dL_refusedItem_1 (by decide) ?_
    refine g_aload_n hC dL_refusedItem_2 rfl 0 rfl ?_
    refine g_callVR hC hst [] (rv := some (.int v)) hM q_1235 q_132 q_1232 q_1233 q_1234 h9_X4_refusedItem (T := TX4) (N := 15) (ci := 4) rfl hk0 ⟨Nat.le_of_ble_eq_true rfl, Nat.le_of_ble_eq_true rfl⟩ ⟨Nat.le_of_ble_eq_true rfl, Nat.le_of_ble_eq_true rfl⟩ (Nat.le_of_ble_eq_true rfl) rfl dL_refusedItem_3 (fun h1 hh1 hs1 => ?_)
    refine g_cs 1 6 (Nat.zero_add _).symm (Nat.zero_add _).symm ?_
    refine g_i2l hC dL_refusedItem_6 ?_
    refine g_lastE hC (gE1_b _ _) dL_refusedItem_7 ?_
    refine g_nm h1 (gE1 ao (some (.inl (arrV (cy 5) 1 (fun _ => .long v.toInt64))))) _ _ rfl (gE1_up _ _ _).symm rfl rfl ?_
    refine g_goto hC 14 dL_refusedItem_8 (by decide) ?_
    refine g_iconst (v := 0) hC dL_refusedItem_14 (by decide) ?_
    exact g_iretW hC hEn (fSm.rf w) (gE1_b _ _) dL_refusedItem_15
  · have he := hes e rfl
    simp only [List.mem_cons, List.not_mem_nil, or_false] at he
    subst he
    show gAt X 0 0 3 w h (gE1 ao (some (.inl (arrV (cy 5) 1 (fun _ => .long v0))))) [(0, .ref a0), (1, .ref ao)] [] 0
    refine g_aload_n hC dL_refusedItem_0 rfl 1 rfl ?_
    refine g_iconst (v := 0) hC dL_refusedItem_1 (by decide) ?_
    refine g_aload_n hC dL_refusedItem_2 rfl 0 rfl ?_
    refine g_callVT hC hst [] (ex := 5) hM q_1235 q_132 q_1232 q_1233 q_1234 h9_X4_refusedItem (T := TX4) (N := 15) (ci := 4) rfl hk0 ⟨Nat.le_of_ble_eq_true rfl, Nat.le_of_ble_eq_true rfl⟩ ⟨Nat.le_of_ble_eq_true rfl, Nat.le_of_ble_eq_true rfl⟩ (Nat.le_of_ble_eq_true rfl) rfl dL_refusedItem_3 (fun h1 hh1 hs1 => ?_)
    show gXt X (0 + 1) (0 + 6) 3 w h1 (gE1 ao (some (.inl (arrV (cy 5) 1 (fun _ => .long v0))))) [(0, .ref a0), (1, .ref ao)] 5 3
    refine g_catch hC hEn [] ⟨0, 8, 11, 46⟩ [] rfl (fun z hz => absurd hz List.not_mem_nil) (by decide) (by decide) q_774 q_782 (fun q9 => ?_)
    refine g_cs 1 6 (Nat.zero_add _).symm (Nat.zero_add _).symm ?_
    refine g_astore_n (L' := [(2, .ref q9), (0, .ref a0), (1, .ref ao)]) hC dL_refusedItem_11 rfl (by decide) rfl ?_
    refine g_iconst (v := 1) hC dL_refusedItem_12 (by decide) ?_
    exact g_iretW hC hEn (fSm.rf w) (gE1_b _ _) dL_refusedItem_13
theorem dL_undo_0 : decode cL_undo 0 = .ok (.aload_n 1, 1) := by decide +kernel
theorem dL_undo_1 : decode cL_undo 1 = .ok (.iconst 0, 1) := by decide +kernel
theorem dL_undo_2 : decode cL_undo 2 = .ok (.aload_n 0, 1) := by decide +kernel
theorem dL_undo_3 : decode cL_undo 3 = .ok (.invokevirtual 143, 3) := by decide +kernel
theorem dL_undo_6 : decode cL_undo 6 = .ok (.i2l, 1) := by decide +kernel
theorem dL_undo_7 : decode cL_undo 7 = .ok (.lastore, 1) := by decide +kernel
theorem dL_undo_8 : decode cL_undo 8 = .ok (.goto 6, 3) := by decide +kernel
theorem dL_undo_11 : decode cL_undo 11 = .ok (.astore_n 2, 1) := by decide +kernel
theorem dL_undo_12 : decode cL_undo 12 = .ok (.iconst 1, 1) := by decide +kernel
theorem dL_undo_13 : decode cL_undo 13 = .ok (.ireturn, 1) := by decide +kernel
theorem dL_undo_14 : decode cL_undo 14 = .ok (.iconst 0, 1) := by decide +kernel
theorem dL_undo_15 : decode cL_undo 15 = .ok (.ireturn, 1) := by decide +kernel
theorem h9_L_undo : yL_undo.cls ≠ "java/lang/invoke/MethodHandle" ∧ yL_undo.cls ≠ "java/lang/invoke/VarHandle" ∧ (parseMethodDescriptor yL_undo.desc).map (fun d => d.parameters.length) = some 2 := by decide +kernel
set_option maxHeartbeats 4000000 in
set_option maxRecDepth 100000 in
theorem c_L_undo (l : Launch) (D : va_G) (cy : Nat → ClassId) (a0 : Nat) (ao : Nat) (w w1 : FW) (v0 : Int64) (rx : Int32 ⊕ Nat) (hF : F_X4_undo a0 w = some (rx, w1)) (hk0 : w.1 a0 = 5) (hes : ∀ e, rx = .inr e → e ∈ [0]) : fWSpec l D cy yL_undo cL_undo 3 [(0, 8, 11, 116)] { frames := 7, cells := 1, slots := 6, locals := 120 } [.ref a0, .ref ao] w w1 ao (arrV (cy 5) 1 (fun _ => .long v0)) (wO rx (arrV (cy 5) 1 (fun _ => .long v0)) (fun v => arrV (cy 5) 1 (fun _ => .long v.toInt64))) (wK [0] rx) := by
  have hM := fun (D : va_G) (cy : Nat → ClassId) => c_X4_undo l D cy a0 w _ hF
  refine fw_begin (by decide +kernel) (Nat.le_of_ble_eq_true rfl) (fun X h hC hEn ho0 ho1 => ?_)
  have hst := fW_st hC hEn
  replace hM := hM D cy
  rcases rx with v | e
  · show gAt X 0 0 3 w h (gE1 ao (some (.inl (arrV (cy 5) 1 (fun _ => .long v0))))) [(0, .ref a0), (1, .ref ao)] [] 0
    refine g_aload_n hC dL_undo_0 rfl 1 rfl ?_
    refine g_iconst (v := 0) hC dL_undo_1 (by decide) ?_
    refine g_aload_n hC dL_undo_2 rfl 0 rfl ?_
    refine g_callVR hC hst [] (rv := some (.int v)) hM q_1243 q_132 q_1240 q_1241 q_1242 h9_X4_undo (T := TX4) (N := 15) (ci := 4) rfl hk0 ⟨Nat.le_of_ble_eq_true rfl, Nat.le_of_ble_eq_true rfl⟩ ⟨Nat.le_of_ble_eq_true rfl, Nat.le_of_ble_eq_true rfl⟩ (Nat.le_of_ble_eq_true rfl) rfl dL_undo_3 (fun h1 hh1 hs1 => ?_)
    refine g_cs 1 6 (Nat.zero_add _).symm (Nat.zero_add _).symm ?_
    refine g_i2l hC dL_undo_6 ?_
    refine g_lastE hC (gE1_b _ _) dL_undo_7 ?_
    refine g_nm h1 (gE1 ao (some (.inl (arrV (cy 5) 1 (fun _ => .long v.toInt64))))) _ _ rfl (gE1_up _ _ _).symm rfl rfl ?_
    refine g_goto hC 14 dL_undo_8 (by decide) ?_
    refine g_iconst (v := 0) hC dL_undo_14 (by decide) ?_
    exact g_iretW hC hEn hs1 (gE1_b _ _) dL_undo_15
  · have he := hes e rfl
    simp only [List.mem_cons, List.not_mem_nil, or_false] at he
    subst he
    show gAt X 0 0 3 w h (gE1 ao (some (.inl (arrV (cy 5) 1 (fun _ => .long v0))))) [(0, .ref a0), (1, .ref ao)] [] 0
    refine g_aload_n hC dL_undo_0 rfl 1 rfl ?_
    refine g_iconst (v := 0) hC dL_undo_1 (by decide) ?_
    refine g_aload_n hC dL_undo_2 rfl 0 rfl ?_
    refine g_callVT hC hst [] (ex := 0) hM q_1243 q_132 q_1240 q_1241 q_1242 h9_X4_undo (T := TX4) (N := 15) (ci := 4) rfl hk0 ⟨Nat.le_of_ble_eq_true rfl, Nat.le_of_ble_eq_true rfl⟩ ⟨Nat.le_of_ble_eq_true rfl, Nat.le_of_ble_eq_true rfl⟩ (Nat.le_of_ble_eq_true rfl) rfl dL_undo_3 (fun h1 hh1 hs1 => ?_)
    show gXt X (0 + 1) (0 + 6) 3 w1 h1 (gE1 ao (some (.inl (arrV (cy 5) 1 (fun _ => .long v0))))) [(0, .ref a0), (1, .ref ao)] 0 3
    refine g_catch hC hEn [] ⟨0, 8, 11, 116⟩ [] rfl (fun z hz => absurd hz List.not_mem_nil) (by decide) (by decide) q_1066 q_1073 (fun q9 => ?_)
    refine g_cs 1 6 (Nat.zero_add _).symm (Nat.zero_add _).symm ?_
    refine g_astore_n (L' := [(2, .ref q9), (0, .ref a0), (1, .ref ao)]) hC dL_undo_11 rfl (by decide) rfl ?_
    refine g_iconst (v := 1) hC dL_undo_12 (by decide) ?_
    exact g_iretW hC hEn hs1 (gE1_b _ _) dL_undo_13
theorem dL_restore_0 : decode cL_restore 0 = .ok (.aload_n 1, 1) := by decide +kernel
theorem dL_restore_1 : decode cL_restore 1 = .ok (.iconst 0, 1) := by decide +kernel
theorem dL_restore_2 : decode cL_restore 2 = .ok (.aload_n 0, 1) := by decide +kernel
theorem dL_restore_3 : decode cL_restore 3 = .ok (.invokevirtual 146, 3) := by decide +kernel
theorem dL_restore_6 : decode cL_restore 6 = .ok (.i2l, 1) := by decide +kernel
theorem dL_restore_7 : decode cL_restore 7 = .ok (.lastore, 1) := by decide +kernel
theorem dL_restore_8 : decode cL_restore 8 = .ok (.goto 6, 3) := by decide +kernel
theorem dL_restore_11 : decode cL_restore 11 = .ok (.astore_n 2, 1) := by decide +kernel
theorem dL_restore_12 : decode cL_restore 12 = .ok (.iconst 1, 1) := by decide +kernel
theorem dL_restore_13 : decode cL_restore 13 = .ok (.ireturn, 1) := by decide +kernel
theorem dL_restore_14 : decode cL_restore 14 = .ok (.iconst 0, 1) := by decide +kernel
theorem dL_restore_15 : decode cL_restore 15 = .ok (.ireturn, 1) := by decide +kernel
theorem h9_L_restore : yL_restore.cls ≠ "java/lang/invoke/MethodHandle" ∧ yL_restore.cls ≠ "java/lang/invoke/VarHandle" ∧ (parseMethodDescriptor yL_restore.desc).map (fun d => d.parameters.length) = some 2 := by decide +kernel
set_option maxHeartbeats 4000000 in
set_option maxRecDepth 100000 in
theorem c_L_restore (l : Launch) (D : va_G) (cy : Nat → ClassId) (a0 : Nat) (ao : Nat) (w w1 : FW) (v0 : Int64) (rx : Int32 ⊕ Nat) (hF : F_X4_restore a0 w = some (rx, w1)) (hk0 : w.1 a0 = 5) (hes : ∀ e, rx = .inr e → e ∈ [0]) : fWSpec l D cy yL_restore cL_restore 3 [(0, 8, 11, 116)] { frames := 7, cells := 1, slots := 6, locals := 120 } [.ref a0, .ref ao] w w1 ao (arrV (cy 5) 1 (fun _ => .long v0)) (wO rx (arrV (cy 5) 1 (fun _ => .long v0)) (fun v => arrV (cy 5) 1 (fun _ => .long v.toInt64))) (wK [0] rx) := by
  have hM := fun (D : va_G) (cy : Nat → ClassId) => c_X4_restore l D cy a0 w _ hF
  refine fw_begin (by decide +kernel) (Nat.le_of_ble_eq_true rfl) (fun X h hC hEn ho0 ho1 => ?_)
  have hst := fW_st hC hEn
  replace hM := hM D cy
  rcases rx with v | e
  · show gAt X 0 0 3 w h (gE1 ao (some (.inl (arrV (cy 5) 1 (fun _ => .long v0))))) [(0, .ref a0), (1, .ref ao)] [] 0
    refine g_aload_n hC dL_restore_0 rfl 1 rfl ?_
    refine g_iconst (v := 0) hC dL_restore_1 (by decide) ?_
    refine g_aload_n hC dL_restore_2 rfl 0 rfl ?_
    refine g_callVR hC hst [] (rv := some (.int v)) hM q_1251 q_132 q_1248 q_1249 q_1250 h9_X4_restore (T := TX4) (N := 15) (ci := 4) rfl hk0 ⟨Nat.le_of_ble_eq_true rfl, Nat.le_of_ble_eq_true rfl⟩ ⟨Nat.le_of_ble_eq_true rfl, Nat.le_of_ble_eq_true rfl⟩ (Nat.le_of_ble_eq_true rfl) rfl dL_restore_3 (fun h1 hh1 hs1 => ?_)
    refine g_cs 1 6 (Nat.zero_add _).symm (Nat.zero_add _).symm ?_
    refine g_i2l hC dL_restore_6 ?_
    refine g_lastE hC (gE1_b _ _) dL_restore_7 ?_
    refine g_nm h1 (gE1 ao (some (.inl (arrV (cy 5) 1 (fun _ => .long v.toInt64))))) _ _ rfl (gE1_up _ _ _).symm rfl rfl ?_
    refine g_goto hC 14 dL_restore_8 (by decide) ?_
    refine g_iconst (v := 0) hC dL_restore_14 (by decide) ?_
    exact g_iretW hC hEn hs1 (gE1_b _ _) dL_restore_15
  · have he := hes e rfl
    simp only [List.mem_cons, List.not_mem_nil, or_false] at he
    subst he
    show gAt X 0 0 3 w h (gE1 ao (some (.inl (arrV (cy 5) 1 (fun _ => .long v0))))) [(0, .ref a0), (1, .ref ao)] [] 0
    refine g_aload_n hC dL_restore_0 rfl 1 rfl ?_
    refine g_iconst (v := 0) hC dL_restore_1 (by decide) ?_
    refine g_aload_n hC dL_restore_2 rfl 0 rfl ?_
    refine g_callVT hC hst [] (ex := 0) hM q_1251 q_132 q_1248 q_1249 q_1250 h9_X4_restore (T := TX4) (N := 15) (ci := 4) rfl hk0 ⟨Nat.le_of_ble_eq_true rfl, Nat.le_of_ble_eq_true rfl⟩ ⟨Nat.le_of_ble_eq_true rfl, Nat.le_of_ble_eq_true rfl⟩ (Nat.le_of_ble_eq_true rfl) rfl dL_restore_3 (fun h1 hh1 hs1 => ?_)
    show gXt X (0 + 1) (0 + 6) 3 w1 h1 (gE1 ao (some (.inl (arrV (cy 5) 1 (fun _ => .long v0))))) [(0, .ref a0), (1, .ref ao)] 0 3
    refine g_catch hC hEn [] ⟨0, 8, 11, 116⟩ [] rfl (fun z hz => absurd hz List.not_mem_nil) (by decide) (by decide) q_1066 q_1073 (fun q9 => ?_)
    refine g_cs 1 6 (Nat.zero_add _).symm (Nat.zero_add _).symm ?_
    refine g_astore_n (L' := [(2, .ref q9), (0, .ref a0), (1, .ref ao)]) hC dL_restore_11 rfl (by decide) rfl ?_
    refine g_iconst (v := 1) hC dL_restore_12 (by decide) ?_
    exact g_iretW hC hEn hs1 (gE1_b _ _) dL_restore_13
