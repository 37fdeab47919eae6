theorem dX2_holesLeft_0 : decode cX2_holesLeft 0 = .ok (.aload_n 0, 1) := by decide +kernel
theorem dX2_holesLeft_1 : decode cX2_holesLeft 1 = .ok (.getfield 38, 3) := by decide +kernel
theorem dX2_holesLeft_4 : decode cX2_holesLeft 4 = .ok (.aload_n 0, 1) := by decide +kernel
theorem dX2_holesLeft_5 : decode cX2_holesLeft 5 = .ok (.getfield 12, 3) := by decide +kernel
theorem dX2_holesLeft_8 : decode cX2_holesLeft 8 = .ok (.aload_n 0, 1) := by decide +kernel
theorem dX2_holesLeft_9 : decode cX2_holesLeft 9 = .ok (.getfield 38, 3) := by decide +kernel
theorem dX2_holesLeft_12 : decode cX2_holesLeft 12 = .ok (.getfield 63, 3) := by decide +kernel
theorem dX2_holesLeft_15 : decode cX2_holesLeft 15 = .ok (.invokevirtual 66, 3) := by decide +kernel
theorem dX2_holesLeft_18 : decode cX2_holesLeft 18 = .ok (.aload_n 0, 1) := by decide +kernel
theorem dX2_holesLeft_19 : decode cX2_holesLeft 19 = .ok (.getfield 42, 3) := by decide +kernel
theorem dX2_holesLeft_22 : decode cX2_holesLeft 22 = .ok (.aload_n 0, 1) := by decide +kernel
theorem dX2_holesLeft_23 : decode cX2_holesLeft 23 = .ok (.getfield 12, 3) := by decide +kernel
theorem dX2_holesLeft_26 : decode cX2_holesLeft 26 = .ok (.aload_n 0, 1) := by decide +kernel
theorem dX2_holesLeft_27 : decode cX2_holesLeft 27 = .ok (.getfield 42, 3) := by decide +kernel
theorem dX2_holesLeft_30 : decode cX2_holesLeft 30 = .ok (.getfield 63, 3) := by decide +kernel
theorem dX2_holesLeft_33 : decode cX2_holesLeft 33 = .ok (.invokevirtual 66, 3) := by decide +kernel
theorem dX2_holesLeft_36 : decode cX2_holesLeft 36 = .ok (.iadd, 1) := by decide +kernel
theorem dX2_holesLeft_37 : decode cX2_holesLeft 37 = .ok (.ireturn, 1) := by decide +kernel
theorem h9_X2_holesLeft : yX2_holesLeft.cls ≠ "java/lang/invoke/MethodHandle" ∧ yX2_holesLeft.cls ≠ "java/lang/invoke/VarHandle" ∧ (parseMethodDescriptor yX2_holesLeft.desc).map (fun d => d.parameters.length) = some 0 := by decide +kernel
noncomputable def F_X2_holesLeft (a0 : Nat) (w : FW) : Option (Int32) :=
  fg (w.1 a0 = 3) inferInstance (fg (w.1 (gR w 206 a0 0) = 1) inferInstance ((F_X0_holesWhenWet (gR w 206 a0 0) (gR w 200 a0 0) (gI w 2 (gR w 206 a0 0) 0) w).bind (fun r3 => fg (w.1 (gR w 207 a0 0) = 1) inferInstance ((F_X0_holesWhenWet (gR w 207 a0 0) (gR w 200 a0 0) (gI w 2 (gR w 207 a0 0) 0) w).bind (fun r7 => some (r3 + r7))))))
set_option maxHeartbeats 4000000 in
set_option maxRecDepth 100000 in
theorem c_X2_holesLeft (l : Launch) (D : va_G) (cy : Nat → ClassId) (a0 : Nat) (w : FW) (r : Int32) (hF : F_X2_holesLeft a0 w = some r) : fSpec l D cy yX2_holesLeft cX2_holesLeft 1 (some .int) { frames := 3, cells := 0, slots := 0, locals := 66 } [.ref a0] w w (some (.int r)) := by
  refine f_begin (by decide +kernel) (Nat.le_of_ble_eq_true rfl) (fun X hC hEn => ?_)
  unfold F_X2_holesLeft at hF
  show fAt X 0 0 1 w [(0, .ref a0)] [] 0
  refine f_aload_n hC dX2_holesLeft_0 rfl 0 rfl ?_
  obtain ⟨g1, hF⟩ := fg_open hF
  refine f_getR hC 2 6 206 rfl (by decide) iX2 q_246 rfl rfl (fSm.k (fSm.rf w) g1) dX2_holesLeft_1 ?_
  refine f_aload_n hC dX2_holesLeft_4 rfl 0 rfl ?_
  refine f_getR hC 2 0 200 rfl (by decide) iX2 q_228 rfl rfl (fSm.k (fSm.rf w) g1) dX2_holesLeft_5 ?_
  refine f_aload_n hC dX2_holesLeft_8 rfl 0 rfl ?_
  refine f_getR hC 2 6 206 rfl (by decide) iX2 q_246 rfl rfl (fSm.k (fSm.rf w) g1) dX2_holesLeft_9 ?_
  obtain ⟨g2, hF⟩ := fg_open hF
  refine f_getIN hC 0 2 2 rfl (by decide) iX0 q_207 rfl rfl (fSm.k (fSm.rf w) g2) dX2_holesLeft_12 ?_
  obtain ⟨r3, h4, hF⟩ := fb_open hF
  refine f_callVN hC [.ref (gR w 200 a0 0), .int (gI w 2 (gR w 206 a0 0) 0)] (c_X0_holesWhenWet l D cy (gR w 206 a0 0) (gR w 200 a0 0) (gI w 2 (gR w 206 a0 0) 0) w r3 h4) q_814 q_135 q_1026 q_813 q_40 h9_X0_holesWhenWet rfl (fSm.k (fSm.rf w) g2) ⟨Nat.le_of_ble_eq_true rfl, Nat.le_of_ble_eq_true rfl⟩ ⟨Nat.le_of_ble_eq_true rfl, Nat.le_of_ble_eq_true rfl⟩ (Nat.le_of_ble_eq_true rfl) rfl dX2_holesLeft_15 (fun e5 => ?_)
  refine f_aload_n hC dX2_holesLeft_18 rfl 0 rfl ?_
  refine f_getR hC 2 7 207 rfl (by decide) iX2 q_249 rfl rfl (fSm.k (fSm.rf w) g1) dX2_holesLeft_19 ?_
  refine f_aload_n hC dX2_holesLeft_22 rfl 0 rfl ?_
  refine f_getR hC 2 0 200 rfl (by decide) iX2 q_228 rfl rfl (fSm.k (fSm.rf w) g1) dX2_holesLeft_23 ?_
  refine f_aload_n hC dX2_holesLeft_26 rfl 0 rfl ?_
  refine f_getR hC 2 7 207 rfl (by decide) iX2 q_249 rfl rfl (fSm.k (fSm.rf w) g1) dX2_holesLeft_27 ?_
  obtain ⟨g6, hF⟩ := fg_open hF
  refine f_getIN hC 0 2 2 rfl (by decide) iX0 q_207 rfl rfl (fSm.k (fSm.rf w) g6) dX2_holesLeft_30 ?_
  obtain ⟨r7, h8, hF⟩ := fb_open hF
  refine f_callVN hC [.ref (gR w 200 a0 0), .int (gI w 2 (gR w 207 a0 0) 0)] (c_X0_holesWhenWet l D cy (gR w 207 a0 0) (gR w 200 a0 0) (gI w 2 (gR w 207 a0 0) 0) w r7 h8) q_814 q_135 q_1026 q_813 q_40 h9_X0_holesWhenWet rfl (fSm.k (fSm.rf w) g6) ⟨Nat.le_of_ble_eq_true rfl, Nat.le_of_ble_eq_true rfl⟩ ⟨Nat.le_of_ble_eq_true rfl, Nat.le_of_ble_eq_true rfl⟩ (Nat.le_of_ble_eq_true rfl) rfl dX2_holesLeft_33 (fun e9 => ?_)
  refine f_iadd hC dX2_holesLeft_36 ?_
  obtain rfl := Option.some.inj hF
  exact f_iret hC hEn (fSm.rf w) dX2_holesLeft_37
theorem dX2_measured_0 : decode cX2_measured 0 = .ok (.iload_n 1, 1) := by decide +kernel
theorem dX2_measured_1 : decode cX2_measured 1 = .ok (.lookupswitch 37 #[(0, 27), (1, 32)], 27) := by decide +kernel
theorem dX2_measured_28 : decode cX2_measured 28 = .ok (.aload_n 0, 1) := by decide +kernel
theorem dX2_measured_29 : decode cX2_measured 29 = .ok (.invokevirtual 70, 3) := by decide +kernel
theorem dX2_measured_32 : decode cX2_measured 32 = .ok (.ireturn, 1) := by decide +kernel
theorem dX2_measured_33 : decode cX2_measured 33 = .ok (.aload_n 0, 1) := by decide +kernel
theorem dX2_measured_34 : decode cX2_measured 34 = .ok (.invokevirtual 73, 3) := by decide +kernel
theorem dX2_measured_37 : decode cX2_measured 37 = .ok (.ireturn, 1) := by decide +kernel
theorem dX2_measured_38 : decode cX2_measured 38 = .ok (.aload_n 0, 1) := by decide +kernel
theorem dX2_measured_39 : decode cX2_measured 39 = .ok (.getfield 12, 3) := by decide +kernel
theorem dX2_measured_42 : decode cX2_measured 42 = .ok (.getfield 76, 3) := by decide +kernel
theorem dX2_measured_45 : decode cX2_measured 45 = .ok (.ireturn, 1) := by decide +kernel
theorem h9_X2_measured : yX2_measured.cls ≠ "java/lang/invoke/MethodHandle" ∧ yX2_measured.cls ≠ "java/lang/invoke/VarHandle" ∧ (parseMethodDescriptor yX2_measured.desc).map (fun d => d.parameters.length) = some 1 := by decide +kernel
noncomputable def F_X2_measured (a0 : Nat) (x1 : Int32) (w : FW) : Option (Int32) :=
  (if x1 = 0 then fg (w.1 a0 = 3) inferInstance ((F_X2_wetness a0 w).bind (fun r2 => some r2)) else (if x1 = 1 then fg (w.1 a0 = 3) inferInstance ((F_X2_holesLeft a0 w).bind (fun r7 => some r7)) else fg (w.1 a0 = 3) inferInstance (fg (w.1 (gR w 200 a0 0) = 4) inferInstance (some (gI w 301 (gR w 200 a0 0) 0)))))
set_option maxHeartbeats 4000000 in
set_option maxRecDepth 100000 in
theorem c_X2_measured (l : Launch) (D : va_G) (cy : Nat → ClassId) (a0 : Nat) (x1 : Int32) (w : FW) (r : Int32) (hF : F_X2_measured a0 x1 w = some r) : fSpec l D cy yX2_measured cX2_measured 2 (some .int) { frames := 4, cells := 0, slots := 0, locals := 86 } [.ref a0, .int x1] w w (some (.int r)) := by
  refine f_begin (by decide +kernel) (Nat.le_of_ble_eq_true rfl) (fun X hC hEn => ?_)
  unfold F_X2_measured at hF
  show fAt X 0 0 2 w [(0, .ref a0), (1, .int x1)] [] 0
  refine f_iload_n hC dX2_measured_0 rfl 1 rfl ?_
  by_cases c1 : x1 = 0
  · replace hF := fi_pos hF c1
    refine f_look hC 28 dX2_measured_1 (by decide) (by rw [c1] <;> decide) (by decide) ?_
    refine f_aload_n hC dX2_measured_28 rfl 0 rfl ?_
    obtain ⟨g4, hF⟩ := fg_open hF
    obtain ⟨r2, h3, hF⟩ := fb_open hF
    refine f_callV hC [] (c_X2_wetness l D cy a0 w r2 h3) q_1021 q_134 q_1018 q_1020 q_57 h9_X2_wetness rfl (fSm.k (fSm.rf w) g4) ⟨Nat.le_of_ble_eq_true rfl, Nat.le_of_ble_eq_true rfl⟩ ⟨Nat.le_of_ble_eq_true rfl, Nat.le_of_ble_eq_true rfl⟩ (Nat.le_of_ble_eq_true rfl) rfl dX2_measured_29 (fun e5 => ?_)
    obtain rfl := Option.some.inj hF
    exact f_iret hC hEn (fSm.rf w) dX2_measured_32
  · replace hF := fi_neg hF c1
    by_cases c6 : x1 = 1
    · replace hF := fi_pos hF c6
      refine f_look hC 33 dX2_measured_1 (by decide) (by rw [c6] <;> decide) (by decide) ?_
      refine f_aload_n hC dX2_measured_33 rfl 0 rfl ?_
      obtain ⟨g9, hF⟩ := fg_open hF
      obtain ⟨r7, h8, hF⟩ := fb_open hF
      refine f_callV hC [] (c_X2_holesLeft l D cy a0 w r7 h8) q_1025 q_134 q_1022 q_1024 q_58 h9_X2_holesLeft rfl (fSm.k (fSm.rf w) g9) ⟨Nat.le_of_ble_eq_true rfl, Nat.le_of_ble_eq_true rfl⟩ ⟨Nat.le_of_ble_eq_true rfl, Nat.le_of_ble_eq_true rfl⟩ (Nat.le_of_ble_eq_true rfl) rfl dX2_measured_34 (fun e10 => ?_)
      obtain rfl := Option.some.inj hF
      exact f_iret hC hEn (fSm.rf w) dX2_measured_37
    · replace hF := fi_neg hF c6
      refine f_look (off := 37) hC 38 dX2_measured_1 (by decide) (flook (List.forall_mem_cons.mpr ⟨c1, (List.forall_mem_cons.mpr ⟨c6, (fun _ h => absurd h List.not_mem_nil)⟩)⟩)) (by decide) ?_
      refine f_aload_n hC dX2_measured_38 rfl 0 rfl ?_
      obtain ⟨g11, hF⟩ := fg_open hF
      refine f_getR hC 2 0 200 rfl (by decide) iX2 q_228 rfl rfl (fSm.k (fSm.rf w) g11) dX2_measured_39 ?_
      obtain ⟨g12, hF⟩ := fg_open hF
      refine f_getIN hC 3 1 301 rfl (by decide) iX3 q_179 rfl rfl (fSm.k (fSm.rf w) g12) dX2_measured_42 ?_
      obtain rfl := Option.some.inj hF
      exact f_iret hC hEn (fSm.rf w) dX2_measured_45
theorem dX1_ticketsAhead_0 : decode cX1_ticketsAhead 0 = .ok (.aload_n 0, 1) := by decide +kernel
theorem dX1_ticketsAhead_1 : decode cX1_ticketsAhead 1 = .ok (.getfield 11, 3) := by decide +kernel
theorem dX1_ticketsAhead_4 : decode cX1_ticketsAhead 4 = .ok (.iload_n 2, 1) := by decide +kernel
theorem dX1_ticketsAhead_5 : decode cX1_ticketsAhead 5 = .ok (.aaload, 1) := by decide +kernel
theorem dX1_ticketsAhead_6 : decode cX1_ticketsAhead 6 = .ok (.iload_n 1, 1) := by decide +kernel
theorem dX1_ticketsAhead_7 : decode cX1_ticketsAhead 7 = .ok (.invokevirtual 102, 3) := by decide +kernel
theorem dX1_ticketsAhead_10 : decode cX1_ticketsAhead 10 = .ok (.istore_n 3, 1) := by decide +kernel
theorem dX1_ticketsAhead_11 : decode cX1_ticketsAhead 11 = .ok (.iconst 0, 1) := by decide +kernel
theorem dX1_ticketsAhead_12 : decode cX1_ticketsAhead 12 = .ok (.istore 4, 2) := by decide +kernel
theorem dX1_ticketsAhead_14 : decode cX1_ticketsAhead 14 = .ok (.iconst 0, 1) := by decide +kernel
theorem dX1_ticketsAhead_15 : decode cX1_ticketsAhead 15 = .ok (.istore 5, 2) := by decide +kernel
theorem dX1_ticketsAhead_17 : decode cX1_ticketsAhead 17 = .ok (.iload 5, 2) := by decide +kernel
theorem dX1_ticketsAhead_19 : decode cX1_ticketsAhead 19 = .ok (.aload_n 0, 1) := by decide +kernel
theorem dX1_ticketsAhead_20 : decode cX1_ticketsAhead 20 = .ok (.getfield 17, 3) := by decide +kernel
theorem dX1_ticketsAhead_23 : decode cX1_ticketsAhead 23 = .ok (.if_icmp .ge 43, 3) := by decide +kernel
theorem dX1_ticketsAhead_26 : decode cX1_ticketsAhead 26 = .ok (.aload_n 0, 1) := by decide +kernel
theorem dX1_ticketsAhead_27 : decode cX1_ticketsAhead 27 = .ok (.getfield 11, 3) := by decide +kernel
theorem dX1_ticketsAhead_30 : decode cX1_ticketsAhead 30 = .ok (.iload 5, 2) := by decide +kernel
theorem dX1_ticketsAhead_32 : decode cX1_ticketsAhead 32 = .ok (.aaload, 1) := by decide +kernel
theorem dX1_ticketsAhead_33 : decode cX1_ticketsAhead 33 = .ok (.iload_n 1, 1) := by decide +kernel
theorem dX1_ticketsAhead_34 : decode cX1_ticketsAhead 34 = .ok (.invokevirtual 102, 3) := by decide +kernel
theorem dX1_ticketsAhead_37 : decode cX1_ticketsAhead 37 = .ok (.istore 6, 2) := by decide +kernel
theorem dX1_ticketsAhead_39 : decode cX1_ticketsAhead 39 = .ok (.iload 6, 2) := by decide +kernel
theorem dX1_ticketsAhead_41 : decode cX1_ticketsAhead 41 = .ok (.iload_n 3, 1) := by decide +kernel
theorem dX1_ticketsAhead_42 : decode cX1_ticketsAhead 42 = .ok (.if_icmp .gt 15, 3) := by decide +kernel
theorem dX1_ticketsAhead_45 : decode cX1_ticketsAhead 45 = .ok (.iload 6, 2) := by decide +kernel
theorem dX1_ticketsAhead_47 : decode cX1_ticketsAhead 47 = .ok (.iload_n 3, 1) := by decide +kernel
theorem dX1_ticketsAhead_48 : decode cX1_ticketsAhead 48 = .ok (.if_icmp .ne 12, 3) := by decide +kernel
theorem dX1_ticketsAhead_51 : decode cX1_ticketsAhead 51 = .ok (.iload 5, 2) := by decide +kernel
theorem dX1_ticketsAhead_53 : decode cX1_ticketsAhead 53 = .ok (.iload_n 2, 1) := by decide +kernel
theorem dX1_ticketsAhead_54 : decode cX1_ticketsAhead 54 = .ok (.if_icmp .ge 6, 3) := by decide +kernel
theorem dX1_ticketsAhead_57 : decode cX1_ticketsAhead 57 = .ok (.iinc 4 1, 3) := by decide +kernel
theorem dX1_ticketsAhead_60 : decode cX1_ticketsAhead 60 = .ok (.iinc 5 1, 3) := by decide +kernel
theorem dX1_ticketsAhead_63 : decode cX1_ticketsAhead 63 = .ok (.goto (-46), 3) := by decide +kernel
theorem dX1_ticketsAhead_66 : decode cX1_ticketsAhead 66 = .ok (.iload 4, 2) := by decide +kernel
theorem dX1_ticketsAhead_68 : decode cX1_ticketsAhead 68 = .ok (.ireturn, 1) := by decide +kernel
theorem h9_X1_ticketsAhead : yX1_ticketsAhead.cls ≠ "java/lang/invoke/MethodHandle" ∧ yX1_ticketsAhead.cls ≠ "java/lang/invoke/VarHandle" ∧ (parseMethodDescriptor yX1_ticketsAhead.desc).map (fun d => d.parameters.length) = some 2 := by decide +kernel
noncomputable def F_X1_ticketsAhead (a0 : Nat) (x1 : Int32) (x2 : Int32) (w : FW) : Option (Int32) :=
  fg (w.1 a0 = 2) inferInstance (fg (w.1 (gR w 100 a0 0) = 14) inferInstance (fg (¬ (x2 < 0 ∨ w.2.1 (gR w 100 a0 0) ≤ Int32.toNatClampNeg x2)) inferInstance (fg (w.1 (gR w 604 (gR w 100 a0 0) (Int32.toNatClampNeg x2)) = 3) inferInstance ((F_X2_measured (gR w 604 (gR w 100 a0 0) (Int32.toNatClampNeg x2)) x1 w).bind (fun r4 => (fLoop (σ := Int32 × Int32) (ρ := Int32) (fun s8 => (if (gI w 101 a0 0) ≤ s8.2 then some (.inr s8.1) else fg (¬ (s8.2 < 0 ∨ w.2.1 (gR w 100 a0 0) ≤ Int32.toNatClampNeg s8.2)) inferInstance (fg (w.1 (gR w 604 (gR w 100 a0 0) (Int32.toNatClampNeg s8.2)) = 3) inferInstance ((F_X2_measured (gR w 604 (gR w 100 a0 0) (Int32.toNatClampNeg s8.2)) x1 w).bind (fun r19 => (if r4 < r19 then some (.inl ((s8.1 + 1), (s8.2 + 1))) else (if r19 = r4 then (if x2 ≤ s8.2 then some (.inl (s8.1, (s8.2 + 1))) else some (.inl ((s8.1 + 1), (s8.2 + 1)))) else some (.inl (s8.1, (s8.2 + 1)))))))))) (0, 0)).bind (fun x14 => some x14))))))
set_option maxHeartbeats 4000000 in
set_option maxRecDepth 100000 in
theorem c_X1_ticketsAhead (l : Launch) (D : va_G) (cy : Nat → ClassId) (a0 : Nat) (x1 : Int32) (x2 : Int32) (w : FW) (r : Int32) (hF : F_X1_ticketsAhead a0 x1 x2 w = some r) : fSpec l D cy yX1_ticketsAhead cX1_ticketsAhead 7 (some .int) { frames := 5, cells := 0, slots := 0, locals := 107 } [.ref a0, .int x1, .int x2] w w (some (.int r)) := by
  refine f_begin (by decide +kernel) (Nat.le_of_ble_eq_true rfl) (fun X hC hEn => ?_)
  unfold F_X1_ticketsAhead at hF
  show fAt X 0 0 7 w [(0, .ref a0), (1, .int x1), (2, .int x2)] [] 0
  refine f_aload_n hC dX1_ticketsAhead_0 rfl 0 rfl ?_
  obtain ⟨g1, hF⟩ := fg_open hF
  refine f_getR hC 1 0 100 rfl (by decide) iX1 q_269 rfl rfl (fSm.k (fSm.rf w) g1) dX1_ticketsAhead_1 ?_
  refine f_iload_n hC dX1_ticketsAhead_4 rfl 2 rfl ?_
  obtain ⟨g2, hF⟩ := fg_open hF
  obtain ⟨g3, hF⟩ := fg_open hF
  refine f_aald1 hC (fSm.k (fSm.rf w) g2) (fSm.v (fSm.rf w) g3) dX1_ticketsAhead_5 ?_
  refine f_iload_n hC dX1_ticketsAhead_6 rfl 1 rfl ?_
  obtain ⟨g6, hF⟩ := fg_open hF
  obtain ⟨r4, h5, hF⟩ := fb_open hF
  refine f_callVN hC [.int x1] (c_X2_measured l D cy (gR w 604 (gR w 100 a0 0) (Int32.toNatClampNeg x2)) x1 w r4 h5) q_1017 q_134 q_1014 q_1016 q_56 h9_X2_measured rfl (fSm.k (fSm.rf w) g6) ⟨Nat.le_of_ble_eq_true rfl, Nat.le_of_ble_eq_true rfl⟩ ⟨Nat.le_of_ble_eq_true rfl, Nat.le_of_ble_eq_true rfl⟩ (Nat.le_of_ble_eq_true rfl) rfl dX1_ticketsAhead_7 (fun e7 => ?_)
  refine f_istore_n (L' := [(3, .int r4), (0, .ref a0), (1, .int x1), (2, .int x2)]) hC dX1_ticketsAhead_10 rfl (by decide) rfl ?_
  refine f_iconst (v := 0) hC dX1_ticketsAhead_11 (by decide) ?_
  refine f_istore (L' := [(4, .int 0), (3, .int r4), (0, .ref a0), (1, .int x1), (2, .int x2)]) hC dX1_ticketsAhead_12 (by decide) rfl ?_
  refine f_iconst (v := 0) hC dX1_ticketsAhead_14 (by decide) ?_
  refine f_istore (L' := [(5, .int 0), (4, .int 0), (3, .int r4), (0, .ref a0), (1, .int x1), (2, .int x2)]) hC dX1_ticketsAhead_15 (by decide) rfl ?_
  obtain ⟨x14, h15, hF⟩ := fb_open hF
  have K16 : fAt X 0 0 7 w [(4, .int x14)] [] 66 := by
    refine f_iload hC dX1_ticketsAhead_66 0 rfl ?_
    obtain rfl := Option.some.inj hF
    exact f_iret hC hEn (fSm.rf w) dX1_ticketsAhead_68
  refine f_sub (L' := [(0, .ref a0), (1, .int x1), (2, .int x2), (3, .int r4), (4, .int 0), (5, .int 0)]) [3, 4, 5, 2, 1, 0] rfl ?_
  refine fLoop_ind (fun (s8 : Int32 × Int32) => fAt X 0 0 7 w [(0, .ref a0), (1, .int x1), (2, .int x2), (3, .int r4), (4, .int s8.1), (5, .int s8.2)] [] 17) (fun s8 y13 h9 go10 ou11 => ?_) h15
  refine f_iload hC dX1_ticketsAhead_17 5 rfl ?_
  refine f_aload_n hC dX1_ticketsAhead_19 rfl 0 rfl ?_
  refine f_getI hC 1 1 101 rfl (by decide) iX1 q_271 rfl rfl (fSm.k (fSm.rf w) g1) dX1_ticketsAhead_20 ?_
  refine f_icmp_ge hC 66 dX1_ticketsAhead_23 (by decide) (fun c17 => ?_) (fun c17 => ?_)
  · replace h9 := fi_pos h9 c17
    obtain rfl := Option.some.inj h9
    obtain rfl := ou11 _ rfl
    refine f_sub (L' := [(4, .int s8.1)]) [4] rfl ?_
    exact K16
  · replace h9 := fi_neg h9 c17
    refine f_aload_n hC dX1_ticketsAhead_26 rfl 0 rfl ?_
    refine f_getR hC 1 0 100 rfl (by decide) iX1 q_269 rfl rfl (fSm.k (fSm.rf w) g1) dX1_ticketsAhead_27 ?_
    refine f_iload hC dX1_ticketsAhead_30 5 rfl ?_
    obtain ⟨g18, h9⟩ := fg_open h9
    refine f_aald1 hC (fSm.k (fSm.rf w) g2) (fSm.v (fSm.rf w) g18) dX1_ticketsAhead_32 ?_
    refine f_iload_n hC dX1_ticketsAhead_33 rfl 1 rfl ?_
    obtain ⟨g21, h9⟩ := fg_open h9
    obtain ⟨r19, h20, h9⟩ := fb_open h9
    refine f_callVN hC [.int x1] (c_X2_measured l D cy (gR w 604 (gR w 100 a0 0) (Int32.toNatClampNeg s8.2)) x1 w r19 h20) q_1017 q_134 q_1014 q_1016 q_56 h9_X2_measured rfl (fSm.k (fSm.rf w) g21) ⟨Nat.le_of_ble_eq_true rfl, Nat.le_of_ble_eq_true rfl⟩ ⟨Nat.le_of_ble_eq_true rfl, Nat.le_of_ble_eq_true rfl⟩ (Nat.le_of_ble_eq_true rfl) rfl dX1_ticketsAhead_34 (fun e22 => ?_)
    refine f_istore (L' := [(6, .int r19), (0, .ref a0), (1, .int x1), (2, .int x2), (3, .int r4), (4, .int s8.1), (5, .int s8.2)]) hC dX1_ticketsAhead_37 (by decide) rfl ?_
    refine f_iload hC dX1_ticketsAhead_39 0 rfl ?_
    refine f_iload_n hC dX1_ticketsAhead_41 rfl 4 rfl ?_
    refine f_icmp_gt hC 57 dX1_ticketsAhead_42 (by decide) (fun c23 => ?_) (fun c23 => ?_)
    · replace h9 := fi_pos h9 c23
      refine f_iinc (L' := [(4, .int (s8.1 + 1)), (6, .int r19), (0, .ref a0), (1, .int x1), (2, .int x2), (3, .int r4), (5, .int s8.2)]) hC dX1_ticketsAhead_57 5 rfl rfl (by decide) rfl ?_
      refine f_iinc (L' := [(5, .int (s8.2 + 1)), (4, .int (s8.1 + 1)), (6, .int r19), (0, .ref a0), (1, .int x1), (2, .int x2), (3, .int r4)]) hC dX1_ticketsAhead_60 6 rfl rfl (by decide) rfl ?_
      refine f_goto hC 17 dX1_ticketsAhead_63 (by decide) ?_
      obtain rfl := Option.some.inj h9
      refine f_sub (L' := [(0, .ref a0), (1, .int x1), (2, .int x2), (3, .int r4), (4, .int (s8.1 + 1)), (5, .int (s8.2 + 1))]) [3, 4, 5, 6, 1, 0] rfl ?_
      exact go10 _ rfl
    · replace h9 := fi_neg h9 c23
      refine f_iload hC dX1_ticketsAhead_45 0 rfl ?_
      refine f_iload_n hC dX1_ticketsAhead_47 rfl 4 rfl ?_
      refine f_icmp_ne hC 60 dX1_ticketsAhead_48 (by decide) (fun c24 => ?_) (fun c24 => ?_)
      · replace h9 := fi_neg h9 c24
        refine f_iinc (L' := [(5, .int (s8.2 + 1)), (6, .int r19), (0, .ref a0), (1, .int x1), (2, .int x2), (3, .int r4), (4, .int s8.1)]) hC dX1_ticketsAhead_60 6 rfl rfl (by decide) rfl ?_
        refine f_goto hC 17 dX1_ticketsAhead_63 (by decide) ?_
        obtain rfl := Option.some.inj h9
        refine f_sub (L' := [(0, .ref a0), (1, .int x1), (2, .int x2), (3, .int r4), (4, .int s8.1), (5, .int (s8.2 + 1))]) [2, 3, 4, 5, 6, 0] rfl ?_
        exact go10 _ rfl
      · replace h9 := fi_pos h9 c24
        refine f_iload hC dX1_ticketsAhead_51 6 rfl ?_
        refine f_iload_n hC dX1_ticketsAhead_53 rfl 3 rfl ?_
        refine f_icmp_ge hC 60 dX1_ticketsAhead_54 (by decide) (fun c25 => ?_) (fun c25 => ?_)
        · replace h9 := fi_pos h9 c25
          refine f_iinc (L' := [(5, .int (s8.2 + 1)), (6, .int r19), (0, .ref a0), (1, .int x1), (2, .int x2), (3, .int r4), (4, .int s8.1)]) hC dX1_ticketsAhead_60 6 rfl rfl (by decide) rfl ?_
          refine f_goto hC 17 dX1_ticketsAhead_63 (by decide) ?_
          obtain rfl := Option.some.inj h9
          refine f_sub (L' := [(0, .ref a0), (1, .int x1), (2, .int x2), (3, .int r4), (4, .int s8.1), (5, .int (s8.2 + 1))]) [2, 3, 4, 5, 6, 0] rfl ?_
          exact go10 _ rfl
        · replace h9 := fi_neg h9 c25
          refine f_iinc (L' := [(4, .int (s8.1 + 1)), (6, .int r19), (0, .ref a0), (1, .int x1), (2, .int x2), (3, .int r4), (5, .int s8.2)]) hC dX1_ticketsAhead_57 5 rfl rfl (by decide) rfl ?_
          refine f_iinc (L' := [(5, .int (s8.2 + 1)), (4, .int (s8.1 + 1)), (6, .int r19), (0, .ref a0), (1, .int x1), (2, .int x2), (3, .int r4)]) hC dX1_ticketsAhead_60 6 rfl rfl (by decide) rfl ?_
          refine f_goto hC 17 dX1_ticketsAhead_63 (by decide) ?_
          obtain rfl := Option.some.inj h9
          refine f_sub (L' := [(0, .ref a0), (1, .int x1), (2, .int x2), (3, .int r4), (4, .int (s8.1 + 1)), (5, .int (s8.2 + 1))]) [3, 4, 5, 6, 1, 0] rfl ?_
          exact go10 _ rfl
theorem dX4_write_0 : decode cX4_write 0 = .ok (.aload_n 0, 1) := by decide +kernel
theorem dX4_write_1 : decode cX4_write 1 = .ok (.getfield 51, 3) := by decide +kernel
theorem dX4_write_4 : decode cX4_write 4 = .ok (.bipush 17, 2) := by decide +kernel
theorem dX4_write_6 : decode cX4_write 6 = .ok (.if_icmp .ge 23, 3) := by decide +kernel
theorem dX4_write_9 : decode cX4_write 9 = .ok (.aload_n 0, 1) := by decide +kernel
theorem dX4_write_10 : decode cX4_write 10 = .ok (.getfield 48, 3) := by decide +kernel
theorem dX4_write_13 : decode cX4_write 13 = .ok (.aload_n 0, 1) := by decide +kernel
theorem dX4_write_14 : decode cX4_write 14 = .ok (.getfield 51, 3) := by decide +kernel
theorem dX4_write_17 : decode cX4_write 17 = .ok (.iload_n 1, 1) := by decide +kernel
theorem dX4_write_18 : decode cX4_write 18 = .ok (.castore, 1) := by decide +kernel
theorem dX4_write_19 : decode cX4_write 19 = .ok (.aload_n 0, 1) := by decide +kernel
theorem dX4_write_20 : decode cX4_write 20 = .ok (.dup, 1) := by decide +kernel
theorem dX4_write_21 : decode cX4_write 21 = .ok (.getfield 51, 3) := by decide +kernel
theorem dX4_write_24 : decode cX4_write 24 = .ok (.iconst 1, 1) := by decide +kernel
theorem dX4_write_25 : decode cX4_write 25 = .ok (.iadd, 1) := by decide +kernel
theorem dX4_write_26 : decode cX4_write 26 = .ok (.putfield 51, 3) := by decide +kernel
theorem dX4_write_29 : decode cX4_write 29 = .ok (.return_, 1) := by decide +kernel
theorem h9_X4_write : yX4_write.cls ≠ "java/lang/invoke/MethodHandle" ∧ yX4_write.cls ≠ "java/lang/invoke/VarHandle" ∧ (parseMethodDescriptor yX4_write.desc).map (fun d => d.parameters.length) = some 1 := by decide +kernel
noncomputable def F_X4_write (a0 : Nat) (x1 : Int32) (w : FW) : Option (FW) :=
  fg (w.1 a0 = 5) inferInstance ((if 17 ≤ (gI w 410 a0 0) then some w else fg (w.1 (gR w 409 a0 0) = 10) inferInstance (fg (¬ ((gI w 410 a0 0) < 0 ∨ w.2.1 (gR w 409 a0 0) ≤ Int32.toNatClampNeg (gI w 410 a0 0))) inferInstance (fg (fch x1 = x1) inferInstance (some (sI (sI w 600 (gR w 409 a0 0) (Int32.toNatClampNeg (gI w 410 a0 0)) x1) 410 a0 0 ((gI (sI w 600 (gR w 409 a0 0) (Int32.toNatClampNeg (gI w 410 a0 0)) x1) 410 a0 0) + 1)))))))
set_option maxHeartbeats 4000000 in
set_option maxRecDepth 100000 in
theorem c_X4_write (l : Launch) (D : va_G) (cy : Nat → ClassId) (a0 : Nat) (x1 : Int32) (w : FW) (r : FW) (hF : F_X4_write a0 x1 w = some r) : fSpec l D cy yX4_write cX4_write 2 none { frames := 0, cells := 0, slots := 0, locals := 0 } [.ref a0, .int x1] w r none := by
  refine f_begin (by decide +kernel) (Nat.le_of_ble_eq_true rfl) (fun X hC hEn => ?_)
  unfold F_X4_write at hF
  show fAt X 0 0 2 w [(0, .ref a0), (1, .int x1)] [] 0
  refine f_aload_n hC dX4_write_0 rfl 0 rfl ?_
  obtain ⟨g1, hF⟩ := fg_open hF
  refine f_getI hC 4 10 410 rfl (by decide) iX4 q_323 rfl rfl (fSm.k (fSm.rf w) g1) dX4_write_1 ?_
  refine f_bipush (v := 17) hC dX4_write_4 (by decide) ?_
  refine f_icmp_ge hC 29 dX4_write_6 (by decide) (fun c2 => ?_) (fun c2 => ?_)
  · replace hF := fi_pos hF c2
    obtain rfl := Option.some.inj hF
    exact f_vret hC hEn (fSm.rf w) dX4_write_29
  · replace hF := fi_neg hF c2
    refine f_aload_n hC dX4_write_9 rfl 0 rfl ?_
    refine f_getR hC 4 9 409 rfl (by decide) iX4 q_322 rfl rfl (fSm.k (fSm.rf w) g1) dX4_write_10 ?_
    refine f_aload_n hC dX4_write_13 rfl 0 rfl ?_
    refine f_getI hC 4 10 410 rfl (by decide) iX4 q_323 rfl rfl (fSm.k (fSm.rf w) g1) dX4_write_14 ?_
    refine f_iload_n hC dX4_write_17 rfl 1 rfl ?_
    obtain ⟨g3, hF⟩ := fg_open hF
    obtain ⟨g4, hF⟩ := fg_open hF
    obtain ⟨g5, hF⟩ := fg_open hF
    refine f_cast hC g5 (fSm.k (fSm.rf w) g3) (fSm.v (fSm.rf w) g4) dX4_write_18 ?_
    refine f_aload_n hC dX4_write_19 rfl 0 rfl ?_
    refine f_dup hC dX4_write_20 rfl ?_
    refine f_getI hC 4 10 410 rfl (by decide) iX4 q_323 rfl rfl (fSm.k (fSm.rf w) g1) dX4_write_21 ?_
    refine f_iconst (v := 1) hC dX4_write_24 (by decide) ?_
    refine f_iadd hC dX4_write_25 ?_
    refine f_putI hC 4 10 410 rfl (by decide) iX4 tyX4 tyX4_ok nmX4 q_323 rfl rfl rfl rfl rfl (fSm.k (fSm.rf w) g1) dX4_write_26 ?_
    obtain rfl := Option.some.inj hF
    exact f_vret hC hEn (fSm.rf w) dX4_write_29
theorem dX4_digit_0 : decode cX4_digit 0 = .ok (.bipush 48, 2) := by decide +kernel
theorem dX4_digit_2 : decode cX4_digit 2 = .ok (.iload_n 0, 1) := by decide +kernel
theorem dX4_digit_3 : decode cX4_digit 3 = .ok (.iadd, 1) := by decide +kernel
theorem dX4_digit_4 : decode cX4_digit 4 = .ok (.i2c, 1) := by decide +kernel
theorem dX4_digit_5 : decode cX4_digit 5 = .ok (.ireturn, 1) := by decide +kernel
theorem h9_X4_digit : yX4_digit.cls ≠ "java/lang/invoke/MethodHandle" ∧ yX4_digit.cls ≠ "java/lang/invoke/VarHandle" ∧ (parseMethodDescriptor yX4_digit.desc).map (fun d => d.parameters.length) = some 1 := by decide +kernel
noncomputable def F_X4_digit (x1 : Int32) (w : FW) : Option (Int32) :=
  fg (fch (fch (48 + x1)) = (fch (48 + x1))) inferInstance (some (fch (48 + x1)))
set_option maxHeartbeats 4000000 in
set_option maxRecDepth 100000 in
theorem c_X4_digit (l : Launch) (D : va_G) (cy : Nat → ClassId) (x1 : Int32) (w : FW) (r : Int32) (hF : F_X4_digit x1 w = some r) : fSpec l D cy yX4_digit cX4_digit 1 (some .char) { frames := 0, cells := 0, slots := 0, locals := 0 } [.int x1] w w (some (.int r)) := by
  refine f_begin (by decide +kernel) (Nat.le_of_ble_eq_true rfl) (fun X hC hEn => ?_)
  unfold F_X4_digit at hF
  show fAt X 0 0 1 w [(0, .int x1)] [] 0
  refine f_bipush (v := 48) hC dX4_digit_0 (by decide) ?_
  refine f_iload_n hC dX4_digit_2 rfl 0 rfl ?_
  refine f_iadd hC dX4_digit_3 ?_
  refine f_i2c hC dX4_digit_4 ?_
  obtain ⟨g1, hF⟩ := fg_open hF
  obtain rfl := Option.some.inj hF
  exact f_zret hC hEn (fSm.rf w) (nar_c g1) dX4_digit_5
theorem dX1_punchedHalves_0 : decode cX1_punchedHalves 0 = .ok (.iconst 0, 1) := by decide +kernel
theorem dX1_punchedHalves_1 : decode cX1_punchedHalves 1 = .ok (.istore_n 1, 1) := by decide +kernel
theorem dX1_punchedHalves_2 : decode cX1_punchedHalves 2 = .ok (.iconst 0, 1) := by decide +kernel
theorem dX1_punchedHalves_3 : decode cX1_punchedHalves 3 = .ok (.istore_n 2, 1) := by decide +kernel
theorem dX1_punchedHalves_4 : decode cX1_punchedHalves 4 = .ok (.iload_n 2, 1) := by decide +kernel
theorem dX1_punchedHalves_5 : decode cX1_punchedHalves 5 = .ok (.aload_n 0, 1) := by decide +kernel
theorem dX1_punchedHalves_6 : decode cX1_punchedHalves 6 = .ok (.getfield 17, 3) := by decide +kernel
theorem dX1_punchedHalves_9 : decode cX1_punchedHalves 9 = .ok (.if_icmp .ge 55, 3) := by decide +kernel
theorem dX1_punchedHalves_12 : decode cX1_punchedHalves 12 = .ok (.iload_n 1, 1) := by decide +kernel
theorem dX1_punchedHalves_13 : decode cX1_punchedHalves 13 = .ok (.aload_n 0, 1) := by decide +kernel
theorem dX1_punchedHalves_14 : decode cX1_punchedHalves 14 = .ok (.getfield 11, 3) := by decide +kernel
theorem dX1_punchedHalves_17 : decode cX1_punchedHalves 17 = .ok (.iload_n 2, 1) := by decide +kernel
theorem dX1_punchedHalves_18 : decode cX1_punchedHalves 18 = .ok (.aaload, 1) := by decide +kernel
theorem dX1_punchedHalves_19 : decode cX1_punchedHalves 19 = .ok (.getfield 73, 3) := by decide +kernel
theorem dX1_punchedHalves_22 : decode cX1_punchedHalves 22 = .ok (.getfield 85, 3) := by decide +kernel
theorem dX1_punchedHalves_25 : decode cX1_punchedHalves 25 = .ok (.ifCond .eq 7, 3) := by decide +kernel
theorem dX1_punchedHalves_28 : decode cX1_punchedHalves 28 = .ok (.iconst 1, 1) := by decide +kernel
theorem dX1_punchedHalves_29 : decode cX1_punchedHalves 29 = .ok (.goto 4, 3) := by decide +kernel
theorem dX1_punchedHalves_32 : decode cX1_punchedHalves 32 = .ok (.iconst 0, 1) := by decide +kernel
theorem dX1_punchedHalves_33 : decode cX1_punchedHalves 33 = .ok (.iadd, 1) := by decide +kernel
theorem dX1_punchedHalves_34 : decode cX1_punchedHalves 34 = .ok (.istore_n 1, 1) := by decide +kernel
theorem dX1_punchedHalves_35 : decode cX1_punchedHalves 35 = .ok (.iload_n 1, 1) := by decide +kernel
theorem dX1_punchedHalves_36 : decode cX1_punchedHalves 36 = .ok (.aload_n 0, 1) := by decide +kernel
theorem dX1_punchedHalves_37 : decode cX1_punchedHalves 37 = .ok (.getfield 11, 3) := by decide +kernel
theorem dX1_punchedHalves_40 : decode cX1_punchedHalves 40 = .ok (.iload_n 2, 1) := by decide +kernel
theorem dX1_punchedHalves_41 : decode cX1_punchedHalves 41 = .ok (.aaload, 1) := by decide +kernel
theorem dX1_punchedHalves_42 : decode cX1_punchedHalves 42 = .ok (.getfield 82, 3) := by decide +kernel
theorem dX1_punchedHalves_45 : decode cX1_punchedHalves 45 = .ok (.getfield 85, 3) := by decide +kernel
theorem dX1_punchedHalves_48 : decode cX1_punchedHalves 48 = .ok (.ifCond .eq 7, 3) := by decide +kernel
theorem dX1_punchedHalves_51 : decode cX1_punchedHalves 51 = .ok (.iconst 1, 1) := by decide +kernel
theorem dX1_punchedHalves_52 : decode cX1_punchedHalves 52 = .ok (.goto 4, 3) := by decide +kernel
theorem dX1_punchedHalves_55 : decode cX1_punchedHalves 55 = .ok (.iconst 0, 1) := by decide +kernel
theorem dX1_punchedHalves_56 : decode cX1_punchedHalves 56 = .ok (.iadd, 1) := by decide +kernel
theorem dX1_punchedHalves_57 : decode cX1_punchedHalves 57 = .ok (.istore_n 1, 1) := by decide +kernel
theorem dX1_punchedHalves_58 : decode cX1_punchedHalves 58 = .ok (.iinc 2 1, 3) := by decide +kernel
theorem dX1_punchedHalves_61 : decode cX1_punchedHalves 61 = .ok (.goto (-57), 3) := by decide +kernel
theorem dX1_punchedHalves_64 : decode cX1_punchedHalves 64 = .ok (.iload_n 1, 1) := by decide +kernel
theorem dX1_punchedHalves_65 : decode cX1_punchedHalves 65 = .ok (.ireturn, 1) := by decide +kernel
theorem h9_X1_punchedHalves : yX1_punchedHalves.cls ≠ "java/lang/invoke/MethodHandle" ∧ yX1_punchedHalves.cls ≠ "java/lang/invoke/VarHandle" ∧ (parseMethodDescriptor yX1_punchedHalves.desc).map (fun d => d.parameters.length) = some 0 := by decide +kernel
noncomputable def F_X1_punchedHalves (a0 : Nat) (w : FW) : Option (Int32) :=
  (fLoop (σ := Int32 × Int32) (ρ := Int32) (fun s1 => fg (w.1 a0 = 2) inferInstance ((if (gI w 101 a0 0) ≤ s1.2 then some (.inr s1.1) else fg (w.1 (gR w 100 a0 0) = 14) inferInstance (fg (¬ (s1.2 < 0 ∨ w.2.1 (gR w 100 a0 0) ≤ Int32.toNatClampNeg s1.2)) inferInstance (fg (w.1 (gR w 604 (gR w 100 a0 0) (Int32.toNatClampNeg s1.2)) = 3) inferInstance (fg (w.1 (gR w 206 (gR w 604 (gR w 100 a0 0) (Int32.toNatClampNeg s1.2)) 0) = 1) inferInstance (((if (gI w 0 (gR w 206 (gR w 604 (gR w 100 a0 0) (Int32.toNatClampNeg s1.2)) 0) 0) = 0 then some 0 else some 1) : Option (Int32)).bind (fun x16 => fg (w.1 (gR w 207 (gR w 604 (gR w 100 a0 0) (Int32.toNatClampNeg s1.2)) 0) = 1) inferInstance ((if (gI w 0 (gR w 207 (gR w 604 (gR w 100 a0 0) (Int32.toNatClampNeg s1.2)) 0) 0) = 0 then some (.inl (((s1.1 + x16) + 0), (s1.2 + 1))) else some (.inl (((s1.1 + x16) + 1), (s1.2 + 1))))))))))))) (0, 0)).bind (fun x7 => some x7)
set_option maxHeartbeats 4000000 in
set_option maxRecDepth 100000 in
theorem c_X1_punchedHalves (l : Launch) (D : va_G) (cy : Nat → ClassId) (a0 : Nat) (w : FW) (r : Int32) (hF : F_X1_punchedHalves a0 w = some r) : fSpec l D cy yX1_punchedHalves cX1_punchedHalves 3 (some .int) { frames := 0, cells := 0, slots := 0, locals := 0 } [.ref a0] w w (some (.int r)) := by
  refine f_begin (by decide +kernel) (Nat.le_of_ble_eq_true rfl) (fun X hC hEn => ?_)
  unfold F_X1_punchedHalves at hF
  show fAt X 0 0 3 w [(0, .ref a0)] [] 0
  refine f_iconst (v := 0) hC dX1_punchedHalves_0 (by decide) ?_
  refine f_istore_n (L' := [(1, .int 0), (0, .ref a0)]) hC dX1_punchedHalves_1 rfl (by decide) rfl ?_
  refine f_iconst (v := 0) hC dX1_punchedHalves_2 (by decide) ?_
  refine f_istore_n (L' := [(2, .int 0), (1, .int 0), (0, .ref a0)]) hC dX1_punchedHalves_3 rfl (by decide) rfl ?_
  obtain ⟨x7, h8, hF⟩ := fb_open hF
  have K9 : fAt X 0 0 3 w [(1, .int x7)] [] 64 := by
    refine f_iload_n hC dX1_punchedHalves_64 rfl 0 rfl ?_
    obtain rfl := Option.some.inj hF
    exact f_iret hC hEn (fSm.rf w) dX1_punchedHalves_65
  refine f_sub (L' := [(0, .ref a0), (1, .int 0), (2, .int 0)]) [2, 1, 0] rfl ?_
  refine fLoop_ind (fun (s1 : Int32 × Int32) => fAt X 0 0 3 w [(0, .ref a0), (1, .int s1.1), (2, .int s1.2)] [] 4) (fun s1 y6 h2 go3 ou4 => ?_) h8
  refine f_iload_n hC dX1_punchedHalves_4 rfl 2 rfl ?_
  refine f_aload_n hC dX1_punchedHalves_5 rfl 0 rfl ?_
  obtain ⟨g10, h2⟩ := fg_open h2
  refine f_getI hC 1 1 101 rfl (by decide) iX1 q_271 rfl rfl (fSm.k (fSm.rf w) g10) dX1_punchedHalves_6 ?_
  refine f_icmp_ge hC 64 dX1_punchedHalves_9 (by decide) (fun c11 => ?_) (fun c11 => ?_)
  · replace h2 := fi_pos h2 c11
    obtain rfl := Option.some.inj h2
    obtain rfl := ou4 _ rfl
    refine f_sub (L' := [(1, .int s1.1)]) [1] rfl ?_
    exact K9
  · replace h2 := fi_neg h2 c11
    refine f_iload_n hC dX1_punchedHalves_12 rfl 1 rfl ?_
    refine f_aload_n hC dX1_punchedHalves_13 rfl 0 rfl ?_
    refine f_getR hC 1 0 100 rfl (by decide) iX1 q_269 rfl rfl (fSm.k (fSm.rf w) g10) dX1_punchedHalves_14 ?_
    refine f_iload_n hC dX1_punchedHalves_17 rfl 2 rfl ?_
    obtain ⟨g12, h2⟩ := fg_open h2
    obtain ⟨g13, h2⟩ := fg_open h2
    refine f_aald1 hC (fSm.k (fSm.rf w) g12) (fSm.v (fSm.rf w) g13) dX1_punchedHalves_18 ?_
    obtain ⟨g14, h2⟩ := fg_open h2
    refine f_getRN hC 2 6 206 rfl (by decide) iX2 q_247 rfl rfl (fSm.k (fSm.rf w) g14) dX1_punchedHalves_19 ?_
    obtain ⟨g15, h2⟩ := fg_open h2
    refine f_getIN hC 0 0 0 rfl (by decide) iX0 q_201 rfl rfl (fSm.k (fSm.rf w) g15) dX1_punchedHalves_22 ?_
    obtain ⟨x16, h17, h2⟩ := fb_open h2
    have K19 : fAt X 0 0 3 w [(0, .ref a0), (2, .int s1.2)] [.int x16, .int s1.1] 33 := by
      refine f_iadd hC dX1_punchedHalves_33 ?_
      refine f_istore_n (L' := [(1, .int (s1.1 + x16)), (0, .ref a0), (2, .int s1.2)]) hC dX1_punchedHalves_34 rfl (by decide) rfl ?_
      refine f_iload_n hC dX1_punchedHalves_35 rfl 0 rfl ?_
      refine f_aload_n hC dX1_punchedHalves_36 rfl 1 rfl ?_
      refine f_getR hC 1 0 100 rfl (by decide) iX1 q_269 rfl rfl (fSm.k (fSm.rf w) g10) dX1_punchedHalves_37 ?_
      refine f_iload_n hC dX1_punchedHalves_40 rfl 2 rfl ?_
      refine f_aald1 hC (fSm.k (fSm.rf w) g12) (fSm.v (fSm.rf w) g13) dX1_punchedHalves_41 ?_
      refine f_getRN hC 2 7 207 rfl (by decide) iX2 q_250 rfl rfl (fSm.k (fSm.rf w) g14) dX1_punchedHalves_42 ?_
      obtain ⟨g20, h2⟩ := fg_open h2
      refine f_getIN hC 0 0 0 rfl (by decide) iX0 q_201 rfl rfl (fSm.k (fSm.rf w) g20) dX1_punchedHalves_45 ?_
      refine f_if_eq hC 55 dX1_punchedHalves_48 (by decide) (fun c21 => ?_) (fun c21 => ?_)
      · replace h2 := fi_pos h2 c21
        refine f_iconst (v := 0) hC dX1_punchedHalves_55 (by decide) ?_
        refine f_iadd hC dX1_punchedHalves_56 ?_
        refine f_istore_n (L' := [(1, .int ((s1.1 + x16) + 0)), (0, .ref a0), (2, .int s1.2)]) hC dX1_punchedHalves_57 rfl (by decide) rfl ?_
        refine f_iinc (L' := [(2, .int (s1.2 + 1)), (1, .int ((s1.1 + x16) + 0)), (0, .ref a0)]) hC dX1_punchedHalves_58 2 rfl rfl (by decide) rfl ?_
        refine f_goto hC 4 dX1_punchedHalves_61 (by decide) ?_
        obtain rfl := Option.some.inj h2
        refine f_sub (L' := [(0, .ref a0), (1, .int ((s1.1 + x16) + 0)), (2, .int (s1.2 + 1))]) [2, 1, 0] rfl ?_
        exact go3 _ rfl
      · replace h2 := fi_neg h2 c21
        refine f_iconst (v := 1) hC dX1_punchedHalves_51 (by decide) ?_
        refine f_goto hC 56 dX1_punchedHalves_52 (by decide) ?_
        refine f_iadd hC dX1_punchedHalves_56 ?_
        refine f_istore_n (L' := [(1, .int ((s1.1 + x16) + 1)), (0, .ref a0), (2, .int s1.2)]) hC dX1_punchedHalves_57 rfl (by decide) rfl ?_
        refine f_iinc (L' := [(2, .int (s1.2 + 1)), (1, .int ((s1.1 + x16) + 1)), (0, .ref a0)]) hC dX1_punchedHalves_58 2 rfl rfl (by decide) rfl ?_
        refine f_goto hC 4 dX1_punchedHalves_61 (by decide) ?_
        obtain rfl := Option.some.inj h2
        refine f_sub (L' := [(0, .ref a0), (1, .int ((s1.1 + x16) + 1)), (2, .int (s1.2 + 1))]) [2, 1, 0] rfl ?_
        exact go3 _ rfl
    refine f_if_eq hC 32 dX1_punchedHalves_25 (by decide) (fun c22 => ?_) (fun c22 => ?_)
    · replace h17 := fi_pos h17 c22
      refine f_iconst (v := 0) hC dX1_punchedHalves_32 (by decide) ?_
      obtain rfl := Option.some.inj h17
      refine f_sub (L' := [(0, .ref a0), (2, .int s1.2)]) [0, 2] rfl ?_
      exact K19
    · replace h17 := fi_neg h17 c22
      refine f_iconst (v := 1) hC dX1_punchedHalves_28 (by decide) ?_
      refine f_goto hC 33 dX1_punchedHalves_29 (by decide) ?_
      obtain rfl := Option.some.inj h17
      refine f_sub (L' := [(0, .ref a0), (2, .int s1.2)]) [0, 2] rfl ?_
      exact K19
theorem dX1_holesLeft_0 : decode cX1_holesLeft 0 = .ok (.iconst 0, 1) := by decide +kernel
theorem dX1_holesLeft_1 : decode cX1_holesLeft 1 = .ok (.istore_n 1, 1) := by decide +kernel
theorem dX1_holesLeft_2 : decode cX1_holesLeft 2 = .ok (.iconst 0, 1) := by decide +kernel
theorem dX1_holesLeft_3 : decode cX1_holesLeft 3 = .ok (.istore_n 2, 1) := by decide +kernel
theorem dX1_holesLeft_4 : decode cX1_holesLeft 4 = .ok (.iload_n 2, 1) := by decide +kernel
theorem dX1_holesLeft_5 : decode cX1_holesLeft 5 = .ok (.aload_n 0, 1) := by decide +kernel
theorem dX1_holesLeft_6 : decode cX1_holesLeft 6 = .ok (.getfield 17, 3) := by decide +kernel
theorem dX1_holesLeft_9 : decode cX1_holesLeft 9 = .ok (.if_icmp .ge 21, 3) := by decide +kernel
theorem dX1_holesLeft_12 : decode cX1_holesLeft 12 = .ok (.iload_n 1, 1) := by decide +kernel
theorem dX1_holesLeft_13 : decode cX1_holesLeft 13 = .ok (.aload_n 0, 1) := by decide +kernel
theorem dX1_holesLeft_14 : decode cX1_holesLeft 14 = .ok (.getfield 11, 3) := by decide +kernel
theorem dX1_holesLeft_17 : decode cX1_holesLeft 17 = .ok (.iload_n 2, 1) := by decide +kernel
theorem dX1_holesLeft_18 : decode cX1_holesLeft 18 = .ok (.aaload, 1) := by decide +kernel
theorem dX1_holesLeft_19 : decode cX1_holesLeft 19 = .ok (.invokevirtual 95, 3) := by decide +kernel
theorem dX1_holesLeft_22 : decode cX1_holesLeft 22 = .ok (.iadd, 1) := by decide +kernel
theorem dX1_holesLeft_23 : decode cX1_holesLeft 23 = .ok (.istore_n 1, 1) := by decide +kernel
theorem dX1_holesLeft_24 : decode cX1_holesLeft 24 = .ok (.iinc 2 1, 3) := by decide +kernel
theorem dX1_holesLeft_27 : decode cX1_holesLeft 27 = .ok (.goto (-23), 3) := by decide +kernel
theorem dX1_holesLeft_30 : decode cX1_holesLeft 30 = .ok (.iload_n 1, 1) := by decide +kernel
theorem dX1_holesLeft_31 : decode cX1_holesLeft 31 = .ok (.ireturn, 1) := by decide +kernel
theorem h9_X1_holesLeft : yX1_holesLeft.cls ≠ "java/lang/invoke/MethodHandle" ∧ yX1_holesLeft.cls ≠ "java/lang/invoke/VarHandle" ∧ (parseMethodDescriptor yX1_holesLeft.desc).map (fun d => d.parameters.length) = some 0 := by decide +kernel
noncomputable def F_X1_holesLeft (a0 : Nat) (w : FW) : Option (Int32) :=
  (fLoop (σ := Int32 × Int32) (ρ := Int32) (fun s1 => fg (w.1 a0 = 2) inferInstance ((if (gI w 101 a0 0) ≤ s1.2 then some (.inr s1.1) else fg (w.1 (gR w 100 a0 0) = 14) inferInstance (fg (¬ (s1.2 < 0 ∨ w.2.1 (gR w 100 a0 0) ≤ Int32.toNatClampNeg s1.2)) inferInstance (fg (w.1 (gR w 604 (gR w 100 a0 0) (Int32.toNatClampNeg s1.2)) = 3) inferInstance ((F_X2_holesLeft (gR w 604 (gR w 100 a0 0) (Int32.toNatClampNeg s1.2)) w).bind (fun r14 => some (.inl ((s1.1 + r14), (s1.2 + 1)))))))))) (0, 0)).bind (fun x7 => some x7)
set_option maxHeartbeats 4000000 in
set_option maxRecDepth 100000 in
theorem c_X1_holesLeft (l : Launch) (D : va_G) (cy : Nat → ClassId) (a0 : Nat) (w : FW) (r : Int32) (hF : F_X1_holesLeft a0 w = some r) : fSpec l D cy yX1_holesLeft cX1_holesLeft 3 (some .int) { frames := 4, cells := 0, slots := 0, locals := 86 } [.ref a0] w w (some (.int r)) := by
  refine f_begin (by decide +kernel) (Nat.le_of_ble_eq_true rfl) (fun X hC hEn => ?_)
  unfold F_X1_holesLeft at hF
  show fAt X 0 0 3 w [(0, .ref a0)] [] 0
  refine f_iconst (v := 0) hC dX1_holesLeft_0 (by decide) ?_
  refine f_istore_n (L' := [(1, .int 0), (0, .ref a0)]) hC dX1_holesLeft_1 rfl (by decide) rfl ?_
  refine f_iconst (v := 0) hC dX1_holesLeft_2 (by decide) ?_
  refine f_istore_n (L' := [(2, .int 0), (1, .int 0), (0, .ref a0)]) hC dX1_holesLeft_3 rfl (by decide) rfl ?_
  obtain ⟨x7, h8, hF⟩ := fb_open hF
  have K9 : fAt X 0 0 3 w [(1, .int x7)] [] 30 := by
    refine f_iload_n hC dX1_holesLeft_30 rfl 0 rfl ?_
    obtain rfl := Option.some.inj hF
    exact f_iret hC hEn (fSm.rf w) dX1_holesLeft_31
  refine f_sub (L' := [(0, .ref a0), (1, .int 0), (2, .int 0)]) [2, 1, 0] rfl ?_
  refine fLoop_ind (fun (s1 : Int32 × Int32) => fAt X 0 0 3 w [(0, .ref a0), (1, .int s1.1), (2, .int s1.2)] [] 4) (fun s1 y6 h2 go3 ou4 => ?_) h8
  refine f_iload_n hC dX1_holesLeft_4 rfl 2 rfl ?_
  refine f_aload_n hC dX1_holesLeft_5 rfl 0 rfl ?_
  obtain ⟨g10, h2⟩ := fg_open h2
  refine f_getI hC 1 1 101 rfl (by decide) iX1 q_271 rfl rfl (fSm.k (fSm.rf w) g10) dX1_holesLeft_6 ?_
  refine f_icmp_ge hC 30 dX1_holesLeft_9 (by decide) (fun c11 => ?_) (fun c11 => ?_)
  · replace h2 := fi_pos h2 c11
    obtain rfl := Option.some.inj h2
    obtain rfl := ou4 _ rfl
    refine f_sub (L' := [(1, .int s1.1)]) [1] rfl ?_
    exact K9
  · replace h2 := fi_neg h2 c11
    refine f_iload_n hC dX1_holesLeft_12 rfl 1 rfl ?_
    refine f_aload_n hC dX1_holesLeft_13 rfl 0 rfl ?_
    refine f_getR hC 1 0 100 rfl (by decide) iX1 q_269 rfl rfl (fSm.k (fSm.rf w) g10) dX1_holesLeft_14 ?_
    refine f_iload_n hC dX1_holesLeft_17 rfl 2 rfl ?_
    obtain ⟨g12, h2⟩ := fg_open h2
    obtain ⟨g13, h2⟩ := fg_open h2
    refine f_aald1 hC (fSm.k (fSm.rf w) g12) (fSm.v (fSm.rf w) g13) dX1_holesLeft_18 ?_
    obtain ⟨g16, h2⟩ := fg_open h2
    obtain ⟨r14, h15, h2⟩ := fb_open h2
    refine f_callVN hC [] (c_X2_holesLeft l D cy (gR w 604 (gR w 100 a0 0) (Int32.toNatClampNeg s1.2)) w r14 h15) q_1025 q_134 q_1101 q_1024 q_58 h9_X2_holesLeft rfl (fSm.k (fSm.rf w) g16) ⟨Nat.le_of_ble_eq_true rfl, Nat.le_of_ble_eq_true rfl⟩ ⟨Nat.le_of_ble_eq_true rfl, Nat.le_of_ble_eq_true rfl⟩ (Nat.le_of_ble_eq_true rfl) rfl dX1_holesLeft_19 (fun e17 => ?_)
    refine f_iadd hC dX1_holesLeft_22 ?_
    refine f_istore_n (L' := [(1, .int (s1.1 + r14)), (0, .ref a0), (2, .int s1.2)]) hC dX1_holesLeft_23 rfl (by decide) rfl ?_
    refine f_iinc (L' := [(2, .int (s1.2 + 1)), (1, .int (s1.1 + r14)), (0, .ref a0)]) hC dX1_holesLeft_24 2 rfl rfl (by decide) rfl ?_
    refine f_goto hC 4 dX1_holesLeft_27 (by decide) ?_
    obtain rfl := Option.some.inj h2
    refine f_sub (L' := [(0, .ref a0), (1, .int (s1.1 + r14)), (2, .int (s1.2 + 1))]) [2, 1, 0] rfl ?_
    exact go3 _ rfl
theorem dX4_lettersFrom_0 : decode cX4_lettersFrom 0 = .ok (.iconst 0, 1) := by decide +kernel
theorem dX4_lettersFrom_1 : decode cX4_lettersFrom 1 = .ok (.istore_n 2, 1) := by decide +kernel
theorem dX4_lettersFrom_2 : decode cX4_lettersFrom 2 = .ok (.iload_n 2, 1) := by decide +kernel
theorem dX4_lettersFrom_3 : decode cX4_lettersFrom 3 = .ok (.bipush 6, 2) := by decide +kernel
theorem dX4_lettersFrom_5 : decode cX4_lettersFrom 5 = .ok (.if_icmp .ge 33, 3) := by decide +kernel
theorem dX4_lettersFrom_8 : decode cX4_lettersFrom 8 = .ok (.iload_n 1, 1) := by decide +kernel
theorem dX4_lettersFrom_9 : decode cX4_lettersFrom 9 = .ok (.iload_n 2, 1) := by decide +kernel
theorem dX4_lettersFrom_10 : decode cX4_lettersFrom 10 = .ok (.iadd, 1) := by decide +kernel
theorem dX4_lettersFrom_11 : decode cX4_lettersFrom 11 = .ok (.aload_n 0, 1) := by decide +kernel
theorem dX4_lettersFrom_12 : decode cX4_lettersFrom 12 = .ok (.getfield 45, 3) := by decide +kernel
theorem dX4_lettersFrom_15 : decode cX4_lettersFrom 15 = .ok (.if_icmp .ge 23, 3) := by decide +kernel
theorem dX4_lettersFrom_18 : decode cX4_lettersFrom 18 = .ok (.aload_n 0, 1) := by decide +kernel
theorem dX4_lettersFrom_19 : decode cX4_lettersFrom 19 = .ok (.getfield 41, 3) := by decide +kernel
theorem dX4_lettersFrom_22 : decode cX4_lettersFrom 22 = .ok (.iload_n 1, 1) := by decide +kernel
theorem dX4_lettersFrom_23 : decode cX4_lettersFrom 23 = .ok (.iload_n 2, 1) := by decide +kernel
theorem dX4_lettersFrom_24 : decode cX4_lettersFrom 24 = .ok (.iadd, 1) := by decide +kernel
theorem dX4_lettersFrom_25 : decode cX4_lettersFrom 25 = .ok (.caload, 1) := by decide +kernel
theorem dX4_lettersFrom_26 : decode cX4_lettersFrom 26 = .ok (.invokestatic 281, 3) := by decide +kernel
theorem dX4_lettersFrom_29 : decode cX4_lettersFrom 29 = .ok (.ifCond .eq 9, 3) := by decide +kernel
theorem dX4_lettersFrom_32 : decode cX4_lettersFrom 32 = .ok (.iinc 2 1, 3) := by decide +kernel
theorem dX4_lettersFrom_35 : decode cX4_lettersFrom 35 = .ok (.goto (-33), 3) := by decide +kernel
theorem dX4_lettersFrom_38 : decode cX4_lettersFrom 38 = .ok (.iload_n 2, 1) := by decide +kernel
theorem dX4_lettersFrom_39 : decode cX4_lettersFrom 39 = .ok (.ireturn, 1) := by decide +kernel
theorem h9_X4_lettersFrom : yX4_lettersFrom.cls ≠ "java/lang/invoke/MethodHandle" ∧ yX4_lettersFrom.cls ≠ "java/lang/invoke/VarHandle" ∧ (parseMethodDescriptor yX4_lettersFrom.desc).map (fun d => d.parameters.length) = some 1 := by decide +kernel
noncomputable def F_X4_lettersFrom (a0 : Nat) (x1 : Int32) (w : FW) : Option (Int32) :=
  (fLoop (σ := Int32) (ρ := Int32) (fun s1 => (if 6 ≤ s1 then some (.inr s1) else fg (w.1 a0 = 5) inferInstance ((if (gI w 408 a0 0) ≤ (x1 + s1) then some (.inr s1) else fg (w.1 (gR w 407 a0 0) = 10) inferInstance (fg (¬ ((x1 + s1) < 0 ∨ w.2.1 (gR w 407 a0 0) ≤ Int32.toNatClampNeg (x1 + s1))) inferInstance ((F_X4_isLetter (gI w 600 (gR w 407 a0 0) (Int32.toNatClampNeg (x1 + s1))) w).bind (fun r15 => (if r15 = 0 then some (.inr s1) else some (.inl (s1 + 1)))))))))) 0).bind (fun x7 => some x7)
set_option maxHeartbeats 4000000 in
set_option maxRecDepth 100000 in
theorem c_X4_lettersFrom (l : Launch) (D : va_G) (cy : Nat → ClassId) (a0 : Nat) (x1 : Int32) (w : FW) (r : Int32) (hF : F_X4_lettersFrom a0 x1 w = some r) : fSpec l D cy yX4_lettersFrom cX4_lettersFrom 3 (some .int) { frames := 2, cells := 0, slots := 0, locals := 40 } [.ref a0, .int x1] w w (some (.int r)) := by
  refine f_begin (by decide +kernel) (Nat.le_of_ble_eq_true rfl) (fun X hC hEn => ?_)
  unfold F_X4_lettersFrom at hF
  show fAt X 0 0 3 w [(0, .ref a0), (1, .int x1)] [] 0
  refine f_iconst (v := 0) hC dX4_lettersFrom_0 (by decide) ?_
  refine f_istore_n (L' := [(2, .int 0), (0, .ref a0), (1, .int x1)]) hC dX4_lettersFrom_1 rfl (by decide) rfl ?_
  obtain ⟨x7, h8, hF⟩ := fb_open hF
  have K9 : fAt X 0 0 3 w [(2, .int x7)] [] 38 := by
    refine f_iload_n hC dX4_lettersFrom_38 rfl 0 rfl ?_
    obtain rfl := Option.some.inj hF
    exact f_iret hC hEn (fSm.rf w) dX4_lettersFrom_39
  refine f_sub (L' := [(0, .ref a0), (1, .int x1), (2, .int 0)]) [1, 2, 0] rfl ?_
  refine fLoop_ind (fun (s1 : Int32) => fAt X 0 0 3 w [(0, .ref a0), (1, .int x1), (2, .int s1)] [] 2) (fun s1 y6 h2 go3 ou4 => ?_) h8
  refine f_iload_n hC dX4_lettersFrom_2 rfl 2 rfl ?_
  refine f_bipush (v := 6) hC dX4_lettersFrom_3 (by decide) ?_
  refine f_icmp_ge hC 38 dX4_lettersFrom_5 (by decide) (fun c10 => ?_) (fun c10 => ?_)
  · replace h2 := fi_pos h2 c10
    obtain rfl := Option.some.inj h2
    obtain rfl := ou4 _ rfl
    refine f_sub (L' := [(2, .int s1)]) [2] rfl ?_
    exact K9
  · replace h2 := fi_neg h2 c10
    refine f_iload_n hC dX4_lettersFrom_8 rfl 1 rfl ?_
    refine f_iload_n hC dX4_lettersFrom_9 rfl 2 rfl ?_
    refine f_iadd hC dX4_lettersFrom_10 ?_
    refine f_aload_n hC dX4_lettersFrom_11 rfl 0 rfl ?_
    obtain ⟨g11, h2⟩ := fg_open h2
    refine f_getI hC 4 8 408 rfl (by decide) iX4 q_321 rfl rfl (fSm.k (fSm.rf w) g11) dX4_lettersFrom_12 ?_
    refine f_icmp_ge hC 38 dX4_lettersFrom_15 (by decide) (fun c12 => ?_) (fun c12 => ?_)
    · replace h2 := fi_pos h2 c12
      obtain rfl := Option.some.inj h2
      obtain rfl := ou4 _ rfl
      refine f_sub (L' := [(2, .int s1)]) [2] rfl ?_
      exact K9
    · replace h2 := fi_neg h2 c12
      refine f_aload_n hC dX4_lettersFrom_18 rfl 0 rfl ?_
      refine f_getR hC 4 7 407 rfl (by decide) iX4 q_320 rfl rfl (fSm.k (fSm.rf w) g11) dX4_lettersFrom_19 ?_
      refine f_iload_n hC dX4_lettersFrom_22 rfl 1 rfl ?_
      refine f_iload_n hC dX4_lettersFrom_23 rfl 2 rfl ?_
      refine f_iadd hC dX4_lettersFrom_24 ?_
      obtain ⟨g13, h2⟩ := fg_open h2
      obtain ⟨g14, h2⟩ := fg_open h2
      refine f_cald hC (fSm.k (fSm.rf w) g13) (fSm.v (fSm.rf w) g14) dX4_lettersFrom_25 ?_
      obtain ⟨r15, h16, h2⟩ := fb_open h2
      refine f_callS hC [.int (gI w 600 (gR w 407 a0 0) (Int32.toNatClampNeg (x1 + s1)))] (c_X4_isLetter l D cy (gI w 600 (gR w 407 a0 0) (Int32.toNatClampNeg (x1 + s1))) w r15 h16) q_635 q_131 q_633 q_634 h9_X4_isLetter ⟨Nat.le_of_ble_eq_true rfl, Nat.le_of_ble_eq_true rfl⟩ ⟨Nat.le_of_ble_eq_true rfl, Nat.le_of_ble_eq_true rfl⟩ (Nat.le_of_ble_eq_true rfl) rfl dX4_lettersFrom_26 (fun e17 => ?_)
      refine f_if_eq hC 38 dX4_lettersFrom_29 (by decide) (fun c18 => ?_) (fun c18 => ?_)
      · replace h2 := fi_pos h2 c18
        obtain rfl := Option.some.inj h2
        obtain rfl := ou4 _ rfl
        refine f_sub (L' := [(2, .int s1)]) [2] rfl ?_
        exact K9
      · replace h2 := fi_neg h2 c18
        refine f_iinc (L' := [(2, .int (s1 + 1)), (0, .ref a0), (1, .int x1)]) hC dX4_lettersFrom_32 2 rfl rfl (by decide) rfl ?_
        refine f_goto hC 2 dX4_lettersFrom_35 (by decide) ?_
        obtain rfl := Option.some.inj h2
        refine f_sub (L' := [(0, .ref a0), (1, .int x1), (2, .int (s1 + 1))]) [1, 2, 0] rfl ?_
        exact go3 _ rfl
theorem dX4_fittingCharacters_0 : decode cX4_fittingCharacters 0 = .ok (.iload_n 2, 1) := by decide +kernel
theorem dX4_fittingCharacters_1 : decode cX4_fittingCharacters 1 = .ok (.aload_n 0, 1) := by decide +kernel
theorem dX4_fittingCharacters_2 : decode cX4_fittingCharacters 2 = .ok (.getfield 45, 3) := by decide +kernel
theorem dX4_fittingCharacters_5 : decode cX4_fittingCharacters 5 = .ok (.if_icmp .lt 5, 3) := by decide +kernel
theorem dX4_fittingCharacters_8 : decode cX4_fittingCharacters 8 = .ok (.iconst 0, 1) := by decide +kernel
theorem dX4_fittingCharacters_9 : decode cX4_fittingCharacters 9 = .ok (.ireturn, 1) := by decide +kernel
theorem dX4_fittingCharacters_10 : decode cX4_fittingCharacters 10 = .ok (.aload_n 0, 1) := by decide +kernel
theorem dX4_fittingCharacters_11 : decode cX4_fittingCharacters 11 = .ok (.getfield 41, 3) := by decide +kernel
theorem dX4_fittingCharacters_14 : decode cX4_fittingCharacters 14 = .ok (.iload_n 2, 1) := by decide +kernel
theorem dX4_fittingCharacters_15 : decode cX4_fittingCharacters 15 = .ok (.caload, 1) := by decide +kernel
theorem dX4_fittingCharacters_16 : decode cX4_fittingCharacters 16 = .ok (.istore_n 3, 1) := by decide +kernel
theorem dX4_fittingCharacters_17 : decode cX4_fittingCharacters 17 = .ok (.iload_n 1, 1) := by decide +kernel
theorem dX4_fittingCharacters_18 : decode cX4_fittingCharacters 18 = .ok (.lookupswitch 86 #[(33, 84), (35, 42), (64, 78), (104, 60)], 42) := by decide +kernel
theorem dX4_fittingCharacters_60 : decode cX4_fittingCharacters 60 = .ok (.iload_n 3, 1) := by decide +kernel
theorem dX4_fittingCharacters_61 : decode cX4_fittingCharacters 61 = .ok (.bipush 48, 2) := by decide +kernel
theorem dX4_fittingCharacters_63 : decode cX4_fittingCharacters 63 = .ok (.if_icmp .lt 13, 3) := by decide +kernel
theorem dX4_fittingCharacters_66 : decode cX4_fittingCharacters 66 = .ok (.iload_n 3, 1) := by decide +kernel
theorem dX4_fittingCharacters_67 : decode cX4_fittingCharacters 67 = .ok (.bipush 57, 2) := by decide +kernel
theorem dX4_fittingCharacters_69 : decode cX4_fittingCharacters 69 = .ok (.if_icmp .gt 7, 3) := by decide +kernel
theorem dX4_fittingCharacters_72 : decode cX4_fittingCharacters 72 = .ok (.iconst 1, 1) := by decide +kernel
theorem dX4_fittingCharacters_73 : decode cX4_fittingCharacters 73 = .ok (.goto 4, 3) := by decide +kernel
theorem dX4_fittingCharacters_76 : decode cX4_fittingCharacters 76 = .ok (.iconst 0, 1) := by decide +kernel
theorem dX4_fittingCharacters_77 : decode cX4_fittingCharacters 77 = .ok (.ireturn, 1) := by decide +kernel
theorem dX4_fittingCharacters_78 : decode cX4_fittingCharacters 78 = .ok (.iload_n 3, 1) := by decide +kernel
theorem dX4_fittingCharacters_79 : decode cX4_fittingCharacters 79 = .ok (.bipush 111, 2) := by decide +kernel
theorem dX4_fittingCharacters_81 : decode cX4_fittingCharacters 81 = .ok (.if_icmp .eq 9, 3) := by decide +kernel
theorem dX4_fittingCharacters_84 : decode cX4_fittingCharacters 84 = .ok (.iload_n 3, 1) := by decide +kernel
theorem dX4_fittingCharacters_85 : decode cX4_fittingCharacters 85 = .ok (.bipush 114, 2) := by decide +kernel
theorem dX4_fittingCharacters_87 : decode cX4_fittingCharacters 87 = .ok (.if_icmp .ne 7, 3) := by decide +kernel
theorem dX4_fittingCharacters_90 : decode cX4_fittingCharacters 90 = .ok (.iconst 1, 1) := by decide +kernel
theorem dX4_fittingCharacters_91 : decode cX4_fittingCharacters 91 = .ok (.goto 4, 3) := by decide +kernel
theorem dX4_fittingCharacters_94 : decode cX4_fittingCharacters 94 = .ok (.iconst 0, 1) := by decide +kernel
theorem dX4_fittingCharacters_95 : decode cX4_fittingCharacters 95 = .ok (.ireturn, 1) := by decide +kernel
theorem dX4_fittingCharacters_96 : decode cX4_fittingCharacters 96 = .ok (.aload_n 0, 1) := by decide +kernel
theorem dX4_fittingCharacters_97 : decode cX4_fittingCharacters 97 = .ok (.iload_n 2, 1) := by decide +kernel
theorem dX4_fittingCharacters_98 : decode cX4_fittingCharacters 98 = .ok (.invokevirtual 483, 3) := by decide +kernel
theorem dX4_fittingCharacters_101 : decode cX4_fittingCharacters 101 = .ok (.ireturn, 1) := by decide +kernel
theorem dX4_fittingCharacters_102 : decode cX4_fittingCharacters 102 = .ok (.iconst 0, 1) := by decide +kernel
theorem dX4_fittingCharacters_103 : decode cX4_fittingCharacters 103 = .ok (.ireturn, 1) := by decide +kernel
theorem dX4_fittingCharacters_104 : decode cX4_fittingCharacters 104 = .ok (.iload_n 3, 1) := by decide +kernel
theorem dX4_fittingCharacters_105 : decode cX4_fittingCharacters 105 = .ok (.iload_n 1, 1) := by decide +kernel
theorem dX4_fittingCharacters_106 : decode cX4_fittingCharacters 106 = .ok (.if_icmp .ne 7, 3) := by decide +kernel
theorem dX4_fittingCharacters_109 : decode cX4_fittingCharacters 109 = .ok (.iconst 1, 1) := by decide +kernel
theorem dX4_fittingCharacters_110 : decode cX4_fittingCharacters 110 = .ok (.goto 4, 3) := by decide +kernel
theorem dX4_fittingCharacters_113 : decode cX4_fittingCharacters 113 = .ok (.iconst 0, 1) := by decide +kernel
theorem dX4_fittingCharacters_114 : decode cX4_fittingCharacters 114 = .ok (.ireturn, 1) := by decide +kernel
theorem h9_X4_fittingCharacters : yX4_fittingCharacters.cls ≠ "java/lang/invoke/MethodHandle" ∧ yX4_fittingCharacters.cls ≠ "java/lang/invoke/VarHandle" ∧ (parseMethodDescriptor yX4_fittingCharacters.desc).map (fun d => d.parameters.length) = some 2 := by decide +kernel
noncomputable def F_X4_fittingCharacters (a0 : Nat) (x1 : Int32) (x2 : Int32) (w : FW) : Option (Int32) :=
  fg (w.1 a0 = 5) inferInstance ((if x2 < (gI w 408 a0 0) then fg (w.1 (gR w 407 a0 0) = 10) inferInstance (fg (¬ (x2 < 0 ∨ w.2.1 (gR w 407 a0 0) ≤ Int32.toNatClampNeg x2)) inferInstance ((if x1 = 33 then some 0 else (if x1 = 35 then (if (gI w 600 (gR w 407 a0 0) (Int32.toNatClampNeg x2)) < 48 then some 0 else (if 57 < (gI w 600 (gR w 407 a0 0) (Int32.toNatClampNeg x2)) then some 0 else some 1)) else (if x1 = 64 then (F_X4_lettersFrom a0 x2 w).bind (fun r10 => some r10) else (if x1 = 104 then (if (gI w 600 (gR w 407 a0 0) (Int32.toNatClampNeg x2)) = 111 then some 1 else (if (gI w 600 (gR w 407 a0 0) (Int32.toNatClampNeg x2)) = 114 then some 1 else some 0)) else (if (gI w 600 (gR w 407 a0 0) (Int32.toNatClampNeg x2)) = x1 then some 1 else some 0))))))) else some 0))
set_option maxHeartbeats 4000000 in
set_option maxRecDepth 100000 in
theorem c_X4_fittingCharacters (l : Launch) (D : va_G) (cy : Nat → ClassId) (a0 : Nat) (x1 : Int32) (x2 : Int32) (w : FW) (r : Int32) (hF : F_X4_fittingCharacters a0 x1 x2 w = some r) : fSpec l D cy yX4_fittingCharacters cX4_fittingCharacters 4 (some .int) { frames := 3, cells := 0, slots := 0, locals := 62 } [.ref a0, .int x1, .int x2] w w (some (.int r)) := by
  refine f_begin (by decide +kernel) (Nat.le_of_ble_eq_true rfl) (fun X hC hEn => ?_)
  unfold F_X4_fittingCharacters at hF
  show fAt X 0 0 4 w [(0, .ref a0), (1, .int x1), (2, .int x2)] [] 0
  refine f_iload_n hC dX4_fittingCharacters_0 rfl 2 rfl ?_
  refine f_aload_n hC dX4_fittingCharacters_1 rfl 0 rfl ?_
  obtain ⟨g1, hF⟩ := fg_open hF
  refine f_getI hC 4 8 408 rfl (by decide) iX4 q_321 rfl rfl (fSm.k (fSm.rf w) g1) dX4_fittingCharacters_2 ?_
  refine f_icmp_lt hC 10 dX4_fittingCharacters_5 (by decide) (fun c2 => ?_) (fun c2 => ?_)
  · replace hF := fi_pos hF c2
    refine f_aload_n hC dX4_fittingCharacters_10 rfl 0 rfl ?_
    refine f_getR hC 4 7 407 rfl (by decide) iX4 q_320 rfl rfl (fSm.k (fSm.rf w) g1) dX4_fittingCharacters_11 ?_
    refine f_iload_n hC dX4_fittingCharacters_14 rfl 2 rfl ?_
    obtain ⟨g3, hF⟩ := fg_open hF
    obtain ⟨g4, hF⟩ := fg_open hF
    refine f_cald hC (fSm.k (fSm.rf w) g3) (fSm.v (fSm.rf w) g4) dX4_fittingCharacters_15 ?_
    refine f_istore_n (L' := [(3, .int (gI w 600 (gR w 407 a0 0) (Int32.toNatClampNeg x2))), (0, .ref a0), (1, .int x1), (2, .int x2)]) hC dX4_fittingCharacters_16 rfl (by decide) rfl ?_
    refine f_iload_n hC dX4_fittingCharacters_17 rfl 2 rfl ?_
    by_cases c5 : x1 = 33
    · replace hF := fi_pos hF c5
      refine f_look hC 102 dX4_fittingCharacters_18 (by decide) (by rw [c5] <;> decide) (by decide) ?_
      refine f_iconst (v := 0) hC dX4_fittingCharacters_102 (by decide) ?_
      obtain rfl := Option.some.inj hF
      exact f_iret hC hEn (fSm.rf w) dX4_fittingCharacters_103
    · replace hF := fi_neg hF c5
      by_cases c6 : x1 = 35
      · replace hF := fi_pos hF c6
        refine f_look hC 60 dX4_fittingCharacters_18 (by decide) (by rw [c6] <;> decide) (by decide) ?_
        refine f_iload_n hC dX4_fittingCharacters_60 rfl 0 rfl ?_
        refine f_bipush (v := 48) hC dX4_fittingCharacters_61 (by decide) ?_
        refine f_icmp_lt hC 76 dX4_fittingCharacters_63 (by decide) (fun c7 => ?_) (fun c7 => ?_)
        · replace hF := fi_pos hF c7
          refine f_iconst (v := 0) hC dX4_fittingCharacters_76 (by decide) ?_
          obtain rfl := Option.some.inj hF
          exact f_iret hC hEn (fSm.rf w) dX4_fittingCharacters_77
        · replace hF := fi_neg hF c7
          refine f_iload_n hC dX4_fittingCharacters_66 rfl 0 rfl ?_
          refine f_bipush (v := 57) hC dX4_fittingCharacters_67 (by decide) ?_
          refine f_icmp_gt hC 76 dX4_fittingCharacters_69 (by decide) (fun c8 => ?_) (fun c8 => ?_)
          · replace hF := fi_pos hF c8
            refine f_iconst (v := 0) hC dX4_fittingCharacters_76 (by decide) ?_
            obtain rfl := Option.some.inj hF
            exact f_iret hC hEn (fSm.rf w) dX4_fittingCharacters_77
          · replace hF := fi_neg hF c8
            refine f_iconst (v := 1) hC dX4_fittingCharacters_72 (by decide) ?_
            refine f_goto hC 77 dX4_fittingCharacters_73 (by decide) ?_
            obtain rfl := Option.some.inj hF
            exact f_iret hC hEn (fSm.rf w) dX4_fittingCharacters_77
      · replace hF := fi_neg hF c6
        by_cases c9 : x1 = 64
        · replace hF := fi_pos hF c9
          refine f_look hC 96 dX4_fittingCharacters_18 (by decide) (by rw [c9] <;> decide) (by decide) ?_
          refine f_aload_n hC dX4_fittingCharacters_96 rfl 1 rfl ?_
          refine f_iload_n hC dX4_fittingCharacters_97 rfl 3 rfl ?_
          obtain ⟨r10, h11, hF⟩ := fb_open hF
          refine f_callV hC [.int x2] (c_X4_lettersFrom l D cy a0 x2 w r10 h11) q_1197 q_131 q_1194 q_1196 q_67 h9_X4_lettersFrom rfl (fSm.k (fSm.rf w) g1) ⟨Nat.le_of_ble_eq_true rfl, Nat.le_of_ble_eq_true rfl⟩ ⟨Nat.le_of_ble_eq_true rfl, Nat.le_of_ble_eq_true rfl⟩ (Nat.le_of_ble_eq_true rfl) rfl dX4_fittingCharacters_98 (fun e12 => ?_)
          obtain rfl := Option.some.inj hF
          exact f_iret hC hEn (fSm.rf w) dX4_fittingCharacters_101
        · replace hF := fi_neg hF c9
          by_cases c13 : x1 = 104
          · replace hF := fi_pos hF c13
            refine f_look hC 78 dX4_fittingCharacters_18 (by decide) (by rw [c13] <;> decide) (by decide) ?_
            refine f_iload_n hC dX4_fittingCharacters_78 rfl 0 rfl ?_
            refine f_bipush (v := 111) hC dX4_fittingCharacters_79 (by decide) ?_
            refine f_icmp_eq hC 90 dX4_fittingCharacters_81 (by decide) (fun c14 => ?_) (fun c14 => ?_)
            · replace hF := fi_pos hF c14
              refine f_iconst (v := 1) hC dX4_fittingCharacters_90 (by decide) ?_
              refine f_goto hC 95 dX4_fittingCharacters_91 (by decide) ?_
              obtain rfl := Option.some.inj hF
              exact f_iret hC hEn (fSm.rf w) dX4_fittingCharacters_95
            · replace hF := fi_neg hF c14
              refine f_iload_n hC dX4_fittingCharacters_84 rfl 0 rfl ?_
              refine f_bipush (v := 114) hC dX4_fittingCharacters_85 (by decide) ?_
              refine f_icmp_ne hC 94 dX4_fittingCharacters_87 (by decide) (fun c15 => ?_) (fun c15 => ?_)
              · replace hF := fi_neg hF c15
                refine f_iconst (v := 0) hC dX4_fittingCharacters_94 (by decide) ?_
                obtain rfl := Option.some.inj hF
                exact f_iret hC hEn (fSm.rf w) dX4_fittingCharacters_95
              · replace hF := fi_pos hF c15
                refine f_iconst (v := 1) hC dX4_fittingCharacters_90 (by decide) ?_
                refine f_goto hC 95 dX4_fittingCharacters_91 (by decide) ?_
                obtain rfl := Option.some.inj hF
                exact f_iret hC hEn (fSm.rf w) dX4_fittingCharacters_95
          · replace hF := fi_neg hF c13
            refine f_look (off := 86) hC 104 dX4_fittingCharacters_18 (by decide) (flook (List.forall_mem_cons.mpr ⟨c5, (List.forall_mem_cons.mpr ⟨c6, (List.forall_mem_cons.mpr ⟨c9, (List.forall_mem_cons.mpr ⟨c13, (fun _ h => absurd h List.not_mem_nil)⟩)⟩)⟩)⟩)) (by decide) ?_
            refine f_iload_n hC dX4_fittingCharacters_104 rfl 0 rfl ?_
            refine f_iload_n hC dX4_fittingCharacters_105 rfl 2 rfl ?_
            refine f_icmp_ne hC 113 dX4_fittingCharacters_106 (by decide) (fun c16 => ?_) (fun c16 => ?_)
            · replace hF := fi_neg hF c16
              refine f_iconst (v := 0) hC dX4_fittingCharacters_113 (by decide) ?_
              obtain rfl := Option.some.inj hF
              exact f_iret hC hEn (fSm.rf w) dX4_fittingCharacters_114
            · replace hF := fi_pos hF c16
              refine f_iconst (v := 1) hC dX4_fittingCharacters_109 (by decide) ?_
              refine f_goto hC 114 dX4_fittingCharacters_110 (by decide) ?_
              obtain rfl := Option.some.inj hF
              exact f_iret hC hEn (fSm.rf w) dX4_fittingCharacters_114
  · replace hF := fi_neg hF c2
    refine f_iconst (v := 0) hC dX4_fittingCharacters_8 (by decide) ?_
    obtain rfl := Option.some.inj hF
    exact f_iret hC hEn (fSm.rf w) dX4_fittingCharacters_9
theorem dX4_digitAt_0 : decode cX4_digitAt 0 = .ok (.iload_n 1, 1) := by decide +kernel
theorem dX4_digitAt_1 : decode cX4_digitAt 1 = .ok (.ifCond .lt 23, 3) := by decide +kernel
theorem dX4_digitAt_4 : decode cX4_digitAt 4 = .ok (.iload_n 1, 1) := by decide +kernel
theorem dX4_digitAt_5 : decode cX4_digitAt 5 = .ok (.aload_n 0, 1) := by decide +kernel
theorem dX4_digitAt_6 : decode cX4_digitAt 6 = .ok (.getfield 45, 3) := by decide +kernel
theorem dX4_digitAt_9 : decode cX4_digitAt 9 = .ok (.if_icmp .ge 15, 3) := by decide +kernel
theorem dX4_digitAt_12 : decode cX4_digitAt 12 = .ok (.aload_n 0, 1) := by decide +kernel
theorem dX4_digitAt_13 : decode cX4_digitAt 13 = .ok (.getfield 41, 3) := by decide +kernel
theorem dX4_digitAt_16 : decode cX4_digitAt 16 = .ok (.iload_n 1, 1) := by decide +kernel
theorem dX4_digitAt_17 : decode cX4_digitAt 17 = .ok (.caload, 1) := by decide +kernel
theorem dX4_digitAt_18 : decode cX4_digitAt 18 = .ok (.bipush 48, 2) := by decide +kernel
theorem dX4_digitAt_20 : decode cX4_digitAt 20 = .ok (.isub, 1) := by decide +kernel
theorem dX4_digitAt_21 : decode cX4_digitAt 21 = .ok (.goto 4, 3) := by decide +kernel
theorem dX4_digitAt_24 : decode cX4_digitAt 24 = .ok (.iconst (-1), 1) := by decide +kernel
theorem dX4_digitAt_25 : decode cX4_digitAt 25 = .ok (.ireturn, 1) := by decide +kernel
theorem h9_X4_digitAt : yX4_digitAt.cls ≠ "java/lang/invoke/MethodHandle" ∧ yX4_digitAt.cls ≠ "java/lang/invoke/VarHandle" ∧ (parseMethodDescriptor yX4_digitAt.desc).map (fun d => d.parameters.length) = some 1 := by decide +kernel
noncomputable def F_X4_digitAt (a0 : Nat) (x1 : Int32) (w : FW) : Option (Int32) :=
  (if x1 < 0 then some (-1) else fg (w.1 a0 = 5) inferInstance ((if (gI w 408 a0 0) ≤ x1 then some (-1) else fg (w.1 (gR w 407 a0 0) = 10) inferInstance (fg (¬ (x1 < 0 ∨ w.2.1 (gR w 407 a0 0) ≤ Int32.toNatClampNeg x1)) inferInstance (some ((gI w 600 (gR w 407 a0 0) (Int32.toNatClampNeg x1)) - 48))))))
set_option maxHeartbeats 4000000 in
set_option maxRecDepth 100000 in
theorem c_X4_digitAt (l : Launch) (D : va_G) (cy : Nat → ClassId) (a0 : Nat) (x1 : Int32) (w : FW) (r : Int32) (hF : F_X4_digitAt a0 x1 w = some r) : fSpec l D cy yX4_digitAt cX4_digitAt 2 (some .int) { frames := 0, cells := 0, slots := 0, locals := 0 } [.ref a0, .int x1] w w (some (.int r)) := by
  refine f_begin (by decide +kernel) (Nat.le_of_ble_eq_true rfl) (fun X hC hEn => ?_)
  unfold F_X4_digitAt at hF
  show fAt X 0 0 2 w [(0, .ref a0), (1, .int x1)] [] 0
  refine f_iload_n hC dX4_digitAt_0 rfl 1 rfl ?_
  refine f_if_lt hC 24 dX4_digitAt_1 (by decide) (fun c1 => ?_) (fun c1 => ?_)
  · replace hF := fi_pos hF c1
    refine f_iconst (v := (-1)) hC dX4_digitAt_24 (by decide) ?_
    obtain rfl := Option.some.inj hF
    exact f_iret hC hEn (fSm.rf w) dX4_digitAt_25
  · replace hF := fi_neg hF c1
    refine f_iload_n hC dX4_digitAt_4 rfl 1 rfl ?_
    refine f_aload_n hC dX4_digitAt_5 rfl 0 rfl ?_
    obtain ⟨g2, hF⟩ := fg_open hF
    refine f_getI hC 4 8 408 rfl (by decide) iX4 q_321 rfl rfl (fSm.k (fSm.rf w) g2) dX4_digitAt_6 ?_
    refine f_icmp_ge hC 24 dX4_digitAt_9 (by decide) (fun c3 => ?_) (fun c3 => ?_)
    · replace hF := fi_pos hF c3
      refine f_iconst (v := (-1)) hC dX4_digitAt_24 (by decide) ?_
      obtain rfl := Option.some.inj hF
      exact f_iret hC hEn (fSm.rf w) dX4_digitAt_25
    · replace hF := fi_neg hF c3
      refine f_aload_n hC dX4_digitAt_12 rfl 0 rfl ?_
      refine f_getR hC 4 7 407 rfl (by decide) iX4 q_320 rfl rfl (fSm.k (fSm.rf w) g2) dX4_digitAt_13 ?_
      refine f_iload_n hC dX4_digitAt_16 rfl 1 rfl ?_
      obtain ⟨g4, hF⟩ := fg_open hF
      obtain ⟨g5, hF⟩ := fg_open hF
      refine f_cald hC (fSm.k (fSm.rf w) g4) (fSm.v (fSm.rf w) g5) dX4_digitAt_17 ?_
      refine f_bipush (v := 48) hC dX4_digitAt_18 (by decide) ?_
      refine f_isub hC dX4_digitAt_20 ?_
      refine f_goto hC 25 dX4_digitAt_21 (by decide) ?_
      obtain rfl := Option.some.inj hF
      exact f_iret hC hEn (fSm.rf w) dX4_digitAt_25
theorem dX4_carryOutPrint_0 : decode cX4_carryOutPrint 0 = .ok (.aload_n 0, 1) := by decide +kernel
theorem dX4_carryOutPrint_1 : decode cX4_carryOutPrint 1 = .ok (.getfield 37, 3) := by decide +kernel
theorem dX4_carryOutPrint_4 : decode cX4_carryOutPrint 4 = .ok (.iconst 0, 1) := by decide +kernel
theorem dX4_carryOutPrint_5 : decode cX4_carryOutPrint 5 = .ok (.putfield 86, 3) := by decide +kernel
theorem dX4_carryOutPrint_8 : decode cX4_carryOutPrint 8 = .ok (.iload_n 1, 1) := by decide +kernel
theorem dX4_carryOutPrint_9 : decode cX4_carryOutPrint 9 = .ok (.iconst 1, 1) := by decide +kernel
theorem dX4_carryOutPrint_10 : decode cX4_carryOutPrint 10 = .ok (.iadd, 1) := by decide +kernel
theorem dX4_carryOutPrint_11 : decode cX4_carryOutPrint 11 = .ok (.istore_n 3, 1) := by decide +kernel
theorem dX4_carryOutPrint_12 : decode cX4_carryOutPrint 12 = .ok (.iload_n 3, 1) := by decide +kernel
theorem dX4_carryOutPrint_13 : decode cX4_carryOutPrint 13 = .ok (.iload_n 2, 1) := by decide +kernel
theorem dX4_carryOutPrint_14 : decode cX4_carryOutPrint 14 = .ok (.bipush 6, 2) := by decide +kernel
theorem dX4_carryOutPrint_16 : decode cX4_carryOutPrint 16 = .ok (.isub, 1) := by decide +kernel
theorem dX4_carryOutPrint_17 : decode cX4_carryOutPrint 17 = .ok (.if_icmp .ge 22, 3) := by decide +kernel
theorem dX4_carryOutPrint_20 : decode cX4_carryOutPrint 20 = .ok (.aload_n 0, 1) := by decide +kernel
theorem dX4_carryOutPrint_21 : decode cX4_carryOutPrint 21 = .ok (.getfield 37, 3) := by decide +kernel
theorem dX4_carryOutPrint_24 : decode cX4_carryOutPrint 24 = .ok (.aload_n 0, 1) := by decide +kernel
theorem dX4_carryOutPrint_25 : decode cX4_carryOutPrint 25 = .ok (.getfield 41, 3) := by decide +kernel
theorem dX4_carryOutPrint_28 : decode cX4_carryOutPrint 28 = .ok (.iload_n 3, 1) := by decide +kernel
theorem dX4_carryOutPrint_29 : decode cX4_carryOutPrint 29 = .ok (.caload, 1) := by decide +kernel
theorem dX4_carryOutPrint_30 : decode cX4_carryOutPrint 30 = .ok (.invokevirtual 397, 3) := by decide +kernel
theorem dX4_carryOutPrint_33 : decode cX4_carryOutPrint 33 = .ok (.iinc 3 1, 3) := by decide +kernel
theorem dX4_carryOutPrint_36 : decode cX4_carryOutPrint 36 = .ok (.goto (-24), 3) := by decide +kernel
theorem dX4_carryOutPrint_39 : decode cX4_carryOutPrint 39 = .ok (.aload_n 0, 1) := by decide +kernel
theorem dX4_carryOutPrint_40 : decode cX4_carryOutPrint 40 = .ok (.aload_n 0, 1) := by decide +kernel
theorem dX4_carryOutPrint_41 : decode cX4_carryOutPrint 41 = .ok (.getfield 37, 3) := by decide +kernel
theorem dX4_carryOutPrint_44 : decode cX4_carryOutPrint 44 = .ok (.aload_n 0, 1) := by decide +kernel
theorem dX4_carryOutPrint_45 : decode cX4_carryOutPrint 45 = .ok (.iload_n 2, 1) := by decide +kernel
theorem dX4_carryOutPrint_46 : decode cX4_carryOutPrint 46 = .ok (.iconst 5, 1) := by decide +kernel
theorem dX4_carryOutPrint_47 : decode cX4_carryOutPrint 47 = .ok (.isub, 1) := by decide +kernel
theorem dX4_carryOutPrint_48 : decode cX4_carryOutPrint 48 = .ok (.invokevirtual 486, 3) := by decide +kernel
theorem dX4_carryOutPrint_51 : decode cX4_carryOutPrint 51 = .ok (.aload_n 0, 1) := by decide +kernel
theorem dX4_carryOutPrint_52 : decode cX4_carryOutPrint 52 = .ok (.iload_n 2, 1) := by decide +kernel
theorem dX4_carryOutPrint_53 : decode cX4_carryOutPrint 53 = .ok (.iconst 3, 1) := by decide +kernel
theorem dX4_carryOutPrint_54 : decode cX4_carryOutPrint 54 = .ok (.isub, 1) := by decide +kernel
theorem dX4_carryOutPrint_55 : decode cX4_carryOutPrint 55 = .ok (.invokevirtual 486, 3) := by decide +kernel
theorem dX4_carryOutPrint_58 : decode cX4_carryOutPrint 58 = .ok (.aload_n 0, 1) := by decide +kernel
theorem dX4_carryOutPrint_59 : decode cX4_carryOutPrint 59 = .ok (.iload_n 2, 1) := by decide +kernel
theorem dX4_carryOutPrint_60 : decode cX4_carryOutPrint 60 = .ok (.iconst 1, 1) := by decide +kernel
theorem dX4_carryOutPrint_61 : decode cX4_carryOutPrint 61 = .ok (.isub, 1) := by decide +kernel
theorem dX4_carryOutPrint_62 : decode cX4_carryOutPrint 62 = .ok (.invokevirtual 486, 3) := by decide +kernel
theorem dX4_carryOutPrint_65 : decode cX4_carryOutPrint 65 = .ok (.invokevirtual 93, 3) := by decide +kernel
theorem dX4_carryOutPrint_68 : decode cX4_carryOutPrint 68 = .ok (.ireturn, 1) := by decide +kernel
theorem h9_X4_carryOutPrint : yX4_carryOutPrint.cls ≠ "java/lang/invoke/MethodHandle" ∧ yX4_carryOutPrint.cls ≠ "java/lang/invoke/VarHandle" ∧ (parseMethodDescriptor yX4_carryOutPrint.desc).map (fun d => d.parameters.length) = some 2 := by decide +kernel
noncomputable def F_X4_carryOutPrint (a0 : Nat) (x1 : Int32) (x2 : Int32) (w : FW) : Option (Int32 × FW) :=
  fg (w.1 a0 = 5) inferInstance (fg (w.1 (gR w 406 a0 0) = 4) inferInstance ((fLoop (σ := Int32 × FW) (ρ := FW) (fun s3 => (if (x2 - 6) ≤ s3.1 then some (.inr s3.2) else fg (w.1 (gR s3.2 407 a0 0) = 10) inferInstance (fg (¬ (s3.1 < 0 ∨ w.2.1 (gR s3.2 407 a0 0) ≤ Int32.toNatClampNeg s3.1)) inferInstance (fg (w.1 (gR s3.2 406 a0 0) = 4) inferInstance ((F_X3_add (gR s3.2 406 a0 0) (gI s3.2 600 (gR s3.2 407 a0 0) (Int32.toNatClampNeg s3.1)) s3.2).bind (fun r15 => some (.inl ((s3.1 + 1), r15)))))))) ((x1 + 1), (sI w 301 (gR w 406 a0 0) 0 0))).bind (fun x9 => (F_X4_digitAt a0 (x2 - 5) x9).bind (fun r19 => (F_X4_digitAt a0 (x2 - 3) x9).bind (fun r22 => (F_X4_digitAt a0 (x2 - 1) x9).bind (fun r25 => (F_X4_tryPrint a0 (gR x9 406 a0 0) r19 r22 r25 x9).bind (fun r28 => some (r28.1, r28.2))))))))
set_option maxHeartbeats 4000000 in
set_option maxRecDepth 100000 in
theorem c_X4_carryOutPrint (l : Launch) (D : va_G) (cy : Nat → ClassId) (a0 : Nat) (x1 : Int32) (x2 : Int32) (w : FW) (r : Int32 × FW) (hF : F_X4_carryOutPrint a0 x1 x2 w = some r) : fSpec l D cy yX4_carryOutPrint cX4_carryOutPrint 4 (some .int) { frames := 4, cells := 0, slots := 0, locals := 88 } [.ref a0, .int x1, .int x2] w r.2 (some (.int r.1)) := by
  refine f_begin (by decide +kernel) (Nat.le_of_ble_eq_true rfl) (fun X hC hEn => ?_)
  unfold F_X4_carryOutPrint at hF
  show fAt X 0 0 4 w [(0, .ref a0), (1, .int x1), (2, .int x2)] [] 0
  refine f_aload_n hC dX4_carryOutPrint_0 rfl 0 rfl ?_
  obtain ⟨g1, hF⟩ := fg_open hF
  refine f_getR hC 4 6 406 rfl (by decide) iX4 q_319 rfl rfl (fSm.k (fSm.rf w) g1) dX4_carryOutPrint_1 ?_
  refine f_iconst (v := 0) hC dX4_carryOutPrint_4 (by decide) ?_
  obtain ⟨g2, hF⟩ := fg_open hF
  refine f_putIN hC 3 1 301 rfl (by decide) iX3 tyX3 tyX3_ok nmX3 q_177 rfl rfl rfl rfl rfl (fSm.k (fSm.rf w) g2) dX4_carryOutPrint_5 ?_
  refine f_iload_n hC dX4_carryOutPrint_8 rfl 1 rfl ?_
  refine f_iconst (v := 1) hC dX4_carryOutPrint_9 (by decide) ?_
  refine f_iadd hC dX4_carryOutPrint_10 ?_
  refine f_istore_n (L' := [(3, .int (x1 + 1)), (0, .ref a0), (1, .int x1), (2, .int x2)]) hC dX4_carryOutPrint_11 rfl (by decide) rfl ?_
  obtain ⟨x9, h10, hF⟩ := fb_open hF
  have K11 : fSm x9 w → fAt X 0 0 4 x9 [(0, .ref a0), (2, .int x2)] [] 39 := by
    intro p7
    refine f_aload_n hC dX4_carryOutPrint_39 rfl 0 rfl ?_
    refine f_aload_n hC dX4_carryOutPrint_40 rfl 0 rfl ?_
    refine f_getR hC 4 6 406 rfl (by decide) iX4 q_319 rfl rfl (fSm.k p7 g1) dX4_carryOutPrint_41 ?_
    refine f_aload_n hC dX4_carryOutPrint_44 rfl 0 rfl ?_
    refine f_iload_n hC dX4_carryOutPrint_45 rfl 1 rfl ?_
    refine f_iconst (v := 5) hC dX4_carryOutPrint_46 (by decide) ?_
    refine f_isub hC dX4_carryOutPrint_47 ?_
    obtain ⟨r19, h20, hF⟩ := fb_open hF
    refine f_callV hC [.int (x2 - 5)] (c_X4_digitAt l D cy a0 (x2 - 5) x9 r19 h20) q_1210 q_131 q_1207 q_1209 q_70 h9_X4_digitAt rfl (fSm.k p7 g1) ⟨Nat.le_of_ble_eq_true rfl, Nat.le_of_ble_eq_true rfl⟩ ⟨Nat.le_of_ble_eq_true rfl, Nat.le_of_ble_eq_true rfl⟩ (Nat.le_of_ble_eq_true rfl) rfl dX4_carryOutPrint_48 (fun e21 => ?_)
    refine f_aload_n hC dX4_carryOutPrint_51 rfl 0 rfl ?_
    refine f_iload_n hC dX4_carryOutPrint_52 rfl 1 rfl ?_
    refine f_iconst (v := 3) hC dX4_carryOutPrint_53 (by decide) ?_
    refine f_isub hC dX4_carryOutPrint_54 ?_
    obtain ⟨r22, h23, hF⟩ := fb_open hF
    refine f_callV hC [.int (x2 - 3)] (c_X4_digitAt l D cy a0 (x2 - 3) x9 r22 h23) q_1210 q_131 q_1207 q_1209 q_70 h9_X4_digitAt rfl (fSm.k p7 g1) ⟨Nat.le_of_ble_eq_true rfl, Nat.le_of_ble_eq_true rfl⟩ ⟨Nat.le_of_ble_eq_true rfl, Nat.le_of_ble_eq_true rfl⟩ (Nat.le_of_ble_eq_true rfl) rfl dX4_carryOutPrint_55 (fun e24 => ?_)
    refine f_aload_n hC dX4_carryOutPrint_58 rfl 0 rfl ?_
    refine f_iload_n hC dX4_carryOutPrint_59 rfl 1 rfl ?_
    refine f_iconst (v := 1) hC dX4_carryOutPrint_60 (by decide) ?_
    refine f_isub hC dX4_carryOutPrint_61 ?_
    obtain ⟨r25, h26, hF⟩ := fb_open hF
    refine f_callV hC [.int (x2 - 1)] (c_X4_digitAt l D cy a0 (x2 - 1) x9 r25 h26) q_1210 q_131 q_1207 q_1209 q_70 h9_X4_digitAt rfl (fSm.k p7 g1) ⟨Nat.le_of_ble_eq_true rfl, Nat.le_of_ble_eq_true rfl⟩ ⟨Nat.le_of_ble_eq_true rfl, Nat.le_of_ble_eq_true rfl⟩ (Nat.le_of_ble_eq_true rfl) rfl dX4_carryOutPrint_62 (fun e27 => ?_)
    obtain ⟨r28, h29, hF⟩ := fb_open hF
    refine f_callV hC [.ref (gR x9 406 a0 0), .int r19, .int r22, .int r25] (c_X4_tryPrint l D cy a0 (gR x9 406 a0 0) r19 r22 r25 x9 r28 h29) q_687 q_131 q_684 q_686 q_26 h9_X4_tryPrint rfl (fSm.k p7 g1) ⟨Nat.le_of_ble_eq_true rfl, Nat.le_of_ble_eq_true rfl⟩ ⟨Nat.le_of_ble_eq_true rfl, Nat.le_of_ble_eq_true rfl⟩ (Nat.le_of_ble_eq_true rfl) rfl dX4_carryOutPrint_65 (fun e30 => ?_)
    obtain rfl := Option.some.inj hF
    exact f_iret hC hEn (fSm.tr e30 p7) dX4_carryOutPrint_68
  refine f_sub (L' := [(0, .ref a0), (2, .int x2), (3, .int (x1 + 1))]) [1, 3, 0] rfl ?_
  refine fLoop_ind (fun (s3 : Int32 × FW) => fSm s3.2 w → fAt X 0 0 4 s3.2 [(0, .ref a0), (2, .int x2), (3, .int s3.1)] [] 12) (fun s3 y8 h4 go5 ou6 => ?_) h10 (fSm.rf w)
  intro p7
  refine f_iload_n hC dX4_carryOutPrint_12 rfl 2 rfl ?_
  refine f_iload_n hC dX4_carryOutPrint_13 rfl 1 rfl ?_
  refine f_bipush (v := 6) hC dX4_carryOutPrint_14 (by decide) ?_
  refine f_isub hC dX4_carryOutPrint_16 ?_
  refine f_icmp_ge hC 39 dX4_carryOutPrint_17 (by decide) (fun c12 => ?_) (fun c12 => ?_)
  · replace h4 := fi_pos h4 c12
    obtain rfl := Option.some.inj h4
    obtain rfl := ou6 _ rfl
    refine f_sub (L' := [(0, .ref a0), (2, .int x2)]) [0, 1] rfl ?_
    exact K11 p7
  · replace h4 := fi_neg h4 c12
    refine f_aload_n hC dX4_carryOutPrint_20 rfl 0 rfl ?_
    refine f_getR hC 4 6 406 rfl (by decide) iX4 q_319 rfl rfl (fSm.k p7 g1) dX4_carryOutPrint_21 ?_
    refine f_aload_n hC dX4_carryOutPrint_24 rfl 0 rfl ?_
    refine f_getR hC 4 7 407 rfl (by decide) iX4 q_320 rfl rfl (fSm.k p7 g1) dX4_carryOutPrint_25 ?_
    refine f_iload_n hC dX4_carryOutPrint_28 rfl 2 rfl ?_
    obtain ⟨g13, h4⟩ := fg_open h4
    obtain ⟨g14, h4⟩ := fg_open h4
    refine f_cald hC (fSm.k p7 g13) (fSm.v p7 g14) dX4_carryOutPrint_29 ?_
    obtain ⟨g17, h4⟩ := fg_open h4
    obtain ⟨r15, h16, h4⟩ := fb_open h4
    refine f_callVN hC [.int (gI s3.2 600 (gR s3.2 407 a0 0) (Int32.toNatClampNeg s3.1))] (c_X3_add l D cy (gR s3.2 406 a0 0) (gI s3.2 600 (gR s3.2 407 a0 0) (Int32.toNatClampNeg s3.1)) s3.2 r15 h16) q_644 q_133 q_641 q_643 q_24 h9_X3_add rfl (fSm.k p7 g17) ⟨Nat.le_of_ble_eq_true rfl, Nat.le_of_ble_eq_true rfl⟩ ⟨Nat.le_of_ble_eq_true rfl, Nat.le_of_ble_eq_true rfl⟩ (Nat.le_of_ble_eq_true rfl) rfl dX4_carryOutPrint_30 (fun e18 => ?_)
    refine f_iinc (L' := [(3, .int (s3.1 + 1)), (0, .ref a0), (2, .int x2)]) hC dX4_carryOutPrint_33 2 rfl rfl (by decide) rfl ?_
    refine f_goto hC 12 dX4_carryOutPrint_36 (by decide) ?_
    obtain rfl := Option.some.inj h4
    refine f_sub (L' := [(0, .ref a0), (2, .int x2), (3, .int (s3.1 + 1))]) [1, 2, 0] rfl ?_
    exact go5 _ rfl (fSm.tr e18 p7)
theorem dX4_snapshot_0 : decode cX4_snapshot 0 = .ok (.aload_n 0, 1) := by decide +kernel
theorem dX4_snapshot_1 : decode cX4_snapshot 1 = .ok (.getfield 19, 3) := by decide +kernel
theorem dX4_snapshot_4 : decode cX4_snapshot 4 = .ok (.aload_n 0, 1) := by decide +kernel
theorem dX4_snapshot_5 : decode cX4_snapshot 5 = .ok (.getfield 12, 3) := by decide +kernel
theorem dX4_snapshot_8 : decode cX4_snapshot 8 = .ok (.invokevirtual 368, 3) := by decide +kernel
theorem dX4_snapshot_11 : decode cX4_snapshot 11 = .ok (.aload_n 0, 1) := by decide +kernel
theorem dX4_snapshot_12 : decode cX4_snapshot 12 = .ok (.iconst 1, 1) := by decide +kernel
theorem dX4_snapshot_13 : decode cX4_snapshot 13 = .ok (.putfield 22, 3) := by decide +kernel
theorem dX4_snapshot_16 : decode cX4_snapshot 16 = .ok (.aload_n 0, 1) := by decide +kernel
theorem dX4_snapshot_17 : decode cX4_snapshot 17 = .ok (.getfield 12, 3) := by decide +kernel
theorem dX4_snapshot_20 : decode cX4_snapshot 20 = .ok (.getfield 66, 3) := by decide +kernel
theorem dX4_snapshot_23 : decode cX4_snapshot 23 = .ok (.ireturn, 1) := by decide +kernel
theorem h9_X4_snapshot : yX4_snapshot.cls ≠ "java/lang/invoke/MethodHandle" ∧ yX4_snapshot.cls ≠ "java/lang/invoke/VarHandle" ∧ (parseMethodDescriptor yX4_snapshot.desc).map (fun d => d.parameters.length) = some 0 := by decide +kernel
noncomputable def F_X4_snapshot (a0 : Nat) (w : FW) : Option (Int32 × FW) :=
  fg (w.1 a0 = 5) inferInstance (fg (w.1 (gR w 402 a0 0) = 2) inferInstance ((F_X1_take (gR w 402 a0 0) (gR w 400 a0 0) w).bind (fun r2 => fg (w.1 (gR r2 400 a0 0) = 2) inferInstance (some ((gI (sI r2 403 a0 0 1) 101 (gR (sI r2 403 a0 0 1) 400 a0 0) 0), (sI r2 403 a0 0 1))))))
set_option maxHeartbeats 4000000 in
set_option maxRecDepth 100000 in
theorem c_X4_snapshot (l : Launch) (D : va_G) (cy : Nat → ClassId) (a0 : Nat) (w : FW) (r : Int32 × FW) (hF : F_X4_snapshot a0 w = some r) : fSpec l D cy yX4_snapshot cX4_snapshot 1 (some .int) { frames := 3, cells := 0, slots := 0, locals := 65 } [.ref a0] w r.2 (some (.int r.1)) := by
  refine f_begin (by decide +kernel) (Nat.le_of_ble_eq_true rfl) (fun X hC hEn => ?_)
  unfold F_X4_snapshot at hF
  show fAt X 0 0 1 w [(0, .ref a0)] [] 0
  refine f_aload_n hC dX4_snapshot_0 rfl 0 rfl ?_
  obtain ⟨g1, hF⟩ := fg_open hF
  refine f_getR hC 4 2 402 rfl (by decide) iX4 q_315 rfl rfl (fSm.k (fSm.rf w) g1) dX4_snapshot_1 ?_
  refine f_aload_n hC dX4_snapshot_4 rfl 0 rfl ?_
  refine f_getR hC 4 0 400 rfl (by decide) iX4 q_313 rfl rfl (fSm.k (fSm.rf w) g1) dX4_snapshot_5 ?_
  obtain ⟨g4, hF⟩ := fg_open hF
  obtain ⟨r2, h3, hF⟩ := fb_open hF
  refine f_callVN hC [.ref (gR w 400 a0 0)] (c_X1_take l D cy (gR w 402 a0 0) (gR w 400 a0 0) w r2 h3) q_378 q_132 q_375 q_377 q_2 h9_X1_take rfl (fSm.k (fSm.rf w) g4) ⟨Nat.le_of_ble_eq_true rfl, Nat.le_of_ble_eq_true rfl⟩ ⟨Nat.le_of_ble_eq_true rfl, Nat.le_of_ble_eq_true rfl⟩ (Nat.le_of_ble_eq_true rfl) rfl dX4_snapshot_8 (fun e5 => ?_)
  refine f_aload_n hC dX4_snapshot_11 rfl 0 rfl ?_
  refine f_iconst (v := 1) hC dX4_snapshot_12 (by decide) ?_
  refine f_putI hC 4 3 403 rfl (by decide) iX4 tyX4 tyX4_ok nmX4 q_316 rfl rfl rfl (nar_z (by decide)) rfl (fSm.k (fSm.tr e5 (fSm.rf w)) g1) dX4_snapshot_13 ?_
  refine f_aload_n hC dX4_snapshot_16 rfl 0 rfl ?_
  refine f_getR hC 4 0 400 rfl (by decide) iX4 q_313 rfl rfl (fSm.k (fSm.tr e5 (fSm.rf w)) g1) dX4_snapshot_17 ?_
  obtain ⟨g6, hF⟩ := fg_open hF
  refine f_getIN hC 1 1 101 rfl (by decide) iX1 q_272 rfl rfl (fSm.k (fSm.tr e5 (fSm.rf w)) g6) dX4_snapshot_20 ?_
  obtain rfl := Option.some.inj hF
  exact f_iret hC hEn (fSm.tr e5 (fSm.rf w)) dX4_snapshot_23
theorem dX5_thrown_0 : decode cX5_thrown 0 = .ok (.aload_n 0, 1) := by decide +kernel
theorem dX5_thrown_1 : decode cX5_thrown 1 = .ok (.getfield 41, 3) := by decide +kernel
theorem dX5_thrown_4 : decode cX5_thrown 4 = .ok (.ireturn, 1) := by decide +kernel
theorem h9_X5_thrown : yX5_thrown.cls ≠ "java/lang/invoke/MethodHandle" ∧ yX5_thrown.cls ≠ "java/lang/invoke/VarHandle" ∧ (parseMethodDescriptor yX5_thrown.desc).map (fun d => d.parameters.length) = some 0 := by decide +kernel
noncomputable def F_X5_thrown (a0 : Nat) (w : FW) : Option (Int32) :=
  fg (w.1 a0 = 6) inferInstance (some (gI w 500 a0 0))
set_option maxHeartbeats 4000000 in
set_option maxRecDepth 100000 in
theorem c_X5_thrown (l : Launch) (D : va_G) (cy : Nat → ClassId) (a0 : Nat) (w : FW) (r : Int32) (hF : F_X5_thrown a0 w = some r) : fSpec l D cy yX5_thrown cX5_thrown 1 (some .int) { frames := 0, cells := 0, slots := 0, locals := 0 } [.ref a0] w w (some (.int r)) := by
  refine f_begin (by decide +kernel) (Nat.le_of_ble_eq_true rfl) (fun X hC hEn => ?_)
  unfold F_X5_thrown at hF
  show fAt X 0 0 1 w [(0, .ref a0)] [] 0
  refine f_aload_n hC dX5_thrown_0 rfl 0 rfl ?_
  obtain ⟨g1, hF⟩ := fg_open hF
  refine f_getI hC 5 0 500 rfl (by decide) iX5 q_1254 rfl rfl (fSm.k (fSm.rf w) g1) dX5_thrown_1 ?_
  obtain rfl := Option.some.inj hF
  exact f_iret hC hEn (fSm.rf w) dX5_thrown_4
theorem dX5_fails_0 : decode cX5_fails 0 = .ok (.aload_n 0, 1) := by decide +kernel
theorem dX5_fails_1 : decode cX5_fails 1 = .ok (.iload_n 1, 1) := by decide +kernel
theorem dX5_fails_2 : decode cX5_fails 2 = .ok (.putfield 41, 3) := by decide +kernel
theorem dX5_fails_5 : decode cX5_fails 5 = .ok (.iconst 0, 1) := by decide +kernel
theorem dX5_fails_6 : decode cX5_fails 6 = .ok (.ireturn, 1) := by decide +kernel
theorem h9_X5_fails : yX5_fails.cls ≠ "java/lang/invoke/MethodHandle" ∧ yX5_fails.cls ≠ "java/lang/invoke/VarHandle" ∧ (parseMethodDescriptor yX5_fails.desc).map (fun d => d.parameters.length) = some 1 := by decide +kernel
noncomputable def F_X5_fails (a0 : Nat) (x1 : Int32) (w : FW) : Option (Int32 × FW) :=
  fg (w.1 a0 = 6) inferInstance (some (0, (sI w 500 a0 0 x1)))
set_option maxHeartbeats 4000000 in
set_option maxRecDepth 100000 in
theorem c_X5_fails (l : Launch) (D : va_G) (cy : Nat → ClassId) (a0 : Nat) (x1 : Int32) (w : FW) (r : Int32 × FW) (hF : F_X5_fails a0 x1 w = some r) : fSpec l D cy yX5_fails cX5_fails 2 (some .int) { frames := 0, cells := 0, slots := 0, locals := 0 } [.ref a0, .int x1] w r.2 (some (.int r.1)) := by
  refine f_begin (by decide +kernel) (Nat.le_of_ble_eq_true rfl) (fun X hC hEn => ?_)
  unfold F_X5_fails at hF
  show fAt X 0 0 2 w [(0, .ref a0), (1, .int x1)] [] 0
  refine f_aload_n hC dX5_fails_0 rfl 0 rfl ?_
  refine f_iload_n hC dX5_fails_1 rfl 1 rfl ?_
  obtain ⟨g1, hF⟩ := fg_open hF
  refine f_putI hC 5 0 500 rfl (by decide) iX5 tyX5 tyX5_ok nmX5 q_1254 rfl rfl rfl rfl rfl (fSm.k (fSm.rf w) g1) dX5_fails_2 ?_
  refine f_iconst (v := 0) hC dX5_fails_5 (by decide) ?_
  obtain rfl := Option.some.inj hF
  exact f_iret hC hEn (fSm.rf w) dX5_fails_6
theorem dX5_in_0 : decode cX5_in 0 = .ok (.iload_n 0, 1) := by decide +kernel
theorem dX5_in_1 : decode cX5_in 1 = .ok (.iload_n 1, 1) := by decide +kernel
theorem dX5_in_2 : decode cX5_in 2 = .ok (.if_icmp .lt 12, 3) := by decide +kernel
theorem dX5_in_5 : decode cX5_in 5 = .ok (.iload_n 0, 1) := by decide +kernel
theorem dX5_in_6 : decode cX5_in 6 = .ok (.iload_n 2, 1) := by decide +kernel
theorem dX5_in_7 : decode cX5_in 7 = .ok (.if_icmp .gt 7, 3) := by decide +kernel
theorem dX5_in_10 : decode cX5_in 10 = .ok (.iconst 1, 1) := by decide +kernel
theorem dX5_in_11 : decode cX5_in 11 = .ok (.goto 4, 3) := by decide +kernel
theorem dX5_in_14 : decode cX5_in 14 = .ok (.iconst 0, 1) := by decide +kernel
theorem dX5_in_15 : decode cX5_in 15 = .ok (.ireturn, 1) := by decide +kernel
theorem h9_X5_in : yX5_in.cls ≠ "java/lang/invoke/MethodHandle" ∧ yX5_in.cls ≠ "java/lang/invoke/VarHandle" ∧ (parseMethodDescriptor yX5_in.desc).map (fun d => d.parameters.length) = some 3 := by decide +kernel
noncomputable def F_X5_in (x1 : Int32) (x2 : Int32) (x3 : Int32) (w : FW) : Option (Int32) :=
  (if x1 < x2 then some 0 else (if x3 < x1 then some 0 else some 1))
set_option maxHeartbeats 4000000 in
set_option maxRecDepth 100000 in
theorem c_X5_in (l : Launch) (D : va_G) (cy : Nat → ClassId) (x1 : Int32) (x2 : Int32) (x3 : Int32) (w : FW) (r : Int32) (hF : F_X5_in x1 x2 x3 w = some r) : fSpec l D cy yX5_in cX5_in 3 (some .boolean) { frames := 0, cells := 0, slots := 0, locals := 0 } [.int x1, .int x2, .int x3] w w (some (.int r)) := by
  refine f_begin (by decide +kernel) (Nat.le_of_ble_eq_true rfl) (fun X hC hEn => ?_)
  unfold F_X5_in at hF
  show fAt X 0 0 3 w [(0, .int x1), (1, .int x2), (2, .int x3)] [] 0
  refine f_iload_n hC dX5_in_0 rfl 0 rfl ?_
  refine f_iload_n hC dX5_in_1 rfl 1 rfl ?_
  refine f_icmp_lt hC 14 dX5_in_2 (by decide) (fun c1 => ?_) (fun c1 => ?_)
  · replace hF := fi_pos hF c1
    refine f_iconst (v := 0) hC dX5_in_14 (by decide) ?_
    obtain rfl := Option.some.inj hF
    exact f_zret hC hEn (fSm.rf w) (nar_z (by decide)) dX5_in_15
  · replace hF := fi_neg hF c1
    refine f_iload_n hC dX5_in_5 rfl 0 rfl ?_
    refine f_iload_n hC dX5_in_6 rfl 2 rfl ?_
    refine f_icmp_gt hC 14 dX5_in_7 (by decide) (fun c2 => ?_) (fun c2 => ?_)
    · replace hF := fi_pos hF c2
      refine f_iconst (v := 0) hC dX5_in_14 (by decide) ?_
      obtain rfl := Option.some.inj hF
      exact f_zret hC hEn (fSm.rf w) (nar_z (by decide)) dX5_in_15
    · replace hF := fi_neg hF c2
      refine f_iconst (v := 1) hC dX5_in_10 (by decide) ?_
      refine f_goto hC 15 dX5_in_11 (by decide) ?_
      obtain rfl := Option.some.inj hF
      exact f_zret hC hEn (fSm.rf w) (nar_z (by decide)) dX5_in_15
theorem dX5_remembers_0 : decode cX5_remembers 0 = .ok (.aload_n 0, 1) := by decide +kernel
theorem dX5_remembers_1 : decode cX5_remembers 1 = .ok (.iconst 0, 1) := by decide +kernel
theorem dX5_remembers_2 : decode cX5_remembers 2 = .ok (.putfield 41, 3) := by decide +kernel
theorem dX5_remembers_5 : decode cX5_remembers 5 = .ok (.iconst 0, 1) := by decide +kernel
theorem dX5_remembers_6 : decode cX5_remembers 6 = .ok (.istore_n 1, 1) := by decide +kernel
theorem dX5_remembers_7 : decode cX5_remembers 7 = .ok (.iload_n 1, 1) := by decide +kernel
theorem dX5_remembers_8 : decode cX5_remembers 8 = .ok (.sipush 177, 3) := by decide +kernel
theorem dX5_remembers_11 : decode cX5_remembers 11 = .ok (.if_icmp .ge 21, 3) := by decide +kernel
theorem dX5_remembers_14 : decode cX5_remembers 14 = .ok (.aload_n 0, 1) := by decide +kernel
theorem dX5_remembers_15 : decode cX5_remembers 15 = .ok (.getfield 13, 3) := by decide +kernel
theorem dX5_remembers_18 : decode cX5_remembers 18 = .ok (.iload_n 1, 1) := by decide +kernel
theorem dX5_remembers_19 : decode cX5_remembers 19 = .ok (.aload_n 0, 1) := by decide +kernel
theorem dX5_remembers_20 : decode cX5_remembers 20 = .ok (.getfield 7, 3) := by decide +kernel
theorem dX5_remembers_23 : decode cX5_remembers 23 = .ok (.iload_n 1, 1) := by decide +kernel
theorem dX5_remembers_24 : decode cX5_remembers 24 = .ok (.iaload, 1) := by decide +kernel
theorem dX5_remembers_25 : decode cX5_remembers 25 = .ok (.iastore, 1) := by decide +kernel
theorem dX5_remembers_26 : decode cX5_remembers 26 = .ok (.iinc 1 1, 3) := by decide +kernel
theorem dX5_remembers_29 : decode cX5_remembers 29 = .ok (.goto (-22), 3) := by decide +kernel
theorem dX5_remembers_32 : decode cX5_remembers 32 = .ok (.return_, 1) := by decide +kernel
theorem h9_X5_remembers : yX5_remembers.cls ≠ "java/lang/invoke/MethodHandle" ∧ yX5_remembers.cls ≠ "java/lang/invoke/VarHandle" ∧ (parseMethodDescriptor yX5_remembers.desc).map (fun d => d.parameters.length) = some 0 := by decide +kernel
noncomputable def F_X5_remembers (a0 : Nat) (w : FW) : Option (FW) :=
  fg (w.1 a0 = 6) inferInstance ((fLoop (σ := Int32 × FW) (ρ := FW) (fun s2 => (if 177 ≤ s2.1 then some (.inr s2.2) else fg (w.1 (gR s2.2 501 a0 0) = 11) inferInstance (fg (¬ (s2.1 < 0 ∨ w.2.1 (gR s2.2 501 a0 0) ≤ Int32.toNatClampNeg s2.1)) inferInstance (fg (w.1 (gR s2.2 502 a0 0) = 11) inferInstance (fg (¬ (s2.1 < 0 ∨ w.2.1 (gR s2.2 502 a0 0) ≤ Int32.toNatClampNeg s2.1)) inferInstance (some (.inl ((s2.1 + 1), (sI s2.2 601 (gR s2.2 502 a0 0) (Int32.toNatClampNeg s2.1) (gI s2.2 601 (gR s2.2 501 a0 0) (Int32.toNatClampNeg s2.1))))))))))) (0, (sI w 500 a0 0 0))).bind (fun x8 => some x8))
set_option maxHeartbeats 4000000 in
set_option maxRecDepth 100000 in
theorem c_X5_remembers (l : Launch) (D : va_G) (cy : Nat → ClassId) (a0 : Nat) (w : FW) (r : FW) (hF : F_X5_remembers a0 w = some r) : fSpec l D cy yX5_remembers cX5_remembers 2 none { frames := 0, cells := 0, slots := 0, locals := 0 } [.ref a0] w r none := by
  refine f_begin (by decide +kernel) (Nat.le_of_ble_eq_true rfl) (fun X hC hEn => ?_)
  unfold F_X5_remembers at hF
  show fAt X 0 0 2 w [(0, .ref a0)] [] 0
  refine f_aload_n hC dX5_remembers_0 rfl 0 rfl ?_
  refine f_iconst (v := 0) hC dX5_remembers_1 (by decide) ?_
  obtain ⟨g1, hF⟩ := fg_open hF
  refine f_putI hC 5 0 500 rfl (by decide) iX5 tyX5 tyX5_ok nmX5 q_1254 rfl rfl rfl rfl rfl (fSm.k (fSm.rf w) g1) dX5_remembers_2 ?_
  refine f_iconst (v := 0) hC dX5_remembers_5 (by decide) ?_
  refine f_istore_n (L' := [(1, .int 0), (0, .ref a0)]) hC dX5_remembers_6 rfl (by decide) rfl ?_
  obtain ⟨x8, h9, hF⟩ := fb_open hF
  have K10 : fSm x8 w → fAt X 0 0 2 x8 [] [] 32 := by
    intro p6
    obtain rfl := Option.some.inj hF
    exact f_vret hC hEn p6 dX5_remembers_32
  refine f_sub (L' := [(0, .ref a0), (1, .int 0)]) [1, 0] rfl ?_
  refine fLoop_ind (fun (s2 : Int32 × FW) => fSm s2.2 w → fAt X 0 0 2 s2.2 [(0, .ref a0), (1, .int s2.1)] [] 7) (fun s2 y7 h3 go4 ou5 => ?_) h9 (fSm.rf w)
  intro p6
  refine f_iload_n hC dX5_remembers_7 rfl 1 rfl ?_
  refine f_sipush (v := 177) hC dX5_remembers_8 (by decide) ?_
  refine f_icmp_ge hC 32 dX5_remembers_11 (by decide) (fun c11 => ?_) (fun c11 => ?_)
  · replace h3 := fi_pos h3 c11
    obtain rfl := Option.some.inj h3
    obtain rfl := ou5 _ rfl
    refine f_sub (L' := []) [] rfl ?_
    exact K10 p6
  · replace h3 := fi_neg h3 c11
    refine f_aload_n hC dX5_remembers_14 rfl 0 rfl ?_
    refine f_getR hC 5 2 502 rfl (by decide) iX5 q_1256 rfl rfl (fSm.k p6 g1) dX5_remembers_15 ?_
    refine f_iload_n hC dX5_remembers_18 rfl 1 rfl ?_
    refine f_aload_n hC dX5_remembers_19 rfl 0 rfl ?_
    refine f_getR hC 5 1 501 rfl (by decide) iX5 q_1255 rfl rfl (fSm.k p6 g1) dX5_remembers_20 ?_
    refine f_iload_n hC dX5_remembers_23 rfl 1 rfl ?_
    obtain ⟨g12, h3⟩ := fg_open h3
    obtain ⟨g13, h3⟩ := fg_open h3
    refine f_iald hC (fSm.k p6 g12) (fSm.v p6 g13) dX5_remembers_24 ?_
    obtain ⟨g14, h3⟩ := fg_open h3
    obtain ⟨g15, h3⟩ := fg_open h3
    refine f_iast hC (fSm.k p6 g14) (fSm.v p6 g15) dX5_remembers_25 ?_
    refine f_iinc (L' := [(1, .int (s2.1 + 1)), (0, .ref a0)]) hC dX5_remembers_26 1 rfl rfl (by decide) rfl ?_
    refine f_goto hC 7 dX5_remembers_29 (by decide) ?_
    obtain rfl := Option.some.inj h3
    refine f_sub (L' := [(0, .ref a0), (1, .int (s2.1 + 1))]) [1, 0] rfl ?_
    exact go4 _ rfl p6
theorem dX5_changed_0 : decode cX5_changed 0 = .ok (.aload_n 0, 1) := by decide +kernel
theorem dX5_changed_1 : decode cX5_changed 1 = .ok (.getfield 44, 3) := by decide +kernel
theorem dX5_changed_4 : decode cX5_changed 4 = .ok (.bipush 8, 2) := by decide +kernel
theorem dX5_changed_6 : decode cX5_changed 6 = .ok (.if_icmp .ne 37, 3) := by decide +kernel
theorem dX5_changed_9 : decode cX5_changed 9 = .ok (.iconst 0, 1) := by decide +kernel
theorem dX5_changed_10 : decode cX5_changed 10 = .ok (.istore_n 2, 1) := by decide +kernel
theorem dX5_changed_11 : decode cX5_changed 11 = .ok (.iload_n 2, 1) := by decide +kernel
theorem dX5_changed_12 : decode cX5_changed 12 = .ok (.sipush 1239, 3) := by decide +kernel
theorem dX5_changed_15 : decode cX5_changed 15 = .ok (.if_icmp .ge 25, 3) := by decide +kernel
theorem dX5_changed_18 : decode cX5_changed 18 = .ok (.aload_n 0, 1) := by decide +kernel
theorem dX5_changed_19 : decode cX5_changed 19 = .ok (.getfield 19, 3) := by decide +kernel
theorem dX5_changed_22 : decode cX5_changed 22 = .ok (.iload_n 2, 1) := by decide +kernel
theorem dX5_changed_23 : decode cX5_changed 23 = .ok (.aload_n 0, 1) := by decide +kernel
theorem dX5_changed_24 : decode cX5_changed 24 = .ok (.getfield 19, 3) := by decide +kernel
theorem dX5_changed_27 : decode cX5_changed 27 = .ok (.iload_n 2, 1) := by decide +kernel
theorem dX5_changed_28 : decode cX5_changed 28 = .ok (.sipush 177, 3) := by decide +kernel
theorem dX5_changed_31 : decode cX5_changed 31 = .ok (.iadd, 1) := by decide +kernel
theorem dX5_changed_32 : decode cX5_changed 32 = .ok (.iaload, 1) := by decide +kernel
theorem dX5_changed_33 : decode cX5_changed 33 = .ok (.iastore, 1) := by decide +kernel
theorem dX5_changed_34 : decode cX5_changed 34 = .ok (.iinc 2 1, 3) := by decide +kernel
theorem dX5_changed_37 : decode cX5_changed 37 = .ok (.goto (-26), 3) := by decide +kernel
theorem dX5_changed_40 : decode cX5_changed 40 = .ok (.goto 13, 3) := by decide +kernel
theorem dX5_changed_43 : decode cX5_changed 43 = .ok (.aload_n 0, 1) := by decide +kernel
theorem dX5_changed_44 : decode cX5_changed 44 = .ok (.dup, 1) := by decide +kernel
theorem dX5_changed_45 : decode cX5_changed 45 = .ok (.getfield 44, 3) := by decide +kernel
theorem dX5_changed_48 : decode cX5_changed 48 = .ok (.iconst 1, 1) := by decide +kernel
theorem dX5_changed_49 : decode cX5_changed 49 = .ok (.iadd, 1) := by decide +kernel
theorem dX5_changed_50 : decode cX5_changed 50 = .ok (.putfield 44, 3) := by decide +kernel
theorem dX5_changed_53 : decode cX5_changed 53 = .ok (.iconst 0, 1) := by decide +kernel
theorem dX5_changed_54 : decode cX5_changed 54 = .ok (.istore_n 2, 1) := by decide +kernel
theorem dX5_changed_55 : decode cX5_changed 55 = .ok (.iload_n 2, 1) := by decide +kernel
theorem dX5_changed_56 : decode cX5_changed 56 = .ok (.sipush 177, 3) := by decide +kernel
theorem dX5_changed_59 : decode cX5_changed 59 = .ok (.if_icmp .ge 32, 3) := by decide +kernel
theorem dX5_changed_62 : decode cX5_changed 62 = .ok (.aload_n 0, 1) := by decide +kernel
theorem dX5_changed_63 : decode cX5_changed 63 = .ok (.getfield 19, 3) := by decide +kernel
theorem dX5_changed_66 : decode cX5_changed 66 = .ok (.sipush 177, 3) := by decide +kernel
theorem dX5_changed_69 : decode cX5_changed 69 = .ok (.aload_n 0, 1) := by decide +kernel
theorem dX5_changed_70 : decode cX5_changed 70 = .ok (.getfield 44, 3) := by decide +kernel
theorem dX5_changed_73 : decode cX5_changed 73 = .ok (.iconst 1, 1) := by decide +kernel
theorem dX5_changed_74 : decode cX5_changed 74 = .ok (.isub, 1) := by decide +kernel
theorem dX5_changed_75 : decode cX5_changed 75 = .ok (.imul, 1) := by decide +kernel
theorem dX5_changed_76 : decode cX5_changed 76 = .ok (.iload_n 2, 1) := by decide +kernel
theorem dX5_changed_77 : decode cX5_changed 77 = .ok (.iadd, 1) := by decide +kernel
theorem dX5_changed_78 : decode cX5_changed 78 = .ok (.aload_n 0, 1) := by decide +kernel
theorem dX5_changed_79 : decode cX5_changed 79 = .ok (.getfield 13, 3) := by decide +kernel
theorem dX5_changed_82 : decode cX5_changed 82 = .ok (.iload_n 2, 1) := by decide +kernel
theorem dX5_changed_83 : decode cX5_changed 83 = .ok (.iaload, 1) := by decide +kernel
theorem dX5_changed_84 : decode cX5_changed 84 = .ok (.iastore, 1) := by decide +kernel
theorem dX5_changed_85 : decode cX5_changed 85 = .ok (.iinc 2 1, 3) := by decide +kernel
theorem dX5_changed_88 : decode cX5_changed 88 = .ok (.goto (-33), 3) := by decide +kernel
theorem dX5_changed_91 : decode cX5_changed 91 = .ok (.iload_n 1, 1) := by decide +kernel
theorem dX5_changed_92 : decode cX5_changed 92 = .ok (.ireturn, 1) := by decide +kernel
theorem h9_X5_changed : yX5_changed.cls ≠ "java/lang/invoke/MethodHandle" ∧ yX5_changed.cls ≠ "java/lang/invoke/VarHandle" ∧ (parseMethodDescriptor yX5_changed.desc).map (fun d => d.parameters.length) = some 1 := by decide +kernel
noncomputable def F_X5_changed (a0 : Nat) (x1 : Int32) (w : FW) : Option (Int32 × FW) :=
  fg (w.1 a0 = 6) inferInstance (((if (gI w 505 a0 0) = 8 then (fLoop (σ := Int32 × FW) (ρ := FW) (fun s21 => (if 1239 ≤ s21.1 then some (.inr s21.2) else fg (w.1 (gR s21.2 504 a0 0) = 11) inferInstance (fg (¬ ((s21.1 + 177) < 0 ∨ w.2.1 (gR s21.2 504 a0 0) ≤ Int32.toNatClampNeg (s21.1 + 177))) inferInstance (fg (¬ (s21.1 < 0 ∨ w.2.1 (gR s21.2 504 a0 0) ≤ Int32.toNatClampNeg s21.1)) inferInstance (some (.inl ((s21.1 + 1), (sI s21.2 601 (gR s21.2 504 a0 0) (Int32.toNatClampNeg s21.1) (gI s21.2 601 (gR s21.2 504 a0 0) (Int32.toNatClampNeg (s21.1 + 177))))))))))) (0, w)).bind (fun x27 => some x27) else some (sI w 505 a0 0 ((gI w 505 a0 0) + 1))) : Option (FW)).bind (fun x2 => (fLoop (σ := Int32 × FW) (ρ := FW) (fun s6 => (if 177 ≤ s6.1 then some (.inr s6.2) else fg (w.1 (gR s6.2 502 a0 0) = 11) inferInstance (fg (¬ (s6.1 < 0 ∨ w.2.1 (gR s6.2 502 a0 0) ≤ Int32.toNatClampNeg s6.1)) inferInstance (fg (w.1 (gR s6.2 504 a0 0) = 11) inferInstance (fg (¬ (((177 * ((gI s6.2 505 a0 0) - 1)) + s6.1) < 0 ∨ w.2.1 (gR s6.2 504 a0 0) ≤ Int32.toNatClampNeg ((177 * ((gI s6.2 505 a0 0) - 1)) + s6.1))) inferInstance (some (.inl ((s6.1 + 1), (sI s6.2 601 (gR s6.2 504 a0 0) (Int32.toNatClampNeg ((177 * ((gI s6.2 505 a0 0) - 1)) + s6.1)) (gI s6.2 601 (gR s6.2 502 a0 0) (Int32.toNatClampNeg s6.1))))))))))) (0, x2)).bind (fun x12 => some (x1, x12))))
set_option maxHeartbeats 4000000 in
set_option maxRecDepth 100000 in
theorem c_X5_changed (l : Launch) (D : va_G) (cy : Nat → ClassId) (a0 : Nat) (x1 : Int32) (w : FW) (r : Int32 × FW) (hF : F_X5_changed a0 x1 w = some r) : fSpec l D cy yX5_changed cX5_changed 3 (some .int) { frames := 0, cells := 0, slots := 0, locals := 0 } [.ref a0, .int x1] w r.2 (some (.int r.1)) := by
  refine f_begin (by decide +kernel) (Nat.le_of_ble_eq_true rfl) (fun X hC hEn => ?_)
  unfold F_X5_changed at hF
  show fAt X 0 0 3 w [(0, .ref a0), (1, .int x1)] [] 0
  refine f_aload_n hC dX5_changed_0 rfl 0 rfl ?_
  obtain ⟨g1, hF⟩ := fg_open hF
  refine f_getI hC 5 5 505 rfl (by decide) iX5 q_1259 rfl rfl (fSm.k (fSm.rf w) g1) dX5_changed_1 ?_
  refine f_bipush (v := 8) hC dX5_changed_4 (by decide) ?_
  obtain ⟨x2, h3, hF⟩ := fb_open hF
  have K5 : fSm x2 w → fAt X 0 0 3 x2 [(0, .ref a0), (1, .int x1)] [] 53 := by
    intro p4
    refine f_iconst (v := 0) hC dX5_changed_53 (by decide) ?_
    refine f_istore_n (L' := [(2, .int 0), (0, .ref a0), (1, .int x1)]) hC dX5_changed_54 rfl (by decide) rfl ?_
    obtain ⟨x12, h13, hF⟩ := fb_open hF
    have K14 : fSm x12 w → fAt X 0 0 3 x12 [(1, .int x1)] [] 91 := by
      intro p10
      refine f_iload_n hC dX5_changed_91 rfl 0 rfl ?_
      obtain rfl := Option.some.inj hF
      exact f_iret hC hEn p10 dX5_changed_92
    refine f_sub (L' := [(0, .ref a0), (1, .int x1), (2, .int 0)]) [1, 2, 0] rfl ?_
    refine fLoop_ind (fun (s6 : Int32 × FW) => fSm s6.2 w → fAt X 0 0 3 s6.2 [(0, .ref a0), (1, .int x1), (2, .int s6.1)] [] 55) (fun s6 y11 h7 go8 ou9 => ?_) h13 p4
    intro p10
    refine f_iload_n hC dX5_changed_55 rfl 2 rfl ?_
    refine f_sipush (v := 177) hC dX5_changed_56 (by decide) ?_
    refine f_icmp_ge hC 91 dX5_changed_59 (by decide) (fun c15 => ?_) (fun c15 => ?_)
    · replace h7 := fi_pos h7 c15
      obtain rfl := Option.some.inj h7
      obtain rfl := ou9 _ rfl
      refine f_sub (L' := [(1, .int x1)]) [1] rfl ?_
      exact K14 p10
    · replace h7 := fi_neg h7 c15
      refine f_aload_n hC dX5_changed_62 rfl 0 rfl ?_
      refine f_getR hC 5 4 504 rfl (by decide) iX5 q_1258 rfl rfl (fSm.k p10 g1) dX5_changed_63 ?_
      refine f_sipush (v := 177) hC dX5_changed_66 (by decide) ?_
      refine f_aload_n hC dX5_changed_69 rfl 0 rfl ?_
      refine f_getI hC 5 5 505 rfl (by decide) iX5 q_1259 rfl rfl (fSm.k p10 g1) dX5_changed_70 ?_
      refine f_iconst (v := 1) hC dX5_changed_73 (by decide) ?_
      refine f_isub hC dX5_changed_74 ?_
      refine f_imul hC dX5_changed_75 ?_
      refine f_iload_n hC dX5_changed_76 rfl 2 rfl ?_
      refine f_iadd hC dX5_changed_77 ?_
      refine f_aload_n hC dX5_changed_78 rfl 0 rfl ?_
      refine f_getR hC 5 2 502 rfl (by decide) iX5 q_1256 rfl rfl (fSm.k p10 g1) dX5_changed_79 ?_
      refine f_iload_n hC dX5_changed_82 rfl 2 rfl ?_
      obtain ⟨g16, h7⟩ := fg_open h7
      obtain ⟨g17, h7⟩ := fg_open h7
      refine f_iald hC (fSm.k p10 g16) (fSm.v p10 g17) dX5_changed_83 ?_
      obtain ⟨g18, h7⟩ := fg_open h7
      obtain ⟨g19, h7⟩ := fg_open h7
      refine f_iast hC (fSm.k p10 g18) (fSm.v p10 g19) dX5_changed_84 ?_
      refine f_iinc (L' := [(2, .int (s6.1 + 1)), (0, .ref a0), (1, .int x1)]) hC dX5_changed_85 2 rfl rfl (by decide) rfl ?_
      refine f_goto hC 55 dX5_changed_88 (by decide) ?_
      obtain rfl := Option.some.inj h7
      refine f_sub (L' := [(0, .ref a0), (1, .int x1), (2, .int (s6.1 + 1))]) [1, 2, 0] rfl ?_
      exact go8 _ rfl p10
  refine f_icmp_ne hC 43 dX5_changed_6 (by decide) (fun c20 => ?_) (fun c20 => ?_)
  · replace h3 := fi_neg h3 c20
    refine f_aload_n hC dX5_changed_43 rfl 0 rfl ?_
    refine f_dup hC dX5_changed_44 rfl ?_
    refine f_getI hC 5 5 505 rfl (by decide) iX5 q_1259 rfl rfl (fSm.k (fSm.rf w) g1) dX5_changed_45 ?_
    refine f_iconst (v := 1) hC dX5_changed_48 (by decide) ?_
    refine f_iadd hC dX5_changed_49 ?_
    refine f_putI hC 5 5 505 rfl (by decide) iX5 tyX5 tyX5_ok nmX5 q_1259 rfl rfl rfl rfl rfl (fSm.k (fSm.rf w) g1) dX5_changed_50 ?_
    obtain rfl := Option.some.inj h3
    exact K5 (fSm.rf w)
  · replace h3 := fi_pos h3 c20
    refine f_iconst (v := 0) hC dX5_changed_9 (by decide) ?_
    refine f_istore_n (L' := [(2, .int 0), (0, .ref a0), (1, .int x1)]) hC dX5_changed_10 rfl (by decide) rfl ?_
    obtain ⟨x27, h28, h3⟩ := fb_open h3
    have K29 : fSm x27 w → fAt X 0 0 3 x27 [(0, .ref a0), (1, .int x1)] [] 40 := by
      intro p25
      refine f_goto hC 53 dX5_changed_40 (by decide) ?_
      obtain rfl := Option.some.inj h3
      exact K5 p25
    refine f_sub (L' := [(0, .ref a0), (1, .int x1), (2, .int 0)]) [1, 2, 0] rfl ?_
    refine fLoop_ind (fun (s21 : Int32 × FW) => fSm s21.2 w → fAt X 0 0 3 s21.2 [(0, .ref a0), (1, .int x1), (2, .int s21.1)] [] 11) (fun s21 y26 h22 go23 ou24 => ?_) h28 (fSm.rf w)
    intro p25
    refine f_iload_n hC dX5_changed_11 rfl 2 rfl ?_
    refine f_sipush (v := 1239) hC dX5_changed_12 (by decide) ?_
    refine f_icmp_ge hC 40 dX5_changed_15 (by decide) (fun c30 => ?_) (fun c30 => ?_)
    · replace h22 := fi_pos h22 c30
      obtain rfl := Option.some.inj h22
      obtain rfl := ou24 _ rfl
      refine f_sub (L' := [(0, .ref a0), (1, .int x1)]) [0, 1] rfl ?_
      exact K29 p25
    · replace h22 := fi_neg h22 c30
      refine f_aload_n hC dX5_changed_18 rfl 0 rfl ?_
      refine f_getR hC 5 4 504 rfl (by decide) iX5 q_1258 rfl rfl (fSm.k p25 g1) dX5_changed_19 ?_
      refine f_iload_n hC dX5_changed_22 rfl 2 rfl ?_
      refine f_aload_n hC dX5_changed_23 rfl 0 rfl ?_
      refine f_getR hC 5 4 504 rfl (by decide) iX5 q_1258 rfl rfl (fSm.k p25 g1) dX5_changed_24 ?_
      refine f_iload_n hC dX5_changed_27 rfl 2 rfl ?_
      refine f_sipush (v := 177) hC dX5_changed_28 (by decide) ?_
      refine f_iadd hC dX5_changed_31 ?_
      obtain ⟨g31, h22⟩ := fg_open h22
      obtain ⟨g32, h22⟩ := fg_open h22
      refine f_iald hC (fSm.k p25 g31) (fSm.v p25 g32) dX5_changed_32 ?_
      obtain ⟨g33, h22⟩ := fg_open h22
      refine f_iast hC (fSm.k p25 g31) (fSm.v p25 g33) dX5_changed_33 ?_
      refine f_iinc (L' := [(2, .int (s21.1 + 1)), (0, .ref a0), (1, .int x1)]) hC dX5_changed_34 2 rfl rfl (by decide) rfl ?_
      refine f_goto hC 11 dX5_changed_37 (by decide) ?_
      obtain rfl := Option.some.inj h22
      refine f_sub (L' := [(0, .ref a0), (1, .int x1), (2, .int (s21.1 + 1))]) [1, 2, 0] rfl ?_
      exact go23 _ rfl p25
theorem dX5_refused_0 : decode cX5_refused 0 = .ok (.aload_n 0, 1) := by decide +kernel
theorem dX5_refused_1 : decode cX5_refused 1 = .ok (.iload_n 2, 1) := by decide +kernel
theorem dX5_refused_2 : decode cX5_refused 2 = .ok (.putfield 47, 3) := by decide +kernel
theorem dX5_refused_5 : decode cX5_refused 5 = .ok (.iload_n 1, 1) := by decide +kernel
theorem dX5_refused_6 : decode cX5_refused 6 = .ok (.ireturn, 1) := by decide +kernel
theorem h9_X5_refused : yX5_refused.cls ≠ "java/lang/invoke/MethodHandle" ∧ yX5_refused.cls ≠ "java/lang/invoke/VarHandle" ∧ (parseMethodDescriptor yX5_refused.desc).map (fun d => d.parameters.length) = some 2 := by decide +kernel
noncomputable def F_X5_refused (a0 : Nat) (x1 : Int32) (x2 : Int32) (w : FW) : Option (Int32 × FW) :=
  fg (w.1 a0 = 6) inferInstance (some (x1, (sI w 517 a0 0 x2)))
set_option maxHeartbeats 4000000 in
set_option maxRecDepth 100000 in
theorem c_X5_refused (l : Launch) (D : va_G) (cy : Nat → ClassId) (a0 : Nat) (x1 : Int32) (x2 : Int32) (w : FW) (r : Int32 × FW) (hF : F_X5_refused a0 x1 x2 w = some r) : fSpec l D cy yX5_refused cX5_refused 3 (some .int) { frames := 0, cells := 0, slots := 0, locals := 0 } [.ref a0, .int x1, .int x2] w r.2 (some (.int r.1)) := by
  refine f_begin (by decide +kernel) (Nat.le_of_ble_eq_true rfl) (fun X hC hEn => ?_)
  unfold F_X5_refused at hF
  show fAt X 0 0 3 w [(0, .ref a0), (1, .int x1), (2, .int x2)] [] 0
  refine f_aload_n hC dX5_refused_0 rfl 0 rfl ?_
  refine f_iload_n hC dX5_refused_1 rfl 2 rfl ?_
  obtain ⟨g1, hF⟩ := fg_open hF
  refine f_putI hC 5 17 517 rfl (by decide) iX5 tyX5 tyX5_ok nmX5 q_1271 rfl rfl rfl rfl rfl (fSm.k (fSm.rf w) g1) dX5_refused_2 ?_
  refine f_iload_n hC dX5_refused_5 rfl 1 rfl ?_
  obtain rfl := Option.some.inj hF
  exact f_iret hC hEn (fSm.rf w) dX5_refused_6
theorem dX5_done_0 : decode cX5_done 0 = .ok (.aload_n 0, 1) := by decide +kernel
theorem dX5_done_1 : decode cX5_done 1 = .ok (.iload_n 1, 1) := by decide +kernel
theorem dX5_done_2 : decode cX5_done 2 = .ok (.putfield 50, 3) := by decide +kernel
theorem dX5_done_5 : decode cX5_done 5 = .ok (.iconst 0, 1) := by decide +kernel
theorem dX5_done_6 : decode cX5_done 6 = .ok (.ireturn, 1) := by decide +kernel
theorem h9_X5_done : yX5_done.cls ≠ "java/lang/invoke/MethodHandle" ∧ yX5_done.cls ≠ "java/lang/invoke/VarHandle" ∧ (parseMethodDescriptor yX5_done.desc).map (fun d => d.parameters.length) = some 1 := by decide +kernel
noncomputable def F_X5_done (a0 : Nat) (x1 : Int32) (w : FW) : Option (Int32 × FW) :=
  fg (w.1 a0 = 6) inferInstance (some (0, (sI w 518 a0 0 x1)))
set_option maxHeartbeats 4000000 in
set_option maxRecDepth 100000 in
theorem c_X5_done (l : Launch) (D : va_G) (cy : Nat → ClassId) (a0 : Nat) (x1 : Int32) (w : FW) (r : Int32 × FW) (hF : F_X5_done a0 x1 w = some r) : fSpec l D cy yX5_done cX5_done 2 (some .int) { frames := 0, cells := 0, slots := 0, locals := 0 } [.ref a0, .int x1] w r.2 (some (.int r.1)) := by
  refine f_begin (by decide +kernel) (Nat.le_of_ble_eq_true rfl) (fun X hC hEn => ?_)
  unfold F_X5_done at hF
  show fAt X 0 0 2 w [(0, .ref a0), (1, .int x1)] [] 0
  refine f_aload_n hC dX5_done_0 rfl 0 rfl ?_
  refine f_iload_n hC dX5_done_1 rfl 1 rfl ?_
  obtain ⟨g1, hF⟩ := fg_open hF
  refine f_putI hC 5 18 518 rfl (by decide) iX5 tyX5 tyX5_ok nmX5 q_1272 rfl rfl rfl rfl rfl (fSm.k (fSm.rf w) g1) dX5_done_2 ?_
  refine f_iconst (v := 0) hC dX5_done_5 (by decide) ?_
  obtain rfl := Option.some.inj hF
  exact f_iret hC hEn (fSm.rf w) dX5_done_6
theorem dX5_ends_0 : decode cX5_ends 0 = .ok (.iload_n 1, 1) := by decide +kernel
theorem dX5_ends_1 : decode cX5_ends 1 = .ok (.ifCond .ne 12, 3) := by decide +kernel
theorem dX5_ends_4 : decode cX5_ends 4 = .ok (.aload_n 0, 1) := by decide +kernel
theorem dX5_ends_5 : decode cX5_ends 5 = .ok (.aload_n 0, 1) := by decide +kernel
theorem dX5_ends_6 : decode cX5_ends 6 = .ok (.getfield 50, 3) := by decide +kernel
theorem dX5_ends_9 : decode cX5_ends 9 = .ok (.invokevirtual 53, 3) := by decide +kernel
theorem dX5_ends_12 : decode cX5_ends 12 = .ok (.ireturn, 1) := by decide +kernel
theorem dX5_ends_13 : decode cX5_ends 13 = .ok (.iload_n 1, 1) := by decide +kernel
theorem dX5_ends_14 : decode cX5_ends 14 = .ok (.ifCond .ge 10, 3) := by decide +kernel
theorem dX5_ends_17 : decode cX5_ends 17 = .ok (.aload_n 0, 1) := by decide +kernel
theorem dX5_ends_18 : decode cX5_ends 18 = .ok (.iload_n 1, 1) := by decide +kernel
theorem dX5_ends_19 : decode cX5_ends 19 = .ok (.ineg, 1) := by decide +kernel
theorem dX5_ends_20 : decode cX5_ends 20 = .ok (.invokevirtual 57, 3) := by decide +kernel
theorem dX5_ends_23 : decode cX5_ends 23 = .ok (.ireturn, 1) := by decide +kernel
theorem dX5_ends_24 : decode cX5_ends 24 = .ok (.aload_n 0, 1) := by decide +kernel
theorem dX5_ends_25 : decode cX5_ends 25 = .ok (.iload_n 1, 1) := by decide +kernel
theorem dX5_ends_26 : decode cX5_ends 26 = .ok (.putfield 60, 3) := by decide +kernel
theorem dX5_ends_29 : decode cX5_ends 29 = .ok (.aload_n 0, 1) := by decide +kernel
theorem dX5_ends_30 : decode cX5_ends 30 = .ok (.aload_n 0, 1) := by decide +kernel
theorem dX5_ends_31 : decode cX5_ends 31 = .ok (.getfield 47, 3) := by decide +kernel
theorem dX5_ends_34 : decode cX5_ends 34 = .ok (.putfield 63, 3) := by decide +kernel
theorem dX5_ends_37 : decode cX5_ends 37 = .ok (.aload_n 0, 1) := by decide +kernel
theorem dX5_ends_38 : decode cX5_ends 38 = .ok (.iload_n 2, 1) := by decide +kernel
theorem dX5_ends_39 : decode cX5_ends 39 = .ok (.invokevirtual 57, 3) := by decide +kernel
theorem dX5_ends_42 : decode cX5_ends 42 = .ok (.ireturn, 1) := by decide +kernel
theorem h9_X5_ends : yX5_ends.cls ≠ "java/lang/invoke/MethodHandle" ∧ yX5_ends.cls ≠ "java/lang/invoke/VarHandle" ∧ (parseMethodDescriptor yX5_ends.desc).map (fun d => d.parameters.length) = some 2 := by decide +kernel
noncomputable def F_X5_ends (a0 : Nat) (x1 : Int32) (x2 : Int32) (w : FW) : Option (Int32 × FW) :=
  (if x1 = 0 then fg (w.1 a0 = 6) inferInstance ((F_X5_changed a0 (gI w 518 a0 0) w).bind (fun r12 => some (r12.1, r12.2))) else (if 0 ≤ x1 then fg (w.1 a0 = 6) inferInstance ((F_X5_fails a0 x2 (sI (sI w 515 a0 0 x1) 516 a0 0 (gI (sI w 515 a0 0 x1) 517 a0 0))).bind (fun r4 => some (r4.1, r4.2))) else fg (w.1 a0 = 6) inferInstance ((F_X5_fails a0 (-x1) w).bind (fun r7 => some (r7.1, r7.2)))))
set_option maxHeartbeats 4000000 in
set_option maxRecDepth 100000 in
theorem c_X5_ends (l : Launch) (D : va_G) (cy : Nat → ClassId) (a0 : Nat) (x1 : Int32) (x2 : Int32) (w : FW) (r : Int32 × FW) (hF : F_X5_ends a0 x1 x2 w = some r) : fSpec l D cy yX5_ends cX5_ends 3 (some .int) { frames := 1, cells := 0, slots := 0, locals := 22 } [.ref a0, .int x1, .int x2] w r.2 (some (.int r.1)) := by
  refine f_begin (by decide +kernel) (Nat.le_of_ble_eq_true rfl) (fun X hC hEn => ?_)
  unfold F_X5_ends at hF
  show fAt X 0 0 3 w [(0, .ref a0), (1, .int x1), (2, .int x2)] [] 0
  refine f_iload_n hC dX5_ends_0 rfl 1 rfl ?_
  refine f_if_ne hC 13 dX5_ends_1 (by decide) (fun c1 => ?_) (fun c1 => ?_)
  · replace hF := fi_neg hF c1
    refine f_iload_n hC dX5_ends_13 rfl 1 rfl ?_
    refine f_if_ge hC 24 dX5_ends_14 (by decide) (fun c2 => ?_) (fun c2 => ?_)
    · replace hF := fi_pos hF c2
      refine f_aload_n hC dX5_ends_24 rfl 0 rfl ?_
      refine f_iload_n hC dX5_ends_25 rfl 1 rfl ?_
      obtain ⟨g3, hF⟩ := fg_open hF
      refine f_putI hC 5 15 515 rfl (by decide) iX5 tyX5 tyX5_ok nmX5 q_1269 rfl rfl rfl rfl rfl (fSm.k (fSm.rf w) g3) dX5_ends_26 ?_
      refine f_aload_n hC dX5_ends_29 rfl 0 rfl ?_
      refine f_aload_n hC dX5_ends_30 rfl 0 rfl ?_
      refine f_getI hC 5 17 517 rfl (by decide) iX5 q_1271 rfl rfl (fSm.k (fSm.rf w) g3) dX5_ends_31 ?_
      refine f_putI hC 5 16 516 rfl (by decide) iX5 tyX5 tyX5_ok nmX5 q_1270 rfl rfl rfl rfl rfl (fSm.k (fSm.rf w) g3) dX5_ends_34 ?_
      refine f_aload_n hC dX5_ends_37 rfl 0 rfl ?_
      refine f_iload_n hC dX5_ends_38 rfl 2 rfl ?_
      obtain ⟨r4, h5, hF⟩ := fb_open hF
      refine f_callV hC [.int x2] (c_X5_fails l D cy a0 x2 (sI (sI w 515 a0 0 x1) 516 a0 0 (gI (sI w 515 a0 0 x1) 517 a0 0)) r4 h5) q_1375 q_136 q_1372 q_1374 q_78 h9_X5_fails rfl (fSm.k (fSm.rf w) g3) ⟨Nat.le_of_ble_eq_true rfl, Nat.le_of_ble_eq_true rfl⟩ ⟨Nat.le_of_ble_eq_true rfl, Nat.le_of_ble_eq_true rfl⟩ (Nat.le_of_ble_eq_true rfl) rfl dX5_ends_39 (fun e6 => ?_)
      obtain rfl := Option.some.inj hF
      exact f_iret hC hEn (fSm.tr e6 (fSm.rf w)) dX5_ends_42
    · replace hF := fi_neg hF c2
      refine f_aload_n hC dX5_ends_17 rfl 0 rfl ?_
      refine f_iload_n hC dX5_ends_18 rfl 1 rfl ?_
      refine f_ineg hC dX5_ends_19 ?_
      obtain ⟨g9, hF⟩ := fg_open hF
      obtain ⟨r7, h8, hF⟩ := fb_open hF
      refine f_callV hC [.int (-x1)] (c_X5_fails l D cy a0 (-x1) w r7 h8) q_1375 q_136 q_1372 q_1374 q_78 h9_X5_fails rfl (fSm.k (fSm.rf w) g9) ⟨Nat.le_of_ble_eq_true rfl, Nat.le_of_ble_eq_true rfl⟩ ⟨Nat.le_of_ble_eq_true rfl, Nat.le_of_ble_eq_true rfl⟩ (Nat.le_of_ble_eq_true rfl) rfl dX5_ends_20 (fun e10 => ?_)
      obtain rfl := Option.some.inj hF
      exact f_iret hC hEn (fSm.tr e10 (fSm.rf w)) dX5_ends_23
  · replace hF := fi_pos hF c1
    refine f_aload_n hC dX5_ends_4 rfl 0 rfl ?_
    refine f_aload_n hC dX5_ends_5 rfl 0 rfl ?_
    obtain ⟨g11, hF⟩ := fg_open hF
    refine f_getI hC 5 18 518 rfl (by decide) iX5 q_1272 rfl rfl (fSm.k (fSm.rf w) g11) dX5_ends_6 ?_
    obtain ⟨r12, h13, hF⟩ := fb_open hF
    refine f_callV hC [.int (gI w 518 a0 0)] (c_X5_changed l D cy a0 (gI w 518 a0 0) w r12 h13) q_1371 q_136 q_1368 q_1370 q_77 h9_X5_changed rfl (fSm.k (fSm.rf w) g11) ⟨Nat.le_of_ble_eq_true rfl, Nat.le_of_ble_eq_true rfl⟩ ⟨Nat.le_of_ble_eq_true rfl, Nat.le_of_ble_eq_true rfl⟩ (Nat.le_of_ble_eq_true rfl) rfl dX5_ends_9 (fun e14 => ?_)
    obtain rfl := Option.some.inj hF
    exact f_iret hC hEn (fSm.tr e14 (fSm.rf w)) dX5_ends_12
theorem dX5_isTicket_0 : decode cX5_isTicket 0 = .ok (.iload_n 1, 1) := by decide +kernel
theorem dX5_isTicket_1 : decode cX5_isTicket 1 = .ok (.iconst 0, 1) := by decide +kernel
theorem dX5_isTicket_2 : decode cX5_isTicket 2 = .ok (.aload_n 0, 1) := by decide +kernel
theorem dX5_isTicket_3 : decode cX5_isTicket 3 = .ok (.getfield 7, 3) := by decide +kernel
theorem dX5_isTicket_6 : decode cX5_isTicket 6 = .ok (.iconst 0, 1) := by decide +kernel
theorem dX5_isTicket_7 : decode cX5_isTicket 7 = .ok (.iaload, 1) := by decide +kernel
theorem dX5_isTicket_8 : decode cX5_isTicket 8 = .ok (.iconst 1, 1) := by decide +kernel
theorem dX5_isTicket_9 : decode cX5_isTicket 9 = .ok (.isub, 1) := by decide +kernel
theorem dX5_isTicket_10 : decode cX5_isTicket 10 = .ok (.invokestatic 66, 3) := by decide +kernel
theorem dX5_isTicket_13 : decode cX5_isTicket 13 = .ok (.ireturn, 1) := by decide +kernel
theorem h9_X5_isTicket : yX5_isTicket.cls ≠ "java/lang/invoke/MethodHandle" ∧ yX5_isTicket.cls ≠ "java/lang/invoke/VarHandle" ∧ (parseMethodDescriptor yX5_isTicket.desc).map (fun d => d.parameters.length) = some 1 := by decide +kernel
noncomputable def F_X5_isTicket (a0 : Nat) (x1 : Int32) (w : FW) : Option (Int32) :=
  fg (w.1 a0 = 6) inferInstance (fg (w.1 (gR w 501 a0 0) = 11) inferInstance (fg (¬ (0 < 0 ∨ w.2.1 (gR w 501 a0 0) ≤ Int32.toNatClampNeg 0)) inferInstance ((F_X5_in x1 0 ((gI w 601 (gR w 501 a0 0) (Int32.toNatClampNeg 0)) - 1) w).bind (fun r4 => fg (r4 = 0 ∨ r4 = 1) inferInstance (some r4)))))
set_option maxHeartbeats 4000000 in
set_option maxRecDepth 100000 in
theorem c_X5_isTicket (l : Launch) (D : va_G) (cy : Nat → ClassId) (a0 : Nat) (x1 : Int32) (w : FW) (r : Int32) (hF : F_X5_isTicket a0 x1 w = some r) : fSpec l D cy yX5_isTicket cX5_isTicket 2 (some .boolean) { frames := 1, cells := 0, slots := 0, locals := 22 } [.ref a0, .int x1] w w (some (.int r)) := by
  refine f_begin (by decide +kernel) (Nat.le_of_ble_eq_true rfl) (fun X hC hEn => ?_)
  unfold F_X5_isTicket at hF
  show fAt X 0 0 2 w [(0, .ref a0), (1, .int x1)] [] 0
  refine f_iload_n hC dX5_isTicket_0 rfl 1 rfl ?_
  refine f_iconst (v := 0) hC dX5_isTicket_1 (by decide) ?_
  refine f_aload_n hC dX5_isTicket_2 rfl 0 rfl ?_
  obtain ⟨g1, hF⟩ := fg_open hF
  refine f_getR hC 5 1 501 rfl (by decide) iX5 q_1255 rfl rfl (fSm.k (fSm.rf w) g1) dX5_isTicket_3 ?_
  refine f_iconst (v := 0) hC dX5_isTicket_6 (by decide) ?_
  obtain ⟨g2, hF⟩ := fg_open hF
  obtain ⟨g3, hF⟩ := fg_open hF
  refine f_iald hC (fSm.k (fSm.rf w) g2) (fSm.v (fSm.rf w) g3) dX5_isTicket_7 ?_
  refine f_iconst (v := 1) hC dX5_isTicket_8 (by decide) ?_
  refine f_isub hC dX5_isTicket_9 ?_
  obtain ⟨r4, h5, hF⟩ := fb_open hF
  refine f_callS hC [.int x1, .int 0, .int ((gI w 601 (gR w 501 a0 0) (Int32.toNatClampNeg 0)) - 1)] (c_X5_in l D cy x1 0 ((gI w 601 (gR w 501 a0 0) (Int32.toNatClampNeg 0)) - 1) w r4 h5) q_1352 q_136 q_1350 q_1351 h9_X5_in ⟨Nat.le_of_ble_eq_true rfl, Nat.le_of_ble_eq_true rfl⟩ ⟨Nat.le_of_ble_eq_true rfl, Nat.le_of_ble_eq_true rfl⟩ (Nat.le_of_ble_eq_true rfl) rfl dX5_isTicket_10 (fun e6 => ?_)
  obtain ⟨g7, hF⟩ := fg_open hF
  obtain rfl := Option.some.inj hF
  exact f_zret hC hEn (fSm.rf w) (nar_z g7) dX5_isTicket_13
