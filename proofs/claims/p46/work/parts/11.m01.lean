theorem dX0_start_0 : decode cX0_start 0 = .ok (.aload_n 0, 1) := by decide +kernel
theorem dX0_start_1 : decode cX0_start 1 = .ok (.iconst 0, 1) := by decide +kernel
theorem dX0_start_2 : decode cX0_start 2 = .ok (.putfield 9, 3) := by decide +kernel
theorem dX0_start_5 : decode cX0_start 5 = .ok (.aload_n 0, 1) := by decide +kernel
theorem dX0_start_6 : decode cX0_start 6 = .ok (.iconst (-1), 1) := by decide +kernel
theorem dX0_start_7 : decode cX0_start 7 = .ok (.putfield 15, 3) := by decide +kernel
theorem dX0_start_10 : decode cX0_start 10 = .ok (.aload_n 0, 1) := by decide +kernel
theorem dX0_start_11 : decode cX0_start 11 = .ok (.iconst 0, 1) := by decide +kernel
theorem dX0_start_12 : decode cX0_start 12 = .ok (.putfield 19, 3) := by decide +kernel
theorem dX0_start_15 : decode cX0_start 15 = .ok (.aload_n 0, 1) := by decide +kernel
theorem dX0_start_16 : decode cX0_start 16 = .ok (.iconst 0, 1) := by decide +kernel
theorem dX0_start_17 : decode cX0_start 17 = .ok (.putfield 22, 3) := by decide +kernel
theorem dX0_start_20 : decode cX0_start 20 = .ok (.aload_n 0, 1) := by decide +kernel
theorem dX0_start_21 : decode cX0_start 21 = .ok (.iconst 0, 1) := by decide +kernel
theorem dX0_start_22 : decode cX0_start 22 = .ok (.putfield 25, 3) := by decide +kernel
theorem dX0_start_25 : decode cX0_start 25 = .ok (.return_, 1) := by decide +kernel
theorem h9_X0_start : yX0_start.cls ≠ "java/lang/invoke/MethodHandle" ∧ yX0_start.cls ≠ "java/lang/invoke/VarHandle" ∧ (parseMethodDescriptor yX0_start.desc).map (fun d => d.parameters.length) = some 0 := by decide +kernel
noncomputable def F_X0_start (a0 : Nat) (w : FW) : Option (FW) :=
  fg (w.1 a0 = 1) inferInstance (some (sI (sI (sI (sI (sI w 0 a0 0 0) 1 a0 0 (-1)) 2 a0 0 0) 3 a0 0 0) 4 a0 0 0))
set_option maxHeartbeats 4000000 in
set_option maxRecDepth 100000 in
theorem c_X0_start (l : Launch) (D : va_G) (cy : Nat → ClassId) (a0 : Nat) (w : FW) (r : FW) (hF : F_X0_start a0 w = some r) : fSpec l D cy yX0_start cX0_start 1 none { frames := 0, cells := 0, slots := 0, locals := 0 } [.ref a0] w r none := by
  refine f_begin (by decide +kernel) (Nat.le_of_ble_eq_true rfl) (fun X hC hEn => ?_)
  unfold F_X0_start at hF
  show fAt X 0 0 1 w [(0, .ref a0)] [] 0
  refine f_aload_n hC dX0_start_0 rfl 0 rfl ?_
  refine f_iconst (v := 0) hC dX0_start_1 (by decide) ?_
  obtain ⟨g1, hF⟩ := fg_open hF
  refine f_putI hC 0 0 0 rfl (by decide) iX0 tyX0 tyX0_ok nmX0 q_146 rfl rfl rfl (nar_z (by decide)) (fit_z (by decide)) (fSm.k (fSm.rf w) g1) dX0_start_2 ?_
  refine f_aload_n hC dX0_start_5 rfl 0 rfl ?_
  refine f_iconst (v := (-1)) hC dX0_start_6 (by decide) ?_
  refine f_putI hC 0 1 1 rfl (by decide) iX0 tyX0 tyX0_ok nmX0 q_150 rfl rfl rfl rfl rfl (fSm.k (fSm.rf w) g1) dX0_start_7 ?_
  refine f_aload_n hC dX0_start_10 rfl 0 rfl ?_
  refine f_iconst (v := 0) hC dX0_start_11 (by decide) ?_
  refine f_putI hC 0 2 2 rfl (by decide) iX0 tyX0 tyX0_ok nmX0 q_153 rfl rfl rfl rfl rfl (fSm.k (fSm.rf w) g1) dX0_start_12 ?_
  refine f_aload_n hC dX0_start_15 rfl 0 rfl ?_
  refine f_iconst (v := 0) hC dX0_start_16 (by decide) ?_
  refine f_putI hC 0 3 3 rfl (by decide) iX0 tyX0 tyX0_ok nmX0 q_156 rfl rfl rfl (nar_z (by decide)) (fit_z (by decide)) (fSm.k (fSm.rf w) g1) dX0_start_17 ?_
  refine f_aload_n hC dX0_start_20 rfl 0 rfl ?_
  refine f_iconst (v := 0) hC dX0_start_21 (by decide) ?_
  refine f_putI hC 0 4 4 rfl (by decide) iX0 tyX0 tyX0_ok nmX0 q_159 rfl rfl rfl (nar_z (by decide)) (fit_z (by decide)) (fSm.k (fSm.rf w) g1) dX0_start_22 ?_
  obtain rfl := Option.some.inj hF
  exact f_vret hC hEn (fSm.rf w) dX0_start_25
theorem dX2_start_0 : decode cX2_start 0 = .ok (.aload_n 0, 1) := by decide +kernel
theorem dX2_start_1 : decode cX2_start 1 = .ok (.getfield 12, 3) := by decide +kernel
theorem dX2_start_4 : decode cX2_start 4 = .ok (.aload_n 1, 1) := by decide +kernel
theorem dX2_start_5 : decode cX2_start 5 = .ok (.invokevirtual 45, 3) := by decide +kernel
theorem dX2_start_8 : decode cX2_start 8 = .ok (.aload_n 0, 1) := by decide +kernel
theorem dX2_start_9 : decode cX2_start 9 = .ok (.iload_n 2, 1) := by decide +kernel
theorem dX2_start_10 : decode cX2_start 10 = .ok (.putfield 18, 3) := by decide +kernel
theorem dX2_start_13 : decode cX2_start 13 = .ok (.aload_n 0, 1) := by decide +kernel
theorem dX2_start_14 : decode cX2_start 14 = .ok (.iload_n 3, 1) := by decide +kernel
theorem dX2_start_15 : decode cX2_start 15 = .ok (.putfield 22, 3) := by decide +kernel
theorem dX2_start_18 : decode cX2_start 18 = .ok (.aload_n 0, 1) := by decide +kernel
theorem dX2_start_19 : decode cX2_start 19 = .ok (.iload 4, 2) := by decide +kernel
theorem dX2_start_21 : decode cX2_start 21 = .ok (.putfield 25, 3) := by decide +kernel
theorem dX2_start_24 : decode cX2_start 24 = .ok (.aload_n 0, 1) := by decide +kernel
theorem dX2_start_25 : decode cX2_start 25 = .ok (.iconst 0, 1) := by decide +kernel
theorem dX2_start_26 : decode cX2_start 26 = .ok (.putfield 28, 3) := by decide +kernel
theorem dX2_start_29 : decode cX2_start 29 = .ok (.aload_n 0, 1) := by decide +kernel
theorem dX2_start_30 : decode cX2_start 30 = .ok (.iconst (-1), 1) := by decide +kernel
theorem dX2_start_31 : decode cX2_start 31 = .ok (.putfield 32, 3) := by decide +kernel
theorem dX2_start_34 : decode cX2_start 34 = .ok (.aload_n 0, 1) := by decide +kernel
theorem dX2_start_35 : decode cX2_start 35 = .ok (.getfield 38, 3) := by decide +kernel
theorem dX2_start_38 : decode cX2_start 38 = .ok (.invokevirtual 49, 3) := by decide +kernel
theorem dX2_start_41 : decode cX2_start 41 = .ok (.aload_n 0, 1) := by decide +kernel
theorem dX2_start_42 : decode cX2_start 42 = .ok (.getfield 42, 3) := by decide +kernel
theorem dX2_start_45 : decode cX2_start 45 = .ok (.invokevirtual 49, 3) := by decide +kernel
theorem dX2_start_48 : decode cX2_start 48 = .ok (.return_, 1) := by decide +kernel
theorem h9_X2_start : yX2_start.cls ≠ "java/lang/invoke/MethodHandle" ∧ yX2_start.cls ≠ "java/lang/invoke/VarHandle" ∧ (parseMethodDescriptor yX2_start.desc).map (fun d => d.parameters.length) = some 4 := by decide +kernel
noncomputable def F_X2_start (a0 : Nat) (a1 : Nat) (x2 : Int32) (x3 : Int32) (x4 : Int32) (w : FW) : Option (FW) :=
  fg (w.1 a0 = 3) inferInstance (fg (w.1 (gR w 200 a0 0) = 4) inferInstance ((F_X3_take (gR w 200 a0 0) a1 w).bind (fun r2 => fg (w.1 (gR r2 206 a0 0) = 1) inferInstance ((F_X0_start (gR (sI (sI (sI (sI (sI r2 201 a0 0 x2) 202 a0 0 x3) 203 a0 0 x4) 204 a0 0 0) 205 a0 0 (-1)) 206 a0 0) (sI (sI (sI (sI (sI r2 201 a0 0 x2) 202 a0 0 x3) 203 a0 0 x4) 204 a0 0 0) 205 a0 0 (-1))).bind (fun r6 => fg (w.1 (gR r6 207 a0 0) = 1) inferInstance ((F_X0_start (gR r6 207 a0 0) r6).bind (fun r10 => some r10)))))))
set_option maxHeartbeats 4000000 in
set_option maxRecDepth 100000 in
theorem c_X2_start (l : Launch) (D : va_G) (cy : Nat → ClassId) (a0 : Nat) (a1 : Nat) (x2 : Int32) (x3 : Int32) (x4 : Int32) (w : FW) (r : FW) (hF : F_X2_start a0 a1 x2 x3 x4 w = some r) : fSpec l D cy yX2_start cX2_start 5 none { frames := 1, cells := 0, slots := 0, locals := 22 } [.ref a0, .ref a1, .int x2, .int x3, .int x4] w r none := by
  refine f_begin (by decide +kernel) (Nat.le_of_ble_eq_true rfl) (fun X hC hEn => ?_)
  unfold F_X2_start at hF
  show fAt X 0 0 5 w [(0, .ref a0), (1, .ref a1), (2, .int x2), (3, .int x3), (4, .int x4)] [] 0
  refine f_aload_n hC dX2_start_0 rfl 0 rfl ?_
  obtain ⟨g1, hF⟩ := fg_open hF
  refine f_getR hC 2 0 200 rfl (by decide) iX2 q_175 rfl rfl (fSm.k (fSm.rf w) g1) dX2_start_1 ?_
  refine f_aload_n hC dX2_start_4 rfl 1 rfl ?_
  obtain ⟨g4, hF⟩ := fg_open hF
  obtain ⟨r2, h3, hF⟩ := fb_open hF
  refine f_callVN hC [.ref a1] (c_X3_take l D cy (gR w 200 a0 0) a1 w r2 h3) q_944 q_75 q_941 q_943 q_28 h9_X3_take rfl (fSm.k (fSm.rf w) g4) ⟨Nat.le_of_ble_eq_true rfl, Nat.le_of_ble_eq_true rfl⟩ ⟨Nat.le_of_ble_eq_true rfl, Nat.le_of_ble_eq_true rfl⟩ (Nat.le_of_ble_eq_true rfl) rfl dX2_start_5 (fun e5 => ?_)
  refine f_aload_n hC dX2_start_8 rfl 0 rfl ?_
  refine f_iload_n hC dX2_start_9 rfl 2 rfl ?_
  refine f_putI hC 2 1 201 rfl (by decide) iX2 tyX2 tyX2_ok nmX2 q_178 rfl rfl rfl rfl rfl (fSm.k (fSm.tr e5 (fSm.rf w)) g1) dX2_start_10 ?_
  refine f_aload_n hC dX2_start_13 rfl 0 rfl ?_
  refine f_iload_n hC dX2_start_14 rfl 3 rfl ?_
  refine f_putI hC 2 2 202 rfl (by decide) iX2 tyX2 tyX2_ok nmX2 q_181 rfl rfl rfl rfl rfl (fSm.k (fSm.tr e5 (fSm.rf w)) g1) dX2_start_15 ?_
  refine f_aload_n hC dX2_start_18 rfl 0 rfl ?_
  refine f_iload hC dX2_start_19 4 rfl ?_
  refine f_putI hC 2 3 203 rfl (by decide) iX2 tyX2 tyX2_ok nmX2 q_184 rfl rfl rfl rfl rfl (fSm.k (fSm.tr e5 (fSm.rf w)) g1) dX2_start_21 ?_
  refine f_aload_n hC dX2_start_24 rfl 0 rfl ?_
  refine f_iconst (v := 0) hC dX2_start_25 (by decide) ?_
  refine f_putI hC 2 4 204 rfl (by decide) iX2 tyX2 tyX2_ok nmX2 q_187 rfl rfl rfl (nar_z (by decide)) (fit_z (by decide)) (fSm.k (fSm.tr e5 (fSm.rf w)) g1) dX2_start_26 ?_
  refine f_aload_n hC dX2_start_29 rfl 0 rfl ?_
  refine f_iconst (v := (-1)) hC dX2_start_30 (by decide) ?_
  refine f_putI hC 2 5 205 rfl (by decide) iX2 tyX2 tyX2_ok nmX2 q_190 rfl rfl rfl rfl rfl (fSm.k (fSm.tr e5 (fSm.rf w)) g1) dX2_start_31 ?_
  refine f_aload_n hC dX2_start_34 rfl 0 rfl ?_
  refine f_getR hC 2 6 206 rfl (by decide) iX2 q_193 rfl rfl (fSm.k (fSm.tr e5 (fSm.rf w)) g1) dX2_start_35 ?_
  obtain ⟨g8, hF⟩ := fg_open hF
  obtain ⟨r6, h7, hF⟩ := fb_open hF
  refine f_callVN hC [] (c_X0_start l D cy (gR (sI (sI (sI (sI (sI r2 201 a0 0 x2) 202 a0 0 x3) 203 a0 0 x4) 204 a0 0 0) 205 a0 0 (-1)) 206 a0 0) (sI (sI (sI (sI (sI r2 201 a0 0 x2) 202 a0 0 x3) 203 a0 0 x4) 204 a0 0 0) 205 a0 0 (-1)) r6 h7) q_992 q_77 q_989 q_991 q_39 h9_X0_start rfl (fSm.k (fSm.tr e5 (fSm.rf w)) g8) ⟨Nat.le_of_ble_eq_true rfl, Nat.le_of_ble_eq_true rfl⟩ ⟨Nat.le_of_ble_eq_true rfl, Nat.le_of_ble_eq_true rfl⟩ (Nat.le_of_ble_eq_true rfl) rfl dX2_start_38 (fun e9 => ?_)
  refine f_aload_n hC dX2_start_41 rfl 0 rfl ?_
  refine f_getR hC 2 7 207 rfl (by decide) iX2 q_196 rfl rfl (fSm.k (fSm.tr e9 (fSm.tr e5 (fSm.rf w))) g1) dX2_start_42 ?_
  obtain ⟨g12, hF⟩ := fg_open hF
  obtain ⟨r10, h11, hF⟩ := fb_open hF
  refine f_callVN hC [] (c_X0_start l D cy (gR r6 207 a0 0) r6 r10 h11) q_992 q_77 q_989 q_991 q_39 h9_X0_start rfl (fSm.k (fSm.tr e9 (fSm.tr e5 (fSm.rf w))) g12) ⟨Nat.le_of_ble_eq_true rfl, Nat.le_of_ble_eq_true rfl⟩ ⟨Nat.le_of_ble_eq_true rfl, Nat.le_of_ble_eq_true rfl⟩ (Nat.le_of_ble_eq_true rfl) rfl dX2_start_45 (fun e13 => ?_)
  obtain rfl := Option.some.inj hF
  exact f_vret hC hEn (fSm.tr e13 (fSm.tr e9 (fSm.tr e5 (fSm.rf w)))) dX2_start_48
theorem dX4_tryPrint_0 : decode cX4_tryPrint 0 = .ok (.iload_n 2, 1) := by decide +kernel
theorem dX4_tryPrint_1 : decode cX4_tryPrint 1 = .ok (.invokestatic 400, 3) := by decide +kernel
theorem dX4_tryPrint_4 : decode cX4_tryPrint 4 = .ok (.ifCond .eq 10, 3) := by decide +kernel
theorem dX4_tryPrint_7 : decode cX4_tryPrint 7 = .ok (.iload_n 3, 1) := by decide +kernel
theorem dX4_tryPrint_8 : decode cX4_tryPrint 8 = .ok (.invokestatic 400, 3) := by decide +kernel
theorem dX4_tryPrint_11 : decode cX4_tryPrint 11 = .ok (.ifCond .ne 5, 3) := by decide +kernel
theorem dX4_tryPrint_14 : decode cX4_tryPrint 14 = .ok (.iconst 1, 1) := by decide +kernel
theorem dX4_tryPrint_15 : decode cX4_tryPrint 15 = .ok (.ireturn, 1) := by decide +kernel
theorem dX4_tryPrint_16 : decode cX4_tryPrint 16 = .ok (.iload_n 2, 1) := by decide +kernel
theorem dX4_tryPrint_17 : decode cX4_tryPrint 17 = .ok (.iload_n 3, 1) := by decide +kernel
theorem dX4_tryPrint_18 : decode cX4_tryPrint 18 = .ok (.if_icmp .eq 16, 3) := by decide +kernel
theorem dX4_tryPrint_21 : decode cX4_tryPrint 21 = .ok (.iload 4, 2) := by decide +kernel
theorem dX4_tryPrint_23 : decode cX4_tryPrint 23 = .ok (.iconst 1, 1) := by decide +kernel
theorem dX4_tryPrint_24 : decode cX4_tryPrint 24 = .ok (.if_icmp .lt 10, 3) := by decide +kernel
theorem dX4_tryPrint_27 : decode cX4_tryPrint 27 = .ok (.iload 4, 2) := by decide +kernel
theorem dX4_tryPrint_29 : decode cX4_tryPrint 29 = .ok (.bipush 9, 2) := by decide +kernel
theorem dX4_tryPrint_31 : decode cX4_tryPrint 31 = .ok (.if_icmp .le 5, 3) := by decide +kernel
theorem dX4_tryPrint_34 : decode cX4_tryPrint 34 = .ok (.iconst 2, 1) := by decide +kernel
theorem dX4_tryPrint_35 : decode cX4_tryPrint 35 = .ok (.ireturn, 1) := by decide +kernel
theorem dX4_tryPrint_36 : decode cX4_tryPrint 36 = .ok (.aload_n 1, 1) := by decide +kernel
theorem dX4_tryPrint_37 : decode cX4_tryPrint 37 = .ok (.getfield 86, 3) := by decide +kernel
theorem dX4_tryPrint_40 : decode cX4_tryPrint 40 = .ok (.iconst 2, 1) := by decide +kernel
theorem dX4_tryPrint_41 : decode cX4_tryPrint 41 = .ok (.if_icmp .lt 10, 3) := by decide +kernel
theorem dX4_tryPrint_44 : decode cX4_tryPrint 44 = .ok (.aload_n 1, 1) := by decide +kernel
theorem dX4_tryPrint_45 : decode cX4_tryPrint 45 = .ok (.invokevirtual 124, 3) := by decide +kernel
theorem dX4_tryPrint_48 : decode cX4_tryPrint 48 = .ok (.ifCond .ne 13, 3) := by decide +kernel
theorem dX4_tryPrint_51 : decode cX4_tryPrint 51 = .ok (.aload_n 0, 1) := by decide +kernel
theorem dX4_tryPrint_52 : decode cX4_tryPrint 52 = .ok (.iconst 2, 1) := by decide +kernel
theorem dX4_tryPrint_53 : decode cX4_tryPrint 53 = .ok (.aload_n 1, 1) := by decide +kernel
theorem dX4_tryPrint_54 : decode cX4_tryPrint 54 = .ok (.getfield 86, 3) := by decide +kernel
theorem dX4_tryPrint_57 : decode cX4_tryPrint 57 = .ok (.invokevirtual 394, 3) := by decide +kernel
theorem dX4_tryPrint_60 : decode cX4_tryPrint 60 = .ok (.ireturn, 1) := by decide +kernel
theorem dX4_tryPrint_61 : decode cX4_tryPrint 61 = .ok (.aload_n 0, 1) := by decide +kernel
theorem dX4_tryPrint_62 : decode cX4_tryPrint 62 = .ok (.getfield 12, 3) := by decide +kernel
theorem dX4_tryPrint_65 : decode cX4_tryPrint 65 = .ok (.getfield 66, 3) := by decide +kernel
theorem dX4_tryPrint_68 : decode cX4_tryPrint 68 = .ok (.bipush 8, 2) := by decide +kernel
theorem dX4_tryPrint_70 : decode cX4_tryPrint 70 = .ok (.if_icmp .lt 11, 3) := by decide +kernel
theorem dX4_tryPrint_73 : decode cX4_tryPrint 73 = .ok (.aload_n 0, 1) := by decide +kernel
theorem dX4_tryPrint_74 : decode cX4_tryPrint 74 = .ok (.iconst 1, 1) := by decide +kernel
theorem dX4_tryPrint_75 : decode cX4_tryPrint 75 = .ok (.bipush 8, 2) := by decide +kernel
theorem dX4_tryPrint_77 : decode cX4_tryPrint 77 = .ok (.invokevirtual 394, 3) := by decide +kernel
theorem dX4_tryPrint_80 : decode cX4_tryPrint 80 = .ok (.ireturn, 1) := by decide +kernel
theorem dX4_tryPrint_81 : decode cX4_tryPrint 81 = .ok (.aload_n 0, 1) := by decide +kernel
theorem dX4_tryPrint_82 : decode cX4_tryPrint 82 = .ok (.getfield 12, 3) := by decide +kernel
theorem dX4_tryPrint_85 : decode cX4_tryPrint 85 = .ok (.getfield 235, 3) := by decide +kernel
theorem dX4_tryPrint_88 : decode cX4_tryPrint 88 = .ok (.aload_n 0, 1) := by decide +kernel
theorem dX4_tryPrint_89 : decode cX4_tryPrint 89 = .ok (.getfield 12, 3) := by decide +kernel
theorem dX4_tryPrint_92 : decode cX4_tryPrint 92 = .ok (.getfield 66, 3) := by decide +kernel
theorem dX4_tryPrint_95 : decode cX4_tryPrint 95 = .ok (.aaload, 1) := by decide +kernel
theorem dX4_tryPrint_96 : decode cX4_tryPrint 96 = .ok (.aload_n 1, 1) := by decide +kernel
theorem dX4_tryPrint_97 : decode cX4_tryPrint 97 = .ok (.iload_n 2, 1) := by decide +kernel
theorem dX4_tryPrint_98 : decode cX4_tryPrint 98 = .ok (.iload_n 3, 1) := by decide +kernel
theorem dX4_tryPrint_99 : decode cX4_tryPrint 99 = .ok (.iload 4, 2) := by decide +kernel
theorem dX4_tryPrint_101 : decode cX4_tryPrint 101 = .ok (.invokevirtual 403, 3) := by decide +kernel
theorem dX4_tryPrint_104 : decode cX4_tryPrint 104 = .ok (.aload_n 0, 1) := by decide +kernel
theorem dX4_tryPrint_105 : decode cX4_tryPrint 105 = .ok (.getfield 12, 3) := by decide +kernel
theorem dX4_tryPrint_108 : decode cX4_tryPrint 108 = .ok (.dup, 1) := by decide +kernel
theorem dX4_tryPrint_109 : decode cX4_tryPrint 109 = .ok (.getfield 66, 3) := by decide +kernel
theorem dX4_tryPrint_112 : decode cX4_tryPrint 112 = .ok (.iconst 1, 1) := by decide +kernel
theorem dX4_tryPrint_113 : decode cX4_tryPrint 113 = .ok (.iadd, 1) := by decide +kernel
theorem dX4_tryPrint_114 : decode cX4_tryPrint 114 = .ok (.putfield 66, 3) := by decide +kernel
theorem dX4_tryPrint_117 : decode cX4_tryPrint 117 = .ok (.aload_n 0, 1) := by decide +kernel
theorem dX4_tryPrint_118 : decode cX4_tryPrint 118 = .ok (.getfield 12, 3) := by decide +kernel
theorem dX4_tryPrint_121 : decode cX4_tryPrint 121 = .ok (.dup, 1) := by decide +kernel
theorem dX4_tryPrint_122 : decode cX4_tryPrint 122 = .ok (.getfield 336, 3) := by decide +kernel
theorem dX4_tryPrint_125 : decode cX4_tryPrint 125 = .ok (.iconst 1, 1) := by decide +kernel
theorem dX4_tryPrint_126 : decode cX4_tryPrint 126 = .ok (.iadd, 1) := by decide +kernel
theorem dX4_tryPrint_127 : decode cX4_tryPrint 127 = .ok (.putfield 336, 3) := by decide +kernel
theorem dX4_tryPrint_130 : decode cX4_tryPrint 130 = .ok (.iconst 0, 1) := by decide +kernel
theorem dX4_tryPrint_131 : decode cX4_tryPrint 131 = .ok (.ireturn, 1) := by decide +kernel
theorem h9_X4_tryPrint : yX4_tryPrint.cls ≠ "java/lang/invoke/MethodHandle" ∧ yX4_tryPrint.cls ≠ "java/lang/invoke/VarHandle" ∧ (parseMethodDescriptor yX4_tryPrint.desc).map (fun d => d.parameters.length) = some 4 := by decide +kernel
noncomputable def F_X4_tryPrint (a0 : Nat) (a1 : Nat) (x2 : Int32) (x3 : Int32) (x4 : Int32) (w : FW) : Option (Int32 × FW) :=
  (F_X4_isPier x2 w).bind (fun r1 => (if r1 = 0 then some (1, w) else (F_X4_isPier x3 w).bind (fun r5 => (if r5 = 0 then some (1, w) else (if x2 = x3 then some (2, w) else (if x4 < 1 then some (2, w) else (if x4 ≤ 9 then fg (w.1 a1 = 4) inferInstance ((if (gI w 301 a1 0) < 2 then fg (w.1 a0 = 5) inferInstance ((F_X4_refuse a0 2 (gI w 301 a1 0) w).bind (fun r14 => some (r14.1, r14.2))) else (F_X3_vowelCount a1 w).bind (fun r18 => (if r18 = 0 then fg (w.1 a0 = 5) inferInstance ((F_X4_refuse a0 2 (gI w 301 a1 0) w).bind (fun r35 => some (r35.1, r35.2))) else fg (w.1 a0 = 5) inferInstance (fg (w.1 (gR w 400 a0 0) = 2) inferInstance ((if (gI w 101 (gR w 400 a0 0) 0) < 8 then fg (w.1 (gR w 100 (gR w 400 a0 0) 0) = 14) inferInstance (fg (¬ ((gI w 101 (gR w 400 a0 0) 0) < 0 ∨ w.2.1 (gR w 100 (gR w 400 a0 0) 0) ≤ Int32.toNatClampNeg (gI w 101 (gR w 400 a0 0) 0))) inferInstance (fg (w.1 (gR w 604 (gR w 100 (gR w 400 a0 0) 0) (Int32.toNatClampNeg (gI w 101 (gR w 400 a0 0) 0))) = 3) inferInstance ((F_X2_start (gR w 604 (gR w 100 (gR w 400 a0 0) 0) (Int32.toNatClampNeg (gI w 101 (gR w 400 a0 0) 0))) a1 x2 x3 x4 w).bind (fun r27 => fg (w.1 (gR r27 400 a0 0) = 2) inferInstance (some (0, (sI (sI r27 101 (gR r27 400 a0 0) 0 ((gI r27 101 (gR r27 400 a0 0) 0) + 1)) 106 (gR (sI r27 101 (gR r27 400 a0 0) 0 ((gI r27 101 (gR r27 400 a0 0) 0) + 1)) 400 a0 0) 0 ((gI (sI r27 101 (gR r27 400 a0 0) 0 ((gI r27 101 (gR r27 400 a0 0) 0) + 1)) 106 (gR (sI r27 101 (gR r27 400 a0 0) 0 ((gI r27 101 (gR r27 400 a0 0) 0) + 1)) 400 a0 0) 0) + 1)))))))) else (F_X4_refuse a0 1 8 w).bind (fun r32 => some (r32.1, r32.2))))))))) else some (2, w))))))))
set_option maxHeartbeats 4000000 in
set_option maxRecDepth 100000 in
theorem c_X4_tryPrint (l : Launch) (D : va_G) (cy : Nat → ClassId) (a0 : Nat) (a1 : Nat) (x2 : Int32) (x3 : Int32) (x4 : Int32) (w : FW) (r : Int32 × FW) (hF : F_X4_tryPrint a0 a1 x2 x3 x4 w = some r) : fSpec l D cy yX4_tryPrint cX4_tryPrint 5 (some .int) { frames := 3, cells := 0, slots := 0, locals := 64 } [.ref a0, .ref a1, .int x2, .int x3, .int x4] w r.2 (some (.int r.1)) := by
  refine f_begin (by decide +kernel) (Nat.le_of_ble_eq_true rfl) (fun X hC hEn => ?_)
  unfold F_X4_tryPrint at hF
  show fAt X 0 0 5 w [(0, .ref a0), (1, .ref a1), (2, .int x2), (3, .int x3), (4, .int x4)] [] 0
  refine f_iload_n hC dX4_tryPrint_0 rfl 2 rfl ?_
  obtain ⟨r1, h2, hF⟩ := fb_open hF
  refine f_callS hC [.int x2] (c_X4_isPier l D cy x2 w r1 h2) q_566 q_73 q_974 q_565 h9_X4_isPier ⟨Nat.le_of_ble_eq_true rfl, Nat.le_of_ble_eq_true rfl⟩ ⟨Nat.le_of_ble_eq_true rfl, Nat.le_of_ble_eq_true rfl⟩ (Nat.le_of_ble_eq_true rfl) rfl dX4_tryPrint_1 (fun e3 => ?_)
  refine f_if_eq hC 14 dX4_tryPrint_4 (by decide) (fun c4 => ?_) (fun c4 => ?_)
  · replace hF := fi_pos hF c4
    refine f_iconst (v := 1) hC dX4_tryPrint_14 (by decide) ?_
    obtain rfl := Option.some.inj hF
    exact f_iret hC hEn (fSm.rf w) dX4_tryPrint_15
  · replace hF := fi_neg hF c4
    refine f_iload_n hC dX4_tryPrint_7 rfl 3 rfl ?_
    obtain ⟨r5, h6, hF⟩ := fb_open hF
    refine f_callS hC [.int x3] (c_X4_isPier l D cy x3 w r5 h6) q_566 q_73 q_974 q_565 h9_X4_isPier ⟨Nat.le_of_ble_eq_true rfl, Nat.le_of_ble_eq_true rfl⟩ ⟨Nat.le_of_ble_eq_true rfl, Nat.le_of_ble_eq_true rfl⟩ (Nat.le_of_ble_eq_true rfl) rfl dX4_tryPrint_8 (fun e7 => ?_)
    refine f_if_ne hC 16 dX4_tryPrint_11 (by decide) (fun c8 => ?_) (fun c8 => ?_)
    · replace hF := fi_neg hF c8
      refine f_iload_n hC dX4_tryPrint_16 rfl 2 rfl ?_
      refine f_iload_n hC dX4_tryPrint_17 rfl 3 rfl ?_
      refine f_icmp_eq hC 34 dX4_tryPrint_18 (by decide) (fun c9 => ?_) (fun c9 => ?_)
      · replace hF := fi_pos hF c9
        refine f_iconst (v := 2) hC dX4_tryPrint_34 (by decide) ?_
        obtain rfl := Option.some.inj hF
        exact f_iret hC hEn (fSm.rf w) dX4_tryPrint_35
      · replace hF := fi_neg hF c9
        refine f_iload hC dX4_tryPrint_21 4 rfl ?_
        refine f_iconst (v := 1) hC dX4_tryPrint_23 (by decide) ?_
        refine f_icmp_lt hC 34 dX4_tryPrint_24 (by decide) (fun c10 => ?_) (fun c10 => ?_)
        · replace hF := fi_pos hF c10
          refine f_iconst (v := 2) hC dX4_tryPrint_34 (by decide) ?_
          obtain rfl := Option.some.inj hF
          exact f_iret hC hEn (fSm.rf w) dX4_tryPrint_35
        · replace hF := fi_neg hF c10
          refine f_iload hC dX4_tryPrint_27 4 rfl ?_
          refine f_bipush (v := 9) hC dX4_tryPrint_29 (by decide) ?_
          refine f_icmp_le hC 36 dX4_tryPrint_31 (by decide) (fun c11 => ?_) (fun c11 => ?_)
          · replace hF := fi_pos hF c11
            refine f_aload_n hC dX4_tryPrint_36 rfl 1 rfl ?_
            obtain ⟨g12, hF⟩ := fg_open hF
            refine f_getIN hC 3 1 301 rfl (by decide) iX3 q_124 rfl rfl (fSm.k (fSm.rf w) g12) dX4_tryPrint_37 ?_
            refine f_iconst (v := 2) hC dX4_tryPrint_40 (by decide) ?_
            refine f_icmp_lt hC 51 dX4_tryPrint_41 (by decide) (fun c13 => ?_) (fun c13 => ?_)
            · replace hF := fi_pos hF c13
              refine f_aload_n hC dX4_tryPrint_51 rfl 0 rfl ?_
              refine f_iconst (v := 2) hC dX4_tryPrint_52 (by decide) ?_
              refine f_aload_n hC dX4_tryPrint_53 rfl 1 rfl ?_
              refine f_getIN hC 3 1 301 rfl (by decide) iX3 q_124 rfl rfl (fSm.k (fSm.rf w) g12) dX4_tryPrint_54 ?_
              obtain ⟨g16, hF⟩ := fg_open hF
              obtain ⟨r14, h15, hF⟩ := fb_open hF
              refine f_callV hC [.int 2, .int (gI w 301 a1 0)] (c_X4_refuse l D cy a0 2 (gI w 301 a1 0) w r14 h15) q_984 q_73 q_981 q_983 q_37 h9_X4_refuse rfl (fSm.k (fSm.rf w) g16) ⟨Nat.le_of_ble_eq_true rfl, Nat.le_of_ble_eq_true rfl⟩ ⟨Nat.le_of_ble_eq_true rfl, Nat.le_of_ble_eq_true rfl⟩ (Nat.le_of_ble_eq_true rfl) rfl dX4_tryPrint_57 (fun e17 => ?_)
              obtain rfl := Option.some.inj hF
              exact f_iret hC hEn (fSm.tr e17 (fSm.rf w)) dX4_tryPrint_60
            · replace hF := fi_neg hF c13
              refine f_aload_n hC dX4_tryPrint_44 rfl 1 rfl ?_
              obtain ⟨r18, h19, hF⟩ := fb_open hF
              refine f_callVN hC [] (c_X3_vowelCount l D cy a1 w r18 h19) q_978 q_75 q_975 q_977 q_36 h9_X3_vowelCount rfl (fSm.k (fSm.rf w) g12) ⟨Nat.le_of_ble_eq_true rfl, Nat.le_of_ble_eq_true rfl⟩ ⟨Nat.le_of_ble_eq_true rfl, Nat.le_of_ble_eq_true rfl⟩ (Nat.le_of_ble_eq_true rfl) rfl dX4_tryPrint_45 (fun e20 => ?_)
              refine f_if_ne hC 61 dX4_tryPrint_48 (by decide) (fun c21 => ?_) (fun c21 => ?_)
              · replace hF := fi_neg hF c21
                refine f_aload_n hC dX4_tryPrint_61 rfl 0 rfl ?_
                obtain ⟨g22, hF⟩ := fg_open hF
                refine f_getR hC 4 0 400 rfl (by decide) iX4 q_260 rfl rfl (fSm.k (fSm.rf w) g22) dX4_tryPrint_62 ?_
                obtain ⟨g23, hF⟩ := fg_open hF
                refine f_getIN hC 1 1 101 rfl (by decide) iX1 q_219 rfl rfl (fSm.k (fSm.rf w) g23) dX4_tryPrint_65 ?_
                refine f_bipush (v := 8) hC dX4_tryPrint_68 (by decide) ?_
                refine f_icmp_lt hC 81 dX4_tryPrint_70 (by decide) (fun c24 => ?_) (fun c24 => ?_)
                · replace hF := fi_pos hF c24
                  refine f_aload_n hC dX4_tryPrint_81 rfl 0 rfl ?_
                  refine f_getR hC 4 0 400 rfl (by decide) iX4 q_260 rfl rfl (fSm.k (fSm.rf w) g22) dX4_tryPrint_82 ?_
                  refine f_getRN hC 1 0 100 rfl (by decide) iX1 q_217 rfl rfl (fSm.k (fSm.rf w) g23) dX4_tryPrint_85 ?_
                  refine f_aload_n hC dX4_tryPrint_88 rfl 0 rfl ?_
                  refine f_getR hC 4 0 400 rfl (by decide) iX4 q_260 rfl rfl (fSm.k (fSm.rf w) g22) dX4_tryPrint_89 ?_
                  refine f_getIN hC 1 1 101 rfl (by decide) iX1 q_219 rfl rfl (fSm.k (fSm.rf w) g23) dX4_tryPrint_92 ?_
                  obtain ⟨g25, hF⟩ := fg_open hF
                  obtain ⟨g26, hF⟩ := fg_open hF
                  refine f_aald1 hC (fSm.k (fSm.rf w) g25) (fSm.v (fSm.rf w) g26) dX4_tryPrint_95 ?_
                  refine f_aload_n hC dX4_tryPrint_96 rfl 1 rfl ?_
                  refine f_iload_n hC dX4_tryPrint_97 rfl 2 rfl ?_
                  refine f_iload_n hC dX4_tryPrint_98 rfl 3 rfl ?_
                  refine f_iload hC dX4_tryPrint_99 4 rfl ?_
                  obtain ⟨g29, hF⟩ := fg_open hF
                  obtain ⟨r27, h28, hF⟩ := fb_open hF
                  refine f_callVN hC [.ref a1, .int x2, .int x3, .int x4] (c_X2_start l D cy (gR w 604 (gR w 100 (gR w 400 a0 0) 0) (Int32.toNatClampNeg (gI w 101 (gR w 400 a0 0) 0))) a1 x2 x3 x4 w r27 h28) q_988 q_76 q_985 q_987 q_38 h9_X2_start rfl (fSm.k (fSm.rf w) g29) ⟨Nat.le_of_ble_eq_true rfl, Nat.le_of_ble_eq_true rfl⟩ ⟨Nat.le_of_ble_eq_true rfl, Nat.le_of_ble_eq_true rfl⟩ (Nat.le_of_ble_eq_true rfl) rfl dX4_tryPrint_101 (fun e30 => ?_)
                  refine f_aload_n hC dX4_tryPrint_104 rfl 0 rfl ?_
                  refine f_getR hC 4 0 400 rfl (by decide) iX4 q_260 rfl rfl (fSm.k (fSm.tr e30 (fSm.rf w)) g22) dX4_tryPrint_105 ?_
                  refine f_dup hC dX4_tryPrint_108 rfl ?_
                  obtain ⟨g31, hF⟩ := fg_open hF
                  refine f_getIN hC 1 1 101 rfl (by decide) iX1 q_219 rfl rfl (fSm.k (fSm.tr e30 (fSm.rf w)) g31) dX4_tryPrint_109 ?_
                  refine f_iconst (v := 1) hC dX4_tryPrint_112 (by decide) ?_
                  refine f_iadd hC dX4_tryPrint_113 ?_
                  refine f_putIN hC 1 1 101 rfl (by decide) iX1 tyX1 tyX1_ok nmX1 q_219 rfl rfl rfl rfl rfl (fSm.k (fSm.tr e30 (fSm.rf w)) g31) dX4_tryPrint_114 ?_
                  refine f_aload_n hC dX4_tryPrint_117 rfl 0 rfl ?_
                  refine f_getR hC 4 0 400 rfl (by decide) iX4 q_260 rfl rfl (fSm.k (fSm.tr e30 (fSm.rf w)) g22) dX4_tryPrint_118 ?_
                  refine f_dup hC dX4_tryPrint_121 rfl ?_
                  refine f_getIN hC 1 6 106 rfl (by decide) iX1 q_229 rfl rfl (fSm.k (fSm.tr e30 (fSm.rf w)) g31) dX4_tryPrint_122 ?_
                  refine f_iconst (v := 1) hC dX4_tryPrint_125 (by decide) ?_
                  refine f_iadd hC dX4_tryPrint_126 ?_
                  refine f_putIN hC 1 6 106 rfl (by decide) iX1 tyX1 tyX1_ok nmX1 q_229 rfl rfl rfl rfl rfl (fSm.k (fSm.tr e30 (fSm.rf w)) g31) dX4_tryPrint_127 ?_
                  refine f_iconst (v := 0) hC dX4_tryPrint_130 (by decide) ?_
                  obtain rfl := Option.some.inj hF
                  exact f_iret hC hEn (fSm.tr e30 (fSm.rf w)) dX4_tryPrint_131
                · replace hF := fi_neg hF c24
                  refine f_aload_n hC dX4_tryPrint_73 rfl 0 rfl ?_
                  refine f_iconst (v := 1) hC dX4_tryPrint_74 (by decide) ?_
                  refine f_bipush (v := 8) hC dX4_tryPrint_75 (by decide) ?_
                  obtain ⟨r32, h33, hF⟩ := fb_open hF
                  refine f_callV hC [.int 1, .int 8] (c_X4_refuse l D cy a0 1 8 w r32 h33) q_984 q_73 q_981 q_983 q_37 h9_X4_refuse rfl (fSm.k (fSm.rf w) g22) ⟨Nat.le_of_ble_eq_true rfl, Nat.le_of_ble_eq_true rfl⟩ ⟨Nat.le_of_ble_eq_true rfl, Nat.le_of_ble_eq_true rfl⟩ (Nat.le_of_ble_eq_true rfl) rfl dX4_tryPrint_77 (fun e34 => ?_)
                  obtain rfl := Option.some.inj hF
                  exact f_iret hC hEn (fSm.tr e34 (fSm.rf w)) dX4_tryPrint_80
              · replace hF := fi_pos hF c21
                refine f_aload_n hC dX4_tryPrint_51 rfl 0 rfl ?_
                refine f_iconst (v := 2) hC dX4_tryPrint_52 (by decide) ?_
                refine f_aload_n hC dX4_tryPrint_53 rfl 1 rfl ?_
                refine f_getIN hC 3 1 301 rfl (by decide) iX3 q_124 rfl rfl (fSm.k (fSm.rf w) g12) dX4_tryPrint_54 ?_
                obtain ⟨g37, hF⟩ := fg_open hF
                obtain ⟨r35, h36, hF⟩ := fb_open hF
                refine f_callV hC [.int 2, .int (gI w 301 a1 0)] (c_X4_refuse l D cy a0 2 (gI w 301 a1 0) w r35 h36) q_984 q_73 q_981 q_983 q_37 h9_X4_refuse rfl (fSm.k (fSm.rf w) g37) ⟨Nat.le_of_ble_eq_true rfl, Nat.le_of_ble_eq_true rfl⟩ ⟨Nat.le_of_ble_eq_true rfl, Nat.le_of_ble_eq_true rfl⟩ (Nat.le_of_ble_eq_true rfl) rfl dX4_tryPrint_57 (fun e38 => ?_)
                obtain rfl := Option.some.inj hF
                exact f_iret hC hEn (fSm.tr e38 (fSm.rf w)) dX4_tryPrint_60
          · replace hF := fi_neg hF c11
            refine f_iconst (v := 2) hC dX4_tryPrint_34 (by decide) ?_
            obtain rfl := Option.some.inj hF
            exact f_iret hC hEn (fSm.rf w) dX4_tryPrint_35
    · replace hF := fi_pos hF c8
      refine f_iconst (v := 1) hC dX4_tryPrint_14 (by decide) ?_
      obtain rfl := Option.some.inj hF
      exact f_iret hC hEn (fSm.rf w) dX4_tryPrint_15
theorem dX4_print_0 : decode cX4_print 0 = .ok (.aload_n 0, 1) := by decide +kernel
theorem dX4_print_1 : decode cX4_print 1 = .ok (.invokevirtual 72, 3) := by decide +kernel
theorem dX4_print_4 : decode cX4_print 4 = .ok (.aload_n 0, 1) := by decide +kernel
theorem dX4_print_5 : decode cX4_print 5 = .ok (.aload_n 0, 1) := by decide +kernel
theorem dX4_print_6 : decode cX4_print 6 = .ok (.aload_n 0, 1) := by decide +kernel
theorem dX4_print_7 : decode cX4_print 7 = .ok (.getfield 12, 3) := by decide +kernel
theorem dX4_print_10 : decode cX4_print 10 = .ok (.getfield 83, 3) := by decide +kernel
theorem dX4_print_13 : decode cX4_print 13 = .ok (.iload_n 1, 1) := by decide +kernel
theorem dX4_print_14 : decode cX4_print 14 = .ok (.iload_n 2, 1) := by decide +kernel
theorem dX4_print_15 : decode cX4_print 15 = .ok (.iload_n 3, 1) := by decide +kernel
theorem dX4_print_16 : decode cX4_print 16 = .ok (.invokevirtual 93, 3) := by decide +kernel
theorem dX4_print_19 : decode cX4_print 19 = .ok (.invokevirtual 79, 3) := by decide +kernel
theorem dX4_print_22 : decode cX4_print 22 = .ok (.aload_n 0, 1) := by decide +kernel
theorem dX4_print_23 : decode cX4_print 23 = .ok (.getfield 12, 3) := by decide +kernel
theorem dX4_print_26 : decode cX4_print 26 = .ok (.getfield 83, 3) := by decide +kernel
theorem dX4_print_29 : decode cX4_print 29 = .ok (.iconst 0, 1) := by decide +kernel
theorem dX4_print_30 : decode cX4_print 30 = .ok (.putfield 86, 3) := by decide +kernel
theorem dX4_print_33 : decode cX4_print 33 = .ok (.aload_n 0, 1) := by decide +kernel
theorem dX4_print_34 : decode cX4_print 34 = .ok (.getfield 12, 3) := by decide +kernel
theorem dX4_print_37 : decode cX4_print 37 = .ok (.getfield 66, 3) := by decide +kernel
theorem dX4_print_40 : decode cX4_print 40 = .ok (.iconst 1, 1) := by decide +kernel
theorem dX4_print_41 : decode cX4_print 41 = .ok (.isub, 1) := by decide +kernel
theorem dX4_print_42 : decode cX4_print 42 = .ok (.ireturn, 1) := by decide +kernel
theorem h9_X4_print : yX4_print.cls ≠ "java/lang/invoke/MethodHandle" ∧ yX4_print.cls ≠ "java/lang/invoke/VarHandle" ∧ (parseMethodDescriptor yX4_print.desc).map (fun d => d.parameters.length) = some 3 := by decide +kernel
noncomputable def F_X4_print (a0 : Nat) (x1 : Int32) (x2 : Int32) (x3 : Int32) (w : FW) : Option ((Int32 ⊕ Nat) × FW) :=
  fg (w.1 a0 = 5) inferInstance ((F_X4_begin a0 w).bind (fun r1 => fg (w.1 (gR r1 400 a0 0) = 2) inferInstance ((F_X4_tryPrint a0 (gR r1 102 (gR r1 400 a0 0) 0) x1 x2 x3 r1).bind (fun r6 => (F_X4_settle a0 r6.1 r6.2).bind (fun r9 => fse r9.1 (fun v12 => fg (w.1 (gR r9.2 400 a0 0) = 2) inferInstance (fg (w.1 (gR r9.2 102 (gR r9.2 400 a0 0) 0) = 4) inferInstance (some ((.inl ((gI (sI r9.2 301 (gR r9.2 102 (gR r9.2 400 a0 0) 0) 0 0) 101 (gR (sI r9.2 301 (gR r9.2 102 (gR r9.2 400 a0 0) 0) 0 0) 400 a0 0) 0) - 1)), (sI r9.2 301 (gR r9.2 102 (gR r9.2 400 a0 0) 0) 0 0))))) (fun x13 => some (.inr x13, r9.2)))))))
set_option maxHeartbeats 4000000 in
set_option maxRecDepth 100000 in
theorem c_X4_print (l : Launch) (D : va_G) (cy : Nat → ClassId) (a0 : Nat) (x1 : Int32) (x2 : Int32) (x3 : Int32) (w : FW) (r : (Int32 ⊕ Nat) × FW) (hF : F_X4_print a0 x1 x2 x3 w = some r) : fSpecX l D cy yX4_print cX4_print 4 (some .int) { frames := 7, cells := 1, slots := 6, locals := 121 } [.ref a0, .int x1, .int x2, .int x3] w r.2 (fOI r.1) := by
  refine f_beginX (by decide +kernel) (Nat.le_of_ble_eq_true rfl) (fun X hC hEn => ?_)
  have hst := f_st hC hEn
  unfold F_X4_print at hF
  show fAt X 0 0 4 w [(0, .ref a0), (1, .int x1), (2, .int x2), (3, .int x3)] [] 0
  refine f_aload_n hC dX4_print_0 rfl 0 rfl ?_
  obtain ⟨g3, hF⟩ := fg_open hF
  obtain ⟨r1, h2, hF⟩ := fb_open hF
  refine f_callV hC [] (c_X4_begin l D cy a0 w r1 h2) q_932 q_73 q_929 q_931 q_25 h9_X4_begin rfl (fSm.k (fSm.rf w) g3) ⟨Nat.le_of_ble_eq_true rfl, Nat.le_of_ble_eq_true rfl⟩ ⟨Nat.le_of_ble_eq_true rfl, Nat.le_of_ble_eq_true rfl⟩ (Nat.le_of_ble_eq_true rfl) rfl dX4_print_1 (fun e4 => ?_)
  refine f_aload_n hC dX4_print_4 rfl 0 rfl ?_
  refine f_aload_n hC dX4_print_5 rfl 0 rfl ?_
  refine f_aload_n hC dX4_print_6 rfl 0 rfl ?_
  refine f_getR hC 4 0 400 rfl (by decide) iX4 q_260 rfl rfl (fSm.k (fSm.tr e4 (fSm.rf w)) g3) dX4_print_7 ?_
  obtain ⟨g5, hF⟩ := fg_open hF
  refine f_getRN hC 1 2 102 rfl (by decide) iX1 q_221 rfl rfl (fSm.k (fSm.tr e4 (fSm.rf w)) g5) dX4_print_10 ?_
  refine f_iload_n hC dX4_print_13 rfl 1 rfl ?_
  refine f_iload_n hC dX4_print_14 rfl 2 rfl ?_
  refine f_iload_n hC dX4_print_15 rfl 3 rfl ?_
  obtain ⟨r6, h7, hF⟩ := fb_open hF
  refine f_callV hC [.ref (gR r1 102 (gR r1 400 a0 0) 0), .int x1, .int x2, .int x3] (c_X4_tryPrint l D cy a0 (gR r1 102 (gR r1 400 a0 0) 0) x1 x2 x3 r1 r6 h7) q_973 q_73 q_970 q_972 q_35 h9_X4_tryPrint rfl (fSm.k (fSm.tr e4 (fSm.rf w)) g3) ⟨Nat.le_of_ble_eq_true rfl, Nat.le_of_ble_eq_true rfl⟩ ⟨Nat.le_of_ble_eq_true rfl, Nat.le_of_ble_eq_true rfl⟩ (Nat.le_of_ble_eq_true rfl) rfl dX4_print_16 (fun e8 => ?_)
  obtain ⟨r9, h10, hF⟩ := fb_open hF
  obtain ⟨o15, w14⟩ := r9
  rcases o15 with v12 | x13
  · refine f_callVR hC [.int r6.1] hst (c_X4_settle l D cy a0 r6.1 r6.2 (.inl v12, w14) h10) q_1082 q_73 q_1079 q_1081 q_54 h9_X4_settle rfl (fSm.k (fSm.tr e8 (fSm.tr e4 (fSm.rf w))) g3) ⟨Nat.le_of_ble_eq_true rfl, Nat.le_of_ble_eq_true rfl⟩ ⟨Nat.le_of_ble_eq_true rfl, Nat.le_of_ble_eq_true rfl⟩ (Nat.le_of_ble_eq_true rfl) rfl dX4_print_19 (fun e11 => ?_)
    refine f_aload_n hC dX4_print_22 rfl 0 rfl ?_
    refine f_getR hC 4 0 400 rfl (by decide) iX4 q_260 rfl rfl (fSm.k (fSm.tr e11 (fSm.tr e8 (fSm.tr e4 (fSm.rf w)))) g3) dX4_print_23 ?_
    obtain ⟨g16, hF⟩ := fg_open hF
    refine f_getRN hC 1 2 102 rfl (by decide) iX1 q_221 rfl rfl (fSm.k (fSm.tr e11 (fSm.tr e8 (fSm.tr e4 (fSm.rf w)))) g16) dX4_print_26 ?_
    refine f_iconst (v := 0) hC dX4_print_29 (by decide) ?_
    obtain ⟨g17, hF⟩ := fg_open hF
    refine f_putIN hC 3 1 301 rfl (by decide) iX3 tyX3 tyX3_ok nmX3 q_124 rfl rfl rfl rfl rfl (fSm.k (fSm.tr e11 (fSm.tr e8 (fSm.tr e4 (fSm.rf w)))) g17) dX4_print_30 ?_
    refine f_aload_n hC dX4_print_33 rfl 0 rfl ?_
    refine f_getR hC 4 0 400 rfl (by decide) iX4 q_260 rfl rfl (fSm.k (fSm.tr e11 (fSm.tr e8 (fSm.tr e4 (fSm.rf w)))) g3) dX4_print_34 ?_
    refine f_getIN hC 1 1 101 rfl (by decide) iX1 q_219 rfl rfl (fSm.k (fSm.tr e11 (fSm.tr e8 (fSm.tr e4 (fSm.rf w)))) g16) dX4_print_37 ?_
    refine f_iconst (v := 1) hC dX4_print_40 (by decide) ?_
    refine f_isub hC dX4_print_41 ?_
    obtain rfl := Option.some.inj hF
    exact f_iretX hC hEn (fSm.tr e11 (fSm.tr e8 (fSm.tr e4 (fSm.rf w)))) dX4_print_42
  · obtain rfl := Option.some.inj hF
    exact f_callVT hC [.int r6.1] hEn (fSm.tr e8 (fSm.tr e4 (fSm.rf w))) (Nat.le_of_ble_eq_true rfl) (Nat.le_of_ble_eq_true rfl) (c_X4_settle l D cy a0 r6.1 r6.2 (.inr x13, w14) h10) q_1082 q_73 q_1079 q_1081 q_54 h9_X4_settle rfl (fSm.k (fSm.tr e8 (fSm.tr e4 (fSm.rf w))) g3) ⟨Nat.le_of_ble_eq_true rfl, Nat.le_of_ble_eq_true rfl⟩ ⟨Nat.le_of_ble_eq_true rfl, Nat.le_of_ble_eq_true rfl⟩ (Nat.le_of_ble_eq_true rfl) rfl dX4_print_19
theorem dX1_hasTicket_0 : decode cX1_hasTicket 0 = .ok (.iload_n 1, 1) := by decide +kernel
theorem dX1_hasTicket_1 : decode cX1_hasTicket 1 = .ok (.ifCond .lt 15, 3) := by decide +kernel
theorem dX1_hasTicket_4 : decode cX1_hasTicket 4 = .ok (.iload_n 1, 1) := by decide +kernel
theorem dX1_hasTicket_5 : decode cX1_hasTicket 5 = .ok (.aload_n 0, 1) := by decide +kernel
theorem dX1_hasTicket_6 : decode cX1_hasTicket 6 = .ok (.getfield 17, 3) := by decide +kernel
theorem dX1_hasTicket_9 : decode cX1_hasTicket 9 = .ok (.if_icmp .ge 7, 3) := by decide +kernel
theorem dX1_hasTicket_12 : decode cX1_hasTicket 12 = .ok (.iconst 1, 1) := by decide +kernel
theorem dX1_hasTicket_13 : decode cX1_hasTicket 13 = .ok (.goto 4, 3) := by decide +kernel
theorem dX1_hasTicket_16 : decode cX1_hasTicket 16 = .ok (.iconst 0, 1) := by decide +kernel
theorem dX1_hasTicket_17 : decode cX1_hasTicket 17 = .ok (.ireturn, 1) := by decide +kernel
theorem h9_X1_hasTicket : yX1_hasTicket.cls ≠ "java/lang/invoke/MethodHandle" ∧ yX1_hasTicket.cls ≠ "java/lang/invoke/VarHandle" ∧ (parseMethodDescriptor yX1_hasTicket.desc).map (fun d => d.parameters.length) = some 1 := by decide +kernel
noncomputable def F_X1_hasTicket (a0 : Nat) (x1 : Int32) (w : FW) : Option (Int32) :=
  (if x1 < 0 then some 0 else fg (w.1 a0 = 2) inferInstance ((if (gI w 101 a0 0) ≤ x1 then some 0 else some 1)))
set_option maxHeartbeats 4000000 in
set_option maxRecDepth 100000 in
theorem c_X1_hasTicket (l : Launch) (D : va_G) (cy : Nat → ClassId) (a0 : Nat) (x1 : Int32) (w : FW) (r : Int32) (hF : F_X1_hasTicket a0 x1 w = some r) : fSpec l D cy yX1_hasTicket cX1_hasTicket 2 (some .boolean) { frames := 0, cells := 0, slots := 0, locals := 0 } [.ref a0, .int x1] w w (some (.int r)) := by
  refine f_begin (by decide +kernel) (Nat.le_of_ble_eq_true rfl) (fun X hC hEn => ?_)
  unfold F_X1_hasTicket at hF
  show fAt X 0 0 2 w [(0, .ref a0), (1, .int x1)] [] 0
  refine f_iload_n hC dX1_hasTicket_0 rfl 1 rfl ?_
  refine f_if_lt hC 16 dX1_hasTicket_1 (by decide) (fun c1 => ?_) (fun c1 => ?_)
  · replace hF := fi_pos hF c1
    refine f_iconst (v := 0) hC dX1_hasTicket_16 (by decide) ?_
    obtain rfl := Option.some.inj hF
    exact f_zret hC hEn (fSm.rf w) (nar_z (by decide)) dX1_hasTicket_17
  · replace hF := fi_neg hF c1
    refine f_iload_n hC dX1_hasTicket_4 rfl 1 rfl ?_
    refine f_aload_n hC dX1_hasTicket_5 rfl 0 rfl ?_
    obtain ⟨g2, hF⟩ := fg_open hF
    refine f_getI hC 1 1 101 rfl (by decide) iX1 q_218 rfl rfl (fSm.k (fSm.rf w) g2) dX1_hasTicket_6 ?_
    refine f_icmp_ge hC 16 dX1_hasTicket_9 (by decide) (fun c3 => ?_) (fun c3 => ?_)
    · replace hF := fi_pos hF c3
      refine f_iconst (v := 0) hC dX1_hasTicket_16 (by decide) ?_
      obtain rfl := Option.some.inj hF
      exact f_zret hC hEn (fSm.rf w) (nar_z (by decide)) dX1_hasTicket_17
    · replace hF := fi_neg hF c3
      refine f_iconst (v := 1) hC dX1_hasTicket_12 (by decide) ?_
      refine f_goto hC 17 dX1_hasTicket_13 (by decide) ?_
      obtain rfl := Option.some.inj hF
      exact f_zret hC hEn (fSm.rf w) (nar_z (by decide)) dX1_hasTicket_17
theorem dX1_removeTicket_0 : decode cX1_removeTicket 0 = .ok (.aload_n 0, 1) := by decide +kernel
theorem dX1_removeTicket_1 : decode cX1_removeTicket 1 = .ok (.getfield 11, 3) := by decide +kernel
theorem dX1_removeTicket_4 : decode cX1_removeTicket 4 = .ok (.iload_n 1, 1) := by decide +kernel
theorem dX1_removeTicket_5 : decode cX1_removeTicket 5 = .ok (.aaload, 1) := by decide +kernel
theorem dX1_removeTicket_6 : decode cX1_removeTicket 6 = .ok (.astore_n 2, 1) := by decide +kernel
theorem dX1_removeTicket_7 : decode cX1_removeTicket 7 = .ok (.iload_n 1, 1) := by decide +kernel
theorem dX1_removeTicket_8 : decode cX1_removeTicket 8 = .ok (.iconst 1, 1) := by decide +kernel
theorem dX1_removeTicket_9 : decode cX1_removeTicket 9 = .ok (.iadd, 1) := by decide +kernel
theorem dX1_removeTicket_10 : decode cX1_removeTicket 10 = .ok (.istore_n 3, 1) := by decide +kernel
theorem dX1_removeTicket_11 : decode cX1_removeTicket 11 = .ok (.iload_n 3, 1) := by decide +kernel
theorem dX1_removeTicket_12 : decode cX1_removeTicket 12 = .ok (.aload_n 0, 1) := by decide +kernel
theorem dX1_removeTicket_13 : decode cX1_removeTicket 13 = .ok (.getfield 17, 3) := by decide +kernel
theorem dX1_removeTicket_16 : decode cX1_removeTicket 16 = .ok (.if_icmp .ge 23, 3) := by decide +kernel
theorem dX1_removeTicket_19 : decode cX1_removeTicket 19 = .ok (.aload_n 0, 1) := by decide +kernel
theorem dX1_removeTicket_20 : decode cX1_removeTicket 20 = .ok (.getfield 11, 3) := by decide +kernel
theorem dX1_removeTicket_23 : decode cX1_removeTicket 23 = .ok (.iload_n 3, 1) := by decide +kernel
theorem dX1_removeTicket_24 : decode cX1_removeTicket 24 = .ok (.iconst 1, 1) := by decide +kernel
theorem dX1_removeTicket_25 : decode cX1_removeTicket 25 = .ok (.isub, 1) := by decide +kernel
theorem dX1_removeTicket_26 : decode cX1_removeTicket 26 = .ok (.aload_n 0, 1) := by decide +kernel
theorem dX1_removeTicket_27 : decode cX1_removeTicket 27 = .ok (.getfield 11, 3) := by decide +kernel
theorem dX1_removeTicket_30 : decode cX1_removeTicket 30 = .ok (.iload_n 3, 1) := by decide +kernel
theorem dX1_removeTicket_31 : decode cX1_removeTicket 31 = .ok (.aaload, 1) := by decide +kernel
theorem dX1_removeTicket_32 : decode cX1_removeTicket 32 = .ok (.aastore, 1) := by decide +kernel
theorem dX1_removeTicket_33 : decode cX1_removeTicket 33 = .ok (.iinc 3 1, 3) := by decide +kernel
theorem dX1_removeTicket_36 : decode cX1_removeTicket 36 = .ok (.goto (-25), 3) := by decide +kernel
theorem dX1_removeTicket_39 : decode cX1_removeTicket 39 = .ok (.aload_n 0, 1) := by decide +kernel
theorem dX1_removeTicket_40 : decode cX1_removeTicket 40 = .ok (.dup, 1) := by decide +kernel
theorem dX1_removeTicket_41 : decode cX1_removeTicket 41 = .ok (.getfield 17, 3) := by decide +kernel
theorem dX1_removeTicket_44 : decode cX1_removeTicket 44 = .ok (.iconst 1, 1) := by decide +kernel
theorem dX1_removeTicket_45 : decode cX1_removeTicket 45 = .ok (.isub, 1) := by decide +kernel
theorem dX1_removeTicket_46 : decode cX1_removeTicket 46 = .ok (.putfield 17, 3) := by decide +kernel
theorem dX1_removeTicket_49 : decode cX1_removeTicket 49 = .ok (.aload_n 0, 1) := by decide +kernel
theorem dX1_removeTicket_50 : decode cX1_removeTicket 50 = .ok (.getfield 11, 3) := by decide +kernel
theorem dX1_removeTicket_53 : decode cX1_removeTicket 53 = .ok (.aload_n 0, 1) := by decide +kernel
theorem dX1_removeTicket_54 : decode cX1_removeTicket 54 = .ok (.getfield 17, 3) := by decide +kernel
theorem dX1_removeTicket_57 : decode cX1_removeTicket 57 = .ok (.aload_n 2, 1) := by decide +kernel
theorem dX1_removeTicket_58 : decode cX1_removeTicket 58 = .ok (.aastore, 1) := by decide +kernel
theorem dX1_removeTicket_59 : decode cX1_removeTicket 59 = .ok (.return_, 1) := by decide +kernel
theorem h9_X1_removeTicket : yX1_removeTicket.cls ≠ "java/lang/invoke/MethodHandle" ∧ yX1_removeTicket.cls ≠ "java/lang/invoke/VarHandle" ∧ (parseMethodDescriptor yX1_removeTicket.desc).map (fun d => d.parameters.length) = some 1 := by decide +kernel
noncomputable def F_X1_removeTicket (a0 : Nat) (x1 : Int32) (w : FW) : Option (FW) :=
  fg (w.1 a0 = 2) inferInstance (fg (w.1 (gR w 100 a0 0) = 14) inferInstance (fg (¬ (x1 < 0 ∨ w.2.1 (gR w 100 a0 0) ≤ Int32.toNatClampNeg x1)) inferInstance ((fLoop (σ := Int32 × FW) (ρ := FW) (fun s4 => (if (gI s4.2 101 a0 0) ≤ s4.1 then some (.inr s4.2) else fg (w.1 (gR s4.2 100 a0 0) = 14) inferInstance (fg (¬ (s4.1 < 0 ∨ w.2.1 (gR s4.2 100 a0 0) ≤ Int32.toNatClampNeg s4.1)) inferInstance (fg (w.1 (gR s4.2 604 (gR s4.2 100 a0 0) (Int32.toNatClampNeg s4.1)) = 3) inferInstance (fg (¬ ((s4.1 - 1) < 0 ∨ w.2.1 (gR s4.2 100 a0 0) ≤ Int32.toNatClampNeg (s4.1 - 1))) inferInstance (some (.inl ((s4.1 + 1), (sR s4.2 604 (gR s4.2 100 a0 0) (Int32.toNatClampNeg (s4.1 - 1)) (gR s4.2 604 (gR s4.2 100 a0 0) (Int32.toNatClampNeg s4.1))))))))))) ((x1 + 1), w)).bind (fun x10 => fg (w.1 (gR x10 100 a0 0) = 14) inferInstance (fg (w.1 (gR w 604 (gR w 100 a0 0) (Int32.toNatClampNeg x1)) = 3) inferInstance (fg (¬ ((gI (sI x10 101 a0 0 ((gI x10 101 a0 0) - 1)) 101 a0 0) < 0 ∨ w.2.1 (gR x10 100 a0 0) ≤ Int32.toNatClampNeg (gI (sI x10 101 a0 0 ((gI x10 101 a0 0) - 1)) 101 a0 0))) inferInstance (some (sR (sI x10 101 a0 0 ((gI x10 101 a0 0) - 1)) 604 (gR (sI x10 101 a0 0 ((gI x10 101 a0 0) - 1)) 100 a0 0) (Int32.toNatClampNeg (gI (sI x10 101 a0 0 ((gI x10 101 a0 0) - 1)) 101 a0 0)) (gR w 604 (gR w 100 a0 0) (Int32.toNatClampNeg x1))))))))))
set_option maxHeartbeats 4000000 in
set_option maxRecDepth 100000 in
theorem c_X1_removeTicket (l : Launch) (D : va_G) (cy : Nat → ClassId) (a0 : Nat) (x1 : Int32) (w : FW) (r : FW) (hF : F_X1_removeTicket a0 x1 w = some r) : fSpec l D cy yX1_removeTicket cX1_removeTicket 4 none { frames := 0, cells := 0, slots := 0, locals := 0 } [.ref a0, .int x1] w r none := by
  refine f_begin (by decide +kernel) (Nat.le_of_ble_eq_true rfl) (fun X hC hEn => ?_)
  unfold F_X1_removeTicket at hF
  show fAt X 0 0 4 w [(0, .ref a0), (1, .int x1)] [] 0
  refine f_aload_n hC dX1_removeTicket_0 rfl 0 rfl ?_
  obtain ⟨g1, hF⟩ := fg_open hF
  refine f_getR hC 1 0 100 rfl (by decide) iX1 q_216 rfl rfl (fSm.k (fSm.rf w) g1) dX1_removeTicket_1 ?_
  refine f_iload_n hC dX1_removeTicket_4 rfl 1 rfl ?_
  obtain ⟨g2, hF⟩ := fg_open hF
  obtain ⟨g3, hF⟩ := fg_open hF
  refine f_aald1 hC (fSm.k (fSm.rf w) g2) (fSm.v (fSm.rf w) g3) dX1_removeTicket_5 ?_
  refine f_astore_n (L' := [(2, .ref (gR w 604 (gR w 100 a0 0) (Int32.toNatClampNeg x1))), (0, .ref a0), (1, .int x1)]) hC dX1_removeTicket_6 rfl (by decide) rfl ?_
  refine f_iload_n hC dX1_removeTicket_7 rfl 2 rfl ?_
  refine f_iconst (v := 1) hC dX1_removeTicket_8 (by decide) ?_
  refine f_iadd hC dX1_removeTicket_9 ?_
  refine f_istore_n (L' := [(3, .int (x1 + 1)), (2, .ref (gR w 604 (gR w 100 a0 0) (Int32.toNatClampNeg x1))), (0, .ref a0), (1, .int x1)]) hC dX1_removeTicket_10 rfl (by decide) rfl ?_
  obtain ⟨x10, h11, hF⟩ := fb_open hF
  have K12 : fSm x10 w → fAt X 0 0 4 x10 [(0, .ref a0), (2, .ref (gR w 604 (gR w 100 a0 0) (Int32.toNatClampNeg x1)))] [] 39 := by
    intro p8
    refine f_aload_n hC dX1_removeTicket_39 rfl 0 rfl ?_
    refine f_dup hC dX1_removeTicket_40 rfl ?_
    refine f_getI hC 1 1 101 rfl (by decide) iX1 q_218 rfl rfl (fSm.k p8 g1) dX1_removeTicket_41 ?_
    refine f_iconst (v := 1) hC dX1_removeTicket_44 (by decide) ?_
    refine f_isub hC dX1_removeTicket_45 ?_
    refine f_putI hC 1 1 101 rfl (by decide) iX1 tyX1 tyX1_ok nmX1 q_218 rfl rfl rfl rfl rfl (fSm.k p8 g1) dX1_removeTicket_46 ?_
    refine f_aload_n hC dX1_removeTicket_49 rfl 0 rfl ?_
    refine f_getR hC 1 0 100 rfl (by decide) iX1 q_216 rfl rfl (fSm.k p8 g1) dX1_removeTicket_50 ?_
    refine f_aload_n hC dX1_removeTicket_53 rfl 0 rfl ?_
    refine f_getI hC 1 1 101 rfl (by decide) iX1 q_218 rfl rfl (fSm.k p8 g1) dX1_removeTicket_54 ?_
    refine f_aload_n hC dX1_removeTicket_57 rfl 1 rfl ?_
    obtain ⟨g18, hF⟩ := fg_open hF
    obtain ⟨g19, hF⟩ := fg_open hF
    obtain ⟨g20, hF⟩ := fg_open hF
    refine f_aast1 hC (fSm.k p8 g18) (fSm.k p8 g19) (fSm.v p8 g20) dX1_removeTicket_58 ?_
    obtain rfl := Option.some.inj hF
    exact f_vret hC hEn p8 dX1_removeTicket_59
  refine f_sub (L' := [(0, .ref a0), (2, .ref (gR w 604 (gR w 100 a0 0) (Int32.toNatClampNeg x1))), (3, .int (x1 + 1))]) [2, 1, 0] rfl ?_
  refine fLoop_ind (fun (s4 : Int32 × FW) => fSm s4.2 w → fAt X 0 0 4 s4.2 [(0, .ref a0), (2, .ref (gR w 604 (gR w 100 a0 0) (Int32.toNatClampNeg x1))), (3, .int s4.1)] [] 11) (fun s4 y9 h5 go6 ou7 => ?_) h11 (fSm.rf w)
  intro p8
  refine f_iload_n hC dX1_removeTicket_11 rfl 2 rfl ?_
  refine f_aload_n hC dX1_removeTicket_12 rfl 0 rfl ?_
  refine f_getI hC 1 1 101 rfl (by decide) iX1 q_218 rfl rfl (fSm.k p8 g1) dX1_removeTicket_13 ?_
  refine f_icmp_ge hC 39 dX1_removeTicket_16 (by decide) (fun c13 => ?_) (fun c13 => ?_)
  · replace h5 := fi_pos h5 c13
    obtain rfl := Option.some.inj h5
    obtain rfl := ou7 _ rfl
    refine f_sub (L' := [(0, .ref a0), (2, .ref (gR w 604 (gR w 100 a0 0) (Int32.toNatClampNeg x1)))]) [0, 1] rfl ?_
    exact K12 p8
  · replace h5 := fi_neg h5 c13
    refine f_aload_n hC dX1_removeTicket_19 rfl 0 rfl ?_
    refine f_getR hC 1 0 100 rfl (by decide) iX1 q_216 rfl rfl (fSm.k p8 g1) dX1_removeTicket_20 ?_
    refine f_iload_n hC dX1_removeTicket_23 rfl 2 rfl ?_
    refine f_iconst (v := 1) hC dX1_removeTicket_24 (by decide) ?_
    refine f_isub hC dX1_removeTicket_25 ?_
    refine f_aload_n hC dX1_removeTicket_26 rfl 0 rfl ?_
    refine f_getR hC 1 0 100 rfl (by decide) iX1 q_216 rfl rfl (fSm.k p8 g1) dX1_removeTicket_27 ?_
    refine f_iload_n hC dX1_removeTicket_30 rfl 2 rfl ?_
    obtain ⟨g14, h5⟩ := fg_open h5
    obtain ⟨g15, h5⟩ := fg_open h5
    refine f_aald1 hC (fSm.k p8 g14) (fSm.v p8 g15) dX1_removeTicket_31 ?_
    obtain ⟨g16, h5⟩ := fg_open h5
    obtain ⟨g17, h5⟩ := fg_open h5
    refine f_aast1 hC (fSm.k p8 g14) (fSm.k p8 g16) (fSm.v p8 g17) dX1_removeTicket_32 ?_
    refine f_iinc (L' := [(3, .int (s4.1 + 1)), (0, .ref a0), (2, .ref (gR w 604 (gR w 100 a0 0) (Int32.toNatClampNeg x1)))]) hC dX1_removeTicket_33 2 rfl rfl (by decide) rfl ?_
    refine f_goto hC 11 dX1_removeTicket_36 (by decide) ?_
    obtain rfl := Option.some.inj h5
    refine f_sub (L' := [(0, .ref a0), (2, .ref (gR w 604 (gR w 100 a0 0) (Int32.toNatClampNeg x1))), (3, .int (s4.1 + 1))]) [1, 2, 0] rfl ?_
    exact go6 _ rfl p8
theorem dX4_tryThrowAway_0 : decode cX4_tryThrowAway 0 = .ok (.aload_n 0, 1) := by decide +kernel
theorem dX4_tryThrowAway_1 : decode cX4_tryThrowAway 1 = .ok (.getfield 12, 3) := by decide +kernel
theorem dX4_tryThrowAway_4 : decode cX4_tryThrowAway 4 = .ok (.iload_n 1, 1) := by decide +kernel
theorem dX4_tryThrowAway_5 : decode cX4_tryThrowAway 5 = .ok (.invokevirtual 407, 3) := by decide +kernel
theorem dX4_tryThrowAway_8 : decode cX4_tryThrowAway 8 = .ok (.ifCond .ne 5, 3) := by decide +kernel
theorem dX4_tryThrowAway_11 : decode cX4_tryThrowAway 11 = .ok (.iconst 1, 1) := by decide +kernel
theorem dX4_tryThrowAway_12 : decode cX4_tryThrowAway 12 = .ok (.ireturn, 1) := by decide +kernel
theorem dX4_tryThrowAway_13 : decode cX4_tryThrowAway 13 = .ok (.aload_n 0, 1) := by decide +kernel
theorem dX4_tryThrowAway_14 : decode cX4_tryThrowAway 14 = .ok (.getfield 12, 3) := by decide +kernel
theorem dX4_tryThrowAway_17 : decode cX4_tryThrowAway 17 = .ok (.iload_n 1, 1) := by decide +kernel
theorem dX4_tryThrowAway_18 : decode cX4_tryThrowAway 18 = .ok (.invokevirtual 410, 3) := by decide +kernel
theorem dX4_tryThrowAway_21 : decode cX4_tryThrowAway 21 = .ok (.iconst 0, 1) := by decide +kernel
theorem dX4_tryThrowAway_22 : decode cX4_tryThrowAway 22 = .ok (.ireturn, 1) := by decide +kernel
theorem h9_X4_tryThrowAway : yX4_tryThrowAway.cls ≠ "java/lang/invoke/MethodHandle" ∧ yX4_tryThrowAway.cls ≠ "java/lang/invoke/VarHandle" ∧ (parseMethodDescriptor yX4_tryThrowAway.desc).map (fun d => d.parameters.length) = some 1 := by decide +kernel
noncomputable def F_X4_tryThrowAway (a0 : Nat) (x1 : Int32) (w : FW) : Option (Int32 × FW) :=
  fg (w.1 a0 = 5) inferInstance (fg (w.1 (gR w 400 a0 0) = 2) inferInstance ((F_X1_hasTicket (gR w 400 a0 0) x1 w).bind (fun r2 => (if r2 = 0 then some (1, w) else (F_X1_removeTicket (gR w 400 a0 0) x1 w).bind (fun r7 => some (0, r7))))))
set_option maxHeartbeats 4000000 in
set_option maxRecDepth 100000 in
theorem c_X4_tryThrowAway (l : Launch) (D : va_G) (cy : Nat → ClassId) (a0 : Nat) (x1 : Int32) (w : FW) (r : Int32 × FW) (hF : F_X4_tryThrowAway a0 x1 w = some r) : fSpec l D cy yX4_tryThrowAway cX4_tryThrowAway 2 (some .int) { frames := 1, cells := 0, slots := 0, locals := 23 } [.ref a0, .int x1] w r.2 (some (.int r.1)) := by
  refine f_begin (by decide +kernel) (Nat.le_of_ble_eq_true rfl) (fun X hC hEn => ?_)
  unfold F_X4_tryThrowAway at hF
  show fAt X 0 0 2 w [(0, .ref a0), (1, .int x1)] [] 0
  refine f_aload_n hC dX4_tryThrowAway_0 rfl 0 rfl ?_
  obtain ⟨g1, hF⟩ := fg_open hF
  refine f_getR hC 4 0 400 rfl (by decide) iX4 q_260 rfl rfl (fSm.k (fSm.rf w) g1) dX4_tryThrowAway_1 ?_
  refine f_iload_n hC dX4_tryThrowAway_4 rfl 1 rfl ?_
  obtain ⟨g4, hF⟩ := fg_open hF
  obtain ⟨r2, h3, hF⟩ := fb_open hF
  refine f_callVN hC [.int x1] (c_X1_hasTicket l D cy (gR w 400 a0 0) x1 w r2 h3) q_408 q_74 q_405 q_407 q_2 h9_X1_hasTicket rfl (fSm.k (fSm.rf w) g4) ⟨Nat.le_of_ble_eq_true rfl, Nat.le_of_ble_eq_true rfl⟩ ⟨Nat.le_of_ble_eq_true rfl, Nat.le_of_ble_eq_true rfl⟩ (Nat.le_of_ble_eq_true rfl) rfl dX4_tryThrowAway_5 (fun e5 => ?_)
  refine f_if_ne hC 13 dX4_tryThrowAway_8 (by decide) (fun c6 => ?_) (fun c6 => ?_)
  · replace hF := fi_neg hF c6
    refine f_aload_n hC dX4_tryThrowAway_13 rfl 0 rfl ?_
    refine f_getR hC 4 0 400 rfl (by decide) iX4 q_260 rfl rfl (fSm.k (fSm.rf w) g1) dX4_tryThrowAway_14 ?_
    refine f_iload_n hC dX4_tryThrowAway_17 rfl 1 rfl ?_
    obtain ⟨r7, h8, hF⟩ := fb_open hF
    refine f_callVN hC [.int x1] (c_X1_removeTicket l D cy (gR w 400 a0 0) x1 w r7 h8) q_1043 q_74 q_1040 q_1042 q_50 h9_X1_removeTicket rfl (fSm.k (fSm.rf w) g4) ⟨Nat.le_of_ble_eq_true rfl, Nat.le_of_ble_eq_true rfl⟩ ⟨Nat.le_of_ble_eq_true rfl, Nat.le_of_ble_eq_true rfl⟩ (Nat.le_of_ble_eq_true rfl) rfl dX4_tryThrowAway_18 (fun e9 => ?_)
    refine f_iconst (v := 0) hC dX4_tryThrowAway_21 (by decide) ?_
    obtain rfl := Option.some.inj hF
    exact f_iret hC hEn (fSm.tr e9 (fSm.rf w)) dX4_tryThrowAway_22
  · replace hF := fi_pos hF c6
    refine f_iconst (v := 1) hC dX4_tryThrowAway_11 (by decide) ?_
    obtain rfl := Option.some.inj hF
    exact f_iret hC hEn (fSm.rf w) dX4_tryThrowAway_12
theorem dX4_throwAway_0 : decode cX4_throwAway 0 = .ok (.aload_n 0, 1) := by decide +kernel
theorem dX4_throwAway_1 : decode cX4_throwAway 1 = .ok (.invokevirtual 72, 3) := by decide +kernel
theorem dX4_throwAway_4 : decode cX4_throwAway 4 = .ok (.aload_n 0, 1) := by decide +kernel
theorem dX4_throwAway_5 : decode cX4_throwAway 5 = .ok (.aload_n 0, 1) := by decide +kernel
theorem dX4_throwAway_6 : decode cX4_throwAway 6 = .ok (.iload_n 1, 1) := by decide +kernel
theorem dX4_throwAway_7 : decode cX4_throwAway 7 = .ok (.invokevirtual 97, 3) := by decide +kernel
theorem dX4_throwAway_10 : decode cX4_throwAway 10 = .ok (.invokevirtual 79, 3) := by decide +kernel
theorem dX4_throwAway_13 : decode cX4_throwAway 13 = .ok (.aload_n 0, 1) := by decide +kernel
theorem dX4_throwAway_14 : decode cX4_throwAway 14 = .ok (.getfield 12, 3) := by decide +kernel
theorem dX4_throwAway_17 : decode cX4_throwAway 17 = .ok (.getfield 66, 3) := by decide +kernel
theorem dX4_throwAway_20 : decode cX4_throwAway 20 = .ok (.ireturn, 1) := by decide +kernel
theorem h9_X4_throwAway : yX4_throwAway.cls ≠ "java/lang/invoke/MethodHandle" ∧ yX4_throwAway.cls ≠ "java/lang/invoke/VarHandle" ∧ (parseMethodDescriptor yX4_throwAway.desc).map (fun d => d.parameters.length) = some 1 := by decide +kernel
noncomputable def F_X4_throwAway (a0 : Nat) (x1 : Int32) (w : FW) : Option ((Int32 ⊕ Nat) × FW) :=
  fg (w.1 a0 = 5) inferInstance ((F_X4_begin a0 w).bind (fun r1 => (F_X4_tryThrowAway a0 x1 r1).bind (fun r5 => (F_X4_settle a0 r5.1 r5.2).bind (fun r8 => fse r8.1 (fun v11 => fg (w.1 (gR r8.2 400 a0 0) = 2) inferInstance (some ((.inl (gI r8.2 101 (gR r8.2 400 a0 0) 0)), r8.2))) (fun x12 => some (.inr x12, r8.2))))))
set_option maxHeartbeats 4000000 in
set_option maxRecDepth 100000 in
theorem c_X4_throwAway (l : Launch) (D : va_G) (cy : Nat → ClassId) (a0 : Nat) (x1 : Int32) (w : FW) (r : (Int32 ⊕ Nat) × FW) (hF : F_X4_throwAway a0 x1 w = some r) : fSpecX l D cy yX4_throwAway cX4_throwAway 2 (some .int) { frames := 7, cells := 1, slots := 6, locals := 121 } [.ref a0, .int x1] w r.2 (fOI r.1) := by
  refine f_beginX (by decide +kernel) (Nat.le_of_ble_eq_true rfl) (fun X hC hEn => ?_)
  have hst := f_st hC hEn
  unfold F_X4_throwAway at hF
  show fAt X 0 0 2 w [(0, .ref a0), (1, .int x1)] [] 0
  refine f_aload_n hC dX4_throwAway_0 rfl 0 rfl ?_
  obtain ⟨g3, hF⟩ := fg_open hF
  obtain ⟨r1, h2, hF⟩ := fb_open hF
  refine f_callV hC [] (c_X4_begin l D cy a0 w r1 h2) q_932 q_73 q_929 q_931 q_25 h9_X4_begin rfl (fSm.k (fSm.rf w) g3) ⟨Nat.le_of_ble_eq_true rfl, Nat.le_of_ble_eq_true rfl⟩ ⟨Nat.le_of_ble_eq_true rfl, Nat.le_of_ble_eq_true rfl⟩ (Nat.le_of_ble_eq_true rfl) rfl dX4_throwAway_1 (fun e4 => ?_)
  refine f_aload_n hC dX4_throwAway_4 rfl 0 rfl ?_
  refine f_aload_n hC dX4_throwAway_5 rfl 0 rfl ?_
  refine f_iload_n hC dX4_throwAway_6 rfl 1 rfl ?_
  obtain ⟨r5, h6, hF⟩ := fb_open hF
  refine f_callV hC [.int x1] (c_X4_tryThrowAway l D cy a0 x1 r1 r5 h6) q_1039 q_73 q_1036 q_1038 q_49 h9_X4_tryThrowAway rfl (fSm.k (fSm.tr e4 (fSm.rf w)) g3) ⟨Nat.le_of_ble_eq_true rfl, Nat.le_of_ble_eq_true rfl⟩ ⟨Nat.le_of_ble_eq_true rfl, Nat.le_of_ble_eq_true rfl⟩ (Nat.le_of_ble_eq_true rfl) rfl dX4_throwAway_7 (fun e7 => ?_)
  obtain ⟨r8, h9, hF⟩ := fb_open hF
  obtain ⟨o14, w13⟩ := r8
  rcases o14 with v11 | x12
  · refine f_callVR hC [.int r5.1] hst (c_X4_settle l D cy a0 r5.1 r5.2 (.inl v11, w13) h9) q_1082 q_73 q_1079 q_1081 q_54 h9_X4_settle rfl (fSm.k (fSm.tr e7 (fSm.tr e4 (fSm.rf w))) g3) ⟨Nat.le_of_ble_eq_true rfl, Nat.le_of_ble_eq_true rfl⟩ ⟨Nat.le_of_ble_eq_true rfl, Nat.le_of_ble_eq_true rfl⟩ (Nat.le_of_ble_eq_true rfl) rfl dX4_throwAway_10 (fun e10 => ?_)
    refine f_aload_n hC dX4_throwAway_13 rfl 0 rfl ?_
    refine f_getR hC 4 0 400 rfl (by decide) iX4 q_260 rfl rfl (fSm.k (fSm.tr e10 (fSm.tr e7 (fSm.tr e4 (fSm.rf w)))) g3) dX4_throwAway_14 ?_
    obtain ⟨g15, hF⟩ := fg_open hF
    refine f_getIN hC 1 1 101 rfl (by decide) iX1 q_219 rfl rfl (fSm.k (fSm.tr e10 (fSm.tr e7 (fSm.tr e4 (fSm.rf w)))) g15) dX4_throwAway_17 ?_
    obtain rfl := Option.some.inj hF
    exact f_iretX hC hEn (fSm.tr e10 (fSm.tr e7 (fSm.tr e4 (fSm.rf w)))) dX4_throwAway_20
  · obtain rfl := Option.some.inj hF
    exact f_callVT hC [.int r5.1] hEn (fSm.tr e7 (fSm.tr e4 (fSm.rf w))) (Nat.le_of_ble_eq_true rfl) (Nat.le_of_ble_eq_true rfl) (c_X4_settle l D cy a0 r5.1 r5.2 (.inr x12, w13) h9) q_1082 q_73 q_1079 q_1081 q_54 h9_X4_settle rfl (fSm.k (fSm.tr e7 (fSm.tr e4 (fSm.rf w))) g3) ⟨Nat.le_of_ble_eq_true rfl, Nat.le_of_ble_eq_true rfl⟩ ⟨Nat.le_of_ble_eq_true rfl, Nat.le_of_ble_eq_true rfl⟩ (Nat.le_of_ble_eq_true rfl) rfl dX4_throwAway_10
theorem dX4_isPuncher_0 : decode cX4_isPuncher 0 = .ok (.iload_n 0, 1) := by decide +kernel
theorem dX4_isPuncher_1 : decode cX4_isPuncher 1 = .ok (.ifCond .lt 12, 3) := by decide +kernel
theorem dX4_isPuncher_4 : decode cX4_isPuncher 4 = .ok (.iload_n 0, 1) := by decide +kernel
theorem dX4_isPuncher_5 : decode cX4_isPuncher 5 = .ok (.iconst 3, 1) := by decide +kernel
theorem dX4_isPuncher_6 : decode cX4_isPuncher 6 = .ok (.if_icmp .ge 7, 3) := by decide +kernel
theorem dX4_isPuncher_9 : decode cX4_isPuncher 9 = .ok (.iconst 1, 1) := by decide +kernel
theorem dX4_isPuncher_10 : decode cX4_isPuncher 10 = .ok (.goto 4, 3) := by decide +kernel
theorem dX4_isPuncher_13 : decode cX4_isPuncher 13 = .ok (.iconst 0, 1) := by decide +kernel
theorem dX4_isPuncher_14 : decode cX4_isPuncher 14 = .ok (.ireturn, 1) := by decide +kernel
theorem h9_X4_isPuncher : yX4_isPuncher.cls ≠ "java/lang/invoke/MethodHandle" ∧ yX4_isPuncher.cls ≠ "java/lang/invoke/VarHandle" ∧ (parseMethodDescriptor yX4_isPuncher.desc).map (fun d => d.parameters.length) = some 1 := by decide +kernel
noncomputable def F_X4_isPuncher (x1 : Int32) (w : FW) : Option (Int32) :=
  (if x1 < 0 then some 0 else (if 3 ≤ x1 then some 0 else some 1))
set_option maxHeartbeats 4000000 in
set_option maxRecDepth 100000 in
theorem c_X4_isPuncher (l : Launch) (D : va_G) (cy : Nat → ClassId) (x1 : Int32) (w : FW) (r : Int32) (hF : F_X4_isPuncher x1 w = some r) : fSpec l D cy yX4_isPuncher cX4_isPuncher 1 (some .boolean) { frames := 0, cells := 0, slots := 0, locals := 0 } [.int x1] w w (some (.int r)) := by
  refine f_begin (by decide +kernel) (Nat.le_of_ble_eq_true rfl) (fun X hC hEn => ?_)
  unfold F_X4_isPuncher at hF
  show fAt X 0 0 1 w [(0, .int x1)] [] 0
  refine f_iload_n hC dX4_isPuncher_0 rfl 0 rfl ?_
  refine f_if_lt hC 13 dX4_isPuncher_1 (by decide) (fun c1 => ?_) (fun c1 => ?_)
  · replace hF := fi_pos hF c1
    refine f_iconst (v := 0) hC dX4_isPuncher_13 (by decide) ?_
    obtain rfl := Option.some.inj hF
    exact f_zret hC hEn (fSm.rf w) (nar_z (by decide)) dX4_isPuncher_14
  · replace hF := fi_neg hF c1
    refine f_iload_n hC dX4_isPuncher_4 rfl 0 rfl ?_
    refine f_iconst (v := 3) hC dX4_isPuncher_5 (by decide) ?_
    refine f_icmp_ge hC 13 dX4_isPuncher_6 (by decide) (fun c2 => ?_) (fun c2 => ?_)
    · replace hF := fi_pos hF c2
      refine f_iconst (v := 0) hC dX4_isPuncher_13 (by decide) ?_
      obtain rfl := Option.some.inj hF
      exact f_zret hC hEn (fSm.rf w) (nar_z (by decide)) dX4_isPuncher_14
    · replace hF := fi_neg hF c2
      refine f_iconst (v := 1) hC dX4_isPuncher_9 (by decide) ?_
      refine f_goto hC 14 dX4_isPuncher_10 (by decide) ?_
      obtain rfl := Option.some.inj hF
      exact f_zret hC hEn (fSm.rf w) (nar_z (by decide)) dX4_isPuncher_14
theorem dX1_moodOf_0 : decode cX1_moodOf 0 = .ok (.iload_n 1, 1) := by decide +kernel
theorem dX1_moodOf_1 : decode cX1_moodOf 1 = .ok (.invokestatic 62, 3) := by decide +kernel
theorem dX1_moodOf_4 : decode cX1_moodOf 4 = .ok (.ifCond .eq 12, 3) := by decide +kernel
theorem dX1_moodOf_7 : decode cX1_moodOf 7 = .ok (.aload_n 0, 1) := by decide +kernel
theorem dX1_moodOf_8 : decode cX1_moodOf 8 = .ok (.getfield 28, 3) := by decide +kernel
theorem dX1_moodOf_11 : decode cX1_moodOf 11 = .ok (.iload_n 1, 1) := by decide +kernel
theorem dX1_moodOf_12 : decode cX1_moodOf 12 = .ok (.iaload, 1) := by decide +kernel
theorem dX1_moodOf_13 : decode cX1_moodOf 13 = .ok (.goto 4, 3) := by decide +kernel
theorem dX1_moodOf_16 : decode cX1_moodOf 16 = .ok (.iconst (-1), 1) := by decide +kernel
theorem dX1_moodOf_17 : decode cX1_moodOf 17 = .ok (.ireturn, 1) := by decide +kernel
theorem h9_X1_moodOf : yX1_moodOf.cls ≠ "java/lang/invoke/MethodHandle" ∧ yX1_moodOf.cls ≠ "java/lang/invoke/VarHandle" ∧ (parseMethodDescriptor yX1_moodOf.desc).map (fun d => d.parameters.length) = some 1 := by decide +kernel
noncomputable def F_X1_moodOf (a0 : Nat) (x1 : Int32) (w : FW) : Option (Int32) :=
  (F_X4_isPuncher x1 w).bind (fun r1 => (if r1 = 0 then some (-1) else fg (w.1 a0 = 2) inferInstance (fg (w.1 (gR w 103 a0 0) = 11) inferInstance (fg (¬ (x1 < 0 ∨ w.2.1 (gR w 103 a0 0) ≤ Int32.toNatClampNeg x1)) inferInstance (some (gI w 601 (gR w 103 a0 0) (Int32.toNatClampNeg x1)))))))
set_option maxHeartbeats 4000000 in
set_option maxRecDepth 100000 in
theorem c_X1_moodOf (l : Launch) (D : va_G) (cy : Nat → ClassId) (a0 : Nat) (x1 : Int32) (w : FW) (r : Int32) (hF : F_X1_moodOf a0 x1 w = some r) : fSpec l D cy yX1_moodOf cX1_moodOf 2 (some .int) { frames := 1, cells := 0, slots := 0, locals := 20 } [.ref a0, .int x1] w w (some (.int r)) := by
  refine f_begin (by decide +kernel) (Nat.le_of_ble_eq_true rfl) (fun X hC hEn => ?_)
  unfold F_X1_moodOf at hF
  show fAt X 0 0 2 w [(0, .ref a0), (1, .int x1)] [] 0
  refine f_iload_n hC dX1_moodOf_0 rfl 1 rfl ?_
  obtain ⟨r1, h2, hF⟩ := fb_open hF
  refine f_callSN hC [.int x1] (c_X4_isPuncher l D cy x1 w r1 h2) q_999 q_73 q_1115 q_998 h9_X4_isPuncher ⟨Nat.le_of_ble_eq_true rfl, Nat.le_of_ble_eq_true rfl⟩ ⟨Nat.le_of_ble_eq_true rfl, Nat.le_of_ble_eq_true rfl⟩ (Nat.le_of_ble_eq_true rfl) rfl dX1_moodOf_1 (fun e3 => ?_)
  refine f_if_eq hC 16 dX1_moodOf_4 (by decide) (fun c4 => ?_) (fun c4 => ?_)
  · replace hF := fi_pos hF c4
    refine f_iconst (v := (-1)) hC dX1_moodOf_16 (by decide) ?_
    obtain rfl := Option.some.inj hF
    exact f_iret hC hEn (fSm.rf w) dX1_moodOf_17
  · replace hF := fi_neg hF c4
    refine f_aload_n hC dX1_moodOf_7 rfl 0 rfl ?_
    obtain ⟨g5, hF⟩ := fg_open hF
    refine f_getR hC 1 3 103 rfl (by decide) iX1 q_222 rfl rfl (fSm.k (fSm.rf w) g5) dX1_moodOf_8 ?_
    refine f_iload_n hC dX1_moodOf_11 rfl 1 rfl ?_
    obtain ⟨g6, hF⟩ := fg_open hF
    obtain ⟨g7, hF⟩ := fg_open hF
    refine f_iald hC (fSm.k (fSm.rf w) g6) (fSm.v (fSm.rf w) g7) dX1_moodOf_12 ?_
    refine f_goto hC 17 dX1_moodOf_13 (by decide) ?_
    obtain rfl := Option.some.inj hF
    exact f_iret hC hEn (fSm.rf w) dX1_moodOf_17
theorem dX4_tryMood_0 : decode cX4_tryMood 0 = .ok (.iload_n 1, 1) := by decide +kernel
theorem dX4_tryMood_1 : decode cX4_tryMood 1 = .ok (.invokestatic 413, 3) := by decide +kernel
theorem dX4_tryMood_4 : decode cX4_tryMood 4 = .ok (.ifCond .ne 5, 3) := by decide +kernel
theorem dX4_tryMood_7 : decode cX4_tryMood 7 = .ok (.iconst 1, 1) := by decide +kernel
theorem dX4_tryMood_8 : decode cX4_tryMood 8 = .ok (.ireturn, 1) := by decide +kernel
theorem dX4_tryMood_9 : decode cX4_tryMood 9 = .ok (.iload_n 2, 1) := by decide +kernel
theorem dX4_tryMood_10 : decode cX4_tryMood 10 = .ok (.ifCond .lt 8, 3) := by decide +kernel
theorem dX4_tryMood_13 : decode cX4_tryMood 13 = .ok (.iload_n 2, 1) := by decide +kernel
theorem dX4_tryMood_14 : decode cX4_tryMood 14 = .ok (.iconst 5, 1) := by decide +kernel
theorem dX4_tryMood_15 : decode cX4_tryMood 15 = .ok (.if_icmp .lt 5, 3) := by decide +kernel
theorem dX4_tryMood_18 : decode cX4_tryMood 18 = .ok (.iconst 2, 1) := by decide +kernel
theorem dX4_tryMood_19 : decode cX4_tryMood 19 = .ok (.ireturn, 1) := by decide +kernel
theorem dX4_tryMood_20 : decode cX4_tryMood 20 = .ok (.aload_n 0, 1) := by decide +kernel
theorem dX4_tryMood_21 : decode cX4_tryMood 21 = .ok (.getfield 12, 3) := by decide +kernel
theorem dX4_tryMood_24 : decode cX4_tryMood 24 = .ok (.getfield 416, 3) := by decide +kernel
theorem dX4_tryMood_27 : decode cX4_tryMood 27 = .ok (.iload_n 1, 1) := by decide +kernel
theorem dX4_tryMood_28 : decode cX4_tryMood 28 = .ok (.iaload, 1) := by decide +kernel
theorem dX4_tryMood_29 : decode cX4_tryMood 29 = .ok (.iload_n 2, 1) := by decide +kernel
theorem dX4_tryMood_30 : decode cX4_tryMood 30 = .ok (.if_icmp .ne 10, 3) := by decide +kernel
theorem dX4_tryMood_33 : decode cX4_tryMood 33 = .ok (.aload_n 0, 1) := by decide +kernel
theorem dX4_tryMood_34 : decode cX4_tryMood 34 = .ok (.iconst 3, 1) := by decide +kernel
theorem dX4_tryMood_35 : decode cX4_tryMood 35 = .ok (.iload_n 2, 1) := by decide +kernel
theorem dX4_tryMood_36 : decode cX4_tryMood 36 = .ok (.invokevirtual 394, 3) := by decide +kernel
theorem dX4_tryMood_39 : decode cX4_tryMood 39 = .ok (.ireturn, 1) := by decide +kernel
theorem dX4_tryMood_40 : decode cX4_tryMood 40 = .ok (.aload_n 0, 1) := by decide +kernel
theorem dX4_tryMood_41 : decode cX4_tryMood 41 = .ok (.getfield 12, 3) := by decide +kernel
theorem dX4_tryMood_44 : decode cX4_tryMood 44 = .ok (.getfield 416, 3) := by decide +kernel
theorem dX4_tryMood_47 : decode cX4_tryMood 47 = .ok (.iload_n 1, 1) := by decide +kernel
theorem dX4_tryMood_48 : decode cX4_tryMood 48 = .ok (.iload_n 2, 1) := by decide +kernel
theorem dX4_tryMood_49 : decode cX4_tryMood 49 = .ok (.iastore, 1) := by decide +kernel
theorem dX4_tryMood_50 : decode cX4_tryMood 50 = .ok (.iconst 0, 1) := by decide +kernel
theorem dX4_tryMood_51 : decode cX4_tryMood 51 = .ok (.ireturn, 1) := by decide +kernel
theorem h9_X4_tryMood : yX4_tryMood.cls ≠ "java/lang/invoke/MethodHandle" ∧ yX4_tryMood.cls ≠ "java/lang/invoke/VarHandle" ∧ (parseMethodDescriptor yX4_tryMood.desc).map (fun d => d.parameters.length) = some 2 := by decide +kernel
noncomputable def F_X4_tryMood (a0 : Nat) (x1 : Int32) (x2 : Int32) (w : FW) : Option (Int32 × FW) :=
  (F_X4_isPuncher x1 w).bind (fun r1 => (if r1 = 0 then some (1, w) else (if x2 < 0 then some (2, w) else (if x2 < 5 then fg (w.1 a0 = 5) inferInstance (fg (w.1 (gR w 400 a0 0) = 2) inferInstance (fg (w.1 (gR w 103 (gR w 400 a0 0) 0) = 11) inferInstance (fg (¬ (x1 < 0 ∨ w.2.1 (gR w 103 (gR w 400 a0 0) 0) ≤ Int32.toNatClampNeg x1)) inferInstance ((if (gI w 601 (gR w 103 (gR w 400 a0 0) 0) (Int32.toNatClampNeg x1)) = x2 then (F_X4_refuse a0 3 x2 w).bind (fun r12 => some (r12.1, r12.2)) else some (0, (sI w 601 (gR w 103 (gR w 400 a0 0) 0) (Int32.toNatClampNeg x1) x2))))))) else some (2, w)))))
set_option maxHeartbeats 4000000 in
set_option maxRecDepth 100000 in
theorem c_X4_tryMood (l : Launch) (D : va_G) (cy : Nat → ClassId) (a0 : Nat) (x1 : Int32) (x2 : Int32) (w : FW) (r : Int32 × FW) (hF : F_X4_tryMood a0 x1 x2 w = some r) : fSpec l D cy yX4_tryMood cX4_tryMood 3 (some .int) { frames := 1, cells := 0, slots := 0, locals := 22 } [.ref a0, .int x1, .int x2] w r.2 (some (.int r.1)) := by
  refine f_begin (by decide +kernel) (Nat.le_of_ble_eq_true rfl) (fun X hC hEn => ?_)
  unfold F_X4_tryMood at hF
  show fAt X 0 0 3 w [(0, .ref a0), (1, .int x1), (2, .int x2)] [] 0
  refine f_iload_n hC dX4_tryMood_0 rfl 1 rfl ?_
  obtain ⟨r1, h2, hF⟩ := fb_open hF
  refine f_callS hC [.int x1] (c_X4_isPuncher l D cy x1 w r1 h2) q_999 q_73 q_997 q_998 h9_X4_isPuncher ⟨Nat.le_of_ble_eq_true rfl, Nat.le_of_ble_eq_true rfl⟩ ⟨Nat.le_of_ble_eq_true rfl, Nat.le_of_ble_eq_true rfl⟩ (Nat.le_of_ble_eq_true rfl) rfl dX4_tryMood_1 (fun e3 => ?_)
  refine f_if_ne hC 9 dX4_tryMood_4 (by decide) (fun c4 => ?_) (fun c4 => ?_)
  · replace hF := fi_neg hF c4
    refine f_iload_n hC dX4_tryMood_9 rfl 2 rfl ?_
    refine f_if_lt hC 18 dX4_tryMood_10 (by decide) (fun c5 => ?_) (fun c5 => ?_)
    · replace hF := fi_pos hF c5
      refine f_iconst (v := 2) hC dX4_tryMood_18 (by decide) ?_
      obtain rfl := Option.some.inj hF
      exact f_iret hC hEn (fSm.rf w) dX4_tryMood_19
    · replace hF := fi_neg hF c5
      refine f_iload_n hC dX4_tryMood_13 rfl 2 rfl ?_
      refine f_iconst (v := 5) hC dX4_tryMood_14 (by decide) ?_
      refine f_icmp_lt hC 20 dX4_tryMood_15 (by decide) (fun c6 => ?_) (fun c6 => ?_)
      · replace hF := fi_pos hF c6
        refine f_aload_n hC dX4_tryMood_20 rfl 0 rfl ?_
        obtain ⟨g7, hF⟩ := fg_open hF
        refine f_getR hC 4 0 400 rfl (by decide) iX4 q_260 rfl rfl (fSm.k (fSm.rf w) g7) dX4_tryMood_21 ?_
        obtain ⟨g8, hF⟩ := fg_open hF
        refine f_getRN hC 1 3 103 rfl (by decide) iX1 q_223 rfl rfl (fSm.k (fSm.rf w) g8) dX4_tryMood_24 ?_
        refine f_iload_n hC dX4_tryMood_27 rfl 1 rfl ?_
        obtain ⟨g9, hF⟩ := fg_open hF
        obtain ⟨g10, hF⟩ := fg_open hF
        refine f_iald hC (fSm.k (fSm.rf w) g9) (fSm.v (fSm.rf w) g10) dX4_tryMood_28 ?_
        refine f_iload_n hC dX4_tryMood_29 rfl 2 rfl ?_
        refine f_icmp_ne hC 40 dX4_tryMood_30 (by decide) (fun c11 => ?_) (fun c11 => ?_)
        · replace hF := fi_neg hF c11
          refine f_aload_n hC dX4_tryMood_40 rfl 0 rfl ?_
          refine f_getR hC 4 0 400 rfl (by decide) iX4 q_260 rfl rfl (fSm.k (fSm.rf w) g7) dX4_tryMood_41 ?_
          refine f_getRN hC 1 3 103 rfl (by decide) iX1 q_223 rfl rfl (fSm.k (fSm.rf w) g8) dX4_tryMood_44 ?_
          refine f_iload_n hC dX4_tryMood_47 rfl 1 rfl ?_
          refine f_iload_n hC dX4_tryMood_48 rfl 2 rfl ?_
          refine f_iast hC (fSm.k (fSm.rf w) g9) (fSm.v (fSm.rf w) g10) dX4_tryMood_49 ?_
          refine f_iconst (v := 0) hC dX4_tryMood_50 (by decide) ?_
          obtain rfl := Option.some.inj hF
          exact f_iret hC hEn (fSm.rf w) dX4_tryMood_51
        · replace hF := fi_pos hF c11
          refine f_aload_n hC dX4_tryMood_33 rfl 0 rfl ?_
          refine f_iconst (v := 3) hC dX4_tryMood_34 (by decide) ?_
          refine f_iload_n hC dX4_tryMood_35 rfl 2 rfl ?_
          obtain ⟨r12, h13, hF⟩ := fb_open hF
          refine f_callV hC [.int 3, .int x2] (c_X4_refuse l D cy a0 3 x2 w r12 h13) q_984 q_73 q_981 q_983 q_37 h9_X4_refuse rfl (fSm.k (fSm.rf w) g7) ⟨Nat.le_of_ble_eq_true rfl, Nat.le_of_ble_eq_true rfl⟩ ⟨Nat.le_of_ble_eq_true rfl, Nat.le_of_ble_eq_true rfl⟩ (Nat.le_of_ble_eq_true rfl) rfl dX4_tryMood_36 (fun e14 => ?_)
          obtain rfl := Option.some.inj hF
          exact f_iret hC hEn (fSm.tr e14 (fSm.rf w)) dX4_tryMood_39
      · replace hF := fi_neg hF c6
        refine f_iconst (v := 2) hC dX4_tryMood_18 (by decide) ?_
        obtain rfl := Option.some.inj hF
        exact f_iret hC hEn (fSm.rf w) dX4_tryMood_19
  · replace hF := fi_pos hF c4
    refine f_iconst (v := 1) hC dX4_tryMood_7 (by decide) ?_
    obtain rfl := Option.some.inj hF
    exact f_iret hC hEn (fSm.rf w) dX4_tryMood_8
theorem dX4_mood_0 : decode cX4_mood 0 = .ok (.aload_n 0, 1) := by decide +kernel
theorem dX4_mood_1 : decode cX4_mood 1 = .ok (.getfield 12, 3) := by decide +kernel
theorem dX4_mood_4 : decode cX4_mood 4 = .ok (.iload_n 1, 1) := by decide +kernel
theorem dX4_mood_5 : decode cX4_mood 5 = .ok (.invokevirtual 101, 3) := by decide +kernel
theorem dX4_mood_8 : decode cX4_mood 8 = .ok (.istore_n 3, 1) := by decide +kernel
theorem dX4_mood_9 : decode cX4_mood 9 = .ok (.aload_n 0, 1) := by decide +kernel
theorem dX4_mood_10 : decode cX4_mood 10 = .ok (.invokevirtual 72, 3) := by decide +kernel
theorem dX4_mood_13 : decode cX4_mood 13 = .ok (.aload_n 0, 1) := by decide +kernel
theorem dX4_mood_14 : decode cX4_mood 14 = .ok (.aload_n 0, 1) := by decide +kernel
theorem dX4_mood_15 : decode cX4_mood 15 = .ok (.iload_n 1, 1) := by decide +kernel
theorem dX4_mood_16 : decode cX4_mood 16 = .ok (.iload_n 2, 1) := by decide +kernel
theorem dX4_mood_17 : decode cX4_mood 17 = .ok (.invokevirtual 104, 3) := by decide +kernel
theorem dX4_mood_20 : decode cX4_mood 20 = .ok (.invokevirtual 79, 3) := by decide +kernel
theorem dX4_mood_23 : decode cX4_mood 23 = .ok (.iload_n 3, 1) := by decide +kernel
theorem dX4_mood_24 : decode cX4_mood 24 = .ok (.ireturn, 1) := by decide +kernel
theorem h9_X4_mood : yX4_mood.cls ≠ "java/lang/invoke/MethodHandle" ∧ yX4_mood.cls ≠ "java/lang/invoke/VarHandle" ∧ (parseMethodDescriptor yX4_mood.desc).map (fun d => d.parameters.length) = some 2 := by decide +kernel
noncomputable def F_X4_mood (a0 : Nat) (x1 : Int32) (x2 : Int32) (w : FW) : Option ((Int32 ⊕ Nat) × FW) :=
  fg (w.1 a0 = 5) inferInstance (fg (w.1 (gR w 400 a0 0) = 2) inferInstance ((F_X1_moodOf (gR w 400 a0 0) x1 w).bind (fun r2 => (F_X4_begin a0 w).bind (fun r6 => (F_X4_tryMood a0 x1 x2 r6).bind (fun r9 => (F_X4_settle a0 r9.1 r9.2).bind (fun r12 => fse r12.1 (fun v15 => some ((.inl r2), r12.2)) (fun x16 => some (.inr x16, r12.2))))))))
set_option maxHeartbeats 4000000 in
set_option maxRecDepth 100000 in
theorem c_X4_mood (l : Launch) (D : va_G) (cy : Nat → ClassId) (a0 : Nat) (x1 : Int32) (x2 : Int32) (w : FW) (r : (Int32 ⊕ Nat) × FW) (hF : F_X4_mood a0 x1 x2 w = some r) : fSpecX l D cy yX4_mood cX4_mood 4 (some .int) { frames := 7, cells := 1, slots := 6, locals := 121 } [.ref a0, .int x1, .int x2] w r.2 (fOI r.1) := by
  refine f_beginX (by decide +kernel) (Nat.le_of_ble_eq_true rfl) (fun X hC hEn => ?_)
  have hst := f_st hC hEn
  unfold F_X4_mood at hF
  show fAt X 0 0 4 w [(0, .ref a0), (1, .int x1), (2, .int x2)] [] 0
  refine f_aload_n hC dX4_mood_0 rfl 0 rfl ?_
  obtain ⟨g1, hF⟩ := fg_open hF
  refine f_getR hC 4 0 400 rfl (by decide) iX4 q_260 rfl rfl (fSm.k (fSm.rf w) g1) dX4_mood_1 ?_
  refine f_iload_n hC dX4_mood_4 rfl 1 rfl ?_
  obtain ⟨g4, hF⟩ := fg_open hF
  obtain ⟨r2, h3, hF⟩ := fb_open hF
  refine f_callVN hC [.int x1] (c_X1_moodOf l D cy (gR w 400 a0 0) x1 w r2 h3) q_1114 q_74 q_1111 q_1113 q_56 h9_X1_moodOf rfl (fSm.k (fSm.rf w) g4) ⟨Nat.le_of_ble_eq_true rfl, Nat.le_of_ble_eq_true rfl⟩ ⟨Nat.le_of_ble_eq_true rfl, Nat.le_of_ble_eq_true rfl⟩ (Nat.le_of_ble_eq_true rfl) rfl dX4_mood_5 (fun e5 => ?_)
  refine f_istore_n (L' := [(3, .int r2), (0, .ref a0), (1, .int x1), (2, .int x2)]) hC dX4_mood_8 rfl (by decide) rfl ?_
  refine f_aload_n hC dX4_mood_9 rfl 1 rfl ?_
  obtain ⟨r6, h7, hF⟩ := fb_open hF
  refine f_callV hC [] (c_X4_begin l D cy a0 w r6 h7) q_932 q_73 q_929 q_931 q_25 h9_X4_begin rfl (fSm.k (fSm.rf w) g1) ⟨Nat.le_of_ble_eq_true rfl, Nat.le_of_ble_eq_true rfl⟩ ⟨Nat.le_of_ble_eq_true rfl, Nat.le_of_ble_eq_true rfl⟩ (Nat.le_of_ble_eq_true rfl) rfl dX4_mood_10 (fun e8 => ?_)
  refine f_aload_n hC dX4_mood_13 rfl 1 rfl ?_
  refine f_aload_n hC dX4_mood_14 rfl 1 rfl ?_
  refine f_iload_n hC dX4_mood_15 rfl 2 rfl ?_
  refine f_iload_n hC dX4_mood_16 rfl 3 rfl ?_
  obtain ⟨r9, h10, hF⟩ := fb_open hF
  refine f_callV hC [.int x1, .int x2] (c_X4_tryMood l D cy a0 x1 x2 r6 r9 h10) q_1031 q_73 q_1028 q_1030 q_47 h9_X4_tryMood rfl (fSm.k (fSm.tr e8 (fSm.rf w)) g1) ⟨Nat.le_of_ble_eq_true rfl, Nat.le_of_ble_eq_true rfl⟩ ⟨Nat.le_of_ble_eq_true rfl, Nat.le_of_ble_eq_true rfl⟩ (Nat.le_of_ble_eq_true rfl) rfl dX4_mood_17 (fun e11 => ?_)
  obtain ⟨r12, h13, hF⟩ := fb_open hF
  obtain ⟨o18, w17⟩ := r12
  rcases o18 with v15 | x16
  · refine f_callVR hC [.int r9.1] hst (c_X4_settle l D cy a0 r9.1 r9.2 (.inl v15, w17) h13) q_1082 q_73 q_1079 q_1081 q_54 h9_X4_settle rfl (fSm.k (fSm.tr e11 (fSm.tr e8 (fSm.rf w))) g1) ⟨Nat.le_of_ble_eq_true rfl, Nat.le_of_ble_eq_true rfl⟩ ⟨Nat.le_of_ble_eq_true rfl, Nat.le_of_ble_eq_true rfl⟩ (Nat.le_of_ble_eq_true rfl) rfl dX4_mood_20 (fun e14 => ?_)
    refine f_iload_n hC dX4_mood_23 rfl 0 rfl ?_
    obtain rfl := Option.some.inj hF
    exact f_iretX hC hEn (fSm.tr e14 (fSm.tr e11 (fSm.tr e8 (fSm.rf w)))) dX4_mood_24
  · obtain rfl := Option.some.inj hF
    exact f_callVT hC [.int r9.1] hEn (fSm.tr e11 (fSm.tr e8 (fSm.rf w))) (Nat.le_of_ble_eq_true rfl) (Nat.le_of_ble_eq_true rfl) (c_X4_settle l D cy a0 r9.1 r9.2 (.inr x16, w17) h13) q_1082 q_73 q_1079 q_1081 q_54 h9_X4_settle rfl (fSm.k (fSm.tr e11 (fSm.tr e8 (fSm.rf w))) g1) ⟨Nat.le_of_ble_eq_true rfl, Nat.le_of_ble_eq_true rfl⟩ ⟨Nat.le_of_ble_eq_true rfl, Nat.le_of_ble_eq_true rfl⟩ (Nat.le_of_ble_eq_true rfl) rfl dX4_mood_20
theorem dX4_tryPier_0 : decode cX4_tryPier 0 = .ok (.iload_n 1, 1) := by decide +kernel
theorem dX4_tryPier_1 : decode cX4_tryPier 1 = .ok (.invokestatic 400, 3) := by decide +kernel
theorem dX4_tryPier_4 : decode cX4_tryPier 4 = .ok (.ifCond .ne 5, 3) := by decide +kernel
theorem dX4_tryPier_7 : decode cX4_tryPier 7 = .ok (.iconst 1, 1) := by decide +kernel
theorem dX4_tryPier_8 : decode cX4_tryPier 8 = .ok (.ireturn, 1) := by decide +kernel
theorem dX4_tryPier_9 : decode cX4_tryPier 9 = .ok (.aload_n 0, 1) := by decide +kernel
theorem dX4_tryPier_10 : decode cX4_tryPier 10 = .ok (.getfield 12, 3) := by decide +kernel
theorem dX4_tryPier_13 : decode cX4_tryPier 13 = .ok (.getfield 420, 3) := by decide +kernel
theorem dX4_tryPier_16 : decode cX4_tryPier 16 = .ok (.iload_n 1, 1) := by decide +kernel
theorem dX4_tryPier_17 : decode cX4_tryPier 17 = .ok (.baload, 1) := by decide +kernel
theorem dX4_tryPier_18 : decode cX4_tryPier 18 = .ok (.iload_n 2, 1) := by decide +kernel
theorem dX4_tryPier_19 : decode cX4_tryPier 19 = .ok (.if_icmp .ne 18, 3) := by decide +kernel
theorem dX4_tryPier_22 : decode cX4_tryPier 22 = .ok (.aload_n 0, 1) := by decide +kernel
theorem dX4_tryPier_23 : decode cX4_tryPier 23 = .ok (.iconst 3, 1) := by decide +kernel
theorem dX4_tryPier_24 : decode cX4_tryPier 24 = .ok (.iload_n 2, 1) := by decide +kernel
theorem dX4_tryPier_25 : decode cX4_tryPier 25 = .ok (.ifCond .eq 7, 3) := by decide +kernel
theorem dX4_tryPier_28 : decode cX4_tryPier 28 = .ok (.iconst 1, 1) := by decide +kernel
theorem dX4_tryPier_29 : decode cX4_tryPier 29 = .ok (.goto 4, 3) := by decide +kernel
theorem dX4_tryPier_32 : decode cX4_tryPier 32 = .ok (.iconst 0, 1) := by decide +kernel
theorem dX4_tryPier_33 : decode cX4_tryPier 33 = .ok (.invokevirtual 394, 3) := by decide +kernel
theorem dX4_tryPier_36 : decode cX4_tryPier 36 = .ok (.ireturn, 1) := by decide +kernel
theorem dX4_tryPier_37 : decode cX4_tryPier 37 = .ok (.aload_n 0, 1) := by decide +kernel
theorem dX4_tryPier_38 : decode cX4_tryPier 38 = .ok (.getfield 12, 3) := by decide +kernel
theorem dX4_tryPier_41 : decode cX4_tryPier 41 = .ok (.getfield 420, 3) := by decide +kernel
theorem dX4_tryPier_44 : decode cX4_tryPier 44 = .ok (.iload_n 1, 1) := by decide +kernel
theorem dX4_tryPier_45 : decode cX4_tryPier 45 = .ok (.iload_n 2, 1) := by decide +kernel
theorem dX4_tryPier_46 : decode cX4_tryPier 46 = .ok (.bastore, 1) := by decide +kernel
theorem dX4_tryPier_47 : decode cX4_tryPier 47 = .ok (.iconst 0, 1) := by decide +kernel
theorem dX4_tryPier_48 : decode cX4_tryPier 48 = .ok (.ireturn, 1) := by decide +kernel
theorem h9_X4_tryPier : yX4_tryPier.cls ≠ "java/lang/invoke/MethodHandle" ∧ yX4_tryPier.cls ≠ "java/lang/invoke/VarHandle" ∧ (parseMethodDescriptor yX4_tryPier.desc).map (fun d => d.parameters.length) = some 2 := by decide +kernel
noncomputable def F_X4_tryPier (a0 : Nat) (x1 : Int32) (x2 : Int32) (w : FW) : Option (Int32 × FW) :=
  (F_X4_isPier x1 w).bind (fun r1 => (if r1 = 0 then some (1, w) else fg (w.1 a0 = 5) inferInstance (fg (w.1 (gR w 400 a0 0) = 2) inferInstance (fg (w.1 (gR w 104 (gR w 400 a0 0) 0) = 12) inferInstance (fg (¬ (x1 < 0 ∨ w.2.1 (gR w 104 (gR w 400 a0 0) 0) ≤ Int32.toNatClampNeg x1)) inferInstance ((if (gI w 602 (gR w 104 (gR w 400 a0 0) 0) (Int32.toNatClampNeg x1)) = x2 then ((if x2 = 0 then some 0 else some 1) : Option (Int32)).bind (fun x11 => (F_X4_refuse a0 3 x11 w).bind (fun r15 => some (r15.1, r15.2))) else fg (x2 = 0 ∨ x2 = 1) inferInstance (some (0, (sI w 602 (gR w 104 (gR w 400 a0 0) 0) (Int32.toNatClampNeg x1) x2))))))))))
set_option maxHeartbeats 4000000 in
set_option maxRecDepth 100000 in
theorem c_X4_tryPier (l : Launch) (D : va_G) (cy : Nat → ClassId) (a0 : Nat) (x1 : Int32) (x2 : Int32) (w : FW) (r : Int32 × FW) (hF : F_X4_tryPier a0 x1 x2 w = some r) : fSpec l D cy yX4_tryPier cX4_tryPier 3 (some .int) { frames := 1, cells := 0, slots := 0, locals := 22 } [.ref a0, .int x1, .int x2] w r.2 (some (.int r.1)) := by
  refine f_begin (by decide +kernel) (Nat.le_of_ble_eq_true rfl) (fun X hC hEn => ?_)
  unfold F_X4_tryPier at hF
  show fAt X 0 0 3 w [(0, .ref a0), (1, .int x1), (2, .int x2)] [] 0
  refine f_iload_n hC dX4_tryPier_0 rfl 1 rfl ?_
  obtain ⟨r1, h2, hF⟩ := fb_open hF
  refine f_callS hC [.int x1] (c_X4_isPier l D cy x1 w r1 h2) q_566 q_73 q_974 q_565 h9_X4_isPier ⟨Nat.le_of_ble_eq_true rfl, Nat.le_of_ble_eq_true rfl⟩ ⟨Nat.le_of_ble_eq_true rfl, Nat.le_of_ble_eq_true rfl⟩ (Nat.le_of_ble_eq_true rfl) rfl dX4_tryPier_1 (fun e3 => ?_)
  refine f_if_ne hC 9 dX4_tryPier_4 (by decide) (fun c4 => ?_) (fun c4 => ?_)
  · replace hF := fi_neg hF c4
    refine f_aload_n hC dX4_tryPier_9 rfl 0 rfl ?_
    obtain ⟨g5, hF⟩ := fg_open hF
    refine f_getR hC 4 0 400 rfl (by decide) iX4 q_260 rfl rfl (fSm.k (fSm.rf w) g5) dX4_tryPier_10 ?_
    obtain ⟨g6, hF⟩ := fg_open hF
    refine f_getRN hC 1 4 104 rfl (by decide) iX1 q_225 rfl rfl (fSm.k (fSm.rf w) g6) dX4_tryPier_13 ?_
    refine f_iload_n hC dX4_tryPier_16 rfl 1 rfl ?_
    obtain ⟨g7, hF⟩ := fg_open hF
    obtain ⟨g8, hF⟩ := fg_open hF
    refine f_zald hC (fSm.k (fSm.rf w) g7) (fSm.v (fSm.rf w) g8) dX4_tryPier_17 ?_
    refine f_iload_n hC dX4_tryPier_18 rfl 2 rfl ?_
    refine f_icmp_ne hC 37 dX4_tryPier_19 (by decide) (fun c9 => ?_) (fun c9 => ?_)
    · replace hF := fi_neg hF c9
      refine f_aload_n hC dX4_tryPier_37 rfl 0 rfl ?_
      refine f_getR hC 4 0 400 rfl (by decide) iX4 q_260 rfl rfl (fSm.k (fSm.rf w) g5) dX4_tryPier_38 ?_
      refine f_getRN hC 1 4 104 rfl (by decide) iX1 q_225 rfl rfl (fSm.k (fSm.rf w) g6) dX4_tryPier_41 ?_
      refine f_iload_n hC dX4_tryPier_44 rfl 1 rfl ?_
      refine f_iload_n hC dX4_tryPier_45 rfl 2 rfl ?_
      obtain ⟨g10, hF⟩ := fg_open hF
      refine f_zast hC g10 (fSm.k (fSm.rf w) g7) (fSm.v (fSm.rf w) g8) dX4_tryPier_46 ?_
      refine f_iconst (v := 0) hC dX4_tryPier_47 (by decide) ?_
      obtain rfl := Option.some.inj hF
      exact f_iret hC hEn (fSm.rf w) dX4_tryPier_48
    · replace hF := fi_pos hF c9
      refine f_aload_n hC dX4_tryPier_22 rfl 0 rfl ?_
      refine f_iconst (v := 3) hC dX4_tryPier_23 (by decide) ?_
      refine f_iload_n hC dX4_tryPier_24 rfl 2 rfl ?_
      obtain ⟨x11, h12, hF⟩ := fb_open hF
      have K14 : fAt X 0 0 3 w [] [.int x11, .int 3, .ref a0] 33 := by
        obtain ⟨r15, h16, hF⟩ := fb_open hF
        refine f_callV hC [.int 3, .int x11] (c_X4_refuse l D cy a0 3 x11 w r15 h16) q_984 q_73 q_981 q_983 q_37 h9_X4_refuse rfl (fSm.k (fSm.rf w) g5) ⟨Nat.le_of_ble_eq_true rfl, Nat.le_of_ble_eq_true rfl⟩ ⟨Nat.le_of_ble_eq_true rfl, Nat.le_of_ble_eq_true rfl⟩ (Nat.le_of_ble_eq_true rfl) rfl dX4_tryPier_33 (fun e17 => ?_)
        obtain rfl := Option.some.inj hF
        exact f_iret hC hEn (fSm.tr e17 (fSm.rf w)) dX4_tryPier_36
      refine f_if_eq hC 32 dX4_tryPier_25 (by decide) (fun c18 => ?_) (fun c18 => ?_)
      · replace h12 := fi_pos h12 c18
        refine f_iconst (v := 0) hC dX4_tryPier_32 (by decide) ?_
        obtain rfl := Option.some.inj h12
        refine f_sub (L' := []) [] rfl ?_
        exact K14
      · replace h12 := fi_neg h12 c18
        refine f_iconst (v := 1) hC dX4_tryPier_28 (by decide) ?_
        refine f_goto hC 33 dX4_tryPier_29 (by decide) ?_
        obtain rfl := Option.some.inj h12
        refine f_sub (L' := []) [] rfl ?_
        exact K14
  · replace hF := fi_pos hF c4
    refine f_iconst (v := 1) hC dX4_tryPier_7 (by decide) ?_
    obtain rfl := Option.some.inj hF
    exact f_iret hC hEn (fSm.rf w) dX4_tryPier_8
theorem dX1_openPiers_0 : decode cX1_openPiers 0 = .ok (.iconst 0, 1) := by decide +kernel
theorem dX1_openPiers_1 : decode cX1_openPiers 1 = .ok (.istore_n 1, 1) := by decide +kernel
theorem dX1_openPiers_2 : decode cX1_openPiers 2 = .ok (.iconst 0, 1) := by decide +kernel
theorem dX1_openPiers_3 : decode cX1_openPiers 3 = .ok (.istore_n 2, 1) := by decide +kernel
theorem dX1_openPiers_4 : decode cX1_openPiers 4 = .ok (.iload_n 2, 1) := by decide +kernel
theorem dX1_openPiers_5 : decode cX1_openPiers 5 = .ok (.iconst 5, 1) := by decide +kernel
theorem dX1_openPiers_6 : decode cX1_openPiers 6 = .ok (.if_icmp .ge 21, 3) := by decide +kernel
theorem dX1_openPiers_9 : decode cX1_openPiers 9 = .ok (.aload_n 0, 1) := by decide +kernel
theorem dX1_openPiers_10 : decode cX1_openPiers 10 = .ok (.getfield 32, 3) := by decide +kernel
theorem dX1_openPiers_13 : decode cX1_openPiers 13 = .ok (.iload_n 2, 1) := by decide +kernel
theorem dX1_openPiers_14 : decode cX1_openPiers 14 = .ok (.baload, 1) := by decide +kernel
theorem dX1_openPiers_15 : decode cX1_openPiers 15 = .ok (.ifCond .eq 6, 3) := by decide +kernel
theorem dX1_openPiers_18 : decode cX1_openPiers 18 = .ok (.iinc 1 1, 3) := by decide +kernel
theorem dX1_openPiers_21 : decode cX1_openPiers 21 = .ok (.iinc 2 1, 3) := by decide +kernel
theorem dX1_openPiers_24 : decode cX1_openPiers 24 = .ok (.goto (-20), 3) := by decide +kernel
theorem dX1_openPiers_27 : decode cX1_openPiers 27 = .ok (.iload_n 1, 1) := by decide +kernel
theorem dX1_openPiers_28 : decode cX1_openPiers 28 = .ok (.ireturn, 1) := by decide +kernel
theorem h9_X1_openPiers : yX1_openPiers.cls ≠ "java/lang/invoke/MethodHandle" ∧ yX1_openPiers.cls ≠ "java/lang/invoke/VarHandle" ∧ (parseMethodDescriptor yX1_openPiers.desc).map (fun d => d.parameters.length) = some 0 := by decide +kernel
noncomputable def F_X1_openPiers (a0 : Nat) (w : FW) : Option (Int32) :=
  (fLoop (σ := Int32 × Int32) (ρ := Int32) (fun s1 => (if 5 ≤ s1.2 then some (.inr s1.1) else fg (w.1 a0 = 2) inferInstance (fg (w.1 (gR w 104 a0 0) = 12) inferInstance (fg (¬ (s1.2 < 0 ∨ w.2.1 (gR w 104 a0 0) ≤ Int32.toNatClampNeg s1.2)) inferInstance ((if (gI w 602 (gR w 104 a0 0) (Int32.toNatClampNeg s1.2)) = 0 then some (.inl (s1.1, (s1.2 + 1))) else some (.inl ((s1.1 + 1), (s1.2 + 1))))))))) (0, 0)).bind (fun x7 => some x7)
set_option maxHeartbeats 4000000 in
set_option maxRecDepth 100000 in
theorem c_X1_openPiers (l : Launch) (D : va_G) (cy : Nat → ClassId) (a0 : Nat) (w : FW) (r : Int32) (hF : F_X1_openPiers a0 w = some r) : fSpec l D cy yX1_openPiers cX1_openPiers 3 (some .int) { frames := 0, cells := 0, slots := 0, locals := 0 } [.ref a0] w w (some (.int r)) := by
  refine f_begin (by decide +kernel) (Nat.le_of_ble_eq_true rfl) (fun X hC hEn => ?_)
  unfold F_X1_openPiers at hF
  show fAt X 0 0 3 w [(0, .ref a0)] [] 0
  refine f_iconst (v := 0) hC dX1_openPiers_0 (by decide) ?_
  refine f_istore_n (L' := [(1, .int 0), (0, .ref a0)]) hC dX1_openPiers_1 rfl (by decide) rfl ?_
  refine f_iconst (v := 0) hC dX1_openPiers_2 (by decide) ?_
  refine f_istore_n (L' := [(2, .int 0), (1, .int 0), (0, .ref a0)]) hC dX1_openPiers_3 rfl (by decide) rfl ?_
  obtain ⟨x7, h8, hF⟩ := fb_open hF
  have K9 : fAt X 0 0 3 w [(1, .int x7)] [] 27 := by
    refine f_iload_n hC dX1_openPiers_27 rfl 0 rfl ?_
    obtain rfl := Option.some.inj hF
    exact f_iret hC hEn (fSm.rf w) dX1_openPiers_28
  refine f_sub (L' := [(0, .ref a0), (1, .int 0), (2, .int 0)]) [2, 1, 0] rfl ?_
  refine fLoop_ind (fun (s1 : Int32 × Int32) => fAt X 0 0 3 w [(0, .ref a0), (1, .int s1.1), (2, .int s1.2)] [] 4) (fun s1 y6 h2 go3 ou4 => ?_) h8
  refine f_iload_n hC dX1_openPiers_4 rfl 2 rfl ?_
  refine f_iconst (v := 5) hC dX1_openPiers_5 (by decide) ?_
  refine f_icmp_ge hC 27 dX1_openPiers_6 (by decide) (fun c10 => ?_) (fun c10 => ?_)
  · replace h2 := fi_pos h2 c10
    obtain rfl := Option.some.inj h2
    obtain rfl := ou4 _ rfl
    refine f_sub (L' := [(1, .int s1.1)]) [1] rfl ?_
    exact K9
  · replace h2 := fi_neg h2 c10
    refine f_aload_n hC dX1_openPiers_9 rfl 0 rfl ?_
    obtain ⟨g11, h2⟩ := fg_open h2
    refine f_getR hC 1 4 104 rfl (by decide) iX1 q_224 rfl rfl (fSm.k (fSm.rf w) g11) dX1_openPiers_10 ?_
    refine f_iload_n hC dX1_openPiers_13 rfl 2 rfl ?_
    obtain ⟨g12, h2⟩ := fg_open h2
    obtain ⟨g13, h2⟩ := fg_open h2
    refine f_zald hC (fSm.k (fSm.rf w) g12) (fSm.v (fSm.rf w) g13) dX1_openPiers_14 ?_
    refine f_if_eq hC 21 dX1_openPiers_15 (by decide) (fun c14 => ?_) (fun c14 => ?_)
    · replace h2 := fi_pos h2 c14
      refine f_iinc (L' := [(2, .int (s1.2 + 1)), (0, .ref a0), (1, .int s1.1)]) hC dX1_openPiers_21 2 rfl rfl (by decide) rfl ?_
      refine f_goto hC 4 dX1_openPiers_24 (by decide) ?_
      obtain rfl := Option.some.inj h2
      refine f_sub (L' := [(0, .ref a0), (1, .int s1.1), (2, .int (s1.2 + 1))]) [1, 2, 0] rfl ?_
      exact go3 _ rfl
    · replace h2 := fi_neg h2 c14
      refine f_iinc (L' := [(1, .int (s1.1 + 1)), (0, .ref a0), (2, .int s1.2)]) hC dX1_openPiers_18 1 rfl rfl (by decide) rfl ?_
      refine f_iinc (L' := [(2, .int (s1.2 + 1)), (1, .int (s1.1 + 1)), (0, .ref a0)]) hC dX1_openPiers_21 2 rfl rfl (by decide) rfl ?_
      refine f_goto hC 4 dX1_openPiers_24 (by decide) ?_
      obtain rfl := Option.some.inj h2
      refine f_sub (L' := [(0, .ref a0), (1, .int (s1.1 + 1)), (2, .int (s1.2 + 1))]) [2, 1, 0] rfl ?_
      exact go3 _ rfl
theorem dX4_pier_0 : decode cX4_pier 0 = .ok (.aload_n 0, 1) := by decide +kernel
theorem dX4_pier_1 : decode cX4_pier 1 = .ok (.invokevirtual 72, 3) := by decide +kernel
theorem dX4_pier_4 : decode cX4_pier 4 = .ok (.aload_n 0, 1) := by decide +kernel
theorem dX4_pier_5 : decode cX4_pier 5 = .ok (.aload_n 0, 1) := by decide +kernel
theorem dX4_pier_6 : decode cX4_pier 6 = .ok (.iload_n 1, 1) := by decide +kernel
theorem dX4_pier_7 : decode cX4_pier 7 = .ok (.iload_n 2, 1) := by decide +kernel
theorem dX4_pier_8 : decode cX4_pier 8 = .ok (.invokevirtual 108, 3) := by decide +kernel
theorem dX4_pier_11 : decode cX4_pier 11 = .ok (.invokevirtual 79, 3) := by decide +kernel
theorem dX4_pier_14 : decode cX4_pier 14 = .ok (.aload_n 0, 1) := by decide +kernel
theorem dX4_pier_15 : decode cX4_pier 15 = .ok (.getfield 12, 3) := by decide +kernel
theorem dX4_pier_18 : decode cX4_pier 18 = .ok (.invokevirtual 112, 3) := by decide +kernel
theorem dX4_pier_21 : decode cX4_pier 21 = .ok (.ireturn, 1) := by decide +kernel
theorem h9_X4_pier : yX4_pier.cls ≠ "java/lang/invoke/MethodHandle" ∧ yX4_pier.cls ≠ "java/lang/invoke/VarHandle" ∧ (parseMethodDescriptor yX4_pier.desc).map (fun d => d.parameters.length) = some 2 := by decide +kernel
noncomputable def F_X4_pier (a0 : Nat) (x1 : Int32) (x2 : Int32) (w : FW) : Option ((Int32 ⊕ Nat) × FW) :=
  fg (w.1 a0 = 5) inferInstance ((F_X4_begin a0 w).bind (fun r1 => (F_X4_tryPier a0 x1 x2 r1).bind (fun r5 => (F_X4_settle a0 r5.1 r5.2).bind (fun r8 => fse r8.1 (fun v11 => fg (w.1 (gR r8.2 400 a0 0) = 2) inferInstance ((F_X1_openPiers (gR r8.2 400 a0 0) r8.2).bind (fun r15 => some ((.inl r15), r8.2)))) (fun x12 => some (.inr x12, r8.2))))))
set_option maxHeartbeats 4000000 in
set_option maxRecDepth 100000 in
theorem c_X4_pier (l : Launch) (D : va_G) (cy : Nat → ClassId) (a0 : Nat) (x1 : Int32) (x2 : Int32) (w : FW) (r : (Int32 ⊕ Nat) × FW) (hF : F_X4_pier a0 x1 x2 w = some r) : fSpecX l D cy yX4_pier cX4_pier 3 (some .int) { frames := 7, cells := 1, slots := 6, locals := 121 } [.ref a0, .int x1, .int x2] w r.2 (fOI r.1) := by
  refine f_beginX (by decide +kernel) (Nat.le_of_ble_eq_true rfl) (fun X hC hEn => ?_)
  have hst := f_st hC hEn
  unfold F_X4_pier at hF
  show fAt X 0 0 3 w [(0, .ref a0), (1, .int x1), (2, .int x2)] [] 0
  refine f_aload_n hC dX4_pier_0 rfl 0 rfl ?_
  obtain ⟨g3, hF⟩ := fg_open hF
  obtain ⟨r1, h2, hF⟩ := fb_open hF
  refine f_callV hC [] (c_X4_begin l D cy a0 w r1 h2) q_932 q_73 q_929 q_931 q_25 h9_X4_begin rfl (fSm.k (fSm.rf w) g3) ⟨Nat.le_of_ble_eq_true rfl, Nat.le_of_ble_eq_true rfl⟩ ⟨Nat.le_of_ble_eq_true rfl, Nat.le_of_ble_eq_true rfl⟩ (Nat.le_of_ble_eq_true rfl) rfl dX4_pier_1 (fun e4 => ?_)
  refine f_aload_n hC dX4_pier_4 rfl 0 rfl ?_
  refine f_aload_n hC dX4_pier_5 rfl 0 rfl ?_
  refine f_iload_n hC dX4_pier_6 rfl 1 rfl ?_
  refine f_iload_n hC dX4_pier_7 rfl 2 rfl ?_
  obtain ⟨r5, h6, hF⟩ := fb_open hF
  refine f_callV hC [.int x1, .int x2] (c_X4_tryPier l D cy a0 x1 x2 r1 r5 h6) q_1035 q_73 q_1032 q_1034 q_48 h9_X4_tryPier rfl (fSm.k (fSm.tr e4 (fSm.rf w)) g3) ⟨Nat.le_of_ble_eq_true rfl, Nat.le_of_ble_eq_true rfl⟩ ⟨Nat.le_of_ble_eq_true rfl, Nat.le_of_ble_eq_true rfl⟩ (Nat.le_of_ble_eq_true rfl) rfl dX4_pier_8 (fun e7 => ?_)
  obtain ⟨r8, h9, hF⟩ := fb_open hF
  obtain ⟨o14, w13⟩ := r8
  rcases o14 with v11 | x12
  · refine f_callVR hC [.int r5.1] hst (c_X4_settle l D cy a0 r5.1 r5.2 (.inl v11, w13) h9) q_1082 q_73 q_1079 q_1081 q_54 h9_X4_settle rfl (fSm.k (fSm.tr e7 (fSm.tr e4 (fSm.rf w))) g3) ⟨Nat.le_of_ble_eq_true rfl, Nat.le_of_ble_eq_true rfl⟩ ⟨Nat.le_of_ble_eq_true rfl, Nat.le_of_ble_eq_true rfl⟩ (Nat.le_of_ble_eq_true rfl) rfl dX4_pier_11 (fun e10 => ?_)
    refine f_aload_n hC dX4_pier_14 rfl 0 rfl ?_
    refine f_getR hC 4 0 400 rfl (by decide) iX4 q_260 rfl rfl (fSm.k (fSm.tr e10 (fSm.tr e7 (fSm.tr e4 (fSm.rf w)))) g3) dX4_pier_15 ?_
    obtain ⟨g17, hF⟩ := fg_open hF
    obtain ⟨r15, h16, hF⟩ := fb_open hF
    refine f_callVN hC [] (c_X1_openPiers l D cy (gR w13 400 a0 0) w13 r15 h16) q_605 q_74 q_602 q_604 q_14 h9_X1_openPiers rfl (fSm.k (fSm.tr e10 (fSm.tr e7 (fSm.tr e4 (fSm.rf w)))) g17) ⟨Nat.le_of_ble_eq_true rfl, Nat.le_of_ble_eq_true rfl⟩ ⟨Nat.le_of_ble_eq_true rfl, Nat.le_of_ble_eq_true rfl⟩ (Nat.le_of_ble_eq_true rfl) rfl dX4_pier_18 (fun e18 => ?_)
    obtain rfl := Option.some.inj hF
    exact f_iretX hC hEn (fSm.tr e10 (fSm.tr e7 (fSm.tr e4 (fSm.rf w)))) dX4_pier_21
  · obtain rfl := Option.some.inj hF
    exact f_callVT hC [.int r5.1] hEn (fSm.tr e7 (fSm.tr e4 (fSm.rf w))) (Nat.le_of_ble_eq_true rfl) (Nat.le_of_ble_eq_true rfl) (c_X4_settle l D cy a0 r5.1 r5.2 (.inr x12, w13) h9) q_1082 q_73 q_1079 q_1081 q_54 h9_X4_settle rfl (fSm.k (fSm.tr e7 (fSm.tr e4 (fSm.rf w))) g3) ⟨Nat.le_of_ble_eq_true rfl, Nat.le_of_ble_eq_true rfl⟩ ⟨Nat.le_of_ble_eq_true rfl, Nat.le_of_ble_eq_true rfl⟩ (Nat.le_of_ble_eq_true rfl) rfl dX4_pier_11
theorem dX4_existing_0 : decode cX4_existing 0 = .ok (.aload_n 0, 1) := by decide +kernel
theorem dX4_existing_1 : decode cX4_existing 1 = .ok (.getfield 12, 3) := by decide +kernel
theorem dX4_existing_4 : decode cX4_existing 4 = .ok (.iload_n 1, 1) := by decide +kernel
theorem dX4_existing_5 : decode cX4_existing 5 = .ok (.invokevirtual 407, 3) := by decide +kernel
theorem dX4_existing_8 : decode cX4_existing 8 = .ok (.ifCond .ne 14, 3) := by decide +kernel
theorem dX4_existing_11 : decode cX4_existing 11 = .ok (.new 320, 3) := by decide +kernel
theorem dX4_existing_14 : decode cX4_existing 14 = .ok (.dup, 1) := by decide +kernel
theorem dX4_existing_15 : decode cX4_existing 15 = .ok (.ldc_w 432, 3) := by decide +kernel
theorem dX4_existing_18 : decode cX4_existing 18 = .ok (.invokespecial 324, 3) := by decide +kernel
theorem dX4_existing_21 : decode cX4_existing 21 = .ok (.athrow, 1) := by decide +kernel
theorem dX4_existing_22 : decode cX4_existing 22 = .ok (.aload_n 0, 1) := by decide +kernel
theorem dX4_existing_23 : decode cX4_existing 23 = .ok (.getfield 12, 3) := by decide +kernel
theorem dX4_existing_26 : decode cX4_existing 26 = .ok (.getfield 235, 3) := by decide +kernel
theorem dX4_existing_29 : decode cX4_existing 29 = .ok (.iload_n 1, 1) := by decide +kernel
theorem dX4_existing_30 : decode cX4_existing 30 = .ok (.aaload, 1) := by decide +kernel
theorem dX4_existing_31 : decode cX4_existing 31 = .ok (.areturn, 1) := by decide +kernel
theorem h9_X4_existing : yX4_existing.cls ≠ "java/lang/invoke/MethodHandle" ∧ yX4_existing.cls ≠ "java/lang/invoke/VarHandle" ∧ (parseMethodDescriptor yX4_existing.desc).map (fun d => d.parameters.length) = some 1 := by decide +kernel
noncomputable def F_X4_existing (a0 : Nat) (x1 : Int32) (w : FW) : Option (Nat ⊕ Nat) :=
  fg (w.1 a0 = 5) inferInstance (fg (w.1 (gR w 400 a0 0) = 2) inferInstance ((F_X1_hasTicket (gR w 400 a0 0) x1 w).bind (fun r2 => (if r2 = 0 then some (.inr 2) else fg (w.1 (gR w 100 (gR w 400 a0 0) 0) = 14) inferInstance (fg (¬ (x1 < 0 ∨ w.2.1 (gR w 100 (gR w 400 a0 0) 0) ≤ Int32.toNatClampNeg x1)) inferInstance (some (.inl (gR w 604 (gR w 100 (gR w 400 a0 0) 0) (Int32.toNatClampNeg x1)))))))))
set_option maxHeartbeats 4000000 in
set_option maxRecDepth 100000 in
theorem c_X4_existing (l : Launch) (D : va_G) (cy : Nat → ClassId) (a0 : Nat) (x1 : Int32) (w : FW) (r : Nat ⊕ Nat) (hF : F_X4_existing a0 x1 w = some r) : fSpecX l D cy yX4_existing cX4_existing 2 (some (.object "FerryTickets$Ticket")) { frames := 6, cells := 1, slots := 6, locals := 100 } [.ref a0, .int x1] w w (fOR r) := by
  refine f_beginX (by decide +kernel) (Nat.le_of_ble_eq_true rfl) (fun X hC hEn => ?_)
  have hst := f_st hC hEn
  unfold F_X4_existing at hF
  show fAt X 0 0 2 w [(0, .ref a0), (1, .int x1)] [] 0
  refine f_aload_n hC dX4_existing_0 rfl 0 rfl ?_
  obtain ⟨g1, hF⟩ := fg_open hF
  refine f_getR hC 4 0 400 rfl (by decide) iX4 q_260 rfl rfl (fSm.k (fSm.rf w) g1) dX4_existing_1 ?_
  refine f_iload_n hC dX4_existing_4 rfl 1 rfl ?_
  obtain ⟨g4, hF⟩ := fg_open hF
  obtain ⟨r2, h3, hF⟩ := fb_open hF
  refine f_callVN hC [.int x1] (c_X1_hasTicket l D cy (gR w 400 a0 0) x1 w r2 h3) q_408 q_74 q_405 q_407 q_2 h9_X1_hasTicket rfl (fSm.k (fSm.rf w) g4) ⟨Nat.le_of_ble_eq_true rfl, Nat.le_of_ble_eq_true rfl⟩ ⟨Nat.le_of_ble_eq_true rfl, Nat.le_of_ble_eq_true rfl⟩ (Nat.le_of_ble_eq_true rfl) rfl dX4_existing_5 (fun e5 => ?_)
  refine f_if_ne hC 22 dX4_existing_8 (by decide) (fun c6 => ?_) (fun c6 => ?_)
  · replace hF := fi_neg hF c6
    refine f_aload_n hC dX4_existing_22 rfl 0 rfl ?_
    refine f_getR hC 4 0 400 rfl (by decide) iX4 q_260 rfl rfl (fSm.k (fSm.rf w) g1) dX4_existing_23 ?_
    refine f_getRN hC 1 0 100 rfl (by decide) iX1 q_217 rfl rfl (fSm.k (fSm.rf w) g4) dX4_existing_26 ?_
    refine f_iload_n hC dX4_existing_29 rfl 1 rfl ?_
    obtain ⟨g7, hF⟩ := fg_open hF
    obtain ⟨g8, hF⟩ := fg_open hF
    refine f_aald1 hC (fSm.k (fSm.rf w) g7) (fSm.v (fSm.rf w) g8) dX4_existing_30 ?_
    obtain rfl := Option.some.inj hF
    refine f_widen (k' := 1) (s' := 6) (Nat.le_of_ble_eq_true rfl) (Nat.le_of_ble_eq_true rfl) ?_
    exact f_aretX hC hEn (fSm.rf w) dX4_existing_31
  · replace hF := fi_pos hF c6
    obtain rfl := Option.some.inj hF
    exact f_throwSW hC hEn (fSm.rf w) 36 rfl xf_2 xn_2 q_409 q_82 rfl xa_RX4_324 xg_RX4_320_324 dX4_existing_11 dX4_existing_14 dX4_existing_15 dX4_existing_18 dX4_existing_21 (Nat.le_of_ble_eq_true rfl) (Nat.le_of_ble_eq_true rfl) (Nat.le_of_ble_eq_true rfl) (Nat.le_of_ble_eq_true rfl) (Nat.le_of_ble_eq_true rfl) (Nat.le_of_ble_eq_true rfl)
theorem dX4_ticketOf_0 : decode cX4_ticketOf 0 = .ok (.aload_n 0, 1) := by decide +kernel
theorem dX4_ticketOf_1 : decode cX4_ticketOf 1 = .ok (.iload_n 1, 1) := by decide +kernel
theorem dX4_ticketOf_2 : decode cX4_ticketOf 2 = .ok (.invokevirtual 115, 3) := by decide +kernel
theorem dX4_ticketOf_5 : decode cX4_ticketOf 5 = .ok (.astore_n 3, 1) := by decide +kernel
theorem dX4_ticketOf_6 : decode cX4_ticketOf 6 = .ok (.iload_n 2, 1) := by decide +kernel
theorem dX4_ticketOf_7 : decode cX4_ticketOf 7 = .ok (.tableswitch 90 0 6 #[41, 49, 57, 62, 67, 72, 85], 41) := by decide +kernel
theorem dX4_ticketOf_48 : decode cX4_ticketOf 48 = .ok (.aload_n 3, 1) := by decide +kernel
theorem dX4_ticketOf_49 : decode cX4_ticketOf 49 = .ok (.getfield 119, 3) := by decide +kernel
theorem dX4_ticketOf_52 : decode cX4_ticketOf 52 = .ok (.getfield 86, 3) := by decide +kernel
theorem dX4_ticketOf_55 : decode cX4_ticketOf 55 = .ok (.ireturn, 1) := by decide +kernel
theorem dX4_ticketOf_56 : decode cX4_ticketOf 56 = .ok (.aload_n 3, 1) := by decide +kernel
theorem dX4_ticketOf_57 : decode cX4_ticketOf 57 = .ok (.getfield 119, 3) := by decide +kernel
theorem dX4_ticketOf_60 : decode cX4_ticketOf 60 = .ok (.invokevirtual 124, 3) := by decide +kernel
theorem dX4_ticketOf_63 : decode cX4_ticketOf 63 = .ok (.ireturn, 1) := by decide +kernel
theorem dX4_ticketOf_64 : decode cX4_ticketOf 64 = .ok (.aload_n 3, 1) := by decide +kernel
theorem dX4_ticketOf_65 : decode cX4_ticketOf 65 = .ok (.getfield 127, 3) := by decide +kernel
theorem dX4_ticketOf_68 : decode cX4_ticketOf 68 = .ok (.ireturn, 1) := by decide +kernel
theorem dX4_ticketOf_69 : decode cX4_ticketOf 69 = .ok (.aload_n 3, 1) := by decide +kernel
theorem dX4_ticketOf_70 : decode cX4_ticketOf 70 = .ok (.getfield 130, 3) := by decide +kernel
theorem dX4_ticketOf_73 : decode cX4_ticketOf 73 = .ok (.ireturn, 1) := by decide +kernel
theorem dX4_ticketOf_74 : decode cX4_ticketOf 74 = .ok (.aload_n 3, 1) := by decide +kernel
theorem dX4_ticketOf_75 : decode cX4_ticketOf 75 = .ok (.getfield 133, 3) := by decide +kernel
theorem dX4_ticketOf_78 : decode cX4_ticketOf 78 = .ok (.ireturn, 1) := by decide +kernel
theorem dX4_ticketOf_79 : decode cX4_ticketOf 79 = .ok (.aload_n 3, 1) := by decide +kernel
theorem dX4_ticketOf_80 : decode cX4_ticketOf 80 = .ok (.getfield 136, 3) := by decide +kernel
theorem dX4_ticketOf_83 : decode cX4_ticketOf 83 = .ok (.ifCond .eq 7, 3) := by decide +kernel
theorem dX4_ticketOf_86 : decode cX4_ticketOf 86 = .ok (.iconst 1, 1) := by decide +kernel
theorem dX4_ticketOf_87 : decode cX4_ticketOf 87 = .ok (.goto 4, 3) := by decide +kernel
theorem dX4_ticketOf_90 : decode cX4_ticketOf 90 = .ok (.iconst 0, 1) := by decide +kernel
theorem dX4_ticketOf_91 : decode cX4_ticketOf 91 = .ok (.ireturn, 1) := by decide +kernel
theorem dX4_ticketOf_92 : decode cX4_ticketOf 92 = .ok (.aload_n 3, 1) := by decide +kernel
theorem dX4_ticketOf_93 : decode cX4_ticketOf 93 = .ok (.getfield 139, 3) := by decide +kernel
theorem dX4_ticketOf_96 : decode cX4_ticketOf 96 = .ok (.ireturn, 1) := by decide +kernel
theorem dX4_ticketOf_97 : decode cX4_ticketOf 97 = .ok (.new 142, 3) := by decide +kernel
theorem dX4_ticketOf_100 : decode cX4_ticketOf 100 = .ok (.dup, 1) := by decide +kernel
theorem dX4_ticketOf_101 : decode cX4_ticketOf 101 = .ok (.ldc 144, 2) := by decide +kernel
theorem dX4_ticketOf_103 : decode cX4_ticketOf 103 = .ok (.invokespecial 146, 3) := by decide +kernel
theorem dX4_ticketOf_106 : decode cX4_ticketOf 106 = .ok (.athrow, 1) := by decide +kernel
theorem h9_X4_ticketOf : yX4_ticketOf.cls ≠ "java/lang/invoke/MethodHandle" ∧ yX4_ticketOf.cls ≠ "java/lang/invoke/VarHandle" ∧ (parseMethodDescriptor yX4_ticketOf.desc).map (fun d => d.parameters.length) = some 2 := by decide +kernel
noncomputable def F_X4_ticketOf (a0 : Nat) (x1 : Int32) (x2 : Int32) (w : FW) : Option (Int32 ⊕ Nat) :=
  fg (w.1 a0 = 5) inferInstance ((F_X4_existing a0 x1 w).bind (fun r1 => fse r1 (fun v5 => (if x2 = 0 then fg (w.1 v5 = 3) inferInstance (fg (w.1 (gR w 200 v5 0) = 4) inferInstance (some (.inl (gI w 301 (gR w 200 v5 0) 0)))) else (if x2 = 1 then fg (w.1 v5 = 3) inferInstance (fg (w.1 (gR w 200 v5 0) = 4) inferInstance ((F_X3_vowelCount (gR w 200 v5 0) w).bind (fun r13 => some (.inl r13)))) else (if x2 = 2 then fg (w.1 v5 = 3) inferInstance (some (.inl (gI w 201 v5 0))) else (if x2 = 3 then fg (w.1 v5 = 3) inferInstance (some (.inl (gI w 202 v5 0))) else (if x2 = 4 then fg (w.1 v5 = 3) inferInstance (some (.inl (gI w 203 v5 0))) else (if x2 = 5 then fg (w.1 v5 = 3) inferInstance ((if (gI w 204 v5 0) = 0 then some (.inl 0) else some (.inl 1))) else (if x2 = 6 then fg (w.1 v5 = 3) inferInstance (some (.inl (gI w 205 v5 0))) else some (.inr 1))))))))) (fun x6 => some (.inr x6))))
set_option maxHeartbeats 4000000 in
set_option maxRecDepth 100000 in
theorem c_X4_ticketOf (l : Launch) (D : va_G) (cy : Nat → ClassId) (a0 : Nat) (x1 : Int32) (x2 : Int32) (w : FW) (r : Int32 ⊕ Nat) (hF : F_X4_ticketOf a0 x1 x2 w = some r) : fSpecX l D cy yX4_ticketOf cX4_ticketOf 4 (some .int) { frames := 7, cells := 2, slots := 12, locals := 121 } [.ref a0, .int x1, .int x2] w w (fOI r) := by
  refine f_beginX (by decide +kernel) (Nat.le_of_ble_eq_true rfl) (fun X hC hEn => ?_)
  have hst := f_st hC hEn
  unfold F_X4_ticketOf at hF
  show fAt X 0 0 4 w [(0, .ref a0), (1, .int x1), (2, .int x2)] [] 0
  refine f_aload_n hC dX4_ticketOf_0 rfl 0 rfl ?_
  refine f_iload_n hC dX4_ticketOf_1 rfl 1 rfl ?_
  obtain ⟨g3, hF⟩ := fg_open hF
  obtain ⟨r1, h2, hF⟩ := fb_open hF
  rcases r1 with v5 | x6
  · refine f_callVR hC [.int x1] hst (c_X4_existing l D cy a0 x1 w (.inl v5) h2) q_404 q_73 q_401 q_403 q_1 h9_X4_existing rfl (fSm.k (fSm.rf w) g3) ⟨Nat.le_of_ble_eq_true rfl, Nat.le_of_ble_eq_true rfl⟩ ⟨Nat.le_of_ble_eq_true rfl, Nat.le_of_ble_eq_true rfl⟩ (Nat.le_of_ble_eq_true rfl) rfl dX4_ticketOf_2 (fun e4 => ?_)
    refine f_astore_n (L' := [(3, .ref v5), (0, .ref a0), (1, .int x1), (2, .int x2)]) hC dX4_ticketOf_5 rfl (by decide) rfl ?_
    refine f_iload_n hC dX4_ticketOf_6 rfl 3 rfl ?_
    by_cases c8 : x2 = 0
    · replace hF := fi_pos hF c8
      refine f_tabIn hC 48 dX4_ticketOf_7 (by rw [c8] <;> decide) (by rw [c8] <;> decide) (by rw [c8] <;> rfl) (by decide) ?_
      refine f_aload_n hC dX4_ticketOf_48 rfl 0 rfl ?_
      obtain ⟨g9, hF⟩ := fg_open hF
      refine f_getRN hC 2 0 200 rfl (by decide) iX2 q_176 rfl rfl (fSm.k (fSm.rf w) g9) dX4_ticketOf_49 ?_
      obtain ⟨g10, hF⟩ := fg_open hF
      refine f_getIN hC 3 1 301 rfl (by decide) iX3 q_124 rfl rfl (fSm.k (fSm.rf w) g10) dX4_ticketOf_52 ?_
      obtain rfl := Option.some.inj hF
      refine f_widen (k' := 2) (s' := 12) (Nat.le_of_ble_eq_true rfl) (Nat.le_of_ble_eq_true rfl) ?_
      exact f_iretX hC hEn (fSm.rf w) dX4_ticketOf_55
    · replace hF := fi_neg hF c8
      by_cases c11 : x2 = 1
      · replace hF := fi_pos hF c11
        refine f_tabIn hC 56 dX4_ticketOf_7 (by rw [c11] <;> decide) (by rw [c11] <;> decide) (by rw [c11] <;> rfl) (by decide) ?_
        refine f_aload_n hC dX4_ticketOf_56 rfl 0 rfl ?_
        obtain ⟨g12, hF⟩ := fg_open hF
        refine f_getRN hC 2 0 200 rfl (by decide) iX2 q_176 rfl rfl (fSm.k (fSm.rf w) g12) dX4_ticketOf_57 ?_
        obtain ⟨g15, hF⟩ := fg_open hF
        obtain ⟨r13, h14, hF⟩ := fb_open hF
        refine f_callVN hC [] (c_X3_vowelCount l D cy (gR w 200 v5 0) w r13 h14) q_978 q_75 q_975 q_977 q_36 h9_X3_vowelCount rfl (fSm.k (fSm.rf w) g15) ⟨Nat.le_of_ble_eq_true rfl, Nat.le_of_ble_eq_true rfl⟩ ⟨Nat.le_of_ble_eq_true rfl, Nat.le_of_ble_eq_true rfl⟩ (Nat.le_of_ble_eq_true rfl) rfl dX4_ticketOf_60 (fun e16 => ?_)
        obtain rfl := Option.some.inj hF
        refine f_widen (k' := 2) (s' := 12) (Nat.le_of_ble_eq_true rfl) (Nat.le_of_ble_eq_true rfl) ?_
        exact f_iretX hC hEn (fSm.rf w) dX4_ticketOf_63
      · replace hF := fi_neg hF c11
        by_cases c17 : x2 = 2
        · replace hF := fi_pos hF c17
          refine f_tabIn hC 64 dX4_ticketOf_7 (by rw [c17] <;> decide) (by rw [c17] <;> decide) (by rw [c17] <;> rfl) (by decide) ?_
          refine f_aload_n hC dX4_ticketOf_64 rfl 0 rfl ?_
          obtain ⟨g18, hF⟩ := fg_open hF
          refine f_getIN hC 2 1 201 rfl (by decide) iX2 q_179 rfl rfl (fSm.k (fSm.rf w) g18) dX4_ticketOf_65 ?_
          obtain rfl := Option.some.inj hF
          refine f_widen (k' := 2) (s' := 12) (Nat.le_of_ble_eq_true rfl) (Nat.le_of_ble_eq_true rfl) ?_
          exact f_iretX hC hEn (fSm.rf w) dX4_ticketOf_68
        · replace hF := fi_neg hF c17
          by_cases c19 : x2 = 3
          · replace hF := fi_pos hF c19
            refine f_tabIn hC 69 dX4_ticketOf_7 (by rw [c19] <;> decide) (by rw [c19] <;> decide) (by rw [c19] <;> rfl) (by decide) ?_
            refine f_aload_n hC dX4_ticketOf_69 rfl 0 rfl ?_
            obtain ⟨g20, hF⟩ := fg_open hF
            refine f_getIN hC 2 2 202 rfl (by decide) iX2 q_182 rfl rfl (fSm.k (fSm.rf w) g20) dX4_ticketOf_70 ?_
            obtain rfl := Option.some.inj hF
            refine f_widen (k' := 2) (s' := 12) (Nat.le_of_ble_eq_true rfl) (Nat.le_of_ble_eq_true rfl) ?_
            exact f_iretX hC hEn (fSm.rf w) dX4_ticketOf_73
          · replace hF := fi_neg hF c19
            by_cases c21 : x2 = 4
            · replace hF := fi_pos hF c21
              refine f_tabIn hC 74 dX4_ticketOf_7 (by rw [c21] <;> decide) (by rw [c21] <;> decide) (by rw [c21] <;> rfl) (by decide) ?_
              refine f_aload_n hC dX4_ticketOf_74 rfl 0 rfl ?_
              obtain ⟨g22, hF⟩ := fg_open hF
              refine f_getIN hC 2 3 203 rfl (by decide) iX2 q_185 rfl rfl (fSm.k (fSm.rf w) g22) dX4_ticketOf_75 ?_
              obtain rfl := Option.some.inj hF
              refine f_widen (k' := 2) (s' := 12) (Nat.le_of_ble_eq_true rfl) (Nat.le_of_ble_eq_true rfl) ?_
              exact f_iretX hC hEn (fSm.rf w) dX4_ticketOf_78
            · replace hF := fi_neg hF c21
              by_cases c23 : x2 = 5
              · replace hF := fi_pos hF c23
                refine f_tabIn hC 79 dX4_ticketOf_7 (by rw [c23] <;> decide) (by rw [c23] <;> decide) (by rw [c23] <;> rfl) (by decide) ?_
                refine f_aload_n hC dX4_ticketOf_79 rfl 0 rfl ?_
                obtain ⟨g24, hF⟩ := fg_open hF
                refine f_getIN hC 2 4 204 rfl (by decide) iX2 q_189 rfl rfl (fSm.k (fSm.rf w) g24) dX4_ticketOf_80 ?_
                refine f_if_eq hC 90 dX4_ticketOf_83 (by decide) (fun c25 => ?_) (fun c25 => ?_)
                · replace hF := fi_pos hF c25
                  refine f_iconst (v := 0) hC dX4_ticketOf_90 (by decide) ?_
                  obtain rfl := Option.some.inj hF
                  refine f_widen (k' := 2) (s' := 12) (Nat.le_of_ble_eq_true rfl) (Nat.le_of_ble_eq_true rfl) ?_
                  exact f_iretX hC hEn (fSm.rf w) dX4_ticketOf_91
                · replace hF := fi_neg hF c25
                  refine f_iconst (v := 1) hC dX4_ticketOf_86 (by decide) ?_
                  refine f_goto hC 91 dX4_ticketOf_87 (by decide) ?_
                  obtain rfl := Option.some.inj hF
                  refine f_widen (k' := 2) (s' := 12) (Nat.le_of_ble_eq_true rfl) (Nat.le_of_ble_eq_true rfl) ?_
                  exact f_iretX hC hEn (fSm.rf w) dX4_ticketOf_91
              · replace hF := fi_neg hF c23
                by_cases c26 : x2 = 6
                · replace hF := fi_pos hF c26
                  refine f_tabIn hC 92 dX4_ticketOf_7 (by rw [c26] <;> decide) (by rw [c26] <;> decide) (by rw [c26] <;> rfl) (by decide) ?_
                  refine f_aload_n hC dX4_ticketOf_92 rfl 0 rfl ?_
                  obtain ⟨g27, hF⟩ := fg_open hF
                  refine f_getIN hC 2 5 205 rfl (by decide) iX2 q_191 rfl rfl (fSm.k (fSm.rf w) g27) dX4_ticketOf_93 ?_
                  obtain rfl := Option.some.inj hF
                  refine f_widen (k' := 2) (s' := 12) (Nat.le_of_ble_eq_true rfl) (Nat.le_of_ble_eq_true rfl) ?_
                  exact f_iretX hC hEn (fSm.rf w) dX4_ticketOf_96
                · replace hF := fi_neg hF c26
                  refine f_tabOut hC 97 dX4_ticketOf_7 (ftab 0 6 (by decide) (by decide) (fun j h1 h2 => ?_)) (by decide) ?_
                  · rcases (show j = 0 ∨ j = 1 ∨ j = 2 ∨ j = 3 ∨ j = 4 ∨ j = 5 ∨ j = 6 by omega) with rfl | rfl | rfl | rfl | rfl | rfl | rfl
                    · exact c8
                    · exact c11
                    · exact c17
                    · exact c19
                    · exact c21
                    · exact c23
                    · exact c26
                  obtain rfl := Option.some.inj hF
                  exact f_throwS hC hEn (fSm.rf w) 37 rfl xf_1 xn_1 q_497 q_81 rfl xa_RX4_146 xg_RX4_142_146 dX4_ticketOf_97 dX4_ticketOf_100 dX4_ticketOf_101 dX4_ticketOf_103 dX4_ticketOf_106 (Nat.le_of_ble_eq_true rfl) (Nat.le_of_ble_eq_true rfl) (Nat.le_of_ble_eq_true rfl) (Nat.le_of_ble_eq_true rfl) (Nat.le_of_ble_eq_true rfl) (Nat.le_of_ble_eq_true rfl)
  · obtain rfl := Option.some.inj hF
    exact f_callVT hC [.int x1] hEn (fSm.rf w) (Nat.le_of_ble_eq_true rfl) (Nat.le_of_ble_eq_true rfl) (c_X4_existing l D cy a0 x1 w (.inr x6) h2) q_404 q_73 q_401 q_403 q_1 h9_X4_existing rfl (fSm.k (fSm.rf w) g3) ⟨Nat.le_of_ble_eq_true rfl, Nat.le_of_ble_eq_true rfl⟩ ⟨Nat.le_of_ble_eq_true rfl, Nat.le_of_ble_eq_true rfl⟩ (Nat.le_of_ble_eq_true rfl) rfl dX4_ticketOf_2
theorem dX4_wordAt_0 : decode cX4_wordAt 0 = .ok (.aload_n 0, 1) := by decide +kernel
theorem dX4_wordAt_1 : decode cX4_wordAt 1 = .ok (.iload_n 1, 1) := by decide +kernel
theorem dX4_wordAt_2 : decode cX4_wordAt 2 = .ok (.invokevirtual 115, 3) := by decide +kernel
theorem dX4_wordAt_5 : decode cX4_wordAt 5 = .ok (.astore_n 3, 1) := by decide +kernel
theorem dX4_wordAt_6 : decode cX4_wordAt 6 = .ok (.aload_n 3, 1) := by decide +kernel
theorem dX4_wordAt_7 : decode cX4_wordAt 7 = .ok (.getfield 119, 3) := by decide +kernel
theorem dX4_wordAt_10 : decode cX4_wordAt 10 = .ok (.iload_n 2, 1) := by decide +kernel
theorem dX4_wordAt_11 : decode cX4_wordAt 11 = .ok (.invokevirtual 149, 3) := by decide +kernel
theorem dX4_wordAt_14 : decode cX4_wordAt 14 = .ok (.ifCond .ne 13, 3) := by decide +kernel
theorem dX4_wordAt_17 : decode cX4_wordAt 17 = .ok (.new 153, 3) := by decide +kernel
theorem dX4_wordAt_20 : decode cX4_wordAt 20 = .ok (.dup, 1) := by decide +kernel
theorem dX4_wordAt_21 : decode cX4_wordAt 21 = .ok (.ldc 155, 2) := by decide +kernel
theorem dX4_wordAt_23 : decode cX4_wordAt 23 = .ok (.invokespecial 157, 3) := by decide +kernel
theorem dX4_wordAt_26 : decode cX4_wordAt 26 = .ok (.athrow, 1) := by decide +kernel
theorem dX4_wordAt_27 : decode cX4_wordAt 27 = .ok (.aload_n 3, 1) := by decide +kernel
theorem dX4_wordAt_28 : decode cX4_wordAt 28 = .ok (.getfield 119, 3) := by decide +kernel
theorem dX4_wordAt_31 : decode cX4_wordAt 31 = .ok (.iload_n 2, 1) := by decide +kernel
theorem dX4_wordAt_32 : decode cX4_wordAt 32 = .ok (.invokevirtual 158, 3) := by decide +kernel
theorem dX4_wordAt_35 : decode cX4_wordAt 35 = .ok (.ireturn, 1) := by decide +kernel
theorem h9_X4_wordAt : yX4_wordAt.cls ≠ "java/lang/invoke/MethodHandle" ∧ yX4_wordAt.cls ≠ "java/lang/invoke/VarHandle" ∧ (parseMethodDescriptor yX4_wordAt.desc).map (fun d => d.parameters.length) = some 2 := by decide +kernel
noncomputable def F_X4_wordAt (a0 : Nat) (x1 : Int32) (x2 : Int32) (w : FW) : Option (Int32 ⊕ Nat) :=
  fg (w.1 a0 = 5) inferInstance ((F_X4_existing a0 x1 w).bind (fun r1 => fse r1 (fun v5 => fg (w.1 v5 = 3) inferInstance (fg (w.1 (gR w 200 v5 0) = 4) inferInstance ((F_X3_hasPlace (gR w 200 v5 0) x2 w).bind (fun r9 => (if r9 = 0 then some (.inr 5) else (F_X3_letterAt (gR w 200 v5 0) x2 w).bind (fun r14 => fg (fch r14 = r14) inferInstance (some (.inl r14)))))))) (fun x6 => some (.inr x6))))
set_option maxHeartbeats 4000000 in
set_option maxRecDepth 100000 in
theorem c_X4_wordAt (l : Launch) (D : va_G) (cy : Nat → ClassId) (a0 : Nat) (x1 : Int32) (x2 : Int32) (w : FW) (r : Int32 ⊕ Nat) (hF : F_X4_wordAt a0 x1 x2 w = some r) : fSpecX l D cy yX4_wordAt cX4_wordAt 4 (some .char) { frames := 7, cells := 2, slots := 12, locals := 121 } [.ref a0, .int x1, .int x2] w w (fOI r) := by
  refine f_beginX (by decide +kernel) (Nat.le_of_ble_eq_true rfl) (fun X hC hEn => ?_)
  have hst := f_st hC hEn
  unfold F_X4_wordAt at hF
  show fAt X 0 0 4 w [(0, .ref a0), (1, .int x1), (2, .int x2)] [] 0
  refine f_aload_n hC dX4_wordAt_0 rfl 0 rfl ?_
  refine f_iload_n hC dX4_wordAt_1 rfl 1 rfl ?_
  obtain ⟨g3, hF⟩ := fg_open hF
  obtain ⟨r1, h2, hF⟩ := fb_open hF
  rcases r1 with v5 | x6
  · refine f_callVR hC [.int x1] hst (c_X4_existing l D cy a0 x1 w (.inl v5) h2) q_404 q_73 q_401 q_403 q_1 h9_X4_existing rfl (fSm.k (fSm.rf w) g3) ⟨Nat.le_of_ble_eq_true rfl, Nat.le_of_ble_eq_true rfl⟩ ⟨Nat.le_of_ble_eq_true rfl, Nat.le_of_ble_eq_true rfl⟩ (Nat.le_of_ble_eq_true rfl) rfl dX4_wordAt_2 (fun e4 => ?_)
    refine f_astore_n (L' := [(3, .ref v5), (0, .ref a0), (1, .int x1), (2, .int x2)]) hC dX4_wordAt_5 rfl (by decide) rfl ?_
    refine f_aload_n hC dX4_wordAt_6 rfl 0 rfl ?_
    obtain ⟨g8, hF⟩ := fg_open hF
    refine f_getRN hC 2 0 200 rfl (by decide) iX2 q_176 rfl rfl (fSm.k (fSm.rf w) g8) dX4_wordAt_7 ?_
    refine f_iload_n hC dX4_wordAt_10 rfl 3 rfl ?_
    obtain ⟨g11, hF⟩ := fg_open hF
    obtain ⟨r9, h10, hF⟩ := fb_open hF
    refine f_callVN hC [.int x2] (c_X3_hasPlace l D cy (gR w 200 v5 0) x2 w r9 h10) q_437 q_75 q_1205 q_436 q_6 h9_X3_hasPlace rfl (fSm.k (fSm.rf w) g11) ⟨Nat.le_of_ble_eq_true rfl, Nat.le_of_ble_eq_true rfl⟩ ⟨Nat.le_of_ble_eq_true rfl, Nat.le_of_ble_eq_true rfl⟩ (Nat.le_of_ble_eq_true rfl) rfl dX4_wordAt_11 (fun e12 => ?_)
    refine f_if_ne hC 27 dX4_wordAt_14 (by decide) (fun c13 => ?_) (fun c13 => ?_)
    · replace hF := fi_neg hF c13
      refine f_aload_n hC dX4_wordAt_27 rfl 0 rfl ?_
      refine f_getRN hC 2 0 200 rfl (by decide) iX2 q_176 rfl rfl (fSm.k (fSm.rf w) g8) dX4_wordAt_28 ?_
      refine f_iload_n hC dX4_wordAt_31 rfl 3 rfl ?_
      obtain ⟨r14, h15, hF⟩ := fb_open hF
      refine f_callVN hC [.int x2] (c_X3_letterAt l D cy (gR w 200 v5 0) x2 w r14 h15) q_433 q_75 q_1207 q_432 q_5 h9_X3_letterAt rfl (fSm.k (fSm.rf w) g11) ⟨Nat.le_of_ble_eq_true rfl, Nat.le_of_ble_eq_true rfl⟩ ⟨Nat.le_of_ble_eq_true rfl, Nat.le_of_ble_eq_true rfl⟩ (Nat.le_of_ble_eq_true rfl) rfl dX4_wordAt_32 (fun e16 => ?_)
      obtain ⟨g17, hF⟩ := fg_open hF
      obtain rfl := Option.some.inj hF
      refine f_widen (k' := 2) (s' := 12) (Nat.le_of_ble_eq_true rfl) (Nat.le_of_ble_eq_true rfl) ?_
      exact f_zretX hC hEn (fSm.rf w) (nar_c g17) dX4_wordAt_35
    · replace hF := fi_pos hF c13
      obtain rfl := Option.some.inj hF
      exact f_throwXS hC hEn (fSm.rf w) 38 rfl xf_5 xy_5 xn_5 ns_0 ns_1 ns_2 ns_5 q_525 q_89 rfl xa_RX4_157 xg_RX4_153_157 dX4_wordAt_17 dX4_wordAt_20 dX4_wordAt_21 dX4_wordAt_23 dX4_wordAt_26 (Nat.le_of_ble_eq_true rfl) (Nat.le_of_ble_eq_true rfl) (Nat.le_of_ble_eq_true rfl) (Nat.le_of_ble_eq_true rfl) (Nat.le_of_ble_eq_true rfl) (Nat.le_of_ble_eq_true rfl)
  · obtain rfl := Option.some.inj hF
    exact f_callVT hC [.int x1] hEn (fSm.rf w) (Nat.le_of_ble_eq_true rfl) (Nat.le_of_ble_eq_true rfl) (c_X4_existing l D cy a0 x1 w (.inr x6) h2) q_404 q_73 q_401 q_403 q_1 h9_X4_existing rfl (fSm.k (fSm.rf w) g3) ⟨Nat.le_of_ble_eq_true rfl, Nat.le_of_ble_eq_true rfl⟩ ⟨Nat.le_of_ble_eq_true rfl, Nat.le_of_ble_eq_true rfl⟩ (Nat.le_of_ble_eq_true rfl) rfl dX4_wordAt_2
theorem dX2_half_0 : decode cX2_half 0 = .ok (.iload_n 1, 1) := by decide +kernel
theorem dX2_half_1 : decode cX2_half 1 = .ok (.ifCond .eq 10, 3) := by decide +kernel
theorem dX2_half_4 : decode cX2_half 4 = .ok (.aload_n 0, 1) := by decide +kernel
theorem dX2_half_5 : decode cX2_half 5 = .ok (.getfield 42, 3) := by decide +kernel
theorem dX2_half_8 : decode cX2_half 8 = .ok (.goto 7, 3) := by decide +kernel
theorem dX2_half_11 : decode cX2_half 11 = .ok (.aload_n 0, 1) := by decide +kernel
theorem dX2_half_12 : decode cX2_half 12 = .ok (.getfield 38, 3) := by decide +kernel
theorem dX2_half_15 : decode cX2_half 15 = .ok (.areturn, 1) := by decide +kernel
theorem h9_X2_half : yX2_half.cls ≠ "java/lang/invoke/MethodHandle" ∧ yX2_half.cls ≠ "java/lang/invoke/VarHandle" ∧ (parseMethodDescriptor yX2_half.desc).map (fun d => d.parameters.length) = some 1 := by decide +kernel
noncomputable def F_X2_half (a0 : Nat) (x1 : Int32) (w : FW) : Option (Nat) :=
  (if x1 = 0 then fg (w.1 a0 = 3) inferInstance (some (gR w 206 a0 0)) else fg (w.1 a0 = 3) inferInstance (some (gR w 207 a0 0)))
set_option maxHeartbeats 4000000 in
set_option maxRecDepth 100000 in
theorem c_X2_half (l : Launch) (D : va_G) (cy : Nat → ClassId) (a0 : Nat) (x1 : Int32) (w : FW) (r : Nat) (hF : F_X2_half a0 x1 w = some r) : fSpec l D cy yX2_half cX2_half 2 (some (.object "FerryTickets$Half")) { frames := 0, cells := 0, slots := 0, locals := 0 } [.ref a0, .int x1] w w (some (.ref r)) := by
  refine f_begin (by decide +kernel) (Nat.le_of_ble_eq_true rfl) (fun X hC hEn => ?_)
  unfold F_X2_half at hF
  show fAt X 0 0 2 w [(0, .ref a0), (1, .int x1)] [] 0
  refine f_iload_n hC dX2_half_0 rfl 1 rfl ?_
  refine f_if_eq hC 11 dX2_half_1 (by decide) (fun c1 => ?_) (fun c1 => ?_)
  · replace hF := fi_pos hF c1
    refine f_aload_n hC dX2_half_11 rfl 0 rfl ?_
    obtain ⟨g2, hF⟩ := fg_open hF
    refine f_getR hC 2 6 206 rfl (by decide) iX2 q_193 rfl rfl (fSm.k (fSm.rf w) g2) dX2_half_12 ?_
    obtain rfl := Option.some.inj hF
    exact f_aret hC hEn (fSm.rf w) dX2_half_15
  · replace hF := fi_neg hF c1
    refine f_aload_n hC dX2_half_4 rfl 0 rfl ?_
    obtain ⟨g3, hF⟩ := fg_open hF
    refine f_getR hC 2 7 207 rfl (by decide) iX2 q_196 rfl rfl (fSm.k (fSm.rf w) g3) dX2_half_5 ?_
    refine f_goto hC 15 dX2_half_8 (by decide) ?_
    obtain rfl := Option.some.inj hF
    exact f_aret hC hEn (fSm.rf w) dX2_half_15
