theorem dX5_of_0 : decode cX5_of 0 = .ok (.aload_n 0, 1) := by decide +kernel
theorem dX5_of_1 : decode cX5_of 1 = .ok (.getfield 7, 3) := by decide +kernel
theorem dX5_of_4 : decode cX5_of 4 = .ok (.bipush 17, 2) := by decide +kernel
theorem dX5_of_6 : decode cX5_of 6 = .ok (.bipush 20, 2) := by decide +kernel
theorem dX5_of_8 : decode cX5_of 8 = .ok (.iload_n 1, 1) := by decide +kernel
theorem dX5_of_9 : decode cX5_of 9 = .ok (.imul, 1) := by decide +kernel
theorem dX5_of_10 : decode cX5_of 10 = .ok (.iadd, 1) := by decide +kernel
theorem dX5_of_11 : decode cX5_of 11 = .ok (.iload_n 2, 1) := by decide +kernel
theorem dX5_of_12 : decode cX5_of 12 = .ok (.iadd, 1) := by decide +kernel
theorem dX5_of_13 : decode cX5_of 13 = .ok (.iaload, 1) := by decide +kernel
theorem dX5_of_14 : decode cX5_of 14 = .ok (.ireturn, 1) := by decide +kernel
theorem h9_X5_of : yX5_of.cls ≠ "java/lang/invoke/MethodHandle" ∧ yX5_of.cls ≠ "java/lang/invoke/VarHandle" ∧ (parseMethodDescriptor yX5_of.desc).map (fun d => d.parameters.length) = some 2 := by decide +kernel
noncomputable def F_X5_of (a0 : Nat) (x1 : Int32) (x2 : Int32) (w : FW) : Option (Int32) :=
  fg (w.1 a0 = 6) inferInstance (fg (w.1 (gR w 501 a0 0) = 11) inferInstance (fg (¬ (((17 + (20 * x1)) + x2) < 0 ∨ w.2.1 (gR w 501 a0 0) ≤ Int32.toNatClampNeg ((17 + (20 * x1)) + x2))) inferInstance (some (gI w 601 (gR w 501 a0 0) (Int32.toNatClampNeg ((17 + (20 * x1)) + x2))))))
set_option maxHeartbeats 4000000 in
set_option maxRecDepth 100000 in
theorem c_X5_of (l : Launch) (D : va_G) (cy : Nat → ClassId) (a0 : Nat) (x1 : Int32) (x2 : Int32) (w : FW) (r : Int32) (hF : F_X5_of a0 x1 x2 w = some r) : fSpec l D cy yX5_of cX5_of 3 (some .int) { frames := 0, cells := 0, slots := 0, locals := 0 } [.ref a0, .int x1, .int x2] w w (some (.int r)) := by
  refine f_begin (by decide +kernel) (Nat.le_of_ble_eq_true rfl) (fun X hC hEn => ?_)
  unfold F_X5_of at hF
  show fAt X 0 0 3 w [(0, .ref a0), (1, .int x1), (2, .int x2)] [] 0
  refine f_aload_n hC dX5_of_0 rfl 0 rfl ?_
  obtain ⟨g1, hF⟩ := fg_open hF
  refine f_getR hC 5 1 501 rfl (by decide) iX5 q_1255 rfl rfl (fSm.k (fSm.rf w) g1) dX5_of_1 ?_
  refine f_bipush (v := 17) hC dX5_of_4 (by decide) ?_
  refine f_bipush (v := 20) hC dX5_of_6 (by decide) ?_
  refine f_iload_n hC dX5_of_8 rfl 1 rfl ?_
  refine f_imul hC dX5_of_9 ?_
  refine f_iadd hC dX5_of_10 ?_
  refine f_iload_n hC dX5_of_11 rfl 2 rfl ?_
  refine f_iadd hC dX5_of_12 ?_
  obtain ⟨g2, hF⟩ := fg_open hF
  obtain ⟨g3, hF⟩ := fg_open hF
  refine f_iald hC (fSm.k (fSm.rf w) g2) (fSm.v (fSm.rf w) g3) dX5_of_13 ?_
  obtain rfl := Option.some.inj hF
  exact f_iret hC hEn (fSm.rf w) dX5_of_14
theorem dX5_sets_0 : decode cX5_sets 0 = .ok (.aload_n 0, 1) := by decide +kernel
theorem dX5_sets_1 : decode cX5_sets 1 = .ok (.getfield 7, 3) := by decide +kernel
theorem dX5_sets_4 : decode cX5_sets 4 = .ok (.bipush 17, 2) := by decide +kernel
theorem dX5_sets_6 : decode cX5_sets 6 = .ok (.bipush 20, 2) := by decide +kernel
theorem dX5_sets_8 : decode cX5_sets 8 = .ok (.iload_n 1, 1) := by decide +kernel
theorem dX5_sets_9 : decode cX5_sets 9 = .ok (.imul, 1) := by decide +kernel
theorem dX5_sets_10 : decode cX5_sets 10 = .ok (.iadd, 1) := by decide +kernel
theorem dX5_sets_11 : decode cX5_sets 11 = .ok (.iload_n 2, 1) := by decide +kernel
theorem dX5_sets_12 : decode cX5_sets 12 = .ok (.iadd, 1) := by decide +kernel
theorem dX5_sets_13 : decode cX5_sets 13 = .ok (.iload_n 3, 1) := by decide +kernel
theorem dX5_sets_14 : decode cX5_sets 14 = .ok (.iastore, 1) := by decide +kernel
theorem dX5_sets_15 : decode cX5_sets 15 = .ok (.return_, 1) := by decide +kernel
theorem h9_X5_sets : yX5_sets.cls ≠ "java/lang/invoke/MethodHandle" ∧ yX5_sets.cls ≠ "java/lang/invoke/VarHandle" ∧ (parseMethodDescriptor yX5_sets.desc).map (fun d => d.parameters.length) = some 3 := by decide +kernel
noncomputable def F_X5_sets (a0 : Nat) (x1 : Int32) (x2 : Int32) (x3 : Int32) (w : FW) : Option (FW) :=
  fg (w.1 a0 = 6) inferInstance (fg (w.1 (gR w 501 a0 0) = 11) inferInstance (fg (¬ (((17 + (20 * x1)) + x2) < 0 ∨ w.2.1 (gR w 501 a0 0) ≤ Int32.toNatClampNeg ((17 + (20 * x1)) + x2))) inferInstance (some (sI w 601 (gR w 501 a0 0) (Int32.toNatClampNeg ((17 + (20 * x1)) + x2)) x3))))
set_option maxHeartbeats 4000000 in
set_option maxRecDepth 100000 in
theorem c_X5_sets (l : Launch) (D : va_G) (cy : Nat → ClassId) (a0 : Nat) (x1 : Int32) (x2 : Int32) (x3 : Int32) (w : FW) (r : FW) (hF : F_X5_sets a0 x1 x2 x3 w = some r) : fSpec l D cy yX5_sets cX5_sets 4 none { frames := 0, cells := 0, slots := 0, locals := 0 } [.ref a0, .int x1, .int x2, .int x3] w r none := by
  refine f_begin (by decide +kernel) (Nat.le_of_ble_eq_true rfl) (fun X hC hEn => ?_)
  unfold F_X5_sets at hF
  show fAt X 0 0 4 w [(0, .ref a0), (1, .int x1), (2, .int x2), (3, .int x3)] [] 0
  refine f_aload_n hC dX5_sets_0 rfl 0 rfl ?_
  obtain ⟨g1, hF⟩ := fg_open hF
  refine f_getR hC 5 1 501 rfl (by decide) iX5 q_1255 rfl rfl (fSm.k (fSm.rf w) g1) dX5_sets_1 ?_
  refine f_bipush (v := 17) hC dX5_sets_4 (by decide) ?_
  refine f_bipush (v := 20) hC dX5_sets_6 (by decide) ?_
  refine f_iload_n hC dX5_sets_8 rfl 1 rfl ?_
  refine f_imul hC dX5_sets_9 ?_
  refine f_iadd hC dX5_sets_10 ?_
  refine f_iload_n hC dX5_sets_11 rfl 2 rfl ?_
  refine f_iadd hC dX5_sets_12 ?_
  refine f_iload_n hC dX5_sets_13 rfl 3 rfl ?_
  obtain ⟨g2, hF⟩ := fg_open hF
  obtain ⟨g3, hF⟩ := fg_open hF
  refine f_iast hC (fSm.k (fSm.rf w) g2) (fSm.v (fSm.rf w) g3) dX5_sets_14 ?_
  obtain rfl := Option.some.inj hF
  exact f_vret hC hEn (fSm.rf w) dX5_sets_15
theorem dX5_letterOf_0 : decode cX5_letterOf 0 = .ok (.aload_n 0, 1) := by decide +kernel
theorem dX5_letterOf_1 : decode cX5_letterOf 1 = .ok (.iload_n 1, 1) := by decide +kernel
theorem dX5_letterOf_2 : decode cX5_letterOf 2 = .ok (.iconst 1, 1) := by decide +kernel
theorem dX5_letterOf_3 : decode cX5_letterOf 3 = .ok (.iload_n 2, 1) := by decide +kernel
theorem dX5_letterOf_4 : decode cX5_letterOf 4 = .ok (.iadd, 1) := by decide +kernel
theorem dX5_letterOf_5 : decode cX5_letterOf 5 = .ok (.invokevirtual 70, 3) := by decide +kernel
theorem dX5_letterOf_8 : decode cX5_letterOf 8 = .ok (.ireturn, 1) := by decide +kernel
theorem h9_X5_letterOf : yX5_letterOf.cls ≠ "java/lang/invoke/MethodHandle" ∧ yX5_letterOf.cls ≠ "java/lang/invoke/VarHandle" ∧ (parseMethodDescriptor yX5_letterOf.desc).map (fun d => d.parameters.length) = some 2 := by decide +kernel
noncomputable def F_X5_letterOf (a0 : Nat) (x1 : Int32) (x2 : Int32) (w : FW) : Option (Int32) :=
  fg (w.1 a0 = 6) inferInstance ((F_X5_of a0 x1 (1 + x2) w).bind (fun r1 => some r1))
set_option maxHeartbeats 4000000 in
set_option maxRecDepth 100000 in
theorem c_X5_letterOf (l : Launch) (D : va_G) (cy : Nat → ClassId) (a0 : Nat) (x1 : Int32) (x2 : Int32) (w : FW) (r : Int32) (hF : F_X5_letterOf a0 x1 x2 w = some r) : fSpec l D cy yX5_letterOf cX5_letterOf 3 (some .int) { frames := 1, cells := 0, slots := 0, locals := 22 } [.ref a0, .int x1, .int x2] w w (some (.int r)) := by
  refine f_begin (by decide +kernel) (Nat.le_of_ble_eq_true rfl) (fun X hC hEn => ?_)
  unfold F_X5_letterOf at hF
  show fAt X 0 0 3 w [(0, .ref a0), (1, .int x1), (2, .int x2)] [] 0
  refine f_aload_n hC dX5_letterOf_0 rfl 0 rfl ?_
  refine f_iload_n hC dX5_letterOf_1 rfl 1 rfl ?_
  refine f_iconst (v := 1) hC dX5_letterOf_2 (by decide) ?_
  refine f_iload_n hC dX5_letterOf_3 rfl 2 rfl ?_
  refine f_iadd hC dX5_letterOf_4 ?_
  obtain ⟨g3, hF⟩ := fg_open hF
  obtain ⟨r1, h2, hF⟩ := fb_open hF
  refine f_callV hC [.int x1, .int (1 + x2)] (c_X5_of l D cy a0 x1 (1 + x2) w r1 h2) q_1447 q_136 q_1444 q_1446 q_90 h9_X5_of rfl (fSm.k (fSm.rf w) g3) ⟨Nat.le_of_ble_eq_true rfl, Nat.le_of_ble_eq_true rfl⟩ ⟨Nat.le_of_ble_eq_true rfl, Nat.le_of_ble_eq_true rfl⟩ (Nat.le_of_ble_eq_true rfl) rfl dX5_letterOf_5 (fun e4 => ?_)
  obtain rfl := Option.some.inj hF
  exact f_iret hC hEn (fSm.rf w) dX5_letterOf_8
theorem dX5_half_0 : decode cX5_half 0 = .ok (.aload_n 0, 1) := by decide +kernel
theorem dX5_half_1 : decode cX5_half 1 = .ok (.iload_n 1, 1) := by decide +kernel
theorem dX5_half_2 : decode cX5_half 2 = .ok (.bipush 12, 2) := by decide +kernel
theorem dX5_half_4 : decode cX5_half 4 = .ok (.iconst 4, 1) := by decide +kernel
theorem dX5_half_5 : decode cX5_half 5 = .ok (.iload_n 2, 1) := by decide +kernel
theorem dX5_half_6 : decode cX5_half 6 = .ok (.imul, 1) := by decide +kernel
theorem dX5_half_7 : decode cX5_half 7 = .ok (.iadd, 1) := by decide +kernel
theorem dX5_half_8 : decode cX5_half 8 = .ok (.iload_n 3, 1) := by decide +kernel
theorem dX5_half_9 : decode cX5_half 9 = .ok (.iadd, 1) := by decide +kernel
theorem dX5_half_10 : decode cX5_half 10 = .ok (.invokevirtual 70, 3) := by decide +kernel
theorem dX5_half_13 : decode cX5_half 13 = .ok (.ireturn, 1) := by decide +kernel
theorem h9_X5_half : yX5_half.cls ≠ "java/lang/invoke/MethodHandle" ∧ yX5_half.cls ≠ "java/lang/invoke/VarHandle" ∧ (parseMethodDescriptor yX5_half.desc).map (fun d => d.parameters.length) = some 3 := by decide +kernel
noncomputable def F_X5_half (a0 : Nat) (x1 : Int32) (x2 : Int32) (x3 : Int32) (w : FW) : Option (Int32) :=
  fg (w.1 a0 = 6) inferInstance ((F_X5_of a0 x1 ((12 + (4 * x2)) + x3) w).bind (fun r1 => some r1))
set_option maxHeartbeats 4000000 in
set_option maxRecDepth 100000 in
theorem c_X5_half (l : Launch) (D : va_G) (cy : Nat → ClassId) (a0 : Nat) (x1 : Int32) (x2 : Int32) (x3 : Int32) (w : FW) (r : Int32) (hF : F_X5_half a0 x1 x2 x3 w = some r) : fSpec l D cy yX5_half cX5_half 4 (some .int) { frames := 1, cells := 0, slots := 0, locals := 22 } [.ref a0, .int x1, .int x2, .int x3] w w (some (.int r)) := by
  refine f_begin (by decide +kernel) (Nat.le_of_ble_eq_true rfl) (fun X hC hEn => ?_)
  unfold F_X5_half at hF
  show fAt X 0 0 4 w [(0, .ref a0), (1, .int x1), (2, .int x2), (3, .int x3)] [] 0
  refine f_aload_n hC dX5_half_0 rfl 0 rfl ?_
  refine f_iload_n hC dX5_half_1 rfl 1 rfl ?_
  refine f_bipush (v := 12) hC dX5_half_2 (by decide) ?_
  refine f_iconst (v := 4) hC dX5_half_4 (by decide) ?_
  refine f_iload_n hC dX5_half_5 rfl 2 rfl ?_
  refine f_imul hC dX5_half_6 ?_
  refine f_iadd hC dX5_half_7 ?_
  refine f_iload_n hC dX5_half_8 rfl 3 rfl ?_
  refine f_iadd hC dX5_half_9 ?_
  obtain ⟨g3, hF⟩ := fg_open hF
  obtain ⟨r1, h2, hF⟩ := fb_open hF
  refine f_callV hC [.int x1, .int ((12 + (4 * x2)) + x3)] (c_X5_of l D cy a0 x1 ((12 + (4 * x2)) + x3) w r1 h2) q_1447 q_136 q_1444 q_1446 q_90 h9_X5_of rfl (fSm.k (fSm.rf w) g3) ⟨Nat.le_of_ble_eq_true rfl, Nat.le_of_ble_eq_true rfl⟩ ⟨Nat.le_of_ble_eq_true rfl, Nat.le_of_ble_eq_true rfl⟩ (Nat.le_of_ble_eq_true rfl) rfl dX5_half_10 (fun e4 => ?_)
  obtain rfl := Option.some.inj hF
  exact f_iret hC hEn (fSm.rf w) dX5_half_13
theorem dX5_setsHalf_0 : decode cX5_setsHalf 0 = .ok (.aload_n 0, 1) := by decide +kernel
theorem dX5_setsHalf_1 : decode cX5_setsHalf 1 = .ok (.iload_n 1, 1) := by decide +kernel
theorem dX5_setsHalf_2 : decode cX5_setsHalf 2 = .ok (.bipush 12, 2) := by decide +kernel
theorem dX5_setsHalf_4 : decode cX5_setsHalf 4 = .ok (.iconst 4, 1) := by decide +kernel
theorem dX5_setsHalf_5 : decode cX5_setsHalf 5 = .ok (.iload_n 2, 1) := by decide +kernel
theorem dX5_setsHalf_6 : decode cX5_setsHalf 6 = .ok (.imul, 1) := by decide +kernel
theorem dX5_setsHalf_7 : decode cX5_setsHalf 7 = .ok (.iadd, 1) := by decide +kernel
theorem dX5_setsHalf_8 : decode cX5_setsHalf 8 = .ok (.iload_n 3, 1) := by decide +kernel
theorem dX5_setsHalf_9 : decode cX5_setsHalf 9 = .ok (.iadd, 1) := by decide +kernel
theorem dX5_setsHalf_10 : decode cX5_setsHalf 10 = .ok (.iload 4, 2) := by decide +kernel
theorem dX5_setsHalf_12 : decode cX5_setsHalf 12 = .ok (.invokevirtual 74, 3) := by decide +kernel
theorem dX5_setsHalf_15 : decode cX5_setsHalf 15 = .ok (.return_, 1) := by decide +kernel
theorem h9_X5_setsHalf : yX5_setsHalf.cls ≠ "java/lang/invoke/MethodHandle" ∧ yX5_setsHalf.cls ≠ "java/lang/invoke/VarHandle" ∧ (parseMethodDescriptor yX5_setsHalf.desc).map (fun d => d.parameters.length) = some 4 := by decide +kernel
noncomputable def F_X5_setsHalf (a0 : Nat) (x1 : Int32) (x2 : Int32) (x3 : Int32) (x4 : Int32) (w : FW) : Option (FW) :=
  fg (w.1 a0 = 6) inferInstance ((F_X5_sets a0 x1 ((12 + (4 * x2)) + x3) x4 w).bind (fun r1 => some r1))
set_option maxHeartbeats 4000000 in
set_option maxRecDepth 100000 in
theorem c_X5_setsHalf (l : Launch) (D : va_G) (cy : Nat → ClassId) (a0 : Nat) (x1 : Int32) (x2 : Int32) (x3 : Int32) (x4 : Int32) (w : FW) (r : FW) (hF : F_X5_setsHalf a0 x1 x2 x3 x4 w = some r) : fSpec l D cy yX5_setsHalf cX5_setsHalf 5 none { frames := 1, cells := 0, slots := 0, locals := 23 } [.ref a0, .int x1, .int x2, .int x3, .int x4] w r none := by
  refine f_begin (by decide +kernel) (Nat.le_of_ble_eq_true rfl) (fun X hC hEn => ?_)
  unfold F_X5_setsHalf at hF
  show fAt X 0 0 5 w [(0, .ref a0), (1, .int x1), (2, .int x2), (3, .int x3), (4, .int x4)] [] 0
  refine f_aload_n hC dX5_setsHalf_0 rfl 0 rfl ?_
  refine f_iload_n hC dX5_setsHalf_1 rfl 1 rfl ?_
  refine f_bipush (v := 12) hC dX5_setsHalf_2 (by decide) ?_
  refine f_iconst (v := 4) hC dX5_setsHalf_4 (by decide) ?_
  refine f_iload_n hC dX5_setsHalf_5 rfl 2 rfl ?_
  refine f_imul hC dX5_setsHalf_6 ?_
  refine f_iadd hC dX5_setsHalf_7 ?_
  refine f_iload_n hC dX5_setsHalf_8 rfl 3 rfl ?_
  refine f_iadd hC dX5_setsHalf_9 ?_
  refine f_iload hC dX5_setsHalf_10 4 rfl ?_
  obtain ⟨g3, hF⟩ := fg_open hF
  obtain ⟨r1, h2, hF⟩ := fb_open hF
  refine f_callV hC [.int x1, .int ((12 + (4 * x2)) + x3), .int x4] (c_X5_sets l D cy a0 x1 ((12 + (4 * x2)) + x3) x4 w r1 h2) q_1399 q_136 q_1396 q_1398 q_82 h9_X5_sets rfl (fSm.k (fSm.rf w) g3) ⟨Nat.le_of_ble_eq_true rfl, Nat.le_of_ble_eq_true rfl⟩ ⟨Nat.le_of_ble_eq_true rfl, Nat.le_of_ble_eq_true rfl⟩ (Nat.le_of_ble_eq_true rfl) rfl dX5_setsHalf_12 (fun e4 => ?_)
  obtain rfl := Option.some.inj hF
  exact f_vret hC hEn (fSm.tr e4 (fSm.rf w)) dX5_setsHalf_15
theorem dX5_isPunched_0 : decode cX5_isPunched 0 = .ok (.aload_n 0, 1) := by decide +kernel
theorem dX5_isPunched_1 : decode cX5_isPunched 1 = .ok (.iload_n 1, 1) := by decide +kernel
theorem dX5_isPunched_2 : decode cX5_isPunched 2 = .ok (.iload_n 2, 1) := by decide +kernel
theorem dX5_isPunched_3 : decode cX5_isPunched 3 = .ok (.iconst 0, 1) := by decide +kernel
theorem dX5_isPunched_4 : decode cX5_isPunched 4 = .ok (.invokevirtual 78, 3) := by decide +kernel
theorem dX5_isPunched_7 : decode cX5_isPunched 7 = .ok (.iconst (-1), 1) := by decide +kernel
theorem dX5_isPunched_8 : decode cX5_isPunched 8 = .ok (.if_icmp .eq 7, 3) := by decide +kernel
theorem dX5_isPunched_11 : decode cX5_isPunched 11 = .ok (.iconst 1, 1) := by decide +kernel
theorem dX5_isPunched_12 : decode cX5_isPunched 12 = .ok (.goto 4, 3) := by decide +kernel
theorem dX5_isPunched_15 : decode cX5_isPunched 15 = .ok (.iconst 0, 1) := by decide +kernel
theorem dX5_isPunched_16 : decode cX5_isPunched 16 = .ok (.ireturn, 1) := by decide +kernel
theorem h9_X5_isPunched : yX5_isPunched.cls ≠ "java/lang/invoke/MethodHandle" ∧ yX5_isPunched.cls ≠ "java/lang/invoke/VarHandle" ∧ (parseMethodDescriptor yX5_isPunched.desc).map (fun d => d.parameters.length) = some 2 := by decide +kernel
noncomputable def F_X5_isPunched (a0 : Nat) (x1 : Int32) (x2 : Int32) (w : FW) : Option (Int32) :=
  fg (w.1 a0 = 6) inferInstance ((F_X5_half a0 x1 x2 0 w).bind (fun r1 => (if r1 = (-1) then some 0 else some 1)))
set_option maxHeartbeats 4000000 in
set_option maxRecDepth 100000 in
theorem c_X5_isPunched (l : Launch) (D : va_G) (cy : Nat → ClassId) (a0 : Nat) (x1 : Int32) (x2 : Int32) (w : FW) (r : Int32) (hF : F_X5_isPunched a0 x1 x2 w = some r) : fSpec l D cy yX5_isPunched cX5_isPunched 3 (some .boolean) { frames := 2, cells := 0, slots := 0, locals := 45 } [.ref a0, .int x1, .int x2] w w (some (.int r)) := by
  refine f_begin (by decide +kernel) (Nat.le_of_ble_eq_true rfl) (fun X hC hEn => ?_)
  unfold F_X5_isPunched at hF
  show fAt X 0 0 3 w [(0, .ref a0), (1, .int x1), (2, .int x2)] [] 0
  refine f_aload_n hC dX5_isPunched_0 rfl 0 rfl ?_
  refine f_iload_n hC dX5_isPunched_1 rfl 1 rfl ?_
  refine f_iload_n hC dX5_isPunched_2 rfl 2 rfl ?_
  refine f_iconst (v := 0) hC dX5_isPunched_3 (by decide) ?_
  obtain ⟨g3, hF⟩ := fg_open hF
  obtain ⟨r1, h2, hF⟩ := fb_open hF
  refine f_callV hC [.int x1, .int x2, .int 0] (c_X5_half l D cy a0 x1 x2 0 w r1 h2) q_1478 q_136 q_1475 q_1477 q_95 h9_X5_half rfl (fSm.k (fSm.rf w) g3) ⟨Nat.le_of_ble_eq_true rfl, Nat.le_of_ble_eq_true rfl⟩ ⟨Nat.le_of_ble_eq_true rfl, Nat.le_of_ble_eq_true rfl⟩ (Nat.le_of_ble_eq_true rfl) rfl dX5_isPunched_4 (fun e4 => ?_)
  refine f_iconst (v := (-1)) hC dX5_isPunched_7 (by decide) ?_
  refine f_icmp_eq hC 15 dX5_isPunched_8 (by decide) (fun c5 => ?_) (fun c5 => ?_)
  · replace hF := fi_pos hF c5
    refine f_iconst (v := 0) hC dX5_isPunched_15 (by decide) ?_
    obtain rfl := Option.some.inj hF
    exact f_zret hC hEn (fSm.rf w) (nar_z (by decide)) dX5_isPunched_16
  · replace hF := fi_neg hF c5
    refine f_iconst (v := 1) hC dX5_isPunched_11 (by decide) ?_
    refine f_goto hC 16 dX5_isPunched_12 (by decide) ?_
    obtain rfl := Option.some.inj hF
    exact f_zret hC hEn (fSm.rf w) (nar_z (by decide)) dX5_isPunched_16
theorem dX5_vowel_0 : decode cX5_vowel 0 = .ok (.iload_n 0, 1) := by decide +kernel
theorem dX5_vowel_1 : decode cX5_vowel 1 = .ok (.bipush 97, 2) := by decide +kernel
theorem dX5_vowel_3 : decode cX5_vowel 3 = .ok (.if_icmp .ne 7, 3) := by decide +kernel
theorem dX5_vowel_6 : decode cX5_vowel 6 = .ok (.iconst 0, 1) := by decide +kernel
theorem dX5_vowel_7 : decode cX5_vowel 7 = .ok (.goto 44, 3) := by decide +kernel
theorem dX5_vowel_10 : decode cX5_vowel 10 = .ok (.iload_n 0, 1) := by decide +kernel
theorem dX5_vowel_11 : decode cX5_vowel 11 = .ok (.bipush 101, 2) := by decide +kernel
theorem dX5_vowel_13 : decode cX5_vowel 13 = .ok (.if_icmp .ne 7, 3) := by decide +kernel
theorem dX5_vowel_16 : decode cX5_vowel 16 = .ok (.iconst 1, 1) := by decide +kernel
theorem dX5_vowel_17 : decode cX5_vowel 17 = .ok (.goto 34, 3) := by decide +kernel
theorem dX5_vowel_20 : decode cX5_vowel 20 = .ok (.iload_n 0, 1) := by decide +kernel
theorem dX5_vowel_21 : decode cX5_vowel 21 = .ok (.bipush 105, 2) := by decide +kernel
theorem dX5_vowel_23 : decode cX5_vowel 23 = .ok (.if_icmp .ne 7, 3) := by decide +kernel
theorem dX5_vowel_26 : decode cX5_vowel 26 = .ok (.iconst 2, 1) := by decide +kernel
theorem dX5_vowel_27 : decode cX5_vowel 27 = .ok (.goto 24, 3) := by decide +kernel
theorem dX5_vowel_30 : decode cX5_vowel 30 = .ok (.iload_n 0, 1) := by decide +kernel
theorem dX5_vowel_31 : decode cX5_vowel 31 = .ok (.bipush 111, 2) := by decide +kernel
theorem dX5_vowel_33 : decode cX5_vowel 33 = .ok (.if_icmp .ne 7, 3) := by decide +kernel
theorem dX5_vowel_36 : decode cX5_vowel 36 = .ok (.iconst 3, 1) := by decide +kernel
theorem dX5_vowel_37 : decode cX5_vowel 37 = .ok (.goto 14, 3) := by decide +kernel
theorem dX5_vowel_40 : decode cX5_vowel 40 = .ok (.iload_n 0, 1) := by decide +kernel
theorem dX5_vowel_41 : decode cX5_vowel 41 = .ok (.bipush 117, 2) := by decide +kernel
theorem dX5_vowel_43 : decode cX5_vowel 43 = .ok (.if_icmp .ne 7, 3) := by decide +kernel
theorem dX5_vowel_46 : decode cX5_vowel 46 = .ok (.iconst 4, 1) := by decide +kernel
theorem dX5_vowel_47 : decode cX5_vowel 47 = .ok (.goto 4, 3) := by decide +kernel
theorem dX5_vowel_50 : decode cX5_vowel 50 = .ok (.iconst (-1), 1) := by decide +kernel
theorem dX5_vowel_51 : decode cX5_vowel 51 = .ok (.ireturn, 1) := by decide +kernel
theorem h9_X5_vowel : yX5_vowel.cls ≠ "java/lang/invoke/MethodHandle" ∧ yX5_vowel.cls ≠ "java/lang/invoke/VarHandle" ∧ (parseMethodDescriptor yX5_vowel.desc).map (fun d => d.parameters.length) = some 1 := by decide +kernel
noncomputable def F_X5_vowel (x1 : Int32) (w : FW) : Option (Int32) :=
  (if x1 = 97 then some 0 else (if x1 = 101 then some 1 else (if x1 = 105 then some 2 else (if x1 = 111 then some 3 else (if x1 = 117 then some 4 else some (-1))))))
set_option maxHeartbeats 4000000 in
set_option maxRecDepth 100000 in
theorem c_X5_vowel (l : Launch) (D : va_G) (cy : Nat → ClassId) (x1 : Int32) (w : FW) (r : Int32) (hF : F_X5_vowel x1 w = some r) : fSpec l D cy yX5_vowel cX5_vowel 1 (some .int) { frames := 0, cells := 0, slots := 0, locals := 0 } [.int x1] w w (some (.int r)) := by
  refine f_begin (by decide +kernel) (Nat.le_of_ble_eq_true rfl) (fun X hC hEn => ?_)
  unfold F_X5_vowel at hF
  show fAt X 0 0 1 w [(0, .int x1)] [] 0
  refine f_iload_n hC dX5_vowel_0 rfl 0 rfl ?_
  refine f_bipush (v := 97) hC dX5_vowel_1 (by decide) ?_
  refine f_icmp_ne hC 10 dX5_vowel_3 (by decide) (fun c1 => ?_) (fun c1 => ?_)
  · replace hF := fi_neg hF c1
    refine f_iload_n hC dX5_vowel_10 rfl 0 rfl ?_
    refine f_bipush (v := 101) hC dX5_vowel_11 (by decide) ?_
    refine f_icmp_ne hC 20 dX5_vowel_13 (by decide) (fun c2 => ?_) (fun c2 => ?_)
    · replace hF := fi_neg hF c2
      refine f_iload_n hC dX5_vowel_20 rfl 0 rfl ?_
      refine f_bipush (v := 105) hC dX5_vowel_21 (by decide) ?_
      refine f_icmp_ne hC 30 dX5_vowel_23 (by decide) (fun c3 => ?_) (fun c3 => ?_)
      · replace hF := fi_neg hF c3
        refine f_iload_n hC dX5_vowel_30 rfl 0 rfl ?_
        refine f_bipush (v := 111) hC dX5_vowel_31 (by decide) ?_
        refine f_icmp_ne hC 40 dX5_vowel_33 (by decide) (fun c4 => ?_) (fun c4 => ?_)
        · replace hF := fi_neg hF c4
          refine f_iload_n hC dX5_vowel_40 rfl 0 rfl ?_
          refine f_bipush (v := 117) hC dX5_vowel_41 (by decide) ?_
          refine f_icmp_ne hC 50 dX5_vowel_43 (by decide) (fun c5 => ?_) (fun c5 => ?_)
          · replace hF := fi_neg hF c5
            refine f_iconst (v := (-1)) hC dX5_vowel_50 (by decide) ?_
            obtain rfl := Option.some.inj hF
            exact f_iret hC hEn (fSm.rf w) dX5_vowel_51
          · replace hF := fi_pos hF c5
            refine f_iconst (v := 4) hC dX5_vowel_46 (by decide) ?_
            refine f_goto hC 51 dX5_vowel_47 (by decide) ?_
            obtain rfl := Option.some.inj hF
            exact f_iret hC hEn (fSm.rf w) dX5_vowel_51
        · replace hF := fi_pos hF c4
          refine f_iconst (v := 3) hC dX5_vowel_36 (by decide) ?_
          refine f_goto hC 51 dX5_vowel_37 (by decide) ?_
          obtain rfl := Option.some.inj hF
          exact f_iret hC hEn (fSm.rf w) dX5_vowel_51
      · replace hF := fi_pos hF c3
        refine f_iconst (v := 2) hC dX5_vowel_26 (by decide) ?_
        refine f_goto hC 51 dX5_vowel_27 (by decide) ?_
        obtain rfl := Option.some.inj hF
        exact f_iret hC hEn (fSm.rf w) dX5_vowel_51
    · replace hF := fi_pos hF c2
      refine f_iconst (v := 1) hC dX5_vowel_16 (by decide) ?_
      refine f_goto hC 51 dX5_vowel_17 (by decide) ?_
      obtain rfl := Option.some.inj hF
      exact f_iret hC hEn (fSm.rf w) dX5_vowel_51
  · replace hF := fi_pos hF c1
    refine f_iconst (v := 0) hC dX5_vowel_6 (by decide) ?_
    refine f_goto hC 51 dX5_vowel_7 (by decide) ?_
    obtain rfl := Option.some.inj hF
    exact f_iret hC hEn (fSm.rf w) dX5_vowel_51
theorem dX5_isConsonant_0 : decode cX5_isConsonant 0 = .ok (.iload_n 0, 1) := by decide +kernel
theorem dX5_isConsonant_1 : decode cX5_isConsonant 1 = .ok (.bipush 98, 2) := by decide +kernel
theorem dX5_isConsonant_3 : decode cX5_isConsonant 3 = .ok (.if_icmp .eq 31, 3) := by decide +kernel
theorem dX5_isConsonant_6 : decode cX5_isConsonant 6 = .ok (.iload_n 0, 1) := by decide +kernel
theorem dX5_isConsonant_7 : decode cX5_isConsonant 7 = .ok (.bipush 100, 2) := by decide +kernel
theorem dX5_isConsonant_9 : decode cX5_isConsonant 9 = .ok (.if_icmp .eq 25, 3) := by decide +kernel
theorem dX5_isConsonant_12 : decode cX5_isConsonant 12 = .ok (.iload_n 0, 1) := by decide +kernel
theorem dX5_isConsonant_13 : decode cX5_isConsonant 13 = .ok (.bipush 107, 2) := by decide +kernel
theorem dX5_isConsonant_15 : decode cX5_isConsonant 15 = .ok (.bipush 110, 2) := by decide +kernel
theorem dX5_isConsonant_17 : decode cX5_isConsonant 17 = .ok (.invokestatic 66, 3) := by decide +kernel
theorem dX5_isConsonant_20 : decode cX5_isConsonant 20 = .ok (.ifCond .ne 14, 3) := by decide +kernel
theorem dX5_isConsonant_23 : decode cX5_isConsonant 23 = .ok (.iload_n 0, 1) := by decide +kernel
theorem dX5_isConsonant_24 : decode cX5_isConsonant 24 = .ok (.bipush 114, 2) := by decide +kernel
theorem dX5_isConsonant_26 : decode cX5_isConsonant 26 = .ok (.bipush 116, 2) := by decide +kernel
theorem dX5_isConsonant_28 : decode cX5_isConsonant 28 = .ok (.invokestatic 66, 3) := by decide +kernel
theorem dX5_isConsonant_31 : decode cX5_isConsonant 31 = .ok (.ifCond .eq 7, 3) := by decide +kernel
theorem dX5_isConsonant_34 : decode cX5_isConsonant 34 = .ok (.iconst 1, 1) := by decide +kernel
theorem dX5_isConsonant_35 : decode cX5_isConsonant 35 = .ok (.goto 4, 3) := by decide +kernel
theorem dX5_isConsonant_38 : decode cX5_isConsonant 38 = .ok (.iconst 0, 1) := by decide +kernel
theorem dX5_isConsonant_39 : decode cX5_isConsonant 39 = .ok (.ireturn, 1) := by decide +kernel
theorem h9_X5_isConsonant : yX5_isConsonant.cls ≠ "java/lang/invoke/MethodHandle" ∧ yX5_isConsonant.cls ≠ "java/lang/invoke/VarHandle" ∧ (parseMethodDescriptor yX5_isConsonant.desc).map (fun d => d.parameters.length) = some 1 := by decide +kernel
noncomputable def F_X5_isConsonant (x1 : Int32) (w : FW) : Option (Int32) :=
  (if x1 = 98 then some 1 else (if x1 = 100 then some 1 else (F_X5_in x1 107 110 w).bind (fun r3 => (if r3 = 0 then (F_X5_in x1 114 116 w).bind (fun r7 => (if r7 = 0 then some 0 else some 1)) else some 1))))
set_option maxHeartbeats 4000000 in
set_option maxRecDepth 100000 in
theorem c_X5_isConsonant (l : Launch) (D : va_G) (cy : Nat → ClassId) (x1 : Int32) (w : FW) (r : Int32) (hF : F_X5_isConsonant x1 w = some r) : fSpec l D cy yX5_isConsonant cX5_isConsonant 1 (some .boolean) { frames := 1, cells := 0, slots := 0, locals := 22 } [.int x1] w w (some (.int r)) := by
  refine f_begin (by decide +kernel) (Nat.le_of_ble_eq_true rfl) (fun X hC hEn => ?_)
  unfold F_X5_isConsonant at hF
  show fAt X 0 0 1 w [(0, .int x1)] [] 0
  refine f_iload_n hC dX5_isConsonant_0 rfl 0 rfl ?_
  refine f_bipush (v := 98) hC dX5_isConsonant_1 (by decide) ?_
  refine f_icmp_eq hC 34 dX5_isConsonant_3 (by decide) (fun c1 => ?_) (fun c1 => ?_)
  · replace hF := fi_pos hF c1
    refine f_iconst (v := 1) hC dX5_isConsonant_34 (by decide) ?_
    refine f_goto hC 39 dX5_isConsonant_35 (by decide) ?_
    obtain rfl := Option.some.inj hF
    exact f_zret hC hEn (fSm.rf w) (nar_z (by decide)) dX5_isConsonant_39
  · replace hF := fi_neg hF c1
    refine f_iload_n hC dX5_isConsonant_6 rfl 0 rfl ?_
    refine f_bipush (v := 100) hC dX5_isConsonant_7 (by decide) ?_
    refine f_icmp_eq hC 34 dX5_isConsonant_9 (by decide) (fun c2 => ?_) (fun c2 => ?_)
    · replace hF := fi_pos hF c2
      refine f_iconst (v := 1) hC dX5_isConsonant_34 (by decide) ?_
      refine f_goto hC 39 dX5_isConsonant_35 (by decide) ?_
      obtain rfl := Option.some.inj hF
      exact f_zret hC hEn (fSm.rf w) (nar_z (by decide)) dX5_isConsonant_39
    · replace hF := fi_neg hF c2
      refine f_iload_n hC dX5_isConsonant_12 rfl 0 rfl ?_
      refine f_bipush (v := 107) hC dX5_isConsonant_13 (by decide) ?_
      refine f_bipush (v := 110) hC dX5_isConsonant_15 (by decide) ?_
      obtain ⟨r3, h4, hF⟩ := fb_open hF
      refine f_callS hC [.int x1, .int 107, .int 110] (c_X5_in l D cy x1 107 110 w r3 h4) q_1352 q_136 q_1350 q_1351 h9_X5_in ⟨Nat.le_of_ble_eq_true rfl, Nat.le_of_ble_eq_true rfl⟩ ⟨Nat.le_of_ble_eq_true rfl, Nat.le_of_ble_eq_true rfl⟩ (Nat.le_of_ble_eq_true rfl) rfl dX5_isConsonant_17 (fun e5 => ?_)
      refine f_if_ne hC 34 dX5_isConsonant_20 (by decide) (fun c6 => ?_) (fun c6 => ?_)
      · replace hF := fi_neg hF c6
        refine f_iconst (v := 1) hC dX5_isConsonant_34 (by decide) ?_
        refine f_goto hC 39 dX5_isConsonant_35 (by decide) ?_
        obtain rfl := Option.some.inj hF
        exact f_zret hC hEn (fSm.rf w) (nar_z (by decide)) dX5_isConsonant_39
      · replace hF := fi_pos hF c6
        refine f_iload_n hC dX5_isConsonant_23 rfl 0 rfl ?_
        refine f_bipush (v := 114) hC dX5_isConsonant_24 (by decide) ?_
        refine f_bipush (v := 116) hC dX5_isConsonant_26 (by decide) ?_
        obtain ⟨r7, h8, hF⟩ := fb_open hF
        refine f_callS hC [.int x1, .int 114, .int 116] (c_X5_in l D cy x1 114 116 w r7 h8) q_1352 q_136 q_1350 q_1351 h9_X5_in ⟨Nat.le_of_ble_eq_true rfl, Nat.le_of_ble_eq_true rfl⟩ ⟨Nat.le_of_ble_eq_true rfl, Nat.le_of_ble_eq_true rfl⟩ (Nat.le_of_ble_eq_true rfl) rfl dX5_isConsonant_28 (fun e9 => ?_)
        refine f_if_eq hC 38 dX5_isConsonant_31 (by decide) (fun c10 => ?_) (fun c10 => ?_)
        · replace hF := fi_pos hF c10
          refine f_iconst (v := 0) hC dX5_isConsonant_38 (by decide) ?_
          obtain rfl := Option.some.inj hF
          exact f_zret hC hEn (fSm.rf w) (nar_z (by decide)) dX5_isConsonant_39
        · replace hF := fi_neg hF c10
          refine f_iconst (v := 1) hC dX5_isConsonant_34 (by decide) ?_
          refine f_goto hC 39 dX5_isConsonant_35 (by decide) ?_
          obtain rfl := Option.some.inj hF
          exact f_zret hC hEn (fSm.rf w) (nar_z (by decide)) dX5_isConsonant_39
theorem dX5_isLetter_0 : decode cX5_isLetter 0 = .ok (.iload_n 0, 1) := by decide +kernel
theorem dX5_isLetter_1 : decode cX5_isLetter 1 = .ok (.invokestatic 82, 3) := by decide +kernel
theorem dX5_isLetter_4 : decode cX5_isLetter 4 = .ok (.ifCond .ne 11, 3) := by decide +kernel
theorem dX5_isLetter_7 : decode cX5_isLetter 7 = .ok (.iload_n 0, 1) := by decide +kernel
theorem dX5_isLetter_8 : decode cX5_isLetter 8 = .ok (.invokestatic 86, 3) := by decide +kernel
theorem dX5_isLetter_11 : decode cX5_isLetter 11 = .ok (.iconst (-1), 1) := by decide +kernel
theorem dX5_isLetter_12 : decode cX5_isLetter 12 = .ok (.if_icmp .eq 7, 3) := by decide +kernel
theorem dX5_isLetter_15 : decode cX5_isLetter 15 = .ok (.iconst 1, 1) := by decide +kernel
theorem dX5_isLetter_16 : decode cX5_isLetter 16 = .ok (.goto 4, 3) := by decide +kernel
theorem dX5_isLetter_19 : decode cX5_isLetter 19 = .ok (.iconst 0, 1) := by decide +kernel
theorem dX5_isLetter_20 : decode cX5_isLetter 20 = .ok (.ireturn, 1) := by decide +kernel
theorem h9_X5_isLetter : yX5_isLetter.cls ≠ "java/lang/invoke/MethodHandle" ∧ yX5_isLetter.cls ≠ "java/lang/invoke/VarHandle" ∧ (parseMethodDescriptor yX5_isLetter.desc).map (fun d => d.parameters.length) = some 1 := by decide +kernel
noncomputable def F_X5_isLetter (x1 : Int32) (w : FW) : Option (Int32) :=
  (F_X5_isConsonant x1 w).bind (fun r1 => (if r1 = 0 then (F_X5_vowel x1 w).bind (fun r5 => (if r5 = (-1) then some 0 else some 1)) else some 1))
set_option maxHeartbeats 4000000 in
set_option maxRecDepth 100000 in
theorem c_X5_isLetter (l : Launch) (D : va_G) (cy : Nat → ClassId) (x1 : Int32) (w : FW) (r : Int32) (hF : F_X5_isLetter x1 w = some r) : fSpec l D cy yX5_isLetter cX5_isLetter 1 (some .boolean) { frames := 2, cells := 0, slots := 0, locals := 42 } [.int x1] w w (some (.int r)) := by
  refine f_begin (by decide +kernel) (Nat.le_of_ble_eq_true rfl) (fun X hC hEn => ?_)
  unfold F_X5_isLetter at hF
  show fAt X 0 0 1 w [(0, .int x1)] [] 0
  refine f_iload_n hC dX5_isLetter_0 rfl 0 rfl ?_
  obtain ⟨r1, h2, hF⟩ := fb_open hF
  refine f_callS hC [.int x1] (c_X5_isConsonant l D cy x1 w r1 h2) q_1349 q_136 q_1347 q_1348 h9_X5_isConsonant ⟨Nat.le_of_ble_eq_true rfl, Nat.le_of_ble_eq_true rfl⟩ ⟨Nat.le_of_ble_eq_true rfl, Nat.le_of_ble_eq_true rfl⟩ (Nat.le_of_ble_eq_true rfl) rfl dX5_isLetter_1 (fun e3 => ?_)
  refine f_if_ne hC 15 dX5_isLetter_4 (by decide) (fun c4 => ?_) (fun c4 => ?_)
  · replace hF := fi_neg hF c4
    refine f_iconst (v := 1) hC dX5_isLetter_15 (by decide) ?_
    refine f_goto hC 20 dX5_isLetter_16 (by decide) ?_
    obtain rfl := Option.some.inj hF
    exact f_zret hC hEn (fSm.rf w) (nar_z (by decide)) dX5_isLetter_20
  · replace hF := fi_pos hF c4
    refine f_iload_n hC dX5_isLetter_7 rfl 0 rfl ?_
    obtain ⟨r5, h6, hF⟩ := fb_open hF
    refine f_callS hC [.int x1] (c_X5_vowel l D cy x1 w r5 h6) q_1355 q_136 q_1353 q_1354 h9_X5_vowel ⟨Nat.le_of_ble_eq_true rfl, Nat.le_of_ble_eq_true rfl⟩ ⟨Nat.le_of_ble_eq_true rfl, Nat.le_of_ble_eq_true rfl⟩ (Nat.le_of_ble_eq_true rfl) rfl dX5_isLetter_8 (fun e7 => ?_)
    refine f_iconst (v := (-1)) hC dX5_isLetter_11 (by decide) ?_
    refine f_icmp_eq hC 19 dX5_isLetter_12 (by decide) (fun c8 => ?_) (fun c8 => ?_)
    · replace hF := fi_pos hF c8
      refine f_iconst (v := 0) hC dX5_isLetter_19 (by decide) ?_
      obtain rfl := Option.some.inj hF
      exact f_zret hC hEn (fSm.rf w) (nar_z (by decide)) dX5_isLetter_20
    · replace hF := fi_neg hF c8
      refine f_iconst (v := 1) hC dX5_isLetter_15 (by decide) ?_
      refine f_goto hC 20 dX5_isLetter_16 (by decide) ?_
      obtain rfl := Option.some.inj hF
      exact f_zret hC hEn (fSm.rf w) (nar_z (by decide)) dX5_isLetter_20
theorem dX5_mod5_0 : decode cX5_mod5 0 = .ok (.iload_n 0, 1) := by decide +kernel
theorem dX5_mod5_1 : decode cX5_mod5 1 = .ok (.iconst 5, 1) := by decide +kernel
theorem dX5_mod5_2 : decode cX5_mod5 2 = .ok (.irem, 1) := by decide +kernel
theorem dX5_mod5_3 : decode cX5_mod5 3 = .ok (.iconst 5, 1) := by decide +kernel
theorem dX5_mod5_4 : decode cX5_mod5 4 = .ok (.iadd, 1) := by decide +kernel
theorem dX5_mod5_5 : decode cX5_mod5 5 = .ok (.iconst 5, 1) := by decide +kernel
theorem dX5_mod5_6 : decode cX5_mod5 6 = .ok (.irem, 1) := by decide +kernel
theorem dX5_mod5_7 : decode cX5_mod5 7 = .ok (.ireturn, 1) := by decide +kernel
theorem h9_X5_mod5 : yX5_mod5.cls ≠ "java/lang/invoke/MethodHandle" ∧ yX5_mod5.cls ≠ "java/lang/invoke/VarHandle" ∧ (parseMethodDescriptor yX5_mod5.desc).map (fun d => d.parameters.length) = some 1 := by decide +kernel
noncomputable def F_X5_mod5 (x1 : Int32) (w : FW) : Option (Int32) :=
  some (frem ((frem x1 5) + 5) 5)
set_option maxHeartbeats 4000000 in
set_option maxRecDepth 100000 in
theorem c_X5_mod5 (l : Launch) (D : va_G) (cy : Nat → ClassId) (x1 : Int32) (w : FW) (r : Int32) (hF : F_X5_mod5 x1 w = some r) : fSpec l D cy yX5_mod5 cX5_mod5 1 (some .int) { frames := 0, cells := 0, slots := 0, locals := 0 } [.int x1] w w (some (.int r)) := by
  refine f_begin (by decide +kernel) (Nat.le_of_ble_eq_true rfl) (fun X hC hEn => ?_)
  unfold F_X5_mod5 at hF
  show fAt X 0 0 1 w [(0, .int x1)] [] 0
  refine f_iload_n hC dX5_mod5_0 rfl 0 rfl ?_
  refine f_iconst (v := 5) hC dX5_mod5_1 (by decide) ?_
  refine f_irem hC dX5_mod5_2 (by decide) ?_
  refine f_iconst (v := 5) hC dX5_mod5_3 (by decide) ?_
  refine f_iadd hC dX5_mod5_4 ?_
  refine f_iconst (v := 5) hC dX5_mod5_5 (by decide) ?_
  refine f_irem hC dX5_mod5_6 (by decide) ?_
  obtain rfl := Option.some.inj hF
  exact f_iret hC hEn (fSm.rf w) dX5_mod5_7
theorem dX5_holesAt_0 : decode cX5_holesAt 0 = .ok (.aload_n 0, 1) := by decide +kernel
theorem dX5_holesAt_1 : decode cX5_holesAt 1 = .ok (.iload_n 1, 1) := by decide +kernel
theorem dX5_holesAt_2 : decode cX5_holesAt 2 = .ok (.iload_n 3, 1) := by decide +kernel
theorem dX5_holesAt_3 : decode cX5_holesAt 3 = .ok (.invokevirtual 89, 3) := by decide +kernel
theorem dX5_holesAt_6 : decode cX5_holesAt 6 = .ok (.invokestatic 86, 3) := by decide +kernel
theorem dX5_holesAt_9 : decode cX5_holesAt 9 = .ok (.istore 4, 2) := by decide +kernel
theorem dX5_holesAt_11 : decode cX5_holesAt 11 = .ok (.iload 4, 2) := by decide +kernel
theorem dX5_holesAt_13 : decode cX5_holesAt 13 = .ok (.iconst (-1), 1) := by decide +kernel
theorem dX5_holesAt_14 : decode cX5_holesAt 14 = .ok (.if_icmp .eq 12, 3) := by decide +kernel
theorem dX5_holesAt_17 : decode cX5_holesAt 17 = .ok (.aload_n 0, 1) := by decide +kernel
theorem dX5_holesAt_18 : decode cX5_holesAt 18 = .ok (.iload_n 1, 1) := by decide +kernel
theorem dX5_holesAt_19 : decode cX5_holesAt 19 = .ok (.iload_n 2, 1) := by decide +kernel
theorem dX5_holesAt_20 : decode cX5_holesAt 20 = .ok (.invokevirtual 92, 3) := by decide +kernel
theorem dX5_holesAt_23 : decode cX5_holesAt 23 = .ok (.ifCond .ne 7, 3) := by decide +kernel
theorem dX5_holesAt_26 : decode cX5_holesAt 26 = .ok (.iconst 0, 1) := by decide +kernel
theorem dX5_holesAt_27 : decode cX5_holesAt 27 = .ok (.goto 18, 3) := by decide +kernel
theorem dX5_holesAt_30 : decode cX5_holesAt 30 = .ok (.iconst 1, 1) := by decide +kernel
theorem dX5_holesAt_31 : decode cX5_holesAt 31 = .ok (.iload 4, 2) := by decide +kernel
theorem dX5_holesAt_33 : decode cX5_holesAt 33 = .ok (.aload_n 0, 1) := by decide +kernel
theorem dX5_holesAt_34 : decode cX5_holesAt 34 = .ok (.iload_n 1, 1) := by decide +kernel
theorem dX5_holesAt_35 : decode cX5_holesAt 35 = .ok (.iload_n 2, 1) := by decide +kernel
theorem dX5_holesAt_36 : decode cX5_holesAt 36 = .ok (.iconst 0, 1) := by decide +kernel
theorem dX5_holesAt_37 : decode cX5_holesAt 37 = .ok (.invokevirtual 78, 3) := by decide +kernel
theorem dX5_holesAt_40 : decode cX5_holesAt 40 = .ok (.iadd, 1) := by decide +kernel
theorem dX5_holesAt_41 : decode cX5_holesAt 41 = .ok (.invokestatic 96, 3) := by decide +kernel
theorem dX5_holesAt_44 : decode cX5_holesAt 44 = .ok (.iadd, 1) := by decide +kernel
theorem dX5_holesAt_45 : decode cX5_holesAt 45 = .ok (.ireturn, 1) := by decide +kernel
theorem h9_X5_holesAt : yX5_holesAt.cls ≠ "java/lang/invoke/MethodHandle" ∧ yX5_holesAt.cls ≠ "java/lang/invoke/VarHandle" ∧ (parseMethodDescriptor yX5_holesAt.desc).map (fun d => d.parameters.length) = some 3 := by decide +kernel
noncomputable def F_X5_holesAt (a0 : Nat) (x1 : Int32) (x2 : Int32) (x3 : Int32) (w : FW) : Option (Int32) :=
  fg (w.1 a0 = 6) inferInstance ((F_X5_letterOf a0 x1 x3 w).bind (fun r1 => (F_X5_vowel r1 w).bind (fun r5 => (if r5 = (-1) then some 0 else (F_X5_isPunched a0 x1 x2 w).bind (fun r9 => (if r9 = 0 then some 0 else (F_X5_half a0 x1 x2 0 w).bind (fun r13 => (F_X5_mod5 (r5 + r13) w).bind (fun r16 => some (1 + r16)))))))))
set_option maxHeartbeats 4000000 in
set_option maxRecDepth 100000 in
theorem c_X5_holesAt (l : Launch) (D : va_G) (cy : Nat → ClassId) (a0 : Nat) (x1 : Int32) (x2 : Int32) (x3 : Int32) (w : FW) (r : Int32) (hF : F_X5_holesAt a0 x1 x2 x3 w = some r) : fSpec l D cy yX5_holesAt cX5_holesAt 5 (some .int) { frames := 3, cells := 0, slots := 0, locals := 67 } [.ref a0, .int x1, .int x2, .int x3] w w (some (.int r)) := by
  refine f_begin (by decide +kernel) (Nat.le_of_ble_eq_true rfl) (fun X hC hEn => ?_)
  unfold F_X5_holesAt at hF
  show fAt X 0 0 5 w [(0, .ref a0), (1, .int x1), (2, .int x2), (3, .int x3)] [] 0
  refine f_aload_n hC dX5_holesAt_0 rfl 0 rfl ?_
  refine f_iload_n hC dX5_holesAt_1 rfl 1 rfl ?_
  refine f_iload_n hC dX5_holesAt_2 rfl 3 rfl ?_
  obtain ⟨g3, hF⟩ := fg_open hF
  obtain ⟨r1, h2, hF⟩ := fb_open hF
  refine f_callV hC [.int x1, .int x3] (c_X5_letterOf l D cy a0 x1 x3 w r1 h2) q_1455 q_136 q_1452 q_1454 q_92 h9_X5_letterOf rfl (fSm.k (fSm.rf w) g3) ⟨Nat.le_of_ble_eq_true rfl, Nat.le_of_ble_eq_true rfl⟩ ⟨Nat.le_of_ble_eq_true rfl, Nat.le_of_ble_eq_true rfl⟩ (Nat.le_of_ble_eq_true rfl) rfl dX5_holesAt_3 (fun e4 => ?_)
  obtain ⟨r5, h6, hF⟩ := fb_open hF
  refine f_callS hC [.int r1] (c_X5_vowel l D cy r1 w r5 h6) q_1355 q_136 q_1353 q_1354 h9_X5_vowel ⟨Nat.le_of_ble_eq_true rfl, Nat.le_of_ble_eq_true rfl⟩ ⟨Nat.le_of_ble_eq_true rfl, Nat.le_of_ble_eq_true rfl⟩ (Nat.le_of_ble_eq_true rfl) rfl dX5_holesAt_6 (fun e7 => ?_)
  refine f_istore (L' := [(4, .int r5), (0, .ref a0), (1, .int x1), (2, .int x2), (3, .int x3)]) hC dX5_holesAt_9 (by decide) rfl ?_
  refine f_iload hC dX5_holesAt_11 0 rfl ?_
  refine f_iconst (v := (-1)) hC dX5_holesAt_13 (by decide) ?_
  refine f_icmp_eq hC 26 dX5_holesAt_14 (by decide) (fun c8 => ?_) (fun c8 => ?_)
  · replace hF := fi_pos hF c8
    refine f_iconst (v := 0) hC dX5_holesAt_26 (by decide) ?_
    refine f_goto hC 45 dX5_holesAt_27 (by decide) ?_
    obtain rfl := Option.some.inj hF
    exact f_iret hC hEn (fSm.rf w) dX5_holesAt_45
  · replace hF := fi_neg hF c8
    refine f_aload_n hC dX5_holesAt_17 rfl 1 rfl ?_
    refine f_iload_n hC dX5_holesAt_18 rfl 2 rfl ?_
    refine f_iload_n hC dX5_holesAt_19 rfl 3 rfl ?_
    obtain ⟨r9, h10, hF⟩ := fb_open hF
    refine f_callV hC [.int x1, .int x2] (c_X5_isPunched l D cy a0 x1 x2 w r9 h10) q_1474 q_136 q_1471 q_1473 q_94 h9_X5_isPunched rfl (fSm.k (fSm.rf w) g3) ⟨Nat.le_of_ble_eq_true rfl, Nat.le_of_ble_eq_true rfl⟩ ⟨Nat.le_of_ble_eq_true rfl, Nat.le_of_ble_eq_true rfl⟩ (Nat.le_of_ble_eq_true rfl) rfl dX5_holesAt_20 (fun e11 => ?_)
    refine f_if_ne hC 30 dX5_holesAt_23 (by decide) (fun c12 => ?_) (fun c12 => ?_)
    · replace hF := fi_neg hF c12
      refine f_iconst (v := 1) hC dX5_holesAt_30 (by decide) ?_
      refine f_iload hC dX5_holesAt_31 0 rfl ?_
      refine f_aload_n hC dX5_holesAt_33 rfl 1 rfl ?_
      refine f_iload_n hC dX5_holesAt_34 rfl 2 rfl ?_
      refine f_iload_n hC dX5_holesAt_35 rfl 3 rfl ?_
      refine f_iconst (v := 0) hC dX5_holesAt_36 (by decide) ?_
      obtain ⟨r13, h14, hF⟩ := fb_open hF
      refine f_callV hC [.int x1, .int x2, .int 0] (c_X5_half l D cy a0 x1 x2 0 w r13 h14) q_1478 q_136 q_1475 q_1477 q_95 h9_X5_half rfl (fSm.k (fSm.rf w) g3) ⟨Nat.le_of_ble_eq_true rfl, Nat.le_of_ble_eq_true rfl⟩ ⟨Nat.le_of_ble_eq_true rfl, Nat.le_of_ble_eq_true rfl⟩ (Nat.le_of_ble_eq_true rfl) rfl dX5_holesAt_37 (fun e15 => ?_)
      refine f_iadd hC dX5_holesAt_40 ?_
      obtain ⟨r16, h17, hF⟩ := fb_open hF
      refine f_callS hC [.int (r5 + r13)] (c_X5_mod5 l D cy (r5 + r13) w r16 h17) q_1489 q_136 q_1487 q_1488 h9_X5_mod5 ⟨Nat.le_of_ble_eq_true rfl, Nat.le_of_ble_eq_true rfl⟩ ⟨Nat.le_of_ble_eq_true rfl, Nat.le_of_ble_eq_true rfl⟩ (Nat.le_of_ble_eq_true rfl) rfl dX5_holesAt_41 (fun e18 => ?_)
      refine f_iadd hC dX5_holesAt_44 ?_
      obtain rfl := Option.some.inj hF
      exact f_iret hC hEn (fSm.rf w) dX5_holesAt_45
    · replace hF := fi_pos hF c12
      refine f_iconst (v := 0) hC dX5_holesAt_26 (by decide) ?_
      refine f_goto hC 45 dX5_holesAt_27 (by decide) ?_
      obtain rfl := Option.some.inj hF
      exact f_iret hC hEn (fSm.rf w) dX5_holesAt_45
theorem dX5_leftAt_0 : decode cX5_leftAt 0 = .ok (.aload_n 0, 1) := by decide +kernel
theorem dX5_leftAt_1 : decode cX5_leftAt 1 = .ok (.iload_n 1, 1) := by decide +kernel
theorem dX5_leftAt_2 : decode cX5_leftAt 2 = .ok (.iload_n 2, 1) := by decide +kernel
theorem dX5_leftAt_3 : decode cX5_leftAt 3 = .ok (.iload_n 3, 1) := by decide +kernel
theorem dX5_leftAt_4 : decode cX5_leftAt 4 = .ok (.invokevirtual 99, 3) := by decide +kernel
theorem dX5_leftAt_7 : decode cX5_leftAt 7 = .ok (.iload 4, 2) := by decide +kernel
theorem dX5_leftAt_9 : decode cX5_leftAt 9 = .ok (.iconst 3, 1) := by decide +kernel
theorem dX5_leftAt_10 : decode cX5_leftAt 10 = .ok (.idiv, 1) := by decide +kernel
theorem dX5_leftAt_11 : decode cX5_leftAt 11 = .ok (.isub, 1) := by decide +kernel
theorem dX5_leftAt_12 : decode cX5_leftAt 12 = .ok (.istore 5, 2) := by decide +kernel
theorem dX5_leftAt_14 : decode cX5_leftAt 14 = .ok (.iload 5, 2) := by decide +kernel
theorem dX5_leftAt_16 : decode cX5_leftAt 16 = .ok (.ifCond .ge 7, 3) := by decide +kernel
theorem dX5_leftAt_19 : decode cX5_leftAt 19 = .ok (.iconst 0, 1) := by decide +kernel
theorem dX5_leftAt_20 : decode cX5_leftAt 20 = .ok (.goto 5, 3) := by decide +kernel
theorem dX5_leftAt_23 : decode cX5_leftAt 23 = .ok (.iload 5, 2) := by decide +kernel
theorem dX5_leftAt_25 : decode cX5_leftAt 25 = .ok (.ireturn, 1) := by decide +kernel
theorem h9_X5_leftAt : yX5_leftAt.cls ≠ "java/lang/invoke/MethodHandle" ∧ yX5_leftAt.cls ≠ "java/lang/invoke/VarHandle" ∧ (parseMethodDescriptor yX5_leftAt.desc).map (fun d => d.parameters.length) = some 4 := by decide +kernel
noncomputable def F_X5_leftAt (a0 : Nat) (x1 : Int32) (x2 : Int32) (x3 : Int32) (x4 : Int32) (w : FW) : Option (Int32) :=
  fg (w.1 a0 = 6) inferInstance ((F_X5_holesAt a0 x1 x2 x3 w).bind (fun r1 => (if 0 ≤ (r1 - (x4 / 3)) then some (r1 - (x4 / 3)) else some 0)))
set_option maxHeartbeats 4000000 in
set_option maxRecDepth 100000 in
theorem c_X5_leftAt (l : Launch) (D : va_G) (cy : Nat → ClassId) (a0 : Nat) (x1 : Int32) (x2 : Int32) (x3 : Int32) (x4 : Int32) (w : FW) (r : Int32) (hF : F_X5_leftAt a0 x1 x2 x3 x4 w = some r) : fSpec l D cy yX5_leftAt cX5_leftAt 6 (some .int) { frames := 4, cells := 0, slots := 0, locals := 91 } [.ref a0, .int x1, .int x2, .int x3, .int x4] w w (some (.int r)) := by
  refine f_begin (by decide +kernel) (Nat.le_of_ble_eq_true rfl) (fun X hC hEn => ?_)
  unfold F_X5_leftAt at hF
  show fAt X 0 0 6 w [(0, .ref a0), (1, .int x1), (2, .int x2), (3, .int x3), (4, .int x4)] [] 0
  refine f_aload_n hC dX5_leftAt_0 rfl 0 rfl ?_
  refine f_iload_n hC dX5_leftAt_1 rfl 1 rfl ?_
  refine f_iload_n hC dX5_leftAt_2 rfl 2 rfl ?_
  refine f_iload_n hC dX5_leftAt_3 rfl 3 rfl ?_
  obtain ⟨g3, hF⟩ := fg_open hF
  obtain ⟨r1, h2, hF⟩ := fb_open hF
  refine f_callV hC [.int x1, .int x2, .int x3] (c_X5_holesAt l D cy a0 x1 x2 x3 w r1 h2) q_1486 q_136 q_1483 q_1485 q_97 h9_X5_holesAt rfl (fSm.k (fSm.rf w) g3) ⟨Nat.le_of_ble_eq_true rfl, Nat.le_of_ble_eq_true rfl⟩ ⟨Nat.le_of_ble_eq_true rfl, Nat.le_of_ble_eq_true rfl⟩ (Nat.le_of_ble_eq_true rfl) rfl dX5_leftAt_4 (fun e4 => ?_)
  refine f_iload hC dX5_leftAt_7 4 rfl ?_
  refine f_iconst (v := 3) hC dX5_leftAt_9 (by decide) ?_
  refine f_idiv hC dX5_leftAt_10 (by decide) ?_
  refine f_isub hC dX5_leftAt_11 ?_
  refine f_istore (L' := [(5, .int (r1 - (x4 / 3))), (0, .ref a0), (1, .int x1), (2, .int x2), (3, .int x3), (4, .int x4)]) hC dX5_leftAt_12 (by decide) rfl ?_
  refine f_iload hC dX5_leftAt_14 0 rfl ?_
  refine f_if_ge hC 23 dX5_leftAt_16 (by decide) (fun c5 => ?_) (fun c5 => ?_)
  · replace hF := fi_pos hF c5
    refine f_iload hC dX5_leftAt_23 0 rfl ?_
    obtain rfl := Option.some.inj hF
    exact f_iret hC hEn (fSm.rf w) dX5_leftAt_25
  · replace hF := fi_neg hF c5
    refine f_iconst (v := 0) hC dX5_leftAt_19 (by decide) ?_
    refine f_goto hC 25 dX5_leftAt_20 (by decide) ?_
    obtain rfl := Option.some.inj hF
    exact f_iret hC hEn (fSm.rf w) dX5_leftAt_25
theorem dX5_vowelFor_0 : decode cX5_vowelFor 0 = .ok (.iload_n 0, 1) := by decide +kernel
theorem dX5_vowelFor_1 : decode cX5_vowelFor 1 = .ok (.ifCond .ne 8, 3) := by decide +kernel
theorem dX5_vowelFor_4 : decode cX5_vowelFor 4 = .ok (.bipush 97, 2) := by decide +kernel
theorem dX5_vowelFor_6 : decode cX5_vowelFor 6 = .ok (.goto 35, 3) := by decide +kernel
theorem dX5_vowelFor_9 : decode cX5_vowelFor 9 = .ok (.iload_n 0, 1) := by decide +kernel
theorem dX5_vowelFor_10 : decode cX5_vowelFor 10 = .ok (.iconst 1, 1) := by decide +kernel
theorem dX5_vowelFor_11 : decode cX5_vowelFor 11 = .ok (.if_icmp .ne 8, 3) := by decide +kernel
theorem dX5_vowelFor_14 : decode cX5_vowelFor 14 = .ok (.bipush 101, 2) := by decide +kernel
theorem dX5_vowelFor_16 : decode cX5_vowelFor 16 = .ok (.goto 25, 3) := by decide +kernel
theorem dX5_vowelFor_19 : decode cX5_vowelFor 19 = .ok (.iload_n 0, 1) := by decide +kernel
theorem dX5_vowelFor_20 : decode cX5_vowelFor 20 = .ok (.iconst 2, 1) := by decide +kernel
theorem dX5_vowelFor_21 : decode cX5_vowelFor 21 = .ok (.if_icmp .ne 8, 3) := by decide +kernel
theorem dX5_vowelFor_24 : decode cX5_vowelFor 24 = .ok (.bipush 105, 2) := by decide +kernel
theorem dX5_vowelFor_26 : decode cX5_vowelFor 26 = .ok (.goto 15, 3) := by decide +kernel
theorem dX5_vowelFor_29 : decode cX5_vowelFor 29 = .ok (.iload_n 0, 1) := by decide +kernel
theorem dX5_vowelFor_30 : decode cX5_vowelFor 30 = .ok (.iconst 3, 1) := by decide +kernel
theorem dX5_vowelFor_31 : decode cX5_vowelFor 31 = .ok (.if_icmp .ne 8, 3) := by decide +kernel
theorem dX5_vowelFor_34 : decode cX5_vowelFor 34 = .ok (.bipush 111, 2) := by decide +kernel
theorem dX5_vowelFor_36 : decode cX5_vowelFor 36 = .ok (.goto 5, 3) := by decide +kernel
theorem dX5_vowelFor_39 : decode cX5_vowelFor 39 = .ok (.bipush 117, 2) := by decide +kernel
theorem dX5_vowelFor_41 : decode cX5_vowelFor 41 = .ok (.ireturn, 1) := by decide +kernel
theorem h9_X5_vowelFor : yX5_vowelFor.cls ≠ "java/lang/invoke/MethodHandle" ∧ yX5_vowelFor.cls ≠ "java/lang/invoke/VarHandle" ∧ (parseMethodDescriptor yX5_vowelFor.desc).map (fun d => d.parameters.length) = some 1 := by decide +kernel
noncomputable def F_X5_vowelFor (x1 : Int32) (w : FW) : Option (Int32) :=
  (if x1 = 0 then some 97 else (if x1 = 1 then some 101 else (if x1 = 2 then some 105 else (if x1 = 3 then some 111 else some 117))))
set_option maxHeartbeats 4000000 in
set_option maxRecDepth 100000 in
theorem c_X5_vowelFor (l : Launch) (D : va_G) (cy : Nat → ClassId) (x1 : Int32) (w : FW) (r : Int32) (hF : F_X5_vowelFor x1 w = some r) : fSpec l D cy yX5_vowelFor cX5_vowelFor 1 (some .int) { frames := 0, cells := 0, slots := 0, locals := 0 } [.int x1] w w (some (.int r)) := by
  refine f_begin (by decide +kernel) (Nat.le_of_ble_eq_true rfl) (fun X hC hEn => ?_)
  unfold F_X5_vowelFor at hF
  show fAt X 0 0 1 w [(0, .int x1)] [] 0
  refine f_iload_n hC dX5_vowelFor_0 rfl 0 rfl ?_
  refine f_if_ne hC 9 dX5_vowelFor_1 (by decide) (fun c1 => ?_) (fun c1 => ?_)
  · replace hF := fi_neg hF c1
    refine f_iload_n hC dX5_vowelFor_9 rfl 0 rfl ?_
    refine f_iconst (v := 1) hC dX5_vowelFor_10 (by decide) ?_
    refine f_icmp_ne hC 19 dX5_vowelFor_11 (by decide) (fun c2 => ?_) (fun c2 => ?_)
    · replace hF := fi_neg hF c2
      refine f_iload_n hC dX5_vowelFor_19 rfl 0 rfl ?_
      refine f_iconst (v := 2) hC dX5_vowelFor_20 (by decide) ?_
      refine f_icmp_ne hC 29 dX5_vowelFor_21 (by decide) (fun c3 => ?_) (fun c3 => ?_)
      · replace hF := fi_neg hF c3
        refine f_iload_n hC dX5_vowelFor_29 rfl 0 rfl ?_
        refine f_iconst (v := 3) hC dX5_vowelFor_30 (by decide) ?_
        refine f_icmp_ne hC 39 dX5_vowelFor_31 (by decide) (fun c4 => ?_) (fun c4 => ?_)
        · replace hF := fi_neg hF c4
          refine f_bipush (v := 117) hC dX5_vowelFor_39 (by decide) ?_
          obtain rfl := Option.some.inj hF
          exact f_iret hC hEn (fSm.rf w) dX5_vowelFor_41
        · replace hF := fi_pos hF c4
          refine f_bipush (v := 111) hC dX5_vowelFor_34 (by decide) ?_
          refine f_goto hC 41 dX5_vowelFor_36 (by decide) ?_
          obtain rfl := Option.some.inj hF
          exact f_iret hC hEn (fSm.rf w) dX5_vowelFor_41
      · replace hF := fi_pos hF c3
        refine f_bipush (v := 105) hC dX5_vowelFor_24 (by decide) ?_
        refine f_goto hC 41 dX5_vowelFor_26 (by decide) ?_
        obtain rfl := Option.some.inj hF
        exact f_iret hC hEn (fSm.rf w) dX5_vowelFor_41
    · replace hF := fi_pos hF c2
      refine f_bipush (v := 101) hC dX5_vowelFor_14 (by decide) ?_
      refine f_goto hC 41 dX5_vowelFor_16 (by decide) ?_
      obtain rfl := Option.some.inj hF
      exact f_iret hC hEn (fSm.rf w) dX5_vowelFor_41
  · replace hF := fi_pos hF c1
    refine f_bipush (v := 97) hC dX5_vowelFor_4 (by decide) ?_
    refine f_goto hC 41 dX5_vowelFor_6 (by decide) ?_
    obtain rfl := Option.some.inj hF
    exact f_iret hC hEn (fSm.rf w) dX5_vowelFor_41
theorem dX5_readWith_0 : decode cX5_readWith 0 = .ok (.aload_n 0, 1) := by decide +kernel
theorem dX5_readWith_1 : decode cX5_readWith 1 = .ok (.iload_n 1, 1) := by decide +kernel
theorem dX5_readWith_2 : decode cX5_readWith 2 = .ok (.iload_n 3, 1) := by decide +kernel
theorem dX5_readWith_3 : decode cX5_readWith 3 = .ok (.invokevirtual 89, 3) := by decide +kernel
theorem dX5_readWith_6 : decode cX5_readWith 6 = .ok (.invokestatic 86, 3) := by decide +kernel
theorem dX5_readWith_9 : decode cX5_readWith 9 = .ok (.iconst (-1), 1) := by decide +kernel
theorem dX5_readWith_10 : decode cX5_readWith 10 = .ok (.if_icmp .ne 10, 3) := by decide +kernel
theorem dX5_readWith_13 : decode cX5_readWith 13 = .ok (.aload_n 0, 1) := by decide +kernel
theorem dX5_readWith_14 : decode cX5_readWith 14 = .ok (.iload_n 1, 1) := by decide +kernel
theorem dX5_readWith_15 : decode cX5_readWith 15 = .ok (.iload_n 3, 1) := by decide +kernel
theorem dX5_readWith_16 : decode cX5_readWith 16 = .ok (.invokevirtual 89, 3) := by decide +kernel
theorem dX5_readWith_19 : decode cX5_readWith 19 = .ok (.ireturn, 1) := by decide +kernel
theorem dX5_readWith_20 : decode cX5_readWith 20 = .ok (.aload_n 0, 1) := by decide +kernel
theorem dX5_readWith_21 : decode cX5_readWith 21 = .ok (.iload_n 1, 1) := by decide +kernel
theorem dX5_readWith_22 : decode cX5_readWith 22 = .ok (.iload_n 2, 1) := by decide +kernel
theorem dX5_readWith_23 : decode cX5_readWith 23 = .ok (.iload_n 3, 1) := by decide +kernel
theorem dX5_readWith_24 : decode cX5_readWith 24 = .ok (.iload 4, 2) := by decide +kernel
theorem dX5_readWith_26 : decode cX5_readWith 26 = .ok (.invokevirtual 102, 3) := by decide +kernel
theorem dX5_readWith_29 : decode cX5_readWith 29 = .ok (.istore 6, 2) := by decide +kernel
theorem dX5_readWith_31 : decode cX5_readWith 31 = .ok (.iload 6, 2) := by decide +kernel
theorem dX5_readWith_33 : decode cX5_readWith 33 = .ok (.ifCond .ne 8, 3) := by decide +kernel
theorem dX5_readWith_36 : decode cX5_readWith 36 = .ok (.bipush 63, 2) := by decide +kernel
theorem dX5_readWith_38 : decode cX5_readWith 38 = .ok (.goto 16, 3) := by decide +kernel
theorem dX5_readWith_41 : decode cX5_readWith 41 = .ok (.iload 6, 2) := by decide +kernel
theorem dX5_readWith_43 : decode cX5_readWith 43 = .ok (.iconst 1, 1) := by decide +kernel
theorem dX5_readWith_44 : decode cX5_readWith 44 = .ok (.isub, 1) := by decide +kernel
theorem dX5_readWith_45 : decode cX5_readWith 45 = .ok (.iload 5, 2) := by decide +kernel
theorem dX5_readWith_47 : decode cX5_readWith 47 = .ok (.isub, 1) := by decide +kernel
theorem dX5_readWith_48 : decode cX5_readWith 48 = .ok (.invokestatic 96, 3) := by decide +kernel
theorem dX5_readWith_51 : decode cX5_readWith 51 = .ok (.invokestatic 106, 3) := by decide +kernel
theorem dX5_readWith_54 : decode cX5_readWith 54 = .ok (.ireturn, 1) := by decide +kernel
theorem h9_X5_readWith : yX5_readWith.cls ≠ "java/lang/invoke/MethodHandle" ∧ yX5_readWith.cls ≠ "java/lang/invoke/VarHandle" ∧ (parseMethodDescriptor yX5_readWith.desc).map (fun d => d.parameters.length) = some 5 := by decide +kernel
noncomputable def F_X5_readWith (a0 : Nat) (x1 : Int32) (x2 : Int32) (x3 : Int32) (x4 : Int32) (x5 : Int32) (w : FW) : Option (Int32) :=
  fg (w.1 a0 = 6) inferInstance ((F_X5_letterOf a0 x1 x3 w).bind (fun r1 => (F_X5_vowel r1 w).bind (fun r5 => (if r5 = (-1) then (F_X5_letterOf a0 x1 x3 w).bind (fun r19 => some r19) else (F_X5_leftAt a0 x1 x2 x3 x4 w).bind (fun r9 => (if r9 = 0 then some 63 else (F_X5_mod5 ((r9 - 1) - x5) w).bind (fun r13 => (F_X5_vowelFor r13 w).bind (fun r16 => some r16))))))))
set_option maxHeartbeats 4000000 in
set_option maxRecDepth 100000 in
theorem c_X5_readWith (l : Launch) (D : va_G) (cy : Nat → ClassId) (a0 : Nat) (x1 : Int32) (x2 : Int32) (x3 : Int32) (x4 : Int32) (x5 : Int32) (w : FW) (r : Int32) (hF : F_X5_readWith a0 x1 x2 x3 x4 x5 w = some r) : fSpec l D cy yX5_readWith cX5_readWith 7 (some .int) { frames := 5, cells := 0, slots := 0, locals := 116 } [.ref a0, .int x1, .int x2, .int x3, .int x4, .int x5] w w (some (.int r)) := by
  refine f_begin (by decide +kernel) (Nat.le_of_ble_eq_true rfl) (fun X hC hEn => ?_)
  unfold F_X5_readWith at hF
  show fAt X 0 0 7 w [(0, .ref a0), (1, .int x1), (2, .int x2), (3, .int x3), (4, .int x4), (5, .int x5)] [] 0
  refine f_aload_n hC dX5_readWith_0 rfl 0 rfl ?_
  refine f_iload_n hC dX5_readWith_1 rfl 1 rfl ?_
  refine f_iload_n hC dX5_readWith_2 rfl 3 rfl ?_
  obtain ⟨g3, hF⟩ := fg_open hF
  obtain ⟨r1, h2, hF⟩ := fb_open hF
  refine f_callV hC [.int x1, .int x3] (c_X5_letterOf l D cy a0 x1 x3 w r1 h2) q_1455 q_136 q_1452 q_1454 q_92 h9_X5_letterOf rfl (fSm.k (fSm.rf w) g3) ⟨Nat.le_of_ble_eq_true rfl, Nat.le_of_ble_eq_true rfl⟩ ⟨Nat.le_of_ble_eq_true rfl, Nat.le_of_ble_eq_true rfl⟩ (Nat.le_of_ble_eq_true rfl) rfl dX5_readWith_3 (fun e4 => ?_)
  obtain ⟨r5, h6, hF⟩ := fb_open hF
  refine f_callS hC [.int r1] (c_X5_vowel l D cy r1 w r5 h6) q_1355 q_136 q_1353 q_1354 h9_X5_vowel ⟨Nat.le_of_ble_eq_true rfl, Nat.le_of_ble_eq_true rfl⟩ ⟨Nat.le_of_ble_eq_true rfl, Nat.le_of_ble_eq_true rfl⟩ (Nat.le_of_ble_eq_true rfl) rfl dX5_readWith_6 (fun e7 => ?_)
  refine f_iconst (v := (-1)) hC dX5_readWith_9 (by decide) ?_
  refine f_icmp_ne hC 20 dX5_readWith_10 (by decide) (fun c8 => ?_) (fun c8 => ?_)
  · replace hF := fi_neg hF c8
    refine f_aload_n hC dX5_readWith_20 rfl 0 rfl ?_
    refine f_iload_n hC dX5_readWith_21 rfl 1 rfl ?_
    refine f_iload_n hC dX5_readWith_22 rfl 2 rfl ?_
    refine f_iload_n hC dX5_readWith_23 rfl 3 rfl ?_
    refine f_iload hC dX5_readWith_24 4 rfl ?_
    obtain ⟨r9, h10, hF⟩ := fb_open hF
    refine f_callV hC [.int x1, .int x2, .int x3, .int x4] (c_X5_leftAt l D cy a0 x1 x2 x3 x4 w r9 h10) q_1541 q_136 q_1538 q_1540 q_105 h9_X5_leftAt rfl (fSm.k (fSm.rf w) g3) ⟨Nat.le_of_ble_eq_true rfl, Nat.le_of_ble_eq_true rfl⟩ ⟨Nat.le_of_ble_eq_true rfl, Nat.le_of_ble_eq_true rfl⟩ (Nat.le_of_ble_eq_true rfl) rfl dX5_readWith_26 (fun e11 => ?_)
    refine f_istore (L' := [(6, .int r9), (0, .ref a0), (1, .int x1), (2, .int x2), (3, .int x3), (4, .int x4), (5, .int x5)]) hC dX5_readWith_29 (by decide) rfl ?_
    refine f_iload hC dX5_readWith_31 0 rfl ?_
    refine f_if_ne hC 41 dX5_readWith_33 (by decide) (fun c12 => ?_) (fun c12 => ?_)
    · replace hF := fi_neg hF c12
      refine f_iload hC dX5_readWith_41 0 rfl ?_
      refine f_iconst (v := 1) hC dX5_readWith_43 (by decide) ?_
      refine f_isub hC dX5_readWith_44 ?_
      refine f_iload hC dX5_readWith_45 6 rfl ?_
      refine f_isub hC dX5_readWith_47 ?_
      obtain ⟨r13, h14, hF⟩ := fb_open hF
      refine f_callS hC [.int ((r9 - 1) - x5)] (c_X5_mod5 l D cy ((r9 - 1) - x5) w r13 h14) q_1489 q_136 q_1487 q_1488 h9_X5_mod5 ⟨Nat.le_of_ble_eq_true rfl, Nat.le_of_ble_eq_true rfl⟩ ⟨Nat.le_of_ble_eq_true rfl, Nat.le_of_ble_eq_true rfl⟩ (Nat.le_of_ble_eq_true rfl) rfl dX5_readWith_48 (fun e15 => ?_)
      obtain ⟨r16, h17, hF⟩ := fb_open hF
      refine f_callS hC [.int r13] (c_X5_vowelFor l D cy r13 w r16 h17) q_1552 q_136 q_1550 q_1551 h9_X5_vowelFor ⟨Nat.le_of_ble_eq_true rfl, Nat.le_of_ble_eq_true rfl⟩ ⟨Nat.le_of_ble_eq_true rfl, Nat.le_of_ble_eq_true rfl⟩ (Nat.le_of_ble_eq_true rfl) rfl dX5_readWith_51 (fun e18 => ?_)
      obtain rfl := Option.some.inj hF
      exact f_iret hC hEn (fSm.rf w) dX5_readWith_54
    · replace hF := fi_pos hF c12
      refine f_bipush (v := 63) hC dX5_readWith_36 (by decide) ?_
      refine f_goto hC 54 dX5_readWith_38 (by decide) ?_
      obtain rfl := Option.some.inj hF
      exact f_iret hC hEn (fSm.rf w) dX5_readWith_54
  · replace hF := fi_pos hF c8
    refine f_aload_n hC dX5_readWith_13 rfl 0 rfl ?_
    refine f_iload_n hC dX5_readWith_14 rfl 1 rfl ?_
    refine f_iload_n hC dX5_readWith_15 rfl 3 rfl ?_
    obtain ⟨r19, h20, hF⟩ := fb_open hF
    refine f_callV hC [.int x1, .int x3] (c_X5_letterOf l D cy a0 x1 x3 w r19 h20) q_1455 q_136 q_1452 q_1454 q_92 h9_X5_letterOf rfl (fSm.k (fSm.rf w) g3) ⟨Nat.le_of_ble_eq_true rfl, Nat.le_of_ble_eq_true rfl⟩ ⟨Nat.le_of_ble_eq_true rfl, Nat.le_of_ble_eq_true rfl⟩ (Nat.le_of_ble_eq_true rfl) rfl dX5_readWith_16 (fun e21 => ?_)
    obtain rfl := Option.some.inj hF
    exact f_iret hC hEn (fSm.rf w) dX5_readWith_19
theorem dX5_reads_0 : decode cX5_reads 0 = .ok (.aload_n 0, 1) := by decide +kernel
theorem dX5_reads_1 : decode cX5_reads 1 = .ok (.iload_n 1, 1) := by decide +kernel
theorem dX5_reads_2 : decode cX5_reads 2 = .ok (.iload_n 2, 1) := by decide +kernel
theorem dX5_reads_3 : decode cX5_reads 3 = .ok (.iload_n 3, 1) := by decide +kernel
theorem dX5_reads_4 : decode cX5_reads 4 = .ok (.aload_n 0, 1) := by decide +kernel
theorem dX5_reads_5 : decode cX5_reads 5 = .ok (.iload_n 1, 1) := by decide +kernel
theorem dX5_reads_6 : decode cX5_reads 6 = .ok (.iload_n 2, 1) := by decide +kernel
theorem dX5_reads_7 : decode cX5_reads 7 = .ok (.iconst 1, 1) := by decide +kernel
theorem dX5_reads_8 : decode cX5_reads 8 = .ok (.invokevirtual 78, 3) := by decide +kernel
theorem dX5_reads_11 : decode cX5_reads 11 = .ok (.aload_n 0, 1) := by decide +kernel
theorem dX5_reads_12 : decode cX5_reads 12 = .ok (.iload_n 1, 1) := by decide +kernel
theorem dX5_reads_13 : decode cX5_reads 13 = .ok (.iload_n 2, 1) := by decide +kernel
theorem dX5_reads_14 : decode cX5_reads 14 = .ok (.iconst 0, 1) := by decide +kernel
theorem dX5_reads_15 : decode cX5_reads 15 = .ok (.invokevirtual 78, 3) := by decide +kernel
theorem dX5_reads_18 : decode cX5_reads 18 = .ok (.invokevirtual 109, 3) := by decide +kernel
theorem dX5_reads_21 : decode cX5_reads 21 = .ok (.ireturn, 1) := by decide +kernel
theorem h9_X5_reads : yX5_reads.cls ≠ "java/lang/invoke/MethodHandle" ∧ yX5_reads.cls ≠ "java/lang/invoke/VarHandle" ∧ (parseMethodDescriptor yX5_reads.desc).map (fun d => d.parameters.length) = some 3 := by decide +kernel
noncomputable def F_X5_reads (a0 : Nat) (x1 : Int32) (x2 : Int32) (x3 : Int32) (w : FW) : Option (Int32) :=
  fg (w.1 a0 = 6) inferInstance ((F_X5_half a0 x1 x2 1 w).bind (fun r1 => (F_X5_half a0 x1 x2 0 w).bind (fun r5 => (F_X5_readWith a0 x1 x2 x3 r1 r5 w).bind (fun r8 => some r8))))
set_option maxHeartbeats 4000000 in
set_option maxRecDepth 100000 in
theorem c_X5_reads (l : Launch) (D : va_G) (cy : Nat → ClassId) (a0 : Nat) (x1 : Int32) (x2 : Int32) (x3 : Int32) (w : FW) (r : Int32) (hF : F_X5_reads a0 x1 x2 x3 w = some r) : fSpec l D cy yX5_reads cX5_reads 4 (some .int) { frames := 6, cells := 0, slots := 0, locals := 142 } [.ref a0, .int x1, .int x2, .int x3] w w (some (.int r)) := by
  refine f_begin (by decide +kernel) (Nat.le_of_ble_eq_true rfl) (fun X hC hEn => ?_)
  unfold F_X5_reads at hF
  show fAt X 0 0 4 w [(0, .ref a0), (1, .int x1), (2, .int x2), (3, .int x3)] [] 0
  refine f_aload_n hC dX5_reads_0 rfl 0 rfl ?_
  refine f_iload_n hC dX5_reads_1 rfl 1 rfl ?_
  refine f_iload_n hC dX5_reads_2 rfl 2 rfl ?_
  refine f_iload_n hC dX5_reads_3 rfl 3 rfl ?_
  refine f_aload_n hC dX5_reads_4 rfl 0 rfl ?_
  refine f_iload_n hC dX5_reads_5 rfl 1 rfl ?_
  refine f_iload_n hC dX5_reads_6 rfl 2 rfl ?_
  refine f_iconst (v := 1) hC dX5_reads_7 (by decide) ?_
  obtain ⟨g3, hF⟩ := fg_open hF
  obtain ⟨r1, h2, hF⟩ := fb_open hF
  refine f_callV hC [.int x1, .int x2, .int 1] (c_X5_half l D cy a0 x1 x2 1 w r1 h2) q_1478 q_136 q_1475 q_1477 q_95 h9_X5_half rfl (fSm.k (fSm.rf w) g3) ⟨Nat.le_of_ble_eq_true rfl, Nat.le_of_ble_eq_true rfl⟩ ⟨Nat.le_of_ble_eq_true rfl, Nat.le_of_ble_eq_true rfl⟩ (Nat.le_of_ble_eq_true rfl) rfl dX5_reads_8 (fun e4 => ?_)
  refine f_aload_n hC dX5_reads_11 rfl 0 rfl ?_
  refine f_iload_n hC dX5_reads_12 rfl 1 rfl ?_
  refine f_iload_n hC dX5_reads_13 rfl 2 rfl ?_
  refine f_iconst (v := 0) hC dX5_reads_14 (by decide) ?_
  obtain ⟨r5, h6, hF⟩ := fb_open hF
  refine f_callV hC [.int x1, .int x2, .int 0] (c_X5_half l D cy a0 x1 x2 0 w r5 h6) q_1478 q_136 q_1475 q_1477 q_95 h9_X5_half rfl (fSm.k (fSm.rf w) g3) ⟨Nat.le_of_ble_eq_true rfl, Nat.le_of_ble_eq_true rfl⟩ ⟨Nat.le_of_ble_eq_true rfl, Nat.le_of_ble_eq_true rfl⟩ (Nat.le_of_ble_eq_true rfl) rfl dX5_reads_15 (fun e7 => ?_)
  obtain ⟨r8, h9, hF⟩ := fb_open hF
  refine f_callV hC [.int x1, .int x2, .int x3, .int r1, .int r5] (c_X5_readWith l D cy a0 x1 x2 x3 r1 r5 w r8 h9) q_1549 q_136 q_1546 q_1548 q_107 h9_X5_readWith rfl (fSm.k (fSm.rf w) g3) ⟨Nat.le_of_ble_eq_true rfl, Nat.le_of_ble_eq_true rfl⟩ ⟨Nat.le_of_ble_eq_true rfl, Nat.le_of_ble_eq_true rfl⟩ (Nat.le_of_ble_eq_true rfl) rfl dX5_reads_18 (fun e10 => ?_)
  obtain rfl := Option.some.inj hF
  exact f_iret hC hEn (fSm.rf w) dX5_reads_21
theorem dX5_rightOf_0 : decode cX5_rightOf 0 = .ok (.iconst 0, 1) := by decide +kernel
theorem dX5_rightOf_1 : decode cX5_rightOf 1 = .ok (.istore 5, 2) := by decide +kernel
theorem dX5_rightOf_3 : decode cX5_rightOf 3 = .ok (.iconst 0, 1) := by decide +kernel
theorem dX5_rightOf_4 : decode cX5_rightOf 4 = .ok (.istore 6, 2) := by decide +kernel
theorem dX5_rightOf_6 : decode cX5_rightOf 6 = .ok (.iload 6, 2) := by decide +kernel
theorem dX5_rightOf_8 : decode cX5_rightOf 8 = .ok (.aload_n 0, 1) := by decide +kernel
theorem dX5_rightOf_9 : decode cX5_rightOf 9 = .ok (.iload_n 1, 1) := by decide +kernel
theorem dX5_rightOf_10 : decode cX5_rightOf 10 = .ok (.iconst 0, 1) := by decide +kernel
theorem dX5_rightOf_11 : decode cX5_rightOf 11 = .ok (.invokevirtual 70, 3) := by decide +kernel
theorem dX5_rightOf_14 : decode cX5_rightOf 14 = .ok (.if_icmp .ge 40, 3) := by decide +kernel
theorem dX5_rightOf_17 : decode cX5_rightOf 17 = .ok (.iload 5, 2) := by decide +kernel
theorem dX5_rightOf_19 : decode cX5_rightOf 19 = .ok (.aload_n 0, 1) := by decide +kernel
theorem dX5_rightOf_20 : decode cX5_rightOf 20 = .ok (.iload_n 1, 1) := by decide +kernel
theorem dX5_rightOf_21 : decode cX5_rightOf 21 = .ok (.iload_n 2, 1) := by decide +kernel
theorem dX5_rightOf_22 : decode cX5_rightOf 22 = .ok (.iload 6, 2) := by decide +kernel
theorem dX5_rightOf_24 : decode cX5_rightOf 24 = .ok (.iload_n 3, 1) := by decide +kernel
theorem dX5_rightOf_25 : decode cX5_rightOf 25 = .ok (.iload 4, 2) := by decide +kernel
theorem dX5_rightOf_27 : decode cX5_rightOf 27 = .ok (.invokevirtual 109, 3) := by decide +kernel
theorem dX5_rightOf_30 : decode cX5_rightOf 30 = .ok (.aload_n 0, 1) := by decide +kernel
theorem dX5_rightOf_31 : decode cX5_rightOf 31 = .ok (.iload_n 1, 1) := by decide +kernel
theorem dX5_rightOf_32 : decode cX5_rightOf 32 = .ok (.iload 6, 2) := by decide +kernel
theorem dX5_rightOf_34 : decode cX5_rightOf 34 = .ok (.invokevirtual 89, 3) := by decide +kernel
theorem dX5_rightOf_37 : decode cX5_rightOf 37 = .ok (.if_icmp .ne 7, 3) := by decide +kernel
theorem dX5_rightOf_40 : decode cX5_rightOf 40 = .ok (.iconst 1, 1) := by decide +kernel
theorem dX5_rightOf_41 : decode cX5_rightOf 41 = .ok (.goto 4, 3) := by decide +kernel
theorem dX5_rightOf_44 : decode cX5_rightOf 44 = .ok (.iconst 0, 1) := by decide +kernel
theorem dX5_rightOf_45 : decode cX5_rightOf 45 = .ok (.iadd, 1) := by decide +kernel
theorem dX5_rightOf_46 : decode cX5_rightOf 46 = .ok (.istore 5, 2) := by decide +kernel
theorem dX5_rightOf_48 : decode cX5_rightOf 48 = .ok (.iinc 6 1, 3) := by decide +kernel
theorem dX5_rightOf_51 : decode cX5_rightOf 51 = .ok (.goto (-45), 3) := by decide +kernel
theorem dX5_rightOf_54 : decode cX5_rightOf 54 = .ok (.iload 5, 2) := by decide +kernel
theorem dX5_rightOf_56 : decode cX5_rightOf 56 = .ok (.ireturn, 1) := by decide +kernel
theorem h9_X5_rightOf : yX5_rightOf.cls ≠ "java/lang/invoke/MethodHandle" ∧ yX5_rightOf.cls ≠ "java/lang/invoke/VarHandle" ∧ (parseMethodDescriptor yX5_rightOf.desc).map (fun d => d.parameters.length) = some 4 := by decide +kernel
noncomputable def F_X5_rightOf (a0 : Nat) (x1 : Int32) (x2 : Int32) (x3 : Int32) (x4 : Int32) (w : FW) : Option (Int32) :=
  (fLoop (σ := Int32 × Int32) (ρ := Int32) (fun s1 => fg (w.1 a0 = 6) inferInstance ((F_X5_of a0 x1 0 w).bind (fun r10 => (if r10 ≤ s1.2 then some (.inr s1.1) else (F_X5_readWith a0 x1 x2 s1.2 x3 x4 w).bind (fun r15 => (F_X5_letterOf a0 x1 s1.2 w).bind (fun r18 => (if r15 = r18 then some (.inl ((s1.1 + 1), (s1.2 + 1))) else some (.inl ((s1.1 + 0), (s1.2 + 1)))))))))) (0, 0)).bind (fun x7 => some x7)
set_option maxHeartbeats 4000000 in
set_option maxRecDepth 100000 in
theorem c_X5_rightOf (l : Launch) (D : va_G) (cy : Nat → ClassId) (a0 : Nat) (x1 : Int32) (x2 : Int32) (x3 : Int32) (x4 : Int32) (w : FW) (r : Int32) (hF : F_X5_rightOf a0 x1 x2 x3 x4 w = some r) : fSpec l D cy yX5_rightOf cX5_rightOf 7 (some .int) { frames := 6, cells := 0, slots := 0, locals := 142 } [.ref a0, .int x1, .int x2, .int x3, .int x4] w w (some (.int r)) := by
  refine f_begin (by decide +kernel) (Nat.le_of_ble_eq_true rfl) (fun X hC hEn => ?_)
  unfold F_X5_rightOf at hF
  show fAt X 0 0 7 w [(0, .ref a0), (1, .int x1), (2, .int x2), (3, .int x3), (4, .int x4)] [] 0
  refine f_iconst (v := 0) hC dX5_rightOf_0 (by decide) ?_
  refine f_istore (L' := [(5, .int 0), (0, .ref a0), (1, .int x1), (2, .int x2), (3, .int x3), (4, .int x4)]) hC dX5_rightOf_1 (by decide) rfl ?_
  refine f_iconst (v := 0) hC dX5_rightOf_3 (by decide) ?_
  refine f_istore (L' := [(6, .int 0), (5, .int 0), (0, .ref a0), (1, .int x1), (2, .int x2), (3, .int x3), (4, .int x4)]) hC dX5_rightOf_4 (by decide) rfl ?_
  obtain ⟨x7, h8, hF⟩ := fb_open hF
  have K9 : fAt X 0 0 7 w [(5, .int x7)] [] 54 := by
    refine f_iload hC dX5_rightOf_54 0 rfl ?_
    obtain rfl := Option.some.inj hF
    exact f_iret hC hEn (fSm.rf w) dX5_rightOf_56
  refine f_sub (L' := [(0, .ref a0), (1, .int x1), (2, .int x2), (3, .int x3), (4, .int x4), (5, .int 0), (6, .int 0)]) [2, 3, 4, 5, 6, 1, 0] rfl ?_
  refine fLoop_ind (fun (s1 : Int32 × Int32) => fAt X 0 0 7 w [(0, .ref a0), (1, .int x1), (2, .int x2), (3, .int x3), (4, .int x4), (5, .int s1.1), (6, .int s1.2)] [] 6) (fun s1 y6 h2 go3 ou4 => ?_) h8
  refine f_iload hC dX5_rightOf_6 6 rfl ?_
  refine f_aload_n hC dX5_rightOf_8 rfl 0 rfl ?_
  refine f_iload_n hC dX5_rightOf_9 rfl 1 rfl ?_
  refine f_iconst (v := 0) hC dX5_rightOf_10 (by decide) ?_
  obtain ⟨g12, h2⟩ := fg_open h2
  obtain ⟨r10, h11, h2⟩ := fb_open h2
  refine f_callV hC [.int x1, .int 0] (c_X5_of l D cy a0 x1 0 w r10 h11) q_1447 q_136 q_1444 q_1446 q_90 h9_X5_of rfl (fSm.k (fSm.rf w) g12) ⟨Nat.le_of_ble_eq_true rfl, Nat.le_of_ble_eq_true rfl⟩ ⟨Nat.le_of_ble_eq_true rfl, Nat.le_of_ble_eq_true rfl⟩ (Nat.le_of_ble_eq_true rfl) rfl dX5_rightOf_11 (fun e13 => ?_)
  refine f_icmp_ge hC 54 dX5_rightOf_14 (by decide) (fun c14 => ?_) (fun c14 => ?_)
  · replace h2 := fi_pos h2 c14
    obtain rfl := Option.some.inj h2
    obtain rfl := ou4 _ rfl
    refine f_sub (L' := [(5, .int s1.1)]) [5] rfl ?_
    exact K9
  · replace h2 := fi_neg h2 c14
    refine f_iload hC dX5_rightOf_17 5 rfl ?_
    refine f_aload_n hC dX5_rightOf_19 rfl 0 rfl ?_
    refine f_iload_n hC dX5_rightOf_20 rfl 1 rfl ?_
    refine f_iload_n hC dX5_rightOf_21 rfl 2 rfl ?_
    refine f_iload hC dX5_rightOf_22 6 rfl ?_
    refine f_iload_n hC dX5_rightOf_24 rfl 3 rfl ?_
    refine f_iload hC dX5_rightOf_25 4 rfl ?_
    obtain ⟨r15, h16, h2⟩ := fb_open h2
    refine f_callV hC [.int x1, .int x2, .int s1.2, .int x3, .int x4] (c_X5_readWith l D cy a0 x1 x2 s1.2 x3 x4 w r15 h16) q_1549 q_136 q_1546 q_1548 q_107 h9_X5_readWith rfl (fSm.k (fSm.rf w) g12) ⟨Nat.le_of_ble_eq_true rfl, Nat.le_of_ble_eq_true rfl⟩ ⟨Nat.le_of_ble_eq_true rfl, Nat.le_of_ble_eq_true rfl⟩ (Nat.le_of_ble_eq_true rfl) rfl dX5_rightOf_27 (fun e17 => ?_)
    refine f_aload_n hC dX5_rightOf_30 rfl 0 rfl ?_
    refine f_iload_n hC dX5_rightOf_31 rfl 1 rfl ?_
    refine f_iload hC dX5_rightOf_32 6 rfl ?_
    obtain ⟨r18, h19, h2⟩ := fb_open h2
    refine f_callV hC [.int x1, .int s1.2] (c_X5_letterOf l D cy a0 x1 s1.2 w r18 h19) q_1455 q_136 q_1452 q_1454 q_92 h9_X5_letterOf rfl (fSm.k (fSm.rf w) g12) ⟨Nat.le_of_ble_eq_true rfl, Nat.le_of_ble_eq_true rfl⟩ ⟨Nat.le_of_ble_eq_true rfl, Nat.le_of_ble_eq_true rfl⟩ (Nat.le_of_ble_eq_true rfl) rfl dX5_rightOf_34 (fun e20 => ?_)
    refine f_icmp_ne hC 44 dX5_rightOf_37 (by decide) (fun c21 => ?_) (fun c21 => ?_)
    · replace h2 := fi_neg h2 c21
      refine f_iconst (v := 0) hC dX5_rightOf_44 (by decide) ?_
      refine f_iadd hC dX5_rightOf_45 ?_
      refine f_istore (L' := [(5, .int (s1.1 + 0)), (0, .ref a0), (1, .int x1), (2, .int x2), (3, .int x3), (4, .int x4), (6, .int s1.2)]) hC dX5_rightOf_46 (by decide) rfl ?_
      refine f_iinc (L' := [(6, .int (s1.2 + 1)), (5, .int (s1.1 + 0)), (0, .ref a0), (1, .int x1), (2, .int x2), (3, .int x3), (4, .int x4)]) hC dX5_rightOf_48 6 rfl rfl (by decide) rfl ?_
      refine f_goto hC 6 dX5_rightOf_51 (by decide) ?_
      obtain rfl := Option.some.inj h2
      refine f_sub (L' := [(0, .ref a0), (1, .int x1), (2, .int x2), (3, .int x3), (4, .int x4), (5, .int (s1.1 + 0)), (6, .int (s1.2 + 1))]) [2, 3, 4, 5, 6, 1, 0] rfl ?_
      exact go3 _ rfl
    · replace h2 := fi_pos h2 c21
      refine f_iconst (v := 1) hC dX5_rightOf_40 (by decide) ?_
      refine f_goto hC 45 dX5_rightOf_41 (by decide) ?_
      refine f_iadd hC dX5_rightOf_45 ?_
      refine f_istore (L' := [(5, .int (s1.1 + 1)), (0, .ref a0), (1, .int x1), (2, .int x2), (3, .int x3), (4, .int x4), (6, .int s1.2)]) hC dX5_rightOf_46 (by decide) rfl ?_
      refine f_iinc (L' := [(6, .int (s1.2 + 1)), (5, .int (s1.1 + 1)), (0, .ref a0), (1, .int x1), (2, .int x2), (3, .int x3), (4, .int x4)]) hC dX5_rightOf_48 6 rfl rfl (by decide) rfl ?_
      refine f_goto hC 6 dX5_rightOf_51 (by decide) ?_
      obtain rfl := Option.some.inj h2
      refine f_sub (L' := [(0, .ref a0), (1, .int x1), (2, .int x2), (3, .int x3), (4, .int x4), (5, .int (s1.1 + 1)), (6, .int (s1.2 + 1))]) [2, 3, 4, 5, 6, 1, 0] rfl ?_
      exact go3 _ rfl
theorem dX5_isRead_0 : decode cX5_isRead 0 = .ok (.aload_n 0, 1) := by decide +kernel
theorem dX5_isRead_1 : decode cX5_isRead 1 = .ok (.iload_n 1, 1) := by decide +kernel
theorem dX5_isRead_2 : decode cX5_isRead 2 = .ok (.iload_n 2, 1) := by decide +kernel
theorem dX5_isRead_3 : decode cX5_isRead 3 = .ok (.invokevirtual 92, 3) := by decide +kernel
theorem dX5_isRead_6 : decode cX5_isRead 6 = .ok (.ifCond .eq 36, 3) := by decide +kernel
theorem dX5_isRead_9 : decode cX5_isRead 9 = .ok (.aload_n 0, 1) := by decide +kernel
theorem dX5_isRead_10 : decode cX5_isRead 10 = .ok (.iload_n 1, 1) := by decide +kernel
theorem dX5_isRead_11 : decode cX5_isRead 11 = .ok (.iload_n 2, 1) := by decide +kernel
theorem dX5_isRead_12 : decode cX5_isRead 12 = .ok (.aload_n 0, 1) := by decide +kernel
theorem dX5_isRead_13 : decode cX5_isRead 13 = .ok (.iload_n 1, 1) := by decide +kernel
theorem dX5_isRead_14 : decode cX5_isRead 14 = .ok (.iload_n 2, 1) := by decide +kernel
theorem dX5_isRead_15 : decode cX5_isRead 15 = .ok (.iconst 1, 1) := by decide +kernel
theorem dX5_isRead_16 : decode cX5_isRead 16 = .ok (.invokevirtual 78, 3) := by decide +kernel
theorem dX5_isRead_19 : decode cX5_isRead 19 = .ok (.aload_n 0, 1) := by decide +kernel
theorem dX5_isRead_20 : decode cX5_isRead 20 = .ok (.iload_n 1, 1) := by decide +kernel
theorem dX5_isRead_21 : decode cX5_isRead 21 = .ok (.iload_n 2, 1) := by decide +kernel
theorem dX5_isRead_22 : decode cX5_isRead 22 = .ok (.iconst 0, 1) := by decide +kernel
theorem dX5_isRead_23 : decode cX5_isRead 23 = .ok (.invokevirtual 78, 3) := by decide +kernel
theorem dX5_isRead_26 : decode cX5_isRead 26 = .ok (.invokevirtual 113, 3) := by decide +kernel
theorem dX5_isRead_29 : decode cX5_isRead 29 = .ok (.aload_n 0, 1) := by decide +kernel
theorem dX5_isRead_30 : decode cX5_isRead 30 = .ok (.iload_n 1, 1) := by decide +kernel
theorem dX5_isRead_31 : decode cX5_isRead 31 = .ok (.iconst 0, 1) := by decide +kernel
theorem dX5_isRead_32 : decode cX5_isRead 32 = .ok (.invokevirtual 70, 3) := by decide +kernel
theorem dX5_isRead_35 : decode cX5_isRead 35 = .ok (.if_icmp .ne 7, 3) := by decide +kernel
theorem dX5_isRead_38 : decode cX5_isRead 38 = .ok (.iconst 1, 1) := by decide +kernel
theorem dX5_isRead_39 : decode cX5_isRead 39 = .ok (.goto 4, 3) := by decide +kernel
theorem dX5_isRead_42 : decode cX5_isRead 42 = .ok (.iconst 0, 1) := by decide +kernel
theorem dX5_isRead_43 : decode cX5_isRead 43 = .ok (.ireturn, 1) := by decide +kernel
theorem h9_X5_isRead : yX5_isRead.cls ≠ "java/lang/invoke/MethodHandle" ∧ yX5_isRead.cls ≠ "java/lang/invoke/VarHandle" ∧ (parseMethodDescriptor yX5_isRead.desc).map (fun d => d.parameters.length) = some 2 := by decide +kernel
noncomputable def F_X5_isRead (a0 : Nat) (x1 : Int32) (x2 : Int32) (w : FW) : Option (Int32) :=
  fg (w.1 a0 = 6) inferInstance ((F_X5_isPunched a0 x1 x2 w).bind (fun r1 => (if r1 = 0 then some 0 else (F_X5_half a0 x1 x2 1 w).bind (fun r6 => (F_X5_half a0 x1 x2 0 w).bind (fun r9 => (F_X5_rightOf a0 x1 x2 r6 r9 w).bind (fun r12 => (F_X5_of a0 x1 0 w).bind (fun r15 => (if r12 = r15 then some 1 else some 0))))))))
set_option maxHeartbeats 4000000 in
set_option maxRecDepth 100000 in
theorem c_X5_isRead (l : Launch) (D : va_G) (cy : Nat → ClassId) (a0 : Nat) (x1 : Int32) (x2 : Int32) (w : FW) (r : Int32) (hF : F_X5_isRead a0 x1 x2 w = some r) : fSpec l D cy yX5_isRead cX5_isRead 3 (some .boolean) { frames := 7, cells := 0, slots := 0, locals := 168 } [.ref a0, .int x1, .int x2] w w (some (.int r)) := by
  refine f_begin (by decide +kernel) (Nat.le_of_ble_eq_true rfl) (fun X hC hEn => ?_)
  unfold F_X5_isRead at hF
  show fAt X 0 0 3 w [(0, .ref a0), (1, .int x1), (2, .int x2)] [] 0
  refine f_aload_n hC dX5_isRead_0 rfl 0 rfl ?_
  refine f_iload_n hC dX5_isRead_1 rfl 1 rfl ?_
  refine f_iload_n hC dX5_isRead_2 rfl 2 rfl ?_
  obtain ⟨g3, hF⟩ := fg_open hF
  obtain ⟨r1, h2, hF⟩ := fb_open hF
  refine f_callV hC [.int x1, .int x2] (c_X5_isPunched l D cy a0 x1 x2 w r1 h2) q_1474 q_136 q_1471 q_1473 q_94 h9_X5_isPunched rfl (fSm.k (fSm.rf w) g3) ⟨Nat.le_of_ble_eq_true rfl, Nat.le_of_ble_eq_true rfl⟩ ⟨Nat.le_of_ble_eq_true rfl, Nat.le_of_ble_eq_true rfl⟩ (Nat.le_of_ble_eq_true rfl) rfl dX5_isRead_3 (fun e4 => ?_)
  refine f_if_eq hC 42 dX5_isRead_6 (by decide) (fun c5 => ?_) (fun c5 => ?_)
  · replace hF := fi_pos hF c5
    refine f_iconst (v := 0) hC dX5_isRead_42 (by decide) ?_
    obtain rfl := Option.some.inj hF
    exact f_zret hC hEn (fSm.rf w) (nar_z (by decide)) dX5_isRead_43
  · replace hF := fi_neg hF c5
    refine f_aload_n hC dX5_isRead_9 rfl 0 rfl ?_
    refine f_iload_n hC dX5_isRead_10 rfl 1 rfl ?_
    refine f_iload_n hC dX5_isRead_11 rfl 2 rfl ?_
    refine f_aload_n hC dX5_isRead_12 rfl 0 rfl ?_
    refine f_iload_n hC dX5_isRead_13 rfl 1 rfl ?_
    refine f_iload_n hC dX5_isRead_14 rfl 2 rfl ?_
    refine f_iconst (v := 1) hC dX5_isRead_15 (by decide) ?_
    obtain ⟨r6, h7, hF⟩ := fb_open hF
    refine f_callV hC [.int x1, .int x2, .int 1] (c_X5_half l D cy a0 x1 x2 1 w r6 h7) q_1478 q_136 q_1475 q_1477 q_95 h9_X5_half rfl (fSm.k (fSm.rf w) g3) ⟨Nat.le_of_ble_eq_true rfl, Nat.le_of_ble_eq_true rfl⟩ ⟨Nat.le_of_ble_eq_true rfl, Nat.le_of_ble_eq_true rfl⟩ (Nat.le_of_ble_eq_true rfl) rfl dX5_isRead_16 (fun e8 => ?_)
    refine f_aload_n hC dX5_isRead_19 rfl 0 rfl ?_
    refine f_iload_n hC dX5_isRead_20 rfl 1 rfl ?_
    refine f_iload_n hC dX5_isRead_21 rfl 2 rfl ?_
    refine f_iconst (v := 0) hC dX5_isRead_22 (by decide) ?_
    obtain ⟨r9, h10, hF⟩ := fb_open hF
    refine f_callV hC [.int x1, .int x2, .int 0] (c_X5_half l D cy a0 x1 x2 0 w r9 h10) q_1478 q_136 q_1475 q_1477 q_95 h9_X5_half rfl (fSm.k (fSm.rf w) g3) ⟨Nat.le_of_ble_eq_true rfl, Nat.le_of_ble_eq_true rfl⟩ ⟨Nat.le_of_ble_eq_true rfl, Nat.le_of_ble_eq_true rfl⟩ (Nat.le_of_ble_eq_true rfl) rfl dX5_isRead_23 (fun e11 => ?_)
    obtain ⟨r12, h13, hF⟩ := fb_open hF
    refine f_callV hC [.int x1, .int x2, .int r6, .int r9] (c_X5_rightOf l D cy a0 x1 x2 r6 r9 w r12 h13) q_1545 q_136 q_1542 q_1544 q_106 h9_X5_rightOf rfl (fSm.k (fSm.rf w) g3) ⟨Nat.le_of_ble_eq_true rfl, Nat.le_of_ble_eq_true rfl⟩ ⟨Nat.le_of_ble_eq_true rfl, Nat.le_of_ble_eq_true rfl⟩ (Nat.le_of_ble_eq_true rfl) rfl dX5_isRead_26 (fun e14 => ?_)
    refine f_aload_n hC dX5_isRead_29 rfl 0 rfl ?_
    refine f_iload_n hC dX5_isRead_30 rfl 1 rfl ?_
    refine f_iconst (v := 0) hC dX5_isRead_31 (by decide) ?_
    obtain ⟨r15, h16, hF⟩ := fb_open hF
    refine f_callV hC [.int x1, .int 0] (c_X5_of l D cy a0 x1 0 w r15 h16) q_1447 q_136 q_1444 q_1446 q_90 h9_X5_of rfl (fSm.k (fSm.rf w) g3) ⟨Nat.le_of_ble_eq_true rfl, Nat.le_of_ble_eq_true rfl⟩ ⟨Nat.le_of_ble_eq_true rfl, Nat.le_of_ble_eq_true rfl⟩ (Nat.le_of_ble_eq_true rfl) rfl dX5_isRead_32 (fun e17 => ?_)
    refine f_icmp_ne hC 42 dX5_isRead_35 (by decide) (fun c18 => ?_) (fun c18 => ?_)
    · replace hF := fi_neg hF c18
      refine f_iconst (v := 0) hC dX5_isRead_42 (by decide) ?_
      obtain rfl := Option.some.inj hF
      exact f_zret hC hEn (fSm.rf w) (nar_z (by decide)) dX5_isRead_43
    · replace hF := fi_pos hF c18
      refine f_iconst (v := 1) hC dX5_isRead_38 (by decide) ?_
      refine f_goto hC 43 dX5_isRead_39 (by decide) ?_
      obtain rfl := Option.some.inj hF
      exact f_zret hC hEn (fSm.rf w) (nar_z (by decide)) dX5_isRead_43
theorem dX5_firstUnlike_0 : decode cX5_firstUnlike 0 = .ok (.iconst 0, 1) := by decide +kernel
theorem dX5_firstUnlike_1 : decode cX5_firstUnlike 1 = .ok (.istore_n 3, 1) := by decide +kernel
theorem dX5_firstUnlike_2 : decode cX5_firstUnlike 2 = .ok (.iload_n 3, 1) := by decide +kernel
theorem dX5_firstUnlike_3 : decode cX5_firstUnlike 3 = .ok (.aload_n 0, 1) := by decide +kernel
theorem dX5_firstUnlike_4 : decode cX5_firstUnlike 4 = .ok (.iload_n 1, 1) := by decide +kernel
theorem dX5_firstUnlike_5 : decode cX5_firstUnlike 5 = .ok (.iconst 0, 1) := by decide +kernel
theorem dX5_firstUnlike_6 : decode cX5_firstUnlike 6 = .ok (.invokevirtual 70, 3) := by decide +kernel
theorem dX5_firstUnlike_9 : decode cX5_firstUnlike 9 = .ok (.if_icmp .ge 27, 3) := by decide +kernel
theorem dX5_firstUnlike_12 : decode cX5_firstUnlike 12 = .ok (.aload_n 0, 1) := by decide +kernel
theorem dX5_firstUnlike_13 : decode cX5_firstUnlike 13 = .ok (.iload_n 1, 1) := by decide +kernel
theorem dX5_firstUnlike_14 : decode cX5_firstUnlike 14 = .ok (.iload_n 2, 1) := by decide +kernel
theorem dX5_firstUnlike_15 : decode cX5_firstUnlike 15 = .ok (.iload_n 3, 1) := by decide +kernel
theorem dX5_firstUnlike_16 : decode cX5_firstUnlike 16 = .ok (.invokevirtual 116, 3) := by decide +kernel
theorem dX5_firstUnlike_19 : decode cX5_firstUnlike 19 = .ok (.aload_n 0, 1) := by decide +kernel
theorem dX5_firstUnlike_20 : decode cX5_firstUnlike 20 = .ok (.iload_n 1, 1) := by decide +kernel
theorem dX5_firstUnlike_21 : decode cX5_firstUnlike 21 = .ok (.iload_n 3, 1) := by decide +kernel
theorem dX5_firstUnlike_22 : decode cX5_firstUnlike 22 = .ok (.invokevirtual 89, 3) := by decide +kernel
theorem dX5_firstUnlike_25 : decode cX5_firstUnlike 25 = .ok (.if_icmp .eq 5, 3) := by decide +kernel
theorem dX5_firstUnlike_28 : decode cX5_firstUnlike 28 = .ok (.iload_n 3, 1) := by decide +kernel
theorem dX5_firstUnlike_29 : decode cX5_firstUnlike 29 = .ok (.ireturn, 1) := by decide +kernel
theorem dX5_firstUnlike_30 : decode cX5_firstUnlike 30 = .ok (.iinc 3 1, 3) := by decide +kernel
theorem dX5_firstUnlike_33 : decode cX5_firstUnlike 33 = .ok (.goto (-31), 3) := by decide +kernel
theorem dX5_firstUnlike_36 : decode cX5_firstUnlike 36 = .ok (.iconst (-1), 1) := by decide +kernel
theorem dX5_firstUnlike_37 : decode cX5_firstUnlike 37 = .ok (.ireturn, 1) := by decide +kernel
theorem h9_X5_firstUnlike : yX5_firstUnlike.cls ≠ "java/lang/invoke/MethodHandle" ∧ yX5_firstUnlike.cls ≠ "java/lang/invoke/VarHandle" ∧ (parseMethodDescriptor yX5_firstUnlike.desc).map (fun d => d.parameters.length) = some 2 := by decide +kernel
noncomputable def F_X5_firstUnlike (a0 : Nat) (x1 : Int32) (x2 : Int32) (w : FW) : Option (Int32) :=
  (fLoop (σ := Int32) (ρ := (Unit) ⊕ (Int32)) (fun s1 => fg (w.1 a0 = 6) inferInstance ((F_X5_of a0 x1 0 w).bind (fun r10 => (if r10 ≤ s1 then some (.inr (.inl ())) else (F_X5_reads a0 x1 x2 s1 w).bind (fun r15 => (F_X5_letterOf a0 x1 s1 w).bind (fun r18 => (if r15 = r18 then some (.inl (s1 + 1)) else some (.inr (.inr s1))))))))) 0).bind (fun x7 => fse x7 (fun z22 => some (-1)) (fun q9 => some q9))
set_option maxHeartbeats 4000000 in
set_option maxRecDepth 100000 in
theorem c_X5_firstUnlike (l : Launch) (D : va_G) (cy : Nat → ClassId) (a0 : Nat) (x1 : Int32) (x2 : Int32) (w : FW) (r : Int32) (hF : F_X5_firstUnlike a0 x1 x2 w = some r) : fSpec l D cy yX5_firstUnlike cX5_firstUnlike 4 (some .int) { frames := 7, cells := 0, slots := 0, locals := 165 } [.ref a0, .int x1, .int x2] w w (some (.int r)) := by
  refine f_begin (by decide +kernel) (Nat.le_of_ble_eq_true rfl) (fun X hC hEn => ?_)
  unfold F_X5_firstUnlike at hF
  show fAt X 0 0 4 w [(0, .ref a0), (1, .int x1), (2, .int x2)] [] 0
  refine f_iconst (v := 0) hC dX5_firstUnlike_0 (by decide) ?_
  refine f_istore_n (L' := [(3, .int 0), (0, .ref a0), (1, .int x1), (2, .int x2)]) hC dX5_firstUnlike_1 rfl (by decide) rfl ?_
  obtain ⟨x7, h8, hF⟩ := fb_open hF
  have K9 : ∀ z22, x7 = .inl z22 → fAt X 0 0 4 w [] [] 36 := by
    intro z22 hz9
    subst hz9
    refine f_iconst (v := (-1)) hC dX5_firstUnlike_36 (by decide) ?_
    obtain rfl := Option.some.inj hF
    exact f_iret hC hEn (fSm.rf w) dX5_firstUnlike_37
  refine f_sub (L' := [(0, .ref a0), (1, .int x1), (2, .int x2), (3, .int 0)]) [1, 2, 3, 0] rfl ?_
  refine fLoop_ind (fun (s1 : Int32) => fAt X 0 0 4 w [(0, .ref a0), (1, .int x1), (2, .int x2), (3, .int s1)] [] 2) (fun s1 y6 h2 go3 ou4 => ?_) h8
  refine f_iload_n hC dX5_firstUnlike_2 rfl 3 rfl ?_
  refine f_aload_n hC dX5_firstUnlike_3 rfl 0 rfl ?_
  refine f_iload_n hC dX5_firstUnlike_4 rfl 1 rfl ?_
  refine f_iconst (v := 0) hC dX5_firstUnlike_5 (by decide) ?_
  obtain ⟨g12, h2⟩ := fg_open h2
  obtain ⟨r10, h11, h2⟩ := fb_open h2
  refine f_callV hC [.int x1, .int 0] (c_X5_of l D cy a0 x1 0 w r10 h11) q_1447 q_136 q_1444 q_1446 q_90 h9_X5_of rfl (fSm.k (fSm.rf w) g12) ⟨Nat.le_of_ble_eq_true rfl, Nat.le_of_ble_eq_true rfl⟩ ⟨Nat.le_of_ble_eq_true rfl, Nat.le_of_ble_eq_true rfl⟩ (Nat.le_of_ble_eq_true rfl) rfl dX5_firstUnlike_6 (fun e13 => ?_)
  refine f_icmp_ge hC 36 dX5_firstUnlike_9 (by decide) (fun c14 => ?_) (fun c14 => ?_)
  · replace h2 := fi_pos h2 c14
    obtain rfl := Option.some.inj h2
    have eo := ou4 _ rfl
    refine f_sub (L' := []) [] rfl ?_
    exact K9 _ eo.symm
  · replace h2 := fi_neg h2 c14
    refine f_aload_n hC dX5_firstUnlike_12 rfl 0 rfl ?_
    refine f_iload_n hC dX5_firstUnlike_13 rfl 1 rfl ?_
    refine f_iload_n hC dX5_firstUnlike_14 rfl 2 rfl ?_
    refine f_iload_n hC dX5_firstUnlike_15 rfl 3 rfl ?_
    obtain ⟨r15, h16, h2⟩ := fb_open h2
    refine f_callV hC [.int x1, .int x2, .int s1] (c_X5_reads l D cy a0 x1 x2 s1 w r15 h16) q_1560 q_136 q_1557 q_1559 q_108 h9_X5_reads rfl (fSm.k (fSm.rf w) g12) ⟨Nat.le_of_ble_eq_true rfl, Nat.le_of_ble_eq_true rfl⟩ ⟨Nat.le_of_ble_eq_true rfl, Nat.le_of_ble_eq_true rfl⟩ (Nat.le_of_ble_eq_true rfl) rfl dX5_firstUnlike_16 (fun e17 => ?_)
    refine f_aload_n hC dX5_firstUnlike_19 rfl 0 rfl ?_
    refine f_iload_n hC dX5_firstUnlike_20 rfl 1 rfl ?_
    refine f_iload_n hC dX5_firstUnlike_21 rfl 3 rfl ?_
    obtain ⟨r18, h19, h2⟩ := fb_open h2
    refine f_callV hC [.int x1, .int s1] (c_X5_letterOf l D cy a0 x1 s1 w r18 h19) q_1455 q_136 q_1452 q_1454 q_92 h9_X5_letterOf rfl (fSm.k (fSm.rf w) g12) ⟨Nat.le_of_ble_eq_true rfl, Nat.le_of_ble_eq_true rfl⟩ ⟨Nat.le_of_ble_eq_true rfl, Nat.le_of_ble_eq_true rfl⟩ (Nat.le_of_ble_eq_true rfl) rfl dX5_firstUnlike_22 (fun e20 => ?_)
    refine f_icmp_eq hC 30 dX5_firstUnlike_25 (by decide) (fun c21 => ?_) (fun c21 => ?_)
    · replace h2 := fi_pos h2 c21
      refine f_iinc (L' := [(3, .int (s1 + 1)), (0, .ref a0), (1, .int x1), (2, .int x2)]) hC dX5_firstUnlike_30 3 rfl rfl (by decide) rfl ?_
      refine f_goto hC 2 dX5_firstUnlike_33 (by decide) ?_
      obtain rfl := Option.some.inj h2
      refine f_sub (L' := [(0, .ref a0), (1, .int x1), (2, .int x2), (3, .int (s1 + 1))]) [1, 2, 3, 0] rfl ?_
      exact go3 _ rfl
    · replace h2 := fi_neg h2 c21
      refine f_iload_n hC dX5_firstUnlike_28 rfl 3 rfl ?_
      obtain rfl := Option.some.inj h2
      obtain rfl := ou4 _ rfl
      obtain rfl := Option.some.inj hF
      exact f_iret hC hEn (fSm.rf w) dX5_firstUnlike_29
theorem dX5_holesOf_0 : decode cX5_holesOf 0 = .ok (.iconst 0, 1) := by decide +kernel
theorem dX5_holesOf_1 : decode cX5_holesOf 1 = .ok (.istore_n 3, 1) := by decide +kernel
theorem dX5_holesOf_2 : decode cX5_holesOf 2 = .ok (.iconst 0, 1) := by decide +kernel
theorem dX5_holesOf_3 : decode cX5_holesOf 3 = .ok (.istore 4, 2) := by decide +kernel
theorem dX5_holesOf_5 : decode cX5_holesOf 5 = .ok (.iload 4, 2) := by decide +kernel
theorem dX5_holesOf_7 : decode cX5_holesOf 7 = .ok (.aload_n 0, 1) := by decide +kernel
theorem dX5_holesOf_8 : decode cX5_holesOf 8 = .ok (.iload_n 1, 1) := by decide +kernel
theorem dX5_holesOf_9 : decode cX5_holesOf 9 = .ok (.iconst 0, 1) := by decide +kernel
theorem dX5_holesOf_10 : decode cX5_holesOf 10 = .ok (.invokevirtual 70, 3) := by decide +kernel
theorem dX5_holesOf_13 : decode cX5_holesOf 13 = .ok (.if_icmp .ge 20, 3) := by decide +kernel
theorem dX5_holesOf_16 : decode cX5_holesOf 16 = .ok (.iload_n 3, 1) := by decide +kernel
theorem dX5_holesOf_17 : decode cX5_holesOf 17 = .ok (.aload_n 0, 1) := by decide +kernel
theorem dX5_holesOf_18 : decode cX5_holesOf 18 = .ok (.iload_n 1, 1) := by decide +kernel
theorem dX5_holesOf_19 : decode cX5_holesOf 19 = .ok (.iload_n 2, 1) := by decide +kernel
theorem dX5_holesOf_20 : decode cX5_holesOf 20 = .ok (.iload 4, 2) := by decide +kernel
theorem dX5_holesOf_22 : decode cX5_holesOf 22 = .ok (.invokevirtual 99, 3) := by decide +kernel
theorem dX5_holesOf_25 : decode cX5_holesOf 25 = .ok (.iadd, 1) := by decide +kernel
theorem dX5_holesOf_26 : decode cX5_holesOf 26 = .ok (.istore_n 3, 1) := by decide +kernel
theorem dX5_holesOf_27 : decode cX5_holesOf 27 = .ok (.iinc 4 1, 3) := by decide +kernel
theorem dX5_holesOf_30 : decode cX5_holesOf 30 = .ok (.goto (-25), 3) := by decide +kernel
theorem dX5_holesOf_33 : decode cX5_holesOf 33 = .ok (.iload_n 3, 1) := by decide +kernel
theorem dX5_holesOf_34 : decode cX5_holesOf 34 = .ok (.ireturn, 1) := by decide +kernel
theorem h9_X5_holesOf : yX5_holesOf.cls ≠ "java/lang/invoke/MethodHandle" ∧ yX5_holesOf.cls ≠ "java/lang/invoke/VarHandle" ∧ (parseMethodDescriptor yX5_holesOf.desc).map (fun d => d.parameters.length) = some 2 := by decide +kernel
noncomputable def F_X5_holesOf (a0 : Nat) (x1 : Int32) (x2 : Int32) (w : FW) : Option (Int32) :=
  (fLoop (σ := Int32 × Int32) (ρ := Int32) (fun s1 => fg (w.1 a0 = 6) inferInstance ((F_X5_of a0 x1 0 w).bind (fun r10 => (if r10 ≤ s1.2 then some (.inr s1.1) else (F_X5_holesAt a0 x1 x2 s1.2 w).bind (fun r15 => some (.inl ((s1.1 + r15), (s1.2 + 1)))))))) (0, 0)).bind (fun x7 => some x7)
set_option maxHeartbeats 4000000 in
set_option maxRecDepth 100000 in
theorem c_X5_holesOf (l : Launch) (D : va_G) (cy : Nat → ClassId) (a0 : Nat) (x1 : Int32) (x2 : Int32) (w : FW) (r : Int32) (hF : F_X5_holesOf a0 x1 x2 w = some r) : fSpec l D cy yX5_holesOf cX5_holesOf 5 (some .int) { frames := 4, cells := 0, slots := 0, locals := 91 } [.ref a0, .int x1, .int x2] w w (some (.int r)) := by
  refine f_begin (by decide +kernel) (Nat.le_of_ble_eq_true rfl) (fun X hC hEn => ?_)
  unfold F_X5_holesOf at hF
  show fAt X 0 0 5 w [(0, .ref a0), (1, .int x1), (2, .int x2)] [] 0
  refine f_iconst (v := 0) hC dX5_holesOf_0 (by decide) ?_
  refine f_istore_n (L' := [(3, .int 0), (0, .ref a0), (1, .int x1), (2, .int x2)]) hC dX5_holesOf_1 rfl (by decide) rfl ?_
  refine f_iconst (v := 0) hC dX5_holesOf_2 (by decide) ?_
  refine f_istore (L' := [(4, .int 0), (3, .int 0), (0, .ref a0), (1, .int x1), (2, .int x2)]) hC dX5_holesOf_3 (by decide) rfl ?_
  obtain ⟨x7, h8, hF⟩ := fb_open hF
  have K9 : fAt X 0 0 5 w [(3, .int x7)] [] 33 := by
    refine f_iload_n hC dX5_holesOf_33 rfl 0 rfl ?_
    obtain rfl := Option.some.inj hF
    exact f_iret hC hEn (fSm.rf w) dX5_holesOf_34
  refine f_sub (L' := [(0, .ref a0), (1, .int x1), (2, .int x2), (3, .int 0), (4, .int 0)]) [2, 3, 4, 1, 0] rfl ?_
  refine fLoop_ind (fun (s1 : Int32 × Int32) => fAt X 0 0 5 w [(0, .ref a0), (1, .int x1), (2, .int x2), (3, .int s1.1), (4, .int s1.2)] [] 5) (fun s1 y6 h2 go3 ou4 => ?_) h8
  refine f_iload hC dX5_holesOf_5 4 rfl ?_
  refine f_aload_n hC dX5_holesOf_7 rfl 0 rfl ?_
  refine f_iload_n hC dX5_holesOf_8 rfl 1 rfl ?_
  refine f_iconst (v := 0) hC dX5_holesOf_9 (by decide) ?_
  obtain ⟨g12, h2⟩ := fg_open h2
  obtain ⟨r10, h11, h2⟩ := fb_open h2
  refine f_callV hC [.int x1, .int 0] (c_X5_of l D cy a0 x1 0 w r10 h11) q_1447 q_136 q_1444 q_1446 q_90 h9_X5_of rfl (fSm.k (fSm.rf w) g12) ⟨Nat.le_of_ble_eq_true rfl, Nat.le_of_ble_eq_true rfl⟩ ⟨Nat.le_of_ble_eq_true rfl, Nat.le_of_ble_eq_true rfl⟩ (Nat.le_of_ble_eq_true rfl) rfl dX5_holesOf_10 (fun e13 => ?_)
  refine f_icmp_ge hC 33 dX5_holesOf_13 (by decide) (fun c14 => ?_) (fun c14 => ?_)
  · replace h2 := fi_pos h2 c14
    obtain rfl := Option.some.inj h2
    obtain rfl := ou4 _ rfl
    refine f_sub (L' := [(3, .int s1.1)]) [3] rfl ?_
    exact K9
  · replace h2 := fi_neg h2 c14
    refine f_iload_n hC dX5_holesOf_16 rfl 3 rfl ?_
    refine f_aload_n hC dX5_holesOf_17 rfl 0 rfl ?_
    refine f_iload_n hC dX5_holesOf_18 rfl 1 rfl ?_
    refine f_iload_n hC dX5_holesOf_19 rfl 2 rfl ?_
    refine f_iload hC dX5_holesOf_20 4 rfl ?_
    obtain ⟨r15, h16, h2⟩ := fb_open h2
    refine f_callV hC [.int x1, .int x2, .int s1.2] (c_X5_holesAt l D cy a0 x1 x2 s1.2 w r15 h16) q_1486 q_136 q_1483 q_1485 q_97 h9_X5_holesAt rfl (fSm.k (fSm.rf w) g12) ⟨Nat.le_of_ble_eq_true rfl, Nat.le_of_ble_eq_true rfl⟩ ⟨Nat.le_of_ble_eq_true rfl, Nat.le_of_ble_eq_true rfl⟩ (Nat.le_of_ble_eq_true rfl) rfl dX5_holesOf_22 (fun e17 => ?_)
    refine f_iadd hC dX5_holesOf_25 ?_
    refine f_istore_n (L' := [(3, .int (s1.1 + r15)), (0, .ref a0), (1, .int x1), (2, .int x2), (4, .int s1.2)]) hC dX5_holesOf_26 rfl (by decide) rfl ?_
    refine f_iinc (L' := [(4, .int (s1.2 + 1)), (3, .int (s1.1 + r15)), (0, .ref a0), (1, .int x1), (2, .int x2)]) hC dX5_holesOf_27 4 rfl rfl (by decide) rfl ?_
    refine f_goto hC 5 dX5_holesOf_30 (by decide) ?_
    obtain rfl := Option.some.inj h2
    refine f_sub (L' := [(0, .ref a0), (1, .int x1), (2, .int x2), (3, .int (s1.1 + r15)), (4, .int (s1.2 + 1))]) [2, 3, 4, 1, 0] rfl ?_
    exact go3 _ rfl
theorem dX5_leftOf_0 : decode cX5_leftOf 0 = .ok (.iconst 0, 1) := by decide +kernel
theorem dX5_leftOf_1 : decode cX5_leftOf 1 = .ok (.istore_n 3, 1) := by decide +kernel
theorem dX5_leftOf_2 : decode cX5_leftOf 2 = .ok (.iconst 0, 1) := by decide +kernel
theorem dX5_leftOf_3 : decode cX5_leftOf 3 = .ok (.istore 4, 2) := by decide +kernel
theorem dX5_leftOf_5 : decode cX5_leftOf 5 = .ok (.iload 4, 2) := by decide +kernel
theorem dX5_leftOf_7 : decode cX5_leftOf 7 = .ok (.aload_n 0, 1) := by decide +kernel
theorem dX5_leftOf_8 : decode cX5_leftOf 8 = .ok (.iload_n 1, 1) := by decide +kernel
theorem dX5_leftOf_9 : decode cX5_leftOf 9 = .ok (.iconst 0, 1) := by decide +kernel
theorem dX5_leftOf_10 : decode cX5_leftOf 10 = .ok (.invokevirtual 70, 3) := by decide +kernel
theorem dX5_leftOf_13 : decode cX5_leftOf 13 = .ok (.if_icmp .ge 27, 3) := by decide +kernel
theorem dX5_leftOf_16 : decode cX5_leftOf 16 = .ok (.iload_n 3, 1) := by decide +kernel
theorem dX5_leftOf_17 : decode cX5_leftOf 17 = .ok (.aload_n 0, 1) := by decide +kernel
theorem dX5_leftOf_18 : decode cX5_leftOf 18 = .ok (.iload_n 1, 1) := by decide +kernel
theorem dX5_leftOf_19 : decode cX5_leftOf 19 = .ok (.iload_n 2, 1) := by decide +kernel
theorem dX5_leftOf_20 : decode cX5_leftOf 20 = .ok (.iload 4, 2) := by decide +kernel
theorem dX5_leftOf_22 : decode cX5_leftOf 22 = .ok (.aload_n 0, 1) := by decide +kernel
theorem dX5_leftOf_23 : decode cX5_leftOf 23 = .ok (.iload_n 1, 1) := by decide +kernel
theorem dX5_leftOf_24 : decode cX5_leftOf 24 = .ok (.iload_n 2, 1) := by decide +kernel
theorem dX5_leftOf_25 : decode cX5_leftOf 25 = .ok (.iconst 1, 1) := by decide +kernel
theorem dX5_leftOf_26 : decode cX5_leftOf 26 = .ok (.invokevirtual 78, 3) := by decide +kernel
theorem dX5_leftOf_29 : decode cX5_leftOf 29 = .ok (.invokevirtual 102, 3) := by decide +kernel
theorem dX5_leftOf_32 : decode cX5_leftOf 32 = .ok (.iadd, 1) := by decide +kernel
theorem dX5_leftOf_33 : decode cX5_leftOf 33 = .ok (.istore_n 3, 1) := by decide +kernel
theorem dX5_leftOf_34 : decode cX5_leftOf 34 = .ok (.iinc 4 1, 3) := by decide +kernel
theorem dX5_leftOf_37 : decode cX5_leftOf 37 = .ok (.goto (-32), 3) := by decide +kernel
theorem dX5_leftOf_40 : decode cX5_leftOf 40 = .ok (.iload_n 3, 1) := by decide +kernel
theorem dX5_leftOf_41 : decode cX5_leftOf 41 = .ok (.ireturn, 1) := by decide +kernel
theorem h9_X5_leftOf : yX5_leftOf.cls ≠ "java/lang/invoke/MethodHandle" ∧ yX5_leftOf.cls ≠ "java/lang/invoke/VarHandle" ∧ (parseMethodDescriptor yX5_leftOf.desc).map (fun d => d.parameters.length) = some 2 := by decide +kernel
noncomputable def F_X5_leftOf (a0 : Nat) (x1 : Int32) (x2 : Int32) (w : FW) : Option (Int32) :=
  (fLoop (σ := Int32 × Int32) (ρ := Int32) (fun s1 => fg (w.1 a0 = 6) inferInstance ((F_X5_of a0 x1 0 w).bind (fun r10 => (if r10 ≤ s1.2 then some (.inr s1.1) else (F_X5_half a0 x1 x2 1 w).bind (fun r15 => (F_X5_leftAt a0 x1 x2 s1.2 r15 w).bind (fun r18 => some (.inl ((s1.1 + r18), (s1.2 + 1))))))))) (0, 0)).bind (fun x7 => some x7)
set_option maxHeartbeats 4000000 in
set_option maxRecDepth 100000 in
theorem c_X5_leftOf (l : Launch) (D : va_G) (cy : Nat → ClassId) (a0 : Nat) (x1 : Int32) (x2 : Int32) (w : FW) (r : Int32) (hF : F_X5_leftOf a0 x1 x2 w = some r) : fSpec l D cy yX5_leftOf cX5_leftOf 5 (some .int) { frames := 5, cells := 0, slots := 0, locals := 116 } [.ref a0, .int x1, .int x2] w w (some (.int r)) := by
  refine f_begin (by decide +kernel) (Nat.le_of_ble_eq_true rfl) (fun X hC hEn => ?_)
  unfold F_X5_leftOf at hF
  show fAt X 0 0 5 w [(0, .ref a0), (1, .int x1), (2, .int x2)] [] 0
  refine f_iconst (v := 0) hC dX5_leftOf_0 (by decide) ?_
  refine f_istore_n (L' := [(3, .int 0), (0, .ref a0), (1, .int x1), (2, .int x2)]) hC dX5_leftOf_1 rfl (by decide) rfl ?_
  refine f_iconst (v := 0) hC dX5_leftOf_2 (by decide) ?_
  refine f_istore (L' := [(4, .int 0), (3, .int 0), (0, .ref a0), (1, .int x1), (2, .int x2)]) hC dX5_leftOf_3 (by decide) rfl ?_
  obtain ⟨x7, h8, hF⟩ := fb_open hF
  have K9 : fAt X 0 0 5 w [(3, .int x7)] [] 40 := by
    refine f_iload_n hC dX5_leftOf_40 rfl 0 rfl ?_
    obtain rfl := Option.some.inj hF
    exact f_iret hC hEn (fSm.rf w) dX5_leftOf_41
  refine f_sub (L' := [(0, .ref a0), (1, .int x1), (2, .int x2), (3, .int 0), (4, .int 0)]) [2, 3, 4, 1, 0] rfl ?_
  refine fLoop_ind (fun (s1 : Int32 × Int32) => fAt X 0 0 5 w [(0, .ref a0), (1, .int x1), (2, .int x2), (3, .int s1.1), (4, .int s1.2)] [] 5) (fun s1 y6 h2 go3 ou4 => ?_) h8
  refine f_iload hC dX5_leftOf_5 4 rfl ?_
  refine f_aload_n hC dX5_leftOf_7 rfl 0 rfl ?_
  refine f_iload_n hC dX5_leftOf_8 rfl 1 rfl ?_
  refine f_iconst (v := 0) hC dX5_leftOf_9 (by decide) ?_
  obtain ⟨g12, h2⟩ := fg_open h2
  obtain ⟨r10, h11, h2⟩ := fb_open h2
  refine f_callV hC [.int x1, .int 0] (c_X5_of l D cy a0 x1 0 w r10 h11) q_1447 q_136 q_1444 q_1446 q_90 h9_X5_of rfl (fSm.k (fSm.rf w) g12) ⟨Nat.le_of_ble_eq_true rfl, Nat.le_of_ble_eq_true rfl⟩ ⟨Nat.le_of_ble_eq_true rfl, Nat.le_of_ble_eq_true rfl⟩ (Nat.le_of_ble_eq_true rfl) rfl dX5_leftOf_10 (fun e13 => ?_)
  refine f_icmp_ge hC 40 dX5_leftOf_13 (by decide) (fun c14 => ?_) (fun c14 => ?_)
  · replace h2 := fi_pos h2 c14
    obtain rfl := Option.some.inj h2
    obtain rfl := ou4 _ rfl
    refine f_sub (L' := [(3, .int s1.1)]) [3] rfl ?_
    exact K9
  · replace h2 := fi_neg h2 c14
    refine f_iload_n hC dX5_leftOf_16 rfl 3 rfl ?_
    refine f_aload_n hC dX5_leftOf_17 rfl 0 rfl ?_
    refine f_iload_n hC dX5_leftOf_18 rfl 1 rfl ?_
    refine f_iload_n hC dX5_leftOf_19 rfl 2 rfl ?_
    refine f_iload hC dX5_leftOf_20 4 rfl ?_
    refine f_aload_n hC dX5_leftOf_22 rfl 0 rfl ?_
    refine f_iload_n hC dX5_leftOf_23 rfl 1 rfl ?_
    refine f_iload_n hC dX5_leftOf_24 rfl 2 rfl ?_
    refine f_iconst (v := 1) hC dX5_leftOf_25 (by decide) ?_
    obtain ⟨r15, h16, h2⟩ := fb_open h2
    refine f_callV hC [.int x1, .int x2, .int 1] (c_X5_half l D cy a0 x1 x2 1 w r15 h16) q_1478 q_136 q_1475 q_1477 q_95 h9_X5_half rfl (fSm.k (fSm.rf w) g12) ⟨Nat.le_of_ble_eq_true rfl, Nat.le_of_ble_eq_true rfl⟩ ⟨Nat.le_of_ble_eq_true rfl, Nat.le_of_ble_eq_true rfl⟩ (Nat.le_of_ble_eq_true rfl) rfl dX5_leftOf_26 (fun e17 => ?_)
    obtain ⟨r18, h19, h2⟩ := fb_open h2
    refine f_callV hC [.int x1, .int x2, .int s1.2, .int r15] (c_X5_leftAt l D cy a0 x1 x2 s1.2 r15 w r18 h19) q_1541 q_136 q_1538 q_1540 q_105 h9_X5_leftAt rfl (fSm.k (fSm.rf w) g12) ⟨Nat.le_of_ble_eq_true rfl, Nat.le_of_ble_eq_true rfl⟩ ⟨Nat.le_of_ble_eq_true rfl, Nat.le_of_ble_eq_true rfl⟩ (Nat.le_of_ble_eq_true rfl) rfl dX5_leftOf_29 (fun e20 => ?_)
    refine f_iadd hC dX5_leftOf_32 ?_
    refine f_istore_n (L' := [(3, .int (s1.1 + r18)), (0, .ref a0), (1, .int x1), (2, .int x2), (4, .int s1.2)]) hC dX5_leftOf_33 rfl (by decide) rfl ?_
    refine f_iinc (L' := [(4, .int (s1.2 + 1)), (3, .int (s1.1 + r18)), (0, .ref a0), (1, .int x1), (2, .int x2)]) hC dX5_leftOf_34 4 rfl rfl (by decide) rfl ?_
    refine f_goto hC 5 dX5_leftOf_37 (by decide) ?_
    obtain rfl := Option.some.inj h2
    refine f_sub (L' := [(0, .ref a0), (1, .int x1), (2, .int x2), (3, .int (s1.1 + r18)), (4, .int (s1.2 + 1))]) [2, 3, 4, 1, 0] rfl ?_
    exact go3 _ rfl
theorem dX5_addsLetter_0 : decode cX5_addsLetter 0 = .ok (.iload_n 1, 1) := by decide +kernel
theorem dX5_addsLetter_1 : decode cX5_addsLetter 1 = .ok (.invokestatic 119, 3) := by decide +kernel
theorem dX5_addsLetter_4 : decode cX5_addsLetter 4 = .ok (.ifCond .ne 5, 3) := by decide +kernel
theorem dX5_addsLetter_7 : decode cX5_addsLetter 7 = .ok (.iconst (-1), 1) := by decide +kernel
theorem dX5_addsLetter_8 : decode cX5_addsLetter 8 = .ok (.ireturn, 1) := by decide +kernel
theorem dX5_addsLetter_9 : decode cX5_addsLetter 9 = .ok (.aload_n 0, 1) := by decide +kernel
theorem dX5_addsLetter_10 : decode cX5_addsLetter 10 = .ok (.getfield 7, 3) := by decide +kernel
theorem dX5_addsLetter_13 : decode cX5_addsLetter 13 = .ok (.bipush 10, 2) := by decide +kernel
theorem dX5_addsLetter_15 : decode cX5_addsLetter 15 = .ok (.iaload, 1) := by decide +kernel
theorem dX5_addsLetter_16 : decode cX5_addsLetter 16 = .ok (.istore_n 2, 1) := by decide +kernel
theorem dX5_addsLetter_17 : decode cX5_addsLetter 17 = .ok (.iload_n 2, 1) := by decide +kernel
theorem dX5_addsLetter_18 : decode cX5_addsLetter 18 = .ok (.bipush 6, 2) := by decide +kernel
theorem dX5_addsLetter_20 : decode cX5_addsLetter 20 = .ok (.if_icmp .ne 11, 3) := by decide +kernel
theorem dX5_addsLetter_23 : decode cX5_addsLetter 23 = .ok (.aload_n 0, 1) := by decide +kernel
theorem dX5_addsLetter_24 : decode cX5_addsLetter 24 = .ok (.iconst 1, 1) := by decide +kernel
theorem dX5_addsLetter_25 : decode cX5_addsLetter 25 = .ok (.bipush 6, 2) := by decide +kernel
theorem dX5_addsLetter_27 : decode cX5_addsLetter 27 = .ok (.invokevirtual 122, 3) := by decide +kernel
theorem dX5_addsLetter_30 : decode cX5_addsLetter 30 = .ok (.ireturn, 1) := by decide +kernel
theorem dX5_addsLetter_31 : decode cX5_addsLetter 31 = .ok (.aload_n 0, 1) := by decide +kernel
theorem dX5_addsLetter_32 : decode cX5_addsLetter 32 = .ok (.getfield 7, 3) := by decide +kernel
theorem dX5_addsLetter_35 : decode cX5_addsLetter 35 = .ok (.bipush 11, 2) := by decide +kernel
theorem dX5_addsLetter_37 : decode cX5_addsLetter 37 = .ok (.iload_n 2, 1) := by decide +kernel
theorem dX5_addsLetter_38 : decode cX5_addsLetter 38 = .ok (.iadd, 1) := by decide +kernel
theorem dX5_addsLetter_39 : decode cX5_addsLetter 39 = .ok (.iload_n 1, 1) := by decide +kernel
theorem dX5_addsLetter_40 : decode cX5_addsLetter 40 = .ok (.iastore, 1) := by decide +kernel
theorem dX5_addsLetter_41 : decode cX5_addsLetter 41 = .ok (.aload_n 0, 1) := by decide +kernel
theorem dX5_addsLetter_42 : decode cX5_addsLetter 42 = .ok (.getfield 7, 3) := by decide +kernel
theorem dX5_addsLetter_45 : decode cX5_addsLetter 45 = .ok (.bipush 10, 2) := by decide +kernel
theorem dX5_addsLetter_47 : decode cX5_addsLetter 47 = .ok (.iload_n 2, 1) := by decide +kernel
theorem dX5_addsLetter_48 : decode cX5_addsLetter 48 = .ok (.iconst 1, 1) := by decide +kernel
theorem dX5_addsLetter_49 : decode cX5_addsLetter 49 = .ok (.iadd, 1) := by decide +kernel
theorem dX5_addsLetter_50 : decode cX5_addsLetter 50 = .ok (.iastore, 1) := by decide +kernel
theorem dX5_addsLetter_51 : decode cX5_addsLetter 51 = .ok (.aload_n 0, 1) := by decide +kernel
theorem dX5_addsLetter_52 : decode cX5_addsLetter 52 = .ok (.iload_n 2, 1) := by decide +kernel
theorem dX5_addsLetter_53 : decode cX5_addsLetter 53 = .ok (.iconst 1, 1) := by decide +kernel
theorem dX5_addsLetter_54 : decode cX5_addsLetter 54 = .ok (.iadd, 1) := by decide +kernel
theorem dX5_addsLetter_55 : decode cX5_addsLetter 55 = .ok (.invokevirtual 125, 3) := by decide +kernel
theorem dX5_addsLetter_58 : decode cX5_addsLetter 58 = .ok (.ireturn, 1) := by decide +kernel
theorem h9_X5_addsLetter : yX5_addsLetter.cls ≠ "java/lang/invoke/MethodHandle" ∧ yX5_addsLetter.cls ≠ "java/lang/invoke/VarHandle" ∧ (parseMethodDescriptor yX5_addsLetter.desc).map (fun d => d.parameters.length) = some 1 := by decide +kernel
noncomputable def F_X5_addsLetter (a0 : Nat) (x1 : Int32) (w : FW) : Option (Int32 × FW) :=
  (F_X5_isLetter x1 w).bind (fun r1 => (if r1 = 0 then some ((-1), w) else fg (w.1 a0 = 6) inferInstance (fg (w.1 (gR w 501 a0 0) = 11) inferInstance (fg (¬ (10 < 0 ∨ w.2.1 (gR w 501 a0 0) ≤ Int32.toNatClampNeg 10)) inferInstance ((if (gI w 601 (gR w 501 a0 0) (Int32.toNatClampNeg 10)) = 6 then (F_X5_refused a0 1 6 w).bind (fun r13 => some (r13.1, r13.2)) else fg (¬ ((11 + (gI w 601 (gR w 501 a0 0) (Int32.toNatClampNeg 10))) < 0 ∨ w.2.1 (gR w 501 a0 0) ≤ Int32.toNatClampNeg (11 + (gI w 601 (gR w 501 a0 0) (Int32.toNatClampNeg 10))))) inferInstance ((F_X5_done a0 ((gI w 601 (gR w 501 a0 0) (Int32.toNatClampNeg 10)) + 1) (sI (sI w 601 (gR w 501 a0 0) (Int32.toNatClampNeg (11 + (gI w 601 (gR w 501 a0 0) (Int32.toNatClampNeg 10)))) x1) 601 (gR (sI w 601 (gR w 501 a0 0) (Int32.toNatClampNeg (11 + (gI w 601 (gR w 501 a0 0) (Int32.toNatClampNeg 10)))) x1) 501 a0 0) (Int32.toNatClampNeg 10) ((gI w 601 (gR w 501 a0 0) (Int32.toNatClampNeg 10)) + 1))).bind (fun r10 => some (r10.1, r10.2)))))))))
set_option maxHeartbeats 4000000 in
set_option maxRecDepth 100000 in
theorem c_X5_addsLetter (l : Launch) (D : va_G) (cy : Nat → ClassId) (a0 : Nat) (x1 : Int32) (w : FW) (r : Int32 × FW) (hF : F_X5_addsLetter a0 x1 w = some r) : fSpec l D cy yX5_addsLetter cX5_addsLetter 3 (some .int) { frames := 3, cells := 0, slots := 0, locals := 62 } [.ref a0, .int x1] w r.2 (some (.int r.1)) := by
  refine f_begin (by decide +kernel) (Nat.le_of_ble_eq_true rfl) (fun X hC hEn => ?_)
  unfold F_X5_addsLetter at hF
  show fAt X 0 0 3 w [(0, .ref a0), (1, .int x1)] [] 0
  refine f_iload_n hC dX5_addsLetter_0 rfl 1 rfl ?_
  obtain ⟨r1, h2, hF⟩ := fb_open hF
  refine f_callS hC [.int x1] (c_X5_isLetter l D cy x1 w r1 h2) q_1346 q_136 q_1344 q_1345 h9_X5_isLetter ⟨Nat.le_of_ble_eq_true rfl, Nat.le_of_ble_eq_true rfl⟩ ⟨Nat.le_of_ble_eq_true rfl, Nat.le_of_ble_eq_true rfl⟩ (Nat.le_of_ble_eq_true rfl) rfl dX5_addsLetter_1 (fun e3 => ?_)
  refine f_if_ne hC 9 dX5_addsLetter_4 (by decide) (fun c4 => ?_) (fun c4 => ?_)
  · replace hF := fi_neg hF c4
    refine f_aload_n hC dX5_addsLetter_9 rfl 0 rfl ?_
    obtain ⟨g5, hF⟩ := fg_open hF
    refine f_getR hC 5 1 501 rfl (by decide) iX5 q_1255 rfl rfl (fSm.k (fSm.rf w) g5) dX5_addsLetter_10 ?_
    refine f_bipush (v := 10) hC dX5_addsLetter_13 (by decide) ?_
    obtain ⟨g6, hF⟩ := fg_open hF
    obtain ⟨g7, hF⟩ := fg_open hF
    refine f_iald hC (fSm.k (fSm.rf w) g6) (fSm.v (fSm.rf w) g7) dX5_addsLetter_15 ?_
    refine f_istore_n (L' := [(2, .int (gI w 601 (gR w 501 a0 0) (Int32.toNatClampNeg 10))), (0, .ref a0), (1, .int x1)]) hC dX5_addsLetter_16 rfl (by decide) rfl ?_
    refine f_iload_n hC dX5_addsLetter_17 rfl 0 rfl ?_
    refine f_bipush (v := 6) hC dX5_addsLetter_18 (by decide) ?_
    refine f_icmp_ne hC 31 dX5_addsLetter_20 (by decide) (fun c8 => ?_) (fun c8 => ?_)
    · replace hF := fi_neg hF c8
      refine f_aload_n hC dX5_addsLetter_31 rfl 1 rfl ?_
      refine f_getR hC 5 1 501 rfl (by decide) iX5 q_1255 rfl rfl (fSm.k (fSm.rf w) g5) dX5_addsLetter_32 ?_
      refine f_bipush (v := 11) hC dX5_addsLetter_35 (by decide) ?_
      refine f_iload_n hC dX5_addsLetter_37 rfl 0 rfl ?_
      refine f_iadd hC dX5_addsLetter_38 ?_
      refine f_iload_n hC dX5_addsLetter_39 rfl 2 rfl ?_
      obtain ⟨g9, hF⟩ := fg_open hF
      refine f_iast hC (fSm.k (fSm.rf w) g6) (fSm.v (fSm.rf w) g9) dX5_addsLetter_40 ?_
      refine f_aload_n hC dX5_addsLetter_41 rfl 1 rfl ?_
      refine f_getR hC 5 1 501 rfl (by decide) iX5 q_1255 rfl rfl (fSm.k (fSm.rf w) g5) dX5_addsLetter_42 ?_
      refine f_bipush (v := 10) hC dX5_addsLetter_45 (by decide) ?_
      refine f_iload_n hC dX5_addsLetter_47 rfl 0 rfl ?_
      refine f_iconst (v := 1) hC dX5_addsLetter_48 (by decide) ?_
      refine f_iadd hC dX5_addsLetter_49 ?_
      refine f_iast hC (fSm.k (fSm.rf w) g6) (fSm.v (fSm.rf w) g7) dX5_addsLetter_50 ?_
      refine f_aload_n hC dX5_addsLetter_51 rfl 1 rfl ?_
      refine f_iload_n hC dX5_addsLetter_52 rfl 0 rfl ?_
      refine f_iconst (v := 1) hC dX5_addsLetter_53 (by decide) ?_
      refine f_iadd hC dX5_addsLetter_54 ?_
      obtain ⟨r10, h11, hF⟩ := fb_open hF
      refine f_callV hC [.int ((gI w 601 (gR w 501 a0 0) (Int32.toNatClampNeg 10)) + 1)] (c_X5_done l D cy a0 ((gI w 601 (gR w 501 a0 0) (Int32.toNatClampNeg 10)) + 1) (sI (sI w 601 (gR w 501 a0 0) (Int32.toNatClampNeg (11 + (gI w 601 (gR w 501 a0 0) (Int32.toNatClampNeg 10)))) x1) 601 (gR (sI w 601 (gR w 501 a0 0) (Int32.toNatClampNeg (11 + (gI w 601 (gR w 501 a0 0) (Int32.toNatClampNeg 10)))) x1) 501 a0 0) (Int32.toNatClampNeg 10) ((gI w 601 (gR w 501 a0 0) (Int32.toNatClampNeg 10)) + 1)) r10 h11) q_1363 q_136 q_1360 q_1362 q_75 h9_X5_done rfl (fSm.k (fSm.rf w) g5) ⟨Nat.le_of_ble_eq_true rfl, Nat.le_of_ble_eq_true rfl⟩ ⟨Nat.le_of_ble_eq_true rfl, Nat.le_of_ble_eq_true rfl⟩ (Nat.le_of_ble_eq_true rfl) rfl dX5_addsLetter_55 (fun e12 => ?_)
      obtain rfl := Option.some.inj hF
      exact f_iret hC hEn (fSm.tr e12 (fSm.rf w)) dX5_addsLetter_58
    · replace hF := fi_pos hF c8
      refine f_aload_n hC dX5_addsLetter_23 rfl 1 rfl ?_
      refine f_iconst (v := 1) hC dX5_addsLetter_24 (by decide) ?_
      refine f_bipush (v := 6) hC dX5_addsLetter_25 (by decide) ?_
      obtain ⟨r13, h14, hF⟩ := fb_open hF
      refine f_callV hC [.int 1, .int 6] (c_X5_refused l D cy a0 1 6 w r13 h14) q_1359 q_136 q_1356 q_1358 q_74 h9_X5_refused rfl (fSm.k (fSm.rf w) g5) ⟨Nat.le_of_ble_eq_true rfl, Nat.le_of_ble_eq_true rfl⟩ ⟨Nat.le_of_ble_eq_true rfl, Nat.le_of_ble_eq_true rfl⟩ (Nat.le_of_ble_eq_true rfl) rfl dX5_addsLetter_27 (fun e15 => ?_)
      obtain rfl := Option.some.inj hF
      exact f_iret hC hEn (fSm.tr e15 (fSm.rf w)) dX5_addsLetter_30
  · replace hF := fi_pos hF c4
    refine f_iconst (v := (-1)) hC dX5_addsLetter_7 (by decide) ?_
    obtain rfl := Option.some.inj hF
    exact f_iret hC hEn (fSm.rf w) dX5_addsLetter_8
