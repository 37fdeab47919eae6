theorem dX5_reads_0 : decode cX5_reads 0 = .ok (.aload_n 0, 1) := by decide +kernel
theorem dX5_reads_1 : decode cX5_reads 1 = .ok (.iload_n 1, 1) := by decide +kernel
theorem dX5_reads_2 : decode cX5_reads 2 = .ok (.iload_n 2, 1) := by decide +kernel
theorem dX5_reads_3 : decode cX5_reads 3 = .ok (.iload_n 3, 1) := by decide +kernel
theorem dX5_reads_4 : decode cX5_reads 4 = .ok (.aload_n 0, 1) := by decide +kernel
theorem dX5_reads_5 : decode cX5_reads 5 = .ok (.iload_n 1, 1) := by decide +kernel
theorem dX5_reads_6 : decode cX5_reads 6 = .ok (.iload_n 2, 1) := by decide +kernel
theorem dX5_reads_7 : decode cX5_reads 7 = .ok (.iconst 1, 1) := by decide +kernel
theorem dX5_reads_8 : decode cX5_reads 8 = .ok (.invokevirtual 78, 3) := by decide +kernel
theorem dX5_reads_11 : decode cX5_reads 11 = .ok (.aload_n 0, 1) := by decide +kernel
theorem dX5_reads_12 : decode cX5_reads 12 = .ok (.iload_n 1, 1) := by decide +kernel
theorem dX5_reads_13 : decode cX5_reads 13 = .ok (.iload_n 2, 1) := by decide +kernel
theorem dX5_reads_14 : decode cX5_reads 14 = .ok (.iconst 0, 1) := by decide +kernel
theorem dX5_reads_15 : decode cX5_reads 15 = .ok (.invokevirtual 78, 3) := by decide +kernel
theorem dX5_reads_18 : decode cX5_reads 18 = .ok (.invokevirtual 109, 3) := by decide +kernel
theorem dX5_reads_21 : decode cX5_reads 21 = .ok (.ireturn, 1) := by decide +kernel
theorem h9_X5_reads : yX5_reads.cls ≠ "java/lang/invoke/MethodHandle" ∧ yX5_reads.cls ≠ "java/lang/invoke/VarHandle" ∧ (parseMethodDescriptor yX5_reads.desc).map (fun d => d.parameters.length) = some 3 := by decide +kernel
noncomputable def F_X5_reads (a0 : Nat) (x1 : Int32) (x2 : Int32) (x3 : Int32) (w : FW) : Option (Int32) :=
  fg (w.1 a0 = 6) inferInstance ((F_X5_half a0 x1 x2 1 w).bind (fun r1 => (F_X5_half a0 x1 x2 0 w).bind (fun r5 => (F_X5_readWith a0 x1 x2 x3 r1 r5 w).bind (fun r8 => some r8))))
set_option maxHeartbeats 4000000 in
set_option maxRecDepth 100000 in
theorem c_X5_reads (l : Launch) (D : va_G) (cy : Nat → ClassId) (a0 : Nat) (x1 : Int32) (x2 : Int32) (x3 : Int32) (w : FW) (r : Int32) (hF : F_X5_reads a0 x1 x2 x3 w = some r) : fSpec l D cy yX5_reads cX5_reads 4 (some .int) { frames := 6, cells := 0, slots := 0, locals := 142 } [.ref a0, .int x1, .int x2, .int x3] w w (some (.int r)) := by
  refine f_begin (by decide +kernel) (Nat.le_of_ble_eq_true rfl) (fun X hC hEn => ?_)
  unfold F_X5_reads at hF
  show fAt X 0 0 4 w [(0, .ref a0), (1, .int x1), (2, .int x2), (3, .int x3)] [] 0
  refine f_aload_n hC dX5_reads_0 rfl 0 rfl ?_
  refine f_iload_n hC dX5_reads_1 rfl 1 rfl ?_
  refine f_iload_n hC dX5_reads_2 rfl 2 rfl ?_
  refine f_iload_n hC dX5_reads_3 rfl 3 rfl ?_
  refine f_aload_n hC dX5_reads_4 rfl 0 rfl ?_
  refine f_iload_n hC dX5_reads_5 rfl 1 rfl ?_
  refine f_iload_n hC dX5_reads_6 rfl 2 rfl ?_
  refine f_iconst (v := 1) hC dX5_reads_7 (by decide) ?_
  obtain ⟨g3, hF⟩ := fg_open hF
  obtain ⟨r1, h2, hF⟩ := fb_open hF
  refine f_callV hC [.int x1, .int x2, .int 1] (c_X5_half l D cy a0 x1 x2 1 w r1 h2) q_1483 q_137 q_1480 q_1482 q_96 h9_X5_half rfl (fSm.k (fSm.rf w) g3) ⟨Nat.le_of_ble_eq_true rfl, Nat.le_of_ble_eq_true rfl⟩ ⟨Nat.le_of_ble_eq_true rfl, Nat.le_of_ble_eq_true rfl⟩ (Nat.le_of_ble_eq_true rfl) rfl dX5_reads_8 (fun e4 => ?_)
  refine f_aload_n hC dX5_reads_11 rfl 0 rfl ?_
  refine f_iload_n hC dX5_reads_12 rfl 1 rfl ?_
  refine f_iload_n hC dX5_reads_13 rfl 2 rfl ?_
  refine f_iconst (v := 0) hC dX5_reads_14 (by decide) ?_
  obtain ⟨r5, h6, hF⟩ := fb_open hF
  refine f_callV hC [.int x1, .int x2, .int 0] (c_X5_half l D cy a0 x1 x2 0 w r5 h6) q_1483 q_137 q_1480 q_1482 q_96 h9_X5_half rfl (fSm.k (fSm.rf w) g3) ⟨Nat.le_of_ble_eq_true rfl, Nat.le_of_ble_eq_true rfl⟩ ⟨Nat.le_of_ble_eq_true rfl, Nat.le_of_ble_eq_true rfl⟩ (Nat.le_of_ble_eq_true rfl) rfl dX5_reads_15 (fun e7 => ?_)
  obtain ⟨r8, h9, hF⟩ := fb_open hF
  refine f_callV hC [.int x1, .int x2, .int x3, .int r1, .int r5] (c_X5_readWith l D cy a0 x1 x2 x3 r1 r5 w r8 h9) q_1554 q_137 q_1551 q_1553 q_108 h9_X5_readWith rfl (fSm.k (fSm.rf w) g3) ⟨Nat.le_of_ble_eq_true rfl, Nat.le_of_ble_eq_true rfl⟩ ⟨Nat.le_of_ble_eq_true rfl, Nat.le_of_ble_eq_true rfl⟩ (Nat.le_of_ble_eq_true rfl) rfl dX5_reads_18 (fun e10 => ?_)
  obtain rfl := Option.some.inj hF
  exact f_iret hC hEn (fSm.rf w) dX5_reads_21
theorem dX5_rightOf_0 : decode cX5_rightOf 0 = .ok (.iconst 0, 1) := by decide +kernel
theorem dX5_rightOf_1 : decode cX5_rightOf 1 = .ok (.istore 5, 2) := by decide +kernel
theorem dX5_rightOf_3 : decode cX5_rightOf 3 = .ok (.iconst 0, 1) := by decide +kernel
theorem dX5_rightOf_4 : decode cX5_rightOf 4 = .ok (.istore 6, 2) := by decide +kernel
theorem dX5_rightOf_6 : decode cX5_rightOf 6 = .ok (.iload 6, 2) := by decide +kernel
theorem dX5_rightOf_8 : decode cX5_rightOf 8 = .ok (.aload_n 0, 1) := by decide +kernel
theorem dX5_rightOf_9 : decode cX5_rightOf 9 = .ok (.iload_n 1, 1) := by decide +kernel
theorem dX5_rightOf_10 : decode cX5_rightOf 10 = .ok (.iconst 0, 1) := by decide +kernel
theorem dX5_rightOf_11 : decode cX5_rightOf 11 = .ok (.invokevirtual 70, 3) := by decide +kernel
theorem dX5_rightOf_14 : decode cX5_rightOf 14 = .ok (.if_icmp .ge 40, 3) := by decide +kernel
theorem dX5_rightOf_17 : decode cX5_rightOf 17 = .ok (.iload 5, 2) := by decide +kernel
theorem dX5_rightOf_19 : decode cX5_rightOf 19 = .ok (.aload_n 0, 1) := by decide +kernel
theorem dX5_rightOf_20 : decode cX5_rightOf 20 = .ok (.iload_n 1, 1) := by decide +kernel
theorem dX5_rightOf_21 : decode cX5_rightOf 21 = .ok (.iload_n 2, 1) := by decide +kernel
theorem dX5_rightOf_22 : decode cX5_rightOf 22 = .ok (.iload 6, 2) := by decide +kernel
theorem dX5_rightOf_24 : decode cX5_rightOf 24 = .ok (.iload_n 3, 1) := by decide +kernel
theorem dX5_rightOf_25 : decode cX5_rightOf 25 = .ok (.iload 4, 2) := by decide +kernel
theorem dX5_rightOf_27 : decode cX5_rightOf 27 = .ok (.invokevirtual 109, 3) := by decide +kernel
theorem dX5_rightOf_30 : decode cX5_rightOf 30 = .ok (.aload_n 0, 1) := by decide +kernel
theorem dX5_rightOf_31 : decode cX5_rightOf 31 = .ok (.iload_n 1, 1) := by decide +kernel
theorem dX5_rightOf_32 : decode cX5_rightOf 32 = .ok (.iload 6, 2) := by decide +kernel
theorem dX5_rightOf_34 : decode cX5_rightOf 34 = .ok (.invokevirtual 89, 3) := by decide +kernel
theorem dX5_rightOf_37 : decode cX5_rightOf 37 = .ok (.if_icmp .ne 7, 3) := by decide +kernel
theorem dX5_rightOf_40 : decode cX5_rightOf 40 = .ok (.iconst 1, 1) := by decide +kernel
theorem dX5_rightOf_41 : decode cX5_rightOf 41 = .ok (.goto 4, 3) := by decide +kernel
theorem dX5_rightOf_44 : decode cX5_rightOf 44 = .ok (.iconst 0, 1) := by decide +kernel
theorem dX5_rightOf_45 : decode cX5_rightOf 45 = .ok (.iadd, 1) := by decide +kernel
theorem dX5_rightOf_46 : decode cX5_rightOf 46 = .ok (.istore 5, 2) := by decide +kernel
theorem dX5_rightOf_48 : decode cX5_rightOf 48 = .ok (.iinc 6 1, 3) := by decide +kernel
theorem dX5_rightOf_51 : decode cX5_rightOf 51 = .ok (.goto (-45), 3) := by decide +kernel
theorem dX5_rightOf_54 : decode cX5_rightOf 54 = .ok (.iload 5, 2) := by decide +kernel
theorem dX5_rightOf_56 : decode cX5_rightOf 56 = .ok (.ireturn, 1) := by decide +kernel
theorem h9_X5_rightOf : yX5_rightOf.cls ≠ "java/lang/invoke/MethodHandle" ∧ yX5_rightOf.cls ≠ "java/lang/invoke/VarHandle" ∧ (parseMethodDescriptor yX5_rightOf.desc).map (fun d => d.parameters.length) = some 4 := by decide +kernel
noncomputable def F_X5_rightOf (a0 : Nat) (x1 : Int32) (x2 : Int32) (x3 : Int32) (x4 : Int32) (w : FW) : Option (Int32) :=
  (fLoop (σ := Int32 × Int32) (ρ := Int32) (fun s1 => fg (w.1 a0 = 6) inferInstance ((F_X5_of a0 x1 0 w).bind (fun r10 => (if r10 ≤ s1.2 then some (.inr s1.1) else (F_X5_readWith a0 x1 x2 s1.2 x3 x4 w).bind (fun r15 => (F_X5_letterOf a0 x1 s1.2 w).bind (fun r18 => (if r15 = r18 then some (.inl ((s1.1 + 1), (s1.2 + 1))) else some (.inl ((s1.1 + 0), (s1.2 + 1)))))))))) (0, 0)).bind (fun x7 => some x7)
set_option maxHeartbeats 4000000 in
set_option maxRecDepth 100000 in
theorem c_X5_rightOf (l : Launch) (D : va_G) (cy : Nat → ClassId) (a0 : Nat) (x1 : Int32) (x2 : Int32) (x3 : Int32) (x4 : Int32) (w : FW) (r : Int32) (hF : F_X5_rightOf a0 x1 x2 x3 x4 w = some r) : fSpec l D cy yX5_rightOf cX5_rightOf 7 (some .int) { frames := 6, cells := 0, slots := 0, locals := 142 } [.ref a0, .int x1, .int x2, .int x3, .int x4] w w (some (.int r)) := by
  refine f_begin (by decide +kernel) (Nat.le_of_ble_eq_true rfl) (fun X hC hEn => ?_)
  unfold F_X5_rightOf at hF
  show fAt X 0 0 7 w [(0, .ref a0), (1, .int x1), (2, .int x2), (3, .int x3), (4, .int x4)] [] 0
  refine f_iconst (v := 0) hC dX5_rightOf_0 (by decide) ?_
  refine f_istore (L' := [(5, .int 0), (0, .ref a0), (1, .int x1), (2, .int x2), (3, .int x3), (4, .int x4)]) hC dX5_rightOf_1 (by decide) rfl ?_
  refine f_iconst (v := 0) hC dX5_rightOf_3 (by decide) ?_
  refine f_istore (L' := [(6, .int 0), (5, .int 0), (0, .ref a0), (1, .int x1), (2, .int x2), (3, .int x3), (4, .int x4)]) hC dX5_rightOf_4 (by decide) rfl ?_
  obtain ⟨x7, h8, hF⟩ := fb_open hF
  have K9 : fAt X 0 0 7 w [(5, .int x7)] [] 54 := by
    refine f_iload hC dX5_rightOf_54 0 rfl ?_
    obtain rfl := Option.some.inj hF
    exact f_iret hC hEn (fSm.rf w) dX5_rightOf_56
  refine f_sub (L' := [(0, .ref a0), (1, .int x1), (2, .int x2), (3, .int x3), (4, .int x4), (5, .int 0), (6, .int 0)]) [2, 3, 4, 5, 6, 1, 0] rfl ?_
  refine fLoop_ind (fun (s1 : Int32 × Int32) => fAt X 0 0 7 w [(0, .ref a0), (1, .int x1), (2, .int x2), (3, .int x3), (4, .int x4), (5, .int s1.1), (6, .int s1.2)] [] 6) (fun s1 y6 h2 go3 ou4 => ?_) h8
  refine f_iload hC dX5_rightOf_6 6 rfl ?_
  refine f_aload_n hC dX5_rightOf_8 rfl 0 rfl ?_
  refine f_iload_n hC dX5_rightOf_9 rfl 1 rfl ?_
  refine f_iconst (v := 0) hC dX5_rightOf_10 (by decide) ?_
  obtain ⟨g12, h2⟩ := fg_open h2
  obtain ⟨r10, h11, h2⟩ := fb_open h2
  refine f_callV hC [.int x1, .int 0] (c_X5_of l D cy a0 x1 0 w r10 h11) q_1452 q_137 q_1449 q_1451 q_91 h9_X5_of rfl (fSm.k (fSm.rf w) g12) ⟨Nat.le_of_ble_eq_true rfl, Nat.le_of_ble_eq_true rfl⟩ ⟨Nat.le_of_ble_eq_true rfl, Nat.le_of_ble_eq_true rfl⟩ (Nat.le_of_ble_eq_true rfl) rfl dX5_rightOf_11 (fun e13 => ?_)
  refine f_icmp_ge hC 54 dX5_rightOf_14 (by decide) (fun c14 => ?_) (fun c14 => ?_)
  · replace h2 := fi_pos h2 c14
    obtain rfl := Option.some.inj h2
    obtain rfl := ou4 _ rfl
    refine f_sub (L' := [(5, .int s1.1)]) [5] rfl ?_
    exact K9
  · replace h2 := fi_neg h2 c14
    refine f_iload hC dX5_rightOf_17 5 rfl ?_
    refine f_aload_n hC dX5_rightOf_19 rfl 0 rfl ?_
    refine f_iload_n hC dX5_rightOf_20 rfl 1 rfl ?_
    refine f_iload_n hC dX5_rightOf_21 rfl 2 rfl ?_
    refine f_iload hC dX5_rightOf_22 6 rfl ?_
    refine f_iload_n hC dX5_rightOf_24 rfl 3 rfl ?_
    refine f_iload hC dX5_rightOf_25 4 rfl ?_
    obtain ⟨r15, h16, h2⟩ := fb_open h2
    refine f_callV hC [.int x1, .int x2, .int s1.2, .int x3, .int x4] (c_X5_readWith l D cy a0 x1 x2 s1.2 x3 x4 w r15 h16) q_1554 q_137 q_1551 q_1553 q_108 h9_X5_readWith rfl (fSm.k (fSm.rf w) g12) ⟨Nat.le_of_ble_eq_true rfl, Nat.le_of_ble_eq_true rfl⟩ ⟨Nat.le_of_ble_eq_true rfl, Nat.le_of_ble_eq_true rfl⟩ (Nat.le_of_ble_eq_true rfl) rfl dX5_rightOf_27 (fun e17 => ?_)
    refine f_aload_n hC dX5_rightOf_30 rfl 0 rfl ?_
    refine f_iload_n hC dX5_rightOf_31 rfl 1 rfl ?_
    refine f_iload hC dX5_rightOf_32 6 rfl ?_
    obtain ⟨r18, h19, h2⟩ := fb_open h2
    refine f_callV hC [.int x1, .int s1.2] (c_X5_letterOf l D cy a0 x1 s1.2 w r18 h19) q_1460 q_137 q_1457 q_1459 q_93 h9_X5_letterOf rfl (fSm.k (fSm.rf w) g12) ⟨Nat.le_of_ble_eq_true rfl, Nat.le_of_ble_eq_true rfl⟩ ⟨Nat.le_of_ble_eq_true rfl, Nat.le_of_ble_eq_true rfl⟩ (Nat.le_of_ble_eq_true rfl) rfl dX5_rightOf_34 (fun e20 => ?_)
    refine f_icmp_ne hC 44 dX5_rightOf_37 (by decide) (fun c21 => ?_) (fun c21 => ?_)
    · replace h2 := fi_neg h2 c21
      refine f_iconst (v := 0) hC dX5_rightOf_44 (by decide) ?_
      refine f_iadd hC dX5_rightOf_45 ?_
      refine f_istore (L' := [(5, .int (s1.1 + 0)), (0, .ref a0), (1, .int x1), (2, .int x2), (3, .int x3), (4, .int x4), (6, .int s1.2)]) hC dX5_rightOf_46 (by decide) rfl ?_
      refine f_iinc (L' := [(6, .int (s1.2 + 1)), (5, .int (s1.1 + 0)), (0, .ref a0), (1, .int x1), (2, .int x2), (3, .int x3), (4, .int x4)]) hC dX5_rightOf_48 6 rfl rfl (by decide) rfl ?_
      refine f_goto hC 6 dX5_rightOf_51 (by decide) ?_
      obtain rfl := Option.some.inj h2
      refine f_sub (L' := [(0, .ref a0), (1, .int x1), (2, .int x2), (3, .int x3), (4, .int x4), (5, .int (s1.1 + 0)), (6, .int (s1.2 + 1))]) [2, 3, 4, 5, 6, 1, 0] rfl ?_
      exact go3 _ rfl
    · replace h2 := fi_pos h2 c21
      refine f_iconst (v := 1) hC dX5_rightOf_40 (by decide) ?_
      refine f_goto hC 45 dX5_rightOf_41 (by decide) ?_
      refine f_iadd hC dX5_rightOf_45 ?_
      refine f_istore (L' := [(5, .int (s1.1 + 1)), (0, .ref a0), (1, .int x1), (2, .int x2), (3, .int x3), (4, .int x4), (6, .int s1.2)]) hC dX5_rightOf_46 (by decide) rfl ?_
      refine f_iinc (L' := [(6, .int (s1.2 + 1)), (5, .int (s1.1 + 1)), (0, .ref a0), (1, .int x1), (2, .int x2), (3, .int x3), (4, .int x4)]) hC dX5_rightOf_48 6 rfl rfl (by decide) rfl ?_
      refine f_goto hC 6 dX5_rightOf_51 (by decide) ?_
      obtain rfl := Option.some.inj h2
      refine f_sub (L' := [(0, .ref a0), (1, .int x1), (2, .int x2), (3, .int x3), (4, .int x4), (5, .int (s1.1 + 1)), (6, .int (s1.2 + 1))]) [2, 3, 4, 5, 6, 1, 0] rfl ?_
      exact go3 _ rfl
theorem dX5_isRead_0 : decode cX5_isRead 0 = .ok (.aload_n 0, 1) := by decide +kernel
theorem dX5_isRead_1 : decode cX5_isRead 1 = .ok (.iload_n 1, 1) := by decide +kernel
theorem dX5_isRead_2 : decode cX5_isRead 2 = .ok (.iload_n 2, 1) := by decide +kernel
theorem dX5_isRead_3 : decode cX5_isRead 3 = .ok (.invokevirtual 92, 3) := by decide +kernel
theorem dX5_isRead_6 : decode cX5_isRead 6 = .ok (.ifCond .eq 36, 3) := by decide +kernel
theorem dX5_isRead_9 : decode cX5_isRead 9 = .ok (.aload_n 0, 1) := by decide +kernel
theorem dX5_isRead_10 : decode cX5_isRead 10 = .ok (.iload_n 1, 1) := by decide +kernel
theorem dX5_isRead_11 : decode cX5_isRead 11 = .ok (.iload_n 2, 1) := by decide +kernel
theorem dX5_isRead_12 : decode cX5_isRead 12 = .ok (.aload_n 0, 1) := by decide +kernel
theorem dX5_isRead_13 : decode cX5_isRead 13 = .ok (.iload_n 1, 1) := by decide +kernel
theorem dX5_isRead_14 : decode cX5_isRead 14 = .ok (.iload_n 2, 1) := by decide +kernel
theorem dX5_isRead_15 : decode cX5_isRead 15 = .ok (.iconst 1, 1) := by decide +kernel
theorem dX5_isRead_16 : decode cX5_isRead 16 = .ok (.invokevirtual 78, 3) := by decide +kernel
theorem dX5_isRead_19 : decode cX5_isRead 19 = .ok (.aload_n 0, 1) := by decide +kernel
theorem dX5_isRead_20 : decode cX5_isRead 20 = .ok (.iload_n 1, 1) := by decide +kernel
theorem dX5_isRead_21 : decode cX5_isRead 21 = .ok (.iload_n 2, 1) := by decide +kernel
theorem dX5_isRead_22 : decode cX5_isRead 22 = .ok (.iconst 0, 1) := by decide +kernel
theorem dX5_isRead_23 : decode cX5_isRead 23 = .ok (.invokevirtual 78, 3) := by decide +kernel
theorem dX5_isRead_26 : decode cX5_isRead 26 = .ok (.invokevirtual 113, 3) := by decide +kernel
theorem dX5_isRead_29 : decode cX5_isRead 29 = .ok (.aload_n 0, 1) := by decide +kernel
theorem dX5_isRead_30 : decode cX5_isRead 30 = .ok (.iload_n 1, 1) := by decide +kernel
theorem dX5_isRead_31 : decode cX5_isRead 31 = .ok (.iconst 0, 1) := by decide +kernel
theorem dX5_isRead_32 : decode cX5_isRead 32 = .ok (.invokevirtual 70, 3) := by decide +kernel
theorem dX5_isRead_35 : decode cX5_isRead 35 = .ok (.if_icmp .ne 7, 3) := by decide +kernel
theorem dX5_isRead_38 : decode cX5_isRead 38 = .ok (.iconst 1, 1) := by decide +kernel
theorem dX5_isRead_39 : decode cX5_isRead 39 = .ok (.goto 4, 3) := by decide +kernel
theorem dX5_isRead_42 : decode cX5_isRead 42 = .ok (.iconst 0, 1) := by decide +kernel
theorem dX5_isRead_43 : decode cX5_isRead 43 = .ok (.ireturn, 1) := by decide +kernel
theorem h9_X5_isRead : yX5_isRead.cls ≠ "java/lang/invoke/MethodHandle" ∧ yX5_isRead.cls ≠ "java/lang/invoke/VarHandle" ∧ (parseMethodDescriptor yX5_isRead.desc).map (fun d => d.parameters.length) = some 2 := by decide +kernel
noncomputable def F_X5_isRead (a0 : Nat) (x1 : Int32) (x2 : Int32) (w : FW) : Option (Int32) :=
  fg (w.1 a0 = 6) inferInstance ((F_X5_isPunched a0 x1 x2 w).bind (fun r1 => (if r1 = 0 then some 0 else (F_X5_half a0 x1 x2 1 w).bind (fun r6 => (F_X5_half a0 x1 x2 0 w).bind (fun r9 => (F_X5_rightOf a0 x1 x2 r6 r9 w).bind (fun r12 => (F_X5_of a0 x1 0 w).bind (fun r15 => (if r12 = r15 then some 1 else some 0))))))))
set_option maxHeartbeats 4000000 in
set_option maxRecDepth 100000 in
theorem c_X5_isRead (l : Launch) (D : va_G) (cy : Nat → ClassId) (a0 : Nat) (x1 : Int32) (x2 : Int32) (w : FW) (r : Int32) (hF : F_X5_isRead a0 x1 x2 w = some r) : fSpec l D cy yX5_isRead cX5_isRead 3 (some .boolean) { frames := 7, cells := 0, slots := 0, locals := 168 } [.ref a0, .int x1, .int x2] w w (some (.int r)) := by
  refine f_begin (by decide +kernel) (Nat.le_of_ble_eq_true rfl) (fun X hC hEn => ?_)
  unfold F_X5_isRead at hF
  show fAt X 0 0 3 w [(0, .ref a0), (1, .int x1), (2, .int x2)] [] 0
  refine f_aload_n hC dX5_isRead_0 rfl 0 rfl ?_
  refine f_iload_n hC dX5_isRead_1 rfl 1 rfl ?_
  refine f_iload_n hC dX5_isRead_2 rfl 2 rfl ?_
  obtain ⟨g3, hF⟩ := fg_open hF
  obtain ⟨r1, h2, hF⟩ := fb_open hF
  refine f_callV hC [.int x1, .int x2] (c_X5_isPunched l D cy a0 x1 x2 w r1 h2) q_1479 q_137 q_1476 q_1478 q_95 h9_X5_isPunched rfl (fSm.k (fSm.rf w) g3) ⟨Nat.le_of_ble_eq_true rfl, Nat.le_of_ble_eq_true rfl⟩ ⟨Nat.le_of_ble_eq_true rfl, Nat.le_of_ble_eq_true rfl⟩ (Nat.le_of_ble_eq_true rfl) rfl dX5_isRead_3 (fun e4 => ?_)
  refine f_if_eq hC 42 dX5_isRead_6 (by decide) (fun c5 => ?_) (fun c5 => ?_)
  · replace hF := fi_pos hF c5
    refine f_iconst (v := 0) hC dX5_isRead_42 (by decide) ?_
    obtain rfl := Option.some.inj hF
    exact f_zret hC hEn (fSm.rf w) (nar_z (by decide)) dX5_isRead_43
  · replace hF := fi_neg hF c5
    refine f_aload_n hC dX5_isRead_9 rfl 0 rfl ?_
    refine f_iload_n hC dX5_isRead_10 rfl 1 rfl ?_
    refine f_iload_n hC dX5_isRead_11 rfl 2 rfl ?_
    refine f_aload_n hC dX5_isRead_12 rfl 0 rfl ?_
    refine f_iload_n hC dX5_isRead_13 rfl 1 rfl ?_
    refine f_iload_n hC dX5_isRead_14 rfl 2 rfl ?_
    refine f_iconst (v := 1) hC dX5_isRead_15 (by decide) ?_
    obtain ⟨r6, h7, hF⟩ := fb_open hF
    refine f_callV hC [.int x1, .int x2, .int 1] (c_X5_half l D cy a0 x1 x2 1 w r6 h7) q_1483 q_137 q_1480 q_1482 q_96 h9_X5_half rfl (fSm.k (fSm.rf w) g3) ⟨Nat.le_of_ble_eq_true rfl, Nat.le_of_ble_eq_true rfl⟩ ⟨Nat.le_of_ble_eq_true rfl, Nat.le_of_ble_eq_true rfl⟩ (Nat.le_of_ble_eq_true rfl) rfl dX5_isRead_16 (fun e8 => ?_)
    refine f_aload_n hC dX5_isRead_19 rfl 0 rfl ?_
    refine f_iload_n hC dX5_isRead_20 rfl 1 rfl ?_
    refine f_iload_n hC dX5_isRead_21 rfl 2 rfl ?_
    refine f_iconst (v := 0) hC dX5_isRead_22 (by decide) ?_
    obtain ⟨r9, h10, hF⟩ := fb_open hF
    refine f_callV hC [.int x1, .int x2, .int 0] (c_X5_half l D cy a0 x1 x2 0 w r9 h10) q_1483 q_137 q_1480 q_1482 q_96 h9_X5_half rfl (fSm.k (fSm.rf w) g3) ⟨Nat.le_of_ble_eq_true rfl, Nat.le_of_ble_eq_true rfl⟩ ⟨Nat.le_of_ble_eq_true rfl, Nat.le_of_ble_eq_true rfl⟩ (Nat.le_of_ble_eq_true rfl) rfl dX5_isRead_23 (fun e11 => ?_)
    obtain ⟨r12, h13, hF⟩ := fb_open hF
    refine f_callV hC [.int x1, .int x2, .int r6, .int r9] (c_X5_rightOf l D cy a0 x1 x2 r6 r9 w r12 h13) q_1550 q_137 q_1547 q_1549 q_107 h9_X5_rightOf rfl (fSm.k (fSm.rf w) g3) ⟨Nat.le_of_ble_eq_true rfl, Nat.le_of_ble_eq_true rfl⟩ ⟨Nat.le_of_ble_eq_true rfl, Nat.le_of_ble_eq_true rfl⟩ (Nat.le_of_ble_eq_true rfl) rfl dX5_isRead_26 (fun e14 => ?_)
    refine f_aload_n hC dX5_isRead_29 rfl 0 rfl ?_
    refine f_iload_n hC dX5_isRead_30 rfl 1 rfl ?_
    refine f_iconst (v := 0) hC dX5_isRead_31 (by decide) ?_
    obtain ⟨r15, h16, hF⟩ := fb_open hF
    refine f_callV hC [.int x1, .int 0] (c_X5_of l D cy a0 x1 0 w r15 h16) q_1452 q_137 q_1449 q_1451 q_91 h9_X5_of rfl (fSm.k (fSm.rf w) g3) ⟨Nat.le_of_ble_eq_true rfl, Nat.le_of_ble_eq_true rfl⟩ ⟨Nat.le_of_ble_eq_true rfl, Nat.le_of_ble_eq_true rfl⟩ (Nat.le_of_ble_eq_true rfl) rfl dX5_isRead_32 (fun e17 => ?_)
    refine f_icmp_ne hC 42 dX5_isRead_35 (by decide) (fun c18 => ?_) (fun c18 => ?_)
    · replace hF := fi_neg hF c18
      refine f_iconst (v := 0) hC dX5_isRead_42 (by decide) ?_
      obtain rfl := Option.some.inj hF
      exact f_zret hC hEn (fSm.rf w) (nar_z (by decide)) dX5_isRead_43
    · replace hF := fi_pos hF c18
      refine f_iconst (v := 1) hC dX5_isRead_38 (by decide) ?_
      refine f_goto hC 43 dX5_isRead_39 (by decide) ?_
      obtain rfl := Option.some.inj hF
      exact f_zret hC hEn (fSm.rf w) (nar_z (by decide)) dX5_isRead_43
theorem dX5_firstUnlike_0 : decode cX5_firstUnlike 0 = .ok (.iconst 0, 1) := by decide +kernel
theorem dX5_firstUnlike_1 : decode cX5_firstUnlike 1 = .ok (.istore_n 3, 1) := by decide +kernel
theorem dX5_firstUnlike_2 : decode cX5_firstUnlike 2 = .ok (.iload_n 3, 1) := by decide +kernel
theorem dX5_firstUnlike_3 : decode cX5_firstUnlike 3 = .ok (.aload_n 0, 1) := by decide +kernel
theorem dX5_firstUnlike_4 : decode cX5_firstUnlike 4 = .ok (.iload_n 1, 1) := by decide +kernel
theorem dX5_firstUnlike_5 : decode cX5_firstUnlike 5 = .ok (.iconst 0, 1) := by decide +kernel
theorem dX5_firstUnlike_6 : decode cX5_firstUnlike 6 = .ok (.invokevirtual 70, 3) := by decide +kernel
theorem dX5_firstUnlike_9 : decode cX5_firstUnlike 9 = .ok (.if_icmp .ge 27, 3) := by decide +kernel
theorem dX5_firstUnlike_12 : decode cX5_firstUnlike 12 = .ok (.aload_n 0, 1) := by decide +kernel
theorem dX5_firstUnlike_13 : decode cX5_firstUnlike 13 = .ok (.iload_n 1, 1) := by decide +kernel
theorem dX5_firstUnlike_14 : decode cX5_firstUnlike 14 = .ok (.iload_n 2, 1) := by decide +kernel
theorem dX5_firstUnlike_15 : decode cX5_firstUnlike 15 = .ok (.iload_n 3, 1) := by decide +kernel
theorem dX5_firstUnlike_16 : decode cX5_firstUnlike 16 = .ok (.invokevirtual 116, 3) := by decide +kernel
theorem dX5_firstUnlike_19 : decode cX5_firstUnlike 19 = .ok (.aload_n 0, 1) := by decide +kernel
theorem dX5_firstUnlike_20 : decode cX5_firstUnlike 20 = .ok (.iload_n 1, 1) := by decide +kernel
theorem dX5_firstUnlike_21 : decode cX5_firstUnlike 21 = .ok (.iload_n 3, 1) := by decide +kernel
theorem dX5_firstUnlike_22 : decode cX5_firstUnlike 22 = .ok (.invokevirtual 89, 3) := by decide +kernel
theorem dX5_firstUnlike_25 : decode cX5_firstUnlike 25 = .ok (.if_icmp .eq 5, 3) := by decide +kernel
theorem dX5_firstUnlike_28 : decode cX5_firstUnlike 28 = .ok (.iload_n 3, 1) := by decide +kernel
theorem dX5_firstUnlike_29 : decode cX5_firstUnlike 29 = .ok (.ireturn, 1) := by decide +kernel
theorem dX5_firstUnlike_30 : decode cX5_firstUnlike 30 = .ok (.iinc 3 1, 3) := by decide +kernel
theorem dX5_firstUnlike_33 : decode cX5_firstUnlike 33 = .ok (.goto (-31), 3) := by decide +kernel
theorem dX5_firstUnlike_36 : decode cX5_firstUnlike 36 = .ok (.iconst (-1), 1) := by decide +kernel
theorem dX5_firstUnlike_37 : decode cX5_firstUnlike 37 = .ok (.ireturn, 1) := by decide +kernel
theorem h9_X5_firstUnlike : yX5_firstUnlike.cls ≠ "java/lang/invoke/MethodHandle" ∧ yX5_firstUnlike.cls ≠ "java/lang/invoke/VarHandle" ∧ (parseMethodDescriptor yX5_firstUnlike.desc).map (fun d => d.parameters.length) = some 2 := by decide +kernel
noncomputable def F_X5_firstUnlike (a0 : Nat) (x1 : Int32) (x2 : Int32) (w : FW) : Option (Int32) :=
  (fLoop (σ := Int32) (ρ := (Unit) ⊕ (Int32)) (fun s1 => fg (w.1 a0 = 6) inferInstance ((F_X5_of a0 x1 0 w).bind (fun r10 => (if r10 ≤ s1 then some (.inr (.inl ())) else (F_X5_reads a0 x1 x2 s1 w).bind (fun r15 => (F_X5_letterOf a0 x1 s1 w).bind (fun r18 => (if r15 = r18 then some (.inl (s1 + 1)) else some (.inr (.inr s1))))))))) 0).bind (fun x7 => fse x7 (fun z22 => some (-1)) (fun q9 => some q9))
set_option maxHeartbeats 4000000 in
set_option maxRecDepth 100000 in
theorem c_X5_firstUnlike (l : Launch) (D : va_G) (cy : Nat → ClassId) (a0 : Nat) (x1 : Int32) (x2 : Int32) (w : FW) (r : Int32) (hF : F_X5_firstUnlike a0 x1 x2 w = some r) : fSpec l D cy yX5_firstUnlike cX5_firstUnlike 4 (some .int) { frames := 7, cells := 0, slots := 0, locals := 165 } [.ref a0, .int x1, .int x2] w w (some (.int r)) := by
  refine f_begin (by decide +kernel) (Nat.le_of_ble_eq_true rfl) (fun X hC hEn => ?_)
  unfold F_X5_firstUnlike at hF
  show fAt X 0 0 4 w [(0, .ref a0), (1, .int x1), (2, .int x2)] [] 0
  refine f_iconst (v := 0) hC dX5_firstUnlike_0 (by decide) ?_
  refine f_istore_n (L' := [(3, .int 0), (0, .ref a0), (1, .int x1), (2, .int x2)]) hC dX5_firstUnlike_1 rfl (by decide) rfl ?_
  obtain ⟨x7, h8, hF⟩ := fb_open hF
  have K9 : ∀ z22, x7 = .inl z22 → fAt X 0 0 4 w [] [] 36 := by
    intro z22 hz9
    subst hz9
    refine f_iconst (v := (-1)) hC dX5_firstUnlike_36 (by decide) ?_
    obtain rfl := Option.some.inj hF
    exact f_iret hC hEn (fSm.rf w) dX5_firstUnlike_37
  refine f_sub (L' := [(0, .ref a0), (1, .int x1), (2, .int x2), (3, .int 0)]) [1, 2, 3, 0] rfl ?_
  refine fLoop_ind (fun (s1 : Int32) => fAt X 0 0 4 w [(0, .ref a0), (1, .int x1), (2, .int x2), (3, .int s1)] [] 2) (fun s1 y6 h2 go3 ou4 => ?_) h8
  refine f_iload_n hC dX5_firstUnlike_2 rfl 3 rfl ?_
  refine f_aload_n hC dX5_firstUnlike_3 rfl 0 rfl ?_
  refine f_iload_n hC dX5_firstUnlike_4 rfl 1 rfl ?_
  refine f_iconst (v := 0) hC dX5_firstUnlike_5 (by decide) ?_
  obtain ⟨g12, h2⟩ := fg_open h2
  obtain ⟨r10, h11, h2⟩ := fb_open h2
  refine f_callV hC [.int x1, .int 0] (c_X5_of l D cy a0 x1 0 w r10 h11) q_1452 q_137 q_1449 q_1451 q_91 h9_X5_of rfl (fSm.k (fSm.rf w) g12) ⟨Nat.le_of_ble_eq_true rfl, Nat.le_of_ble_eq_true rfl⟩ ⟨Nat.le_of_ble_eq_true rfl, Nat.le_of_ble_eq_true rfl⟩ (Nat.le_of_ble_eq_true rfl) rfl dX5_firstUnlike_6 (fun e13 => ?_)
  refine f_icmp_ge hC 36 dX5_firstUnlike_9 (by decide) (fun c14 => ?_) (fun c14 => ?_)
  · replace h2 := fi_pos h2 c14
    obtain rfl := Option.some.inj h2
    have eo := ou4 _ rfl
    refine f_sub (L' := []) [] rfl ?_
    exact K9 _ eo.symm
  · replace h2 := fi_neg h2 c14
    refine f_aload_n hC dX5_firstUnlike_12 rfl 0 rfl ?_
    refine f_iload_n hC dX5_firstUnlike_13 rfl 1 rfl ?_
    refine f_iload_n hC dX5_firstUnlike_14 rfl 2 rfl ?_
    refine f_iload_n hC dX5_firstUnlike_15 rfl 3 rfl ?_
    obtain ⟨r15, h16, h2⟩ := fb_open h2
    refine f_callV hC [.int x1, .int x2, .int s1] (c_X5_reads l D cy a0 x1 x2 s1 w r15 h16) q_1565 q_137 q_1562 q_1564 q_109 h9_X5_reads rfl (fSm.k (fSm.rf w) g12) ⟨Nat.le_of_ble_eq_true rfl, Nat.le_of_ble_eq_true rfl⟩ ⟨Nat.le_of_ble_eq_true rfl, Nat.le_of_ble_eq_true rfl⟩ (Nat.le_of_ble_eq_true rfl) rfl dX5_firstUnlike_16 (fun e17 => ?_)
    refine f_aload_n hC dX5_firstUnlike_19 rfl 0 rfl ?_
    refine f_iload_n hC dX5_firstUnlike_20 rfl 1 rfl ?_
    refine f_iload_n hC dX5_firstUnlike_21 rfl 3 rfl ?_
    obtain ⟨r18, h19, h2⟩ := fb_open h2
    refine f_callV hC [.int x1, .int s1] (c_X5_letterOf l D cy a0 x1 s1 w r18 h19) q_1460 q_137 q_1457 q_1459 q_93 h9_X5_letterOf rfl (fSm.k (fSm.rf w) g12) ⟨Nat.le_of_ble_eq_true rfl, Nat.le_of_ble_eq_true rfl⟩ ⟨Nat.le_of_ble_eq_true rfl, Nat.le_of_ble_eq_true rfl⟩ (Nat.le_of_ble_eq_true rfl) rfl dX5_firstUnlike_22 (fun e20 => ?_)
    refine f_icmp_eq hC 30 dX5_firstUnlike_25 (by decide) (fun c21 => ?_) (fun c21 => ?_)
    · replace h2 := fi_pos h2 c21
      refine f_iinc (L' := [(3, .int (s1 + 1)), (0, .ref a0), (1, .int x1), (2, .int x2)]) hC dX5_firstUnlike_30 3 rfl rfl (by decide) rfl ?_
      refine f_goto hC 2 dX5_firstUnlike_33 (by decide) ?_
      obtain rfl := Option.some.inj h2
      refine f_sub (L' := [(0, .ref a0), (1, .int x1), (2, .int x2), (3, .int (s1 + 1))]) [1, 2, 3, 0] rfl ?_
      exact go3 _ rfl
    · replace h2 := fi_neg h2 c21
      refine f_iload_n hC dX5_firstUnlike_28 rfl 3 rfl ?_
      obtain rfl := Option.some.inj h2
      obtain rfl := ou4 _ rfl
      obtain rfl := Option.some.inj hF
      exact f_iret hC hEn (fSm.rf w) dX5_firstUnlike_29
theorem dX5_holesOf_0 : decode cX5_holesOf 0 = .ok (.iconst 0, 1) := by decide +kernel
theorem dX5_holesOf_1 : decode cX5_holesOf 1 = .ok (.istore_n 3, 1) := by decide +kernel
theorem dX5_holesOf_2 : decode cX5_holesOf 2 = .ok (.iconst 0, 1) := by decide +kernel
theorem dX5_holesOf_3 : decode cX5_holesOf 3 = .ok (.istore 4, 2) := by decide +kernel
theorem dX5_holesOf_5 : decode cX5_holesOf 5 = .ok (.iload 4, 2) := by decide +kernel
theorem dX5_holesOf_7 : decode cX5_holesOf 7 = .ok (.aload_n 0, 1) := by decide +kernel
theorem dX5_holesOf_8 : decode cX5_holesOf 8 = .ok (.iload_n 1, 1) := by decide +kernel
theorem dX5_holesOf_9 : decode cX5_holesOf 9 = .ok (.iconst 0, 1) := by decide +kernel
theorem dX5_holesOf_10 : decode cX5_holesOf 10 = .ok (.invokevirtual 70, 3) := by decide +kernel
theorem dX5_holesOf_13 : decode cX5_holesOf 13 = .ok (.if_icmp .ge 20, 3) := by decide +kernel
theorem dX5_holesOf_16 : decode cX5_holesOf 16 = .ok (.iload_n 3, 1) := by decide +kernel
theorem dX5_holesOf_17 : decode cX5_holesOf 17 = .ok (.aload_n 0, 1) := by decide +kernel
theorem dX5_holesOf_18 : decode cX5_holesOf 18 = .ok (.iload_n 1, 1) := by decide +kernel
theorem dX5_holesOf_19 : decode cX5_holesOf 19 = .ok (.iload_n 2, 1) := by decide +kernel
theorem dX5_holesOf_20 : decode cX5_holesOf 20 = .ok (.iload 4, 2) := by decide +kernel
theorem dX5_holesOf_22 : decode cX5_holesOf 22 = .ok (.invokevirtual 99, 3) := by decide +kernel
theorem dX5_holesOf_25 : decode cX5_holesOf 25 = .ok (.iadd, 1) := by decide +kernel
theorem dX5_holesOf_26 : decode cX5_holesOf 26 = .ok (.istore_n 3, 1) := by decide +kernel
theorem dX5_holesOf_27 : decode cX5_holesOf 27 = .ok (.iinc 4 1, 3) := by decide +kernel
theorem dX5_holesOf_30 : decode cX5_holesOf 30 = .ok (.goto (-25), 3) := by decide +kernel
theorem dX5_holesOf_33 : decode cX5_holesOf 33 = .ok (.iload_n 3, 1) := by decide +kernel
theorem dX5_holesOf_34 : decode cX5_holesOf 34 = .ok (.ireturn, 1) := by decide +kernel
theorem h9_X5_holesOf : yX5_holesOf.cls ≠ "java/lang/invoke/MethodHandle" ∧ yX5_holesOf.cls ≠ "java/lang/invoke/VarHandle" ∧ (parseMethodDescriptor yX5_holesOf.desc).map (fun d => d.parameters.length) = some 2 := by decide +kernel
noncomputable def F_X5_holesOf (a0 : Nat) (x1 : Int32) (x2 : Int32) (w : FW) : Option (Int32) :=
  (fLoop (σ := Int32 × Int32) (ρ := Int32) (fun s1 => fg (w.1 a0 = 6) inferInstance ((F_X5_of a0 x1 0 w).bind (fun r10 => (if r10 ≤ s1.2 then some (.inr s1.1) else (F_X5_holesAt a0 x1 x2 s1.2 w).bind (fun r15 => some (.inl ((s1.1 + r15), (s1.2 + 1)))))))) (0, 0)).bind (fun x7 => some x7)
set_option maxHeartbeats 4000000 in
set_option maxRecDepth 100000 in
theorem c_X5_holesOf (l : Launch) (D : va_G) (cy : Nat → ClassId) (a0 : Nat) (x1 : Int32) (x2 : Int32) (w : FW) (r : Int32) (hF : F_X5_holesOf a0 x1 x2 w = some r) : fSpec l D cy yX5_holesOf cX5_holesOf 5 (some .int) { frames := 4, cells := 0, slots := 0, locals := 91 } [.ref a0, .int x1, .int x2] w w (some (.int r)) := by
  refine f_begin (by decide +kernel) (Nat.le_of_ble_eq_true rfl) (fun X hC hEn => ?_)
  unfold F_X5_holesOf at hF
  show fAt X 0 0 5 w [(0, .ref a0), (1, .int x1), (2, .int x2)] [] 0
  refine f_iconst (v := 0) hC dX5_holesOf_0 (by decide) ?_
  refine f_istore_n (L' := [(3, .int 0), (0, .ref a0), (1, .int x1), (2, .int x2)]) hC dX5_holesOf_1 rfl (by decide) rfl ?_
  refine f_iconst (v := 0) hC dX5_holesOf_2 (by decide) ?_
  refine f_istore (L' := [(4, .int 0), (3, .int 0), (0, .ref a0), (1, .int x1), (2, .int x2)]) hC dX5_holesOf_3 (by decide) rfl ?_
  obtain ⟨x7, h8, hF⟩ := fb_open hF
  have K9 : fAt X 0 0 5 w [(3, .int x7)] [] 33 := by
    refine f_iload_n hC dX5_holesOf_33 rfl 0 rfl ?_
    obtain rfl := Option.some.inj hF
    exact f_iret hC hEn (fSm.rf w) dX5_holesOf_34
  refine f_sub (L' := [(0, .ref a0), (1, .int x1), (2, .int x2), (3, .int 0), (4, .int 0)]) [2, 3, 4, 1, 0] rfl ?_
  refine fLoop_ind (fun (s1 : Int32 × Int32) => fAt X 0 0 5 w [(0, .ref a0), (1, .int x1), (2, .int x2), (3, .int s1.1), (4, .int s1.2)] [] 5) (fun s1 y6 h2 go3 ou4 => ?_) h8
  refine f_iload hC dX5_holesOf_5 4 rfl ?_
  refine f_aload_n hC dX5_holesOf_7 rfl 0 rfl ?_
  refine f_iload_n hC dX5_holesOf_8 rfl 1 rfl ?_
  refine f_iconst (v := 0) hC dX5_holesOf_9 (by decide) ?_
  obtain ⟨g12, h2⟩ := fg_open h2
  obtain ⟨r10, h11, h2⟩ := fb_open h2
  refine f_callV hC [.int x1, .int 0] (c_X5_of l D cy a0 x1 0 w r10 h11) q_1452 q_137 q_1449 q_1451 q_91 h9_X5_of rfl (fSm.k (fSm.rf w) g12) ⟨Nat.le_of_ble_eq_true rfl, Nat.le_of_ble_eq_true rfl⟩ ⟨Nat.le_of_ble_eq_true rfl, Nat.le_of_ble_eq_true rfl⟩ (Nat.le_of_ble_eq_true rfl) rfl dX5_holesOf_10 (fun e13 => ?_)
  refine f_icmp_ge hC 33 dX5_holesOf_13 (by decide) (fun c14 => ?_) (fun c14 => ?_)
  · replace h2 := fi_pos h2 c14
    obtain rfl := Option.some.inj h2
    obtain rfl := ou4 _ rfl
    refine f_sub (L' := [(3, .int s1.1)]) [3] rfl ?_
    exact K9
  · replace h2 := fi_neg h2 c14
    refine f_iload_n hC dX5_holesOf_16 rfl 3 rfl ?_
    refine f_aload_n hC dX5_holesOf_17 rfl 0 rfl ?_
    refine f_iload_n hC dX5_holesOf_18 rfl 1 rfl ?_
    refine f_iload_n hC dX5_holesOf_19 rfl 2 rfl ?_
    refine f_iload hC dX5_holesOf_20 4 rfl ?_
    obtain ⟨r15, h16, h2⟩ := fb_open h2
    refine f_callV hC [.int x1, .int x2, .int s1.2] (c_X5_holesAt l D cy a0 x1 x2 s1.2 w r15 h16) q_1491 q_137 q_1488 q_1490 q_98 h9_X5_holesAt rfl (fSm.k (fSm.rf w) g12) ⟨Nat.le_of_ble_eq_true rfl, Nat.le_of_ble_eq_true rfl⟩ ⟨Nat.le_of_ble_eq_true rfl, Nat.le_of_ble_eq_true rfl⟩ (Nat.le_of_ble_eq_true rfl) rfl dX5_holesOf_22 (fun e17 => ?_)
    refine f_iadd hC dX5_holesOf_25 ?_
    refine f_istore_n (L' := [(3, .int (s1.1 + r15)), (0, .ref a0), (1, .int x1), (2, .int x2), (4, .int s1.2)]) hC dX5_holesOf_26 rfl (by decide) rfl ?_
    refine f_iinc (L' := [(4, .int (s1.2 + 1)), (3, .int (s1.1 + r15)), (0, .ref a0), (1, .int x1), (2, .int x2)]) hC dX5_holesOf_27 4 rfl rfl (by decide) rfl ?_
    refine f_goto hC 5 dX5_holesOf_30 (by decide) ?_
    obtain rfl := Option.some.inj h2
    refine f_sub (L' := [(0, .ref a0), (1, .int x1), (2, .int x2), (3, .int (s1.1 + r15)), (4, .int (s1.2 + 1))]) [2, 3, 4, 1, 0] rfl ?_
    exact go3 _ rfl
theorem dX5_leftOf_0 : decode cX5_leftOf 0 = .ok (.iconst 0, 1) := by decide +kernel
theorem dX5_leftOf_1 : decode cX5_leftOf 1 = .ok (.istore_n 3, 1) := by decide +kernel
theorem dX5_leftOf_2 : decode cX5_leftOf 2 = .ok (.iconst 0, 1) := by decide +kernel
theorem dX5_leftOf_3 : decode cX5_leftOf 3 = .ok (.istore 4, 2) := by decide +kernel
theorem dX5_leftOf_5 : decode cX5_leftOf 5 = .ok (.iload 4, 2) := by decide +kernel
theorem dX5_leftOf_7 : decode cX5_leftOf 7 = .ok (.aload_n 0, 1) := by decide +kernel
theorem dX5_leftOf_8 : decode cX5_leftOf 8 = .ok (.iload_n 1, 1) := by decide +kernel
theorem dX5_leftOf_9 : decode cX5_leftOf 9 = .ok (.iconst 0, 1) := by decide +kernel
theorem dX5_leftOf_10 : decode cX5_leftOf 10 = .ok (.invokevirtual 70, 3) := by decide +kernel
theorem dX5_leftOf_13 : decode cX5_leftOf 13 = .ok (.if_icmp .ge 27, 3) := by decide +kernel
theorem dX5_leftOf_16 : decode cX5_leftOf 16 = .ok (.iload_n 3, 1) := by decide +kernel
theorem dX5_leftOf_17 : decode cX5_leftOf 17 = .ok (.aload_n 0, 1) := by decide +kernel
theorem dX5_leftOf_18 : decode cX5_leftOf 18 = .ok (.iload_n 1, 1) := by decide +kernel
theorem dX5_leftOf_19 : decode cX5_leftOf 19 = .ok (.iload_n 2, 1) := by decide +kernel
theorem dX5_leftOf_20 : decode cX5_leftOf 20 = .ok (.iload 4, 2) := by decide +kernel
theorem dX5_leftOf_22 : decode cX5_leftOf 22 = .ok (.aload_n 0, 1) := by decide +kernel
theorem dX5_leftOf_23 : decode cX5_leftOf 23 = .ok (.iload_n 1, 1) := by decide +kernel
theorem dX5_leftOf_24 : decode cX5_leftOf 24 = .ok (.iload_n 2, 1) := by decide +kernel
theorem dX5_leftOf_25 : decode cX5_leftOf 25 = .ok (.iconst 1, 1) := by decide +kernel
theorem dX5_leftOf_26 : decode cX5_leftOf 26 = .ok (.invokevirtual 78, 3) := by decide +kernel
theorem dX5_leftOf_29 : decode cX5_leftOf 29 = .ok (.invokevirtual 102, 3) := by decide +kernel
theorem dX5_leftOf_32 : decode cX5_leftOf 32 = .ok (.iadd, 1) := by decide +kernel
theorem dX5_leftOf_33 : decode cX5_leftOf 33 = .ok (.istore_n 3, 1) := by decide +kernel
theorem dX5_leftOf_34 : decode cX5_leftOf 34 = .ok (.iinc 4 1, 3) := by decide +kernel
theorem dX5_leftOf_37 : decode cX5_leftOf 37 = .ok (.goto (-32), 3) := by decide +kernel
theorem dX5_leftOf_40 : decode cX5_leftOf 40 = .ok (.iload_n 3, 1) := by decide +kernel
theorem dX5_leftOf_41 : decode cX5_leftOf 41 = .ok (.ireturn, 1) := by decide +kernel
theorem h9_X5_leftOf : yX5_leftOf.cls ≠ "java/lang/invoke/MethodHandle" ∧ yX5_leftOf.cls ≠ "java/lang/invoke/VarHandle" ∧ (parseMethodDescriptor yX5_leftOf.desc).map (fun d => d.parameters.length) = some 2 := by decide +kernel
noncomputable def F_X5_leftOf (a0 : Nat) (x1 : Int32) (x2 : Int32) (w : FW) : Option (Int32) :=
  (fLoop (σ := Int32 × Int32) (ρ := Int32) (fun s1 => fg (w.1 a0 = 6) inferInstance ((F_X5_of a0 x1 0 w).bind (fun r10 => (if r10 ≤ s1.2 then some (.inr s1.1) else (F_X5_half a0 x1 x2 1 w).bind (fun r15 => (F_X5_leftAt a0 x1 x2 s1.2 r15 w).bind (fun r18 => some (.inl ((s1.1 + r18), (s1.2 + 1))))))))) (0, 0)).bind (fun x7 => some x7)
set_option maxHeartbeats 4000000 in
set_option maxRecDepth 100000 in
theorem c_X5_leftOf (l : Launch) (D : va_G) (cy : Nat → ClassId) (a0 : Nat) (x1 : Int32) (x2 : Int32) (w : FW) (r : Int32) (hF : F_X5_leftOf a0 x1 x2 w = some r) : fSpec l D cy yX5_leftOf cX5_leftOf 5 (some .int) { frames := 5, cells := 0, slots := 0, locals := 116 } [.ref a0, .int x1, .int x2] w w (some (.int r)) := by
  refine f_begin (by decide +kernel) (Nat.le_of_ble_eq_true rfl) (fun X hC hEn => ?_)
  unfold F_X5_leftOf at hF
  show fAt X 0 0 5 w [(0, .ref a0), (1, .int x1), (2, .int x2)] [] 0
  refine f_iconst (v := 0) hC dX5_leftOf_0 (by decide) ?_
  refine f_istore_n (L' := [(3, .int 0), (0, .ref a0), (1, .int x1), (2, .int x2)]) hC dX5_leftOf_1 rfl (by decide) rfl ?_
  refine f_iconst (v := 0) hC dX5_leftOf_2 (by decide) ?_
  refine f_istore (L' := [(4, .int 0), (3, .int 0), (0, .ref a0), (1, .int x1), (2, .int x2)]) hC dX5_leftOf_3 (by decide) rfl ?_
  obtain ⟨x7, h8, hF⟩ := fb_open hF
  have K9 : fAt X 0 0 5 w [(3, .int x7)] [] 40 := by
    refine f_iload_n hC dX5_leftOf_40 rfl 0 rfl ?_
    obtain rfl := Option.some.inj hF
    exact f_iret hC hEn (fSm.rf w) dX5_leftOf_41
  refine f_sub (L' := [(0, .ref a0), (1, .int x1), (2, .int x2), (3, .int 0), (4, .int 0)]) [2, 3, 4, 1, 0] rfl ?_
  refine fLoop_ind (fun (s1 : Int32 × Int32) => fAt X 0 0 5 w [(0, .ref a0), (1, .int x1), (2, .int x2), (3, .int s1.1), (4, .int s1.2)] [] 5) (fun s1 y6 h2 go3 ou4 => ?_) h8
  refine f_iload hC dX5_leftOf_5 4 rfl ?_
  refine f_aload_n hC dX5_leftOf_7 rfl 0 rfl ?_
  refine f_iload_n hC dX5_leftOf_8 rfl 1 rfl ?_
  refine f_iconst (v := 0) hC dX5_leftOf_9 (by decide) ?_
  obtain ⟨g12, h2⟩ := fg_open h2
  obtain ⟨r10, h11, h2⟩ := fb_open h2
  refine f_callV hC [.int x1, .int 0] (c_X5_of l D cy a0 x1 0 w r10 h11) q_1452 q_137 q_1449 q_1451 q_91 h9_X5_of rfl (fSm.k (fSm.rf w) g12) ⟨Nat.le_of_ble_eq_true rfl, Nat.le_of_ble_eq_true rfl⟩ ⟨Nat.le_of_ble_eq_true rfl, Nat.le_of_ble_eq_true rfl⟩ (Nat.le_of_ble_eq_true rfl) rfl dX5_leftOf_10 (fun e13 => ?_)
  refine f_icmp_ge hC 40 dX5_leftOf_13 (by decide) (fun c14 => ?_) (fun c14 => ?_)
  · replace h2 := fi_pos h2 c14
    obtain rfl := Option.some.inj h2
    obtain rfl := ou4 _ rfl
    refine f_sub (L' := [(3, .int s1.1)]) [3] rfl ?_
    exact K9
  · replace h2 := fi_neg h2 c14
    refine f_iload_n hC dX5_leftOf_16 rfl 3 rfl ?_
    refine f_aload_n hC dX5_leftOf_17 rfl 0 rfl ?_
    refine f_iload_n hC dX5_leftOf_18 rfl 1 rfl ?_
    refine f_iload_n hC dX5_leftOf_19 rfl 2 rfl ?_
    refine f_iload hC dX5_leftOf_20 4 rfl ?_
    refine f_aload_n hC dX5_leftOf_22 rfl 0 rfl ?_
    refine f_iload_n hC dX5_leftOf_23 rfl 1 rfl ?_
    refine f_iload_n hC dX5_leftOf_24 rfl 2 rfl ?_
    refine f_iconst (v := 1) hC dX5_leftOf_25 (by decide) ?_
    obtain ⟨r15, h16, h2⟩ := fb_open h2
    refine f_callV hC [.int x1, .int x2, .int 1] (c_X5_half l D cy a0 x1 x2 1 w r15 h16) q_1483 q_137 q_1480 q_1482 q_96 h9_X5_half rfl (fSm.k (fSm.rf w) g12) ⟨Nat.le_of_ble_eq_true rfl, Nat.le_of_ble_eq_true rfl⟩ ⟨Nat.le_of_ble_eq_true rfl, Nat.le_of_ble_eq_true rfl⟩ (Nat.le_of_ble_eq_true rfl) rfl dX5_leftOf_26 (fun e17 => ?_)
    obtain ⟨r18, h19, h2⟩ := fb_open h2
    refine f_callV hC [.int x1, .int x2, .int s1.2, .int r15] (c_X5_leftAt l D cy a0 x1 x2 s1.2 r15 w r18 h19) q_1546 q_137 q_1543 q_1545 q_106 h9_X5_leftAt rfl (fSm.k (fSm.rf w) g12) ⟨Nat.le_of_ble_eq_true rfl, Nat.le_of_ble_eq_true rfl⟩ ⟨Nat.le_of_ble_eq_true rfl, Nat.le_of_ble_eq_true rfl⟩ (Nat.le_of_ble_eq_true rfl) rfl dX5_leftOf_29 (fun e20 => ?_)
    refine f_iadd hC dX5_leftOf_32 ?_
    refine f_istore_n (L' := [(3, .int (s1.1 + r18)), (0, .ref a0), (1, .int x1), (2, .int x2), (4, .int s1.2)]) hC dX5_leftOf_33 rfl (by decide) rfl ?_
    refine f_iinc (L' := [(4, .int (s1.2 + 1)), (3, .int (s1.1 + r18)), (0, .ref a0), (1, .int x1), (2, .int x2)]) hC dX5_leftOf_34 4 rfl rfl (by decide) rfl ?_
    refine f_goto hC 5 dX5_leftOf_37 (by decide) ?_
    obtain rfl := Option.some.inj h2
    refine f_sub (L' := [(0, .ref a0), (1, .int x1), (2, .int x2), (3, .int (s1.1 + r18)), (4, .int (s1.2 + 1))]) [2, 3, 4, 1, 0] rfl ?_
    exact go3 _ rfl
theorem dX5_addsLetter_0 : decode cX5_addsLetter 0 = .ok (.iload_n 1, 1) := by decide +kernel
theorem dX5_addsLetter_1 : decode cX5_addsLetter 1 = .ok (.invokestatic 119, 3) := by decide +kernel
theorem dX5_addsLetter_4 : decode cX5_addsLetter 4 = .ok (.ifCond .ne 5, 3) := by decide +kernel
theorem dX5_addsLetter_7 : decode cX5_addsLetter 7 = .ok (.iconst (-1), 1) := by decide +kernel
theorem dX5_addsLetter_8 : decode cX5_addsLetter 8 = .ok (.ireturn, 1) := by decide +kernel
theorem dX5_addsLetter_9 : decode cX5_addsLetter 9 = .ok (.aload_n 0, 1) := by decide +kernel
theorem dX5_addsLetter_10 : decode cX5_addsLetter 10 = .ok (.getfield 7, 3) := by decide +kernel
theorem dX5_addsLetter_13 : decode cX5_addsLetter 13 = .ok (.bipush 10, 2) := by decide +kernel
theorem dX5_addsLetter_15 : decode cX5_addsLetter 15 = .ok (.iaload, 1) := by decide +kernel
theorem dX5_addsLetter_16 : decode cX5_addsLetter 16 = .ok (.istore_n 2, 1) := by decide +kernel
theorem dX5_addsLetter_17 : decode cX5_addsLetter 17 = .ok (.iload_n 2, 1) := by decide +kernel
theorem dX5_addsLetter_18 : decode cX5_addsLetter 18 = .ok (.bipush 6, 2) := by decide +kernel
theorem dX5_addsLetter_20 : decode cX5_addsLetter 20 = .ok (.if_icmp .ne 11, 3) := by decide +kernel
theorem dX5_addsLetter_23 : decode cX5_addsLetter 23 = .ok (.aload_n 0, 1) := by decide +kernel
theorem dX5_addsLetter_24 : decode cX5_addsLetter 24 = .ok (.iconst 1, 1) := by decide +kernel
theorem dX5_addsLetter_25 : decode cX5_addsLetter 25 = .ok (.bipush 6, 2) := by decide +kernel
theorem dX5_addsLetter_27 : decode cX5_addsLetter 27 = .ok (.invokevirtual 122, 3) := by decide +kernel
theorem dX5_addsLetter_30 : decode cX5_addsLetter 30 = .ok (.ireturn, 1) := by decide +kernel
theorem dX5_addsLetter_31 : decode cX5_addsLetter 31 = .ok (.aload_n 0, 1) := by decide +kernel
theorem dX5_addsLetter_32 : decode cX5_addsLetter 32 = .ok (.getfield 7, 3) := by decide +kernel
theorem dX5_addsLetter_35 : decode cX5_addsLetter 35 = .ok (.bipush 11, 2) := by decide +kernel
theorem dX5_addsLetter_37 : decode cX5_addsLetter 37 = .ok (.iload_n 2, 1) := by decide +kernel
theorem dX5_addsLetter_38 : decode cX5_addsLetter 38 = .ok (.iadd, 1) := by decide +kernel
theorem dX5_addsLetter_39 : decode cX5_addsLetter 39 = .ok (.iload_n 1, 1) := by decide +kernel
theorem dX5_addsLetter_40 : decode cX5_addsLetter 40 = .ok (.iastore, 1) := by decide +kernel
theorem dX5_addsLetter_41 : decode cX5_addsLetter 41 = .ok (.aload_n 0, 1) := by decide +kernel
theorem dX5_addsLetter_42 : decode cX5_addsLetter 42 = .ok (.getfield 7, 3) := by decide +kernel
theorem dX5_addsLetter_45 : decode cX5_addsLetter 45 = .ok (.bipush 10, 2) := by decide +kernel
theorem dX5_addsLetter_47 : decode cX5_addsLetter 47 = .ok (.iload_n 2, 1) := by decide +kernel
theorem dX5_addsLetter_48 : decode cX5_addsLetter 48 = .ok (.iconst 1, 1) := by decide +kernel
theorem dX5_addsLetter_49 : decode cX5_addsLetter 49 = .ok (.iadd, 1) := by decide +kernel
theorem dX5_addsLetter_50 : decode cX5_addsLetter 50 = .ok (.iastore, 1) := by decide +kernel
theorem dX5_addsLetter_51 : decode cX5_addsLetter 51 = .ok (.aload_n 0, 1) := by decide +kernel
theorem dX5_addsLetter_52 : decode cX5_addsLetter 52 = .ok (.iload_n 2, 1) := by decide +kernel
theorem dX5_addsLetter_53 : decode cX5_addsLetter 53 = .ok (.iconst 1, 1) := by decide +kernel
theorem dX5_addsLetter_54 : decode cX5_addsLetter 54 = .ok (.iadd, 1) := by decide +kernel
theorem dX5_addsLetter_55 : decode cX5_addsLetter 55 = .ok (.invokevirtual 125, 3) := by decide +kernel
theorem dX5_addsLetter_58 : decode cX5_addsLetter 58 = .ok (.ireturn, 1) := by decide +kernel
theorem h9_X5_addsLetter : yX5_addsLetter.cls ≠ "java/lang/invoke/MethodHandle" ∧ yX5_addsLetter.cls ≠ "java/lang/invoke/VarHandle" ∧ (parseMethodDescriptor yX5_addsLetter.desc).map (fun d => d.parameters.length) = some 1 := by decide +kernel
noncomputable def F_X5_addsLetter (a0 : Nat) (x1 : Int32) (w : FW) : Option (Int32 × FW) :=
  (F_X5_isLetter x1 w).bind (fun r1 => (if r1 = 0 then some ((-1), w) else fg (w.1 a0 = 6) inferInstance (fg (w.1 (gR w 501 a0 0) = 11) inferInstance (fg (¬ ((10 : Int32) < 0 ∨ w.2.1 (gR w 501 a0 0) ≤ Int32.toNatClampNeg 10)) inferInstance ((if (gI w 601 (gR w 501 a0 0) (Int32.toNatClampNeg 10)) = 6 then (F_X5_refused a0 1 6 w).bind (fun r13 => some (r13.1, r13.2)) else fg (¬ ((11 + (gI w 601 (gR w 501 a0 0) (Int32.toNatClampNeg 10))) < 0 ∨ w.2.1 (gR w 501 a0 0) ≤ Int32.toNatClampNeg (11 + (gI w 601 (gR w 501 a0 0) (Int32.toNatClampNeg 10))))) inferInstance ((F_X5_done a0 ((gI w 601 (gR w 501 a0 0) (Int32.toNatClampNeg 10)) + 1) (sI (sI w 601 (gR w 501 a0 0) (Int32.toNatClampNeg (11 + (gI w 601 (gR w 501 a0 0) (Int32.toNatClampNeg 10)))) x1) 601 (gR (sI w 601 (gR w 501 a0 0) (Int32.toNatClampNeg (11 + (gI w 601 (gR w 501 a0 0) (Int32.toNatClampNeg 10)))) x1) 501 a0 0) (Int32.toNatClampNeg 10) ((gI w 601 (gR w 501 a0 0) (Int32.toNatClampNeg 10)) + 1))).bind (fun r10 => some (r10.1, r10.2)))))))))
set_option maxHeartbeats 4000000 in
set_option maxRecDepth 100000 in
theorem c_X5_addsLetter (l : Launch) (D : va_G) (cy : Nat → ClassId) (a0 : Nat) (x1 : Int32) (w : FW) (r : Int32 × FW) (hF : F_X5_addsLetter a0 x1 w = some r) : fSpec l D cy yX5_addsLetter cX5_addsLetter 3 (some .int) { frames := 3, cells := 0, slots := 0, locals := 62 } [.ref a0, .int x1] w r.2 (some (.int r.1)) := by
  refine f_begin (by decide +kernel) (Nat.le_of_ble_eq_true rfl) (fun X hC hEn => ?_)
  unfold F_X5_addsLetter at hF
  show fAt X 0 0 3 w [(0, .ref a0), (1, .int x1)] [] 0
  refine f_iload_n hC dX5_addsLetter_0 rfl 1 rfl ?_
  obtain ⟨r1, h2, hF⟩ := fb_open hF
  refine f_callS hC [.int x1] (c_X5_isLetter l D cy x1 w r1 h2) q_1351 q_137 q_1349 q_1350 h9_X5_isLetter ⟨Nat.le_of_ble_eq_true rfl, Nat.le_of_ble_eq_true rfl⟩ ⟨Nat.le_of_ble_eq_true rfl, Nat.le_of_ble_eq_true rfl⟩ (Nat.le_of_ble_eq_true rfl) rfl dX5_addsLetter_1 (fun e3 => ?_)
  refine f_if_ne hC 9 dX5_addsLetter_4 (by decide) (fun c4 => ?_) (fun c4 => ?_)
  · replace hF := fi_neg hF c4
    refine f_aload_n hC dX5_addsLetter_9 rfl 0 rfl ?_
    obtain ⟨g5, hF⟩ := fg_open hF
    refine f_getR hC 5 1 501 rfl (by decide) iX5 q_1260 rfl rfl (fSm.k (fSm.rf w) g5) dX5_addsLetter_10 ?_
    refine f_bipush (v := 10) hC dX5_addsLetter_13 (by decide) ?_
    obtain ⟨g6, hF⟩ := fg_open hF
    obtain ⟨g7, hF⟩ := fg_open hF
    refine f_iald hC (fSm.k (fSm.rf w) g6) (fSm.v (fSm.rf w) g7) dX5_addsLetter_15 ?_
    refine f_istore_n (L' := [(2, .int (gI w 601 (gR w 501 a0 0) (Int32.toNatClampNeg 10))), (0, .ref a0), (1, .int x1)]) hC dX5_addsLetter_16 rfl (by decide) rfl ?_
    refine f_iload_n hC dX5_addsLetter_17 rfl 0 rfl ?_
    refine f_bipush (v := 6) hC dX5_addsLetter_18 (by decide) ?_
    refine f_icmp_ne hC 31 dX5_addsLetter_20 (by decide) (fun c8 => ?_) (fun c8 => ?_)
    · replace hF := fi_neg hF c8
      refine f_aload_n hC dX5_addsLetter_31 rfl 1 rfl ?_
      refine f_getR hC 5 1 501 rfl (by decide) iX5 q_1260 rfl rfl (fSm.k (fSm.rf w) g5) dX5_addsLetter_32 ?_
      refine f_bipush (v := 11) hC dX5_addsLetter_35 (by decide) ?_
      refine f_iload_n hC dX5_addsLetter_37 rfl 0 rfl ?_
      refine f_iadd hC dX5_addsLetter_38 ?_
      refine f_iload_n hC dX5_addsLetter_39 rfl 2 rfl ?_
      obtain ⟨g9, hF⟩ := fg_open hF
      refine f_iast hC (fSm.k (fSm.rf w) g6) (fSm.v (fSm.rf w) g9) dX5_addsLetter_40 ?_
      refine f_aload_n hC dX5_addsLetter_41 rfl 1 rfl ?_
      refine f_getR hC 5 1 501 rfl (by decide) iX5 q_1260 rfl rfl (fSm.k (fSm.rf w) g5) dX5_addsLetter_42 ?_
      refine f_bipush (v := 10) hC dX5_addsLetter_45 (by decide) ?_
      refine f_iload_n hC dX5_addsLetter_47 rfl 0 rfl ?_
      refine f_iconst (v := 1) hC dX5_addsLetter_48 (by decide) ?_
      refine f_iadd hC dX5_addsLetter_49 ?_
      refine f_iast hC (fSm.k (fSm.rf w) g6) (fSm.v (fSm.rf w) g7) dX5_addsLetter_50 ?_
      refine f_aload_n hC dX5_addsLetter_51 rfl 1 rfl ?_
      refine f_iload_n hC dX5_addsLetter_52 rfl 0 rfl ?_
      refine f_iconst (v := 1) hC dX5_addsLetter_53 (by decide) ?_
      refine f_iadd hC dX5_addsLetter_54 ?_
      obtain ⟨r10, h11, hF⟩ := fb_open hF
      refine f_callV hC [.int ((gI w 601 (gR w 501 a0 0) (Int32.toNatClampNeg 10)) + 1)] (c_X5_done l D cy a0 ((gI w 601 (gR w 501 a0 0) (Int32.toNatClampNeg 10)) + 1) (sI (sI w 601 (gR w 501 a0 0) (Int32.toNatClampNeg (11 + (gI w 601 (gR w 501 a0 0) (Int32.toNatClampNeg 10)))) x1) 601 (gR (sI w 601 (gR w 501 a0 0) (Int32.toNatClampNeg (11 + (gI w 601 (gR w 501 a0 0) (Int32.toNatClampNeg 10)))) x1) 501 a0 0) (Int32.toNatClampNeg 10) ((gI w 601 (gR w 501 a0 0) (Int32.toNatClampNeg 10)) + 1)) r10 h11) q_1368 q_137 q_1365 q_1367 q_76 h9_X5_done rfl (fSm.k (fSm.rf w) g5) ⟨Nat.le_of_ble_eq_true rfl, Nat.le_of_ble_eq_true rfl⟩ ⟨Nat.le_of_ble_eq_true rfl, Nat.le_of_ble_eq_true rfl⟩ (Nat.le_of_ble_eq_true rfl) rfl dX5_addsLetter_55 (fun e12 => ?_)
      obtain rfl := Option.some.inj hF
      exact f_iret hC hEn (fSm.tr e12 (fSm.rf w)) dX5_addsLetter_58
    · replace hF := fi_pos hF c8
      refine f_aload_n hC dX5_addsLetter_23 rfl 1 rfl ?_
      refine f_iconst (v := 1) hC dX5_addsLetter_24 (by decide) ?_
      refine f_bipush (v := 6) hC dX5_addsLetter_25 (by decide) ?_
      obtain ⟨r13, h14, hF⟩ := fb_open hF
      refine f_callV hC [.int 1, .int 6] (c_X5_refused l D cy a0 1 6 w r13 h14) q_1364 q_137 q_1361 q_1363 q_75 h9_X5_refused rfl (fSm.k (fSm.rf w) g5) ⟨Nat.le_of_ble_eq_true rfl, Nat.le_of_ble_eq_true rfl⟩ ⟨Nat.le_of_ble_eq_true rfl, Nat.le_of_ble_eq_true rfl⟩ (Nat.le_of_ble_eq_true rfl) rfl dX5_addsLetter_27 (fun e15 => ?_)
      obtain rfl := Option.some.inj hF
      exact f_iret hC hEn (fSm.tr e15 (fSm.rf w)) dX5_addsLetter_30
  · replace hF := fi_pos hF c4
    refine f_iconst (v := (-1)) hC dX5_addsLetter_7 (by decide) ?_
    obtain rfl := Option.some.inj hF
    exact f_iret hC hEn (fSm.rf w) dX5_addsLetter_8
theorem dX5_takesLetter_0 : decode cX5_takesLetter 0 = .ok (.aload_n 0, 1) := by decide +kernel
theorem dX5_takesLetter_1 : decode cX5_takesLetter 1 = .ok (.getfield 7, 3) := by decide +kernel
theorem dX5_takesLetter_4 : decode cX5_takesLetter 4 = .ok (.bipush 10, 2) := by decide +kernel
theorem dX5_takesLetter_6 : decode cX5_takesLetter 6 = .ok (.iaload, 1) := by decide +kernel
theorem dX5_takesLetter_7 : decode cX5_takesLetter 7 = .ok (.istore_n 1, 1) := by decide +kernel
theorem dX5_takesLetter_8 : decode cX5_takesLetter 8 = .ok (.iload_n 1, 1) := by decide +kernel
theorem dX5_takesLetter_9 : decode cX5_takesLetter 9 = .ok (.ifCond .ne 16, 3) := by decide +kernel
theorem dX5_takesLetter_12 : decode cX5_takesLetter 12 = .ok (.aload_n 0, 1) := by decide +kernel
theorem dX5_takesLetter_13 : decode cX5_takesLetter 13 = .ok (.bipush 11, 2) := by decide +kernel
theorem dX5_takesLetter_15 : decode cX5_takesLetter 15 = .ok (.aload_n 0, 1) := by decide +kernel
theorem dX5_takesLetter_16 : decode cX5_takesLetter 16 = .ok (.getfield 7, 3) := by decide +kernel
theorem dX5_takesLetter_19 : decode cX5_takesLetter 19 = .ok (.iconst 0, 1) := by decide +kernel
theorem dX5_takesLetter_20 : decode cX5_takesLetter 20 = .ok (.iaload, 1) := by decide +kernel
theorem dX5_takesLetter_21 : decode cX5_takesLetter 21 = .ok (.invokevirtual 122, 3) := by decide +kernel
theorem dX5_takesLetter_24 : decode cX5_takesLetter 24 = .ok (.ireturn, 1) := by decide +kernel
theorem dX5_takesLetter_25 : decode cX5_takesLetter 25 = .ok (.aload_n 0, 1) := by decide +kernel
theorem dX5_takesLetter_26 : decode cX5_takesLetter 26 = .ok (.getfield 7, 3) := by decide +kernel
theorem dX5_takesLetter_29 : decode cX5_takesLetter 29 = .ok (.bipush 10, 2) := by decide +kernel
theorem dX5_takesLetter_31 : decode cX5_takesLetter 31 = .ok (.iload_n 1, 1) := by decide +kernel
theorem dX5_takesLetter_32 : decode cX5_takesLetter 32 = .ok (.iadd, 1) := by decide +kernel
theorem dX5_takesLetter_33 : decode cX5_takesLetter 33 = .ok (.iconst 0, 1) := by decide +kernel
theorem dX5_takesLetter_34 : decode cX5_takesLetter 34 = .ok (.iastore, 1) := by decide +kernel
theorem dX5_takesLetter_35 : decode cX5_takesLetter 35 = .ok (.aload_n 0, 1) := by decide +kernel
theorem dX5_takesLetter_36 : decode cX5_takesLetter 36 = .ok (.getfield 7, 3) := by decide +kernel
theorem dX5_takesLetter_39 : decode cX5_takesLetter 39 = .ok (.bipush 10, 2) := by decide +kernel
theorem dX5_takesLetter_41 : decode cX5_takesLetter 41 = .ok (.iload_n 1, 1) := by decide +kernel
theorem dX5_takesLetter_42 : decode cX5_takesLetter 42 = .ok (.iconst 1, 1) := by decide +kernel
theorem dX5_takesLetter_43 : decode cX5_takesLetter 43 = .ok (.isub, 1) := by decide +kernel
theorem dX5_takesLetter_44 : decode cX5_takesLetter 44 = .ok (.iastore, 1) := by decide +kernel
theorem dX5_takesLetter_45 : decode cX5_takesLetter 45 = .ok (.aload_n 0, 1) := by decide +kernel
theorem dX5_takesLetter_46 : decode cX5_takesLetter 46 = .ok (.iload_n 1, 1) := by decide +kernel
theorem dX5_takesLetter_47 : decode cX5_takesLetter 47 = .ok (.iconst 1, 1) := by decide +kernel
theorem dX5_takesLetter_48 : decode cX5_takesLetter 48 = .ok (.isub, 1) := by decide +kernel
theorem dX5_takesLetter_49 : decode cX5_takesLetter 49 = .ok (.invokevirtual 125, 3) := by decide +kernel
theorem dX5_takesLetter_52 : decode cX5_takesLetter 52 = .ok (.ireturn, 1) := by decide +kernel
theorem h9_X5_takesLetter : yX5_takesLetter.cls ≠ "java/lang/invoke/MethodHandle" ∧ yX5_takesLetter.cls ≠ "java/lang/invoke/VarHandle" ∧ (parseMethodDescriptor yX5_takesLetter.desc).map (fun d => d.parameters.length) = some 0 := by decide +kernel
noncomputable def F_X5_takesLetter (a0 : Nat) (w : FW) : Option (Int32 × FW) :=
  fg (w.1 a0 = 6) inferInstance (fg (w.1 (gR w 501 a0 0) = 11) inferInstance (fg (¬ ((10 : Int32) < 0 ∨ w.2.1 (gR w 501 a0 0) ≤ Int32.toNatClampNeg 10)) inferInstance ((if (gI w 601 (gR w 501 a0 0) (Int32.toNatClampNeg 10)) = 0 then fg (¬ ((0 : Int32) < 0 ∨ w.2.1 (gR w 501 a0 0) ≤ Int32.toNatClampNeg 0)) inferInstance ((F_X5_refused a0 11 (gI w 601 (gR w 501 a0 0) (Int32.toNatClampNeg 0)) w).bind (fun r10 => some (r10.1, r10.2))) else fg (¬ ((10 + (gI w 601 (gR w 501 a0 0) (Int32.toNatClampNeg 10))) < 0 ∨ w.2.1 (gR w 501 a0 0) ≤ Int32.toNatClampNeg (10 + (gI w 601 (gR w 501 a0 0) (Int32.toNatClampNeg 10))))) inferInstance ((F_X5_done a0 ((gI w 601 (gR w 501 a0 0) (Int32.toNatClampNeg 10)) - 1) (sI (sI w 601 (gR w 501 a0 0) (Int32.toNatClampNeg (10 + (gI w 601 (gR w 501 a0 0) (Int32.toNatClampNeg 10)))) 0) 601 (gR (sI w 601 (gR w 501 a0 0) (Int32.toNatClampNeg (10 + (gI w 601 (gR w 501 a0 0) (Int32.toNatClampNeg 10)))) 0) 501 a0 0) (Int32.toNatClampNeg 10) ((gI w 601 (gR w 501 a0 0) (Int32.toNatClampNeg 10)) - 1))).bind (fun r6 => some (r6.1, r6.2)))))))
set_option maxHeartbeats 4000000 in
set_option maxRecDepth 100000 in
theorem c_X5_takesLetter (l : Launch) (D : va_G) (cy : Nat → ClassId) (a0 : Nat) (w : FW) (r : Int32 × FW) (hF : F_X5_takesLetter a0 w = some r) : fSpec l D cy yX5_takesLetter cX5_takesLetter 2 (some .int) { frames := 1, cells := 0, slots := 0, locals := 22 } [.ref a0] w r.2 (some (.int r.1)) := by
  refine f_begin (by decide +kernel) (Nat.le_of_ble_eq_true rfl) (fun X hC hEn => ?_)
  unfold F_X5_takesLetter at hF
  show fAt X 0 0 2 w [(0, .ref a0)] [] 0
  refine f_aload_n hC dX5_takesLetter_0 rfl 0 rfl ?_
  obtain ⟨g1, hF⟩ := fg_open hF
  refine f_getR hC 5 1 501 rfl (by decide) iX5 q_1260 rfl rfl (fSm.k (fSm.rf w) g1) dX5_takesLetter_1 ?_
  refine f_bipush (v := 10) hC dX5_takesLetter_4 (by decide) ?_
  obtain ⟨g2, hF⟩ := fg_open hF
  obtain ⟨g3, hF⟩ := fg_open hF
  refine f_iald hC (fSm.k (fSm.rf w) g2) (fSm.v (fSm.rf w) g3) dX5_takesLetter_6 ?_
  refine f_istore_n (L' := [(1, .int (gI w 601 (gR w 501 a0 0) (Int32.toNatClampNeg 10))), (0, .ref a0)]) hC dX5_takesLetter_7 rfl (by decide) rfl ?_
  refine f_iload_n hC dX5_takesLetter_8 rfl 0 rfl ?_
  refine f_if_ne hC 25 dX5_takesLetter_9 (by decide) (fun c4 => ?_) (fun c4 => ?_)
  · replace hF := fi_neg hF c4
    refine f_aload_n hC dX5_takesLetter_25 rfl 1 rfl ?_
    refine f_getR hC 5 1 501 rfl (by decide) iX5 q_1260 rfl rfl (fSm.k (fSm.rf w) g1) dX5_takesLetter_26 ?_
    refine f_bipush (v := 10) hC dX5_takesLetter_29 (by decide) ?_
    refine f_iload_n hC dX5_takesLetter_31 rfl 0 rfl ?_
    refine f_iadd hC dX5_takesLetter_32 ?_
    refine f_iconst (v := 0) hC dX5_takesLetter_33 (by decide) ?_
    obtain ⟨g5, hF⟩ := fg_open hF
    refine f_iast hC (fSm.k (fSm.rf w) g2) (fSm.v (fSm.rf w) g5) dX5_takesLetter_34 ?_
    refine f_aload_n hC dX5_takesLetter_35 rfl 1 rfl ?_
    refine f_getR hC 5 1 501 rfl (by decide) iX5 q_1260 rfl rfl (fSm.k (fSm.rf w) g1) dX5_takesLetter_36 ?_
    refine f_bipush (v := 10) hC dX5_takesLetter_39 (by decide) ?_
    refine f_iload_n hC dX5_takesLetter_41 rfl 0 rfl ?_
    refine f_iconst (v := 1) hC dX5_takesLetter_42 (by decide) ?_
    refine f_isub hC dX5_takesLetter_43 ?_
    refine f_iast hC (fSm.k (fSm.rf w) g2) (fSm.v (fSm.rf w) g3) dX5_takesLetter_44 ?_
    refine f_aload_n hC dX5_takesLetter_45 rfl 1 rfl ?_
    refine f_iload_n hC dX5_takesLetter_46 rfl 0 rfl ?_
    refine f_iconst (v := 1) hC dX5_takesLetter_47 (by decide) ?_
    refine f_isub hC dX5_takesLetter_48 ?_
    obtain ⟨r6, h7, hF⟩ := fb_open hF
    refine f_callV hC [.int ((gI w 601 (gR w 501 a0 0) (Int32.toNatClampNeg 10)) - 1)] (c_X5_done l D cy a0 ((gI w 601 (gR w 501 a0 0) (Int32.toNatClampNeg 10)) - 1) (sI (sI w 601 (gR w 501 a0 0) (Int32.toNatClampNeg (10 + (gI w 601 (gR w 501 a0 0) (Int32.toNatClampNeg 10)))) 0) 601 (gR (sI w 601 (gR w 501 a0 0) (Int32.toNatClampNeg (10 + (gI w 601 (gR w 501 a0 0) (Int32.toNatClampNeg 10)))) 0) 501 a0 0) (Int32.toNatClampNeg 10) ((gI w 601 (gR w 501 a0 0) (Int32.toNatClampNeg 10)) - 1)) r6 h7) q_1368 q_137 q_1365 q_1367 q_76 h9_X5_done rfl (fSm.k (fSm.rf w) g1) ⟨Nat.le_of_ble_eq_true rfl, Nat.le_of_ble_eq_true rfl⟩ ⟨Nat.le_of_ble_eq_true rfl, Nat.le_of_ble_eq_true rfl⟩ (Nat.le_of_ble_eq_true rfl) rfl dX5_takesLetter_49 (fun e8 => ?_)
    obtain rfl := Option.some.inj hF
    exact f_iret hC hEn (fSm.tr e8 (fSm.rf w)) dX5_takesLetter_52
  · replace hF := fi_pos hF c4
    refine f_aload_n hC dX5_takesLetter_12 rfl 1 rfl ?_
    refine f_bipush (v := 11) hC dX5_takesLetter_13 (by decide) ?_
    refine f_aload_n hC dX5_takesLetter_15 rfl 1 rfl ?_
    refine f_getR hC 5 1 501 rfl (by decide) iX5 q_1260 rfl rfl (fSm.k (fSm.rf w) g1) dX5_takesLetter_16 ?_
    refine f_iconst (v := 0) hC dX5_takesLetter_19 (by decide) ?_
    obtain ⟨g9, hF⟩ := fg_open hF
    refine f_iald hC (fSm.k (fSm.rf w) g2) (fSm.v (fSm.rf w) g9) dX5_takesLetter_20 ?_
    obtain ⟨r10, h11, hF⟩ := fb_open hF
    refine f_callV hC [.int 11, .int (gI w 601 (gR w 501 a0 0) (Int32.toNatClampNeg 0))] (c_X5_refused l D cy a0 11 (gI w 601 (gR w 501 a0 0) (Int32.toNatClampNeg 0)) w r10 h11) q_1364 q_137 q_1361 q_1363 q_75 h9_X5_refused rfl (fSm.k (fSm.rf w) g1) ⟨Nat.le_of_ble_eq_true rfl, Nat.le_of_ble_eq_true rfl⟩ ⟨Nat.le_of_ble_eq_true rfl, Nat.le_of_ble_eq_true rfl⟩ (Nat.le_of_ble_eq_true rfl) rfl dX5_takesLetter_21 (fun e12 => ?_)
    obtain rfl := Option.some.inj hF
    exact f_iret hC hEn (fSm.tr e12 (fSm.rf w)) dX5_takesLetter_24
theorem dX5_prints_0 : decode cX5_prints 0 = .ok (.iload_n 1, 1) := by decide +kernel
theorem dX5_prints_1 : decode cX5_prints 1 = .ok (.iconst 0, 1) := by decide +kernel
theorem dX5_prints_2 : decode cX5_prints 2 = .ok (.iconst 4, 1) := by decide +kernel
theorem dX5_prints_3 : decode cX5_prints 3 = .ok (.invokestatic 66, 3) := by decide +kernel
theorem dX5_prints_6 : decode cX5_prints 6 = .ok (.ifCond .eq 12, 3) := by decide +kernel
theorem dX5_prints_9 : decode cX5_prints 9 = .ok (.iload_n 2, 1) := by decide +kernel
theorem dX5_prints_10 : decode cX5_prints 10 = .ok (.iconst 0, 1) := by decide +kernel
theorem dX5_prints_11 : decode cX5_prints 11 = .ok (.iconst 4, 1) := by decide +kernel
theorem dX5_prints_12 : decode cX5_prints 12 = .ok (.invokestatic 66, 3) := by decide +kernel
theorem dX5_prints_15 : decode cX5_prints 15 = .ok (.ifCond .ne 5, 3) := by decide +kernel
theorem dX5_prints_18 : decode cX5_prints 18 = .ok (.iconst (-1), 1) := by decide +kernel
theorem dX5_prints_19 : decode cX5_prints 19 = .ok (.ireturn, 1) := by decide +kernel
theorem dX5_prints_20 : decode cX5_prints 20 = .ok (.iload_n 1, 1) := by decide +kernel
theorem dX5_prints_21 : decode cX5_prints 21 = .ok (.iload_n 2, 1) := by decide +kernel
theorem dX5_prints_22 : decode cX5_prints 22 = .ok (.if_icmp .eq 13, 3) := by decide +kernel
theorem dX5_prints_25 : decode cX5_prints 25 = .ok (.iload_n 3, 1) := by decide +kernel
theorem dX5_prints_26 : decode cX5_prints 26 = .ok (.iconst 1, 1) := by decide +kernel
theorem dX5_prints_27 : decode cX5_prints 27 = .ok (.bipush 9, 2) := by decide +kernel
theorem dX5_prints_29 : decode cX5_prints 29 = .ok (.invokestatic 66, 3) := by decide +kernel
theorem dX5_prints_32 : decode cX5_prints 32 = .ok (.ifCond .ne 6, 3) := by decide +kernel
theorem dX5_prints_35 : decode cX5_prints 35 = .ok (.bipush (-2), 2) := by decide +kernel
theorem dX5_prints_37 : decode cX5_prints 37 = .ok (.ireturn, 1) := by decide +kernel
theorem dX5_prints_38 : decode cX5_prints 38 = .ok (.aload_n 0, 1) := by decide +kernel
theorem dX5_prints_39 : decode cX5_prints 39 = .ok (.getfield 31, 3) := by decide +kernel
theorem dX5_prints_42 : decode cX5_prints 42 = .ok (.iconst 0, 1) := by decide +kernel
theorem dX5_prints_43 : decode cX5_prints 43 = .ok (.iaload, 1) := by decide +kernel
theorem dX5_prints_44 : decode cX5_prints 44 = .ok (.istore 4, 2) := by decide +kernel
theorem dX5_prints_46 : decode cX5_prints 46 = .ok (.iconst 0, 1) := by decide +kernel
theorem dX5_prints_47 : decode cX5_prints 47 = .ok (.istore 5, 2) := by decide +kernel
theorem dX5_prints_49 : decode cX5_prints 49 = .ok (.iconst 1, 1) := by decide +kernel
theorem dX5_prints_50 : decode cX5_prints 50 = .ok (.istore 6, 2) := by decide +kernel
theorem dX5_prints_52 : decode cX5_prints 52 = .ok (.iload 6, 2) := by decide +kernel
theorem dX5_prints_54 : decode cX5_prints 54 = .ok (.iload 4, 2) := by decide +kernel
theorem dX5_prints_56 : decode cX5_prints 56 = .ok (.if_icmp .gt 33, 3) := by decide +kernel
theorem dX5_prints_59 : decode cX5_prints 59 = .ok (.iload 5, 2) := by decide +kernel
theorem dX5_prints_61 : decode cX5_prints 61 = .ok (.aload_n 0, 1) := by decide +kernel
theorem dX5_prints_62 : decode cX5_prints 62 = .ok (.getfield 31, 3) := by decide +kernel
theorem dX5_prints_65 : decode cX5_prints 65 = .ok (.iload 6, 2) := by decide +kernel
theorem dX5_prints_67 : decode cX5_prints 67 = .ok (.iaload, 1) := by decide +kernel
theorem dX5_prints_68 : decode cX5_prints 68 = .ok (.invokestatic 86, 3) := by decide +kernel
theorem dX5_prints_71 : decode cX5_prints 71 = .ok (.iconst (-1), 1) := by decide +kernel
theorem dX5_prints_72 : decode cX5_prints 72 = .ok (.if_icmp .ne 7, 3) := by decide +kernel
theorem dX5_prints_75 : decode cX5_prints 75 = .ok (.iconst 0, 1) := by decide +kernel
theorem dX5_prints_76 : decode cX5_prints 76 = .ok (.goto 4, 3) := by decide +kernel
theorem dX5_prints_79 : decode cX5_prints 79 = .ok (.iconst 1, 1) := by decide +kernel
theorem dX5_prints_80 : decode cX5_prints 80 = .ok (.iadd, 1) := by decide +kernel
theorem dX5_prints_81 : decode cX5_prints 81 = .ok (.istore 5, 2) := by decide +kernel
theorem dX5_prints_83 : decode cX5_prints 83 = .ok (.iinc 6 1, 3) := by decide +kernel
theorem dX5_prints_86 : decode cX5_prints 86 = .ok (.goto (-34), 3) := by decide +kernel
theorem dX5_prints_89 : decode cX5_prints 89 = .ok (.iload 4, 2) := by decide +kernel
theorem dX5_prints_91 : decode cX5_prints 91 = .ok (.iconst 2, 1) := by decide +kernel
theorem dX5_prints_92 : decode cX5_prints 92 = .ok (.if_icmp .lt 8, 3) := by decide +kernel
theorem dX5_prints_95 : decode cX5_prints 95 = .ok (.iload 5, 2) := by decide +kernel
theorem dX5_prints_97 : decode cX5_prints 97 = .ok (.ifCond .ne 11, 3) := by decide +kernel
theorem dX5_prints_100 : decode cX5_prints 100 = .ok (.aload_n 0, 1) := by decide +kernel
theorem dX5_prints_101 : decode cX5_prints 101 = .ok (.iconst 2, 1) := by decide +kernel
theorem dX5_prints_102 : decode cX5_prints 102 = .ok (.iload 4, 2) := by decide +kernel
theorem dX5_prints_104 : decode cX5_prints 104 = .ok (.invokevirtual 122, 3) := by decide +kernel
theorem dX5_prints_107 : decode cX5_prints 107 = .ok (.ireturn, 1) := by decide +kernel
theorem dX5_prints_108 : decode cX5_prints 108 = .ok (.aload_n 0, 1) := by decide +kernel
theorem dX5_prints_109 : decode cX5_prints 109 = .ok (.getfield 7, 3) := by decide +kernel
theorem dX5_prints_112 : decode cX5_prints 112 = .ok (.iconst 0, 1) := by decide +kernel
theorem dX5_prints_113 : decode cX5_prints 113 = .ok (.iaload, 1) := by decide +kernel
theorem dX5_prints_114 : decode cX5_prints 114 = .ok (.istore 6, 2) := by decide +kernel
theorem dX5_prints_116 : decode cX5_prints 116 = .ok (.iload 6, 2) := by decide +kernel
theorem dX5_prints_118 : decode cX5_prints 118 = .ok (.bipush 8, 2) := by decide +kernel
theorem dX5_prints_120 : decode cX5_prints 120 = .ok (.if_icmp .ne 11, 3) := by decide +kernel
theorem dX5_prints_123 : decode cX5_prints 123 = .ok (.aload_n 0, 1) := by decide +kernel
theorem dX5_prints_124 : decode cX5_prints 124 = .ok (.iconst 1, 1) := by decide +kernel
theorem dX5_prints_125 : decode cX5_prints 125 = .ok (.bipush 8, 2) := by decide +kernel
theorem dX5_prints_127 : decode cX5_prints 127 = .ok (.invokevirtual 122, 3) := by decide +kernel
theorem dX5_prints_130 : decode cX5_prints 130 = .ok (.ireturn, 1) := by decide +kernel
theorem dX5_prints_131 : decode cX5_prints 131 = .ok (.iconst 0, 1) := by decide +kernel
theorem dX5_prints_132 : decode cX5_prints 132 = .ok (.istore 7, 2) := by decide +kernel
theorem dX5_prints_134 : decode cX5_prints 134 = .ok (.iload 7, 2) := by decide +kernel
theorem dX5_prints_136 : decode cX5_prints 136 = .ok (.bipush 20, 2) := by decide +kernel
theorem dX5_prints_138 : decode cX5_prints 138 = .ok (.if_icmp .ge 18, 3) := by decide +kernel
theorem dX5_prints_141 : decode cX5_prints 141 = .ok (.aload_n 0, 1) := by decide +kernel
theorem dX5_prints_142 : decode cX5_prints 142 = .ok (.iload 6, 2) := by decide +kernel
theorem dX5_prints_144 : decode cX5_prints 144 = .ok (.iload 7, 2) := by decide +kernel
theorem dX5_prints_146 : decode cX5_prints 146 = .ok (.iconst 0, 1) := by decide +kernel
theorem dX5_prints_147 : decode cX5_prints 147 = .ok (.invokevirtual 74, 3) := by decide +kernel
theorem dX5_prints_150 : decode cX5_prints 150 = .ok (.iinc 7 1, 3) := by decide +kernel
theorem dX5_prints_153 : decode cX5_prints 153 = .ok (.goto (-19), 3) := by decide +kernel
theorem dX5_prints_156 : decode cX5_prints 156 = .ok (.iconst 0, 1) := by decide +kernel
theorem dX5_prints_157 : decode cX5_prints 157 = .ok (.istore 7, 2) := by decide +kernel
theorem dX5_prints_159 : decode cX5_prints 159 = .ok (.iload 7, 2) := by decide +kernel
theorem dX5_prints_161 : decode cX5_prints 161 = .ok (.iload 4, 2) := by decide +kernel
theorem dX5_prints_163 : decode cX5_prints 163 = .ok (.if_icmp .gt 24, 3) := by decide +kernel
theorem dX5_prints_166 : decode cX5_prints 166 = .ok (.aload_n 0, 1) := by decide +kernel
theorem dX5_prints_167 : decode cX5_prints 167 = .ok (.iload 6, 2) := by decide +kernel
theorem dX5_prints_169 : decode cX5_prints 169 = .ok (.iload 7, 2) := by decide +kernel
theorem dX5_prints_171 : decode cX5_prints 171 = .ok (.aload_n 0, 1) := by decide +kernel
theorem dX5_prints_172 : decode cX5_prints 172 = .ok (.getfield 31, 3) := by decide +kernel
theorem dX5_prints_175 : decode cX5_prints 175 = .ok (.iload 7, 2) := by decide +kernel
theorem dX5_prints_177 : decode cX5_prints 177 = .ok (.iaload, 1) := by decide +kernel
theorem dX5_prints_178 : decode cX5_prints 178 = .ok (.invokevirtual 74, 3) := by decide +kernel
theorem dX5_prints_181 : decode cX5_prints 181 = .ok (.iinc 7 1, 3) := by decide +kernel
theorem dX5_prints_184 : decode cX5_prints 184 = .ok (.goto (-25), 3) := by decide +kernel
theorem dX5_prints_187 : decode cX5_prints 187 = .ok (.aload_n 0, 1) := by decide +kernel
theorem dX5_prints_188 : decode cX5_prints 188 = .ok (.iload 6, 2) := by decide +kernel
theorem dX5_prints_190 : decode cX5_prints 190 = .ok (.bipush 7, 2) := by decide +kernel
theorem dX5_prints_192 : decode cX5_prints 192 = .ok (.iload_n 1, 1) := by decide +kernel
theorem dX5_prints_193 : decode cX5_prints 193 = .ok (.invokevirtual 74, 3) := by decide +kernel
theorem dX5_prints_196 : decode cX5_prints 196 = .ok (.aload_n 0, 1) := by decide +kernel
theorem dX5_prints_197 : decode cX5_prints 197 = .ok (.iload 6, 2) := by decide +kernel
theorem dX5_prints_199 : decode cX5_prints 199 = .ok (.bipush 8, 2) := by decide +kernel
theorem dX5_prints_201 : decode cX5_prints 201 = .ok (.iload_n 2, 1) := by decide +kernel
theorem dX5_prints_202 : decode cX5_prints 202 = .ok (.invokevirtual 74, 3) := by decide +kernel
theorem dX5_prints_205 : decode cX5_prints 205 = .ok (.aload_n 0, 1) := by decide +kernel
theorem dX5_prints_206 : decode cX5_prints 206 = .ok (.iload 6, 2) := by decide +kernel
theorem dX5_prints_208 : decode cX5_prints 208 = .ok (.bipush 9, 2) := by decide +kernel
theorem dX5_prints_210 : decode cX5_prints 210 = .ok (.iload_n 3, 1) := by decide +kernel
theorem dX5_prints_211 : decode cX5_prints 211 = .ok (.invokevirtual 74, 3) := by decide +kernel
theorem dX5_prints_214 : decode cX5_prints 214 = .ok (.aload_n 0, 1) := by decide +kernel
theorem dX5_prints_215 : decode cX5_prints 215 = .ok (.iload 6, 2) := by decide +kernel
theorem dX5_prints_217 : decode cX5_prints 217 = .ok (.bipush 11, 2) := by decide +kernel
theorem dX5_prints_219 : decode cX5_prints 219 = .ok (.iconst (-1), 1) := by decide +kernel
theorem dX5_prints_220 : decode cX5_prints 220 = .ok (.invokevirtual 74, 3) := by decide +kernel
theorem dX5_prints_223 : decode cX5_prints 223 = .ok (.aload_n 0, 1) := by decide +kernel
theorem dX5_prints_224 : decode cX5_prints 224 = .ok (.iload 6, 2) := by decide +kernel
theorem dX5_prints_226 : decode cX5_prints 226 = .ok (.iconst 0, 1) := by decide +kernel
theorem dX5_prints_227 : decode cX5_prints 227 = .ok (.iconst 0, 1) := by decide +kernel
theorem dX5_prints_228 : decode cX5_prints 228 = .ok (.iconst (-1), 1) := by decide +kernel
theorem dX5_prints_229 : decode cX5_prints 229 = .ok (.invokevirtual 128, 3) := by decide +kernel
theorem dX5_prints_232 : decode cX5_prints 232 = .ok (.aload_n 0, 1) := by decide +kernel
theorem dX5_prints_233 : decode cX5_prints 233 = .ok (.iload 6, 2) := by decide +kernel
theorem dX5_prints_235 : decode cX5_prints 235 = .ok (.iconst 1, 1) := by decide +kernel
theorem dX5_prints_236 : decode cX5_prints 236 = .ok (.iconst 0, 1) := by decide +kernel
theorem dX5_prints_237 : decode cX5_prints 237 = .ok (.iconst (-1), 1) := by decide +kernel
theorem dX5_prints_238 : decode cX5_prints 238 = .ok (.invokevirtual 128, 3) := by decide +kernel
theorem dX5_prints_241 : decode cX5_prints 241 = .ok (.aload_n 0, 1) := by decide +kernel
theorem dX5_prints_242 : decode cX5_prints 242 = .ok (.getfield 7, 3) := by decide +kernel
theorem dX5_prints_245 : decode cX5_prints 245 = .ok (.iconst 0, 1) := by decide +kernel
theorem dX5_prints_246 : decode cX5_prints 246 = .ok (.iload 6, 2) := by decide +kernel
theorem dX5_prints_248 : decode cX5_prints 248 = .ok (.iconst 1, 1) := by decide +kernel
theorem dX5_prints_249 : decode cX5_prints 249 = .ok (.iadd, 1) := by decide +kernel
theorem dX5_prints_250 : decode cX5_prints 250 = .ok (.iastore, 1) := by decide +kernel
theorem dX5_prints_251 : decode cX5_prints 251 = .ok (.aload_n 0, 1) := by decide +kernel
theorem dX5_prints_252 : decode cX5_prints 252 = .ok (.getfield 7, 3) := by decide +kernel
theorem dX5_prints_255 : decode cX5_prints 255 = .ok (.iconst 2, 1) := by decide +kernel
theorem dX5_prints_256 : decode cX5_prints 256 = .ok (.dup2, 1) := by decide +kernel
theorem dX5_prints_257 : decode cX5_prints 257 = .ok (.iaload, 1) := by decide +kernel
theorem dX5_prints_258 : decode cX5_prints 258 = .ok (.iconst 1, 1) := by decide +kernel
theorem dX5_prints_259 : decode cX5_prints 259 = .ok (.iadd, 1) := by decide +kernel
theorem dX5_prints_260 : decode cX5_prints 260 = .ok (.iastore, 1) := by decide +kernel
theorem dX5_prints_261 : decode cX5_prints 261 = .ok (.aload_n 0, 1) := by decide +kernel
theorem dX5_prints_262 : decode cX5_prints 262 = .ok (.iload 6, 2) := by decide +kernel
theorem dX5_prints_264 : decode cX5_prints 264 = .ok (.invokevirtual 125, 3) := by decide +kernel
theorem dX5_prints_267 : decode cX5_prints 267 = .ok (.ireturn, 1) := by decide +kernel
theorem h9_X5_prints : yX5_prints.cls ≠ "java/lang/invoke/MethodHandle" ∧ yX5_prints.cls ≠ "java/lang/invoke/VarHandle" ∧ (parseMethodDescriptor yX5_prints.desc).map (fun d => d.parameters.length) = some 3 := by decide +kernel
noncomputable def F_X5_prints (a0 : Nat) (x1 : Int32) (x2 : Int32) (x3 : Int32) (w : FW) : Option (Int32 × FW) :=
  (F_X5_in x1 0 4 w).bind (fun r1 => (if r1 = 0 then some ((-1), w) else (F_X5_in x2 0 4 w).bind (fun r5 => (if r5 = 0 then some ((-1), w) else (if x1 = x2 then some ((-2), w) else (F_X5_in x3 1 9 w).bind (fun r10 => (if r10 = 0 then some ((-2), w) else fg (w.1 a0 = 6) inferInstance (fg (w.1 (gR w 510 a0 0) = 11) inferInstance (fg (¬ ((0 : Int32) < 0 ∨ w.2.1 (gR w 510 a0 0) ≤ Int32.toNatClampNeg 0)) inferInstance ((fLoop (σ := Int32 × Int32) (ρ := Int32) (fun s17 => (if (gI w 601 (gR w 510 a0 0) (Int32.toNatClampNeg 0)) < s17.2 then some (.inr s17.1) else fg (¬ (s17.2 < 0 ∨ w.2.1 (gR w 510 a0 0) ≤ Int32.toNatClampNeg s17.2)) inferInstance ((F_X5_vowel (gI w 601 (gR w 510 a0 0) (Int32.toNatClampNeg s17.2)) w).bind (fun r28 => (if r28 = (-1) then some (.inl ((s17.1 + 0), (s17.2 + 1))) else some (.inl ((s17.1 + 1), (s17.2 + 1)))))))) (0, 1)).bind (fun x23 => (if (gI w 601 (gR w 510 a0 0) (Int32.toNatClampNeg 0)) < 2 then (F_X5_refused a0 2 (gI w 601 (gR w 510 a0 0) (Int32.toNatClampNeg 0)) w).bind (fun r33 => some (r33.1, r33.2)) else (if x23 = 0 then (F_X5_refused a0 2 (gI w 601 (gR w 510 a0 0) (Int32.toNatClampNeg 0)) w).bind (fun r95 => some (r95.1, r95.2)) else fg (w.1 (gR w 501 a0 0) = 11) inferInstance (fg (¬ ((0 : Int32) < 0 ∨ w.2.1 (gR w 501 a0 0) ≤ Int32.toNatClampNeg 0)) inferInstance ((if (gI w 601 (gR w 501 a0 0) (Int32.toNatClampNeg 0)) = 8 then (F_X5_refused a0 1 8 w).bind (fun r92 => some (r92.1, r92.2)) else (fLoop (σ := Int32 × FW) (ρ := FW) (fun s40 => (if 20 ≤ s40.1 then some (.inr s40.2) else (F_X5_sets a0 (gI w 601 (gR w 501 a0 0) (Int32.toNatClampNeg 0)) s40.1 0 s40.2).bind (fun r50 => some (.inl ((s40.1 + 1), r50))))) (0, w)).bind (fun x46 => (fLoop (σ := Int32 × FW) (ρ := FW) (fun s53 => (if (gI w 601 (gR w 510 a0 0) (Int32.toNatClampNeg 0)) < s53.1 then some (.inr s53.2) else fg (w.1 (gR s53.2 510 a0 0) = 11) inferInstance (fg (¬ (s53.1 < 0 ∨ w.2.1 (gR s53.2 510 a0 0) ≤ Int32.toNatClampNeg s53.1)) inferInstance ((F_X5_sets a0 (gI w 601 (gR w 501 a0 0) (Int32.toNatClampNeg 0)) s53.1 (gI s53.2 601 (gR s53.2 510 a0 0) (Int32.toNatClampNeg s53.1)) s53.2).bind (fun r65 => some (.inl ((s53.1 + 1), r65))))))) (0, x46)).bind (fun x59 => (F_X5_sets a0 (gI w 601 (gR w 501 a0 0) (Int32.toNatClampNeg 0)) 7 x1 x59).bind (fun r68 => (F_X5_sets a0 (gI w 601 (gR w 501 a0 0) (Int32.toNatClampNeg 0)) 8 x2 r68).bind (fun r71 => (F_X5_sets a0 (gI w 601 (gR w 501 a0 0) (Int32.toNatClampNeg 0)) 9 x3 r71).bind (fun r74 => (F_X5_sets a0 (gI w 601 (gR w 501 a0 0) (Int32.toNatClampNeg 0)) 11 (-1) r74).bind (fun r77 => (F_X5_setsHalf a0 (gI w 601 (gR w 501 a0 0) (Int32.toNatClampNeg 0)) 0 0 (-1) r77).bind (fun r80 => (F_X5_setsHalf a0 (gI w 601 (gR w 501 a0 0) (Int32.toNatClampNeg 0)) 1 0 (-1) r80).bind (fun r83 => fg (w.1 (gR r83 501 a0 0) = 11) inferInstance (fg (¬ ((0 : Int32) < 0 ∨ w.2.1 (gR r83 501 a0 0) ≤ Int32.toNatClampNeg 0)) inferInstance (fg (¬ ((2 : Int32) < 0 ∨ w.2.1 (gR r83 501 a0 0) ≤ Int32.toNatClampNeg 2)) inferInstance ((F_X5_done a0 (gI w 601 (gR w 501 a0 0) (Int32.toNatClampNeg 0)) (sI (sI r83 601 (gR r83 501 a0 0) (Int32.toNatClampNeg 0) ((gI w 601 (gR w 501 a0 0) (Int32.toNatClampNeg 0)) + 1)) 601 (gR (sI r83 601 (gR r83 501 a0 0) (Int32.toNatClampNeg 0) ((gI w 601 (gR w 501 a0 0) (Int32.toNatClampNeg 0)) + 1)) 501 a0 0) (Int32.toNatClampNeg 2) ((gI (sI r83 601 (gR r83 501 a0 0) (Int32.toNatClampNeg 0) ((gI w 601 (gR w 501 a0 0) (Int32.toNatClampNeg 0)) + 1)) 601 (gR (sI r83 601 (gR r83 501 a0 0) (Int32.toNatClampNeg 0) ((gI w 601 (gR w 501 a0 0) (Int32.toNatClampNeg 0)) + 1)) 501 a0 0) (Int32.toNatClampNeg 2)) + 1))).bind (fun r89 => some (r89.1, r89.2)))))))))))))))))))))))))))))
set_option maxHeartbeats 4000000 in
set_option maxRecDepth 100000 in
theorem c_X5_prints (l : Launch) (D : va_G) (cy : Nat → ClassId) (a0 : Nat) (x1 : Int32) (x2 : Int32) (x3 : Int32) (w : FW) (r : Int32 × FW) (hF : F_X5_prints a0 x1 x2 x3 w = some r) : fSpec l D cy yX5_prints cX5_prints 8 (some .int) { frames := 2, cells := 0, slots := 0, locals := 47 } [.ref a0, .int x1, .int x2, .int x3] w r.2 (some (.int r.1)) := by
  refine f_begin (by decide +kernel) (Nat.le_of_ble_eq_true rfl) (fun X hC hEn => ?_)
  unfold F_X5_prints at hF
  show fAt X 0 0 8 w [(0, .ref a0), (1, .int x1), (2, .int x2), (3, .int x3)] [] 0
  refine f_iload_n hC dX5_prints_0 rfl 1 rfl ?_
  refine f_iconst (v := 0) hC dX5_prints_1 (by decide) ?_
  refine f_iconst (v := 4) hC dX5_prints_2 (by decide) ?_
  obtain ⟨r1, h2, hF⟩ := fb_open hF
  refine f_callS hC [.int x1, .int 0, .int 4] (c_X5_in l D cy x1 0 4 w r1 h2) q_1357 q_137 q_1355 q_1356 h9_X5_in ⟨Nat.le_of_ble_eq_true rfl, Nat.le_of_ble_eq_true rfl⟩ ⟨Nat.le_of_ble_eq_true rfl, Nat.le_of_ble_eq_true rfl⟩ (Nat.le_of_ble_eq_true rfl) rfl dX5_prints_3 (fun e3 => ?_)
  refine f_if_eq hC 18 dX5_prints_6 (by decide) (fun c4 => ?_) (fun c4 => ?_)
  · replace hF := fi_pos hF c4
    refine f_iconst (v := (-1)) hC dX5_prints_18 (by decide) ?_
    obtain rfl := Option.some.inj hF
    exact f_iret hC hEn (fSm.rf w) dX5_prints_19
  · replace hF := fi_neg hF c4
    refine f_iload_n hC dX5_prints_9 rfl 2 rfl ?_
    refine f_iconst (v := 0) hC dX5_prints_10 (by decide) ?_
    refine f_iconst (v := 4) hC dX5_prints_11 (by decide) ?_
    obtain ⟨r5, h6, hF⟩ := fb_open hF
    refine f_callS hC [.int x2, .int 0, .int 4] (c_X5_in l D cy x2 0 4 w r5 h6) q_1357 q_137 q_1355 q_1356 h9_X5_in ⟨Nat.le_of_ble_eq_true rfl, Nat.le_of_ble_eq_true rfl⟩ ⟨Nat.le_of_ble_eq_true rfl, Nat.le_of_ble_eq_true rfl⟩ (Nat.le_of_ble_eq_true rfl) rfl dX5_prints_12 (fun e7 => ?_)
    refine f_if_ne hC 20 dX5_prints_15 (by decide) (fun c8 => ?_) (fun c8 => ?_)
    · replace hF := fi_neg hF c8
      refine f_iload_n hC dX5_prints_20 rfl 1 rfl ?_
      refine f_iload_n hC dX5_prints_21 rfl 2 rfl ?_
      refine f_icmp_eq hC 35 dX5_prints_22 (by decide) (fun c9 => ?_) (fun c9 => ?_)
      · replace hF := fi_pos hF c9
        refine f_bipush (v := (-2)) hC dX5_prints_35 (by decide) ?_
        obtain rfl := Option.some.inj hF
        exact f_iret hC hEn (fSm.rf w) dX5_prints_37
      · replace hF := fi_neg hF c9
        refine f_iload_n hC dX5_prints_25 rfl 3 rfl ?_
        refine f_iconst (v := 1) hC dX5_prints_26 (by decide) ?_
        refine f_bipush (v := 9) hC dX5_prints_27 (by decide) ?_
        obtain ⟨r10, h11, hF⟩ := fb_open hF
        refine f_callS hC [.int x3, .int 1, .int 9] (c_X5_in l D cy x3 1 9 w r10 h11) q_1357 q_137 q_1355 q_1356 h9_X5_in ⟨Nat.le_of_ble_eq_true rfl, Nat.le_of_ble_eq_true rfl⟩ ⟨Nat.le_of_ble_eq_true rfl, Nat.le_of_ble_eq_true rfl⟩ (Nat.le_of_ble_eq_true rfl) rfl dX5_prints_29 (fun e12 => ?_)
        refine f_if_ne hC 38 dX5_prints_32 (by decide) (fun c13 => ?_) (fun c13 => ?_)
        · replace hF := fi_neg hF c13
          refine f_aload_n hC dX5_prints_38 rfl 0 rfl ?_
          obtain ⟨g14, hF⟩ := fg_open hF
          refine f_getR hC 5 10 510 rfl (by decide) iX5 q_1269 rfl rfl (fSm.k (fSm.rf w) g14) dX5_prints_39 ?_
          refine f_iconst (v := 0) hC dX5_prints_42 (by decide) ?_
          obtain ⟨g15, hF⟩ := fg_open hF
          obtain ⟨g16, hF⟩ := fg_open hF
          refine f_iald hC (fSm.k (fSm.rf w) g15) (fSm.v (fSm.rf w) g16) dX5_prints_43 ?_
          refine f_istore (L' := [(4, .int (gI w 601 (gR w 510 a0 0) (Int32.toNatClampNeg 0))), (0, .ref a0), (1, .int x1), (2, .int x2), (3, .int x3)]) hC dX5_prints_44 (by decide) rfl ?_
          refine f_iconst (v := 0) hC dX5_prints_46 (by decide) ?_
          refine f_istore (L' := [(5, .int 0), (4, .int (gI w 601 (gR w 510 a0 0) (Int32.toNatClampNeg 0))), (0, .ref a0), (1, .int x1), (2, .int x2), (3, .int x3)]) hC dX5_prints_47 (by decide) rfl ?_
          refine f_iconst (v := 1) hC dX5_prints_49 (by decide) ?_
          refine f_istore (L' := [(6, .int 1), (5, .int 0), (4, .int (gI w 601 (gR w 510 a0 0) (Int32.toNatClampNeg 0))), (0, .ref a0), (1, .int x1), (2, .int x2), (3, .int x3)]) hC dX5_prints_50 (by decide) rfl ?_
          obtain ⟨x23, h24, hF⟩ := fb_open hF
          have K25 : fAt X 0 0 8 w [(0, .ref a0), (1, .int x1), (2, .int x2), (3, .int x3), (4, .int (gI w 601 (gR w 510 a0 0) (Int32.toNatClampNeg 0))), (5, .int x23)] [] 89 := by
            refine f_iload hC dX5_prints_89 4 rfl ?_
            refine f_iconst (v := 2) hC dX5_prints_91 (by decide) ?_
            refine f_icmp_lt hC 100 dX5_prints_92 (by decide) (fun c32 => ?_) (fun c32 => ?_)
            · replace hF := fi_pos hF c32
              refine f_aload_n hC dX5_prints_100 rfl 0 rfl ?_
              refine f_iconst (v := 2) hC dX5_prints_101 (by decide) ?_
              refine f_iload hC dX5_prints_102 4 rfl ?_
              obtain ⟨r33, h34, hF⟩ := fb_open hF
              refine f_callV hC [.int 2, .int (gI w 601 (gR w 510 a0 0) (Int32.toNatClampNeg 0))] (c_X5_refused l D cy a0 2 (gI w 601 (gR w 510 a0 0) (Int32.toNatClampNeg 0)) w r33 h34) q_1364 q_137 q_1361 q_1363 q_75 h9_X5_refused rfl (fSm.k (fSm.rf w) g14) ⟨Nat.le_of_ble_eq_true rfl, Nat.le_of_ble_eq_true rfl⟩ ⟨Nat.le_of_ble_eq_true rfl, Nat.le_of_ble_eq_true rfl⟩ (Nat.le_of_ble_eq_true rfl) rfl dX5_prints_104 (fun e35 => ?_)
              obtain rfl := Option.some.inj hF
              exact f_iret hC hEn (fSm.tr e35 (fSm.rf w)) dX5_prints_107
            · replace hF := fi_neg hF c32
              refine f_iload hC dX5_prints_95 5 rfl ?_
              refine f_if_ne hC 108 dX5_prints_97 (by decide) (fun c36 => ?_) (fun c36 => ?_)
              · replace hF := fi_neg hF c36
                refine f_aload_n hC dX5_prints_108 rfl 0 rfl ?_
                refine f_getR hC 5 1 501 rfl (by decide) iX5 q_1260 rfl rfl (fSm.k (fSm.rf w) g14) dX5_prints_109 ?_
                refine f_iconst (v := 0) hC dX5_prints_112 (by decide) ?_
                obtain ⟨g37, hF⟩ := fg_open hF
                obtain ⟨g38, hF⟩ := fg_open hF
                refine f_iald hC (fSm.k (fSm.rf w) g37) (fSm.v (fSm.rf w) g38) dX5_prints_113 ?_
                refine f_istore (L' := [(6, .int (gI w 601 (gR w 501 a0 0) (Int32.toNatClampNeg 0))), (0, .ref a0), (1, .int x1), (2, .int x2), (3, .int x3), (4, .int (gI w 601 (gR w 510 a0 0) (Int32.toNatClampNeg 0))), (5, .int x23)]) hC dX5_prints_114 (by decide) rfl ?_
                refine f_iload hC dX5_prints_116 0 rfl ?_
                refine f_bipush (v := 8) hC dX5_prints_118 (by decide) ?_
                refine f_icmp_ne hC 131 dX5_prints_120 (by decide) (fun c39 => ?_) (fun c39 => ?_)
                · replace hF := fi_neg hF c39
                  refine f_iconst (v := 0) hC dX5_prints_131 (by decide) ?_
                  refine f_istore (L' := [(7, .int 0), (6, .int (gI w 601 (gR w 501 a0 0) (Int32.toNatClampNeg 0))), (0, .ref a0), (1, .int x1), (2, .int x2), (3, .int x3), (4, .int (gI w 601 (gR w 510 a0 0) (Int32.toNatClampNeg 0))), (5, .int x23)]) hC dX5_prints_132 (by decide) rfl ?_
                  obtain ⟨x46, h47, hF⟩ := fb_open hF
                  have K48 : fSm x46 w → fAt X 0 0 8 x46 [(0, .ref a0), (1, .int x1), (2, .int x2), (3, .int x3), (4, .int (gI w 601 (gR w 510 a0 0) (Int32.toNatClampNeg 0))), (6, .int (gI w 601 (gR w 501 a0 0) (Int32.toNatClampNeg 0)))] [] 156 := by
                    intro p44
                    refine f_iconst (v := 0) hC dX5_prints_156 (by decide) ?_
                    refine f_istore (L' := [(7, .int 0), (0, .ref a0), (1, .int x1), (2, .int x2), (3, .int x3), (4, .int (gI w 601 (gR w 510 a0 0) (Int32.toNatClampNeg 0))), (6, .int (gI w 601 (gR w 501 a0 0) (Int32.toNatClampNeg 0)))]) hC dX5_prints_157 (by decide) rfl ?_
                    obtain ⟨x59, h60, hF⟩ := fb_open hF
                    have K61 : fSm x59 w → fAt X 0 0 8 x59 [(0, .ref a0), (1, .int x1), (2, .int x2), (3, .int x3), (6, .int (gI w 601 (gR w 501 a0 0) (Int32.toNatClampNeg 0)))] [] 187 := by
                      intro p57
                      refine f_aload_n hC dX5_prints_187 rfl 0 rfl ?_
                      refine f_iload hC dX5_prints_188 4 rfl ?_
                      refine f_bipush (v := 7) hC dX5_prints_190 (by decide) ?_
                      refine f_iload_n hC dX5_prints_192 rfl 1 rfl ?_
                      obtain ⟨r68, h69, hF⟩ := fb_open hF
                      refine f_callV hC [.int (gI w 601 (gR w 501 a0 0) (Int32.toNatClampNeg 0)), .int 7, .int x1] (c_X5_sets l D cy a0 (gI w 601 (gR w 501 a0 0) (Int32.toNatClampNeg 0)) 7 x1 x59 r68 h69) q_1404 q_137 q_1401 q_1403 q_83 h9_X5_sets rfl (fSm.k p57 g14) ⟨Nat.le_of_ble_eq_true rfl, Nat.le_of_ble_eq_true rfl⟩ ⟨Nat.le_of_ble_eq_true rfl, Nat.le_of_ble_eq_true rfl⟩ (Nat.le_of_ble_eq_true rfl) rfl dX5_prints_193 (fun e70 => ?_)
                      refine f_aload_n hC dX5_prints_196 rfl 0 rfl ?_
                      refine f_iload hC dX5_prints_197 4 rfl ?_
                      refine f_bipush (v := 8) hC dX5_prints_199 (by decide) ?_
                      refine f_iload_n hC dX5_prints_201 rfl 2 rfl ?_
                      obtain ⟨r71, h72, hF⟩ := fb_open hF
                      refine f_callV hC [.int (gI w 601 (gR w 501 a0 0) (Int32.toNatClampNeg 0)), .int 8, .int x2] (c_X5_sets l D cy a0 (gI w 601 (gR w 501 a0 0) (Int32.toNatClampNeg 0)) 8 x2 r68 r71 h72) q_1404 q_137 q_1401 q_1403 q_83 h9_X5_sets rfl (fSm.k (fSm.tr e70 p57) g14) ⟨Nat.le_of_ble_eq_true rfl, Nat.le_of_ble_eq_true rfl⟩ ⟨Nat.le_of_ble_eq_true rfl, Nat.le_of_ble_eq_true rfl⟩ (Nat.le_of_ble_eq_true rfl) rfl dX5_prints_202 (fun e73 => ?_)
                      refine f_aload_n hC dX5_prints_205 rfl 0 rfl ?_
                      refine f_iload hC dX5_prints_206 4 rfl ?_
                      refine f_bipush (v := 9) hC dX5_prints_208 (by decide) ?_
                      refine f_iload_n hC dX5_prints_210 rfl 3 rfl ?_
                      obtain ⟨r74, h75, hF⟩ := fb_open hF
                      refine f_callV hC [.int (gI w 601 (gR w 501 a0 0) (Int32.toNatClampNeg 0)), .int 9, .int x3] (c_X5_sets l D cy a0 (gI w 601 (gR w 501 a0 0) (Int32.toNatClampNeg 0)) 9 x3 r71 r74 h75) q_1404 q_137 q_1401 q_1403 q_83 h9_X5_sets rfl (fSm.k (fSm.tr e73 (fSm.tr e70 p57)) g14) ⟨Nat.le_of_ble_eq_true rfl, Nat.le_of_ble_eq_true rfl⟩ ⟨Nat.le_of_ble_eq_true rfl, Nat.le_of_ble_eq_true rfl⟩ (Nat.le_of_ble_eq_true rfl) rfl dX5_prints_211 (fun e76 => ?_)
                      refine f_aload_n hC dX5_prints_214 rfl 0 rfl ?_
                      refine f_iload hC dX5_prints_215 4 rfl ?_
                      refine f_bipush (v := 11) hC dX5_prints_217 (by decide) ?_
                      refine f_iconst (v := (-1)) hC dX5_prints_219 (by decide) ?_
                      obtain ⟨r77, h78, hF⟩ := fb_open hF
                      refine f_callV hC [.int (gI w 601 (gR w 501 a0 0) (Int32.toNatClampNeg 0)), .int 11, .int (-1)] (c_X5_sets l D cy a0 (gI w 601 (gR w 501 a0 0) (Int32.toNatClampNeg 0)) 11 (-1) r74 r77 h78) q_1404 q_137 q_1401 q_1403 q_83 h9_X5_sets rfl (fSm.k (fSm.tr e76 (fSm.tr e73 (fSm.tr e70 p57))) g14) ⟨Nat.le_of_ble_eq_true rfl, Nat.le_of_ble_eq_true rfl⟩ ⟨Nat.le_of_ble_eq_true rfl, Nat.le_of_ble_eq_true rfl⟩ (Nat.le_of_ble_eq_true rfl) rfl dX5_prints_220 (fun e79 => ?_)
                      refine f_aload_n hC dX5_prints_223 rfl 0 rfl ?_
                      refine f_iload hC dX5_prints_224 4 rfl ?_
                      refine f_iconst (v := 0) hC dX5_prints_226 (by decide) ?_
                      refine f_iconst (v := 0) hC dX5_prints_227 (by decide) ?_
                      refine f_iconst (v := (-1)) hC dX5_prints_228 (by decide) ?_
                      obtain ⟨r80, h81, hF⟩ := fb_open hF
                      refine f_callV hC [.int (gI w 601 (gR w 501 a0 0) (Int32.toNatClampNeg 0)), .int 0, .int 0, .int (-1)] (c_X5_setsHalf l D cy a0 (gI w 601 (gR w 501 a0 0) (Int32.toNatClampNeg 0)) 0 0 (-1) r77 r80 h81) q_1408 q_137 q_1405 q_1407 q_84 h9_X5_setsHalf rfl (fSm.k (fSm.tr e79 (fSm.tr e76 (fSm.tr e73 (fSm.tr e70 p57)))) g14) ⟨Nat.le_of_ble_eq_true rfl, Nat.le_of_ble_eq_true rfl⟩ ⟨Nat.le_of_ble_eq_true rfl, Nat.le_of_ble_eq_true rfl⟩ (Nat.le_of_ble_eq_true rfl) rfl dX5_prints_229 (fun e82 => ?_)
                      refine f_aload_n hC dX5_prints_232 rfl 0 rfl ?_
                      refine f_iload hC dX5_prints_233 4 rfl ?_
                      refine f_iconst (v := 1) hC dX5_prints_235 (by decide) ?_
                      refine f_iconst (v := 0) hC dX5_prints_236 (by decide) ?_
                      refine f_iconst (v := (-1)) hC dX5_prints_237 (by decide) ?_
                      obtain ⟨r83, h84, hF⟩ := fb_open hF
                      refine f_callV hC [.int (gI w 601 (gR w 501 a0 0) (Int32.toNatClampNeg 0)), .int 1, .int 0, .int (-1)] (c_X5_setsHalf l D cy a0 (gI w 601 (gR w 501 a0 0) (Int32.toNatClampNeg 0)) 1 0 (-1) r80 r83 h84) q_1408 q_137 q_1405 q_1407 q_84 h9_X5_setsHalf rfl (fSm.k (fSm.tr e82 (fSm.tr e79 (fSm.tr e76 (fSm.tr e73 (fSm.tr e70 p57))))) g14) ⟨Nat.le_of_ble_eq_true rfl, Nat.le_of_ble_eq_true rfl⟩ ⟨Nat.le_of_ble_eq_true rfl, Nat.le_of_ble_eq_true rfl⟩ (Nat.le_of_ble_eq_true rfl) rfl dX5_prints_238 (fun e85 => ?_)
                      refine f_aload_n hC dX5_prints_241 rfl 0 rfl ?_
                      refine f_getR hC 5 1 501 rfl (by decide) iX5 q_1260 rfl rfl (fSm.k (fSm.tr e85 (fSm.tr e82 (fSm.tr e79 (fSm.tr e76 (fSm.tr e73 (fSm.tr e70 p57)))))) g14) dX5_prints_242 ?_
                      refine f_iconst (v := 0) hC dX5_prints_245 (by decide) ?_
                      refine f_iload hC dX5_prints_246 4 rfl ?_
                      refine f_iconst (v := 1) hC dX5_prints_248 (by decide) ?_
                      refine f_iadd hC dX5_prints_249 ?_
                      obtain ⟨g86, hF⟩ := fg_open hF
                      obtain ⟨g87, hF⟩ := fg_open hF
                      refine f_iast hC (fSm.k (fSm.tr e85 (fSm.tr e82 (fSm.tr e79 (fSm.tr e76 (fSm.tr e73 (fSm.tr e70 p57)))))) g86) (fSm.v (fSm.tr e85 (fSm.tr e82 (fSm.tr e79 (fSm.tr e76 (fSm.tr e73 (fSm.tr e70 p57)))))) g87) dX5_prints_250 ?_
                      refine f_aload_n hC dX5_prints_251 rfl 0 rfl ?_
                      refine f_getR hC 5 1 501 rfl (by decide) iX5 q_1260 rfl rfl (fSm.k (fSm.tr e85 (fSm.tr e82 (fSm.tr e79 (fSm.tr e76 (fSm.tr e73 (fSm.tr e70 p57)))))) g14) dX5_prints_252 ?_
                      refine f_iconst (v := 2) hC dX5_prints_255 (by decide) ?_
                      refine f_dup2 hC dX5_prints_256 rfl rfl ?_
                      obtain ⟨g88, hF⟩ := fg_open hF
                      refine f_iald hC (fSm.k (fSm.tr e85 (fSm.tr e82 (fSm.tr e79 (fSm.tr e76 (fSm.tr e73 (fSm.tr e70 p57)))))) g86) (fSm.v (fSm.tr e85 (fSm.tr e82 (fSm.tr e79 (fSm.tr e76 (fSm.tr e73 (fSm.tr e70 p57)))))) g88) dX5_prints_257 ?_
                      refine f_iconst (v := 1) hC dX5_prints_258 (by decide) ?_
                      refine f_iadd hC dX5_prints_259 ?_
                      refine f_iast hC (fSm.k (fSm.tr e85 (fSm.tr e82 (fSm.tr e79 (fSm.tr e76 (fSm.tr e73 (fSm.tr e70 p57)))))) g86) (fSm.v (fSm.tr e85 (fSm.tr e82 (fSm.tr e79 (fSm.tr e76 (fSm.tr e73 (fSm.tr e70 p57)))))) g88) dX5_prints_260 ?_
                      refine f_aload_n hC dX5_prints_261 rfl 0 rfl ?_
                      refine f_iload hC dX5_prints_262 4 rfl ?_
                      obtain ⟨r89, h90, hF⟩ := fb_open hF
                      refine f_callV hC [.int (gI w 601 (gR w 501 a0 0) (Int32.toNatClampNeg 0))] (c_X5_done l D cy a0 (gI w 601 (gR w 501 a0 0) (Int32.toNatClampNeg 0)) (sI (sI r83 601 (gR r83 501 a0 0) (Int32.toNatClampNeg 0) ((gI w 601 (gR w 501 a0 0) (Int32.toNatClampNeg 0)) + 1)) 601 (gR (sI r83 601 (gR r83 501 a0 0) (Int32.toNatClampNeg 0) ((gI w 601 (gR w 501 a0 0) (Int32.toNatClampNeg 0)) + 1)) 501 a0 0) (Int32.toNatClampNeg 2) ((gI (sI r83 601 (gR r83 501 a0 0) (Int32.toNatClampNeg 0) ((gI w 601 (gR w 501 a0 0) (Int32.toNatClampNeg 0)) + 1)) 601 (gR (sI r83 601 (gR r83 501 a0 0) (Int32.toNatClampNeg 0) ((gI w 601 (gR w 501 a0 0) (Int32.toNatClampNeg 0)) + 1)) 501 a0 0) (Int32.toNatClampNeg 2)) + 1)) r89 h90) q_1368 q_137 q_1365 q_1367 q_76 h9_X5_done rfl (fSm.k (fSm.tr e85 (fSm.tr e82 (fSm.tr e79 (fSm.tr e76 (fSm.tr e73 (fSm.tr e70 p57)))))) g14) ⟨Nat.le_of_ble_eq_true rfl, Nat.le_of_ble_eq_true rfl⟩ ⟨Nat.le_of_ble_eq_true rfl, Nat.le_of_ble_eq_true rfl⟩ (Nat.le_of_ble_eq_true rfl) rfl dX5_prints_264 (fun e91 => ?_)
                      obtain rfl := Option.some.inj hF
                      exact f_iret hC hEn (fSm.tr e91 (fSm.tr e85 (fSm.tr e82 (fSm.tr e79 (fSm.tr e76 (fSm.tr e73 (fSm.tr e70 p57))))))) dX5_prints_267
                    refine f_sub (L' := [(0, .ref a0), (1, .int x1), (2, .int x2), (3, .int x3), (4, .int (gI w 601 (gR w 510 a0 0) (Int32.toNatClampNeg 0))), (6, .int (gI w 601 (gR w 501 a0 0) (Int32.toNatClampNeg 0))), (7, .int 0)]) [1, 2, 3, 4, 5, 6, 0] rfl ?_
                    refine fLoop_ind (fun (s53 : Int32 × FW) => fSm s53.2 w → fAt X 0 0 8 s53.2 [(0, .ref a0), (1, .int x1), (2, .int x2), (3, .int x3), (4, .int (gI w 601 (gR w 510 a0 0) (Int32.toNatClampNeg 0))), (6, .int (gI w 601 (gR w 501 a0 0) (Int32.toNatClampNeg 0))), (7, .int s53.1)] [] 159) (fun s53 y58 h54 go55 ou56 => ?_) h60 p44
                    intro p57
                    refine f_iload hC dX5_prints_159 6 rfl ?_
                    refine f_iload hC dX5_prints_161 4 rfl ?_
                    refine f_icmp_gt hC 187 dX5_prints_163 (by decide) (fun c62 => ?_) (fun c62 => ?_)
                    · replace h54 := fi_pos h54 c62
                      obtain rfl := Option.some.inj h54
                      obtain rfl := ou56 _ rfl
                      refine f_sub (L' := [(0, .ref a0), (1, .int x1), (2, .int x2), (3, .int x3), (6, .int (gI w 601 (gR w 501 a0 0) (Int32.toNatClampNeg 0)))]) [0, 1, 2, 3, 5] rfl ?_
                      exact K61 p57
                    · replace h54 := fi_neg h54 c62
                      refine f_aload_n hC dX5_prints_166 rfl 0 rfl ?_
                      refine f_iload hC dX5_prints_167 5 rfl ?_
                      refine f_iload hC dX5_prints_169 6 rfl ?_
                      refine f_aload_n hC dX5_prints_171 rfl 0 rfl ?_
                      refine f_getR hC 5 10 510 rfl (by decide) iX5 q_1269 rfl rfl (fSm.k p57 g14) dX5_prints_172 ?_
                      refine f_iload hC dX5_prints_175 6 rfl ?_
                      obtain ⟨g63, h54⟩ := fg_open h54
                      obtain ⟨g64, h54⟩ := fg_open h54
                      refine f_iald hC (fSm.k p57 g63) (fSm.v p57 g64) dX5_prints_177 ?_
                      obtain ⟨r65, h66, h54⟩ := fb_open h54
                      refine f_callV hC [.int (gI w 601 (gR w 501 a0 0) (Int32.toNatClampNeg 0)), .int s53.1, .int (gI s53.2 601 (gR s53.2 510 a0 0) (Int32.toNatClampNeg s53.1))] (c_X5_sets l D cy a0 (gI w 601 (gR w 501 a0 0) (Int32.toNatClampNeg 0)) s53.1 (gI s53.2 601 (gR s53.2 510 a0 0) (Int32.toNatClampNeg s53.1)) s53.2 r65 h66) q_1404 q_137 q_1401 q_1403 q_83 h9_X5_sets rfl (fSm.k p57 g14) ⟨Nat.le_of_ble_eq_true rfl, Nat.le_of_ble_eq_true rfl⟩ ⟨Nat.le_of_ble_eq_true rfl, Nat.le_of_ble_eq_true rfl⟩ (Nat.le_of_ble_eq_true rfl) rfl dX5_prints_178 (fun e67 => ?_)
                      refine f_iinc (L' := [(7, .int (s53.1 + 1)), (0, .ref a0), (1, .int x1), (2, .int x2), (3, .int x3), (4, .int (gI w 601 (gR w 510 a0 0) (Int32.toNatClampNeg 0))), (6, .int (gI w 601 (gR w 501 a0 0) (Int32.toNatClampNeg 0)))]) hC dX5_prints_181 6 rfl rfl (by decide) rfl ?_
                      refine f_goto hC 159 dX5_prints_184 (by decide) ?_
                      obtain rfl := Option.some.inj h54
                      refine f_sub (L' := [(0, .ref a0), (1, .int x1), (2, .int x2), (3, .int x3), (4, .int (gI w 601 (gR w 510 a0 0) (Int32.toNatClampNeg 0))), (6, .int (gI w 601 (gR w 501 a0 0) (Int32.toNatClampNeg 0))), (7, .int (s53.1 + 1))]) [1, 2, 3, 4, 5, 6, 0] rfl ?_
                      exact go55 _ rfl (fSm.tr e67 p57)
                  refine f_sub (L' := [(0, .ref a0), (1, .int x1), (2, .int x2), (3, .int x3), (4, .int (gI w 601 (gR w 510 a0 0) (Int32.toNatClampNeg 0))), (6, .int (gI w 601 (gR w 501 a0 0) (Int32.toNatClampNeg 0))), (7, .int 0)]) [2, 3, 4, 5, 6, 1, 0] rfl ?_
                  refine fLoop_ind (fun (s40 : Int32 × FW) => fSm s40.2 w → fAt X 0 0 8 s40.2 [(0, .ref a0), (1, .int x1), (2, .int x2), (3, .int x3), (4, .int (gI w 601 (gR w 510 a0 0) (Int32.toNatClampNeg 0))), (6, .int (gI w 601 (gR w 501 a0 0) (Int32.toNatClampNeg 0))), (7, .int s40.1)] [] 134) (fun s40 y45 h41 go42 ou43 => ?_) h47 (fSm.rf w)
                  intro p44
                  refine f_iload hC dX5_prints_134 6 rfl ?_
                  refine f_bipush (v := 20) hC dX5_prints_136 (by decide) ?_
                  refine f_icmp_ge hC 156 dX5_prints_138 (by decide) (fun c49 => ?_) (fun c49 => ?_)
                  · replace h41 := fi_pos h41 c49
                    obtain rfl := Option.some.inj h41
                    obtain rfl := ou43 _ rfl
                    refine f_sub (L' := [(0, .ref a0), (1, .int x1), (2, .int x2), (3, .int x3), (4, .int (gI w 601 (gR w 510 a0 0) (Int32.toNatClampNeg 0))), (6, .int (gI w 601 (gR w 501 a0 0) (Int32.toNatClampNeg 0)))]) [0, 1, 2, 3, 4, 5] rfl ?_
                    exact K48 p44
                  · replace h41 := fi_neg h41 c49
                    refine f_aload_n hC dX5_prints_141 rfl 0 rfl ?_
                    refine f_iload hC dX5_prints_142 5 rfl ?_
                    refine f_iload hC dX5_prints_144 6 rfl ?_
                    refine f_iconst (v := 0) hC dX5_prints_146 (by decide) ?_
                    obtain ⟨r50, h51, h41⟩ := fb_open h41
                    refine f_callV hC [.int (gI w 601 (gR w 501 a0 0) (Int32.toNatClampNeg 0)), .int s40.1, .int 0] (c_X5_sets l D cy a0 (gI w 601 (gR w 501 a0 0) (Int32.toNatClampNeg 0)) s40.1 0 s40.2 r50 h51) q_1404 q_137 q_1401 q_1403 q_83 h9_X5_sets rfl (fSm.k p44 g14) ⟨Nat.le_of_ble_eq_true rfl, Nat.le_of_ble_eq_true rfl⟩ ⟨Nat.le_of_ble_eq_true rfl, Nat.le_of_ble_eq_true rfl⟩ (Nat.le_of_ble_eq_true rfl) rfl dX5_prints_147 (fun e52 => ?_)
                    refine f_iinc (L' := [(7, .int (s40.1 + 1)), (0, .ref a0), (1, .int x1), (2, .int x2), (3, .int x3), (4, .int (gI w 601 (gR w 510 a0 0) (Int32.toNatClampNeg 0))), (6, .int (gI w 601 (gR w 501 a0 0) (Int32.toNatClampNeg 0)))]) hC dX5_prints_150 6 rfl rfl (by decide) rfl ?_
                    refine f_goto hC 134 dX5_prints_153 (by decide) ?_
                    obtain rfl := Option.some.inj h41
                    refine f_sub (L' := [(0, .ref a0), (1, .int x1), (2, .int x2), (3, .int x3), (4, .int (gI w 601 (gR w 510 a0 0) (Int32.toNatClampNeg 0))), (6, .int (gI w 601 (gR w 501 a0 0) (Int32.toNatClampNeg 0))), (7, .int (s40.1 + 1))]) [1, 2, 3, 4, 5, 6, 0] rfl ?_
                    exact go42 _ rfl (fSm.tr e52 p44)
                · replace hF := fi_pos hF c39
                  refine f_aload_n hC dX5_prints_123 rfl 1 rfl ?_
                  refine f_iconst (v := 1) hC dX5_prints_124 (by decide) ?_
                  refine f_bipush (v := 8) hC dX5_prints_125 (by decide) ?_
                  obtain ⟨r92, h93, hF⟩ := fb_open hF
                  refine f_callV hC [.int 1, .int 8] (c_X5_refused l D cy a0 1 8 w r92 h93) q_1364 q_137 q_1361 q_1363 q_75 h9_X5_refused rfl (fSm.k (fSm.rf w) g14) ⟨Nat.le_of_ble_eq_true rfl, Nat.le_of_ble_eq_true rfl⟩ ⟨Nat.le_of_ble_eq_true rfl, Nat.le_of_ble_eq_true rfl⟩ (Nat.le_of_ble_eq_true rfl) rfl dX5_prints_127 (fun e94 => ?_)
                  obtain rfl := Option.some.inj hF
                  exact f_iret hC hEn (fSm.tr e94 (fSm.rf w)) dX5_prints_130
              · replace hF := fi_pos hF c36
                refine f_aload_n hC dX5_prints_100 rfl 0 rfl ?_
                refine f_iconst (v := 2) hC dX5_prints_101 (by decide) ?_
                refine f_iload hC dX5_prints_102 4 rfl ?_
                obtain ⟨r95, h96, hF⟩ := fb_open hF
                refine f_callV hC [.int 2, .int (gI w 601 (gR w 510 a0 0) (Int32.toNatClampNeg 0))] (c_X5_refused l D cy a0 2 (gI w 601 (gR w 510 a0 0) (Int32.toNatClampNeg 0)) w r95 h96) q_1364 q_137 q_1361 q_1363 q_75 h9_X5_refused rfl (fSm.k (fSm.rf w) g14) ⟨Nat.le_of_ble_eq_true rfl, Nat.le_of_ble_eq_true rfl⟩ ⟨Nat.le_of_ble_eq_true rfl, Nat.le_of_ble_eq_true rfl⟩ (Nat.le_of_ble_eq_true rfl) rfl dX5_prints_104 (fun e97 => ?_)
                obtain rfl := Option.some.inj hF
                exact f_iret hC hEn (fSm.tr e97 (fSm.rf w)) dX5_prints_107
          refine f_sub (L' := [(0, .ref a0), (1, .int x1), (2, .int x2), (3, .int x3), (4, .int (gI w 601 (gR w 510 a0 0) (Int32.toNatClampNeg 0))), (5, .int 0), (6, .int 1)]) [3, 4, 5, 6, 2, 1, 0] rfl ?_
          refine fLoop_ind (fun (s17 : Int32 × Int32) => fAt X 0 0 8 w [(0, .ref a0), (1, .int x1), (2, .int x2), (3, .int x3), (4, .int (gI w 601 (gR w 510 a0 0) (Int32.toNatClampNeg 0))), (5, .int s17.1), (6, .int s17.2)] [] 52) (fun s17 y22 h18 go19 ou20 => ?_) h24
          refine f_iload hC dX5_prints_52 6 rfl ?_
          refine f_iload hC dX5_prints_54 4 rfl ?_
          refine f_icmp_gt hC 89 dX5_prints_56 (by decide) (fun c26 => ?_) (fun c26 => ?_)
          · replace h18 := fi_pos h18 c26
            obtain rfl := Option.some.inj h18
            obtain rfl := ou20 _ rfl
            refine f_sub (L' := [(0, .ref a0), (1, .int x1), (2, .int x2), (3, .int x3), (4, .int (gI w 601 (gR w 510 a0 0) (Int32.toNatClampNeg 0))), (5, .int s17.1)]) [0, 1, 2, 3, 4, 5] rfl ?_
            exact K25
          · replace h18 := fi_neg h18 c26
            refine f_iload hC dX5_prints_59 5 rfl ?_
            refine f_aload_n hC dX5_prints_61 rfl 0 rfl ?_
            refine f_getR hC 5 10 510 rfl (by decide) iX5 q_1269 rfl rfl (fSm.k (fSm.rf w) g14) dX5_prints_62 ?_
            refine f_iload hC dX5_prints_65 6 rfl ?_
            obtain ⟨g27, h18⟩ := fg_open h18
            refine f_iald hC (fSm.k (fSm.rf w) g15) (fSm.v (fSm.rf w) g27) dX5_prints_67 ?_
            obtain ⟨r28, h29, h18⟩ := fb_open h18
            refine f_callS hC [.int (gI w 601 (gR w 510 a0 0) (Int32.toNatClampNeg s17.2))] (c_X5_vowel l D cy (gI w 601 (gR w 510 a0 0) (Int32.toNatClampNeg s17.2)) w r28 h29) q_1360 q_137 q_1358 q_1359 h9_X5_vowel ⟨Nat.le_of_ble_eq_true rfl, Nat.le_of_ble_eq_true rfl⟩ ⟨Nat.le_of_ble_eq_true rfl, Nat.le_of_ble_eq_true rfl⟩ (Nat.le_of_ble_eq_true rfl) rfl dX5_prints_68 (fun e30 => ?_)
            refine f_iconst (v := (-1)) hC dX5_prints_71 (by decide) ?_
            refine f_icmp_ne hC 79 dX5_prints_72 (by decide) (fun c31 => ?_) (fun c31 => ?_)
            · replace h18 := fi_neg h18 c31
              refine f_iconst (v := 1) hC dX5_prints_79 (by decide) ?_
              refine f_iadd hC dX5_prints_80 ?_
              refine f_istore (L' := [(5, .int (s17.1 + 1)), (0, .ref a0), (1, .int x1), (2, .int x2), (3, .int x3), (4, .int (gI w 601 (gR w 510 a0 0) (Int32.toNatClampNeg 0))), (6, .int s17.2)]) hC dX5_prints_81 (by decide) rfl ?_
              refine f_iinc (L' := [(6, .int (s17.2 + 1)), (5, .int (s17.1 + 1)), (0, .ref a0), (1, .int x1), (2, .int x2), (3, .int x3), (4, .int (gI w 601 (gR w 510 a0 0) (Int32.toNatClampNeg 0)))]) hC dX5_prints_83 6 rfl rfl (by decide) rfl ?_
              refine f_goto hC 52 dX5_prints_86 (by decide) ?_
              obtain rfl := Option.some.inj h18
              refine f_sub (L' := [(0, .ref a0), (1, .int x1), (2, .int x2), (3, .int x3), (4, .int (gI w 601 (gR w 510 a0 0) (Int32.toNatClampNeg 0))), (5, .int (s17.1 + 1)), (6, .int (s17.2 + 1))]) [2, 3, 4, 5, 6, 1, 0] rfl ?_
              exact go19 _ rfl
            · replace h18 := fi_pos h18 c31
              refine f_iconst (v := 0) hC dX5_prints_75 (by decide) ?_
              refine f_goto hC 80 dX5_prints_76 (by decide) ?_
              refine f_iadd hC dX5_prints_80 ?_
              refine f_istore (L' := [(5, .int (s17.1 + 0)), (0, .ref a0), (1, .int x1), (2, .int x2), (3, .int x3), (4, .int (gI w 601 (gR w 510 a0 0) (Int32.toNatClampNeg 0))), (6, .int s17.2)]) hC dX5_prints_81 (by decide) rfl ?_
              refine f_iinc (L' := [(6, .int (s17.2 + 1)), (5, .int (s17.1 + 0)), (0, .ref a0), (1, .int x1), (2, .int x2), (3, .int x3), (4, .int (gI w 601 (gR w 510 a0 0) (Int32.toNatClampNeg 0)))]) hC dX5_prints_83 6 rfl rfl (by decide) rfl ?_
              refine f_goto hC 52 dX5_prints_86 (by decide) ?_
              obtain rfl := Option.some.inj h18
              refine f_sub (L' := [(0, .ref a0), (1, .int x1), (2, .int x2), (3, .int x3), (4, .int (gI w 601 (gR w 510 a0 0) (Int32.toNatClampNeg 0))), (5, .int (s17.1 + 0)), (6, .int (s17.2 + 1))]) [2, 3, 4, 5, 6, 1, 0] rfl ?_
              exact go19 _ rfl
        · replace hF := fi_pos hF c13
          refine f_bipush (v := (-2)) hC dX5_prints_35 (by decide) ?_
          obtain rfl := Option.some.inj hF
          exact f_iret hC hEn (fSm.rf w) dX5_prints_37
    · replace hF := fi_pos hF c8
      refine f_iconst (v := (-1)) hC dX5_prints_18 (by decide) ?_
      obtain rfl := Option.some.inj hF
      exact f_iret hC hEn (fSm.rf w) dX5_prints_19
theorem dX5_printsDraft_0 : decode cX5_printsDraft 0 = .ok (.iconst 0, 1) := by decide +kernel
theorem dX5_printsDraft_1 : decode cX5_printsDraft 1 = .ok (.istore 4, 2) := by decide +kernel
theorem dX5_printsDraft_3 : decode cX5_printsDraft 3 = .ok (.iload 4, 2) := by decide +kernel
theorem dX5_printsDraft_5 : decode cX5_printsDraft 5 = .ok (.bipush 7, 2) := by decide +kernel
theorem dX5_printsDraft_7 : decode cX5_printsDraft 7 = .ok (.if_icmp .ge 26, 3) := by decide +kernel
theorem dX5_printsDraft_10 : decode cX5_printsDraft 10 = .ok (.aload_n 0, 1) := by decide +kernel
theorem dX5_printsDraft_11 : decode cX5_printsDraft 11 = .ok (.getfield 31, 3) := by decide +kernel
theorem dX5_printsDraft_14 : decode cX5_printsDraft 14 = .ok (.iload 4, 2) := by decide +kernel
theorem dX5_printsDraft_16 : decode cX5_printsDraft 16 = .ok (.aload_n 0, 1) := by decide +kernel
theorem dX5_printsDraft_17 : decode cX5_printsDraft 17 = .ok (.getfield 7, 3) := by decide +kernel
theorem dX5_printsDraft_20 : decode cX5_printsDraft 20 = .ok (.bipush 10, 2) := by decide +kernel
theorem dX5_printsDraft_22 : decode cX5_printsDraft 22 = .ok (.iload 4, 2) := by decide +kernel
theorem dX5_printsDraft_24 : decode cX5_printsDraft 24 = .ok (.iadd, 1) := by decide +kernel
theorem dX5_printsDraft_25 : decode cX5_printsDraft 25 = .ok (.iaload, 1) := by decide +kernel
theorem dX5_printsDraft_26 : decode cX5_printsDraft 26 = .ok (.iastore, 1) := by decide +kernel
theorem dX5_printsDraft_27 : decode cX5_printsDraft 27 = .ok (.iinc 4 1, 3) := by decide +kernel
theorem dX5_printsDraft_30 : decode cX5_printsDraft 30 = .ok (.goto (-27), 3) := by decide +kernel
theorem dX5_printsDraft_33 : decode cX5_printsDraft 33 = .ok (.aload_n 0, 1) := by decide +kernel
theorem dX5_printsDraft_34 : decode cX5_printsDraft 34 = .ok (.iload_n 1, 1) := by decide +kernel
theorem dX5_printsDraft_35 : decode cX5_printsDraft 35 = .ok (.iload_n 2, 1) := by decide +kernel
theorem dX5_printsDraft_36 : decode cX5_printsDraft 36 = .ok (.iload_n 3, 1) := by decide +kernel
theorem dX5_printsDraft_37 : decode cX5_printsDraft 37 = .ok (.invokevirtual 132, 3) := by decide +kernel
theorem dX5_printsDraft_40 : decode cX5_printsDraft 40 = .ok (.istore 4, 2) := by decide +kernel
theorem dX5_printsDraft_42 : decode cX5_printsDraft 42 = .ok (.iload 4, 2) := by decide +kernel
theorem dX5_printsDraft_44 : decode cX5_printsDraft 44 = .ok (.ifCond .ne 30, 3) := by decide +kernel
theorem dX5_printsDraft_47 : decode cX5_printsDraft 47 = .ok (.iconst 0, 1) := by decide +kernel
theorem dX5_printsDraft_48 : decode cX5_printsDraft 48 = .ok (.istore 5, 2) := by decide +kernel
theorem dX5_printsDraft_50 : decode cX5_printsDraft 50 = .ok (.iload 5, 2) := by decide +kernel
theorem dX5_printsDraft_52 : decode cX5_printsDraft 52 = .ok (.bipush 7, 2) := by decide +kernel
theorem dX5_printsDraft_54 : decode cX5_printsDraft 54 = .ok (.if_icmp .ge 20, 3) := by decide +kernel
theorem dX5_printsDraft_57 : decode cX5_printsDraft 57 = .ok (.aload_n 0, 1) := by decide +kernel
theorem dX5_printsDraft_58 : decode cX5_printsDraft 58 = .ok (.getfield 7, 3) := by decide +kernel
theorem dX5_printsDraft_61 : decode cX5_printsDraft 61 = .ok (.bipush 10, 2) := by decide +kernel
theorem dX5_printsDraft_63 : decode cX5_printsDraft 63 = .ok (.iload 5, 2) := by decide +kernel
theorem dX5_printsDraft_65 : decode cX5_printsDraft 65 = .ok (.iadd, 1) := by decide +kernel
theorem dX5_printsDraft_66 : decode cX5_printsDraft 66 = .ok (.iconst 0, 1) := by decide +kernel
theorem dX5_printsDraft_67 : decode cX5_printsDraft 67 = .ok (.iastore, 1) := by decide +kernel
theorem dX5_printsDraft_68 : decode cX5_printsDraft 68 = .ok (.iinc 5 1, 3) := by decide +kernel
theorem dX5_printsDraft_71 : decode cX5_printsDraft 71 = .ok (.goto (-21), 3) := by decide +kernel
theorem dX5_printsDraft_74 : decode cX5_printsDraft 74 = .ok (.iload 4, 2) := by decide +kernel
theorem dX5_printsDraft_76 : decode cX5_printsDraft 76 = .ok (.ireturn, 1) := by decide +kernel
theorem h9_X5_printsDraft : yX5_printsDraft.cls ≠ "java/lang/invoke/MethodHandle" ∧ yX5_printsDraft.cls ≠ "java/lang/invoke/VarHandle" ∧ (parseMethodDescriptor yX5_printsDraft.desc).map (fun d => d.parameters.length) = some 3 := by decide +kernel
noncomputable def F_X5_printsDraft (a0 : Nat) (x1 : Int32) (x2 : Int32) (x3 : Int32) (w : FW) : Option (Int32 × FW) :=
  (fLoop (σ := Int32 × FW) (ρ := FW) (fun s1 => (if 7 ≤ s1.1 then some (.inr s1.2) else fg (w.1 a0 = 6) inferInstance (fg (w.1 (gR s1.2 501 a0 0) = 11) inferInstance (fg (¬ ((10 + s1.1) < 0 ∨ w.2.1 (gR s1.2 501 a0 0) ≤ Int32.toNatClampNeg (10 + s1.1))) inferInstance (fg (w.1 (gR s1.2 510 a0 0) = 11) inferInstance (fg (¬ (s1.1 < 0 ∨ w.2.1 (gR s1.2 510 a0 0) ≤ Int32.toNatClampNeg s1.1)) inferInstance (some (.inl ((s1.1 + 1), (sI s1.2 601 (gR s1.2 510 a0 0) (Int32.toNatClampNeg s1.1) (gI s1.2 601 (gR s1.2 501 a0 0) (Int32.toNatClampNeg (10 + s1.1))))))))))))) (0, w)).bind (fun x7 => fg (w.1 a0 = 6) inferInstance ((F_X5_prints a0 x1 x2 x3 x7).bind (fun r16 => (if r16.1 = 0 then (fLoop (σ := Int32 × FW) (ρ := FW) (fun s21 => (if 7 ≤ s21.1 then some (.inr s21.2) else fg (w.1 (gR s21.2 501 a0 0) = 11) inferInstance (fg (¬ ((10 + s21.1) < 0 ∨ w.2.1 (gR s21.2 501 a0 0) ≤ Int32.toNatClampNeg (10 + s21.1))) inferInstance (some (.inl ((s21.1 + 1), (sI s21.2 601 (gR s21.2 501 a0 0) (Int32.toNatClampNeg (10 + s21.1)) 0))))))) (0, r16.2)).bind (fun x27 => some (r16.1, x27)) else some (r16.1, r16.2)))))
set_option maxHeartbeats 4000000 in
set_option maxRecDepth 100000 in
theorem c_X5_printsDraft (l : Launch) (D : va_G) (cy : Nat → ClassId) (a0 : Nat) (x1 : Int32) (x2 : Int32) (x3 : Int32) (w : FW) (r : Int32 × FW) (hF : F_X5_printsDraft a0 x1 x2 x3 w = some r) : fSpec l D cy yX5_printsDraft cX5_printsDraft 6 (some .int) { frames := 3, cells := 0, slots := 0, locals := 74 } [.ref a0, .int x1, .int x2, .int x3] w r.2 (some (.int r.1)) := by
  refine f_begin (by decide +kernel) (Nat.le_of_ble_eq_true rfl) (fun X hC hEn => ?_)
  unfold F_X5_printsDraft at hF
  show fAt X 0 0 6 w [(0, .ref a0), (1, .int x1), (2, .int x2), (3, .int x3)] [] 0
  refine f_iconst (v := 0) hC dX5_printsDraft_0 (by decide) ?_
  refine f_istore (L' := [(4, .int 0), (0, .ref a0), (1, .int x1), (2, .int x2), (3, .int x3)]) hC dX5_printsDraft_1 (by decide) rfl ?_
  obtain ⟨x7, h8, hF⟩ := fb_open hF
  have K9 : fSm x7 w → fAt X 0 0 6 x7 [(0, .ref a0), (1, .int x1), (2, .int x2), (3, .int x3)] [] 33 := by
    intro p5
    refine f_aload_n hC dX5_printsDraft_33 rfl 0 rfl ?_
    refine f_iload_n hC dX5_printsDraft_34 rfl 1 rfl ?_
    refine f_iload_n hC dX5_printsDraft_35 rfl 2 rfl ?_
    refine f_iload_n hC dX5_printsDraft_36 rfl 3 rfl ?_
    obtain ⟨g18, hF⟩ := fg_open hF
    obtain ⟨r16, h17, hF⟩ := fb_open hF
    refine f_callV hC [.int x1, .int x2, .int x3] (c_X5_prints l D cy a0 x1 x2 x3 x7 r16 h17) q_1400 q_137 q_1397 q_1399 q_82 h9_X5_prints rfl (fSm.k p5 g18) ⟨Nat.le_of_ble_eq_true rfl, Nat.le_of_ble_eq_true rfl⟩ ⟨Nat.le_of_ble_eq_true rfl, Nat.le_of_ble_eq_true rfl⟩ (Nat.le_of_ble_eq_true rfl) rfl dX5_printsDraft_37 (fun e19 => ?_)
    refine f_istore (L' := [(4, .int r16.1), (0, .ref a0), (1, .int x1), (2, .int x2), (3, .int x3)]) hC dX5_printsDraft_40 (by decide) rfl ?_
    refine f_iload hC dX5_printsDraft_42 0 rfl ?_
    refine f_if_ne hC 74 dX5_printsDraft_44 (by decide) (fun c20 => ?_) (fun c20 => ?_)
    · replace hF := fi_neg hF c20
      refine f_iload hC dX5_printsDraft_74 0 rfl ?_
      obtain rfl := Option.some.inj hF
      exact f_iret hC hEn (fSm.tr e19 p5) dX5_printsDraft_76
    · replace hF := fi_pos hF c20
      refine f_iconst (v := 0) hC dX5_printsDraft_47 (by decide) ?_
      refine f_istore (L' := [(5, .int 0), (4, .int r16.1), (0, .ref a0), (1, .int x1), (2, .int x2), (3, .int x3)]) hC dX5_printsDraft_48 (by decide) rfl ?_
      obtain ⟨x27, h28, hF⟩ := fb_open hF
      have K29 : fSm x27 w → fAt X 0 0 6 x27 [(4, .int r16.1)] [] 74 := by
        intro p25
        refine f_iload hC dX5_printsDraft_74 0 rfl ?_
        obtain rfl := Option.some.inj hF
        exact f_iret hC hEn p25 dX5_printsDraft_76
      refine f_sub (L' := [(0, .ref a0), (4, .int r16.1), (5, .int 0)]) [2, 1, 0] rfl ?_
      refine fLoop_ind (fun (s21 : Int32 × FW) => fSm s21.2 w → fAt X 0 0 6 s21.2 [(0, .ref a0), (4, .int r16.1), (5, .int s21.1)] [] 50) (fun s21 y26 h22 go23 ou24 => ?_) h28 (fSm.tr e19 p5)
      intro p25
      refine f_iload hC dX5_printsDraft_50 2 rfl ?_
      refine f_bipush (v := 7) hC dX5_printsDraft_52 (by decide) ?_
      refine f_icmp_ge hC 74 dX5_printsDraft_54 (by decide) (fun c30 => ?_) (fun c30 => ?_)
      · replace h22 := fi_pos h22 c30
        obtain rfl := Option.some.inj h22
        obtain rfl := ou24 _ rfl
        refine f_sub (L' := [(4, .int r16.1)]) [1] rfl ?_
        exact K29 p25
      · replace h22 := fi_neg h22 c30
        refine f_aload_n hC dX5_printsDraft_57 rfl 0 rfl ?_
        refine f_getR hC 5 1 501 rfl (by decide) iX5 q_1260 rfl rfl (fSm.k p25 g18) dX5_printsDraft_58 ?_
        refine f_bipush (v := 10) hC dX5_printsDraft_61 (by decide) ?_
        refine f_iload hC dX5_printsDraft_63 2 rfl ?_
        refine f_iadd hC dX5_printsDraft_65 ?_
        refine f_iconst (v := 0) hC dX5_printsDraft_66 (by decide) ?_
        obtain ⟨g31, h22⟩ := fg_open h22
        obtain ⟨g32, h22⟩ := fg_open h22
        refine f_iast hC (fSm.k p25 g31) (fSm.v p25 g32) dX5_printsDraft_67 ?_
        refine f_iinc (L' := [(5, .int (s21.1 + 1)), (0, .ref a0), (4, .int r16.1)]) hC dX5_printsDraft_68 2 rfl rfl (by decide) rfl ?_
        refine f_goto hC 50 dX5_printsDraft_71 (by decide) ?_
        obtain rfl := Option.some.inj h22
        refine f_sub (L' := [(0, .ref a0), (4, .int r16.1), (5, .int (s21.1 + 1))]) [1, 2, 0] rfl ?_
        exact go23 _ rfl p25
  refine f_sub (L' := [(0, .ref a0), (1, .int x1), (2, .int x2), (3, .int x3), (4, .int 0)]) [1, 2, 3, 4, 0] rfl ?_
  refine fLoop_ind (fun (s1 : Int32 × FW) => fSm s1.2 w → fAt X 0 0 6 s1.2 [(0, .ref a0), (1, .int x1), (2, .int x2), (3, .int x3), (4, .int s1.1)] [] 3) (fun s1 y6 h2 go3 ou4 => ?_) h8 (fSm.rf w)
  intro p5
  refine f_iload hC dX5_printsDraft_3 4 rfl ?_
  refine f_bipush (v := 7) hC dX5_printsDraft_5 (by decide) ?_
  refine f_icmp_ge hC 33 dX5_printsDraft_7 (by decide) (fun c10 => ?_) (fun c10 => ?_)
  · replace h2 := fi_pos h2 c10
    obtain rfl := Option.some.inj h2
    obtain rfl := ou4 _ rfl
    refine f_sub (L' := [(0, .ref a0), (1, .int x1), (2, .int x2), (3, .int x3)]) [0, 1, 2, 3] rfl ?_
    exact K9 p5
  · replace h2 := fi_neg h2 c10
    refine f_aload_n hC dX5_printsDraft_10 rfl 0 rfl ?_
    obtain ⟨g11, h2⟩ := fg_open h2
    refine f_getR hC 5 10 510 rfl (by decide) iX5 q_1269 rfl rfl (fSm.k p5 g11) dX5_printsDraft_11 ?_
    refine f_iload hC dX5_printsDraft_14 4 rfl ?_
    refine f_aload_n hC dX5_printsDraft_16 rfl 0 rfl ?_
    refine f_getR hC 5 1 501 rfl (by decide) iX5 q_1260 rfl rfl (fSm.k p5 g11) dX5_printsDraft_17 ?_
    refine f_bipush (v := 10) hC dX5_printsDraft_20 (by decide) ?_
    refine f_iload hC dX5_printsDraft_22 4 rfl ?_
    refine f_iadd hC dX5_printsDraft_24 ?_
    obtain ⟨g12, h2⟩ := fg_open h2
    obtain ⟨g13, h2⟩ := fg_open h2
    refine f_iald hC (fSm.k p5 g12) (fSm.v p5 g13) dX5_printsDraft_25 ?_
    obtain ⟨g14, h2⟩ := fg_open h2
    obtain ⟨g15, h2⟩ := fg_open h2
    refine f_iast hC (fSm.k p5 g14) (fSm.v p5 g15) dX5_printsDraft_26 ?_
    refine f_iinc (L' := [(4, .int (s1.1 + 1)), (0, .ref a0), (1, .int x1), (2, .int x2), (3, .int x3)]) hC dX5_printsDraft_27 4 rfl rfl (by decide) rfl ?_
    refine f_goto hC 3 dX5_printsDraft_30 (by decide) ?_
    obtain rfl := Option.some.inj h2
    refine f_sub (L' := [(0, .ref a0), (1, .int x1), (2, .int x2), (3, .int x3), (4, .int (s1.1 + 1))]) [1, 2, 3, 4, 0] rfl ?_
    exact go3 _ rfl p5
