theorem dX5_readAt_0 : decode cX5_readAt 0 = .ok (.aload_n 0, 1) := by decide +kernel
theorem dX5_readAt_1 : decode cX5_readAt 1 = .ok (.aload_n 0, 1) := by decide +kernel
theorem dX5_readAt_2 : decode cX5_readAt 2 = .ok (.iload_n 1, 1) := by decide +kernel
theorem dX5_readAt_3 : decode cX5_readAt 3 = .ok (.invokevirtual 135, 3) := by decide +kernel
theorem dX5_readAt_6 : decode cX5_readAt 6 = .ok (.ifCond .ne 7, 3) := by decide +kernel
theorem dX5_readAt_9 : decode cX5_readAt 9 = .ok (.iconst 1, 1) := by decide +kernel
theorem dX5_readAt_10 : decode cX5_readAt 10 = .ok (.goto 36, 3) := by decide +kernel
theorem dX5_readAt_13 : decode cX5_readAt 13 = .ok (.aload_n 0, 1) := by decide +kernel
theorem dX5_readAt_14 : decode cX5_readAt 14 = .ok (.iload_n 1, 1) := by decide +kernel
theorem dX5_readAt_15 : decode cX5_readAt 15 = .ok (.iload_n 2, 1) := by decide +kernel
theorem dX5_readAt_16 : decode cX5_readAt 16 = .ok (.invokestatic 194, 3) := by decide +kernel
theorem dX5_readAt_19 : decode cX5_readAt 19 = .ok (.invokevirtual 92, 3) := by decide +kernel
theorem dX5_readAt_22 : decode cX5_readAt 22 = .ok (.ifCond .eq 23, 3) := by decide +kernel
theorem dX5_readAt_25 : decode cX5_readAt 25 = .ok (.iload_n 3, 1) := by decide +kernel
theorem dX5_readAt_26 : decode cX5_readAt 26 = .ok (.iconst 0, 1) := by decide +kernel
theorem dX5_readAt_27 : decode cX5_readAt 27 = .ok (.aload_n 0, 1) := by decide +kernel
theorem dX5_readAt_28 : decode cX5_readAt 28 = .ok (.iload_n 1, 1) := by decide +kernel
theorem dX5_readAt_29 : decode cX5_readAt 29 = .ok (.iconst 0, 1) := by decide +kernel
theorem dX5_readAt_30 : decode cX5_readAt 30 = .ok (.invokevirtual 70, 3) := by decide +kernel
theorem dX5_readAt_33 : decode cX5_readAt 33 = .ok (.iconst 1, 1) := by decide +kernel
theorem dX5_readAt_34 : decode cX5_readAt 34 = .ok (.isub, 1) := by decide +kernel
theorem dX5_readAt_35 : decode cX5_readAt 35 = .ok (.invokestatic 66, 3) := by decide +kernel
theorem dX5_readAt_38 : decode cX5_readAt 38 = .ok (.ifCond .eq 7, 3) := by decide +kernel
theorem dX5_readAt_41 : decode cX5_readAt 41 = .ok (.iconst 0, 1) := by decide +kernel
theorem dX5_readAt_42 : decode cX5_readAt 42 = .ok (.goto 4, 3) := by decide +kernel
theorem dX5_readAt_45 : decode cX5_readAt 45 = .ok (.iconst 2, 1) := by decide +kernel
theorem dX5_readAt_46 : decode cX5_readAt 46 = .ok (.putfield 41, 3) := by decide +kernel
theorem dX5_readAt_49 : decode cX5_readAt 49 = .ok (.aload_n 0, 1) := by decide +kernel
theorem dX5_readAt_50 : decode cX5_readAt 50 = .ok (.getfield 41, 3) := by decide +kernel
theorem dX5_readAt_53 : decode cX5_readAt 53 = .ok (.ifCond .le 7, 3) := by decide +kernel
theorem dX5_readAt_56 : decode cX5_readAt 56 = .ok (.iconst 0, 1) := by decide +kernel
theorem dX5_readAt_57 : decode cX5_readAt 57 = .ok (.goto 14, 3) := by decide +kernel
theorem dX5_readAt_60 : decode cX5_readAt 60 = .ok (.aload_n 0, 1) := by decide +kernel
theorem dX5_readAt_61 : decode cX5_readAt 61 = .ok (.iload_n 1, 1) := by decide +kernel
theorem dX5_readAt_62 : decode cX5_readAt 62 = .ok (.iload_n 2, 1) := by decide +kernel
theorem dX5_readAt_63 : decode cX5_readAt 63 = .ok (.invokestatic 194, 3) := by decide +kernel
theorem dX5_readAt_66 : decode cX5_readAt 66 = .ok (.iload_n 3, 1) := by decide +kernel
theorem dX5_readAt_67 : decode cX5_readAt 67 = .ok (.invokevirtual 116, 3) := by decide +kernel
theorem dX5_readAt_70 : decode cX5_readAt 70 = .ok (.i2c, 1) := by decide +kernel
theorem dX5_readAt_71 : decode cX5_readAt 71 = .ok (.ireturn, 1) := by decide +kernel
theorem h9_X5_readAt : yX5_readAt.cls ≠ "java/lang/invoke/MethodHandle" ∧ yX5_readAt.cls ≠ "java/lang/invoke/VarHandle" ∧ (parseMethodDescriptor yX5_readAt.desc).map (fun d => d.parameters.length) = some 3 := by decide +kernel
noncomputable def F_X5_readAt (a0 : Nat) (x1 : Int32) (x2 : Int32) (x3 : Int32) (w : FW) : Option (Int32 × FW) :=
  fg (w.1 a0 = 6) inferInstance ((F_X5_isTicket a0 x1 w).bind (fun r1 => ((if r1 = 0 then some 1 else (F_X5_number x2 w).bind (fun r18 => (F_X5_isPunched a0 x1 r18 w).bind (fun r21 => (if r21 = 0 then some 2 else (F_X5_of a0 x1 0 w).bind (fun r25 => (F_X5_in x3 0 (r25 - 1) w).bind (fun r28 => (if r28 = 0 then some 2 else some 0))))))) : Option (Int32)).bind (fun x5 => (if (gI (sI w 500 a0 0 x5) 500 a0 0) ≤ 0 then (F_X5_number x2 (sI w 500 a0 0 x5)).bind (fun r10 => (F_X5_reads a0 x1 r10 x3 (sI w 500 a0 0 x5)).bind (fun r13 => fg (fch (fch r13) = (fch r13)) inferInstance (some ((fch r13), (sI w 500 a0 0 x5))))) else some (0, (sI w 500 a0 0 x5))))))
set_option maxHeartbeats 4000000 in
set_option maxRecDepth 100000 in
theorem c_X5_readAt (l : Launch) (D : va_G) (cy : Nat → ClassId) (a0 : Nat) (x1 : Int32) (x2 : Int32) (x3 : Int32) (w : FW) (r : Int32 × FW) (hF : F_X5_readAt a0 x1 x2 x3 w = some r) : fSpec l D cy yX5_readAt cX5_readAt 4 (some .char) { frames := 7, cells := 0, slots := 0, locals := 165 } [.ref a0, .int x1, .int x2, .int x3] w r.2 (some (.int r.1)) := by
  refine f_begin (by decide +kernel) (Nat.le_of_ble_eq_true rfl) (fun X hC hEn => ?_)
  unfold F_X5_readAt at hF
  show fAt X 0 0 4 w [(0, .ref a0), (1, .int x1), (2, .int x2), (3, .int x3)] [] 0
  refine f_aload_n hC dX5_readAt_0 rfl 0 rfl ?_
  refine f_aload_n hC dX5_readAt_1 rfl 0 rfl ?_
  refine f_iload_n hC dX5_readAt_2 rfl 1 rfl ?_
  obtain ⟨g3, hF⟩ := fg_open hF
  obtain ⟨r1, h2, hF⟩ := fb_open hF
  refine f_callV hC [.int x1] (c_X5_isTicket l D cy a0 x1 w r1 h2) q_1415 q_136 q_1412 q_1414 q_85 h9_X5_isTicket rfl (fSm.k (fSm.rf w) g3) ⟨Nat.le_of_ble_eq_true rfl, Nat.le_of_ble_eq_true rfl⟩ ⟨Nat.le_of_ble_eq_true rfl, Nat.le_of_ble_eq_true rfl⟩ (Nat.le_of_ble_eq_true rfl) rfl dX5_readAt_3 (fun e4 => ?_)
  obtain ⟨x5, h6, hF⟩ := fb_open hF
  have K8 : fAt X 0 0 4 w [(0, .ref a0), (1, .int x1), (2, .int x2), (3, .int x3)] [.int x5, .ref a0] 46 := by
    refine f_putI hC 5 0 500 rfl (by decide) iX5 tyX5 tyX5_ok nmX5 q_1254 rfl rfl rfl rfl rfl (fSm.k (fSm.rf w) g3) dX5_readAt_46 ?_
    refine f_aload_n hC dX5_readAt_49 rfl 0 rfl ?_
    refine f_getI hC 5 0 500 rfl (by decide) iX5 q_1254 rfl rfl (fSm.k (fSm.rf w) g3) dX5_readAt_50 ?_
    refine f_if_le hC 60 dX5_readAt_53 (by decide) (fun c9 => ?_) (fun c9 => ?_)
    · replace hF := fi_pos hF c9
      refine f_aload_n hC dX5_readAt_60 rfl 0 rfl ?_
      refine f_iload_n hC dX5_readAt_61 rfl 1 rfl ?_
      refine f_iload_n hC dX5_readAt_62 rfl 2 rfl ?_
      obtain ⟨r10, h11, hF⟩ := fb_open hF
      refine f_callS hC [.int x2] (c_X5_number l D cy x2 (sI w 500 a0 0 x5) r10 h11) q_1466 q_136 q_1464 q_1465 h9_X5_number ⟨Nat.le_of_ble_eq_true rfl, Nat.le_of_ble_eq_true rfl⟩ ⟨Nat.le_of_ble_eq_true rfl, Nat.le_of_ble_eq_true rfl⟩ (Nat.le_of_ble_eq_true rfl) rfl dX5_readAt_63 (fun e12 => ?_)
      refine f_iload_n hC dX5_readAt_66 rfl 3 rfl ?_
      obtain ⟨r13, h14, hF⟩ := fb_open hF
      refine f_callV hC [.int x1, .int r10, .int x3] (c_X5_reads l D cy a0 x1 r10 x3 (sI w 500 a0 0 x5) r13 h14) q_1560 q_136 q_1557 q_1559 q_108 h9_X5_reads rfl (fSm.k (fSm.rf w) g3) ⟨Nat.le_of_ble_eq_true rfl, Nat.le_of_ble_eq_true rfl⟩ ⟨Nat.le_of_ble_eq_true rfl, Nat.le_of_ble_eq_true rfl⟩ (Nat.le_of_ble_eq_true rfl) rfl dX5_readAt_67 (fun e15 => ?_)
      refine f_i2c hC dX5_readAt_70 ?_
      obtain ⟨g16, hF⟩ := fg_open hF
      obtain rfl := Option.some.inj hF
      exact f_zret hC hEn (fSm.rf w) (nar_c g16) dX5_readAt_71
    · replace hF := fi_neg hF c9
      refine f_iconst (v := 0) hC dX5_readAt_56 (by decide) ?_
      refine f_goto hC 71 dX5_readAt_57 (by decide) ?_
      obtain rfl := Option.some.inj hF
      exact f_zret hC hEn (fSm.rf w) (nar_c (by decide)) dX5_readAt_71
  refine f_if_ne hC 13 dX5_readAt_6 (by decide) (fun c17 => ?_) (fun c17 => ?_)
  · replace h6 := fi_neg h6 c17
    refine f_aload_n hC dX5_readAt_13 rfl 0 rfl ?_
    refine f_iload_n hC dX5_readAt_14 rfl 1 rfl ?_
    refine f_iload_n hC dX5_readAt_15 rfl 2 rfl ?_
    obtain ⟨r18, h19, h6⟩ := fb_open h6
    refine f_callS hC [.int x2] (c_X5_number l D cy x2 w r18 h19) q_1466 q_136 q_1464 q_1465 h9_X5_number ⟨Nat.le_of_ble_eq_true rfl, Nat.le_of_ble_eq_true rfl⟩ ⟨Nat.le_of_ble_eq_true rfl, Nat.le_of_ble_eq_true rfl⟩ (Nat.le_of_ble_eq_true rfl) rfl dX5_readAt_16 (fun e20 => ?_)
    obtain ⟨r21, h22, h6⟩ := fb_open h6
    refine f_callV hC [.int x1, .int r18] (c_X5_isPunched l D cy a0 x1 r18 w r21 h22) q_1474 q_136 q_1471 q_1473 q_94 h9_X5_isPunched rfl (fSm.k (fSm.rf w) g3) ⟨Nat.le_of_ble_eq_true rfl, Nat.le_of_ble_eq_true rfl⟩ ⟨Nat.le_of_ble_eq_true rfl, Nat.le_of_ble_eq_true rfl⟩ (Nat.le_of_ble_eq_true rfl) rfl dX5_readAt_19 (fun e23 => ?_)
    refine f_if_eq hC 45 dX5_readAt_22 (by decide) (fun c24 => ?_) (fun c24 => ?_)
    · replace h6 := fi_pos h6 c24
      refine f_iconst (v := 2) hC dX5_readAt_45 (by decide) ?_
      obtain rfl := Option.some.inj h6
      exact K8
    · replace h6 := fi_neg h6 c24
      refine f_iload_n hC dX5_readAt_25 rfl 3 rfl ?_
      refine f_iconst (v := 0) hC dX5_readAt_26 (by decide) ?_
      refine f_aload_n hC dX5_readAt_27 rfl 0 rfl ?_
      refine f_iload_n hC dX5_readAt_28 rfl 1 rfl ?_
      refine f_iconst (v := 0) hC dX5_readAt_29 (by decide) ?_
      obtain ⟨r25, h26, h6⟩ := fb_open h6
      refine f_callV hC [.int x1, .int 0] (c_X5_of l D cy a0 x1 0 w r25 h26) q_1447 q_136 q_1444 q_1446 q_90 h9_X5_of rfl (fSm.k (fSm.rf w) g3) ⟨Nat.le_of_ble_eq_true rfl, Nat.le_of_ble_eq_true rfl⟩ ⟨Nat.le_of_ble_eq_true rfl, Nat.le_of_ble_eq_true rfl⟩ (Nat.le_of_ble_eq_true rfl) rfl dX5_readAt_30 (fun e27 => ?_)
      refine f_iconst (v := 1) hC dX5_readAt_33 (by decide) ?_
      refine f_isub hC dX5_readAt_34 ?_
      obtain ⟨r28, h29, h6⟩ := fb_open h6
      refine f_callS hC [.int x3, .int 0, .int (r25 - 1)] (c_X5_in l D cy x3 0 (r25 - 1) w r28 h29) q_1352 q_136 q_1350 q_1351 h9_X5_in ⟨Nat.le_of_ble_eq_true rfl, Nat.le_of_ble_eq_true rfl⟩ ⟨Nat.le_of_ble_eq_true rfl, Nat.le_of_ble_eq_true rfl⟩ (Nat.le_of_ble_eq_true rfl) rfl dX5_readAt_35 (fun e30 => ?_)
      refine f_if_eq hC 45 dX5_readAt_38 (by decide) (fun c31 => ?_) (fun c31 => ?_)
      · replace h6 := fi_pos h6 c31
        refine f_iconst (v := 2) hC dX5_readAt_45 (by decide) ?_
        obtain rfl := Option.some.inj h6
        exact K8
      · replace h6 := fi_neg h6 c31
        refine f_iconst (v := 0) hC dX5_readAt_41 (by decide) ?_
        refine f_goto hC 46 dX5_readAt_42 (by decide) ?_
        obtain rfl := Option.some.inj h6
        exact K8
  · replace h6 := fi_pos h6 c17
    refine f_iconst (v := 1) hC dX5_readAt_9 (by decide) ?_
    refine f_goto hC 46 dX5_readAt_10 (by decide) ?_
    obtain rfl := Option.some.inj h6
    exact K8
theorem dX5_doAgree_0 : decode cX5_doAgree 0 = .ok (.aload_n 0, 1) := by decide +kernel
theorem dX5_doAgree_1 : decode cX5_doAgree 1 = .ok (.aload_n 0, 1) := by decide +kernel
theorem dX5_doAgree_2 : decode cX5_doAgree 2 = .ok (.iload_n 1, 1) := by decide +kernel
theorem dX5_doAgree_3 : decode cX5_doAgree 3 = .ok (.invokevirtual 135, 3) := by decide +kernel
theorem dX5_doAgree_6 : decode cX5_doAgree 6 = .ok (.ifCond .eq 7, 3) := by decide +kernel
theorem dX5_doAgree_9 : decode cX5_doAgree 9 = .ok (.iconst 0, 1) := by decide +kernel
theorem dX5_doAgree_10 : decode cX5_doAgree 10 = .ok (.goto 4, 3) := by decide +kernel
theorem dX5_doAgree_13 : decode cX5_doAgree 13 = .ok (.iconst 1, 1) := by decide +kernel
theorem dX5_doAgree_14 : decode cX5_doAgree 14 = .ok (.putfield 41, 3) := by decide +kernel
theorem dX5_doAgree_17 : decode cX5_doAgree 17 = .ok (.aload_n 0, 1) := by decide +kernel
theorem dX5_doAgree_18 : decode cX5_doAgree 18 = .ok (.getfield 41, 3) := by decide +kernel
theorem dX5_doAgree_21 : decode cX5_doAgree 21 = .ok (.ifCond .gt 21, 3) := by decide +kernel
theorem dX5_doAgree_24 : decode cX5_doAgree 24 = .ok (.aload_n 0, 1) := by decide +kernel
theorem dX5_doAgree_25 : decode cX5_doAgree 25 = .ok (.iload_n 1, 1) := by decide +kernel
theorem dX5_doAgree_26 : decode cX5_doAgree 26 = .ok (.iconst 0, 1) := by decide +kernel
theorem dX5_doAgree_27 : decode cX5_doAgree 27 = .ok (.invokevirtual 92, 3) := by decide +kernel
theorem dX5_doAgree_30 : decode cX5_doAgree 30 = .ok (.ifCond .eq 12, 3) := by decide +kernel
theorem dX5_doAgree_33 : decode cX5_doAgree 33 = .ok (.aload_n 0, 1) := by decide +kernel
theorem dX5_doAgree_34 : decode cX5_doAgree 34 = .ok (.iload_n 1, 1) := by decide +kernel
theorem dX5_doAgree_35 : decode cX5_doAgree 35 = .ok (.iconst 1, 1) := by decide +kernel
theorem dX5_doAgree_36 : decode cX5_doAgree 36 = .ok (.invokevirtual 92, 3) := by decide +kernel
theorem dX5_doAgree_39 : decode cX5_doAgree 39 = .ok (.ifCond .ne 5, 3) := by decide +kernel
theorem dX5_doAgree_42 : decode cX5_doAgree 42 = .ok (.iconst 0, 1) := by decide +kernel
theorem dX5_doAgree_43 : decode cX5_doAgree 43 = .ok (.ireturn, 1) := by decide +kernel
theorem dX5_doAgree_44 : decode cX5_doAgree 44 = .ok (.iconst 0, 1) := by decide +kernel
theorem dX5_doAgree_45 : decode cX5_doAgree 45 = .ok (.istore_n 3, 1) := by decide +kernel
theorem dX5_doAgree_46 : decode cX5_doAgree 46 = .ok (.iload_n 3, 1) := by decide +kernel
theorem dX5_doAgree_47 : decode cX5_doAgree 47 = .ok (.aload_n 0, 1) := by decide +kernel
theorem dX5_doAgree_48 : decode cX5_doAgree 48 = .ok (.iload_n 1, 1) := by decide +kernel
theorem dX5_doAgree_49 : decode cX5_doAgree 49 = .ok (.iconst 0, 1) := by decide +kernel
theorem dX5_doAgree_50 : decode cX5_doAgree 50 = .ok (.invokevirtual 70, 3) := by decide +kernel
theorem dX5_doAgree_53 : decode cX5_doAgree 53 = .ok (.if_icmp .ge 28, 3) := by decide +kernel
theorem dX5_doAgree_56 : decode cX5_doAgree 56 = .ok (.aload_n 0, 1) := by decide +kernel
theorem dX5_doAgree_57 : decode cX5_doAgree 57 = .ok (.iload_n 1, 1) := by decide +kernel
theorem dX5_doAgree_58 : decode cX5_doAgree 58 = .ok (.iconst 0, 1) := by decide +kernel
theorem dX5_doAgree_59 : decode cX5_doAgree 59 = .ok (.iload_n 3, 1) := by decide +kernel
theorem dX5_doAgree_60 : decode cX5_doAgree 60 = .ok (.invokevirtual 116, 3) := by decide +kernel
theorem dX5_doAgree_63 : decode cX5_doAgree 63 = .ok (.aload_n 0, 1) := by decide +kernel
theorem dX5_doAgree_64 : decode cX5_doAgree 64 = .ok (.iload_n 1, 1) := by decide +kernel
theorem dX5_doAgree_65 : decode cX5_doAgree 65 = .ok (.iconst 1, 1) := by decide +kernel
theorem dX5_doAgree_66 : decode cX5_doAgree 66 = .ok (.iload_n 3, 1) := by decide +kernel
theorem dX5_doAgree_67 : decode cX5_doAgree 67 = .ok (.invokevirtual 116, 3) := by decide +kernel
theorem dX5_doAgree_70 : decode cX5_doAgree 70 = .ok (.if_icmp .eq 5, 3) := by decide +kernel
theorem dX5_doAgree_73 : decode cX5_doAgree 73 = .ok (.iconst 0, 1) := by decide +kernel
theorem dX5_doAgree_74 : decode cX5_doAgree 74 = .ok (.ireturn, 1) := by decide +kernel
theorem dX5_doAgree_75 : decode cX5_doAgree 75 = .ok (.iinc 3 1, 3) := by decide +kernel
theorem dX5_doAgree_78 : decode cX5_doAgree 78 = .ok (.goto (-32), 3) := by decide +kernel
theorem dX5_doAgree_81 : decode cX5_doAgree 81 = .ok (.iconst 1, 1) := by decide +kernel
theorem dX5_doAgree_82 : decode cX5_doAgree 82 = .ok (.ireturn, 1) := by decide +kernel
theorem h9_X5_doAgree : yX5_doAgree.cls ≠ "java/lang/invoke/MethodHandle" ∧ yX5_doAgree.cls ≠ "java/lang/invoke/VarHandle" ∧ (parseMethodDescriptor yX5_doAgree.desc).map (fun d => d.parameters.length) = some 2 := by decide +kernel
noncomputable def F_X5_doAgree (a0 : Nat) (x1 : Int32) (x2 : Int32) (w : FW) : Option (Int32 × FW) :=
  fg (w.1 a0 = 6) inferInstance ((F_X5_isTicket a0 x1 w).bind (fun r1 => ((if r1 = 0 then some 1 else some 0) : Option (Int32)).bind (fun x5 => (if 0 < (gI (sI w 500 a0 0 x5) 500 a0 0) then some (0, (sI w 500 a0 0 x5)) else (F_X5_isPunched a0 x1 0 (sI w 500 a0 0 x5)).bind (fun r10 => (if r10 = 0 then some (0, (sI w 500 a0 0 x5)) else (F_X5_isPunched a0 x1 1 (sI w 500 a0 0 x5)).bind (fun r14 => (if r14 = 0 then some (0, (sI w 500 a0 0 x5)) else (fLoop (σ := Int32) (ρ := (Unit) ⊕ (Int32 × FW)) (fun s18 => (F_X5_of a0 x1 0 (sI w 500 a0 0 x5)).bind (fun r27 => (if r27 ≤ s18 then some (.inr (.inl ())) else (F_X5_reads a0 x1 0 s18 (sI w 500 a0 0 x5)).bind (fun r31 => (F_X5_reads a0 x1 1 s18 (sI w 500 a0 0 x5)).bind (fun r34 => (if r31 = r34 then some (.inl (s18 + 1)) else some (.inr (.inr (0, (sI w 500 a0 0 x5)))))))))) 0).bind (fun x24 => fse x24 (fun z38 => some (1, (sI w 500 a0 0 x5))) (fun q9 => some q9))))))))))
set_option maxHeartbeats 4000000 in
set_option maxRecDepth 100000 in
theorem c_X5_doAgree (l : Launch) (D : va_G) (cy : Nat → ClassId) (a0 : Nat) (x1 : Int32) (x2 : Int32) (w : FW) (r : Int32 × FW) (hF : F_X5_doAgree a0 x1 x2 w = some r) : fSpec l D cy yX5_doAgree cX5_doAgree 4 (some .boolean) { frames := 7, cells := 0, slots := 0, locals := 165 } [.ref a0, .int x1, .int x2] w r.2 (some (.int r.1)) := by
  refine f_begin (by decide +kernel) (Nat.le_of_ble_eq_true rfl) (fun X hC hEn => ?_)
  unfold F_X5_doAgree at hF
  show fAt X 0 0 4 w [(0, .ref a0), (1, .int x1), (2, .int x2)] [] 0
  refine f_aload_n hC dX5_doAgree_0 rfl 0 rfl ?_
  refine f_aload_n hC dX5_doAgree_1 rfl 0 rfl ?_
  refine f_iload_n hC dX5_doAgree_2 rfl 1 rfl ?_
  obtain ⟨g3, hF⟩ := fg_open hF
  obtain ⟨r1, h2, hF⟩ := fb_open hF
  refine f_callV hC [.int x1] (c_X5_isTicket l D cy a0 x1 w r1 h2) q_1415 q_136 q_1412 q_1414 q_85 h9_X5_isTicket rfl (fSm.k (fSm.rf w) g3) ⟨Nat.le_of_ble_eq_true rfl, Nat.le_of_ble_eq_true rfl⟩ ⟨Nat.le_of_ble_eq_true rfl, Nat.le_of_ble_eq_true rfl⟩ (Nat.le_of_ble_eq_true rfl) rfl dX5_doAgree_3 (fun e4 => ?_)
  obtain ⟨x5, h6, hF⟩ := fb_open hF
  have K8 : fAt X 0 0 4 w [(0, .ref a0), (1, .int x1)] [.int x5, .ref a0] 14 := by
    refine f_putI hC 5 0 500 rfl (by decide) iX5 tyX5 tyX5_ok nmX5 q_1254 rfl rfl rfl rfl rfl (fSm.k (fSm.rf w) g3) dX5_doAgree_14 ?_
    refine f_aload_n hC dX5_doAgree_17 rfl 0 rfl ?_
    refine f_getI hC 5 0 500 rfl (by decide) iX5 q_1254 rfl rfl (fSm.k (fSm.rf w) g3) dX5_doAgree_18 ?_
    refine f_if_gt hC 42 dX5_doAgree_21 (by decide) (fun c9 => ?_) (fun c9 => ?_)
    · replace hF := fi_pos hF c9
      refine f_iconst (v := 0) hC dX5_doAgree_42 (by decide) ?_
      obtain rfl := Option.some.inj hF
      exact f_zret hC hEn (fSm.rf w) (nar_z (by decide)) dX5_doAgree_43
    · replace hF := fi_neg hF c9
      refine f_aload_n hC dX5_doAgree_24 rfl 0 rfl ?_
      refine f_iload_n hC dX5_doAgree_25 rfl 1 rfl ?_
      refine f_iconst (v := 0) hC dX5_doAgree_26 (by decide) ?_
      obtain ⟨r10, h11, hF⟩ := fb_open hF
      refine f_callV hC [.int x1, .int 0] (c_X5_isPunched l D cy a0 x1 0 (sI w 500 a0 0 x5) r10 h11) q_1474 q_136 q_1471 q_1473 q_94 h9_X5_isPunched rfl (fSm.k (fSm.rf w) g3) ⟨Nat.le_of_ble_eq_true rfl, Nat.le_of_ble_eq_true rfl⟩ ⟨Nat.le_of_ble_eq_true rfl, Nat.le_of_ble_eq_true rfl⟩ (Nat.le_of_ble_eq_true rfl) rfl dX5_doAgree_27 (fun e12 => ?_)
      refine f_if_eq hC 42 dX5_doAgree_30 (by decide) (fun c13 => ?_) (fun c13 => ?_)
      · replace hF := fi_pos hF c13
        refine f_iconst (v := 0) hC dX5_doAgree_42 (by decide) ?_
        obtain rfl := Option.some.inj hF
        exact f_zret hC hEn (fSm.rf w) (nar_z (by decide)) dX5_doAgree_43
      · replace hF := fi_neg hF c13
        refine f_aload_n hC dX5_doAgree_33 rfl 0 rfl ?_
        refine f_iload_n hC dX5_doAgree_34 rfl 1 rfl ?_
        refine f_iconst (v := 1) hC dX5_doAgree_35 (by decide) ?_
        obtain ⟨r14, h15, hF⟩ := fb_open hF
        refine f_callV hC [.int x1, .int 1] (c_X5_isPunched l D cy a0 x1 1 (sI w 500 a0 0 x5) r14 h15) q_1474 q_136 q_1471 q_1473 q_94 h9_X5_isPunched rfl (fSm.k (fSm.rf w) g3) ⟨Nat.le_of_ble_eq_true rfl, Nat.le_of_ble_eq_true rfl⟩ ⟨Nat.le_of_ble_eq_true rfl, Nat.le_of_ble_eq_true rfl⟩ (Nat.le_of_ble_eq_true rfl) rfl dX5_doAgree_36 (fun e16 => ?_)
        refine f_if_ne hC 44 dX5_doAgree_39 (by decide) (fun c17 => ?_) (fun c17 => ?_)
        · replace hF := fi_neg hF c17
          refine f_iconst (v := 0) hC dX5_doAgree_44 (by decide) ?_
          refine f_istore_n (L' := [(3, .int 0), (0, .ref a0), (1, .int x1)]) hC dX5_doAgree_45 rfl (by decide) rfl ?_
          obtain ⟨x24, h25, hF⟩ := fb_open hF
          have K26 : ∀ z38, x24 = .inl z38 → fAt X 0 0 4 (sI w 500 a0 0 x5) [] [] 81 := by
            intro z38 hz9
            subst hz9
            refine f_iconst (v := 1) hC dX5_doAgree_81 (by decide) ?_
            obtain rfl := Option.some.inj hF
            exact f_zret hC hEn (fSm.rf w) (nar_z (by decide)) dX5_doAgree_82
          refine f_sub (L' := [(0, .ref a0), (1, .int x1), (3, .int 0)]) [1, 2, 0] rfl ?_
          refine fLoop_ind (fun (s18 : Int32) => fAt X 0 0 4 (sI w 500 a0 0 x5) [(0, .ref a0), (1, .int x1), (3, .int s18)] [] 46) (fun s18 y23 h19 go20 ou21 => ?_) h25
          refine f_iload_n hC dX5_doAgree_46 rfl 2 rfl ?_
          refine f_aload_n hC dX5_doAgree_47 rfl 0 rfl ?_
          refine f_iload_n hC dX5_doAgree_48 rfl 1 rfl ?_
          refine f_iconst (v := 0) hC dX5_doAgree_49 (by decide) ?_
          obtain ⟨r27, h28, h19⟩ := fb_open h19
          refine f_callV hC [.int x1, .int 0] (c_X5_of l D cy a0 x1 0 (sI w 500 a0 0 x5) r27 h28) q_1447 q_136 q_1444 q_1446 q_90 h9_X5_of rfl (fSm.k (fSm.rf w) g3) ⟨Nat.le_of_ble_eq_true rfl, Nat.le_of_ble_eq_true rfl⟩ ⟨Nat.le_of_ble_eq_true rfl, Nat.le_of_ble_eq_true rfl⟩ (Nat.le_of_ble_eq_true rfl) rfl dX5_doAgree_50 (fun e29 => ?_)
          refine f_icmp_ge hC 81 dX5_doAgree_53 (by decide) (fun c30 => ?_) (fun c30 => ?_)
          · replace h19 := fi_pos h19 c30
            obtain rfl := Option.some.inj h19
            have eo := ou21 _ rfl
            refine f_sub (L' := []) [] rfl ?_
            exact K26 _ eo.symm
          · replace h19 := fi_neg h19 c30
            refine f_aload_n hC dX5_doAgree_56 rfl 0 rfl ?_
            refine f_iload_n hC dX5_doAgree_57 rfl 1 rfl ?_
            refine f_iconst (v := 0) hC dX5_doAgree_58 (by decide) ?_
            refine f_iload_n hC dX5_doAgree_59 rfl 2 rfl ?_
            obtain ⟨r31, h32, h19⟩ := fb_open h19
            refine f_callV hC [.int x1, .int 0, .int s18] (c_X5_reads l D cy a0 x1 0 s18 (sI w 500 a0 0 x5) r31 h32) q_1560 q_136 q_1557 q_1559 q_108 h9_X5_reads rfl (fSm.k (fSm.rf w) g3) ⟨Nat.le_of_ble_eq_true rfl, Nat.le_of_ble_eq_true rfl⟩ ⟨Nat.le_of_ble_eq_true rfl, Nat.le_of_ble_eq_true rfl⟩ (Nat.le_of_ble_eq_true rfl) rfl dX5_doAgree_60 (fun e33 => ?_)
            refine f_aload_n hC dX5_doAgree_63 rfl 0 rfl ?_
            refine f_iload_n hC dX5_doAgree_64 rfl 1 rfl ?_
            refine f_iconst (v := 1) hC dX5_doAgree_65 (by decide) ?_
            refine f_iload_n hC dX5_doAgree_66 rfl 2 rfl ?_
            obtain ⟨r34, h35, h19⟩ := fb_open h19
            refine f_callV hC [.int x1, .int 1, .int s18] (c_X5_reads l D cy a0 x1 1 s18 (sI w 500 a0 0 x5) r34 h35) q_1560 q_136 q_1557 q_1559 q_108 h9_X5_reads rfl (fSm.k (fSm.rf w) g3) ⟨Nat.le_of_ble_eq_true rfl, Nat.le_of_ble_eq_true rfl⟩ ⟨Nat.le_of_ble_eq_true rfl, Nat.le_of_ble_eq_true rfl⟩ (Nat.le_of_ble_eq_true rfl) rfl dX5_doAgree_67 (fun e36 => ?_)
            refine f_icmp_eq hC 75 dX5_doAgree_70 (by decide) (fun c37 => ?_) (fun c37 => ?_)
            · replace h19 := fi_pos h19 c37
              refine f_iinc (L' := [(3, .int (s18 + 1)), (0, .ref a0), (1, .int x1)]) hC dX5_doAgree_75 2 rfl rfl (by decide) rfl ?_
              refine f_goto hC 46 dX5_doAgree_78 (by decide) ?_
              obtain rfl := Option.some.inj h19
              refine f_sub (L' := [(0, .ref a0), (1, .int x1), (3, .int (s18 + 1))]) [1, 2, 0] rfl ?_
              exact go20 _ rfl
            · replace h19 := fi_neg h19 c37
              refine f_iconst (v := 0) hC dX5_doAgree_73 (by decide) ?_
              obtain rfl := Option.some.inj h19
              obtain rfl := ou21 _ rfl
              obtain rfl := Option.some.inj hF
              exact f_zret hC hEn (fSm.rf w) (nar_z (by decide)) dX5_doAgree_74
        · replace hF := fi_pos hF c17
          refine f_iconst (v := 0) hC dX5_doAgree_42 (by decide) ?_
          obtain rfl := Option.some.inj hF
          exact f_zret hC hEn (fSm.rf w) (nar_z (by decide)) dX5_doAgree_43
  refine f_if_eq hC 13 dX5_doAgree_6 (by decide) (fun c39 => ?_) (fun c39 => ?_)
  · replace h6 := fi_pos h6 c39
    refine f_iconst (v := 1) hC dX5_doAgree_13 (by decide) ?_
    obtain rfl := Option.some.inj h6
    refine f_sub (L' := [(0, .ref a0), (1, .int x1)]) [0, 1] rfl ?_
    exact K8
  · replace h6 := fi_neg h6 c39
    refine f_iconst (v := 0) hC dX5_doAgree_9 (by decide) ?_
    refine f_goto hC 14 dX5_doAgree_10 (by decide) ?_
    obtain rfl := Option.some.inj h6
    refine f_sub (L' := [(0, .ref a0), (1, .int x1)]) [0, 1] rfl ?_
    exact K8
theorem dX5_halfThere_0 : decode cX5_halfThere 0 = .ok (.aload_n 0, 1) := by decide +kernel
theorem dX5_halfThere_1 : decode cX5_halfThere 1 = .ok (.iload_n 1, 1) := by decide +kernel
theorem dX5_halfThere_2 : decode cX5_halfThere 2 = .ok (.invokevirtual 135, 3) := by decide +kernel
theorem dX5_halfThere_5 : decode cX5_halfThere 5 = .ok (.ifCond .ne 7, 3) := by decide +kernel
theorem dX5_halfThere_8 : decode cX5_halfThere 8 = .ok (.iconst 1, 1) := by decide +kernel
theorem dX5_halfThere_9 : decode cX5_halfThere 9 = .ok (.goto 20, 3) := by decide +kernel
theorem dX5_halfThere_12 : decode cX5_halfThere 12 = .ok (.aload_n 0, 1) := by decide +kernel
theorem dX5_halfThere_13 : decode cX5_halfThere 13 = .ok (.iload_n 1, 1) := by decide +kernel
theorem dX5_halfThere_14 : decode cX5_halfThere 14 = .ok (.iload_n 2, 1) := by decide +kernel
theorem dX5_halfThere_15 : decode cX5_halfThere 15 = .ok (.invokestatic 194, 3) := by decide +kernel
theorem dX5_halfThere_18 : decode cX5_halfThere 18 = .ok (.invokevirtual 92, 3) := by decide +kernel
theorem dX5_halfThere_21 : decode cX5_halfThere 21 = .ok (.ifCond .eq 7, 3) := by decide +kernel
theorem dX5_halfThere_24 : decode cX5_halfThere 24 = .ok (.iconst 0, 1) := by decide +kernel
theorem dX5_halfThere_25 : decode cX5_halfThere 25 = .ok (.goto 4, 3) := by decide +kernel
theorem dX5_halfThere_28 : decode cX5_halfThere 28 = .ok (.iconst 2, 1) := by decide +kernel
theorem dX5_halfThere_29 : decode cX5_halfThere 29 = .ok (.ireturn, 1) := by decide +kernel
theorem h9_X5_halfThere : yX5_halfThere.cls ≠ "java/lang/invoke/MethodHandle" ∧ yX5_halfThere.cls ≠ "java/lang/invoke/VarHandle" ∧ (parseMethodDescriptor yX5_halfThere.desc).map (fun d => d.parameters.length) = some 2 := by decide +kernel
noncomputable def F_X5_halfThere (a0 : Nat) (x1 : Int32) (x2 : Int32) (w : FW) : Option (Int32) :=
  fg (w.1 a0 = 6) inferInstance ((F_X5_isTicket a0 x1 w).bind (fun r1 => (if r1 = 0 then some 1 else (F_X5_number x2 w).bind (fun r6 => (F_X5_isPunched a0 x1 r6 w).bind (fun r9 => (if r9 = 0 then some 2 else some 0))))))
set_option maxHeartbeats 4000000 in
set_option maxRecDepth 100000 in
theorem c_X5_halfThere (l : Launch) (D : va_G) (cy : Nat → ClassId) (a0 : Nat) (x1 : Int32) (x2 : Int32) (w : FW) (r : Int32) (hF : F_X5_halfThere a0 x1 x2 w = some r) : fSpec l D cy yX5_halfThere cX5_halfThere 3 (some .int) { frames := 3, cells := 0, slots := 0, locals := 67 } [.ref a0, .int x1, .int x2] w w (some (.int r)) := by
  refine f_begin (by decide +kernel) (Nat.le_of_ble_eq_true rfl) (fun X hC hEn => ?_)
  unfold F_X5_halfThere at hF
  show fAt X 0 0 3 w [(0, .ref a0), (1, .int x1), (2, .int x2)] [] 0
  refine f_aload_n hC dX5_halfThere_0 rfl 0 rfl ?_
  refine f_iload_n hC dX5_halfThere_1 rfl 1 rfl ?_
  obtain ⟨g3, hF⟩ := fg_open hF
  obtain ⟨r1, h2, hF⟩ := fb_open hF
  refine f_callV hC [.int x1] (c_X5_isTicket l D cy a0 x1 w r1 h2) q_1415 q_136 q_1412 q_1414 q_85 h9_X5_isTicket rfl (fSm.k (fSm.rf w) g3) ⟨Nat.le_of_ble_eq_true rfl, Nat.le_of_ble_eq_true rfl⟩ ⟨Nat.le_of_ble_eq_true rfl, Nat.le_of_ble_eq_true rfl⟩ (Nat.le_of_ble_eq_true rfl) rfl dX5_halfThere_2 (fun e4 => ?_)
  refine f_if_ne hC 12 dX5_halfThere_5 (by decide) (fun c5 => ?_) (fun c5 => ?_)
  · replace hF := fi_neg hF c5
    refine f_aload_n hC dX5_halfThere_12 rfl 0 rfl ?_
    refine f_iload_n hC dX5_halfThere_13 rfl 1 rfl ?_
    refine f_iload_n hC dX5_halfThere_14 rfl 2 rfl ?_
    obtain ⟨r6, h7, hF⟩ := fb_open hF
    refine f_callS hC [.int x2] (c_X5_number l D cy x2 w r6 h7) q_1466 q_136 q_1464 q_1465 h9_X5_number ⟨Nat.le_of_ble_eq_true rfl, Nat.le_of_ble_eq_true rfl⟩ ⟨Nat.le_of_ble_eq_true rfl, Nat.le_of_ble_eq_true rfl⟩ (Nat.le_of_ble_eq_true rfl) rfl dX5_halfThere_15 (fun e8 => ?_)
    obtain ⟨r9, h10, hF⟩ := fb_open hF
    refine f_callV hC [.int x1, .int r6] (c_X5_isPunched l D cy a0 x1 r6 w r9 h10) q_1474 q_136 q_1471 q_1473 q_94 h9_X5_isPunched rfl (fSm.k (fSm.rf w) g3) ⟨Nat.le_of_ble_eq_true rfl, Nat.le_of_ble_eq_true rfl⟩ ⟨Nat.le_of_ble_eq_true rfl, Nat.le_of_ble_eq_true rfl⟩ (Nat.le_of_ble_eq_true rfl) rfl dX5_halfThere_18 (fun e11 => ?_)
    refine f_if_eq hC 28 dX5_halfThere_21 (by decide) (fun c12 => ?_) (fun c12 => ?_)
    · replace hF := fi_pos hF c12
      refine f_iconst (v := 2) hC dX5_halfThere_28 (by decide) ?_
      obtain rfl := Option.some.inj hF
      exact f_iret hC hEn (fSm.rf w) dX5_halfThere_29
    · replace hF := fi_neg hF c12
      refine f_iconst (v := 0) hC dX5_halfThere_24 (by decide) ?_
      refine f_goto hC 29 dX5_halfThere_25 (by decide) ?_
      obtain rfl := Option.some.inj hF
      exact f_iret hC hEn (fSm.rf w) dX5_halfThere_29
  · replace hF := fi_pos hF c5
    refine f_iconst (v := 1) hC dX5_halfThere_8 (by decide) ?_
    refine f_goto hC 29 dX5_halfThere_9 (by decide) ?_
    obtain rfl := Option.some.inj hF
    exact f_iret hC hEn (fSm.rf w) dX5_halfThere_29
theorem dX5_moodFor_0 : decode cX5_moodFor 0 = .ok (.aload_n 0, 1) := by decide +kernel
theorem dX5_moodFor_1 : decode cX5_moodFor 1 = .ok (.aload_n 0, 1) := by decide +kernel
theorem dX5_moodFor_2 : decode cX5_moodFor 2 = .ok (.iload_n 1, 1) := by decide +kernel
theorem dX5_moodFor_3 : decode cX5_moodFor 3 = .ok (.iload_n 2, 1) := by decide +kernel
theorem dX5_moodFor_4 : decode cX5_moodFor 4 = .ok (.invokevirtual 213, 3) := by decide +kernel
theorem dX5_moodFor_7 : decode cX5_moodFor 7 = .ok (.putfield 41, 3) := by decide +kernel
theorem dX5_moodFor_10 : decode cX5_moodFor 10 = .ok (.aload_n 0, 1) := by decide +kernel
theorem dX5_moodFor_11 : decode cX5_moodFor 11 = .ok (.getfield 41, 3) := by decide +kernel
theorem dX5_moodFor_14 : decode cX5_moodFor 14 = .ok (.ifCond .le 5, 3) := by decide +kernel
theorem dX5_moodFor_17 : decode cX5_moodFor 17 = .ok (.iconst 0, 1) := by decide +kernel
theorem dX5_moodFor_18 : decode cX5_moodFor 18 = .ok (.ireturn, 1) := by decide +kernel
theorem dX5_moodFor_19 : decode cX5_moodFor 19 = .ok (.iload_n 2, 1) := by decide +kernel
theorem dX5_moodFor_20 : decode cX5_moodFor 20 = .ok (.invokestatic 194, 3) := by decide +kernel
theorem dX5_moodFor_23 : decode cX5_moodFor 23 = .ok (.istore_n 3, 1) := by decide +kernel
theorem dX5_moodFor_24 : decode cX5_moodFor 24 = .ok (.iconst 0, 1) := by decide +kernel
theorem dX5_moodFor_25 : decode cX5_moodFor 25 = .ok (.istore 4, 2) := by decide +kernel
theorem dX5_moodFor_27 : decode cX5_moodFor 27 = .ok (.iload 4, 2) := by decide +kernel
theorem dX5_moodFor_29 : decode cX5_moodFor 29 = .ok (.iconst 5, 1) := by decide +kernel
theorem dX5_moodFor_30 : decode cX5_moodFor 30 = .ok (.if_icmp .ge 36, 3) := by decide +kernel
theorem dX5_moodFor_33 : decode cX5_moodFor 33 = .ok (.aload_n 0, 1) := by decide +kernel
theorem dX5_moodFor_34 : decode cX5_moodFor 34 = .ok (.iload_n 1, 1) := by decide +kernel
theorem dX5_moodFor_35 : decode cX5_moodFor 35 = .ok (.iload_n 3, 1) := by decide +kernel
theorem dX5_moodFor_36 : decode cX5_moodFor 36 = .ok (.aload_n 0, 1) := by decide +kernel
theorem dX5_moodFor_37 : decode cX5_moodFor 37 = .ok (.iload_n 1, 1) := by decide +kernel
theorem dX5_moodFor_38 : decode cX5_moodFor 38 = .ok (.iload_n 3, 1) := by decide +kernel
theorem dX5_moodFor_39 : decode cX5_moodFor 39 = .ok (.iconst 1, 1) := by decide +kernel
theorem dX5_moodFor_40 : decode cX5_moodFor 40 = .ok (.invokevirtual 78, 3) := by decide +kernel
theorem dX5_moodFor_43 : decode cX5_moodFor 43 = .ok (.iload 4, 2) := by decide +kernel
theorem dX5_moodFor_45 : decode cX5_moodFor 45 = .ok (.invokevirtual 113, 3) := by decide +kernel
theorem dX5_moodFor_48 : decode cX5_moodFor 48 = .ok (.aload_n 0, 1) := by decide +kernel
theorem dX5_moodFor_49 : decode cX5_moodFor 49 = .ok (.iload_n 1, 1) := by decide +kernel
theorem dX5_moodFor_50 : decode cX5_moodFor 50 = .ok (.iconst 0, 1) := by decide +kernel
theorem dX5_moodFor_51 : decode cX5_moodFor 51 = .ok (.invokevirtual 70, 3) := by decide +kernel
theorem dX5_moodFor_54 : decode cX5_moodFor 54 = .ok (.if_icmp .ne 6, 3) := by decide +kernel
theorem dX5_moodFor_57 : decode cX5_moodFor 57 = .ok (.iload 4, 2) := by decide +kernel
theorem dX5_moodFor_59 : decode cX5_moodFor 59 = .ok (.ireturn, 1) := by decide +kernel
theorem dX5_moodFor_60 : decode cX5_moodFor 60 = .ok (.iinc 4 1, 3) := by decide +kernel
theorem dX5_moodFor_63 : decode cX5_moodFor 63 = .ok (.goto (-36), 3) := by decide +kernel
theorem dX5_moodFor_66 : decode cX5_moodFor 66 = .ok (.aload_n 0, 1) := by decide +kernel
theorem dX5_moodFor_67 : decode cX5_moodFor 67 = .ok (.iconst 2, 1) := by decide +kernel
theorem dX5_moodFor_68 : decode cX5_moodFor 68 = .ok (.invokevirtual 57, 3) := by decide +kernel
theorem dX5_moodFor_71 : decode cX5_moodFor 71 = .ok (.ireturn, 1) := by decide +kernel
theorem h9_X5_moodFor : yX5_moodFor.cls ≠ "java/lang/invoke/MethodHandle" ∧ yX5_moodFor.cls ≠ "java/lang/invoke/VarHandle" ∧ (parseMethodDescriptor yX5_moodFor.desc).map (fun d => d.parameters.length) = some 2 := by decide +kernel
noncomputable def F_X5_moodFor (a0 : Nat) (x1 : Int32) (x2 : Int32) (w : FW) : Option (Int32 × FW) :=
  fg (w.1 a0 = 6) inferInstance ((F_X5_halfThere a0 x1 x2 w).bind (fun r1 => (if (gI (sI w 500 a0 0 r1) 500 a0 0) ≤ 0 then (F_X5_number x2 (sI w 500 a0 0 r1)).bind (fun r6 => (fLoop (σ := Int32) (ρ := (Unit) ⊕ (Int32 × FW)) (fun s9 => (if 5 ≤ s9 then some (.inr (.inl ())) else (F_X5_half a0 x1 r6 1 (sI w 500 a0 0 r1)).bind (fun r19 => (F_X5_rightOf a0 x1 r6 r19 s9 (sI w 500 a0 0 r1)).bind (fun r22 => (F_X5_of a0 x1 0 (sI w 500 a0 0 r1)).bind (fun r25 => (if r22 = r25 then some (.inr (.inr (s9, (sI w 500 a0 0 r1)))) else some (.inl (s9 + 1)))))))) 0).bind (fun x15 => fse x15 (fun z29 => (F_X5_fails a0 2 (sI w 500 a0 0 r1)).bind (fun r30 => some (r30.1, r30.2))) (fun q9 => some q9))) else some (0, (sI w 500 a0 0 r1)))))
set_option maxHeartbeats 4000000 in
set_option maxRecDepth 100000 in
theorem c_X5_moodFor (l : Launch) (D : va_G) (cy : Nat → ClassId) (a0 : Nat) (x1 : Int32) (x2 : Int32) (w : FW) (r : Int32 × FW) (hF : F_X5_moodFor a0 x1 x2 w = some r) : fSpec l D cy yX5_moodFor cX5_moodFor 5 (some .int) { frames := 7, cells := 0, slots := 0, locals := 168 } [.ref a0, .int x1, .int x2] w r.2 (some (.int r.1)) := by
  refine f_begin (by decide +kernel) (Nat.le_of_ble_eq_true rfl) (fun X hC hEn => ?_)
  unfold F_X5_moodFor at hF
  show fAt X 0 0 5 w [(0, .ref a0), (1, .int x1), (2, .int x2)] [] 0
  refine f_aload_n hC dX5_moodFor_0 rfl 0 rfl ?_
  refine f_aload_n hC dX5_moodFor_1 rfl 0 rfl ?_
  refine f_iload_n hC dX5_moodFor_2 rfl 1 rfl ?_
  refine f_iload_n hC dX5_moodFor_3 rfl 2 rfl ?_
  obtain ⟨g3, hF⟩ := fg_open hF
  obtain ⟨r1, h2, hF⟩ := fb_open hF
  refine f_callV hC [.int x1, .int x2] (c_X5_halfThere l D cy a0 x1 x2 w r1 h2) q_1572 q_136 q_1569 q_1571 q_109 h9_X5_halfThere rfl (fSm.k (fSm.rf w) g3) ⟨Nat.le_of_ble_eq_true rfl, Nat.le_of_ble_eq_true rfl⟩ ⟨Nat.le_of_ble_eq_true rfl, Nat.le_of_ble_eq_true rfl⟩ (Nat.le_of_ble_eq_true rfl) rfl dX5_moodFor_4 (fun e4 => ?_)
  refine f_putI hC 5 0 500 rfl (by decide) iX5 tyX5 tyX5_ok nmX5 q_1254 rfl rfl rfl rfl rfl (fSm.k (fSm.rf w) g3) dX5_moodFor_7 ?_
  refine f_aload_n hC dX5_moodFor_10 rfl 0 rfl ?_
  refine f_getI hC 5 0 500 rfl (by decide) iX5 q_1254 rfl rfl (fSm.k (fSm.rf w) g3) dX5_moodFor_11 ?_
  refine f_if_le hC 19 dX5_moodFor_14 (by decide) (fun c5 => ?_) (fun c5 => ?_)
  · replace hF := fi_pos hF c5
    refine f_iload_n hC dX5_moodFor_19 rfl 2 rfl ?_
    obtain ⟨r6, h7, hF⟩ := fb_open hF
    refine f_callS hC [.int x2] (c_X5_number l D cy x2 (sI w 500 a0 0 r1) r6 h7) q_1466 q_136 q_1464 q_1465 h9_X5_number ⟨Nat.le_of_ble_eq_true rfl, Nat.le_of_ble_eq_true rfl⟩ ⟨Nat.le_of_ble_eq_true rfl, Nat.le_of_ble_eq_true rfl⟩ (Nat.le_of_ble_eq_true rfl) rfl dX5_moodFor_20 (fun e8 => ?_)
    refine f_istore_n (L' := [(3, .int r6), (0, .ref a0), (1, .int x1), (2, .int x2)]) hC dX5_moodFor_23 rfl (by decide) rfl ?_
    refine f_iconst (v := 0) hC dX5_moodFor_24 (by decide) ?_
    refine f_istore (L' := [(4, .int 0), (3, .int r6), (0, .ref a0), (1, .int x1), (2, .int x2)]) hC dX5_moodFor_25 (by decide) rfl ?_
    obtain ⟨x15, h16, hF⟩ := fb_open hF
    have K17 : ∀ z29, x15 = .inl z29 → fAt X 0 0 5 (sI w 500 a0 0 r1) [(0, .ref a0)] [] 66 := by
      intro z29 hz9
      subst hz9
      refine f_aload_n hC dX5_moodFor_66 rfl 0 rfl ?_
      refine f_iconst (v := 2) hC dX5_moodFor_67 (by decide) ?_
      obtain ⟨r30, h31, hF⟩ := fb_open hF
      refine f_callV hC [.int 2] (c_X5_fails l D cy a0 2 (sI w 500 a0 0 r1) r30 h31) q_1375 q_136 q_1372 q_1374 q_78 h9_X5_fails rfl (fSm.k (fSm.rf w) g3) ⟨Nat.le_of_ble_eq_true rfl, Nat.le_of_ble_eq_true rfl⟩ ⟨Nat.le_of_ble_eq_true rfl, Nat.le_of_ble_eq_true rfl⟩ (Nat.le_of_ble_eq_true rfl) rfl dX5_moodFor_68 (fun e32 => ?_)
      obtain rfl := Option.some.inj hF
      exact f_iret hC hEn (fSm.tr e32 (fSm.rf w)) dX5_moodFor_71
    refine f_sub (L' := [(0, .ref a0), (1, .int x1), (3, .int r6), (4, .int 0)]) [2, 3, 1, 0] rfl ?_
    refine fLoop_ind (fun (s9 : Int32) => fAt X 0 0 5 (sI w 500 a0 0 r1) [(0, .ref a0), (1, .int x1), (3, .int r6), (4, .int s9)] [] 27) (fun s9 y14 h10 go11 ou12 => ?_) h16
    refine f_iload hC dX5_moodFor_27 3 rfl ?_
    refine f_iconst (v := 5) hC dX5_moodFor_29 (by decide) ?_
    refine f_icmp_ge hC 66 dX5_moodFor_30 (by decide) (fun c18 => ?_) (fun c18 => ?_)
    · replace h10 := fi_pos h10 c18
      obtain rfl := Option.some.inj h10
      have eo := ou12 _ rfl
      refine f_sub (L' := [(0, .ref a0)]) [0] rfl ?_
      exact K17 _ eo.symm
    · replace h10 := fi_neg h10 c18
      refine f_aload_n hC dX5_moodFor_33 rfl 0 rfl ?_
      refine f_iload_n hC dX5_moodFor_34 rfl 1 rfl ?_
      refine f_iload_n hC dX5_moodFor_35 rfl 2 rfl ?_
      refine f_aload_n hC dX5_moodFor_36 rfl 0 rfl ?_
      refine f_iload_n hC dX5_moodFor_37 rfl 1 rfl ?_
      refine f_iload_n hC dX5_moodFor_38 rfl 2 rfl ?_
      refine f_iconst (v := 1) hC dX5_moodFor_39 (by decide) ?_
      obtain ⟨r19, h20, h10⟩ := fb_open h10
      refine f_callV hC [.int x1, .int r6, .int 1] (c_X5_half l D cy a0 x1 r6 1 (sI w 500 a0 0 r1) r19 h20) q_1478 q_136 q_1475 q_1477 q_95 h9_X5_half rfl (fSm.k (fSm.rf w) g3) ⟨Nat.le_of_ble_eq_true rfl, Nat.le_of_ble_eq_true rfl⟩ ⟨Nat.le_of_ble_eq_true rfl, Nat.le_of_ble_eq_true rfl⟩ (Nat.le_of_ble_eq_true rfl) rfl dX5_moodFor_40 (fun e21 => ?_)
      refine f_iload hC dX5_moodFor_43 3 rfl ?_
      obtain ⟨r22, h23, h10⟩ := fb_open h10
      refine f_callV hC [.int x1, .int r6, .int r19, .int s9] (c_X5_rightOf l D cy a0 x1 r6 r19 s9 (sI w 500 a0 0 r1) r22 h23) q_1545 q_136 q_1542 q_1544 q_106 h9_X5_rightOf rfl (fSm.k (fSm.rf w) g3) ⟨Nat.le_of_ble_eq_true rfl, Nat.le_of_ble_eq_true rfl⟩ ⟨Nat.le_of_ble_eq_true rfl, Nat.le_of_ble_eq_true rfl⟩ (Nat.le_of_ble_eq_true rfl) rfl dX5_moodFor_45 (fun e24 => ?_)
      refine f_aload_n hC dX5_moodFor_48 rfl 0 rfl ?_
      refine f_iload_n hC dX5_moodFor_49 rfl 1 rfl ?_
      refine f_iconst (v := 0) hC dX5_moodFor_50 (by decide) ?_
      obtain ⟨r25, h26, h10⟩ := fb_open h10
      refine f_callV hC [.int x1, .int 0] (c_X5_of l D cy a0 x1 0 (sI w 500 a0 0 r1) r25 h26) q_1447 q_136 q_1444 q_1446 q_90 h9_X5_of rfl (fSm.k (fSm.rf w) g3) ⟨Nat.le_of_ble_eq_true rfl, Nat.le_of_ble_eq_true rfl⟩ ⟨Nat.le_of_ble_eq_true rfl, Nat.le_of_ble_eq_true rfl⟩ (Nat.le_of_ble_eq_true rfl) rfl dX5_moodFor_51 (fun e27 => ?_)
      refine f_icmp_ne hC 60 dX5_moodFor_54 (by decide) (fun c28 => ?_) (fun c28 => ?_)
      · replace h10 := fi_neg h10 c28
        refine f_iinc (L' := [(4, .int (s9 + 1)), (0, .ref a0), (1, .int x1), (3, .int r6)]) hC dX5_moodFor_60 3 rfl rfl (by decide) rfl ?_
        refine f_goto hC 27 dX5_moodFor_63 (by decide) ?_
        obtain rfl := Option.some.inj h10
        refine f_sub (L' := [(0, .ref a0), (1, .int x1), (3, .int r6), (4, .int (s9 + 1))]) [1, 2, 3, 0] rfl ?_
        exact go11 _ rfl
      · replace h10 := fi_pos h10 c28
        refine f_iload hC dX5_moodFor_57 3 rfl ?_
        obtain rfl := Option.some.inj h10
        obtain rfl := ou12 _ rfl
        obtain rfl := Option.some.inj hF
        exact f_iret hC hEn (fSm.rf w) dX5_moodFor_59
  · replace hF := fi_neg hF c5
    refine f_iconst (v := 0) hC dX5_moodFor_17 (by decide) ?_
    obtain rfl := Option.some.inj hF
    exact f_iret hC hEn (fSm.rf w) dX5_moodFor_18
theorem dX5_would_0 : decode cX5_would 0 = .ok (.aload_n 0, 1) := by decide +kernel
theorem dX5_would_1 : decode cX5_would 1 = .ok (.aload_n 0, 1) := by decide +kernel
theorem dX5_would_2 : decode cX5_would 2 = .ok (.iload_n 1, 1) := by decide +kernel
theorem dX5_would_3 : decode cX5_would 3 = .ok (.invokevirtual 135, 3) := by decide +kernel
theorem dX5_would_6 : decode cX5_would 6 = .ok (.ifCond .ne 7, 3) := by decide +kernel
theorem dX5_would_9 : decode cX5_would 9 = .ok (.iconst 1, 1) := by decide +kernel
theorem dX5_would_10 : decode cX5_would 10 = .ok (.goto 34, 3) := by decide +kernel
theorem dX5_would_13 : decode cX5_would 13 = .ok (.iload_n 3, 1) := by decide +kernel
theorem dX5_would_14 : decode cX5_would 14 = .ok (.iconst 0, 1) := by decide +kernel
theorem dX5_would_15 : decode cX5_would 15 = .ok (.bipush 9, 2) := by decide +kernel
theorem dX5_would_17 : decode cX5_would 17 = .ok (.invokestatic 66, 3) := by decide +kernel
theorem dX5_would_20 : decode cX5_would 20 = .ok (.ifCond .ne 7, 3) := by decide +kernel
theorem dX5_would_23 : decode cX5_would 23 = .ok (.iconst 2, 1) := by decide +kernel
theorem dX5_would_24 : decode cX5_would 24 = .ok (.goto 20, 3) := by decide +kernel
theorem dX5_would_27 : decode cX5_would 27 = .ok (.aload_n 0, 1) := by decide +kernel
theorem dX5_would_28 : decode cX5_would 28 = .ok (.iload_n 1, 1) := by decide +kernel
theorem dX5_would_29 : decode cX5_would 29 = .ok (.iload_n 2, 1) := by decide +kernel
theorem dX5_would_30 : decode cX5_would 30 = .ok (.invokestatic 194, 3) := by decide +kernel
theorem dX5_would_33 : decode cX5_would 33 = .ok (.invokevirtual 92, 3) := by decide +kernel
theorem dX5_would_36 : decode cX5_would 36 = .ok (.ifCond .eq 7, 3) := by decide +kernel
theorem dX5_would_39 : decode cX5_would 39 = .ok (.iconst 0, 1) := by decide +kernel
theorem dX5_would_40 : decode cX5_would 40 = .ok (.goto 4, 3) := by decide +kernel
theorem dX5_would_43 : decode cX5_would 43 = .ok (.iconst 3, 1) := by decide +kernel
theorem dX5_would_44 : decode cX5_would 44 = .ok (.putfield 41, 3) := by decide +kernel
theorem dX5_would_47 : decode cX5_would 47 = .ok (.aload_n 0, 1) := by decide +kernel
theorem dX5_would_48 : decode cX5_would 48 = .ok (.getfield 41, 3) := by decide +kernel
theorem dX5_would_51 : decode cX5_would 51 = .ok (.ifCond .le 5, 3) := by decide +kernel
theorem dX5_would_54 : decode cX5_would 54 = .ok (.iconst 0, 1) := by decide +kernel
theorem dX5_would_55 : decode cX5_would 55 = .ok (.ireturn, 1) := by decide +kernel
theorem dX5_would_56 : decode cX5_would 56 = .ok (.iload_n 2, 1) := by decide +kernel
theorem dX5_would_57 : decode cX5_would 57 = .ok (.invokestatic 194, 3) := by decide +kernel
theorem dX5_would_60 : decode cX5_would 60 = .ok (.istore 4, 2) := by decide +kernel
theorem dX5_would_62 : decode cX5_would 62 = .ok (.aload_n 0, 1) := by decide +kernel
theorem dX5_would_63 : decode cX5_would 63 = .ok (.iload_n 1, 1) := by decide +kernel
theorem dX5_would_64 : decode cX5_would 64 = .ok (.iload 4, 2) := by decide +kernel
theorem dX5_would_66 : decode cX5_would 66 = .ok (.iconst 1, 1) := by decide +kernel
theorem dX5_would_67 : decode cX5_would 67 = .ok (.invokevirtual 78, 3) := by decide +kernel
theorem dX5_would_70 : decode cX5_would 70 = .ok (.iload_n 3, 1) := by decide +kernel
theorem dX5_would_71 : decode cX5_would 71 = .ok (.iadd, 1) := by decide +kernel
theorem dX5_would_72 : decode cX5_would 72 = .ok (.istore 5, 2) := by decide +kernel
theorem dX5_would_74 : decode cX5_would 74 = .ok (.aload_n 0, 1) := by decide +kernel
theorem dX5_would_75 : decode cX5_would 75 = .ok (.iload_n 1, 1) := by decide +kernel
theorem dX5_would_76 : decode cX5_would 76 = .ok (.iload 4, 2) := by decide +kernel
theorem dX5_would_78 : decode cX5_would 78 = .ok (.iload 5, 2) := by decide +kernel
theorem dX5_would_80 : decode cX5_would 80 = .ok (.bipush 9, 2) := by decide +kernel
theorem dX5_would_82 : decode cX5_would 82 = .ok (.if_icmp .le 8, 3) := by decide +kernel
theorem dX5_would_85 : decode cX5_would 85 = .ok (.bipush 9, 2) := by decide +kernel
theorem dX5_would_87 : decode cX5_would 87 = .ok (.goto 5, 3) := by decide +kernel
theorem dX5_would_90 : decode cX5_would 90 = .ok (.iload 5, 2) := by decide +kernel
theorem dX5_would_92 : decode cX5_would 92 = .ok (.aload_n 0, 1) := by decide +kernel
theorem dX5_would_93 : decode cX5_would 93 = .ok (.iload_n 1, 1) := by decide +kernel
theorem dX5_would_94 : decode cX5_would 94 = .ok (.iload 4, 2) := by decide +kernel
theorem dX5_would_96 : decode cX5_would 96 = .ok (.iconst 0, 1) := by decide +kernel
theorem dX5_would_97 : decode cX5_would 97 = .ok (.invokevirtual 78, 3) := by decide +kernel
theorem dX5_would_100 : decode cX5_would 100 = .ok (.invokevirtual 113, 3) := by decide +kernel
theorem dX5_would_103 : decode cX5_would 103 = .ok (.ireturn, 1) := by decide +kernel
theorem h9_X5_would : yX5_would.cls ≠ "java/lang/invoke/MethodHandle" ∧ yX5_would.cls ≠ "java/lang/invoke/VarHandle" ∧ (parseMethodDescriptor yX5_would.desc).map (fun d => d.parameters.length) = some 3 := by decide +kernel
noncomputable def F_X5_would (a0 : Nat) (x1 : Int32) (x2 : Int32) (x3 : Int32) (w : FW) : Option (Int32 × FW) :=
  fg (w.1 a0 = 6) inferInstance ((F_X5_isTicket a0 x1 w).bind (fun r1 => ((if r1 = 0 then some 1 else (F_X5_in x3 0 9 w).bind (fun r28 => (if r28 = 0 then some 2 else (F_X5_number x2 w).bind (fun r32 => (F_X5_isPunched a0 x1 r32 w).bind (fun r35 => (if r35 = 0 then some 3 else some 0)))))) : Option (Int32)).bind (fun x5 => (if (gI (sI w 500 a0 0 x5) 500 a0 0) ≤ 0 then (F_X5_number x2 (sI w 500 a0 0 x5)).bind (fun r10 => (F_X5_half a0 x1 r10 1 (sI w 500 a0 0 x5)).bind (fun r13 => ((if (r13 + x3) ≤ 9 then some (r13 + x3) else some 9) : Option (Int32)).bind (fun x16 => (F_X5_half a0 x1 r10 0 (sI w 500 a0 0 x5)).bind (fun r20 => (F_X5_rightOf a0 x1 r10 x16 r20 (sI w 500 a0 0 x5)).bind (fun r23 => some (r23, (sI w 500 a0 0 x5))))))) else some (0, (sI w 500 a0 0 x5))))))
set_option maxHeartbeats 4000000 in
set_option maxRecDepth 100000 in
theorem c_X5_would (l : Launch) (D : va_G) (cy : Nat → ClassId) (a0 : Nat) (x1 : Int32) (x2 : Int32) (x3 : Int32) (w : FW) (r : Int32 × FW) (hF : F_X5_would a0 x1 x2 x3 w = some r) : fSpec l D cy yX5_would cX5_would 6 (some .int) { frames := 7, cells := 0, slots := 0, locals := 168 } [.ref a0, .int x1, .int x2, .int x3] w r.2 (some (.int r.1)) := by
  refine f_begin (by decide +kernel) (Nat.le_of_ble_eq_true rfl) (fun X hC hEn => ?_)
  unfold F_X5_would at hF
  show fAt X 0 0 6 w [(0, .ref a0), (1, .int x1), (2, .int x2), (3, .int x3)] [] 0
  refine f_aload_n hC dX5_would_0 rfl 0 rfl ?_
  refine f_aload_n hC dX5_would_1 rfl 0 rfl ?_
  refine f_iload_n hC dX5_would_2 rfl 1 rfl ?_
  obtain ⟨g3, hF⟩ := fg_open hF
  obtain ⟨r1, h2, hF⟩ := fb_open hF
  refine f_callV hC [.int x1] (c_X5_isTicket l D cy a0 x1 w r1 h2) q_1415 q_136 q_1412 q_1414 q_85 h9_X5_isTicket rfl (fSm.k (fSm.rf w) g3) ⟨Nat.le_of_ble_eq_true rfl, Nat.le_of_ble_eq_true rfl⟩ ⟨Nat.le_of_ble_eq_true rfl, Nat.le_of_ble_eq_true rfl⟩ (Nat.le_of_ble_eq_true rfl) rfl dX5_would_3 (fun e4 => ?_)
  obtain ⟨x5, h6, hF⟩ := fb_open hF
  have K8 : fAt X 0 0 6 w [(0, .ref a0), (1, .int x1), (2, .int x2), (3, .int x3)] [.int x5, .ref a0] 44 := by
    refine f_putI hC 5 0 500 rfl (by decide) iX5 tyX5 tyX5_ok nmX5 q_1254 rfl rfl rfl rfl rfl (fSm.k (fSm.rf w) g3) dX5_would_44 ?_
    refine f_aload_n hC dX5_would_47 rfl 0 rfl ?_
    refine f_getI hC 5 0 500 rfl (by decide) iX5 q_1254 rfl rfl (fSm.k (fSm.rf w) g3) dX5_would_48 ?_
    refine f_if_le hC 56 dX5_would_51 (by decide) (fun c9 => ?_) (fun c9 => ?_)
    · replace hF := fi_pos hF c9
      refine f_iload_n hC dX5_would_56 rfl 2 rfl ?_
      obtain ⟨r10, h11, hF⟩ := fb_open hF
      refine f_callS hC [.int x2] (c_X5_number l D cy x2 (sI w 500 a0 0 x5) r10 h11) q_1466 q_136 q_1464 q_1465 h9_X5_number ⟨Nat.le_of_ble_eq_true rfl, Nat.le_of_ble_eq_true rfl⟩ ⟨Nat.le_of_ble_eq_true rfl, Nat.le_of_ble_eq_true rfl⟩ (Nat.le_of_ble_eq_true rfl) rfl dX5_would_57 (fun e12 => ?_)
      refine f_istore (L' := [(4, .int r10), (0, .ref a0), (1, .int x1), (2, .int x2), (3, .int x3)]) hC dX5_would_60 (by decide) rfl ?_
      refine f_aload_n hC dX5_would_62 rfl 1 rfl ?_
      refine f_iload_n hC dX5_would_63 rfl 2 rfl ?_
      refine f_iload hC dX5_would_64 0 rfl ?_
      refine f_iconst (v := 1) hC dX5_would_66 (by decide) ?_
      obtain ⟨r13, h14, hF⟩ := fb_open hF
      refine f_callV hC [.int x1, .int r10, .int 1] (c_X5_half l D cy a0 x1 r10 1 (sI w 500 a0 0 x5) r13 h14) q_1478 q_136 q_1475 q_1477 q_95 h9_X5_half rfl (fSm.k (fSm.rf w) g3) ⟨Nat.le_of_ble_eq_true rfl, Nat.le_of_ble_eq_true rfl⟩ ⟨Nat.le_of_ble_eq_true rfl, Nat.le_of_ble_eq_true rfl⟩ (Nat.le_of_ble_eq_true rfl) rfl dX5_would_67 (fun e15 => ?_)
      refine f_iload_n hC dX5_would_70 rfl 4 rfl ?_
      refine f_iadd hC dX5_would_71 ?_
      refine f_istore (L' := [(5, .int (r13 + x3)), (4, .int r10), (0, .ref a0), (1, .int x1), (2, .int x2), (3, .int x3)]) hC dX5_would_72 (by decide) rfl ?_
      refine f_aload_n hC dX5_would_74 rfl 2 rfl ?_
      refine f_iload_n hC dX5_would_75 rfl 3 rfl ?_
      refine f_iload hC dX5_would_76 1 rfl ?_
      refine f_iload hC dX5_would_78 0 rfl ?_
      refine f_bipush (v := 9) hC dX5_would_80 (by decide) ?_
      obtain ⟨x16, h17, hF⟩ := fb_open hF
      have K19 : fAt X 0 0 6 (sI w 500 a0 0 x5) [(0, .ref a0), (1, .int x1), (4, .int r10)] [.int x16, .int r10, .int x1, .ref a0] 92 := by
        refine f_aload_n hC dX5_would_92 rfl 0 rfl ?_
        refine f_iload_n hC dX5_would_93 rfl 1 rfl ?_
        refine f_iload hC dX5_would_94 2 rfl ?_
        refine f_iconst (v := 0) hC dX5_would_96 (by decide) ?_
        obtain ⟨r20, h21, hF⟩ := fb_open hF
        refine f_callV hC [.int x1, .int r10, .int 0] (c_X5_half l D cy a0 x1 r10 0 (sI w 500 a0 0 x5) r20 h21) q_1478 q_136 q_1475 q_1477 q_95 h9_X5_half rfl (fSm.k (fSm.rf w) g3) ⟨Nat.le_of_ble_eq_true rfl, Nat.le_of_ble_eq_true rfl⟩ ⟨Nat.le_of_ble_eq_true rfl, Nat.le_of_ble_eq_true rfl⟩ (Nat.le_of_ble_eq_true rfl) rfl dX5_would_97 (fun e22 => ?_)
        obtain ⟨r23, h24, hF⟩ := fb_open hF
        refine f_callV hC [.int x1, .int r10, .int x16, .int r20] (c_X5_rightOf l D cy a0 x1 r10 x16 r20 (sI w 500 a0 0 x5) r23 h24) q_1545 q_136 q_1542 q_1544 q_106 h9_X5_rightOf rfl (fSm.k (fSm.rf w) g3) ⟨Nat.le_of_ble_eq_true rfl, Nat.le_of_ble_eq_true rfl⟩ ⟨Nat.le_of_ble_eq_true rfl, Nat.le_of_ble_eq_true rfl⟩ (Nat.le_of_ble_eq_true rfl) rfl dX5_would_100 (fun e25 => ?_)
        obtain rfl := Option.some.inj hF
        exact f_iret hC hEn (fSm.rf w) dX5_would_103
      refine f_icmp_le hC 90 dX5_would_82 (by decide) (fun c26 => ?_) (fun c26 => ?_)
      · replace h17 := fi_pos h17 c26
        refine f_iload hC dX5_would_90 0 rfl ?_
        obtain rfl := Option.some.inj h17
        refine f_sub (L' := [(0, .ref a0), (1, .int x1), (4, .int r10)]) [2, 3, 1] rfl ?_
        exact K19
      · replace h17 := fi_neg h17 c26
        refine f_bipush (v := 9) hC dX5_would_85 (by decide) ?_
        refine f_goto hC 92 dX5_would_87 (by decide) ?_
        obtain rfl := Option.some.inj h17
        refine f_sub (L' := [(0, .ref a0), (1, .int x1), (4, .int r10)]) [2, 3, 1] rfl ?_
        exact K19
    · replace hF := fi_neg hF c9
      refine f_iconst (v := 0) hC dX5_would_54 (by decide) ?_
      obtain rfl := Option.some.inj hF
      exact f_iret hC hEn (fSm.rf w) dX5_would_55
  refine f_if_ne hC 13 dX5_would_6 (by decide) (fun c27 => ?_) (fun c27 => ?_)
  · replace h6 := fi_neg h6 c27
    refine f_iload_n hC dX5_would_13 rfl 3 rfl ?_
    refine f_iconst (v := 0) hC dX5_would_14 (by decide) ?_
    refine f_bipush (v := 9) hC dX5_would_15 (by decide) ?_
    obtain ⟨r28, h29, h6⟩ := fb_open h6
    refine f_callS hC [.int x3, .int 0, .int 9] (c_X5_in l D cy x3 0 9 w r28 h29) q_1352 q_136 q_1350 q_1351 h9_X5_in ⟨Nat.le_of_ble_eq_true rfl, Nat.le_of_ble_eq_true rfl⟩ ⟨Nat.le_of_ble_eq_true rfl, Nat.le_of_ble_eq_true rfl⟩ (Nat.le_of_ble_eq_true rfl) rfl dX5_would_17 (fun e30 => ?_)
    refine f_if_ne hC 27 dX5_would_20 (by decide) (fun c31 => ?_) (fun c31 => ?_)
    · replace h6 := fi_neg h6 c31
      refine f_aload_n hC dX5_would_27 rfl 0 rfl ?_
      refine f_iload_n hC dX5_would_28 rfl 1 rfl ?_
      refine f_iload_n hC dX5_would_29 rfl 2 rfl ?_
      obtain ⟨r32, h33, h6⟩ := fb_open h6
      refine f_callS hC [.int x2] (c_X5_number l D cy x2 w r32 h33) q_1466 q_136 q_1464 q_1465 h9_X5_number ⟨Nat.le_of_ble_eq_true rfl, Nat.le_of_ble_eq_true rfl⟩ ⟨Nat.le_of_ble_eq_true rfl, Nat.le_of_ble_eq_true rfl⟩ (Nat.le_of_ble_eq_true rfl) rfl dX5_would_30 (fun e34 => ?_)
      obtain ⟨r35, h36, h6⟩ := fb_open h6
      refine f_callV hC [.int x1, .int r32] (c_X5_isPunched l D cy a0 x1 r32 w r35 h36) q_1474 q_136 q_1471 q_1473 q_94 h9_X5_isPunched rfl (fSm.k (fSm.rf w) g3) ⟨Nat.le_of_ble_eq_true rfl, Nat.le_of_ble_eq_true rfl⟩ ⟨Nat.le_of_ble_eq_true rfl, Nat.le_of_ble_eq_true rfl⟩ (Nat.le_of_ble_eq_true rfl) rfl dX5_would_33 (fun e37 => ?_)
      refine f_if_eq hC 43 dX5_would_36 (by decide) (fun c38 => ?_) (fun c38 => ?_)
      · replace h6 := fi_pos h6 c38
        refine f_iconst (v := 3) hC dX5_would_43 (by decide) ?_
        obtain rfl := Option.some.inj h6
        exact K8
      · replace h6 := fi_neg h6 c38
        refine f_iconst (v := 0) hC dX5_would_39 (by decide) ?_
        refine f_goto hC 44 dX5_would_40 (by decide) ?_
        obtain rfl := Option.some.inj h6
        exact K8
    · replace h6 := fi_pos h6 c31
      refine f_iconst (v := 2) hC dX5_would_23 (by decide) ?_
      refine f_goto hC 44 dX5_would_24 (by decide) ?_
      obtain rfl := Option.some.inj h6
      exact K8
  · replace h6 := fi_pos h6 c27
    refine f_iconst (v := 1) hC dX5_would_9 (by decide) ?_
    refine f_goto hC 44 dX5_would_10 (by decide) ?_
    obtain rfl := Option.some.inj h6
    exact K8
theorem dX5_unlike_0 : decode cX5_unlike 0 = .ok (.iconst 0, 1) := by decide +kernel
theorem dX5_unlike_1 : decode cX5_unlike 1 = .ok (.istore 4, 2) := by decide +kernel
theorem dX5_unlike_3 : decode cX5_unlike 3 = .ok (.iconst 0, 1) := by decide +kernel
theorem dX5_unlike_4 : decode cX5_unlike 4 = .ok (.istore 5, 2) := by decide +kernel
theorem dX5_unlike_6 : decode cX5_unlike 6 = .ok (.iload 5, 2) := by decide +kernel
theorem dX5_unlike_8 : decode cX5_unlike 8 = .ok (.bipush 6, 2) := by decide +kernel
theorem dX5_unlike_10 : decode cX5_unlike 10 = .ok (.if_icmp .ge 85, 3) := by decide +kernel
theorem dX5_unlike_13 : decode cX5_unlike 13 = .ok (.iload 5, 2) := by decide +kernel
theorem dX5_unlike_15 : decode cX5_unlike 15 = .ok (.aload_n 0, 1) := by decide +kernel
theorem dX5_unlike_16 : decode cX5_unlike 16 = .ok (.iload_n 1, 1) := by decide +kernel
theorem dX5_unlike_17 : decode cX5_unlike 17 = .ok (.iconst 0, 1) := by decide +kernel
theorem dX5_unlike_18 : decode cX5_unlike 18 = .ok (.invokevirtual 70, 3) := by decide +kernel
theorem dX5_unlike_21 : decode cX5_unlike 21 = .ok (.if_icmp .ge 7, 3) := by decide +kernel
theorem dX5_unlike_24 : decode cX5_unlike 24 = .ok (.iconst 1, 1) := by decide +kernel
theorem dX5_unlike_25 : decode cX5_unlike 25 = .ok (.goto 4, 3) := by decide +kernel
theorem dX5_unlike_28 : decode cX5_unlike 28 = .ok (.iconst 0, 1) := by decide +kernel
theorem dX5_unlike_29 : decode cX5_unlike 29 = .ok (.istore 6, 2) := by decide +kernel
theorem dX5_unlike_31 : decode cX5_unlike 31 = .ok (.iload 5, 2) := by decide +kernel
theorem dX5_unlike_33 : decode cX5_unlike 33 = .ok (.aload_n 0, 1) := by decide +kernel
theorem dX5_unlike_34 : decode cX5_unlike 34 = .ok (.iload_n 3, 1) := by decide +kernel
theorem dX5_unlike_35 : decode cX5_unlike 35 = .ok (.iconst 0, 1) := by decide +kernel
theorem dX5_unlike_36 : decode cX5_unlike 36 = .ok (.invokevirtual 70, 3) := by decide +kernel
theorem dX5_unlike_39 : decode cX5_unlike 39 = .ok (.if_icmp .ge 7, 3) := by decide +kernel
theorem dX5_unlike_42 : decode cX5_unlike 42 = .ok (.iconst 1, 1) := by decide +kernel
theorem dX5_unlike_43 : decode cX5_unlike 43 = .ok (.goto 4, 3) := by decide +kernel
theorem dX5_unlike_46 : decode cX5_unlike 46 = .ok (.iconst 0, 1) := by decide +kernel
theorem dX5_unlike_47 : decode cX5_unlike 47 = .ok (.istore 7, 2) := by decide +kernel
theorem dX5_unlike_49 : decode cX5_unlike 49 = .ok (.iload 4, 2) := by decide +kernel
theorem dX5_unlike_51 : decode cX5_unlike 51 = .ok (.iload 6, 2) := by decide +kernel
theorem dX5_unlike_53 : decode cX5_unlike 53 = .ok (.iload 7, 2) := by decide +kernel
theorem dX5_unlike_55 : decode cX5_unlike 55 = .ok (.if_icmp .ne 26, 3) := by decide +kernel
theorem dX5_unlike_58 : decode cX5_unlike 58 = .ok (.iload 6, 2) := by decide +kernel
theorem dX5_unlike_60 : decode cX5_unlike 60 = .ok (.ifCond .eq 25, 3) := by decide +kernel
theorem dX5_unlike_63 : decode cX5_unlike 63 = .ok (.aload_n 0, 1) := by decide +kernel
theorem dX5_unlike_64 : decode cX5_unlike 64 = .ok (.iload_n 1, 1) := by decide +kernel
theorem dX5_unlike_65 : decode cX5_unlike 65 = .ok (.iload_n 2, 1) := by decide +kernel
theorem dX5_unlike_66 : decode cX5_unlike 66 = .ok (.iload 5, 2) := by decide +kernel
theorem dX5_unlike_68 : decode cX5_unlike 68 = .ok (.invokevirtual 116, 3) := by decide +kernel
theorem dX5_unlike_71 : decode cX5_unlike 71 = .ok (.aload_n 0, 1) := by decide +kernel
theorem dX5_unlike_72 : decode cX5_unlike 72 = .ok (.iload_n 3, 1) := by decide +kernel
theorem dX5_unlike_73 : decode cX5_unlike 73 = .ok (.iload 5, 2) := by decide +kernel
theorem dX5_unlike_75 : decode cX5_unlike 75 = .ok (.invokevirtual 89, 3) := by decide +kernel
theorem dX5_unlike_78 : decode cX5_unlike 78 = .ok (.if_icmp .eq 7, 3) := by decide +kernel
theorem dX5_unlike_81 : decode cX5_unlike 81 = .ok (.iconst 1, 1) := by decide +kernel
theorem dX5_unlike_82 : decode cX5_unlike 82 = .ok (.goto 4, 3) := by decide +kernel
theorem dX5_unlike_85 : decode cX5_unlike 85 = .ok (.iconst 0, 1) := by decide +kernel
theorem dX5_unlike_86 : decode cX5_unlike 86 = .ok (.iadd, 1) := by decide +kernel
theorem dX5_unlike_87 : decode cX5_unlike 87 = .ok (.istore 4, 2) := by decide +kernel
theorem dX5_unlike_89 : decode cX5_unlike 89 = .ok (.iinc 5 1, 3) := by decide +kernel
theorem dX5_unlike_92 : decode cX5_unlike 92 = .ok (.goto (-86), 3) := by decide +kernel
theorem dX5_unlike_95 : decode cX5_unlike 95 = .ok (.iload 4, 2) := by decide +kernel
theorem dX5_unlike_97 : decode cX5_unlike 97 = .ok (.ireturn, 1) := by decide +kernel
theorem h9_X5_unlike : yX5_unlike.cls ≠ "java/lang/invoke/MethodHandle" ∧ yX5_unlike.cls ≠ "java/lang/invoke/VarHandle" ∧ (parseMethodDescriptor yX5_unlike.desc).map (fun d => d.parameters.length) = some 3 := by decide +kernel
noncomputable def F_X5_unlike (a0 : Nat) (x1 : Int32) (x2 : Int32) (x3 : Int32) (w : FW) : Option (Int32) :=
  (fLoop (σ := Int32 × Int32) (ρ := Int32) (fun s1 => (if 6 ≤ s1.2 then some (.inr s1.1) else fg (w.1 a0 = 6) inferInstance ((F_X5_of a0 x1 0 w).bind (fun r11 => ((if r11 ≤ s1.2 then some 0 else some 1) : Option (Int32)).bind (fun x15 => (F_X5_of a0 x3 0 w).bind (fun r19 => ((if r19 ≤ s1.2 then some 0 else some 1) : Option (Int32)).bind (fun x22 => (if x15 = x22 then (if x15 = 0 then some (.inl ((s1.1 + 0), (s1.2 + 1))) else (F_X5_reads a0 x1 x2 s1.2 w).bind (fun r28 => (F_X5_letterOf a0 x3 s1.2 w).bind (fun r31 => (if r28 = r31 then some (.inl ((s1.1 + 0), (s1.2 + 1))) else some (.inl ((s1.1 + 1), (s1.2 + 1))))))) else some (.inl ((s1.1 + 1), (s1.2 + 1))))))))))) (0, 0)).bind (fun x7 => some x7)
set_option maxHeartbeats 4000000 in
set_option maxRecDepth 100000 in
theorem c_X5_unlike (l : Launch) (D : va_G) (cy : Nat → ClassId) (a0 : Nat) (x1 : Int32) (x2 : Int32) (x3 : Int32) (w : FW) (r : Int32) (hF : F_X5_unlike a0 x1 x2 x3 w = some r) : fSpec l D cy yX5_unlike cX5_unlike 8 (some .int) { frames := 7, cells := 0, slots := 0, locals := 165 } [.ref a0, .int x1, .int x2, .int x3] w w (some (.int r)) := by
  refine f_begin (by decide +kernel) (Nat.le_of_ble_eq_true rfl) (fun X hC hEn => ?_)
  unfold F_X5_unlike at hF
  show fAt X 0 0 8 w [(0, .ref a0), (1, .int x1), (2, .int x2), (3, .int x3)] [] 0
  refine f_iconst (v := 0) hC dX5_unlike_0 (by decide) ?_
  refine f_istore (L' := [(4, .int 0), (0, .ref a0), (1, .int x1), (2, .int x2), (3, .int x3)]) hC dX5_unlike_1 (by decide) rfl ?_
  refine f_iconst (v := 0) hC dX5_unlike_3 (by decide) ?_
  refine f_istore (L' := [(5, .int 0), (4, .int 0), (0, .ref a0), (1, .int x1), (2, .int x2), (3, .int x3)]) hC dX5_unlike_4 (by decide) rfl ?_
  obtain ⟨x7, h8, hF⟩ := fb_open hF
  have K9 : fAt X 0 0 8 w [(4, .int x7)] [] 95 := by
    refine f_iload hC dX5_unlike_95 0 rfl ?_
    obtain rfl := Option.some.inj hF
    exact f_iret hC hEn (fSm.rf w) dX5_unlike_97
  refine f_sub (L' := [(0, .ref a0), (1, .int x1), (2, .int x2), (3, .int x3), (4, .int 0), (5, .int 0)]) [2, 3, 4, 5, 1, 0] rfl ?_
  refine fLoop_ind (fun (s1 : Int32 × Int32) => fAt X 0 0 8 w [(0, .ref a0), (1, .int x1), (2, .int x2), (3, .int x3), (4, .int s1.1), (5, .int s1.2)] [] 6) (fun s1 y6 h2 go3 ou4 => ?_) h8
  refine f_iload hC dX5_unlike_6 5 rfl ?_
  refine f_bipush (v := 6) hC dX5_unlike_8 (by decide) ?_
  refine f_icmp_ge hC 95 dX5_unlike_10 (by decide) (fun c10 => ?_) (fun c10 => ?_)
  · replace h2 := fi_pos h2 c10
    obtain rfl := Option.some.inj h2
    obtain rfl := ou4 _ rfl
    refine f_sub (L' := [(4, .int s1.1)]) [4] rfl ?_
    exact K9
  · replace h2 := fi_neg h2 c10
    refine f_iload hC dX5_unlike_13 5 rfl ?_
    refine f_aload_n hC dX5_unlike_15 rfl 0 rfl ?_
    refine f_iload_n hC dX5_unlike_16 rfl 1 rfl ?_
    refine f_iconst (v := 0) hC dX5_unlike_17 (by decide) ?_
    obtain ⟨g13, h2⟩ := fg_open h2
    obtain ⟨r11, h12, h2⟩ := fb_open h2
    refine f_callV hC [.int x1, .int 0] (c_X5_of l D cy a0 x1 0 w r11 h12) q_1447 q_136 q_1444 q_1446 q_90 h9_X5_of rfl (fSm.k (fSm.rf w) g13) ⟨Nat.le_of_ble_eq_true rfl, Nat.le_of_ble_eq_true rfl⟩ ⟨Nat.le_of_ble_eq_true rfl, Nat.le_of_ble_eq_true rfl⟩ (Nat.le_of_ble_eq_true rfl) rfl dX5_unlike_18 (fun e14 => ?_)
    obtain ⟨x15, h16, h2⟩ := fb_open h2
    have K18 : fAt X 0 0 8 w [(0, .ref a0), (1, .int x1), (2, .int x2), (3, .int x3), (4, .int s1.1), (5, .int s1.2)] [.int x15] 29 := by
      refine f_istore (L' := [(6, .int x15), (0, .ref a0), (1, .int x1), (2, .int x2), (3, .int x3), (4, .int s1.1), (5, .int s1.2)]) hC dX5_unlike_29 (by decide) rfl ?_
      refine f_iload hC dX5_unlike_31 6 rfl ?_
      refine f_aload_n hC dX5_unlike_33 rfl 1 rfl ?_
      refine f_iload_n hC dX5_unlike_34 rfl 4 rfl ?_
      refine f_iconst (v := 0) hC dX5_unlike_35 (by decide) ?_
      obtain ⟨r19, h20, h2⟩ := fb_open h2
      refine f_callV hC [.int x3, .int 0] (c_X5_of l D cy a0 x3 0 w r19 h20) q_1447 q_136 q_1444 q_1446 q_90 h9_X5_of rfl (fSm.k (fSm.rf w) g13) ⟨Nat.le_of_ble_eq_true rfl, Nat.le_of_ble_eq_true rfl⟩ ⟨Nat.le_of_ble_eq_true rfl, Nat.le_of_ble_eq_true rfl⟩ (Nat.le_of_ble_eq_true rfl) rfl dX5_unlike_36 (fun e21 => ?_)
      obtain ⟨x22, h23, h2⟩ := fb_open h2
      have K25 : fAt X 0 0 8 w [(0, .ref a0), (1, .int x1), (2, .int x2), (3, .int x3), (4, .int s1.1), (5, .int s1.2), (6, .int x15)] [.int x22] 47 := by
        refine f_istore (L' := [(7, .int x22), (0, .ref a0), (1, .int x1), (2, .int x2), (3, .int x3), (4, .int s1.1), (5, .int s1.2), (6, .int x15)]) hC dX5_unlike_47 (by decide) rfl ?_
        refine f_iload hC dX5_unlike_49 5 rfl ?_
        refine f_iload hC dX5_unlike_51 7 rfl ?_
        refine f_iload hC dX5_unlike_53 0 rfl ?_
        refine f_icmp_ne hC 81 dX5_unlike_55 (by decide) (fun c26 => ?_) (fun c26 => ?_)
        · replace h2 := fi_neg h2 c26
          refine f_iconst (v := 1) hC dX5_unlike_81 (by decide) ?_
          refine f_goto hC 86 dX5_unlike_82 (by decide) ?_
          refine f_iadd hC dX5_unlike_86 ?_
          refine f_istore (L' := [(4, .int (s1.1 + 1)), (7, .int x22), (0, .ref a0), (1, .int x1), (2, .int x2), (3, .int x3), (5, .int s1.2), (6, .int x15)]) hC dX5_unlike_87 (by decide) rfl ?_
          refine f_iinc (L' := [(5, .int (s1.2 + 1)), (4, .int (s1.1 + 1)), (7, .int x22), (0, .ref a0), (1, .int x1), (2, .int x2), (3, .int x3), (6, .int x15)]) hC dX5_unlike_89 6 rfl rfl (by decide) rfl ?_
          refine f_goto hC 6 dX5_unlike_92 (by decide) ?_
          obtain rfl := Option.some.inj h2
          refine f_sub (L' := [(0, .ref a0), (1, .int x1), (2, .int x2), (3, .int x3), (4, .int (s1.1 + 1)), (5, .int (s1.2 + 1))]) [3, 4, 5, 6, 1, 0] rfl ?_
          exact go3 _ rfl
        · replace h2 := fi_pos h2 c26
          refine f_iload hC dX5_unlike_58 7 rfl ?_
          refine f_if_eq hC 85 dX5_unlike_60 (by decide) (fun c27 => ?_) (fun c27 => ?_)
          · replace h2 := fi_pos h2 c27
            refine f_iconst (v := 0) hC dX5_unlike_85 (by decide) ?_
            refine f_iadd hC dX5_unlike_86 ?_
            refine f_istore (L' := [(4, .int (s1.1 + 0)), (7, .int x22), (0, .ref a0), (1, .int x1), (2, .int x2), (3, .int x3), (5, .int s1.2), (6, .int x15)]) hC dX5_unlike_87 (by decide) rfl ?_
            refine f_iinc (L' := [(5, .int (s1.2 + 1)), (4, .int (s1.1 + 0)), (7, .int x22), (0, .ref a0), (1, .int x1), (2, .int x2), (3, .int x3), (6, .int x15)]) hC dX5_unlike_89 6 rfl rfl (by decide) rfl ?_
            refine f_goto hC 6 dX5_unlike_92 (by decide) ?_
            obtain rfl := Option.some.inj h2
            refine f_sub (L' := [(0, .ref a0), (1, .int x1), (2, .int x2), (3, .int x3), (4, .int (s1.1 + 0)), (5, .int (s1.2 + 1))]) [3, 4, 5, 6, 1, 0] rfl ?_
            exact go3 _ rfl
          · replace h2 := fi_neg h2 c27
            refine f_aload_n hC dX5_unlike_63 rfl 1 rfl ?_
            refine f_iload_n hC dX5_unlike_64 rfl 2 rfl ?_
            refine f_iload_n hC dX5_unlike_65 rfl 3 rfl ?_
            refine f_iload hC dX5_unlike_66 6 rfl ?_
            obtain ⟨r28, h29, h2⟩ := fb_open h2
            refine f_callV hC [.int x1, .int x2, .int s1.2] (c_X5_reads l D cy a0 x1 x2 s1.2 w r28 h29) q_1560 q_136 q_1557 q_1559 q_108 h9_X5_reads rfl (fSm.k (fSm.rf w) g13) ⟨Nat.le_of_ble_eq_true rfl, Nat.le_of_ble_eq_true rfl⟩ ⟨Nat.le_of_ble_eq_true rfl, Nat.le_of_ble_eq_true rfl⟩ (Nat.le_of_ble_eq_true rfl) rfl dX5_unlike_68 (fun e30 => ?_)
            refine f_aload_n hC dX5_unlike_71 rfl 1 rfl ?_
            refine f_iload_n hC dX5_unlike_72 rfl 4 rfl ?_
            refine f_iload hC dX5_unlike_73 6 rfl ?_
            obtain ⟨r31, h32, h2⟩ := fb_open h2
            refine f_callV hC [.int x3, .int s1.2] (c_X5_letterOf l D cy a0 x3 s1.2 w r31 h32) q_1455 q_136 q_1452 q_1454 q_92 h9_X5_letterOf rfl (fSm.k (fSm.rf w) g13) ⟨Nat.le_of_ble_eq_true rfl, Nat.le_of_ble_eq_true rfl⟩ ⟨Nat.le_of_ble_eq_true rfl, Nat.le_of_ble_eq_true rfl⟩ (Nat.le_of_ble_eq_true rfl) rfl dX5_unlike_75 (fun e33 => ?_)
            refine f_icmp_eq hC 85 dX5_unlike_78 (by decide) (fun c34 => ?_) (fun c34 => ?_)
            · replace h2 := fi_pos h2 c34
              refine f_iconst (v := 0) hC dX5_unlike_85 (by decide) ?_
              refine f_iadd hC dX5_unlike_86 ?_
              refine f_istore (L' := [(4, .int (s1.1 + 0)), (7, .int x22), (0, .ref a0), (1, .int x1), (2, .int x2), (3, .int x3), (5, .int s1.2), (6, .int x15)]) hC dX5_unlike_87 (by decide) rfl ?_
              refine f_iinc (L' := [(5, .int (s1.2 + 1)), (4, .int (s1.1 + 0)), (7, .int x22), (0, .ref a0), (1, .int x1), (2, .int x2), (3, .int x3), (6, .int x15)]) hC dX5_unlike_89 6 rfl rfl (by decide) rfl ?_
              refine f_goto hC 6 dX5_unlike_92 (by decide) ?_
              obtain rfl := Option.some.inj h2
              refine f_sub (L' := [(0, .ref a0), (1, .int x1), (2, .int x2), (3, .int x3), (4, .int (s1.1 + 0)), (5, .int (s1.2 + 1))]) [3, 4, 5, 6, 1, 0] rfl ?_
              exact go3 _ rfl
            · replace h2 := fi_neg h2 c34
              refine f_iconst (v := 1) hC dX5_unlike_81 (by decide) ?_
              refine f_goto hC 86 dX5_unlike_82 (by decide) ?_
              refine f_iadd hC dX5_unlike_86 ?_
              refine f_istore (L' := [(4, .int (s1.1 + 1)), (7, .int x22), (0, .ref a0), (1, .int x1), (2, .int x2), (3, .int x3), (5, .int s1.2), (6, .int x15)]) hC dX5_unlike_87 (by decide) rfl ?_
              refine f_iinc (L' := [(5, .int (s1.2 + 1)), (4, .int (s1.1 + 1)), (7, .int x22), (0, .ref a0), (1, .int x1), (2, .int x2), (3, .int x3), (6, .int x15)]) hC dX5_unlike_89 6 rfl rfl (by decide) rfl ?_
              refine f_goto hC 6 dX5_unlike_92 (by decide) ?_
              obtain rfl := Option.some.inj h2
              refine f_sub (L' := [(0, .ref a0), (1, .int x1), (2, .int x2), (3, .int x3), (4, .int (s1.1 + 1)), (5, .int (s1.2 + 1))]) [3, 4, 5, 6, 1, 0] rfl ?_
              exact go3 _ rfl
      refine f_icmp_ge hC 46 dX5_unlike_39 (by decide) (fun c35 => ?_) (fun c35 => ?_)
      · replace h23 := fi_pos h23 c35
        refine f_iconst (v := 0) hC dX5_unlike_46 (by decide) ?_
        obtain rfl := Option.some.inj h23
        refine f_sub (L' := [(0, .ref a0), (1, .int x1), (2, .int x2), (3, .int x3), (4, .int s1.1), (5, .int s1.2), (6, .int x15)]) [1, 2, 3, 4, 5, 6, 0] rfl ?_
        exact K25
      · replace h23 := fi_neg h23 c35
        refine f_iconst (v := 1) hC dX5_unlike_42 (by decide) ?_
        refine f_goto hC 47 dX5_unlike_43 (by decide) ?_
        obtain rfl := Option.some.inj h23
        refine f_sub (L' := [(0, .ref a0), (1, .int x1), (2, .int x2), (3, .int x3), (4, .int s1.1), (5, .int s1.2), (6, .int x15)]) [1, 2, 3, 4, 5, 6, 0] rfl ?_
        exact K25
    refine f_icmp_ge hC 28 dX5_unlike_21 (by decide) (fun c36 => ?_) (fun c36 => ?_)
    · replace h16 := fi_pos h16 c36
      refine f_iconst (v := 0) hC dX5_unlike_28 (by decide) ?_
      obtain rfl := Option.some.inj h16
      exact K18
    · replace h16 := fi_neg h16 c36
      refine f_iconst (v := 1) hC dX5_unlike_24 (by decide) ?_
      refine f_goto hC 29 dX5_unlike_25 (by decide) ?_
      obtain rfl := Option.some.inj h16
      exact K18
theorem dX5_likely_0 : decode cX5_likely 0 = .ok (.aload_n 0, 1) := by decide +kernel
theorem dX5_likely_1 : decode cX5_likely 1 = .ok (.aload_n 0, 1) := by decide +kernel
theorem dX5_likely_2 : decode cX5_likely 2 = .ok (.iload_n 1, 1) := by decide +kernel
theorem dX5_likely_3 : decode cX5_likely 3 = .ok (.iload_n 2, 1) := by decide +kernel
theorem dX5_likely_4 : decode cX5_likely 4 = .ok (.invokevirtual 213, 3) := by decide +kernel
theorem dX5_likely_7 : decode cX5_likely 7 = .ok (.putfield 41, 3) := by decide +kernel
theorem dX5_likely_10 : decode cX5_likely 10 = .ok (.aload_n 0, 1) := by decide +kernel
theorem dX5_likely_11 : decode cX5_likely 11 = .ok (.getfield 41, 3) := by decide +kernel
theorem dX5_likely_14 : decode cX5_likely 14 = .ok (.ifCond .le 5, 3) := by decide +kernel
theorem dX5_likely_17 : decode cX5_likely 17 = .ok (.iconst 0, 1) := by decide +kernel
theorem dX5_likely_18 : decode cX5_likely 18 = .ok (.ireturn, 1) := by decide +kernel
theorem dX5_likely_19 : decode cX5_likely 19 = .ok (.iload_n 2, 1) := by decide +kernel
theorem dX5_likely_20 : decode cX5_likely 20 = .ok (.invokestatic 194, 3) := by decide +kernel
theorem dX5_likely_23 : decode cX5_likely 23 = .ok (.istore_n 3, 1) := by decide +kernel
theorem dX5_likely_24 : decode cX5_likely 24 = .ok (.iconst 0, 1) := by decide +kernel
theorem dX5_likely_25 : decode cX5_likely 25 = .ok (.istore 4, 2) := by decide +kernel
theorem dX5_likely_27 : decode cX5_likely 27 = .ok (.iconst 1, 1) := by decide +kernel
theorem dX5_likely_28 : decode cX5_likely 28 = .ok (.istore 5, 2) := by decide +kernel
theorem dX5_likely_30 : decode cX5_likely 30 = .ok (.iload 5, 2) := by decide +kernel
theorem dX5_likely_32 : decode cX5_likely 32 = .ok (.aload_n 0, 1) := by decide +kernel
theorem dX5_likely_33 : decode cX5_likely 33 = .ok (.getfield 7, 3) := by decide +kernel
theorem dX5_likely_36 : decode cX5_likely 36 = .ok (.iconst 0, 1) := by decide +kernel
theorem dX5_likely_37 : decode cX5_likely 37 = .ok (.iaload, 1) := by decide +kernel
theorem dX5_likely_38 : decode cX5_likely 38 = .ok (.if_icmp .ge 37, 3) := by decide +kernel
theorem dX5_likely_41 : decode cX5_likely 41 = .ok (.aload_n 0, 1) := by decide +kernel
theorem dX5_likely_42 : decode cX5_likely 42 = .ok (.iload_n 1, 1) := by decide +kernel
theorem dX5_likely_43 : decode cX5_likely 43 = .ok (.iload_n 3, 1) := by decide +kernel
theorem dX5_likely_44 : decode cX5_likely 44 = .ok (.iload 5, 2) := by decide +kernel
theorem dX5_likely_46 : decode cX5_likely 46 = .ok (.invokevirtual 216, 3) := by decide +kernel
theorem dX5_likely_49 : decode cX5_likely 49 = .ok (.aload_n 0, 1) := by decide +kernel
theorem dX5_likely_50 : decode cX5_likely 50 = .ok (.iload_n 1, 1) := by decide +kernel
theorem dX5_likely_51 : decode cX5_likely 51 = .ok (.iload_n 3, 1) := by decide +kernel
theorem dX5_likely_52 : decode cX5_likely 52 = .ok (.iload 4, 2) := by decide +kernel
theorem dX5_likely_54 : decode cX5_likely 54 = .ok (.invokevirtual 216, 3) := by decide +kernel
theorem dX5_likely_57 : decode cX5_likely 57 = .ok (.if_icmp .ge 8, 3) := by decide +kernel
theorem dX5_likely_60 : decode cX5_likely 60 = .ok (.iload 5, 2) := by decide +kernel
theorem dX5_likely_62 : decode cX5_likely 62 = .ok (.goto 5, 3) := by decide +kernel
theorem dX5_likely_65 : decode cX5_likely 65 = .ok (.iload 4, 2) := by decide +kernel
theorem dX5_likely_67 : decode cX5_likely 67 = .ok (.istore 4, 2) := by decide +kernel
theorem dX5_likely_69 : decode cX5_likely 69 = .ok (.iinc 5 1, 3) := by decide +kernel
theorem dX5_likely_72 : decode cX5_likely 72 = .ok (.goto (-42), 3) := by decide +kernel
theorem dX5_likely_75 : decode cX5_likely 75 = .ok (.iload 4, 2) := by decide +kernel
theorem dX5_likely_77 : decode cX5_likely 77 = .ok (.ireturn, 1) := by decide +kernel
theorem h9_X5_likely : yX5_likely.cls ≠ "java/lang/invoke/MethodHandle" ∧ yX5_likely.cls ≠ "java/lang/invoke/VarHandle" ∧ (parseMethodDescriptor yX5_likely.desc).map (fun d => d.parameters.length) = some 2 := by decide +kernel
noncomputable def F_X5_likely (a0 : Nat) (x1 : Int32) (x2 : Int32) (w : FW) : Option (Int32 × FW) :=
  fg (w.1 a0 = 6) inferInstance ((F_X5_halfThere a0 x1 x2 w).bind (fun r1 => (if (gI (sI w 500 a0 0 r1) 500 a0 0) ≤ 0 then (F_X5_number x2 (sI w 500 a0 0 r1)).bind (fun r6 => (fLoop (σ := Int32 × Int32) (ρ := Int32) (fun s9 => fg (w.1 (gR w 501 a0 0) = 11) inferInstance (fg (¬ (0 < 0 ∨ w.2.1 (gR w 501 a0 0) ≤ Int32.toNatClampNeg 0)) inferInstance ((if (gI (sI w 500 a0 0 r1) 601 (gR (sI w 500 a0 0 r1) 501 a0 0) (Int32.toNatClampNeg 0)) ≤ s9.2 then some (.inr s9.1) else (F_X5_unlike a0 x1 r6 s9.2 (sI w 500 a0 0 r1)).bind (fun r21 => (F_X5_unlike a0 x1 r6 s9.1 (sI w 500 a0 0 r1)).bind (fun r24 => (if r24 ≤ r21 then some (.inl (s9.1, (s9.2 + 1))) else some (.inl (s9.2, (s9.2 + 1)))))))))) (0, 1)).bind (fun x15 => some (x15, (sI w 500 a0 0 r1)))) else some (0, (sI w 500 a0 0 r1)))))
set_option maxHeartbeats 4000000 in
set_option maxRecDepth 100000 in
theorem c_X5_likely (l : Launch) (D : va_G) (cy : Nat → ClassId) (a0 : Nat) (x1 : Int32) (x2 : Int32) (w : FW) (r : Int32 × FW) (hF : F_X5_likely a0 x1 x2 w = some r) : fSpec l D cy yX5_likely cX5_likely 6 (some .int) { frames := 8, cells := 0, slots := 0, locals := 192 } [.ref a0, .int x1, .int x2] w r.2 (some (.int r.1)) := by
  refine f_begin (by decide +kernel) (Nat.le_of_ble_eq_true rfl) (fun X hC hEn => ?_)
  unfold F_X5_likely at hF
  show fAt X 0 0 6 w [(0, .ref a0), (1, .int x1), (2, .int x2)] [] 0
  refine f_aload_n hC dX5_likely_0 rfl 0 rfl ?_
  refine f_aload_n hC dX5_likely_1 rfl 0 rfl ?_
  refine f_iload_n hC dX5_likely_2 rfl 1 rfl ?_
  refine f_iload_n hC dX5_likely_3 rfl 2 rfl ?_
  obtain ⟨g3, hF⟩ := fg_open hF
  obtain ⟨r1, h2, hF⟩ := fb_open hF
  refine f_callV hC [.int x1, .int x2] (c_X5_halfThere l D cy a0 x1 x2 w r1 h2) q_1572 q_136 q_1569 q_1571 q_109 h9_X5_halfThere rfl (fSm.k (fSm.rf w) g3) ⟨Nat.le_of_ble_eq_true rfl, Nat.le_of_ble_eq_true rfl⟩ ⟨Nat.le_of_ble_eq_true rfl, Nat.le_of_ble_eq_true rfl⟩ (Nat.le_of_ble_eq_true rfl) rfl dX5_likely_4 (fun e4 => ?_)
  refine f_putI hC 5 0 500 rfl (by decide) iX5 tyX5 tyX5_ok nmX5 q_1254 rfl rfl rfl rfl rfl (fSm.k (fSm.rf w) g3) dX5_likely_7 ?_
  refine f_aload_n hC dX5_likely_10 rfl 0 rfl ?_
  refine f_getI hC 5 0 500 rfl (by decide) iX5 q_1254 rfl rfl (fSm.k (fSm.rf w) g3) dX5_likely_11 ?_
  refine f_if_le hC 19 dX5_likely_14 (by decide) (fun c5 => ?_) (fun c5 => ?_)
  · replace hF := fi_pos hF c5
    refine f_iload_n hC dX5_likely_19 rfl 2 rfl ?_
    obtain ⟨r6, h7, hF⟩ := fb_open hF
    refine f_callS hC [.int x2] (c_X5_number l D cy x2 (sI w 500 a0 0 r1) r6 h7) q_1466 q_136 q_1464 q_1465 h9_X5_number ⟨Nat.le_of_ble_eq_true rfl, Nat.le_of_ble_eq_true rfl⟩ ⟨Nat.le_of_ble_eq_true rfl, Nat.le_of_ble_eq_true rfl⟩ (Nat.le_of_ble_eq_true rfl) rfl dX5_likely_20 (fun e8 => ?_)
    refine f_istore_n (L' := [(3, .int r6), (0, .ref a0), (1, .int x1), (2, .int x2)]) hC dX5_likely_23 rfl (by decide) rfl ?_
    refine f_iconst (v := 0) hC dX5_likely_24 (by decide) ?_
    refine f_istore (L' := [(4, .int 0), (3, .int r6), (0, .ref a0), (1, .int x1), (2, .int x2)]) hC dX5_likely_25 (by decide) rfl ?_
    refine f_iconst (v := 1) hC dX5_likely_27 (by decide) ?_
    refine f_istore (L' := [(5, .int 1), (4, .int 0), (3, .int r6), (0, .ref a0), (1, .int x1), (2, .int x2)]) hC dX5_likely_28 (by decide) rfl ?_
    obtain ⟨x15, h16, hF⟩ := fb_open hF
    have K17 : fAt X 0 0 6 (sI w 500 a0 0 r1) [(4, .int x15)] [] 75 := by
      refine f_iload hC dX5_likely_75 0 rfl ?_
      obtain rfl := Option.some.inj hF
      exact f_iret hC hEn (fSm.rf w) dX5_likely_77
    refine f_sub (L' := [(0, .ref a0), (1, .int x1), (3, .int r6), (4, .int 0), (5, .int 1)]) [3, 4, 2, 1, 0] rfl ?_
    refine fLoop_ind (fun (s9 : Int32 × Int32) => fAt X 0 0 6 (sI w 500 a0 0 r1) [(0, .ref a0), (1, .int x1), (3, .int r6), (4, .int s9.1), (5, .int s9.2)] [] 30) (fun s9 y14 h10 go11 ou12 => ?_) h16
    refine f_iload hC dX5_likely_30 4 rfl ?_
    refine f_aload_n hC dX5_likely_32 rfl 0 rfl ?_
    refine f_getR hC 5 1 501 rfl (by decide) iX5 q_1255 rfl rfl (fSm.k (fSm.rf w) g3) dX5_likely_33 ?_
    refine f_iconst (v := 0) hC dX5_likely_36 (by decide) ?_
    obtain ⟨g18, h10⟩ := fg_open h10
    obtain ⟨g19, h10⟩ := fg_open h10
    refine f_iald hC (fSm.k (fSm.rf w) g18) (fSm.v (fSm.rf w) g19) dX5_likely_37 ?_
    refine f_icmp_ge hC 75 dX5_likely_38 (by decide) (fun c20 => ?_) (fun c20 => ?_)
    · replace h10 := fi_pos h10 c20
      obtain rfl := Option.some.inj h10
      obtain rfl := ou12 _ rfl
      refine f_sub (L' := [(4, .int s9.1)]) [3] rfl ?_
      exact K17
    · replace h10 := fi_neg h10 c20
      refine f_aload_n hC dX5_likely_41 rfl 0 rfl ?_
      refine f_iload_n hC dX5_likely_42 rfl 1 rfl ?_
      refine f_iload_n hC dX5_likely_43 rfl 2 rfl ?_
      refine f_iload hC dX5_likely_44 4 rfl ?_
      obtain ⟨r21, h22, h10⟩ := fb_open h10
      refine f_callV hC [.int x1, .int r6, .int s9.2] (c_X5_unlike l D cy a0 x1 r6 s9.2 (sI w 500 a0 0 r1) r21 h22) q_1584 q_136 q_1581 q_1583 q_110 h9_X5_unlike rfl (fSm.k (fSm.rf w) g3) ⟨Nat.le_of_ble_eq_true rfl, Nat.le_of_ble_eq_true rfl⟩ ⟨Nat.le_of_ble_eq_true rfl, Nat.le_of_ble_eq_true rfl⟩ (Nat.le_of_ble_eq_true rfl) rfl dX5_likely_46 (fun e23 => ?_)
      refine f_aload_n hC dX5_likely_49 rfl 0 rfl ?_
      refine f_iload_n hC dX5_likely_50 rfl 1 rfl ?_
      refine f_iload_n hC dX5_likely_51 rfl 2 rfl ?_
      refine f_iload hC dX5_likely_52 3 rfl ?_
      obtain ⟨r24, h25, h10⟩ := fb_open h10
      refine f_callV hC [.int x1, .int r6, .int s9.1] (c_X5_unlike l D cy a0 x1 r6 s9.1 (sI w 500 a0 0 r1) r24 h25) q_1584 q_136 q_1581 q_1583 q_110 h9_X5_unlike rfl (fSm.k (fSm.rf w) g3) ⟨Nat.le_of_ble_eq_true rfl, Nat.le_of_ble_eq_true rfl⟩ ⟨Nat.le_of_ble_eq_true rfl, Nat.le_of_ble_eq_true rfl⟩ (Nat.le_of_ble_eq_true rfl) rfl dX5_likely_54 (fun e26 => ?_)
      refine f_icmp_ge hC 65 dX5_likely_57 (by decide) (fun c27 => ?_) (fun c27 => ?_)
      · replace h10 := fi_pos h10 c27
        refine f_iload hC dX5_likely_65 3 rfl ?_
        refine f_istore (L' := [(4, .int s9.1), (0, .ref a0), (1, .int x1), (3, .int r6), (5, .int s9.2)]) hC dX5_likely_67 (by decide) rfl ?_
        refine f_iinc (L' := [(5, .int (s9.2 + 1)), (4, .int s9.1), (0, .ref a0), (1, .int x1), (3, .int r6)]) hC dX5_likely_69 4 rfl rfl (by decide) rfl ?_
        refine f_goto hC 30 dX5_likely_72 (by decide) ?_
        obtain rfl := Option.some.inj h10
        refine f_sub (L' := [(0, .ref a0), (1, .int x1), (3, .int r6), (4, .int s9.1), (5, .int (s9.2 + 1))]) [2, 3, 4, 1, 0] rfl ?_
        exact go11 _ rfl
      · replace h10 := fi_neg h10 c27
        refine f_iload hC dX5_likely_60 4 rfl ?_
        refine f_goto hC 67 dX5_likely_62 (by decide) ?_
        refine f_istore (L' := [(4, .int s9.2), (0, .ref a0), (1, .int x1), (3, .int r6), (5, .int s9.2)]) hC dX5_likely_67 (by decide) rfl ?_
        refine f_iinc (L' := [(5, .int (s9.2 + 1)), (4, .int s9.2), (0, .ref a0), (1, .int x1), (3, .int r6)]) hC dX5_likely_69 4 rfl rfl (by decide) rfl ?_
        refine f_goto hC 30 dX5_likely_72 (by decide) ?_
        obtain rfl := Option.some.inj h10
        refine f_sub (L' := [(0, .ref a0), (1, .int x1), (3, .int r6), (4, .int s9.2), (5, .int (s9.2 + 1))]) [2, 3, 4, 1, 0] rfl ?_
        exact go11 _ rfl
  · replace hF := fi_neg hF c5
    refine f_iconst (v := 0) hC dX5_likely_17 (by decide) ?_
    obtain rfl := Option.some.inj hF
    exact f_iret hC hEn (fSm.rf w) dX5_likely_18
theorem dX5_ride_0 : decode cX5_ride 0 = .ok (.aload_n 0, 1) := by decide +kernel
theorem dX5_ride_1 : decode cX5_ride 1 = .ok (.invokevirtual 166, 3) := by decide +kernel
theorem dX5_ride_4 : decode cX5_ride 4 = .ok (.aload_n 0, 1) := by decide +kernel
theorem dX5_ride_5 : decode cX5_ride 5 = .ok (.aload_n 0, 1) := by decide +kernel
theorem dX5_ride_6 : decode cX5_ride 6 = .ok (.iload_n 1, 1) := by decide +kernel
theorem dX5_ride_7 : decode cX5_ride 7 = .ok (.iload_n 2, 1) := by decide +kernel
theorem dX5_ride_8 : decode cX5_ride 8 = .ok (.invokestatic 194, 3) := by decide +kernel
theorem dX5_ride_11 : decode cX5_ride 11 = .ok (.invokevirtual 219, 3) := by decide +kernel
theorem dX5_ride_14 : decode cX5_ride 14 = .ok (.iconst 2, 1) := by decide +kernel
theorem dX5_ride_15 : decode cX5_ride 15 = .ok (.invokevirtual 172, 3) := by decide +kernel
theorem dX5_ride_18 : decode cX5_ride 18 = .ok (.ireturn, 1) := by decide +kernel
theorem h9_X5_ride : yX5_ride.cls ≠ "java/lang/invoke/MethodHandle" ∧ yX5_ride.cls ≠ "java/lang/invoke/VarHandle" ∧ (parseMethodDescriptor yX5_ride.desc).map (fun d => d.parameters.length) = some 2 := by decide +kernel
noncomputable def F_X5_ride (a0 : Nat) (x1 : Int32) (x2 : Int32) (w : FW) : Option (Int32 × FW) :=
  fg (w.1 a0 = 6) inferInstance ((F_X5_remembers a0 w).bind (fun r1 => (F_X5_number x2 r1).bind (fun r5 => (F_X5_rides a0 x1 r5 r1).bind (fun r8 => (F_X5_ends a0 r8.1 2 r8.2).bind (fun r11 => some (r11.1, r11.2))))))
set_option maxHeartbeats 4000000 in
set_option maxRecDepth 100000 in
theorem c_X5_ride (l : Launch) (D : va_G) (cy : Nat → ClassId) (a0 : Nat) (x1 : Int32) (x2 : Int32) (w : FW) (r : Int32 × FW) (hF : F_X5_ride a0 x1 x2 w = some r) : fSpec l D cy yX5_ride cX5_ride 3 (some .int) { frames := 10, cells := 0, slots := 0, locals := 238 } [.ref a0, .int x1, .int x2] w r.2 (some (.int r.1)) := by
  refine f_begin (by decide +kernel) (Nat.le_of_ble_eq_true rfl) (fun X hC hEn => ?_)
  unfold F_X5_ride at hF
  show fAt X 0 0 3 w [(0, .ref a0), (1, .int x1), (2, .int x2)] [] 0
  refine f_aload_n hC dX5_ride_0 rfl 0 rfl ?_
  obtain ⟨g3, hF⟩ := fg_open hF
  obtain ⟨r1, h2, hF⟩ := fb_open hF
  refine f_callV hC [] (c_X5_remembers l D cy a0 w r1 h2) q_1339 q_136 q_1336 q_1338 q_72 h9_X5_remembers rfl (fSm.k (fSm.rf w) g3) ⟨Nat.le_of_ble_eq_true rfl, Nat.le_of_ble_eq_true rfl⟩ ⟨Nat.le_of_ble_eq_true rfl, Nat.le_of_ble_eq_true rfl⟩ (Nat.le_of_ble_eq_true rfl) rfl dX5_ride_1 (fun e4 => ?_)
  refine f_aload_n hC dX5_ride_4 rfl 0 rfl ?_
  refine f_aload_n hC dX5_ride_5 rfl 0 rfl ?_
  refine f_iload_n hC dX5_ride_6 rfl 1 rfl ?_
  refine f_iload_n hC dX5_ride_7 rfl 2 rfl ?_
  obtain ⟨r5, h6, hF⟩ := fb_open hF
  refine f_callS hC [.int x2] (c_X5_number l D cy x2 r1 r5 h6) q_1466 q_136 q_1464 q_1465 h9_X5_number ⟨Nat.le_of_ble_eq_true rfl, Nat.le_of_ble_eq_true rfl⟩ ⟨Nat.le_of_ble_eq_true rfl, Nat.le_of_ble_eq_true rfl⟩ (Nat.le_of_ble_eq_true rfl) rfl dX5_ride_8 (fun e7 => ?_)
  obtain ⟨r8, h9, hF⟩ := fb_open hF
  refine f_callV hC [.int x1, .int r5] (c_X5_rides l D cy a0 x1 r5 r1 r8 h9) q_1592 q_136 q_1589 q_1591 q_111 h9_X5_rides rfl (fSm.k (fSm.tr e4 (fSm.rf w)) g3) ⟨Nat.le_of_ble_eq_true rfl, Nat.le_of_ble_eq_true rfl⟩ ⟨Nat.le_of_ble_eq_true rfl, Nat.le_of_ble_eq_true rfl⟩ (Nat.le_of_ble_eq_true rfl) rfl dX5_ride_11 (fun e10 => ?_)
  refine f_iconst (v := 2) hC dX5_ride_14 (by decide) ?_
  obtain ⟨r11, h12, hF⟩ := fb_open hF
  refine f_callV hC [.int r8.1, .int 2] (c_X5_ends l D cy a0 r8.1 2 r8.2 r11 h12) q_1367 q_136 q_1364 q_1366 q_76 h9_X5_ends rfl (fSm.k (fSm.tr e10 (fSm.tr e4 (fSm.rf w))) g3) ⟨Nat.le_of_ble_eq_true rfl, Nat.le_of_ble_eq_true rfl⟩ ⟨Nat.le_of_ble_eq_true rfl, Nat.le_of_ble_eq_true rfl⟩ (Nat.le_of_ble_eq_true rfl) rfl dX5_ride_15 (fun e13 => ?_)
  obtain rfl := Option.some.inj hF
  exact f_iret hC hEn (fSm.tr e13 (fSm.tr e10 (fSm.tr e4 (fSm.rf w)))) dX5_ride_18
theorem dX5_hinders_0 : decode cX5_hinders 0 = .ok (.aload_n 0, 1) := by decide +kernel
theorem dX5_hinders_1 : decode cX5_hinders 1 = .ok (.aload_n 0, 1) := by decide +kernel
theorem dX5_hinders_2 : decode cX5_hinders 2 = .ok (.iload_n 1, 1) := by decide +kernel
theorem dX5_hinders_3 : decode cX5_hinders 3 = .ok (.invokevirtual 135, 3) := by decide +kernel
theorem dX5_hinders_6 : decode cX5_hinders 6 = .ok (.ifCond .eq 7, 3) := by decide +kernel
theorem dX5_hinders_9 : decode cX5_hinders 9 = .ok (.iconst 0, 1) := by decide +kernel
theorem dX5_hinders_10 : decode cX5_hinders 10 = .ok (.goto 4, 3) := by decide +kernel
theorem dX5_hinders_13 : decode cX5_hinders 13 = .ok (.iconst 1, 1) := by decide +kernel
theorem dX5_hinders_14 : decode cX5_hinders 14 = .ok (.putfield 41, 3) := by decide +kernel
theorem dX5_hinders_17 : decode cX5_hinders 17 = .ok (.aload_n 0, 1) := by decide +kernel
theorem dX5_hinders_18 : decode cX5_hinders 18 = .ok (.getfield 41, 3) := by decide +kernel
theorem dX5_hinders_21 : decode cX5_hinders 21 = .ok (.ifCond .le 7, 3) := by decide +kernel
theorem dX5_hinders_24 : decode cX5_hinders 24 = .ok (.iconst 0, 1) := by decide +kernel
theorem dX5_hinders_25 : decode cX5_hinders 25 = .ok (.goto 12, 3) := by decide +kernel
theorem dX5_hinders_28 : decode cX5_hinders 28 = .ok (.aload_n 0, 1) := by decide +kernel
theorem dX5_hinders_29 : decode cX5_hinders 29 = .ok (.iload_n 1, 1) := by decide +kernel
theorem dX5_hinders_30 : decode cX5_hinders 30 = .ok (.iload_n 2, 1) := by decide +kernel
theorem dX5_hinders_31 : decode cX5_hinders 31 = .ok (.invokestatic 194, 3) := by decide +kernel
theorem dX5_hinders_34 : decode cX5_hinders 34 = .ok (.invokevirtual 163, 3) := by decide +kernel
theorem dX5_hinders_37 : decode cX5_hinders 37 = .ok (.ireturn, 1) := by decide +kernel
theorem h9_X5_hinders : yX5_hinders.cls ≠ "java/lang/invoke/MethodHandle" ∧ yX5_hinders.cls ≠ "java/lang/invoke/VarHandle" ∧ (parseMethodDescriptor yX5_hinders.desc).map (fun d => d.parameters.length) = some 2 := by decide +kernel
noncomputable def F_X5_hinders (a0 : Nat) (x1 : Int32) (x2 : Int32) (w : FW) : Option (Int32 × FW) :=
  fg (w.1 a0 = 6) inferInstance ((F_X5_isTicket a0 x1 w).bind (fun r1 => ((if r1 = 0 then some 1 else some 0) : Option (Int32)).bind (fun x5 => (if (gI (sI w 500 a0 0 x5) 500 a0 0) ≤ 0 then (F_X5_number x2 (sI w 500 a0 0 x5)).bind (fun r10 => (F_X5_hindrance a0 x1 r10 (sI w 500 a0 0 x5)).bind (fun r13 => some (r13.1, r13.2))) else some (0, (sI w 500 a0 0 x5))))))
set_option maxHeartbeats 4000000 in
set_option maxRecDepth 100000 in
theorem c_X5_hinders (l : Launch) (D : va_G) (cy : Nat → ClassId) (a0 : Nat) (x1 : Int32) (x2 : Int32) (w : FW) (r : Int32 × FW) (hF : F_X5_hinders a0 x1 x2 w = some r) : fSpec l D cy yX5_hinders cX5_hinders 3 (some .int) { frames := 9, cells := 0, slots := 0, locals := 215 } [.ref a0, .int x1, .int x2] w r.2 (some (.int r.1)) := by
  refine f_begin (by decide +kernel) (Nat.le_of_ble_eq_true rfl) (fun X hC hEn => ?_)
  unfold F_X5_hinders at hF
  show fAt X 0 0 3 w [(0, .ref a0), (1, .int x1), (2, .int x2)] [] 0
  refine f_aload_n hC dX5_hinders_0 rfl 0 rfl ?_
  refine f_aload_n hC dX5_hinders_1 rfl 0 rfl ?_
  refine f_iload_n hC dX5_hinders_2 rfl 1 rfl ?_
  obtain ⟨g3, hF⟩ := fg_open hF
  obtain ⟨r1, h2, hF⟩ := fb_open hF
  refine f_callV hC [.int x1] (c_X5_isTicket l D cy a0 x1 w r1 h2) q_1415 q_136 q_1412 q_1414 q_85 h9_X5_isTicket rfl (fSm.k (fSm.rf w) g3) ⟨Nat.le_of_ble_eq_true rfl, Nat.le_of_ble_eq_true rfl⟩ ⟨Nat.le_of_ble_eq_true rfl, Nat.le_of_ble_eq_true rfl⟩ (Nat.le_of_ble_eq_true rfl) rfl dX5_hinders_3 (fun e4 => ?_)
  obtain ⟨x5, h6, hF⟩ := fb_open hF
  have K8 : fAt X 0 0 3 w [(0, .ref a0), (1, .int x1), (2, .int x2)] [.int x5, .ref a0] 14 := by
    refine f_putI hC 5 0 500 rfl (by decide) iX5 tyX5 tyX5_ok nmX5 q_1254 rfl rfl rfl rfl rfl (fSm.k (fSm.rf w) g3) dX5_hinders_14 ?_
    refine f_aload_n hC dX5_hinders_17 rfl 0 rfl ?_
    refine f_getI hC 5 0 500 rfl (by decide) iX5 q_1254 rfl rfl (fSm.k (fSm.rf w) g3) dX5_hinders_18 ?_
    refine f_if_le hC 28 dX5_hinders_21 (by decide) (fun c9 => ?_) (fun c9 => ?_)
    · replace hF := fi_pos hF c9
      refine f_aload_n hC dX5_hinders_28 rfl 0 rfl ?_
      refine f_iload_n hC dX5_hinders_29 rfl 1 rfl ?_
      refine f_iload_n hC dX5_hinders_30 rfl 2 rfl ?_
      obtain ⟨r10, h11, hF⟩ := fb_open hF
      refine f_callS hC [.int x2] (c_X5_number l D cy x2 (sI w 500 a0 0 x5) r10 h11) q_1466 q_136 q_1464 q_1465 h9_X5_number ⟨Nat.le_of_ble_eq_true rfl, Nat.le_of_ble_eq_true rfl⟩ ⟨Nat.le_of_ble_eq_true rfl, Nat.le_of_ble_eq_true rfl⟩ (Nat.le_of_ble_eq_true rfl) rfl dX5_hinders_31 (fun e12 => ?_)
      obtain ⟨r13, h14, hF⟩ := fb_open hF
      refine f_callV hC [.int x1, .int r10] (c_X5_hindrance l D cy a0 x1 r10 (sI w 500 a0 0 x5) r13 h14) q_1596 q_136 q_1593 q_1595 q_112 h9_X5_hindrance rfl (fSm.k (fSm.rf w) g3) ⟨Nat.le_of_ble_eq_true rfl, Nat.le_of_ble_eq_true rfl⟩ ⟨Nat.le_of_ble_eq_true rfl, Nat.le_of_ble_eq_true rfl⟩ (Nat.le_of_ble_eq_true rfl) rfl dX5_hinders_34 (fun e15 => ?_)
      obtain rfl := Option.some.inj hF
      exact f_iret hC hEn (fSm.tr e15 (fSm.rf w)) dX5_hinders_37
    · replace hF := fi_neg hF c9
      refine f_iconst (v := 0) hC dX5_hinders_24 (by decide) ?_
      refine f_goto hC 37 dX5_hinders_25 (by decide) ?_
      obtain rfl := Option.some.inj hF
      exact f_iret hC hEn (fSm.rf w) dX5_hinders_37
  refine f_if_eq hC 13 dX5_hinders_6 (by decide) (fun c16 => ?_) (fun c16 => ?_)
  · replace h6 := fi_pos h6 c16
    refine f_iconst (v := 1) hC dX5_hinders_13 (by decide) ?_
    obtain rfl := Option.some.inj h6
    exact K8
  · replace h6 := fi_neg h6 c16
    refine f_iconst (v := 0) hC dX5_hinders_9 (by decide) ?_
    refine f_goto hC 14 dX5_hinders_10 (by decide) ?_
    obtain rfl := Option.some.inj h6
    exact K8
theorem dX5_day_0 : decode cX5_day 0 = .ok (.aload_n 0, 1) := by decide +kernel
theorem dX5_day_1 : decode cX5_day 1 = .ok (.invokevirtual 166, 3) := by decide +kernel
theorem dX5_day_4 : decode cX5_day 4 = .ok (.aload_n 0, 1) := by decide +kernel
theorem dX5_day_5 : decode cX5_day 5 = .ok (.aload_n 0, 1) := by decide +kernel
theorem dX5_day_6 : decode cX5_day 6 = .ok (.invokevirtual 222, 3) := by decide +kernel
theorem dX5_day_9 : decode cX5_day 9 = .ok (.iconst 1, 1) := by decide +kernel
theorem dX5_day_10 : decode cX5_day 10 = .ok (.invokevirtual 172, 3) := by decide +kernel
theorem dX5_day_13 : decode cX5_day 13 = .ok (.ireturn, 1) := by decide +kernel
theorem h9_X5_day : yX5_day.cls ≠ "java/lang/invoke/MethodHandle" ∧ yX5_day.cls ≠ "java/lang/invoke/VarHandle" ∧ (parseMethodDescriptor yX5_day.desc).map (fun d => d.parameters.length) = some 0 := by decide +kernel
noncomputable def F_X5_day (a0 : Nat) (w : FW) : Option (Int32 × FW) :=
  fg (w.1 a0 = 6) inferInstance ((F_X5_remembers a0 w).bind (fun r1 => (F_X5_passes a0 r1).bind (fun r5 => (F_X5_ends a0 r5.1 1 r5.2).bind (fun r8 => some (r8.1, r8.2)))))
set_option maxHeartbeats 4000000 in
set_option maxRecDepth 100000 in
theorem c_X5_day (l : Launch) (D : va_G) (cy : Nat → ClassId) (a0 : Nat) (w : FW) (r : Int32 × FW) (hF : F_X5_day a0 w = some r) : fSpec l D cy yX5_day cX5_day 1 (some .int) { frames := 2, cells := 0, slots := 0, locals := 44 } [.ref a0] w r.2 (some (.int r.1)) := by
  refine f_begin (by decide +kernel) (Nat.le_of_ble_eq_true rfl) (fun X hC hEn => ?_)
  unfold F_X5_day at hF
  show fAt X 0 0 1 w [(0, .ref a0)] [] 0
  refine f_aload_n hC dX5_day_0 rfl 0 rfl ?_
  obtain ⟨g3, hF⟩ := fg_open hF
  obtain ⟨r1, h2, hF⟩ := fb_open hF
  refine f_callV hC [] (c_X5_remembers l D cy a0 w r1 h2) q_1339 q_136 q_1336 q_1338 q_72 h9_X5_remembers rfl (fSm.k (fSm.rf w) g3) ⟨Nat.le_of_ble_eq_true rfl, Nat.le_of_ble_eq_true rfl⟩ ⟨Nat.le_of_ble_eq_true rfl, Nat.le_of_ble_eq_true rfl⟩ (Nat.le_of_ble_eq_true rfl) rfl dX5_day_1 (fun e4 => ?_)
  refine f_aload_n hC dX5_day_4 rfl 0 rfl ?_
  refine f_aload_n hC dX5_day_5 rfl 0 rfl ?_
  obtain ⟨r5, h6, hF⟩ := fb_open hF
  refine f_callV hC [] (c_X5_passes l D cy a0 r1 r5 h6) q_1616 q_136 q_1613 q_1615 q_115 h9_X5_passes rfl (fSm.k (fSm.tr e4 (fSm.rf w)) g3) ⟨Nat.le_of_ble_eq_true rfl, Nat.le_of_ble_eq_true rfl⟩ ⟨Nat.le_of_ble_eq_true rfl, Nat.le_of_ble_eq_true rfl⟩ (Nat.le_of_ble_eq_true rfl) rfl dX5_day_6 (fun e7 => ?_)
  refine f_iconst (v := 1) hC dX5_day_9 (by decide) ?_
  obtain ⟨r8, h9, hF⟩ := fb_open hF
  refine f_callV hC [.int r5.1, .int 1] (c_X5_ends l D cy a0 r5.1 1 r5.2 r8 h9) q_1367 q_136 q_1364 q_1366 q_76 h9_X5_ends rfl (fSm.k (fSm.tr e7 (fSm.tr e4 (fSm.rf w))) g3) ⟨Nat.le_of_ble_eq_true rfl, Nat.le_of_ble_eq_true rfl⟩ ⟨Nat.le_of_ble_eq_true rfl, Nat.le_of_ble_eq_true rfl⟩ (Nat.le_of_ble_eq_true rfl) rfl dX5_day_10 (fun e10 => ?_)
  obtain rfl := Option.some.inj hF
  exact f_iret hC hEn (fSm.tr e10 (fSm.tr e7 (fSm.tr e4 (fSm.rf w)))) dX5_day_13
theorem dX5_daysLeft_0 : decode cX5_daysLeft 0 = .ok (.aload_n 0, 1) := by decide +kernel
theorem dX5_daysLeft_1 : decode cX5_daysLeft 1 = .ok (.aload_n 0, 1) := by decide +kernel
theorem dX5_daysLeft_2 : decode cX5_daysLeft 2 = .ok (.iload_n 1, 1) := by decide +kernel
theorem dX5_daysLeft_3 : decode cX5_daysLeft 3 = .ok (.invokevirtual 135, 3) := by decide +kernel
theorem dX5_daysLeft_6 : decode cX5_daysLeft 6 = .ok (.ifCond .ne 7, 3) := by decide +kernel
theorem dX5_daysLeft_9 : decode cX5_daysLeft 9 = .ok (.iconst 1, 1) := by decide +kernel
theorem dX5_daysLeft_10 : decode cX5_daysLeft 10 = .ok (.goto 19, 3) := by decide +kernel
theorem dX5_daysLeft_13 : decode cX5_daysLeft 13 = .ok (.aload_n 0, 1) := by decide +kernel
theorem dX5_daysLeft_14 : decode cX5_daysLeft 14 = .ok (.iload_n 1, 1) := by decide +kernel
theorem dX5_daysLeft_15 : decode cX5_daysLeft 15 = .ok (.bipush 11, 2) := by decide +kernel
theorem dX5_daysLeft_17 : decode cX5_daysLeft 17 = .ok (.invokevirtual 70, 3) := by decide +kernel
theorem dX5_daysLeft_20 : decode cX5_daysLeft 20 = .ok (.iconst (-1), 1) := by decide +kernel
theorem dX5_daysLeft_21 : decode cX5_daysLeft 21 = .ok (.if_icmp .ne 7, 3) := by decide +kernel
theorem dX5_daysLeft_24 : decode cX5_daysLeft 24 = .ok (.iconst 2, 1) := by decide +kernel
theorem dX5_daysLeft_25 : decode cX5_daysLeft 25 = .ok (.goto 4, 3) := by decide +kernel
theorem dX5_daysLeft_28 : decode cX5_daysLeft 28 = .ok (.iconst 0, 1) := by decide +kernel
theorem dX5_daysLeft_29 : decode cX5_daysLeft 29 = .ok (.putfield 41, 3) := by decide +kernel
theorem dX5_daysLeft_32 : decode cX5_daysLeft 32 = .ok (.aload_n 0, 1) := by decide +kernel
theorem dX5_daysLeft_33 : decode cX5_daysLeft 33 = .ok (.getfield 41, 3) := by decide +kernel
theorem dX5_daysLeft_36 : decode cX5_daysLeft 36 = .ok (.ifCond .le 5, 3) := by decide +kernel
theorem dX5_daysLeft_39 : decode cX5_daysLeft 39 = .ok (.iconst 0, 1) := by decide +kernel
theorem dX5_daysLeft_40 : decode cX5_daysLeft 40 = .ok (.ireturn, 1) := by decide +kernel
theorem dX5_daysLeft_41 : decode cX5_daysLeft 41 = .ok (.aload_n 0, 1) := by decide +kernel
theorem dX5_daysLeft_42 : decode cX5_daysLeft 42 = .ok (.iload_n 1, 1) := by decide +kernel
theorem dX5_daysLeft_43 : decode cX5_daysLeft 43 = .ok (.bipush 9, 2) := by decide +kernel
theorem dX5_daysLeft_45 : decode cX5_daysLeft 45 = .ok (.invokevirtual 70, 3) := by decide +kernel
theorem dX5_daysLeft_48 : decode cX5_daysLeft 48 = .ok (.aload_n 0, 1) := by decide +kernel
theorem dX5_daysLeft_49 : decode cX5_daysLeft 49 = .ok (.getfield 7, 3) := by decide +kernel
theorem dX5_daysLeft_52 : decode cX5_daysLeft 52 = .ok (.iconst 1, 1) := by decide +kernel
theorem dX5_daysLeft_53 : decode cX5_daysLeft 53 = .ok (.iaload, 1) := by decide +kernel
theorem dX5_daysLeft_54 : decode cX5_daysLeft 54 = .ok (.isub, 1) := by decide +kernel
theorem dX5_daysLeft_55 : decode cX5_daysLeft 55 = .ok (.aload_n 0, 1) := by decide +kernel
theorem dX5_daysLeft_56 : decode cX5_daysLeft 56 = .ok (.iload_n 1, 1) := by decide +kernel
theorem dX5_daysLeft_57 : decode cX5_daysLeft 57 = .ok (.bipush 11, 2) := by decide +kernel
theorem dX5_daysLeft_59 : decode cX5_daysLeft 59 = .ok (.invokevirtual 70, 3) := by decide +kernel
theorem dX5_daysLeft_62 : decode cX5_daysLeft 62 = .ok (.iadd, 1) := by decide +kernel
theorem dX5_daysLeft_63 : decode cX5_daysLeft 63 = .ok (.istore_n 2, 1) := by decide +kernel
theorem dX5_daysLeft_64 : decode cX5_daysLeft 64 = .ok (.iload_n 2, 1) := by decide +kernel
theorem dX5_daysLeft_65 : decode cX5_daysLeft 65 = .ok (.ifCond .ge 7, 3) := by decide +kernel
theorem dX5_daysLeft_68 : decode cX5_daysLeft 68 = .ok (.iconst (-1), 1) := by decide +kernel
theorem dX5_daysLeft_69 : decode cX5_daysLeft 69 = .ok (.goto 4, 3) := by decide +kernel
theorem dX5_daysLeft_72 : decode cX5_daysLeft 72 = .ok (.iload_n 2, 1) := by decide +kernel
theorem dX5_daysLeft_73 : decode cX5_daysLeft 73 = .ok (.ireturn, 1) := by decide +kernel
theorem h9_X5_daysLeft : yX5_daysLeft.cls ≠ "java/lang/invoke/MethodHandle" ∧ yX5_daysLeft.cls ≠ "java/lang/invoke/VarHandle" ∧ (parseMethodDescriptor yX5_daysLeft.desc).map (fun d => d.parameters.length) = some 1 := by decide +kernel
noncomputable def F_X5_daysLeft (a0 : Nat) (x1 : Int32) (w : FW) : Option (Int32 × FW) :=
  fg (w.1 a0 = 6) inferInstance ((F_X5_isTicket a0 x1 w).bind (fun r1 => ((if r1 = 0 then some 1 else (F_X5_of a0 x1 11 w).bind (fun r20 => (if r20 = (-1) then some 2 else some 0))) : Option (Int32)).bind (fun x5 => (if (gI (sI w 500 a0 0 x5) 500 a0 0) ≤ 0 then (F_X5_of a0 x1 9 (sI w 500 a0 0 x5)).bind (fun r10 => fg (w.1 (gR w 501 a0 0) = 11) inferInstance (fg (¬ (1 < 0 ∨ w.2.1 (gR w 501 a0 0) ≤ Int32.toNatClampNeg 1)) inferInstance ((F_X5_of a0 x1 11 (sI w 500 a0 0 x5)).bind (fun r15 => (if 0 ≤ ((r10 - (gI (sI w 500 a0 0 x5) 601 (gR (sI w 500 a0 0 x5) 501 a0 0) (Int32.toNatClampNeg 1))) + r15) then some (((r10 - (gI (sI w 500 a0 0 x5) 601 (gR (sI w 500 a0 0 x5) 501 a0 0) (Int32.toNatClampNeg 1))) + r15), (sI w 500 a0 0 x5)) else some ((-1), (sI w 500 a0 0 x5))))))) else some (0, (sI w 500 a0 0 x5))))))
set_option maxHeartbeats 4000000 in
set_option maxRecDepth 100000 in
theorem c_X5_daysLeft (l : Launch) (D : va_G) (cy : Nat → ClassId) (a0 : Nat) (x1 : Int32) (w : FW) (r : Int32 × FW) (hF : F_X5_daysLeft a0 x1 w = some r) : fSpec l D cy yX5_daysLeft cX5_daysLeft 3 (some .int) { frames := 2, cells := 0, slots := 0, locals := 43 } [.ref a0, .int x1] w r.2 (some (.int r.1)) := by
  refine f_begin (by decide +kernel) (Nat.le_of_ble_eq_true rfl) (fun X hC hEn => ?_)
  unfold F_X5_daysLeft at hF
  show fAt X 0 0 3 w [(0, .ref a0), (1, .int x1)] [] 0
  refine f_aload_n hC dX5_daysLeft_0 rfl 0 rfl ?_
  refine f_aload_n hC dX5_daysLeft_1 rfl 0 rfl ?_
  refine f_iload_n hC dX5_daysLeft_2 rfl 1 rfl ?_
  obtain ⟨g3, hF⟩ := fg_open hF
  obtain ⟨r1, h2, hF⟩ := fb_open hF
  refine f_callV hC [.int x1] (c_X5_isTicket l D cy a0 x1 w r1 h2) q_1415 q_136 q_1412 q_1414 q_85 h9_X5_isTicket rfl (fSm.k (fSm.rf w) g3) ⟨Nat.le_of_ble_eq_true rfl, Nat.le_of_ble_eq_true rfl⟩ ⟨Nat.le_of_ble_eq_true rfl, Nat.le_of_ble_eq_true rfl⟩ (Nat.le_of_ble_eq_true rfl) rfl dX5_daysLeft_3 (fun e4 => ?_)
  obtain ⟨x5, h6, hF⟩ := fb_open hF
  have K8 : fAt X 0 0 3 w [(0, .ref a0), (1, .int x1)] [.int x5, .ref a0] 29 := by
    refine f_putI hC 5 0 500 rfl (by decide) iX5 tyX5 tyX5_ok nmX5 q_1254 rfl rfl rfl rfl rfl (fSm.k (fSm.rf w) g3) dX5_daysLeft_29 ?_
    refine f_aload_n hC dX5_daysLeft_32 rfl 0 rfl ?_
    refine f_getI hC 5 0 500 rfl (by decide) iX5 q_1254 rfl rfl (fSm.k (fSm.rf w) g3) dX5_daysLeft_33 ?_
    refine f_if_le hC 41 dX5_daysLeft_36 (by decide) (fun c9 => ?_) (fun c9 => ?_)
    · replace hF := fi_pos hF c9
      refine f_aload_n hC dX5_daysLeft_41 rfl 0 rfl ?_
      refine f_iload_n hC dX5_daysLeft_42 rfl 1 rfl ?_
      refine f_bipush (v := 9) hC dX5_daysLeft_43 (by decide) ?_
      obtain ⟨r10, h11, hF⟩ := fb_open hF
      refine f_callV hC [.int x1, .int 9] (c_X5_of l D cy a0 x1 9 (sI w 500 a0 0 x5) r10 h11) q_1447 q_136 q_1444 q_1446 q_90 h9_X5_of rfl (fSm.k (fSm.rf w) g3) ⟨Nat.le_of_ble_eq_true rfl, Nat.le_of_ble_eq_true rfl⟩ ⟨Nat.le_of_ble_eq_true rfl, Nat.le_of_ble_eq_true rfl⟩ (Nat.le_of_ble_eq_true rfl) rfl dX5_daysLeft_45 (fun e12 => ?_)
      refine f_aload_n hC dX5_daysLeft_48 rfl 0 rfl ?_
      refine f_getR hC 5 1 501 rfl (by decide) iX5 q_1255 rfl rfl (fSm.k (fSm.rf w) g3) dX5_daysLeft_49 ?_
      refine f_iconst (v := 1) hC dX5_daysLeft_52 (by decide) ?_
      obtain ⟨g13, hF⟩ := fg_open hF
      obtain ⟨g14, hF⟩ := fg_open hF
      refine f_iald hC (fSm.k (fSm.rf w) g13) (fSm.v (fSm.rf w) g14) dX5_daysLeft_53 ?_
      refine f_isub hC dX5_daysLeft_54 ?_
      refine f_aload_n hC dX5_daysLeft_55 rfl 0 rfl ?_
      refine f_iload_n hC dX5_daysLeft_56 rfl 1 rfl ?_
      refine f_bipush (v := 11) hC dX5_daysLeft_57 (by decide) ?_
      obtain ⟨r15, h16, hF⟩ := fb_open hF
      refine f_callV hC [.int x1, .int 11] (c_X5_of l D cy a0 x1 11 (sI w 500 a0 0 x5) r15 h16) q_1447 q_136 q_1444 q_1446 q_90 h9_X5_of rfl (fSm.k (fSm.rf w) g3) ⟨Nat.le_of_ble_eq_true rfl, Nat.le_of_ble_eq_true rfl⟩ ⟨Nat.le_of_ble_eq_true rfl, Nat.le_of_ble_eq_true rfl⟩ (Nat.le_of_ble_eq_true rfl) rfl dX5_daysLeft_59 (fun e17 => ?_)
      refine f_iadd hC dX5_daysLeft_62 ?_
      refine f_istore_n (L' := [(2, .int ((r10 - (gI (sI w 500 a0 0 x5) 601 (gR (sI w 500 a0 0 x5) 501 a0 0) (Int32.toNatClampNeg 1))) + r15)), (0, .ref a0), (1, .int x1)]) hC dX5_daysLeft_63 rfl (by decide) rfl ?_
      refine f_iload_n hC dX5_daysLeft_64 rfl 0 rfl ?_
      refine f_if_ge hC 72 dX5_daysLeft_65 (by decide) (fun c18 => ?_) (fun c18 => ?_)
      · replace hF := fi_pos hF c18
        refine f_iload_n hC dX5_daysLeft_72 rfl 0 rfl ?_
        obtain rfl := Option.some.inj hF
        exact f_iret hC hEn (fSm.rf w) dX5_daysLeft_73
      · replace hF := fi_neg hF c18
        refine f_iconst (v := (-1)) hC dX5_daysLeft_68 (by decide) ?_
        refine f_goto hC 73 dX5_daysLeft_69 (by decide) ?_
        obtain rfl := Option.some.inj hF
        exact f_iret hC hEn (fSm.rf w) dX5_daysLeft_73
    · replace hF := fi_neg hF c9
      refine f_iconst (v := 0) hC dX5_daysLeft_39 (by decide) ?_
      obtain rfl := Option.some.inj hF
      exact f_iret hC hEn (fSm.rf w) dX5_daysLeft_40
  refine f_if_ne hC 13 dX5_daysLeft_6 (by decide) (fun c19 => ?_) (fun c19 => ?_)
  · replace h6 := fi_neg h6 c19
    refine f_aload_n hC dX5_daysLeft_13 rfl 0 rfl ?_
    refine f_iload_n hC dX5_daysLeft_14 rfl 1 rfl ?_
    refine f_bipush (v := 11) hC dX5_daysLeft_15 (by decide) ?_
    obtain ⟨r20, h21, h6⟩ := fb_open h6
    refine f_callV hC [.int x1, .int 11] (c_X5_of l D cy a0 x1 11 w r20 h21) q_1447 q_136 q_1444 q_1446 q_90 h9_X5_of rfl (fSm.k (fSm.rf w) g3) ⟨Nat.le_of_ble_eq_true rfl, Nat.le_of_ble_eq_true rfl⟩ ⟨Nat.le_of_ble_eq_true rfl, Nat.le_of_ble_eq_true rfl⟩ (Nat.le_of_ble_eq_true rfl) rfl dX5_daysLeft_17 (fun e22 => ?_)
    refine f_iconst (v := (-1)) hC dX5_daysLeft_20 (by decide) ?_
    refine f_icmp_ne hC 28 dX5_daysLeft_21 (by decide) (fun c23 => ?_) (fun c23 => ?_)
    · replace h6 := fi_neg h6 c23
      refine f_iconst (v := 0) hC dX5_daysLeft_28 (by decide) ?_
      obtain rfl := Option.some.inj h6
      exact K8
    · replace h6 := fi_pos h6 c23
      refine f_iconst (v := 2) hC dX5_daysLeft_24 (by decide) ?_
      refine f_goto hC 29 dX5_daysLeft_25 (by decide) ?_
      obtain rfl := Option.some.inj h6
      exact K8
  · replace h6 := fi_pos h6 c19
    refine f_iconst (v := 1) hC dX5_daysLeft_9 (by decide) ?_
    refine f_goto hC 29 dX5_daysLeft_10 (by decide) ?_
    obtain rfl := Option.some.inj h6
    exact K8
theorem dX5_isWordOf_0 : decode cX5_isWordOf 0 = .ok (.iconst 0, 1) := by decide +kernel
theorem dX5_isWordOf_1 : decode cX5_isWordOf 1 = .ok (.istore_n 3, 1) := by decide +kernel
theorem dX5_isWordOf_2 : decode cX5_isWordOf 2 = .ok (.iload_n 3, 1) := by decide +kernel
theorem dX5_isWordOf_3 : decode cX5_isWordOf 3 = .ok (.bipush 6, 2) := by decide +kernel
theorem dX5_isWordOf_5 : decode cX5_isWordOf 5 = .ok (.if_icmp .gt 30, 3) := by decide +kernel
theorem dX5_isWordOf_8 : decode cX5_isWordOf 8 = .ok (.aload_n 0, 1) := by decide +kernel
theorem dX5_isWordOf_9 : decode cX5_isWordOf 9 = .ok (.iload_n 1, 1) := by decide +kernel
theorem dX5_isWordOf_10 : decode cX5_isWordOf 10 = .ok (.iconst 0, 1) := by decide +kernel
theorem dX5_isWordOf_11 : decode cX5_isWordOf 11 = .ok (.iload_n 3, 1) := by decide +kernel
theorem dX5_isWordOf_12 : decode cX5_isWordOf 12 = .ok (.iadd, 1) := by decide +kernel
theorem dX5_isWordOf_13 : decode cX5_isWordOf 13 = .ok (.invokevirtual 70, 3) := by decide +kernel
theorem dX5_isWordOf_16 : decode cX5_isWordOf 16 = .ok (.aload_n 0, 1) := by decide +kernel
theorem dX5_isWordOf_17 : decode cX5_isWordOf 17 = .ok (.iload_n 2, 1) := by decide +kernel
theorem dX5_isWordOf_18 : decode cX5_isWordOf 18 = .ok (.iconst 0, 1) := by decide +kernel
theorem dX5_isWordOf_19 : decode cX5_isWordOf 19 = .ok (.iload_n 3, 1) := by decide +kernel
theorem dX5_isWordOf_20 : decode cX5_isWordOf 20 = .ok (.iadd, 1) := by decide +kernel
theorem dX5_isWordOf_21 : decode cX5_isWordOf 21 = .ok (.invokevirtual 70, 3) := by decide +kernel
theorem dX5_isWordOf_24 : decode cX5_isWordOf 24 = .ok (.if_icmp .eq 5, 3) := by decide +kernel
theorem dX5_isWordOf_27 : decode cX5_isWordOf 27 = .ok (.iconst 0, 1) := by decide +kernel
theorem dX5_isWordOf_28 : decode cX5_isWordOf 28 = .ok (.ireturn, 1) := by decide +kernel
theorem dX5_isWordOf_29 : decode cX5_isWordOf 29 = .ok (.iinc 3 1, 3) := by decide +kernel
theorem dX5_isWordOf_32 : decode cX5_isWordOf 32 = .ok (.goto (-30), 3) := by decide +kernel
theorem dX5_isWordOf_35 : decode cX5_isWordOf 35 = .ok (.iconst 1, 1) := by decide +kernel
theorem dX5_isWordOf_36 : decode cX5_isWordOf 36 = .ok (.ireturn, 1) := by decide +kernel
theorem h9_X5_isWordOf : yX5_isWordOf.cls ≠ "java/lang/invoke/MethodHandle" ∧ yX5_isWordOf.cls ≠ "java/lang/invoke/VarHandle" ∧ (parseMethodDescriptor yX5_isWordOf.desc).map (fun d => d.parameters.length) = some 2 := by decide +kernel
noncomputable def F_X5_isWordOf (a0 : Nat) (x1 : Int32) (x2 : Int32) (w : FW) : Option (Int32) :=
  (fLoop (σ := Int32) (ρ := (Unit) ⊕ (Int32)) (fun s1 => (if 6 < s1 then some (.inr (.inl ())) else fg (w.1 a0 = 6) inferInstance ((F_X5_of a0 x1 (0 + s1) w).bind (fun r11 => (F_X5_of a0 x2 (0 + s1) w).bind (fun r15 => (if r11 = r15 then some (.inl (s1 + 1)) else some (.inr (.inr 0)))))))) 0).bind (fun x7 => fse x7 (fun z19 => some 1) (fun q9 => some q9))
set_option maxHeartbeats 4000000 in
set_option maxRecDepth 100000 in
theorem c_X5_isWordOf (l : Launch) (D : va_G) (cy : Nat → ClassId) (a0 : Nat) (x1 : Int32) (x2 : Int32) (w : FW) (r : Int32) (hF : F_X5_isWordOf a0 x1 x2 w = some r) : fSpec l D cy yX5_isWordOf cX5_isWordOf 4 (some .boolean) { frames := 1, cells := 0, slots := 0, locals := 22 } [.ref a0, .int x1, .int x2] w w (some (.int r)) := by
  refine f_begin (by decide +kernel) (Nat.le_of_ble_eq_true rfl) (fun X hC hEn => ?_)
  unfold F_X5_isWordOf at hF
  show fAt X 0 0 4 w [(0, .ref a0), (1, .int x1), (2, .int x2)] [] 0
  refine f_iconst (v := 0) hC dX5_isWordOf_0 (by decide) ?_
  refine f_istore_n (L' := [(3, .int 0), (0, .ref a0), (1, .int x1), (2, .int x2)]) hC dX5_isWordOf_1 rfl (by decide) rfl ?_
  obtain ⟨x7, h8, hF⟩ := fb_open hF
  have K9 : ∀ z19, x7 = .inl z19 → fAt X 0 0 4 w [] [] 35 := by
    intro z19 hz9
    subst hz9
    refine f_iconst (v := 1) hC dX5_isWordOf_35 (by decide) ?_
    obtain rfl := Option.some.inj hF
    exact f_zret hC hEn (fSm.rf w) (nar_z (by decide)) dX5_isWordOf_36
  refine f_sub (L' := [(0, .ref a0), (1, .int x1), (2, .int x2), (3, .int 0)]) [1, 2, 3, 0] rfl ?_
  refine fLoop_ind (fun (s1 : Int32) => fAt X 0 0 4 w [(0, .ref a0), (1, .int x1), (2, .int x2), (3, .int s1)] [] 2) (fun s1 y6 h2 go3 ou4 => ?_) h8
  refine f_iload_n hC dX5_isWordOf_2 rfl 3 rfl ?_
  refine f_bipush (v := 6) hC dX5_isWordOf_3 (by decide) ?_
  refine f_icmp_gt hC 35 dX5_isWordOf_5 (by decide) (fun c10 => ?_) (fun c10 => ?_)
  · replace h2 := fi_pos h2 c10
    obtain rfl := Option.some.inj h2
    have eo := ou4 _ rfl
    refine f_sub (L' := []) [] rfl ?_
    exact K9 _ eo.symm
  · replace h2 := fi_neg h2 c10
    refine f_aload_n hC dX5_isWordOf_8 rfl 0 rfl ?_
    refine f_iload_n hC dX5_isWordOf_9 rfl 1 rfl ?_
    refine f_iconst (v := 0) hC dX5_isWordOf_10 (by decide) ?_
    refine f_iload_n hC dX5_isWordOf_11 rfl 3 rfl ?_
    refine f_iadd hC dX5_isWordOf_12 ?_
    obtain ⟨g13, h2⟩ := fg_open h2
    obtain ⟨r11, h12, h2⟩ := fb_open h2
    refine f_callV hC [.int x1, .int (0 + s1)] (c_X5_of l D cy a0 x1 (0 + s1) w r11 h12) q_1447 q_136 q_1444 q_1446 q_90 h9_X5_of rfl (fSm.k (fSm.rf w) g13) ⟨Nat.le_of_ble_eq_true rfl, Nat.le_of_ble_eq_true rfl⟩ ⟨Nat.le_of_ble_eq_true rfl, Nat.le_of_ble_eq_true rfl⟩ (Nat.le_of_ble_eq_true rfl) rfl dX5_isWordOf_13 (fun e14 => ?_)
    refine f_aload_n hC dX5_isWordOf_16 rfl 0 rfl ?_
    refine f_iload_n hC dX5_isWordOf_17 rfl 2 rfl ?_
    refine f_iconst (v := 0) hC dX5_isWordOf_18 (by decide) ?_
    refine f_iload_n hC dX5_isWordOf_19 rfl 3 rfl ?_
    refine f_iadd hC dX5_isWordOf_20 ?_
    obtain ⟨r15, h16, h2⟩ := fb_open h2
    refine f_callV hC [.int x2, .int (0 + s1)] (c_X5_of l D cy a0 x2 (0 + s1) w r15 h16) q_1447 q_136 q_1444 q_1446 q_90 h9_X5_of rfl (fSm.k (fSm.rf w) g13) ⟨Nat.le_of_ble_eq_true rfl, Nat.le_of_ble_eq_true rfl⟩ ⟨Nat.le_of_ble_eq_true rfl, Nat.le_of_ble_eq_true rfl⟩ (Nat.le_of_ble_eq_true rfl) rfl dX5_isWordOf_21 (fun e17 => ?_)
    refine f_icmp_eq hC 29 dX5_isWordOf_24 (by decide) (fun c18 => ?_) (fun c18 => ?_)
    · replace h2 := fi_pos h2 c18
      refine f_iinc (L' := [(3, .int (s1 + 1)), (0, .ref a0), (1, .int x1), (2, .int x2)]) hC dX5_isWordOf_29 3 rfl rfl (by decide) rfl ?_
      refine f_goto hC 2 dX5_isWordOf_32 (by decide) ?_
      obtain rfl := Option.some.inj h2
      refine f_sub (L' := [(0, .ref a0), (1, .int x1), (2, .int x2), (3, .int (s1 + 1))]) [1, 2, 3, 0] rfl ?_
      exact go3 _ rfl
    · replace h2 := fi_neg h2 c18
      refine f_iconst (v := 0) hC dX5_isWordOf_27 (by decide) ?_
      obtain rfl := Option.some.inj h2
      obtain rfl := ou4 _ rfl
      obtain rfl := Option.some.inj hF
      exact f_zret hC hEn (fSm.rf w) (nar_z (by decide)) dX5_isWordOf_28
