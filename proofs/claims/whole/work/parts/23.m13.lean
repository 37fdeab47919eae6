theorem dX5_would_0 : decode cX5_would 0 = .ok (.aload_n 0, 1) := by decide +kernel
theorem dX5_would_1 : decode cX5_would 1 = .ok (.aload_n 0, 1) := by decide +kernel
theorem dX5_would_2 : decode cX5_would 2 = .ok (.iload_n 1, 1) := by decide +kernel
theorem dX5_would_3 : decode cX5_would 3 = .ok (.invokevirtual 135, 3) := by decide +kernel
theorem dX5_would_6 : decode cX5_would 6 = .ok (.ifCond .ne 7, 3) := by decide +kernel
theorem dX5_would_9 : decode cX5_would 9 = .ok (.iconst 1, 1) := by decide +kernel
theorem dX5_would_10 : decode cX5_would 10 = .ok (.goto 34, 3) := by decide +kernel
theorem dX5_would_13 : decode cX5_would 13 = .ok (.iload_n 3, 1) := by decide +kernel
theorem dX5_would_14 : decode cX5_would 14 = .ok (.iconst 0, 1) := by decide +kernel
theorem dX5_would_15 : decode cX5_would 15 = .ok (.bipush 9, 2) := by decide +kernel
theorem dX5_would_17 : decode cX5_would 17 = .ok (.invokestatic 66, 3) := by decide +kernel
theorem dX5_would_20 : decode cX5_would 20 = .ok (.ifCond .ne 7, 3) := by decide +kernel
theorem dX5_would_23 : decode cX5_would 23 = .ok (.iconst 2, 1) := by decide +kernel
theorem dX5_would_24 : decode cX5_would 24 = .ok (.goto 20, 3) := by decide +kernel
theorem dX5_would_27 : decode cX5_would 27 = .ok (.aload_n 0, 1) := by decide +kernel
theorem dX5_would_28 : decode cX5_would 28 = .ok (.iload_n 1, 1) := by decide +kernel
theorem dX5_would_29 : decode cX5_would 29 = .ok (.iload_n 2, 1) := by decide +kernel
theorem dX5_would_30 : decode cX5_would 30 = .ok (.invokestatic 194, 3) := by decide +kernel
theorem dX5_would_33 : decode cX5_would 33 = .ok (.invokevirtual 92, 3) := by decide +kernel
theorem dX5_would_36 : decode cX5_would 36 = .ok (.ifCond .eq 7, 3) := by decide +kernel
theorem dX5_would_39 : decode cX5_would 39 = .ok (.iconst 0, 1) := by decide +kernel
theorem dX5_would_40 : decode cX5_would 40 = .ok (.goto 4, 3) := by decide +kernel
theorem dX5_would_43 : decode cX5_would 43 = .ok (.iconst 3, 1) := by decide +kernel
theorem dX5_would_44 : decode cX5_would 44 = .ok (.putfield 41, 3) := by decide +kernel
theorem dX5_would_47 : decode cX5_would 47 = .ok (.aload_n 0, 1) := by decide +kernel
theorem dX5_would_48 : decode cX5_would 48 = .ok (.getfield 41, 3) := by decide +kernel
theorem dX5_would_51 : decode cX5_would 51 = .ok (.ifCond .le 5, 3) := by decide +kernel
theorem dX5_would_54 : decode cX5_would 54 = .ok (.iconst 0, 1) := by decide +kernel
theorem dX5_would_55 : decode cX5_would 55 = .ok (.ireturn, 1) := by decide +kernel
theorem dX5_would_56 : decode cX5_would 56 = .ok (.iload_n 2, 1) := by decide +kernel
theorem dX5_would_57 : decode cX5_would 57 = .ok (.invokestatic 194, 3) := by decide +kernel
theorem dX5_would_60 : decode cX5_would 60 = .ok (.istore 4, 2) := by decide +kernel
theorem dX5_would_62 : decode cX5_would 62 = .ok (.aload_n 0, 1) := by decide +kernel
theorem dX5_would_63 : decode cX5_would 63 = .ok (.iload_n 1, 1) := by decide +kernel
theorem dX5_would_64 : decode cX5_would 64 = .ok (.iload 4, 2) := by decide +kernel
theorem dX5_would_66 : decode cX5_would 66 = .ok (.iconst 1, 1) := by decide +kernel
theorem dX5_would_67 : decode cX5_would 67 = .ok (.invokevirtual 78, 3) := by decide +kernel
theorem dX5_would_70 : decode cX5_would 70 = .ok (.iload_n 3, 1) := by decide +kernel
theorem dX5_would_71 : decode cX5_would 71 = .ok (.iadd, 1) := by decide +kernel
theorem dX5_would_72 : decode cX5_would 72 = .ok (.istore 5, 2) := by decide +kernel
theorem dX5_would_74 : decode cX5_would 74 = .ok (.aload_n 0, 1) := by decide +kernel
theorem dX5_would_75 : decode cX5_would 75 = .ok (.iload_n 1, 1) := by decide +kernel
theorem dX5_would_76 : decode cX5_would 76 = .ok (.iload 4, 2) := by decide +kernel
theorem dX5_would_78 : decode cX5_would 78 = .ok (.iload 5, 2) := by decide +kernel
theorem dX5_would_80 : decode cX5_would 80 = .ok (.bipush 9, 2) := by decide +kernel
theorem dX5_would_82 : decode cX5_would 82 = .ok (.if_icmp .le 8, 3) := by decide +kernel
theorem dX5_would_85 : decode cX5_would 85 = .ok (.bipush 9, 2) := by decide +kernel
theorem dX5_would_87 : decode cX5_would 87 = .ok (.goto 5, 3) := by decide +kernel
theorem dX5_would_90 : decode cX5_would 90 = .ok (.iload 5, 2) := by decide +kernel
theorem dX5_would_92 : decode cX5_would 92 = .ok (.aload_n 0, 1) := by decide +kernel
theorem dX5_would_93 : decode cX5_would 93 = .ok (.iload_n 1, 1) := by decide +kernel
theorem dX5_would_94 : decode cX5_would 94 = .ok (.iload 4, 2) := by decide +kernel
theorem dX5_would_96 : decode cX5_would 96 = .ok (.iconst 0, 1) := by decide +kernel
theorem dX5_would_97 : decode cX5_would 97 = .ok (.invokevirtual 78, 3) := by decide +kernel
theorem dX5_would_100 : decode cX5_would 100 = .ok (.invokevirtual 113, 3) := by decide +kernel
theorem dX5_would_103 : decode cX5_would 103 = .ok (.ireturn, 1) := by decide +kernel
theorem h9_X5_would : yX5_would.cls ≠ "java/lang/invoke/MethodHandle" ∧ yX5_would.cls ≠ "java/lang/invoke/VarHandle" ∧ (parseMethodDescriptor yX5_would.desc).map (fun d => d.parameters.length) = some 3 := by decide +kernel
noncomputable def F_X5_would (a0 : Nat) (x1 : Int32) (x2 : Int32) (x3 : Int32) (w : FW) : Option (Int32 × FW) :=
  fg (w.1 a0 = 6) inferInstance ((F_X5_isTicket a0 x1 w).bind (fun r1 => ((if r1 = 0 then some 1 else (F_X5_in x3 0 9 w).bind (fun r28 => (if r28 = 0 then some 2 else (F_X5_number x2 w).bind (fun r32 => (F_X5_isPunched a0 x1 r32 w).bind (fun r35 => (if r35 = 0 then some 3 else some 0)))))) : Option (Int32)).bind (fun x5 => (if (gI (sI w 500 a0 0 x5) 500 a0 0) ≤ 0 then (F_X5_number x2 (sI w 500 a0 0 x5)).bind (fun r10 => (F_X5_half a0 x1 r10 1 (sI w 500 a0 0 x5)).bind (fun r13 => ((if (r13 + x3) ≤ 9 then some (r13 + x3) else some 9) : Option (Int32)).bind (fun x16 => (F_X5_half a0 x1 r10 0 (sI w 500 a0 0 x5)).bind (fun r20 => (F_X5_rightOf a0 x1 r10 x16 r20 (sI w 500 a0 0 x5)).bind (fun r23 => some (r23, (sI w 500 a0 0 x5))))))) else some (0, (sI w 500 a0 0 x5))))))
set_option maxHeartbeats 4000000 in
set_option maxRecDepth 100000 in
theorem c_X5_would (l : Launch) (D : va_G) (cy : Nat → ClassId) (a0 : Nat) (x1 : Int32) (x2 : Int32) (x3 : Int32) (w : FW) (r : Int32 × FW) (hF : F_X5_would a0 x1 x2 x3 w = some r) : fSpec l D cy yX5_would cX5_would 6 (some .int) { frames := 7, cells := 0, slots := 0, locals := 168 } [.ref a0, .int x1, .int x2, .int x3] w r.2 (some (.int r.1)) := by
  refine f_begin (by decide +kernel) (Nat.le_of_ble_eq_true rfl) (fun X hC hEn => ?_)
  unfold F_X5_would at hF
  show fAt X 0 0 6 w [(0, .ref a0), (1, .int x1), (2, .int x2), (3, .int x3)] [] 0
  refine f_aload_n hC dX5_would_0 rfl 0 rfl ?_
  refine f_aload_n hC dX5_would_1 rfl 0 rfl ?_
  refine f_iload_n hC dX5_would_2 rfl 1 rfl ?_
  obtain ⟨g3, hF⟩ := fg_open hF
  obtain ⟨r1, h2, hF⟩ := fb_open hF
  refine f_callV hC [.int x1] (c_X5_isTicket l D cy a0 x1 w r1 h2) q_1420 q_137 q_1417 q_1419 q_86 h9_X5_isTicket rfl (fSm.k (fSm.rf w) g3) ⟨Nat.le_of_ble_eq_true rfl, Nat.le_of_ble_eq_true rfl⟩ ⟨Nat.le_of_ble_eq_true rfl, Nat.le_of_ble_eq_true rfl⟩ (Nat.le_of_ble_eq_true rfl) rfl dX5_would_3 (fun e4 => ?_)
  obtain ⟨x5, h6, hF⟩ := fb_open hF
  have K8 : fAt X 0 0 6 w [(0, .ref a0), (1, .int x1), (2, .int x2), (3, .int x3)] [.int x5, .ref a0] 44 := by
    refine f_putI hC 5 0 500 rfl (by decide) iX5 tyX5 tyX5_ok nmX5 q_1259 rfl rfl rfl rfl rfl (fSm.k (fSm.rf w) g3) dX5_would_44 ?_
    refine f_aload_n hC dX5_would_47 rfl 0 rfl ?_
    refine f_getI hC 5 0 500 rfl (by decide) iX5 q_1259 rfl rfl (fSm.k (fSm.rf w) g3) dX5_would_48 ?_
    refine f_if_le hC 56 dX5_would_51 (by decide) (fun c9 => ?_) (fun c9 => ?_)
    · replace hF := fi_pos hF c9
      refine f_iload_n hC dX5_would_56 rfl 2 rfl ?_
      obtain ⟨r10, h11, hF⟩ := fb_open hF
      refine f_callS hC [.int x2] (c_X5_number l D cy x2 (sI w 500 a0 0 x5) r10 h11) q_1471 q_137 q_1469 q_1470 h9_X5_number ⟨Nat.le_of_ble_eq_true rfl, Nat.le_of_ble_eq_true rfl⟩ ⟨Nat.le_of_ble_eq_true rfl, Nat.le_of_ble_eq_true rfl⟩ (Nat.le_of_ble_eq_true rfl) rfl dX5_would_57 (fun e12 => ?_)
      refine f_istore (L' := [(4, .int r10), (0, .ref a0), (1, .int x1), (2, .int x2), (3, .int x3)]) hC dX5_would_60 (by decide) rfl ?_
      refine f_aload_n hC dX5_would_62 rfl 1 rfl ?_
      refine f_iload_n hC dX5_would_63 rfl 2 rfl ?_
      refine f_iload hC dX5_would_64 0 rfl ?_
      refine f_iconst (v := 1) hC dX5_would_66 (by decide) ?_
      obtain ⟨r13, h14, hF⟩ := fb_open hF
      refine f_callV hC [.int x1, .int r10, .int 1] (c_X5_half l D cy a0 x1 r10 1 (sI w 500 a0 0 x5) r13 h14) q_1483 q_137 q_1480 q_1482 q_96 h9_X5_half rfl (fSm.k (fSm.rf w) g3) ⟨Nat.le_of_ble_eq_true rfl, Nat.le_of_ble_eq_true rfl⟩ ⟨Nat.le_of_ble_eq_true rfl, Nat.le_of_ble_eq_true rfl⟩ (Nat.le_of_ble_eq_true rfl) rfl dX5_would_67 (fun e15 => ?_)
      refine f_iload_n hC dX5_would_70 rfl 4 rfl ?_
      refine f_iadd hC dX5_would_71 ?_
      refine f_istore (L' := [(5, .int (r13 + x3)), (4, .int r10), (0, .ref a0), (1, .int x1), (2, .int x2), (3, .int x3)]) hC dX5_would_72 (by decide) rfl ?_
      refine f_aload_n hC dX5_would_74 rfl 2 rfl ?_
      refine f_iload_n hC dX5_would_75 rfl 3 rfl ?_
      refine f_iload hC dX5_would_76 1 rfl ?_
      refine f_iload hC dX5_would_78 0 rfl ?_
      refine f_bipush (v := 9) hC dX5_would_80 (by decide) ?_
      obtain ⟨x16, h17, hF⟩ := fb_open hF
      have K19 : fAt X 0 0 6 (sI w 500 a0 0 x5) [(0, .ref a0), (1, .int x1), (4, .int r10)] [.int x16, .int r10, .int x1, .ref a0] 92 := by
        refine f_aload_n hC dX5_would_92 rfl 0 rfl ?_
        refine f_iload_n hC dX5_would_93 rfl 1 rfl ?_
        refine f_iload hC dX5_would_94 2 rfl ?_
        refine f_iconst (v := 0) hC dX5_would_96 (by decide) ?_
        obtain ⟨r20, h21, hF⟩ := fb_open hF
        refine f_callV hC [.int x1, .int r10, .int 0] (c_X5_half l D cy a0 x1 r10 0 (sI w 500 a0 0 x5) r20 h21) q_1483 q_137 q_1480 q_1482 q_96 h9_X5_half rfl (fSm.k (fSm.rf w) g3) ⟨Nat.le_of_ble_eq_true rfl, Nat.le_of_ble_eq_true rfl⟩ ⟨Nat.le_of_ble_eq_true rfl, Nat.le_of_ble_eq_true rfl⟩ (Nat.le_of_ble_eq_true rfl) rfl dX5_would_97 (fun e22 => ?_)
        obtain ⟨r23, h24, hF⟩ := fb_open hF
        refine f_callV hC [.int x1, .int r10, .int x16, .int r20] (c_X5_rightOf l D cy a0 x1 r10 x16 r20 (sI w 500 a0 0 x5) r23 h24) q_1550 q_137 q_1547 q_1549 q_107 h9_X5_rightOf rfl (fSm.k (fSm.rf w) g3) ⟨Nat.le_of_ble_eq_true rfl, Nat.le_of_ble_eq_true rfl⟩ ⟨Nat.le_of_ble_eq_true rfl, Nat.le_of_ble_eq_true rfl⟩ (Nat.le_of_ble_eq_true rfl) rfl dX5_would_100 (fun e25 => ?_)
        obtain rfl := Option.some.inj hF
        exact f_iret hC hEn (fSm.rf w) dX5_would_103
      refine f_icmp_le hC 90 dX5_would_82 (by decide) (fun c26 => ?_) (fun c26 => ?_)
      · replace h17 := fi_pos h17 c26
        refine f_iload hC dX5_would_90 0 rfl ?_
        obtain rfl := Option.some.inj h17
        refine f_sub (L' := [(0, .ref a0), (1, .int x1), (4, .int r10)]) [2, 3, 1] rfl ?_
        exact K19
      · replace h17 := fi_neg h17 c26
        refine f_bipush (v := 9) hC dX5_would_85 (by decide) ?_
        refine f_goto hC 92 dX5_would_87 (by decide) ?_
        obtain rfl := Option.some.inj h17
        refine f_sub (L' := [(0, .ref a0), (1, .int x1), (4, .int r10)]) [2, 3, 1] rfl ?_
        exact K19
    · replace hF := fi_neg hF c9
      refine f_iconst (v := 0) hC dX5_would_54 (by decide) ?_
      obtain rfl := Option.some.inj hF
      exact f_iret hC hEn (fSm.rf w) dX5_would_55
  refine f_if_ne hC 13 dX5_would_6 (by decide) (fun c27 => ?_) (fun c27 => ?_)
  · replace h6 := fi_neg h6 c27
    refine f_iload_n hC dX5_would_13 rfl 3 rfl ?_
    refine f_iconst (v := 0) hC dX5_would_14 (by decide) ?_
    refine f_bipush (v := 9) hC dX5_would_15 (by decide) ?_
    obtain ⟨r28, h29, h6⟩ := fb_open h6
    refine f_callS hC [.int x3, .int 0, .int 9] (c_X5_in l D cy x3 0 9 w r28 h29) q_1357 q_137 q_1355 q_1356 h9_X5_in ⟨Nat.le_of_ble_eq_true rfl, Nat.le_of_ble_eq_true rfl⟩ ⟨Nat.le_of_ble_eq_true rfl, Nat.le_of_ble_eq_true rfl⟩ (Nat.le_of_ble_eq_true rfl) rfl dX5_would_17 (fun e30 => ?_)
    refine f_if_ne hC 27 dX5_would_20 (by decide) (fun c31 => ?_) (fun c31 => ?_)
    · replace h6 := fi_neg h6 c31
      refine f_aload_n hC dX5_would_27 rfl 0 rfl ?_
      refine f_iload_n hC dX5_would_28 rfl 1 rfl ?_
      refine f_iload_n hC dX5_would_29 rfl 2 rfl ?_
      obtain ⟨r32, h33, h6⟩ := fb_open h6
      refine f_callS hC [.int x2] (c_X5_number l D cy x2 w r32 h33) q_1471 q_137 q_1469 q_1470 h9_X5_number ⟨Nat.le_of_ble_eq_true rfl, Nat.le_of_ble_eq_true rfl⟩ ⟨Nat.le_of_ble_eq_true rfl, Nat.le_of_ble_eq_true rfl⟩ (Nat.le_of_ble_eq_true rfl) rfl dX5_would_30 (fun e34 => ?_)
      obtain ⟨r35, h36, h6⟩ := fb_open h6
      refine f_callV hC [.int x1, .int r32] (c_X5_isPunched l D cy a0 x1 r32 w r35 h36) q_1479 q_137 q_1476 q_1478 q_95 h9_X5_isPunched rfl (fSm.k (fSm.rf w) g3) ⟨Nat.le_of_ble_eq_true rfl, Nat.le_of_ble_eq_true rfl⟩ ⟨Nat.le_of_ble_eq_true rfl, Nat.le_of_ble_eq_true rfl⟩ (Nat.le_of_ble_eq_true rfl) rfl dX5_would_33 (fun e37 => ?_)
      refine f_if_eq hC 43 dX5_would_36 (by decide) (fun c38 => ?_) (fun c38 => ?_)
      · replace h6 := fi_pos h6 c38
        refine f_iconst (v := 3) hC dX5_would_43 (by decide) ?_
        obtain rfl := Option.some.inj h6
        exact K8
      · replace h6 := fi_neg h6 c38
        refine f_iconst (v := 0) hC dX5_would_39 (by decide) ?_
        refine f_goto hC 44 dX5_would_40 (by decide) ?_
        obtain rfl := Option.some.inj h6
        exact K8
    · replace h6 := fi_pos h6 c31
      refine f_iconst (v := 2) hC dX5_would_23 (by decide) ?_
      refine f_goto hC 44 dX5_would_24 (by decide) ?_
      obtain rfl := Option.some.inj h6
      exact K8
  · replace h6 := fi_pos h6 c27
    refine f_iconst (v := 1) hC dX5_would_9 (by decide) ?_
    refine f_goto hC 44 dX5_would_10 (by decide) ?_
    obtain rfl := Option.some.inj h6
    exact K8
theorem dX5_unlike_0 : decode cX5_unlike 0 = .ok (.iconst 0, 1) := by decide +kernel
theorem dX5_unlike_1 : decode cX5_unlike 1 = .ok (.istore 4, 2) := by decide +kernel
theorem dX5_unlike_3 : decode cX5_unlike 3 = .ok (.iconst 0, 1) := by decide +kernel
theorem dX5_unlike_4 : decode cX5_unlike 4 = .ok (.istore 5, 2) := by decide +kernel
theorem dX5_unlike_6 : decode cX5_unlike 6 = .ok (.iload 5, 2) := by decide +kernel
theorem dX5_unlike_8 : decode cX5_unlike 8 = .ok (.bipush 6, 2) := by decide +kernel
theorem dX5_unlike_10 : decode cX5_unlike 10 = .ok (.if_icmp .ge 85, 3) := by decide +kernel
theorem dX5_unlike_13 : decode cX5_unlike 13 = .ok (.iload 5, 2) := by decide +kernel
theorem dX5_unlike_15 : decode cX5_unlike 15 = .ok (.aload_n 0, 1) := by decide +kernel
theorem dX5_unlike_16 : decode cX5_unlike 16 = .ok (.iload_n 1, 1) := by decide +kernel
theorem dX5_unlike_17 : decode cX5_unlike 17 = .ok (.iconst 0, 1) := by decide +kernel
theorem dX5_unlike_18 : decode cX5_unlike 18 = .ok (.invokevirtual 70, 3) := by decide +kernel
theorem dX5_unlike_21 : decode cX5_unlike 21 = .ok (.if_icmp .ge 7, 3) := by decide +kernel
theorem dX5_unlike_24 : decode cX5_unlike 24 = .ok (.iconst 1, 1) := by decide +kernel
theorem dX5_unlike_25 : decode cX5_unlike 25 = .ok (.goto 4, 3) := by decide +kernel
theorem dX5_unlike_28 : decode cX5_unlike 28 = .ok (.iconst 0, 1) := by decide +kernel
theorem dX5_unlike_29 : decode cX5_unlike 29 = .ok (.istore 6, 2) := by decide +kernel
theorem dX5_unlike_31 : decode cX5_unlike 31 = .ok (.iload 5, 2) := by decide +kernel
theorem dX5_unlike_33 : decode cX5_unlike 33 = .ok (.aload_n 0, 1) := by decide +kernel
theorem dX5_unlike_34 : decode cX5_unlike 34 = .ok (.iload_n 3, 1) := by decide +kernel
theorem dX5_unlike_35 : decode cX5_unlike 35 = .ok (.iconst 0, 1) := by decide +kernel
theorem dX5_unlike_36 : decode cX5_unlike 36 = .ok (.invokevirtual 70, 3) := by decide +kernel
theorem dX5_unlike_39 : decode cX5_unlike 39 = .ok (.if_icmp .ge 7, 3) := by decide +kernel
theorem dX5_unlike_42 : decode cX5_unlike 42 = .ok (.iconst 1, 1) := by decide +kernel
theorem dX5_unlike_43 : decode cX5_unlike 43 = .ok (.goto 4, 3) := by decide +kernel
theorem dX5_unlike_46 : decode cX5_unlike 46 = .ok (.iconst 0, 1) := by decide +kernel
theorem dX5_unlike_47 : decode cX5_unlike 47 = .ok (.istore 7, 2) := by decide +kernel
theorem dX5_unlike_49 : decode cX5_unlike 49 = .ok (.iload 4, 2) := by decide +kernel
theorem dX5_unlike_51 : decode cX5_unlike 51 = .ok (.iload 6, 2) := by decide +kernel
theorem dX5_unlike_53 : decode cX5_unlike 53 = .ok (.iload 7, 2) := by decide +kernel
theorem dX5_unlike_55 : decode cX5_unlike 55 = .ok (.if_icmp .ne 26, 3) := by decide +kernel
theorem dX5_unlike_58 : decode cX5_unlike 58 = .ok (.iload 6, 2) := by decide +kernel
theorem dX5_unlike_60 : decode cX5_unlike 60 = .ok (.ifCond .eq 25, 3) := by decide +kernel
theorem dX5_unlike_63 : decode cX5_unlike 63 = .ok (.aload_n 0, 1) := by decide +kernel
theorem dX5_unlike_64 : decode cX5_unlike 64 = .ok (.iload_n 1, 1) := by decide +kernel
theorem dX5_unlike_65 : decode cX5_unlike 65 = .ok (.iload_n 2, 1) := by decide +kernel
theorem dX5_unlike_66 : decode cX5_unlike 66 = .ok (.iload 5, 2) := by decide +kernel
theorem dX5_unlike_68 : decode cX5_unlike 68 = .ok (.invokevirtual 116, 3) := by decide +kernel
theorem dX5_unlike_71 : decode cX5_unlike 71 = .ok (.aload_n 0, 1) := by decide +kernel
theorem dX5_unlike_72 : decode cX5_unlike 72 = .ok (.iload_n 3, 1) := by decide +kernel
theorem dX5_unlike_73 : decode cX5_unlike 73 = .ok (.iload 5, 2) := by decide +kernel
theorem dX5_unlike_75 : decode cX5_unlike 75 = .ok (.invokevirtual 89, 3) := by decide +kernel
theorem dX5_unlike_78 : decode cX5_unlike 78 = .ok (.if_icmp .eq 7, 3) := by decide +kernel
theorem dX5_unlike_81 : decode cX5_unlike 81 = .ok (.iconst 1, 1) := by decide +kernel
theorem dX5_unlike_82 : decode cX5_unlike 82 = .ok (.goto 4, 3) := by decide +kernel
theorem dX5_unlike_85 : decode cX5_unlike 85 = .ok (.iconst 0, 1) := by decide +kernel
theorem dX5_unlike_86 : decode cX5_unlike 86 = .ok (.iadd, 1) := by decide +kernel
theorem dX5_unlike_87 : decode cX5_unlike 87 = .ok (.istore 4, 2) := by decide +kernel
theorem dX5_unlike_89 : decode cX5_unlike 89 = .ok (.iinc 5 1, 3) := by decide +kernel
theorem dX5_unlike_92 : decode cX5_unlike 92 = .ok (.goto (-86), 3) := by decide +kernel
theorem dX5_unlike_95 : decode cX5_unlike 95 = .ok (.iload 4, 2) := by decide +kernel
theorem dX5_unlike_97 : decode cX5_unlike 97 = .ok (.ireturn, 1) := by decide +kernel
theorem h9_X5_unlike : yX5_unlike.cls ≠ "java/lang/invoke/MethodHandle" ∧ yX5_unlike.cls ≠ "java/lang/invoke/VarHandle" ∧ (parseMethodDescriptor yX5_unlike.desc).map (fun d => d.parameters.length) = some 3 := by decide +kernel
noncomputable def F_X5_unlike (a0 : Nat) (x1 : Int32) (x2 : Int32) (x3 : Int32) (w : FW) : Option (Int32) :=
  (fLoop (σ := Int32 × Int32) (ρ := Int32) (fun s1 => (if 6 ≤ s1.2 then some (.inr s1.1) else fg (w.1 a0 = 6) inferInstance ((F_X5_of a0 x1 0 w).bind (fun r11 => ((if r11 ≤ s1.2 then some 0 else some 1) : Option (Int32)).bind (fun x15 => (F_X5_of a0 x3 0 w).bind (fun r19 => ((if r19 ≤ s1.2 then some 0 else some 1) : Option (Int32)).bind (fun x22 => (if x15 = x22 then (if x15 = 0 then some (.inl ((s1.1 + 0), (s1.2 + 1))) else (F_X5_reads a0 x1 x2 s1.2 w).bind (fun r28 => (F_X5_letterOf a0 x3 s1.2 w).bind (fun r31 => (if r28 = r31 then some (.inl ((s1.1 + 0), (s1.2 + 1))) else some (.inl ((s1.1 + 1), (s1.2 + 1))))))) else some (.inl ((s1.1 + 1), (s1.2 + 1))))))))))) (0, 0)).bind (fun x7 => some x7)
set_option maxHeartbeats 4000000 in
set_option maxRecDepth 100000 in
theorem c_X5_unlike (l : Launch) (D : va_G) (cy : Nat → ClassId) (a0 : Nat) (x1 : Int32) (x2 : Int32) (x3 : Int32) (w : FW) (r : Int32) (hF : F_X5_unlike a0 x1 x2 x3 w = some r) : fSpec l D cy yX5_unlike cX5_unlike 8 (some .int) { frames := 7, cells := 0, slots := 0, locals := 165 } [.ref a0, .int x1, .int x2, .int x3] w w (some (.int r)) := by
  refine f_begin (by decide +kernel) (Nat.le_of_ble_eq_true rfl) (fun X hC hEn => ?_)
  unfold F_X5_unlike at hF
  show fAt X 0 0 8 w [(0, .ref a0), (1, .int x1), (2, .int x2), (3, .int x3)] [] 0
  refine f_iconst (v := 0) hC dX5_unlike_0 (by decide) ?_
  refine f_istore (L' := [(4, .int 0), (0, .ref a0), (1, .int x1), (2, .int x2), (3, .int x3)]) hC dX5_unlike_1 (by decide) rfl ?_
  refine f_iconst (v := 0) hC dX5_unlike_3 (by decide) ?_
  refine f_istore (L' := [(5, .int 0), (4, .int 0), (0, .ref a0), (1, .int x1), (2, .int x2), (3, .int x3)]) hC dX5_unlike_4 (by decide) rfl ?_
  obtain ⟨x7, h8, hF⟩ := fb_open hF
  have K9 : fAt X 0 0 8 w [(4, .int x7)] [] 95 := by
    refine f_iload hC dX5_unlike_95 0 rfl ?_
    obtain rfl := Option.some.inj hF
    exact f_iret hC hEn (fSm.rf w) dX5_unlike_97
  refine f_sub (L' := [(0, .ref a0), (1, .int x1), (2, .int x2), (3, .int x3), (4, .int 0), (5, .int 0)]) [2, 3, 4, 5, 1, 0] rfl ?_
  refine fLoop_ind (fun (s1 : Int32 × Int32) => fAt X 0 0 8 w [(0, .ref a0), (1, .int x1), (2, .int x2), (3, .int x3), (4, .int s1.1), (5, .int s1.2)] [] 6) (fun s1 y6 h2 go3 ou4 => ?_) h8
  refine f_iload hC dX5_unlike_6 5 rfl ?_
  refine f_bipush (v := 6) hC dX5_unlike_8 (by decide) ?_
  refine f_icmp_ge hC 95 dX5_unlike_10 (by decide) (fun c10 => ?_) (fun c10 => ?_)
  · replace h2 := fi_pos h2 c10
    obtain rfl := Option.some.inj h2
    obtain rfl := ou4 _ rfl
    refine f_sub (L' := [(4, .int s1.1)]) [4] rfl ?_
    exact K9
  · replace h2 := fi_neg h2 c10
    refine f_iload hC dX5_unlike_13 5 rfl ?_
    refine f_aload_n hC dX5_unlike_15 rfl 0 rfl ?_
    refine f_iload_n hC dX5_unlike_16 rfl 1 rfl ?_
    refine f_iconst (v := 0) hC dX5_unlike_17 (by decide) ?_
    obtain ⟨g13, h2⟩ := fg_open h2
    obtain ⟨r11, h12, h2⟩ := fb_open h2
    refine f_callV hC [.int x1, .int 0] (c_X5_of l D cy a0 x1 0 w r11 h12) q_1452 q_137 q_1449 q_1451 q_91 h9_X5_of rfl (fSm.k (fSm.rf w) g13) ⟨Nat.le_of_ble_eq_true rfl, Nat.le_of_ble_eq_true rfl⟩ ⟨Nat.le_of_ble_eq_true rfl, Nat.le_of_ble_eq_true rfl⟩ (Nat.le_of_ble_eq_true rfl) rfl dX5_unlike_18 (fun e14 => ?_)
    obtain ⟨x15, h16, h2⟩ := fb_open h2
    have K18 : fAt X 0 0 8 w [(0, .ref a0), (1, .int x1), (2, .int x2), (3, .int x3), (4, .int s1.1), (5, .int s1.2)] [.int x15] 29 := by
      refine f_istore (L' := [(6, .int x15), (0, .ref a0), (1, .int x1), (2, .int x2), (3, .int x3), (4, .int s1.1), (5, .int s1.2)]) hC dX5_unlike_29 (by decide) rfl ?_
      refine f_iload hC dX5_unlike_31 6 rfl ?_
      refine f_aload_n hC dX5_unlike_33 rfl 1 rfl ?_
      refine f_iload_n hC dX5_unlike_34 rfl 4 rfl ?_
      refine f_iconst (v := 0) hC dX5_unlike_35 (by decide) ?_
      obtain ⟨r19, h20, h2⟩ := fb_open h2
      refine f_callV hC [.int x3, .int 0] (c_X5_of l D cy a0 x3 0 w r19 h20) q_1452 q_137 q_1449 q_1451 q_91 h9_X5_of rfl (fSm.k (fSm.rf w) g13) ⟨Nat.le_of_ble_eq_true rfl, Nat.le_of_ble_eq_true rfl⟩ ⟨Nat.le_of_ble_eq_true rfl, Nat.le_of_ble_eq_true rfl⟩ (Nat.le_of_ble_eq_true rfl) rfl dX5_unlike_36 (fun e21 => ?_)
      obtain ⟨x22, h23, h2⟩ := fb_open h2
      have K25 : fAt X 0 0 8 w [(0, .ref a0), (1, .int x1), (2, .int x2), (3, .int x3), (4, .int s1.1), (5, .int s1.2), (6, .int x15)] [.int x22] 47 := by
        refine f_istore (L' := [(7, .int x22), (0, .ref a0), (1, .int x1), (2, .int x2), (3, .int x3), (4, .int s1.1), (5, .int s1.2), (6, .int x15)]) hC dX5_unlike_47 (by decide) rfl ?_
        refine f_iload hC dX5_unlike_49 5 rfl ?_
        refine f_iload hC dX5_unlike_51 7 rfl ?_
        refine f_iload hC dX5_unlike_53 0 rfl ?_
        refine f_icmp_ne hC 81 dX5_unlike_55 (by decide) (fun c26 => ?_) (fun c26 => ?_)
        · replace h2 := fi_neg h2 c26
          refine f_iconst (v := 1) hC dX5_unlike_81 (by decide) ?_
          refine f_goto hC 86 dX5_unlike_82 (by decide) ?_
          refine f_iadd hC dX5_unlike_86 ?_
          refine f_istore (L' := [(4, .int (s1.1 + 1)), (7, .int x22), (0, .ref a0), (1, .int x1), (2, .int x2), (3, .int x3), (5, .int s1.2), (6, .int x15)]) hC dX5_unlike_87 (by decide) rfl ?_
          refine f_iinc (L' := [(5, .int (s1.2 + 1)), (4, .int (s1.1 + 1)), (7, .int x22), (0, .ref a0), (1, .int x1), (2, .int x2), (3, .int x3), (6, .int x15)]) hC dX5_unlike_89 6 rfl rfl (by decide) rfl ?_
          refine f_goto hC 6 dX5_unlike_92 (by decide) ?_
          obtain rfl := Option.some.inj h2
          refine f_sub (L' := [(0, .ref a0), (1, .int x1), (2, .int x2), (3, .int x3), (4, .int (s1.1 + 1)), (5, .int (s1.2 + 1))]) [3, 4, 5, 6, 1, 0] rfl ?_
          exact go3 _ rfl
        · replace h2 := fi_pos h2 c26
          refine f_iload hC dX5_unlike_58 7 rfl ?_
          refine f_if_eq hC 85 dX5_unlike_60 (by decide) (fun c27 => ?_) (fun c27 => ?_)
          · replace h2 := fi_pos h2 c27
            refine f_iconst (v := 0) hC dX5_unlike_85 (by decide) ?_
            refine f_iadd hC dX5_unlike_86 ?_
            refine f_istore (L' := [(4, .int (s1.1 + 0)), (7, .int x22), (0, .ref a0), (1, .int x1), (2, .int x2), (3, .int x3), (5, .int s1.2), (6, .int x15)]) hC dX5_unlike_87 (by decide) rfl ?_
            refine f_iinc (L' := [(5, .int (s1.2 + 1)), (4, .int (s1.1 + 0)), (7, .int x22), (0, .ref a0), (1, .int x1), (2, .int x2), (3, .int x3), (6, .int x15)]) hC dX5_unlike_89 6 rfl rfl (by decide) rfl ?_
            refine f_goto hC 6 dX5_unlike_92 (by decide) ?_
            obtain rfl := Option.some.inj h2
            refine f_sub (L' := [(0, .ref a0), (1, .int x1), (2, .int x2), (3, .int x3), (4, .int (s1.1 + 0)), (5, .int (s1.2 + 1))]) [3, 4, 5, 6, 1, 0] rfl ?_
            exact go3 _ rfl
          · replace h2 := fi_neg h2 c27
            refine f_aload_n hC dX5_unlike_63 rfl 1 rfl ?_
            refine f_iload_n hC dX5_unlike_64 rfl 2 rfl ?_
            refine f_iload_n hC dX5_unlike_65 rfl 3 rfl ?_
            refine f_iload hC dX5_unlike_66 6 rfl ?_
            obtain ⟨r28, h29, h2⟩ := fb_open h2
            refine f_callV hC [.int x1, .int x2, .int s1.2] (c_X5_reads l D cy a0 x1 x2 s1.2 w r28 h29) q_1565 q_137 q_1562 q_1564 q_109 h9_X5_reads rfl (fSm.k (fSm.rf w) g13) ⟨Nat.le_of_ble_eq_true rfl, Nat.le_of_ble_eq_true rfl⟩ ⟨Nat.le_of_ble_eq_true rfl, Nat.le_of_ble_eq_true rfl⟩ (Nat.le_of_ble_eq_true rfl) rfl dX5_unlike_68 (fun e30 => ?_)
            refine f_aload_n hC dX5_unlike_71 rfl 1 rfl ?_
            refine f_iload_n hC dX5_unlike_72 rfl 4 rfl ?_
            refine f_iload hC dX5_unlike_73 6 rfl ?_
            obtain ⟨r31, h32, h2⟩ := fb_open h2
            refine f_callV hC [.int x3, .int s1.2] (c_X5_letterOf l D cy a0 x3 s1.2 w r31 h32) q_1460 q_137 q_1457 q_1459 q_93 h9_X5_letterOf rfl (fSm.k (fSm.rf w) g13) ⟨Nat.le_of_ble_eq_true rfl, Nat.le_of_ble_eq_true rfl⟩ ⟨Nat.le_of_ble_eq_true rfl, Nat.le_of_ble_eq_true rfl⟩ (Nat.le_of_ble_eq_true rfl) rfl dX5_unlike_75 (fun e33 => ?_)
            refine f_icmp_eq hC 85 dX5_unlike_78 (by decide) (fun c34 => ?_) (fun c34 => ?_)
            · replace h2 := fi_pos h2 c34
              refine f_iconst (v := 0) hC dX5_unlike_85 (by decide) ?_
              refine f_iadd hC dX5_unlike_86 ?_
              refine f_istore (L' := [(4, .int (s1.1 + 0)), (7, .int x22), (0, .ref a0), (1, .int x1), (2, .int x2), (3, .int x3), (5, .int s1.2), (6, .int x15)]) hC dX5_unlike_87 (by decide) rfl ?_
              refine f_iinc (L' := [(5, .int (s1.2 + 1)), (4, .int (s1.1 + 0)), (7, .int x22), (0, .ref a0), (1, .int x1), (2, .int x2), (3, .int x3), (6, .int x15)]) hC dX5_unlike_89 6 rfl rfl (by decide) rfl ?_
              refine f_goto hC 6 dX5_unlike_92 (by decide) ?_
              obtain rfl := Option.some.inj h2
              refine f_sub (L' := [(0, .ref a0), (1, .int x1), (2, .int x2), (3, .int x3), (4, .int (s1.1 + 0)), (5, .int (s1.2 + 1))]) [3, 4, 5, 6, 1, 0] rfl ?_
              exact go3 _ rfl
            · replace h2 := fi_neg h2 c34
              refine f_iconst (v := 1) hC dX5_unlike_81 (by decide) ?_
              refine f_goto hC 86 dX5_unlike_82 (by decide) ?_
              refine f_iadd hC dX5_unlike_86 ?_
              refine f_istore (L' := [(4, .int (s1.1 + 1)), (7, .int x22), (0, .ref a0), (1, .int x1), (2, .int x2), (3, .int x3), (5, .int s1.2), (6, .int x15)]) hC dX5_unlike_87 (by decide) rfl ?_
              refine f_iinc (L' := [(5, .int (s1.2 + 1)), (4, .int (s1.1 + 1)), (7, .int x22), (0, .ref a0), (1, .int x1), (2, .int x2), (3, .int x3), (6, .int x15)]) hC dX5_unlike_89 6 rfl rfl (by decide) rfl ?_
              refine f_goto hC 6 dX5_unlike_92 (by decide) ?_
              obtain rfl := Option.some.inj h2
              refine f_sub (L' := [(0, .ref a0), (1, .int x1), (2, .int x2), (3, .int x3), (4, .int (s1.1 + 1)), (5, .int (s1.2 + 1))]) [3, 4, 5, 6, 1, 0] rfl ?_
              exact go3 _ rfl
      refine f_icmp_ge hC 46 dX5_unlike_39 (by decide) (fun c35 => ?_) (fun c35 => ?_)
      · replace h23 := fi_pos h23 c35
        refine f_iconst (v := 0) hC dX5_unlike_46 (by decide) ?_
        obtain rfl := Option.some.inj h23
        refine f_sub (L' := [(0, .ref a0), (1, .int x1), (2, .int x2), (3, .int x3), (4, .int s1.1), (5, .int s1.2), (6, .int x15)]) [1, 2, 3, 4, 5, 6, 0] rfl ?_
        exact K25
      · replace h23 := fi_neg h23 c35
        refine f_iconst (v := 1) hC dX5_unlike_42 (by decide) ?_
        refine f_goto hC 47 dX5_unlike_43 (by decide) ?_
        obtain rfl := Option.some.inj h23
        refine f_sub (L' := [(0, .ref a0), (1, .int x1), (2, .int x2), (3, .int x3), (4, .int s1.1), (5, .int s1.2), (6, .int x15)]) [1, 2, 3, 4, 5, 6, 0] rfl ?_
        exact K25
    refine f_icmp_ge hC 28 dX5_unlike_21 (by decide) (fun c36 => ?_) (fun c36 => ?_)
    · replace h16 := fi_pos h16 c36
      refine f_iconst (v := 0) hC dX5_unlike_28 (by decide) ?_
      obtain rfl := Option.some.inj h16
      exact K18
    · replace h16 := fi_neg h16 c36
      refine f_iconst (v := 1) hC dX5_unlike_24 (by decide) ?_
      refine f_goto hC 29 dX5_unlike_25 (by decide) ?_
      obtain rfl := Option.some.inj h16
      exact K18
theorem dX5_likely_0 : decode cX5_likely 0 = .ok (.aload_n 0, 1) := by decide +kernel
theorem dX5_likely_1 : decode cX5_likely 1 = .ok (.aload_n 0, 1) := by decide +kernel
theorem dX5_likely_2 : decode cX5_likely 2 = .ok (.iload_n 1, 1) := by decide +kernel
theorem dX5_likely_3 : decode cX5_likely 3 = .ok (.iload_n 2, 1) := by decide +kernel
theorem dX5_likely_4 : decode cX5_likely 4 = .ok (.invokevirtual 213, 3) := by decide +kernel
theorem dX5_likely_7 : decode cX5_likely 7 = .ok (.putfield 41, 3) := by decide +kernel
theorem dX5_likely_10 : decode cX5_likely 10 = .ok (.aload_n 0, 1) := by decide +kernel
theorem dX5_likely_11 : decode cX5_likely 11 = .ok (.getfield 41, 3) := by decide +kernel
theorem dX5_likely_14 : decode cX5_likely 14 = .ok (.ifCond .le 5, 3) := by decide +kernel
theorem dX5_likely_17 : decode cX5_likely 17 = .ok (.iconst 0, 1) := by decide +kernel
theorem dX5_likely_18 : decode cX5_likely 18 = .ok (.ireturn, 1) := by decide +kernel
theorem dX5_likely_19 : decode cX5_likely 19 = .ok (.iload_n 2, 1) := by decide +kernel
theorem dX5_likely_20 : decode cX5_likely 20 = .ok (.invokestatic 194, 3) := by decide +kernel
theorem dX5_likely_23 : decode cX5_likely 23 = .ok (.istore_n 3, 1) := by decide +kernel
theorem dX5_likely_24 : decode cX5_likely 24 = .ok (.iconst 0, 1) := by decide +kernel
theorem dX5_likely_25 : decode cX5_likely 25 = .ok (.istore 4, 2) := by decide +kernel
theorem dX5_likely_27 : decode cX5_likely 27 = .ok (.iconst 1, 1) := by decide +kernel
theorem dX5_likely_28 : decode cX5_likely 28 = .ok (.istore 5, 2) := by decide +kernel
theorem dX5_likely_30 : decode cX5_likely 30 = .ok (.iload 5, 2) := by decide +kernel
theorem dX5_likely_32 : decode cX5_likely 32 = .ok (.aload_n 0, 1) := by decide +kernel
theorem dX5_likely_33 : decode cX5_likely 33 = .ok (.getfield 7, 3) := by decide +kernel
theorem dX5_likely_36 : decode cX5_likely 36 = .ok (.iconst 0, 1) := by decide +kernel
theorem dX5_likely_37 : decode cX5_likely 37 = .ok (.iaload, 1) := by decide +kernel
theorem dX5_likely_38 : decode cX5_likely 38 = .ok (.if_icmp .ge 37, 3) := by decide +kernel
theorem dX5_likely_41 : decode cX5_likely 41 = .ok (.aload_n 0, 1) := by decide +kernel
theorem dX5_likely_42 : decode cX5_likely 42 = .ok (.iload_n 1, 1) := by decide +kernel
theorem dX5_likely_43 : decode cX5_likely 43 = .ok (.iload_n 3, 1) := by decide +kernel
theorem dX5_likely_44 : decode cX5_likely 44 = .ok (.iload 5, 2) := by decide +kernel
theorem dX5_likely_46 : decode cX5_likely 46 = .ok (.invokevirtual 216, 3) := by decide +kernel
theorem dX5_likely_49 : decode cX5_likely 49 = .ok (.aload_n 0, 1) := by decide +kernel
theorem dX5_likely_50 : decode cX5_likely 50 = .ok (.iload_n 1, 1) := by decide +kernel
theorem dX5_likely_51 : decode cX5_likely 51 = .ok (.iload_n 3, 1) := by decide +kernel
theorem dX5_likely_52 : decode cX5_likely 52 = .ok (.iload 4, 2) := by decide +kernel
theorem dX5_likely_54 : decode cX5_likely 54 = .ok (.invokevirtual 216, 3) := by decide +kernel
theorem dX5_likely_57 : decode cX5_likely 57 = .ok (.if_icmp .ge 8, 3) := by decide +kernel
theorem dX5_likely_60 : decode cX5_likely 60 = .ok (.iload 5, 2) := by decide +kernel
theorem dX5_likely_62 : decode cX5_likely 62 = .ok (.goto 5, 3) := by decide +kernel
theorem dX5_likely_65 : decode cX5_likely 65 = .ok (.iload 4, 2) := by decide +kernel
theorem dX5_likely_67 : decode cX5_likely 67 = .ok (.istore 4, 2) := by decide +kernel
theorem dX5_likely_69 : decode cX5_likely 69 = .ok (.iinc 5 1, 3) := by decide +kernel
theorem dX5_likely_72 : decode cX5_likely 72 = .ok (.goto (-42), 3) := by decide +kernel
theorem dX5_likely_75 : decode cX5_likely 75 = .ok (.iload 4, 2) := by decide +kernel
theorem dX5_likely_77 : decode cX5_likely 77 = .ok (.ireturn, 1) := by decide +kernel
theorem h9_X5_likely : yX5_likely.cls ≠ "java/lang/invoke/MethodHandle" ∧ yX5_likely.cls ≠ "java/lang/invoke/VarHandle" ∧ (parseMethodDescriptor yX5_likely.desc).map (fun d => d.parameters.length) = some 2 := by decide +kernel
noncomputable def F_X5_likely (a0 : Nat) (x1 : Int32) (x2 : Int32) (w : FW) : Option (Int32 × FW) :=
  fg (w.1 a0 = 6) inferInstance ((F_X5_halfThere a0 x1 x2 w).bind (fun r1 => (if (gI (sI w 500 a0 0 r1) 500 a0 0) ≤ 0 then (F_X5_number x2 (sI w 500 a0 0 r1)).bind (fun r6 => (fLoop (σ := Int32 × Int32) (ρ := Int32) (fun s9 => fg (w.1 (gR w 501 a0 0) = 11) inferInstance (fg (¬ ((0 : Int32) < 0 ∨ w.2.1 (gR w 501 a0 0) ≤ Int32.toNatClampNeg 0)) inferInstance ((if (gI (sI w 500 a0 0 r1) 601 (gR (sI w 500 a0 0 r1) 501 a0 0) (Int32.toNatClampNeg 0)) ≤ s9.2 then some (.inr s9.1) else (F_X5_unlike a0 x1 r6 s9.2 (sI w 500 a0 0 r1)).bind (fun r21 => (F_X5_unlike a0 x1 r6 s9.1 (sI w 500 a0 0 r1)).bind (fun r24 => (if r24 ≤ r21 then some (.inl (s9.1, (s9.2 + 1))) else some (.inl (s9.2, (s9.2 + 1)))))))))) (0, 1)).bind (fun x15 => some (x15, (sI w 500 a0 0 r1)))) else some (0, (sI w 500 a0 0 r1)))))
set_option maxHeartbeats 4000000 in
set_option maxRecDepth 100000 in
theorem c_X5_likely (l : Launch) (D : va_G) (cy : Nat → ClassId) (a0 : Nat) (x1 : Int32) (x2 : Int32) (w : FW) (r : Int32 × FW) (hF : F_X5_likely a0 x1 x2 w = some r) : fSpec l D cy yX5_likely cX5_likely 6 (some .int) { frames := 8, cells := 0, slots := 0, locals := 192 } [.ref a0, .int x1, .int x2] w r.2 (some (.int r.1)) := by
  refine f_begin (by decide +kernel) (Nat.le_of_ble_eq_true rfl) (fun X hC hEn => ?_)
  unfold F_X5_likely at hF
  show fAt X 0 0 6 w [(0, .ref a0), (1, .int x1), (2, .int x2)] [] 0
  refine f_aload_n hC dX5_likely_0 rfl 0 rfl ?_
  refine f_aload_n hC dX5_likely_1 rfl 0 rfl ?_
  refine f_iload_n hC dX5_likely_2 rfl 1 rfl ?_
  refine f_iload_n hC dX5_likely_3 rfl 2 rfl ?_
  obtain ⟨g3, hF⟩ := fg_open hF
  obtain ⟨r1, h2, hF⟩ := fb_open hF
  refine f_callV hC [.int x1, .int x2] (c_X5_halfThere l D cy a0 x1 x2 w r1 h2) q_1577 q_137 q_1574 q_1576 q_110 h9_X5_halfThere rfl (fSm.k (fSm.rf w) g3) ⟨Nat.le_of_ble_eq_true rfl, Nat.le_of_ble_eq_true rfl⟩ ⟨Nat.le_of_ble_eq_true rfl, Nat.le_of_ble_eq_true rfl⟩ (Nat.le_of_ble_eq_true rfl) rfl dX5_likely_4 (fun e4 => ?_)
  refine f_putI hC 5 0 500 rfl (by decide) iX5 tyX5 tyX5_ok nmX5 q_1259 rfl rfl rfl rfl rfl (fSm.k (fSm.rf w) g3) dX5_likely_7 ?_
  refine f_aload_n hC dX5_likely_10 rfl 0 rfl ?_
  refine f_getI hC 5 0 500 rfl (by decide) iX5 q_1259 rfl rfl (fSm.k (fSm.rf w) g3) dX5_likely_11 ?_
  refine f_if_le hC 19 dX5_likely_14 (by decide) (fun c5 => ?_) (fun c5 => ?_)
  · replace hF := fi_pos hF c5
    refine f_iload_n hC dX5_likely_19 rfl 2 rfl ?_
    obtain ⟨r6, h7, hF⟩ := fb_open hF
    refine f_callS hC [.int x2] (c_X5_number l D cy x2 (sI w 500 a0 0 r1) r6 h7) q_1471 q_137 q_1469 q_1470 h9_X5_number ⟨Nat.le_of_ble_eq_true rfl, Nat.le_of_ble_eq_true rfl⟩ ⟨Nat.le_of_ble_eq_true rfl, Nat.le_of_ble_eq_true rfl⟩ (Nat.le_of_ble_eq_true rfl) rfl dX5_likely_20 (fun e8 => ?_)
    refine f_istore_n (L' := [(3, .int r6), (0, .ref a0), (1, .int x1), (2, .int x2)]) hC dX5_likely_23 rfl (by decide) rfl ?_
    refine f_iconst (v := 0) hC dX5_likely_24 (by decide) ?_
    refine f_istore (L' := [(4, .int 0), (3, .int r6), (0, .ref a0), (1, .int x1), (2, .int x2)]) hC dX5_likely_25 (by decide) rfl ?_
    refine f_iconst (v := 1) hC dX5_likely_27 (by decide) ?_
    refine f_istore (L' := [(5, .int 1), (4, .int 0), (3, .int r6), (0, .ref a0), (1, .int x1), (2, .int x2)]) hC dX5_likely_28 (by decide) rfl ?_
    obtain ⟨x15, h16, hF⟩ := fb_open hF
    have K17 : fAt X 0 0 6 (sI w 500 a0 0 r1) [(4, .int x15)] [] 75 := by
      refine f_iload hC dX5_likely_75 0 rfl ?_
      obtain rfl := Option.some.inj hF
      exact f_iret hC hEn (fSm.rf w) dX5_likely_77
    refine f_sub (L' := [(0, .ref a0), (1, .int x1), (3, .int r6), (4, .int 0), (5, .int 1)]) [3, 4, 2, 1, 0] rfl ?_
    refine fLoop_ind (fun (s9 : Int32 × Int32) => fAt X 0 0 6 (sI w 500 a0 0 r1) [(0, .ref a0), (1, .int x1), (3, .int r6), (4, .int s9.1), (5, .int s9.2)] [] 30) (fun s9 y14 h10 go11 ou12 => ?_) h16
    refine f_iload hC dX5_likely_30 4 rfl ?_
    refine f_aload_n hC dX5_likely_32 rfl 0 rfl ?_
    refine f_getR hC 5 1 501 rfl (by decide) iX5 q_1260 rfl rfl (fSm.k (fSm.rf w) g3) dX5_likely_33 ?_
    refine f_iconst (v := 0) hC dX5_likely_36 (by decide) ?_
    obtain ⟨g18, h10⟩ := fg_open h10
    obtain ⟨g19, h10⟩ := fg_open h10
    refine f_iald hC (fSm.k (fSm.rf w) g18) (fSm.v (fSm.rf w) g19) dX5_likely_37 ?_
    refine f_icmp_ge hC 75 dX5_likely_38 (by decide) (fun c20 => ?_) (fun c20 => ?_)
    · replace h10 := fi_pos h10 c20
      obtain rfl := Option.some.inj h10
      obtain rfl := ou12 _ rfl
      refine f_sub (L' := [(4, .int s9.1)]) [3] rfl ?_
      exact K17
    · replace h10 := fi_neg h10 c20
      refine f_aload_n hC dX5_likely_41 rfl 0 rfl ?_
      refine f_iload_n hC dX5_likely_42 rfl 1 rfl ?_
      refine f_iload_n hC dX5_likely_43 rfl 2 rfl ?_
      refine f_iload hC dX5_likely_44 4 rfl ?_
      obtain ⟨r21, h22, h10⟩ := fb_open h10
      refine f_callV hC [.int x1, .int r6, .int s9.2] (c_X5_unlike l D cy a0 x1 r6 s9.2 (sI w 500 a0 0 r1) r21 h22) q_1589 q_137 q_1586 q_1588 q_111 h9_X5_unlike rfl (fSm.k (fSm.rf w) g3) ⟨Nat.le_of_ble_eq_true rfl, Nat.le_of_ble_eq_true rfl⟩ ⟨Nat.le_of_ble_eq_true rfl, Nat.le_of_ble_eq_true rfl⟩ (Nat.le_of_ble_eq_true rfl) rfl dX5_likely_46 (fun e23 => ?_)
      refine f_aload_n hC dX5_likely_49 rfl 0 rfl ?_
      refine f_iload_n hC dX5_likely_50 rfl 1 rfl ?_
      refine f_iload_n hC dX5_likely_51 rfl 2 rfl ?_
      refine f_iload hC dX5_likely_52 3 rfl ?_
      obtain ⟨r24, h25, h10⟩ := fb_open h10
      refine f_callV hC [.int x1, .int r6, .int s9.1] (c_X5_unlike l D cy a0 x1 r6 s9.1 (sI w 500 a0 0 r1) r24 h25) q_1589 q_137 q_1586 q_1588 q_111 h9_X5_unlike rfl (fSm.k (fSm.rf w) g3) ⟨Nat.le_of_ble_eq_true rfl, Nat.le_of_ble_eq_true rfl⟩ ⟨Nat.le_of_ble_eq_true rfl, Nat.le_of_ble_eq_true rfl⟩ (Nat.le_of_ble_eq_true rfl) rfl dX5_likely_54 (fun e26 => ?_)
      refine f_icmp_ge hC 65 dX5_likely_57 (by decide) (fun c27 => ?_) (fun c27 => ?_)
      · replace h10 := fi_pos h10 c27
        refine f_iload hC dX5_likely_65 3 rfl ?_
        refine f_istore (L' := [(4, .int s9.1), (0, .ref a0), (1, .int x1), (3, .int r6), (5, .int s9.2)]) hC dX5_likely_67 (by decide) rfl ?_
        refine f_iinc (L' := [(5, .int (s9.2 + 1)), (4, .int s9.1), (0, .ref a0), (1, .int x1), (3, .int r6)]) hC dX5_likely_69 4 rfl rfl (by decide) rfl ?_
        refine f_goto hC 30 dX5_likely_72 (by decide) ?_
        obtain rfl := Option.some.inj h10
        refine f_sub (L' := [(0, .ref a0), (1, .int x1), (3, .int r6), (4, .int s9.1), (5, .int (s9.2 + 1))]) [2, 3, 4, 1, 0] rfl ?_
        exact go11 _ rfl
      · replace h10 := fi_neg h10 c27
        refine f_iload hC dX5_likely_60 4 rfl ?_
        refine f_goto hC 67 dX5_likely_62 (by decide) ?_
        refine f_istore (L' := [(4, .int s9.2), (0, .ref a0), (1, .int x1), (3, .int r6), (5, .int s9.2)]) hC dX5_likely_67 (by decide) rfl ?_
        refine f_iinc (L' := [(5, .int (s9.2 + 1)), (4, .int s9.2), (0, .ref a0), (1, .int x1), (3, .int r6)]) hC dX5_likely_69 4 rfl rfl (by decide) rfl ?_
        refine f_goto hC 30 dX5_likely_72 (by decide) ?_
        obtain rfl := Option.some.inj h10
        refine f_sub (L' := [(0, .ref a0), (1, .int x1), (3, .int r6), (4, .int s9.2), (5, .int (s9.2 + 1))]) [2, 3, 4, 1, 0] rfl ?_
        exact go11 _ rfl
  · replace hF := fi_neg hF c5
    refine f_iconst (v := 0) hC dX5_likely_17 (by decide) ?_
    obtain rfl := Option.some.inj hF
    exact f_iret hC hEn (fSm.rf w) dX5_likely_18
theorem dX5_ride_0 : decode cX5_ride 0 = .ok (.aload_n 0, 1) := by decide +kernel
theorem dX5_ride_1 : decode cX5_ride 1 = .ok (.invokevirtual 166, 3) := by decide +kernel
theorem dX5_ride_4 : decode cX5_ride 4 = .ok (.aload_n 0, 1) := by decide +kernel
theorem dX5_ride_5 : decode cX5_ride 5 = .ok (.aload_n 0, 1) := by decide +kernel
theorem dX5_ride_6 : decode cX5_ride 6 = .ok (.iload_n 1, 1) := by decide +kernel
theorem dX5_ride_7 : decode cX5_ride 7 = .ok (.iload_n 2, 1) := by decide +kernel
theorem dX5_ride_8 : decode cX5_ride 8 = .ok (.invokestatic 194, 3) := by decide +kernel
theorem dX5_ride_11 : decode cX5_ride 11 = .ok (.invokevirtual 219, 3) := by decide +kernel
theorem dX5_ride_14 : decode cX5_ride 14 = .ok (.iconst 2, 1) := by decide +kernel
theorem dX5_ride_15 : decode cX5_ride 15 = .ok (.invokevirtual 172, 3) := by decide +kernel
theorem dX5_ride_18 : decode cX5_ride 18 = .ok (.ireturn, 1) := by decide +kernel
theorem h9_X5_ride : yX5_ride.cls ≠ "java/lang/invoke/MethodHandle" ∧ yX5_ride.cls ≠ "java/lang/invoke/VarHandle" ∧ (parseMethodDescriptor yX5_ride.desc).map (fun d => d.parameters.length) = some 2 := by decide +kernel
noncomputable def F_X5_ride (a0 : Nat) (x1 : Int32) (x2 : Int32) (w : FW) : Option (Int32 × FW) :=
  fg (w.1 a0 = 6) inferInstance ((F_X5_remembers a0 w).bind (fun r1 => (F_X5_number x2 r1).bind (fun r5 => (F_X5_rides a0 x1 r5 r1).bind (fun r8 => (F_X5_ends a0 r8.1 2 r8.2).bind (fun r11 => some (r11.1, r11.2))))))
set_option maxHeartbeats 4000000 in
set_option maxRecDepth 100000 in
theorem c_X5_ride (l : Launch) (D : va_G) (cy : Nat → ClassId) (a0 : Nat) (x1 : Int32) (x2 : Int32) (w : FW) (r : Int32 × FW) (hF : F_X5_ride a0 x1 x2 w = some r) : fSpec l D cy yX5_ride cX5_ride 3 (some .int) { frames := 10, cells := 0, slots := 0, locals := 238 } [.ref a0, .int x1, .int x2] w r.2 (some (.int r.1)) := by
  refine f_begin (by decide +kernel) (Nat.le_of_ble_eq_true rfl) (fun X hC hEn => ?_)
  unfold F_X5_ride at hF
  show fAt X 0 0 3 w [(0, .ref a0), (1, .int x1), (2, .int x2)] [] 0
  refine f_aload_n hC dX5_ride_0 rfl 0 rfl ?_
  obtain ⟨g3, hF⟩ := fg_open hF
  obtain ⟨r1, h2, hF⟩ := fb_open hF
  refine f_callV hC [] (c_X5_remembers l D cy a0 w r1 h2) q_1344 q_137 q_1341 q_1343 q_73 h9_X5_remembers rfl (fSm.k (fSm.rf w) g3) ⟨Nat.le_of_ble_eq_true rfl, Nat.le_of_ble_eq_true rfl⟩ ⟨Nat.le_of_ble_eq_true rfl, Nat.le_of_ble_eq_true rfl⟩ (Nat.le_of_ble_eq_true rfl) rfl dX5_ride_1 (fun e4 => ?_)
  refine f_aload_n hC dX5_ride_4 rfl 0 rfl ?_
  refine f_aload_n hC dX5_ride_5 rfl 0 rfl ?_
  refine f_iload_n hC dX5_ride_6 rfl 1 rfl ?_
  refine f_iload_n hC dX5_ride_7 rfl 2 rfl ?_
  obtain ⟨r5, h6, hF⟩ := fb_open hF
  refine f_callS hC [.int x2] (c_X5_number l D cy x2 r1 r5 h6) q_1471 q_137 q_1469 q_1470 h9_X5_number ⟨Nat.le_of_ble_eq_true rfl, Nat.le_of_ble_eq_true rfl⟩ ⟨Nat.le_of_ble_eq_true rfl, Nat.le_of_ble_eq_true rfl⟩ (Nat.le_of_ble_eq_true rfl) rfl dX5_ride_8 (fun e7 => ?_)
  obtain ⟨r8, h9, hF⟩ := fb_open hF
  refine f_callV hC [.int x1, .int r5] (c_X5_rides l D cy a0 x1 r5 r1 r8 h9) q_1597 q_137 q_1594 q_1596 q_112 h9_X5_rides rfl (fSm.k (fSm.tr e4 (fSm.rf w)) g3) ⟨Nat.le_of_ble_eq_true rfl, Nat.le_of_ble_eq_true rfl⟩ ⟨Nat.le_of_ble_eq_true rfl, Nat.le_of_ble_eq_true rfl⟩ (Nat.le_of_ble_eq_true rfl) rfl dX5_ride_11 (fun e10 => ?_)
  refine f_iconst (v := 2) hC dX5_ride_14 (by decide) ?_
  obtain ⟨r11, h12, hF⟩ := fb_open hF
  refine f_callV hC [.int r8.1, .int 2] (c_X5_ends l D cy a0 r8.1 2 r8.2 r11 h12) q_1372 q_137 q_1369 q_1371 q_77 h9_X5_ends rfl (fSm.k (fSm.tr e10 (fSm.tr e4 (fSm.rf w))) g3) ⟨Nat.le_of_ble_eq_true rfl, Nat.le_of_ble_eq_true rfl⟩ ⟨Nat.le_of_ble_eq_true rfl, Nat.le_of_ble_eq_true rfl⟩ (Nat.le_of_ble_eq_true rfl) rfl dX5_ride_15 (fun e13 => ?_)
  obtain rfl := Option.some.inj hF
  exact f_iret hC hEn (fSm.tr e13 (fSm.tr e10 (fSm.tr e4 (fSm.rf w)))) dX5_ride_18
theorem dX5_hinders_0 : decode cX5_hinders 0 = .ok (.aload_n 0, 1) := by decide +kernel
theorem dX5_hinders_1 : decode cX5_hinders 1 = .ok (.aload_n 0, 1) := by decide +kernel
theorem dX5_hinders_2 : decode cX5_hinders 2 = .ok (.iload_n 1, 1) := by decide +kernel
theorem dX5_hinders_3 : decode cX5_hinders 3 = .ok (.invokevirtual 135, 3) := by decide +kernel
theorem dX5_hinders_6 : decode cX5_hinders 6 = .ok (.ifCond .eq 7, 3) := by decide +kernel
theorem dX5_hinders_9 : decode cX5_hinders 9 = .ok (.iconst 0, 1) := by decide +kernel
theorem dX5_hinders_10 : decode cX5_hinders 10 = .ok (.goto 4, 3) := by decide +kernel
theorem dX5_hinders_13 : decode cX5_hinders 13 = .ok (.iconst 1, 1) := by decide +kernel
theorem dX5_hinders_14 : decode cX5_hinders 14 = .ok (.putfield 41, 3) := by decide +kernel
theorem dX5_hinders_17 : decode cX5_hinders 17 = .ok (.aload_n 0, 1) := by decide +kernel
theorem dX5_hinders_18 : decode cX5_hinders 18 = .ok (.getfield 41, 3) := by decide +kernel
theorem dX5_hinders_21 : decode cX5_hinders 21 = .ok (.ifCond .le 7, 3) := by decide +kernel
theorem dX5_hinders_24 : decode cX5_hinders 24 = .ok (.iconst 0, 1) := by decide +kernel
theorem dX5_hinders_25 : decode cX5_hinders 25 = .ok (.goto 12, 3) := by decide +kernel
theorem dX5_hinders_28 : decode cX5_hinders 28 = .ok (.aload_n 0, 1) := by decide +kernel
theorem dX5_hinders_29 : decode cX5_hinders 29 = .ok (.iload_n 1, 1) := by decide +kernel
theorem dX5_hinders_30 : decode cX5_hinders 30 = .ok (.iload_n 2, 1) := by decide +kernel
theorem dX5_hinders_31 : decode cX5_hinders 31 = .ok (.invokestatic 194, 3) := by decide +kernel
theorem dX5_hinders_34 : decode cX5_hinders 34 = .ok (.invokevirtual 163, 3) := by decide +kernel
theorem dX5_hinders_37 : decode cX5_hinders 37 = .ok (.ireturn, 1) := by decide +kernel
theorem h9_X5_hinders : yX5_hinders.cls ≠ "java/lang/invoke/MethodHandle" ∧ yX5_hinders.cls ≠ "java/lang/invoke/VarHandle" ∧ (parseMethodDescriptor yX5_hinders.desc).map (fun d => d.parameters.length) = some 2 := by decide +kernel
noncomputable def F_X5_hinders (a0 : Nat) (x1 : Int32) (x2 : Int32) (w : FW) : Option (Int32 × FW) :=
  fg (w.1 a0 = 6) inferInstance ((F_X5_isTicket a0 x1 w).bind (fun r1 => ((if r1 = 0 then some 1 else some 0) : Option (Int32)).bind (fun x5 => (if (gI (sI w 500 a0 0 x5) 500 a0 0) ≤ 0 then (F_X5_number x2 (sI w 500 a0 0 x5)).bind (fun r10 => (F_X5_hindrance a0 x1 r10 (sI w 500 a0 0 x5)).bind (fun r13 => some (r13.1, r13.2))) else some (0, (sI w 500 a0 0 x5))))))
set_option maxHeartbeats 4000000 in
set_option maxRecDepth 100000 in
theorem c_X5_hinders (l : Launch) (D : va_G) (cy : Nat → ClassId) (a0 : Nat) (x1 : Int32) (x2 : Int32) (w : FW) (r : Int32 × FW) (hF : F_X5_hinders a0 x1 x2 w = some r) : fSpec l D cy yX5_hinders cX5_hinders 3 (some .int) { frames := 9, cells := 0, slots := 0, locals := 215 } [.ref a0, .int x1, .int x2] w r.2 (some (.int r.1)) := by
  refine f_begin (by decide +kernel) (Nat.le_of_ble_eq_true rfl) (fun X hC hEn => ?_)
  unfold F_X5_hinders at hF
  show fAt X 0 0 3 w [(0, .ref a0), (1, .int x1), (2, .int x2)] [] 0
  refine f_aload_n hC dX5_hinders_0 rfl 0 rfl ?_
  refine f_aload_n hC dX5_hinders_1 rfl 0 rfl ?_
  refine f_iload_n hC dX5_hinders_2 rfl 1 rfl ?_
  obtain ⟨g3, hF⟩ := fg_open hF
  obtain ⟨r1, h2, hF⟩ := fb_open hF
  refine f_callV hC [.int x1] (c_X5_isTicket l D cy a0 x1 w r1 h2) q_1420 q_137 q_1417 q_1419 q_86 h9_X5_isTicket rfl (fSm.k (fSm.rf w) g3) ⟨Nat.le_of_ble_eq_true rfl, Nat.le_of_ble_eq_true rfl⟩ ⟨Nat.le_of_ble_eq_true rfl, Nat.le_of_ble_eq_true rfl⟩ (Nat.le_of_ble_eq_true rfl) rfl dX5_hinders_3 (fun e4 => ?_)
  obtain ⟨x5, h6, hF⟩ := fb_open hF
  have K8 : fAt X 0 0 3 w [(0, .ref a0), (1, .int x1), (2, .int x2)] [.int x5, .ref a0] 14 := by
    refine f_putI hC 5 0 500 rfl (by decide) iX5 tyX5 tyX5_ok nmX5 q_1259 rfl rfl rfl rfl rfl (fSm.k (fSm.rf w) g3) dX5_hinders_14 ?_
    refine f_aload_n hC dX5_hinders_17 rfl 0 rfl ?_
    refine f_getI hC 5 0 500 rfl (by decide) iX5 q_1259 rfl rfl (fSm.k (fSm.rf w) g3) dX5_hinders_18 ?_
    refine f_if_le hC 28 dX5_hinders_21 (by decide) (fun c9 => ?_) (fun c9 => ?_)
    · replace hF := fi_pos hF c9
      refine f_aload_n hC dX5_hinders_28 rfl 0 rfl ?_
      refine f_iload_n hC dX5_hinders_29 rfl 1 rfl ?_
      refine f_iload_n hC dX5_hinders_30 rfl 2 rfl ?_
      obtain ⟨r10, h11, hF⟩ := fb_open hF
      refine f_callS hC [.int x2] (c_X5_number l D cy x2 (sI w 500 a0 0 x5) r10 h11) q_1471 q_137 q_1469 q_1470 h9_X5_number ⟨Nat.le_of_ble_eq_true rfl, Nat.le_of_ble_eq_true rfl⟩ ⟨Nat.le_of_ble_eq_true rfl, Nat.le_of_ble_eq_true rfl⟩ (Nat.le_of_ble_eq_true rfl) rfl dX5_hinders_31 (fun e12 => ?_)
      obtain ⟨r13, h14, hF⟩ := fb_open hF
      refine f_callV hC [.int x1, .int r10] (c_X5_hindrance l D cy a0 x1 r10 (sI w 500 a0 0 x5) r13 h14) q_1601 q_137 q_1598 q_1600 q_113 h9_X5_hindrance rfl (fSm.k (fSm.rf w) g3) ⟨Nat.le_of_ble_eq_true rfl, Nat.le_of_ble_eq_true rfl⟩ ⟨Nat.le_of_ble_eq_true rfl, Nat.le_of_ble_eq_true rfl⟩ (Nat.le_of_ble_eq_true rfl) rfl dX5_hinders_34 (fun e15 => ?_)
      obtain rfl := Option.some.inj hF
      exact f_iret hC hEn (fSm.tr e15 (fSm.rf w)) dX5_hinders_37
    · replace hF := fi_neg hF c9
      refine f_iconst (v := 0) hC dX5_hinders_24 (by decide) ?_
      refine f_goto hC 37 dX5_hinders_25 (by decide) ?_
      obtain rfl := Option.some.inj hF
      exact f_iret hC hEn (fSm.rf w) dX5_hinders_37
  refine f_if_eq hC 13 dX5_hinders_6 (by decide) (fun c16 => ?_) (fun c16 => ?_)
  · replace h6 := fi_pos h6 c16
    refine f_iconst (v := 1) hC dX5_hinders_13 (by decide) ?_
    obtain rfl := Option.some.inj h6
    exact K8
  · replace h6 := fi_neg h6 c16
    refine f_iconst (v := 0) hC dX5_hinders_9 (by decide) ?_
    refine f_goto hC 14 dX5_hinders_10 (by decide) ?_
    obtain rfl := Option.some.inj h6
    exact K8
theorem dX5_day_0 : decode cX5_day 0 = .ok (.aload_n 0, 1) := by decide +kernel
theorem dX5_day_1 : decode cX5_day 1 = .ok (.invokevirtual 166, 3) := by decide +kernel
theorem dX5_day_4 : decode cX5_day 4 = .ok (.aload_n 0, 1) := by decide +kernel
theorem dX5_day_5 : decode cX5_day 5 = .ok (.aload_n 0, 1) := by decide +kernel
theorem dX5_day_6 : decode cX5_day 6 = .ok (.invokevirtual 222, 3) := by decide +kernel
theorem dX5_day_9 : decode cX5_day 9 = .ok (.iconst 1, 1) := by decide +kernel
theorem dX5_day_10 : decode cX5_day 10 = .ok (.invokevirtual 172, 3) := by decide +kernel
theorem dX5_day_13 : decode cX5_day 13 = .ok (.ireturn, 1) := by decide +kernel
theorem h9_X5_day : yX5_day.cls ≠ "java/lang/invoke/MethodHandle" ∧ yX5_day.cls ≠ "java/lang/invoke/VarHandle" ∧ (parseMethodDescriptor yX5_day.desc).map (fun d => d.parameters.length) = some 0 := by decide +kernel
noncomputable def F_X5_day (a0 : Nat) (w : FW) : Option (Int32 × FW) :=
  fg (w.1 a0 = 6) inferInstance ((F_X5_remembers a0 w).bind (fun r1 => (F_X5_passes a0 r1).bind (fun r5 => (F_X5_ends a0 r5.1 1 r5.2).bind (fun r8 => some (r8.1, r8.2)))))
set_option maxHeartbeats 4000000 in
set_option maxRecDepth 100000 in
theorem c_X5_day (l : Launch) (D : va_G) (cy : Nat → ClassId) (a0 : Nat) (w : FW) (r : Int32 × FW) (hF : F_X5_day a0 w = some r) : fSpec l D cy yX5_day cX5_day 1 (some .int) { frames := 2, cells := 0, slots := 0, locals := 44 } [.ref a0] w r.2 (some (.int r.1)) := by
  refine f_begin (by decide +kernel) (Nat.le_of_ble_eq_true rfl) (fun X hC hEn => ?_)
  unfold F_X5_day at hF
  show fAt X 0 0 1 w [(0, .ref a0)] [] 0
  refine f_aload_n hC dX5_day_0 rfl 0 rfl ?_
  obtain ⟨g3, hF⟩ := fg_open hF
  obtain ⟨r1, h2, hF⟩ := fb_open hF
  refine f_callV hC [] (c_X5_remembers l D cy a0 w r1 h2) q_1344 q_137 q_1341 q_1343 q_73 h9_X5_remembers rfl (fSm.k (fSm.rf w) g3) ⟨Nat.le_of_ble_eq_true rfl, Nat.le_of_ble_eq_true rfl⟩ ⟨Nat.le_of_ble_eq_true rfl, Nat.le_of_ble_eq_true rfl⟩ (Nat.le_of_ble_eq_true rfl) rfl dX5_day_1 (fun e4 => ?_)
  refine f_aload_n hC dX5_day_4 rfl 0 rfl ?_
  refine f_aload_n hC dX5_day_5 rfl 0 rfl ?_
  obtain ⟨r5, h6, hF⟩ := fb_open hF
  refine f_callV hC [] (c_X5_passes l D cy a0 r1 r5 h6) q_1621 q_137 q_1618 q_1620 q_116 h9_X5_passes rfl (fSm.k (fSm.tr e4 (fSm.rf w)) g3) ⟨Nat.le_of_ble_eq_true rfl, Nat.le_of_ble_eq_true rfl⟩ ⟨Nat.le_of_ble_eq_true rfl, Nat.le_of_ble_eq_true rfl⟩ (Nat.le_of_ble_eq_true rfl) rfl dX5_day_6 (fun e7 => ?_)
  refine f_iconst (v := 1) hC dX5_day_9 (by decide) ?_
  obtain ⟨r8, h9, hF⟩ := fb_open hF
  refine f_callV hC [.int r5.1, .int 1] (c_X5_ends l D cy a0 r5.1 1 r5.2 r8 h9) q_1372 q_137 q_1369 q_1371 q_77 h9_X5_ends rfl (fSm.k (fSm.tr e7 (fSm.tr e4 (fSm.rf w))) g3) ⟨Nat.le_of_ble_eq_true rfl, Nat.le_of_ble_eq_true rfl⟩ ⟨Nat.le_of_ble_eq_true rfl, Nat.le_of_ble_eq_true rfl⟩ (Nat.le_of_ble_eq_true rfl) rfl dX5_day_10 (fun e10 => ?_)
  obtain rfl := Option.some.inj hF
  exact f_iret hC hEn (fSm.tr e10 (fSm.tr e7 (fSm.tr e4 (fSm.rf w)))) dX5_day_13
theorem dX5_daysLeft_0 : decode cX5_daysLeft 0 = .ok (.aload_n 0, 1) := by decide +kernel
theorem dX5_daysLeft_1 : decode cX5_daysLeft 1 = .ok (.aload_n 0, 1) := by decide +kernel
theorem dX5_daysLeft_2 : decode cX5_daysLeft 2 = .ok (.iload_n 1, 1) := by decide +kernel
theorem dX5_daysLeft_3 : decode cX5_daysLeft 3 = .ok (.invokevirtual 135, 3) := by decide +kernel
theorem dX5_daysLeft_6 : decode cX5_daysLeft 6 = .ok (.ifCond .ne 7, 3) := by decide +kernel
theorem dX5_daysLeft_9 : decode cX5_daysLeft 9 = .ok (.iconst 1, 1) := by decide +kernel
theorem dX5_daysLeft_10 : decode cX5_daysLeft 10 = .ok (.goto 19, 3) := by decide +kernel
theorem dX5_daysLeft_13 : decode cX5_daysLeft 13 = .ok (.aload_n 0, 1) := by decide +kernel
theorem dX5_daysLeft_14 : decode cX5_daysLeft 14 = .ok (.iload_n 1, 1) := by decide +kernel
theorem dX5_daysLeft_15 : decode cX5_daysLeft 15 = .ok (.bipush 11, 2) := by decide +kernel
theorem dX5_daysLeft_17 : decode cX5_daysLeft 17 = .ok (.invokevirtual 70, 3) := by decide +kernel
theorem dX5_daysLeft_20 : decode cX5_daysLeft 20 = .ok (.iconst (-1), 1) := by decide +kernel
theorem dX5_daysLeft_21 : decode cX5_daysLeft 21 = .ok (.if_icmp .ne 7, 3) := by decide +kernel
theorem dX5_daysLeft_24 : decode cX5_daysLeft 24 = .ok (.iconst 2, 1) := by decide +kernel
theorem dX5_daysLeft_25 : decode cX5_daysLeft 25 = .ok (.goto 4, 3) := by decide +kernel
theorem dX5_daysLeft_28 : decode cX5_daysLeft 28 = .ok (.iconst 0, 1) := by decide +kernel
theorem dX5_daysLeft_29 : decode cX5_daysLeft 29 = .ok (.putfield 41, 3) := by decide +kernel
theorem dX5_daysLeft_32 : decode cX5_daysLeft 32 = .ok (.aload_n 0, 1) := by decide +kernel
theorem dX5_daysLeft_33 : decode cX5_daysLeft 33 = .ok (.getfield 41, 3) := by decide +kernel
theorem dX5_daysLeft_36 : decode cX5_daysLeft 36 = .ok (.ifCond .le 5, 3) := by decide +kernel
theorem dX5_daysLeft_39 : decode cX5_daysLeft 39 = .ok (.iconst 0, 1) := by decide +kernel
theorem dX5_daysLeft_40 : decode cX5_daysLeft 40 = .ok (.ireturn, 1) := by decide +kernel
theorem dX5_daysLeft_41 : decode cX5_daysLeft 41 = .ok (.aload_n 0, 1) := by decide +kernel
theorem dX5_daysLeft_42 : decode cX5_daysLeft 42 = .ok (.iload_n 1, 1) := by decide +kernel
theorem dX5_daysLeft_43 : decode cX5_daysLeft 43 = .ok (.bipush 9, 2) := by decide +kernel
theorem dX5_daysLeft_45 : decode cX5_daysLeft 45 = .ok (.invokevirtual 70, 3) := by decide +kernel
theorem dX5_daysLeft_48 : decode cX5_daysLeft 48 = .ok (.aload_n 0, 1) := by decide +kernel
theorem dX5_daysLeft_49 : decode cX5_daysLeft 49 = .ok (.getfield 7, 3) := by decide +kernel
theorem dX5_daysLeft_52 : decode cX5_daysLeft 52 = .ok (.iconst 1, 1) := by decide +kernel
theorem dX5_daysLeft_53 : decode cX5_daysLeft 53 = .ok (.iaload, 1) := by decide +kernel
theorem dX5_daysLeft_54 : decode cX5_daysLeft 54 = .ok (.isub, 1) := by decide +kernel
theorem dX5_daysLeft_55 : decode cX5_daysLeft 55 = .ok (.aload_n 0, 1) := by decide +kernel
theorem dX5_daysLeft_56 : decode cX5_daysLeft 56 = .ok (.iload_n 1, 1) := by decide +kernel
theorem dX5_daysLeft_57 : decode cX5_daysLeft 57 = .ok (.bipush 11, 2) := by decide +kernel
theorem dX5_daysLeft_59 : decode cX5_daysLeft 59 = .ok (.invokevirtual 70, 3) := by decide +kernel
theorem dX5_daysLeft_62 : decode cX5_daysLeft 62 = .ok (.iadd, 1) := by decide +kernel
theorem dX5_daysLeft_63 : decode cX5_daysLeft 63 = .ok (.istore_n 2, 1) := by decide +kernel
theorem dX5_daysLeft_64 : decode cX5_daysLeft 64 = .ok (.iload_n 2, 1) := by decide +kernel
theorem dX5_daysLeft_65 : decode cX5_daysLeft 65 = .ok (.ifCond .ge 7, 3) := by decide +kernel
theorem dX5_daysLeft_68 : decode cX5_daysLeft 68 = .ok (.iconst (-1), 1) := by decide +kernel
theorem dX5_daysLeft_69 : decode cX5_daysLeft 69 = .ok (.goto 4, 3) := by decide +kernel
theorem dX5_daysLeft_72 : decode cX5_daysLeft 72 = .ok (.iload_n 2, 1) := by decide +kernel
theorem dX5_daysLeft_73 : decode cX5_daysLeft 73 = .ok (.ireturn, 1) := by decide +kernel
theorem h9_X5_daysLeft : yX5_daysLeft.cls ≠ "java/lang/invoke/MethodHandle" ∧ yX5_daysLeft.cls ≠ "java/lang/invoke/VarHandle" ∧ (parseMethodDescriptor yX5_daysLeft.desc).map (fun d => d.parameters.length) = some 1 := by decide +kernel
noncomputable def F_X5_daysLeft (a0 : Nat) (x1 : Int32) (w : FW) : Option (Int32 × FW) :=
  fg (w.1 a0 = 6) inferInstance ((F_X5_isTicket a0 x1 w).bind (fun r1 => ((if r1 = 0 then some 1 else (F_X5_of a0 x1 11 w).bind (fun r20 => (if r20 = (-1) then some 2 else some 0))) : Option (Int32)).bind (fun x5 => (if (gI (sI w 500 a0 0 x5) 500 a0 0) ≤ 0 then (F_X5_of a0 x1 9 (sI w 500 a0 0 x5)).bind (fun r10 => fg (w.1 (gR w 501 a0 0) = 11) inferInstance (fg (¬ ((1 : Int32) < 0 ∨ w.2.1 (gR w 501 a0 0) ≤ Int32.toNatClampNeg 1)) inferInstance ((F_X5_of a0 x1 11 (sI w 500 a0 0 x5)).bind (fun r15 => (if 0 ≤ ((r10 - (gI (sI w 500 a0 0 x5) 601 (gR (sI w 500 a0 0 x5) 501 a0 0) (Int32.toNatClampNeg 1))) + r15) then some (((r10 - (gI (sI w 500 a0 0 x5) 601 (gR (sI w 500 a0 0 x5) 501 a0 0) (Int32.toNatClampNeg 1))) + r15), (sI w 500 a0 0 x5)) else some ((-1), (sI w 500 a0 0 x5))))))) else some (0, (sI w 500 a0 0 x5))))))
set_option maxHeartbeats 4000000 in
set_option maxRecDepth 100000 in
theorem c_X5_daysLeft (l : Launch) (D : va_G) (cy : Nat → ClassId) (a0 : Nat) (x1 : Int32) (w : FW) (r : Int32 × FW) (hF : F_X5_daysLeft a0 x1 w = some r) : fSpec l D cy yX5_daysLeft cX5_daysLeft 3 (some .int) { frames := 2, cells := 0, slots := 0, locals := 43 } [.ref a0, .int x1] w r.2 (some (.int r.1)) := by
  refine f_begin (by decide +kernel) (Nat.le_of_ble_eq_true rfl) (fun X hC hEn => ?_)
  unfold F_X5_daysLeft at hF
  show fAt X 0 0 3 w [(0, .ref a0), (1, .int x1)] [] 0
  refine f_aload_n hC dX5_daysLeft_0 rfl 0 rfl ?_
  refine f_aload_n hC dX5_daysLeft_1 rfl 0 rfl ?_
  refine f_iload_n hC dX5_daysLeft_2 rfl 1 rfl ?_
  obtain ⟨g3, hF⟩ := fg_open hF
  obtain ⟨r1, h2, hF⟩ := fb_open hF
  refine f_callV hC [.int x1] (c_X5_isTicket l D cy a0 x1 w r1 h2) q_1420 q_137 q_1417 q_1419 q_86 h9_X5_isTicket rfl (fSm.k (fSm.rf w) g3) ⟨Nat.le_of_ble_eq_true rfl, Nat.le_of_ble_eq_true rfl⟩ ⟨Nat.le_of_ble_eq_true rfl, Nat.le_of_ble_eq_true rfl⟩ (Nat.le_of_ble_eq_true rfl) rfl dX5_daysLeft_3 (fun e4 => ?_)
  obtain ⟨x5, h6, hF⟩ := fb_open hF
  have K8 : fAt X 0 0 3 w [(0, .ref a0), (1, .int x1)] [.int x5, .ref a0] 29 := by
    refine f_putI hC 5 0 500 rfl (by decide) iX5 tyX5 tyX5_ok nmX5 q_1259 rfl rfl rfl rfl rfl (fSm.k (fSm.rf w) g3) dX5_daysLeft_29 ?_
    refine f_aload_n hC dX5_daysLeft_32 rfl 0 rfl ?_
    refine f_getI hC 5 0 500 rfl (by decide) iX5 q_1259 rfl rfl (fSm.k (fSm.rf w) g3) dX5_daysLeft_33 ?_
    refine f_if_le hC 41 dX5_daysLeft_36 (by decide) (fun c9 => ?_) (fun c9 => ?_)
    · replace hF := fi_pos hF c9
      refine f_aload_n hC dX5_daysLeft_41 rfl 0 rfl ?_
      refine f_iload_n hC dX5_daysLeft_42 rfl 1 rfl ?_
      refine f_bipush (v := 9) hC dX5_daysLeft_43 (by decide) ?_
      obtain ⟨r10, h11, hF⟩ := fb_open hF
      refine f_callV hC [.int x1, .int 9] (c_X5_of l D cy a0 x1 9 (sI w 500 a0 0 x5) r10 h11) q_1452 q_137 q_1449 q_1451 q_91 h9_X5_of rfl (fSm.k (fSm.rf w) g3) ⟨Nat.le_of_ble_eq_true rfl, Nat.le_of_ble_eq_true rfl⟩ ⟨Nat.le_of_ble_eq_true rfl, Nat.le_of_ble_eq_true rfl⟩ (Nat.le_of_ble_eq_true rfl) rfl dX5_daysLeft_45 (fun e12 => ?_)
      refine f_aload_n hC dX5_daysLeft_48 rfl 0 rfl ?_
      refine f_getR hC 5 1 501 rfl (by decide) iX5 q_1260 rfl rfl (fSm.k (fSm.rf w) g3) dX5_daysLeft_49 ?_
      refine f_iconst (v := 1) hC dX5_daysLeft_52 (by decide) ?_
      obtain ⟨g13, hF⟩ := fg_open hF
      obtain ⟨g14, hF⟩ := fg_open hF
      refine f_iald hC (fSm.k (fSm.rf w) g13) (fSm.v (fSm.rf w) g14) dX5_daysLeft_53 ?_
      refine f_isub hC dX5_daysLeft_54 ?_
      refine f_aload_n hC dX5_daysLeft_55 rfl 0 rfl ?_
      refine f_iload_n hC dX5_daysLeft_56 rfl 1 rfl ?_
      refine f_bipush (v := 11) hC dX5_daysLeft_57 (by decide) ?_
      obtain ⟨r15, h16, hF⟩ := fb_open hF
      refine f_callV hC [.int x1, .int 11] (c_X5_of l D cy a0 x1 11 (sI w 500 a0 0 x5) r15 h16) q_1452 q_137 q_1449 q_1451 q_91 h9_X5_of rfl (fSm.k (fSm.rf w) g3) ⟨Nat.le_of_ble_eq_true rfl, Nat.le_of_ble_eq_true rfl⟩ ⟨Nat.le_of_ble_eq_true rfl, Nat.le_of_ble_eq_true rfl⟩ (Nat.le_of_ble_eq_true rfl) rfl dX5_daysLeft_59 (fun e17 => ?_)
      refine f_iadd hC dX5_daysLeft_62 ?_
      refine f_istore_n (L' := [(2, .int ((r10 - (gI (sI w 500 a0 0 x5) 601 (gR (sI w 500 a0 0 x5) 501 a0 0) (Int32.toNatClampNeg 1))) + r15)), (0, .ref a0), (1, .int x1)]) hC dX5_daysLeft_63 rfl (by decide) rfl ?_
      refine f_iload_n hC dX5_daysLeft_64 rfl 0 rfl ?_
      refine f_if_ge hC 72 dX5_daysLeft_65 (by decide) (fun c18 => ?_) (fun c18 => ?_)
      · replace hF := fi_pos hF c18
        refine f_iload_n hC dX5_daysLeft_72 rfl 0 rfl ?_
        obtain rfl := Option.some.inj hF
        exact f_iret hC hEn (fSm.rf w) dX5_daysLeft_73
      · replace hF := fi_neg hF c18
        refine f_iconst (v := (-1)) hC dX5_daysLeft_68 (by decide) ?_
        refine f_goto hC 73 dX5_daysLeft_69 (by decide) ?_
        obtain rfl := Option.some.inj hF
        exact f_iret hC hEn (fSm.rf w) dX5_daysLeft_73
    · replace hF := fi_neg hF c9
      refine f_iconst (v := 0) hC dX5_daysLeft_39 (by decide) ?_
      obtain rfl := Option.some.inj hF
      exact f_iret hC hEn (fSm.rf w) dX5_daysLeft_40
  refine f_if_ne hC 13 dX5_daysLeft_6 (by decide) (fun c19 => ?_) (fun c19 => ?_)
  · replace h6 := fi_neg h6 c19
    refine f_aload_n hC dX5_daysLeft_13 rfl 0 rfl ?_
    refine f_iload_n hC dX5_daysLeft_14 rfl 1 rfl ?_
    refine f_bipush (v := 11) hC dX5_daysLeft_15 (by decide) ?_
    obtain ⟨r20, h21, h6⟩ := fb_open h6
    refine f_callV hC [.int x1, .int 11] (c_X5_of l D cy a0 x1 11 w r20 h21) q_1452 q_137 q_1449 q_1451 q_91 h9_X5_of rfl (fSm.k (fSm.rf w) g3) ⟨Nat.le_of_ble_eq_true rfl, Nat.le_of_ble_eq_true rfl⟩ ⟨Nat.le_of_ble_eq_true rfl, Nat.le_of_ble_eq_true rfl⟩ (Nat.le_of_ble_eq_true rfl) rfl dX5_daysLeft_17 (fun e22 => ?_)
    refine f_iconst (v := (-1)) hC dX5_daysLeft_20 (by decide) ?_
    refine f_icmp_ne hC 28 dX5_daysLeft_21 (by decide) (fun c23 => ?_) (fun c23 => ?_)
    · replace h6 := fi_neg h6 c23
      refine f_iconst (v := 0) hC dX5_daysLeft_28 (by decide) ?_
      obtain rfl := Option.some.inj h6
      exact K8
    · replace h6 := fi_pos h6 c23
      refine f_iconst (v := 2) hC dX5_daysLeft_24 (by decide) ?_
      refine f_goto hC 29 dX5_daysLeft_25 (by decide) ?_
      obtain rfl := Option.some.inj h6
      exact K8
  · replace h6 := fi_pos h6 c19
    refine f_iconst (v := 1) hC dX5_daysLeft_9 (by decide) ?_
    refine f_goto hC 29 dX5_daysLeft_10 (by decide) ?_
    obtain rfl := Option.some.inj h6
    exact K8
theorem dX5_isWordOf_0 : decode cX5_isWordOf 0 = .ok (.iconst 0, 1) := by decide +kernel
theorem dX5_isWordOf_1 : decode cX5_isWordOf 1 = .ok (.istore_n 3, 1) := by decide +kernel
theorem dX5_isWordOf_2 : decode cX5_isWordOf 2 = .ok (.iload_n 3, 1) := by decide +kernel
theorem dX5_isWordOf_3 : decode cX5_isWordOf 3 = .ok (.bipush 6, 2) := by decide +kernel
theorem dX5_isWordOf_5 : decode cX5_isWordOf 5 = .ok (.if_icmp .gt 30, 3) := by decide +kernel
theorem dX5_isWordOf_8 : decode cX5_isWordOf 8 = .ok (.aload_n 0, 1) := by decide +kernel
theorem dX5_isWordOf_9 : decode cX5_isWordOf 9 = .ok (.iload_n 1, 1) := by decide +kernel
theorem dX5_isWordOf_10 : decode cX5_isWordOf 10 = .ok (.iconst 0, 1) := by decide +kernel
theorem dX5_isWordOf_11 : decode cX5_isWordOf 11 = .ok (.iload_n 3, 1) := by decide +kernel
theorem dX5_isWordOf_12 : decode cX5_isWordOf 12 = .ok (.iadd, 1) := by decide +kernel
theorem dX5_isWordOf_13 : decode cX5_isWordOf 13 = .ok (.invokevirtual 70, 3) := by decide +kernel
theorem dX5_isWordOf_16 : decode cX5_isWordOf 16 = .ok (.aload_n 0, 1) := by decide +kernel
theorem dX5_isWordOf_17 : decode cX5_isWordOf 17 = .ok (.iload_n 2, 1) := by decide +kernel
theorem dX5_isWordOf_18 : decode cX5_isWordOf 18 = .ok (.iconst 0, 1) := by decide +kernel
theorem dX5_isWordOf_19 : decode cX5_isWordOf 19 = .ok (.iload_n 3, 1) := by decide +kernel
theorem dX5_isWordOf_20 : decode cX5_isWordOf 20 = .ok (.iadd, 1) := by decide +kernel
theorem dX5_isWordOf_21 : decode cX5_isWordOf 21 = .ok (.invokevirtual 70, 3) := by decide +kernel
theorem dX5_isWordOf_24 : decode cX5_isWordOf 24 = .ok (.if_icmp .eq 5, 3) := by decide +kernel
theorem dX5_isWordOf_27 : decode cX5_isWordOf 27 = .ok (.iconst 0, 1) := by decide +kernel
theorem dX5_isWordOf_28 : decode cX5_isWordOf 28 = .ok (.ireturn, 1) := by decide +kernel
theorem dX5_isWordOf_29 : decode cX5_isWordOf 29 = .ok (.iinc 3 1, 3) := by decide +kernel
theorem dX5_isWordOf_32 : decode cX5_isWordOf 32 = .ok (.goto (-30), 3) := by decide +kernel
theorem dX5_isWordOf_35 : decode cX5_isWordOf 35 = .ok (.iconst 1, 1) := by decide +kernel
theorem dX5_isWordOf_36 : decode cX5_isWordOf 36 = .ok (.ireturn, 1) := by decide +kernel
theorem h9_X5_isWordOf : yX5_isWordOf.cls ≠ "java/lang/invoke/MethodHandle" ∧ yX5_isWordOf.cls ≠ "java/lang/invoke/VarHandle" ∧ (parseMethodDescriptor yX5_isWordOf.desc).map (fun d => d.parameters.length) = some 2 := by decide +kernel
noncomputable def F_X5_isWordOf (a0 : Nat) (x1 : Int32) (x2 : Int32) (w : FW) : Option (Int32) :=
  (fLoop (σ := Int32) (ρ := (Unit) ⊕ (Int32)) (fun s1 => (if 6 < s1 then some (.inr (.inl ())) else fg (w.1 a0 = 6) inferInstance ((F_X5_of a0 x1 (0 + s1) w).bind (fun r11 => (F_X5_of a0 x2 (0 + s1) w).bind (fun r15 => (if r11 = r15 then some (.inl (s1 + 1)) else some (.inr (.inr 0)))))))) 0).bind (fun x7 => fse x7 (fun z19 => some 1) (fun q9 => some q9))
set_option maxHeartbeats 4000000 in
set_option maxRecDepth 100000 in
theorem c_X5_isWordOf (l : Launch) (D : va_G) (cy : Nat → ClassId) (a0 : Nat) (x1 : Int32) (x2 : Int32) (w : FW) (r : Int32) (hF : F_X5_isWordOf a0 x1 x2 w = some r) : fSpec l D cy yX5_isWordOf cX5_isWordOf 4 (some .boolean) { frames := 1, cells := 0, slots := 0, locals := 22 } [.ref a0, .int x1, .int x2] w w (some (.int r)) := by
  refine f_begin (by decide +kernel) (Nat.le_of_ble_eq_true rfl) (fun X hC hEn => ?_)
  unfold F_X5_isWordOf at hF
  show fAt X 0 0 4 w [(0, .ref a0), (1, .int x1), (2, .int x2)] [] 0
  refine f_iconst (v := 0) hC dX5_isWordOf_0 (by decide) ?_
  refine f_istore_n (L' := [(3, .int 0), (0, .ref a0), (1, .int x1), (2, .int x2)]) hC dX5_isWordOf_1 rfl (by decide) rfl ?_
  obtain ⟨x7, h8, hF⟩ := fb_open hF
  have K9 : ∀ z19, x7 = .inl z19 → fAt X 0 0 4 w [] [] 35 := by
    intro z19 hz9
    subst hz9
    refine f_iconst (v := 1) hC dX5_isWordOf_35 (by decide) ?_
    obtain rfl := Option.some.inj hF
    exact f_zret hC hEn (fSm.rf w) (nar_z (by decide)) dX5_isWordOf_36
  refine f_sub (L' := [(0, .ref a0), (1, .int x1), (2, .int x2), (3, .int 0)]) [1, 2, 3, 0] rfl ?_
  refine fLoop_ind (fun (s1 : Int32) => fAt X 0 0 4 w [(0, .ref a0), (1, .int x1), (2, .int x2), (3, .int s1)] [] 2) (fun s1 y6 h2 go3 ou4 => ?_) h8
  refine f_iload_n hC dX5_isWordOf_2 rfl 3 rfl ?_
  refine f_bipush (v := 6) hC dX5_isWordOf_3 (by decide) ?_
  refine f_icmp_gt hC 35 dX5_isWordOf_5 (by decide) (fun c10 => ?_) (fun c10 => ?_)
  · replace h2 := fi_pos h2 c10
    obtain rfl := Option.some.inj h2
    have eo := ou4 _ rfl
    refine f_sub (L' := []) [] rfl ?_
    exact K9 _ eo.symm
  · replace h2 := fi_neg h2 c10
    refine f_aload_n hC dX5_isWordOf_8 rfl 0 rfl ?_
    refine f_iload_n hC dX5_isWordOf_9 rfl 1 rfl ?_
    refine f_iconst (v := 0) hC dX5_isWordOf_10 (by decide) ?_
    refine f_iload_n hC dX5_isWordOf_11 rfl 3 rfl ?_
    refine f_iadd hC dX5_isWordOf_12 ?_
    obtain ⟨g13, h2⟩ := fg_open h2
    obtain ⟨r11, h12, h2⟩ := fb_open h2
    refine f_callV hC [.int x1, .int (0 + s1)] (c_X5_of l D cy a0 x1 (0 + s1) w r11 h12) q_1452 q_137 q_1449 q_1451 q_91 h9_X5_of rfl (fSm.k (fSm.rf w) g13) ⟨Nat.le_of_ble_eq_true rfl, Nat.le_of_ble_eq_true rfl⟩ ⟨Nat.le_of_ble_eq_true rfl, Nat.le_of_ble_eq_true rfl⟩ (Nat.le_of_ble_eq_true rfl) rfl dX5_isWordOf_13 (fun e14 => ?_)
    refine f_aload_n hC dX5_isWordOf_16 rfl 0 rfl ?_
    refine f_iload_n hC dX5_isWordOf_17 rfl 2 rfl ?_
    refine f_iconst (v := 0) hC dX5_isWordOf_18 (by decide) ?_
    refine f_iload_n hC dX5_isWordOf_19 rfl 3 rfl ?_
    refine f_iadd hC dX5_isWordOf_20 ?_
    obtain ⟨r15, h16, h2⟩ := fb_open h2
    refine f_callV hC [.int x2, .int (0 + s1)] (c_X5_of l D cy a0 x2 (0 + s1) w r15 h16) q_1452 q_137 q_1449 q_1451 q_91 h9_X5_of rfl (fSm.k (fSm.rf w) g13) ⟨Nat.le_of_ble_eq_true rfl, Nat.le_of_ble_eq_true rfl⟩ ⟨Nat.le_of_ble_eq_true rfl, Nat.le_of_ble_eq_true rfl⟩ (Nat.le_of_ble_eq_true rfl) rfl dX5_isWordOf_21 (fun e17 => ?_)
    refine f_icmp_eq hC 29 dX5_isWordOf_24 (by decide) (fun c18 => ?_) (fun c18 => ?_)
    · replace h2 := fi_pos h2 c18
      refine f_iinc (L' := [(3, .int (s1 + 1)), (0, .ref a0), (1, .int x1), (2, .int x2)]) hC dX5_isWordOf_29 3 rfl rfl (by decide) rfl ?_
      refine f_goto hC 2 dX5_isWordOf_32 (by decide) ?_
      obtain rfl := Option.some.inj h2
      refine f_sub (L' := [(0, .ref a0), (1, .int x1), (2, .int x2), (3, .int (s1 + 1))]) [1, 2, 3, 0] rfl ?_
      exact go3 _ rfl
    · replace h2 := fi_neg h2 c18
      refine f_iconst (v := 0) hC dX5_isWordOf_27 (by decide) ?_
      obtain rfl := Option.some.inj h2
      obtain rfl := ou4 _ rfl
      obtain rfl := Option.some.inj hF
      exact f_zret hC hEn (fSm.rf w) (nar_z (by decide)) dX5_isWordOf_28
theorem dX5_words_0 : decode cX5_words 0 = .ok (.aload_n 0, 1) := by decide +kernel
theorem dX5_words_1 : decode cX5_words 1 = .ok (.iconst 0, 1) := by decide +kernel
theorem dX5_words_2 : decode cX5_words 2 = .ok (.putfield 41, 3) := by decide +kernel
theorem dX5_words_5 : decode cX5_words 5 = .ok (.iconst 0, 1) := by decide +kernel
theorem dX5_words_6 : decode cX5_words 6 = .ok (.istore_n 1, 1) := by decide +kernel
theorem dX5_words_7 : decode cX5_words 7 = .ok (.iconst 0, 1) := by decide +kernel
theorem dX5_words_8 : decode cX5_words 8 = .ok (.istore_n 2, 1) := by decide +kernel
theorem dX5_words_9 : decode cX5_words 9 = .ok (.iload_n 2, 1) := by decide +kernel
theorem dX5_words_10 : decode cX5_words 10 = .ok (.aload_n 0, 1) := by decide +kernel
theorem dX5_words_11 : decode cX5_words 11 = .ok (.getfield 7, 3) := by decide +kernel
theorem dX5_words_14 : decode cX5_words 14 = .ok (.iconst 0, 1) := by decide +kernel
theorem dX5_words_15 : decode cX5_words 15 = .ok (.iaload, 1) := by decide +kernel
theorem dX5_words_16 : decode cX5_words 16 = .ok (.if_icmp .ge 56, 3) := by decide +kernel
theorem dX5_words_19 : decode cX5_words 19 = .ok (.iconst 0, 1) := by decide +kernel
theorem dX5_words_20 : decode cX5_words 20 = .ok (.istore_n 3, 1) := by decide +kernel
theorem dX5_words_21 : decode cX5_words 21 = .ok (.iconst 0, 1) := by decide +kernel
theorem dX5_words_22 : decode cX5_words 22 = .ok (.istore 4, 2) := by decide +kernel
theorem dX5_words_24 : decode cX5_words 24 = .ok (.iload 4, 2) := by decide +kernel
theorem dX5_words_26 : decode cX5_words 26 = .ok (.iload_n 2, 1) := by decide +kernel
theorem dX5_words_27 : decode cX5_words 27 = .ok (.if_icmp .ge 27, 3) := by decide +kernel
theorem dX5_words_30 : decode cX5_words 30 = .ok (.iload_n 3, 1) := by decide +kernel
theorem dX5_words_31 : decode cX5_words 31 = .ok (.aload_n 0, 1) := by decide +kernel
theorem dX5_words_32 : decode cX5_words 32 = .ok (.iload_n 2, 1) := by decide +kernel
theorem dX5_words_33 : decode cX5_words 33 = .ok (.iload 4, 2) := by decide +kernel
theorem dX5_words_35 : decode cX5_words 35 = .ok (.invokevirtual 225, 3) := by decide +kernel
theorem dX5_words_38 : decode cX5_words 38 = .ok (.ifCond .eq 7, 3) := by decide +kernel
theorem dX5_words_41 : decode cX5_words 41 = .ok (.iconst 1, 1) := by decide +kernel
theorem dX5_words_42 : decode cX5_words 42 = .ok (.goto 4, 3) := by decide +kernel
theorem dX5_words_45 : decode cX5_words 45 = .ok (.iconst 0, 1) := by decide +kernel
theorem dX5_words_46 : decode cX5_words 46 = .ok (.iadd, 1) := by decide +kernel
theorem dX5_words_47 : decode cX5_words 47 = .ok (.istore_n 3, 1) := by decide +kernel
theorem dX5_words_48 : decode cX5_words 48 = .ok (.iinc 4 1, 3) := by decide +kernel
theorem dX5_words_51 : decode cX5_words 51 = .ok (.goto (-27), 3) := by decide +kernel
theorem dX5_words_54 : decode cX5_words 54 = .ok (.iload_n 1, 1) := by decide +kernel
theorem dX5_words_55 : decode cX5_words 55 = .ok (.iload_n 3, 1) := by decide +kernel
theorem dX5_words_56 : decode cX5_words 56 = .ok (.ifCond .ne 7, 3) := by decide +kernel
theorem dX5_words_59 : decode cX5_words 59 = .ok (.iconst 1, 1) := by decide +kernel
theorem dX5_words_60 : decode cX5_words 60 = .ok (.goto 4, 3) := by decide +kernel
theorem dX5_words_63 : decode cX5_words 63 = .ok (.iconst 0, 1) := by decide +kernel
theorem dX5_words_64 : decode cX5_words 64 = .ok (.iadd, 1) := by decide +kernel
theorem dX5_words_65 : decode cX5_words 65 = .ok (.istore_n 1, 1) := by decide +kernel
theorem dX5_words_66 : decode cX5_words 66 = .ok (.iinc 2 1, 3) := by decide +kernel
theorem dX5_words_69 : decode cX5_words 69 = .ok (.goto (-60), 3) := by decide +kernel
theorem dX5_words_72 : decode cX5_words 72 = .ok (.iload_n 1, 1) := by decide +kernel
theorem dX5_words_73 : decode cX5_words 73 = .ok (.ireturn, 1) := by decide +kernel
theorem h9_X5_words : yX5_words.cls ≠ "java/lang/invoke/MethodHandle" ∧ yX5_words.cls ≠ "java/lang/invoke/VarHandle" ∧ (parseMethodDescriptor yX5_words.desc).map (fun d => d.parameters.length) = some 0 := by decide +kernel
noncomputable def F_X5_words (a0 : Nat) (w : FW) : Option (Int32 × FW) :=
  fg (w.1 a0 = 6) inferInstance ((fLoop (σ := Int32 × Int32) (ρ := Int32) (fun s2 => fg (w.1 (gR w 501 a0 0) = 11) inferInstance (fg (¬ ((0 : Int32) < 0 ∨ w.2.1 (gR w 501 a0 0) ≤ Int32.toNatClampNeg 0)) inferInstance ((if (gI (sI w 500 a0 0 0) 601 (gR (sI w 500 a0 0 0) 501 a0 0) (Int32.toNatClampNeg 0)) ≤ s2.2 then some (.inr s2.1) else (fLoop (σ := Int32 × Int32) (ρ := Int32) (fun s14 => (if s2.2 ≤ s14.2 then some (.inr s14.1) else (F_X5_isWordOf a0 s2.2 s14.2 (sI w 500 a0 0 0)).bind (fun r24 => (if r24 = 0 then some (.inl ((s14.1 + 0), (s14.2 + 1))) else some (.inl ((s14.1 + 1), (s14.2 + 1))))))) (0, 0)).bind (fun x20 => (if x20 = 0 then some (.inl ((s2.1 + 1), (s2.2 + 1))) else some (.inl ((s2.1 + 0), (s2.2 + 1))))))))) (0, 0)).bind (fun x8 => some (x8, (sI w 500 a0 0 0))))
set_option maxHeartbeats 4000000 in
set_option maxRecDepth 100000 in
theorem c_X5_words (l : Launch) (D : va_G) (cy : Nat → ClassId) (a0 : Nat) (w : FW) (r : Int32 × FW) (hF : F_X5_words a0 w = some r) : fSpec l D cy yX5_words cX5_words 5 (some .int) { frames := 2, cells := 0, slots := 0, locals := 45 } [.ref a0] w r.2 (some (.int r.1)) := by
  refine f_begin (by decide +kernel) (Nat.le_of_ble_eq_true rfl) (fun X hC hEn => ?_)
  unfold F_X5_words at hF
  show fAt X 0 0 5 w [(0, .ref a0)] [] 0
  refine f_aload_n hC dX5_words_0 rfl 0 rfl ?_
  refine f_iconst (v := 0) hC dX5_words_1 (by decide) ?_
  obtain ⟨g1, hF⟩ := fg_open hF
  refine f_putI hC 5 0 500 rfl (by decide) iX5 tyX5 tyX5_ok nmX5 q_1259 rfl rfl rfl rfl rfl (fSm.k (fSm.rf w) g1) dX5_words_2 ?_
  refine f_iconst (v := 0) hC dX5_words_5 (by decide) ?_
  refine f_istore_n (L' := [(1, .int 0), (0, .ref a0)]) hC dX5_words_6 rfl (by decide) rfl ?_
  refine f_iconst (v := 0) hC dX5_words_7 (by decide) ?_
  refine f_istore_n (L' := [(2, .int 0), (1, .int 0), (0, .ref a0)]) hC dX5_words_8 rfl (by decide) rfl ?_
  obtain ⟨x8, h9, hF⟩ := fb_open hF
  have K10 : fAt X 0 0 5 (sI w 500 a0 0 0) [(1, .int x8)] [] 72 := by
    refine f_iload_n hC dX5_words_72 rfl 0 rfl ?_
    obtain rfl := Option.some.inj hF
    exact f_iret hC hEn (fSm.rf w) dX5_words_73
  refine f_sub (L' := [(0, .ref a0), (1, .int 0), (2, .int 0)]) [2, 1, 0] rfl ?_
  refine fLoop_ind (fun (s2 : Int32 × Int32) => fAt X 0 0 5 (sI w 500 a0 0 0) [(0, .ref a0), (1, .int s2.1), (2, .int s2.2)] [] 9) (fun s2 y7 h3 go4 ou5 => ?_) h9
  refine f_iload_n hC dX5_words_9 rfl 2 rfl ?_
  refine f_aload_n hC dX5_words_10 rfl 0 rfl ?_
  refine f_getR hC 5 1 501 rfl (by decide) iX5 q_1260 rfl rfl (fSm.k (fSm.rf w) g1) dX5_words_11 ?_
  refine f_iconst (v := 0) hC dX5_words_14 (by decide) ?_
  obtain ⟨g11, h3⟩ := fg_open h3
  obtain ⟨g12, h3⟩ := fg_open h3
  refine f_iald hC (fSm.k (fSm.rf w) g11) (fSm.v (fSm.rf w) g12) dX5_words_15 ?_
  refine f_icmp_ge hC 72 dX5_words_16 (by decide) (fun c13 => ?_) (fun c13 => ?_)
  · replace h3 := fi_pos h3 c13
    obtain rfl := Option.some.inj h3
    obtain rfl := ou5 _ rfl
    refine f_sub (L' := [(1, .int s2.1)]) [1] rfl ?_
    exact K10
  · replace h3 := fi_neg h3 c13
    refine f_iconst (v := 0) hC dX5_words_19 (by decide) ?_
    refine f_istore_n (L' := [(3, .int 0), (0, .ref a0), (1, .int s2.1), (2, .int s2.2)]) hC dX5_words_20 rfl (by decide) rfl ?_
    refine f_iconst (v := 0) hC dX5_words_21 (by decide) ?_
    refine f_istore (L' := [(4, .int 0), (3, .int 0), (0, .ref a0), (1, .int s2.1), (2, .int s2.2)]) hC dX5_words_22 (by decide) rfl ?_
    obtain ⟨x20, h21, h3⟩ := fb_open h3
    have K22 : fAt X 0 0 5 (sI w 500 a0 0 0) [(0, .ref a0), (1, .int s2.1), (2, .int s2.2), (3, .int x20)] [] 54 := by
      refine f_iload_n hC dX5_words_54 rfl 1 rfl ?_
      refine f_iload_n hC dX5_words_55 rfl 3 rfl ?_
      refine f_if_ne hC 63 dX5_words_56 (by decide) (fun c28 => ?_) (fun c28 => ?_)
      · replace h3 := fi_neg h3 c28
        refine f_iconst (v := 0) hC dX5_words_63 (by decide) ?_
        refine f_iadd hC dX5_words_64 ?_
        refine f_istore_n (L' := [(1, .int (s2.1 + 0)), (0, .ref a0), (2, .int s2.2), (3, .int x20)]) hC dX5_words_65 rfl (by decide) rfl ?_
        refine f_iinc (L' := [(2, .int (s2.2 + 1)), (1, .int (s2.1 + 0)), (0, .ref a0), (3, .int x20)]) hC dX5_words_66 2 rfl rfl (by decide) rfl ?_
        refine f_goto hC 9 dX5_words_69 (by decide) ?_
        obtain rfl := Option.some.inj h3
        refine f_sub (L' := [(0, .ref a0), (1, .int (s2.1 + 0)), (2, .int (s2.2 + 1))]) [2, 1, 0] rfl ?_
        exact go4 _ rfl
      · replace h3 := fi_pos h3 c28
        refine f_iconst (v := 1) hC dX5_words_59 (by decide) ?_
        refine f_goto hC 64 dX5_words_60 (by decide) ?_
        refine f_iadd hC dX5_words_64 ?_
        refine f_istore_n (L' := [(1, .int (s2.1 + 1)), (0, .ref a0), (2, .int s2.2), (3, .int x20)]) hC dX5_words_65 rfl (by decide) rfl ?_
        refine f_iinc (L' := [(2, .int (s2.2 + 1)), (1, .int (s2.1 + 1)), (0, .ref a0), (3, .int x20)]) hC dX5_words_66 2 rfl rfl (by decide) rfl ?_
        refine f_goto hC 9 dX5_words_69 (by decide) ?_
        obtain rfl := Option.some.inj h3
        refine f_sub (L' := [(0, .ref a0), (1, .int (s2.1 + 1)), (2, .int (s2.2 + 1))]) [2, 1, 0] rfl ?_
        exact go4 _ rfl
    refine f_sub (L' := [(0, .ref a0), (1, .int s2.1), (2, .int s2.2), (3, .int 0), (4, .int 0)]) [2, 3, 4, 1, 0] rfl ?_
    refine fLoop_ind (fun (s14 : Int32 × Int32) => fAt X 0 0 5 (sI w 500 a0 0 0) [(0, .ref a0), (1, .int s2.1), (2, .int s2.2), (3, .int s14.1), (4, .int s14.2)] [] 24) (fun s14 y19 h15 go16 ou17 => ?_) h21
    refine f_iload hC dX5_words_24 4 rfl ?_
    refine f_iload_n hC dX5_words_26 rfl 2 rfl ?_
    refine f_icmp_ge hC 54 dX5_words_27 (by decide) (fun c23 => ?_) (fun c23 => ?_)
    · replace h15 := fi_pos h15 c23
      obtain rfl := Option.some.inj h15
      obtain rfl := ou17 _ rfl
      refine f_sub (L' := [(0, .ref a0), (1, .int s2.1), (2, .int s2.2), (3, .int s14.1)]) [0, 1, 2, 3] rfl ?_
      exact K22
    · replace h15 := fi_neg h15 c23
      refine f_iload_n hC dX5_words_30 rfl 3 rfl ?_
      refine f_aload_n hC dX5_words_31 rfl 0 rfl ?_
      refine f_iload_n hC dX5_words_32 rfl 2 rfl ?_
      refine f_iload hC dX5_words_33 4 rfl ?_
      obtain ⟨r24, h25, h15⟩ := fb_open h15
      refine f_callV hC [.int s2.2, .int s14.2] (c_X5_isWordOf l D cy a0 s2.2 s14.2 (sI w 500 a0 0 0) r24 h25) q_1633 q_137 q_1630 q_1632 q_117 h9_X5_isWordOf rfl (fSm.k (fSm.rf w) g1) ⟨Nat.le_of_ble_eq_true rfl, Nat.le_of_ble_eq_true rfl⟩ ⟨Nat.le_of_ble_eq_true rfl, Nat.le_of_ble_eq_true rfl⟩ (Nat.le_of_ble_eq_true rfl) rfl dX5_words_35 (fun e26 => ?_)
      refine f_if_eq hC 45 dX5_words_38 (by decide) (fun c27 => ?_) (fun c27 => ?_)
      · replace h15 := fi_pos h15 c27
        refine f_iconst (v := 0) hC dX5_words_45 (by decide) ?_
        refine f_iadd hC dX5_words_46 ?_
        refine f_istore_n (L' := [(3, .int (s14.1 + 0)), (0, .ref a0), (1, .int s2.1), (2, .int s2.2), (4, .int s14.2)]) hC dX5_words_47 rfl (by decide) rfl ?_
        refine f_iinc (L' := [(4, .int (s14.2 + 1)), (3, .int (s14.1 + 0)), (0, .ref a0), (1, .int s2.1), (2, .int s2.2)]) hC dX5_words_48 4 rfl rfl (by decide) rfl ?_
        refine f_goto hC 24 dX5_words_51 (by decide) ?_
        obtain rfl := Option.some.inj h15
        refine f_sub (L' := [(0, .ref a0), (1, .int s2.1), (2, .int s2.2), (3, .int (s14.1 + 0)), (4, .int (s14.2 + 1))]) [2, 3, 4, 1, 0] rfl ?_
        exact go16 _ rfl
      · replace h15 := fi_neg h15 c27
        refine f_iconst (v := 1) hC dX5_words_41 (by decide) ?_
        refine f_goto hC 46 dX5_words_42 (by decide) ?_
        refine f_iadd hC dX5_words_46 ?_
        refine f_istore_n (L' := [(3, .int (s14.1 + 1)), (0, .ref a0), (1, .int s2.1), (2, .int s2.2), (4, .int s14.2)]) hC dX5_words_47 rfl (by decide) rfl ?_
        refine f_iinc (L' := [(4, .int (s14.2 + 1)), (3, .int (s14.1 + 1)), (0, .ref a0), (1, .int s2.1), (2, .int s2.2)]) hC dX5_words_48 4 rfl rfl (by decide) rfl ?_
        refine f_goto hC 24 dX5_words_51 (by decide) ?_
        obtain rfl := Option.some.inj h15
        refine f_sub (L' := [(0, .ref a0), (1, .int s2.1), (2, .int s2.2), (3, .int (s14.1 + 1)), (4, .int (s14.2 + 1))]) [2, 3, 4, 1, 0] rfl ?_
        exact go16 _ rfl
theorem dX5_sharing_0 : decode cX5_sharing 0 = .ok (.aload_n 0, 1) := by decide +kernel
theorem dX5_sharing_1 : decode cX5_sharing 1 = .ok (.aload_n 0, 1) := by decide +kernel
theorem dX5_sharing_2 : decode cX5_sharing 2 = .ok (.iload_n 1, 1) := by decide +kernel
theorem dX5_sharing_3 : decode cX5_sharing 3 = .ok (.invokevirtual 135, 3) := by decide +kernel
theorem dX5_sharing_6 : decode cX5_sharing 6 = .ok (.ifCond .eq 7, 3) := by decide +kernel
theorem dX5_sharing_9 : decode cX5_sharing 9 = .ok (.iconst 0, 1) := by decide +kernel
theorem dX5_sharing_10 : decode cX5_sharing 10 = .ok (.goto 4, 3) := by decide +kernel
theorem dX5_sharing_13 : decode cX5_sharing 13 = .ok (.iconst 1, 1) := by decide +kernel
theorem dX5_sharing_14 : decode cX5_sharing 14 = .ok (.putfield 41, 3) := by decide +kernel
theorem dX5_sharing_17 : decode cX5_sharing 17 = .ok (.aload_n 0, 1) := by decide +kernel
theorem dX5_sharing_18 : decode cX5_sharing 18 = .ok (.getfield 41, 3) := by decide +kernel
theorem dX5_sharing_21 : decode cX5_sharing 21 = .ok (.ifCond .le 5, 3) := by decide +kernel
theorem dX5_sharing_24 : decode cX5_sharing 24 = .ok (.iconst 0, 1) := by decide +kernel
theorem dX5_sharing_25 : decode cX5_sharing 25 = .ok (.ireturn, 1) := by decide +kernel
theorem dX5_sharing_26 : decode cX5_sharing 26 = .ok (.iconst 0, 1) := by decide +kernel
theorem dX5_sharing_27 : decode cX5_sharing 27 = .ok (.istore_n 2, 1) := by decide +kernel
theorem dX5_sharing_28 : decode cX5_sharing 28 = .ok (.iconst 0, 1) := by decide +kernel
theorem dX5_sharing_29 : decode cX5_sharing 29 = .ok (.istore_n 3, 1) := by decide +kernel
theorem dX5_sharing_30 : decode cX5_sharing 30 = .ok (.iload_n 3, 1) := by decide +kernel
theorem dX5_sharing_31 : decode cX5_sharing 31 = .ok (.aload_n 0, 1) := by decide +kernel
theorem dX5_sharing_32 : decode cX5_sharing 32 = .ok (.getfield 7, 3) := by decide +kernel
theorem dX5_sharing_35 : decode cX5_sharing 35 = .ok (.iconst 0, 1) := by decide +kernel
theorem dX5_sharing_36 : decode cX5_sharing 36 = .ok (.iaload, 1) := by decide +kernel
theorem dX5_sharing_37 : decode cX5_sharing 37 = .ok (.if_icmp .ge 26, 3) := by decide +kernel
theorem dX5_sharing_40 : decode cX5_sharing 40 = .ok (.iload_n 2, 1) := by decide +kernel
theorem dX5_sharing_41 : decode cX5_sharing 41 = .ok (.aload_n 0, 1) := by decide +kernel
theorem dX5_sharing_42 : decode cX5_sharing 42 = .ok (.iload_n 1, 1) := by decide +kernel
theorem dX5_sharing_43 : decode cX5_sharing 43 = .ok (.iload_n 3, 1) := by decide +kernel
theorem dX5_sharing_44 : decode cX5_sharing 44 = .ok (.invokevirtual 225, 3) := by decide +kernel
theorem dX5_sharing_47 : decode cX5_sharing 47 = .ok (.ifCond .eq 7, 3) := by decide +kernel
theorem dX5_sharing_50 : decode cX5_sharing 50 = .ok (.iconst 1, 1) := by decide +kernel
theorem dX5_sharing_51 : decode cX5_sharing 51 = .ok (.goto 4, 3) := by decide +kernel
theorem dX5_sharing_54 : decode cX5_sharing 54 = .ok (.iconst 0, 1) := by decide +kernel
theorem dX5_sharing_55 : decode cX5_sharing 55 = .ok (.iadd, 1) := by decide +kernel
theorem dX5_sharing_56 : decode cX5_sharing 56 = .ok (.istore_n 2, 1) := by decide +kernel
theorem dX5_sharing_57 : decode cX5_sharing 57 = .ok (.iinc 3 1, 3) := by decide +kernel
theorem dX5_sharing_60 : decode cX5_sharing 60 = .ok (.goto (-30), 3) := by decide +kernel
theorem dX5_sharing_63 : decode cX5_sharing 63 = .ok (.iload_n 2, 1) := by decide +kernel
theorem dX5_sharing_64 : decode cX5_sharing 64 = .ok (.ireturn, 1) := by decide +kernel
theorem h9_X5_sharing : yX5_sharing.cls ≠ "java/lang/invoke/MethodHandle" ∧ yX5_sharing.cls ≠ "java/lang/invoke/VarHandle" ∧ (parseMethodDescriptor yX5_sharing.desc).map (fun d => d.parameters.length) = some 1 := by decide +kernel
noncomputable def F_X5_sharing (a0 : Nat) (x1 : Int32) (w : FW) : Option (Int32 × FW) :=
  fg (w.1 a0 = 6) inferInstance ((F_X5_isTicket a0 x1 w).bind (fun r1 => ((if r1 = 0 then some 1 else some 0) : Option (Int32)).bind (fun x5 => (if (gI (sI w 500 a0 0 x5) 500 a0 0) ≤ 0 then (fLoop (σ := Int32 × Int32) (ρ := Int32) (fun s10 => fg (w.1 (gR w 501 a0 0) = 11) inferInstance (fg (¬ ((0 : Int32) < 0 ∨ w.2.1 (gR w 501 a0 0) ≤ Int32.toNatClampNeg 0)) inferInstance ((if (gI (sI w 500 a0 0 x5) 601 (gR (sI w 500 a0 0 x5) 501 a0 0) (Int32.toNatClampNeg 0)) ≤ s10.2 then some (.inr s10.1) else (F_X5_isWordOf a0 x1 s10.2 (sI w 500 a0 0 x5)).bind (fun r22 => (if r22 = 0 then some (.inl ((s10.1 + 0), (s10.2 + 1))) else some (.inl ((s10.1 + 1), (s10.2 + 1))))))))) (0, 0)).bind (fun x16 => some (x16, (sI w 500 a0 0 x5))) else some (0, (sI w 500 a0 0 x5))))))
set_option maxHeartbeats 4000000 in
set_option maxRecDepth 100000 in
theorem c_X5_sharing (l : Launch) (D : va_G) (cy : Nat → ClassId) (a0 : Nat) (x1 : Int32) (w : FW) (r : Int32 × FW) (hF : F_X5_sharing a0 x1 w = some r) : fSpec l D cy yX5_sharing cX5_sharing 4 (some .int) { frames := 2, cells := 0, slots := 0, locals := 45 } [.ref a0, .int x1] w r.2 (some (.int r.1)) := by
  refine f_begin (by decide +kernel) (Nat.le_of_ble_eq_true rfl) (fun X hC hEn => ?_)
  unfold F_X5_sharing at hF
  show fAt X 0 0 4 w [(0, .ref a0), (1, .int x1)] [] 0
  refine f_aload_n hC dX5_sharing_0 rfl 0 rfl ?_
  refine f_aload_n hC dX5_sharing_1 rfl 0 rfl ?_
  refine f_iload_n hC dX5_sharing_2 rfl 1 rfl ?_
  obtain ⟨g3, hF⟩ := fg_open hF
  obtain ⟨r1, h2, hF⟩ := fb_open hF
  refine f_callV hC [.int x1] (c_X5_isTicket l D cy a0 x1 w r1 h2) q_1420 q_137 q_1417 q_1419 q_86 h9_X5_isTicket rfl (fSm.k (fSm.rf w) g3) ⟨Nat.le_of_ble_eq_true rfl, Nat.le_of_ble_eq_true rfl⟩ ⟨Nat.le_of_ble_eq_true rfl, Nat.le_of_ble_eq_true rfl⟩ (Nat.le_of_ble_eq_true rfl) rfl dX5_sharing_3 (fun e4 => ?_)
  obtain ⟨x5, h6, hF⟩ := fb_open hF
  have K8 : fAt X 0 0 4 w [(0, .ref a0), (1, .int x1)] [.int x5, .ref a0] 14 := by
    refine f_putI hC 5 0 500 rfl (by decide) iX5 tyX5 tyX5_ok nmX5 q_1259 rfl rfl rfl rfl rfl (fSm.k (fSm.rf w) g3) dX5_sharing_14 ?_
    refine f_aload_n hC dX5_sharing_17 rfl 0 rfl ?_
    refine f_getI hC 5 0 500 rfl (by decide) iX5 q_1259 rfl rfl (fSm.k (fSm.rf w) g3) dX5_sharing_18 ?_
    refine f_if_le hC 26 dX5_sharing_21 (by decide) (fun c9 => ?_) (fun c9 => ?_)
    · replace hF := fi_pos hF c9
      refine f_iconst (v := 0) hC dX5_sharing_26 (by decide) ?_
      refine f_istore_n (L' := [(2, .int 0), (0, .ref a0), (1, .int x1)]) hC dX5_sharing_27 rfl (by decide) rfl ?_
      refine f_iconst (v := 0) hC dX5_sharing_28 (by decide) ?_
      refine f_istore_n (L' := [(3, .int 0), (2, .int 0), (0, .ref a0), (1, .int x1)]) hC dX5_sharing_29 rfl (by decide) rfl ?_
      obtain ⟨x16, h17, hF⟩ := fb_open hF
      have K18 : fAt X 0 0 4 (sI w 500 a0 0 x5) [(2, .int x16)] [] 63 := by
        refine f_iload_n hC dX5_sharing_63 rfl 0 rfl ?_
        obtain rfl := Option.some.inj hF
        exact f_iret hC hEn (fSm.rf w) dX5_sharing_64
      refine f_sub (L' := [(0, .ref a0), (1, .int x1), (2, .int 0), (3, .int 0)]) [2, 3, 1, 0] rfl ?_
      refine fLoop_ind (fun (s10 : Int32 × Int32) => fAt X 0 0 4 (sI w 500 a0 0 x5) [(0, .ref a0), (1, .int x1), (2, .int s10.1), (3, .int s10.2)] [] 30) (fun s10 y15 h11 go12 ou13 => ?_) h17
      refine f_iload_n hC dX5_sharing_30 rfl 3 rfl ?_
      refine f_aload_n hC dX5_sharing_31 rfl 0 rfl ?_
      refine f_getR hC 5 1 501 rfl (by decide) iX5 q_1260 rfl rfl (fSm.k (fSm.rf w) g3) dX5_sharing_32 ?_
      refine f_iconst (v := 0) hC dX5_sharing_35 (by decide) ?_
      obtain ⟨g19, h11⟩ := fg_open h11
      obtain ⟨g20, h11⟩ := fg_open h11
      refine f_iald hC (fSm.k (fSm.rf w) g19) (fSm.v (fSm.rf w) g20) dX5_sharing_36 ?_
      refine f_icmp_ge hC 63 dX5_sharing_37 (by decide) (fun c21 => ?_) (fun c21 => ?_)
      · replace h11 := fi_pos h11 c21
        obtain rfl := Option.some.inj h11
        obtain rfl := ou13 _ rfl
        refine f_sub (L' := [(2, .int s10.1)]) [2] rfl ?_
        exact K18
      · replace h11 := fi_neg h11 c21
        refine f_iload_n hC dX5_sharing_40 rfl 2 rfl ?_
        refine f_aload_n hC dX5_sharing_41 rfl 0 rfl ?_
        refine f_iload_n hC dX5_sharing_42 rfl 1 rfl ?_
        refine f_iload_n hC dX5_sharing_43 rfl 3 rfl ?_
        obtain ⟨r22, h23, h11⟩ := fb_open h11
        refine f_callV hC [.int x1, .int s10.2] (c_X5_isWordOf l D cy a0 x1 s10.2 (sI w 500 a0 0 x5) r22 h23) q_1633 q_137 q_1630 q_1632 q_117 h9_X5_isWordOf rfl (fSm.k (fSm.rf w) g3) ⟨Nat.le_of_ble_eq_true rfl, Nat.le_of_ble_eq_true rfl⟩ ⟨Nat.le_of_ble_eq_true rfl, Nat.le_of_ble_eq_true rfl⟩ (Nat.le_of_ble_eq_true rfl) rfl dX5_sharing_44 (fun e24 => ?_)
        refine f_if_eq hC 54 dX5_sharing_47 (by decide) (fun c25 => ?_) (fun c25 => ?_)
        · replace h11 := fi_pos h11 c25
          refine f_iconst (v := 0) hC dX5_sharing_54 (by decide) ?_
          refine f_iadd hC dX5_sharing_55 ?_
          refine f_istore_n (L' := [(2, .int (s10.1 + 0)), (0, .ref a0), (1, .int x1), (3, .int s10.2)]) hC dX5_sharing_56 rfl (by decide) rfl ?_
          refine f_iinc (L' := [(3, .int (s10.2 + 1)), (2, .int (s10.1 + 0)), (0, .ref a0), (1, .int x1)]) hC dX5_sharing_57 3 rfl rfl (by decide) rfl ?_
          refine f_goto hC 30 dX5_sharing_60 (by decide) ?_
          obtain rfl := Option.some.inj h11
          refine f_sub (L' := [(0, .ref a0), (1, .int x1), (2, .int (s10.1 + 0)), (3, .int (s10.2 + 1))]) [2, 3, 1, 0] rfl ?_
          exact go12 _ rfl
        · replace h11 := fi_neg h11 c25
          refine f_iconst (v := 1) hC dX5_sharing_50 (by decide) ?_
          refine f_goto hC 55 dX5_sharing_51 (by decide) ?_
          refine f_iadd hC dX5_sharing_55 ?_
          refine f_istore_n (L' := [(2, .int (s10.1 + 1)), (0, .ref a0), (1, .int x1), (3, .int s10.2)]) hC dX5_sharing_56 rfl (by decide) rfl ?_
          refine f_iinc (L' := [(3, .int (s10.2 + 1)), (2, .int (s10.1 + 1)), (0, .ref a0), (1, .int x1)]) hC dX5_sharing_57 3 rfl rfl (by decide) rfl ?_
          refine f_goto hC 30 dX5_sharing_60 (by decide) ?_
          obtain rfl := Option.some.inj h11
          refine f_sub (L' := [(0, .ref a0), (1, .int x1), (2, .int (s10.1 + 1)), (3, .int (s10.2 + 1))]) [2, 3, 1, 0] rfl ?_
          exact go12 _ rfl
    · replace hF := fi_neg hF c9
      refine f_iconst (v := 0) hC dX5_sharing_24 (by decide) ?_
      obtain rfl := Option.some.inj hF
      exact f_iret hC hEn (fSm.rf w) dX5_sharing_25
  refine f_if_eq hC 13 dX5_sharing_6 (by decide) (fun c26 => ?_) (fun c26 => ?_)
  · replace h6 := fi_pos h6 c26
    refine f_iconst (v := 1) hC dX5_sharing_13 (by decide) ?_
    obtain rfl := Option.some.inj h6
    exact K8
  · replace h6 := fi_neg h6 c26
    refine f_iconst (v := 0) hC dX5_sharing_9 (by decide) ?_
    refine f_goto hC 14 dX5_sharing_10 (by decide) ?_
    obtain rfl := Option.some.inj h6
    exact K8
theorem dX5_often_0 : decode cX5_often 0 = .ok (.aload_n 0, 1) := by decide +kernel
theorem dX5_often_1 : decode cX5_often 1 = .ok (.iload_n 1, 1) := by decide +kernel
theorem dX5_often_2 : decode cX5_often 2 = .ok (.invokestatic 119, 3) := by decide +kernel
theorem dX5_often_5 : decode cX5_often 5 = .ok (.ifCond .eq 7, 3) := by decide +kernel
theorem dX5_often_8 : decode cX5_often 8 = .ok (.iconst 0, 1) := by decide +kernel
theorem dX5_often_9 : decode cX5_often 9 = .ok (.goto 4, 3) := by decide +kernel
theorem dX5_often_12 : decode cX5_often 12 = .ok (.iconst 1, 1) := by decide +kernel
theorem dX5_often_13 : decode cX5_often 13 = .ok (.putfield 41, 3) := by decide +kernel
theorem dX5_often_16 : decode cX5_often 16 = .ok (.aload_n 0, 1) := by decide +kernel
theorem dX5_often_17 : decode cX5_often 17 = .ok (.getfield 41, 3) := by decide +kernel
theorem dX5_often_20 : decode cX5_often 20 = .ok (.ifCond .le 5, 3) := by decide +kernel
theorem dX5_often_23 : decode cX5_often 23 = .ok (.iconst 0, 1) := by decide +kernel
theorem dX5_often_24 : decode cX5_often 24 = .ok (.ireturn, 1) := by decide +kernel
theorem dX5_often_25 : decode cX5_often 25 = .ok (.iconst 0, 1) := by decide +kernel
theorem dX5_often_26 : decode cX5_often 26 = .ok (.istore_n 2, 1) := by decide +kernel
theorem dX5_often_27 : decode cX5_often 27 = .ok (.iconst 0, 1) := by decide +kernel
theorem dX5_often_28 : decode cX5_often 28 = .ok (.istore_n 3, 1) := by decide +kernel
theorem dX5_often_29 : decode cX5_often 29 = .ok (.iload_n 3, 1) := by decide +kernel
theorem dX5_often_30 : decode cX5_often 30 = .ok (.aload_n 0, 1) := by decide +kernel
theorem dX5_often_31 : decode cX5_often 31 = .ok (.getfield 7, 3) := by decide +kernel
theorem dX5_often_34 : decode cX5_often 34 = .ok (.iconst 0, 1) := by decide +kernel
theorem dX5_often_35 : decode cX5_often 35 = .ok (.iaload, 1) := by decide +kernel
theorem dX5_often_36 : decode cX5_often 36 = .ok (.if_icmp .ge 48, 3) := by decide +kernel
theorem dX5_often_39 : decode cX5_often 39 = .ok (.iconst 0, 1) := by decide +kernel
theorem dX5_often_40 : decode cX5_often 40 = .ok (.istore 4, 2) := by decide +kernel
theorem dX5_often_42 : decode cX5_often 42 = .ok (.iload 4, 2) := by decide +kernel
theorem dX5_often_44 : decode cX5_often 44 = .ok (.aload_n 0, 1) := by decide +kernel
theorem dX5_often_45 : decode cX5_often 45 = .ok (.iload_n 3, 1) := by decide +kernel
theorem dX5_often_46 : decode cX5_often 46 = .ok (.iconst 0, 1) := by decide +kernel
theorem dX5_often_47 : decode cX5_often 47 = .ok (.invokevirtual 70, 3) := by decide +kernel
theorem dX5_often_50 : decode cX5_often 50 = .ok (.if_icmp .ge 28, 3) := by decide +kernel
theorem dX5_often_53 : decode cX5_often 53 = .ok (.iload_n 2, 1) := by decide +kernel
theorem dX5_often_54 : decode cX5_often 54 = .ok (.aload_n 0, 1) := by decide +kernel
theorem dX5_often_55 : decode cX5_often 55 = .ok (.iload_n 3, 1) := by decide +kernel
theorem dX5_often_56 : decode cX5_often 56 = .ok (.iload 4, 2) := by decide +kernel
theorem dX5_often_58 : decode cX5_often 58 = .ok (.invokevirtual 89, 3) := by decide +kernel
theorem dX5_often_61 : decode cX5_often 61 = .ok (.iload_n 1, 1) := by decide +kernel
theorem dX5_often_62 : decode cX5_often 62 = .ok (.if_icmp .ne 7, 3) := by decide +kernel
theorem dX5_often_65 : decode cX5_often 65 = .ok (.iconst 1, 1) := by decide +kernel
theorem dX5_often_66 : decode cX5_often 66 = .ok (.goto 4, 3) := by decide +kernel
theorem dX5_often_69 : decode cX5_often 69 = .ok (.iconst 0, 1) := by decide +kernel
theorem dX5_often_70 : decode cX5_often 70 = .ok (.iadd, 1) := by decide +kernel
theorem dX5_often_71 : decode cX5_often 71 = .ok (.istore_n 2, 1) := by decide +kernel
theorem dX5_often_72 : decode cX5_often 72 = .ok (.iinc 4 1, 3) := by decide +kernel
theorem dX5_often_75 : decode cX5_often 75 = .ok (.goto (-33), 3) := by decide +kernel
theorem dX5_often_78 : decode cX5_often 78 = .ok (.iinc 3 1, 3) := by decide +kernel
theorem dX5_often_81 : decode cX5_often 81 = .ok (.goto (-52), 3) := by decide +kernel
theorem dX5_often_84 : decode cX5_often 84 = .ok (.iload_n 2, 1) := by decide +kernel
theorem dX5_often_85 : decode cX5_often 85 = .ok (.ireturn, 1) := by decide +kernel
theorem h9_X5_often : yX5_often.cls ≠ "java/lang/invoke/MethodHandle" ∧ yX5_often.cls ≠ "java/lang/invoke/VarHandle" ∧ (parseMethodDescriptor yX5_often.desc).map (fun d => d.parameters.length) = some 1 := by decide +kernel
noncomputable def F_X5_often (a0 : Nat) (x1 : Int32) (w : FW) : Option (Int32 × FW) :=
  (F_X5_isLetter x1 w).bind (fun r1 => ((if r1 = 0 then some 1 else some 0) : Option (Int32)).bind (fun x4 => fg (w.1 a0 = 6) inferInstance ((if (gI (sI w 500 a0 0 x4) 500 a0 0) ≤ 0 then (fLoop (σ := Int32 × Int32) (ρ := Int32) (fun s10 => fg (w.1 (gR w 501 a0 0) = 11) inferInstance (fg (¬ ((0 : Int32) < 0 ∨ w.2.1 (gR w 501 a0 0) ≤ Int32.toNatClampNeg 0)) inferInstance ((if (gI (sI w 500 a0 0 x4) 601 (gR (sI w 500 a0 0 x4) 501 a0 0) (Int32.toNatClampNeg 0)) ≤ s10.2 then some (.inr s10.1) else (fLoop (σ := Int32 × Int32) (ρ := Int32) (fun s22 => (F_X5_of a0 s10.2 0 (sI w 500 a0 0 x4)).bind (fun r31 => (if r31 ≤ s22.2 then some (.inr s22.1) else (F_X5_letterOf a0 s10.2 s22.2 (sI w 500 a0 0 x4)).bind (fun r35 => (if r35 = x1 then some (.inl ((s22.1 + 1), (s22.2 + 1))) else some (.inl ((s22.1 + 0), (s22.2 + 1)))))))) (s10.1, 0)).bind (fun x28 => some (.inl (x28, (s10.2 + 1)))))))) (0, 0)).bind (fun x16 => some (x16, (sI w 500 a0 0 x4))) else some (0, (sI w 500 a0 0 x4))))))
set_option maxHeartbeats 4000000 in
set_option maxRecDepth 100000 in
theorem c_X5_often (l : Launch) (D : va_G) (cy : Nat → ClassId) (a0 : Nat) (x1 : Int32) (w : FW) (r : Int32 × FW) (hF : F_X5_often a0 x1 w = some r) : fSpec l D cy yX5_often cX5_often 5 (some .int) { frames := 3, cells := 0, slots := 0, locals := 62 } [.ref a0, .int x1] w r.2 (some (.int r.1)) := by
  refine f_begin (by decide +kernel) (Nat.le_of_ble_eq_true rfl) (fun X hC hEn => ?_)
  unfold F_X5_often at hF
  show fAt X 0 0 5 w [(0, .ref a0), (1, .int x1)] [] 0
  refine f_aload_n hC dX5_often_0 rfl 0 rfl ?_
  refine f_iload_n hC dX5_often_1 rfl 1 rfl ?_
  obtain ⟨r1, h2, hF⟩ := fb_open hF
  refine f_callS hC [.int x1] (c_X5_isLetter l D cy x1 w r1 h2) q_1351 q_137 q_1349 q_1350 h9_X5_isLetter ⟨Nat.le_of_ble_eq_true rfl, Nat.le_of_ble_eq_true rfl⟩ ⟨Nat.le_of_ble_eq_true rfl, Nat.le_of_ble_eq_true rfl⟩ (Nat.le_of_ble_eq_true rfl) rfl dX5_often_2 (fun e3 => ?_)
  obtain ⟨x4, h5, hF⟩ := fb_open hF
  have K7 : fAt X 0 0 5 w [(0, .ref a0), (1, .int x1)] [.int x4, .ref a0] 13 := by
    obtain ⟨g8, hF⟩ := fg_open hF
    refine f_putI hC 5 0 500 rfl (by decide) iX5 tyX5 tyX5_ok nmX5 q_1259 rfl rfl rfl rfl rfl (fSm.k (fSm.rf w) g8) dX5_often_13 ?_
    refine f_aload_n hC dX5_often_16 rfl 0 rfl ?_
    refine f_getI hC 5 0 500 rfl (by decide) iX5 q_1259 rfl rfl (fSm.k (fSm.rf w) g8) dX5_often_17 ?_
    refine f_if_le hC 25 dX5_often_20 (by decide) (fun c9 => ?_) (fun c9 => ?_)
    · replace hF := fi_pos hF c9
      refine f_iconst (v := 0) hC dX5_often_25 (by decide) ?_
      refine f_istore_n (L' := [(2, .int 0), (0, .ref a0), (1, .int x1)]) hC dX5_often_26 rfl (by decide) rfl ?_
      refine f_iconst (v := 0) hC dX5_often_27 (by decide) ?_
      refine f_istore_n (L' := [(3, .int 0), (2, .int 0), (0, .ref a0), (1, .int x1)]) hC dX5_often_28 rfl (by decide) rfl ?_
      obtain ⟨x16, h17, hF⟩ := fb_open hF
      have K18 : fAt X 0 0 5 (sI w 500 a0 0 x4) [(2, .int x16)] [] 84 := by
        refine f_iload_n hC dX5_often_84 rfl 0 rfl ?_
        obtain rfl := Option.some.inj hF
        exact f_iret hC hEn (fSm.rf w) dX5_often_85
      refine f_sub (L' := [(0, .ref a0), (1, .int x1), (2, .int 0), (3, .int 0)]) [2, 3, 1, 0] rfl ?_
      refine fLoop_ind (fun (s10 : Int32 × Int32) => fAt X 0 0 5 (sI w 500 a0 0 x4) [(0, .ref a0), (1, .int x1), (2, .int s10.1), (3, .int s10.2)] [] 29) (fun s10 y15 h11 go12 ou13 => ?_) h17
      refine f_iload_n hC dX5_often_29 rfl 3 rfl ?_
      refine f_aload_n hC dX5_often_30 rfl 0 rfl ?_
      refine f_getR hC 5 1 501 rfl (by decide) iX5 q_1260 rfl rfl (fSm.k (fSm.rf w) g8) dX5_often_31 ?_
      refine f_iconst (v := 0) hC dX5_often_34 (by decide) ?_
      obtain ⟨g19, h11⟩ := fg_open h11
      obtain ⟨g20, h11⟩ := fg_open h11
      refine f_iald hC (fSm.k (fSm.rf w) g19) (fSm.v (fSm.rf w) g20) dX5_often_35 ?_
      refine f_icmp_ge hC 84 dX5_often_36 (by decide) (fun c21 => ?_) (fun c21 => ?_)
      · replace h11 := fi_pos h11 c21
        obtain rfl := Option.some.inj h11
        obtain rfl := ou13 _ rfl
        refine f_sub (L' := [(2, .int s10.1)]) [2] rfl ?_
        exact K18
      · replace h11 := fi_neg h11 c21
        refine f_iconst (v := 0) hC dX5_often_39 (by decide) ?_
        refine f_istore (L' := [(4, .int 0), (0, .ref a0), (1, .int x1), (2, .int s10.1), (3, .int s10.2)]) hC dX5_often_40 (by decide) rfl ?_
        obtain ⟨x28, h29, h11⟩ := fb_open h11
        have K30 : fAt X 0 0 5 (sI w 500 a0 0 x4) [(0, .ref a0), (1, .int x1), (2, .int x28), (3, .int s10.2)] [] 78 := by
          refine f_iinc (L' := [(3, .int (s10.2 + 1)), (0, .ref a0), (1, .int x1), (2, .int x28)]) hC dX5_often_78 3 rfl rfl (by decide) rfl ?_
          refine f_goto hC 29 dX5_often_81 (by decide) ?_
          obtain rfl := Option.some.inj h11
          refine f_sub (L' := [(0, .ref a0), (1, .int x1), (2, .int x28), (3, .int (s10.2 + 1))]) [1, 2, 3, 0] rfl ?_
          exact go12 _ rfl
        refine f_sub (L' := [(0, .ref a0), (1, .int x1), (2, .int s10.1), (3, .int s10.2), (4, .int 0)]) [1, 2, 3, 4, 0] rfl ?_
        refine fLoop_ind (fun (s22 : Int32 × Int32) => fAt X 0 0 5 (sI w 500 a0 0 x4) [(0, .ref a0), (1, .int x1), (2, .int s22.1), (3, .int s10.2), (4, .int s22.2)] [] 42) (fun s22 y27 h23 go24 ou25 => ?_) h29
        refine f_iload hC dX5_often_42 4 rfl ?_
        refine f_aload_n hC dX5_often_44 rfl 0 rfl ?_
        refine f_iload_n hC dX5_often_45 rfl 3 rfl ?_
        refine f_iconst (v := 0) hC dX5_often_46 (by decide) ?_
        obtain ⟨r31, h32, h23⟩ := fb_open h23
        refine f_callV hC [.int s10.2, .int 0] (c_X5_of l D cy a0 s10.2 0 (sI w 500 a0 0 x4) r31 h32) q_1452 q_137 q_1449 q_1451 q_91 h9_X5_of rfl (fSm.k (fSm.rf w) g8) ⟨Nat.le_of_ble_eq_true rfl, Nat.le_of_ble_eq_true rfl⟩ ⟨Nat.le_of_ble_eq_true rfl, Nat.le_of_ble_eq_true rfl⟩ (Nat.le_of_ble_eq_true rfl) rfl dX5_often_47 (fun e33 => ?_)
        refine f_icmp_ge hC 78 dX5_often_50 (by decide) (fun c34 => ?_) (fun c34 => ?_)
        · replace h23 := fi_pos h23 c34
          obtain rfl := Option.some.inj h23
          obtain rfl := ou25 _ rfl
          refine f_sub (L' := [(0, .ref a0), (1, .int x1), (2, .int s22.1), (3, .int s10.2)]) [0, 1, 2, 3] rfl ?_
          exact K30
        · replace h23 := fi_neg h23 c34
          refine f_iload_n hC dX5_often_53 rfl 2 rfl ?_
          refine f_aload_n hC dX5_often_54 rfl 0 rfl ?_
          refine f_iload_n hC dX5_often_55 rfl 3 rfl ?_
          refine f_iload hC dX5_often_56 4 rfl ?_
          obtain ⟨r35, h36, h23⟩ := fb_open h23
          refine f_callV hC [.int s10.2, .int s22.2] (c_X5_letterOf l D cy a0 s10.2 s22.2 (sI w 500 a0 0 x4) r35 h36) q_1460 q_137 q_1457 q_1459 q_93 h9_X5_letterOf rfl (fSm.k (fSm.rf w) g8) ⟨Nat.le_of_ble_eq_true rfl, Nat.le_of_ble_eq_true rfl⟩ ⟨Nat.le_of_ble_eq_true rfl, Nat.le_of_ble_eq_true rfl⟩ (Nat.le_of_ble_eq_true rfl) rfl dX5_often_58 (fun e37 => ?_)
          refine f_iload_n hC dX5_often_61 rfl 1 rfl ?_
          refine f_icmp_ne hC 69 dX5_often_62 (by decide) (fun c38 => ?_) (fun c38 => ?_)
          · replace h23 := fi_neg h23 c38
            refine f_iconst (v := 0) hC dX5_often_69 (by decide) ?_
            refine f_iadd hC dX5_often_70 ?_
            refine f_istore_n (L' := [(2, .int (s22.1 + 0)), (0, .ref a0), (1, .int x1), (3, .int s10.2), (4, .int s22.2)]) hC dX5_often_71 rfl (by decide) rfl ?_
            refine f_iinc (L' := [(4, .int (s22.2 + 1)), (2, .int (s22.1 + 0)), (0, .ref a0), (1, .int x1), (3, .int s10.2)]) hC dX5_often_72 4 rfl rfl (by decide) rfl ?_
            refine f_goto hC 42 dX5_often_75 (by decide) ?_
            obtain rfl := Option.some.inj h23
            refine f_sub (L' := [(0, .ref a0), (1, .int x1), (2, .int (s22.1 + 0)), (3, .int s10.2), (4, .int (s22.2 + 1))]) [2, 3, 1, 4, 0] rfl ?_
            exact go24 _ rfl
          · replace h23 := fi_pos h23 c38
            refine f_iconst (v := 1) hC dX5_often_65 (by decide) ?_
            refine f_goto hC 70 dX5_often_66 (by decide) ?_
            refine f_iadd hC dX5_often_70 ?_
            refine f_istore_n (L' := [(2, .int (s22.1 + 1)), (0, .ref a0), (1, .int x1), (3, .int s10.2), (4, .int s22.2)]) hC dX5_often_71 rfl (by decide) rfl ?_
            refine f_iinc (L' := [(4, .int (s22.2 + 1)), (2, .int (s22.1 + 1)), (0, .ref a0), (1, .int x1), (3, .int s10.2)]) hC dX5_often_72 4 rfl rfl (by decide) rfl ?_
            refine f_goto hC 42 dX5_often_75 (by decide) ?_
            obtain rfl := Option.some.inj h23
            refine f_sub (L' := [(0, .ref a0), (1, .int x1), (2, .int (s22.1 + 1)), (3, .int s10.2), (4, .int (s22.2 + 1))]) [2, 3, 1, 4, 0] rfl ?_
            exact go24 _ rfl
    · replace hF := fi_neg hF c9
      refine f_iconst (v := 0) hC dX5_often_23 (by decide) ?_
      obtain rfl := Option.some.inj hF
      exact f_iret hC hEn (fSm.rf w) dX5_often_24
  refine f_if_eq hC 12 dX5_often_5 (by decide) (fun c39 => ?_) (fun c39 => ?_)
  · replace h5 := fi_pos h5 c39
    refine f_iconst (v := 1) hC dX5_often_12 (by decide) ?_
    obtain rfl := Option.some.inj h5
    exact K7
  · replace h5 := fi_neg h5 c39
    refine f_iconst (v := 0) hC dX5_often_8 (by decide) ?_
    refine f_goto hC 13 dX5_often_9 (by decide) ?_
    obtain rfl := Option.some.inj h5
    exact K7
