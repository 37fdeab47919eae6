theorem dX5_goes_0 : decode cX5_goes 0 = .ok (.aload_n 0, 1) := by decide +kernel
theorem dX5_goes_1 : decode cX5_goes 1 = .ok (.iload_n 1, 1) := by decide +kernel
theorem dX5_goes_2 : decode cX5_goes 2 = .ok (.invokevirtual 135, 3) := by decide +kernel
theorem dX5_goes_5 : decode cX5_goes 5 = .ok (.ifCond .ne 5, 3) := by decide +kernel
theorem dX5_goes_8 : decode cX5_goes 8 = .ok (.iconst (-1), 1) := by decide +kernel
theorem dX5_goes_9 : decode cX5_goes 9 = .ok (.ireturn, 1) := by decide +kernel
theorem dX5_goes_10 : decode cX5_goes 10 = .ok (.aload_n 0, 1) := by decide +kernel
theorem dX5_goes_11 : decode cX5_goes 11 = .ok (.iload_n 1, 1) := by decide +kernel
theorem dX5_goes_12 : decode cX5_goes 12 = .ok (.iload_n 2, 1) := by decide +kernel
theorem dX5_goes_13 : decode cX5_goes 13 = .ok (.iconst 2, 1) := by decide +kernel
theorem dX5_goes_14 : decode cX5_goes 14 = .ok (.invokevirtual 78, 3) := by decide +kernel
theorem dX5_goes_17 : decode cX5_goes 17 = .ok (.iload_n 3, 1) := by decide +kernel
theorem dX5_goes_18 : decode cX5_goes 18 = .ok (.if_icmp .ne 10, 3) := by decide +kernel
theorem dX5_goes_21 : decode cX5_goes 21 = .ok (.aload_n 0, 1) := by decide +kernel
theorem dX5_goes_22 : decode cX5_goes 22 = .ok (.iconst 3, 1) := by decide +kernel
theorem dX5_goes_23 : decode cX5_goes 23 = .ok (.iconst 1, 1) := by decide +kernel
theorem dX5_goes_24 : decode cX5_goes 24 = .ok (.invokevirtual 122, 3) := by decide +kernel
theorem dX5_goes_27 : decode cX5_goes 27 = .ok (.ireturn, 1) := by decide +kernel
theorem dX5_goes_28 : decode cX5_goes 28 = .ok (.aload_n 0, 1) := by decide +kernel
theorem dX5_goes_29 : decode cX5_goes 29 = .ok (.iload_n 1, 1) := by decide +kernel
theorem dX5_goes_30 : decode cX5_goes 30 = .ok (.iload_n 2, 1) := by decide +kernel
theorem dX5_goes_31 : decode cX5_goes 31 = .ok (.iconst 2, 1) := by decide +kernel
theorem dX5_goes_32 : decode cX5_goes 32 = .ok (.iload_n 3, 1) := by decide +kernel
theorem dX5_goes_33 : decode cX5_goes 33 = .ok (.invokevirtual 128, 3) := by decide +kernel
theorem dX5_goes_36 : decode cX5_goes 36 = .ok (.aload_n 0, 1) := by decide +kernel
theorem dX5_goes_37 : decode cX5_goes 37 = .ok (.iload_n 1, 1) := by decide +kernel
theorem dX5_goes_38 : decode cX5_goes 38 = .ok (.bipush 10, 2) := by decide +kernel
theorem dX5_goes_40 : decode cX5_goes 40 = .ok (.invokevirtual 70, 3) := by decide +kernel
theorem dX5_goes_43 : decode cX5_goes 43 = .ok (.ifCond .ne 13, 3) := by decide +kernel
theorem dX5_goes_46 : decode cX5_goes 46 = .ok (.aload_n 0, 1) := by decide +kernel
theorem dX5_goes_47 : decode cX5_goes 47 = .ok (.iload_n 1, 1) := by decide +kernel
theorem dX5_goes_48 : decode cX5_goes 48 = .ok (.iconst 1, 1) := by decide +kernel
theorem dX5_goes_49 : decode cX5_goes 49 = .ok (.iload_n 2, 1) := by decide +kernel
theorem dX5_goes_50 : decode cX5_goes 50 = .ok (.isub, 1) := by decide +kernel
theorem dX5_goes_51 : decode cX5_goes 51 = .ok (.iconst 2, 1) := by decide +kernel
theorem dX5_goes_52 : decode cX5_goes 52 = .ok (.iload_n 3, 1) := by decide +kernel
theorem dX5_goes_53 : decode cX5_goes 53 = .ok (.invokevirtual 128, 3) := by decide +kernel
theorem dX5_goes_56 : decode cX5_goes 56 = .ok (.aload_n 0, 1) := by decide +kernel
theorem dX5_goes_57 : decode cX5_goes 57 = .ok (.aload_n 0, 1) := by decide +kernel
theorem dX5_goes_58 : decode cX5_goes 58 = .ok (.invokevirtual 154, 3) := by decide +kernel
theorem dX5_goes_61 : decode cX5_goes 61 = .ok (.invokevirtual 125, 3) := by decide +kernel
theorem dX5_goes_64 : decode cX5_goes 64 = .ok (.ireturn, 1) := by decide +kernel
theorem h9_X5_goes : yX5_goes.cls ≠ "java/lang/invoke/MethodHandle" ∧ yX5_goes.cls ≠ "java/lang/invoke/VarHandle" ∧ (parseMethodDescriptor yX5_goes.desc).map (fun d => d.parameters.length) = some 3 := by decide +kernel
noncomputable def F_X5_goes (a0 : Nat) (x1 : Int32) (x2 : Int32) (x3 : Int32) (w : FW) : Option (Int32 × FW) :=
  fg (w.1 a0 = 6) inferInstance ((F_X5_isTicket a0 x1 w).bind (fun r1 => (if r1 = 0 then some ((-1), w) else (F_X5_half a0 x1 x2 2 w).bind (fun r6 => (if r6 = x3 then (F_X5_refused a0 3 1 w).bind (fun r30 => some (r30.1, r30.2)) else (F_X5_setsHalf a0 x1 x2 2 x3 w).bind (fun r10 => (F_X5_of a0 x1 10 r10).bind (fun r13 => ((if r13 = 0 then (F_X5_setsHalf a0 x1 (1 - x2) 2 x3 r10).bind (fun r27 => some r27) else some r10) : Option (FW)).bind (fun x16 => (F_X5_lostMany a0 x16).bind (fun r20 => (F_X5_done a0 r20 x16).bind (fun r23 => some (r23.1, r23.2)))))))))))
set_option maxHeartbeats 4000000 in
set_option maxRecDepth 100000 in
theorem c_X5_goes (l : Launch) (D : va_G) (cy : Nat → ClassId) (a0 : Nat) (x1 : Int32) (x2 : Int32) (x3 : Int32) (w : FW) (r : Int32 × FW) (hF : F_X5_goes a0 x1 x2 x3 w = some r) : fSpec l D cy yX5_goes cX5_goes 4 (some .int) { frames := 3, cells := 0, slots := 0, locals := 67 } [.ref a0, .int x1, .int x2, .int x3] w r.2 (some (.int r.1)) := by
  refine f_begin (by decide +kernel) (Nat.le_of_ble_eq_true rfl) (fun X hC hEn => ?_)
  unfold F_X5_goes at hF
  show fAt X 0 0 4 w [(0, .ref a0), (1, .int x1), (2, .int x2), (3, .int x3)] [] 0
  refine f_aload_n hC dX5_goes_0 rfl 0 rfl ?_
  refine f_iload_n hC dX5_goes_1 rfl 1 rfl ?_
  obtain ⟨g3, hF⟩ := fg_open hF
  obtain ⟨r1, h2, hF⟩ := fb_open hF
  refine f_callV hC [.int x1] (c_X5_isTicket l D cy a0 x1 w r1 h2) q_1420 q_137 q_1417 q_1419 q_86 h9_X5_isTicket rfl (fSm.k (fSm.rf w) g3) ⟨Nat.le_of_ble_eq_true rfl, Nat.le_of_ble_eq_true rfl⟩ ⟨Nat.le_of_ble_eq_true rfl, Nat.le_of_ble_eq_true rfl⟩ (Nat.le_of_ble_eq_true rfl) rfl dX5_goes_2 (fun e4 => ?_)
  refine f_if_ne hC 10 dX5_goes_5 (by decide) (fun c5 => ?_) (fun c5 => ?_)
  · replace hF := fi_neg hF c5
    refine f_aload_n hC dX5_goes_10 rfl 0 rfl ?_
    refine f_iload_n hC dX5_goes_11 rfl 1 rfl ?_
    refine f_iload_n hC dX5_goes_12 rfl 2 rfl ?_
    refine f_iconst (v := 2) hC dX5_goes_13 (by decide) ?_
    obtain ⟨r6, h7, hF⟩ := fb_open hF
    refine f_callV hC [.int x1, .int x2, .int 2] (c_X5_half l D cy a0 x1 x2 2 w r6 h7) q_1483 q_137 q_1480 q_1482 q_96 h9_X5_half rfl (fSm.k (fSm.rf w) g3) ⟨Nat.le_of_ble_eq_true rfl, Nat.le_of_ble_eq_true rfl⟩ ⟨Nat.le_of_ble_eq_true rfl, Nat.le_of_ble_eq_true rfl⟩ (Nat.le_of_ble_eq_true rfl) rfl dX5_goes_14 (fun e8 => ?_)
    refine f_iload_n hC dX5_goes_17 rfl 3 rfl ?_
    refine f_icmp_ne hC 28 dX5_goes_18 (by decide) (fun c9 => ?_) (fun c9 => ?_)
    · replace hF := fi_neg hF c9
      refine f_aload_n hC dX5_goes_28 rfl 0 rfl ?_
      refine f_iload_n hC dX5_goes_29 rfl 1 rfl ?_
      refine f_iload_n hC dX5_goes_30 rfl 2 rfl ?_
      refine f_iconst (v := 2) hC dX5_goes_31 (by decide) ?_
      refine f_iload_n hC dX5_goes_32 rfl 3 rfl ?_
      obtain ⟨r10, h11, hF⟩ := fb_open hF
      refine f_callV hC [.int x1, .int x2, .int 2, .int x3] (c_X5_setsHalf l D cy a0 x1 x2 2 x3 w r10 h11) q_1408 q_137 q_1405 q_1407 q_84 h9_X5_setsHalf rfl (fSm.k (fSm.rf w) g3) ⟨Nat.le_of_ble_eq_true rfl, Nat.le_of_ble_eq_true rfl⟩ ⟨Nat.le_of_ble_eq_true rfl, Nat.le_of_ble_eq_true rfl⟩ (Nat.le_of_ble_eq_true rfl) rfl dX5_goes_33 (fun e12 => ?_)
      refine f_aload_n hC dX5_goes_36 rfl 0 rfl ?_
      refine f_iload_n hC dX5_goes_37 rfl 1 rfl ?_
      refine f_bipush (v := 10) hC dX5_goes_38 (by decide) ?_
      obtain ⟨r13, h14, hF⟩ := fb_open hF
      refine f_callV hC [.int x1, .int 10] (c_X5_of l D cy a0 x1 10 r10 r13 h14) q_1452 q_137 q_1449 q_1451 q_91 h9_X5_of rfl (fSm.k (fSm.tr e12 (fSm.rf w)) g3) ⟨Nat.le_of_ble_eq_true rfl, Nat.le_of_ble_eq_true rfl⟩ ⟨Nat.le_of_ble_eq_true rfl, Nat.le_of_ble_eq_true rfl⟩ (Nat.le_of_ble_eq_true rfl) rfl dX5_goes_40 (fun e15 => ?_)
      obtain ⟨x16, h17, hF⟩ := fb_open hF
      have K19 : fSm x16 w → fAt X 0 0 4 x16 [(0, .ref a0)] [] 56 := by
        intro p18
        refine f_aload_n hC dX5_goes_56 rfl 0 rfl ?_
        refine f_aload_n hC dX5_goes_57 rfl 0 rfl ?_
        obtain ⟨r20, h21, hF⟩ := fb_open hF
        refine f_callV hC [] (c_X5_lostMany l D cy a0 x16 r20 h21) q_1530 q_137 q_1527 q_1529 q_104 h9_X5_lostMany rfl (fSm.k p18 g3) ⟨Nat.le_of_ble_eq_true rfl, Nat.le_of_ble_eq_true rfl⟩ ⟨Nat.le_of_ble_eq_true rfl, Nat.le_of_ble_eq_true rfl⟩ (Nat.le_of_ble_eq_true rfl) rfl dX5_goes_58 (fun e22 => ?_)
        obtain ⟨r23, h24, hF⟩ := fb_open hF
        refine f_callV hC [.int r20] (c_X5_done l D cy a0 r20 x16 r23 h24) q_1368 q_137 q_1365 q_1367 q_76 h9_X5_done rfl (fSm.k p18 g3) ⟨Nat.le_of_ble_eq_true rfl, Nat.le_of_ble_eq_true rfl⟩ ⟨Nat.le_of_ble_eq_true rfl, Nat.le_of_ble_eq_true rfl⟩ (Nat.le_of_ble_eq_true rfl) rfl dX5_goes_61 (fun e25 => ?_)
        obtain rfl := Option.some.inj hF
        exact f_iret hC hEn (fSm.tr e25 p18) dX5_goes_64
      refine f_if_ne hC 56 dX5_goes_43 (by decide) (fun c26 => ?_) (fun c26 => ?_)
      · replace h17 := fi_neg h17 c26
        obtain rfl := Option.some.inj h17
        refine f_sub (L' := [(0, .ref a0)]) [0] rfl ?_
        exact K19 (fSm.tr e12 (fSm.rf w))
      · replace h17 := fi_pos h17 c26
        refine f_aload_n hC dX5_goes_46 rfl 0 rfl ?_
        refine f_iload_n hC dX5_goes_47 rfl 1 rfl ?_
        refine f_iconst (v := 1) hC dX5_goes_48 (by decide) ?_
        refine f_iload_n hC dX5_goes_49 rfl 2 rfl ?_
        refine f_isub hC dX5_goes_50 ?_
        refine f_iconst (v := 2) hC dX5_goes_51 (by decide) ?_
        refine f_iload_n hC dX5_goes_52 rfl 3 rfl ?_
        obtain ⟨r27, h28, h17⟩ := fb_open h17
        refine f_callV hC [.int x1, .int (1 - x2), .int 2, .int x3] (c_X5_setsHalf l D cy a0 x1 (1 - x2) 2 x3 r10 r27 h28) q_1408 q_137 q_1405 q_1407 q_84 h9_X5_setsHalf rfl (fSm.k (fSm.tr e12 (fSm.rf w)) g3) ⟨Nat.le_of_ble_eq_true rfl, Nat.le_of_ble_eq_true rfl⟩ ⟨Nat.le_of_ble_eq_true rfl, Nat.le_of_ble_eq_true rfl⟩ (Nat.le_of_ble_eq_true rfl) rfl dX5_goes_53 (fun e29 => ?_)
        obtain rfl := Option.some.inj h17
        refine f_sub (L' := [(0, .ref a0)]) [0] rfl ?_
        exact K19 (fSm.tr e29 (fSm.tr e12 (fSm.rf w)))
    · replace hF := fi_pos hF c9
      refine f_aload_n hC dX5_goes_21 rfl 0 rfl ?_
      refine f_iconst (v := 3) hC dX5_goes_22 (by decide) ?_
      refine f_iconst (v := 1) hC dX5_goes_23 (by decide) ?_
      obtain ⟨r30, h31, hF⟩ := fb_open hF
      refine f_callV hC [.int 3, .int 1] (c_X5_refused l D cy a0 3 1 w r30 h31) q_1364 q_137 q_1361 q_1363 q_75 h9_X5_refused rfl (fSm.k (fSm.rf w) g3) ⟨Nat.le_of_ble_eq_true rfl, Nat.le_of_ble_eq_true rfl⟩ ⟨Nat.le_of_ble_eq_true rfl, Nat.le_of_ble_eq_true rfl⟩ (Nat.le_of_ble_eq_true rfl) rfl dX5_goes_24 (fun e32 => ?_)
      obtain rfl := Option.some.inj hF
      exact f_iret hC hEn (fSm.tr e32 (fSm.rf w)) dX5_goes_27
  · replace hF := fi_pos hF c5
    refine f_iconst (v := (-1)) hC dX5_goes_8 (by decide) ?_
    obtain rfl := Option.some.inj hF
    exact f_iret hC hEn (fSm.rf w) dX5_goes_9
theorem dX5_hindrance_0 : decode cX5_hindrance 0 = .ok (.aload_n 0, 1) := by decide +kernel
theorem dX5_hindrance_1 : decode cX5_hindrance 1 = .ok (.iload_n 1, 1) := by decide +kernel
theorem dX5_hindrance_2 : decode cX5_hindrance 2 = .ok (.bipush 11, 2) := by decide +kernel
theorem dX5_hindrance_4 : decode cX5_hindrance 4 = .ok (.invokevirtual 70, 3) := by decide +kernel
theorem dX5_hindrance_7 : decode cX5_hindrance 7 = .ok (.istore_n 3, 1) := by decide +kernel
theorem dX5_hindrance_8 : decode cX5_hindrance 8 = .ok (.aload_n 0, 1) := by decide +kernel
theorem dX5_hindrance_9 : decode cX5_hindrance 9 = .ok (.iload_n 1, 1) := by decide +kernel
theorem dX5_hindrance_10 : decode cX5_hindrance 10 = .ok (.bipush 7, 2) := by decide +kernel
theorem dX5_hindrance_12 : decode cX5_hindrance 12 = .ok (.invokevirtual 70, 3) := by decide +kernel
theorem dX5_hindrance_15 : decode cX5_hindrance 15 = .ok (.aload_n 0, 1) := by decide +kernel
theorem dX5_hindrance_16 : decode cX5_hindrance 16 = .ok (.iload_n 1, 1) := by decide +kernel
theorem dX5_hindrance_17 : decode cX5_hindrance 17 = .ok (.bipush 8, 2) := by decide +kernel
theorem dX5_hindrance_19 : decode cX5_hindrance 19 = .ok (.invokevirtual 70, 3) := by decide +kernel
theorem dX5_hindrance_22 : decode cX5_hindrance 22 = .ok (.if_icmp .ge 13, 3) := by decide +kernel
theorem dX5_hindrance_25 : decode cX5_hindrance 25 = .ok (.aload_n 0, 1) := by decide +kernel
theorem dX5_hindrance_26 : decode cX5_hindrance 26 = .ok (.iload_n 1, 1) := by decide +kernel
theorem dX5_hindrance_27 : decode cX5_hindrance 27 = .ok (.bipush 7, 2) := by decide +kernel
theorem dX5_hindrance_29 : decode cX5_hindrance 29 = .ok (.invokevirtual 70, 3) := by decide +kernel
theorem dX5_hindrance_32 : decode cX5_hindrance 32 = .ok (.goto 10, 3) := by decide +kernel
theorem dX5_hindrance_35 : decode cX5_hindrance 35 = .ok (.aload_n 0, 1) := by decide +kernel
theorem dX5_hindrance_36 : decode cX5_hindrance 36 = .ok (.iload_n 1, 1) := by decide +kernel
theorem dX5_hindrance_37 : decode cX5_hindrance 37 = .ok (.bipush 8, 2) := by decide +kernel
theorem dX5_hindrance_39 : decode cX5_hindrance 39 = .ok (.invokevirtual 70, 3) := by decide +kernel
theorem dX5_hindrance_42 : decode cX5_hindrance 42 = .ok (.istore 4, 2) := by decide +kernel
theorem dX5_hindrance_44 : decode cX5_hindrance 44 = .ok (.aload_n 0, 1) := by decide +kernel
theorem dX5_hindrance_45 : decode cX5_hindrance 45 = .ok (.iload_n 1, 1) := by decide +kernel
theorem dX5_hindrance_46 : decode cX5_hindrance 46 = .ok (.bipush 7, 2) := by decide +kernel
theorem dX5_hindrance_48 : decode cX5_hindrance 48 = .ok (.invokevirtual 70, 3) := by decide +kernel
theorem dX5_hindrance_51 : decode cX5_hindrance 51 = .ok (.aload_n 0, 1) := by decide +kernel
theorem dX5_hindrance_52 : decode cX5_hindrance 52 = .ok (.iload_n 1, 1) := by decide +kernel
theorem dX5_hindrance_53 : decode cX5_hindrance 53 = .ok (.bipush 8, 2) := by decide +kernel
theorem dX5_hindrance_55 : decode cX5_hindrance 55 = .ok (.invokevirtual 70, 3) := by decide +kernel
theorem dX5_hindrance_58 : decode cX5_hindrance 58 = .ok (.iadd, 1) := by decide +kernel
theorem dX5_hindrance_59 : decode cX5_hindrance 59 = .ok (.iload 4, 2) := by decide +kernel
theorem dX5_hindrance_61 : decode cX5_hindrance 61 = .ok (.isub, 1) := by decide +kernel
theorem dX5_hindrance_62 : decode cX5_hindrance 62 = .ok (.istore 5, 2) := by decide +kernel
theorem dX5_hindrance_64 : decode cX5_hindrance 64 = .ok (.aload_n 0, 1) := by decide +kernel
theorem dX5_hindrance_65 : decode cX5_hindrance 65 = .ok (.iload_n 1, 1) := by decide +kernel
theorem dX5_hindrance_66 : decode cX5_hindrance 66 = .ok (.iload_n 2, 1) := by decide +kernel
theorem dX5_hindrance_67 : decode cX5_hindrance 67 = .ok (.iconst 2, 1) := by decide +kernel
theorem dX5_hindrance_68 : decode cX5_hindrance 68 = .ok (.invokevirtual 78, 3) := by decide +kernel
theorem dX5_hindrance_71 : decode cX5_hindrance 71 = .ok (.iconst 1, 1) := by decide +kernel
theorem dX5_hindrance_72 : decode cX5_hindrance 72 = .ok (.if_icmp .ne 10, 3) := by decide +kernel
theorem dX5_hindrance_75 : decode cX5_hindrance 75 = .ok (.aload_n 0, 1) := by decide +kernel
theorem dX5_hindrance_76 : decode cX5_hindrance 76 = .ok (.iconst 4, 1) := by decide +kernel
theorem dX5_hindrance_77 : decode cX5_hindrance 77 = .ok (.iload_n 2, 1) := by decide +kernel
theorem dX5_hindrance_78 : decode cX5_hindrance 78 = .ok (.invokevirtual 122, 3) := by decide +kernel
theorem dX5_hindrance_81 : decode cX5_hindrance 81 = .ok (.ireturn, 1) := by decide +kernel
theorem dX5_hindrance_82 : decode cX5_hindrance 82 = .ok (.aload_n 0, 1) := by decide +kernel
theorem dX5_hindrance_83 : decode cX5_hindrance 83 = .ok (.iload_n 1, 1) := by decide +kernel
theorem dX5_hindrance_84 : decode cX5_hindrance 84 = .ok (.iload_n 2, 1) := by decide +kernel
theorem dX5_hindrance_85 : decode cX5_hindrance 85 = .ok (.invokevirtual 92, 3) := by decide +kernel
theorem dX5_hindrance_88 : decode cX5_hindrance 88 = .ok (.ifCond .ne 10, 3) := by decide +kernel
theorem dX5_hindrance_91 : decode cX5_hindrance 91 = .ok (.aload_n 0, 1) := by decide +kernel
theorem dX5_hindrance_92 : decode cX5_hindrance 92 = .ok (.iconst 5, 1) := by decide +kernel
theorem dX5_hindrance_93 : decode cX5_hindrance 93 = .ok (.iload_n 2, 1) := by decide +kernel
theorem dX5_hindrance_94 : decode cX5_hindrance 94 = .ok (.invokevirtual 122, 3) := by decide +kernel
theorem dX5_hindrance_97 : decode cX5_hindrance 97 = .ok (.ireturn, 1) := by decide +kernel
theorem dX5_hindrance_98 : decode cX5_hindrance 98 = .ok (.aload_n 0, 1) := by decide +kernel
theorem dX5_hindrance_99 : decode cX5_hindrance 99 = .ok (.iload_n 1, 1) := by decide +kernel
theorem dX5_hindrance_100 : decode cX5_hindrance 100 = .ok (.iload_n 2, 1) := by decide +kernel
theorem dX5_hindrance_101 : decode cX5_hindrance 101 = .ok (.iconst 3, 1) := by decide +kernel
theorem dX5_hindrance_102 : decode cX5_hindrance 102 = .ok (.invokevirtual 78, 3) := by decide +kernel
theorem dX5_hindrance_105 : decode cX5_hindrance 105 = .ok (.iconst 1, 1) := by decide +kernel
theorem dX5_hindrance_106 : decode cX5_hindrance 106 = .ok (.if_icmp .ne 11, 3) := by decide +kernel
theorem dX5_hindrance_109 : decode cX5_hindrance 109 = .ok (.aload_n 0, 1) := by decide +kernel
theorem dX5_hindrance_110 : decode cX5_hindrance 110 = .ok (.bipush 6, 2) := by decide +kernel
theorem dX5_hindrance_112 : decode cX5_hindrance 112 = .ok (.iload_n 2, 1) := by decide +kernel
theorem dX5_hindrance_113 : decode cX5_hindrance 113 = .ok (.invokevirtual 122, 3) := by decide +kernel
theorem dX5_hindrance_116 : decode cX5_hindrance 116 = .ok (.ireturn, 1) := by decide +kernel
theorem dX5_hindrance_117 : decode cX5_hindrance 117 = .ok (.iload_n 2, 1) := by decide +kernel
theorem dX5_hindrance_118 : decode cX5_hindrance 118 = .ok (.iconst 1, 1) := by decide +kernel
theorem dX5_hindrance_119 : decode cX5_hindrance 119 = .ok (.if_icmp .ne 21, 3) := by decide +kernel
theorem dX5_hindrance_122 : decode cX5_hindrance 122 = .ok (.iload_n 3, 1) := by decide +kernel
theorem dX5_hindrance_123 : decode cX5_hindrance 123 = .ok (.iconst (-1), 1) := by decide +kernel
theorem dX5_hindrance_124 : decode cX5_hindrance 124 = .ok (.if_icmp .ne 16, 3) := by decide +kernel
theorem dX5_hindrance_127 : decode cX5_hindrance 127 = .ok (.aload_n 0, 1) := by decide +kernel
theorem dX5_hindrance_128 : decode cX5_hindrance 128 = .ok (.bipush 7, 2) := by decide +kernel
theorem dX5_hindrance_130 : decode cX5_hindrance 130 = .ok (.aload_n 0, 1) := by decide +kernel
theorem dX5_hindrance_131 : decode cX5_hindrance 131 = .ok (.getfield 7, 3) := by decide +kernel
theorem dX5_hindrance_134 : decode cX5_hindrance 134 = .ok (.iconst 1, 1) := by decide +kernel
theorem dX5_hindrance_135 : decode cX5_hindrance 135 = .ok (.iaload, 1) := by decide +kernel
theorem dX5_hindrance_136 : decode cX5_hindrance 136 = .ok (.invokevirtual 122, 3) := by decide +kernel
theorem dX5_hindrance_139 : decode cX5_hindrance 139 = .ok (.ireturn, 1) := by decide +kernel
theorem dX5_hindrance_140 : decode cX5_hindrance 140 = .ok (.iload_n 2, 1) := by decide +kernel
theorem dX5_hindrance_141 : decode cX5_hindrance 141 = .ok (.iconst 1, 1) := by decide +kernel
theorem dX5_hindrance_142 : decode cX5_hindrance 142 = .ok (.if_icmp .ne 36, 3) := by decide +kernel
theorem dX5_hindrance_145 : decode cX5_hindrance 145 = .ok (.aload_n 0, 1) := by decide +kernel
theorem dX5_hindrance_146 : decode cX5_hindrance 146 = .ok (.getfield 7, 3) := by decide +kernel
theorem dX5_hindrance_149 : decode cX5_hindrance 149 = .ok (.iconst 1, 1) := by decide +kernel
theorem dX5_hindrance_150 : decode cX5_hindrance 150 = .ok (.iaload, 1) := by decide +kernel
theorem dX5_hindrance_151 : decode cX5_hindrance 151 = .ok (.iload_n 3, 1) := by decide +kernel
theorem dX5_hindrance_152 : decode cX5_hindrance 152 = .ok (.isub, 1) := by decide +kernel
theorem dX5_hindrance_153 : decode cX5_hindrance 153 = .ok (.aload_n 0, 1) := by decide +kernel
theorem dX5_hindrance_154 : decode cX5_hindrance 154 = .ok (.iload_n 1, 1) := by decide +kernel
theorem dX5_hindrance_155 : decode cX5_hindrance 155 = .ok (.bipush 9, 2) := by decide +kernel
theorem dX5_hindrance_157 : decode cX5_hindrance 157 = .ok (.invokevirtual 70, 3) := by decide +kernel
theorem dX5_hindrance_160 : decode cX5_hindrance 160 = .ok (.if_icmp .le 18, 3) := by decide +kernel
theorem dX5_hindrance_163 : decode cX5_hindrance 163 = .ok (.aload_n 0, 1) := by decide +kernel
theorem dX5_hindrance_164 : decode cX5_hindrance 164 = .ok (.bipush 8, 2) := by decide +kernel
theorem dX5_hindrance_166 : decode cX5_hindrance 166 = .ok (.aload_n 0, 1) := by decide +kernel
theorem dX5_hindrance_167 : decode cX5_hindrance 167 = .ok (.getfield 7, 3) := by decide +kernel
theorem dX5_hindrance_170 : decode cX5_hindrance 170 = .ok (.iconst 1, 1) := by decide +kernel
theorem dX5_hindrance_171 : decode cX5_hindrance 171 = .ok (.iaload, 1) := by decide +kernel
theorem dX5_hindrance_172 : decode cX5_hindrance 172 = .ok (.iload_n 3, 1) := by decide +kernel
theorem dX5_hindrance_173 : decode cX5_hindrance 173 = .ok (.isub, 1) := by decide +kernel
theorem dX5_hindrance_174 : decode cX5_hindrance 174 = .ok (.invokevirtual 122, 3) := by decide +kernel
theorem dX5_hindrance_177 : decode cX5_hindrance 177 = .ok (.ireturn, 1) := by decide +kernel
theorem dX5_hindrance_178 : decode cX5_hindrance 178 = .ok (.aload_n 0, 1) := by decide +kernel
theorem dX5_hindrance_179 : decode cX5_hindrance 179 = .ok (.iload 4, 2) := by decide +kernel
theorem dX5_hindrance_181 : decode cX5_hindrance 181 = .ok (.invokevirtual 138, 3) := by decide +kernel
theorem dX5_hindrance_184 : decode cX5_hindrance 184 = .ok (.ifCond .eq 12, 3) := by decide +kernel
theorem dX5_hindrance_187 : decode cX5_hindrance 187 = .ok (.aload_n 0, 1) := by decide +kernel
theorem dX5_hindrance_188 : decode cX5_hindrance 188 = .ok (.bipush 9, 2) := by decide +kernel
theorem dX5_hindrance_190 : decode cX5_hindrance 190 = .ok (.iload 4, 2) := by decide +kernel
theorem dX5_hindrance_192 : decode cX5_hindrance 192 = .ok (.invokevirtual 122, 3) := by decide +kernel
theorem dX5_hindrance_195 : decode cX5_hindrance 195 = .ok (.ireturn, 1) := by decide +kernel
theorem dX5_hindrance_196 : decode cX5_hindrance 196 = .ok (.aload_n 0, 1) := by decide +kernel
theorem dX5_hindrance_197 : decode cX5_hindrance 197 = .ok (.iload 5, 2) := by decide +kernel
theorem dX5_hindrance_199 : decode cX5_hindrance 199 = .ok (.invokevirtual 138, 3) := by decide +kernel
theorem dX5_hindrance_202 : decode cX5_hindrance 202 = .ok (.ifCond .eq 12, 3) := by decide +kernel
theorem dX5_hindrance_205 : decode cX5_hindrance 205 = .ok (.aload_n 0, 1) := by decide +kernel
theorem dX5_hindrance_206 : decode cX5_hindrance 206 = .ok (.bipush 9, 2) := by decide +kernel
theorem dX5_hindrance_208 : decode cX5_hindrance 208 = .ok (.iload 5, 2) := by decide +kernel
theorem dX5_hindrance_210 : decode cX5_hindrance 210 = .ok (.invokevirtual 122, 3) := by decide +kernel
theorem dX5_hindrance_213 : decode cX5_hindrance 213 = .ok (.ireturn, 1) := by decide +kernel
theorem dX5_hindrance_214 : decode cX5_hindrance 214 = .ok (.aload_n 0, 1) := by decide +kernel
theorem dX5_hindrance_215 : decode cX5_hindrance 215 = .ok (.iload_n 1, 1) := by decide +kernel
theorem dX5_hindrance_216 : decode cX5_hindrance 216 = .ok (.iload_n 2, 1) := by decide +kernel
theorem dX5_hindrance_217 : decode cX5_hindrance 217 = .ok (.invokevirtual 157, 3) := by decide +kernel
theorem dX5_hindrance_220 : decode cX5_hindrance 220 = .ok (.ifCond .eq 7, 3) := by decide +kernel
theorem dX5_hindrance_223 : decode cX5_hindrance 223 = .ok (.iconst 0, 1) := by decide +kernel
theorem dX5_hindrance_224 : decode cX5_hindrance 224 = .ok (.goto 15, 3) := by decide +kernel
theorem dX5_hindrance_227 : decode cX5_hindrance 227 = .ok (.aload_n 0, 1) := by decide +kernel
theorem dX5_hindrance_228 : decode cX5_hindrance 228 = .ok (.bipush 10, 2) := by decide +kernel
theorem dX5_hindrance_230 : decode cX5_hindrance 230 = .ok (.aload_n 0, 1) := by decide +kernel
theorem dX5_hindrance_231 : decode cX5_hindrance 231 = .ok (.iload_n 1, 1) := by decide +kernel
theorem dX5_hindrance_232 : decode cX5_hindrance 232 = .ok (.iload_n 2, 1) := by decide +kernel
theorem dX5_hindrance_233 : decode cX5_hindrance 233 = .ok (.invokevirtual 160, 3) := by decide +kernel
theorem dX5_hindrance_236 : decode cX5_hindrance 236 = .ok (.invokevirtual 122, 3) := by decide +kernel
theorem dX5_hindrance_239 : decode cX5_hindrance 239 = .ok (.ireturn, 1) := by decide +kernel
theorem h9_X5_hindrance : yX5_hindrance.cls ≠ "java/lang/invoke/MethodHandle" ∧ yX5_hindrance.cls ≠ "java/lang/invoke/VarHandle" ∧ (parseMethodDescriptor yX5_hindrance.desc).map (fun d => d.parameters.length) = some 2 := by decide +kernel
noncomputable def F_X5_hindrance (a0 : Nat) (x1 : Int32) (x2 : Int32) (w : FW) : Option (Int32 × FW) :=
  fg (w.1 a0 = 6) inferInstance ((F_X5_of a0 x1 11 w).bind (fun r1 => (F_X5_of a0 x1 7 w).bind (fun r5 => (F_X5_of a0 x1 8 w).bind (fun r8 => ((if r8 ≤ r5 then (F_X5_of a0 x1 8 w).bind (fun r166 => some r166) else (F_X5_of a0 x1 7 w).bind (fun r169 => some r169)) : Option (Int32)).bind (fun x11 => (F_X5_of a0 x1 7 w).bind (fun r15 => (F_X5_of a0 x1 8 w).bind (fun r18 => (F_X5_half a0 x1 x2 2 w).bind (fun r21 => (if r21 = 1 then (F_X5_refused a0 4 x2 w).bind (fun r162 => some (r162.1, r162.2)) else (F_X5_isPunched a0 x1 x2 w).bind (fun r25 => (if r25 = 0 then (F_X5_refused a0 5 x2 w).bind (fun r159 => some (r159.1, r159.2)) else (F_X5_half a0 x1 x2 3 w).bind (fun r29 => (if r29 = 1 then (F_X5_refused a0 6 x2 w).bind (fun r156 => some (r156.1, r156.2)) else (if x2 = 1 then (if r1 = (-1) then fg (w.1 (gR w 501 a0 0) = 11) inferInstance (fg (¬ ((1 : Int32) < 0 ∨ w.2.1 (gR w 501 a0 0) ≤ Int32.toNatClampNeg 1)) inferInstance ((F_X5_refused a0 7 (gI w 601 (gR w 501 a0 0) (Int32.toNatClampNeg 1)) w).bind (fun r153 => some (r153.1, r153.2)))) else (if x2 = 1 then fg (w.1 (gR w 501 a0 0) = 11) inferInstance (fg (¬ ((1 : Int32) < 0 ∨ w.2.1 (gR w 501 a0 0) ≤ Int32.toNatClampNeg 1)) inferInstance ((F_X5_of a0 x1 9 w).bind (fun r120 => (if ((gI w 601 (gR w 501 a0 0) (Int32.toNatClampNeg 1)) - r1) ≤ r120 then (F_X5_isClosed a0 x11 w).bind (fun r124 => (if r124 = 0 then (F_X5_isClosed a0 ((r15 + r18) - x11) w).bind (fun r128 => (if r128 = 0 then (F_X5_isRead a0 x1 x2 w).bind (fun r132 => (if r132 = 0 then (F_X5_firstUnlike a0 x1 x2 w).bind (fun r136 => (F_X5_refused a0 10 r136 w).bind (fun r139 => some (r139.1, r139.2))) else some (0, w))) else (F_X5_refused a0 9 ((r15 + r18) - x11) w).bind (fun r142 => some (r142.1, r142.2)))) else (F_X5_refused a0 9 x11 w).bind (fun r145 => some (r145.1, r145.2)))) else (F_X5_refused a0 8 ((gI w 601 (gR w 501 a0 0) (Int32.toNatClampNeg 1)) - r1) w).bind (fun r148 => some (r148.1, r148.2)))))) else (F_X5_isClosed a0 x11 w).bind (fun r94 => (if r94 = 0 then (F_X5_isClosed a0 ((r15 + r18) - x11) w).bind (fun r98 => (if r98 = 0 then (F_X5_isRead a0 x1 x2 w).bind (fun r102 => (if r102 = 0 then (F_X5_firstUnlike a0 x1 x2 w).bind (fun r106 => (F_X5_refused a0 10 r106 w).bind (fun r109 => some (r109.1, r109.2))) else some (0, w))) else (F_X5_refused a0 9 ((r15 + r18) - x11) w).bind (fun r112 => some (r112.1, r112.2)))) else (F_X5_refused a0 9 x11 w).bind (fun r115 => some (r115.1, r115.2)))))) else (if x2 = 1 then fg (w.1 (gR w 501 a0 0) = 11) inferInstance (fg (¬ ((1 : Int32) < 0 ∨ w.2.1 (gR w 501 a0 0) ≤ Int32.toNatClampNeg 1)) inferInstance ((F_X5_of a0 x1 9 w).bind (fun r61 => (if ((gI w 601 (gR w 501 a0 0) (Int32.toNatClampNeg 1)) - r1) ≤ r61 then (F_X5_isClosed a0 x11 w).bind (fun r65 => (if r65 = 0 then (F_X5_isClosed a0 ((r15 + r18) - x11) w).bind (fun r69 => (if r69 = 0 then (F_X5_isRead a0 x1 x2 w).bind (fun r73 => (if r73 = 0 then (F_X5_firstUnlike a0 x1 x2 w).bind (fun r77 => (F_X5_refused a0 10 r77 w).bind (fun r80 => some (r80.1, r80.2))) else some (0, w))) else (F_X5_refused a0 9 ((r15 + r18) - x11) w).bind (fun r83 => some (r83.1, r83.2)))) else (F_X5_refused a0 9 x11 w).bind (fun r86 => some (r86.1, r86.2)))) else (F_X5_refused a0 8 ((gI w 601 (gR w 501 a0 0) (Int32.toNatClampNeg 1)) - r1) w).bind (fun r89 => some (r89.1, r89.2)))))) else (F_X5_isClosed a0 x11 w).bind (fun r35 => (if r35 = 0 then (F_X5_isClosed a0 ((r15 + r18) - x11) w).bind (fun r39 => (if r39 = 0 then (F_X5_isRead a0 x1 x2 w).bind (fun r43 => (if r43 = 0 then (F_X5_firstUnlike a0 x1 x2 w).bind (fun r47 => (F_X5_refused a0 10 r47 w).bind (fun r50 => some (r50.1, r50.2))) else some (0, w))) else (F_X5_refused a0 9 ((r15 + r18) - x11) w).bind (fun r53 => some (r53.1, r53.2)))) else (F_X5_refused a0 9 x11 w).bind (fun r56 => some (r56.1, r56.2)))))))))))))))))))
set_option maxHeartbeats 4000000 in
set_option maxRecDepth 100000 in
theorem c_X5_hindrance (l : Launch) (D : va_G) (cy : Nat → ClassId) (a0 : Nat) (x1 : Int32) (x2 : Int32) (w : FW) (r : Int32 × FW) (hF : F_X5_hindrance a0 x1 x2 w = some r) : fSpec l D cy yX5_hindrance cX5_hindrance 6 (some .int) { frames := 8, cells := 0, slots := 0, locals := 190 } [.ref a0, .int x1, .int x2] w r.2 (some (.int r.1)) := by
  refine f_begin (by decide +kernel) (Nat.le_of_ble_eq_true rfl) (fun X hC hEn => ?_)
  unfold F_X5_hindrance at hF
  show fAt X 0 0 6 w [(0, .ref a0), (1, .int x1), (2, .int x2)] [] 0
  refine f_aload_n hC dX5_hindrance_0 rfl 0 rfl ?_
  refine f_iload_n hC dX5_hindrance_1 rfl 1 rfl ?_
  refine f_bipush (v := 11) hC dX5_hindrance_2 (by decide) ?_
  obtain ⟨g3, hF⟩ := fg_open hF
  obtain ⟨r1, h2, hF⟩ := fb_open hF
  refine f_callV hC [.int x1, .int 11] (c_X5_of l D cy a0 x1 11 w r1 h2) q_1452 q_137 q_1449 q_1451 q_91 h9_X5_of rfl (fSm.k (fSm.rf w) g3) ⟨Nat.le_of_ble_eq_true rfl, Nat.le_of_ble_eq_true rfl⟩ ⟨Nat.le_of_ble_eq_true rfl, Nat.le_of_ble_eq_true rfl⟩ (Nat.le_of_ble_eq_true rfl) rfl dX5_hindrance_4 (fun e4 => ?_)
  refine f_istore_n (L' := [(3, .int r1), (0, .ref a0), (1, .int x1), (2, .int x2)]) hC dX5_hindrance_7 rfl (by decide) rfl ?_
  refine f_aload_n hC dX5_hindrance_8 rfl 1 rfl ?_
  refine f_iload_n hC dX5_hindrance_9 rfl 2 rfl ?_
  refine f_bipush (v := 7) hC dX5_hindrance_10 (by decide) ?_
  obtain ⟨r5, h6, hF⟩ := fb_open hF
  refine f_callV hC [.int x1, .int 7] (c_X5_of l D cy a0 x1 7 w r5 h6) q_1452 q_137 q_1449 q_1451 q_91 h9_X5_of rfl (fSm.k (fSm.rf w) g3) ⟨Nat.le_of_ble_eq_true rfl, Nat.le_of_ble_eq_true rfl⟩ ⟨Nat.le_of_ble_eq_true rfl, Nat.le_of_ble_eq_true rfl⟩ (Nat.le_of_ble_eq_true rfl) rfl dX5_hindrance_12 (fun e7 => ?_)
  refine f_aload_n hC dX5_hindrance_15 rfl 1 rfl ?_
  refine f_iload_n hC dX5_hindrance_16 rfl 2 rfl ?_
  refine f_bipush (v := 8) hC dX5_hindrance_17 (by decide) ?_
  obtain ⟨r8, h9, hF⟩ := fb_open hF
  refine f_callV hC [.int x1, .int 8] (c_X5_of l D cy a0 x1 8 w r8 h9) q_1452 q_137 q_1449 q_1451 q_91 h9_X5_of rfl (fSm.k (fSm.rf w) g3) ⟨Nat.le_of_ble_eq_true rfl, Nat.le_of_ble_eq_true rfl⟩ ⟨Nat.le_of_ble_eq_true rfl, Nat.le_of_ble_eq_true rfl⟩ (Nat.le_of_ble_eq_true rfl) rfl dX5_hindrance_19 (fun e10 => ?_)
  obtain ⟨x11, h12, hF⟩ := fb_open hF
  have K14 : fAt X 0 0 6 w [(0, .ref a0), (1, .int x1), (2, .int x2), (3, .int r1)] [.int x11] 42 := by
    refine f_istore (L' := [(4, .int x11), (0, .ref a0), (1, .int x1), (2, .int x2), (3, .int r1)]) hC dX5_hindrance_42 (by decide) rfl ?_
    refine f_aload_n hC dX5_hindrance_44 rfl 1 rfl ?_
    refine f_iload_n hC dX5_hindrance_45 rfl 2 rfl ?_
    refine f_bipush (v := 7) hC dX5_hindrance_46 (by decide) ?_
    obtain ⟨r15, h16, hF⟩ := fb_open hF
    refine f_callV hC [.int x1, .int 7] (c_X5_of l D cy a0 x1 7 w r15 h16) q_1452 q_137 q_1449 q_1451 q_91 h9_X5_of rfl (fSm.k (fSm.rf w) g3) ⟨Nat.le_of_ble_eq_true rfl, Nat.le_of_ble_eq_true rfl⟩ ⟨Nat.le_of_ble_eq_true rfl, Nat.le_of_ble_eq_true rfl⟩ (Nat.le_of_ble_eq_true rfl) rfl dX5_hindrance_48 (fun e17 => ?_)
    refine f_aload_n hC dX5_hindrance_51 rfl 1 rfl ?_
    refine f_iload_n hC dX5_hindrance_52 rfl 2 rfl ?_
    refine f_bipush (v := 8) hC dX5_hindrance_53 (by decide) ?_
    obtain ⟨r18, h19, hF⟩ := fb_open hF
    refine f_callV hC [.int x1, .int 8] (c_X5_of l D cy a0 x1 8 w r18 h19) q_1452 q_137 q_1449 q_1451 q_91 h9_X5_of rfl (fSm.k (fSm.rf w) g3) ⟨Nat.le_of_ble_eq_true rfl, Nat.le_of_ble_eq_true rfl⟩ ⟨Nat.le_of_ble_eq_true rfl, Nat.le_of_ble_eq_true rfl⟩ (Nat.le_of_ble_eq_true rfl) rfl dX5_hindrance_55 (fun e20 => ?_)
    refine f_iadd hC dX5_hindrance_58 ?_
    refine f_iload hC dX5_hindrance_59 0 rfl ?_
    refine f_isub hC dX5_hindrance_61 ?_
    refine f_istore (L' := [(5, .int ((r15 + r18) - x11)), (4, .int x11), (0, .ref a0), (1, .int x1), (2, .int x2), (3, .int r1)]) hC dX5_hindrance_62 (by decide) rfl ?_
    refine f_aload_n hC dX5_hindrance_64 rfl 2 rfl ?_
    refine f_iload_n hC dX5_hindrance_65 rfl 3 rfl ?_
    refine f_iload_n hC dX5_hindrance_66 rfl 4 rfl ?_
    refine f_iconst (v := 2) hC dX5_hindrance_67 (by decide) ?_
    obtain ⟨r21, h22, hF⟩ := fb_open hF
    refine f_callV hC [.int x1, .int x2, .int 2] (c_X5_half l D cy a0 x1 x2 2 w r21 h22) q_1483 q_137 q_1480 q_1482 q_96 h9_X5_half rfl (fSm.k (fSm.rf w) g3) ⟨Nat.le_of_ble_eq_true rfl, Nat.le_of_ble_eq_true rfl⟩ ⟨Nat.le_of_ble_eq_true rfl, Nat.le_of_ble_eq_true rfl⟩ (Nat.le_of_ble_eq_true rfl) rfl dX5_hindrance_68 (fun e23 => ?_)
    refine f_iconst (v := 1) hC dX5_hindrance_71 (by decide) ?_
    refine f_icmp_ne hC 82 dX5_hindrance_72 (by decide) (fun c24 => ?_) (fun c24 => ?_)
    · replace hF := fi_neg hF c24
      refine f_aload_n hC dX5_hindrance_82 rfl 2 rfl ?_
      refine f_iload_n hC dX5_hindrance_83 rfl 3 rfl ?_
      refine f_iload_n hC dX5_hindrance_84 rfl 4 rfl ?_
      obtain ⟨r25, h26, hF⟩ := fb_open hF
      refine f_callV hC [.int x1, .int x2] (c_X5_isPunched l D cy a0 x1 x2 w r25 h26) q_1479 q_137 q_1476 q_1478 q_95 h9_X5_isPunched rfl (fSm.k (fSm.rf w) g3) ⟨Nat.le_of_ble_eq_true rfl, Nat.le_of_ble_eq_true rfl⟩ ⟨Nat.le_of_ble_eq_true rfl, Nat.le_of_ble_eq_true rfl⟩ (Nat.le_of_ble_eq_true rfl) rfl dX5_hindrance_85 (fun e27 => ?_)
      refine f_if_ne hC 98 dX5_hindrance_88 (by decide) (fun c28 => ?_) (fun c28 => ?_)
      · replace hF := fi_neg hF c28
        refine f_aload_n hC dX5_hindrance_98 rfl 2 rfl ?_
        refine f_iload_n hC dX5_hindrance_99 rfl 3 rfl ?_
        refine f_iload_n hC dX5_hindrance_100 rfl 4 rfl ?_
        refine f_iconst (v := 3) hC dX5_hindrance_101 (by decide) ?_
        obtain ⟨r29, h30, hF⟩ := fb_open hF
        refine f_callV hC [.int x1, .int x2, .int 3] (c_X5_half l D cy a0 x1 x2 3 w r29 h30) q_1483 q_137 q_1480 q_1482 q_96 h9_X5_half rfl (fSm.k (fSm.rf w) g3) ⟨Nat.le_of_ble_eq_true rfl, Nat.le_of_ble_eq_true rfl⟩ ⟨Nat.le_of_ble_eq_true rfl, Nat.le_of_ble_eq_true rfl⟩ (Nat.le_of_ble_eq_true rfl) rfl dX5_hindrance_102 (fun e31 => ?_)
        refine f_iconst (v := 1) hC dX5_hindrance_105 (by decide) ?_
        refine f_icmp_ne hC 117 dX5_hindrance_106 (by decide) (fun c32 => ?_) (fun c32 => ?_)
        · replace hF := fi_neg hF c32
          refine f_iload_n hC dX5_hindrance_117 rfl 4 rfl ?_
          refine f_iconst (v := 1) hC dX5_hindrance_118 (by decide) ?_
          refine f_icmp_ne hC 140 dX5_hindrance_119 (by decide) (fun c33 => ?_) (fun c33 => ?_)
          · replace hF := fi_neg hF c33
            refine f_iload_n hC dX5_hindrance_140 rfl 4 rfl ?_
            refine f_iconst (v := 1) hC dX5_hindrance_141 (by decide) ?_
            refine f_icmp_ne hC 178 dX5_hindrance_142 (by decide) (fun c34 => ?_) (fun c34 => ?_)
            · replace hF := fi_neg hF c34
              refine f_aload_n hC dX5_hindrance_178 rfl 2 rfl ?_
              refine f_iload hC dX5_hindrance_179 1 rfl ?_
              obtain ⟨r35, h36, hF⟩ := fb_open hF
              refine f_callV hC [.int x11] (c_X5_isClosed l D cy a0 x11 w r35 h36) q_1440 q_137 q_1437 q_1439 q_89 h9_X5_isClosed rfl (fSm.k (fSm.rf w) g3) ⟨Nat.le_of_ble_eq_true rfl, Nat.le_of_ble_eq_true rfl⟩ ⟨Nat.le_of_ble_eq_true rfl, Nat.le_of_ble_eq_true rfl⟩ (Nat.le_of_ble_eq_true rfl) rfl dX5_hindrance_181 (fun e37 => ?_)
              refine f_if_eq hC 196 dX5_hindrance_184 (by decide) (fun c38 => ?_) (fun c38 => ?_)
              · replace hF := fi_pos hF c38
                refine f_aload_n hC dX5_hindrance_196 rfl 2 rfl ?_
                refine f_iload hC dX5_hindrance_197 0 rfl ?_
                obtain ⟨r39, h40, hF⟩ := fb_open hF
                refine f_callV hC [.int ((r15 + r18) - x11)] (c_X5_isClosed l D cy a0 ((r15 + r18) - x11) w r39 h40) q_1440 q_137 q_1437 q_1439 q_89 h9_X5_isClosed rfl (fSm.k (fSm.rf w) g3) ⟨Nat.le_of_ble_eq_true rfl, Nat.le_of_ble_eq_true rfl⟩ ⟨Nat.le_of_ble_eq_true rfl, Nat.le_of_ble_eq_true rfl⟩ (Nat.le_of_ble_eq_true rfl) rfl dX5_hindrance_199 (fun e41 => ?_)
                refine f_if_eq hC 214 dX5_hindrance_202 (by decide) (fun c42 => ?_) (fun c42 => ?_)
                · replace hF := fi_pos hF c42
                  refine f_aload_n hC dX5_hindrance_214 rfl 2 rfl ?_
                  refine f_iload_n hC dX5_hindrance_215 rfl 3 rfl ?_
                  refine f_iload_n hC dX5_hindrance_216 rfl 4 rfl ?_
                  obtain ⟨r43, h44, hF⟩ := fb_open hF
                  refine f_callV hC [.int x1, .int x2] (c_X5_isRead l D cy a0 x1 x2 w r43 h44) q_1605 q_137 q_1602 q_1604 q_114 h9_X5_isRead rfl (fSm.k (fSm.rf w) g3) ⟨Nat.le_of_ble_eq_true rfl, Nat.le_of_ble_eq_true rfl⟩ ⟨Nat.le_of_ble_eq_true rfl, Nat.le_of_ble_eq_true rfl⟩ (Nat.le_of_ble_eq_true rfl) rfl dX5_hindrance_217 (fun e45 => ?_)
                  refine f_if_eq hC 227 dX5_hindrance_220 (by decide) (fun c46 => ?_) (fun c46 => ?_)
                  · replace hF := fi_pos hF c46
                    refine f_aload_n hC dX5_hindrance_227 rfl 2 rfl ?_
                    refine f_bipush (v := 10) hC dX5_hindrance_228 (by decide) ?_
                    refine f_aload_n hC dX5_hindrance_230 rfl 2 rfl ?_
                    refine f_iload_n hC dX5_hindrance_231 rfl 3 rfl ?_
                    refine f_iload_n hC dX5_hindrance_232 rfl 4 rfl ?_
                    obtain ⟨r47, h48, hF⟩ := fb_open hF
                    refine f_callV hC [.int x1, .int x2] (c_X5_firstUnlike l D cy a0 x1 x2 w r47 h48) q_1609 q_137 q_1606 q_1608 q_115 h9_X5_firstUnlike rfl (fSm.k (fSm.rf w) g3) ⟨Nat.le_of_ble_eq_true rfl, Nat.le_of_ble_eq_true rfl⟩ ⟨Nat.le_of_ble_eq_true rfl, Nat.le_of_ble_eq_true rfl⟩ (Nat.le_of_ble_eq_true rfl) rfl dX5_hindrance_233 (fun e49 => ?_)
                    obtain ⟨r50, h51, hF⟩ := fb_open hF
                    refine f_callV hC [.int 10, .int r47] (c_X5_refused l D cy a0 10 r47 w r50 h51) q_1364 q_137 q_1361 q_1363 q_75 h9_X5_refused rfl (fSm.k (fSm.rf w) g3) ⟨Nat.le_of_ble_eq_true rfl, Nat.le_of_ble_eq_true rfl⟩ ⟨Nat.le_of_ble_eq_true rfl, Nat.le_of_ble_eq_true rfl⟩ (Nat.le_of_ble_eq_true rfl) rfl dX5_hindrance_236 (fun e52 => ?_)
                    obtain rfl := Option.some.inj hF
                    exact f_iret hC hEn (fSm.tr e52 (fSm.rf w)) dX5_hindrance_239
                  · replace hF := fi_neg hF c46
                    refine f_iconst (v := 0) hC dX5_hindrance_223 (by decide) ?_
                    refine f_goto hC 239 dX5_hindrance_224 (by decide) ?_
                    obtain rfl := Option.some.inj hF
                    exact f_iret hC hEn (fSm.rf w) dX5_hindrance_239
                · replace hF := fi_neg hF c42
                  refine f_aload_n hC dX5_hindrance_205 rfl 2 rfl ?_
                  refine f_bipush (v := 9) hC dX5_hindrance_206 (by decide) ?_
                  refine f_iload hC dX5_hindrance_208 0 rfl ?_
                  obtain ⟨r53, h54, hF⟩ := fb_open hF
                  refine f_callV hC [.int 9, .int ((r15 + r18) - x11)] (c_X5_refused l D cy a0 9 ((r15 + r18) - x11) w r53 h54) q_1364 q_137 q_1361 q_1363 q_75 h9_X5_refused rfl (fSm.k (fSm.rf w) g3) ⟨Nat.le_of_ble_eq_true rfl, Nat.le_of_ble_eq_true rfl⟩ ⟨Nat.le_of_ble_eq_true rfl, Nat.le_of_ble_eq_true rfl⟩ (Nat.le_of_ble_eq_true rfl) rfl dX5_hindrance_210 (fun e55 => ?_)
                  obtain rfl := Option.some.inj hF
                  exact f_iret hC hEn (fSm.tr e55 (fSm.rf w)) dX5_hindrance_213
              · replace hF := fi_neg hF c38
                refine f_aload_n hC dX5_hindrance_187 rfl 2 rfl ?_
                refine f_bipush (v := 9) hC dX5_hindrance_188 (by decide) ?_
                refine f_iload hC dX5_hindrance_190 1 rfl ?_
                obtain ⟨r56, h57, hF⟩ := fb_open hF
                refine f_callV hC [.int 9, .int x11] (c_X5_refused l D cy a0 9 x11 w r56 h57) q_1364 q_137 q_1361 q_1363 q_75 h9_X5_refused rfl (fSm.k (fSm.rf w) g3) ⟨Nat.le_of_ble_eq_true rfl, Nat.le_of_ble_eq_true rfl⟩ ⟨Nat.le_of_ble_eq_true rfl, Nat.le_of_ble_eq_true rfl⟩ (Nat.le_of_ble_eq_true rfl) rfl dX5_hindrance_192 (fun e58 => ?_)
                obtain rfl := Option.some.inj hF
                exact f_iret hC hEn (fSm.tr e58 (fSm.rf w)) dX5_hindrance_195
            · replace hF := fi_pos hF c34
              refine f_aload_n hC dX5_hindrance_145 rfl 2 rfl ?_
              refine f_getR hC 5 1 501 rfl (by decide) iX5 q_1260 rfl rfl (fSm.k (fSm.rf w) g3) dX5_hindrance_146 ?_
              refine f_iconst (v := 1) hC dX5_hindrance_149 (by decide) ?_
              obtain ⟨g59, hF⟩ := fg_open hF
              obtain ⟨g60, hF⟩ := fg_open hF
              refine f_iald hC (fSm.k (fSm.rf w) g59) (fSm.v (fSm.rf w) g60) dX5_hindrance_150 ?_
              refine f_iload_n hC dX5_hindrance_151 rfl 5 rfl ?_
              refine f_isub hC dX5_hindrance_152 ?_
              refine f_aload_n hC dX5_hindrance_153 rfl 2 rfl ?_
              refine f_iload_n hC dX5_hindrance_154 rfl 3 rfl ?_
              refine f_bipush (v := 9) hC dX5_hindrance_155 (by decide) ?_
              obtain ⟨r61, h62, hF⟩ := fb_open hF
              refine f_callV hC [.int x1, .int 9] (c_X5_of l D cy a0 x1 9 w r61 h62) q_1452 q_137 q_1449 q_1451 q_91 h9_X5_of rfl (fSm.k (fSm.rf w) g3) ⟨Nat.le_of_ble_eq_true rfl, Nat.le_of_ble_eq_true rfl⟩ ⟨Nat.le_of_ble_eq_true rfl, Nat.le_of_ble_eq_true rfl⟩ (Nat.le_of_ble_eq_true rfl) rfl dX5_hindrance_157 (fun e63 => ?_)
              refine f_icmp_le hC 178 dX5_hindrance_160 (by decide) (fun c64 => ?_) (fun c64 => ?_)
              · replace hF := fi_pos hF c64
                refine f_aload_n hC dX5_hindrance_178 rfl 2 rfl ?_
                refine f_iload hC dX5_hindrance_179 1 rfl ?_
                obtain ⟨r65, h66, hF⟩ := fb_open hF
                refine f_callV hC [.int x11] (c_X5_isClosed l D cy a0 x11 w r65 h66) q_1440 q_137 q_1437 q_1439 q_89 h9_X5_isClosed rfl (fSm.k (fSm.rf w) g3) ⟨Nat.le_of_ble_eq_true rfl, Nat.le_of_ble_eq_true rfl⟩ ⟨Nat.le_of_ble_eq_true rfl, Nat.le_of_ble_eq_true rfl⟩ (Nat.le_of_ble_eq_true rfl) rfl dX5_hindrance_181 (fun e67 => ?_)
                refine f_if_eq hC 196 dX5_hindrance_184 (by decide) (fun c68 => ?_) (fun c68 => ?_)
                · replace hF := fi_pos hF c68
                  refine f_aload_n hC dX5_hindrance_196 rfl 2 rfl ?_
                  refine f_iload hC dX5_hindrance_197 0 rfl ?_
                  obtain ⟨r69, h70, hF⟩ := fb_open hF
                  refine f_callV hC [.int ((r15 + r18) - x11)] (c_X5_isClosed l D cy a0 ((r15 + r18) - x11) w r69 h70) q_1440 q_137 q_1437 q_1439 q_89 h9_X5_isClosed rfl (fSm.k (fSm.rf w) g3) ⟨Nat.le_of_ble_eq_true rfl, Nat.le_of_ble_eq_true rfl⟩ ⟨Nat.le_of_ble_eq_true rfl, Nat.le_of_ble_eq_true rfl⟩ (Nat.le_of_ble_eq_true rfl) rfl dX5_hindrance_199 (fun e71 => ?_)
                  refine f_if_eq hC 214 dX5_hindrance_202 (by decide) (fun c72 => ?_) (fun c72 => ?_)
                  · replace hF := fi_pos hF c72
                    refine f_aload_n hC dX5_hindrance_214 rfl 2 rfl ?_
                    refine f_iload_n hC dX5_hindrance_215 rfl 3 rfl ?_
                    refine f_iload_n hC dX5_hindrance_216 rfl 4 rfl ?_
                    obtain ⟨r73, h74, hF⟩ := fb_open hF
                    refine f_callV hC [.int x1, .int x2] (c_X5_isRead l D cy a0 x1 x2 w r73 h74) q_1605 q_137 q_1602 q_1604 q_114 h9_X5_isRead rfl (fSm.k (fSm.rf w) g3) ⟨Nat.le_of_ble_eq_true rfl, Nat.le_of_ble_eq_true rfl⟩ ⟨Nat.le_of_ble_eq_true rfl, Nat.le_of_ble_eq_true rfl⟩ (Nat.le_of_ble_eq_true rfl) rfl dX5_hindrance_217 (fun e75 => ?_)
                    refine f_if_eq hC 227 dX5_hindrance_220 (by decide) (fun c76 => ?_) (fun c76 => ?_)
                    · replace hF := fi_pos hF c76
                      refine f_aload_n hC dX5_hindrance_227 rfl 2 rfl ?_
                      refine f_bipush (v := 10) hC dX5_hindrance_228 (by decide) ?_
                      refine f_aload_n hC dX5_hindrance_230 rfl 2 rfl ?_
                      refine f_iload_n hC dX5_hindrance_231 rfl 3 rfl ?_
                      refine f_iload_n hC dX5_hindrance_232 rfl 4 rfl ?_
                      obtain ⟨r77, h78, hF⟩ := fb_open hF
                      refine f_callV hC [.int x1, .int x2] (c_X5_firstUnlike l D cy a0 x1 x2 w r77 h78) q_1609 q_137 q_1606 q_1608 q_115 h9_X5_firstUnlike rfl (fSm.k (fSm.rf w) g3) ⟨Nat.le_of_ble_eq_true rfl, Nat.le_of_ble_eq_true rfl⟩ ⟨Nat.le_of_ble_eq_true rfl, Nat.le_of_ble_eq_true rfl⟩ (Nat.le_of_ble_eq_true rfl) rfl dX5_hindrance_233 (fun e79 => ?_)
                      obtain ⟨r80, h81, hF⟩ := fb_open hF
                      refine f_callV hC [.int 10, .int r77] (c_X5_refused l D cy a0 10 r77 w r80 h81) q_1364 q_137 q_1361 q_1363 q_75 h9_X5_refused rfl (fSm.k (fSm.rf w) g3) ⟨Nat.le_of_ble_eq_true rfl, Nat.le_of_ble_eq_true rfl⟩ ⟨Nat.le_of_ble_eq_true rfl, Nat.le_of_ble_eq_true rfl⟩ (Nat.le_of_ble_eq_true rfl) rfl dX5_hindrance_236 (fun e82 => ?_)
                      obtain rfl := Option.some.inj hF
                      exact f_iret hC hEn (fSm.tr e82 (fSm.rf w)) dX5_hindrance_239
                    · replace hF := fi_neg hF c76
                      refine f_iconst (v := 0) hC dX5_hindrance_223 (by decide) ?_
                      refine f_goto hC 239 dX5_hindrance_224 (by decide) ?_
                      obtain rfl := Option.some.inj hF
                      exact f_iret hC hEn (fSm.rf w) dX5_hindrance_239
                  · replace hF := fi_neg hF c72
                    refine f_aload_n hC dX5_hindrance_205 rfl 2 rfl ?_
                    refine f_bipush (v := 9) hC dX5_hindrance_206 (by decide) ?_
                    refine f_iload hC dX5_hindrance_208 0 rfl ?_
                    obtain ⟨r83, h84, hF⟩ := fb_open hF
                    refine f_callV hC [.int 9, .int ((r15 + r18) - x11)] (c_X5_refused l D cy a0 9 ((r15 + r18) - x11) w r83 h84) q_1364 q_137 q_1361 q_1363 q_75 h9_X5_refused rfl (fSm.k (fSm.rf w) g3) ⟨Nat.le_of_ble_eq_true rfl, Nat.le_of_ble_eq_true rfl⟩ ⟨Nat.le_of_ble_eq_true rfl, Nat.le_of_ble_eq_true rfl⟩ (Nat.le_of_ble_eq_true rfl) rfl dX5_hindrance_210 (fun e85 => ?_)
                    obtain rfl := Option.some.inj hF
                    exact f_iret hC hEn (fSm.tr e85 (fSm.rf w)) dX5_hindrance_213
                · replace hF := fi_neg hF c68
                  refine f_aload_n hC dX5_hindrance_187 rfl 2 rfl ?_
                  refine f_bipush (v := 9) hC dX5_hindrance_188 (by decide) ?_
                  refine f_iload hC dX5_hindrance_190 1 rfl ?_
                  obtain ⟨r86, h87, hF⟩ := fb_open hF
                  refine f_callV hC [.int 9, .int x11] (c_X5_refused l D cy a0 9 x11 w r86 h87) q_1364 q_137 q_1361 q_1363 q_75 h9_X5_refused rfl (fSm.k (fSm.rf w) g3) ⟨Nat.le_of_ble_eq_true rfl, Nat.le_of_ble_eq_true rfl⟩ ⟨Nat.le_of_ble_eq_true rfl, Nat.le_of_ble_eq_true rfl⟩ (Nat.le_of_ble_eq_true rfl) rfl dX5_hindrance_192 (fun e88 => ?_)
                  obtain rfl := Option.some.inj hF
                  exact f_iret hC hEn (fSm.tr e88 (fSm.rf w)) dX5_hindrance_195
              · replace hF := fi_neg hF c64
                refine f_aload_n hC dX5_hindrance_163 rfl 2 rfl ?_
                refine f_bipush (v := 8) hC dX5_hindrance_164 (by decide) ?_
                refine f_aload_n hC dX5_hindrance_166 rfl 2 rfl ?_
                refine f_getR hC 5 1 501 rfl (by decide) iX5 q_1260 rfl rfl (fSm.k (fSm.rf w) g3) dX5_hindrance_167 ?_
                refine f_iconst (v := 1) hC dX5_hindrance_170 (by decide) ?_
                refine f_iald hC (fSm.k (fSm.rf w) g59) (fSm.v (fSm.rf w) g60) dX5_hindrance_171 ?_
                refine f_iload_n hC dX5_hindrance_172 rfl 5 rfl ?_
                refine f_isub hC dX5_hindrance_173 ?_
                obtain ⟨r89, h90, hF⟩ := fb_open hF
                refine f_callV hC [.int 8, .int ((gI w 601 (gR w 501 a0 0) (Int32.toNatClampNeg 1)) - r1)] (c_X5_refused l D cy a0 8 ((gI w 601 (gR w 501 a0 0) (Int32.toNatClampNeg 1)) - r1) w r89 h90) q_1364 q_137 q_1361 q_1363 q_75 h9_X5_refused rfl (fSm.k (fSm.rf w) g3) ⟨Nat.le_of_ble_eq_true rfl, Nat.le_of_ble_eq_true rfl⟩ ⟨Nat.le_of_ble_eq_true rfl, Nat.le_of_ble_eq_true rfl⟩ (Nat.le_of_ble_eq_true rfl) rfl dX5_hindrance_174 (fun e91 => ?_)
                obtain rfl := Option.some.inj hF
                exact f_iret hC hEn (fSm.tr e91 (fSm.rf w)) dX5_hindrance_177
          · replace hF := fi_pos hF c33
            refine f_iload_n hC dX5_hindrance_122 rfl 5 rfl ?_
            refine f_iconst (v := (-1)) hC dX5_hindrance_123 (by decide) ?_
            refine f_icmp_ne hC 140 dX5_hindrance_124 (by decide) (fun c92 => ?_) (fun c92 => ?_)
            · replace hF := fi_neg hF c92
              refine f_iload_n hC dX5_hindrance_140 rfl 4 rfl ?_
              refine f_iconst (v := 1) hC dX5_hindrance_141 (by decide) ?_
              refine f_icmp_ne hC 178 dX5_hindrance_142 (by decide) (fun c93 => ?_) (fun c93 => ?_)
              · replace hF := fi_neg hF c93
                refine f_aload_n hC dX5_hindrance_178 rfl 2 rfl ?_
                refine f_iload hC dX5_hindrance_179 1 rfl ?_
                obtain ⟨r94, h95, hF⟩ := fb_open hF
                refine f_callV hC [.int x11] (c_X5_isClosed l D cy a0 x11 w r94 h95) q_1440 q_137 q_1437 q_1439 q_89 h9_X5_isClosed rfl (fSm.k (fSm.rf w) g3) ⟨Nat.le_of_ble_eq_true rfl, Nat.le_of_ble_eq_true rfl⟩ ⟨Nat.le_of_ble_eq_true rfl, Nat.le_of_ble_eq_true rfl⟩ (Nat.le_of_ble_eq_true rfl) rfl dX5_hindrance_181 (fun e96 => ?_)
                refine f_if_eq hC 196 dX5_hindrance_184 (by decide) (fun c97 => ?_) (fun c97 => ?_)
                · replace hF := fi_pos hF c97
                  refine f_aload_n hC dX5_hindrance_196 rfl 2 rfl ?_
                  refine f_iload hC dX5_hindrance_197 0 rfl ?_
                  obtain ⟨r98, h99, hF⟩ := fb_open hF
                  refine f_callV hC [.int ((r15 + r18) - x11)] (c_X5_isClosed l D cy a0 ((r15 + r18) - x11) w r98 h99) q_1440 q_137 q_1437 q_1439 q_89 h9_X5_isClosed rfl (fSm.k (fSm.rf w) g3) ⟨Nat.le_of_ble_eq_true rfl, Nat.le_of_ble_eq_true rfl⟩ ⟨Nat.le_of_ble_eq_true rfl, Nat.le_of_ble_eq_true rfl⟩ (Nat.le_of_ble_eq_true rfl) rfl dX5_hindrance_199 (fun e100 => ?_)
                  refine f_if_eq hC 214 dX5_hindrance_202 (by decide) (fun c101 => ?_) (fun c101 => ?_)
                  · replace hF := fi_pos hF c101
                    refine f_aload_n hC dX5_hindrance_214 rfl 2 rfl ?_
                    refine f_iload_n hC dX5_hindrance_215 rfl 3 rfl ?_
                    refine f_iload_n hC dX5_hindrance_216 rfl 4 rfl ?_
                    obtain ⟨r102, h103, hF⟩ := fb_open hF
                    refine f_callV hC [.int x1, .int x2] (c_X5_isRead l D cy a0 x1 x2 w r102 h103) q_1605 q_137 q_1602 q_1604 q_114 h9_X5_isRead rfl (fSm.k (fSm.rf w) g3) ⟨Nat.le_of_ble_eq_true rfl, Nat.le_of_ble_eq_true rfl⟩ ⟨Nat.le_of_ble_eq_true rfl, Nat.le_of_ble_eq_true rfl⟩ (Nat.le_of_ble_eq_true rfl) rfl dX5_hindrance_217 (fun e104 => ?_)
                    refine f_if_eq hC 227 dX5_hindrance_220 (by decide) (fun c105 => ?_) (fun c105 => ?_)
                    · replace hF := fi_pos hF c105
                      refine f_aload_n hC dX5_hindrance_227 rfl 2 rfl ?_
                      refine f_bipush (v := 10) hC dX5_hindrance_228 (by decide) ?_
                      refine f_aload_n hC dX5_hindrance_230 rfl 2 rfl ?_
                      refine f_iload_n hC dX5_hindrance_231 rfl 3 rfl ?_
                      refine f_iload_n hC dX5_hindrance_232 rfl 4 rfl ?_
                      obtain ⟨r106, h107, hF⟩ := fb_open hF
                      refine f_callV hC [.int x1, .int x2] (c_X5_firstUnlike l D cy a0 x1 x2 w r106 h107) q_1609 q_137 q_1606 q_1608 q_115 h9_X5_firstUnlike rfl (fSm.k (fSm.rf w) g3) ⟨Nat.le_of_ble_eq_true rfl, Nat.le_of_ble_eq_true rfl⟩ ⟨Nat.le_of_ble_eq_true rfl, Nat.le_of_ble_eq_true rfl⟩ (Nat.le_of_ble_eq_true rfl) rfl dX5_hindrance_233 (fun e108 => ?_)
                      obtain ⟨r109, h110, hF⟩ := fb_open hF
                      refine f_callV hC [.int 10, .int r106] (c_X5_refused l D cy a0 10 r106 w r109 h110) q_1364 q_137 q_1361 q_1363 q_75 h9_X5_refused rfl (fSm.k (fSm.rf w) g3) ⟨Nat.le_of_ble_eq_true rfl, Nat.le_of_ble_eq_true rfl⟩ ⟨Nat.le_of_ble_eq_true rfl, Nat.le_of_ble_eq_true rfl⟩ (Nat.le_of_ble_eq_true rfl) rfl dX5_hindrance_236 (fun e111 => ?_)
                      obtain rfl := Option.some.inj hF
                      exact f_iret hC hEn (fSm.tr e111 (fSm.rf w)) dX5_hindrance_239
                    · replace hF := fi_neg hF c105
                      refine f_iconst (v := 0) hC dX5_hindrance_223 (by decide) ?_
                      refine f_goto hC 239 dX5_hindrance_224 (by decide) ?_
                      obtain rfl := Option.some.inj hF
                      exact f_iret hC hEn (fSm.rf w) dX5_hindrance_239
                  · replace hF := fi_neg hF c101
                    refine f_aload_n hC dX5_hindrance_205 rfl 2 rfl ?_
                    refine f_bipush (v := 9) hC dX5_hindrance_206 (by decide) ?_
                    refine f_iload hC dX5_hindrance_208 0 rfl ?_
                    obtain ⟨r112, h113, hF⟩ := fb_open hF
                    refine f_callV hC [.int 9, .int ((r15 + r18) - x11)] (c_X5_refused l D cy a0 9 ((r15 + r18) - x11) w r112 h113) q_1364 q_137 q_1361 q_1363 q_75 h9_X5_refused rfl (fSm.k (fSm.rf w) g3) ⟨Nat.le_of_ble_eq_true rfl, Nat.le_of_ble_eq_true rfl⟩ ⟨Nat.le_of_ble_eq_true rfl, Nat.le_of_ble_eq_true rfl⟩ (Nat.le_of_ble_eq_true rfl) rfl dX5_hindrance_210 (fun e114 => ?_)
                    obtain rfl := Option.some.inj hF
                    exact f_iret hC hEn (fSm.tr e114 (fSm.rf w)) dX5_hindrance_213
                · replace hF := fi_neg hF c97
                  refine f_aload_n hC dX5_hindrance_187 rfl 2 rfl ?_
                  refine f_bipush (v := 9) hC dX5_hindrance_188 (by decide) ?_
                  refine f_iload hC dX5_hindrance_190 1 rfl ?_
                  obtain ⟨r115, h116, hF⟩ := fb_open hF
                  refine f_callV hC [.int 9, .int x11] (c_X5_refused l D cy a0 9 x11 w r115 h116) q_1364 q_137 q_1361 q_1363 q_75 h9_X5_refused rfl (fSm.k (fSm.rf w) g3) ⟨Nat.le_of_ble_eq_true rfl, Nat.le_of_ble_eq_true rfl⟩ ⟨Nat.le_of_ble_eq_true rfl, Nat.le_of_ble_eq_true rfl⟩ (Nat.le_of_ble_eq_true rfl) rfl dX5_hindrance_192 (fun e117 => ?_)
                  obtain rfl := Option.some.inj hF
                  exact f_iret hC hEn (fSm.tr e117 (fSm.rf w)) dX5_hindrance_195
              · replace hF := fi_pos hF c93
                refine f_aload_n hC dX5_hindrance_145 rfl 2 rfl ?_
                refine f_getR hC 5 1 501 rfl (by decide) iX5 q_1260 rfl rfl (fSm.k (fSm.rf w) g3) dX5_hindrance_146 ?_
                refine f_iconst (v := 1) hC dX5_hindrance_149 (by decide) ?_
                obtain ⟨g118, hF⟩ := fg_open hF
                obtain ⟨g119, hF⟩ := fg_open hF
                refine f_iald hC (fSm.k (fSm.rf w) g118) (fSm.v (fSm.rf w) g119) dX5_hindrance_150 ?_
                refine f_iload_n hC dX5_hindrance_151 rfl 5 rfl ?_
                refine f_isub hC dX5_hindrance_152 ?_
                refine f_aload_n hC dX5_hindrance_153 rfl 2 rfl ?_
                refine f_iload_n hC dX5_hindrance_154 rfl 3 rfl ?_
                refine f_bipush (v := 9) hC dX5_hindrance_155 (by decide) ?_
                obtain ⟨r120, h121, hF⟩ := fb_open hF
                refine f_callV hC [.int x1, .int 9] (c_X5_of l D cy a0 x1 9 w r120 h121) q_1452 q_137 q_1449 q_1451 q_91 h9_X5_of rfl (fSm.k (fSm.rf w) g3) ⟨Nat.le_of_ble_eq_true rfl, Nat.le_of_ble_eq_true rfl⟩ ⟨Nat.le_of_ble_eq_true rfl, Nat.le_of_ble_eq_true rfl⟩ (Nat.le_of_ble_eq_true rfl) rfl dX5_hindrance_157 (fun e122 => ?_)
                refine f_icmp_le hC 178 dX5_hindrance_160 (by decide) (fun c123 => ?_) (fun c123 => ?_)
                · replace hF := fi_pos hF c123
                  refine f_aload_n hC dX5_hindrance_178 rfl 2 rfl ?_
                  refine f_iload hC dX5_hindrance_179 1 rfl ?_
                  obtain ⟨r124, h125, hF⟩ := fb_open hF
                  refine f_callV hC [.int x11] (c_X5_isClosed l D cy a0 x11 w r124 h125) q_1440 q_137 q_1437 q_1439 q_89 h9_X5_isClosed rfl (fSm.k (fSm.rf w) g3) ⟨Nat.le_of_ble_eq_true rfl, Nat.le_of_ble_eq_true rfl⟩ ⟨Nat.le_of_ble_eq_true rfl, Nat.le_of_ble_eq_true rfl⟩ (Nat.le_of_ble_eq_true rfl) rfl dX5_hindrance_181 (fun e126 => ?_)
                  refine f_if_eq hC 196 dX5_hindrance_184 (by decide) (fun c127 => ?_) (fun c127 => ?_)
                  · replace hF := fi_pos hF c127
                    refine f_aload_n hC dX5_hindrance_196 rfl 2 rfl ?_
                    refine f_iload hC dX5_hindrance_197 0 rfl ?_
                    obtain ⟨r128, h129, hF⟩ := fb_open hF
                    refine f_callV hC [.int ((r15 + r18) - x11)] (c_X5_isClosed l D cy a0 ((r15 + r18) - x11) w r128 h129) q_1440 q_137 q_1437 q_1439 q_89 h9_X5_isClosed rfl (fSm.k (fSm.rf w) g3) ⟨Nat.le_of_ble_eq_true rfl, Nat.le_of_ble_eq_true rfl⟩ ⟨Nat.le_of_ble_eq_true rfl, Nat.le_of_ble_eq_true rfl⟩ (Nat.le_of_ble_eq_true rfl) rfl dX5_hindrance_199 (fun e130 => ?_)
                    refine f_if_eq hC 214 dX5_hindrance_202 (by decide) (fun c131 => ?_) (fun c131 => ?_)
                    · replace hF := fi_pos hF c131
                      refine f_aload_n hC dX5_hindrance_214 rfl 2 rfl ?_
                      refine f_iload_n hC dX5_hindrance_215 rfl 3 rfl ?_
                      refine f_iload_n hC dX5_hindrance_216 rfl 4 rfl ?_
                      obtain ⟨r132, h133, hF⟩ := fb_open hF
                      refine f_callV hC [.int x1, .int x2] (c_X5_isRead l D cy a0 x1 x2 w r132 h133) q_1605 q_137 q_1602 q_1604 q_114 h9_X5_isRead rfl (fSm.k (fSm.rf w) g3) ⟨Nat.le_of_ble_eq_true rfl, Nat.le_of_ble_eq_true rfl⟩ ⟨Nat.le_of_ble_eq_true rfl, Nat.le_of_ble_eq_true rfl⟩ (Nat.le_of_ble_eq_true rfl) rfl dX5_hindrance_217 (fun e134 => ?_)
                      refine f_if_eq hC 227 dX5_hindrance_220 (by decide) (fun c135 => ?_) (fun c135 => ?_)
                      · replace hF := fi_pos hF c135
                        refine f_aload_n hC dX5_hindrance_227 rfl 2 rfl ?_
                        refine f_bipush (v := 10) hC dX5_hindrance_228 (by decide) ?_
                        refine f_aload_n hC dX5_hindrance_230 rfl 2 rfl ?_
                        refine f_iload_n hC dX5_hindrance_231 rfl 3 rfl ?_
                        refine f_iload_n hC dX5_hindrance_232 rfl 4 rfl ?_
                        obtain ⟨r136, h137, hF⟩ := fb_open hF
                        refine f_callV hC [.int x1, .int x2] (c_X5_firstUnlike l D cy a0 x1 x2 w r136 h137) q_1609 q_137 q_1606 q_1608 q_115 h9_X5_firstUnlike rfl (fSm.k (fSm.rf w) g3) ⟨Nat.le_of_ble_eq_true rfl, Nat.le_of_ble_eq_true rfl⟩ ⟨Nat.le_of_ble_eq_true rfl, Nat.le_of_ble_eq_true rfl⟩ (Nat.le_of_ble_eq_true rfl) rfl dX5_hindrance_233 (fun e138 => ?_)
                        obtain ⟨r139, h140, hF⟩ := fb_open hF
                        refine f_callV hC [.int 10, .int r136] (c_X5_refused l D cy a0 10 r136 w r139 h140) q_1364 q_137 q_1361 q_1363 q_75 h9_X5_refused rfl (fSm.k (fSm.rf w) g3) ⟨Nat.le_of_ble_eq_true rfl, Nat.le_of_ble_eq_true rfl⟩ ⟨Nat.le_of_ble_eq_true rfl, Nat.le_of_ble_eq_true rfl⟩ (Nat.le_of_ble_eq_true rfl) rfl dX5_hindrance_236 (fun e141 => ?_)
                        obtain rfl := Option.some.inj hF
                        exact f_iret hC hEn (fSm.tr e141 (fSm.rf w)) dX5_hindrance_239
                      · replace hF := fi_neg hF c135
                        refine f_iconst (v := 0) hC dX5_hindrance_223 (by decide) ?_
                        refine f_goto hC 239 dX5_hindrance_224 (by decide) ?_
                        obtain rfl := Option.some.inj hF
                        exact f_iret hC hEn (fSm.rf w) dX5_hindrance_239
                    · replace hF := fi_neg hF c131
                      refine f_aload_n hC dX5_hindrance_205 rfl 2 rfl ?_
                      refine f_bipush (v := 9) hC dX5_hindrance_206 (by decide) ?_
                      refine f_iload hC dX5_hindrance_208 0 rfl ?_
                      obtain ⟨r142, h143, hF⟩ := fb_open hF
                      refine f_callV hC [.int 9, .int ((r15 + r18) - x11)] (c_X5_refused l D cy a0 9 ((r15 + r18) - x11) w r142 h143) q_1364 q_137 q_1361 q_1363 q_75 h9_X5_refused rfl (fSm.k (fSm.rf w) g3) ⟨Nat.le_of_ble_eq_true rfl, Nat.le_of_ble_eq_true rfl⟩ ⟨Nat.le_of_ble_eq_true rfl, Nat.le_of_ble_eq_true rfl⟩ (Nat.le_of_ble_eq_true rfl) rfl dX5_hindrance_210 (fun e144 => ?_)
                      obtain rfl := Option.some.inj hF
                      exact f_iret hC hEn (fSm.tr e144 (fSm.rf w)) dX5_hindrance_213
                  · replace hF := fi_neg hF c127
                    refine f_aload_n hC dX5_hindrance_187 rfl 2 rfl ?_
                    refine f_bipush (v := 9) hC dX5_hindrance_188 (by decide) ?_
                    refine f_iload hC dX5_hindrance_190 1 rfl ?_
                    obtain ⟨r145, h146, hF⟩ := fb_open hF
                    refine f_callV hC [.int 9, .int x11] (c_X5_refused l D cy a0 9 x11 w r145 h146) q_1364 q_137 q_1361 q_1363 q_75 h9_X5_refused rfl (fSm.k (fSm.rf w) g3) ⟨Nat.le_of_ble_eq_true rfl, Nat.le_of_ble_eq_true rfl⟩ ⟨Nat.le_of_ble_eq_true rfl, Nat.le_of_ble_eq_true rfl⟩ (Nat.le_of_ble_eq_true rfl) rfl dX5_hindrance_192 (fun e147 => ?_)
                    obtain rfl := Option.some.inj hF
                    exact f_iret hC hEn (fSm.tr e147 (fSm.rf w)) dX5_hindrance_195
                · replace hF := fi_neg hF c123
                  refine f_aload_n hC dX5_hindrance_163 rfl 2 rfl ?_
                  refine f_bipush (v := 8) hC dX5_hindrance_164 (by decide) ?_
                  refine f_aload_n hC dX5_hindrance_166 rfl 2 rfl ?_
                  refine f_getR hC 5 1 501 rfl (by decide) iX5 q_1260 rfl rfl (fSm.k (fSm.rf w) g3) dX5_hindrance_167 ?_
                  refine f_iconst (v := 1) hC dX5_hindrance_170 (by decide) ?_
                  refine f_iald hC (fSm.k (fSm.rf w) g118) (fSm.v (fSm.rf w) g119) dX5_hindrance_171 ?_
                  refine f_iload_n hC dX5_hindrance_172 rfl 5 rfl ?_
                  refine f_isub hC dX5_hindrance_173 ?_
                  obtain ⟨r148, h149, hF⟩ := fb_open hF
                  refine f_callV hC [.int 8, .int ((gI w 601 (gR w 501 a0 0) (Int32.toNatClampNeg 1)) - r1)] (c_X5_refused l D cy a0 8 ((gI w 601 (gR w 501 a0 0) (Int32.toNatClampNeg 1)) - r1) w r148 h149) q_1364 q_137 q_1361 q_1363 q_75 h9_X5_refused rfl (fSm.k (fSm.rf w) g3) ⟨Nat.le_of_ble_eq_true rfl, Nat.le_of_ble_eq_true rfl⟩ ⟨Nat.le_of_ble_eq_true rfl, Nat.le_of_ble_eq_true rfl⟩ (Nat.le_of_ble_eq_true rfl) rfl dX5_hindrance_174 (fun e150 => ?_)
                  obtain rfl := Option.some.inj hF
                  exact f_iret hC hEn (fSm.tr e150 (fSm.rf w)) dX5_hindrance_177
            · replace hF := fi_pos hF c92
              refine f_aload_n hC dX5_hindrance_127 rfl 2 rfl ?_
              refine f_bipush (v := 7) hC dX5_hindrance_128 (by decide) ?_
              refine f_aload_n hC dX5_hindrance_130 rfl 2 rfl ?_
              refine f_getR hC 5 1 501 rfl (by decide) iX5 q_1260 rfl rfl (fSm.k (fSm.rf w) g3) dX5_hindrance_131 ?_
              refine f_iconst (v := 1) hC dX5_hindrance_134 (by decide) ?_
              obtain ⟨g151, hF⟩ := fg_open hF
              obtain ⟨g152, hF⟩ := fg_open hF
              refine f_iald hC (fSm.k (fSm.rf w) g151) (fSm.v (fSm.rf w) g152) dX5_hindrance_135 ?_
              obtain ⟨r153, h154, hF⟩ := fb_open hF
              refine f_callV hC [.int 7, .int (gI w 601 (gR w 501 a0 0) (Int32.toNatClampNeg 1))] (c_X5_refused l D cy a0 7 (gI w 601 (gR w 501 a0 0) (Int32.toNatClampNeg 1)) w r153 h154) q_1364 q_137 q_1361 q_1363 q_75 h9_X5_refused rfl (fSm.k (fSm.rf w) g3) ⟨Nat.le_of_ble_eq_true rfl, Nat.le_of_ble_eq_true rfl⟩ ⟨Nat.le_of_ble_eq_true rfl, Nat.le_of_ble_eq_true rfl⟩ (Nat.le_of_ble_eq_true rfl) rfl dX5_hindrance_136 (fun e155 => ?_)
              obtain rfl := Option.some.inj hF
              exact f_iret hC hEn (fSm.tr e155 (fSm.rf w)) dX5_hindrance_139
        · replace hF := fi_pos hF c32
          refine f_aload_n hC dX5_hindrance_109 rfl 2 rfl ?_
          refine f_bipush (v := 6) hC dX5_hindrance_110 (by decide) ?_
          refine f_iload_n hC dX5_hindrance_112 rfl 4 rfl ?_
          obtain ⟨r156, h157, hF⟩ := fb_open hF
          refine f_callV hC [.int 6, .int x2] (c_X5_refused l D cy a0 6 x2 w r156 h157) q_1364 q_137 q_1361 q_1363 q_75 h9_X5_refused rfl (fSm.k (fSm.rf w) g3) ⟨Nat.le_of_ble_eq_true rfl, Nat.le_of_ble_eq_true rfl⟩ ⟨Nat.le_of_ble_eq_true rfl, Nat.le_of_ble_eq_true rfl⟩ (Nat.le_of_ble_eq_true rfl) rfl dX5_hindrance_113 (fun e158 => ?_)
          obtain rfl := Option.some.inj hF
          exact f_iret hC hEn (fSm.tr e158 (fSm.rf w)) dX5_hindrance_116
      · replace hF := fi_pos hF c28
        refine f_aload_n hC dX5_hindrance_91 rfl 2 rfl ?_
        refine f_iconst (v := 5) hC dX5_hindrance_92 (by decide) ?_
        refine f_iload_n hC dX5_hindrance_93 rfl 4 rfl ?_
        obtain ⟨r159, h160, hF⟩ := fb_open hF
        refine f_callV hC [.int 5, .int x2] (c_X5_refused l D cy a0 5 x2 w r159 h160) q_1364 q_137 q_1361 q_1363 q_75 h9_X5_refused rfl (fSm.k (fSm.rf w) g3) ⟨Nat.le_of_ble_eq_true rfl, Nat.le_of_ble_eq_true rfl⟩ ⟨Nat.le_of_ble_eq_true rfl, Nat.le_of_ble_eq_true rfl⟩ (Nat.le_of_ble_eq_true rfl) rfl dX5_hindrance_94 (fun e161 => ?_)
        obtain rfl := Option.some.inj hF
        exact f_iret hC hEn (fSm.tr e161 (fSm.rf w)) dX5_hindrance_97
    · replace hF := fi_pos hF c24
      refine f_aload_n hC dX5_hindrance_75 rfl 2 rfl ?_
      refine f_iconst (v := 4) hC dX5_hindrance_76 (by decide) ?_
      refine f_iload_n hC dX5_hindrance_77 rfl 4 rfl ?_
      obtain ⟨r162, h163, hF⟩ := fb_open hF
      refine f_callV hC [.int 4, .int x2] (c_X5_refused l D cy a0 4 x2 w r162 h163) q_1364 q_137 q_1361 q_1363 q_75 h9_X5_refused rfl (fSm.k (fSm.rf w) g3) ⟨Nat.le_of_ble_eq_true rfl, Nat.le_of_ble_eq_true rfl⟩ ⟨Nat.le_of_ble_eq_true rfl, Nat.le_of_ble_eq_true rfl⟩ (Nat.le_of_ble_eq_true rfl) rfl dX5_hindrance_78 (fun e164 => ?_)
      obtain rfl := Option.some.inj hF
      exact f_iret hC hEn (fSm.tr e164 (fSm.rf w)) dX5_hindrance_81
  refine f_icmp_ge hC 35 dX5_hindrance_22 (by decide) (fun c165 => ?_) (fun c165 => ?_)
  · replace h12 := fi_pos h12 c165
    refine f_aload_n hC dX5_hindrance_35 rfl 1 rfl ?_
    refine f_iload_n hC dX5_hindrance_36 rfl 2 rfl ?_
    refine f_bipush (v := 8) hC dX5_hindrance_37 (by decide) ?_
    obtain ⟨r166, h167, h12⟩ := fb_open h12
    refine f_callV hC [.int x1, .int 8] (c_X5_of l D cy a0 x1 8 w r166 h167) q_1452 q_137 q_1449 q_1451 q_91 h9_X5_of rfl (fSm.k (fSm.rf w) g3) ⟨Nat.le_of_ble_eq_true rfl, Nat.le_of_ble_eq_true rfl⟩ ⟨Nat.le_of_ble_eq_true rfl, Nat.le_of_ble_eq_true rfl⟩ (Nat.le_of_ble_eq_true rfl) rfl dX5_hindrance_39 (fun e168 => ?_)
    obtain rfl := Option.some.inj h12
    refine f_sub (L' := [(0, .ref a0), (1, .int x1), (2, .int x2), (3, .int r1)]) [1, 2, 3, 0] rfl ?_
    exact K14
  · replace h12 := fi_neg h12 c165
    refine f_aload_n hC dX5_hindrance_25 rfl 1 rfl ?_
    refine f_iload_n hC dX5_hindrance_26 rfl 2 rfl ?_
    refine f_bipush (v := 7) hC dX5_hindrance_27 (by decide) ?_
    obtain ⟨r169, h170, h12⟩ := fb_open h12
    refine f_callV hC [.int x1, .int 7] (c_X5_of l D cy a0 x1 7 w r169 h170) q_1452 q_137 q_1449 q_1451 q_91 h9_X5_of rfl (fSm.k (fSm.rf w) g3) ⟨Nat.le_of_ble_eq_true rfl, Nat.le_of_ble_eq_true rfl⟩ ⟨Nat.le_of_ble_eq_true rfl, Nat.le_of_ble_eq_true rfl⟩ (Nat.le_of_ble_eq_true rfl) rfl dX5_hindrance_29 (fun e171 => ?_)
    refine f_goto hC 42 dX5_hindrance_32 (by decide) ?_
    obtain rfl := Option.some.inj h12
    refine f_sub (L' := [(0, .ref a0), (1, .int x1), (2, .int x2), (3, .int r1)]) [1, 2, 3, 0] rfl ?_
    exact K14
theorem dX5_rides_0 : decode cX5_rides 0 = .ok (.aload_n 0, 1) := by decide +kernel
theorem dX5_rides_1 : decode cX5_rides 1 = .ok (.iload_n 1, 1) := by decide +kernel
theorem dX5_rides_2 : decode cX5_rides 2 = .ok (.invokevirtual 135, 3) := by decide +kernel
theorem dX5_rides_5 : decode cX5_rides 5 = .ok (.ifCond .ne 5, 3) := by decide +kernel
theorem dX5_rides_8 : decode cX5_rides 8 = .ok (.iconst (-1), 1) := by decide +kernel
theorem dX5_rides_9 : decode cX5_rides 9 = .ok (.ireturn, 1) := by decide +kernel
theorem dX5_rides_10 : decode cX5_rides 10 = .ok (.aload_n 0, 1) := by decide +kernel
theorem dX5_rides_11 : decode cX5_rides 11 = .ok (.iload_n 1, 1) := by decide +kernel
theorem dX5_rides_12 : decode cX5_rides 12 = .ok (.iload_n 2, 1) := by decide +kernel
theorem dX5_rides_13 : decode cX5_rides 13 = .ok (.invokevirtual 163, 3) := by decide +kernel
theorem dX5_rides_16 : decode cX5_rides 16 = .ok (.istore_n 3, 1) := by decide +kernel
theorem dX5_rides_17 : decode cX5_rides 17 = .ok (.iload_n 3, 1) := by decide +kernel
theorem dX5_rides_18 : decode cX5_rides 18 = .ok (.ifCond .le 5, 3) := by decide +kernel
theorem dX5_rides_21 : decode cX5_rides 21 = .ok (.iload_n 3, 1) := by decide +kernel
theorem dX5_rides_22 : decode cX5_rides 22 = .ok (.ireturn, 1) := by decide +kernel
theorem dX5_rides_23 : decode cX5_rides 23 = .ok (.aload_n 0, 1) := by decide +kernel
theorem dX5_rides_24 : decode cX5_rides 24 = .ok (.iload_n 1, 1) := by decide +kernel
theorem dX5_rides_25 : decode cX5_rides 25 = .ok (.iload_n 2, 1) := by decide +kernel
theorem dX5_rides_26 : decode cX5_rides 26 = .ok (.iconst 3, 1) := by decide +kernel
theorem dX5_rides_27 : decode cX5_rides 27 = .ok (.iconst 1, 1) := by decide +kernel
theorem dX5_rides_28 : decode cX5_rides 28 = .ok (.invokevirtual 128, 3) := by decide +kernel
theorem dX5_rides_31 : decode cX5_rides 31 = .ok (.iload_n 2, 1) := by decide +kernel
theorem dX5_rides_32 : decode cX5_rides 32 = .ok (.ifCond .ne 29, 3) := by decide +kernel
theorem dX5_rides_35 : decode cX5_rides 35 = .ok (.aload_n 0, 1) := by decide +kernel
theorem dX5_rides_36 : decode cX5_rides 36 = .ok (.iload_n 1, 1) := by decide +kernel
theorem dX5_rides_37 : decode cX5_rides 37 = .ok (.bipush 11, 2) := by decide +kernel
theorem dX5_rides_39 : decode cX5_rides 39 = .ok (.aload_n 0, 1) := by decide +kernel
theorem dX5_rides_40 : decode cX5_rides 40 = .ok (.getfield 7, 3) := by decide +kernel
theorem dX5_rides_43 : decode cX5_rides 43 = .ok (.iconst 1, 1) := by decide +kernel
theorem dX5_rides_44 : decode cX5_rides 44 = .ok (.iaload, 1) := by decide +kernel
theorem dX5_rides_45 : decode cX5_rides 45 = .ok (.invokevirtual 74, 3) := by decide +kernel
theorem dX5_rides_48 : decode cX5_rides 48 = .ok (.aload_n 0, 1) := by decide +kernel
theorem dX5_rides_49 : decode cX5_rides 49 = .ok (.getfield 7, 3) := by decide +kernel
theorem dX5_rides_52 : decode cX5_rides 52 = .ok (.iconst 3, 1) := by decide +kernel
theorem dX5_rides_53 : decode cX5_rides 53 = .ok (.dup2, 1) := by decide +kernel
theorem dX5_rides_54 : decode cX5_rides 54 = .ok (.iaload, 1) := by decide +kernel
theorem dX5_rides_55 : decode cX5_rides 55 = .ok (.iconst 1, 1) := by decide +kernel
theorem dX5_rides_56 : decode cX5_rides 56 = .ok (.iadd, 1) := by decide +kernel
theorem dX5_rides_57 : decode cX5_rides 57 = .ok (.iastore, 1) := by decide +kernel
theorem dX5_rides_58 : decode cX5_rides 58 = .ok (.goto 13, 3) := by decide +kernel
theorem dX5_rides_61 : decode cX5_rides 61 = .ok (.aload_n 0, 1) := by decide +kernel
theorem dX5_rides_62 : decode cX5_rides 62 = .ok (.getfield 7, 3) := by decide +kernel
theorem dX5_rides_65 : decode cX5_rides 65 = .ok (.iconst 4, 1) := by decide +kernel
theorem dX5_rides_66 : decode cX5_rides 66 = .ok (.dup2, 1) := by decide +kernel
theorem dX5_rides_67 : decode cX5_rides 67 = .ok (.iaload, 1) := by decide +kernel
theorem dX5_rides_68 : decode cX5_rides 68 = .ok (.iconst 1, 1) := by decide +kernel
theorem dX5_rides_69 : decode cX5_rides 69 = .ok (.iadd, 1) := by decide +kernel
theorem dX5_rides_70 : decode cX5_rides 70 = .ok (.iastore, 1) := by decide +kernel
theorem dX5_rides_71 : decode cX5_rides 71 = .ok (.aload_n 0, 1) := by decide +kernel
theorem dX5_rides_72 : decode cX5_rides 72 = .ok (.aload_n 0, 1) := by decide +kernel
theorem dX5_rides_73 : decode cX5_rides 73 = .ok (.getfield 7, 3) := by decide +kernel
theorem dX5_rides_76 : decode cX5_rides 76 = .ok (.iconst 3, 1) := by decide +kernel
theorem dX5_rides_77 : decode cX5_rides 77 = .ok (.iaload, 1) := by decide +kernel
theorem dX5_rides_78 : decode cX5_rides 78 = .ok (.aload_n 0, 1) := by decide +kernel
theorem dX5_rides_79 : decode cX5_rides 79 = .ok (.getfield 7, 3) := by decide +kernel
theorem dX5_rides_82 : decode cX5_rides 82 = .ok (.iconst 4, 1) := by decide +kernel
theorem dX5_rides_83 : decode cX5_rides 83 = .ok (.iaload, 1) := by decide +kernel
theorem dX5_rides_84 : decode cX5_rides 84 = .ok (.iadd, 1) := by decide +kernel
theorem dX5_rides_85 : decode cX5_rides 85 = .ok (.invokevirtual 125, 3) := by decide +kernel
theorem dX5_rides_88 : decode cX5_rides 88 = .ok (.ireturn, 1) := by decide +kernel
theorem h9_X5_rides : yX5_rides.cls ≠ "java/lang/invoke/MethodHandle" ∧ yX5_rides.cls ≠ "java/lang/invoke/VarHandle" ∧ (parseMethodDescriptor yX5_rides.desc).map (fun d => d.parameters.length) = some 2 := by decide +kernel
noncomputable def F_X5_rides (a0 : Nat) (x1 : Int32) (x2 : Int32) (w : FW) : Option (Int32 × FW) :=
  fg (w.1 a0 = 6) inferInstance ((F_X5_isTicket a0 x1 w).bind (fun r1 => (if r1 = 0 then some ((-1), w) else (F_X5_hindrance a0 x1 x2 w).bind (fun r6 => (if r6.1 ≤ 0 then (F_X5_setsHalf a0 x1 x2 3 1 r6.2).bind (fun r10 => ((if x2 = 0 then fg (w.1 (gR r10 501 a0 0) = 11) inferInstance (fg (¬ ((1 : Int32) < 0 ∨ w.2.1 (gR r10 501 a0 0) ≤ Int32.toNatClampNeg 1)) inferInstance ((F_X5_sets a0 x1 11 (gI r10 601 (gR r10 501 a0 0) (Int32.toNatClampNeg 1)) r10).bind (fun r28 => fg (w.1 (gR r28 501 a0 0) = 11) inferInstance (fg (¬ ((3 : Int32) < 0 ∨ w.2.1 (gR r28 501 a0 0) ≤ Int32.toNatClampNeg 3)) inferInstance (some (sI r28 601 (gR r28 501 a0 0) (Int32.toNatClampNeg 3) ((gI r28 601 (gR r28 501 a0 0) (Int32.toNatClampNeg 3)) + 1))))))) else fg (w.1 (gR r10 501 a0 0) = 11) inferInstance (fg (¬ ((4 : Int32) < 0 ∨ w.2.1 (gR r10 501 a0 0) ≤ Int32.toNatClampNeg 4)) inferInstance (some (sI r10 601 (gR r10 501 a0 0) (Int32.toNatClampNeg 4) ((gI r10 601 (gR r10 501 a0 0) (Int32.toNatClampNeg 4)) + 1))))) : Option (FW)).bind (fun x13 => fg (w.1 (gR x13 501 a0 0) = 11) inferInstance (fg (¬ ((3 : Int32) < 0 ∨ w.2.1 (gR x13 501 a0 0) ≤ Int32.toNatClampNeg 3)) inferInstance (fg (¬ ((4 : Int32) < 0 ∨ w.2.1 (gR x13 501 a0 0) ≤ Int32.toNatClampNeg 4)) inferInstance ((F_X5_done a0 ((gI x13 601 (gR x13 501 a0 0) (Int32.toNatClampNeg 3)) + (gI x13 601 (gR x13 501 a0 0) (Int32.toNatClampNeg 4))) x13).bind (fun r20 => some (r20.1, r20.2))))))) else some (r6.1, r6.2))))))
set_option maxHeartbeats 4000000 in
set_option maxRecDepth 100000 in
theorem c_X5_rides (l : Launch) (D : va_G) (cy : Nat → ClassId) (a0 : Nat) (x1 : Int32) (x2 : Int32) (w : FW) (r : Int32 × FW) (hF : F_X5_rides a0 x1 x2 w = some r) : fSpec l D cy yX5_rides cX5_rides 4 (some .int) { frames := 9, cells := 0, slots := 0, locals := 215 } [.ref a0, .int x1, .int x2] w r.2 (some (.int r.1)) := by
  refine f_begin (by decide +kernel) (Nat.le_of_ble_eq_true rfl) (fun X hC hEn => ?_)
  unfold F_X5_rides at hF
  show fAt X 0 0 4 w [(0, .ref a0), (1, .int x1), (2, .int x2)] [] 0
  refine f_aload_n hC dX5_rides_0 rfl 0 rfl ?_
  refine f_iload_n hC dX5_rides_1 rfl 1 rfl ?_
  obtain ⟨g3, hF⟩ := fg_open hF
  obtain ⟨r1, h2, hF⟩ := fb_open hF
  refine f_callV hC [.int x1] (c_X5_isTicket l D cy a0 x1 w r1 h2) q_1420 q_137 q_1417 q_1419 q_86 h9_X5_isTicket rfl (fSm.k (fSm.rf w) g3) ⟨Nat.le_of_ble_eq_true rfl, Nat.le_of_ble_eq_true rfl⟩ ⟨Nat.le_of_ble_eq_true rfl, Nat.le_of_ble_eq_true rfl⟩ (Nat.le_of_ble_eq_true rfl) rfl dX5_rides_2 (fun e4 => ?_)
  refine f_if_ne hC 10 dX5_rides_5 (by decide) (fun c5 => ?_) (fun c5 => ?_)
  · replace hF := fi_neg hF c5
    refine f_aload_n hC dX5_rides_10 rfl 0 rfl ?_
    refine f_iload_n hC dX5_rides_11 rfl 1 rfl ?_
    refine f_iload_n hC dX5_rides_12 rfl 2 rfl ?_
    obtain ⟨r6, h7, hF⟩ := fb_open hF
    refine f_callV hC [.int x1, .int x2] (c_X5_hindrance l D cy a0 x1 x2 w r6 h7) q_1601 q_137 q_1598 q_1600 q_113 h9_X5_hindrance rfl (fSm.k (fSm.rf w) g3) ⟨Nat.le_of_ble_eq_true rfl, Nat.le_of_ble_eq_true rfl⟩ ⟨Nat.le_of_ble_eq_true rfl, Nat.le_of_ble_eq_true rfl⟩ (Nat.le_of_ble_eq_true rfl) rfl dX5_rides_13 (fun e8 => ?_)
    refine f_istore_n (L' := [(3, .int r6.1), (0, .ref a0), (1, .int x1), (2, .int x2)]) hC dX5_rides_16 rfl (by decide) rfl ?_
    refine f_iload_n hC dX5_rides_17 rfl 0 rfl ?_
    refine f_if_le hC 23 dX5_rides_18 (by decide) (fun c9 => ?_) (fun c9 => ?_)
    · replace hF := fi_pos hF c9
      refine f_aload_n hC dX5_rides_23 rfl 1 rfl ?_
      refine f_iload_n hC dX5_rides_24 rfl 2 rfl ?_
      refine f_iload_n hC dX5_rides_25 rfl 3 rfl ?_
      refine f_iconst (v := 3) hC dX5_rides_26 (by decide) ?_
      refine f_iconst (v := 1) hC dX5_rides_27 (by decide) ?_
      obtain ⟨r10, h11, hF⟩ := fb_open hF
      refine f_callV hC [.int x1, .int x2, .int 3, .int 1] (c_X5_setsHalf l D cy a0 x1 x2 3 1 r6.2 r10 h11) q_1408 q_137 q_1405 q_1407 q_84 h9_X5_setsHalf rfl (fSm.k (fSm.tr e8 (fSm.rf w)) g3) ⟨Nat.le_of_ble_eq_true rfl, Nat.le_of_ble_eq_true rfl⟩ ⟨Nat.le_of_ble_eq_true rfl, Nat.le_of_ble_eq_true rfl⟩ (Nat.le_of_ble_eq_true rfl) rfl dX5_rides_28 (fun e12 => ?_)
      refine f_iload_n hC dX5_rides_31 rfl 3 rfl ?_
      obtain ⟨x13, h14, hF⟩ := fb_open hF
      have K16 : fSm x13 w → fAt X 0 0 4 x13 [(0, .ref a0)] [] 71 := by
        intro p15
        refine f_aload_n hC dX5_rides_71 rfl 0 rfl ?_
        refine f_aload_n hC dX5_rides_72 rfl 0 rfl ?_
        refine f_getR hC 5 1 501 rfl (by decide) iX5 q_1260 rfl rfl (fSm.k p15 g3) dX5_rides_73 ?_
        refine f_iconst (v := 3) hC dX5_rides_76 (by decide) ?_
        obtain ⟨g17, hF⟩ := fg_open hF
        obtain ⟨g18, hF⟩ := fg_open hF
        refine f_iald hC (fSm.k p15 g17) (fSm.v p15 g18) dX5_rides_77 ?_
        refine f_aload_n hC dX5_rides_78 rfl 0 rfl ?_
        refine f_getR hC 5 1 501 rfl (by decide) iX5 q_1260 rfl rfl (fSm.k p15 g3) dX5_rides_79 ?_
        refine f_iconst (v := 4) hC dX5_rides_82 (by decide) ?_
        obtain ⟨g19, hF⟩ := fg_open hF
        refine f_iald hC (fSm.k p15 g17) (fSm.v p15 g19) dX5_rides_83 ?_
        refine f_iadd hC dX5_rides_84 ?_
        obtain ⟨r20, h21, hF⟩ := fb_open hF
        refine f_callV hC [.int ((gI x13 601 (gR x13 501 a0 0) (Int32.toNatClampNeg 3)) + (gI x13 601 (gR x13 501 a0 0) (Int32.toNatClampNeg 4)))] (c_X5_done l D cy a0 ((gI x13 601 (gR x13 501 a0 0) (Int32.toNatClampNeg 3)) + (gI x13 601 (gR x13 501 a0 0) (Int32.toNatClampNeg 4))) x13 r20 h21) q_1368 q_137 q_1365 q_1367 q_76 h9_X5_done rfl (fSm.k p15 g3) ⟨Nat.le_of_ble_eq_true rfl, Nat.le_of_ble_eq_true rfl⟩ ⟨Nat.le_of_ble_eq_true rfl, Nat.le_of_ble_eq_true rfl⟩ (Nat.le_of_ble_eq_true rfl) rfl dX5_rides_85 (fun e22 => ?_)
        obtain rfl := Option.some.inj hF
        exact f_iret hC hEn (fSm.tr e22 p15) dX5_rides_88
      refine f_if_ne hC 61 dX5_rides_32 (by decide) (fun c23 => ?_) (fun c23 => ?_)
      · replace h14 := fi_neg h14 c23
        refine f_aload_n hC dX5_rides_61 rfl 1 rfl ?_
        refine f_getR hC 5 1 501 rfl (by decide) iX5 q_1260 rfl rfl (fSm.k (fSm.tr e12 (fSm.tr e8 (fSm.rf w))) g3) dX5_rides_62 ?_
        refine f_iconst (v := 4) hC dX5_rides_65 (by decide) ?_
        refine f_dup2 hC dX5_rides_66 rfl rfl ?_
        obtain ⟨g24, h14⟩ := fg_open h14
        obtain ⟨g25, h14⟩ := fg_open h14
        refine f_iald hC (fSm.k (fSm.tr e12 (fSm.tr e8 (fSm.rf w))) g24) (fSm.v (fSm.tr e12 (fSm.tr e8 (fSm.rf w))) g25) dX5_rides_67 ?_
        refine f_iconst (v := 1) hC dX5_rides_68 (by decide) ?_
        refine f_iadd hC dX5_rides_69 ?_
        refine f_iast hC (fSm.k (fSm.tr e12 (fSm.tr e8 (fSm.rf w))) g24) (fSm.v (fSm.tr e12 (fSm.tr e8 (fSm.rf w))) g25) dX5_rides_70 ?_
        obtain rfl := Option.some.inj h14
        refine f_sub (L' := [(0, .ref a0)]) [1] rfl ?_
        exact K16 (fSm.tr e12 (fSm.tr e8 (fSm.rf w)))
      · replace h14 := fi_pos h14 c23
        refine f_aload_n hC dX5_rides_35 rfl 1 rfl ?_
        refine f_iload_n hC dX5_rides_36 rfl 2 rfl ?_
        refine f_bipush (v := 11) hC dX5_rides_37 (by decide) ?_
        refine f_aload_n hC dX5_rides_39 rfl 1 rfl ?_
        refine f_getR hC 5 1 501 rfl (by decide) iX5 q_1260 rfl rfl (fSm.k (fSm.tr e12 (fSm.tr e8 (fSm.rf w))) g3) dX5_rides_40 ?_
        refine f_iconst (v := 1) hC dX5_rides_43 (by decide) ?_
        obtain ⟨g26, h14⟩ := fg_open h14
        obtain ⟨g27, h14⟩ := fg_open h14
        refine f_iald hC (fSm.k (fSm.tr e12 (fSm.tr e8 (fSm.rf w))) g26) (fSm.v (fSm.tr e12 (fSm.tr e8 (fSm.rf w))) g27) dX5_rides_44 ?_
        obtain ⟨r28, h29, h14⟩ := fb_open h14
        refine f_callV hC [.int x1, .int 11, .int (gI r10 601 (gR r10 501 a0 0) (Int32.toNatClampNeg 1))] (c_X5_sets l D cy a0 x1 11 (gI r10 601 (gR r10 501 a0 0) (Int32.toNatClampNeg 1)) r10 r28 h29) q_1404 q_137 q_1401 q_1403 q_83 h9_X5_sets rfl (fSm.k (fSm.tr e12 (fSm.tr e8 (fSm.rf w))) g3) ⟨Nat.le_of_ble_eq_true rfl, Nat.le_of_ble_eq_true rfl⟩ ⟨Nat.le_of_ble_eq_true rfl, Nat.le_of_ble_eq_true rfl⟩ (Nat.le_of_ble_eq_true rfl) rfl dX5_rides_45 (fun e30 => ?_)
        refine f_aload_n hC dX5_rides_48 rfl 1 rfl ?_
        refine f_getR hC 5 1 501 rfl (by decide) iX5 q_1260 rfl rfl (fSm.k (fSm.tr e30 (fSm.tr e12 (fSm.tr e8 (fSm.rf w)))) g3) dX5_rides_49 ?_
        refine f_iconst (v := 3) hC dX5_rides_52 (by decide) ?_
        refine f_dup2 hC dX5_rides_53 rfl rfl ?_
        obtain ⟨g31, h14⟩ := fg_open h14
        obtain ⟨g32, h14⟩ := fg_open h14
        refine f_iald hC (fSm.k (fSm.tr e30 (fSm.tr e12 (fSm.tr e8 (fSm.rf w)))) g31) (fSm.v (fSm.tr e30 (fSm.tr e12 (fSm.tr e8 (fSm.rf w)))) g32) dX5_rides_54 ?_
        refine f_iconst (v := 1) hC dX5_rides_55 (by decide) ?_
        refine f_iadd hC dX5_rides_56 ?_
        refine f_iast hC (fSm.k (fSm.tr e30 (fSm.tr e12 (fSm.tr e8 (fSm.rf w)))) g31) (fSm.v (fSm.tr e30 (fSm.tr e12 (fSm.tr e8 (fSm.rf w)))) g32) dX5_rides_57 ?_
        refine f_goto hC 71 dX5_rides_58 (by decide) ?_
        obtain rfl := Option.some.inj h14
        refine f_sub (L' := [(0, .ref a0)]) [1] rfl ?_
        exact K16 (fSm.tr e30 (fSm.tr e12 (fSm.tr e8 (fSm.rf w))))
    · replace hF := fi_neg hF c9
      refine f_iload_n hC dX5_rides_21 rfl 0 rfl ?_
      obtain rfl := Option.some.inj hF
      exact f_iret hC hEn (fSm.tr e8 (fSm.rf w)) dX5_rides_22
  · replace hF := fi_pos hF c5
    refine f_iconst (v := (-1)) hC dX5_rides_8 (by decide) ?_
    obtain rfl := Option.some.inj hF
    exact f_iret hC hEn (fSm.rf w) dX5_rides_9
theorem dX5_passes_0 : decode cX5_passes 0 = .ok (.aload_n 0, 1) := by decide +kernel
theorem dX5_passes_1 : decode cX5_passes 1 = .ok (.getfield 7, 3) := by decide +kernel
theorem dX5_passes_4 : decode cX5_passes 4 = .ok (.iconst 1, 1) := by decide +kernel
theorem dX5_passes_5 : decode cX5_passes 5 = .ok (.dup2, 1) := by decide +kernel
theorem dX5_passes_6 : decode cX5_passes 6 = .ok (.iaload, 1) := by decide +kernel
theorem dX5_passes_7 : decode cX5_passes 7 = .ok (.iconst 1, 1) := by decide +kernel
theorem dX5_passes_8 : decode cX5_passes 8 = .ok (.iadd, 1) := by decide +kernel
theorem dX5_passes_9 : decode cX5_passes 9 = .ok (.iastore, 1) := by decide +kernel
theorem dX5_passes_10 : decode cX5_passes 10 = .ok (.aload_n 0, 1) := by decide +kernel
theorem dX5_passes_11 : decode cX5_passes 11 = .ok (.aload_n 0, 1) := by decide +kernel
theorem dX5_passes_12 : decode cX5_passes 12 = .ok (.getfield 7, 3) := by decide +kernel
theorem dX5_passes_15 : decode cX5_passes 15 = .ok (.iconst 1, 1) := by decide +kernel
theorem dX5_passes_16 : decode cX5_passes 16 = .ok (.iaload, 1) := by decide +kernel
theorem dX5_passes_17 : decode cX5_passes 17 = .ok (.invokevirtual 125, 3) := by decide +kernel
theorem dX5_passes_20 : decode cX5_passes 20 = .ok (.ireturn, 1) := by decide +kernel
theorem h9_X5_passes : yX5_passes.cls ≠ "java/lang/invoke/MethodHandle" ∧ yX5_passes.cls ≠ "java/lang/invoke/VarHandle" ∧ (parseMethodDescriptor yX5_passes.desc).map (fun d => d.parameters.length) = some 0 := by decide +kernel
noncomputable def F_X5_passes (a0 : Nat) (w : FW) : Option (Int32 × FW) :=
  fg (w.1 a0 = 6) inferInstance (fg (w.1 (gR w 501 a0 0) = 11) inferInstance (fg (¬ ((1 : Int32) < 0 ∨ w.2.1 (gR w 501 a0 0) ≤ Int32.toNatClampNeg 1)) inferInstance ((F_X5_done a0 (gI (sI w 601 (gR w 501 a0 0) (Int32.toNatClampNeg 1) ((gI w 601 (gR w 501 a0 0) (Int32.toNatClampNeg 1)) + 1)) 601 (gR (sI w 601 (gR w 501 a0 0) (Int32.toNatClampNeg 1) ((gI w 601 (gR w 501 a0 0) (Int32.toNatClampNeg 1)) + 1)) 501 a0 0) (Int32.toNatClampNeg 1)) (sI w 601 (gR w 501 a0 0) (Int32.toNatClampNeg 1) ((gI w 601 (gR w 501 a0 0) (Int32.toNatClampNeg 1)) + 1))).bind (fun r4 => some (r4.1, r4.2)))))
set_option maxHeartbeats 4000000 in
set_option maxRecDepth 100000 in
theorem c_X5_passes (l : Launch) (D : va_G) (cy : Nat → ClassId) (a0 : Nat) (w : FW) (r : Int32 × FW) (hF : F_X5_passes a0 w = some r) : fSpec l D cy yX5_passes cX5_passes 1 (some .int) { frames := 1, cells := 0, slots := 0, locals := 21 } [.ref a0] w r.2 (some (.int r.1)) := by
  refine f_begin (by decide +kernel) (Nat.le_of_ble_eq_true rfl) (fun X hC hEn => ?_)
  unfold F_X5_passes at hF
  show fAt X 0 0 1 w [(0, .ref a0)] [] 0
  refine f_aload_n hC dX5_passes_0 rfl 0 rfl ?_
  obtain ⟨g1, hF⟩ := fg_open hF
  refine f_getR hC 5 1 501 rfl (by decide) iX5 q_1260 rfl rfl (fSm.k (fSm.rf w) g1) dX5_passes_1 ?_
  refine f_iconst (v := 1) hC dX5_passes_4 (by decide) ?_
  refine f_dup2 hC dX5_passes_5 rfl rfl ?_
  obtain ⟨g2, hF⟩ := fg_open hF
  obtain ⟨g3, hF⟩ := fg_open hF
  refine f_iald hC (fSm.k (fSm.rf w) g2) (fSm.v (fSm.rf w) g3) dX5_passes_6 ?_
  refine f_iconst (v := 1) hC dX5_passes_7 (by decide) ?_
  refine f_iadd hC dX5_passes_8 ?_
  refine f_iast hC (fSm.k (fSm.rf w) g2) (fSm.v (fSm.rf w) g3) dX5_passes_9 ?_
  refine f_aload_n hC dX5_passes_10 rfl 0 rfl ?_
  refine f_aload_n hC dX5_passes_11 rfl 0 rfl ?_
  refine f_getR hC 5 1 501 rfl (by decide) iX5 q_1260 rfl rfl (fSm.k (fSm.rf w) g1) dX5_passes_12 ?_
  refine f_iconst (v := 1) hC dX5_passes_15 (by decide) ?_
  refine f_iald hC (fSm.k (fSm.rf w) g2) (fSm.v (fSm.rf w) g3) dX5_passes_16 ?_
  obtain ⟨r4, h5, hF⟩ := fb_open hF
  refine f_callV hC [.int (gI (sI w 601 (gR w 501 a0 0) (Int32.toNatClampNeg 1) ((gI w 601 (gR w 501 a0 0) (Int32.toNatClampNeg 1)) + 1)) 601 (gR (sI w 601 (gR w 501 a0 0) (Int32.toNatClampNeg 1) ((gI w 601 (gR w 501 a0 0) (Int32.toNatClampNeg 1)) + 1)) 501 a0 0) (Int32.toNatClampNeg 1))] (c_X5_done l D cy a0 (gI (sI w 601 (gR w 501 a0 0) (Int32.toNatClampNeg 1) ((gI w 601 (gR w 501 a0 0) (Int32.toNatClampNeg 1)) + 1)) 601 (gR (sI w 601 (gR w 501 a0 0) (Int32.toNatClampNeg 1) ((gI w 601 (gR w 501 a0 0) (Int32.toNatClampNeg 1)) + 1)) 501 a0 0) (Int32.toNatClampNeg 1)) (sI w 601 (gR w 501 a0 0) (Int32.toNatClampNeg 1) ((gI w 601 (gR w 501 a0 0) (Int32.toNatClampNeg 1)) + 1)) r4 h5) q_1368 q_137 q_1365 q_1367 q_76 h9_X5_done rfl (fSm.k (fSm.rf w) g1) ⟨Nat.le_of_ble_eq_true rfl, Nat.le_of_ble_eq_true rfl⟩ ⟨Nat.le_of_ble_eq_true rfl, Nat.le_of_ble_eq_true rfl⟩ (Nat.le_of_ble_eq_true rfl) rfl dX5_passes_17 (fun e6 => ?_)
  obtain rfl := Option.some.inj hF
  exact f_iret hC hEn (fSm.tr e6 (fSm.rf w)) dX5_passes_20
theorem dX5_clear_0 : decode cX5_clear 0 = .ok (.aload_n 0, 1) := by decide +kernel
theorem dX5_clear_1 : decode cX5_clear 1 = .ok (.iconst 0, 1) := by decide +kernel
theorem dX5_clear_2 : decode cX5_clear 2 = .ok (.putfield 41, 3) := by decide +kernel
theorem dX5_clear_5 : decode cX5_clear 5 = .ok (.aload_n 0, 1) := by decide +kernel
theorem dX5_clear_6 : decode cX5_clear 6 = .ok (.getfield 7, 3) := by decide +kernel
theorem dX5_clear_9 : decode cX5_clear 9 = .ok (.iconst 0, 1) := by decide +kernel
theorem dX5_clear_10 : decode cX5_clear 10 = .ok (.iaload, 1) := by decide +kernel
theorem dX5_clear_11 : decode cX5_clear 11 = .ok (.istore_n 1, 1) := by decide +kernel
theorem dX5_clear_12 : decode cX5_clear 12 = .ok (.iconst 0, 1) := by decide +kernel
theorem dX5_clear_13 : decode cX5_clear 13 = .ok (.istore_n 2, 1) := by decide +kernel
theorem dX5_clear_14 : decode cX5_clear 14 = .ok (.iload_n 2, 1) := by decide +kernel
theorem dX5_clear_15 : decode cX5_clear 15 = .ok (.sipush 177, 3) := by decide +kernel
theorem dX5_clear_18 : decode cX5_clear 18 = .ok (.if_icmp .ge 16, 3) := by decide +kernel
theorem dX5_clear_21 : decode cX5_clear 21 = .ok (.aload_n 0, 1) := by decide +kernel
theorem dX5_clear_22 : decode cX5_clear 22 = .ok (.getfield 7, 3) := by decide +kernel
theorem dX5_clear_25 : decode cX5_clear 25 = .ok (.iload_n 2, 1) := by decide +kernel
theorem dX5_clear_26 : decode cX5_clear 26 = .ok (.iconst 0, 1) := by decide +kernel
theorem dX5_clear_27 : decode cX5_clear 27 = .ok (.iastore, 1) := by decide +kernel
theorem dX5_clear_28 : decode cX5_clear 28 = .ok (.iinc 2 1, 3) := by decide +kernel
theorem dX5_clear_31 : decode cX5_clear 31 = .ok (.goto (-17), 3) := by decide +kernel
theorem dX5_clear_34 : decode cX5_clear 34 = .ok (.aload_n 0, 1) := by decide +kernel
theorem dX5_clear_35 : decode cX5_clear 35 = .ok (.iconst 0, 1) := by decide +kernel
theorem dX5_clear_36 : decode cX5_clear 36 = .ok (.putfield 44, 3) := by decide +kernel
theorem dX5_clear_39 : decode cX5_clear 39 = .ok (.iload_n 1, 1) := by decide +kernel
theorem dX5_clear_40 : decode cX5_clear 40 = .ok (.ireturn, 1) := by decide +kernel
theorem h9_X5_clear : yX5_clear.cls ≠ "java/lang/invoke/MethodHandle" ∧ yX5_clear.cls ≠ "java/lang/invoke/VarHandle" ∧ (parseMethodDescriptor yX5_clear.desc).map (fun d => d.parameters.length) = some 0 := by decide +kernel
noncomputable def F_X5_clear (a0 : Nat) (w : FW) : Option (Int32 × FW) :=
  fg (w.1 a0 = 6) inferInstance (fg (w.1 (gR w 501 a0 0) = 11) inferInstance (fg (¬ ((0 : Int32) < 0 ∨ w.2.1 (gR w 501 a0 0) ≤ Int32.toNatClampNeg 0)) inferInstance ((fLoop (σ := Int32 × FW) (ρ := FW) (fun s4 => (if 177 ≤ s4.1 then some (.inr s4.2) else fg (w.1 (gR s4.2 501 a0 0) = 11) inferInstance (fg (¬ (s4.1 < 0 ∨ w.2.1 (gR s4.2 501 a0 0) ≤ Int32.toNatClampNeg s4.1)) inferInstance (some (.inl ((s4.1 + 1), (sI s4.2 601 (gR s4.2 501 a0 0) (Int32.toNatClampNeg s4.1) 0))))))) (0, (sI w 500 a0 0 0))).bind (fun x10 => some ((gI (sI w 500 a0 0 0) 601 (gR (sI w 500 a0 0 0) 501 a0 0) (Int32.toNatClampNeg 0)), (sI x10 505 a0 0 0))))))
set_option maxHeartbeats 4000000 in
set_option maxRecDepth 100000 in
theorem c_X5_clear (l : Launch) (D : va_G) (cy : Nat → ClassId) (a0 : Nat) (w : FW) (r : Int32 × FW) (hF : F_X5_clear a0 w = some r) : fSpec l D cy yX5_clear cX5_clear 3 (some .int) { frames := 0, cells := 0, slots := 0, locals := 0 } [.ref a0] w r.2 (some (.int r.1)) := by
  refine f_begin (by decide +kernel) (Nat.le_of_ble_eq_true rfl) (fun X hC hEn => ?_)
  unfold F_X5_clear at hF
  show fAt X 0 0 3 w [(0, .ref a0)] [] 0
  refine f_aload_n hC dX5_clear_0 rfl 0 rfl ?_
  refine f_iconst (v := 0) hC dX5_clear_1 (by decide) ?_
  obtain ⟨g1, hF⟩ := fg_open hF
  refine f_putI hC 5 0 500 rfl (by decide) iX5 tyX5 tyX5_ok nmX5 q_1259 rfl rfl rfl rfl rfl (fSm.k (fSm.rf w) g1) dX5_clear_2 ?_
  refine f_aload_n hC dX5_clear_5 rfl 0 rfl ?_
  refine f_getR hC 5 1 501 rfl (by decide) iX5 q_1260 rfl rfl (fSm.k (fSm.rf w) g1) dX5_clear_6 ?_
  refine f_iconst (v := 0) hC dX5_clear_9 (by decide) ?_
  obtain ⟨g2, hF⟩ := fg_open hF
  obtain ⟨g3, hF⟩ := fg_open hF
  refine f_iald hC (fSm.k (fSm.rf w) g2) (fSm.v (fSm.rf w) g3) dX5_clear_10 ?_
  refine f_istore_n (L' := [(1, .int (gI (sI w 500 a0 0 0) 601 (gR (sI w 500 a0 0 0) 501 a0 0) (Int32.toNatClampNeg 0))), (0, .ref a0)]) hC dX5_clear_11 rfl (by decide) rfl ?_
  refine f_iconst (v := 0) hC dX5_clear_12 (by decide) ?_
  refine f_istore_n (L' := [(2, .int 0), (1, .int (gI (sI w 500 a0 0 0) 601 (gR (sI w 500 a0 0 0) 501 a0 0) (Int32.toNatClampNeg 0))), (0, .ref a0)]) hC dX5_clear_13 rfl (by decide) rfl ?_
  obtain ⟨x10, h11, hF⟩ := fb_open hF
  have K12 : fSm x10 w → fAt X 0 0 3 x10 [(0, .ref a0), (1, .int (gI (sI w 500 a0 0 0) 601 (gR (sI w 500 a0 0 0) 501 a0 0) (Int32.toNatClampNeg 0)))] [] 34 := by
    intro p8
    refine f_aload_n hC dX5_clear_34 rfl 0 rfl ?_
    refine f_iconst (v := 0) hC dX5_clear_35 (by decide) ?_
    refine f_putI hC 5 5 505 rfl (by decide) iX5 tyX5 tyX5_ok nmX5 q_1264 rfl rfl rfl rfl rfl (fSm.k p8 g1) dX5_clear_36 ?_
    refine f_iload_n hC dX5_clear_39 rfl 1 rfl ?_
    obtain rfl := Option.some.inj hF
    exact f_iret hC hEn p8 dX5_clear_40
  refine f_sub (L' := [(0, .ref a0), (1, .int (gI (sI w 500 a0 0 0) 601 (gR (sI w 500 a0 0 0) 501 a0 0) (Int32.toNatClampNeg 0))), (2, .int 0)]) [2, 1, 0] rfl ?_
  refine fLoop_ind (fun (s4 : Int32 × FW) => fSm s4.2 w → fAt X 0 0 3 s4.2 [(0, .ref a0), (1, .int (gI (sI w 500 a0 0 0) 601 (gR (sI w 500 a0 0 0) 501 a0 0) (Int32.toNatClampNeg 0))), (2, .int s4.1)] [] 14) (fun s4 y9 h5 go6 ou7 => ?_) h11 (fSm.rf w)
  intro p8
  refine f_iload_n hC dX5_clear_14 rfl 2 rfl ?_
  refine f_sipush (v := 177) hC dX5_clear_15 (by decide) ?_
  refine f_icmp_ge hC 34 dX5_clear_18 (by decide) (fun c13 => ?_) (fun c13 => ?_)
  · replace h5 := fi_pos h5 c13
    obtain rfl := Option.some.inj h5
    obtain rfl := ou7 _ rfl
    refine f_sub (L' := [(0, .ref a0), (1, .int (gI (sI w 500 a0 0 0) 601 (gR (sI w 500 a0 0 0) 501 a0 0) (Int32.toNatClampNeg 0)))]) [0, 1] rfl ?_
    exact K12 p8
  · replace h5 := fi_neg h5 c13
    refine f_aload_n hC dX5_clear_21 rfl 0 rfl ?_
    refine f_getR hC 5 1 501 rfl (by decide) iX5 q_1260 rfl rfl (fSm.k p8 g1) dX5_clear_22 ?_
    refine f_iload_n hC dX5_clear_25 rfl 2 rfl ?_
    refine f_iconst (v := 0) hC dX5_clear_26 (by decide) ?_
    obtain ⟨g14, h5⟩ := fg_open h5
    obtain ⟨g15, h5⟩ := fg_open h5
    refine f_iast hC (fSm.k p8 g14) (fSm.v p8 g15) dX5_clear_27 ?_
    refine f_iinc (L' := [(2, .int (s4.1 + 1)), (0, .ref a0), (1, .int (gI (sI w 500 a0 0 0) 601 (gR (sI w 500 a0 0 0) 501 a0 0) (Int32.toNatClampNeg 0)))]) hC dX5_clear_28 2 rfl rfl (by decide) rfl ?_
    refine f_goto hC 14 dX5_clear_31 (by decide) ?_
    obtain rfl := Option.some.inj h5
    refine f_sub (L' := [(0, .ref a0), (1, .int (gI (sI w 500 a0 0 0) 601 (gR (sI w 500 a0 0 0) 501 a0 0) (Int32.toNatClampNeg 0))), (2, .int (s4.1 + 1))]) [1, 2, 0] rfl ?_
    exact go6 _ rfl p8
theorem dX5_letter_0 : decode cX5_letter 0 = .ok (.aload_n 0, 1) := by decide +kernel
theorem dX5_letter_1 : decode cX5_letter 1 = .ok (.invokevirtual 166, 3) := by decide +kernel
theorem dX5_letter_4 : decode cX5_letter 4 = .ok (.aload_n 0, 1) := by decide +kernel
theorem dX5_letter_5 : decode cX5_letter 5 = .ok (.aload_n 0, 1) := by decide +kernel
theorem dX5_letter_6 : decode cX5_letter 6 = .ok (.iload_n 1, 1) := by decide +kernel
theorem dX5_letter_7 : decode cX5_letter 7 = .ok (.invokevirtual 169, 3) := by decide +kernel
theorem dX5_letter_10 : decode cX5_letter 10 = .ok (.iconst 2, 1) := by decide +kernel
theorem dX5_letter_11 : decode cX5_letter 11 = .ok (.invokevirtual 172, 3) := by decide +kernel
theorem dX5_letter_14 : decode cX5_letter 14 = .ok (.ireturn, 1) := by decide +kernel
theorem h9_X5_letter : yX5_letter.cls ≠ "java/lang/invoke/MethodHandle" ∧ yX5_letter.cls ≠ "java/lang/invoke/VarHandle" ∧ (parseMethodDescriptor yX5_letter.desc).map (fun d => d.parameters.length) = some 1 := by decide +kernel
noncomputable def F_X5_letter (a0 : Nat) (x1 : Int32) (w : FW) : Option (Int32 × FW) :=
  fg (w.1 a0 = 6) inferInstance ((F_X5_remembers a0 w).bind (fun r1 => (F_X5_addsLetter a0 x1 r1).bind (fun r5 => (F_X5_ends a0 r5.1 2 r5.2).bind (fun r8 => some (r8.1, r8.2)))))
set_option maxHeartbeats 4000000 in
set_option maxRecDepth 100000 in
theorem c_X5_letter (l : Launch) (D : va_G) (cy : Nat → ClassId) (a0 : Nat) (x1 : Int32) (w : FW) (r : Int32 × FW) (hF : F_X5_letter a0 x1 w = some r) : fSpec l D cy yX5_letter cX5_letter 2 (some .int) { frames := 4, cells := 0, slots := 0, locals := 84 } [.ref a0, .int x1] w r.2 (some (.int r.1)) := by
  refine f_begin (by decide +kernel) (Nat.le_of_ble_eq_true rfl) (fun X hC hEn => ?_)
  unfold F_X5_letter at hF
  show fAt X 0 0 2 w [(0, .ref a0), (1, .int x1)] [] 0
  refine f_aload_n hC dX5_letter_0 rfl 0 rfl ?_
  obtain ⟨g3, hF⟩ := fg_open hF
  obtain ⟨r1, h2, hF⟩ := fb_open hF
  refine f_callV hC [] (c_X5_remembers l D cy a0 w r1 h2) q_1344 q_137 q_1341 q_1343 q_73 h9_X5_remembers rfl (fSm.k (fSm.rf w) g3) ⟨Nat.le_of_ble_eq_true rfl, Nat.le_of_ble_eq_true rfl⟩ ⟨Nat.le_of_ble_eq_true rfl, Nat.le_of_ble_eq_true rfl⟩ (Nat.le_of_ble_eq_true rfl) rfl dX5_letter_1 (fun e4 => ?_)
  refine f_aload_n hC dX5_letter_4 rfl 0 rfl ?_
  refine f_aload_n hC dX5_letter_5 rfl 0 rfl ?_
  refine f_iload_n hC dX5_letter_6 rfl 1 rfl ?_
  obtain ⟨r5, h6, hF⟩ := fb_open hF
  refine f_callV hC [.int x1] (c_X5_addsLetter l D cy a0 x1 r1 r5 h6) q_1348 q_137 q_1345 q_1347 q_74 h9_X5_addsLetter rfl (fSm.k (fSm.tr e4 (fSm.rf w)) g3) ⟨Nat.le_of_ble_eq_true rfl, Nat.le_of_ble_eq_true rfl⟩ ⟨Nat.le_of_ble_eq_true rfl, Nat.le_of_ble_eq_true rfl⟩ (Nat.le_of_ble_eq_true rfl) rfl dX5_letter_7 (fun e7 => ?_)
  refine f_iconst (v := 2) hC dX5_letter_10 (by decide) ?_
  obtain ⟨r8, h9, hF⟩ := fb_open hF
  refine f_callV hC [.int r5.1, .int 2] (c_X5_ends l D cy a0 r5.1 2 r5.2 r8 h9) q_1372 q_137 q_1369 q_1371 q_77 h9_X5_ends rfl (fSm.k (fSm.tr e7 (fSm.tr e4 (fSm.rf w))) g3) ⟨Nat.le_of_ble_eq_true rfl, Nat.le_of_ble_eq_true rfl⟩ ⟨Nat.le_of_ble_eq_true rfl, Nat.le_of_ble_eq_true rfl⟩ (Nat.le_of_ble_eq_true rfl) rfl dX5_letter_11 (fun e10 => ?_)
  obtain rfl := Option.some.inj hF
  exact f_iret hC hEn (fSm.tr e10 (fSm.tr e7 (fSm.tr e4 (fSm.rf w)))) dX5_letter_14
theorem dX5_unletter_0 : decode cX5_unletter 0 = .ok (.aload_n 0, 1) := by decide +kernel
theorem dX5_unletter_1 : decode cX5_unletter 1 = .ok (.invokevirtual 166, 3) := by decide +kernel
theorem dX5_unletter_4 : decode cX5_unletter 4 = .ok (.aload_n 0, 1) := by decide +kernel
theorem dX5_unletter_5 : decode cX5_unletter 5 = .ok (.aload_n 0, 1) := by decide +kernel
theorem dX5_unletter_6 : decode cX5_unletter 6 = .ok (.invokevirtual 175, 3) := by decide +kernel
theorem dX5_unletter_9 : decode cX5_unletter 9 = .ok (.iconst 1, 1) := by decide +kernel
theorem dX5_unletter_10 : decode cX5_unletter 10 = .ok (.invokevirtual 172, 3) := by decide +kernel
theorem dX5_unletter_13 : decode cX5_unletter 13 = .ok (.ireturn, 1) := by decide +kernel
theorem h9_X5_unletter : yX5_unletter.cls ≠ "java/lang/invoke/MethodHandle" ∧ yX5_unletter.cls ≠ "java/lang/invoke/VarHandle" ∧ (parseMethodDescriptor yX5_unletter.desc).map (fun d => d.parameters.length) = some 0 := by decide +kernel
noncomputable def F_X5_unletter (a0 : Nat) (w : FW) : Option (Int32 × FW) :=
  fg (w.1 a0 = 6) inferInstance ((F_X5_remembers a0 w).bind (fun r1 => (F_X5_takesLetter a0 r1).bind (fun r5 => (F_X5_ends a0 r5.1 1 r5.2).bind (fun r8 => some (r8.1, r8.2)))))
set_option maxHeartbeats 4000000 in
set_option maxRecDepth 100000 in
theorem c_X5_unletter (l : Launch) (D : va_G) (cy : Nat → ClassId) (a0 : Nat) (w : FW) (r : Int32 × FW) (hF : F_X5_unletter a0 w = some r) : fSpec l D cy yX5_unletter cX5_unletter 1 (some .int) { frames := 2, cells := 0, slots := 0, locals := 44 } [.ref a0] w r.2 (some (.int r.1)) := by
  refine f_begin (by decide +kernel) (Nat.le_of_ble_eq_true rfl) (fun X hC hEn => ?_)
  unfold F_X5_unletter at hF
  show fAt X 0 0 1 w [(0, .ref a0)] [] 0
  refine f_aload_n hC dX5_unletter_0 rfl 0 rfl ?_
  obtain ⟨g3, hF⟩ := fg_open hF
  obtain ⟨r1, h2, hF⟩ := fb_open hF
  refine f_callV hC [] (c_X5_remembers l D cy a0 w r1 h2) q_1344 q_137 q_1341 q_1343 q_73 h9_X5_remembers rfl (fSm.k (fSm.rf w) g3) ⟨Nat.le_of_ble_eq_true rfl, Nat.le_of_ble_eq_true rfl⟩ ⟨Nat.le_of_ble_eq_true rfl, Nat.le_of_ble_eq_true rfl⟩ (Nat.le_of_ble_eq_true rfl) rfl dX5_unletter_1 (fun e4 => ?_)
  refine f_aload_n hC dX5_unletter_4 rfl 0 rfl ?_
  refine f_aload_n hC dX5_unletter_5 rfl 0 rfl ?_
  obtain ⟨r5, h6, hF⟩ := fb_open hF
  refine f_callV hC [] (c_X5_takesLetter l D cy a0 r1 r5 h6) q_1388 q_137 q_1385 q_1387 q_80 h9_X5_takesLetter rfl (fSm.k (fSm.tr e4 (fSm.rf w)) g3) ⟨Nat.le_of_ble_eq_true rfl, Nat.le_of_ble_eq_true rfl⟩ ⟨Nat.le_of_ble_eq_true rfl, Nat.le_of_ble_eq_true rfl⟩ (Nat.le_of_ble_eq_true rfl) rfl dX5_unletter_6 (fun e7 => ?_)
  refine f_iconst (v := 1) hC dX5_unletter_9 (by decide) ?_
  obtain ⟨r8, h9, hF⟩ := fb_open hF
  refine f_callV hC [.int r5.1, .int 1] (c_X5_ends l D cy a0 r5.1 1 r5.2 r8 h9) q_1372 q_137 q_1369 q_1371 q_77 h9_X5_ends rfl (fSm.k (fSm.tr e7 (fSm.tr e4 (fSm.rf w))) g3) ⟨Nat.le_of_ble_eq_true rfl, Nat.le_of_ble_eq_true rfl⟩ ⟨Nat.le_of_ble_eq_true rfl, Nat.le_of_ble_eq_true rfl⟩ (Nat.le_of_ble_eq_true rfl) rfl dX5_unletter_10 (fun e10 => ?_)
  obtain rfl := Option.some.inj hF
  exact f_iret hC hEn (fSm.tr e10 (fSm.tr e7 (fSm.tr e4 (fSm.rf w)))) dX5_unletter_13
theorem dX5_print_0 : decode cX5_print 0 = .ok (.aload_n 0, 1) := by decide +kernel
theorem dX5_print_1 : decode cX5_print 1 = .ok (.invokevirtual 166, 3) := by decide +kernel
theorem dX5_print_4 : decode cX5_print 4 = .ok (.aload_n 0, 1) := by decide +kernel
theorem dX5_print_5 : decode cX5_print 5 = .ok (.aload_n 0, 1) := by decide +kernel
theorem dX5_print_6 : decode cX5_print 6 = .ok (.iload_n 1, 1) := by decide +kernel
theorem dX5_print_7 : decode cX5_print 7 = .ok (.iload_n 2, 1) := by decide +kernel
theorem dX5_print_8 : decode cX5_print 8 = .ok (.iload_n 3, 1) := by decide +kernel
theorem dX5_print_9 : decode cX5_print 9 = .ok (.invokevirtual 178, 3) := by decide +kernel
theorem dX5_print_12 : decode cX5_print 12 = .ok (.iconst 3, 1) := by decide +kernel
theorem dX5_print_13 : decode cX5_print 13 = .ok (.invokevirtual 172, 3) := by decide +kernel
theorem dX5_print_16 : decode cX5_print 16 = .ok (.ireturn, 1) := by decide +kernel
theorem h9_X5_print : yX5_print.cls ≠ "java/lang/invoke/MethodHandle" ∧ yX5_print.cls ≠ "java/lang/invoke/VarHandle" ∧ (parseMethodDescriptor yX5_print.desc).map (fun d => d.parameters.length) = some 3 := by decide +kernel
noncomputable def F_X5_print (a0 : Nat) (x1 : Int32) (x2 : Int32) (x3 : Int32) (w : FW) : Option (Int32 × FW) :=
  fg (w.1 a0 = 6) inferInstance ((F_X5_remembers a0 w).bind (fun r1 => (F_X5_printsDraft a0 x1 x2 x3 r1).bind (fun r5 => (F_X5_ends a0 r5.1 3 r5.2).bind (fun r8 => some (r8.1, r8.2)))))
set_option maxHeartbeats 4000000 in
set_option maxRecDepth 100000 in
theorem c_X5_print (l : Launch) (D : va_G) (cy : Nat → ClassId) (a0 : Nat) (x1 : Int32) (x2 : Int32) (x3 : Int32) (w : FW) (r : Int32 × FW) (hF : F_X5_print a0 x1 x2 x3 w = some r) : fSpec l D cy yX5_print cX5_print 4 (some .int) { frames := 4, cells := 0, slots := 0, locals := 99 } [.ref a0, .int x1, .int x2, .int x3] w r.2 (some (.int r.1)) := by
  refine f_begin (by decide +kernel) (Nat.le_of_ble_eq_true rfl) (fun X hC hEn => ?_)
  unfold F_X5_print at hF
  show fAt X 0 0 4 w [(0, .ref a0), (1, .int x1), (2, .int x2), (3, .int x3)] [] 0
  refine f_aload_n hC dX5_print_0 rfl 0 rfl ?_
  obtain ⟨g3, hF⟩ := fg_open hF
  obtain ⟨r1, h2, hF⟩ := fb_open hF
  refine f_callV hC [] (c_X5_remembers l D cy a0 w r1 h2) q_1344 q_137 q_1341 q_1343 q_73 h9_X5_remembers rfl (fSm.k (fSm.rf w) g3) ⟨Nat.le_of_ble_eq_true rfl, Nat.le_of_ble_eq_true rfl⟩ ⟨Nat.le_of_ble_eq_true rfl, Nat.le_of_ble_eq_true rfl⟩ (Nat.le_of_ble_eq_true rfl) rfl dX5_print_1 (fun e4 => ?_)
  refine f_aload_n hC dX5_print_4 rfl 0 rfl ?_
  refine f_aload_n hC dX5_print_5 rfl 0 rfl ?_
  refine f_iload_n hC dX5_print_6 rfl 1 rfl ?_
  refine f_iload_n hC dX5_print_7 rfl 2 rfl ?_
  refine f_iload_n hC dX5_print_8 rfl 3 rfl ?_
  obtain ⟨r5, h6, hF⟩ := fb_open hF
  refine f_callV hC [.int x1, .int x2, .int x3] (c_X5_printsDraft l D cy a0 x1 x2 x3 r1 r5 h6) q_1396 q_137 q_1393 q_1395 q_81 h9_X5_printsDraft rfl (fSm.k (fSm.tr e4 (fSm.rf w)) g3) ⟨Nat.le_of_ble_eq_true rfl, Nat.le_of_ble_eq_true rfl⟩ ⟨Nat.le_of_ble_eq_true rfl, Nat.le_of_ble_eq_true rfl⟩ (Nat.le_of_ble_eq_true rfl) rfl dX5_print_9 (fun e7 => ?_)
  refine f_iconst (v := 3) hC dX5_print_12 (by decide) ?_
  obtain ⟨r8, h9, hF⟩ := fb_open hF
  refine f_callV hC [.int r5.1, .int 3] (c_X5_ends l D cy a0 r5.1 3 r5.2 r8 h9) q_1372 q_137 q_1369 q_1371 q_77 h9_X5_ends rfl (fSm.k (fSm.tr e7 (fSm.tr e4 (fSm.rf w))) g3) ⟨Nat.le_of_ble_eq_true rfl, Nat.le_of_ble_eq_true rfl⟩ ⟨Nat.le_of_ble_eq_true rfl, Nat.le_of_ble_eq_true rfl⟩ (Nat.le_of_ble_eq_true rfl) rfl dX5_print_13 (fun e10 => ?_)
  obtain rfl := Option.some.inj hF
  exact f_iret hC hEn (fSm.tr e10 (fSm.tr e7 (fSm.tr e4 (fSm.rf w)))) dX5_print_16
theorem dX5_throwAway_0 : decode cX5_throwAway 0 = .ok (.aload_n 0, 1) := by decide +kernel
theorem dX5_throwAway_1 : decode cX5_throwAway 1 = .ok (.invokevirtual 166, 3) := by decide +kernel
theorem dX5_throwAway_4 : decode cX5_throwAway 4 = .ok (.aload_n 0, 1) := by decide +kernel
theorem dX5_throwAway_5 : decode cX5_throwAway 5 = .ok (.aload_n 0, 1) := by decide +kernel
theorem dX5_throwAway_6 : decode cX5_throwAway 6 = .ok (.iload_n 1, 1) := by decide +kernel
theorem dX5_throwAway_7 : decode cX5_throwAway 7 = .ok (.invokevirtual 181, 3) := by decide +kernel
theorem dX5_throwAway_10 : decode cX5_throwAway 10 = .ok (.iconst 2, 1) := by decide +kernel
theorem dX5_throwAway_11 : decode cX5_throwAway 11 = .ok (.invokevirtual 172, 3) := by decide +kernel
theorem dX5_throwAway_14 : decode cX5_throwAway 14 = .ok (.ireturn, 1) := by decide +kernel
theorem h9_X5_throwAway : yX5_throwAway.cls ≠ "java/lang/invoke/MethodHandle" ∧ yX5_throwAway.cls ≠ "java/lang/invoke/VarHandle" ∧ (parseMethodDescriptor yX5_throwAway.desc).map (fun d => d.parameters.length) = some 1 := by decide +kernel
noncomputable def F_X5_throwAway (a0 : Nat) (x1 : Int32) (w : FW) : Option (Int32 × FW) :=
  fg (w.1 a0 = 6) inferInstance ((F_X5_remembers a0 w).bind (fun r1 => (F_X5_throwsAway a0 x1 r1).bind (fun r5 => (F_X5_ends a0 r5.1 2 r5.2).bind (fun r8 => some (r8.1, r8.2)))))
set_option maxHeartbeats 4000000 in
set_option maxRecDepth 100000 in
theorem c_X5_throwAway (l : Launch) (D : va_G) (cy : Nat → ClassId) (a0 : Nat) (x1 : Int32) (w : FW) (r : Int32 × FW) (hF : F_X5_throwAway a0 x1 w = some r) : fSpec l D cy yX5_throwAway cX5_throwAway 2 (some .int) { frames := 3, cells := 0, slots := 0, locals := 66 } [.ref a0, .int x1] w r.2 (some (.int r.1)) := by
  refine f_begin (by decide +kernel) (Nat.le_of_ble_eq_true rfl) (fun X hC hEn => ?_)
  unfold F_X5_throwAway at hF
  show fAt X 0 0 2 w [(0, .ref a0), (1, .int x1)] [] 0
  refine f_aload_n hC dX5_throwAway_0 rfl 0 rfl ?_
  obtain ⟨g3, hF⟩ := fg_open hF
  obtain ⟨r1, h2, hF⟩ := fb_open hF
  refine f_callV hC [] (c_X5_remembers l D cy a0 w r1 h2) q_1344 q_137 q_1341 q_1343 q_73 h9_X5_remembers rfl (fSm.k (fSm.rf w) g3) ⟨Nat.le_of_ble_eq_true rfl, Nat.le_of_ble_eq_true rfl⟩ ⟨Nat.le_of_ble_eq_true rfl, Nat.le_of_ble_eq_true rfl⟩ (Nat.le_of_ble_eq_true rfl) rfl dX5_throwAway_1 (fun e4 => ?_)
  refine f_aload_n hC dX5_throwAway_4 rfl 0 rfl ?_
  refine f_aload_n hC dX5_throwAway_5 rfl 0 rfl ?_
  refine f_iload_n hC dX5_throwAway_6 rfl 1 rfl ?_
  obtain ⟨r5, h6, hF⟩ := fb_open hF
  refine f_callV hC [.int x1] (c_X5_throwsAway l D cy a0 x1 r1 r5 h6) q_1416 q_137 q_1413 q_1415 q_85 h9_X5_throwsAway rfl (fSm.k (fSm.tr e4 (fSm.rf w)) g3) ⟨Nat.le_of_ble_eq_true rfl, Nat.le_of_ble_eq_true rfl⟩ ⟨Nat.le_of_ble_eq_true rfl, Nat.le_of_ble_eq_true rfl⟩ (Nat.le_of_ble_eq_true rfl) rfl dX5_throwAway_7 (fun e7 => ?_)
  refine f_iconst (v := 2) hC dX5_throwAway_10 (by decide) ?_
  obtain ⟨r8, h9, hF⟩ := fb_open hF
  refine f_callV hC [.int r5.1, .int 2] (c_X5_ends l D cy a0 r5.1 2 r5.2 r8 h9) q_1372 q_137 q_1369 q_1371 q_77 h9_X5_ends rfl (fSm.k (fSm.tr e7 (fSm.tr e4 (fSm.rf w))) g3) ⟨Nat.le_of_ble_eq_true rfl, Nat.le_of_ble_eq_true rfl⟩ ⟨Nat.le_of_ble_eq_true rfl, Nat.le_of_ble_eq_true rfl⟩ (Nat.le_of_ble_eq_true rfl) rfl dX5_throwAway_11 (fun e10 => ?_)
  obtain rfl := Option.some.inj hF
  exact f_iret hC hEn (fSm.tr e10 (fSm.tr e7 (fSm.tr e4 (fSm.rf w)))) dX5_throwAway_14
theorem dX5_mood_0 : decode cX5_mood 0 = .ok (.aload_n 0, 1) := by decide +kernel
theorem dX5_mood_1 : decode cX5_mood 1 = .ok (.invokevirtual 166, 3) := by decide +kernel
theorem dX5_mood_4 : decode cX5_mood 4 = .ok (.aload_n 0, 1) := by decide +kernel
theorem dX5_mood_5 : decode cX5_mood 5 = .ok (.aload_n 0, 1) := by decide +kernel
theorem dX5_mood_6 : decode cX5_mood 6 = .ok (.iload_n 1, 1) := by decide +kernel
theorem dX5_mood_7 : decode cX5_mood 7 = .ok (.iload_n 2, 1) := by decide +kernel
theorem dX5_mood_8 : decode cX5_mood 8 = .ok (.invokevirtual 184, 3) := by decide +kernel
theorem dX5_mood_11 : decode cX5_mood 11 = .ok (.iconst 3, 1) := by decide +kernel
theorem dX5_mood_12 : decode cX5_mood 12 = .ok (.invokevirtual 172, 3) := by decide +kernel
theorem dX5_mood_15 : decode cX5_mood 15 = .ok (.ireturn, 1) := by decide +kernel
theorem h9_X5_mood : yX5_mood.cls ≠ "java/lang/invoke/MethodHandle" ∧ yX5_mood.cls ≠ "java/lang/invoke/VarHandle" ∧ (parseMethodDescriptor yX5_mood.desc).map (fun d => d.parameters.length) = some 2 := by decide +kernel
noncomputable def F_X5_mood (a0 : Nat) (x1 : Int32) (x2 : Int32) (w : FW) : Option (Int32 × FW) :=
  fg (w.1 a0 = 6) inferInstance ((F_X5_remembers a0 w).bind (fun r1 => (F_X5_tellsMood a0 x1 x2 r1).bind (fun r5 => (F_X5_ends a0 r5.1 3 r5.2).bind (fun r8 => some (r8.1, r8.2)))))
set_option maxHeartbeats 4000000 in
set_option maxRecDepth 100000 in
theorem c_X5_mood (l : Launch) (D : va_G) (cy : Nat → ClassId) (a0 : Nat) (x1 : Int32) (x2 : Int32) (w : FW) (r : Int32 × FW) (hF : F_X5_mood a0 x1 x2 w = some r) : fSpec l D cy yX5_mood cX5_mood 3 (some .int) { frames := 2, cells := 0, slots := 0, locals := 45 } [.ref a0, .int x1, .int x2] w r.2 (some (.int r.1)) := by
  refine f_begin (by decide +kernel) (Nat.le_of_ble_eq_true rfl) (fun X hC hEn => ?_)
  unfold F_X5_mood at hF
  show fAt X 0 0 3 w [(0, .ref a0), (1, .int x1), (2, .int x2)] [] 0
  refine f_aload_n hC dX5_mood_0 rfl 0 rfl ?_
  obtain ⟨g3, hF⟩ := fg_open hF
  obtain ⟨r1, h2, hF⟩ := fb_open hF
  refine f_callV hC [] (c_X5_remembers l D cy a0 w r1 h2) q_1344 q_137 q_1341 q_1343 q_73 h9_X5_remembers rfl (fSm.k (fSm.rf w) g3) ⟨Nat.le_of_ble_eq_true rfl, Nat.le_of_ble_eq_true rfl⟩ ⟨Nat.le_of_ble_eq_true rfl, Nat.le_of_ble_eq_true rfl⟩ (Nat.le_of_ble_eq_true rfl) rfl dX5_mood_1 (fun e4 => ?_)
  refine f_aload_n hC dX5_mood_4 rfl 0 rfl ?_
  refine f_aload_n hC dX5_mood_5 rfl 0 rfl ?_
  refine f_iload_n hC dX5_mood_6 rfl 1 rfl ?_
  refine f_iload_n hC dX5_mood_7 rfl 2 rfl ?_
  obtain ⟨r5, h6, hF⟩ := fb_open hF
  refine f_callV hC [.int x1, .int x2] (c_X5_tellsMood l D cy a0 x1 x2 r1 r5 h6) q_1428 q_137 q_1425 q_1427 q_87 h9_X5_tellsMood rfl (fSm.k (fSm.tr e4 (fSm.rf w)) g3) ⟨Nat.le_of_ble_eq_true rfl, Nat.le_of_ble_eq_true rfl⟩ ⟨Nat.le_of_ble_eq_true rfl, Nat.le_of_ble_eq_true rfl⟩ (Nat.le_of_ble_eq_true rfl) rfl dX5_mood_8 (fun e7 => ?_)
  refine f_iconst (v := 3) hC dX5_mood_11 (by decide) ?_
  obtain ⟨r8, h9, hF⟩ := fb_open hF
  refine f_callV hC [.int r5.1, .int 3] (c_X5_ends l D cy a0 r5.1 3 r5.2 r8 h9) q_1372 q_137 q_1369 q_1371 q_77 h9_X5_ends rfl (fSm.k (fSm.tr e7 (fSm.tr e4 (fSm.rf w))) g3) ⟨Nat.le_of_ble_eq_true rfl, Nat.le_of_ble_eq_true rfl⟩ ⟨Nat.le_of_ble_eq_true rfl, Nat.le_of_ble_eq_true rfl⟩ (Nat.le_of_ble_eq_true rfl) rfl dX5_mood_12 (fun e10 => ?_)
  obtain rfl := Option.some.inj hF
  exact f_iret hC hEn (fSm.tr e10 (fSm.tr e7 (fSm.tr e4 (fSm.rf w)))) dX5_mood_15
theorem dX5_pier_0 : decode cX5_pier 0 = .ok (.aload_n 0, 1) := by decide +kernel
theorem dX5_pier_1 : decode cX5_pier 1 = .ok (.invokevirtual 166, 3) := by decide +kernel
theorem dX5_pier_4 : decode cX5_pier 4 = .ok (.aload_n 0, 1) := by decide +kernel
theorem dX5_pier_5 : decode cX5_pier 5 = .ok (.aload_n 0, 1) := by decide +kernel
theorem dX5_pier_6 : decode cX5_pier 6 = .ok (.iload_n 1, 1) := by decide +kernel
theorem dX5_pier_7 : decode cX5_pier 7 = .ok (.iload_n 2, 1) := by decide +kernel
theorem dX5_pier_8 : decode cX5_pier 8 = .ok (.invokevirtual 187, 3) := by decide +kernel
theorem dX5_pier_11 : decode cX5_pier 11 = .ok (.iconst 2, 1) := by decide +kernel
theorem dX5_pier_12 : decode cX5_pier 12 = .ok (.invokevirtual 172, 3) := by decide +kernel
theorem dX5_pier_15 : decode cX5_pier 15 = .ok (.ireturn, 1) := by decide +kernel
theorem h9_X5_pier : yX5_pier.cls ≠ "java/lang/invoke/MethodHandle" ∧ yX5_pier.cls ≠ "java/lang/invoke/VarHandle" ∧ (parseMethodDescriptor yX5_pier.desc).map (fun d => d.parameters.length) = some 2 := by decide +kernel
noncomputable def F_X5_pier (a0 : Nat) (x1 : Int32) (x2 : Int32) (w : FW) : Option (Int32 × FW) :=
  fg (w.1 a0 = 6) inferInstance ((F_X5_remembers a0 w).bind (fun r1 => (F_X5_turnsPier a0 x1 x2 r1).bind (fun r5 => (F_X5_ends a0 r5.1 2 r5.2).bind (fun r8 => some (r8.1, r8.2)))))
set_option maxHeartbeats 4000000 in
set_option maxRecDepth 100000 in
theorem c_X5_pier (l : Launch) (D : va_G) (cy : Nat → ClassId) (a0 : Nat) (x1 : Int32) (x2 : Int32) (w : FW) (r : Int32 × FW) (hF : F_X5_pier a0 x1 x2 w = some r) : fSpec l D cy yX5_pier cX5_pier 3 (some .int) { frames := 3, cells := 0, slots := 0, locals := 65 } [.ref a0, .int x1, .int x2] w r.2 (some (.int r.1)) := by
  refine f_begin (by decide +kernel) (Nat.le_of_ble_eq_true rfl) (fun X hC hEn => ?_)
  unfold F_X5_pier at hF
  show fAt X 0 0 3 w [(0, .ref a0), (1, .int x1), (2, .int x2)] [] 0
  refine f_aload_n hC dX5_pier_0 rfl 0 rfl ?_
  obtain ⟨g3, hF⟩ := fg_open hF
  obtain ⟨r1, h2, hF⟩ := fb_open hF
  refine f_callV hC [] (c_X5_remembers l D cy a0 w r1 h2) q_1344 q_137 q_1341 q_1343 q_73 h9_X5_remembers rfl (fSm.k (fSm.rf w) g3) ⟨Nat.le_of_ble_eq_true rfl, Nat.le_of_ble_eq_true rfl⟩ ⟨Nat.le_of_ble_eq_true rfl, Nat.le_of_ble_eq_true rfl⟩ (Nat.le_of_ble_eq_true rfl) rfl dX5_pier_1 (fun e4 => ?_)
  refine f_aload_n hC dX5_pier_4 rfl 0 rfl ?_
  refine f_aload_n hC dX5_pier_5 rfl 0 rfl ?_
  refine f_iload_n hC dX5_pier_6 rfl 1 rfl ?_
  refine f_iload_n hC dX5_pier_7 rfl 2 rfl ?_
  obtain ⟨r5, h6, hF⟩ := fb_open hF
  refine f_callV hC [.int x1, .int x2] (c_X5_turnsPier l D cy a0 x1 x2 r1 r5 h6) q_1436 q_137 q_1433 q_1435 q_88 h9_X5_turnsPier rfl (fSm.k (fSm.tr e4 (fSm.rf w)) g3) ⟨Nat.le_of_ble_eq_true rfl, Nat.le_of_ble_eq_true rfl⟩ ⟨Nat.le_of_ble_eq_true rfl, Nat.le_of_ble_eq_true rfl⟩ (Nat.le_of_ble_eq_true rfl) rfl dX5_pier_8 (fun e7 => ?_)
  refine f_iconst (v := 2) hC dX5_pier_11 (by decide) ?_
  obtain ⟨r8, h9, hF⟩ := fb_open hF
  refine f_callV hC [.int r5.1, .int 2] (c_X5_ends l D cy a0 r5.1 2 r5.2 r8 h9) q_1372 q_137 q_1369 q_1371 q_77 h9_X5_ends rfl (fSm.k (fSm.tr e7 (fSm.tr e4 (fSm.rf w))) g3) ⟨Nat.le_of_ble_eq_true rfl, Nat.le_of_ble_eq_true rfl⟩ ⟨Nat.le_of_ble_eq_true rfl, Nat.le_of_ble_eq_true rfl⟩ (Nat.le_of_ble_eq_true rfl) rfl dX5_pier_12 (fun e10 => ?_)
  obtain rfl := Option.some.inj hF
  exact f_iret hC hEn (fSm.tr e10 (fSm.tr e7 (fSm.tr e4 (fSm.rf w)))) dX5_pier_15
theorem dX5_vowelsOf_0 : decode cX5_vowelsOf 0 = .ok (.iconst 0, 1) := by decide +kernel
theorem dX5_vowelsOf_1 : decode cX5_vowelsOf 1 = .ok (.istore_n 2, 1) := by decide +kernel
theorem dX5_vowelsOf_2 : decode cX5_vowelsOf 2 = .ok (.iconst 0, 1) := by decide +kernel
theorem dX5_vowelsOf_3 : decode cX5_vowelsOf 3 = .ok (.istore_n 3, 1) := by decide +kernel
theorem dX5_vowelsOf_4 : decode cX5_vowelsOf 4 = .ok (.iload_n 3, 1) := by decide +kernel
theorem dX5_vowelsOf_5 : decode cX5_vowelsOf 5 = .ok (.aload_n 0, 1) := by decide +kernel
theorem dX5_vowelsOf_6 : decode cX5_vowelsOf 6 = .ok (.iload_n 1, 1) := by decide +kernel
theorem dX5_vowelsOf_7 : decode cX5_vowelsOf 7 = .ok (.iconst 0, 1) := by decide +kernel
theorem dX5_vowelsOf_8 : decode cX5_vowelsOf 8 = .ok (.invokevirtual 70, 3) := by decide +kernel
theorem dX5_vowelsOf_11 : decode cX5_vowelsOf 11 = .ok (.if_icmp .ge 30, 3) := by decide +kernel
theorem dX5_vowelsOf_14 : decode cX5_vowelsOf 14 = .ok (.iload_n 2, 1) := by decide +kernel
theorem dX5_vowelsOf_15 : decode cX5_vowelsOf 15 = .ok (.aload_n 0, 1) := by decide +kernel
theorem dX5_vowelsOf_16 : decode cX5_vowelsOf 16 = .ok (.iload_n 1, 1) := by decide +kernel
theorem dX5_vowelsOf_17 : decode cX5_vowelsOf 17 = .ok (.iload_n 3, 1) := by decide +kernel
theorem dX5_vowelsOf_18 : decode cX5_vowelsOf 18 = .ok (.invokevirtual 89, 3) := by decide +kernel
theorem dX5_vowelsOf_21 : decode cX5_vowelsOf 21 = .ok (.invokestatic 86, 3) := by decide +kernel
theorem dX5_vowelsOf_24 : decode cX5_vowelsOf 24 = .ok (.iconst (-1), 1) := by decide +kernel
theorem dX5_vowelsOf_25 : decode cX5_vowelsOf 25 = .ok (.if_icmp .ne 7, 3) := by decide +kernel
theorem dX5_vowelsOf_28 : decode cX5_vowelsOf 28 = .ok (.iconst 0, 1) := by decide +kernel
theorem dX5_vowelsOf_29 : decode cX5_vowelsOf 29 = .ok (.goto 4, 3) := by decide +kernel
theorem dX5_vowelsOf_32 : decode cX5_vowelsOf 32 = .ok (.iconst 1, 1) := by decide +kernel
theorem dX5_vowelsOf_33 : decode cX5_vowelsOf 33 = .ok (.iadd, 1) := by decide +kernel
theorem dX5_vowelsOf_34 : decode cX5_vowelsOf 34 = .ok (.istore_n 2, 1) := by decide +kernel
theorem dX5_vowelsOf_35 : decode cX5_vowelsOf 35 = .ok (.iinc 3 1, 3) := by decide +kernel
theorem dX5_vowelsOf_38 : decode cX5_vowelsOf 38 = .ok (.goto (-34), 3) := by decide +kernel
theorem dX5_vowelsOf_41 : decode cX5_vowelsOf 41 = .ok (.iload_n 2, 1) := by decide +kernel
theorem dX5_vowelsOf_42 : decode cX5_vowelsOf 42 = .ok (.ireturn, 1) := by decide +kernel
theorem h9_X5_vowelsOf : yX5_vowelsOf.cls ≠ "java/lang/invoke/MethodHandle" ∧ yX5_vowelsOf.cls ≠ "java/lang/invoke/VarHandle" ∧ (parseMethodDescriptor yX5_vowelsOf.desc).map (fun d => d.parameters.length) = some 1 := by decide +kernel
noncomputable def F_X5_vowelsOf (a0 : Nat) (x1 : Int32) (w : FW) : Option (Int32) :=
  (fLoop (σ := Int32 × Int32) (ρ := Int32) (fun s1 => fg (w.1 a0 = 6) inferInstance ((F_X5_of a0 x1 0 w).bind (fun r10 => (if r10 ≤ s1.2 then some (.inr s1.1) else (F_X5_letterOf a0 x1 s1.2 w).bind (fun r15 => (F_X5_vowel r15 w).bind (fun r18 => (if r18 = (-1) then some (.inl ((s1.1 + 0), (s1.2 + 1))) else some (.inl ((s1.1 + 1), (s1.2 + 1)))))))))) (0, 0)).bind (fun x7 => some x7)
set_option maxHeartbeats 4000000 in
set_option maxRecDepth 100000 in
theorem c_X5_vowelsOf (l : Launch) (D : va_G) (cy : Nat → ClassId) (a0 : Nat) (x1 : Int32) (w : FW) (r : Int32) (hF : F_X5_vowelsOf a0 x1 w = some r) : fSpec l D cy yX5_vowelsOf cX5_vowelsOf 4 (some .int) { frames := 2, cells := 0, slots := 0, locals := 44 } [.ref a0, .int x1] w w (some (.int r)) := by
  refine f_begin (by decide +kernel) (Nat.le_of_ble_eq_true rfl) (fun X hC hEn => ?_)
  unfold F_X5_vowelsOf at hF
  show fAt X 0 0 4 w [(0, .ref a0), (1, .int x1)] [] 0
  refine f_iconst (v := 0) hC dX5_vowelsOf_0 (by decide) ?_
  refine f_istore_n (L' := [(2, .int 0), (0, .ref a0), (1, .int x1)]) hC dX5_vowelsOf_1 rfl (by decide) rfl ?_
  refine f_iconst (v := 0) hC dX5_vowelsOf_2 (by decide) ?_
  refine f_istore_n (L' := [(3, .int 0), (2, .int 0), (0, .ref a0), (1, .int x1)]) hC dX5_vowelsOf_3 rfl (by decide) rfl ?_
  obtain ⟨x7, h8, hF⟩ := fb_open hF
  have K9 : fAt X 0 0 4 w [(2, .int x7)] [] 41 := by
    refine f_iload_n hC dX5_vowelsOf_41 rfl 0 rfl ?_
    obtain rfl := Option.some.inj hF
    exact f_iret hC hEn (fSm.rf w) dX5_vowelsOf_42
  refine f_sub (L' := [(0, .ref a0), (1, .int x1), (2, .int 0), (3, .int 0)]) [2, 3, 1, 0] rfl ?_
  refine fLoop_ind (fun (s1 : Int32 × Int32) => fAt X 0 0 4 w [(0, .ref a0), (1, .int x1), (2, .int s1.1), (3, .int s1.2)] [] 4) (fun s1 y6 h2 go3 ou4 => ?_) h8
  refine f_iload_n hC dX5_vowelsOf_4 rfl 3 rfl ?_
  refine f_aload_n hC dX5_vowelsOf_5 rfl 0 rfl ?_
  refine f_iload_n hC dX5_vowelsOf_6 rfl 1 rfl ?_
  refine f_iconst (v := 0) hC dX5_vowelsOf_7 (by decide) ?_
  obtain ⟨g12, h2⟩ := fg_open h2
  obtain ⟨r10, h11, h2⟩ := fb_open h2
  refine f_callV hC [.int x1, .int 0] (c_X5_of l D cy a0 x1 0 w r10 h11) q_1452 q_137 q_1449 q_1451 q_91 h9_X5_of rfl (fSm.k (fSm.rf w) g12) ⟨Nat.le_of_ble_eq_true rfl, Nat.le_of_ble_eq_true rfl⟩ ⟨Nat.le_of_ble_eq_true rfl, Nat.le_of_ble_eq_true rfl⟩ (Nat.le_of_ble_eq_true rfl) rfl dX5_vowelsOf_8 (fun e13 => ?_)
  refine f_icmp_ge hC 41 dX5_vowelsOf_11 (by decide) (fun c14 => ?_) (fun c14 => ?_)
  · replace h2 := fi_pos h2 c14
    obtain rfl := Option.some.inj h2
    obtain rfl := ou4 _ rfl
    refine f_sub (L' := [(2, .int s1.1)]) [2] rfl ?_
    exact K9
  · replace h2 := fi_neg h2 c14
    refine f_iload_n hC dX5_vowelsOf_14 rfl 2 rfl ?_
    refine f_aload_n hC dX5_vowelsOf_15 rfl 0 rfl ?_
    refine f_iload_n hC dX5_vowelsOf_16 rfl 1 rfl ?_
    refine f_iload_n hC dX5_vowelsOf_17 rfl 3 rfl ?_
    obtain ⟨r15, h16, h2⟩ := fb_open h2
    refine f_callV hC [.int x1, .int s1.2] (c_X5_letterOf l D cy a0 x1 s1.2 w r15 h16) q_1460 q_137 q_1457 q_1459 q_93 h9_X5_letterOf rfl (fSm.k (fSm.rf w) g12) ⟨Nat.le_of_ble_eq_true rfl, Nat.le_of_ble_eq_true rfl⟩ ⟨Nat.le_of_ble_eq_true rfl, Nat.le_of_ble_eq_true rfl⟩ (Nat.le_of_ble_eq_true rfl) rfl dX5_vowelsOf_18 (fun e17 => ?_)
    obtain ⟨r18, h19, h2⟩ := fb_open h2
    refine f_callS hC [.int r15] (c_X5_vowel l D cy r15 w r18 h19) q_1360 q_137 q_1358 q_1359 h9_X5_vowel ⟨Nat.le_of_ble_eq_true rfl, Nat.le_of_ble_eq_true rfl⟩ ⟨Nat.le_of_ble_eq_true rfl, Nat.le_of_ble_eq_true rfl⟩ (Nat.le_of_ble_eq_true rfl) rfl dX5_vowelsOf_21 (fun e20 => ?_)
    refine f_iconst (v := (-1)) hC dX5_vowelsOf_24 (by decide) ?_
    refine f_icmp_ne hC 32 dX5_vowelsOf_25 (by decide) (fun c21 => ?_) (fun c21 => ?_)
    · replace h2 := fi_neg h2 c21
      refine f_iconst (v := 1) hC dX5_vowelsOf_32 (by decide) ?_
      refine f_iadd hC dX5_vowelsOf_33 ?_
      refine f_istore_n (L' := [(2, .int (s1.1 + 1)), (0, .ref a0), (1, .int x1), (3, .int s1.2)]) hC dX5_vowelsOf_34 rfl (by decide) rfl ?_
      refine f_iinc (L' := [(3, .int (s1.2 + 1)), (2, .int (s1.1 + 1)), (0, .ref a0), (1, .int x1)]) hC dX5_vowelsOf_35 3 rfl rfl (by decide) rfl ?_
      refine f_goto hC 4 dX5_vowelsOf_38 (by decide) ?_
      obtain rfl := Option.some.inj h2
      refine f_sub (L' := [(0, .ref a0), (1, .int x1), (2, .int (s1.1 + 1)), (3, .int (s1.2 + 1))]) [2, 3, 1, 0] rfl ?_
      exact go3 _ rfl
    · replace h2 := fi_pos h2 c21
      refine f_iconst (v := 0) hC dX5_vowelsOf_28 (by decide) ?_
      refine f_goto hC 33 dX5_vowelsOf_29 (by decide) ?_
      refine f_iadd hC dX5_vowelsOf_33 ?_
      refine f_istore_n (L' := [(2, .int (s1.1 + 0)), (0, .ref a0), (1, .int x1), (3, .int s1.2)]) hC dX5_vowelsOf_34 rfl (by decide) rfl ?_
      refine f_iinc (L' := [(3, .int (s1.2 + 1)), (2, .int (s1.1 + 0)), (0, .ref a0), (1, .int x1)]) hC dX5_vowelsOf_35 3 rfl rfl (by decide) rfl ?_
      refine f_goto hC 4 dX5_vowelsOf_38 (by decide) ?_
      obtain rfl := Option.some.inj h2
      refine f_sub (L' := [(0, .ref a0), (1, .int x1), (2, .int (s1.1 + 0)), (3, .int (s1.2 + 1))]) [2, 3, 1, 0] rfl ?_
      exact go3 _ rfl
