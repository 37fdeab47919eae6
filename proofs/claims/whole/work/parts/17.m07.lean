theorem dX5_rides_0 : decode cX5_rides 0 = .ok (.aload_n 0, 1) := by decide +kernel
theorem dX5_rides_1 : decode cX5_rides 1 = .ok (.iload_n 1, 1) := by decide +kernel
theorem dX5_rides_2 : decode cX5_rides 2 = .ok (.invokevirtual 135, 3) := by decide +kernel
theorem dX5_rides_5 : decode cX5_rides 5 = .ok (.ifCond .ne 5, 3) := by decide +kernel
theorem dX5_rides_8 : decode cX5_rides 8 = .ok (.iconst (-1), 1) := by decide +kernel
theorem dX5_rides_9 : decode cX5_rides 9 = .ok (.ireturn, 1) := by decide +kernel
theorem dX5_rides_10 : decode cX5_rides 10 = .ok (.aload_n 0, 1) := by decide +kernel
theorem dX5_rides_11 : decode cX5_rides 11 = .ok (.iload_n 1, 1) := by decide +kernel
theorem dX5_rides_12 : decode cX5_rides 12 = .ok (.iload_n 2, 1) := by decide +kernel
theorem dX5_rides_13 : decode cX5_rides 13 = .ok (.invokevirtual 163, 3) := by decide +kernel
theorem dX5_rides_16 : decode cX5_rides 16 = .ok (.istore_n 3, 1) := by decide +kernel
theorem dX5_rides_17 : decode cX5_rides 17 = .ok (.iload_n 3, 1) := by decide +kernel
theorem dX5_rides_18 : decode cX5_rides 18 = .ok (.ifCond .le 5, 3) := by decide +kernel
theorem dX5_rides_21 : decode cX5_rides 21 = .ok (.iload_n 3, 1) := by decide +kernel
theorem dX5_rides_22 : decode cX5_rides 22 = .ok (.ireturn, 1) := by decide +kernel
theorem dX5_rides_23 : decode cX5_rides 23 = .ok (.aload_n 0, 1) := by decide +kernel
theorem dX5_rides_24 : decode cX5_rides 24 = .ok (.iload_n 1, 1) := by decide +kernel
theorem dX5_rides_25 : decode cX5_rides 25 = .ok (.iload_n 2, 1) := by decide +kernel
theorem dX5_rides_26 : decode cX5_rides 26 = .ok (.iconst 3, 1) := by decide +kernel
theorem dX5_rides_27 : decode cX5_rides 27 = .ok (.iconst 1, 1) := by decide +kernel
theorem dX5_rides_28 : decode cX5_rides 28 = .ok (.invokevirtual 128, 3) := by decide +kernel
theorem dX5_rides_31 : decode cX5_rides 31 = .ok (.iload_n 2, 1) := by decide +kernel
theorem dX5_rides_32 : decode cX5_rides 32 = .ok (.ifCond .ne 29, 3) := by decide +kernel
theorem dX5_rides_35 : decode cX5_rides 35 = .ok (.aload_n 0, 1) := by decide +kernel
theorem dX5_rides_36 : decode cX5_rides 36 = .ok (.iload_n 1, 1) := by decide +kernel
theorem dX5_rides_37 : decode cX5_rides 37 = .ok (.bipush 11, 2) := by decide +kernel
theorem dX5_rides_39 : decode cX5_rides 39 = .ok (.aload_n 0, 1) := by decide +kernel
theorem dX5_rides_40 : decode cX5_rides 40 = .ok (.getfield 7, 3) := by decide +kernel
theorem dX5_rides_43 : decode cX5_rides 43 = .ok (.iconst 1, 1) := by decide +kernel
theorem dX5_rides_44 : decode cX5_rides 44 = .ok (.iaload, 1) := by decide +kernel
theorem dX5_rides_45 : decode cX5_rides 45 = .ok (.invokevirtual 74, 3) := by decide +kernel
theorem dX5_rides_48 : decode cX5_rides 48 = .ok (.aload_n 0, 1) := by decide +kernel
theorem dX5_rides_49 : decode cX5_rides 49 = .ok (.getfield 7, 3) := by decide +kernel
theorem dX5_rides_52 : decode cX5_rides 52 = .ok (.iconst 3, 1) := by decide +kernel
theorem dX5_rides_53 : decode cX5_rides 53 = .ok (.dup2, 1) := by decide +kernel
theorem dX5_rides_54 : decode cX5_rides 54 = .ok (.iaload, 1) := by decide +kernel
theorem dX5_rides_55 : decode cX5_rides 55 = .ok (.iconst 1, 1) := by decide +kernel
theorem dX5_rides_56 : decode cX5_rides 56 = .ok (.iadd, 1) := by decide +kernel
theorem dX5_rides_57 : decode cX5_rides 57 = .ok (.iastore, 1) := by decide +kernel
theorem dX5_rides_58 : decode cX5_rides 58 = .ok (.goto 13, 3) := by decide +kernel
theorem dX5_rides_61 : decode cX5_rides 61 = .ok (.aload_n 0, 1) := by decide +kernel
theorem dX5_rides_62 : decode cX5_rides 62 = .ok (.getfield 7, 3) := by decide +kernel
theorem dX5_rides_65 : decode cX5_rides 65 = .ok (.iconst 4, 1) := by decide +kernel
theorem dX5_rides_66 : decode cX5_rides 66 = .ok (.dup2, 1) := by decide +kernel
theorem dX5_rides_67 : decode cX5_rides 67 = .ok (.iaload, 1) := by decide +kernel
theorem dX5_rides_68 : decode cX5_rides 68 = .ok (.iconst 1, 1) := by decide +kernel
theorem dX5_rides_69 : decode cX5_rides 69 = .ok (.iadd, 1) := by decide +kernel
theorem dX5_rides_70 : decode cX5_rides 70 = .ok (.iastore, 1) := by decide +kernel
theorem dX5_rides_71 : decode cX5_rides 71 = .ok (.aload_n 0, 1) := by decide +kernel
theorem dX5_rides_72 : decode cX5_rides 72 = .ok (.aload_n 0, 1) := by decide +kernel
theorem dX5_rides_73 : decode cX5_rides 73 = .ok (.getfield 7, 3) := by decide +kernel
theorem dX5_rides_76 : decode cX5_rides 76 = .ok (.iconst 3, 1) := by decide +kernel
theorem dX5_rides_77 : decode cX5_rides 77 = .ok (.iaload, 1) := by decide +kernel
theorem dX5_rides_78 : decode cX5_rides 78 = .ok (.aload_n 0, 1) := by decide +kernel
theorem dX5_rides_79 : decode cX5_rides 79 = .ok (.getfield 7, 3) := by decide +kernel
theorem dX5_rides_82 : decode cX5_rides 82 = .ok (.iconst 4, 1) := by decide +kernel
theorem dX5_rides_83 : decode cX5_rides 83 = .ok (.iaload, 1) := by decide +kernel
theorem dX5_rides_84 : decode cX5_rides 84 = .ok (.iadd, 1) := by decide +kernel
theorem dX5_rides_85 : decode cX5_rides 85 = .ok (.invokevirtual 125, 3) := by decide +kernel
theorem dX5_rides_88 : decode cX5_rides 88 = .ok (.ireturn, 1) := by decide +kernel
theorem h9_X5_rides : yX5_rides.cls ≠ "java/lang/invoke/MethodHandle" ∧ yX5_rides.cls ≠ "java/lang/invoke/VarHandle" ∧ (parseMethodDescriptor yX5_rides.desc).map (fun d => d.parameters.length) = some 2 := by decide +kernel
noncomputable def F_X5_rides (a0 : Nat) (x1 : Int32) (x2 : Int32) (w : FW) : Option (Int32 × FW) :=
  fg (w.1 a0 = 6) inferInstance ((F_X5_isTicket a0 x1 w).bind (fun r1 => (if r1 = 0 then some ((-1), w) else (F_X5_hindrance a0 x1 x2 w).bind (fun r6 => (if r6.1 ≤ 0 then (F_X5_setsHalf a0 x1 x2 3 1 r6.2).bind (fun r10 => ((if x2 = 0 then fg (w.1 (gR r10 501 a0 0) = 11) inferInstance (fg (¬ (1 < 0 ∨ w.2.1 (gR r10 501 a0 0) ≤ Int32.toNatClampNeg 1)) inferInstance ((F_X5_sets a0 x1 11 (gI r10 601 (gR r10 501 a0 0) (Int32.toNatClampNeg 1)) r10).bind (fun r28 => fg (w.1 (gR r28 501 a0 0) = 11) inferInstance (fg (¬ (3 < 0 ∨ w.2.1 (gR r28 501 a0 0) ≤ Int32.toNatClampNeg 3)) inferInstance (some (sI r28 601 (gR r28 501 a0 0) (Int32.toNatClampNeg 3) ((gI r28 601 (gR r28 501 a0 0) (Int32.toNatClampNeg 3)) + 1))))))) else fg (w.1 (gR r10 501 a0 0) = 11) inferInstance (fg (¬ (4 < 0 ∨ w.2.1 (gR r10 501 a0 0) ≤ Int32.toNatClampNeg 4)) inferInstance (some (sI r10 601 (gR r10 501 a0 0) (Int32.toNatClampNeg 4) ((gI r10 601 (gR r10 501 a0 0) (Int32.toNatClampNeg 4)) + 1))))) : Option (FW)).bind (fun x13 => fg (w.1 (gR x13 501 a0 0) = 11) inferInstance (fg (¬ (3 < 0 ∨ w.2.1 (gR x13 501 a0 0) ≤ Int32.toNatClampNeg 3)) inferInstance (fg (¬ (4 < 0 ∨ w.2.1 (gR x13 501 a0 0) ≤ Int32.toNatClampNeg 4)) inferInstance ((F_X5_done a0 ((gI x13 601 (gR x13 501 a0 0) (Int32.toNatClampNeg 3)) + (gI x13 601 (gR x13 501 a0 0) (Int32.toNatClampNeg 4))) x13).bind (fun r20 => some (r20.1, r20.2))))))) else some (r6.1, r6.2))))))
set_option maxHeartbeats 4000000 in
set_option maxRecDepth 100000 in
theorem c_X5_rides (l : Launch) (D : va_G) (cy : Nat → ClassId) (a0 : Nat) (x1 : Int32) (x2 : Int32) (w : FW) (r : Int32 × FW) (hF : F_X5_rides a0 x1 x2 w = some r) : fSpec l D cy yX5_rides cX5_rides 4 (some .int) { frames := 9, cells := 0, slots := 0, locals := 215 } [.ref a0, .int x1, .int x2] w r.2 (some (.int r.1)) := by
  refine f_begin (by decide +kernel) (Nat.le_of_ble_eq_true rfl) (fun X hC hEn => ?_)
  unfold F_X5_rides at hF
  show fAt X 0 0 4 w [(0, .ref a0), (1, .int x1), (2, .int x2)] [] 0
  refine f_aload_n hC dX5_rides_0 rfl 0 rfl ?_
  refine f_iload_n hC dX5_rides_1 rfl 1 rfl ?_
  obtain ⟨g3, hF⟩ := fg_open hF
  obtain ⟨r1, h2, hF⟩ := fb_open hF
  refine f_callV hC [.int x1] (c_X5_isTicket l D cy a0 x1 w r1 h2) q_1415 q_136 q_1412 q_1414 q_85 h9_X5_isTicket rfl (fSm.k (fSm.rf w) g3) ⟨Nat.le_of_ble_eq_true rfl, Nat.le_of_ble_eq_true rfl⟩ ⟨Nat.le_of_ble_eq_true rfl, Nat.le_of_ble_eq_true rfl⟩ (Nat.le_of_ble_eq_true rfl) rfl dX5_rides_2 (fun e4 => ?_)
  refine f_if_ne hC 10 dX5_rides_5 (by decide) (fun c5 => ?_) (fun c5 => ?_)
  · replace hF := fi_neg hF c5
    refine f_aload_n hC dX5_rides_10 rfl 0 rfl ?_
    refine f_iload_n hC dX5_rides_11 rfl 1 rfl ?_
    refine f_iload_n hC dX5_rides_12 rfl 2 rfl ?_
    obtain ⟨r6, h7, hF⟩ := fb_open hF
    refine f_callV hC [.int x1, .int x2] (c_X5_hindrance l D cy a0 x1 x2 w r6 h7) q_1596 q_136 q_1593 q_1595 q_112 h9_X5_hindrance rfl (fSm.k (fSm.rf w) g3) ⟨Nat.le_of_ble_eq_true rfl, Nat.le_of_ble_eq_true rfl⟩ ⟨Nat.le_of_ble_eq_true rfl, Nat.le_of_ble_eq_true rfl⟩ (Nat.le_of_ble_eq_true rfl) rfl dX5_rides_13 (fun e8 => ?_)
    refine f_istore_n (L' := [(3, .int r6.1), (0, .ref a0), (1, .int x1), (2, .int x2)]) hC dX5_rides_16 rfl (by decide) rfl ?_
    refine f_iload_n hC dX5_rides_17 rfl 0 rfl ?_
    refine f_if_le hC 23 dX5_rides_18 (by decide) (fun c9 => ?_) (fun c9 => ?_)
    · replace hF := fi_pos hF c9
      refine f_aload_n hC dX5_rides_23 rfl 1 rfl ?_
      refine f_iload_n hC dX5_rides_24 rfl 2 rfl ?_
      refine f_iload_n hC dX5_rides_25 rfl 3 rfl ?_
      refine f_iconst (v := 3) hC dX5_rides_26 (by decide) ?_
      refine f_iconst (v := 1) hC dX5_rides_27 (by decide) ?_
      obtain ⟨r10, h11, hF⟩ := fb_open hF
      refine f_callV hC [.int x1, .int x2, .int 3, .int 1] (c_X5_setsHalf l D cy a0 x1 x2 3 1 r6.2 r10 h11) q_1403 q_136 q_1400 q_1402 q_83 h9_X5_setsHalf rfl (fSm.k (fSm.tr e8 (fSm.rf w)) g3) ⟨Nat.le_of_ble_eq_true rfl, Nat.le_of_ble_eq_true rfl⟩ ⟨Nat.le_of_ble_eq_true rfl, Nat.le_of_ble_eq_true rfl⟩ (Nat.le_of_ble_eq_true rfl) rfl dX5_rides_28 (fun e12 => ?_)
      refine f_iload_n hC dX5_rides_31 rfl 3 rfl ?_
      obtain ⟨x13, h14, hF⟩ := fb_open hF
      have K16 : fSm x13 w → fAt X 0 0 4 x13 [(0, .ref a0)] [] 71 := by
        intro p15
        refine f_aload_n hC dX5_rides_71 rfl 0 rfl ?_
        refine f_aload_n hC dX5_rides_72 rfl 0 rfl ?_
        refine f_getR hC 5 1 501 rfl (by decide) iX5 q_1255 rfl rfl (fSm.k p15 g3) dX5_rides_73 ?_
        refine f_iconst (v := 3) hC dX5_rides_76 (by decide) ?_
        obtain ⟨g17, hF⟩ := fg_open hF
        obtain ⟨g18, hF⟩ := fg_open hF
        refine f_iald hC (fSm.k p15 g17) (fSm.v p15 g18) dX5_rides_77 ?_
        refine f_aload_n hC dX5_rides_78 rfl 0 rfl ?_
        refine f_getR hC 5 1 501 rfl (by decide) iX5 q_1255 rfl rfl (fSm.k p15 g3) dX5_rides_79 ?_
        refine f_iconst (v := 4) hC dX5_rides_82 (by decide) ?_
        obtain ⟨g19, hF⟩ := fg_open hF
        refine f_iald hC (fSm.k p15 g17) (fSm.v p15 g19) dX5_rides_83 ?_
        refine f_iadd hC dX5_rides_84 ?_
        obtain ⟨r20, h21, hF⟩ := fb_open hF
        refine f_callV hC [.int ((gI x13 601 (gR x13 501 a0 0) (Int32.toNatClampNeg 3)) + (gI x13 601 (gR x13 501 a0 0) (Int32.toNatClampNeg 4)))] (c_X5_done l D cy a0 ((gI x13 601 (gR x13 501 a0 0) (Int32.toNatClampNeg 3)) + (gI x13 601 (gR x13 501 a0 0) (Int32.toNatClampNeg 4))) x13 r20 h21) q_1363 q_136 q_1360 q_1362 q_75 h9_X5_done rfl (fSm.k p15 g3) ⟨Nat.le_of_ble_eq_true rfl, Nat.le_of_ble_eq_true rfl⟩ ⟨Nat.le_of_ble_eq_true rfl, Nat.le_of_ble_eq_true rfl⟩ (Nat.le_of_ble_eq_true rfl) rfl dX5_rides_85 (fun e22 => ?_)
        obtain rfl := Option.some.inj hF
        exact f_iret hC hEn (fSm.tr e22 p15) dX5_rides_88
      refine f_if_ne hC 61 dX5_rides_32 (by decide) (fun c23 => ?_) (fun c23 => ?_)
      · replace h14 := fi_neg h14 c23
        refine f_aload_n hC dX5_rides_61 rfl 1 rfl ?_
        refine f_getR hC 5 1 501 rfl (by decide) iX5 q_1255 rfl rfl (fSm.k (fSm.tr e12 (fSm.tr e8 (fSm.rf w))) g3) dX5_rides_62 ?_
        refine f_iconst (v := 4) hC dX5_rides_65 (by decide) ?_
        refine f_dup2 hC dX5_rides_66 rfl rfl ?_
        obtain ⟨g24, h14⟩ := fg_open h14
        obtain ⟨g25, h14⟩ := fg_open h14
        refine f_iald hC (fSm.k (fSm.tr e12 (fSm.tr e8 (fSm.rf w))) g24) (fSm.v (fSm.tr e12 (fSm.tr e8 (fSm.rf w))) g25) dX5_rides_67 ?_
        refine f_iconst (v := 1) hC dX5_rides_68 (by decide) ?_
        refine f_iadd hC dX5_rides_69 ?_
        refine f_iast hC (fSm.k (fSm.tr e12 (fSm.tr e8 (fSm.rf w))) g24) (fSm.v (fSm.tr e12 (fSm.tr e8 (fSm.rf w))) g25) dX5_rides_70 ?_
        obtain rfl := Option.some.inj h14
        refine f_sub (L' := [(0, .ref a0)]) [1] rfl ?_
        exact K16 (fSm.tr e12 (fSm.tr e8 (fSm.rf w)))
      · replace h14 := fi_pos h14 c23
        refine f_aload_n hC dX5_rides_35 rfl 1 rfl ?_
        refine f_iload_n hC dX5_rides_36 rfl 2 rfl ?_
        refine f_bipush (v := 11) hC dX5_rides_37 (by decide) ?_
        refine f_aload_n hC dX5_rides_39 rfl 1 rfl ?_
        refine f_getR hC 5 1 501 rfl (by decide) iX5 q_1255 rfl rfl (fSm.k (fSm.tr e12 (fSm.tr e8 (fSm.rf w))) g3) dX5_rides_40 ?_
        refine f_iconst (v := 1) hC dX5_rides_43 (by decide) ?_
        obtain ⟨g26, h14⟩ := fg_open h14
        obtain ⟨g27, h14⟩ := fg_open h14
        refine f_iald hC (fSm.k (fSm.tr e12 (fSm.tr e8 (fSm.rf w))) g26) (fSm.v (fSm.tr e12 (fSm.tr e8 (fSm.rf w))) g27) dX5_rides_44 ?_
        obtain ⟨r28, h29, h14⟩ := fb_open h14
        refine f_callV hC [.int x1, .int 11, .int (gI r10 601 (gR r10 501 a0 0) (Int32.toNatClampNeg 1))] (c_X5_sets l D cy a0 x1 11 (gI r10 601 (gR r10 501 a0 0) (Int32.toNatClampNeg 1)) r10 r28 h29) q_1399 q_136 q_1396 q_1398 q_82 h9_X5_sets rfl (fSm.k (fSm.tr e12 (fSm.tr e8 (fSm.rf w))) g3) ⟨Nat.le_of_ble_eq_true rfl, Nat.le_of_ble_eq_true rfl⟩ ⟨Nat.le_of_ble_eq_true rfl, Nat.le_of_ble_eq_true rfl⟩ (Nat.le_of_ble_eq_true rfl) rfl dX5_rides_45 (fun e30 => ?_)
        refine f_aload_n hC dX5_rides_48 rfl 1 rfl ?_
        refine f_getR hC 5 1 501 rfl (by decide) iX5 q_1255 rfl rfl (fSm.k (fSm.tr e30 (fSm.tr e12 (fSm.tr e8 (fSm.rf w)))) g3) dX5_rides_49 ?_
        refine f_iconst (v := 3) hC dX5_rides_52 (by decide) ?_
        refine f_dup2 hC dX5_rides_53 rfl rfl ?_
        obtain ⟨g31, h14⟩ := fg_open h14
        obtain ⟨g32, h14⟩ := fg_open h14
        refine f_iald hC (fSm.k (fSm.tr e30 (fSm.tr e12 (fSm.tr e8 (fSm.rf w)))) g31) (fSm.v (fSm.tr e30 (fSm.tr e12 (fSm.tr e8 (fSm.rf w)))) g32) dX5_rides_54 ?_
        refine f_iconst (v := 1) hC dX5_rides_55 (by decide) ?_
        refine f_iadd hC dX5_rides_56 ?_
        refine f_iast hC (fSm.k (fSm.tr e30 (fSm.tr e12 (fSm.tr e8 (fSm.rf w)))) g31) (fSm.v (fSm.tr e30 (fSm.tr e12 (fSm.tr e8 (fSm.rf w)))) g32) dX5_rides_57 ?_
        refine f_goto hC 71 dX5_rides_58 (by decide) ?_
        obtain rfl := Option.some.inj h14
        refine f_sub (L' := [(0, .ref a0)]) [1] rfl ?_
        exact K16 (fSm.tr e30 (fSm.tr e12 (fSm.tr e8 (fSm.rf w))))
    · replace hF := fi_neg hF c9
      refine f_iload_n hC dX5_rides_21 rfl 0 rfl ?_
      obtain rfl := Option.some.inj hF
      exact f_iret hC hEn (fSm.tr e8 (fSm.rf w)) dX5_rides_22
  · replace hF := fi_pos hF c5
    refine f_iconst (v := (-1)) hC dX5_rides_8 (by decide) ?_
    obtain rfl := Option.some.inj hF
    exact f_iret hC hEn (fSm.rf w) dX5_rides_9
theorem dX5_passes_0 : decode cX5_passes 0 = .ok (.aload_n 0, 1) := by decide +kernel
theorem dX5_passes_1 : decode cX5_passes 1 = .ok (.getfield 7, 3) := by decide +kernel
theorem dX5_passes_4 : decode cX5_passes 4 = .ok (.iconst 1, 1) := by decide +kernel
theorem dX5_passes_5 : decode cX5_passes 5 = .ok (.dup2, 1) := by decide +kernel
theorem dX5_passes_6 : decode cX5_passes 6 = .ok (.iaload, 1) := by decide +kernel
theorem dX5_passes_7 : decode cX5_passes 7 = .ok (.iconst 1, 1) := by decide +kernel
theorem dX5_passes_8 : decode cX5_passes 8 = .ok (.iadd, 1) := by decide +kernel
theorem dX5_passes_9 : decode cX5_passes 9 = .ok (.iastore, 1) := by decide +kernel
theorem dX5_passes_10 : decode cX5_passes 10 = .ok (.aload_n 0, 1) := by decide +kernel
theorem dX5_passes_11 : decode cX5_passes 11 = .ok (.aload_n 0, 1) := by decide +kernel
theorem dX5_passes_12 : decode cX5_passes 12 = .ok (.getfield 7, 3) := by decide +kernel
theorem dX5_passes_15 : decode cX5_passes 15 = .ok (.iconst 1, 1) := by decide +kernel
theorem dX5_passes_16 : decode cX5_passes 16 = .ok (.iaload, 1) := by decide +kernel
theorem dX5_passes_17 : decode cX5_passes 17 = .ok (.invokevirtual 125, 3) := by decide +kernel
theorem dX5_passes_20 : decode cX5_passes 20 = .ok (.ireturn, 1) := by decide +kernel
theorem h9_X5_passes : yX5_passes.cls ≠ "java/lang/invoke/MethodHandle" ∧ yX5_passes.cls ≠ "java/lang/invoke/VarHandle" ∧ (parseMethodDescriptor yX5_passes.desc).map (fun d => d.parameters.length) = some 0 := by decide +kernel
noncomputable def F_X5_passes (a0 : Nat) (w : FW) : Option (Int32 × FW) :=
  fg (w.1 a0 = 6) inferInstance (fg (w.1 (gR w 501 a0 0) = 11) inferInstance (fg (¬ (1 < 0 ∨ w.2.1 (gR w 501 a0 0) ≤ Int32.toNatClampNeg 1)) inferInstance ((F_X5_done a0 (gI (sI w 601 (gR w 501 a0 0) (Int32.toNatClampNeg 1) ((gI w 601 (gR w 501 a0 0) (Int32.toNatClampNeg 1)) + 1)) 601 (gR (sI w 601 (gR w 501 a0 0) (Int32.toNatClampNeg 1) ((gI w 601 (gR w 501 a0 0) (Int32.toNatClampNeg 1)) + 1)) 501 a0 0) (Int32.toNatClampNeg 1)) (sI w 601 (gR w 501 a0 0) (Int32.toNatClampNeg 1) ((gI w 601 (gR w 501 a0 0) (Int32.toNatClampNeg 1)) + 1))).bind (fun r4 => some (r4.1, r4.2)))))
set_option maxHeartbeats 4000000 in
set_option maxRecDepth 100000 in
theorem c_X5_passes (l : Launch) (D : va_G) (cy : Nat → ClassId) (a0 : Nat) (w : FW) (r : Int32 × FW) (hF : F_X5_passes a0 w = some r) : fSpec l D cy yX5_passes cX5_passes 1 (some .int) { frames := 1, cells := 0, slots := 0, locals := 21 } [.ref a0] w r.2 (some (.int r.1)) := by
  refine f_begin (by decide +kernel) (Nat.le_of_ble_eq_true rfl) (fun X hC hEn => ?_)
  unfold F_X5_passes at hF
  show fAt X 0 0 1 w [(0, .ref a0)] [] 0
  refine f_aload_n hC dX5_passes_0 rfl 0 rfl ?_
  obtain ⟨g1, hF⟩ := fg_open hF
  refine f_getR hC 5 1 501 rfl (by decide) iX5 q_1255 rfl rfl (fSm.k (fSm.rf w) g1) dX5_passes_1 ?_
  refine f_iconst (v := 1) hC dX5_passes_4 (by decide) ?_
  refine f_dup2 hC dX5_passes_5 rfl rfl ?_
  obtain ⟨g2, hF⟩ := fg_open hF
  obtain ⟨g3, hF⟩ := fg_open hF
  refine f_iald hC (fSm.k (fSm.rf w) g2) (fSm.v (fSm.rf w) g3) dX5_passes_6 ?_
  refine f_iconst (v := 1) hC dX5_passes_7 (by decide) ?_
  refine f_iadd hC dX5_passes_8 ?_
  refine f_iast hC (fSm.k (fSm.rf w) g2) (fSm.v (fSm.rf w) g3) dX5_passes_9 ?_
  refine f_aload_n hC dX5_passes_10 rfl 0 rfl ?_
  refine f_aload_n hC dX5_passes_11 rfl 0 rfl ?_
  refine f_getR hC 5 1 501 rfl (by decide) iX5 q_1255 rfl rfl (fSm.k (fSm.rf w) g1) dX5_passes_12 ?_
  refine f_iconst (v := 1) hC dX5_passes_15 (by decide) ?_
  refine f_iald hC (fSm.k (fSm.rf w) g2) (fSm.v (fSm.rf w) g3) dX5_passes_16 ?_
  obtain ⟨r4, h5, hF⟩ := fb_open hF
  refine f_callV hC [.int (gI (sI w 601 (gR w 501 a0 0) (Int32.toNatClampNeg 1) ((gI w 601 (gR w 501 a0 0) (Int32.toNatClampNeg 1)) + 1)) 601 (gR (sI w 601 (gR w 501 a0 0) (Int32.toNatClampNeg 1) ((gI w 601 (gR w 501 a0 0) (Int32.toNatClampNeg 1)) + 1)) 501 a0 0) (Int32.toNatClampNeg 1))] (c_X5_done l D cy a0 (gI (sI w 601 (gR w 501 a0 0) (Int32.toNatClampNeg 1) ((gI w 601 (gR w 501 a0 0) (Int32.toNatClampNeg 1)) + 1)) 601 (gR (sI w 601 (gR w 501 a0 0) (Int32.toNatClampNeg 1) ((gI w 601 (gR w 501 a0 0) (Int32.toNatClampNeg 1)) + 1)) 501 a0 0) (Int32.toNatClampNeg 1)) (sI w 601 (gR w 501 a0 0) (Int32.toNatClampNeg 1) ((gI w 601 (gR w 501 a0 0) (Int32.toNatClampNeg 1)) + 1)) r4 h5) q_1363 q_136 q_1360 q_1362 q_75 h9_X5_done rfl (fSm.k (fSm.rf w) g1) ⟨Nat.le_of_ble_eq_true rfl, Nat.le_of_ble_eq_true rfl⟩ ⟨Nat.le_of_ble_eq_true rfl, Nat.le_of_ble_eq_true rfl⟩ (Nat.le_of_ble_eq_true rfl) rfl dX5_passes_17 (fun e6 => ?_)
  obtain rfl := Option.some.inj hF
  exact f_iret hC hEn (fSm.tr e6 (fSm.rf w)) dX5_passes_20
theorem dX5_clear_0 : decode cX5_clear 0 = .ok (.aload_n 0, 1) := by decide +kernel
theorem dX5_clear_1 : decode cX5_clear 1 = .ok (.iconst 0, 1) := by decide +kernel
theorem dX5_clear_2 : decode cX5_clear 2 = .ok (.putfield 41, 3) := by decide +kernel
theorem dX5_clear_5 : decode cX5_clear 5 = .ok (.aload_n 0, 1) := by decide +kernel
theorem dX5_clear_6 : decode cX5_clear 6 = .ok (.getfield 7, 3) := by decide +kernel
theorem dX5_clear_9 : decode cX5_clear 9 = .ok (.iconst 0, 1) := by decide +kernel
theorem dX5_clear_10 : decode cX5_clear 10 = .ok (.iaload, 1) := by decide +kernel
theorem dX5_clear_11 : decode cX5_clear 11 = .ok (.istore_n 1, 1) := by decide +kernel
theorem dX5_clear_12 : decode cX5_clear 12 = .ok (.iconst 0, 1) := by decide +kernel
theorem dX5_clear_13 : decode cX5_clear 13 = .ok (.istore_n 2, 1) := by decide +kernel
theorem dX5_clear_14 : decode cX5_clear 14 = .ok (.iload_n 2, 1) := by decide +kernel
theorem dX5_clear_15 : decode cX5_clear 15 = .ok (.sipush 177, 3) := by decide +kernel
theorem dX5_clear_18 : decode cX5_clear 18 = .ok (.if_icmp .ge 16, 3) := by decide +kernel
theorem dX5_clear_21 : decode cX5_clear 21 = .ok (.aload_n 0, 1) := by decide +kernel
theorem dX5_clear_22 : decode cX5_clear 22 = .ok (.getfield 7, 3) := by decide +kernel
theorem dX5_clear_25 : decode cX5_clear 25 = .ok (.iload_n 2, 1) := by decide +kernel
theorem dX5_clear_26 : decode cX5_clear 26 = .ok (.iconst 0, 1) := by decide +kernel
theorem dX5_clear_27 : decode cX5_clear 27 = .ok (.iastore, 1) := by decide +kernel
theorem dX5_clear_28 : decode cX5_clear 28 = .ok (.iinc 2 1, 3) := by decide +kernel
theorem dX5_clear_31 : decode cX5_clear 31 = .ok (.goto (-17), 3) := by decide +kernel
theorem dX5_clear_34 : decode cX5_clear 34 = .ok (.aload_n 0, 1) := by decide +kernel
theorem dX5_clear_35 : decode cX5_clear 35 = .ok (.iconst 0, 1) := by decide +kernel
theorem dX5_clear_36 : decode cX5_clear 36 = .ok (.putfield 44, 3) := by decide +kernel
theorem dX5_clear_39 : decode cX5_clear 39 = .ok (.iload_n 1, 1) := by decide +kernel
theorem dX5_clear_40 : decode cX5_clear 40 = .ok (.ireturn, 1) := by decide +kernel
theorem h9_X5_clear : yX5_clear.cls ≠ "java/lang/invoke/MethodHandle" ∧ yX5_clear.cls ≠ "java/lang/invoke/VarHandle" ∧ (parseMethodDescriptor yX5_clear.desc).map (fun d => d.parameters.length) = some 0 := by decide +kernel
noncomputable def F_X5_clear (a0 : Nat) (w : FW) : Option (Int32 × FW) :=
  fg (w.1 a0 = 6) inferInstance (fg (w.1 (gR w 501 a0 0) = 11) inferInstance (fg (¬ (0 < 0 ∨ w.2.1 (gR w 501 a0 0) ≤ Int32.toNatClampNeg 0)) inferInstance ((fLoop (σ := Int32 × FW) (ρ := FW) (fun s4 => (if 177 ≤ s4.1 then some (.inr s4.2) else fg (w.1 (gR s4.2 501 a0 0) = 11) inferInstance (fg (¬ (s4.1 < 0 ∨ w.2.1 (gR s4.2 501 a0 0) ≤ Int32.toNatClampNeg s4.1)) inferInstance (some (.inl ((s4.1 + 1), (sI s4.2 601 (gR s4.2 501 a0 0) (Int32.toNatClampNeg s4.1) 0))))))) (0, (sI w 500 a0 0 0))).bind (fun x10 => some ((gI (sI w 500 a0 0 0) 601 (gR (sI w 500 a0 0 0) 501 a0 0) (Int32.toNatClampNeg 0)), (sI x10 505 a0 0 0))))))
set_option maxHeartbeats 4000000 in
set_option maxRecDepth 100000 in
theorem c_X5_clear (l : Launch) (D : va_G) (cy : Nat → ClassId) (a0 : Nat) (w : FW) (r : Int32 × FW) (hF : F_X5_clear a0 w = some r) : fSpec l D cy yX5_clear cX5_clear 3 (some .int) { frames := 0, cells := 0, slots := 0, locals := 0 } [.ref a0] w r.2 (some (.int r.1)) := by
  refine f_begin (by decide +kernel) (Nat.le_of_ble_eq_true rfl) (fun X hC hEn => ?_)
  unfold F_X5_clear at hF
  show fAt X 0 0 3 w [(0, .ref a0)] [] 0
  refine f_aload_n hC dX5_clear_0 rfl 0 rfl ?_
  refine f_iconst (v := 0) hC dX5_clear_1 (by decide) ?_
  obtain ⟨g1, hF⟩ := fg_open hF
  refine f_putI hC 5 0 500 rfl (by decide) iX5 tyX5 tyX5_ok nmX5 q_1254 rfl rfl rfl rfl rfl (fSm.k (fSm.rf w) g1) dX5_clear_2 ?_
  refine f_aload_n hC dX5_clear_5 rfl 0 rfl ?_
  refine f_getR hC 5 1 501 rfl (by decide) iX5 q_1255 rfl rfl (fSm.k (fSm.rf w) g1) dX5_clear_6 ?_
  refine f_iconst (v := 0) hC dX5_clear_9 (by decide) ?_
  obtain ⟨g2, hF⟩ := fg_open hF
  obtain ⟨g3, hF⟩ := fg_open hF
  refine f_iald hC (fSm.k (fSm.rf w) g2) (fSm.v (fSm.rf w) g3) dX5_clear_10 ?_
  refine f_istore_n (L' := [(1, .int (gI (sI w 500 a0 0 0) 601 (gR (sI w 500 a0 0 0) 501 a0 0) (Int32.toNatClampNeg 0))), (0, .ref a0)]) hC dX5_clear_11 rfl (by decide) rfl ?_
  refine f_iconst (v := 0) hC dX5_clear_12 (by decide) ?_
  refine f_istore_n (L' := [(2, .int 0), (1, .int (gI (sI w 500 a0 0 0) 601 (gR (sI w 500 a0 0 0) 501 a0 0) (Int32.toNatClampNeg 0))), (0, .ref a0)]) hC dX5_clear_13 rfl (by decide) rfl ?_
  obtain ⟨x10, h11, hF⟩ := fb_open hF
  have K12 : fSm x10 w → fAt X 0 0 3 x10 [(0, .ref a0), (1, .int (gI (sI w 500 a0 0 0) 601 (gR (sI w 500 a0 0 0) 501 a0 0) (Int32.toNatClampNeg 0)))] [] 34 := by
    intro p8
    refine f_aload_n hC dX5_clear_34 rfl 0 rfl ?_
    refine f_iconst (v := 0) hC dX5_clear_35 (by decide) ?_
    refine f_putI hC 5 5 505 rfl (by decide) iX5 tyX5 tyX5_ok nmX5 q_1259 rfl rfl rfl rfl rfl (fSm.k p8 g1) dX5_clear_36 ?_
    refine f_iload_n hC dX5_clear_39 rfl 1 rfl ?_
    obtain rfl := Option.some.inj hF
    exact f_iret hC hEn p8 dX5_clear_40
  refine f_sub (L' := [(0, .ref a0), (1, .int (gI (sI w 500 a0 0 0) 601 (gR (sI w 500 a0 0 0) 501 a0 0) (Int32.toNatClampNeg 0))), (2, .int 0)]) [2, 1, 0] rfl ?_
  refine fLoop_ind (fun (s4 : Int32 × FW) => fSm s4.2 w → fAt X 0 0 3 s4.2 [(0, .ref a0), (1, .int (gI (sI w 500 a0 0 0) 601 (gR (sI w 500 a0 0 0) 501 a0 0) (Int32.toNatClampNeg 0))), (2, .int s4.1)] [] 14) (fun s4 y9 h5 go6 ou7 => ?_) h11 (fSm.rf w)
  intro p8
  refine f_iload_n hC dX5_clear_14 rfl 2 rfl ?_
  refine f_sipush (v := 177) hC dX5_clear_15 (by decide) ?_
  refine f_icmp_ge hC 34 dX5_clear_18 (by decide) (fun c13 => ?_) (fun c13 => ?_)
  · replace h5 := fi_pos h5 c13
    obtain rfl := Option.some.inj h5
    obtain rfl := ou7 _ rfl
    refine f_sub (L' := [(0, .ref a0), (1, .int (gI (sI w 500 a0 0 0) 601 (gR (sI w 500 a0 0 0) 501 a0 0) (Int32.toNatClampNeg 0)))]) [0, 1] rfl ?_
    exact K12 p8
  · replace h5 := fi_neg h5 c13
    refine f_aload_n hC dX5_clear_21 rfl 0 rfl ?_
    refine f_getR hC 5 1 501 rfl (by decide) iX5 q_1255 rfl rfl (fSm.k p8 g1) dX5_clear_22 ?_
    refine f_iload_n hC dX5_clear_25 rfl 2 rfl ?_
    refine f_iconst (v := 0) hC dX5_clear_26 (by decide) ?_
    obtain ⟨g14, h5⟩ := fg_open h5
    obtain ⟨g15, h5⟩ := fg_open h5
    refine f_iast hC (fSm.k p8 g14) (fSm.v p8 g15) dX5_clear_27 ?_
    refine f_iinc (L' := [(2, .int (s4.1 + 1)), (0, .ref a0), (1, .int (gI (sI w 500 a0 0 0) 601 (gR (sI w 500 a0 0 0) 501 a0 0) (Int32.toNatClampNeg 0)))]) hC dX5_clear_28 2 rfl rfl (by decide) rfl ?_
    refine f_goto hC 14 dX5_clear_31 (by decide) ?_
    obtain rfl := Option.some.inj h5
    refine f_sub (L' := [(0, .ref a0), (1, .int (gI (sI w 500 a0 0 0) 601 (gR (sI w 500 a0 0 0) 501 a0 0) (Int32.toNatClampNeg 0))), (2, .int (s4.1 + 1))]) [1, 2, 0] rfl ?_
    exact go6 _ rfl p8
theorem dX5_letter_0 : decode cX5_letter 0 = .ok (.aload_n 0, 1) := by decide +kernel
theorem dX5_letter_1 : decode cX5_letter 1 = .ok (.invokevirtual 166, 3) := by decide +kernel
theorem dX5_letter_4 : decode cX5_letter 4 = .ok (.aload_n 0, 1) := by decide +kernel
theorem dX5_letter_5 : decode cX5_letter 5 = .ok (.aload_n 0, 1) := by decide +kernel
theorem dX5_letter_6 : decode cX5_letter 6 = .ok (.iload_n 1, 1) := by decide +kernel
theorem dX5_letter_7 : decode cX5_letter 7 = .ok (.invokevirtual 169, 3) := by decide +kernel
theorem dX5_letter_10 : decode cX5_letter 10 = .ok (.iconst 2, 1) := by decide +kernel
theorem dX5_letter_11 : decode cX5_letter 11 = .ok (.invokevirtual 172, 3) := by decide +kernel
theorem dX5_letter_14 : decode cX5_letter 14 = .ok (.ireturn, 1) := by decide +kernel
theorem h9_X5_letter : yX5_letter.cls ≠ "java/lang/invoke/MethodHandle" ∧ yX5_letter.cls ≠ "java/lang/invoke/VarHandle" ∧ (parseMethodDescriptor yX5_letter.desc).map (fun d => d.parameters.length) = some 1 := by decide +kernel
noncomputable def F_X5_letter (a0 : Nat) (x1 : Int32) (w : FW) : Option (Int32 × FW) :=
  fg (w.1 a0 = 6) inferInstance ((F_X5_remembers a0 w).bind (fun r1 => (F_X5_addsLetter a0 x1 r1).bind (fun r5 => (F_X5_ends a0 r5.1 2 r5.2).bind (fun r8 => some (r8.1, r8.2)))))
set_option maxHeartbeats 4000000 in
set_option maxRecDepth 100000 in
theorem c_X5_letter (l : Launch) (D : va_G) (cy : Nat → ClassId) (a0 : Nat) (x1 : Int32) (w : FW) (r : Int32 × FW) (hF : F_X5_letter a0 x1 w = some r) : fSpec l D cy yX5_letter cX5_letter 2 (some .int) { frames := 4, cells := 0, slots := 0, locals := 84 } [.ref a0, .int x1] w r.2 (some (.int r.1)) := by
  refine f_begin (by decide +kernel) (Nat.le_of_ble_eq_true rfl) (fun X hC hEn => ?_)
  unfold F_X5_letter at hF
  show fAt X 0 0 2 w [(0, .ref a0), (1, .int x1)] [] 0
  refine f_aload_n hC dX5_letter_0 rfl 0 rfl ?_
  obtain ⟨g3, hF⟩ := fg_open hF
  obtain ⟨r1, h2, hF⟩ := fb_open hF
  refine f_callV hC [] (c_X5_remembers l D cy a0 w r1 h2) q_1339 q_136 q_1336 q_1338 q_72 h9_X5_remembers rfl (fSm.k (fSm.rf w) g3) ⟨Nat.le_of_ble_eq_true rfl, Nat.le_of_ble_eq_true rfl⟩ ⟨Nat.le_of_ble_eq_true rfl, Nat.le_of_ble_eq_true rfl⟩ (Nat.le_of_ble_eq_true rfl) rfl dX5_letter_1 (fun e4 => ?_)
  refine f_aload_n hC dX5_letter_4 rfl 0 rfl ?_
  refine f_aload_n hC dX5_letter_5 rfl 0 rfl ?_
  refine f_iload_n hC dX5_letter_6 rfl 1 rfl ?_
  obtain ⟨r5, h6, hF⟩ := fb_open hF
  refine f_callV hC [.int x1] (c_X5_addsLetter l D cy a0 x1 r1 r5 h6) q_1343 q_136 q_1340 q_1342 q_73 h9_X5_addsLetter rfl (fSm.k (fSm.tr e4 (fSm.rf w)) g3) ⟨Nat.le_of_ble_eq_true rfl, Nat.le_of_ble_eq_true rfl⟩ ⟨Nat.le_of_ble_eq_true rfl, Nat.le_of_ble_eq_true rfl⟩ (Nat.le_of_ble_eq_true rfl) rfl dX5_letter_7 (fun e7 => ?_)
  refine f_iconst (v := 2) hC dX5_letter_10 (by decide) ?_
  obtain ⟨r8, h9, hF⟩ := fb_open hF
  refine f_callV hC [.int r5.1, .int 2] (c_X5_ends l D cy a0 r5.1 2 r5.2 r8 h9) q_1367 q_136 q_1364 q_1366 q_76 h9_X5_ends rfl (fSm.k (fSm.tr e7 (fSm.tr e4 (fSm.rf w))) g3) ⟨Nat.le_of_ble_eq_true rfl, Nat.le_of_ble_eq_true rfl⟩ ⟨Nat.le_of_ble_eq_true rfl, Nat.le_of_ble_eq_true rfl⟩ (Nat.le_of_ble_eq_true rfl) rfl dX5_letter_11 (fun e10 => ?_)
  obtain rfl := Option.some.inj hF
  exact f_iret hC hEn (fSm.tr e10 (fSm.tr e7 (fSm.tr e4 (fSm.rf w)))) dX5_letter_14
theorem dX5_unletter_0 : decode cX5_unletter 0 = .ok (.aload_n 0, 1) := by decide +kernel
theorem dX5_unletter_1 : decode cX5_unletter 1 = .ok (.invokevirtual 166, 3) := by decide +kernel
theorem dX5_unletter_4 : decode cX5_unletter 4 = .ok (.aload_n 0, 1) := by decide +kernel
theorem dX5_unletter_5 : decode cX5_unletter 5 = .ok (.aload_n 0, 1) := by decide +kernel
theorem dX5_unletter_6 : decode cX5_unletter 6 = .ok (.invokevirtual 175, 3) := by decide +kernel
theorem dX5_unletter_9 : decode cX5_unletter 9 = .ok (.iconst 1, 1) := by decide +kernel
theorem dX5_unletter_10 : decode cX5_unletter 10 = .ok (.invokevirtual 172, 3) := by decide +kernel
theorem dX5_unletter_13 : decode cX5_unletter 13 = .ok (.ireturn, 1) := by decide +kernel
theorem h9_X5_unletter : yX5_unletter.cls ≠ "java/lang/invoke/MethodHandle" ∧ yX5_unletter.cls ≠ "java/lang/invoke/VarHandle" ∧ (parseMethodDescriptor yX5_unletter.desc).map (fun d => d.parameters.length) = some 0 := by decide +kernel
noncomputable def F_X5_unletter (a0 : Nat) (w : FW) : Option (Int32 × FW) :=
  fg (w.1 a0 = 6) inferInstance ((F_X5_remembers a0 w).bind (fun r1 => (F_X5_takesLetter a0 r1).bind (fun r5 => (F_X5_ends a0 r5.1 1 r5.2).bind (fun r8 => some (r8.1, r8.2)))))
set_option maxHeartbeats 4000000 in
set_option maxRecDepth 100000 in
theorem c_X5_unletter (l : Launch) (D : va_G) (cy : Nat → ClassId) (a0 : Nat) (w : FW) (r : Int32 × FW) (hF : F_X5_unletter a0 w = some r) : fSpec l D cy yX5_unletter cX5_unletter 1 (some .int) { frames := 2, cells := 0, slots := 0, locals := 44 } [.ref a0] w r.2 (some (.int r.1)) := by
  refine f_begin (by decide +kernel) (Nat.le_of_ble_eq_true rfl) (fun X hC hEn => ?_)
  unfold F_X5_unletter at hF
  show fAt X 0 0 1 w [(0, .ref a0)] [] 0
  refine f_aload_n hC dX5_unletter_0 rfl 0 rfl ?_
  obtain ⟨g3, hF⟩ := fg_open hF
  obtain ⟨r1, h2, hF⟩ := fb_open hF
  refine f_callV hC [] (c_X5_remembers l D cy a0 w r1 h2) q_1339 q_136 q_1336 q_1338 q_72 h9_X5_remembers rfl (fSm.k (fSm.rf w) g3) ⟨Nat.le_of_ble_eq_true rfl, Nat.le_of_ble_eq_true rfl⟩ ⟨Nat.le_of_ble_eq_true rfl, Nat.le_of_ble_eq_true rfl⟩ (Nat.le_of_ble_eq_true rfl) rfl dX5_unletter_1 (fun e4 => ?_)
  refine f_aload_n hC dX5_unletter_4 rfl 0 rfl ?_
  refine f_aload_n hC dX5_unletter_5 rfl 0 rfl ?_
  obtain ⟨r5, h6, hF⟩ := fb_open hF
  refine f_callV hC [] (c_X5_takesLetter l D cy a0 r1 r5 h6) q_1383 q_136 q_1380 q_1382 q_79 h9_X5_takesLetter rfl (fSm.k (fSm.tr e4 (fSm.rf w)) g3) ⟨Nat.le_of_ble_eq_true rfl, Nat.le_of_ble_eq_true rfl⟩ ⟨Nat.le_of_ble_eq_true rfl, Nat.le_of_ble_eq_true rfl⟩ (Nat.le_of_ble_eq_true rfl) rfl dX5_unletter_6 (fun e7 => ?_)
  refine f_iconst (v := 1) hC dX5_unletter_9 (by decide) ?_
  obtain ⟨r8, h9, hF⟩ := fb_open hF
  refine f_callV hC [.int r5.1, .int 1] (c_X5_ends l D cy a0 r5.1 1 r5.2 r8 h9) q_1367 q_136 q_1364 q_1366 q_76 h9_X5_ends rfl (fSm.k (fSm.tr e7 (fSm.tr e4 (fSm.rf w))) g3) ⟨Nat.le_of_ble_eq_true rfl, Nat.le_of_ble_eq_true rfl⟩ ⟨Nat.le_of_ble_eq_true rfl, Nat.le_of_ble_eq_true rfl⟩ (Nat.le_of_ble_eq_true rfl) rfl dX5_unletter_10 (fun e10 => ?_)
  obtain rfl := Option.some.inj hF
  exact f_iret hC hEn (fSm.tr e10 (fSm.tr e7 (fSm.tr e4 (fSm.rf w)))) dX5_unletter_13
theorem dX5_print_0 : decode cX5_print 0 = .ok (.aload_n 0, 1) := by decide +kernel
theorem dX5_print_1 : decode cX5_print 1 = .ok (.invokevirtual 166, 3) := by decide +kernel
theorem dX5_print_4 : decode cX5_print 4 = .ok (.aload_n 0, 1) := by decide +kernel
theorem dX5_print_5 : decode cX5_print 5 = .ok (.aload_n 0, 1) := by decide +kernel
theorem dX5_print_6 : decode cX5_print 6 = .ok (.iload_n 1, 1) := by decide +kernel
theorem dX5_print_7 : decode cX5_print 7 = .ok (.iload_n 2, 1) := by decide +kernel
theorem dX5_print_8 : decode cX5_print 8 = .ok (.iload_n 3, 1) := by decide +kernel
theorem dX5_print_9 : decode cX5_print 9 = .ok (.invokevirtual 178, 3) := by decide +kernel
theorem dX5_print_12 : decode cX5_print 12 = .ok (.iconst 3, 1) := by decide +kernel
theorem dX5_print_13 : decode cX5_print 13 = .ok (.invokevirtual 172, 3) := by decide +kernel
theorem dX5_print_16 : decode cX5_print 16 = .ok (.ireturn, 1) := by decide +kernel
theorem h9_X5_print : yX5_print.cls ≠ "java/lang/invoke/MethodHandle" ∧ yX5_print.cls ≠ "java/lang/invoke/VarHandle" ∧ (parseMethodDescriptor yX5_print.desc).map (fun d => d.parameters.length) = some 3 := by decide +kernel
noncomputable def F_X5_print (a0 : Nat) (x1 : Int32) (x2 : Int32) (x3 : Int32) (w : FW) : Option (Int32 × FW) :=
  fg (w.1 a0 = 6) inferInstance ((F_X5_remembers a0 w).bind (fun r1 => (F_X5_printsDraft a0 x1 x2 x3 r1).bind (fun r5 => (F_X5_ends a0 r5.1 3 r5.2).bind (fun r8 => some (r8.1, r8.2)))))
set_option maxHeartbeats 4000000 in
set_option maxRecDepth 100000 in
theorem c_X5_print (l : Launch) (D : va_G) (cy : Nat → ClassId) (a0 : Nat) (x1 : Int32) (x2 : Int32) (x3 : Int32) (w : FW) (r : Int32 × FW) (hF : F_X5_print a0 x1 x2 x3 w = some r) : fSpec l D cy yX5_print cX5_print 4 (some .int) { frames := 4, cells := 0, slots := 0, locals := 99 } [.ref a0, .int x1, .int x2, .int x3] w r.2 (some (.int r.1)) := by
  refine f_begin (by decide +kernel) (Nat.le_of_ble_eq_true rfl) (fun X hC hEn => ?_)
  unfold F_X5_print at hF
  show fAt X 0 0 4 w [(0, .ref a0), (1, .int x1), (2, .int x2), (3, .int x3)] [] 0
  refine f_aload_n hC dX5_print_0 rfl 0 rfl ?_
  obtain ⟨g3, hF⟩ := fg_open hF
  obtain ⟨r1, h2, hF⟩ := fb_open hF
  refine f_callV hC [] (c_X5_remembers l D cy a0 w r1 h2) q_1339 q_136 q_1336 q_1338 q_72 h9_X5_remembers rfl (fSm.k (fSm.rf w) g3) ⟨Nat.le_of_ble_eq_true rfl, Nat.le_of_ble_eq_true rfl⟩ ⟨Nat.le_of_ble_eq_true rfl, Nat.le_of_ble_eq_true rfl⟩ (Nat.le_of_ble_eq_true rfl) rfl dX5_print_1 (fun e4 => ?_)
  refine f_aload_n hC dX5_print_4 rfl 0 rfl ?_
  refine f_aload_n hC dX5_print_5 rfl 0 rfl ?_
  refine f_iload_n hC dX5_print_6 rfl 1 rfl ?_
  refine f_iload_n hC dX5_print_7 rfl 2 rfl ?_
  refine f_iload_n hC dX5_print_8 rfl 3 rfl ?_
  obtain ⟨r5, h6, hF⟩ := fb_open hF
  refine f_callV hC [.int x1, .int x2, .int x3] (c_X5_printsDraft l D cy a0 x1 x2 x3 r1 r5 h6) q_1391 q_136 q_1388 q_1390 q_80 h9_X5_printsDraft rfl (fSm.k (fSm.tr e4 (fSm.rf w)) g3) ⟨Nat.le_of_ble_eq_true rfl, Nat.le_of_ble_eq_true rfl⟩ ⟨Nat.le_of_ble_eq_true rfl, Nat.le_of_ble_eq_true rfl⟩ (Nat.le_of_ble_eq_true rfl) rfl dX5_print_9 (fun e7 => ?_)
  refine f_iconst (v := 3) hC dX5_print_12 (by decide) ?_
  obtain ⟨r8, h9, hF⟩ := fb_open hF
  refine f_callV hC [.int r5.1, .int 3] (c_X5_ends l D cy a0 r5.1 3 r5.2 r8 h9) q_1367 q_136 q_1364 q_1366 q_76 h9_X5_ends rfl (fSm.k (fSm.tr e7 (fSm.tr e4 (fSm.rf w))) g3) ⟨Nat.le_of_ble_eq_true rfl, Nat.le_of_ble_eq_true rfl⟩ ⟨Nat.le_of_ble_eq_true rfl, Nat.le_of_ble_eq_true rfl⟩ (Nat.le_of_ble_eq_true rfl) rfl dX5_print_13 (fun e10 => ?_)
  obtain rfl := Option.some.inj hF
  exact f_iret hC hEn (fSm.tr e10 (fSm.tr e7 (fSm.tr e4 (fSm.rf w)))) dX5_print_16
theorem dX5_throwAway_0 : decode cX5_throwAway 0 = .ok (.aload_n 0, 1) := by decide +kernel
theorem dX5_throwAway_1 : decode cX5_throwAway 1 = .ok (.invokevirtual 166, 3) := by decide +kernel
theorem dX5_throwAway_4 : decode cX5_throwAway 4 = .ok (.aload_n 0, 1) := by decide +kernel
theorem dX5_throwAway_5 : decode cX5_throwAway 5 = .ok (.aload_n 0, 1) := by decide +kernel
theorem dX5_throwAway_6 : decode cX5_throwAway 6 = .ok (.iload_n 1, 1) := by decide +kernel
theorem dX5_throwAway_7 : decode cX5_throwAway 7 = .ok (.invokevirtual 181, 3) := by decide +kernel
theorem dX5_throwAway_10 : decode cX5_throwAway 10 = .ok (.iconst 2, 1) := by decide +kernel
theorem dX5_throwAway_11 : decode cX5_throwAway 11 = .ok (.invokevirtual 172, 3) := by decide +kernel
theorem dX5_throwAway_14 : decode cX5_throwAway 14 = .ok (.ireturn, 1) := by decide +kernel
theorem h9_X5_throwAway : yX5_throwAway.cls ≠ "java/lang/invoke/MethodHandle" ∧ yX5_throwAway.cls ≠ "java/lang/invoke/VarHandle" ∧ (parseMethodDescriptor yX5_throwAway.desc).map (fun d => d.parameters.length) = some 1 := by decide +kernel
noncomputable def F_X5_throwAway (a0 : Nat) (x1 : Int32) (w : FW) : Option (Int32 × FW) :=
  fg (w.1 a0 = 6) inferInstance ((F_X5_remembers a0 w).bind (fun r1 => (F_X5_throwsAway a0 x1 r1).bind (fun r5 => (F_X5_ends a0 r5.1 2 r5.2).bind (fun r8 => some (r8.1, r8.2)))))
set_option maxHeartbeats 4000000 in
set_option maxRecDepth 100000 in
theorem c_X5_throwAway (l : Launch) (D : va_G) (cy : Nat → ClassId) (a0 : Nat) (x1 : Int32) (w : FW) (r : Int32 × FW) (hF : F_X5_throwAway a0 x1 w = some r) : fSpec l D cy yX5_throwAway cX5_throwAway 2 (some .int) { frames := 3, cells := 0, slots := 0, locals := 66 } [.ref a0, .int x1] w r.2 (some (.int r.1)) := by
  refine f_begin (by decide +kernel) (Nat.le_of_ble_eq_true rfl) (fun X hC hEn => ?_)
  unfold F_X5_throwAway at hF
  show fAt X 0 0 2 w [(0, .ref a0), (1, .int x1)] [] 0
  refine f_aload_n hC dX5_throwAway_0 rfl 0 rfl ?_
  obtain ⟨g3, hF⟩ := fg_open hF
  obtain ⟨r1, h2, hF⟩ := fb_open hF
  refine f_callV hC [] (c_X5_remembers l D cy a0 w r1 h2) q_1339 q_136 q_1336 q_1338 q_72 h9_X5_remembers rfl (fSm.k (fSm.rf w) g3) ⟨Nat.le_of_ble_eq_true rfl, Nat.le_of_ble_eq_true rfl⟩ ⟨Nat.le_of_ble_eq_true rfl, Nat.le_of_ble_eq_true rfl⟩ (Nat.le_of_ble_eq_true rfl) rfl dX5_throwAway_1 (fun e4 => ?_)
  refine f_aload_n hC dX5_throwAway_4 rfl 0 rfl ?_
  refine f_aload_n hC dX5_throwAway_5 rfl 0 rfl ?_
  refine f_iload_n hC dX5_throwAway_6 rfl 1 rfl ?_
  obtain ⟨r5, h6, hF⟩ := fb_open hF
  refine f_callV hC [.int x1] (c_X5_throwsAway l D cy a0 x1 r1 r5 h6) q_1411 q_136 q_1408 q_1410 q_84 h9_X5_throwsAway rfl (fSm.k (fSm.tr e4 (fSm.rf w)) g3) ⟨Nat.le_of_ble_eq_true rfl, Nat.le_of_ble_eq_true rfl⟩ ⟨Nat.le_of_ble_eq_true rfl, Nat.le_of_ble_eq_true rfl⟩ (Nat.le_of_ble_eq_true rfl) rfl dX5_throwAway_7 (fun e7 => ?_)
  refine f_iconst (v := 2) hC dX5_throwAway_10 (by decide) ?_
  obtain ⟨r8, h9, hF⟩ := fb_open hF
  refine f_callV hC [.int r5.1, .int 2] (c_X5_ends l D cy a0 r5.1 2 r5.2 r8 h9) q_1367 q_136 q_1364 q_1366 q_76 h9_X5_ends rfl (fSm.k (fSm.tr e7 (fSm.tr e4 (fSm.rf w))) g3) ⟨Nat.le_of_ble_eq_true rfl, Nat.le_of_ble_eq_true rfl⟩ ⟨Nat.le_of_ble_eq_true rfl, Nat.le_of_ble_eq_true rfl⟩ (Nat.le_of_ble_eq_true rfl) rfl dX5_throwAway_11 (fun e10 => ?_)
  obtain rfl := Option.some.inj hF
  exact f_iret hC hEn (fSm.tr e10 (fSm.tr e7 (fSm.tr e4 (fSm.rf w)))) dX5_throwAway_14
theorem dX5_mood_0 : decode cX5_mood 0 = .ok (.aload_n 0, 1) := by decide +kernel
theorem dX5_mood_1 : decode cX5_mood 1 = .ok (.invokevirtual 166, 3) := by decide +kernel
theorem dX5_mood_4 : decode cX5_mood 4 = .ok (.aload_n 0, 1) := by decide +kernel
theorem dX5_mood_5 : decode cX5_mood 5 = .ok (.aload_n 0, 1) := by decide +kernel
theorem dX5_mood_6 : decode cX5_mood 6 = .ok (.iload_n 1, 1) := by decide +kernel
theorem dX5_mood_7 : decode cX5_mood 7 = .ok (.iload_n 2, 1) := by decide +kernel
theorem dX5_mood_8 : decode cX5_mood 8 = .ok (.invokevirtual 184, 3) := by decide +kernel
theorem dX5_mood_11 : decode cX5_mood 11 = .ok (.iconst 3, 1) := by decide +kernel
theorem dX5_mood_12 : decode cX5_mood 12 = .ok (.invokevirtual 172, 3) := by decide +kernel
theorem dX5_mood_15 : decode cX5_mood 15 = .ok (.ireturn, 1) := by decide +kernel
theorem h9_X5_mood : yX5_mood.cls ≠ "java/lang/invoke/MethodHandle" ∧ yX5_mood.cls ≠ "java/lang/invoke/VarHandle" ∧ (parseMethodDescriptor yX5_mood.desc).map (fun d => d.parameters.length) = some 2 := by decide +kernel
noncomputable def F_X5_mood (a0 : Nat) (x1 : Int32) (x2 : Int32) (w : FW) : Option (Int32 × FW) :=
  fg (w.1 a0 = 6) inferInstance ((F_X5_remembers a0 w).bind (fun r1 => (F_X5_tellsMood a0 x1 x2 r1).bind (fun r5 => (F_X5_ends a0 r5.1 3 r5.2).bind (fun r8 => some (r8.1, r8.2)))))
set_option maxHeartbeats 4000000 in
set_option maxRecDepth 100000 in
theorem c_X5_mood (l : Launch) (D : va_G) (cy : Nat → ClassId) (a0 : Nat) (x1 : Int32) (x2 : Int32) (w : FW) (r : Int32 × FW) (hF : F_X5_mood a0 x1 x2 w = some r) : fSpec l D cy yX5_mood cX5_mood 3 (some .int) { frames := 2, cells := 0, slots := 0, locals := 45 } [.ref a0, .int x1, .int x2] w r.2 (some (.int r.1)) := by
  refine f_begin (by decide +kernel) (Nat.le_of_ble_eq_true rfl) (fun X hC hEn => ?_)
  unfold F_X5_mood at hF
  show fAt X 0 0 3 w [(0, .ref a0), (1, .int x1), (2, .int x2)] [] 0
  refine f_aload_n hC dX5_mood_0 rfl 0 rfl ?_
  obtain ⟨g3, hF⟩ := fg_open hF
  obtain ⟨r1, h2, hF⟩ := fb_open hF
  refine f_callV hC [] (c_X5_remembers l D cy a0 w r1 h2) q_1339 q_136 q_1336 q_1338 q_72 h9_X5_remembers rfl (fSm.k (fSm.rf w) g3) ⟨Nat.le_of_ble_eq_true rfl, Nat.le_of_ble_eq_true rfl⟩ ⟨Nat.le_of_ble_eq_true rfl, Nat.le_of_ble_eq_true rfl⟩ (Nat.le_of_ble_eq_true rfl) rfl dX5_mood_1 (fun e4 => ?_)
  refine f_aload_n hC dX5_mood_4 rfl 0 rfl ?_
  refine f_aload_n hC dX5_mood_5 rfl 0 rfl ?_
  refine f_iload_n hC dX5_mood_6 rfl 1 rfl ?_
  refine f_iload_n hC dX5_mood_7 rfl 2 rfl ?_
  obtain ⟨r5, h6, hF⟩ := fb_open hF
  refine f_callV hC [.int x1, .int x2] (c_X5_tellsMood l D cy a0 x1 x2 r1 r5 h6) q_1423 q_136 q_1420 q_1422 q_86 h9_X5_tellsMood rfl (fSm.k (fSm.tr e4 (fSm.rf w)) g3) ⟨Nat.le_of_ble_eq_true rfl, Nat.le_of_ble_eq_true rfl⟩ ⟨Nat.le_of_ble_eq_true rfl, Nat.le_of_ble_eq_true rfl⟩ (Nat.le_of_ble_eq_true rfl) rfl dX5_mood_8 (fun e7 => ?_)
  refine f_iconst (v := 3) hC dX5_mood_11 (by decide) ?_
  obtain ⟨r8, h9, hF⟩ := fb_open hF
  refine f_callV hC [.int r5.1, .int 3] (c_X5_ends l D cy a0 r5.1 3 r5.2 r8 h9) q_1367 q_136 q_1364 q_1366 q_76 h9_X5_ends rfl (fSm.k (fSm.tr e7 (fSm.tr e4 (fSm.rf w))) g3) ⟨Nat.le_of_ble_eq_true rfl, Nat.le_of_ble_eq_true rfl⟩ ⟨Nat.le_of_ble_eq_true rfl, Nat.le_of_ble_eq_true rfl⟩ (Nat.le_of_ble_eq_true rfl) rfl dX5_mood_12 (fun e10 => ?_)
  obtain rfl := Option.some.inj hF
  exact f_iret hC hEn (fSm.tr e10 (fSm.tr e7 (fSm.tr e4 (fSm.rf w)))) dX5_mood_15
theorem dX5_pier_0 : decode cX5_pier 0 = .ok (.aload_n 0, 1) := by decide +kernel
theorem dX5_pier_1 : decode cX5_pier 1 = .ok (.invokevirtual 166, 3) := by decide +kernel
theorem dX5_pier_4 : decode cX5_pier 4 = .ok (.aload_n 0, 1) := by decide +kernel
theorem dX5_pier_5 : decode cX5_pier 5 = .ok (.aload_n 0, 1) := by decide +kernel
theorem dX5_pier_6 : decode cX5_pier 6 = .ok (.iload_n 1, 1) := by decide +kernel
theorem dX5_pier_7 : decode cX5_pier 7 = .ok (.iload_n 2, 1) := by decide +kernel
theorem dX5_pier_8 : decode cX5_pier 8 = .ok (.invokevirtual 187, 3) := by decide +kernel
theorem dX5_pier_11 : decode cX5_pier 11 = .ok (.iconst 2, 1) := by decide +kernel
theorem dX5_pier_12 : decode cX5_pier 12 = .ok (.invokevirtual 172, 3) := by decide +kernel
theorem dX5_pier_15 : decode cX5_pier 15 = .ok (.ireturn, 1) := by decide +kernel
theorem h9_X5_pier : yX5_pier.cls ≠ "java/lang/invoke/MethodHandle" ∧ yX5_pier.cls ≠ "java/lang/invoke/VarHandle" ∧ (parseMethodDescriptor yX5_pier.desc).map (fun d => d.parameters.length) = some 2 := by decide +kernel
noncomputable def F_X5_pier (a0 : Nat) (x1 : Int32) (x2 : Int32) (w : FW) : Option (Int32 × FW) :=
  fg (w.1 a0 = 6) inferInstance ((F_X5_remembers a0 w).bind (fun r1 => (F_X5_turnsPier a0 x1 x2 r1).bind (fun r5 => (F_X5_ends a0 r5.1 2 r5.2).bind (fun r8 => some (r8.1, r8.2)))))
set_option maxHeartbeats 4000000 in
set_option maxRecDepth 100000 in
theorem c_X5_pier (l : Launch) (D : va_G) (cy : Nat → ClassId) (a0 : Nat) (x1 : Int32) (x2 : Int32) (w : FW) (r : Int32 × FW) (hF : F_X5_pier a0 x1 x2 w = some r) : fSpec l D cy yX5_pier cX5_pier 3 (some .int) { frames := 3, cells := 0, slots := 0, locals := 65 } [.ref a0, .int x1, .int x2] w r.2 (some (.int r.1)) := by
  refine f_begin (by decide +kernel) (Nat.le_of_ble_eq_true rfl) (fun X hC hEn => ?_)
  unfold F_X5_pier at hF
  show fAt X 0 0 3 w [(0, .ref a0), (1, .int x1), (2, .int x2)] [] 0
  refine f_aload_n hC dX5_pier_0 rfl 0 rfl ?_
  obtain ⟨g3, hF⟩ := fg_open hF
  obtain ⟨r1, h2, hF⟩ := fb_open hF
  refine f_callV hC [] (c_X5_remembers l D cy a0 w r1 h2) q_1339 q_136 q_1336 q_1338 q_72 h9_X5_remembers rfl (fSm.k (fSm.rf w) g3) ⟨Nat.le_of_ble_eq_true rfl, Nat.le_of_ble_eq_true rfl⟩ ⟨Nat.le_of_ble_eq_true rfl, Nat.le_of_ble_eq_true rfl⟩ (Nat.le_of_ble_eq_true rfl) rfl dX5_pier_1 (fun e4 => ?_)
  refine f_aload_n hC dX5_pier_4 rfl 0 rfl ?_
  refine f_aload_n hC dX5_pier_5 rfl 0 rfl ?_
  refine f_iload_n hC dX5_pier_6 rfl 1 rfl ?_
  refine f_iload_n hC dX5_pier_7 rfl 2 rfl ?_
  obtain ⟨r5, h6, hF⟩ := fb_open hF
  refine f_callV hC [.int x1, .int x2] (c_X5_turnsPier l D cy a0 x1 x2 r1 r5 h6) q_1431 q_136 q_1428 q_1430 q_87 h9_X5_turnsPier rfl (fSm.k (fSm.tr e4 (fSm.rf w)) g3) ⟨Nat.le_of_ble_eq_true rfl, Nat.le_of_ble_eq_true rfl⟩ ⟨Nat.le_of_ble_eq_true rfl, Nat.le_of_ble_eq_true rfl⟩ (Nat.le_of_ble_eq_true rfl) rfl dX5_pier_8 (fun e7 => ?_)
  refine f_iconst (v := 2) hC dX5_pier_11 (by decide) ?_
  obtain ⟨r8, h9, hF⟩ := fb_open hF
  refine f_callV hC [.int r5.1, .int 2] (c_X5_ends l D cy a0 r5.1 2 r5.2 r8 h9) q_1367 q_136 q_1364 q_1366 q_76 h9_X5_ends rfl (fSm.k (fSm.tr e7 (fSm.tr e4 (fSm.rf w))) g3) ⟨Nat.le_of_ble_eq_true rfl, Nat.le_of_ble_eq_true rfl⟩ ⟨Nat.le_of_ble_eq_true rfl, Nat.le_of_ble_eq_true rfl⟩ (Nat.le_of_ble_eq_true rfl) rfl dX5_pier_12 (fun e10 => ?_)
  obtain rfl := Option.some.inj hF
  exact f_iret hC hEn (fSm.tr e10 (fSm.tr e7 (fSm.tr e4 (fSm.rf w)))) dX5_pier_15
theorem dX5_vowelsOf_0 : decode cX5_vowelsOf 0 = .ok (.iconst 0, 1) := by decide +kernel
theorem dX5_vowelsOf_1 : decode cX5_vowelsOf 1 = .ok (.istore_n 2, 1) := by decide +kernel
theorem dX5_vowelsOf_2 : decode cX5_vowelsOf 2 = .ok (.iconst 0, 1) := by decide +kernel
theorem dX5_vowelsOf_3 : decode cX5_vowelsOf 3 = .ok (.istore_n 3, 1) := by decide +kernel
theorem dX5_vowelsOf_4 : decode cX5_vowelsOf 4 = .ok (.iload_n 3, 1) := by decide +kernel
theorem dX5_vowelsOf_5 : decode cX5_vowelsOf 5 = .ok (.aload_n 0, 1) := by decide +kernel
theorem dX5_vowelsOf_6 : decode cX5_vowelsOf 6 = .ok (.iload_n 1, 1) := by decide +kernel
theorem dX5_vowelsOf_7 : decode cX5_vowelsOf 7 = .ok (.iconst 0, 1) := by decide +kernel
theorem dX5_vowelsOf_8 : decode cX5_vowelsOf 8 = .ok (.invokevirtual 70, 3) := by decide +kernel
theorem dX5_vowelsOf_11 : decode cX5_vowelsOf 11 = .ok (.if_icmp .ge 30, 3) := by decide +kernel
theorem dX5_vowelsOf_14 : decode cX5_vowelsOf 14 = .ok (.iload_n 2, 1) := by decide +kernel
theorem dX5_vowelsOf_15 : decode cX5_vowelsOf 15 = .ok (.aload_n 0, 1) := by decide +kernel
theorem dX5_vowelsOf_16 : decode cX5_vowelsOf 16 = .ok (.iload_n 1, 1) := by decide +kernel
theorem dX5_vowelsOf_17 : decode cX5_vowelsOf 17 = .ok (.iload_n 3, 1) := by decide +kernel
theorem dX5_vowelsOf_18 : decode cX5_vowelsOf 18 = .ok (.invokevirtual 89, 3) := by decide +kernel
theorem dX5_vowelsOf_21 : decode cX5_vowelsOf 21 = .ok (.invokestatic 86, 3) := by decide +kernel
theorem dX5_vowelsOf_24 : decode cX5_vowelsOf 24 = .ok (.iconst (-1), 1) := by decide +kernel
theorem dX5_vowelsOf_25 : decode cX5_vowelsOf 25 = .ok (.if_icmp .ne 7, 3) := by decide +kernel
theorem dX5_vowelsOf_28 : decode cX5_vowelsOf 28 = .ok (.iconst 0, 1) := by decide +kernel
theorem dX5_vowelsOf_29 : decode cX5_vowelsOf 29 = .ok (.goto 4, 3) := by decide +kernel
theorem dX5_vowelsOf_32 : decode cX5_vowelsOf 32 = .ok (.iconst 1, 1) := by decide +kernel
theorem dX5_vowelsOf_33 : decode cX5_vowelsOf 33 = .ok (.iadd, 1) := by decide +kernel
theorem dX5_vowelsOf_34 : decode cX5_vowelsOf 34 = .ok (.istore_n 2, 1) := by decide +kernel
theorem dX5_vowelsOf_35 : decode cX5_vowelsOf 35 = .ok (.iinc 3 1, 3) := by decide +kernel
theorem dX5_vowelsOf_38 : decode cX5_vowelsOf 38 = .ok (.goto (-34), 3) := by decide +kernel
theorem dX5_vowelsOf_41 : decode cX5_vowelsOf 41 = .ok (.iload_n 2, 1) := by decide +kernel
theorem dX5_vowelsOf_42 : decode cX5_vowelsOf 42 = .ok (.ireturn, 1) := by decide +kernel
theorem h9_X5_vowelsOf : yX5_vowelsOf.cls ≠ "java/lang/invoke/MethodHandle" ∧ yX5_vowelsOf.cls ≠ "java/lang/invoke/VarHandle" ∧ (parseMethodDescriptor yX5_vowelsOf.desc).map (fun d => d.parameters.length) = some 1 := by decide +kernel
noncomputable def F_X5_vowelsOf (a0 : Nat) (x1 : Int32) (w : FW) : Option (Int32) :=
  (fLoop (σ := Int32 × Int32) (ρ := Int32) (fun s1 => fg (w.1 a0 = 6) inferInstance ((F_X5_of a0 x1 0 w).bind (fun r10 => (if r10 ≤ s1.2 then some (.inr s1.1) else (F_X5_letterOf a0 x1 s1.2 w).bind (fun r15 => (F_X5_vowel r15 w).bind (fun r18 => (if r18 = (-1) then some (.inl ((s1.1 + 0), (s1.2 + 1))) else some (.inl ((s1.1 + 1), (s1.2 + 1)))))))))) (0, 0)).bind (fun x7 => some x7)
set_option maxHeartbeats 4000000 in
set_option maxRecDepth 100000 in
theorem c_X5_vowelsOf (l : Launch) (D : va_G) (cy : Nat → ClassId) (a0 : Nat) (x1 : Int32) (w : FW) (r : Int32) (hF : F_X5_vowelsOf a0 x1 w = some r) : fSpec l D cy yX5_vowelsOf cX5_vowelsOf 4 (some .int) { frames := 2, cells := 0, slots := 0, locals := 44 } [.ref a0, .int x1] w w (some (.int r)) := by
  refine f_begin (by decide +kernel) (Nat.le_of_ble_eq_true rfl) (fun X hC hEn => ?_)
  unfold F_X5_vowelsOf at hF
  show fAt X 0 0 4 w [(0, .ref a0), (1, .int x1)] [] 0
  refine f_iconst (v := 0) hC dX5_vowelsOf_0 (by decide) ?_
  refine f_istore_n (L' := [(2, .int 0), (0, .ref a0), (1, .int x1)]) hC dX5_vowelsOf_1 rfl (by decide) rfl ?_
  refine f_iconst (v := 0) hC dX5_vowelsOf_2 (by decide) ?_
  refine f_istore_n (L' := [(3, .int 0), (2, .int 0), (0, .ref a0), (1, .int x1)]) hC dX5_vowelsOf_3 rfl (by decide) rfl ?_
  obtain ⟨x7, h8, hF⟩ := fb_open hF
  have K9 : fAt X 0 0 4 w [(2, .int x7)] [] 41 := by
    refine f_iload_n hC dX5_vowelsOf_41 rfl 0 rfl ?_
    obtain rfl := Option.some.inj hF
    exact f_iret hC hEn (fSm.rf w) dX5_vowelsOf_42
  refine f_sub (L' := [(0, .ref a0), (1, .int x1), (2, .int 0), (3, .int 0)]) [2, 3, 1, 0] rfl ?_
  refine fLoop_ind (fun (s1 : Int32 × Int32) => fAt X 0 0 4 w [(0, .ref a0), (1, .int x1), (2, .int s1.1), (3, .int s1.2)] [] 4) (fun s1 y6 h2 go3 ou4 => ?_) h8
  refine f_iload_n hC dX5_vowelsOf_4 rfl 3 rfl ?_
  refine f_aload_n hC dX5_vowelsOf_5 rfl 0 rfl ?_
  refine f_iload_n hC dX5_vowelsOf_6 rfl 1 rfl ?_
  refine f_iconst (v := 0) hC dX5_vowelsOf_7 (by decide) ?_
  obtain ⟨g12, h2⟩ := fg_open h2
  obtain ⟨r10, h11, h2⟩ := fb_open h2
  refine f_callV hC [.int x1, .int 0] (c_X5_of l D cy a0 x1 0 w r10 h11) q_1447 q_136 q_1444 q_1446 q_90 h9_X5_of rfl (fSm.k (fSm.rf w) g12) ⟨Nat.le_of_ble_eq_true rfl, Nat.le_of_ble_eq_true rfl⟩ ⟨Nat.le_of_ble_eq_true rfl, Nat.le_of_ble_eq_true rfl⟩ (Nat.le_of_ble_eq_true rfl) rfl dX5_vowelsOf_8 (fun e13 => ?_)
  refine f_icmp_ge hC 41 dX5_vowelsOf_11 (by decide) (fun c14 => ?_) (fun c14 => ?_)
  · replace h2 := fi_pos h2 c14
    obtain rfl := Option.some.inj h2
    obtain rfl := ou4 _ rfl
    refine f_sub (L' := [(2, .int s1.1)]) [2] rfl ?_
    exact K9
  · replace h2 := fi_neg h2 c14
    refine f_iload_n hC dX5_vowelsOf_14 rfl 2 rfl ?_
    refine f_aload_n hC dX5_vowelsOf_15 rfl 0 rfl ?_
    refine f_iload_n hC dX5_vowelsOf_16 rfl 1 rfl ?_
    refine f_iload_n hC dX5_vowelsOf_17 rfl 3 rfl ?_
    obtain ⟨r15, h16, h2⟩ := fb_open h2
    refine f_callV hC [.int x1, .int s1.2] (c_X5_letterOf l D cy a0 x1 s1.2 w r15 h16) q_1455 q_136 q_1452 q_1454 q_92 h9_X5_letterOf rfl (fSm.k (fSm.rf w) g12) ⟨Nat.le_of_ble_eq_true rfl, Nat.le_of_ble_eq_true rfl⟩ ⟨Nat.le_of_ble_eq_true rfl, Nat.le_of_ble_eq_true rfl⟩ (Nat.le_of_ble_eq_true rfl) rfl dX5_vowelsOf_18 (fun e17 => ?_)
    obtain ⟨r18, h19, h2⟩ := fb_open h2
    refine f_callS hC [.int r15] (c_X5_vowel l D cy r15 w r18 h19) q_1355 q_136 q_1353 q_1354 h9_X5_vowel ⟨Nat.le_of_ble_eq_true rfl, Nat.le_of_ble_eq_true rfl⟩ ⟨Nat.le_of_ble_eq_true rfl, Nat.le_of_ble_eq_true rfl⟩ (Nat.le_of_ble_eq_true rfl) rfl dX5_vowelsOf_21 (fun e20 => ?_)
    refine f_iconst (v := (-1)) hC dX5_vowelsOf_24 (by decide) ?_
    refine f_icmp_ne hC 32 dX5_vowelsOf_25 (by decide) (fun c21 => ?_) (fun c21 => ?_)
    · replace h2 := fi_neg h2 c21
      refine f_iconst (v := 1) hC dX5_vowelsOf_32 (by decide) ?_
      refine f_iadd hC dX5_vowelsOf_33 ?_
      refine f_istore_n (L' := [(2, .int (s1.1 + 1)), (0, .ref a0), (1, .int x1), (3, .int s1.2)]) hC dX5_vowelsOf_34 rfl (by decide) rfl ?_
      refine f_iinc (L' := [(3, .int (s1.2 + 1)), (2, .int (s1.1 + 1)), (0, .ref a0), (1, .int x1)]) hC dX5_vowelsOf_35 3 rfl rfl (by decide) rfl ?_
      refine f_goto hC 4 dX5_vowelsOf_38 (by decide) ?_
      obtain rfl := Option.some.inj h2
      refine f_sub (L' := [(0, .ref a0), (1, .int x1), (2, .int (s1.1 + 1)), (3, .int (s1.2 + 1))]) [2, 3, 1, 0] rfl ?_
      exact go3 _ rfl
    · replace h2 := fi_pos h2 c21
      refine f_iconst (v := 0) hC dX5_vowelsOf_28 (by decide) ?_
      refine f_goto hC 33 dX5_vowelsOf_29 (by decide) ?_
      refine f_iadd hC dX5_vowelsOf_33 ?_
      refine f_istore_n (L' := [(2, .int (s1.1 + 0)), (0, .ref a0), (1, .int x1), (3, .int s1.2)]) hC dX5_vowelsOf_34 rfl (by decide) rfl ?_
      refine f_iinc (L' := [(3, .int (s1.2 + 1)), (2, .int (s1.1 + 0)), (0, .ref a0), (1, .int x1)]) hC dX5_vowelsOf_35 3 rfl rfl (by decide) rfl ?_
      refine f_goto hC 4 dX5_vowelsOf_38 (by decide) ?_
      obtain rfl := Option.some.inj h2
      refine f_sub (L' := [(0, .ref a0), (1, .int x1), (2, .int (s1.1 + 0)), (3, .int (s1.2 + 1))]) [2, 3, 1, 0] rfl ?_
      exact go3 _ rfl
theorem dX5_ticketOf_0 : decode cX5_ticketOf 0 = .ok (.aload_n 0, 1) := by decide +kernel
theorem dX5_ticketOf_1 : decode cX5_ticketOf 1 = .ok (.aload_n 0, 1) := by decide +kernel
theorem dX5_ticketOf_2 : decode cX5_ticketOf 2 = .ok (.iload_n 1, 1) := by decide +kernel
theorem dX5_ticketOf_3 : decode cX5_ticketOf 3 = .ok (.invokevirtual 135, 3) := by decide +kernel
theorem dX5_ticketOf_6 : decode cX5_ticketOf 6 = .ok (.ifCond .eq 7, 3) := by decide +kernel
theorem dX5_ticketOf_9 : decode cX5_ticketOf 9 = .ok (.iconst 0, 1) := by decide +kernel
theorem dX5_ticketOf_10 : decode cX5_ticketOf 10 = .ok (.goto 4, 3) := by decide +kernel
theorem dX5_ticketOf_13 : decode cX5_ticketOf 13 = .ok (.iconst 1, 1) := by decide +kernel
theorem dX5_ticketOf_14 : decode cX5_ticketOf 14 = .ok (.putfield 41, 3) := by decide +kernel
theorem dX5_ticketOf_17 : decode cX5_ticketOf 17 = .ok (.aload_n 0, 1) := by decide +kernel
theorem dX5_ticketOf_18 : decode cX5_ticketOf 18 = .ok (.getfield 41, 3) := by decide +kernel
theorem dX5_ticketOf_21 : decode cX5_ticketOf 21 = .ok (.ifCond .le 5, 3) := by decide +kernel
theorem dX5_ticketOf_24 : decode cX5_ticketOf 24 = .ok (.iconst 0, 1) := by decide +kernel
theorem dX5_ticketOf_25 : decode cX5_ticketOf 25 = .ok (.ireturn, 1) := by decide +kernel
theorem dX5_ticketOf_26 : decode cX5_ticketOf 26 = .ok (.iload_n 2, 1) := by decide +kernel
theorem dX5_ticketOf_27 : decode cX5_ticketOf 27 = .ok (.tableswitch 94 0 6 #[41, 48, 54, 62, 70, 78, 86], 41) := by decide +kernel
theorem dX5_ticketOf_68 : decode cX5_ticketOf 68 = .ok (.aload_n 0, 1) := by decide +kernel
theorem dX5_ticketOf_69 : decode cX5_ticketOf 69 = .ok (.iload_n 1, 1) := by decide +kernel
theorem dX5_ticketOf_70 : decode cX5_ticketOf 70 = .ok (.iconst 0, 1) := by decide +kernel
theorem dX5_ticketOf_71 : decode cX5_ticketOf 71 = .ok (.invokevirtual 70, 3) := by decide +kernel
theorem dX5_ticketOf_74 : decode cX5_ticketOf 74 = .ok (.ireturn, 1) := by decide +kernel
theorem dX5_ticketOf_75 : decode cX5_ticketOf 75 = .ok (.aload_n 0, 1) := by decide +kernel
theorem dX5_ticketOf_76 : decode cX5_ticketOf 76 = .ok (.iload_n 1, 1) := by decide +kernel
theorem dX5_ticketOf_77 : decode cX5_ticketOf 77 = .ok (.invokevirtual 191, 3) := by decide +kernel
theorem dX5_ticketOf_80 : decode cX5_ticketOf 80 = .ok (.ireturn, 1) := by decide +kernel
theorem dX5_ticketOf_81 : decode cX5_ticketOf 81 = .ok (.aload_n 0, 1) := by decide +kernel
theorem dX5_ticketOf_82 : decode cX5_ticketOf 82 = .ok (.iload_n 1, 1) := by decide +kernel
theorem dX5_ticketOf_83 : decode cX5_ticketOf 83 = .ok (.bipush 7, 2) := by decide +kernel
theorem dX5_ticketOf_85 : decode cX5_ticketOf 85 = .ok (.invokevirtual 70, 3) := by decide +kernel
theorem dX5_ticketOf_88 : decode cX5_ticketOf 88 = .ok (.ireturn, 1) := by decide +kernel
theorem dX5_ticketOf_89 : decode cX5_ticketOf 89 = .ok (.aload_n 0, 1) := by decide +kernel
theorem dX5_ticketOf_90 : decode cX5_ticketOf 90 = .ok (.iload_n 1, 1) := by decide +kernel
theorem dX5_ticketOf_91 : decode cX5_ticketOf 91 = .ok (.bipush 8, 2) := by decide +kernel
theorem dX5_ticketOf_93 : decode cX5_ticketOf 93 = .ok (.invokevirtual 70, 3) := by decide +kernel
theorem dX5_ticketOf_96 : decode cX5_ticketOf 96 = .ok (.ireturn, 1) := by decide +kernel
theorem dX5_ticketOf_97 : decode cX5_ticketOf 97 = .ok (.aload_n 0, 1) := by decide +kernel
theorem dX5_ticketOf_98 : decode cX5_ticketOf 98 = .ok (.iload_n 1, 1) := by decide +kernel
theorem dX5_ticketOf_99 : decode cX5_ticketOf 99 = .ok (.bipush 9, 2) := by decide +kernel
theorem dX5_ticketOf_101 : decode cX5_ticketOf 101 = .ok (.invokevirtual 70, 3) := by decide +kernel
theorem dX5_ticketOf_104 : decode cX5_ticketOf 104 = .ok (.ireturn, 1) := by decide +kernel
theorem dX5_ticketOf_105 : decode cX5_ticketOf 105 = .ok (.aload_n 0, 1) := by decide +kernel
theorem dX5_ticketOf_106 : decode cX5_ticketOf 106 = .ok (.iload_n 1, 1) := by decide +kernel
theorem dX5_ticketOf_107 : decode cX5_ticketOf 107 = .ok (.bipush 10, 2) := by decide +kernel
theorem dX5_ticketOf_109 : decode cX5_ticketOf 109 = .ok (.invokevirtual 70, 3) := by decide +kernel
theorem dX5_ticketOf_112 : decode cX5_ticketOf 112 = .ok (.ireturn, 1) := by decide +kernel
theorem dX5_ticketOf_113 : decode cX5_ticketOf 113 = .ok (.aload_n 0, 1) := by decide +kernel
theorem dX5_ticketOf_114 : decode cX5_ticketOf 114 = .ok (.iload_n 1, 1) := by decide +kernel
theorem dX5_ticketOf_115 : decode cX5_ticketOf 115 = .ok (.bipush 11, 2) := by decide +kernel
theorem dX5_ticketOf_117 : decode cX5_ticketOf 117 = .ok (.invokevirtual 70, 3) := by decide +kernel
theorem dX5_ticketOf_120 : decode cX5_ticketOf 120 = .ok (.ireturn, 1) := by decide +kernel
theorem dX5_ticketOf_121 : decode cX5_ticketOf 121 = .ok (.aload_n 0, 1) := by decide +kernel
theorem dX5_ticketOf_122 : decode cX5_ticketOf 122 = .ok (.iconst 2, 1) := by decide +kernel
theorem dX5_ticketOf_123 : decode cX5_ticketOf 123 = .ok (.invokevirtual 57, 3) := by decide +kernel
theorem dX5_ticketOf_126 : decode cX5_ticketOf 126 = .ok (.ireturn, 1) := by decide +kernel
theorem h9_X5_ticketOf : yX5_ticketOf.cls ≠ "java/lang/invoke/MethodHandle" ∧ yX5_ticketOf.cls ≠ "java/lang/invoke/VarHandle" ∧ (parseMethodDescriptor yX5_ticketOf.desc).map (fun d => d.parameters.length) = some 2 := by decide +kernel
noncomputable def F_X5_ticketOf (a0 : Nat) (x1 : Int32) (x2 : Int32) (w : FW) : Option (Int32 × FW) :=
  fg (w.1 a0 = 6) inferInstance ((F_X5_isTicket a0 x1 w).bind (fun r1 => ((if r1 = 0 then some 1 else some 0) : Option (Int32)).bind (fun x5 => (if (gI (sI w 500 a0 0 x5) 500 a0 0) ≤ 0 then (if x2 = 0 then (F_X5_of a0 x1 0 (sI w 500 a0 0 x5)).bind (fun r11 => some (r11, (sI w 500 a0 0 x5))) else (if x2 = 1 then (F_X5_vowelsOf a0 x1 (sI w 500 a0 0 x5)).bind (fun r15 => some (r15, (sI w 500 a0 0 x5))) else (if x2 = 2 then (F_X5_of a0 x1 7 (sI w 500 a0 0 x5)).bind (fun r19 => some (r19, (sI w 500 a0 0 x5))) else (if x2 = 3 then (F_X5_of a0 x1 8 (sI w 500 a0 0 x5)).bind (fun r23 => some (r23, (sI w 500 a0 0 x5))) else (if x2 = 4 then (F_X5_of a0 x1 9 (sI w 500 a0 0 x5)).bind (fun r27 => some (r27, (sI w 500 a0 0 x5))) else (if x2 = 5 then (F_X5_of a0 x1 10 (sI w 500 a0 0 x5)).bind (fun r31 => some (r31, (sI w 500 a0 0 x5))) else (if x2 = 6 then (F_X5_of a0 x1 11 (sI w 500 a0 0 x5)).bind (fun r35 => some (r35, (sI w 500 a0 0 x5))) else (F_X5_fails a0 2 (sI w 500 a0 0 x5)).bind (fun r38 => some (r38.1, r38.2))))))))) else some (0, (sI w 500 a0 0 x5))))))
set_option maxHeartbeats 4000000 in
set_option maxRecDepth 100000 in
theorem c_X5_ticketOf (l : Launch) (D : va_G) (cy : Nat → ClassId) (a0 : Nat) (x1 : Int32) (x2 : Int32) (w : FW) (r : Int32 × FW) (hF : F_X5_ticketOf a0 x1 x2 w = some r) : fSpec l D cy yX5_ticketOf cX5_ticketOf 3 (some .int) { frames := 3, cells := 0, slots := 0, locals := 67 } [.ref a0, .int x1, .int x2] w r.2 (some (.int r.1)) := by
  refine f_begin (by decide +kernel) (Nat.le_of_ble_eq_true rfl) (fun X hC hEn => ?_)
  unfold F_X5_ticketOf at hF
  show fAt X 0 0 3 w [(0, .ref a0), (1, .int x1), (2, .int x2)] [] 0
  refine f_aload_n hC dX5_ticketOf_0 rfl 0 rfl ?_
  refine f_aload_n hC dX5_ticketOf_1 rfl 0 rfl ?_
  refine f_iload_n hC dX5_ticketOf_2 rfl 1 rfl ?_
  obtain ⟨g3, hF⟩ := fg_open hF
  obtain ⟨r1, h2, hF⟩ := fb_open hF
  refine f_callV hC [.int x1] (c_X5_isTicket l D cy a0 x1 w r1 h2) q_1415 q_136 q_1412 q_1414 q_85 h9_X5_isTicket rfl (fSm.k (fSm.rf w) g3) ⟨Nat.le_of_ble_eq_true rfl, Nat.le_of_ble_eq_true rfl⟩ ⟨Nat.le_of_ble_eq_true rfl, Nat.le_of_ble_eq_true rfl⟩ (Nat.le_of_ble_eq_true rfl) rfl dX5_ticketOf_3 (fun e4 => ?_)
  obtain ⟨x5, h6, hF⟩ := fb_open hF
  have K8 : fAt X 0 0 3 w [(0, .ref a0), (1, .int x1), (2, .int x2)] [.int x5, .ref a0] 14 := by
    refine f_putI hC 5 0 500 rfl (by decide) iX5 tyX5 tyX5_ok nmX5 q_1254 rfl rfl rfl rfl rfl (fSm.k (fSm.rf w) g3) dX5_ticketOf_14 ?_
    refine f_aload_n hC dX5_ticketOf_17 rfl 0 rfl ?_
    refine f_getI hC 5 0 500 rfl (by decide) iX5 q_1254 rfl rfl (fSm.k (fSm.rf w) g3) dX5_ticketOf_18 ?_
    refine f_if_le hC 26 dX5_ticketOf_21 (by decide) (fun c9 => ?_) (fun c9 => ?_)
    · replace hF := fi_pos hF c9
      refine f_iload_n hC dX5_ticketOf_26 rfl 2 rfl ?_
      by_cases c10 : x2 = 0
      · replace hF := fi_pos hF c10
        refine f_tabIn hC 68 dX5_ticketOf_27 (by rw [c10] <;> decide) (by rw [c10] <;> decide) (by rw [c10] <;> rfl) (by decide) ?_
        refine f_aload_n hC dX5_ticketOf_68 rfl 0 rfl ?_
        refine f_iload_n hC dX5_ticketOf_69 rfl 1 rfl ?_
        refine f_iconst (v := 0) hC dX5_ticketOf_70 (by decide) ?_
        obtain ⟨r11, h12, hF⟩ := fb_open hF
        refine f_callV hC [.int x1, .int 0] (c_X5_of l D cy a0 x1 0 (sI w 500 a0 0 x5) r11 h12) q_1447 q_136 q_1444 q_1446 q_90 h9_X5_of rfl (fSm.k (fSm.rf w) g3) ⟨Nat.le_of_ble_eq_true rfl, Nat.le_of_ble_eq_true rfl⟩ ⟨Nat.le_of_ble_eq_true rfl, Nat.le_of_ble_eq_true rfl⟩ (Nat.le_of_ble_eq_true rfl) rfl dX5_ticketOf_71 (fun e13 => ?_)
        obtain rfl := Option.some.inj hF
        exact f_iret hC hEn (fSm.rf w) dX5_ticketOf_74
      · replace hF := fi_neg hF c10
        by_cases c14 : x2 = 1
        · replace hF := fi_pos hF c14
          refine f_tabIn hC 75 dX5_ticketOf_27 (by rw [c14] <;> decide) (by rw [c14] <;> decide) (by rw [c14] <;> rfl) (by decide) ?_
          refine f_aload_n hC dX5_ticketOf_75 rfl 0 rfl ?_
          refine f_iload_n hC dX5_ticketOf_76 rfl 1 rfl ?_
          obtain ⟨r15, h16, hF⟩ := fb_open hF
          refine f_callV hC [.int x1] (c_X5_vowelsOf l D cy a0 x1 (sI w 500 a0 0 x5) r15 h16) q_1451 q_136 q_1448 q_1450 q_91 h9_X5_vowelsOf rfl (fSm.k (fSm.rf w) g3) ⟨Nat.le_of_ble_eq_true rfl, Nat.le_of_ble_eq_true rfl⟩ ⟨Nat.le_of_ble_eq_true rfl, Nat.le_of_ble_eq_true rfl⟩ (Nat.le_of_ble_eq_true rfl) rfl dX5_ticketOf_77 (fun e17 => ?_)
          obtain rfl := Option.some.inj hF
          exact f_iret hC hEn (fSm.rf w) dX5_ticketOf_80
        · replace hF := fi_neg hF c14
          by_cases c18 : x2 = 2
          · replace hF := fi_pos hF c18
            refine f_tabIn hC 81 dX5_ticketOf_27 (by rw [c18] <;> decide) (by rw [c18] <;> decide) (by rw [c18] <;> rfl) (by decide) ?_
            refine f_aload_n hC dX5_ticketOf_81 rfl 0 rfl ?_
            refine f_iload_n hC dX5_ticketOf_82 rfl 1 rfl ?_
            refine f_bipush (v := 7) hC dX5_ticketOf_83 (by decide) ?_
            obtain ⟨r19, h20, hF⟩ := fb_open hF
            refine f_callV hC [.int x1, .int 7] (c_X5_of l D cy a0 x1 7 (sI w 500 a0 0 x5) r19 h20) q_1447 q_136 q_1444 q_1446 q_90 h9_X5_of rfl (fSm.k (fSm.rf w) g3) ⟨Nat.le_of_ble_eq_true rfl, Nat.le_of_ble_eq_true rfl⟩ ⟨Nat.le_of_ble_eq_true rfl, Nat.le_of_ble_eq_true rfl⟩ (Nat.le_of_ble_eq_true rfl) rfl dX5_ticketOf_85 (fun e21 => ?_)
            obtain rfl := Option.some.inj hF
            exact f_iret hC hEn (fSm.rf w) dX5_ticketOf_88
          · replace hF := fi_neg hF c18
            by_cases c22 : x2 = 3
            · replace hF := fi_pos hF c22
              refine f_tabIn hC 89 dX5_ticketOf_27 (by rw [c22] <;> decide) (by rw [c22] <;> decide) (by rw [c22] <;> rfl) (by decide) ?_
              refine f_aload_n hC dX5_ticketOf_89 rfl 0 rfl ?_
              refine f_iload_n hC dX5_ticketOf_90 rfl 1 rfl ?_
              refine f_bipush (v := 8) hC dX5_ticketOf_91 (by decide) ?_
              obtain ⟨r23, h24, hF⟩ := fb_open hF
              refine f_callV hC [.int x1, .int 8] (c_X5_of l D cy a0 x1 8 (sI w 500 a0 0 x5) r23 h24) q_1447 q_136 q_1444 q_1446 q_90 h9_X5_of rfl (fSm.k (fSm.rf w) g3) ⟨Nat.le_of_ble_eq_true rfl, Nat.le_of_ble_eq_true rfl⟩ ⟨Nat.le_of_ble_eq_true rfl, Nat.le_of_ble_eq_true rfl⟩ (Nat.le_of_ble_eq_true rfl) rfl dX5_ticketOf_93 (fun e25 => ?_)
              obtain rfl := Option.some.inj hF
              exact f_iret hC hEn (fSm.rf w) dX5_ticketOf_96
            · replace hF := fi_neg hF c22
              by_cases c26 : x2 = 4
              · replace hF := fi_pos hF c26
                refine f_tabIn hC 97 dX5_ticketOf_27 (by rw [c26] <;> decide) (by rw [c26] <;> decide) (by rw [c26] <;> rfl) (by decide) ?_
                refine f_aload_n hC dX5_ticketOf_97 rfl 0 rfl ?_
                refine f_iload_n hC dX5_ticketOf_98 rfl 1 rfl ?_
                refine f_bipush (v := 9) hC dX5_ticketOf_99 (by decide) ?_
                obtain ⟨r27, h28, hF⟩ := fb_open hF
                refine f_callV hC [.int x1, .int 9] (c_X5_of l D cy a0 x1 9 (sI w 500 a0 0 x5) r27 h28) q_1447 q_136 q_1444 q_1446 q_90 h9_X5_of rfl (fSm.k (fSm.rf w) g3) ⟨Nat.le_of_ble_eq_true rfl, Nat.le_of_ble_eq_true rfl⟩ ⟨Nat.le_of_ble_eq_true rfl, Nat.le_of_ble_eq_true rfl⟩ (Nat.le_of_ble_eq_true rfl) rfl dX5_ticketOf_101 (fun e29 => ?_)
                obtain rfl := Option.some.inj hF
                exact f_iret hC hEn (fSm.rf w) dX5_ticketOf_104
              · replace hF := fi_neg hF c26
                by_cases c30 : x2 = 5
                · replace hF := fi_pos hF c30
                  refine f_tabIn hC 105 dX5_ticketOf_27 (by rw [c30] <;> decide) (by rw [c30] <;> decide) (by rw [c30] <;> rfl) (by decide) ?_
                  refine f_aload_n hC dX5_ticketOf_105 rfl 0 rfl ?_
                  refine f_iload_n hC dX5_ticketOf_106 rfl 1 rfl ?_
                  refine f_bipush (v := 10) hC dX5_ticketOf_107 (by decide) ?_
                  obtain ⟨r31, h32, hF⟩ := fb_open hF
                  refine f_callV hC [.int x1, .int 10] (c_X5_of l D cy a0 x1 10 (sI w 500 a0 0 x5) r31 h32) q_1447 q_136 q_1444 q_1446 q_90 h9_X5_of rfl (fSm.k (fSm.rf w) g3) ⟨Nat.le_of_ble_eq_true rfl, Nat.le_of_ble_eq_true rfl⟩ ⟨Nat.le_of_ble_eq_true rfl, Nat.le_of_ble_eq_true rfl⟩ (Nat.le_of_ble_eq_true rfl) rfl dX5_ticketOf_109 (fun e33 => ?_)
                  obtain rfl := Option.some.inj hF
                  exact f_iret hC hEn (fSm.rf w) dX5_ticketOf_112
                · replace hF := fi_neg hF c30
                  by_cases c34 : x2 = 6
                  · replace hF := fi_pos hF c34
                    refine f_tabIn hC 113 dX5_ticketOf_27 (by rw [c34] <;> decide) (by rw [c34] <;> decide) (by rw [c34] <;> rfl) (by decide) ?_
                    refine f_aload_n hC dX5_ticketOf_113 rfl 0 rfl ?_
                    refine f_iload_n hC dX5_ticketOf_114 rfl 1 rfl ?_
                    refine f_bipush (v := 11) hC dX5_ticketOf_115 (by decide) ?_
                    obtain ⟨r35, h36, hF⟩ := fb_open hF
                    refine f_callV hC [.int x1, .int 11] (c_X5_of l D cy a0 x1 11 (sI w 500 a0 0 x5) r35 h36) q_1447 q_136 q_1444 q_1446 q_90 h9_X5_of rfl (fSm.k (fSm.rf w) g3) ⟨Nat.le_of_ble_eq_true rfl, Nat.le_of_ble_eq_true rfl⟩ ⟨Nat.le_of_ble_eq_true rfl, Nat.le_of_ble_eq_true rfl⟩ (Nat.le_of_ble_eq_true rfl) rfl dX5_ticketOf_117 (fun e37 => ?_)
                    obtain rfl := Option.some.inj hF
                    exact f_iret hC hEn (fSm.rf w) dX5_ticketOf_120
                  · replace hF := fi_neg hF c34
                    refine f_tabOut hC 121 dX5_ticketOf_27 (ftab 0 6 (by decide) (by decide) (fun j h1 h2 => ?_)) (by decide) ?_
                    · rcases (show j = 0 ∨ j = 1 ∨ j = 2 ∨ j = 3 ∨ j = 4 ∨ j = 5 ∨ j = 6 by omega) with rfl | rfl | rfl | rfl | rfl | rfl | rfl
                      · exact c10
                      · exact c14
                      · exact c18
                      · exact c22
                      · exact c26
                      · exact c30
                      · exact c34
                    refine f_aload_n hC dX5_ticketOf_121 rfl 0 rfl ?_
                    refine f_iconst (v := 2) hC dX5_ticketOf_122 (by decide) ?_
                    obtain ⟨r38, h39, hF⟩ := fb_open hF
                    refine f_callV hC [.int 2] (c_X5_fails l D cy a0 2 (sI w 500 a0 0 x5) r38 h39) q_1375 q_136 q_1372 q_1374 q_78 h9_X5_fails rfl (fSm.k (fSm.rf w) g3) ⟨Nat.le_of_ble_eq_true rfl, Nat.le_of_ble_eq_true rfl⟩ ⟨Nat.le_of_ble_eq_true rfl, Nat.le_of_ble_eq_true rfl⟩ (Nat.le_of_ble_eq_true rfl) rfl dX5_ticketOf_123 (fun e40 => ?_)
                    obtain rfl := Option.some.inj hF
                    exact f_iret hC hEn (fSm.tr e40 (fSm.rf w)) dX5_ticketOf_126
    · replace hF := fi_neg hF c9
      refine f_iconst (v := 0) hC dX5_ticketOf_24 (by decide) ?_
      obtain rfl := Option.some.inj hF
      exact f_iret hC hEn (fSm.rf w) dX5_ticketOf_25
  refine f_if_eq hC 13 dX5_ticketOf_6 (by decide) (fun c41 => ?_) (fun c41 => ?_)
  · replace h6 := fi_pos h6 c41
    refine f_iconst (v := 1) hC dX5_ticketOf_13 (by decide) ?_
    obtain rfl := Option.some.inj h6
    exact K8
  · replace h6 := fi_neg h6 c41
    refine f_iconst (v := 0) hC dX5_ticketOf_9 (by decide) ?_
    refine f_goto hC 14 dX5_ticketOf_10 (by decide) ?_
    obtain rfl := Option.some.inj h6
    exact K8
theorem dX5_wordAt_0 : decode cX5_wordAt 0 = .ok (.aload_n 0, 1) := by decide +kernel
theorem dX5_wordAt_1 : decode cX5_wordAt 1 = .ok (.aload_n 0, 1) := by decide +kernel
theorem dX5_wordAt_2 : decode cX5_wordAt 2 = .ok (.iload_n 1, 1) := by decide +kernel
theorem dX5_wordAt_3 : decode cX5_wordAt 3 = .ok (.invokevirtual 135, 3) := by decide +kernel
theorem dX5_wordAt_6 : decode cX5_wordAt 6 = .ok (.ifCond .ne 7, 3) := by decide +kernel
theorem dX5_wordAt_9 : decode cX5_wordAt 9 = .ok (.iconst 1, 1) := by decide +kernel
theorem dX5_wordAt_10 : decode cX5_wordAt 10 = .ok (.goto 24, 3) := by decide +kernel
theorem dX5_wordAt_13 : decode cX5_wordAt 13 = .ok (.iload_n 2, 1) := by decide +kernel
theorem dX5_wordAt_14 : decode cX5_wordAt 14 = .ok (.iconst 0, 1) := by decide +kernel
theorem dX5_wordAt_15 : decode cX5_wordAt 15 = .ok (.aload_n 0, 1) := by decide +kernel
theorem dX5_wordAt_16 : decode cX5_wordAt 16 = .ok (.iload_n 1, 1) := by decide +kernel
theorem dX5_wordAt_17 : decode cX5_wordAt 17 = .ok (.iconst 0, 1) := by decide +kernel
theorem dX5_wordAt_18 : decode cX5_wordAt 18 = .ok (.invokevirtual 70, 3) := by decide +kernel
theorem dX5_wordAt_21 : decode cX5_wordAt 21 = .ok (.iconst 1, 1) := by decide +kernel
theorem dX5_wordAt_22 : decode cX5_wordAt 22 = .ok (.isub, 1) := by decide +kernel
theorem dX5_wordAt_23 : decode cX5_wordAt 23 = .ok (.invokestatic 66, 3) := by decide +kernel
theorem dX5_wordAt_26 : decode cX5_wordAt 26 = .ok (.ifCond .eq 7, 3) := by decide +kernel
theorem dX5_wordAt_29 : decode cX5_wordAt 29 = .ok (.iconst 0, 1) := by decide +kernel
theorem dX5_wordAt_30 : decode cX5_wordAt 30 = .ok (.goto 4, 3) := by decide +kernel
theorem dX5_wordAt_33 : decode cX5_wordAt 33 = .ok (.iconst 2, 1) := by decide +kernel
theorem dX5_wordAt_34 : decode cX5_wordAt 34 = .ok (.putfield 41, 3) := by decide +kernel
theorem dX5_wordAt_37 : decode cX5_wordAt 37 = .ok (.aload_n 0, 1) := by decide +kernel
theorem dX5_wordAt_38 : decode cX5_wordAt 38 = .ok (.getfield 41, 3) := by decide +kernel
theorem dX5_wordAt_41 : decode cX5_wordAt 41 = .ok (.ifCond .le 7, 3) := by decide +kernel
theorem dX5_wordAt_44 : decode cX5_wordAt 44 = .ok (.iconst 0, 1) := by decide +kernel
theorem dX5_wordAt_45 : decode cX5_wordAt 45 = .ok (.goto 10, 3) := by decide +kernel
theorem dX5_wordAt_48 : decode cX5_wordAt 48 = .ok (.aload_n 0, 1) := by decide +kernel
theorem dX5_wordAt_49 : decode cX5_wordAt 49 = .ok (.iload_n 1, 1) := by decide +kernel
theorem dX5_wordAt_50 : decode cX5_wordAt 50 = .ok (.iload_n 2, 1) := by decide +kernel
theorem dX5_wordAt_51 : decode cX5_wordAt 51 = .ok (.invokevirtual 89, 3) := by decide +kernel
theorem dX5_wordAt_54 : decode cX5_wordAt 54 = .ok (.i2c, 1) := by decide +kernel
theorem dX5_wordAt_55 : decode cX5_wordAt 55 = .ok (.ireturn, 1) := by decide +kernel
theorem h9_X5_wordAt : yX5_wordAt.cls ≠ "java/lang/invoke/MethodHandle" ∧ yX5_wordAt.cls ≠ "java/lang/invoke/VarHandle" ∧ (parseMethodDescriptor yX5_wordAt.desc).map (fun d => d.parameters.length) = some 2 := by decide +kernel
noncomputable def F_X5_wordAt (a0 : Nat) (x1 : Int32) (x2 : Int32) (w : FW) : Option (Int32 × FW) :=
  fg (w.1 a0 = 6) inferInstance ((F_X5_isTicket a0 x1 w).bind (fun r1 => ((if r1 = 0 then some 1 else (F_X5_of a0 x1 0 w).bind (fun r15 => (F_X5_in x2 0 (r15 - 1) w).bind (fun r18 => (if r18 = 0 then some 2 else some 0)))) : Option (Int32)).bind (fun x5 => (if (gI (sI w 500 a0 0 x5) 500 a0 0) ≤ 0 then (F_X5_letterOf a0 x1 x2 (sI w 500 a0 0 x5)).bind (fun r10 => fg (fch (fch r10) = (fch r10)) inferInstance (some ((fch r10), (sI w 500 a0 0 x5)))) else some (0, (sI w 500 a0 0 x5))))))
set_option maxHeartbeats 4000000 in
set_option maxRecDepth 100000 in
theorem c_X5_wordAt (l : Launch) (D : va_G) (cy : Nat → ClassId) (a0 : Nat) (x1 : Int32) (x2 : Int32) (w : FW) (r : Int32 × FW) (hF : F_X5_wordAt a0 x1 x2 w = some r) : fSpec l D cy yX5_wordAt cX5_wordAt 3 (some .char) { frames := 2, cells := 0, slots := 0, locals := 44 } [.ref a0, .int x1, .int x2] w r.2 (some (.int r.1)) := by
  refine f_begin (by decide +kernel) (Nat.le_of_ble_eq_true rfl) (fun X hC hEn => ?_)
  unfold F_X5_wordAt at hF
  show fAt X 0 0 3 w [(0, .ref a0), (1, .int x1), (2, .int x2)] [] 0
  refine f_aload_n hC dX5_wordAt_0 rfl 0 rfl ?_
  refine f_aload_n hC dX5_wordAt_1 rfl 0 rfl ?_
  refine f_iload_n hC dX5_wordAt_2 rfl 1 rfl ?_
  obtain ⟨g3, hF⟩ := fg_open hF
  obtain ⟨r1, h2, hF⟩ := fb_open hF
  refine f_callV hC [.int x1] (c_X5_isTicket l D cy a0 x1 w r1 h2) q_1415 q_136 q_1412 q_1414 q_85 h9_X5_isTicket rfl (fSm.k (fSm.rf w) g3) ⟨Nat.le_of_ble_eq_true rfl, Nat.le_of_ble_eq_true rfl⟩ ⟨Nat.le_of_ble_eq_true rfl, Nat.le_of_ble_eq_true rfl⟩ (Nat.le_of_ble_eq_true rfl) rfl dX5_wordAt_3 (fun e4 => ?_)
  obtain ⟨x5, h6, hF⟩ := fb_open hF
  have K8 : fAt X 0 0 3 w [(0, .ref a0), (1, .int x1), (2, .int x2)] [.int x5, .ref a0] 34 := by
    refine f_putI hC 5 0 500 rfl (by decide) iX5 tyX5 tyX5_ok nmX5 q_1254 rfl rfl rfl rfl rfl (fSm.k (fSm.rf w) g3) dX5_wordAt_34 ?_
    refine f_aload_n hC dX5_wordAt_37 rfl 0 rfl ?_
    refine f_getI hC 5 0 500 rfl (by decide) iX5 q_1254 rfl rfl (fSm.k (fSm.rf w) g3) dX5_wordAt_38 ?_
    refine f_if_le hC 48 dX5_wordAt_41 (by decide) (fun c9 => ?_) (fun c9 => ?_)
    · replace hF := fi_pos hF c9
      refine f_aload_n hC dX5_wordAt_48 rfl 0 rfl ?_
      refine f_iload_n hC dX5_wordAt_49 rfl 1 rfl ?_
      refine f_iload_n hC dX5_wordAt_50 rfl 2 rfl ?_
      obtain ⟨r10, h11, hF⟩ := fb_open hF
      refine f_callV hC [.int x1, .int x2] (c_X5_letterOf l D cy a0 x1 x2 (sI w 500 a0 0 x5) r10 h11) q_1455 q_136 q_1452 q_1454 q_92 h9_X5_letterOf rfl (fSm.k (fSm.rf w) g3) ⟨Nat.le_of_ble_eq_true rfl, Nat.le_of_ble_eq_true rfl⟩ ⟨Nat.le_of_ble_eq_true rfl, Nat.le_of_ble_eq_true rfl⟩ (Nat.le_of_ble_eq_true rfl) rfl dX5_wordAt_51 (fun e12 => ?_)
      refine f_i2c hC dX5_wordAt_54 ?_
      obtain ⟨g13, hF⟩ := fg_open hF
      obtain rfl := Option.some.inj hF
      exact f_zret hC hEn (fSm.rf w) (nar_c g13) dX5_wordAt_55
    · replace hF := fi_neg hF c9
      refine f_iconst (v := 0) hC dX5_wordAt_44 (by decide) ?_
      refine f_goto hC 55 dX5_wordAt_45 (by decide) ?_
      obtain rfl := Option.some.inj hF
      exact f_zret hC hEn (fSm.rf w) (nar_c (by decide)) dX5_wordAt_55
  refine f_if_ne hC 13 dX5_wordAt_6 (by decide) (fun c14 => ?_) (fun c14 => ?_)
  · replace h6 := fi_neg h6 c14
    refine f_iload_n hC dX5_wordAt_13 rfl 2 rfl ?_
    refine f_iconst (v := 0) hC dX5_wordAt_14 (by decide) ?_
    refine f_aload_n hC dX5_wordAt_15 rfl 0 rfl ?_
    refine f_iload_n hC dX5_wordAt_16 rfl 1 rfl ?_
    refine f_iconst (v := 0) hC dX5_wordAt_17 (by decide) ?_
    obtain ⟨r15, h16, h6⟩ := fb_open h6
    refine f_callV hC [.int x1, .int 0] (c_X5_of l D cy a0 x1 0 w r15 h16) q_1447 q_136 q_1444 q_1446 q_90 h9_X5_of rfl (fSm.k (fSm.rf w) g3) ⟨Nat.le_of_ble_eq_true rfl, Nat.le_of_ble_eq_true rfl⟩ ⟨Nat.le_of_ble_eq_true rfl, Nat.le_of_ble_eq_true rfl⟩ (Nat.le_of_ble_eq_true rfl) rfl dX5_wordAt_18 (fun e17 => ?_)
    refine f_iconst (v := 1) hC dX5_wordAt_21 (by decide) ?_
    refine f_isub hC dX5_wordAt_22 ?_
    obtain ⟨r18, h19, h6⟩ := fb_open h6
    refine f_callS hC [.int x2, .int 0, .int (r15 - 1)] (c_X5_in l D cy x2 0 (r15 - 1) w r18 h19) q_1352 q_136 q_1350 q_1351 h9_X5_in ⟨Nat.le_of_ble_eq_true rfl, Nat.le_of_ble_eq_true rfl⟩ ⟨Nat.le_of_ble_eq_true rfl, Nat.le_of_ble_eq_true rfl⟩ (Nat.le_of_ble_eq_true rfl) rfl dX5_wordAt_23 (fun e20 => ?_)
    refine f_if_eq hC 33 dX5_wordAt_26 (by decide) (fun c21 => ?_) (fun c21 => ?_)
    · replace h6 := fi_pos h6 c21
      refine f_iconst (v := 2) hC dX5_wordAt_33 (by decide) ?_
      obtain rfl := Option.some.inj h6
      exact K8
    · replace h6 := fi_neg h6 c21
      refine f_iconst (v := 0) hC dX5_wordAt_29 (by decide) ?_
      refine f_goto hC 34 dX5_wordAt_30 (by decide) ?_
      obtain rfl := Option.some.inj h6
      exact K8
  · replace h6 := fi_pos h6 c14
    refine f_iconst (v := 1) hC dX5_wordAt_9 (by decide) ?_
    refine f_goto hC 34 dX5_wordAt_10 (by decide) ?_
    obtain rfl := Option.some.inj h6
    exact K8
theorem dX5_number_0 : decode cX5_number 0 = .ok (.iload_n 0, 1) := by decide +kernel
theorem dX5_number_1 : decode cX5_number 1 = .ok (.ifCond .eq 7, 3) := by decide +kernel
theorem dX5_number_4 : decode cX5_number 4 = .ok (.iconst 1, 1) := by decide +kernel
theorem dX5_number_5 : decode cX5_number 5 = .ok (.goto 4, 3) := by decide +kernel
theorem dX5_number_8 : decode cX5_number 8 = .ok (.iconst 0, 1) := by decide +kernel
theorem dX5_number_9 : decode cX5_number 9 = .ok (.ireturn, 1) := by decide +kernel
theorem h9_X5_number : yX5_number.cls ≠ "java/lang/invoke/MethodHandle" ∧ yX5_number.cls ≠ "java/lang/invoke/VarHandle" ∧ (parseMethodDescriptor yX5_number.desc).map (fun d => d.parameters.length) = some 1 := by decide +kernel
noncomputable def F_X5_number (x1 : Int32) (w : FW) : Option (Int32) :=
  (if x1 = 0 then some 0 else some 1)
set_option maxHeartbeats 4000000 in
set_option maxRecDepth 100000 in
theorem c_X5_number (l : Launch) (D : va_G) (cy : Nat → ClassId) (x1 : Int32) (w : FW) (r : Int32) (hF : F_X5_number x1 w = some r) : fSpec l D cy yX5_number cX5_number 1 (some .int) { frames := 0, cells := 0, slots := 0, locals := 0 } [.int x1] w w (some (.int r)) := by
  refine f_begin (by decide +kernel) (Nat.le_of_ble_eq_true rfl) (fun X hC hEn => ?_)
  unfold F_X5_number at hF
  show fAt X 0 0 1 w [(0, .int x1)] [] 0
  refine f_iload_n hC dX5_number_0 rfl 0 rfl ?_
  refine f_if_eq hC 8 dX5_number_1 (by decide) (fun c1 => ?_) (fun c1 => ?_)
  · replace hF := fi_pos hF c1
    refine f_iconst (v := 0) hC dX5_number_8 (by decide) ?_
    obtain rfl := Option.some.inj hF
    exact f_iret hC hEn (fSm.rf w) dX5_number_9
  · replace hF := fi_neg hF c1
    refine f_iconst (v := 1) hC dX5_number_4 (by decide) ?_
    refine f_goto hC 9 dX5_number_5 (by decide) ?_
    obtain rfl := Option.some.inj hF
    exact f_iret hC hEn (fSm.rf w) dX5_number_9
theorem dX5_punch_0 : decode cX5_punch 0 = .ok (.aload_n 0, 1) := by decide +kernel
theorem dX5_punch_1 : decode cX5_punch 1 = .ok (.invokevirtual 166, 3) := by decide +kernel
theorem dX5_punch_4 : decode cX5_punch 4 = .ok (.aload_n 0, 1) := by decide +kernel
theorem dX5_punch_5 : decode cX5_punch 5 = .ok (.aload_n 0, 1) := by decide +kernel
theorem dX5_punch_6 : decode cX5_punch 6 = .ok (.iload_n 1, 1) := by decide +kernel
theorem dX5_punch_7 : decode cX5_punch 7 = .ok (.iload_n 2, 1) := by decide +kernel
theorem dX5_punch_8 : decode cX5_punch 8 = .ok (.invokestatic 194, 3) := by decide +kernel
theorem dX5_punch_11 : decode cX5_punch 11 = .ok (.iload_n 3, 1) := by decide +kernel
theorem dX5_punch_12 : decode cX5_punch 12 = .ok (.invokevirtual 198, 3) := by decide +kernel
theorem dX5_punch_15 : decode cX5_punch 15 = .ok (.iconst 2, 1) := by decide +kernel
theorem dX5_punch_16 : decode cX5_punch 16 = .ok (.invokevirtual 172, 3) := by decide +kernel
theorem dX5_punch_19 : decode cX5_punch 19 = .ok (.ireturn, 1) := by decide +kernel
theorem h9_X5_punch : yX5_punch.cls ≠ "java/lang/invoke/MethodHandle" ∧ yX5_punch.cls ≠ "java/lang/invoke/VarHandle" ∧ (parseMethodDescriptor yX5_punch.desc).map (fun d => d.parameters.length) = some 3 := by decide +kernel
noncomputable def F_X5_punch (a0 : Nat) (x1 : Int32) (x2 : Int32) (x3 : Int32) (w : FW) : Option (Int32 × FW) :=
  fg (w.1 a0 = 6) inferInstance ((F_X5_remembers a0 w).bind (fun r1 => (F_X5_number x2 r1).bind (fun r5 => (F_X5_punches a0 x1 r5 x3 r1).bind (fun r8 => (F_X5_ends a0 r8.1 2 r8.2).bind (fun r11 => some (r11.1, r11.2))))))
set_option maxHeartbeats 4000000 in
set_option maxRecDepth 100000 in
theorem c_X5_punch (l : Launch) (D : va_G) (cy : Nat → ClassId) (a0 : Nat) (x1 : Int32) (x2 : Int32) (x3 : Int32) (w : FW) (r : Int32 × FW) (hF : F_X5_punch a0 x1 x2 x3 w = some r) : fSpec l D cy yX5_punch cX5_punch 4 (some .int) { frames := 6, cells := 0, slots := 0, locals := 139 } [.ref a0, .int x1, .int x2, .int x3] w r.2 (some (.int r.1)) := by
  refine f_begin (by decide +kernel) (Nat.le_of_ble_eq_true rfl) (fun X hC hEn => ?_)
  unfold F_X5_punch at hF
  show fAt X 0 0 4 w [(0, .ref a0), (1, .int x1), (2, .int x2), (3, .int x3)] [] 0
  refine f_aload_n hC dX5_punch_0 rfl 0 rfl ?_
  obtain ⟨g3, hF⟩ := fg_open hF
  obtain ⟨r1, h2, hF⟩ := fb_open hF
  refine f_callV hC [] (c_X5_remembers l D cy a0 w r1 h2) q_1339 q_136 q_1336 q_1338 q_72 h9_X5_remembers rfl (fSm.k (fSm.rf w) g3) ⟨Nat.le_of_ble_eq_true rfl, Nat.le_of_ble_eq_true rfl⟩ ⟨Nat.le_of_ble_eq_true rfl, Nat.le_of_ble_eq_true rfl⟩ (Nat.le_of_ble_eq_true rfl) rfl dX5_punch_1 (fun e4 => ?_)
  refine f_aload_n hC dX5_punch_4 rfl 0 rfl ?_
  refine f_aload_n hC dX5_punch_5 rfl 0 rfl ?_
  refine f_iload_n hC dX5_punch_6 rfl 1 rfl ?_
  refine f_iload_n hC dX5_punch_7 rfl 2 rfl ?_
  obtain ⟨r5, h6, hF⟩ := fb_open hF
  refine f_callS hC [.int x2] (c_X5_number l D cy x2 r1 r5 h6) q_1466 q_136 q_1464 q_1465 h9_X5_number ⟨Nat.le_of_ble_eq_true rfl, Nat.le_of_ble_eq_true rfl⟩ ⟨Nat.le_of_ble_eq_true rfl, Nat.le_of_ble_eq_true rfl⟩ (Nat.le_of_ble_eq_true rfl) rfl dX5_punch_8 (fun e7 => ?_)
  refine f_iload_n hC dX5_punch_11 rfl 3 rfl ?_
  obtain ⟨r8, h9, hF⟩ := fb_open hF
  refine f_callV hC [.int x1, .int r5, .int x3] (c_X5_punches l D cy a0 x1 r5 x3 r1 r8 h9) q_1470 q_136 q_1467 q_1469 q_93 h9_X5_punches rfl (fSm.k (fSm.tr e4 (fSm.rf w)) g3) ⟨Nat.le_of_ble_eq_true rfl, Nat.le_of_ble_eq_true rfl⟩ ⟨Nat.le_of_ble_eq_true rfl, Nat.le_of_ble_eq_true rfl⟩ (Nat.le_of_ble_eq_true rfl) rfl dX5_punch_12 (fun e10 => ?_)
  refine f_iconst (v := 2) hC dX5_punch_15 (by decide) ?_
  obtain ⟨r11, h12, hF⟩ := fb_open hF
  refine f_callV hC [.int r8.1, .int 2] (c_X5_ends l D cy a0 r8.1 2 r8.2 r11 h12) q_1367 q_136 q_1364 q_1366 q_76 h9_X5_ends rfl (fSm.k (fSm.tr e10 (fSm.tr e4 (fSm.rf w))) g3) ⟨Nat.le_of_ble_eq_true rfl, Nat.le_of_ble_eq_true rfl⟩ ⟨Nat.le_of_ble_eq_true rfl, Nat.le_of_ble_eq_true rfl⟩ (Nat.le_of_ble_eq_true rfl) rfl dX5_punch_16 (fun e13 => ?_)
  obtain rfl := Option.some.inj hF
  exact f_iret hC hEn (fSm.tr e13 (fSm.tr e10 (fSm.tr e4 (fSm.rf w)))) dX5_punch_19
theorem dX5_wet_0 : decode cX5_wet 0 = .ok (.aload_n 0, 1) := by decide +kernel
theorem dX5_wet_1 : decode cX5_wet 1 = .ok (.invokevirtual 166, 3) := by decide +kernel
theorem dX5_wet_4 : decode cX5_wet 4 = .ok (.aload_n 0, 1) := by decide +kernel
theorem dX5_wet_5 : decode cX5_wet 5 = .ok (.aload_n 0, 1) := by decide +kernel
theorem dX5_wet_6 : decode cX5_wet 6 = .ok (.iload_n 1, 1) := by decide +kernel
theorem dX5_wet_7 : decode cX5_wet 7 = .ok (.iload_n 2, 1) := by decide +kernel
theorem dX5_wet_8 : decode cX5_wet 8 = .ok (.invokestatic 194, 3) := by decide +kernel
theorem dX5_wet_11 : decode cX5_wet 11 = .ok (.iload_n 3, 1) := by decide +kernel
theorem dX5_wet_12 : decode cX5_wet 12 = .ok (.invokevirtual 201, 3) := by decide +kernel
theorem dX5_wet_15 : decode cX5_wet 15 = .ok (.iconst 3, 1) := by decide +kernel
theorem dX5_wet_16 : decode cX5_wet 16 = .ok (.invokevirtual 172, 3) := by decide +kernel
theorem dX5_wet_19 : decode cX5_wet 19 = .ok (.ireturn, 1) := by decide +kernel
theorem h9_X5_wet : yX5_wet.cls ≠ "java/lang/invoke/MethodHandle" ∧ yX5_wet.cls ≠ "java/lang/invoke/VarHandle" ∧ (parseMethodDescriptor yX5_wet.desc).map (fun d => d.parameters.length) = some 3 := by decide +kernel
noncomputable def F_X5_wet (a0 : Nat) (x1 : Int32) (x2 : Int32) (x3 : Int32) (w : FW) : Option (Int32 × FW) :=
  fg (w.1 a0 = 6) inferInstance ((F_X5_remembers a0 w).bind (fun r1 => (F_X5_number x2 r1).bind (fun r5 => (F_X5_makesWet a0 x1 r5 x3 r1).bind (fun r8 => (F_X5_ends a0 r8.1 3 r8.2).bind (fun r11 => some (r11.1, r11.2))))))
set_option maxHeartbeats 4000000 in
set_option maxRecDepth 100000 in
theorem c_X5_wet (l : Launch) (D : va_G) (cy : Nat → ClassId) (a0 : Nat) (x1 : Int32) (x2 : Int32) (x3 : Int32) (w : FW) (r : Int32 × FW) (hF : F_X5_wet a0 x1 x2 x3 w = some r) : fSpec l D cy yX5_wet cX5_wet 4 (some .int) { frames := 4, cells := 0, slots := 0, locals := 94 } [.ref a0, .int x1, .int x2, .int x3] w r.2 (some (.int r.1)) := by
  refine f_begin (by decide +kernel) (Nat.le_of_ble_eq_true rfl) (fun X hC hEn => ?_)
  unfold F_X5_wet at hF
  show fAt X 0 0 4 w [(0, .ref a0), (1, .int x1), (2, .int x2), (3, .int x3)] [] 0
  refine f_aload_n hC dX5_wet_0 rfl 0 rfl ?_
  obtain ⟨g3, hF⟩ := fg_open hF
  obtain ⟨r1, h2, hF⟩ := fb_open hF
  refine f_callV hC [] (c_X5_remembers l D cy a0 w r1 h2) q_1339 q_136 q_1336 q_1338 q_72 h9_X5_remembers rfl (fSm.k (fSm.rf w) g3) ⟨Nat.le_of_ble_eq_true rfl, Nat.le_of_ble_eq_true rfl⟩ ⟨Nat.le_of_ble_eq_true rfl, Nat.le_of_ble_eq_true rfl⟩ (Nat.le_of_ble_eq_true rfl) rfl dX5_wet_1 (fun e4 => ?_)
  refine f_aload_n hC dX5_wet_4 rfl 0 rfl ?_
  refine f_aload_n hC dX5_wet_5 rfl 0 rfl ?_
  refine f_iload_n hC dX5_wet_6 rfl 1 rfl ?_
  refine f_iload_n hC dX5_wet_7 rfl 2 rfl ?_
  obtain ⟨r5, h6, hF⟩ := fb_open hF
  refine f_callS hC [.int x2] (c_X5_number l D cy x2 r1 r5 h6) q_1466 q_136 q_1464 q_1465 h9_X5_number ⟨Nat.le_of_ble_eq_true rfl, Nat.le_of_ble_eq_true rfl⟩ ⟨Nat.le_of_ble_eq_true rfl, Nat.le_of_ble_eq_true rfl⟩ (Nat.le_of_ble_eq_true rfl) rfl dX5_wet_8 (fun e7 => ?_)
  refine f_iload_n hC dX5_wet_11 rfl 3 rfl ?_
  obtain ⟨r8, h9, hF⟩ := fb_open hF
  refine f_callV hC [.int x1, .int r5, .int x3] (c_X5_makesWet l D cy a0 x1 r5 x3 r1 r8 h9) q_1497 q_136 q_1494 q_1496 q_98 h9_X5_makesWet rfl (fSm.k (fSm.tr e4 (fSm.rf w)) g3) ⟨Nat.le_of_ble_eq_true rfl, Nat.le_of_ble_eq_true rfl⟩ ⟨Nat.le_of_ble_eq_true rfl, Nat.le_of_ble_eq_true rfl⟩ (Nat.le_of_ble_eq_true rfl) rfl dX5_wet_12 (fun e10 => ?_)
  refine f_iconst (v := 3) hC dX5_wet_15 (by decide) ?_
  obtain ⟨r11, h12, hF⟩ := fb_open hF
  refine f_callV hC [.int r8.1, .int 3] (c_X5_ends l D cy a0 r8.1 3 r8.2 r11 h12) q_1367 q_136 q_1364 q_1366 q_76 h9_X5_ends rfl (fSm.k (fSm.tr e10 (fSm.tr e4 (fSm.rf w))) g3) ⟨Nat.le_of_ble_eq_true rfl, Nat.le_of_ble_eq_true rfl⟩ ⟨Nat.le_of_ble_eq_true rfl, Nat.le_of_ble_eq_true rfl⟩ (Nat.le_of_ble_eq_true rfl) rfl dX5_wet_16 (fun e13 => ?_)
  obtain rfl := Option.some.inj hF
  exact f_iret hC hEn (fSm.tr e13 (fSm.tr e10 (fSm.tr e4 (fSm.rf w)))) dX5_wet_19
theorem dX5_tear_0 : decode cX5_tear 0 = .ok (.aload_n 0, 1) := by decide +kernel
theorem dX5_tear_1 : decode cX5_tear 1 = .ok (.invokevirtual 166, 3) := by decide +kernel
theorem dX5_tear_4 : decode cX5_tear 4 = .ok (.aload_n 0, 1) := by decide +kernel
theorem dX5_tear_5 : decode cX5_tear 5 = .ok (.aload_n 0, 1) := by decide +kernel
theorem dX5_tear_6 : decode cX5_tear 6 = .ok (.iload_n 1, 1) := by decide +kernel
theorem dX5_tear_7 : decode cX5_tear 7 = .ok (.invokevirtual 204, 3) := by decide +kernel
theorem dX5_tear_10 : decode cX5_tear 10 = .ok (.iconst 2, 1) := by decide +kernel
theorem dX5_tear_11 : decode cX5_tear 11 = .ok (.invokevirtual 172, 3) := by decide +kernel
theorem dX5_tear_14 : decode cX5_tear 14 = .ok (.ireturn, 1) := by decide +kernel
theorem h9_X5_tear : yX5_tear.cls ≠ "java/lang/invoke/MethodHandle" ∧ yX5_tear.cls ≠ "java/lang/invoke/VarHandle" ∧ (parseMethodDescriptor yX5_tear.desc).map (fun d => d.parameters.length) = some 1 := by decide +kernel
noncomputable def F_X5_tear (a0 : Nat) (x1 : Int32) (w : FW) : Option (Int32 × FW) :=
  fg (w.1 a0 = 6) inferInstance ((F_X5_remembers a0 w).bind (fun r1 => (F_X5_tears a0 x1 r1).bind (fun r5 => (F_X5_ends a0 r5.1 2 r5.2).bind (fun r8 => some (r8.1, r8.2)))))
set_option maxHeartbeats 4000000 in
set_option maxRecDepth 100000 in
theorem c_X5_tear (l : Launch) (D : va_G) (cy : Nat → ClassId) (a0 : Nat) (x1 : Int32) (w : FW) (r : Int32 × FW) (hF : F_X5_tear a0 x1 w = some r) : fSpec l D cy yX5_tear cX5_tear 2 (some .int) { frames := 3, cells := 0, slots := 0, locals := 65 } [.ref a0, .int x1] w r.2 (some (.int r.1)) := by
  refine f_begin (by decide +kernel) (Nat.le_of_ble_eq_true rfl) (fun X hC hEn => ?_)
  unfold F_X5_tear at hF
  show fAt X 0 0 2 w [(0, .ref a0), (1, .int x1)] [] 0
  refine f_aload_n hC dX5_tear_0 rfl 0 rfl ?_
  obtain ⟨g3, hF⟩ := fg_open hF
  obtain ⟨r1, h2, hF⟩ := fb_open hF
  refine f_callV hC [] (c_X5_remembers l D cy a0 w r1 h2) q_1339 q_136 q_1336 q_1338 q_72 h9_X5_remembers rfl (fSm.k (fSm.rf w) g3) ⟨Nat.le_of_ble_eq_true rfl, Nat.le_of_ble_eq_true rfl⟩ ⟨Nat.le_of_ble_eq_true rfl, Nat.le_of_ble_eq_true rfl⟩ (Nat.le_of_ble_eq_true rfl) rfl dX5_tear_1 (fun e4 => ?_)
  refine f_aload_n hC dX5_tear_4 rfl 0 rfl ?_
  refine f_aload_n hC dX5_tear_5 rfl 0 rfl ?_
  refine f_iload_n hC dX5_tear_6 rfl 1 rfl ?_
  obtain ⟨r5, h6, hF⟩ := fb_open hF
  refine f_callV hC [.int x1] (c_X5_tears l D cy a0 x1 r1 r5 h6) q_1509 q_136 q_1506 q_1508 q_100 h9_X5_tears rfl (fSm.k (fSm.tr e4 (fSm.rf w)) g3) ⟨Nat.le_of_ble_eq_true rfl, Nat.le_of_ble_eq_true rfl⟩ ⟨Nat.le_of_ble_eq_true rfl, Nat.le_of_ble_eq_true rfl⟩ (Nat.le_of_ble_eq_true rfl) rfl dX5_tear_7 (fun e7 => ?_)
  refine f_iconst (v := 2) hC dX5_tear_10 (by decide) ?_
  obtain ⟨r8, h9, hF⟩ := fb_open hF
  refine f_callV hC [.int r5.1, .int 2] (c_X5_ends l D cy a0 r5.1 2 r5.2 r8 h9) q_1367 q_136 q_1364 q_1366 q_76 h9_X5_ends rfl (fSm.k (fSm.tr e7 (fSm.tr e4 (fSm.rf w))) g3) ⟨Nat.le_of_ble_eq_true rfl, Nat.le_of_ble_eq_true rfl⟩ ⟨Nat.le_of_ble_eq_true rfl, Nat.le_of_ble_eq_true rfl⟩ (Nat.le_of_ble_eq_true rfl) rfl dX5_tear_11 (fun e10 => ?_)
  obtain rfl := Option.some.inj hF
  exact f_iret hC hEn (fSm.tr e10 (fSm.tr e7 (fSm.tr e4 (fSm.rf w)))) dX5_tear_14
theorem dX5_lose_0 : decode cX5_lose 0 = .ok (.aload_n 0, 1) := by decide +kernel
theorem dX5_lose_1 : decode cX5_lose 1 = .ok (.invokevirtual 166, 3) := by decide +kernel
theorem dX5_lose_4 : decode cX5_lose 4 = .ok (.aload_n 0, 1) := by decide +kernel
theorem dX5_lose_5 : decode cX5_lose 5 = .ok (.aload_n 0, 1) := by decide +kernel
theorem dX5_lose_6 : decode cX5_lose 6 = .ok (.iload_n 1, 1) := by decide +kernel
theorem dX5_lose_7 : decode cX5_lose 7 = .ok (.iload_n 2, 1) := by decide +kernel
theorem dX5_lose_8 : decode cX5_lose 8 = .ok (.invokestatic 194, 3) := by decide +kernel
theorem dX5_lose_11 : decode cX5_lose 11 = .ok (.iconst 1, 1) := by decide +kernel
theorem dX5_lose_12 : decode cX5_lose 12 = .ok (.invokevirtual 207, 3) := by decide +kernel
theorem dX5_lose_15 : decode cX5_lose 15 = .ok (.iconst 2, 1) := by decide +kernel
theorem dX5_lose_16 : decode cX5_lose 16 = .ok (.invokevirtual 172, 3) := by decide +kernel
theorem dX5_lose_19 : decode cX5_lose 19 = .ok (.ireturn, 1) := by decide +kernel
theorem h9_X5_lose : yX5_lose.cls ≠ "java/lang/invoke/MethodHandle" ∧ yX5_lose.cls ≠ "java/lang/invoke/VarHandle" ∧ (parseMethodDescriptor yX5_lose.desc).map (fun d => d.parameters.length) = some 2 := by decide +kernel
noncomputable def F_X5_lose (a0 : Nat) (x1 : Int32) (x2 : Int32) (w : FW) : Option (Int32 × FW) :=
  fg (w.1 a0 = 6) inferInstance ((F_X5_remembers a0 w).bind (fun r1 => (F_X5_number x2 r1).bind (fun r5 => (F_X5_goes a0 x1 r5 1 r1).bind (fun r8 => (F_X5_ends a0 r8.1 2 r8.2).bind (fun r11 => some (r11.1, r11.2))))))
set_option maxHeartbeats 4000000 in
set_option maxRecDepth 100000 in
theorem c_X5_lose (l : Launch) (D : va_G) (cy : Nat → ClassId) (a0 : Nat) (x1 : Int32) (x2 : Int32) (w : FW) (r : Int32 × FW) (hF : F_X5_lose a0 x1 x2 w = some r) : fSpec l D cy yX5_lose cX5_lose 3 (some .int) { frames := 4, cells := 0, slots := 0, locals := 90 } [.ref a0, .int x1, .int x2] w r.2 (some (.int r.1)) := by
  refine f_begin (by decide +kernel) (Nat.le_of_ble_eq_true rfl) (fun X hC hEn => ?_)
  unfold F_X5_lose at hF
  show fAt X 0 0 3 w [(0, .ref a0), (1, .int x1), (2, .int x2)] [] 0
  refine f_aload_n hC dX5_lose_0 rfl 0 rfl ?_
  obtain ⟨g3, hF⟩ := fg_open hF
  obtain ⟨r1, h2, hF⟩ := fb_open hF
  refine f_callV hC [] (c_X5_remembers l D cy a0 w r1 h2) q_1339 q_136 q_1336 q_1338 q_72 h9_X5_remembers rfl (fSm.k (fSm.rf w) g3) ⟨Nat.le_of_ble_eq_true rfl, Nat.le_of_ble_eq_true rfl⟩ ⟨Nat.le_of_ble_eq_true rfl, Nat.le_of_ble_eq_true rfl⟩ (Nat.le_of_ble_eq_true rfl) rfl dX5_lose_1 (fun e4 => ?_)
  refine f_aload_n hC dX5_lose_4 rfl 0 rfl ?_
  refine f_aload_n hC dX5_lose_5 rfl 0 rfl ?_
  refine f_iload_n hC dX5_lose_6 rfl 1 rfl ?_
  refine f_iload_n hC dX5_lose_7 rfl 2 rfl ?_
  obtain ⟨r5, h6, hF⟩ := fb_open hF
  refine f_callS hC [.int x2] (c_X5_number l D cy x2 r1 r5 h6) q_1466 q_136 q_1464 q_1465 h9_X5_number ⟨Nat.le_of_ble_eq_true rfl, Nat.le_of_ble_eq_true rfl⟩ ⟨Nat.le_of_ble_eq_true rfl, Nat.le_of_ble_eq_true rfl⟩ (Nat.le_of_ble_eq_true rfl) rfl dX5_lose_8 (fun e7 => ?_)
  refine f_iconst (v := 1) hC dX5_lose_11 (by decide) ?_
  obtain ⟨r8, h9, hF⟩ := fb_open hF
  refine f_callV hC [.int x1, .int r5, .int 1] (c_X5_goes l D cy a0 x1 r5 1 r1 r8 h9) q_1521 q_136 q_1518 q_1520 q_102 h9_X5_goes rfl (fSm.k (fSm.tr e4 (fSm.rf w)) g3) ⟨Nat.le_of_ble_eq_true rfl, Nat.le_of_ble_eq_true rfl⟩ ⟨Nat.le_of_ble_eq_true rfl, Nat.le_of_ble_eq_true rfl⟩ (Nat.le_of_ble_eq_true rfl) rfl dX5_lose_12 (fun e10 => ?_)
  refine f_iconst (v := 2) hC dX5_lose_15 (by decide) ?_
  obtain ⟨r11, h12, hF⟩ := fb_open hF
  refine f_callV hC [.int r8.1, .int 2] (c_X5_ends l D cy a0 r8.1 2 r8.2 r11 h12) q_1367 q_136 q_1364 q_1366 q_76 h9_X5_ends rfl (fSm.k (fSm.tr e10 (fSm.tr e4 (fSm.rf w))) g3) ⟨Nat.le_of_ble_eq_true rfl, Nat.le_of_ble_eq_true rfl⟩ ⟨Nat.le_of_ble_eq_true rfl, Nat.le_of_ble_eq_true rfl⟩ (Nat.le_of_ble_eq_true rfl) rfl dX5_lose_16 (fun e13 => ?_)
  obtain rfl := Option.some.inj hF
  exact f_iret hC hEn (fSm.tr e13 (fSm.tr e10 (fSm.tr e4 (fSm.rf w)))) dX5_lose_19
theorem dX5_find_0 : decode cX5_find 0 = .ok (.aload_n 0, 1) := by decide +kernel
theorem dX5_find_1 : decode cX5_find 1 = .ok (.invokevirtual 166, 3) := by decide +kernel
theorem dX5_find_4 : decode cX5_find 4 = .ok (.aload_n 0, 1) := by decide +kernel
theorem dX5_find_5 : decode cX5_find 5 = .ok (.aload_n 0, 1) := by decide +kernel
theorem dX5_find_6 : decode cX5_find 6 = .ok (.iload_n 1, 1) := by decide +kernel
theorem dX5_find_7 : decode cX5_find 7 = .ok (.iload_n 2, 1) := by decide +kernel
theorem dX5_find_8 : decode cX5_find 8 = .ok (.invokestatic 194, 3) := by decide +kernel
theorem dX5_find_11 : decode cX5_find 11 = .ok (.iconst 0, 1) := by decide +kernel
theorem dX5_find_12 : decode cX5_find 12 = .ok (.invokevirtual 207, 3) := by decide +kernel
theorem dX5_find_15 : decode cX5_find 15 = .ok (.iconst 2, 1) := by decide +kernel
theorem dX5_find_16 : decode cX5_find 16 = .ok (.invokevirtual 172, 3) := by decide +kernel
theorem dX5_find_19 : decode cX5_find 19 = .ok (.ireturn, 1) := by decide +kernel
theorem h9_X5_find : yX5_find.cls ≠ "java/lang/invoke/MethodHandle" ∧ yX5_find.cls ≠ "java/lang/invoke/VarHandle" ∧ (parseMethodDescriptor yX5_find.desc).map (fun d => d.parameters.length) = some 2 := by decide +kernel
noncomputable def F_X5_find (a0 : Nat) (x1 : Int32) (x2 : Int32) (w : FW) : Option (Int32 × FW) :=
  fg (w.1 a0 = 6) inferInstance ((F_X5_remembers a0 w).bind (fun r1 => (F_X5_number x2 r1).bind (fun r5 => (F_X5_goes a0 x1 r5 0 r1).bind (fun r8 => (F_X5_ends a0 r8.1 2 r8.2).bind (fun r11 => some (r11.1, r11.2))))))
set_option maxHeartbeats 4000000 in
set_option maxRecDepth 100000 in
theorem c_X5_find (l : Launch) (D : va_G) (cy : Nat → ClassId) (a0 : Nat) (x1 : Int32) (x2 : Int32) (w : FW) (r : Int32 × FW) (hF : F_X5_find a0 x1 x2 w = some r) : fSpec l D cy yX5_find cX5_find 3 (some .int) { frames := 4, cells := 0, slots := 0, locals := 90 } [.ref a0, .int x1, .int x2] w r.2 (some (.int r.1)) := by
  refine f_begin (by decide +kernel) (Nat.le_of_ble_eq_true rfl) (fun X hC hEn => ?_)
  unfold F_X5_find at hF
  show fAt X 0 0 3 w [(0, .ref a0), (1, .int x1), (2, .int x2)] [] 0
  refine f_aload_n hC dX5_find_0 rfl 0 rfl ?_
  obtain ⟨g3, hF⟩ := fg_open hF
  obtain ⟨r1, h2, hF⟩ := fb_open hF
  refine f_callV hC [] (c_X5_remembers l D cy a0 w r1 h2) q_1339 q_136 q_1336 q_1338 q_72 h9_X5_remembers rfl (fSm.k (fSm.rf w) g3) ⟨Nat.le_of_ble_eq_true rfl, Nat.le_of_ble_eq_true rfl⟩ ⟨Nat.le_of_ble_eq_true rfl, Nat.le_of_ble_eq_true rfl⟩ (Nat.le_of_ble_eq_true rfl) rfl dX5_find_1 (fun e4 => ?_)
  refine f_aload_n hC dX5_find_4 rfl 0 rfl ?_
  refine f_aload_n hC dX5_find_5 rfl 0 rfl ?_
  refine f_iload_n hC dX5_find_6 rfl 1 rfl ?_
  refine f_iload_n hC dX5_find_7 rfl 2 rfl ?_
  obtain ⟨r5, h6, hF⟩ := fb_open hF
  refine f_callS hC [.int x2] (c_X5_number l D cy x2 r1 r5 h6) q_1466 q_136 q_1464 q_1465 h9_X5_number ⟨Nat.le_of_ble_eq_true rfl, Nat.le_of_ble_eq_true rfl⟩ ⟨Nat.le_of_ble_eq_true rfl, Nat.le_of_ble_eq_true rfl⟩ (Nat.le_of_ble_eq_true rfl) rfl dX5_find_8 (fun e7 => ?_)
  refine f_iconst (v := 0) hC dX5_find_11 (by decide) ?_
  obtain ⟨r8, h9, hF⟩ := fb_open hF
  refine f_callV hC [.int x1, .int r5, .int 0] (c_X5_goes l D cy a0 x1 r5 0 r1 r8 h9) q_1521 q_136 q_1518 q_1520 q_102 h9_X5_goes rfl (fSm.k (fSm.tr e4 (fSm.rf w)) g3) ⟨Nat.le_of_ble_eq_true rfl, Nat.le_of_ble_eq_true rfl⟩ ⟨Nat.le_of_ble_eq_true rfl, Nat.le_of_ble_eq_true rfl⟩ (Nat.le_of_ble_eq_true rfl) rfl dX5_find_12 (fun e10 => ?_)
  refine f_iconst (v := 2) hC dX5_find_15 (by decide) ?_
  obtain ⟨r11, h12, hF⟩ := fb_open hF
  refine f_callV hC [.int r8.1, .int 2] (c_X5_ends l D cy a0 r8.1 2 r8.2 r11 h12) q_1367 q_136 q_1364 q_1366 q_76 h9_X5_ends rfl (fSm.k (fSm.tr e10 (fSm.tr e4 (fSm.rf w))) g3) ⟨Nat.le_of_ble_eq_true rfl, Nat.le_of_ble_eq_true rfl⟩ ⟨Nat.le_of_ble_eq_true rfl, Nat.le_of_ble_eq_true rfl⟩ (Nat.le_of_ble_eq_true rfl) rfl dX5_find_16 (fun e13 => ?_)
  obtain rfl := Option.some.inj hF
  exact f_iret hC hEn (fSm.tr e13 (fSm.tr e10 (fSm.tr e4 (fSm.rf w)))) dX5_find_19
theorem dX5_halfOf_0 : decode cX5_halfOf 0 = .ok (.aload_n 0, 1) := by decide +kernel
theorem dX5_halfOf_1 : decode cX5_halfOf 1 = .ok (.aload_n 0, 1) := by decide +kernel
theorem dX5_halfOf_2 : decode cX5_halfOf 2 = .ok (.iload_n 1, 1) := by decide +kernel
theorem dX5_halfOf_3 : decode cX5_halfOf 3 = .ok (.invokevirtual 135, 3) := by decide +kernel
theorem dX5_halfOf_6 : decode cX5_halfOf 6 = .ok (.ifCond .eq 7, 3) := by decide +kernel
theorem dX5_halfOf_9 : decode cX5_halfOf 9 = .ok (.iconst 0, 1) := by decide +kernel
theorem dX5_halfOf_10 : decode cX5_halfOf 10 = .ok (.goto 4, 3) := by decide +kernel
theorem dX5_halfOf_13 : decode cX5_halfOf 13 = .ok (.iconst 1, 1) := by decide +kernel
theorem dX5_halfOf_14 : decode cX5_halfOf 14 = .ok (.putfield 41, 3) := by decide +kernel
theorem dX5_halfOf_17 : decode cX5_halfOf 17 = .ok (.aload_n 0, 1) := by decide +kernel
theorem dX5_halfOf_18 : decode cX5_halfOf 18 = .ok (.getfield 41, 3) := by decide +kernel
theorem dX5_halfOf_21 : decode cX5_halfOf 21 = .ok (.ifCond .le 5, 3) := by decide +kernel
theorem dX5_halfOf_24 : decode cX5_halfOf 24 = .ok (.iconst 0, 1) := by decide +kernel
theorem dX5_halfOf_25 : decode cX5_halfOf 25 = .ok (.ireturn, 1) := by decide +kernel
theorem dX5_halfOf_26 : decode cX5_halfOf 26 = .ok (.iload_n 2, 1) := by decide +kernel
theorem dX5_halfOf_27 : decode cX5_halfOf 27 = .ok (.invokestatic 194, 3) := by decide +kernel
theorem dX5_halfOf_30 : decode cX5_halfOf 30 = .ok (.istore 4, 2) := by decide +kernel
theorem dX5_halfOf_32 : decode cX5_halfOf 32 = .ok (.iload_n 3, 1) := by decide +kernel
theorem dX5_halfOf_33 : decode cX5_halfOf 33 = .ok (.tableswitch 148 0 7 #[47, 58, 67, 76, 84, 92, 101, 110], 47) := by decide +kernel
theorem dX5_halfOf_80 : decode cX5_halfOf 80 = .ok (.aload_n 0, 1) := by decide +kernel
theorem dX5_halfOf_81 : decode cX5_halfOf 81 = .ok (.iload_n 1, 1) := by decide +kernel
theorem dX5_halfOf_82 : decode cX5_halfOf 82 = .ok (.iload 4, 2) := by decide +kernel
theorem dX5_halfOf_84 : decode cX5_halfOf 84 = .ok (.invokevirtual 92, 3) := by decide +kernel
theorem dX5_halfOf_87 : decode cX5_halfOf 87 = .ok (.invokestatic 194, 3) := by decide +kernel
theorem dX5_halfOf_90 : decode cX5_halfOf 90 = .ok (.ireturn, 1) := by decide +kernel
theorem dX5_halfOf_91 : decode cX5_halfOf 91 = .ok (.aload_n 0, 1) := by decide +kernel
theorem dX5_halfOf_92 : decode cX5_halfOf 92 = .ok (.iload_n 1, 1) := by decide +kernel
theorem dX5_halfOf_93 : decode cX5_halfOf 93 = .ok (.iload 4, 2) := by decide +kernel
theorem dX5_halfOf_95 : decode cX5_halfOf 95 = .ok (.iconst 0, 1) := by decide +kernel
theorem dX5_halfOf_96 : decode cX5_halfOf 96 = .ok (.invokevirtual 78, 3) := by decide +kernel
theorem dX5_halfOf_99 : decode cX5_halfOf 99 = .ok (.ireturn, 1) := by decide +kernel
theorem dX5_halfOf_100 : decode cX5_halfOf 100 = .ok (.aload_n 0, 1) := by decide +kernel
theorem dX5_halfOf_101 : decode cX5_halfOf 101 = .ok (.iload_n 1, 1) := by decide +kernel
theorem dX5_halfOf_102 : decode cX5_halfOf 102 = .ok (.iload 4, 2) := by decide +kernel
theorem dX5_halfOf_104 : decode cX5_halfOf 104 = .ok (.iconst 1, 1) := by decide +kernel
theorem dX5_halfOf_105 : decode cX5_halfOf 105 = .ok (.invokevirtual 78, 3) := by decide +kernel
theorem dX5_halfOf_108 : decode cX5_halfOf 108 = .ok (.ireturn, 1) := by decide +kernel
theorem dX5_halfOf_109 : decode cX5_halfOf 109 = .ok (.aload_n 0, 1) := by decide +kernel
theorem dX5_halfOf_110 : decode cX5_halfOf 110 = .ok (.iload_n 1, 1) := by decide +kernel
theorem dX5_halfOf_111 : decode cX5_halfOf 111 = .ok (.iload 4, 2) := by decide +kernel
theorem dX5_halfOf_113 : decode cX5_halfOf 113 = .ok (.invokevirtual 145, 3) := by decide +kernel
theorem dX5_halfOf_116 : decode cX5_halfOf 116 = .ok (.ireturn, 1) := by decide +kernel
theorem dX5_halfOf_117 : decode cX5_halfOf 117 = .ok (.aload_n 0, 1) := by decide +kernel
theorem dX5_halfOf_118 : decode cX5_halfOf 118 = .ok (.iload_n 1, 1) := by decide +kernel
theorem dX5_halfOf_119 : decode cX5_halfOf 119 = .ok (.iload 4, 2) := by decide +kernel
theorem dX5_halfOf_121 : decode cX5_halfOf 121 = .ok (.invokevirtual 210, 3) := by decide +kernel
theorem dX5_halfOf_124 : decode cX5_halfOf 124 = .ok (.ireturn, 1) := by decide +kernel
theorem dX5_halfOf_125 : decode cX5_halfOf 125 = .ok (.aload_n 0, 1) := by decide +kernel
theorem dX5_halfOf_126 : decode cX5_halfOf 126 = .ok (.iload_n 1, 1) := by decide +kernel
theorem dX5_halfOf_127 : decode cX5_halfOf 127 = .ok (.iload 4, 2) := by decide +kernel
theorem dX5_halfOf_129 : decode cX5_halfOf 129 = .ok (.iconst 2, 1) := by decide +kernel
theorem dX5_halfOf_130 : decode cX5_halfOf 130 = .ok (.invokevirtual 78, 3) := by decide +kernel
theorem dX5_halfOf_133 : decode cX5_halfOf 133 = .ok (.ireturn, 1) := by decide +kernel
theorem dX5_halfOf_134 : decode cX5_halfOf 134 = .ok (.aload_n 0, 1) := by decide +kernel
theorem dX5_halfOf_135 : decode cX5_halfOf 135 = .ok (.iload_n 1, 1) := by decide +kernel
theorem dX5_halfOf_136 : decode cX5_halfOf 136 = .ok (.iload 4, 2) := by decide +kernel
theorem dX5_halfOf_138 : decode cX5_halfOf 138 = .ok (.iconst 3, 1) := by decide +kernel
theorem dX5_halfOf_139 : decode cX5_halfOf 139 = .ok (.invokevirtual 78, 3) := by decide +kernel
theorem dX5_halfOf_142 : decode cX5_halfOf 142 = .ok (.ireturn, 1) := by decide +kernel
theorem dX5_halfOf_143 : decode cX5_halfOf 143 = .ok (.aload_n 0, 1) := by decide +kernel
theorem dX5_halfOf_144 : decode cX5_halfOf 144 = .ok (.iload_n 1, 1) := by decide +kernel
theorem dX5_halfOf_145 : decode cX5_halfOf 145 = .ok (.iload 4, 2) := by decide +kernel
theorem dX5_halfOf_147 : decode cX5_halfOf 147 = .ok (.invokevirtual 92, 3) := by decide +kernel
theorem dX5_halfOf_150 : decode cX5_halfOf 150 = .ok (.ifCond .eq 29, 3) := by decide +kernel
theorem dX5_halfOf_153 : decode cX5_halfOf 153 = .ok (.aload_n 0, 1) := by decide +kernel
theorem dX5_halfOf_154 : decode cX5_halfOf 154 = .ok (.iload_n 1, 1) := by decide +kernel
theorem dX5_halfOf_155 : decode cX5_halfOf 155 = .ok (.iload 4, 2) := by decide +kernel
theorem dX5_halfOf_157 : decode cX5_halfOf 157 = .ok (.aload_n 0, 1) := by decide +kernel
theorem dX5_halfOf_158 : decode cX5_halfOf 158 = .ok (.iload_n 1, 1) := by decide +kernel
theorem dX5_halfOf_159 : decode cX5_halfOf 159 = .ok (.iload 4, 2) := by decide +kernel
theorem dX5_halfOf_161 : decode cX5_halfOf 161 = .ok (.iconst 1, 1) := by decide +kernel
theorem dX5_halfOf_162 : decode cX5_halfOf 162 = .ok (.invokevirtual 78, 3) := by decide +kernel
theorem dX5_halfOf_165 : decode cX5_halfOf 165 = .ok (.aload_n 0, 1) := by decide +kernel
theorem dX5_halfOf_166 : decode cX5_halfOf 166 = .ok (.iload_n 1, 1) := by decide +kernel
theorem dX5_halfOf_167 : decode cX5_halfOf 167 = .ok (.iload 4, 2) := by decide +kernel
theorem dX5_halfOf_169 : decode cX5_halfOf 169 = .ok (.iconst 0, 1) := by decide +kernel
theorem dX5_halfOf_170 : decode cX5_halfOf 170 = .ok (.invokevirtual 78, 3) := by decide +kernel
theorem dX5_halfOf_173 : decode cX5_halfOf 173 = .ok (.invokevirtual 113, 3) := by decide +kernel
theorem dX5_halfOf_176 : decode cX5_halfOf 176 = .ok (.goto 4, 3) := by decide +kernel
theorem dX5_halfOf_179 : decode cX5_halfOf 179 = .ok (.iconst 0, 1) := by decide +kernel
theorem dX5_halfOf_180 : decode cX5_halfOf 180 = .ok (.ireturn, 1) := by decide +kernel
theorem dX5_halfOf_181 : decode cX5_halfOf 181 = .ok (.aload_n 0, 1) := by decide +kernel
theorem dX5_halfOf_182 : decode cX5_halfOf 182 = .ok (.iconst 2, 1) := by decide +kernel
theorem dX5_halfOf_183 : decode cX5_halfOf 183 = .ok (.invokevirtual 57, 3) := by decide +kernel
theorem dX5_halfOf_186 : decode cX5_halfOf 186 = .ok (.ireturn, 1) := by decide +kernel
theorem h9_X5_halfOf : yX5_halfOf.cls ≠ "java/lang/invoke/MethodHandle" ∧ yX5_halfOf.cls ≠ "java/lang/invoke/VarHandle" ∧ (parseMethodDescriptor yX5_halfOf.desc).map (fun d => d.parameters.length) = some 3 := by decide +kernel
noncomputable def F_X5_halfOf (a0 : Nat) (x1 : Int32) (x2 : Int32) (x3 : Int32) (w : FW) : Option (Int32 × FW) :=
  fg (w.1 a0 = 6) inferInstance ((F_X5_isTicket a0 x1 w).bind (fun r1 => ((if r1 = 0 then some 1 else some 0) : Option (Int32)).bind (fun x5 => (if (gI (sI w 500 a0 0 x5) 500 a0 0) ≤ 0 then (F_X5_number x2 (sI w 500 a0 0 x5)).bind (fun r10 => (if x3 = 0 then (F_X5_isPunched a0 x1 r10 (sI w 500 a0 0 x5)).bind (fun r14 => (F_X5_number r14 (sI w 500 a0 0 x5)).bind (fun r17 => some (r17, (sI w 500 a0 0 x5)))) else (if x3 = 1 then (F_X5_half a0 x1 r10 0 (sI w 500 a0 0 x5)).bind (fun r21 => some (r21, (sI w 500 a0 0 x5))) else (if x3 = 2 then (F_X5_half a0 x1 r10 1 (sI w 500 a0 0 x5)).bind (fun r25 => some (r25, (sI w 500 a0 0 x5))) else (if x3 = 3 then (F_X5_holesOf a0 x1 r10 (sI w 500 a0 0 x5)).bind (fun r29 => some (r29, (sI w 500 a0 0 x5))) else (if x3 = 4 then (F_X5_leftOf a0 x1 r10 (sI w 500 a0 0 x5)).bind (fun r33 => some (r33, (sI w 500 a0 0 x5))) else (if x3 = 5 then (F_X5_half a0 x1 r10 2 (sI w 500 a0 0 x5)).bind (fun r37 => some (r37, (sI w 500 a0 0 x5))) else (if x3 = 6 then (F_X5_half a0 x1 r10 3 (sI w 500 a0 0 x5)).bind (fun r41 => some (r41, (sI w 500 a0 0 x5))) else (if x3 = 7 then (F_X5_isPunched a0 x1 r10 (sI w 500 a0 0 x5)).bind (fun r45 => (if r45 = 0 then some (0, (sI w 500 a0 0 x5)) else (F_X5_half a0 x1 r10 1 (sI w 500 a0 0 x5)).bind (fun r49 => (F_X5_half a0 x1 r10 0 (sI w 500 a0 0 x5)).bind (fun r52 => (F_X5_rightOf a0 x1 r10 r49 r52 (sI w 500 a0 0 x5)).bind (fun r55 => some (r55, (sI w 500 a0 0 x5))))))) else (F_X5_fails a0 2 (sI w 500 a0 0 x5)).bind (fun r58 => some (r58.1, r58.2))))))))))) else some (0, (sI w 500 a0 0 x5))))))
set_option maxHeartbeats 4000000 in
set_option maxRecDepth 100000 in
theorem c_X5_halfOf (l : Launch) (D : va_G) (cy : Nat → ClassId) (a0 : Nat) (x1 : Int32) (x2 : Int32) (x3 : Int32) (w : FW) (r : Int32 × FW) (hF : F_X5_halfOf a0 x1 x2 x3 w = some r) : fSpec l D cy yX5_halfOf cX5_halfOf 5 (some .int) { frames := 7, cells := 0, slots := 0, locals := 168 } [.ref a0, .int x1, .int x2, .int x3] w r.2 (some (.int r.1)) := by
  refine f_begin (by decide +kernel) (Nat.le_of_ble_eq_true rfl) (fun X hC hEn => ?_)
  unfold F_X5_halfOf at hF
  show fAt X 0 0 5 w [(0, .ref a0), (1, .int x1), (2, .int x2), (3, .int x3)] [] 0
  refine f_aload_n hC dX5_halfOf_0 rfl 0 rfl ?_
  refine f_aload_n hC dX5_halfOf_1 rfl 0 rfl ?_
  refine f_iload_n hC dX5_halfOf_2 rfl 1 rfl ?_
  obtain ⟨g3, hF⟩ := fg_open hF
  obtain ⟨r1, h2, hF⟩ := fb_open hF
  refine f_callV hC [.int x1] (c_X5_isTicket l D cy a0 x1 w r1 h2) q_1415 q_136 q_1412 q_1414 q_85 h9_X5_isTicket rfl (fSm.k (fSm.rf w) g3) ⟨Nat.le_of_ble_eq_true rfl, Nat.le_of_ble_eq_true rfl⟩ ⟨Nat.le_of_ble_eq_true rfl, Nat.le_of_ble_eq_true rfl⟩ (Nat.le_of_ble_eq_true rfl) rfl dX5_halfOf_3 (fun e4 => ?_)
  obtain ⟨x5, h6, hF⟩ := fb_open hF
  have K8 : fAt X 0 0 5 w [(0, .ref a0), (1, .int x1), (2, .int x2), (3, .int x3)] [.int x5, .ref a0] 14 := by
    refine f_putI hC 5 0 500 rfl (by decide) iX5 tyX5 tyX5_ok nmX5 q_1254 rfl rfl rfl rfl rfl (fSm.k (fSm.rf w) g3) dX5_halfOf_14 ?_
    refine f_aload_n hC dX5_halfOf_17 rfl 0 rfl ?_
    refine f_getI hC 5 0 500 rfl (by decide) iX5 q_1254 rfl rfl (fSm.k (fSm.rf w) g3) dX5_halfOf_18 ?_
    refine f_if_le hC 26 dX5_halfOf_21 (by decide) (fun c9 => ?_) (fun c9 => ?_)
    · replace hF := fi_pos hF c9
      refine f_iload_n hC dX5_halfOf_26 rfl 2 rfl ?_
      obtain ⟨r10, h11, hF⟩ := fb_open hF
      refine f_callS hC [.int x2] (c_X5_number l D cy x2 (sI w 500 a0 0 x5) r10 h11) q_1466 q_136 q_1464 q_1465 h9_X5_number ⟨Nat.le_of_ble_eq_true rfl, Nat.le_of_ble_eq_true rfl⟩ ⟨Nat.le_of_ble_eq_true rfl, Nat.le_of_ble_eq_true rfl⟩ (Nat.le_of_ble_eq_true rfl) rfl dX5_halfOf_27 (fun e12 => ?_)
      refine f_istore (L' := [(4, .int r10), (0, .ref a0), (1, .int x1), (2, .int x2), (3, .int x3)]) hC dX5_halfOf_30 (by decide) rfl ?_
      refine f_iload_n hC dX5_halfOf_32 rfl 4 rfl ?_
      by_cases c13 : x3 = 0
      · replace hF := fi_pos hF c13
        refine f_tabIn hC 80 dX5_halfOf_33 (by rw [c13] <;> decide) (by rw [c13] <;> decide) (by rw [c13] <;> rfl) (by decide) ?_
        refine f_aload_n hC dX5_halfOf_80 rfl 1 rfl ?_
        refine f_iload_n hC dX5_halfOf_81 rfl 2 rfl ?_
        refine f_iload hC dX5_halfOf_82 0 rfl ?_
        obtain ⟨r14, h15, hF⟩ := fb_open hF
        refine f_callV hC [.int x1, .int r10] (c_X5_isPunched l D cy a0 x1 r10 (sI w 500 a0 0 x5) r14 h15) q_1474 q_136 q_1471 q_1473 q_94 h9_X5_isPunched rfl (fSm.k (fSm.rf w) g3) ⟨Nat.le_of_ble_eq_true rfl, Nat.le_of_ble_eq_true rfl⟩ ⟨Nat.le_of_ble_eq_true rfl, Nat.le_of_ble_eq_true rfl⟩ (Nat.le_of_ble_eq_true rfl) rfl dX5_halfOf_84 (fun e16 => ?_)
        obtain ⟨r17, h18, hF⟩ := fb_open hF
        refine f_callS hC [.int r14] (c_X5_number l D cy r14 (sI w 500 a0 0 x5) r17 h18) q_1466 q_136 q_1464 q_1465 h9_X5_number ⟨Nat.le_of_ble_eq_true rfl, Nat.le_of_ble_eq_true rfl⟩ ⟨Nat.le_of_ble_eq_true rfl, Nat.le_of_ble_eq_true rfl⟩ (Nat.le_of_ble_eq_true rfl) rfl dX5_halfOf_87 (fun e19 => ?_)
        obtain rfl := Option.some.inj hF
        exact f_iret hC hEn (fSm.rf w) dX5_halfOf_90
      · replace hF := fi_neg hF c13
        by_cases c20 : x3 = 1
        · replace hF := fi_pos hF c20
          refine f_tabIn hC 91 dX5_halfOf_33 (by rw [c20] <;> decide) (by rw [c20] <;> decide) (by rw [c20] <;> rfl) (by decide) ?_
          refine f_aload_n hC dX5_halfOf_91 rfl 1 rfl ?_
          refine f_iload_n hC dX5_halfOf_92 rfl 2 rfl ?_
          refine f_iload hC dX5_halfOf_93 0 rfl ?_
          refine f_iconst (v := 0) hC dX5_halfOf_95 (by decide) ?_
          obtain ⟨r21, h22, hF⟩ := fb_open hF
          refine f_callV hC [.int x1, .int r10, .int 0] (c_X5_half l D cy a0 x1 r10 0 (sI w 500 a0 0 x5) r21 h22) q_1478 q_136 q_1475 q_1477 q_95 h9_X5_half rfl (fSm.k (fSm.rf w) g3) ⟨Nat.le_of_ble_eq_true rfl, Nat.le_of_ble_eq_true rfl⟩ ⟨Nat.le_of_ble_eq_true rfl, Nat.le_of_ble_eq_true rfl⟩ (Nat.le_of_ble_eq_true rfl) rfl dX5_halfOf_96 (fun e23 => ?_)
          obtain rfl := Option.some.inj hF
          exact f_iret hC hEn (fSm.rf w) dX5_halfOf_99
        · replace hF := fi_neg hF c20
          by_cases c24 : x3 = 2
          · replace hF := fi_pos hF c24
            refine f_tabIn hC 100 dX5_halfOf_33 (by rw [c24] <;> decide) (by rw [c24] <;> decide) (by rw [c24] <;> rfl) (by decide) ?_
            refine f_aload_n hC dX5_halfOf_100 rfl 1 rfl ?_
            refine f_iload_n hC dX5_halfOf_101 rfl 2 rfl ?_
            refine f_iload hC dX5_halfOf_102 0 rfl ?_
            refine f_iconst (v := 1) hC dX5_halfOf_104 (by decide) ?_
            obtain ⟨r25, h26, hF⟩ := fb_open hF
            refine f_callV hC [.int x1, .int r10, .int 1] (c_X5_half l D cy a0 x1 r10 1 (sI w 500 a0 0 x5) r25 h26) q_1478 q_136 q_1475 q_1477 q_95 h9_X5_half rfl (fSm.k (fSm.rf w) g3) ⟨Nat.le_of_ble_eq_true rfl, Nat.le_of_ble_eq_true rfl⟩ ⟨Nat.le_of_ble_eq_true rfl, Nat.le_of_ble_eq_true rfl⟩ (Nat.le_of_ble_eq_true rfl) rfl dX5_halfOf_105 (fun e27 => ?_)
            obtain rfl := Option.some.inj hF
            exact f_iret hC hEn (fSm.rf w) dX5_halfOf_108
          · replace hF := fi_neg hF c24
            by_cases c28 : x3 = 3
            · replace hF := fi_pos hF c28
              refine f_tabIn hC 109 dX5_halfOf_33 (by rw [c28] <;> decide) (by rw [c28] <;> decide) (by rw [c28] <;> rfl) (by decide) ?_
              refine f_aload_n hC dX5_halfOf_109 rfl 1 rfl ?_
              refine f_iload_n hC dX5_halfOf_110 rfl 2 rfl ?_
              refine f_iload hC dX5_halfOf_111 0 rfl ?_
              obtain ⟨r29, h30, hF⟩ := fb_open hF
              refine f_callV hC [.int x1, .int r10] (c_X5_holesOf l D cy a0 x1 r10 (sI w 500 a0 0 x5) r29 h30) q_1482 q_136 q_1479 q_1481 q_96 h9_X5_holesOf rfl (fSm.k (fSm.rf w) g3) ⟨Nat.le_of_ble_eq_true rfl, Nat.le_of_ble_eq_true rfl⟩ ⟨Nat.le_of_ble_eq_true rfl, Nat.le_of_ble_eq_true rfl⟩ (Nat.le_of_ble_eq_true rfl) rfl dX5_halfOf_113 (fun e31 => ?_)
              obtain rfl := Option.some.inj hF
              exact f_iret hC hEn (fSm.rf w) dX5_halfOf_116
            · replace hF := fi_neg hF c28
              by_cases c32 : x3 = 4
              · replace hF := fi_pos hF c32
                refine f_tabIn hC 117 dX5_halfOf_33 (by rw [c32] <;> decide) (by rw [c32] <;> decide) (by rw [c32] <;> rfl) (by decide) ?_
                refine f_aload_n hC dX5_halfOf_117 rfl 1 rfl ?_
                refine f_iload_n hC dX5_halfOf_118 rfl 2 rfl ?_
                refine f_iload hC dX5_halfOf_119 0 rfl ?_
                obtain ⟨r33, h34, hF⟩ := fb_open hF
                refine f_callV hC [.int x1, .int r10] (c_X5_leftOf l D cy a0 x1 r10 (sI w 500 a0 0 x5) r33 h34) q_1537 q_136 q_1534 q_1536 q_104 h9_X5_leftOf rfl (fSm.k (fSm.rf w) g3) ⟨Nat.le_of_ble_eq_true rfl, Nat.le_of_ble_eq_true rfl⟩ ⟨Nat.le_of_ble_eq_true rfl, Nat.le_of_ble_eq_true rfl⟩ (Nat.le_of_ble_eq_true rfl) rfl dX5_halfOf_121 (fun e35 => ?_)
                obtain rfl := Option.some.inj hF
                exact f_iret hC hEn (fSm.rf w) dX5_halfOf_124
              · replace hF := fi_neg hF c32
                by_cases c36 : x3 = 5
                · replace hF := fi_pos hF c36
                  refine f_tabIn hC 125 dX5_halfOf_33 (by rw [c36] <;> decide) (by rw [c36] <;> decide) (by rw [c36] <;> rfl) (by decide) ?_
                  refine f_aload_n hC dX5_halfOf_125 rfl 1 rfl ?_
                  refine f_iload_n hC dX5_halfOf_126 rfl 2 rfl ?_
                  refine f_iload hC dX5_halfOf_127 0 rfl ?_
                  refine f_iconst (v := 2) hC dX5_halfOf_129 (by decide) ?_
                  obtain ⟨r37, h38, hF⟩ := fb_open hF
                  refine f_callV hC [.int x1, .int r10, .int 2] (c_X5_half l D cy a0 x1 r10 2 (sI w 500 a0 0 x5) r37 h38) q_1478 q_136 q_1475 q_1477 q_95 h9_X5_half rfl (fSm.k (fSm.rf w) g3) ⟨Nat.le_of_ble_eq_true rfl, Nat.le_of_ble_eq_true rfl⟩ ⟨Nat.le_of_ble_eq_true rfl, Nat.le_of_ble_eq_true rfl⟩ (Nat.le_of_ble_eq_true rfl) rfl dX5_halfOf_130 (fun e39 => ?_)
                  obtain rfl := Option.some.inj hF
                  exact f_iret hC hEn (fSm.rf w) dX5_halfOf_133
                · replace hF := fi_neg hF c36
                  by_cases c40 : x3 = 6
                  · replace hF := fi_pos hF c40
                    refine f_tabIn hC 134 dX5_halfOf_33 (by rw [c40] <;> decide) (by rw [c40] <;> decide) (by rw [c40] <;> rfl) (by decide) ?_
                    refine f_aload_n hC dX5_halfOf_134 rfl 1 rfl ?_
                    refine f_iload_n hC dX5_halfOf_135 rfl 2 rfl ?_
                    refine f_iload hC dX5_halfOf_136 0 rfl ?_
                    refine f_iconst (v := 3) hC dX5_halfOf_138 (by decide) ?_
                    obtain ⟨r41, h42, hF⟩ := fb_open hF
                    refine f_callV hC [.int x1, .int r10, .int 3] (c_X5_half l D cy a0 x1 r10 3 (sI w 500 a0 0 x5) r41 h42) q_1478 q_136 q_1475 q_1477 q_95 h9_X5_half rfl (fSm.k (fSm.rf w) g3) ⟨Nat.le_of_ble_eq_true rfl, Nat.le_of_ble_eq_true rfl⟩ ⟨Nat.le_of_ble_eq_true rfl, Nat.le_of_ble_eq_true rfl⟩ (Nat.le_of_ble_eq_true rfl) rfl dX5_halfOf_139 (fun e43 => ?_)
                    obtain rfl := Option.some.inj hF
                    exact f_iret hC hEn (fSm.rf w) dX5_halfOf_142
                  · replace hF := fi_neg hF c40
                    by_cases c44 : x3 = 7
                    · replace hF := fi_pos hF c44
                      refine f_tabIn hC 143 dX5_halfOf_33 (by rw [c44] <;> decide) (by rw [c44] <;> decide) (by rw [c44] <;> rfl) (by decide) ?_
                      refine f_aload_n hC dX5_halfOf_143 rfl 1 rfl ?_
                      refine f_iload_n hC dX5_halfOf_144 rfl 2 rfl ?_
                      refine f_iload hC dX5_halfOf_145 0 rfl ?_
                      obtain ⟨r45, h46, hF⟩ := fb_open hF
                      refine f_callV hC [.int x1, .int r10] (c_X5_isPunched l D cy a0 x1 r10 (sI w 500 a0 0 x5) r45 h46) q_1474 q_136 q_1471 q_1473 q_94 h9_X5_isPunched rfl (fSm.k (fSm.rf w) g3) ⟨Nat.le_of_ble_eq_true rfl, Nat.le_of_ble_eq_true rfl⟩ ⟨Nat.le_of_ble_eq_true rfl, Nat.le_of_ble_eq_true rfl⟩ (Nat.le_of_ble_eq_true rfl) rfl dX5_halfOf_147 (fun e47 => ?_)
                      refine f_if_eq hC 179 dX5_halfOf_150 (by decide) (fun c48 => ?_) (fun c48 => ?_)
                      · replace hF := fi_pos hF c48
                        refine f_iconst (v := 0) hC dX5_halfOf_179 (by decide) ?_
                        obtain rfl := Option.some.inj hF
                        exact f_iret hC hEn (fSm.rf w) dX5_halfOf_180
                      · replace hF := fi_neg hF c48
                        refine f_aload_n hC dX5_halfOf_153 rfl 1 rfl ?_
                        refine f_iload_n hC dX5_halfOf_154 rfl 2 rfl ?_
                        refine f_iload hC dX5_halfOf_155 0 rfl ?_
                        refine f_aload_n hC dX5_halfOf_157 rfl 1 rfl ?_
                        refine f_iload_n hC dX5_halfOf_158 rfl 2 rfl ?_
                        refine f_iload hC dX5_halfOf_159 0 rfl ?_
                        refine f_iconst (v := 1) hC dX5_halfOf_161 (by decide) ?_
                        obtain ⟨r49, h50, hF⟩ := fb_open hF
                        refine f_callV hC [.int x1, .int r10, .int 1] (c_X5_half l D cy a0 x1 r10 1 (sI w 500 a0 0 x5) r49 h50) q_1478 q_136 q_1475 q_1477 q_95 h9_X5_half rfl (fSm.k (fSm.rf w) g3) ⟨Nat.le_of_ble_eq_true rfl, Nat.le_of_ble_eq_true rfl⟩ ⟨Nat.le_of_ble_eq_true rfl, Nat.le_of_ble_eq_true rfl⟩ (Nat.le_of_ble_eq_true rfl) rfl dX5_halfOf_162 (fun e51 => ?_)
                        refine f_aload_n hC dX5_halfOf_165 rfl 1 rfl ?_
                        refine f_iload_n hC dX5_halfOf_166 rfl 2 rfl ?_
                        refine f_iload hC dX5_halfOf_167 0 rfl ?_
                        refine f_iconst (v := 0) hC dX5_halfOf_169 (by decide) ?_
                        obtain ⟨r52, h53, hF⟩ := fb_open hF
                        refine f_callV hC [.int x1, .int r10, .int 0] (c_X5_half l D cy a0 x1 r10 0 (sI w 500 a0 0 x5) r52 h53) q_1478 q_136 q_1475 q_1477 q_95 h9_X5_half rfl (fSm.k (fSm.rf w) g3) ⟨Nat.le_of_ble_eq_true rfl, Nat.le_of_ble_eq_true rfl⟩ ⟨Nat.le_of_ble_eq_true rfl, Nat.le_of_ble_eq_true rfl⟩ (Nat.le_of_ble_eq_true rfl) rfl dX5_halfOf_170 (fun e54 => ?_)
                        obtain ⟨r55, h56, hF⟩ := fb_open hF
                        refine f_callV hC [.int x1, .int r10, .int r49, .int r52] (c_X5_rightOf l D cy a0 x1 r10 r49 r52 (sI w 500 a0 0 x5) r55 h56) q_1545 q_136 q_1542 q_1544 q_106 h9_X5_rightOf rfl (fSm.k (fSm.rf w) g3) ⟨Nat.le_of_ble_eq_true rfl, Nat.le_of_ble_eq_true rfl⟩ ⟨Nat.le_of_ble_eq_true rfl, Nat.le_of_ble_eq_true rfl⟩ (Nat.le_of_ble_eq_true rfl) rfl dX5_halfOf_173 (fun e57 => ?_)
                        refine f_goto hC 180 dX5_halfOf_176 (by decide) ?_
                        obtain rfl := Option.some.inj hF
                        exact f_iret hC hEn (fSm.rf w) dX5_halfOf_180
                    · replace hF := fi_neg hF c44
                      refine f_tabOut hC 181 dX5_halfOf_33 (ftab 0 7 (by decide) (by decide) (fun j h1 h2 => ?_)) (by decide) ?_
                      · rcases (show j = 0 ∨ j = 1 ∨ j = 2 ∨ j = 3 ∨ j = 4 ∨ j = 5 ∨ j = 6 ∨ j = 7 by omega) with rfl | rfl | rfl | rfl | rfl | rfl | rfl | rfl
                        · exact c13
                        · exact c20
                        · exact c24
                        · exact c28
                        · exact c32
                        · exact c36
                        · exact c40
                        · exact c44
                      refine f_aload_n hC dX5_halfOf_181 rfl 1 rfl ?_
                      refine f_iconst (v := 2) hC dX5_halfOf_182 (by decide) ?_
                      obtain ⟨r58, h59, hF⟩ := fb_open hF
                      refine f_callV hC [.int 2] (c_X5_fails l D cy a0 2 (sI w 500 a0 0 x5) r58 h59) q_1375 q_136 q_1372 q_1374 q_78 h9_X5_fails rfl (fSm.k (fSm.rf w) g3) ⟨Nat.le_of_ble_eq_true rfl, Nat.le_of_ble_eq_true rfl⟩ ⟨Nat.le_of_ble_eq_true rfl, Nat.le_of_ble_eq_true rfl⟩ (Nat.le_of_ble_eq_true rfl) rfl dX5_halfOf_183 (fun e60 => ?_)
                      obtain rfl := Option.some.inj hF
                      exact f_iret hC hEn (fSm.tr e60 (fSm.rf w)) dX5_halfOf_186
    · replace hF := fi_neg hF c9
      refine f_iconst (v := 0) hC dX5_halfOf_24 (by decide) ?_
      obtain rfl := Option.some.inj hF
      exact f_iret hC hEn (fSm.rf w) dX5_halfOf_25
  refine f_if_eq hC 13 dX5_halfOf_6 (by decide) (fun c61 => ?_) (fun c61 => ?_)
  · replace h6 := fi_pos h6 c61
    refine f_iconst (v := 1) hC dX5_halfOf_13 (by decide) ?_
    obtain rfl := Option.some.inj h6
    exact K8
  · replace h6 := fi_neg h6 c61
    refine f_iconst (v := 0) hC dX5_halfOf_9 (by decide) ?_
    refine f_goto hC 14 dX5_halfOf_10 (by decide) ?_
    obtain rfl := Option.some.inj h6
    exact K8
