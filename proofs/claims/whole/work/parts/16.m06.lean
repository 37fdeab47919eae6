theorem dX5_punches_0 : decode cX5_punches 0 = .ok (.aload_n 0, 1) := by decide +kernel
theorem dX5_punches_1 : decode cX5_punches 1 = .ok (.iload_n 1, 1) := by decide +kernel
theorem dX5_punches_2 : decode cX5_punches 2 = .ok (.invokevirtual 135, 3) := by decide +kernel
theorem dX5_punches_5 : decode cX5_punches 5 = .ok (.ifCond .eq 12, 3) := by decide +kernel
theorem dX5_punches_8 : decode cX5_punches 8 = .ok (.iload_n 3, 1) := by decide +kernel
theorem dX5_punches_9 : decode cX5_punches 9 = .ok (.iconst 0, 1) := by decide +kernel
theorem dX5_punches_10 : decode cX5_punches 10 = .ok (.iconst 2, 1) := by decide +kernel
theorem dX5_punches_11 : decode cX5_punches 11 = .ok (.invokestatic 66, 3) := by decide +kernel
theorem dX5_punches_14 : decode cX5_punches 14 = .ok (.ifCond .ne 5, 3) := by decide +kernel
theorem dX5_punches_17 : decode cX5_punches 17 = .ok (.iconst (-1), 1) := by decide +kernel
theorem dX5_punches_18 : decode cX5_punches 18 = .ok (.ireturn, 1) := by decide +kernel
theorem dX5_punches_19 : decode cX5_punches 19 = .ok (.aload_n 0, 1) := by decide +kernel
theorem dX5_punches_20 : decode cX5_punches 20 = .ok (.iload_n 1, 1) := by decide +kernel
theorem dX5_punches_21 : decode cX5_punches 21 = .ok (.iload_n 2, 1) := by decide +kernel
theorem dX5_punches_22 : decode cX5_punches 22 = .ok (.invokevirtual 92, 3) := by decide +kernel
theorem dX5_punches_25 : decode cX5_punches 25 = .ok (.ifCond .eq 10, 3) := by decide +kernel
theorem dX5_punches_28 : decode cX5_punches 28 = .ok (.aload_n 0, 1) := by decide +kernel
theorem dX5_punches_29 : decode cX5_punches 29 = .ok (.iconst 3, 1) := by decide +kernel
theorem dX5_punches_30 : decode cX5_punches 30 = .ok (.iconst 1, 1) := by decide +kernel
theorem dX5_punches_31 : decode cX5_punches 31 = .ok (.invokevirtual 122, 3) := by decide +kernel
theorem dX5_punches_34 : decode cX5_punches 34 = .ok (.ireturn, 1) := by decide +kernel
theorem dX5_punches_35 : decode cX5_punches 35 = .ok (.aload_n 0, 1) := by decide +kernel
theorem dX5_punches_36 : decode cX5_punches 36 = .ok (.iload_n 1, 1) := by decide +kernel
theorem dX5_punches_37 : decode cX5_punches 37 = .ok (.iload_n 2, 1) := by decide +kernel
theorem dX5_punches_38 : decode cX5_punches 38 = .ok (.iconst 0, 1) := by decide +kernel
theorem dX5_punches_39 : decode cX5_punches 39 = .ok (.aload_n 0, 1) := by decide +kernel
theorem dX5_punches_40 : decode cX5_punches 40 = .ok (.getfield 7, 3) := by decide +kernel
theorem dX5_punches_43 : decode cX5_punches 43 = .ok (.bipush 7, 2) := by decide +kernel
theorem dX5_punches_45 : decode cX5_punches 45 = .ok (.iload_n 3, 1) := by decide +kernel
theorem dX5_punches_46 : decode cX5_punches 46 = .ok (.iadd, 1) := by decide +kernel
theorem dX5_punches_47 : decode cX5_punches 47 = .ok (.iaload, 1) := by decide +kernel
theorem dX5_punches_48 : decode cX5_punches 48 = .ok (.invokevirtual 128, 3) := by decide +kernel
theorem dX5_punches_51 : decode cX5_punches 51 = .ok (.aload_n 0, 1) := by decide +kernel
theorem dX5_punches_52 : decode cX5_punches 52 = .ok (.iload_n 1, 1) := by decide +kernel
theorem dX5_punches_53 : decode cX5_punches 53 = .ok (.iload_n 2, 1) := by decide +kernel
theorem dX5_punches_54 : decode cX5_punches 54 = .ok (.invokevirtual 145, 3) := by decide +kernel
theorem dX5_punches_57 : decode cX5_punches 57 = .ok (.istore 4, 2) := by decide +kernel
theorem dX5_punches_59 : decode cX5_punches 59 = .ok (.aload_n 0, 1) := by decide +kernel
theorem dX5_punches_60 : decode cX5_punches 60 = .ok (.getfield 7, 3) := by decide +kernel
theorem dX5_punches_63 : decode cX5_punches 63 = .ok (.iconst 5, 1) := by decide +kernel
theorem dX5_punches_64 : decode cX5_punches 64 = .ok (.dup2, 1) := by decide +kernel
theorem dX5_punches_65 : decode cX5_punches 65 = .ok (.iaload, 1) := by decide +kernel
theorem dX5_punches_66 : decode cX5_punches 66 = .ok (.iload 4, 2) := by decide +kernel
theorem dX5_punches_68 : decode cX5_punches 68 = .ok (.iadd, 1) := by decide +kernel
theorem dX5_punches_69 : decode cX5_punches 69 = .ok (.iastore, 1) := by decide +kernel
theorem dX5_punches_70 : decode cX5_punches 70 = .ok (.aload_n 0, 1) := by decide +kernel
theorem dX5_punches_71 : decode cX5_punches 71 = .ok (.iload 4, 2) := by decide +kernel
theorem dX5_punches_73 : decode cX5_punches 73 = .ok (.invokevirtual 125, 3) := by decide +kernel
theorem dX5_punches_76 : decode cX5_punches 76 = .ok (.ireturn, 1) := by decide +kernel
theorem h9_X5_punches : yX5_punches.cls ≠ "java/lang/invoke/MethodHandle" ∧ yX5_punches.cls ≠ "java/lang/invoke/VarHandle" ∧ (parseMethodDescriptor yX5_punches.desc).map (fun d => d.parameters.length) = some 3 := by decide +kernel
noncomputable def F_X5_punches (a0 : Nat) (x1 : Int32) (x2 : Int32) (x3 : Int32) (w : FW) : Option (Int32 × FW) :=
  fg (w.1 a0 = 6) inferInstance ((F_X5_isTicket a0 x1 w).bind (fun r1 => (if r1 = 0 then some ((-1), w) else (F_X5_in x3 0 2 w).bind (fun r6 => (if r6 = 0 then some ((-1), w) else (F_X5_isPunched a0 x1 x2 w).bind (fun r10 => (if r10 = 0 then fg (w.1 (gR w 501 a0 0) = 11) inferInstance (fg (¬ ((7 + x3) < 0 ∨ w.2.1 (gR w 501 a0 0) ≤ Int32.toNatClampNeg (7 + x3))) inferInstance ((F_X5_setsHalf a0 x1 x2 0 (gI w 601 (gR w 501 a0 0) (Int32.toNatClampNeg (7 + x3))) w).bind (fun r16 => (F_X5_holesOf a0 x1 x2 r16).bind (fun r19 => fg (w.1 (gR r16 501 a0 0) = 11) inferInstance (fg (¬ (5 < 0 ∨ w.2.1 (gR r16 501 a0 0) ≤ Int32.toNatClampNeg 5)) inferInstance ((F_X5_done a0 r19 (sI r16 601 (gR r16 501 a0 0) (Int32.toNatClampNeg 5) ((gI r16 601 (gR r16 501 a0 0) (Int32.toNatClampNeg 5)) + r19))).bind (fun r24 => some (r24.1, r24.2)))))))) else (F_X5_refused a0 3 1 w).bind (fun r27 => some (r27.1, r27.2)))))))))
set_option maxHeartbeats 4000000 in
set_option maxRecDepth 100000 in
theorem c_X5_punches (l : Launch) (D : va_G) (cy : Nat → ClassId) (a0 : Nat) (x1 : Int32) (x2 : Int32) (x3 : Int32) (w : FW) (r : Int32 × FW) (hF : F_X5_punches a0 x1 x2 x3 w = some r) : fSpec l D cy yX5_punches cX5_punches 5 (some .int) { frames := 5, cells := 0, slots := 0, locals := 115 } [.ref a0, .int x1, .int x2, .int x3] w r.2 (some (.int r.1)) := by
  refine f_begin (by decide +kernel) (Nat.le_of_ble_eq_true rfl) (fun X hC hEn => ?_)
  unfold F_X5_punches at hF
  show fAt X 0 0 5 w [(0, .ref a0), (1, .int x1), (2, .int x2), (3, .int x3)] [] 0
  refine f_aload_n hC dX5_punches_0 rfl 0 rfl ?_
  refine f_iload_n hC dX5_punches_1 rfl 1 rfl ?_
  obtain ⟨g3, hF⟩ := fg_open hF
  obtain ⟨r1, h2, hF⟩ := fb_open hF
  refine f_callV hC [.int x1] (c_X5_isTicket l D cy a0 x1 w r1 h2) q_1415 q_136 q_1412 q_1414 q_85 h9_X5_isTicket rfl (fSm.k (fSm.rf w) g3) ⟨Nat.le_of_ble_eq_true rfl, Nat.le_of_ble_eq_true rfl⟩ ⟨Nat.le_of_ble_eq_true rfl, Nat.le_of_ble_eq_true rfl⟩ (Nat.le_of_ble_eq_true rfl) rfl dX5_punches_2 (fun e4 => ?_)
  refine f_if_eq hC 17 dX5_punches_5 (by decide) (fun c5 => ?_) (fun c5 => ?_)
  · replace hF := fi_pos hF c5
    refine f_iconst (v := (-1)) hC dX5_punches_17 (by decide) ?_
    obtain rfl := Option.some.inj hF
    exact f_iret hC hEn (fSm.rf w) dX5_punches_18
  · replace hF := fi_neg hF c5
    refine f_iload_n hC dX5_punches_8 rfl 3 rfl ?_
    refine f_iconst (v := 0) hC dX5_punches_9 (by decide) ?_
    refine f_iconst (v := 2) hC dX5_punches_10 (by decide) ?_
    obtain ⟨r6, h7, hF⟩ := fb_open hF
    refine f_callS hC [.int x3, .int 0, .int 2] (c_X5_in l D cy x3 0 2 w r6 h7) q_1352 q_136 q_1350 q_1351 h9_X5_in ⟨Nat.le_of_ble_eq_true rfl, Nat.le_of_ble_eq_true rfl⟩ ⟨Nat.le_of_ble_eq_true rfl, Nat.le_of_ble_eq_true rfl⟩ (Nat.le_of_ble_eq_true rfl) rfl dX5_punches_11 (fun e8 => ?_)
    refine f_if_ne hC 19 dX5_punches_14 (by decide) (fun c9 => ?_) (fun c9 => ?_)
    · replace hF := fi_neg hF c9
      refine f_aload_n hC dX5_punches_19 rfl 0 rfl ?_
      refine f_iload_n hC dX5_punches_20 rfl 1 rfl ?_
      refine f_iload_n hC dX5_punches_21 rfl 2 rfl ?_
      obtain ⟨r10, h11, hF⟩ := fb_open hF
      refine f_callV hC [.int x1, .int x2] (c_X5_isPunched l D cy a0 x1 x2 w r10 h11) q_1474 q_136 q_1471 q_1473 q_94 h9_X5_isPunched rfl (fSm.k (fSm.rf w) g3) ⟨Nat.le_of_ble_eq_true rfl, Nat.le_of_ble_eq_true rfl⟩ ⟨Nat.le_of_ble_eq_true rfl, Nat.le_of_ble_eq_true rfl⟩ (Nat.le_of_ble_eq_true rfl) rfl dX5_punches_22 (fun e12 => ?_)
      refine f_if_eq hC 35 dX5_punches_25 (by decide) (fun c13 => ?_) (fun c13 => ?_)
      · replace hF := fi_pos hF c13
        refine f_aload_n hC dX5_punches_35 rfl 0 rfl ?_
        refine f_iload_n hC dX5_punches_36 rfl 1 rfl ?_
        refine f_iload_n hC dX5_punches_37 rfl 2 rfl ?_
        refine f_iconst (v := 0) hC dX5_punches_38 (by decide) ?_
        refine f_aload_n hC dX5_punches_39 rfl 0 rfl ?_
        refine f_getR hC 5 1 501 rfl (by decide) iX5 q_1255 rfl rfl (fSm.k (fSm.rf w) g3) dX5_punches_40 ?_
        refine f_bipush (v := 7) hC dX5_punches_43 (by decide) ?_
        refine f_iload_n hC dX5_punches_45 rfl 3 rfl ?_
        refine f_iadd hC dX5_punches_46 ?_
        obtain ⟨g14, hF⟩ := fg_open hF
        obtain ⟨g15, hF⟩ := fg_open hF
        refine f_iald hC (fSm.k (fSm.rf w) g14) (fSm.v (fSm.rf w) g15) dX5_punches_47 ?_
        obtain ⟨r16, h17, hF⟩ := fb_open hF
        refine f_callV hC [.int x1, .int x2, .int 0, .int (gI w 601 (gR w 501 a0 0) (Int32.toNatClampNeg (7 + x3)))] (c_X5_setsHalf l D cy a0 x1 x2 0 (gI w 601 (gR w 501 a0 0) (Int32.toNatClampNeg (7 + x3))) w r16 h17) q_1403 q_136 q_1400 q_1402 q_83 h9_X5_setsHalf rfl (fSm.k (fSm.rf w) g3) ⟨Nat.le_of_ble_eq_true rfl, Nat.le_of_ble_eq_true rfl⟩ ⟨Nat.le_of_ble_eq_true rfl, Nat.le_of_ble_eq_true rfl⟩ (Nat.le_of_ble_eq_true rfl) rfl dX5_punches_48 (fun e18 => ?_)
        refine f_aload_n hC dX5_punches_51 rfl 0 rfl ?_
        refine f_iload_n hC dX5_punches_52 rfl 1 rfl ?_
        refine f_iload_n hC dX5_punches_53 rfl 2 rfl ?_
        obtain ⟨r19, h20, hF⟩ := fb_open hF
        refine f_callV hC [.int x1, .int x2] (c_X5_holesOf l D cy a0 x1 x2 r16 r19 h20) q_1482 q_136 q_1479 q_1481 q_96 h9_X5_holesOf rfl (fSm.k (fSm.tr e18 (fSm.rf w)) g3) ⟨Nat.le_of_ble_eq_true rfl, Nat.le_of_ble_eq_true rfl⟩ ⟨Nat.le_of_ble_eq_true rfl, Nat.le_of_ble_eq_true rfl⟩ (Nat.le_of_ble_eq_true rfl) rfl dX5_punches_54 (fun e21 => ?_)
        refine f_istore (L' := [(4, .int r19), (0, .ref a0), (1, .int x1), (2, .int x2), (3, .int x3)]) hC dX5_punches_57 (by decide) rfl ?_
        refine f_aload_n hC dX5_punches_59 rfl 1 rfl ?_
        refine f_getR hC 5 1 501 rfl (by decide) iX5 q_1255 rfl rfl (fSm.k (fSm.tr e18 (fSm.rf w)) g3) dX5_punches_60 ?_
        refine f_iconst (v := 5) hC dX5_punches_63 (by decide) ?_
        refine f_dup2 hC dX5_punches_64 rfl rfl ?_
        obtain ⟨g22, hF⟩ := fg_open hF
        obtain ⟨g23, hF⟩ := fg_open hF
        refine f_iald hC (fSm.k (fSm.tr e18 (fSm.rf w)) g22) (fSm.v (fSm.tr e18 (fSm.rf w)) g23) dX5_punches_65 ?_
        refine f_iload hC dX5_punches_66 0 rfl ?_
        refine f_iadd hC dX5_punches_68 ?_
        refine f_iast hC (fSm.k (fSm.tr e18 (fSm.rf w)) g22) (fSm.v (fSm.tr e18 (fSm.rf w)) g23) dX5_punches_69 ?_
        refine f_aload_n hC dX5_punches_70 rfl 1 rfl ?_
        refine f_iload hC dX5_punches_71 0 rfl ?_
        obtain ⟨r24, h25, hF⟩ := fb_open hF
        refine f_callV hC [.int r19] (c_X5_done l D cy a0 r19 (sI r16 601 (gR r16 501 a0 0) (Int32.toNatClampNeg 5) ((gI r16 601 (gR r16 501 a0 0) (Int32.toNatClampNeg 5)) + r19)) r24 h25) q_1363 q_136 q_1360 q_1362 q_75 h9_X5_done rfl (fSm.k (fSm.tr e18 (fSm.rf w)) g3) ⟨Nat.le_of_ble_eq_true rfl, Nat.le_of_ble_eq_true rfl⟩ ⟨Nat.le_of_ble_eq_true rfl, Nat.le_of_ble_eq_true rfl⟩ (Nat.le_of_ble_eq_true rfl) rfl dX5_punches_73 (fun e26 => ?_)
        obtain rfl := Option.some.inj hF
        exact f_iret hC hEn (fSm.tr e26 (fSm.tr e18 (fSm.rf w))) dX5_punches_76
      · replace hF := fi_neg hF c13
        refine f_aload_n hC dX5_punches_28 rfl 0 rfl ?_
        refine f_iconst (v := 3) hC dX5_punches_29 (by decide) ?_
        refine f_iconst (v := 1) hC dX5_punches_30 (by decide) ?_
        obtain ⟨r27, h28, hF⟩ := fb_open hF
        refine f_callV hC [.int 3, .int 1] (c_X5_refused l D cy a0 3 1 w r27 h28) q_1359 q_136 q_1356 q_1358 q_74 h9_X5_refused rfl (fSm.k (fSm.rf w) g3) ⟨Nat.le_of_ble_eq_true rfl, Nat.le_of_ble_eq_true rfl⟩ ⟨Nat.le_of_ble_eq_true rfl, Nat.le_of_ble_eq_true rfl⟩ (Nat.le_of_ble_eq_true rfl) rfl dX5_punches_31 (fun e29 => ?_)
        obtain rfl := Option.some.inj hF
        exact f_iret hC hEn (fSm.tr e29 (fSm.rf w)) dX5_punches_34
    · replace hF := fi_pos hF c9
      refine f_iconst (v := (-1)) hC dX5_punches_17 (by decide) ?_
      obtain rfl := Option.some.inj hF
      exact f_iret hC hEn (fSm.rf w) dX5_punches_18
theorem dX5_getsWet_0 : decode cX5_getsWet 0 = .ok (.aload_n 0, 1) := by decide +kernel
theorem dX5_getsWet_1 : decode cX5_getsWet 1 = .ok (.iload_n 1, 1) := by decide +kernel
theorem dX5_getsWet_2 : decode cX5_getsWet 2 = .ok (.iload_n 2, 1) := by decide +kernel
theorem dX5_getsWet_3 : decode cX5_getsWet 3 = .ok (.iconst 1, 1) := by decide +kernel
theorem dX5_getsWet_4 : decode cX5_getsWet 4 = .ok (.invokevirtual 78, 3) := by decide +kernel
theorem dX5_getsWet_7 : decode cX5_getsWet 7 = .ok (.iload_n 3, 1) := by decide +kernel
theorem dX5_getsWet_8 : decode cX5_getsWet 8 = .ok (.iadd, 1) := by decide +kernel
theorem dX5_getsWet_9 : decode cX5_getsWet 9 = .ok (.istore 4, 2) := by decide +kernel
theorem dX5_getsWet_11 : decode cX5_getsWet 11 = .ok (.aload_n 0, 1) := by decide +kernel
theorem dX5_getsWet_12 : decode cX5_getsWet 12 = .ok (.iload_n 1, 1) := by decide +kernel
theorem dX5_getsWet_13 : decode cX5_getsWet 13 = .ok (.iload_n 2, 1) := by decide +kernel
theorem dX5_getsWet_14 : decode cX5_getsWet 14 = .ok (.iconst 1, 1) := by decide +kernel
theorem dX5_getsWet_15 : decode cX5_getsWet 15 = .ok (.iload 4, 2) := by decide +kernel
theorem dX5_getsWet_17 : decode cX5_getsWet 17 = .ok (.bipush 9, 2) := by decide +kernel
theorem dX5_getsWet_19 : decode cX5_getsWet 19 = .ok (.if_icmp .le 8, 3) := by decide +kernel
theorem dX5_getsWet_22 : decode cX5_getsWet 22 = .ok (.bipush 9, 2) := by decide +kernel
theorem dX5_getsWet_24 : decode cX5_getsWet 24 = .ok (.goto 5, 3) := by decide +kernel
theorem dX5_getsWet_27 : decode cX5_getsWet 27 = .ok (.iload 4, 2) := by decide +kernel
theorem dX5_getsWet_29 : decode cX5_getsWet 29 = .ok (.invokevirtual 128, 3) := by decide +kernel
theorem dX5_getsWet_32 : decode cX5_getsWet 32 = .ok (.return_, 1) := by decide +kernel
theorem h9_X5_getsWet : yX5_getsWet.cls ≠ "java/lang/invoke/MethodHandle" ∧ yX5_getsWet.cls ≠ "java/lang/invoke/VarHandle" ∧ (parseMethodDescriptor yX5_getsWet.desc).map (fun d => d.parameters.length) = some 3 := by decide +kernel
noncomputable def F_X5_getsWet (a0 : Nat) (x1 : Int32) (x2 : Int32) (x3 : Int32) (w : FW) : Option (FW) :=
  fg (w.1 a0 = 6) inferInstance ((F_X5_half a0 x1 x2 1 w).bind (fun r1 => ((if (r1 + x3) ≤ 9 then some (r1 + x3) else some 9) : Option (Int32)).bind (fun x5 => (F_X5_setsHalf a0 x1 x2 1 x5 w).bind (fun r9 => some r9))))
set_option maxHeartbeats 4000000 in
set_option maxRecDepth 100000 in
theorem c_X5_getsWet (l : Launch) (D : va_G) (cy : Nat → ClassId) (a0 : Nat) (x1 : Int32) (x2 : Int32) (x3 : Int32) (w : FW) (r : FW) (hF : F_X5_getsWet a0 x1 x2 x3 w = some r) : fSpec l D cy yX5_getsWet cX5_getsWet 5 none { frames := 2, cells := 0, slots := 0, locals := 47 } [.ref a0, .int x1, .int x2, .int x3] w r none := by
  refine f_begin (by decide +kernel) (Nat.le_of_ble_eq_true rfl) (fun X hC hEn => ?_)
  unfold F_X5_getsWet at hF
  show fAt X 0 0 5 w [(0, .ref a0), (1, .int x1), (2, .int x2), (3, .int x3)] [] 0
  refine f_aload_n hC dX5_getsWet_0 rfl 0 rfl ?_
  refine f_iload_n hC dX5_getsWet_1 rfl 1 rfl ?_
  refine f_iload_n hC dX5_getsWet_2 rfl 2 rfl ?_
  refine f_iconst (v := 1) hC dX5_getsWet_3 (by decide) ?_
  obtain ⟨g3, hF⟩ := fg_open hF
  obtain ⟨r1, h2, hF⟩ := fb_open hF
  refine f_callV hC [.int x1, .int x2, .int 1] (c_X5_half l D cy a0 x1 x2 1 w r1 h2) q_1478 q_136 q_1475 q_1477 q_95 h9_X5_half rfl (fSm.k (fSm.rf w) g3) ⟨Nat.le_of_ble_eq_true rfl, Nat.le_of_ble_eq_true rfl⟩ ⟨Nat.le_of_ble_eq_true rfl, Nat.le_of_ble_eq_true rfl⟩ (Nat.le_of_ble_eq_true rfl) rfl dX5_getsWet_4 (fun e4 => ?_)
  refine f_iload_n hC dX5_getsWet_7 rfl 3 rfl ?_
  refine f_iadd hC dX5_getsWet_8 ?_
  refine f_istore (L' := [(4, .int (r1 + x3)), (0, .ref a0), (1, .int x1), (2, .int x2), (3, .int x3)]) hC dX5_getsWet_9 (by decide) rfl ?_
  refine f_aload_n hC dX5_getsWet_11 rfl 1 rfl ?_
  refine f_iload_n hC dX5_getsWet_12 rfl 2 rfl ?_
  refine f_iload_n hC dX5_getsWet_13 rfl 3 rfl ?_
  refine f_iconst (v := 1) hC dX5_getsWet_14 (by decide) ?_
  refine f_iload hC dX5_getsWet_15 0 rfl ?_
  refine f_bipush (v := 9) hC dX5_getsWet_17 (by decide) ?_
  obtain ⟨x5, h6, hF⟩ := fb_open hF
  have K8 : fAt X 0 0 5 w [] [.int x5, .int 1, .int x2, .int x1, .ref a0] 29 := by
    obtain ⟨r9, h10, hF⟩ := fb_open hF
    refine f_callV hC [.int x1, .int x2, .int 1, .int x5] (c_X5_setsHalf l D cy a0 x1 x2 1 x5 w r9 h10) q_1403 q_136 q_1400 q_1402 q_83 h9_X5_setsHalf rfl (fSm.k (fSm.rf w) g3) ⟨Nat.le_of_ble_eq_true rfl, Nat.le_of_ble_eq_true rfl⟩ ⟨Nat.le_of_ble_eq_true rfl, Nat.le_of_ble_eq_true rfl⟩ (Nat.le_of_ble_eq_true rfl) rfl dX5_getsWet_29 (fun e11 => ?_)
    obtain rfl := Option.some.inj hF
    exact f_vret hC hEn (fSm.tr e11 (fSm.rf w)) dX5_getsWet_32
  refine f_icmp_le hC 27 dX5_getsWet_19 (by decide) (fun c12 => ?_) (fun c12 => ?_)
  · replace h6 := fi_pos h6 c12
    refine f_iload hC dX5_getsWet_27 0 rfl ?_
    obtain rfl := Option.some.inj h6
    refine f_sub (L' := []) [] rfl ?_
    exact K8
  · replace h6 := fi_neg h6 c12
    refine f_bipush (v := 9) hC dX5_getsWet_22 (by decide) ?_
    refine f_goto hC 29 dX5_getsWet_24 (by decide) ?_
    obtain rfl := Option.some.inj h6
    refine f_sub (L' := []) [] rfl ?_
    exact K8
theorem dX5_makesWet_0 : decode cX5_makesWet 0 = .ok (.aload_n 0, 1) := by decide +kernel
theorem dX5_makesWet_1 : decode cX5_makesWet 1 = .ok (.iload_n 1, 1) := by decide +kernel
theorem dX5_makesWet_2 : decode cX5_makesWet 2 = .ok (.invokevirtual 135, 3) := by decide +kernel
theorem dX5_makesWet_5 : decode cX5_makesWet 5 = .ok (.ifCond .ne 5, 3) := by decide +kernel
theorem dX5_makesWet_8 : decode cX5_makesWet 8 = .ok (.iconst (-1), 1) := by decide +kernel
theorem dX5_makesWet_9 : decode cX5_makesWet 9 = .ok (.ireturn, 1) := by decide +kernel
theorem dX5_makesWet_10 : decode cX5_makesWet 10 = .ok (.iload_n 3, 1) := by decide +kernel
theorem dX5_makesWet_11 : decode cX5_makesWet 11 = .ok (.iconst 1, 1) := by decide +kernel
theorem dX5_makesWet_12 : decode cX5_makesWet 12 = .ok (.bipush 9, 2) := by decide +kernel
theorem dX5_makesWet_14 : decode cX5_makesWet 14 = .ok (.invokestatic 66, 3) := by decide +kernel
theorem dX5_makesWet_17 : decode cX5_makesWet 17 = .ok (.ifCond .ne 6, 3) := by decide +kernel
theorem dX5_makesWet_20 : decode cX5_makesWet 20 = .ok (.bipush (-2), 2) := by decide +kernel
theorem dX5_makesWet_22 : decode cX5_makesWet 22 = .ok (.ireturn, 1) := by decide +kernel
theorem dX5_makesWet_23 : decode cX5_makesWet 23 = .ok (.aload_n 0, 1) := by decide +kernel
theorem dX5_makesWet_24 : decode cX5_makesWet 24 = .ok (.iload_n 1, 1) := by decide +kernel
theorem dX5_makesWet_25 : decode cX5_makesWet 25 = .ok (.iload_n 2, 1) := by decide +kernel
theorem dX5_makesWet_26 : decode cX5_makesWet 26 = .ok (.iload_n 3, 1) := by decide +kernel
theorem dX5_makesWet_27 : decode cX5_makesWet 27 = .ok (.invokevirtual 148, 3) := by decide +kernel
theorem dX5_makesWet_30 : decode cX5_makesWet 30 = .ok (.aload_n 0, 1) := by decide +kernel
theorem dX5_makesWet_31 : decode cX5_makesWet 31 = .ok (.iload_n 1, 1) := by decide +kernel
theorem dX5_makesWet_32 : decode cX5_makesWet 32 = .ok (.bipush 10, 2) := by decide +kernel
theorem dX5_makesWet_34 : decode cX5_makesWet 34 = .ok (.invokevirtual 70, 3) := by decide +kernel
theorem dX5_makesWet_37 : decode cX5_makesWet 37 = .ok (.ifCond .ne 44, 3) := by decide +kernel
theorem dX5_makesWet_40 : decode cX5_makesWet 40 = .ok (.aload_n 0, 1) := by decide +kernel
theorem dX5_makesWet_41 : decode cX5_makesWet 41 = .ok (.iload_n 1, 1) := by decide +kernel
theorem dX5_makesWet_42 : decode cX5_makesWet 42 = .ok (.iconst 1, 1) := by decide +kernel
theorem dX5_makesWet_43 : decode cX5_makesWet 43 = .ok (.iload_n 2, 1) := by decide +kernel
theorem dX5_makesWet_44 : decode cX5_makesWet 44 = .ok (.isub, 1) := by decide +kernel
theorem dX5_makesWet_45 : decode cX5_makesWet 45 = .ok (.iload_n 3, 1) := by decide +kernel
theorem dX5_makesWet_46 : decode cX5_makesWet 46 = .ok (.iconst 2, 1) := by decide +kernel
theorem dX5_makesWet_47 : decode cX5_makesWet 47 = .ok (.idiv, 1) := by decide +kernel
theorem dX5_makesWet_48 : decode cX5_makesWet 48 = .ok (.invokevirtual 148, 3) := by decide +kernel
theorem dX5_makesWet_51 : decode cX5_makesWet 51 = .ok (.aload_n 0, 1) := by decide +kernel
theorem dX5_makesWet_52 : decode cX5_makesWet 52 = .ok (.iload_n 1, 1) := by decide +kernel
theorem dX5_makesWet_53 : decode cX5_makesWet 53 = .ok (.iconst 0, 1) := by decide +kernel
theorem dX5_makesWet_54 : decode cX5_makesWet 54 = .ok (.iconst 1, 1) := by decide +kernel
theorem dX5_makesWet_55 : decode cX5_makesWet 55 = .ok (.invokevirtual 78, 3) := by decide +kernel
theorem dX5_makesWet_58 : decode cX5_makesWet 58 = .ok (.iconst 5, 1) := by decide +kernel
theorem dX5_makesWet_59 : decode cX5_makesWet 59 = .ok (.if_icmp .gt 14, 3) := by decide +kernel
theorem dX5_makesWet_62 : decode cX5_makesWet 62 = .ok (.aload_n 0, 1) := by decide +kernel
theorem dX5_makesWet_63 : decode cX5_makesWet 63 = .ok (.iload_n 1, 1) := by decide +kernel
theorem dX5_makesWet_64 : decode cX5_makesWet 64 = .ok (.iconst 1, 1) := by decide +kernel
theorem dX5_makesWet_65 : decode cX5_makesWet 65 = .ok (.iconst 1, 1) := by decide +kernel
theorem dX5_makesWet_66 : decode cX5_makesWet 66 = .ok (.invokevirtual 78, 3) := by decide +kernel
theorem dX5_makesWet_69 : decode cX5_makesWet 69 = .ok (.iconst 5, 1) := by decide +kernel
theorem dX5_makesWet_70 : decode cX5_makesWet 70 = .ok (.if_icmp .le 11, 3) := by decide +kernel
theorem dX5_makesWet_73 : decode cX5_makesWet 73 = .ok (.aload_n 0, 1) := by decide +kernel
theorem dX5_makesWet_74 : decode cX5_makesWet 74 = .ok (.iload_n 1, 1) := by decide +kernel
theorem dX5_makesWet_75 : decode cX5_makesWet 75 = .ok (.bipush 10, 2) := by decide +kernel
theorem dX5_makesWet_77 : decode cX5_makesWet 77 = .ok (.iconst 1, 1) := by decide +kernel
theorem dX5_makesWet_78 : decode cX5_makesWet 78 = .ok (.invokevirtual 74, 3) := by decide +kernel
theorem dX5_makesWet_81 : decode cX5_makesWet 81 = .ok (.aload_n 0, 1) := by decide +kernel
theorem dX5_makesWet_82 : decode cX5_makesWet 82 = .ok (.aload_n 0, 1) := by decide +kernel
theorem dX5_makesWet_83 : decode cX5_makesWet 83 = .ok (.iload_n 1, 1) := by decide +kernel
theorem dX5_makesWet_84 : decode cX5_makesWet 84 = .ok (.iload_n 2, 1) := by decide +kernel
theorem dX5_makesWet_85 : decode cX5_makesWet 85 = .ok (.iconst 1, 1) := by decide +kernel
theorem dX5_makesWet_86 : decode cX5_makesWet 86 = .ok (.invokevirtual 78, 3) := by decide +kernel
theorem dX5_makesWet_89 : decode cX5_makesWet 89 = .ok (.invokevirtual 125, 3) := by decide +kernel
theorem dX5_makesWet_92 : decode cX5_makesWet 92 = .ok (.ireturn, 1) := by decide +kernel
theorem h9_X5_makesWet : yX5_makesWet.cls ≠ "java/lang/invoke/MethodHandle" ∧ yX5_makesWet.cls ≠ "java/lang/invoke/VarHandle" ∧ (parseMethodDescriptor yX5_makesWet.desc).map (fun d => d.parameters.length) = some 3 := by decide +kernel
noncomputable def F_X5_makesWet (a0 : Nat) (x1 : Int32) (x2 : Int32) (x3 : Int32) (w : FW) : Option (Int32 × FW) :=
  fg (w.1 a0 = 6) inferInstance ((F_X5_isTicket a0 x1 w).bind (fun r1 => (if r1 = 0 then some ((-1), w) else (F_X5_in x3 1 9 w).bind (fun r6 => (if r6 = 0 then some ((-2), w) else (F_X5_getsWet a0 x1 x2 x3 w).bind (fun r10 => (F_X5_of a0 x1 10 r10).bind (fun r13 => ((if r13 = 0 then (F_X5_getsWet a0 x1 (1 - x2) (x3 / 2) r10).bind (fun r27 => (F_X5_half a0 x1 0 1 r27).bind (fun r30 => (if 5 < r30 then (F_X5_sets a0 x1 10 1 r27).bind (fun r34 => some r34) else (F_X5_half a0 x1 1 1 r27).bind (fun r37 => (if r37 ≤ 5 then some r27 else (F_X5_sets a0 x1 10 1 r27).bind (fun r41 => some r41)))))) else some r10) : Option (FW)).bind (fun x16 => (F_X5_half a0 x1 x2 1 x16).bind (fun r20 => (F_X5_done a0 r20 x16).bind (fun r23 => some (r23.1, r23.2)))))))))))
set_option maxHeartbeats 4000000 in
set_option maxRecDepth 100000 in
theorem c_X5_makesWet (l : Launch) (D : va_G) (cy : Nat → ClassId) (a0 : Nat) (x1 : Int32) (x2 : Int32) (x3 : Int32) (w : FW) (r : Int32 × FW) (hF : F_X5_makesWet a0 x1 x2 x3 w = some r) : fSpec l D cy yX5_makesWet cX5_makesWet 4 (some .int) { frames := 3, cells := 0, slots := 0, locals := 71 } [.ref a0, .int x1, .int x2, .int x3] w r.2 (some (.int r.1)) := by
  refine f_begin (by decide +kernel) (Nat.le_of_ble_eq_true rfl) (fun X hC hEn => ?_)
  unfold F_X5_makesWet at hF
  show fAt X 0 0 4 w [(0, .ref a0), (1, .int x1), (2, .int x2), (3, .int x3)] [] 0
  refine f_aload_n hC dX5_makesWet_0 rfl 0 rfl ?_
  refine f_iload_n hC dX5_makesWet_1 rfl 1 rfl ?_
  obtain ⟨g3, hF⟩ := fg_open hF
  obtain ⟨r1, h2, hF⟩ := fb_open hF
  refine f_callV hC [.int x1] (c_X5_isTicket l D cy a0 x1 w r1 h2) q_1415 q_136 q_1412 q_1414 q_85 h9_X5_isTicket rfl (fSm.k (fSm.rf w) g3) ⟨Nat.le_of_ble_eq_true rfl, Nat.le_of_ble_eq_true rfl⟩ ⟨Nat.le_of_ble_eq_true rfl, Nat.le_of_ble_eq_true rfl⟩ (Nat.le_of_ble_eq_true rfl) rfl dX5_makesWet_2 (fun e4 => ?_)
  refine f_if_ne hC 10 dX5_makesWet_5 (by decide) (fun c5 => ?_) (fun c5 => ?_)
  · replace hF := fi_neg hF c5
    refine f_iload_n hC dX5_makesWet_10 rfl 3 rfl ?_
    refine f_iconst (v := 1) hC dX5_makesWet_11 (by decide) ?_
    refine f_bipush (v := 9) hC dX5_makesWet_12 (by decide) ?_
    obtain ⟨r6, h7, hF⟩ := fb_open hF
    refine f_callS hC [.int x3, .int 1, .int 9] (c_X5_in l D cy x3 1 9 w r6 h7) q_1352 q_136 q_1350 q_1351 h9_X5_in ⟨Nat.le_of_ble_eq_true rfl, Nat.le_of_ble_eq_true rfl⟩ ⟨Nat.le_of_ble_eq_true rfl, Nat.le_of_ble_eq_true rfl⟩ (Nat.le_of_ble_eq_true rfl) rfl dX5_makesWet_14 (fun e8 => ?_)
    refine f_if_ne hC 23 dX5_makesWet_17 (by decide) (fun c9 => ?_) (fun c9 => ?_)
    · replace hF := fi_neg hF c9
      refine f_aload_n hC dX5_makesWet_23 rfl 0 rfl ?_
      refine f_iload_n hC dX5_makesWet_24 rfl 1 rfl ?_
      refine f_iload_n hC dX5_makesWet_25 rfl 2 rfl ?_
      refine f_iload_n hC dX5_makesWet_26 rfl 3 rfl ?_
      obtain ⟨r10, h11, hF⟩ := fb_open hF
      refine f_callV hC [.int x1, .int x2, .int x3] (c_X5_getsWet l D cy a0 x1 x2 x3 w r10 h11) q_1501 q_136 q_1498 q_1500 q_99 h9_X5_getsWet rfl (fSm.k (fSm.rf w) g3) ⟨Nat.le_of_ble_eq_true rfl, Nat.le_of_ble_eq_true rfl⟩ ⟨Nat.le_of_ble_eq_true rfl, Nat.le_of_ble_eq_true rfl⟩ (Nat.le_of_ble_eq_true rfl) rfl dX5_makesWet_27 (fun e12 => ?_)
      refine f_aload_n hC dX5_makesWet_30 rfl 0 rfl ?_
      refine f_iload_n hC dX5_makesWet_31 rfl 1 rfl ?_
      refine f_bipush (v := 10) hC dX5_makesWet_32 (by decide) ?_
      obtain ⟨r13, h14, hF⟩ := fb_open hF
      refine f_callV hC [.int x1, .int 10] (c_X5_of l D cy a0 x1 10 r10 r13 h14) q_1447 q_136 q_1444 q_1446 q_90 h9_X5_of rfl (fSm.k (fSm.tr e12 (fSm.rf w)) g3) ⟨Nat.le_of_ble_eq_true rfl, Nat.le_of_ble_eq_true rfl⟩ ⟨Nat.le_of_ble_eq_true rfl, Nat.le_of_ble_eq_true rfl⟩ (Nat.le_of_ble_eq_true rfl) rfl dX5_makesWet_34 (fun e15 => ?_)
      obtain ⟨x16, h17, hF⟩ := fb_open hF
      have K19 : fSm x16 w → fAt X 0 0 4 x16 [(0, .ref a0), (1, .int x1), (2, .int x2)] [] 81 := by
        intro p18
        refine f_aload_n hC dX5_makesWet_81 rfl 0 rfl ?_
        refine f_aload_n hC dX5_makesWet_82 rfl 0 rfl ?_
        refine f_iload_n hC dX5_makesWet_83 rfl 1 rfl ?_
        refine f_iload_n hC dX5_makesWet_84 rfl 2 rfl ?_
        refine f_iconst (v := 1) hC dX5_makesWet_85 (by decide) ?_
        obtain ⟨r20, h21, hF⟩ := fb_open hF
        refine f_callV hC [.int x1, .int x2, .int 1] (c_X5_half l D cy a0 x1 x2 1 x16 r20 h21) q_1478 q_136 q_1475 q_1477 q_95 h9_X5_half rfl (fSm.k p18 g3) ⟨Nat.le_of_ble_eq_true rfl, Nat.le_of_ble_eq_true rfl⟩ ⟨Nat.le_of_ble_eq_true rfl, Nat.le_of_ble_eq_true rfl⟩ (Nat.le_of_ble_eq_true rfl) rfl dX5_makesWet_86 (fun e22 => ?_)
        obtain ⟨r23, h24, hF⟩ := fb_open hF
        refine f_callV hC [.int r20] (c_X5_done l D cy a0 r20 x16 r23 h24) q_1363 q_136 q_1360 q_1362 q_75 h9_X5_done rfl (fSm.k p18 g3) ⟨Nat.le_of_ble_eq_true rfl, Nat.le_of_ble_eq_true rfl⟩ ⟨Nat.le_of_ble_eq_true rfl, Nat.le_of_ble_eq_true rfl⟩ (Nat.le_of_ble_eq_true rfl) rfl dX5_makesWet_89 (fun e25 => ?_)
        obtain rfl := Option.some.inj hF
        exact f_iret hC hEn (fSm.tr e25 p18) dX5_makesWet_92
      refine f_if_ne hC 81 dX5_makesWet_37 (by decide) (fun c26 => ?_) (fun c26 => ?_)
      · replace h17 := fi_neg h17 c26
        obtain rfl := Option.some.inj h17
        refine f_sub (L' := [(0, .ref a0), (1, .int x1), (2, .int x2)]) [0, 1, 2] rfl ?_
        exact K19 (fSm.tr e12 (fSm.rf w))
      · replace h17 := fi_pos h17 c26
        refine f_aload_n hC dX5_makesWet_40 rfl 0 rfl ?_
        refine f_iload_n hC dX5_makesWet_41 rfl 1 rfl ?_
        refine f_iconst (v := 1) hC dX5_makesWet_42 (by decide) ?_
        refine f_iload_n hC dX5_makesWet_43 rfl 2 rfl ?_
        refine f_isub hC dX5_makesWet_44 ?_
        refine f_iload_n hC dX5_makesWet_45 rfl 3 rfl ?_
        refine f_iconst (v := 2) hC dX5_makesWet_46 (by decide) ?_
        refine f_idiv hC dX5_makesWet_47 (by decide) ?_
        obtain ⟨r27, h28, h17⟩ := fb_open h17
        refine f_callV hC [.int x1, .int (1 - x2), .int (x3 / 2)] (c_X5_getsWet l D cy a0 x1 (1 - x2) (x3 / 2) r10 r27 h28) q_1501 q_136 q_1498 q_1500 q_99 h9_X5_getsWet rfl (fSm.k (fSm.tr e12 (fSm.rf w)) g3) ⟨Nat.le_of_ble_eq_true rfl, Nat.le_of_ble_eq_true rfl⟩ ⟨Nat.le_of_ble_eq_true rfl, Nat.le_of_ble_eq_true rfl⟩ (Nat.le_of_ble_eq_true rfl) rfl dX5_makesWet_48 (fun e29 => ?_)
        refine f_aload_n hC dX5_makesWet_51 rfl 0 rfl ?_
        refine f_iload_n hC dX5_makesWet_52 rfl 1 rfl ?_
        refine f_iconst (v := 0) hC dX5_makesWet_53 (by decide) ?_
        refine f_iconst (v := 1) hC dX5_makesWet_54 (by decide) ?_
        obtain ⟨r30, h31, h17⟩ := fb_open h17
        refine f_callV hC [.int x1, .int 0, .int 1] (c_X5_half l D cy a0 x1 0 1 r27 r30 h31) q_1478 q_136 q_1475 q_1477 q_95 h9_X5_half rfl (fSm.k (fSm.tr e29 (fSm.tr e12 (fSm.rf w))) g3) ⟨Nat.le_of_ble_eq_true rfl, Nat.le_of_ble_eq_true rfl⟩ ⟨Nat.le_of_ble_eq_true rfl, Nat.le_of_ble_eq_true rfl⟩ (Nat.le_of_ble_eq_true rfl) rfl dX5_makesWet_55 (fun e32 => ?_)
        refine f_iconst (v := 5) hC dX5_makesWet_58 (by decide) ?_
        refine f_icmp_gt hC 73 dX5_makesWet_59 (by decide) (fun c33 => ?_) (fun c33 => ?_)
        · replace h17 := fi_pos h17 c33
          refine f_aload_n hC dX5_makesWet_73 rfl 0 rfl ?_
          refine f_iload_n hC dX5_makesWet_74 rfl 1 rfl ?_
          refine f_bipush (v := 10) hC dX5_makesWet_75 (by decide) ?_
          refine f_iconst (v := 1) hC dX5_makesWet_77 (by decide) ?_
          obtain ⟨r34, h35, h17⟩ := fb_open h17
          refine f_callV hC [.int x1, .int 10, .int 1] (c_X5_sets l D cy a0 x1 10 1 r27 r34 h35) q_1399 q_136 q_1396 q_1398 q_82 h9_X5_sets rfl (fSm.k (fSm.tr e29 (fSm.tr e12 (fSm.rf w))) g3) ⟨Nat.le_of_ble_eq_true rfl, Nat.le_of_ble_eq_true rfl⟩ ⟨Nat.le_of_ble_eq_true rfl, Nat.le_of_ble_eq_true rfl⟩ (Nat.le_of_ble_eq_true rfl) rfl dX5_makesWet_78 (fun e36 => ?_)
          obtain rfl := Option.some.inj h17
          refine f_sub (L' := [(0, .ref a0), (1, .int x1), (2, .int x2)]) [0, 1, 2] rfl ?_
          exact K19 (fSm.tr e36 (fSm.tr e29 (fSm.tr e12 (fSm.rf w))))
        · replace h17 := fi_neg h17 c33
          refine f_aload_n hC dX5_makesWet_62 rfl 0 rfl ?_
          refine f_iload_n hC dX5_makesWet_63 rfl 1 rfl ?_
          refine f_iconst (v := 1) hC dX5_makesWet_64 (by decide) ?_
          refine f_iconst (v := 1) hC dX5_makesWet_65 (by decide) ?_
          obtain ⟨r37, h38, h17⟩ := fb_open h17
          refine f_callV hC [.int x1, .int 1, .int 1] (c_X5_half l D cy a0 x1 1 1 r27 r37 h38) q_1478 q_136 q_1475 q_1477 q_95 h9_X5_half rfl (fSm.k (fSm.tr e29 (fSm.tr e12 (fSm.rf w))) g3) ⟨Nat.le_of_ble_eq_true rfl, Nat.le_of_ble_eq_true rfl⟩ ⟨Nat.le_of_ble_eq_true rfl, Nat.le_of_ble_eq_true rfl⟩ (Nat.le_of_ble_eq_true rfl) rfl dX5_makesWet_66 (fun e39 => ?_)
          refine f_iconst (v := 5) hC dX5_makesWet_69 (by decide) ?_
          refine f_icmp_le hC 81 dX5_makesWet_70 (by decide) (fun c40 => ?_) (fun c40 => ?_)
          · replace h17 := fi_pos h17 c40
            obtain rfl := Option.some.inj h17
            refine f_sub (L' := [(0, .ref a0), (1, .int x1), (2, .int x2)]) [0, 1, 2] rfl ?_
            exact K19 (fSm.tr e29 (fSm.tr e12 (fSm.rf w)))
          · replace h17 := fi_neg h17 c40
            refine f_aload_n hC dX5_makesWet_73 rfl 0 rfl ?_
            refine f_iload_n hC dX5_makesWet_74 rfl 1 rfl ?_
            refine f_bipush (v := 10) hC dX5_makesWet_75 (by decide) ?_
            refine f_iconst (v := 1) hC dX5_makesWet_77 (by decide) ?_
            obtain ⟨r41, h42, h17⟩ := fb_open h17
            refine f_callV hC [.int x1, .int 10, .int 1] (c_X5_sets l D cy a0 x1 10 1 r27 r41 h42) q_1399 q_136 q_1396 q_1398 q_82 h9_X5_sets rfl (fSm.k (fSm.tr e29 (fSm.tr e12 (fSm.rf w))) g3) ⟨Nat.le_of_ble_eq_true rfl, Nat.le_of_ble_eq_true rfl⟩ ⟨Nat.le_of_ble_eq_true rfl, Nat.le_of_ble_eq_true rfl⟩ (Nat.le_of_ble_eq_true rfl) rfl dX5_makesWet_78 (fun e43 => ?_)
            obtain rfl := Option.some.inj h17
            refine f_sub (L' := [(0, .ref a0), (1, .int x1), (2, .int x2)]) [0, 1, 2] rfl ?_
            exact K19 (fSm.tr e43 (fSm.tr e29 (fSm.tr e12 (fSm.rf w))))
    · replace hF := fi_pos hF c9
      refine f_bipush (v := (-2)) hC dX5_makesWet_20 (by decide) ?_
      obtain rfl := Option.some.inj hF
      exact f_iret hC hEn (fSm.rf w) dX5_makesWet_22
  · replace hF := fi_pos hF c5
    refine f_iconst (v := (-1)) hC dX5_makesWet_8 (by decide) ?_
    obtain rfl := Option.some.inj hF
    exact f_iret hC hEn (fSm.rf w) dX5_makesWet_9
theorem dX5_tornMany_0 : decode cX5_tornMany 0 = .ok (.iconst 0, 1) := by decide +kernel
theorem dX5_tornMany_1 : decode cX5_tornMany 1 = .ok (.istore_n 1, 1) := by decide +kernel
theorem dX5_tornMany_2 : decode cX5_tornMany 2 = .ok (.iconst 0, 1) := by decide +kernel
theorem dX5_tornMany_3 : decode cX5_tornMany 3 = .ok (.istore_n 2, 1) := by decide +kernel
theorem dX5_tornMany_4 : decode cX5_tornMany 4 = .ok (.iload_n 2, 1) := by decide +kernel
theorem dX5_tornMany_5 : decode cX5_tornMany 5 = .ok (.aload_n 0, 1) := by decide +kernel
theorem dX5_tornMany_6 : decode cX5_tornMany 6 = .ok (.getfield 7, 3) := by decide +kernel
theorem dX5_tornMany_9 : decode cX5_tornMany 9 = .ok (.iconst 0, 1) := by decide +kernel
theorem dX5_tornMany_10 : decode cX5_tornMany 10 = .ok (.iaload, 1) := by decide +kernel
theorem dX5_tornMany_11 : decode cX5_tornMany 11 = .ok (.if_icmp .ge 19, 3) := by decide +kernel
theorem dX5_tornMany_14 : decode cX5_tornMany 14 = .ok (.iload_n 1, 1) := by decide +kernel
theorem dX5_tornMany_15 : decode cX5_tornMany 15 = .ok (.aload_n 0, 1) := by decide +kernel
theorem dX5_tornMany_16 : decode cX5_tornMany 16 = .ok (.iload_n 2, 1) := by decide +kernel
theorem dX5_tornMany_17 : decode cX5_tornMany 17 = .ok (.bipush 10, 2) := by decide +kernel
theorem dX5_tornMany_19 : decode cX5_tornMany 19 = .ok (.invokevirtual 70, 3) := by decide +kernel
theorem dX5_tornMany_22 : decode cX5_tornMany 22 = .ok (.iadd, 1) := by decide +kernel
theorem dX5_tornMany_23 : decode cX5_tornMany 23 = .ok (.istore_n 1, 1) := by decide +kernel
theorem dX5_tornMany_24 : decode cX5_tornMany 24 = .ok (.iinc 2 1, 3) := by decide +kernel
theorem dX5_tornMany_27 : decode cX5_tornMany 27 = .ok (.goto (-23), 3) := by decide +kernel
theorem dX5_tornMany_30 : decode cX5_tornMany 30 = .ok (.iload_n 1, 1) := by decide +kernel
theorem dX5_tornMany_31 : decode cX5_tornMany 31 = .ok (.ireturn, 1) := by decide +kernel
theorem h9_X5_tornMany : yX5_tornMany.cls ≠ "java/lang/invoke/MethodHandle" ∧ yX5_tornMany.cls ≠ "java/lang/invoke/VarHandle" ∧ (parseMethodDescriptor yX5_tornMany.desc).map (fun d => d.parameters.length) = some 0 := by decide +kernel
noncomputable def F_X5_tornMany (a0 : Nat) (w : FW) : Option (Int32) :=
  (fLoop (σ := Int32 × Int32) (ρ := Int32) (fun s1 => fg (w.1 a0 = 6) inferInstance (fg (w.1 (gR w 501 a0 0) = 11) inferInstance (fg (¬ (0 < 0 ∨ w.2.1 (gR w 501 a0 0) ≤ Int32.toNatClampNeg 0)) inferInstance ((if (gI w 601 (gR w 501 a0 0) (Int32.toNatClampNeg 0)) ≤ s1.2 then some (.inr s1.1) else (F_X5_of a0 s1.2 10 w).bind (fun r14 => some (.inl ((s1.1 + r14), (s1.2 + 1))))))))) (0, 0)).bind (fun x7 => some x7)
set_option maxHeartbeats 4000000 in
set_option maxRecDepth 100000 in
theorem c_X5_tornMany (l : Launch) (D : va_G) (cy : Nat → ClassId) (a0 : Nat) (w : FW) (r : Int32) (hF : F_X5_tornMany a0 w = some r) : fSpec l D cy yX5_tornMany cX5_tornMany 3 (some .int) { frames := 1, cells := 0, slots := 0, locals := 22 } [.ref a0] w w (some (.int r)) := by
  refine f_begin (by decide +kernel) (Nat.le_of_ble_eq_true rfl) (fun X hC hEn => ?_)
  unfold F_X5_tornMany at hF
  show fAt X 0 0 3 w [(0, .ref a0)] [] 0
  refine f_iconst (v := 0) hC dX5_tornMany_0 (by decide) ?_
  refine f_istore_n (L' := [(1, .int 0), (0, .ref a0)]) hC dX5_tornMany_1 rfl (by decide) rfl ?_
  refine f_iconst (v := 0) hC dX5_tornMany_2 (by decide) ?_
  refine f_istore_n (L' := [(2, .int 0), (1, .int 0), (0, .ref a0)]) hC dX5_tornMany_3 rfl (by decide) rfl ?_
  obtain ⟨x7, h8, hF⟩ := fb_open hF
  have K9 : fAt X 0 0 3 w [(1, .int x7)] [] 30 := by
    refine f_iload_n hC dX5_tornMany_30 rfl 0 rfl ?_
    obtain rfl := Option.some.inj hF
    exact f_iret hC hEn (fSm.rf w) dX5_tornMany_31
  refine f_sub (L' := [(0, .ref a0), (1, .int 0), (2, .int 0)]) [2, 1, 0] rfl ?_
  refine fLoop_ind (fun (s1 : Int32 × Int32) => fAt X 0 0 3 w [(0, .ref a0), (1, .int s1.1), (2, .int s1.2)] [] 4) (fun s1 y6 h2 go3 ou4 => ?_) h8
  refine f_iload_n hC dX5_tornMany_4 rfl 2 rfl ?_
  refine f_aload_n hC dX5_tornMany_5 rfl 0 rfl ?_
  obtain ⟨g10, h2⟩ := fg_open h2
  refine f_getR hC 5 1 501 rfl (by decide) iX5 q_1255 rfl rfl (fSm.k (fSm.rf w) g10) dX5_tornMany_6 ?_
  refine f_iconst (v := 0) hC dX5_tornMany_9 (by decide) ?_
  obtain ⟨g11, h2⟩ := fg_open h2
  obtain ⟨g12, h2⟩ := fg_open h2
  refine f_iald hC (fSm.k (fSm.rf w) g11) (fSm.v (fSm.rf w) g12) dX5_tornMany_10 ?_
  refine f_icmp_ge hC 30 dX5_tornMany_11 (by decide) (fun c13 => ?_) (fun c13 => ?_)
  · replace h2 := fi_pos h2 c13
    obtain rfl := Option.some.inj h2
    obtain rfl := ou4 _ rfl
    refine f_sub (L' := [(1, .int s1.1)]) [1] rfl ?_
    exact K9
  · replace h2 := fi_neg h2 c13
    refine f_iload_n hC dX5_tornMany_14 rfl 1 rfl ?_
    refine f_aload_n hC dX5_tornMany_15 rfl 0 rfl ?_
    refine f_iload_n hC dX5_tornMany_16 rfl 2 rfl ?_
    refine f_bipush (v := 10) hC dX5_tornMany_17 (by decide) ?_
    obtain ⟨r14, h15, h2⟩ := fb_open h2
    refine f_callV hC [.int s1.2, .int 10] (c_X5_of l D cy a0 s1.2 10 w r14 h15) q_1447 q_136 q_1444 q_1446 q_90 h9_X5_of rfl (fSm.k (fSm.rf w) g10) ⟨Nat.le_of_ble_eq_true rfl, Nat.le_of_ble_eq_true rfl⟩ ⟨Nat.le_of_ble_eq_true rfl, Nat.le_of_ble_eq_true rfl⟩ (Nat.le_of_ble_eq_true rfl) rfl dX5_tornMany_19 (fun e16 => ?_)
    refine f_iadd hC dX5_tornMany_22 ?_
    refine f_istore_n (L' := [(1, .int (s1.1 + r14)), (0, .ref a0), (2, .int s1.2)]) hC dX5_tornMany_23 rfl (by decide) rfl ?_
    refine f_iinc (L' := [(2, .int (s1.2 + 1)), (1, .int (s1.1 + r14)), (0, .ref a0)]) hC dX5_tornMany_24 2 rfl rfl (by decide) rfl ?_
    refine f_goto hC 4 dX5_tornMany_27 (by decide) ?_
    obtain rfl := Option.some.inj h2
    refine f_sub (L' := [(0, .ref a0), (1, .int (s1.1 + r14)), (2, .int (s1.2 + 1))]) [2, 1, 0] rfl ?_
    exact go3 _ rfl
theorem dX5_tears_0 : decode cX5_tears 0 = .ok (.aload_n 0, 1) := by decide +kernel
theorem dX5_tears_1 : decode cX5_tears 1 = .ok (.iload_n 1, 1) := by decide +kernel
theorem dX5_tears_2 : decode cX5_tears 2 = .ok (.invokevirtual 135, 3) := by decide +kernel
theorem dX5_tears_5 : decode cX5_tears 5 = .ok (.ifCond .ne 5, 3) := by decide +kernel
theorem dX5_tears_8 : decode cX5_tears 8 = .ok (.iconst (-1), 1) := by decide +kernel
theorem dX5_tears_9 : decode cX5_tears 9 = .ok (.ireturn, 1) := by decide +kernel
theorem dX5_tears_10 : decode cX5_tears 10 = .ok (.aload_n 0, 1) := by decide +kernel
theorem dX5_tears_11 : decode cX5_tears 11 = .ok (.iload_n 1, 1) := by decide +kernel
theorem dX5_tears_12 : decode cX5_tears 12 = .ok (.bipush 10, 2) := by decide +kernel
theorem dX5_tears_14 : decode cX5_tears 14 = .ok (.invokevirtual 70, 3) := by decide +kernel
theorem dX5_tears_17 : decode cX5_tears 17 = .ok (.iconst 1, 1) := by decide +kernel
theorem dX5_tears_18 : decode cX5_tears 18 = .ok (.if_icmp .ne 10, 3) := by decide +kernel
theorem dX5_tears_21 : decode cX5_tears 21 = .ok (.aload_n 0, 1) := by decide +kernel
theorem dX5_tears_22 : decode cX5_tears 22 = .ok (.iconst 3, 1) := by decide +kernel
theorem dX5_tears_23 : decode cX5_tears 23 = .ok (.iconst 1, 1) := by decide +kernel
theorem dX5_tears_24 : decode cX5_tears 24 = .ok (.invokevirtual 122, 3) := by decide +kernel
theorem dX5_tears_27 : decode cX5_tears 27 = .ok (.ireturn, 1) := by decide +kernel
theorem dX5_tears_28 : decode cX5_tears 28 = .ok (.aload_n 0, 1) := by decide +kernel
theorem dX5_tears_29 : decode cX5_tears 29 = .ok (.iload_n 1, 1) := by decide +kernel
theorem dX5_tears_30 : decode cX5_tears 30 = .ok (.bipush 10, 2) := by decide +kernel
theorem dX5_tears_32 : decode cX5_tears 32 = .ok (.iconst 1, 1) := by decide +kernel
theorem dX5_tears_33 : decode cX5_tears 33 = .ok (.invokevirtual 74, 3) := by decide +kernel
theorem dX5_tears_36 : decode cX5_tears 36 = .ok (.aload_n 0, 1) := by decide +kernel
theorem dX5_tears_37 : decode cX5_tears 37 = .ok (.aload_n 0, 1) := by decide +kernel
theorem dX5_tears_38 : decode cX5_tears 38 = .ok (.invokevirtual 151, 3) := by decide +kernel
theorem dX5_tears_41 : decode cX5_tears 41 = .ok (.invokevirtual 125, 3) := by decide +kernel
theorem dX5_tears_44 : decode cX5_tears 44 = .ok (.ireturn, 1) := by decide +kernel
theorem h9_X5_tears : yX5_tears.cls ≠ "java/lang/invoke/MethodHandle" ∧ yX5_tears.cls ≠ "java/lang/invoke/VarHandle" ∧ (parseMethodDescriptor yX5_tears.desc).map (fun d => d.parameters.length) = some 1 := by decide +kernel
noncomputable def F_X5_tears (a0 : Nat) (x1 : Int32) (w : FW) : Option (Int32 × FW) :=
  fg (w.1 a0 = 6) inferInstance ((F_X5_isTicket a0 x1 w).bind (fun r1 => (if r1 = 0 then some ((-1), w) else (F_X5_of a0 x1 10 w).bind (fun r6 => (if r6 = 1 then (F_X5_refused a0 3 1 w).bind (fun r19 => some (r19.1, r19.2)) else (F_X5_sets a0 x1 10 1 w).bind (fun r10 => (F_X5_tornMany a0 r10).bind (fun r13 => (F_X5_done a0 r13 r10).bind (fun r16 => some (r16.1, r16.2)))))))))
set_option maxHeartbeats 4000000 in
set_option maxRecDepth 100000 in
theorem c_X5_tears (l : Launch) (D : va_G) (cy : Nat → ClassId) (a0 : Nat) (x1 : Int32) (w : FW) (r : Int32 × FW) (hF : F_X5_tears a0 x1 w = some r) : fSpec l D cy yX5_tears cX5_tears 2 (some .int) { frames := 2, cells := 0, slots := 0, locals := 44 } [.ref a0, .int x1] w r.2 (some (.int r.1)) := by
  refine f_begin (by decide +kernel) (Nat.le_of_ble_eq_true rfl) (fun X hC hEn => ?_)
  unfold F_X5_tears at hF
  show fAt X 0 0 2 w [(0, .ref a0), (1, .int x1)] [] 0
  refine f_aload_n hC dX5_tears_0 rfl 0 rfl ?_
  refine f_iload_n hC dX5_tears_1 rfl 1 rfl ?_
  obtain ⟨g3, hF⟩ := fg_open hF
  obtain ⟨r1, h2, hF⟩ := fb_open hF
  refine f_callV hC [.int x1] (c_X5_isTicket l D cy a0 x1 w r1 h2) q_1415 q_136 q_1412 q_1414 q_85 h9_X5_isTicket rfl (fSm.k (fSm.rf w) g3) ⟨Nat.le_of_ble_eq_true rfl, Nat.le_of_ble_eq_true rfl⟩ ⟨Nat.le_of_ble_eq_true rfl, Nat.le_of_ble_eq_true rfl⟩ (Nat.le_of_ble_eq_true rfl) rfl dX5_tears_2 (fun e4 => ?_)
  refine f_if_ne hC 10 dX5_tears_5 (by decide) (fun c5 => ?_) (fun c5 => ?_)
  · replace hF := fi_neg hF c5
    refine f_aload_n hC dX5_tears_10 rfl 0 rfl ?_
    refine f_iload_n hC dX5_tears_11 rfl 1 rfl ?_
    refine f_bipush (v := 10) hC dX5_tears_12 (by decide) ?_
    obtain ⟨r6, h7, hF⟩ := fb_open hF
    refine f_callV hC [.int x1, .int 10] (c_X5_of l D cy a0 x1 10 w r6 h7) q_1447 q_136 q_1444 q_1446 q_90 h9_X5_of rfl (fSm.k (fSm.rf w) g3) ⟨Nat.le_of_ble_eq_true rfl, Nat.le_of_ble_eq_true rfl⟩ ⟨Nat.le_of_ble_eq_true rfl, Nat.le_of_ble_eq_true rfl⟩ (Nat.le_of_ble_eq_true rfl) rfl dX5_tears_14 (fun e8 => ?_)
    refine f_iconst (v := 1) hC dX5_tears_17 (by decide) ?_
    refine f_icmp_ne hC 28 dX5_tears_18 (by decide) (fun c9 => ?_) (fun c9 => ?_)
    · replace hF := fi_neg hF c9
      refine f_aload_n hC dX5_tears_28 rfl 0 rfl ?_
      refine f_iload_n hC dX5_tears_29 rfl 1 rfl ?_
      refine f_bipush (v := 10) hC dX5_tears_30 (by decide) ?_
      refine f_iconst (v := 1) hC dX5_tears_32 (by decide) ?_
      obtain ⟨r10, h11, hF⟩ := fb_open hF
      refine f_callV hC [.int x1, .int 10, .int 1] (c_X5_sets l D cy a0 x1 10 1 w r10 h11) q_1399 q_136 q_1396 q_1398 q_82 h9_X5_sets rfl (fSm.k (fSm.rf w) g3) ⟨Nat.le_of_ble_eq_true rfl, Nat.le_of_ble_eq_true rfl⟩ ⟨Nat.le_of_ble_eq_true rfl, Nat.le_of_ble_eq_true rfl⟩ (Nat.le_of_ble_eq_true rfl) rfl dX5_tears_33 (fun e12 => ?_)
      refine f_aload_n hC dX5_tears_36 rfl 0 rfl ?_
      refine f_aload_n hC dX5_tears_37 rfl 0 rfl ?_
      obtain ⟨r13, h14, hF⟩ := fb_open hF
      refine f_callV hC [] (c_X5_tornMany l D cy a0 r10 r13 h14) q_1513 q_136 q_1510 q_1512 q_101 h9_X5_tornMany rfl (fSm.k (fSm.tr e12 (fSm.rf w)) g3) ⟨Nat.le_of_ble_eq_true rfl, Nat.le_of_ble_eq_true rfl⟩ ⟨Nat.le_of_ble_eq_true rfl, Nat.le_of_ble_eq_true rfl⟩ (Nat.le_of_ble_eq_true rfl) rfl dX5_tears_38 (fun e15 => ?_)
      obtain ⟨r16, h17, hF⟩ := fb_open hF
      refine f_callV hC [.int r13] (c_X5_done l D cy a0 r13 r10 r16 h17) q_1363 q_136 q_1360 q_1362 q_75 h9_X5_done rfl (fSm.k (fSm.tr e12 (fSm.rf w)) g3) ⟨Nat.le_of_ble_eq_true rfl, Nat.le_of_ble_eq_true rfl⟩ ⟨Nat.le_of_ble_eq_true rfl, Nat.le_of_ble_eq_true rfl⟩ (Nat.le_of_ble_eq_true rfl) rfl dX5_tears_41 (fun e18 => ?_)
      obtain rfl := Option.some.inj hF
      exact f_iret hC hEn (fSm.tr e18 (fSm.tr e12 (fSm.rf w))) dX5_tears_44
    · replace hF := fi_pos hF c9
      refine f_aload_n hC dX5_tears_21 rfl 0 rfl ?_
      refine f_iconst (v := 3) hC dX5_tears_22 (by decide) ?_
      refine f_iconst (v := 1) hC dX5_tears_23 (by decide) ?_
      obtain ⟨r19, h20, hF⟩ := fb_open hF
      refine f_callV hC [.int 3, .int 1] (c_X5_refused l D cy a0 3 1 w r19 h20) q_1359 q_136 q_1356 q_1358 q_74 h9_X5_refused rfl (fSm.k (fSm.rf w) g3) ⟨Nat.le_of_ble_eq_true rfl, Nat.le_of_ble_eq_true rfl⟩ ⟨Nat.le_of_ble_eq_true rfl, Nat.le_of_ble_eq_true rfl⟩ (Nat.le_of_ble_eq_true rfl) rfl dX5_tears_24 (fun e21 => ?_)
      obtain rfl := Option.some.inj hF
      exact f_iret hC hEn (fSm.tr e21 (fSm.rf w)) dX5_tears_27
  · replace hF := fi_pos hF c5
    refine f_iconst (v := (-1)) hC dX5_tears_8 (by decide) ?_
    obtain rfl := Option.some.inj hF
    exact f_iret hC hEn (fSm.rf w) dX5_tears_9
theorem dX5_lostMany_0 : decode cX5_lostMany 0 = .ok (.iconst 0, 1) := by decide +kernel
theorem dX5_lostMany_1 : decode cX5_lostMany 1 = .ok (.istore_n 1, 1) := by decide +kernel
theorem dX5_lostMany_2 : decode cX5_lostMany 2 = .ok (.iconst 0, 1) := by decide +kernel
theorem dX5_lostMany_3 : decode cX5_lostMany 3 = .ok (.istore_n 2, 1) := by decide +kernel
theorem dX5_lostMany_4 : decode cX5_lostMany 4 = .ok (.iload_n 2, 1) := by decide +kernel
theorem dX5_lostMany_5 : decode cX5_lostMany 5 = .ok (.aload_n 0, 1) := by decide +kernel
theorem dX5_lostMany_6 : decode cX5_lostMany 6 = .ok (.getfield 7, 3) := by decide +kernel
theorem dX5_lostMany_9 : decode cX5_lostMany 9 = .ok (.iconst 0, 1) := by decide +kernel
theorem dX5_lostMany_10 : decode cX5_lostMany 10 = .ok (.iaload, 1) := by decide +kernel
theorem dX5_lostMany_11 : decode cX5_lostMany 11 = .ok (.if_icmp .ge 27, 3) := by decide +kernel
theorem dX5_lostMany_14 : decode cX5_lostMany 14 = .ok (.iload_n 1, 1) := by decide +kernel
theorem dX5_lostMany_15 : decode cX5_lostMany 15 = .ok (.aload_n 0, 1) := by decide +kernel
theorem dX5_lostMany_16 : decode cX5_lostMany 16 = .ok (.iload_n 2, 1) := by decide +kernel
theorem dX5_lostMany_17 : decode cX5_lostMany 17 = .ok (.iconst 0, 1) := by decide +kernel
theorem dX5_lostMany_18 : decode cX5_lostMany 18 = .ok (.iconst 2, 1) := by decide +kernel
theorem dX5_lostMany_19 : decode cX5_lostMany 19 = .ok (.invokevirtual 78, 3) := by decide +kernel
theorem dX5_lostMany_22 : decode cX5_lostMany 22 = .ok (.aload_n 0, 1) := by decide +kernel
theorem dX5_lostMany_23 : decode cX5_lostMany 23 = .ok (.iload_n 2, 1) := by decide +kernel
theorem dX5_lostMany_24 : decode cX5_lostMany 24 = .ok (.iconst 1, 1) := by decide +kernel
theorem dX5_lostMany_25 : decode cX5_lostMany 25 = .ok (.iconst 2, 1) := by decide +kernel
theorem dX5_lostMany_26 : decode cX5_lostMany 26 = .ok (.invokevirtual 78, 3) := by decide +kernel
theorem dX5_lostMany_29 : decode cX5_lostMany 29 = .ok (.iadd, 1) := by decide +kernel
theorem dX5_lostMany_30 : decode cX5_lostMany 30 = .ok (.iadd, 1) := by decide +kernel
theorem dX5_lostMany_31 : decode cX5_lostMany 31 = .ok (.istore_n 1, 1) := by decide +kernel
theorem dX5_lostMany_32 : decode cX5_lostMany 32 = .ok (.iinc 2 1, 3) := by decide +kernel
theorem dX5_lostMany_35 : decode cX5_lostMany 35 = .ok (.goto (-31), 3) := by decide +kernel
theorem dX5_lostMany_38 : decode cX5_lostMany 38 = .ok (.iload_n 1, 1) := by decide +kernel
theorem dX5_lostMany_39 : decode cX5_lostMany 39 = .ok (.ireturn, 1) := by decide +kernel
theorem h9_X5_lostMany : yX5_lostMany.cls ≠ "java/lang/invoke/MethodHandle" ∧ yX5_lostMany.cls ≠ "java/lang/invoke/VarHandle" ∧ (parseMethodDescriptor yX5_lostMany.desc).map (fun d => d.parameters.length) = some 0 := by decide +kernel
noncomputable def F_X5_lostMany (a0 : Nat) (w : FW) : Option (Int32) :=
  (fLoop (σ := Int32 × Int32) (ρ := Int32) (fun s1 => fg (w.1 a0 = 6) inferInstance (fg (w.1 (gR w 501 a0 0) = 11) inferInstance (fg (¬ (0 < 0 ∨ w.2.1 (gR w 501 a0 0) ≤ Int32.toNatClampNeg 0)) inferInstance ((if (gI w 601 (gR w 501 a0 0) (Int32.toNatClampNeg 0)) ≤ s1.2 then some (.inr s1.1) else (F_X5_half a0 s1.2 0 2 w).bind (fun r14 => (F_X5_half a0 s1.2 1 2 w).bind (fun r17 => some (.inl ((s1.1 + (r14 + r17)), (s1.2 + 1)))))))))) (0, 0)).bind (fun x7 => some x7)
set_option maxHeartbeats 4000000 in
set_option maxRecDepth 100000 in
theorem c_X5_lostMany (l : Launch) (D : va_G) (cy : Nat → ClassId) (a0 : Nat) (w : FW) (r : Int32) (hF : F_X5_lostMany a0 w = some r) : fSpec l D cy yX5_lostMany cX5_lostMany 3 (some .int) { frames := 2, cells := 0, slots := 0, locals := 45 } [.ref a0] w w (some (.int r)) := by
  refine f_begin (by decide +kernel) (Nat.le_of_ble_eq_true rfl) (fun X hC hEn => ?_)
  unfold F_X5_lostMany at hF
  show fAt X 0 0 3 w [(0, .ref a0)] [] 0
  refine f_iconst (v := 0) hC dX5_lostMany_0 (by decide) ?_
  refine f_istore_n (L' := [(1, .int 0), (0, .ref a0)]) hC dX5_lostMany_1 rfl (by decide) rfl ?_
  refine f_iconst (v := 0) hC dX5_lostMany_2 (by decide) ?_
  refine f_istore_n (L' := [(2, .int 0), (1, .int 0), (0, .ref a0)]) hC dX5_lostMany_3 rfl (by decide) rfl ?_
  obtain ⟨x7, h8, hF⟩ := fb_open hF
  have K9 : fAt X 0 0 3 w [(1, .int x7)] [] 38 := by
    refine f_iload_n hC dX5_lostMany_38 rfl 0 rfl ?_
    obtain rfl := Option.some.inj hF
    exact f_iret hC hEn (fSm.rf w) dX5_lostMany_39
  refine f_sub (L' := [(0, .ref a0), (1, .int 0), (2, .int 0)]) [2, 1, 0] rfl ?_
  refine fLoop_ind (fun (s1 : Int32 × Int32) => fAt X 0 0 3 w [(0, .ref a0), (1, .int s1.1), (2, .int s1.2)] [] 4) (fun s1 y6 h2 go3 ou4 => ?_) h8
  refine f_iload_n hC dX5_lostMany_4 rfl 2 rfl ?_
  refine f_aload_n hC dX5_lostMany_5 rfl 0 rfl ?_
  obtain ⟨g10, h2⟩ := fg_open h2
  refine f_getR hC 5 1 501 rfl (by decide) iX5 q_1255 rfl rfl (fSm.k (fSm.rf w) g10) dX5_lostMany_6 ?_
  refine f_iconst (v := 0) hC dX5_lostMany_9 (by decide) ?_
  obtain ⟨g11, h2⟩ := fg_open h2
  obtain ⟨g12, h2⟩ := fg_open h2
  refine f_iald hC (fSm.k (fSm.rf w) g11) (fSm.v (fSm.rf w) g12) dX5_lostMany_10 ?_
  refine f_icmp_ge hC 38 dX5_lostMany_11 (by decide) (fun c13 => ?_) (fun c13 => ?_)
  · replace h2 := fi_pos h2 c13
    obtain rfl := Option.some.inj h2
    obtain rfl := ou4 _ rfl
    refine f_sub (L' := [(1, .int s1.1)]) [1] rfl ?_
    exact K9
  · replace h2 := fi_neg h2 c13
    refine f_iload_n hC dX5_lostMany_14 rfl 1 rfl ?_
    refine f_aload_n hC dX5_lostMany_15 rfl 0 rfl ?_
    refine f_iload_n hC dX5_lostMany_16 rfl 2 rfl ?_
    refine f_iconst (v := 0) hC dX5_lostMany_17 (by decide) ?_
    refine f_iconst (v := 2) hC dX5_lostMany_18 (by decide) ?_
    obtain ⟨r14, h15, h2⟩ := fb_open h2
    refine f_callV hC [.int s1.2, .int 0, .int 2] (c_X5_half l D cy a0 s1.2 0 2 w r14 h15) q_1478 q_136 q_1475 q_1477 q_95 h9_X5_half rfl (fSm.k (fSm.rf w) g10) ⟨Nat.le_of_ble_eq_true rfl, Nat.le_of_ble_eq_true rfl⟩ ⟨Nat.le_of_ble_eq_true rfl, Nat.le_of_ble_eq_true rfl⟩ (Nat.le_of_ble_eq_true rfl) rfl dX5_lostMany_19 (fun e16 => ?_)
    refine f_aload_n hC dX5_lostMany_22 rfl 0 rfl ?_
    refine f_iload_n hC dX5_lostMany_23 rfl 2 rfl ?_
    refine f_iconst (v := 1) hC dX5_lostMany_24 (by decide) ?_
    refine f_iconst (v := 2) hC dX5_lostMany_25 (by decide) ?_
    obtain ⟨r17, h18, h2⟩ := fb_open h2
    refine f_callV hC [.int s1.2, .int 1, .int 2] (c_X5_half l D cy a0 s1.2 1 2 w r17 h18) q_1478 q_136 q_1475 q_1477 q_95 h9_X5_half rfl (fSm.k (fSm.rf w) g10) ⟨Nat.le_of_ble_eq_true rfl, Nat.le_of_ble_eq_true rfl⟩ ⟨Nat.le_of_ble_eq_true rfl, Nat.le_of_ble_eq_true rfl⟩ (Nat.le_of_ble_eq_true rfl) rfl dX5_lostMany_26 (fun e19 => ?_)
    refine f_iadd hC dX5_lostMany_29 ?_
    refine f_iadd hC dX5_lostMany_30 ?_
    refine f_istore_n (L' := [(1, .int (s1.1 + (r14 + r17))), (0, .ref a0), (2, .int s1.2)]) hC dX5_lostMany_31 rfl (by decide) rfl ?_
    refine f_iinc (L' := [(2, .int (s1.2 + 1)), (1, .int (s1.1 + (r14 + r17))), (0, .ref a0)]) hC dX5_lostMany_32 2 rfl rfl (by decide) rfl ?_
    refine f_goto hC 4 dX5_lostMany_35 (by decide) ?_
    obtain rfl := Option.some.inj h2
    refine f_sub (L' := [(0, .ref a0), (1, .int (s1.1 + (r14 + r17))), (2, .int (s1.2 + 1))]) [2, 1, 0] rfl ?_
    exact go3 _ rfl
theorem dX5_goes_0 : decode cX5_goes 0 = .ok (.aload_n 0, 1) := by decide +kernel
theorem dX5_goes_1 : decode cX5_goes 1 = .ok (.iload_n 1, 1) := by decide +kernel
theorem dX5_goes_2 : decode cX5_goes 2 = .ok (.invokevirtual 135, 3) := by decide +kernel
theorem dX5_goes_5 : decode cX5_goes 5 = .ok (.ifCond .ne 5, 3) := by decide +kernel
theorem dX5_goes_8 : decode cX5_goes 8 = .ok (.iconst (-1), 1) := by decide +kernel
theorem dX5_goes_9 : decode cX5_goes 9 = .ok (.ireturn, 1) := by decide +kernel
theorem dX5_goes_10 : decode cX5_goes 10 = .ok (.aload_n 0, 1) := by decide +kernel
theorem dX5_goes_11 : decode cX5_goes 11 = .ok (.iload_n 1, 1) := by decide +kernel
theorem dX5_goes_12 : decode cX5_goes 12 = .ok (.iload_n 2, 1) := by decide +kernel
theorem dX5_goes_13 : decode cX5_goes 13 = .ok (.iconst 2, 1) := by decide +kernel
theorem dX5_goes_14 : decode cX5_goes 14 = .ok (.invokevirtual 78, 3) := by decide +kernel
theorem dX5_goes_17 : decode cX5_goes 17 = .ok (.iload_n 3, 1) := by decide +kernel
theorem dX5_goes_18 : decode cX5_goes 18 = .ok (.if_icmp .ne 10, 3) := by decide +kernel
theorem dX5_goes_21 : decode cX5_goes 21 = .ok (.aload_n 0, 1) := by decide +kernel
theorem dX5_goes_22 : decode cX5_goes 22 = .ok (.iconst 3, 1) := by decide +kernel
theorem dX5_goes_23 : decode cX5_goes 23 = .ok (.iconst 1, 1) := by decide +kernel
theorem dX5_goes_24 : decode cX5_goes 24 = .ok (.invokevirtual 122, 3) := by decide +kernel
theorem dX5_goes_27 : decode cX5_goes 27 = .ok (.ireturn, 1) := by decide +kernel
theorem dX5_goes_28 : decode cX5_goes 28 = .ok (.aload_n 0, 1) := by decide +kernel
theorem dX5_goes_29 : decode cX5_goes 29 = .ok (.iload_n 1, 1) := by decide +kernel
theorem dX5_goes_30 : decode cX5_goes 30 = .ok (.iload_n 2, 1) := by decide +kernel
theorem dX5_goes_31 : decode cX5_goes 31 = .ok (.iconst 2, 1) := by decide +kernel
theorem dX5_goes_32 : decode cX5_goes 32 = .ok (.iload_n 3, 1) := by decide +kernel
theorem dX5_goes_33 : decode cX5_goes 33 = .ok (.invokevirtual 128, 3) := by decide +kernel
theorem dX5_goes_36 : decode cX5_goes 36 = .ok (.aload_n 0, 1) := by decide +kernel
theorem dX5_goes_37 : decode cX5_goes 37 = .ok (.iload_n 1, 1) := by decide +kernel
theorem dX5_goes_38 : decode cX5_goes 38 = .ok (.bipush 10, 2) := by decide +kernel
theorem dX5_goes_40 : decode cX5_goes 40 = .ok (.invokevirtual 70, 3) := by decide +kernel
theorem dX5_goes_43 : decode cX5_goes 43 = .ok (.ifCond .ne 13, 3) := by decide +kernel
theorem dX5_goes_46 : decode cX5_goes 46 = .ok (.aload_n 0, 1) := by decide +kernel
theorem dX5_goes_47 : decode cX5_goes 47 = .ok (.iload_n 1, 1) := by decide +kernel
theorem dX5_goes_48 : decode cX5_goes 48 = .ok (.iconst 1, 1) := by decide +kernel
theorem dX5_goes_49 : decode cX5_goes 49 = .ok (.iload_n 2, 1) := by decide +kernel
theorem dX5_goes_50 : decode cX5_goes 50 = .ok (.isub, 1) := by decide +kernel
theorem dX5_goes_51 : decode cX5_goes 51 = .ok (.iconst 2, 1) := by decide +kernel
theorem dX5_goes_52 : decode cX5_goes 52 = .ok (.iload_n 3, 1) := by decide +kernel
theorem dX5_goes_53 : decode cX5_goes 53 = .ok (.invokevirtual 128, 3) := by decide +kernel
theorem dX5_goes_56 : decode cX5_goes 56 = .ok (.aload_n 0, 1) := by decide +kernel
theorem dX5_goes_57 : decode cX5_goes 57 = .ok (.aload_n 0, 1) := by decide +kernel
theorem dX5_goes_58 : decode cX5_goes 58 = .ok (.invokevirtual 154, 3) := by decide +kernel
theorem dX5_goes_61 : decode cX5_goes 61 = .ok (.invokevirtual 125, 3) := by decide +kernel
theorem dX5_goes_64 : decode cX5_goes 64 = .ok (.ireturn, 1) := by decide +kernel
theorem h9_X5_goes : yX5_goes.cls ≠ "java/lang/invoke/MethodHandle" ∧ yX5_goes.cls ≠ "java/lang/invoke/VarHandle" ∧ (parseMethodDescriptor yX5_goes.desc).map (fun d => d.parameters.length) = some 3 := by decide +kernel
noncomputable def F_X5_goes (a0 : Nat) (x1 : Int32) (x2 : Int32) (x3 : Int32) (w : FW) : Option (Int32 × FW) :=
  fg (w.1 a0 = 6) inferInstance ((F_X5_isTicket a0 x1 w).bind (fun r1 => (if r1 = 0 then some ((-1), w) else (F_X5_half a0 x1 x2 2 w).bind (fun r6 => (if r6 = x3 then (F_X5_refused a0 3 1 w).bind (fun r30 => some (r30.1, r30.2)) else (F_X5_setsHalf a0 x1 x2 2 x3 w).bind (fun r10 => (F_X5_of a0 x1 10 r10).bind (fun r13 => ((if r13 = 0 then (F_X5_setsHalf a0 x1 (1 - x2) 2 x3 r10).bind (fun r27 => some r27) else some r10) : Option (FW)).bind (fun x16 => (F_X5_lostMany a0 x16).bind (fun r20 => (F_X5_done a0 r20 x16).bind (fun r23 => some (r23.1, r23.2)))))))))))
set_option maxHeartbeats 4000000 in
set_option maxRecDepth 100000 in
theorem c_X5_goes (l : Launch) (D : va_G) (cy : Nat → ClassId) (a0 : Nat) (x1 : Int32) (x2 : Int32) (x3 : Int32) (w : FW) (r : Int32 × FW) (hF : F_X5_goes a0 x1 x2 x3 w = some r) : fSpec l D cy yX5_goes cX5_goes 4 (some .int) { frames := 3, cells := 0, slots := 0, locals := 67 } [.ref a0, .int x1, .int x2, .int x3] w r.2 (some (.int r.1)) := by
  refine f_begin (by decide +kernel) (Nat.le_of_ble_eq_true rfl) (fun X hC hEn => ?_)
  unfold F_X5_goes at hF
  show fAt X 0 0 4 w [(0, .ref a0), (1, .int x1), (2, .int x2), (3, .int x3)] [] 0
  refine f_aload_n hC dX5_goes_0 rfl 0 rfl ?_
  refine f_iload_n hC dX5_goes_1 rfl 1 rfl ?_
  obtain ⟨g3, hF⟩ := fg_open hF
  obtain ⟨r1, h2, hF⟩ := fb_open hF
  refine f_callV hC [.int x1] (c_X5_isTicket l D cy a0 x1 w r1 h2) q_1415 q_136 q_1412 q_1414 q_85 h9_X5_isTicket rfl (fSm.k (fSm.rf w) g3) ⟨Nat.le_of_ble_eq_true rfl, Nat.le_of_ble_eq_true rfl⟩ ⟨Nat.le_of_ble_eq_true rfl, Nat.le_of_ble_eq_true rfl⟩ (Nat.le_of_ble_eq_true rfl) rfl dX5_goes_2 (fun e4 => ?_)
  refine f_if_ne hC 10 dX5_goes_5 (by decide) (fun c5 => ?_) (fun c5 => ?_)
  · replace hF := fi_neg hF c5
    refine f_aload_n hC dX5_goes_10 rfl 0 rfl ?_
    refine f_iload_n hC dX5_goes_11 rfl 1 rfl ?_
    refine f_iload_n hC dX5_goes_12 rfl 2 rfl ?_
    refine f_iconst (v := 2) hC dX5_goes_13 (by decide) ?_
    obtain ⟨r6, h7, hF⟩ := fb_open hF
    refine f_callV hC [.int x1, .int x2, .int 2] (c_X5_half l D cy a0 x1 x2 2 w r6 h7) q_1478 q_136 q_1475 q_1477 q_95 h9_X5_half rfl (fSm.k (fSm.rf w) g3) ⟨Nat.le_of_ble_eq_true rfl, Nat.le_of_ble_eq_true rfl⟩ ⟨Nat.le_of_ble_eq_true rfl, Nat.le_of_ble_eq_true rfl⟩ (Nat.le_of_ble_eq_true rfl) rfl dX5_goes_14 (fun e8 => ?_)
    refine f_iload_n hC dX5_goes_17 rfl 3 rfl ?_
    refine f_icmp_ne hC 28 dX5_goes_18 (by decide) (fun c9 => ?_) (fun c9 => ?_)
    · replace hF := fi_neg hF c9
      refine f_aload_n hC dX5_goes_28 rfl 0 rfl ?_
      refine f_iload_n hC dX5_goes_29 rfl 1 rfl ?_
      refine f_iload_n hC dX5_goes_30 rfl 2 rfl ?_
      refine f_iconst (v := 2) hC dX5_goes_31 (by decide) ?_
      refine f_iload_n hC dX5_goes_32 rfl 3 rfl ?_
      obtain ⟨r10, h11, hF⟩ := fb_open hF
      refine f_callV hC [.int x1, .int x2, .int 2, .int x3] (c_X5_setsHalf l D cy a0 x1 x2 2 x3 w r10 h11) q_1403 q_136 q_1400 q_1402 q_83 h9_X5_setsHalf rfl (fSm.k (fSm.rf w) g3) ⟨Nat.le_of_ble_eq_true rfl, Nat.le_of_ble_eq_true rfl⟩ ⟨Nat.le_of_ble_eq_true rfl, Nat.le_of_ble_eq_true rfl⟩ (Nat.le_of_ble_eq_true rfl) rfl dX5_goes_33 (fun e12 => ?_)
      refine f_aload_n hC dX5_goes_36 rfl 0 rfl ?_
      refine f_iload_n hC dX5_goes_37 rfl 1 rfl ?_
      refine f_bipush (v := 10) hC dX5_goes_38 (by decide) ?_
      obtain ⟨r13, h14, hF⟩ := fb_open hF
      refine f_callV hC [.int x1, .int 10] (c_X5_of l D cy a0 x1 10 r10 r13 h14) q_1447 q_136 q_1444 q_1446 q_90 h9_X5_of rfl (fSm.k (fSm.tr e12 (fSm.rf w)) g3) ⟨Nat.le_of_ble_eq_true rfl, Nat.le_of_ble_eq_true rfl⟩ ⟨Nat.le_of_ble_eq_true rfl, Nat.le_of_ble_eq_true rfl⟩ (Nat.le_of_ble_eq_true rfl) rfl dX5_goes_40 (fun e15 => ?_)
      obtain ⟨x16, h17, hF⟩ := fb_open hF
      have K19 : fSm x16 w → fAt X 0 0 4 x16 [(0, .ref a0)] [] 56 := by
        intro p18
        refine f_aload_n hC dX5_goes_56 rfl 0 rfl ?_
        refine f_aload_n hC dX5_goes_57 rfl 0 rfl ?_
        obtain ⟨r20, h21, hF⟩ := fb_open hF
        refine f_callV hC [] (c_X5_lostMany l D cy a0 x16 r20 h21) q_1525 q_136 q_1522 q_1524 q_103 h9_X5_lostMany rfl (fSm.k p18 g3) ⟨Nat.le_of_ble_eq_true rfl, Nat.le_of_ble_eq_true rfl⟩ ⟨Nat.le_of_ble_eq_true rfl, Nat.le_of_ble_eq_true rfl⟩ (Nat.le_of_ble_eq_true rfl) rfl dX5_goes_58 (fun e22 => ?_)
        obtain ⟨r23, h24, hF⟩ := fb_open hF
        refine f_callV hC [.int r20] (c_X5_done l D cy a0 r20 x16 r23 h24) q_1363 q_136 q_1360 q_1362 q_75 h9_X5_done rfl (fSm.k p18 g3) ⟨Nat.le_of_ble_eq_true rfl, Nat.le_of_ble_eq_true rfl⟩ ⟨Nat.le_of_ble_eq_true rfl, Nat.le_of_ble_eq_true rfl⟩ (Nat.le_of_ble_eq_true rfl) rfl dX5_goes_61 (fun e25 => ?_)
        obtain rfl := Option.some.inj hF
        exact f_iret hC hEn (fSm.tr e25 p18) dX5_goes_64
      refine f_if_ne hC 56 dX5_goes_43 (by decide) (fun c26 => ?_) (fun c26 => ?_)
      · replace h17 := fi_neg h17 c26
        obtain rfl := Option.some.inj h17
        refine f_sub (L' := [(0, .ref a0)]) [0] rfl ?_
        exact K19 (fSm.tr e12 (fSm.rf w))
      · replace h17 := fi_pos h17 c26
        refine f_aload_n hC dX5_goes_46 rfl 0 rfl ?_
        refine f_iload_n hC dX5_goes_47 rfl 1 rfl ?_
        refine f_iconst (v := 1) hC dX5_goes_48 (by decide) ?_
        refine f_iload_n hC dX5_goes_49 rfl 2 rfl ?_
        refine f_isub hC dX5_goes_50 ?_
        refine f_iconst (v := 2) hC dX5_goes_51 (by decide) ?_
        refine f_iload_n hC dX5_goes_52 rfl 3 rfl ?_
        obtain ⟨r27, h28, h17⟩ := fb_open h17
        refine f_callV hC [.int x1, .int (1 - x2), .int 2, .int x3] (c_X5_setsHalf l D cy a0 x1 (1 - x2) 2 x3 r10 r27 h28) q_1403 q_136 q_1400 q_1402 q_83 h9_X5_setsHalf rfl (fSm.k (fSm.tr e12 (fSm.rf w)) g3) ⟨Nat.le_of_ble_eq_true rfl, Nat.le_of_ble_eq_true rfl⟩ ⟨Nat.le_of_ble_eq_true rfl, Nat.le_of_ble_eq_true rfl⟩ (Nat.le_of_ble_eq_true rfl) rfl dX5_goes_53 (fun e29 => ?_)
        obtain rfl := Option.some.inj h17
        refine f_sub (L' := [(0, .ref a0)]) [0] rfl ?_
        exact K19 (fSm.tr e29 (fSm.tr e12 (fSm.rf w)))
    · replace hF := fi_pos hF c9
      refine f_aload_n hC dX5_goes_21 rfl 0 rfl ?_
      refine f_iconst (v := 3) hC dX5_goes_22 (by decide) ?_
      refine f_iconst (v := 1) hC dX5_goes_23 (by decide) ?_
      obtain ⟨r30, h31, hF⟩ := fb_open hF
      refine f_callV hC [.int 3, .int 1] (c_X5_refused l D cy a0 3 1 w r30 h31) q_1359 q_136 q_1356 q_1358 q_74 h9_X5_refused rfl (fSm.k (fSm.rf w) g3) ⟨Nat.le_of_ble_eq_true rfl, Nat.le_of_ble_eq_true rfl⟩ ⟨Nat.le_of_ble_eq_true rfl, Nat.le_of_ble_eq_true rfl⟩ (Nat.le_of_ble_eq_true rfl) rfl dX5_goes_24 (fun e32 => ?_)
      obtain rfl := Option.some.inj hF
      exact f_iret hC hEn (fSm.tr e32 (fSm.rf w)) dX5_goes_27
  · replace hF := fi_pos hF c5
    refine f_iconst (v := (-1)) hC dX5_goes_8 (by decide) ?_
    obtain rfl := Option.some.inj hF
    exact f_iret hC hEn (fSm.rf w) dX5_goes_9
theorem dX5_hindrance_0 : decode cX5_hindrance 0 = .ok (.aload_n 0, 1) := by decide +kernel
theorem dX5_hindrance_1 : decode cX5_hindrance 1 = .ok (.iload_n 1, 1) := by decide +kernel
theorem dX5_hindrance_2 : decode cX5_hindrance 2 = .ok (.bipush 11, 2) := by decide +kernel
theorem dX5_hindrance_4 : decode cX5_hindrance 4 = .ok (.invokevirtual 70, 3) := by decide +kernel
theorem dX5_hindrance_7 : decode cX5_hindrance 7 = .ok (.istore_n 3, 1) := by decide +kernel
theorem dX5_hindrance_8 : decode cX5_hindrance 8 = .ok (.aload_n 0, 1) := by decide +kernel
theorem dX5_hindrance_9 : decode cX5_hindrance 9 = .ok (.iload_n 1, 1) := by decide +kernel
theorem dX5_hindrance_10 : decode cX5_hindrance 10 = .ok (.bipush 7, 2) := by decide +kernel
theorem dX5_hindrance_12 : decode cX5_hindrance 12 = .ok (.invokevirtual 70, 3) := by decide +kernel
theorem dX5_hindrance_15 : decode cX5_hindrance 15 = .ok (.aload_n 0, 1) := by decide +kernel
theorem dX5_hindrance_16 : decode cX5_hindrance 16 = .ok (.iload_n 1, 1) := by decide +kernel
theorem dX5_hindrance_17 : decode cX5_hindrance 17 = .ok (.bipush 8, 2) := by decide +kernel
theorem dX5_hindrance_19 : decode cX5_hindrance 19 = .ok (.invokevirtual 70, 3) := by decide +kernel
theorem dX5_hindrance_22 : decode cX5_hindrance 22 = .ok (.if_icmp .ge 13, 3) := by decide +kernel
theorem dX5_hindrance_25 : decode cX5_hindrance 25 = .ok (.aload_n 0, 1) := by decide +kernel
theorem dX5_hindrance_26 : decode cX5_hindrance 26 = .ok (.iload_n 1, 1) := by decide +kernel
theorem dX5_hindrance_27 : decode cX5_hindrance 27 = .ok (.bipush 7, 2) := by decide +kernel
theorem dX5_hindrance_29 : decode cX5_hindrance 29 = .ok (.invokevirtual 70, 3) := by decide +kernel
theorem dX5_hindrance_32 : decode cX5_hindrance 32 = .ok (.goto 10, 3) := by decide +kernel
theorem dX5_hindrance_35 : decode cX5_hindrance 35 = .ok (.aload_n 0, 1) := by decide +kernel
theorem dX5_hindrance_36 : decode cX5_hindrance 36 = .ok (.iload_n 1, 1) := by decide +kernel
theorem dX5_hindrance_37 : decode cX5_hindrance 37 = .ok (.bipush 8, 2) := by decide +kernel
theorem dX5_hindrance_39 : decode cX5_hindrance 39 = .ok (.invokevirtual 70, 3) := by decide +kernel
theorem dX5_hindrance_42 : decode cX5_hindrance 42 = .ok (.istore 4, 2) := by decide +kernel
theorem dX5_hindrance_44 : decode cX5_hindrance 44 = .ok (.aload_n 0, 1) := by decide +kernel
theorem dX5_hindrance_45 : decode cX5_hindrance 45 = .ok (.iload_n 1, 1) := by decide +kernel
theorem dX5_hindrance_46 : decode cX5_hindrance 46 = .ok (.bipush 7, 2) := by decide +kernel
theorem dX5_hindrance_48 : decode cX5_hindrance 48 = .ok (.invokevirtual 70, 3) := by decide +kernel
theorem dX5_hindrance_51 : decode cX5_hindrance 51 = .ok (.aload_n 0, 1) := by decide +kernel
theorem dX5_hindrance_52 : decode cX5_hindrance 52 = .ok (.iload_n 1, 1) := by decide +kernel
theorem dX5_hindrance_53 : decode cX5_hindrance 53 = .ok (.bipush 8, 2) := by decide +kernel
theorem dX5_hindrance_55 : decode cX5_hindrance 55 = .ok (.invokevirtual 70, 3) := by decide +kernel
theorem dX5_hindrance_58 : decode cX5_hindrance 58 = .ok (.iadd, 1) := by decide +kernel
theorem dX5_hindrance_59 : decode cX5_hindrance 59 = .ok (.iload 4, 2) := by decide +kernel
theorem dX5_hindrance_61 : decode cX5_hindrance 61 = .ok (.isub, 1) := by decide +kernel
theorem dX5_hindrance_62 : decode cX5_hindrance 62 = .ok (.istore 5, 2) := by decide +kernel
theorem dX5_hindrance_64 : decode cX5_hindrance 64 = .ok (.aload_n 0, 1) := by decide +kernel
theorem dX5_hindrance_65 : decode cX5_hindrance 65 = .ok (.iload_n 1, 1) := by decide +kernel
theorem dX5_hindrance_66 : decode cX5_hindrance 66 = .ok (.iload_n 2, 1) := by decide +kernel
theorem dX5_hindrance_67 : decode cX5_hindrance 67 = .ok (.iconst 2, 1) := by decide +kernel
theorem dX5_hindrance_68 : decode cX5_hindrance 68 = .ok (.invokevirtual 78, 3) := by decide +kernel
theorem dX5_hindrance_71 : decode cX5_hindrance 71 = .ok (.iconst 1, 1) := by decide +kernel
theorem dX5_hindrance_72 : decode cX5_hindrance 72 = .ok (.if_icmp .ne 10, 3) := by decide +kernel
theorem dX5_hindrance_75 : decode cX5_hindrance 75 = .ok (.aload_n 0, 1) := by decide +kernel
theorem dX5_hindrance_76 : decode cX5_hindrance 76 = .ok (.iconst 4, 1) := by decide +kernel
theorem dX5_hindrance_77 : decode cX5_hindrance 77 = .ok (.iload_n 2, 1) := by decide +kernel
theorem dX5_hindrance_78 : decode cX5_hindrance 78 = .ok (.invokevirtual 122, 3) := by decide +kernel
theorem dX5_hindrance_81 : decode cX5_hindrance 81 = .ok (.ireturn, 1) := by decide +kernel
theorem dX5_hindrance_82 : decode cX5_hindrance 82 = .ok (.aload_n 0, 1) := by decide +kernel
theorem dX5_hindrance_83 : decode cX5_hindrance 83 = .ok (.iload_n 1, 1) := by decide +kernel
theorem dX5_hindrance_84 : decode cX5_hindrance 84 = .ok (.iload_n 2, 1) := by decide +kernel
theorem dX5_hindrance_85 : decode cX5_hindrance 85 = .ok (.invokevirtual 92, 3) := by decide +kernel
theorem dX5_hindrance_88 : decode cX5_hindrance 88 = .ok (.ifCond .ne 10, 3) := by decide +kernel
theorem dX5_hindrance_91 : decode cX5_hindrance 91 = .ok (.aload_n 0, 1) := by decide +kernel
theorem dX5_hindrance_92 : decode cX5_hindrance 92 = .ok (.iconst 5, 1) := by decide +kernel
theorem dX5_hindrance_93 : decode cX5_hindrance 93 = .ok (.iload_n 2, 1) := by decide +kernel
theorem dX5_hindrance_94 : decode cX5_hindrance 94 = .ok (.invokevirtual 122, 3) := by decide +kernel
theorem dX5_hindrance_97 : decode cX5_hindrance 97 = .ok (.ireturn, 1) := by decide +kernel
theorem dX5_hindrance_98 : decode cX5_hindrance 98 = .ok (.aload_n 0, 1) := by decide +kernel
theorem dX5_hindrance_99 : decode cX5_hindrance 99 = .ok (.iload_n 1, 1) := by decide +kernel
theorem dX5_hindrance_100 : decode cX5_hindrance 100 = .ok (.iload_n 2, 1) := by decide +kernel
theorem dX5_hindrance_101 : decode cX5_hindrance 101 = .ok (.iconst 3, 1) := by decide +kernel
theorem dX5_hindrance_102 : decode cX5_hindrance 102 = .ok (.invokevirtual 78, 3) := by decide +kernel
theorem dX5_hindrance_105 : decode cX5_hindrance 105 = .ok (.iconst 1, 1) := by decide +kernel
theorem dX5_hindrance_106 : decode cX5_hindrance 106 = .ok (.if_icmp .ne 11, 3) := by decide +kernel
theorem dX5_hindrance_109 : decode cX5_hindrance 109 = .ok (.aload_n 0, 1) := by decide +kernel
theorem dX5_hindrance_110 : decode cX5_hindrance 110 = .ok (.bipush 6, 2) := by decide +kernel
theorem dX5_hindrance_112 : decode cX5_hindrance 112 = .ok (.iload_n 2, 1) := by decide +kernel
theorem dX5_hindrance_113 : decode cX5_hindrance 113 = .ok (.invokevirtual 122, 3) := by decide +kernel
theorem dX5_hindrance_116 : decode cX5_hindrance 116 = .ok (.ireturn, 1) := by decide +kernel
theorem dX5_hindrance_117 : decode cX5_hindrance 117 = .ok (.iload_n 2, 1) := by decide +kernel
theorem dX5_hindrance_118 : decode cX5_hindrance 118 = .ok (.iconst 1, 1) := by decide +kernel
theorem dX5_hindrance_119 : decode cX5_hindrance 119 = .ok (.if_icmp .ne 21, 3) := by decide +kernel
theorem dX5_hindrance_122 : decode cX5_hindrance 122 = .ok (.iload_n 3, 1) := by decide +kernel
theorem dX5_hindrance_123 : decode cX5_hindrance 123 = .ok (.iconst (-1), 1) := by decide +kernel
theorem dX5_hindrance_124 : decode cX5_hindrance 124 = .ok (.if_icmp .ne 16, 3) := by decide +kernel
theorem dX5_hindrance_127 : decode cX5_hindrance 127 = .ok (.aload_n 0, 1) := by decide +kernel
theorem dX5_hindrance_128 : decode cX5_hindrance 128 = .ok (.bipush 7, 2) := by decide +kernel
theorem dX5_hindrance_130 : decode cX5_hindrance 130 = .ok (.aload_n 0, 1) := by decide +kernel
theorem dX5_hindrance_131 : decode cX5_hindrance 131 = .ok (.getfield 7, 3) := by decide +kernel
theorem dX5_hindrance_134 : decode cX5_hindrance 134 = .ok (.iconst 1, 1) := by decide +kernel
theorem dX5_hindrance_135 : decode cX5_hindrance 135 = .ok (.iaload, 1) := by decide +kernel
theorem dX5_hindrance_136 : decode cX5_hindrance 136 = .ok (.invokevirtual 122, 3) := by decide +kernel
theorem dX5_hindrance_139 : decode cX5_hindrance 139 = .ok (.ireturn, 1) := by decide +kernel
theorem dX5_hindrance_140 : decode cX5_hindrance 140 = .ok (.iload_n 2, 1) := by decide +kernel
theorem dX5_hindrance_141 : decode cX5_hindrance 141 = .ok (.iconst 1, 1) := by decide +kernel
theorem dX5_hindrance_142 : decode cX5_hindrance 142 = .ok (.if_icmp .ne 36, 3) := by decide +kernel
theorem dX5_hindrance_145 : decode cX5_hindrance 145 = .ok (.aload_n 0, 1) := by decide +kernel
theorem dX5_hindrance_146 : decode cX5_hindrance 146 = .ok (.getfield 7, 3) := by decide +kernel
theorem dX5_hindrance_149 : decode cX5_hindrance 149 = .ok (.iconst 1, 1) := by decide +kernel
theorem dX5_hindrance_150 : decode cX5_hindrance 150 = .ok (.iaload, 1) := by decide +kernel
theorem dX5_hindrance_151 : decode cX5_hindrance 151 = .ok (.iload_n 3, 1) := by decide +kernel
theorem dX5_hindrance_152 : decode cX5_hindrance 152 = .ok (.isub, 1) := by decide +kernel
theorem dX5_hindrance_153 : decode cX5_hindrance 153 = .ok (.aload_n 0, 1) := by decide +kernel
theorem dX5_hindrance_154 : decode cX5_hindrance 154 = .ok (.iload_n 1, 1) := by decide +kernel
theorem dX5_hindrance_155 : decode cX5_hindrance 155 = .ok (.bipush 9, 2) := by decide +kernel
theorem dX5_hindrance_157 : decode cX5_hindrance 157 = .ok (.invokevirtual 70, 3) := by decide +kernel
theorem dX5_hindrance_160 : decode cX5_hindrance 160 = .ok (.if_icmp .le 18, 3) := by decide +kernel
theorem dX5_hindrance_163 : decode cX5_hindrance 163 = .ok (.aload_n 0, 1) := by decide +kernel
theorem dX5_hindrance_164 : decode cX5_hindrance 164 = .ok (.bipush 8, 2) := by decide +kernel
theorem dX5_hindrance_166 : decode cX5_hindrance 166 = .ok (.aload_n 0, 1) := by decide +kernel
theorem dX5_hindrance_167 : decode cX5_hindrance 167 = .ok (.getfield 7, 3) := by decide +kernel
theorem dX5_hindrance_170 : decode cX5_hindrance 170 = .ok (.iconst 1, 1) := by decide +kernel
theorem dX5_hindrance_171 : decode cX5_hindrance 171 = .ok (.iaload, 1) := by decide +kernel
theorem dX5_hindrance_172 : decode cX5_hindrance 172 = .ok (.iload_n 3, 1) := by decide +kernel
theorem dX5_hindrance_173 : decode cX5_hindrance 173 = .ok (.isub, 1) := by decide +kernel
theorem dX5_hindrance_174 : decode cX5_hindrance 174 = .ok (.invokevirtual 122, 3) := by decide +kernel
theorem dX5_hindrance_177 : decode cX5_hindrance 177 = .ok (.ireturn, 1) := by decide +kernel
theorem dX5_hindrance_178 : decode cX5_hindrance 178 = .ok (.aload_n 0, 1) := by decide +kernel
theorem dX5_hindrance_179 : decode cX5_hindrance 179 = .ok (.iload 4, 2) := by decide +kernel
theorem dX5_hindrance_181 : decode cX5_hindrance 181 = .ok (.invokevirtual 138, 3) := by decide +kernel
theorem dX5_hindrance_184 : decode cX5_hindrance 184 = .ok (.ifCond .eq 12, 3) := by decide +kernel
theorem dX5_hindrance_187 : decode cX5_hindrance 187 = .ok (.aload_n 0, 1) := by decide +kernel
theorem dX5_hindrance_188 : decode cX5_hindrance 188 = .ok (.bipush 9, 2) := by decide +kernel
theorem dX5_hindrance_190 : decode cX5_hindrance 190 = .ok (.iload 4, 2) := by decide +kernel
theorem dX5_hindrance_192 : decode cX5_hindrance 192 = .ok (.invokevirtual 122, 3) := by decide +kernel
theorem dX5_hindrance_195 : decode cX5_hindrance 195 = .ok (.ireturn, 1) := by decide +kernel
theorem dX5_hindrance_196 : decode cX5_hindrance 196 = .ok (.aload_n 0, 1) := by decide +kernel
theorem dX5_hindrance_197 : decode cX5_hindrance 197 = .ok (.iload 5, 2) := by decide +kernel
theorem dX5_hindrance_199 : decode cX5_hindrance 199 = .ok (.invokevirtual 138, 3) := by decide +kernel
theorem dX5_hindrance_202 : decode cX5_hindrance 202 = .ok (.ifCond .eq 12, 3) := by decide +kernel
theorem dX5_hindrance_205 : decode cX5_hindrance 205 = .ok (.aload_n 0, 1) := by decide +kernel
theorem dX5_hindrance_206 : decode cX5_hindrance 206 = .ok (.bipush 9, 2) := by decide +kernel
theorem dX5_hindrance_208 : decode cX5_hindrance 208 = .ok (.iload 5, 2) := by decide +kernel
theorem dX5_hindrance_210 : decode cX5_hindrance 210 = .ok (.invokevirtual 122, 3) := by decide +kernel
theorem dX5_hindrance_213 : decode cX5_hindrance 213 = .ok (.ireturn, 1) := by decide +kernel
theorem dX5_hindrance_214 : decode cX5_hindrance 214 = .ok (.aload_n 0, 1) := by decide +kernel
theorem dX5_hindrance_215 : decode cX5_hindrance 215 = .ok (.iload_n 1, 1) := by decide +kernel
theorem dX5_hindrance_216 : decode cX5_hindrance 216 = .ok (.iload_n 2, 1) := by decide +kernel
theorem dX5_hindrance_217 : decode cX5_hindrance 217 = .ok (.invokevirtual 157, 3) := by decide +kernel
theorem dX5_hindrance_220 : decode cX5_hindrance 220 = .ok (.ifCond .eq 7, 3) := by decide +kernel
theorem dX5_hindrance_223 : decode cX5_hindrance 223 = .ok (.iconst 0, 1) := by decide +kernel
theorem dX5_hindrance_224 : decode cX5_hindrance 224 = .ok (.goto 15, 3) := by decide +kernel
theorem dX5_hindrance_227 : decode cX5_hindrance 227 = .ok (.aload_n 0, 1) := by decide +kernel
theorem dX5_hindrance_228 : decode cX5_hindrance 228 = .ok (.bipush 10, 2) := by decide +kernel
theorem dX5_hindrance_230 : decode cX5_hindrance 230 = .ok (.aload_n 0, 1) := by decide +kernel
theorem dX5_hindrance_231 : decode cX5_hindrance 231 = .ok (.iload_n 1, 1) := by decide +kernel
theorem dX5_hindrance_232 : decode cX5_hindrance 232 = .ok (.iload_n 2, 1) := by decide +kernel
theorem dX5_hindrance_233 : decode cX5_hindrance 233 = .ok (.invokevirtual 160, 3) := by decide +kernel
theorem dX5_hindrance_236 : decode cX5_hindrance 236 = .ok (.invokevirtual 122, 3) := by decide +kernel
theorem dX5_hindrance_239 : decode cX5_hindrance 239 = .ok (.ireturn, 1) := by decide +kernel
theorem h9_X5_hindrance : yX5_hindrance.cls ≠ "java/lang/invoke/MethodHandle" ∧ yX5_hindrance.cls ≠ "java/lang/invoke/VarHandle" ∧ (parseMethodDescriptor yX5_hindrance.desc).map (fun d => d.parameters.length) = some 2 := by decide +kernel
noncomputable def F_X5_hindrance (a0 : Nat) (x1 : Int32) (x2 : Int32) (w : FW) : Option (Int32 × FW) :=
  fg (w.1 a0 = 6) inferInstance ((F_X5_of a0 x1 11 w).bind (fun r1 => (F_X5_of a0 x1 7 w).bind (fun r5 => (F_X5_of a0 x1 8 w).bind (fun r8 => ((if r8 ≤ r5 then (F_X5_of a0 x1 8 w).bind (fun r166 => some r166) else (F_X5_of a0 x1 7 w).bind (fun r169 => some r169)) : Option (Int32)).bind (fun x11 => (F_X5_of a0 x1 7 w).bind (fun r15 => (F_X5_of a0 x1 8 w).bind (fun r18 => (F_X5_half a0 x1 x2 2 w).bind (fun r21 => (if r21 = 1 then (F_X5_refused a0 4 x2 w).bind (fun r162 => some (r162.1, r162.2)) else (F_X5_isPunched a0 x1 x2 w).bind (fun r25 => (if r25 = 0 then (F_X5_refused a0 5 x2 w).bind (fun r159 => some (r159.1, r159.2)) else (F_X5_half a0 x1 x2 3 w).bind (fun r29 => (if r29 = 1 then (F_X5_refused a0 6 x2 w).bind (fun r156 => some (r156.1, r156.2)) else (if x2 = 1 then (if r1 = (-1) then fg (w.1 (gR w 501 a0 0) = 11) inferInstance (fg (¬ (1 < 0 ∨ w.2.1 (gR w 501 a0 0) ≤ Int32.toNatClampNeg 1)) inferInstance ((F_X5_refused a0 7 (gI w 601 (gR w 501 a0 0) (Int32.toNatClampNeg 1)) w).bind (fun r153 => some (r153.1, r153.2)))) else (if x2 = 1 then fg (w.1 (gR w 501 a0 0) = 11) inferInstance (fg (¬ (1 < 0 ∨ w.2.1 (gR w 501 a0 0) ≤ Int32.toNatClampNeg 1)) inferInstance ((F_X5_of a0 x1 9 w).bind (fun r120 => (if ((gI w 601 (gR w 501 a0 0) (Int32.toNatClampNeg 1)) - r1) ≤ r120 then (F_X5_isClosed a0 x11 w).bind (fun r124 => (if r124 = 0 then (F_X5_isClosed a0 ((r15 + r18) - x11) w).bind (fun r128 => (if r128 = 0 then (F_X5_isRead a0 x1 x2 w).bind (fun r132 => (if r132 = 0 then (F_X5_firstUnlike a0 x1 x2 w).bind (fun r136 => (F_X5_refused a0 10 r136 w).bind (fun r139 => some (r139.1, r139.2))) else some (0, w))) else (F_X5_refused a0 9 ((r15 + r18) - x11) w).bind (fun r142 => some (r142.1, r142.2)))) else (F_X5_refused a0 9 x11 w).bind (fun r145 => some (r145.1, r145.2)))) else (F_X5_refused a0 8 ((gI w 601 (gR w 501 a0 0) (Int32.toNatClampNeg 1)) - r1) w).bind (fun r148 => some (r148.1, r148.2)))))) else (F_X5_isClosed a0 x11 w).bind (fun r94 => (if r94 = 0 then (F_X5_isClosed a0 ((r15 + r18) - x11) w).bind (fun r98 => (if r98 = 0 then (F_X5_isRead a0 x1 x2 w).bind (fun r102 => (if r102 = 0 then (F_X5_firstUnlike a0 x1 x2 w).bind (fun r106 => (F_X5_refused a0 10 r106 w).bind (fun r109 => some (r109.1, r109.2))) else some (0, w))) else (F_X5_refused a0 9 ((r15 + r18) - x11) w).bind (fun r112 => some (r112.1, r112.2)))) else (F_X5_refused a0 9 x11 w).bind (fun r115 => some (r115.1, r115.2)))))) else (if x2 = 1 then fg (w.1 (gR w 501 a0 0) = 11) inferInstance (fg (¬ (1 < 0 ∨ w.2.1 (gR w 501 a0 0) ≤ Int32.toNatClampNeg 1)) inferInstance ((F_X5_of a0 x1 9 w).bind (fun r61 => (if ((gI w 601 (gR w 501 a0 0) (Int32.toNatClampNeg 1)) - r1) ≤ r61 then (F_X5_isClosed a0 x11 w).bind (fun r65 => (if r65 = 0 then (F_X5_isClosed a0 ((r15 + r18) - x11) w).bind (fun r69 => (if r69 = 0 then (F_X5_isRead a0 x1 x2 w).bind (fun r73 => (if r73 = 0 then (F_X5_firstUnlike a0 x1 x2 w).bind (fun r77 => (F_X5_refused a0 10 r77 w).bind (fun r80 => some (r80.1, r80.2))) else some (0, w))) else (F_X5_refused a0 9 ((r15 + r18) - x11) w).bind (fun r83 => some (r83.1, r83.2)))) else (F_X5_refused a0 9 x11 w).bind (fun r86 => some (r86.1, r86.2)))) else (F_X5_refused a0 8 ((gI w 601 (gR w 501 a0 0) (Int32.toNatClampNeg 1)) - r1) w).bind (fun r89 => some (r89.1, r89.2)))))) else (F_X5_isClosed a0 x11 w).bind (fun r35 => (if r35 = 0 then (F_X5_isClosed a0 ((r15 + r18) - x11) w).bind (fun r39 => (if r39 = 0 then (F_X5_isRead a0 x1 x2 w).bind (fun r43 => (if r43 = 0 then (F_X5_firstUnlike a0 x1 x2 w).bind (fun r47 => (F_X5_refused a0 10 r47 w).bind (fun r50 => some (r50.1, r50.2))) else some (0, w))) else (F_X5_refused a0 9 ((r15 + r18) - x11) w).bind (fun r53 => some (r53.1, r53.2)))) else (F_X5_refused a0 9 x11 w).bind (fun r56 => some (r56.1, r56.2)))))))))))))))))))
set_option maxHeartbeats 4000000 in
set_option maxRecDepth 100000 in
theorem c_X5_hindrance (l : Launch) (D : va_G) (cy : Nat → ClassId) (a0 : Nat) (x1 : Int32) (x2 : Int32) (w : FW) (r : Int32 × FW) (hF : F_X5_hindrance a0 x1 x2 w = some r) : fSpec l D cy yX5_hindrance cX5_hindrance 6 (some .int) { frames := 8, cells := 0, slots := 0, locals := 190 } [.ref a0, .int x1, .int x2] w r.2 (some (.int r.1)) := by
  refine f_begin (by decide +kernel) (Nat.le_of_ble_eq_true rfl) (fun X hC hEn => ?_)
  unfold F_X5_hindrance at hF
  show fAt X 0 0 6 w [(0, .ref a0), (1, .int x1), (2, .int x2)] [] 0
  refine f_aload_n hC dX5_hindrance_0 rfl 0 rfl ?_
  refine f_iload_n hC dX5_hindrance_1 rfl 1 rfl ?_
  refine f_bipush (v := 11) hC dX5_hindrance_2 (by decide) ?_
  obtain ⟨g3, hF⟩ := fg_open hF
  obtain ⟨r1, h2, hF⟩ := fb_open hF
  refine f_callV hC [.int x1, .int 11] (c_X5_of l D cy a0 x1 11 w r1 h2) q_1447 q_136 q_1444 q_1446 q_90 h9_X5_of rfl (fSm.k (fSm.rf w) g3) ⟨Nat.le_of_ble_eq_true rfl, Nat.le_of_ble_eq_true rfl⟩ ⟨Nat.le_of_ble_eq_true rfl, Nat.le_of_ble_eq_true rfl⟩ (Nat.le_of_ble_eq_true rfl) rfl dX5_hindrance_4 (fun e4 => ?_)
  refine f_istore_n (L' := [(3, .int r1), (0, .ref a0), (1, .int x1), (2, .int x2)]) hC dX5_hindrance_7 rfl (by decide) rfl ?_
  refine f_aload_n hC dX5_hindrance_8 rfl 1 rfl ?_
  refine f_iload_n hC dX5_hindrance_9 rfl 2 rfl ?_
  refine f_bipush (v := 7) hC dX5_hindrance_10 (by decide) ?_
  obtain ⟨r5, h6, hF⟩ := fb_open hF
  refine f_callV hC [.int x1, .int 7] (c_X5_of l D cy a0 x1 7 w r5 h6) q_1447 q_136 q_1444 q_1446 q_90 h9_X5_of rfl (fSm.k (fSm.rf w) g3) ⟨Nat.le_of_ble_eq_true rfl, Nat.le_of_ble_eq_true rfl⟩ ⟨Nat.le_of_ble_eq_true rfl, Nat.le_of_ble_eq_true rfl⟩ (Nat.le_of_ble_eq_true rfl) rfl dX5_hindrance_12 (fun e7 => ?_)
  refine f_aload_n hC dX5_hindrance_15 rfl 1 rfl ?_
  refine f_iload_n hC dX5_hindrance_16 rfl 2 rfl ?_
  refine f_bipush (v := 8) hC dX5_hindrance_17 (by decide) ?_
  obtain ⟨r8, h9, hF⟩ := fb_open hF
  refine f_callV hC [.int x1, .int 8] (c_X5_of l D cy a0 x1 8 w r8 h9) q_1447 q_136 q_1444 q_1446 q_90 h9_X5_of rfl (fSm.k (fSm.rf w) g3) ⟨Nat.le_of_ble_eq_true rfl, Nat.le_of_ble_eq_true rfl⟩ ⟨Nat.le_of_ble_eq_true rfl, Nat.le_of_ble_eq_true rfl⟩ (Nat.le_of_ble_eq_true rfl) rfl dX5_hindrance_19 (fun e10 => ?_)
  obtain ⟨x11, h12, hF⟩ := fb_open hF
  have K14 : fAt X 0 0 6 w [(0, .ref a0), (1, .int x1), (2, .int x2), (3, .int r1)] [.int x11] 42 := by
    refine f_istore (L' := [(4, .int x11), (0, .ref a0), (1, .int x1), (2, .int x2), (3, .int r1)]) hC dX5_hindrance_42 (by decide) rfl ?_
    refine f_aload_n hC dX5_hindrance_44 rfl 1 rfl ?_
    refine f_iload_n hC dX5_hindrance_45 rfl 2 rfl ?_
    refine f_bipush (v := 7) hC dX5_hindrance_46 (by decide) ?_
    obtain ⟨r15, h16, hF⟩ := fb_open hF
    refine f_callV hC [.int x1, .int 7] (c_X5_of l D cy a0 x1 7 w r15 h16) q_1447 q_136 q_1444 q_1446 q_90 h9_X5_of rfl (fSm.k (fSm.rf w) g3) ⟨Nat.le_of_ble_eq_true rfl, Nat.le_of_ble_eq_true rfl⟩ ⟨Nat.le_of_ble_eq_true rfl, Nat.le_of_ble_eq_true rfl⟩ (Nat.le_of_ble_eq_true rfl) rfl dX5_hindrance_48 (fun e17 => ?_)
    refine f_aload_n hC dX5_hindrance_51 rfl 1 rfl ?_
    refine f_iload_n hC dX5_hindrance_52 rfl 2 rfl ?_
    refine f_bipush (v := 8) hC dX5_hindrance_53 (by decide) ?_
    obtain ⟨r18, h19, hF⟩ := fb_open hF
    refine f_callV hC [.int x1, .int 8] (c_X5_of l D cy a0 x1 8 w r18 h19) q_1447 q_136 q_1444 q_1446 q_90 h9_X5_of rfl (fSm.k (fSm.rf w) g3) ⟨Nat.le_of_ble_eq_true rfl, Nat.le_of_ble_eq_true rfl⟩ ⟨Nat.le_of_ble_eq_true rfl, Nat.le_of_ble_eq_true rfl⟩ (Nat.le_of_ble_eq_true rfl) rfl dX5_hindrance_55 (fun e20 => ?_)
    refine f_iadd hC dX5_hindrance_58 ?_
    refine f_iload hC dX5_hindrance_59 0 rfl ?_
    refine f_isub hC dX5_hindrance_61 ?_
    refine f_istore (L' := [(5, .int ((r15 + r18) - x11)), (4, .int x11), (0, .ref a0), (1, .int x1), (2, .int x2), (3, .int r1)]) hC dX5_hindrance_62 (by decide) rfl ?_
    refine f_aload_n hC dX5_hindrance_64 rfl 2 rfl ?_
    refine f_iload_n hC dX5_hindrance_65 rfl 3 rfl ?_
    refine f_iload_n hC dX5_hindrance_66 rfl 4 rfl ?_
    refine f_iconst (v := 2) hC dX5_hindrance_67 (by decide) ?_
    obtain ⟨r21, h22, hF⟩ := fb_open hF
    refine f_callV hC [.int x1, .int x2, .int 2] (c_X5_half l D cy a0 x1 x2 2 w r21 h22) q_1478 q_136 q_1475 q_1477 q_95 h9_X5_half rfl (fSm.k (fSm.rf w) g3) ⟨Nat.le_of_ble_eq_true rfl, Nat.le_of_ble_eq_true rfl⟩ ⟨Nat.le_of_ble_eq_true rfl, Nat.le_of_ble_eq_true rfl⟩ (Nat.le_of_ble_eq_true rfl) rfl dX5_hindrance_68 (fun e23 => ?_)
    refine f_iconst (v := 1) hC dX5_hindrance_71 (by decide) ?_
    refine f_icmp_ne hC 82 dX5_hindrance_72 (by decide) (fun c24 => ?_) (fun c24 => ?_)
    · replace hF := fi_neg hF c24
      refine f_aload_n hC dX5_hindrance_82 rfl 2 rfl ?_
      refine f_iload_n hC dX5_hindrance_83 rfl 3 rfl ?_
      refine f_iload_n hC dX5_hindrance_84 rfl 4 rfl ?_
      obtain ⟨r25, h26, hF⟩ := fb_open hF
      refine f_callV hC [.int x1, .int x2] (c_X5_isPunched l D cy a0 x1 x2 w r25 h26) q_1474 q_136 q_1471 q_1473 q_94 h9_X5_isPunched rfl (fSm.k (fSm.rf w) g3) ⟨Nat.le_of_ble_eq_true rfl, Nat.le_of_ble_eq_true rfl⟩ ⟨Nat.le_of_ble_eq_true rfl, Nat.le_of_ble_eq_true rfl⟩ (Nat.le_of_ble_eq_true rfl) rfl dX5_hindrance_85 (fun e27 => ?_)
      refine f_if_ne hC 98 dX5_hindrance_88 (by decide) (fun c28 => ?_) (fun c28 => ?_)
      · replace hF := fi_neg hF c28
        refine f_aload_n hC dX5_hindrance_98 rfl 2 rfl ?_
        refine f_iload_n hC dX5_hindrance_99 rfl 3 rfl ?_
        refine f_iload_n hC dX5_hindrance_100 rfl 4 rfl ?_
        refine f_iconst (v := 3) hC dX5_hindrance_101 (by decide) ?_
        obtain ⟨r29, h30, hF⟩ := fb_open hF
        refine f_callV hC [.int x1, .int x2, .int 3] (c_X5_half l D cy a0 x1 x2 3 w r29 h30) q_1478 q_136 q_1475 q_1477 q_95 h9_X5_half rfl (fSm.k (fSm.rf w) g3) ⟨Nat.le_of_ble_eq_true rfl, Nat.le_of_ble_eq_true rfl⟩ ⟨Nat.le_of_ble_eq_true rfl, Nat.le_of_ble_eq_true rfl⟩ (Nat.le_of_ble_eq_true rfl) rfl dX5_hindrance_102 (fun e31 => ?_)
        refine f_iconst (v := 1) hC dX5_hindrance_105 (by decide) ?_
        refine f_icmp_ne hC 117 dX5_hindrance_106 (by decide) (fun c32 => ?_) (fun c32 => ?_)
        · replace hF := fi_neg hF c32
          refine f_iload_n hC dX5_hindrance_117 rfl 4 rfl ?_
          refine f_iconst (v := 1) hC dX5_hindrance_118 (by decide) ?_
          refine f_icmp_ne hC 140 dX5_hindrance_119 (by decide) (fun c33 => ?_) (fun c33 => ?_)
          · replace hF := fi_neg hF c33
            refine f_iload_n hC dX5_hindrance_140 rfl 4 rfl ?_
            refine f_iconst (v := 1) hC dX5_hindrance_141 (by decide) ?_
            refine f_icmp_ne hC 178 dX5_hindrance_142 (by decide) (fun c34 => ?_) (fun c34 => ?_)
            · replace hF := fi_neg hF c34
              refine f_aload_n hC dX5_hindrance_178 rfl 2 rfl ?_
              refine f_iload hC dX5_hindrance_179 1 rfl ?_
              obtain ⟨r35, h36, hF⟩ := fb_open hF
              refine f_callV hC [.int x11] (c_X5_isClosed l D cy a0 x11 w r35 h36) q_1435 q_136 q_1432 q_1434 q_88 h9_X5_isClosed rfl (fSm.k (fSm.rf w) g3) ⟨Nat.le_of_ble_eq_true rfl, Nat.le_of_ble_eq_true rfl⟩ ⟨Nat.le_of_ble_eq_true rfl, Nat.le_of_ble_eq_true rfl⟩ (Nat.le_of_ble_eq_true rfl) rfl dX5_hindrance_181 (fun e37 => ?_)
              refine f_if_eq hC 196 dX5_hindrance_184 (by decide) (fun c38 => ?_) (fun c38 => ?_)
              · replace hF := fi_pos hF c38
                refine f_aload_n hC dX5_hindrance_196 rfl 2 rfl ?_
                refine f_iload hC dX5_hindrance_197 0 rfl ?_
                obtain ⟨r39, h40, hF⟩ := fb_open hF
                refine f_callV hC [.int ((r15 + r18) - x11)] (c_X5_isClosed l D cy a0 ((r15 + r18) - x11) w r39 h40) q_1435 q_136 q_1432 q_1434 q_88 h9_X5_isClosed rfl (fSm.k (fSm.rf w) g3) ⟨Nat.le_of_ble_eq_true rfl, Nat.le_of_ble_eq_true rfl⟩ ⟨Nat.le_of_ble_eq_true rfl, Nat.le_of_ble_eq_true rfl⟩ (Nat.le_of_ble_eq_true rfl) rfl dX5_hindrance_199 (fun e41 => ?_)
                refine f_if_eq hC 214 dX5_hindrance_202 (by decide) (fun c42 => ?_) (fun c42 => ?_)
                · replace hF := fi_pos hF c42
                  refine f_aload_n hC dX5_hindrance_214 rfl 2 rfl ?_
                  refine f_iload_n hC dX5_hindrance_215 rfl 3 rfl ?_
                  refine f_iload_n hC dX5_hindrance_216 rfl 4 rfl ?_
                  obtain ⟨r43, h44, hF⟩ := fb_open hF
                  refine f_callV hC [.int x1, .int x2] (c_X5_isRead l D cy a0 x1 x2 w r43 h44) q_1600 q_136 q_1597 q_1599 q_113 h9_X5_isRead rfl (fSm.k (fSm.rf w) g3) ⟨Nat.le_of_ble_eq_true rfl, Nat.le_of_ble_eq_true rfl⟩ ⟨Nat.le_of_ble_eq_true rfl, Nat.le_of_ble_eq_true rfl⟩ (Nat.le_of_ble_eq_true rfl) rfl dX5_hindrance_217 (fun e45 => ?_)
                  refine f_if_eq hC 227 dX5_hindrance_220 (by decide) (fun c46 => ?_) (fun c46 => ?_)
                  · replace hF := fi_pos hF c46
                    refine f_aload_n hC dX5_hindrance_227 rfl 2 rfl ?_
                    refine f_bipush (v := 10) hC dX5_hindrance_228 (by decide) ?_
                    refine f_aload_n hC dX5_hindrance_230 rfl 2 rfl ?_
                    refine f_iload_n hC dX5_hindrance_231 rfl 3 rfl ?_
                    refine f_iload_n hC dX5_hindrance_232 rfl 4 rfl ?_
                    obtain ⟨r47, h48, hF⟩ := fb_open hF
                    refine f_callV hC [.int x1, .int x2] (c_X5_firstUnlike l D cy a0 x1 x2 w r47 h48) q_1604 q_136 q_1601 q_1603 q_114 h9_X5_firstUnlike rfl (fSm.k (fSm.rf w) g3) ⟨Nat.le_of_ble_eq_true rfl, Nat.le_of_ble_eq_true rfl⟩ ⟨Nat.le_of_ble_eq_true rfl, Nat.le_of_ble_eq_true rfl⟩ (Nat.le_of_ble_eq_true rfl) rfl dX5_hindrance_233 (fun e49 => ?_)
                    obtain ⟨r50, h51, hF⟩ := fb_open hF
                    refine f_callV hC [.int 10, .int r47] (c_X5_refused l D cy a0 10 r47 w r50 h51) q_1359 q_136 q_1356 q_1358 q_74 h9_X5_refused rfl (fSm.k (fSm.rf w) g3) ⟨Nat.le_of_ble_eq_true rfl, Nat.le_of_ble_eq_true rfl⟩ ⟨Nat.le_of_ble_eq_true rfl, Nat.le_of_ble_eq_true rfl⟩ (Nat.le_of_ble_eq_true rfl) rfl dX5_hindrance_236 (fun e52 => ?_)
                    obtain rfl := Option.some.inj hF
                    exact f_iret hC hEn (fSm.tr e52 (fSm.rf w)) dX5_hindrance_239
                  · replace hF := fi_neg hF c46
                    refine f_iconst (v := 0) hC dX5_hindrance_223 (by decide) ?_
                    refine f_goto hC 239 dX5_hindrance_224 (by decide) ?_
                    obtain rfl := Option.some.inj hF
                    exact f_iret hC hEn (fSm.rf w) dX5_hindrance_239
                · replace hF := fi_neg hF c42
                  refine f_aload_n hC dX5_hindrance_205 rfl 2 rfl ?_
                  refine f_bipush (v := 9) hC dX5_hindrance_206 (by decide) ?_
                  refine f_iload hC dX5_hindrance_208 0 rfl ?_
                  obtain ⟨r53, h54, hF⟩ := fb_open hF
                  refine f_callV hC [.int 9, .int ((r15 + r18) - x11)] (c_X5_refused l D cy a0 9 ((r15 + r18) - x11) w r53 h54) q_1359 q_136 q_1356 q_1358 q_74 h9_X5_refused rfl (fSm.k (fSm.rf w) g3) ⟨Nat.le_of_ble_eq_true rfl, Nat.le_of_ble_eq_true rfl⟩ ⟨Nat.le_of_ble_eq_true rfl, Nat.le_of_ble_eq_true rfl⟩ (Nat.le_of_ble_eq_true rfl) rfl dX5_hindrance_210 (fun e55 => ?_)
                  obtain rfl := Option.some.inj hF
                  exact f_iret hC hEn (fSm.tr e55 (fSm.rf w)) dX5_hindrance_213
              · replace hF := fi_neg hF c38
                refine f_aload_n hC dX5_hindrance_187 rfl 2 rfl ?_
                refine f_bipush (v := 9) hC dX5_hindrance_188 (by decide) ?_
                refine f_iload hC dX5_hindrance_190 1 rfl ?_
                obtain ⟨r56, h57, hF⟩ := fb_open hF
                refine f_callV hC [.int 9, .int x11] (c_X5_refused l D cy a0 9 x11 w r56 h57) q_1359 q_136 q_1356 q_1358 q_74 h9_X5_refused rfl (fSm.k (fSm.rf w) g3) ⟨Nat.le_of_ble_eq_true rfl, Nat.le_of_ble_eq_true rfl⟩ ⟨Nat.le_of_ble_eq_true rfl, Nat.le_of_ble_eq_true rfl⟩ (Nat.le_of_ble_eq_true rfl) rfl dX5_hindrance_192 (fun e58 => ?_)
                obtain rfl := Option.some.inj hF
                exact f_iret hC hEn (fSm.tr e58 (fSm.rf w)) dX5_hindrance_195
            · replace hF := fi_pos hF c34
              refine f_aload_n hC dX5_hindrance_145 rfl 2 rfl ?_
              refine f_getR hC 5 1 501 rfl (by decide) iX5 q_1255 rfl rfl (fSm.k (fSm.rf w) g3) dX5_hindrance_146 ?_
              refine f_iconst (v := 1) hC dX5_hindrance_149 (by decide) ?_
              obtain ⟨g59, hF⟩ := fg_open hF
              obtain ⟨g60, hF⟩ := fg_open hF
              refine f_iald hC (fSm.k (fSm.rf w) g59) (fSm.v (fSm.rf w) g60) dX5_hindrance_150 ?_
              refine f_iload_n hC dX5_hindrance_151 rfl 5 rfl ?_
              refine f_isub hC dX5_hindrance_152 ?_
              refine f_aload_n hC dX5_hindrance_153 rfl 2 rfl ?_
              refine f_iload_n hC dX5_hindrance_154 rfl 3 rfl ?_
              refine f_bipush (v := 9) hC dX5_hindrance_155 (by decide) ?_
              obtain ⟨r61, h62, hF⟩ := fb_open hF
              refine f_callV hC [.int x1, .int 9] (c_X5_of l D cy a0 x1 9 w r61 h62) q_1447 q_136 q_1444 q_1446 q_90 h9_X5_of rfl (fSm.k (fSm.rf w) g3) ⟨Nat.le_of_ble_eq_true rfl, Nat.le_of_ble_eq_true rfl⟩ ⟨Nat.le_of_ble_eq_true rfl, Nat.le_of_ble_eq_true rfl⟩ (Nat.le_of_ble_eq_true rfl) rfl dX5_hindrance_157 (fun e63 => ?_)
              refine f_icmp_le hC 178 dX5_hindrance_160 (by decide) (fun c64 => ?_) (fun c64 => ?_)
              · replace hF := fi_pos hF c64
                refine f_aload_n hC dX5_hindrance_178 rfl 2 rfl ?_
                refine f_iload hC dX5_hindrance_179 1 rfl ?_
                obtain ⟨r65, h66, hF⟩ := fb_open hF
                refine f_callV hC [.int x11] (c_X5_isClosed l D cy a0 x11 w r65 h66) q_1435 q_136 q_1432 q_1434 q_88 h9_X5_isClosed rfl (fSm.k (fSm.rf w) g3) ⟨Nat.le_of_ble_eq_true rfl, Nat.le_of_ble_eq_true rfl⟩ ⟨Nat.le_of_ble_eq_true rfl, Nat.le_of_ble_eq_true rfl⟩ (Nat.le_of_ble_eq_true rfl) rfl dX5_hindrance_181 (fun e67 => ?_)
                refine f_if_eq hC 196 dX5_hindrance_184 (by decide) (fun c68 => ?_) (fun c68 => ?_)
                · replace hF := fi_pos hF c68
                  refine f_aload_n hC dX5_hindrance_196 rfl 2 rfl ?_
                  refine f_iload hC dX5_hindrance_197 0 rfl ?_
                  obtain ⟨r69, h70, hF⟩ := fb_open hF
                  refine f_callV hC [.int ((r15 + r18) - x11)] (c_X5_isClosed l D cy a0 ((r15 + r18) - x11) w r69 h70) q_1435 q_136 q_1432 q_1434 q_88 h9_X5_isClosed rfl (fSm.k (fSm.rf w) g3) ⟨Nat.le_of_ble_eq_true rfl, Nat.le_of_ble_eq_true rfl⟩ ⟨Nat.le_of_ble_eq_true rfl, Nat.le_of_ble_eq_true rfl⟩ (Nat.le_of_ble_eq_true rfl) rfl dX5_hindrance_199 (fun e71 => ?_)
                  refine f_if_eq hC 214 dX5_hindrance_202 (by decide) (fun c72 => ?_) (fun c72 => ?_)
                  · replace hF := fi_pos hF c72
                    refine f_aload_n hC dX5_hindrance_214 rfl 2 rfl ?_
                    refine f_iload_n hC dX5_hindrance_215 rfl 3 rfl ?_
                    refine f_iload_n hC dX5_hindrance_216 rfl 4 rfl ?_
                    obtain ⟨r73, h74, hF⟩ := fb_open hF
                    refine f_callV hC [.int x1, .int x2] (c_X5_isRead l D cy a0 x1 x2 w r73 h74) q_1600 q_136 q_1597 q_1599 q_113 h9_X5_isRead rfl (fSm.k (fSm.rf w) g3) ⟨Nat.le_of_ble_eq_true rfl, Nat.le_of_ble_eq_true rfl⟩ ⟨Nat.le_of_ble_eq_true rfl, Nat.le_of_ble_eq_true rfl⟩ (Nat.le_of_ble_eq_true rfl) rfl dX5_hindrance_217 (fun e75 => ?_)
                    refine f_if_eq hC 227 dX5_hindrance_220 (by decide) (fun c76 => ?_) (fun c76 => ?_)
                    · replace hF := fi_pos hF c76
                      refine f_aload_n hC dX5_hindrance_227 rfl 2 rfl ?_
                      refine f_bipush (v := 10) hC dX5_hindrance_228 (by decide) ?_
                      refine f_aload_n hC dX5_hindrance_230 rfl 2 rfl ?_
                      refine f_iload_n hC dX5_hindrance_231 rfl 3 rfl ?_
                      refine f_iload_n hC dX5_hindrance_232 rfl 4 rfl ?_
                      obtain ⟨r77, h78, hF⟩ := fb_open hF
                      refine f_callV hC [.int x1, .int x2] (c_X5_firstUnlike l D cy a0 x1 x2 w r77 h78) q_1604 q_136 q_1601 q_1603 q_114 h9_X5_firstUnlike rfl (fSm.k (fSm.rf w) g3) ⟨Nat.le_of_ble_eq_true rfl, Nat.le_of_ble_eq_true rfl⟩ ⟨Nat.le_of_ble_eq_true rfl, Nat.le_of_ble_eq_true rfl⟩ (Nat.le_of_ble_eq_true rfl) rfl dX5_hindrance_233 (fun e79 => ?_)
                      obtain ⟨r80, h81, hF⟩ := fb_open hF
                      refine f_callV hC [.int 10, .int r77] (c_X5_refused l D cy a0 10 r77 w r80 h81) q_1359 q_136 q_1356 q_1358 q_74 h9_X5_refused rfl (fSm.k (fSm.rf w) g3) ⟨Nat.le_of_ble_eq_true rfl, Nat.le_of_ble_eq_true rfl⟩ ⟨Nat.le_of_ble_eq_true rfl, Nat.le_of_ble_eq_true rfl⟩ (Nat.le_of_ble_eq_true rfl) rfl dX5_hindrance_236 (fun e82 => ?_)
                      obtain rfl := Option.some.inj hF
                      exact f_iret hC hEn (fSm.tr e82 (fSm.rf w)) dX5_hindrance_239
                    · replace hF := fi_neg hF c76
                      refine f_iconst (v := 0) hC dX5_hindrance_223 (by decide) ?_
                      refine f_goto hC 239 dX5_hindrance_224 (by decide) ?_
                      obtain rfl := Option.some.inj hF
                      exact f_iret hC hEn (fSm.rf w) dX5_hindrance_239
                  · replace hF := fi_neg hF c72
                    refine f_aload_n hC dX5_hindrance_205 rfl 2 rfl ?_
                    refine f_bipush (v := 9) hC dX5_hindrance_206 (by decide) ?_
                    refine f_iload hC dX5_hindrance_208 0 rfl ?_
                    obtain ⟨r83, h84, hF⟩ := fb_open hF
                    refine f_callV hC [.int 9, .int ((r15 + r18) - x11)] (c_X5_refused l D cy a0 9 ((r15 + r18) - x11) w r83 h84) q_1359 q_136 q_1356 q_1358 q_74 h9_X5_refused rfl (fSm.k (fSm.rf w) g3) ⟨Nat.le_of_ble_eq_true rfl, Nat.le_of_ble_eq_true rfl⟩ ⟨Nat.le_of_ble_eq_true rfl, Nat.le_of_ble_eq_true rfl⟩ (Nat.le_of_ble_eq_true rfl) rfl dX5_hindrance_210 (fun e85 => ?_)
                    obtain rfl := Option.some.inj hF
                    exact f_iret hC hEn (fSm.tr e85 (fSm.rf w)) dX5_hindrance_213
                · replace hF := fi_neg hF c68
                  refine f_aload_n hC dX5_hindrance_187 rfl 2 rfl ?_
                  refine f_bipush (v := 9) hC dX5_hindrance_188 (by decide) ?_
                  refine f_iload hC dX5_hindrance_190 1 rfl ?_
                  obtain ⟨r86, h87, hF⟩ := fb_open hF
                  refine f_callV hC [.int 9, .int x11] (c_X5_refused l D cy a0 9 x11 w r86 h87) q_1359 q_136 q_1356 q_1358 q_74 h9_X5_refused rfl (fSm.k (fSm.rf w) g3) ⟨Nat.le_of_ble_eq_true rfl, Nat.le_of_ble_eq_true rfl⟩ ⟨Nat.le_of_ble_eq_true rfl, Nat.le_of_ble_eq_true rfl⟩ (Nat.le_of_ble_eq_true rfl) rfl dX5_hindrance_192 (fun e88 => ?_)
                  obtain rfl := Option.some.inj hF
                  exact f_iret hC hEn (fSm.tr e88 (fSm.rf w)) dX5_hindrance_195
              · replace hF := fi_neg hF c64
                refine f_aload_n hC dX5_hindrance_163 rfl 2 rfl ?_
                refine f_bipush (v := 8) hC dX5_hindrance_164 (by decide) ?_
                refine f_aload_n hC dX5_hindrance_166 rfl 2 rfl ?_
                refine f_getR hC 5 1 501 rfl (by decide) iX5 q_1255 rfl rfl (fSm.k (fSm.rf w) g3) dX5_hindrance_167 ?_
                refine f_iconst (v := 1) hC dX5_hindrance_170 (by decide) ?_
                refine f_iald hC (fSm.k (fSm.rf w) g59) (fSm.v (fSm.rf w) g60) dX5_hindrance_171 ?_
                refine f_iload_n hC dX5_hindrance_172 rfl 5 rfl ?_
                refine f_isub hC dX5_hindrance_173 ?_
                obtain ⟨r89, h90, hF⟩ := fb_open hF
                refine f_callV hC [.int 8, .int ((gI w 601 (gR w 501 a0 0) (Int32.toNatClampNeg 1)) - r1)] (c_X5_refused l D cy a0 8 ((gI w 601 (gR w 501 a0 0) (Int32.toNatClampNeg 1)) - r1) w r89 h90) q_1359 q_136 q_1356 q_1358 q_74 h9_X5_refused rfl (fSm.k (fSm.rf w) g3) ⟨Nat.le_of_ble_eq_true rfl, Nat.le_of_ble_eq_true rfl⟩ ⟨Nat.le_of_ble_eq_true rfl, Nat.le_of_ble_eq_true rfl⟩ (Nat.le_of_ble_eq_true rfl) rfl dX5_hindrance_174 (fun e91 => ?_)
                obtain rfl := Option.some.inj hF
                exact f_iret hC hEn (fSm.tr e91 (fSm.rf w)) dX5_hindrance_177
          · replace hF := fi_pos hF c33
            refine f_iload_n hC dX5_hindrance_122 rfl 5 rfl ?_
            refine f_iconst (v := (-1)) hC dX5_hindrance_123 (by decide) ?_
            refine f_icmp_ne hC 140 dX5_hindrance_124 (by decide) (fun c92 => ?_) (fun c92 => ?_)
            · replace hF := fi_neg hF c92
              refine f_iload_n hC dX5_hindrance_140 rfl 4 rfl ?_
              refine f_iconst (v := 1) hC dX5_hindrance_141 (by decide) ?_
              refine f_icmp_ne hC 178 dX5_hindrance_142 (by decide) (fun c93 => ?_) (fun c93 => ?_)
              · replace hF := fi_neg hF c93
                refine f_aload_n hC dX5_hindrance_178 rfl 2 rfl ?_
                refine f_iload hC dX5_hindrance_179 1 rfl ?_
                obtain ⟨r94, h95, hF⟩ := fb_open hF
                refine f_callV hC [.int x11] (c_X5_isClosed l D cy a0 x11 w r94 h95) q_1435 q_136 q_1432 q_1434 q_88 h9_X5_isClosed rfl (fSm.k (fSm.rf w) g3) ⟨Nat.le_of_ble_eq_true rfl, Nat.le_of_ble_eq_true rfl⟩ ⟨Nat.le_of_ble_eq_true rfl, Nat.le_of_ble_eq_true rfl⟩ (Nat.le_of_ble_eq_true rfl) rfl dX5_hindrance_181 (fun e96 => ?_)
                refine f_if_eq hC 196 dX5_hindrance_184 (by decide) (fun c97 => ?_) (fun c97 => ?_)
                · replace hF := fi_pos hF c97
                  refine f_aload_n hC dX5_hindrance_196 rfl 2 rfl ?_
                  refine f_iload hC dX5_hindrance_197 0 rfl ?_
                  obtain ⟨r98, h99, hF⟩ := fb_open hF
                  refine f_callV hC [.int ((r15 + r18) - x11)] (c_X5_isClosed l D cy a0 ((r15 + r18) - x11) w r98 h99) q_1435 q_136 q_1432 q_1434 q_88 h9_X5_isClosed rfl (fSm.k (fSm.rf w) g3) ⟨Nat.le_of_ble_eq_true rfl, Nat.le_of_ble_eq_true rfl⟩ ⟨Nat.le_of_ble_eq_true rfl, Nat.le_of_ble_eq_true rfl⟩ (Nat.le_of_ble_eq_true rfl) rfl dX5_hindrance_199 (fun e100 => ?_)
                  refine f_if_eq hC 214 dX5_hindrance_202 (by decide) (fun c101 => ?_) (fun c101 => ?_)
                  · replace hF := fi_pos hF c101
                    refine f_aload_n hC dX5_hindrance_214 rfl 2 rfl ?_
                    refine f_iload_n hC dX5_hindrance_215 rfl 3 rfl ?_
                    refine f_iload_n hC dX5_hindrance_216 rfl 4 rfl ?_
                    obtain ⟨r102, h103, hF⟩ := fb_open hF
                    refine f_callV hC [.int x1, .int x2] (c_X5_isRead l D cy a0 x1 x2 w r102 h103) q_1600 q_136 q_1597 q_1599 q_113 h9_X5_isRead rfl (fSm.k (fSm.rf w) g3) ⟨Nat.le_of_ble_eq_true rfl, Nat.le_of_ble_eq_true rfl⟩ ⟨Nat.le_of_ble_eq_true rfl, Nat.le_of_ble_eq_true rfl⟩ (Nat.le_of_ble_eq_true rfl) rfl dX5_hindrance_217 (fun e104 => ?_)
                    refine f_if_eq hC 227 dX5_hindrance_220 (by decide) (fun c105 => ?_) (fun c105 => ?_)
                    · replace hF := fi_pos hF c105
                      refine f_aload_n hC dX5_hindrance_227 rfl 2 rfl ?_
                      refine f_bipush (v := 10) hC dX5_hindrance_228 (by decide) ?_
                      refine f_aload_n hC dX5_hindrance_230 rfl 2 rfl ?_
                      refine f_iload_n hC dX5_hindrance_231 rfl 3 rfl ?_
                      refine f_iload_n hC dX5_hindrance_232 rfl 4 rfl ?_
                      obtain ⟨r106, h107, hF⟩ := fb_open hF
                      refine f_callV hC [.int x1, .int x2] (c_X5_firstUnlike l D cy a0 x1 x2 w r106 h107) q_1604 q_136 q_1601 q_1603 q_114 h9_X5_firstUnlike rfl (fSm.k (fSm.rf w) g3) ⟨Nat.le_of_ble_eq_true rfl, Nat.le_of_ble_eq_true rfl⟩ ⟨Nat.le_of_ble_eq_true rfl, Nat.le_of_ble_eq_true rfl⟩ (Nat.le_of_ble_eq_true rfl) rfl dX5_hindrance_233 (fun e108 => ?_)
                      obtain ⟨r109, h110, hF⟩ := fb_open hF
                      refine f_callV hC [.int 10, .int r106] (c_X5_refused l D cy a0 10 r106 w r109 h110) q_1359 q_136 q_1356 q_1358 q_74 h9_X5_refused rfl (fSm.k (fSm.rf w) g3) ⟨Nat.le_of_ble_eq_true rfl, Nat.le_of_ble_eq_true rfl⟩ ⟨Nat.le_of_ble_eq_true rfl, Nat.le_of_ble_eq_true rfl⟩ (Nat.le_of_ble_eq_true rfl) rfl dX5_hindrance_236 (fun e111 => ?_)
                      obtain rfl := Option.some.inj hF
                      exact f_iret hC hEn (fSm.tr e111 (fSm.rf w)) dX5_hindrance_239
                    · replace hF := fi_neg hF c105
                      refine f_iconst (v := 0) hC dX5_hindrance_223 (by decide) ?_
                      refine f_goto hC 239 dX5_hindrance_224 (by decide) ?_
                      obtain rfl := Option.some.inj hF
                      exact f_iret hC hEn (fSm.rf w) dX5_hindrance_239
                  · replace hF := fi_neg hF c101
                    refine f_aload_n hC dX5_hindrance_205 rfl 2 rfl ?_
                    refine f_bipush (v := 9) hC dX5_hindrance_206 (by decide) ?_
                    refine f_iload hC dX5_hindrance_208 0 rfl ?_
                    obtain ⟨r112, h113, hF⟩ := fb_open hF
                    refine f_callV hC [.int 9, .int ((r15 + r18) - x11)] (c_X5_refused l D cy a0 9 ((r15 + r18) - x11) w r112 h113) q_1359 q_136 q_1356 q_1358 q_74 h9_X5_refused rfl (fSm.k (fSm.rf w) g3) ⟨Nat.le_of_ble_eq_true rfl, Nat.le_of_ble_eq_true rfl⟩ ⟨Nat.le_of_ble_eq_true rfl, Nat.le_of_ble_eq_true rfl⟩ (Nat.le_of_ble_eq_true rfl) rfl dX5_hindrance_210 (fun e114 => ?_)
                    obtain rfl := Option.some.inj hF
                    exact f_iret hC hEn (fSm.tr e114 (fSm.rf w)) dX5_hindrance_213
                · replace hF := fi_neg hF c97
                  refine f_aload_n hC dX5_hindrance_187 rfl 2 rfl ?_
                  refine f_bipush (v := 9) hC dX5_hindrance_188 (by decide) ?_
                  refine f_iload hC dX5_hindrance_190 1 rfl ?_
                  obtain ⟨r115, h116, hF⟩ := fb_open hF
                  refine f_callV hC [.int 9, .int x11] (c_X5_refused l D cy a0 9 x11 w r115 h116) q_1359 q_136 q_1356 q_1358 q_74 h9_X5_refused rfl (fSm.k (fSm.rf w) g3) ⟨Nat.le_of_ble_eq_true rfl, Nat.le_of_ble_eq_true rfl⟩ ⟨Nat.le_of_ble_eq_true rfl, Nat.le_of_ble_eq_true rfl⟩ (Nat.le_of_ble_eq_true rfl) rfl dX5_hindrance_192 (fun e117 => ?_)
                  obtain rfl := Option.some.inj hF
                  exact f_iret hC hEn (fSm.tr e117 (fSm.rf w)) dX5_hindrance_195
              · replace hF := fi_pos hF c93
                refine f_aload_n hC dX5_hindrance_145 rfl 2 rfl ?_
                refine f_getR hC 5 1 501 rfl (by decide) iX5 q_1255 rfl rfl (fSm.k (fSm.rf w) g3) dX5_hindrance_146 ?_
                refine f_iconst (v := 1) hC dX5_hindrance_149 (by decide) ?_
                obtain ⟨g118, hF⟩ := fg_open hF
                obtain ⟨g119, hF⟩ := fg_open hF
                refine f_iald hC (fSm.k (fSm.rf w) g118) (fSm.v (fSm.rf w) g119) dX5_hindrance_150 ?_
                refine f_iload_n hC dX5_hindrance_151 rfl 5 rfl ?_
                refine f_isub hC dX5_hindrance_152 ?_
                refine f_aload_n hC dX5_hindrance_153 rfl 2 rfl ?_
                refine f_iload_n hC dX5_hindrance_154 rfl 3 rfl ?_
                refine f_bipush (v := 9) hC dX5_hindrance_155 (by decide) ?_
                obtain ⟨r120, h121, hF⟩ := fb_open hF
                refine f_callV hC [.int x1, .int 9] (c_X5_of l D cy a0 x1 9 w r120 h121) q_1447 q_136 q_1444 q_1446 q_90 h9_X5_of rfl (fSm.k (fSm.rf w) g3) ⟨Nat.le_of_ble_eq_true rfl, Nat.le_of_ble_eq_true rfl⟩ ⟨Nat.le_of_ble_eq_true rfl, Nat.le_of_ble_eq_true rfl⟩ (Nat.le_of_ble_eq_true rfl) rfl dX5_hindrance_157 (fun e122 => ?_)
                refine f_icmp_le hC 178 dX5_hindrance_160 (by decide) (fun c123 => ?_) (fun c123 => ?_)
                · replace hF := fi_pos hF c123
                  refine f_aload_n hC dX5_hindrance_178 rfl 2 rfl ?_
                  refine f_iload hC dX5_hindrance_179 1 rfl ?_
                  obtain ⟨r124, h125, hF⟩ := fb_open hF
                  refine f_callV hC [.int x11] (c_X5_isClosed l D cy a0 x11 w r124 h125) q_1435 q_136 q_1432 q_1434 q_88 h9_X5_isClosed rfl (fSm.k (fSm.rf w) g3) ⟨Nat.le_of_ble_eq_true rfl, Nat.le_of_ble_eq_true rfl⟩ ⟨Nat.le_of_ble_eq_true rfl, Nat.le_of_ble_eq_true rfl⟩ (Nat.le_of_ble_eq_true rfl) rfl dX5_hindrance_181 (fun e126 => ?_)
                  refine f_if_eq hC 196 dX5_hindrance_184 (by decide) (fun c127 => ?_) (fun c127 => ?_)
                  · replace hF := fi_pos hF c127
                    refine f_aload_n hC dX5_hindrance_196 rfl 2 rfl ?_
                    refine f_iload hC dX5_hindrance_197 0 rfl ?_
                    obtain ⟨r128, h129, hF⟩ := fb_open hF
                    refine f_callV hC [.int ((r15 + r18) - x11)] (c_X5_isClosed l D cy a0 ((r15 + r18) - x11) w r128 h129) q_1435 q_136 q_1432 q_1434 q_88 h9_X5_isClosed rfl (fSm.k (fSm.rf w) g3) ⟨Nat.le_of_ble_eq_true rfl, Nat.le_of_ble_eq_true rfl⟩ ⟨Nat.le_of_ble_eq_true rfl, Nat.le_of_ble_eq_true rfl⟩ (Nat.le_of_ble_eq_true rfl) rfl dX5_hindrance_199 (fun e130 => ?_)
                    refine f_if_eq hC 214 dX5_hindrance_202 (by decide) (fun c131 => ?_) (fun c131 => ?_)
                    · replace hF := fi_pos hF c131
                      refine f_aload_n hC dX5_hindrance_214 rfl 2 rfl ?_
                      refine f_iload_n hC dX5_hindrance_215 rfl 3 rfl ?_
                      refine f_iload_n hC dX5_hindrance_216 rfl 4 rfl ?_
                      obtain ⟨r132, h133, hF⟩ := fb_open hF
                      refine f_callV hC [.int x1, .int x2] (c_X5_isRead l D cy a0 x1 x2 w r132 h133) q_1600 q_136 q_1597 q_1599 q_113 h9_X5_isRead rfl (fSm.k (fSm.rf w) g3) ⟨Nat.le_of_ble_eq_true rfl, Nat.le_of_ble_eq_true rfl⟩ ⟨Nat.le_of_ble_eq_true rfl, Nat.le_of_ble_eq_true rfl⟩ (Nat.le_of_ble_eq_true rfl) rfl dX5_hindrance_217 (fun e134 => ?_)
                      refine f_if_eq hC 227 dX5_hindrance_220 (by decide) (fun c135 => ?_) (fun c135 => ?_)
                      · replace hF := fi_pos hF c135
                        refine f_aload_n hC dX5_hindrance_227 rfl 2 rfl ?_
                        refine f_bipush (v := 10) hC dX5_hindrance_228 (by decide) ?_
                        refine f_aload_n hC dX5_hindrance_230 rfl 2 rfl ?_
                        refine f_iload_n hC dX5_hindrance_231 rfl 3 rfl ?_
                        refine f_iload_n hC dX5_hindrance_232 rfl 4 rfl ?_
                        obtain ⟨r136, h137, hF⟩ := fb_open hF
                        refine f_callV hC [.int x1, .int x2] (c_X5_firstUnlike l D cy a0 x1 x2 w r136 h137) q_1604 q_136 q_1601 q_1603 q_114 h9_X5_firstUnlike rfl (fSm.k (fSm.rf w) g3) ⟨Nat.le_of_ble_eq_true rfl, Nat.le_of_ble_eq_true rfl⟩ ⟨Nat.le_of_ble_eq_true rfl, Nat.le_of_ble_eq_true rfl⟩ (Nat.le_of_ble_eq_true rfl) rfl dX5_hindrance_233 (fun e138 => ?_)
                        obtain ⟨r139, h140, hF⟩ := fb_open hF
                        refine f_callV hC [.int 10, .int r136] (c_X5_refused l D cy a0 10 r136 w r139 h140) q_1359 q_136 q_1356 q_1358 q_74 h9_X5_refused rfl (fSm.k (fSm.rf w) g3) ⟨Nat.le_of_ble_eq_true rfl, Nat.le_of_ble_eq_true rfl⟩ ⟨Nat.le_of_ble_eq_true rfl, Nat.le_of_ble_eq_true rfl⟩ (Nat.le_of_ble_eq_true rfl) rfl dX5_hindrance_236 (fun e141 => ?_)
                        obtain rfl := Option.some.inj hF
                        exact f_iret hC hEn (fSm.tr e141 (fSm.rf w)) dX5_hindrance_239
                      · replace hF := fi_neg hF c135
                        refine f_iconst (v := 0) hC dX5_hindrance_223 (by decide) ?_
                        refine f_goto hC 239 dX5_hindrance_224 (by decide) ?_
                        obtain rfl := Option.some.inj hF
                        exact f_iret hC hEn (fSm.rf w) dX5_hindrance_239
                    · replace hF := fi_neg hF c131
                      refine f_aload_n hC dX5_hindrance_205 rfl 2 rfl ?_
                      refine f_bipush (v := 9) hC dX5_hindrance_206 (by decide) ?_
                      refine f_iload hC dX5_hindrance_208 0 rfl ?_
                      obtain ⟨r142, h143, hF⟩ := fb_open hF
                      refine f_callV hC [.int 9, .int ((r15 + r18) - x11)] (c_X5_refused l D cy a0 9 ((r15 + r18) - x11) w r142 h143) q_1359 q_136 q_1356 q_1358 q_74 h9_X5_refused rfl (fSm.k (fSm.rf w) g3) ⟨Nat.le_of_ble_eq_true rfl, Nat.le_of_ble_eq_true rfl⟩ ⟨Nat.le_of_ble_eq_true rfl, Nat.le_of_ble_eq_true rfl⟩ (Nat.le_of_ble_eq_true rfl) rfl dX5_hindrance_210 (fun e144 => ?_)
                      obtain rfl := Option.some.inj hF
                      exact f_iret hC hEn (fSm.tr e144 (fSm.rf w)) dX5_hindrance_213
                  · replace hF := fi_neg hF c127
                    refine f_aload_n hC dX5_hindrance_187 rfl 2 rfl ?_
                    refine f_bipush (v := 9) hC dX5_hindrance_188 (by decide) ?_
                    refine f_iload hC dX5_hindrance_190 1 rfl ?_
                    obtain ⟨r145, h146, hF⟩ := fb_open hF
                    refine f_callV hC [.int 9, .int x11] (c_X5_refused l D cy a0 9 x11 w r145 h146) q_1359 q_136 q_1356 q_1358 q_74 h9_X5_refused rfl (fSm.k (fSm.rf w) g3) ⟨Nat.le_of_ble_eq_true rfl, Nat.le_of_ble_eq_true rfl⟩ ⟨Nat.le_of_ble_eq_true rfl, Nat.le_of_ble_eq_true rfl⟩ (Nat.le_of_ble_eq_true rfl) rfl dX5_hindrance_192 (fun e147 => ?_)
                    obtain rfl := Option.some.inj hF
                    exact f_iret hC hEn (fSm.tr e147 (fSm.rf w)) dX5_hindrance_195
                · replace hF := fi_neg hF c123
                  refine f_aload_n hC dX5_hindrance_163 rfl 2 rfl ?_
                  refine f_bipush (v := 8) hC dX5_hindrance_164 (by decide) ?_
                  refine f_aload_n hC dX5_hindrance_166 rfl 2 rfl ?_
                  refine f_getR hC 5 1 501 rfl (by decide) iX5 q_1255 rfl rfl (fSm.k (fSm.rf w) g3) dX5_hindrance_167 ?_
                  refine f_iconst (v := 1) hC dX5_hindrance_170 (by decide) ?_
                  refine f_iald hC (fSm.k (fSm.rf w) g118) (fSm.v (fSm.rf w) g119) dX5_hindrance_171 ?_
                  refine f_iload_n hC dX5_hindrance_172 rfl 5 rfl ?_
                  refine f_isub hC dX5_hindrance_173 ?_
                  obtain ⟨r148, h149, hF⟩ := fb_open hF
                  refine f_callV hC [.int 8, .int ((gI w 601 (gR w 501 a0 0) (Int32.toNatClampNeg 1)) - r1)] (c_X5_refused l D cy a0 8 ((gI w 601 (gR w 501 a0 0) (Int32.toNatClampNeg 1)) - r1) w r148 h149) q_1359 q_136 q_1356 q_1358 q_74 h9_X5_refused rfl (fSm.k (fSm.rf w) g3) ⟨Nat.le_of_ble_eq_true rfl, Nat.le_of_ble_eq_true rfl⟩ ⟨Nat.le_of_ble_eq_true rfl, Nat.le_of_ble_eq_true rfl⟩ (Nat.le_of_ble_eq_true rfl) rfl dX5_hindrance_174 (fun e150 => ?_)
                  obtain rfl := Option.some.inj hF
                  exact f_iret hC hEn (fSm.tr e150 (fSm.rf w)) dX5_hindrance_177
            · replace hF := fi_pos hF c92
              refine f_aload_n hC dX5_hindrance_127 rfl 2 rfl ?_
              refine f_bipush (v := 7) hC dX5_hindrance_128 (by decide) ?_
              refine f_aload_n hC dX5_hindrance_130 rfl 2 rfl ?_
              refine f_getR hC 5 1 501 rfl (by decide) iX5 q_1255 rfl rfl (fSm.k (fSm.rf w) g3) dX5_hindrance_131 ?_
              refine f_iconst (v := 1) hC dX5_hindrance_134 (by decide) ?_
              obtain ⟨g151, hF⟩ := fg_open hF
              obtain ⟨g152, hF⟩ := fg_open hF
              refine f_iald hC (fSm.k (fSm.rf w) g151) (fSm.v (fSm.rf w) g152) dX5_hindrance_135 ?_
              obtain ⟨r153, h154, hF⟩ := fb_open hF
              refine f_callV hC [.int 7, .int (gI w 601 (gR w 501 a0 0) (Int32.toNatClampNeg 1))] (c_X5_refused l D cy a0 7 (gI w 601 (gR w 501 a0 0) (Int32.toNatClampNeg 1)) w r153 h154) q_1359 q_136 q_1356 q_1358 q_74 h9_X5_refused rfl (fSm.k (fSm.rf w) g3) ⟨Nat.le_of_ble_eq_true rfl, Nat.le_of_ble_eq_true rfl⟩ ⟨Nat.le_of_ble_eq_true rfl, Nat.le_of_ble_eq_true rfl⟩ (Nat.le_of_ble_eq_true rfl) rfl dX5_hindrance_136 (fun e155 => ?_)
              obtain rfl := Option.some.inj hF
              exact f_iret hC hEn (fSm.tr e155 (fSm.rf w)) dX5_hindrance_139
        · replace hF := fi_pos hF c32
          refine f_aload_n hC dX5_hindrance_109 rfl 2 rfl ?_
          refine f_bipush (v := 6) hC dX5_hindrance_110 (by decide) ?_
          refine f_iload_n hC dX5_hindrance_112 rfl 4 rfl ?_
          obtain ⟨r156, h157, hF⟩ := fb_open hF
          refine f_callV hC [.int 6, .int x2] (c_X5_refused l D cy a0 6 x2 w r156 h157) q_1359 q_136 q_1356 q_1358 q_74 h9_X5_refused rfl (fSm.k (fSm.rf w) g3) ⟨Nat.le_of_ble_eq_true rfl, Nat.le_of_ble_eq_true rfl⟩ ⟨Nat.le_of_ble_eq_true rfl, Nat.le_of_ble_eq_true rfl⟩ (Nat.le_of_ble_eq_true rfl) rfl dX5_hindrance_113 (fun e158 => ?_)
          obtain rfl := Option.some.inj hF
          exact f_iret hC hEn (fSm.tr e158 (fSm.rf w)) dX5_hindrance_116
      · replace hF := fi_pos hF c28
        refine f_aload_n hC dX5_hindrance_91 rfl 2 rfl ?_
        refine f_iconst (v := 5) hC dX5_hindrance_92 (by decide) ?_
        refine f_iload_n hC dX5_hindrance_93 rfl 4 rfl ?_
        obtain ⟨r159, h160, hF⟩ := fb_open hF
        refine f_callV hC [.int 5, .int x2] (c_X5_refused l D cy a0 5 x2 w r159 h160) q_1359 q_136 q_1356 q_1358 q_74 h9_X5_refused rfl (fSm.k (fSm.rf w) g3) ⟨Nat.le_of_ble_eq_true rfl, Nat.le_of_ble_eq_true rfl⟩ ⟨Nat.le_of_ble_eq_true rfl, Nat.le_of_ble_eq_true rfl⟩ (Nat.le_of_ble_eq_true rfl) rfl dX5_hindrance_94 (fun e161 => ?_)
        obtain rfl := Option.some.inj hF
        exact f_iret hC hEn (fSm.tr e161 (fSm.rf w)) dX5_hindrance_97
    · replace hF := fi_pos hF c24
      refine f_aload_n hC dX5_hindrance_75 rfl 2 rfl ?_
      refine f_iconst (v := 4) hC dX5_hindrance_76 (by decide) ?_
      refine f_iload_n hC dX5_hindrance_77 rfl 4 rfl ?_
      obtain ⟨r162, h163, hF⟩ := fb_open hF
      refine f_callV hC [.int 4, .int x2] (c_X5_refused l D cy a0 4 x2 w r162 h163) q_1359 q_136 q_1356 q_1358 q_74 h9_X5_refused rfl (fSm.k (fSm.rf w) g3) ⟨Nat.le_of_ble_eq_true rfl, Nat.le_of_ble_eq_true rfl⟩ ⟨Nat.le_of_ble_eq_true rfl, Nat.le_of_ble_eq_true rfl⟩ (Nat.le_of_ble_eq_true rfl) rfl dX5_hindrance_78 (fun e164 => ?_)
      obtain rfl := Option.some.inj hF
      exact f_iret hC hEn (fSm.tr e164 (fSm.rf w)) dX5_hindrance_81
  refine f_icmp_ge hC 35 dX5_hindrance_22 (by decide) (fun c165 => ?_) (fun c165 => ?_)
  · replace h12 := fi_pos h12 c165
    refine f_aload_n hC dX5_hindrance_35 rfl 1 rfl ?_
    refine f_iload_n hC dX5_hindrance_36 rfl 2 rfl ?_
    refine f_bipush (v := 8) hC dX5_hindrance_37 (by decide) ?_
    obtain ⟨r166, h167, h12⟩ := fb_open h12
    refine f_callV hC [.int x1, .int 8] (c_X5_of l D cy a0 x1 8 w r166 h167) q_1447 q_136 q_1444 q_1446 q_90 h9_X5_of rfl (fSm.k (fSm.rf w) g3) ⟨Nat.le_of_ble_eq_true rfl, Nat.le_of_ble_eq_true rfl⟩ ⟨Nat.le_of_ble_eq_true rfl, Nat.le_of_ble_eq_true rfl⟩ (Nat.le_of_ble_eq_true rfl) rfl dX5_hindrance_39 (fun e168 => ?_)
    obtain rfl := Option.some.inj h12
    refine f_sub (L' := [(0, .ref a0), (1, .int x1), (2, .int x2), (3, .int r1)]) [1, 2, 3, 0] rfl ?_
    exact K14
  · replace h12 := fi_neg h12 c165
    refine f_aload_n hC dX5_hindrance_25 rfl 1 rfl ?_
    refine f_iload_n hC dX5_hindrance_26 rfl 2 rfl ?_
    refine f_bipush (v := 7) hC dX5_hindrance_27 (by decide) ?_
    obtain ⟨r169, h170, h12⟩ := fb_open h12
    refine f_callV hC [.int x1, .int 7] (c_X5_of l D cy a0 x1 7 w r169 h170) q_1447 q_136 q_1444 q_1446 q_90 h9_X5_of rfl (fSm.k (fSm.rf w) g3) ⟨Nat.le_of_ble_eq_true rfl, Nat.le_of_ble_eq_true rfl⟩ ⟨Nat.le_of_ble_eq_true rfl, Nat.le_of_ble_eq_true rfl⟩ (Nat.le_of_ble_eq_true rfl) rfl dX5_hindrance_29 (fun e171 => ?_)
    refine f_goto hC 42 dX5_hindrance_32 (by decide) ?_
    obtain rfl := Option.some.inj h12
    refine f_sub (L' := [(0, .ref a0), (1, .int x1), (2, .int x2), (3, .int r1)]) [1, 2, 3, 0] rfl ?_
    exact K14
