theorem dX2_getWet_0 : decode cX2_getWet 0 = .ok (.aload_n 0, 1) := by decide +kernel
theorem dX2_getWet_1 : decode cX2_getWet 1 = .ok (.iload_n 1, 1) := by decide +kernel
theorem dX2_getWet_2 : decode cX2_getWet 2 = .ok (.invokevirtual 55, 3) := by decide +kernel
theorem dX2_getWet_5 : decode cX2_getWet 5 = .ok (.astore_n 3, 1) := by decide +kernel
theorem dX2_getWet_6 : decode cX2_getWet 6 = .ok (.aload_n 0, 1) := by decide +kernel
theorem dX2_getWet_7 : decode cX2_getWet 7 = .ok (.iload_n 1, 1) := by decide +kernel
theorem dX2_getWet_8 : decode cX2_getWet 8 = .ok (.ifCond .ne 7, 3) := by decide +kernel
theorem dX2_getWet_11 : decode cX2_getWet 11 = .ok (.iconst 1, 1) := by decide +kernel
theorem dX2_getWet_12 : decode cX2_getWet 12 = .ok (.goto 4, 3) := by decide +kernel
theorem dX2_getWet_15 : decode cX2_getWet 15 = .ok (.iconst 0, 1) := by decide +kernel
theorem dX2_getWet_16 : decode cX2_getWet 16 = .ok (.invokevirtual 55, 3) := by decide +kernel
theorem dX2_getWet_19 : decode cX2_getWet 19 = .ok (.astore 4, 2) := by decide +kernel
theorem dX2_getWet_21 : decode cX2_getWet 21 = .ok (.aload_n 3, 1) := by decide +kernel
theorem dX2_getWet_22 : decode cX2_getWet 22 = .ok (.aload_n 3, 1) := by decide +kernel
theorem dX2_getWet_23 : decode cX2_getWet 23 = .ok (.iload_n 2, 1) := by decide +kernel
theorem dX2_getWet_24 : decode cX2_getWet 24 = .ok (.invokevirtual 59, 3) := by decide +kernel
theorem dX2_getWet_27 : decode cX2_getWet 27 = .ok (.putfield 63, 3) := by decide +kernel
theorem dX2_getWet_30 : decode cX2_getWet 30 = .ok (.aload_n 0, 1) := by decide +kernel
theorem dX2_getWet_31 : decode cX2_getWet 31 = .ok (.getfield 28, 3) := by decide +kernel
theorem dX2_getWet_34 : decode cX2_getWet 34 = .ok (.ifCond .ne 16, 3) := by decide +kernel
theorem dX2_getWet_37 : decode cX2_getWet 37 = .ok (.aload 4, 2) := by decide +kernel
theorem dX2_getWet_39 : decode cX2_getWet 39 = .ok (.aload 4, 2) := by decide +kernel
theorem dX2_getWet_41 : decode cX2_getWet 41 = .ok (.iload_n 2, 1) := by decide +kernel
theorem dX2_getWet_42 : decode cX2_getWet 42 = .ok (.iconst 2, 1) := by decide +kernel
theorem dX2_getWet_43 : decode cX2_getWet 43 = .ok (.idiv, 1) := by decide +kernel
theorem dX2_getWet_44 : decode cX2_getWet 44 = .ok (.invokevirtual 59, 3) := by decide +kernel
theorem dX2_getWet_47 : decode cX2_getWet 47 = .ok (.putfield 63, 3) := by decide +kernel
theorem dX2_getWet_50 : decode cX2_getWet 50 = .ok (.aload_n 0, 1) := by decide +kernel
theorem dX2_getWet_51 : decode cX2_getWet 51 = .ok (.aload_n 0, 1) := by decide +kernel
theorem dX2_getWet_52 : decode cX2_getWet 52 = .ok (.getfield 28, 3) := by decide +kernel
theorem dX2_getWet_55 : decode cX2_getWet 55 = .ok (.ifCond .ne 22, 3) := by decide +kernel
theorem dX2_getWet_58 : decode cX2_getWet 58 = .ok (.aload_n 3, 1) := by decide +kernel
theorem dX2_getWet_59 : decode cX2_getWet 59 = .ok (.getfield 63, 3) := by decide +kernel
theorem dX2_getWet_62 : decode cX2_getWet 62 = .ok (.bipush 6, 2) := by decide +kernel
theorem dX2_getWet_64 : decode cX2_getWet 64 = .ok (.if_icmp .ge 13, 3) := by decide +kernel
theorem dX2_getWet_67 : decode cX2_getWet 67 = .ok (.aload 4, 2) := by decide +kernel
theorem dX2_getWet_69 : decode cX2_getWet 69 = .ok (.getfield 63, 3) := by decide +kernel
theorem dX2_getWet_72 : decode cX2_getWet 72 = .ok (.bipush 6, 2) := by decide +kernel
theorem dX2_getWet_74 : decode cX2_getWet 74 = .ok (.if_icmp .lt 7, 3) := by decide +kernel
theorem dX2_getWet_77 : decode cX2_getWet 77 = .ok (.iconst 1, 1) := by decide +kernel
theorem dX2_getWet_78 : decode cX2_getWet 78 = .ok (.goto 4, 3) := by decide +kernel
theorem dX2_getWet_81 : decode cX2_getWet 81 = .ok (.iconst 0, 1) := by decide +kernel
theorem dX2_getWet_82 : decode cX2_getWet 82 = .ok (.putfield 28, 3) := by decide +kernel
theorem dX2_getWet_85 : decode cX2_getWet 85 = .ok (.return_, 1) := by decide +kernel
theorem h9_X2_getWet : yX2_getWet.cls ≠ "java/lang/invoke/MethodHandle" ∧ yX2_getWet.cls ≠ "java/lang/invoke/VarHandle" ∧ (parseMethodDescriptor yX2_getWet.desc).map (fun d => d.parameters.length) = some 2 := by decide +kernel
noncomputable def F_X2_getWet (a0 : Nat) (x1 : Int32) (x2 : Int32) (w : FW) : Option (FW) :=
  fg (w.1 a0 = 3) inferInstance ((F_X2_half a0 x1 w).bind (fun r1 => ((if x1 = 0 then some 1 else some 0) : Option (Int32)).bind (fun x5 => (F_X2_half a0 x5 w).bind (fun r9 => fg (w.1 r1 = 1) inferInstance ((F_X0_wetterBy r1 x2 w).bind (fun r12 => ((if (gI (sI w 2 r1 0 r12) 204 a0 0) = 0 then fg (w.1 r9 = 1) inferInstance ((F_X0_wetterBy r9 (x2 / 2) (sI w 2 r1 0 r12)).bind (fun r25 => some (sI (sI w 2 r1 0 r12) 2 r9 0 r25))) else some (sI w 2 r1 0 r12)) : Option (FW)).bind (fun x16 => (if (gI x16 204 a0 0) = 0 then (if 6 ≤ (gI x16 2 r1 0) then some (sI x16 204 a0 0 1) else fg (w.1 r9 = 1) inferInstance ((if (gI x16 2 r9 0) < 6 then some (sI x16 204 a0 0 0) else some (sI x16 204 a0 0 1)))) else some (sI x16 204 a0 0 1)))))))))
set_option maxHeartbeats 4000000 in
set_option maxRecDepth 100000 in
theorem c_X2_getWet (l : Launch) (D : va_G) (cy : Nat → ClassId) (a0 : Nat) (x1 : Int32) (x2 : Int32) (w : FW) (r : FW) (hF : F_X2_getWet a0 x1 x2 w = some r) : fSpec l D cy yX2_getWet cX2_getWet 5 none { frames := 2, cells := 0, slots := 0, locals := 42 } [.ref a0, .int x1, .int x2] w r none := by
  refine f_begin (by decide +kernel) (Nat.le_of_ble_eq_true rfl) (fun X hC hEn => ?_)
  unfold F_X2_getWet at hF
  show fAt X 0 0 5 w [(0, .ref a0), (1, .int x1), (2, .int x2)] [] 0
  refine f_aload_n hC dX2_getWet_0 rfl 0 rfl ?_
  refine f_iload_n hC dX2_getWet_1 rfl 1 rfl ?_
  obtain ⟨g3, hF⟩ := fg_open hF
  obtain ⟨r1, h2, hF⟩ := fb_open hF
  refine f_callV hC [.int x1] (c_X2_half l D cy a0 x1 w r1 h2) q_810 q_134 q_830 q_809 q_39 h9_X2_half rfl (fSm.k (fSm.rf w) g3) ⟨Nat.le_of_ble_eq_true rfl, Nat.le_of_ble_eq_true rfl⟩ ⟨Nat.le_of_ble_eq_true rfl, Nat.le_of_ble_eq_true rfl⟩ (Nat.le_of_ble_eq_true rfl) rfl dX2_getWet_2 (fun e4 => ?_)
  refine f_astore_n (L' := [(3, .ref r1), (0, .ref a0), (1, .int x1), (2, .int x2)]) hC dX2_getWet_5 rfl (by decide) rfl ?_
  refine f_aload_n hC dX2_getWet_6 rfl 1 rfl ?_
  refine f_iload_n hC dX2_getWet_7 rfl 2 rfl ?_
  obtain ⟨x5, h6, hF⟩ := fb_open hF
  have K8 : fAt X 0 0 5 w [(0, .ref a0), (2, .int x2), (3, .ref r1)] [.int x5, .ref a0] 16 := by
    obtain ⟨r9, h10, hF⟩ := fb_open hF
    refine f_callV hC [.int x5] (c_X2_half l D cy a0 x5 w r9 h10) q_810 q_134 q_830 q_809 q_39 h9_X2_half rfl (fSm.k (fSm.rf w) g3) ⟨Nat.le_of_ble_eq_true rfl, Nat.le_of_ble_eq_true rfl⟩ ⟨Nat.le_of_ble_eq_true rfl, Nat.le_of_ble_eq_true rfl⟩ (Nat.le_of_ble_eq_true rfl) rfl dX2_getWet_16 (fun e11 => ?_)
    refine f_astore (L' := [(4, .ref r9), (0, .ref a0), (2, .int x2), (3, .ref r1)]) hC dX2_getWet_19 (by decide) rfl ?_
    refine f_aload_n hC dX2_getWet_21 rfl 3 rfl ?_
    refine f_aload_n hC dX2_getWet_22 rfl 3 rfl ?_
    refine f_iload_n hC dX2_getWet_23 rfl 2 rfl ?_
    obtain ⟨g14, hF⟩ := fg_open hF
    obtain ⟨r12, h13, hF⟩ := fb_open hF
    refine f_callVN hC [.int x2] (c_X0_wetterBy l D cy r1 x2 w r12 h13) q_834 q_135 q_831 q_833 q_43 h9_X0_wetterBy rfl (fSm.k (fSm.rf w) g14) ⟨Nat.le_of_ble_eq_true rfl, Nat.le_of_ble_eq_true rfl⟩ ⟨Nat.le_of_ble_eq_true rfl, Nat.le_of_ble_eq_true rfl⟩ (Nat.le_of_ble_eq_true rfl) rfl dX2_getWet_24 (fun e15 => ?_)
    refine f_putIN hC 0 2 2 rfl (by decide) iX0 tyX0 tyX0_ok nmX0 q_207 rfl rfl rfl rfl rfl (fSm.k (fSm.rf w) g14) dX2_getWet_27 ?_
    refine f_aload_n hC dX2_getWet_30 rfl 1 rfl ?_
    refine f_getI hC 2 4 204 rfl (by decide) iX2 q_240 rfl rfl (fSm.k (fSm.rf w) g3) dX2_getWet_31 ?_
    obtain ⟨x16, h17, hF⟩ := fb_open hF
    have K19 : fSm x16 w → fAt X 0 0 5 x16 [(0, .ref a0), (3, .ref r1), (4, .ref r9)] [] 50 := by
      intro p18
      refine f_aload_n hC dX2_getWet_50 rfl 0 rfl ?_
      refine f_aload_n hC dX2_getWet_51 rfl 0 rfl ?_
      refine f_getI hC 2 4 204 rfl (by decide) iX2 q_240 rfl rfl (fSm.k p18 g3) dX2_getWet_52 ?_
      refine f_if_ne hC 77 dX2_getWet_55 (by decide) (fun c20 => ?_) (fun c20 => ?_)
      · replace hF := fi_neg hF c20
        refine f_iconst (v := 1) hC dX2_getWet_77 (by decide) ?_
        refine f_goto hC 82 dX2_getWet_78 (by decide) ?_
        refine f_putI hC 2 4 204 rfl (by decide) iX2 tyX2 tyX2_ok nmX2 q_240 rfl rfl rfl (nar_z (by decide)) rfl (fSm.k p18 g3) dX2_getWet_82 ?_
        obtain rfl := Option.some.inj hF
        exact f_vret hC hEn p18 dX2_getWet_85
      · replace hF := fi_pos hF c20
        refine f_aload_n hC dX2_getWet_58 rfl 1 rfl ?_
        refine f_getIN hC 0 2 2 rfl (by decide) iX0 q_207 rfl rfl (fSm.k p18 g14) dX2_getWet_59 ?_
        refine f_bipush (v := 6) hC dX2_getWet_62 (by decide) ?_
        refine f_icmp_ge hC 77 dX2_getWet_64 (by decide) (fun c21 => ?_) (fun c21 => ?_)
        · replace hF := fi_pos hF c21
          refine f_iconst (v := 1) hC dX2_getWet_77 (by decide) ?_
          refine f_goto hC 82 dX2_getWet_78 (by decide) ?_
          refine f_putI hC 2 4 204 rfl (by decide) iX2 tyX2 tyX2_ok nmX2 q_240 rfl rfl rfl (nar_z (by decide)) rfl (fSm.k p18 g3) dX2_getWet_82 ?_
          obtain rfl := Option.some.inj hF
          exact f_vret hC hEn p18 dX2_getWet_85
        · replace hF := fi_neg hF c21
          refine f_aload hC dX2_getWet_67 2 rfl ?_
          obtain ⟨g22, hF⟩ := fg_open hF
          refine f_getIN hC 0 2 2 rfl (by decide) iX0 q_207 rfl rfl (fSm.k p18 g22) dX2_getWet_69 ?_
          refine f_bipush (v := 6) hC dX2_getWet_72 (by decide) ?_
          refine f_icmp_lt hC 81 dX2_getWet_74 (by decide) (fun c23 => ?_) (fun c23 => ?_)
          · replace hF := fi_pos hF c23
            refine f_iconst (v := 0) hC dX2_getWet_81 (by decide) ?_
            refine f_putI hC 2 4 204 rfl (by decide) iX2 tyX2 tyX2_ok nmX2 q_240 rfl rfl rfl (nar_z (by decide)) rfl (fSm.k p18 g3) dX2_getWet_82 ?_
            obtain rfl := Option.some.inj hF
            exact f_vret hC hEn p18 dX2_getWet_85
          · replace hF := fi_neg hF c23
            refine f_iconst (v := 1) hC dX2_getWet_77 (by decide) ?_
            refine f_goto hC 82 dX2_getWet_78 (by decide) ?_
            refine f_putI hC 2 4 204 rfl (by decide) iX2 tyX2 tyX2_ok nmX2 q_240 rfl rfl rfl (nar_z (by decide)) rfl (fSm.k p18 g3) dX2_getWet_82 ?_
            obtain rfl := Option.some.inj hF
            exact f_vret hC hEn p18 dX2_getWet_85
    refine f_if_ne hC 50 dX2_getWet_34 (by decide) (fun c24 => ?_) (fun c24 => ?_)
    · replace h17 := fi_neg h17 c24
      obtain rfl := Option.some.inj h17
      refine f_sub (L' := [(0, .ref a0), (3, .ref r1), (4, .ref r9)]) [1, 3, 0] rfl ?_
      exact K19 (fSm.rf w)
    · replace h17 := fi_pos h17 c24
      refine f_aload hC dX2_getWet_37 0 rfl ?_
      refine f_aload hC dX2_getWet_39 0 rfl ?_
      refine f_iload_n hC dX2_getWet_41 rfl 2 rfl ?_
      refine f_iconst (v := 2) hC dX2_getWet_42 (by decide) ?_
      refine f_idiv hC dX2_getWet_43 (by decide) ?_
      obtain ⟨g27, h17⟩ := fg_open h17
      obtain ⟨r25, h26, h17⟩ := fb_open h17
      refine f_callVN hC [.int (x2 / 2)] (c_X0_wetterBy l D cy r9 (x2 / 2) (sI w 2 r1 0 r12) r25 h26) q_834 q_135 q_831 q_833 q_43 h9_X0_wetterBy rfl (fSm.k (fSm.rf w) g27) ⟨Nat.le_of_ble_eq_true rfl, Nat.le_of_ble_eq_true rfl⟩ ⟨Nat.le_of_ble_eq_true rfl, Nat.le_of_ble_eq_true rfl⟩ (Nat.le_of_ble_eq_true rfl) rfl dX2_getWet_44 (fun e28 => ?_)
      refine f_putIN hC 0 2 2 rfl (by decide) iX0 tyX0 tyX0_ok nmX0 q_207 rfl rfl rfl rfl rfl (fSm.k (fSm.rf w) g27) dX2_getWet_47 ?_
      obtain rfl := Option.some.inj h17
      refine f_sub (L' := [(0, .ref a0), (3, .ref r1), (4, .ref r9)]) [1, 3, 0] rfl ?_
      exact K19 (fSm.rf w)
  refine f_if_ne hC 15 dX2_getWet_8 (by decide) (fun c29 => ?_) (fun c29 => ?_)
  · replace h6 := fi_neg h6 c29
    refine f_iconst (v := 0) hC dX2_getWet_15 (by decide) ?_
    obtain rfl := Option.some.inj h6
    refine f_sub (L' := [(0, .ref a0), (2, .int x2), (3, .ref r1)]) [1, 3, 0] rfl ?_
    exact K8
  · replace h6 := fi_pos h6 c29
    refine f_iconst (v := 1) hC dX2_getWet_11 (by decide) ?_
    refine f_goto hC 16 dX2_getWet_12 (by decide) ?_
    obtain rfl := Option.some.inj h6
    refine f_sub (L' := [(0, .ref a0), (2, .int x2), (3, .ref r1)]) [1, 3, 0] rfl ?_
    exact K8
theorem dX4_tryWet_0 : decode cX4_tryWet 0 = .ok (.aload_n 0, 1) := by decide +kernel
theorem dX4_tryWet_1 : decode cX4_tryWet 1 = .ok (.getfield 12, 3) := by decide +kernel
theorem dX4_tryWet_4 : decode cX4_tryWet 4 = .ok (.iload_n 1, 1) := by decide +kernel
theorem dX4_tryWet_5 : decode cX4_tryWet 5 = .ok (.invokevirtual 407, 3) := by decide +kernel
theorem dX4_tryWet_8 : decode cX4_tryWet 8 = .ok (.ifCond .ne 5, 3) := by decide +kernel
theorem dX4_tryWet_11 : decode cX4_tryWet 11 = .ok (.iconst 1, 1) := by decide +kernel
theorem dX4_tryWet_12 : decode cX4_tryWet 12 = .ok (.ireturn, 1) := by decide +kernel
theorem dX4_tryWet_13 : decode cX4_tryWet 13 = .ok (.iload_n 3, 1) := by decide +kernel
theorem dX4_tryWet_14 : decode cX4_tryWet 14 = .ok (.iconst 1, 1) := by decide +kernel
theorem dX4_tryWet_15 : decode cX4_tryWet 15 = .ok (.if_icmp .lt 9, 3) := by decide +kernel
theorem dX4_tryWet_18 : decode cX4_tryWet 18 = .ok (.iload_n 3, 1) := by decide +kernel
theorem dX4_tryWet_19 : decode cX4_tryWet 19 = .ok (.bipush 9, 2) := by decide +kernel
theorem dX4_tryWet_21 : decode cX4_tryWet 21 = .ok (.if_icmp .le 5, 3) := by decide +kernel
theorem dX4_tryWet_24 : decode cX4_tryWet 24 = .ok (.iconst 2, 1) := by decide +kernel
theorem dX4_tryWet_25 : decode cX4_tryWet 25 = .ok (.ireturn, 1) := by decide +kernel
theorem dX4_tryWet_26 : decode cX4_tryWet 26 = .ok (.aload_n 0, 1) := by decide +kernel
theorem dX4_tryWet_27 : decode cX4_tryWet 27 = .ok (.getfield 12, 3) := by decide +kernel
theorem dX4_tryWet_30 : decode cX4_tryWet 30 = .ok (.getfield 235, 3) := by decide +kernel
theorem dX4_tryWet_33 : decode cX4_tryWet 33 = .ok (.iload_n 1, 1) := by decide +kernel
theorem dX4_tryWet_34 : decode cX4_tryWet 34 = .ok (.aaload, 1) := by decide +kernel
theorem dX4_tryWet_35 : decode cX4_tryWet 35 = .ok (.iload_n 2, 1) := by decide +kernel
theorem dX4_tryWet_36 : decode cX4_tryWet 36 = .ok (.iload_n 3, 1) := by decide +kernel
theorem dX4_tryWet_37 : decode cX4_tryWet 37 = .ok (.invokevirtual 424, 3) := by decide +kernel
theorem dX4_tryWet_40 : decode cX4_tryWet 40 = .ok (.iconst 0, 1) := by decide +kernel
theorem dX4_tryWet_41 : decode cX4_tryWet 41 = .ok (.ireturn, 1) := by decide +kernel
theorem h9_X4_tryWet : yX4_tryWet.cls ≠ "java/lang/invoke/MethodHandle" ∧ yX4_tryWet.cls ≠ "java/lang/invoke/VarHandle" ∧ (parseMethodDescriptor yX4_tryWet.desc).map (fun d => d.parameters.length) = some 3 := by decide +kernel
noncomputable def F_X4_tryWet (a0 : Nat) (x1 : Int32) (x2 : Int32) (x3 : Int32) (w : FW) : Option (Int32 × FW) :=
  fg (w.1 a0 = 5) inferInstance (fg (w.1 (gR w 400 a0 0) = 2) inferInstance ((F_X1_hasTicket (gR w 400 a0 0) x1 w).bind (fun r2 => (if r2 = 0 then some (1, w) else (if x3 < 1 then some (2, w) else (if x3 ≤ 9 then fg (w.1 (gR w 100 (gR w 400 a0 0) 0) = 14) inferInstance (fg (¬ (x1 < 0 ∨ w.2.1 (gR w 100 (gR w 400 a0 0) 0) ≤ Int32.toNatClampNeg x1)) inferInstance (fg (w.1 (gR w 604 (gR w 100 (gR w 400 a0 0) 0) (Int32.toNatClampNeg x1)) = 3) inferInstance ((F_X2_getWet (gR w 604 (gR w 100 (gR w 400 a0 0) 0) (Int32.toNatClampNeg x1)) x2 x3 w).bind (fun r11 => some (0, r11))))) else some (2, w)))))))
set_option maxHeartbeats 4000000 in
set_option maxRecDepth 100000 in
theorem c_X4_tryWet (l : Launch) (D : va_G) (cy : Nat → ClassId) (a0 : Nat) (x1 : Int32) (x2 : Int32) (x3 : Int32) (w : FW) (r : Int32 × FW) (hF : F_X4_tryWet a0 x1 x2 x3 w = some r) : fSpec l D cy yX4_tryWet cX4_tryWet 4 (some .int) { frames := 3, cells := 0, slots := 0, locals := 66 } [.ref a0, .int x1, .int x2, .int x3] w r.2 (some (.int r.1)) := by
  refine f_begin (by decide +kernel) (Nat.le_of_ble_eq_true rfl) (fun X hC hEn => ?_)
  unfold F_X4_tryWet at hF
  show fAt X 0 0 4 w [(0, .ref a0), (1, .int x1), (2, .int x2), (3, .int x3)] [] 0
  refine f_aload_n hC dX4_tryWet_0 rfl 0 rfl ?_
  obtain ⟨g1, hF⟩ := fg_open hF
  refine f_getR hC 4 0 400 rfl (by decide) iX4 q_313 rfl rfl (fSm.k (fSm.rf w) g1) dX4_tryWet_1 ?_
  refine f_iload_n hC dX4_tryWet_4 rfl 1 rfl ?_
  obtain ⟨g4, hF⟩ := fg_open hF
  obtain ⟨r2, h3, hF⟩ := fb_open hF
  refine f_callVN hC [.int x1] (c_X1_hasTicket l D cy (gR w 400 a0 0) x1 w r2 h3) q_718 q_132 q_715 q_717 q_31 h9_X1_hasTicket rfl (fSm.k (fSm.rf w) g4) ⟨Nat.le_of_ble_eq_true rfl, Nat.le_of_ble_eq_true rfl⟩ ⟨Nat.le_of_ble_eq_true rfl, Nat.le_of_ble_eq_true rfl⟩ (Nat.le_of_ble_eq_true rfl) rfl dX4_tryWet_5 (fun e5 => ?_)
  refine f_if_ne hC 13 dX4_tryWet_8 (by decide) (fun c6 => ?_) (fun c6 => ?_)
  · replace hF := fi_neg hF c6
    refine f_iload_n hC dX4_tryWet_13 rfl 3 rfl ?_
    refine f_iconst (v := 1) hC dX4_tryWet_14 (by decide) ?_
    refine f_icmp_lt hC 24 dX4_tryWet_15 (by decide) (fun c7 => ?_) (fun c7 => ?_)
    · replace hF := fi_pos hF c7
      refine f_iconst (v := 2) hC dX4_tryWet_24 (by decide) ?_
      obtain rfl := Option.some.inj hF
      exact f_iret hC hEn (fSm.rf w) dX4_tryWet_25
    · replace hF := fi_neg hF c7
      refine f_iload_n hC dX4_tryWet_18 rfl 3 rfl ?_
      refine f_bipush (v := 9) hC dX4_tryWet_19 (by decide) ?_
      refine f_icmp_le hC 26 dX4_tryWet_21 (by decide) (fun c8 => ?_) (fun c8 => ?_)
      · replace hF := fi_pos hF c8
        refine f_aload_n hC dX4_tryWet_26 rfl 0 rfl ?_
        refine f_getR hC 4 0 400 rfl (by decide) iX4 q_313 rfl rfl (fSm.k (fSm.rf w) g1) dX4_tryWet_27 ?_
        refine f_getRN hC 1 0 100 rfl (by decide) iX1 q_270 rfl rfl (fSm.k (fSm.rf w) g4) dX4_tryWet_30 ?_
        refine f_iload_n hC dX4_tryWet_33 rfl 1 rfl ?_
        obtain ⟨g9, hF⟩ := fg_open hF
        obtain ⟨g10, hF⟩ := fg_open hF
        refine f_aald1 hC (fSm.k (fSm.rf w) g9) (fSm.v (fSm.rf w) g10) dX4_tryWet_34 ?_
        refine f_iload_n hC dX4_tryWet_35 rfl 2 rfl ?_
        refine f_iload_n hC dX4_tryWet_36 rfl 3 rfl ?_
        obtain ⟨g13, hF⟩ := fg_open hF
        obtain ⟨r11, h12, hF⟩ := fb_open hF
        refine f_callVN hC [.int x2, .int x3] (c_X2_getWet l D cy (gR w 604 (gR w 100 (gR w 400 a0 0) 0) (Int32.toNatClampNeg x1)) x2 x3 w r11 h12) q_829 q_134 q_826 q_828 q_42 h9_X2_getWet rfl (fSm.k (fSm.rf w) g13) ⟨Nat.le_of_ble_eq_true rfl, Nat.le_of_ble_eq_true rfl⟩ ⟨Nat.le_of_ble_eq_true rfl, Nat.le_of_ble_eq_true rfl⟩ (Nat.le_of_ble_eq_true rfl) rfl dX4_tryWet_37 (fun e14 => ?_)
        refine f_iconst (v := 0) hC dX4_tryWet_40 (by decide) ?_
        obtain rfl := Option.some.inj hF
        exact f_iret hC hEn (fSm.tr e14 (fSm.rf w)) dX4_tryWet_41
      · replace hF := fi_neg hF c8
        refine f_iconst (v := 2) hC dX4_tryWet_24 (by decide) ?_
        obtain rfl := Option.some.inj hF
        exact f_iret hC hEn (fSm.rf w) dX4_tryWet_25
  · replace hF := fi_pos hF c6
    refine f_iconst (v := 1) hC dX4_tryWet_11 (by decide) ?_
    obtain rfl := Option.some.inj hF
    exact f_iret hC hEn (fSm.rf w) dX4_tryWet_12
theorem dX4_tryTear_0 : decode cX4_tryTear 0 = .ok (.aload_n 0, 1) := by decide +kernel
theorem dX4_tryTear_1 : decode cX4_tryTear 1 = .ok (.getfield 12, 3) := by decide +kernel
theorem dX4_tryTear_4 : decode cX4_tryTear 4 = .ok (.iload_n 1, 1) := by decide +kernel
theorem dX4_tryTear_5 : decode cX4_tryTear 5 = .ok (.invokevirtual 407, 3) := by decide +kernel
theorem dX4_tryTear_8 : decode cX4_tryTear 8 = .ok (.ifCond .ne 5, 3) := by decide +kernel
theorem dX4_tryTear_11 : decode cX4_tryTear 11 = .ok (.iconst 1, 1) := by decide +kernel
theorem dX4_tryTear_12 : decode cX4_tryTear 12 = .ok (.ireturn, 1) := by decide +kernel
theorem dX4_tryTear_13 : decode cX4_tryTear 13 = .ok (.aload_n 0, 1) := by decide +kernel
theorem dX4_tryTear_14 : decode cX4_tryTear 14 = .ok (.getfield 12, 3) := by decide +kernel
theorem dX4_tryTear_17 : decode cX4_tryTear 17 = .ok (.getfield 235, 3) := by decide +kernel
theorem dX4_tryTear_20 : decode cX4_tryTear 20 = .ok (.iload_n 1, 1) := by decide +kernel
theorem dX4_tryTear_21 : decode cX4_tryTear 21 = .ok (.aaload, 1) := by decide +kernel
theorem dX4_tryTear_22 : decode cX4_tryTear 22 = .ok (.getfield 136, 3) := by decide +kernel
theorem dX4_tryTear_25 : decode cX4_tryTear 25 = .ok (.ifCond .eq 10, 3) := by decide +kernel
theorem dX4_tryTear_28 : decode cX4_tryTear 28 = .ok (.aload_n 0, 1) := by decide +kernel
theorem dX4_tryTear_29 : decode cX4_tryTear 29 = .ok (.iconst 3, 1) := by decide +kernel
theorem dX4_tryTear_30 : decode cX4_tryTear 30 = .ok (.iconst 1, 1) := by decide +kernel
theorem dX4_tryTear_31 : decode cX4_tryTear 31 = .ok (.invokevirtual 394, 3) := by decide +kernel
theorem dX4_tryTear_34 : decode cX4_tryTear 34 = .ok (.ireturn, 1) := by decide +kernel
theorem dX4_tryTear_35 : decode cX4_tryTear 35 = .ok (.aload_n 0, 1) := by decide +kernel
theorem dX4_tryTear_36 : decode cX4_tryTear 36 = .ok (.getfield 12, 3) := by decide +kernel
theorem dX4_tryTear_39 : decode cX4_tryTear 39 = .ok (.getfield 235, 3) := by decide +kernel
theorem dX4_tryTear_42 : decode cX4_tryTear 42 = .ok (.iload_n 1, 1) := by decide +kernel
theorem dX4_tryTear_43 : decode cX4_tryTear 43 = .ok (.aaload, 1) := by decide +kernel
theorem dX4_tryTear_44 : decode cX4_tryTear 44 = .ok (.iconst 1, 1) := by decide +kernel
theorem dX4_tryTear_45 : decode cX4_tryTear 45 = .ok (.putfield 136, 3) := by decide +kernel
theorem dX4_tryTear_48 : decode cX4_tryTear 48 = .ok (.iconst 0, 1) := by decide +kernel
theorem dX4_tryTear_49 : decode cX4_tryTear 49 = .ok (.ireturn, 1) := by decide +kernel
theorem h9_X4_tryTear : yX4_tryTear.cls ≠ "java/lang/invoke/MethodHandle" ∧ yX4_tryTear.cls ≠ "java/lang/invoke/VarHandle" ∧ (parseMethodDescriptor yX4_tryTear.desc).map (fun d => d.parameters.length) = some 1 := by decide +kernel
noncomputable def F_X4_tryTear (a0 : Nat) (x1 : Int32) (w : FW) : Option (Int32 × FW) :=
  fg (w.1 a0 = 5) inferInstance (fg (w.1 (gR w 400 a0 0) = 2) inferInstance ((F_X1_hasTicket (gR w 400 a0 0) x1 w).bind (fun r2 => (if r2 = 0 then some (1, w) else fg (w.1 (gR w 100 (gR w 400 a0 0) 0) = 14) inferInstance (fg (¬ (x1 < 0 ∨ w.2.1 (gR w 100 (gR w 400 a0 0) 0) ≤ Int32.toNatClampNeg x1)) inferInstance (fg (w.1 (gR w 604 (gR w 100 (gR w 400 a0 0) 0) (Int32.toNatClampNeg x1)) = 3) inferInstance ((if (gI w 204 (gR w 604 (gR w 100 (gR w 400 a0 0) 0) (Int32.toNatClampNeg x1)) 0) = 0 then some (0, (sI w 204 (gR w 604 (gR w 100 (gR w 400 a0 0) 0) (Int32.toNatClampNeg x1)) 0 1)) else (F_X4_refuse a0 3 1 w).bind (fun r11 => some (r11.1, r11.2))))))))))
set_option maxHeartbeats 4000000 in
set_option maxRecDepth 100000 in
theorem c_X4_tryTear (l : Launch) (D : va_G) (cy : Nat → ClassId) (a0 : Nat) (x1 : Int32) (w : FW) (r : Int32 × FW) (hF : F_X4_tryTear a0 x1 w = some r) : fSpec l D cy yX4_tryTear cX4_tryTear 2 (some .int) { frames := 1, cells := 0, slots := 0, locals := 22 } [.ref a0, .int x1] w r.2 (some (.int r.1)) := by
  refine f_begin (by decide +kernel) (Nat.le_of_ble_eq_true rfl) (fun X hC hEn => ?_)
  unfold F_X4_tryTear at hF
  show fAt X 0 0 2 w [(0, .ref a0), (1, .int x1)] [] 0
  refine f_aload_n hC dX4_tryTear_0 rfl 0 rfl ?_
  obtain ⟨g1, hF⟩ := fg_open hF
  refine f_getR hC 4 0 400 rfl (by decide) iX4 q_313 rfl rfl (fSm.k (fSm.rf w) g1) dX4_tryTear_1 ?_
  refine f_iload_n hC dX4_tryTear_4 rfl 1 rfl ?_
  obtain ⟨g4, hF⟩ := fg_open hF
  obtain ⟨r2, h3, hF⟩ := fb_open hF
  refine f_callVN hC [.int x1] (c_X1_hasTicket l D cy (gR w 400 a0 0) x1 w r2 h3) q_718 q_132 q_715 q_717 q_31 h9_X1_hasTicket rfl (fSm.k (fSm.rf w) g4) ⟨Nat.le_of_ble_eq_true rfl, Nat.le_of_ble_eq_true rfl⟩ ⟨Nat.le_of_ble_eq_true rfl, Nat.le_of_ble_eq_true rfl⟩ (Nat.le_of_ble_eq_true rfl) rfl dX4_tryTear_5 (fun e5 => ?_)
  refine f_if_ne hC 13 dX4_tryTear_8 (by decide) (fun c6 => ?_) (fun c6 => ?_)
  · replace hF := fi_neg hF c6
    refine f_aload_n hC dX4_tryTear_13 rfl 0 rfl ?_
    refine f_getR hC 4 0 400 rfl (by decide) iX4 q_313 rfl rfl (fSm.k (fSm.rf w) g1) dX4_tryTear_14 ?_
    refine f_getRN hC 1 0 100 rfl (by decide) iX1 q_270 rfl rfl (fSm.k (fSm.rf w) g4) dX4_tryTear_17 ?_
    refine f_iload_n hC dX4_tryTear_20 rfl 1 rfl ?_
    obtain ⟨g7, hF⟩ := fg_open hF
    obtain ⟨g8, hF⟩ := fg_open hF
    refine f_aald1 hC (fSm.k (fSm.rf w) g7) (fSm.v (fSm.rf w) g8) dX4_tryTear_21 ?_
    obtain ⟨g9, hF⟩ := fg_open hF
    refine f_getIN hC 2 4 204 rfl (by decide) iX2 q_242 rfl rfl (fSm.k (fSm.rf w) g9) dX4_tryTear_22 ?_
    refine f_if_eq hC 35 dX4_tryTear_25 (by decide) (fun c10 => ?_) (fun c10 => ?_)
    · replace hF := fi_pos hF c10
      refine f_aload_n hC dX4_tryTear_35 rfl 0 rfl ?_
      refine f_getR hC 4 0 400 rfl (by decide) iX4 q_313 rfl rfl (fSm.k (fSm.rf w) g1) dX4_tryTear_36 ?_
      refine f_getRN hC 1 0 100 rfl (by decide) iX1 q_270 rfl rfl (fSm.k (fSm.rf w) g4) dX4_tryTear_39 ?_
      refine f_iload_n hC dX4_tryTear_42 rfl 1 rfl ?_
      refine f_aald1 hC (fSm.k (fSm.rf w) g7) (fSm.v (fSm.rf w) g8) dX4_tryTear_43 ?_
      refine f_iconst (v := 1) hC dX4_tryTear_44 (by decide) ?_
      refine f_putIN hC 2 4 204 rfl (by decide) iX2 tyX2 tyX2_ok nmX2 q_242 rfl rfl rfl (nar_z (by decide)) rfl (fSm.k (fSm.rf w) g9) dX4_tryTear_45 ?_
      refine f_iconst (v := 0) hC dX4_tryTear_48 (by decide) ?_
      obtain rfl := Option.some.inj hF
      exact f_iret hC hEn (fSm.rf w) dX4_tryTear_49
    · replace hF := fi_neg hF c10
      refine f_aload_n hC dX4_tryTear_28 rfl 0 rfl ?_
      refine f_iconst (v := 3) hC dX4_tryTear_29 (by decide) ?_
      refine f_iconst (v := 1) hC dX4_tryTear_30 (by decide) ?_
      obtain ⟨r11, h12, hF⟩ := fb_open hF
      refine f_callV hC [.int 3, .int 1] (c_X4_refuse l D cy a0 3 1 w r11 h12) q_640 q_131 q_637 q_639 q_23 h9_X4_refuse rfl (fSm.k (fSm.rf w) g1) ⟨Nat.le_of_ble_eq_true rfl, Nat.le_of_ble_eq_true rfl⟩ ⟨Nat.le_of_ble_eq_true rfl, Nat.le_of_ble_eq_true rfl⟩ (Nat.le_of_ble_eq_true rfl) rfl dX4_tryTear_31 (fun e13 => ?_)
      obtain rfl := Option.some.inj hF
      exact f_iret hC hEn (fSm.tr e13 (fSm.rf w)) dX4_tryTear_34
  · replace hF := fi_pos hF c6
    refine f_iconst (v := 1) hC dX4_tryTear_11 (by decide) ?_
    obtain rfl := Option.some.inj hF
    exact f_iret hC hEn (fSm.rf w) dX4_tryTear_12
theorem dX1_tornTickets_0 : decode cX1_tornTickets 0 = .ok (.iconst 0, 1) := by decide +kernel
theorem dX1_tornTickets_1 : decode cX1_tornTickets 1 = .ok (.istore_n 1, 1) := by decide +kernel
theorem dX1_tornTickets_2 : decode cX1_tornTickets 2 = .ok (.iconst 0, 1) := by decide +kernel
theorem dX1_tornTickets_3 : decode cX1_tornTickets 3 = .ok (.istore_n 2, 1) := by decide +kernel
theorem dX1_tornTickets_4 : decode cX1_tornTickets 4 = .ok (.iload_n 2, 1) := by decide +kernel
theorem dX1_tornTickets_5 : decode cX1_tornTickets 5 = .ok (.aload_n 0, 1) := by decide +kernel
theorem dX1_tornTickets_6 : decode cX1_tornTickets 6 = .ok (.getfield 17, 3) := by decide +kernel
theorem dX1_tornTickets_9 : decode cX1_tornTickets 9 = .ok (.if_icmp .ge 24, 3) := by decide +kernel
theorem dX1_tornTickets_12 : decode cX1_tornTickets 12 = .ok (.aload_n 0, 1) := by decide +kernel
theorem dX1_tornTickets_13 : decode cX1_tornTickets 13 = .ok (.getfield 11, 3) := by decide +kernel
theorem dX1_tornTickets_16 : decode cX1_tornTickets 16 = .ok (.iload_n 2, 1) := by decide +kernel
theorem dX1_tornTickets_17 : decode cX1_tornTickets 17 = .ok (.aaload, 1) := by decide +kernel
theorem dX1_tornTickets_18 : decode cX1_tornTickets 18 = .ok (.getfield 69, 3) := by decide +kernel
theorem dX1_tornTickets_21 : decode cX1_tornTickets 21 = .ok (.ifCond .eq 6, 3) := by decide +kernel
theorem dX1_tornTickets_24 : decode cX1_tornTickets 24 = .ok (.iinc 1 1, 3) := by decide +kernel
theorem dX1_tornTickets_27 : decode cX1_tornTickets 27 = .ok (.iinc 2 1, 3) := by decide +kernel
theorem dX1_tornTickets_30 : decode cX1_tornTickets 30 = .ok (.goto (-26), 3) := by decide +kernel
theorem dX1_tornTickets_33 : decode cX1_tornTickets 33 = .ok (.iload_n 1, 1) := by decide +kernel
theorem dX1_tornTickets_34 : decode cX1_tornTickets 34 = .ok (.ireturn, 1) := by decide +kernel
theorem h9_X1_tornTickets : yX1_tornTickets.cls ≠ "java/lang/invoke/MethodHandle" ∧ yX1_tornTickets.cls ≠ "java/lang/invoke/VarHandle" ∧ (parseMethodDescriptor yX1_tornTickets.desc).map (fun d => d.parameters.length) = some 0 := by decide +kernel
noncomputable def F_X1_tornTickets (a0 : Nat) (w : FW) : Option (Int32) :=
  (fLoop (σ := Int32 × Int32) (ρ := Int32) (fun s1 => fg (w.1 a0 = 2) inferInstance ((if (gI w 101 a0 0) ≤ s1.2 then some (.inr s1.1) else fg (w.1 (gR w 100 a0 0) = 14) inferInstance (fg (¬ (s1.2 < 0 ∨ w.2.1 (gR w 100 a0 0) ≤ Int32.toNatClampNeg s1.2)) inferInstance (fg (w.1 (gR w 604 (gR w 100 a0 0) (Int32.toNatClampNeg s1.2)) = 3) inferInstance ((if (gI w 204 (gR w 604 (gR w 100 a0 0) (Int32.toNatClampNeg s1.2)) 0) = 0 then some (.inl (s1.1, (s1.2 + 1))) else some (.inl ((s1.1 + 1), (s1.2 + 1)))))))))) (0, 0)).bind (fun x7 => some x7)
set_option maxHeartbeats 4000000 in
set_option maxRecDepth 100000 in
theorem c_X1_tornTickets (l : Launch) (D : va_G) (cy : Nat → ClassId) (a0 : Nat) (w : FW) (r : Int32) (hF : F_X1_tornTickets a0 w = some r) : fSpec l D cy yX1_tornTickets cX1_tornTickets 3 (some .int) { frames := 0, cells := 0, slots := 0, locals := 0 } [.ref a0] w w (some (.int r)) := by
  refine f_begin (by decide +kernel) (Nat.le_of_ble_eq_true rfl) (fun X hC hEn => ?_)
  unfold F_X1_tornTickets at hF
  show fAt X 0 0 3 w [(0, .ref a0)] [] 0
  refine f_iconst (v := 0) hC dX1_tornTickets_0 (by decide) ?_
  refine f_istore_n (L' := [(1, .int 0), (0, .ref a0)]) hC dX1_tornTickets_1 rfl (by decide) rfl ?_
  refine f_iconst (v := 0) hC dX1_tornTickets_2 (by decide) ?_
  refine f_istore_n (L' := [(2, .int 0), (1, .int 0), (0, .ref a0)]) hC dX1_tornTickets_3 rfl (by decide) rfl ?_
  obtain ⟨x7, h8, hF⟩ := fb_open hF
  have K9 : fAt X 0 0 3 w [(1, .int x7)] [] 33 := by
    refine f_iload_n hC dX1_tornTickets_33 rfl 0 rfl ?_
    obtain rfl := Option.some.inj hF
    exact f_iret hC hEn (fSm.rf w) dX1_tornTickets_34
  refine f_sub (L' := [(0, .ref a0), (1, .int 0), (2, .int 0)]) [2, 1, 0] rfl ?_
  refine fLoop_ind (fun (s1 : Int32 × Int32) => fAt X 0 0 3 w [(0, .ref a0), (1, .int s1.1), (2, .int s1.2)] [] 4) (fun s1 y6 h2 go3 ou4 => ?_) h8
  refine f_iload_n hC dX1_tornTickets_4 rfl 2 rfl ?_
  refine f_aload_n hC dX1_tornTickets_5 rfl 0 rfl ?_
  obtain ⟨g10, h2⟩ := fg_open h2
  refine f_getI hC 1 1 101 rfl (by decide) iX1 q_271 rfl rfl (fSm.k (fSm.rf w) g10) dX1_tornTickets_6 ?_
  refine f_icmp_ge hC 33 dX1_tornTickets_9 (by decide) (fun c11 => ?_) (fun c11 => ?_)
  · replace h2 := fi_pos h2 c11
    obtain rfl := Option.some.inj h2
    obtain rfl := ou4 _ rfl
    refine f_sub (L' := [(1, .int s1.1)]) [1] rfl ?_
    exact K9
  · replace h2 := fi_neg h2 c11
    refine f_aload_n hC dX1_tornTickets_12 rfl 0 rfl ?_
    refine f_getR hC 1 0 100 rfl (by decide) iX1 q_269 rfl rfl (fSm.k (fSm.rf w) g10) dX1_tornTickets_13 ?_
    refine f_iload_n hC dX1_tornTickets_16 rfl 2 rfl ?_
    obtain ⟨g12, h2⟩ := fg_open h2
    obtain ⟨g13, h2⟩ := fg_open h2
    refine f_aald1 hC (fSm.k (fSm.rf w) g12) (fSm.v (fSm.rf w) g13) dX1_tornTickets_17 ?_
    obtain ⟨g14, h2⟩ := fg_open h2
    refine f_getIN hC 2 4 204 rfl (by decide) iX2 q_241 rfl rfl (fSm.k (fSm.rf w) g14) dX1_tornTickets_18 ?_
    refine f_if_eq hC 27 dX1_tornTickets_21 (by decide) (fun c15 => ?_) (fun c15 => ?_)
    · replace h2 := fi_pos h2 c15
      refine f_iinc (L' := [(2, .int (s1.2 + 1)), (0, .ref a0), (1, .int s1.1)]) hC dX1_tornTickets_27 2 rfl rfl (by decide) rfl ?_
      refine f_goto hC 4 dX1_tornTickets_30 (by decide) ?_
      obtain rfl := Option.some.inj h2
      refine f_sub (L' := [(0, .ref a0), (1, .int s1.1), (2, .int (s1.2 + 1))]) [1, 2, 0] rfl ?_
      exact go3 _ rfl
    · replace h2 := fi_neg h2 c15
      refine f_iinc (L' := [(1, .int (s1.1 + 1)), (0, .ref a0), (2, .int s1.2)]) hC dX1_tornTickets_24 1 rfl rfl (by decide) rfl ?_
      refine f_iinc (L' := [(2, .int (s1.2 + 1)), (1, .int (s1.1 + 1)), (0, .ref a0)]) hC dX1_tornTickets_27 2 rfl rfl (by decide) rfl ?_
      refine f_goto hC 4 dX1_tornTickets_30 (by decide) ?_
      obtain rfl := Option.some.inj h2
      refine f_sub (L' := [(0, .ref a0), (1, .int (s1.1 + 1)), (2, .int (s1.2 + 1))]) [2, 1, 0] rfl ?_
      exact go3 _ rfl
theorem dX4_tryLost_0 : decode cX4_tryLost 0 = .ok (.aload_n 0, 1) := by decide +kernel
theorem dX4_tryLost_1 : decode cX4_tryLost 1 = .ok (.getfield 12, 3) := by decide +kernel
theorem dX4_tryLost_4 : decode cX4_tryLost 4 = .ok (.iload_n 1, 1) := by decide +kernel
theorem dX4_tryLost_5 : decode cX4_tryLost 5 = .ok (.invokevirtual 407, 3) := by decide +kernel
theorem dX4_tryLost_8 : decode cX4_tryLost 8 = .ok (.ifCond .ne 5, 3) := by decide +kernel
theorem dX4_tryLost_11 : decode cX4_tryLost 11 = .ok (.iconst 1, 1) := by decide +kernel
theorem dX4_tryLost_12 : decode cX4_tryLost 12 = .ok (.ireturn, 1) := by decide +kernel
theorem dX4_tryLost_13 : decode cX4_tryLost 13 = .ok (.aload_n 0, 1) := by decide +kernel
theorem dX4_tryLost_14 : decode cX4_tryLost 14 = .ok (.getfield 12, 3) := by decide +kernel
theorem dX4_tryLost_17 : decode cX4_tryLost 17 = .ok (.getfield 235, 3) := by decide +kernel
theorem dX4_tryLost_20 : decode cX4_tryLost 20 = .ok (.iload_n 1, 1) := by decide +kernel
theorem dX4_tryLost_21 : decode cX4_tryLost 21 = .ok (.aaload, 1) := by decide +kernel
theorem dX4_tryLost_22 : decode cX4_tryLost 22 = .ok (.astore 4, 2) := by decide +kernel
theorem dX4_tryLost_24 : decode cX4_tryLost 24 = .ok (.aload 4, 2) := by decide +kernel
theorem dX4_tryLost_26 : decode cX4_tryLost 26 = .ok (.iload_n 2, 1) := by decide +kernel
theorem dX4_tryLost_27 : decode cX4_tryLost 27 = .ok (.invokevirtual 166, 3) := by decide +kernel
theorem dX4_tryLost_30 : decode cX4_tryLost 30 = .ok (.getfield 201, 3) := by decide +kernel
theorem dX4_tryLost_33 : decode cX4_tryLost 33 = .ok (.iload_n 3, 1) := by decide +kernel
theorem dX4_tryLost_34 : decode cX4_tryLost 34 = .ok (.if_icmp .ne 10, 3) := by decide +kernel
theorem dX4_tryLost_37 : decode cX4_tryLost 37 = .ok (.aload_n 0, 1) := by decide +kernel
theorem dX4_tryLost_38 : decode cX4_tryLost 38 = .ok (.iconst 3, 1) := by decide +kernel
theorem dX4_tryLost_39 : decode cX4_tryLost 39 = .ok (.iconst 1, 1) := by decide +kernel
theorem dX4_tryLost_40 : decode cX4_tryLost 40 = .ok (.invokevirtual 394, 3) := by decide +kernel
theorem dX4_tryLost_43 : decode cX4_tryLost 43 = .ok (.ireturn, 1) := by decide +kernel
theorem dX4_tryLost_44 : decode cX4_tryLost 44 = .ok (.aload 4, 2) := by decide +kernel
theorem dX4_tryLost_46 : decode cX4_tryLost 46 = .ok (.iload_n 2, 1) := by decide +kernel
theorem dX4_tryLost_47 : decode cX4_tryLost 47 = .ok (.invokevirtual 166, 3) := by decide +kernel
theorem dX4_tryLost_50 : decode cX4_tryLost 50 = .ok (.iload_n 3, 1) := by decide +kernel
theorem dX4_tryLost_51 : decode cX4_tryLost 51 = .ok (.putfield 201, 3) := by decide +kernel
theorem dX4_tryLost_54 : decode cX4_tryLost 54 = .ok (.aload 4, 2) := by decide +kernel
theorem dX4_tryLost_56 : decode cX4_tryLost 56 = .ok (.getfield 136, 3) := by decide +kernel
theorem dX4_tryLost_59 : decode cX4_tryLost 59 = .ok (.ifCond .ne 21, 3) := by decide +kernel
theorem dX4_tryLost_62 : decode cX4_tryLost 62 = .ok (.aload 4, 2) := by decide +kernel
theorem dX4_tryLost_64 : decode cX4_tryLost 64 = .ok (.iload_n 2, 1) := by decide +kernel
theorem dX4_tryLost_65 : decode cX4_tryLost 65 = .ok (.ifCond .ne 7, 3) := by decide +kernel
theorem dX4_tryLost_68 : decode cX4_tryLost 68 = .ok (.iconst 1, 1) := by decide +kernel
theorem dX4_tryLost_69 : decode cX4_tryLost 69 = .ok (.goto 4, 3) := by decide +kernel
theorem dX4_tryLost_72 : decode cX4_tryLost 72 = .ok (.iconst 0, 1) := by decide +kernel
theorem dX4_tryLost_73 : decode cX4_tryLost 73 = .ok (.invokevirtual 166, 3) := by decide +kernel
theorem dX4_tryLost_76 : decode cX4_tryLost 76 = .ok (.iload_n 3, 1) := by decide +kernel
theorem dX4_tryLost_77 : decode cX4_tryLost 77 = .ok (.putfield 201, 3) := by decide +kernel
theorem dX4_tryLost_80 : decode cX4_tryLost 80 = .ok (.iconst 0, 1) := by decide +kernel
theorem dX4_tryLost_81 : decode cX4_tryLost 81 = .ok (.ireturn, 1) := by decide +kernel
theorem h9_X4_tryLost : yX4_tryLost.cls ≠ "java/lang/invoke/MethodHandle" ∧ yX4_tryLost.cls ≠ "java/lang/invoke/VarHandle" ∧ (parseMethodDescriptor yX4_tryLost.desc).map (fun d => d.parameters.length) = some 3 := by decide +kernel
noncomputable def F_X4_tryLost (a0 : Nat) (x1 : Int32) (x2 : Int32) (x3 : Int32) (w : FW) : Option (Int32 × FW) :=
  fg (w.1 a0 = 5) inferInstance (fg (w.1 (gR w 400 a0 0) = 2) inferInstance ((F_X1_hasTicket (gR w 400 a0 0) x1 w).bind (fun r2 => (if r2 = 0 then some (1, w) else fg (w.1 (gR w 100 (gR w 400 a0 0) 0) = 14) inferInstance (fg (¬ (x1 < 0 ∨ w.2.1 (gR w 100 (gR w 400 a0 0) 0) ≤ Int32.toNatClampNeg x1)) inferInstance (fg (w.1 (gR w 604 (gR w 100 (gR w 400 a0 0) 0) (Int32.toNatClampNeg x1)) = 3) inferInstance ((F_X2_half (gR w 604 (gR w 100 (gR w 400 a0 0) 0) (Int32.toNatClampNeg x1)) x2 w).bind (fun r9 => fg (w.1 r9 = 1) inferInstance ((if (gI w 3 r9 0) = x3 then (F_X4_refuse a0 3 1 w).bind (fun r31 => some (r31.1, r31.2)) else (F_X2_half (gR w 604 (gR w 100 (gR w 400 a0 0) 0) (Int32.toNatClampNeg x1)) x2 w).bind (fun r15 => fg (w.1 r15 = 1) inferInstance (fg (x3 = 0 ∨ x3 = 1) inferInstance ((if (gI (sI w 3 r15 0 x3) 204 (gR w 604 (gR w 100 (gR w 400 a0 0) 0) (Int32.toNatClampNeg x1)) 0) = 0 then ((if x2 = 0 then some 1 else some 0) : Option (Int32)).bind (fun x21 => (F_X2_half (gR w 604 (gR w 100 (gR w 400 a0 0) 0) (Int32.toNatClampNeg x1)) x21 (sI w 3 r15 0 x3)).bind (fun r25 => fg (w.1 r25 = 1) inferInstance (fg (x3 = 0 ∨ x3 = 1) inferInstance (some (0, (sI (sI w 3 r15 0 x3) 3 r25 0 x3)))))) else some (0, (sI w 3 r15 0 x3))))))))))))))))
set_option maxHeartbeats 4000000 in
set_option maxRecDepth 100000 in
theorem c_X4_tryLost (l : Launch) (D : va_G) (cy : Nat → ClassId) (a0 : Nat) (x1 : Int32) (x2 : Int32) (x3 : Int32) (w : FW) (r : Int32 × FW) (hF : F_X4_tryLost a0 x1 x2 x3 w = some r) : fSpec l D cy yX4_tryLost cX4_tryLost 5 (some .int) { frames := 1, cells := 0, slots := 0, locals := 22 } [.ref a0, .int x1, .int x2, .int x3] w r.2 (some (.int r.1)) := by
  refine f_begin (by decide +kernel) (Nat.le_of_ble_eq_true rfl) (fun X hC hEn => ?_)
  unfold F_X4_tryLost at hF
  show fAt X 0 0 5 w [(0, .ref a0), (1, .int x1), (2, .int x2), (3, .int x3)] [] 0
  refine f_aload_n hC dX4_tryLost_0 rfl 0 rfl ?_
  obtain ⟨g1, hF⟩ := fg_open hF
  refine f_getR hC 4 0 400 rfl (by decide) iX4 q_313 rfl rfl (fSm.k (fSm.rf w) g1) dX4_tryLost_1 ?_
  refine f_iload_n hC dX4_tryLost_4 rfl 1 rfl ?_
  obtain ⟨g4, hF⟩ := fg_open hF
  obtain ⟨r2, h3, hF⟩ := fb_open hF
  refine f_callVN hC [.int x1] (c_X1_hasTicket l D cy (gR w 400 a0 0) x1 w r2 h3) q_718 q_132 q_715 q_717 q_31 h9_X1_hasTicket rfl (fSm.k (fSm.rf w) g4) ⟨Nat.le_of_ble_eq_true rfl, Nat.le_of_ble_eq_true rfl⟩ ⟨Nat.le_of_ble_eq_true rfl, Nat.le_of_ble_eq_true rfl⟩ (Nat.le_of_ble_eq_true rfl) rfl dX4_tryLost_5 (fun e5 => ?_)
  refine f_if_ne hC 13 dX4_tryLost_8 (by decide) (fun c6 => ?_) (fun c6 => ?_)
  · replace hF := fi_neg hF c6
    refine f_aload_n hC dX4_tryLost_13 rfl 0 rfl ?_
    refine f_getR hC 4 0 400 rfl (by decide) iX4 q_313 rfl rfl (fSm.k (fSm.rf w) g1) dX4_tryLost_14 ?_
    refine f_getRN hC 1 0 100 rfl (by decide) iX1 q_270 rfl rfl (fSm.k (fSm.rf w) g4) dX4_tryLost_17 ?_
    refine f_iload_n hC dX4_tryLost_20 rfl 1 rfl ?_
    obtain ⟨g7, hF⟩ := fg_open hF
    obtain ⟨g8, hF⟩ := fg_open hF
    refine f_aald1 hC (fSm.k (fSm.rf w) g7) (fSm.v (fSm.rf w) g8) dX4_tryLost_21 ?_
    refine f_astore (L' := [(4, .ref (gR w 604 (gR w 100 (gR w 400 a0 0) 0) (Int32.toNatClampNeg x1))), (0, .ref a0), (1, .int x1), (2, .int x2), (3, .int x3)]) hC dX4_tryLost_22 (by decide) rfl ?_
    refine f_aload hC dX4_tryLost_24 0 rfl ?_
    refine f_iload_n hC dX4_tryLost_26 rfl 3 rfl ?_
    obtain ⟨g11, hF⟩ := fg_open hF
    obtain ⟨r9, h10, hF⟩ := fb_open hF
    refine f_callVN hC [.int x2] (c_X2_half l D cy (gR w 604 (gR w 100 (gR w 400 a0 0) 0) (Int32.toNatClampNeg x1)) x2 w r9 h10) q_810 q_134 q_807 q_809 q_39 h9_X2_half rfl (fSm.k (fSm.rf w) g11) ⟨Nat.le_of_ble_eq_true rfl, Nat.le_of_ble_eq_true rfl⟩ ⟨Nat.le_of_ble_eq_true rfl, Nat.le_of_ble_eq_true rfl⟩ (Nat.le_of_ble_eq_true rfl) rfl dX4_tryLost_27 (fun e12 => ?_)
    obtain ⟨g13, hF⟩ := fg_open hF
    refine f_getIN hC 0 3 3 rfl (by decide) iX0 q_211 rfl rfl (fSm.k (fSm.rf w) g13) dX4_tryLost_30 ?_
    refine f_iload_n hC dX4_tryLost_33 rfl 4 rfl ?_
    refine f_icmp_ne hC 44 dX4_tryLost_34 (by decide) (fun c14 => ?_) (fun c14 => ?_)
    · replace hF := fi_neg hF c14
      refine f_aload hC dX4_tryLost_44 0 rfl ?_
      refine f_iload_n hC dX4_tryLost_46 rfl 3 rfl ?_
      obtain ⟨r15, h16, hF⟩ := fb_open hF
      refine f_callVN hC [.int x2] (c_X2_half l D cy (gR w 604 (gR w 100 (gR w 400 a0 0) 0) (Int32.toNatClampNeg x1)) x2 w r15 h16) q_810 q_134 q_807 q_809 q_39 h9_X2_half rfl (fSm.k (fSm.rf w) g11) ⟨Nat.le_of_ble_eq_true rfl, Nat.le_of_ble_eq_true rfl⟩ ⟨Nat.le_of_ble_eq_true rfl, Nat.le_of_ble_eq_true rfl⟩ (Nat.le_of_ble_eq_true rfl) rfl dX4_tryLost_47 (fun e17 => ?_)
      refine f_iload_n hC dX4_tryLost_50 rfl 4 rfl ?_
      obtain ⟨g18, hF⟩ := fg_open hF
      obtain ⟨g19, hF⟩ := fg_open hF
      refine f_putIN hC 0 3 3 rfl (by decide) iX0 tyX0 tyX0_ok nmX0 q_211 rfl rfl rfl (nar_z g19) rfl (fSm.k (fSm.rf w) g18) dX4_tryLost_51 ?_
      refine f_aload hC dX4_tryLost_54 0 rfl ?_
      refine f_getIN hC 2 4 204 rfl (by decide) iX2 q_242 rfl rfl (fSm.k (fSm.rf w) g11) dX4_tryLost_56 ?_
      refine f_if_ne hC 80 dX4_tryLost_59 (by decide) (fun c20 => ?_) (fun c20 => ?_)
      · replace hF := fi_neg hF c20
        refine f_iconst (v := 0) hC dX4_tryLost_80 (by decide) ?_
        obtain rfl := Option.some.inj hF
        exact f_iret hC hEn (fSm.rf w) dX4_tryLost_81
      · replace hF := fi_pos hF c20
        refine f_aload hC dX4_tryLost_62 0 rfl ?_
        refine f_iload_n hC dX4_tryLost_64 rfl 3 rfl ?_
        obtain ⟨x21, h22, hF⟩ := fb_open hF
        have K24 : fAt X 0 0 5 (sI w 3 r15 0 x3) [(3, .int x3)] [.int x21, .ref (gR w 604 (gR w 100 (gR w 400 a0 0) 0) (Int32.toNatClampNeg x1))] 73 := by
          obtain ⟨r25, h26, hF⟩ := fb_open hF
          refine f_callVN hC [.int x21] (c_X2_half l D cy (gR w 604 (gR w 100 (gR w 400 a0 0) 0) (Int32.toNatClampNeg x1)) x21 (sI w 3 r15 0 x3) r25 h26) q_810 q_134 q_807 q_809 q_39 h9_X2_half rfl (fSm.k (fSm.rf w) g11) ⟨Nat.le_of_ble_eq_true rfl, Nat.le_of_ble_eq_true rfl⟩ ⟨Nat.le_of_ble_eq_true rfl, Nat.le_of_ble_eq_true rfl⟩ (Nat.le_of_ble_eq_true rfl) rfl dX4_tryLost_73 (fun e27 => ?_)
          refine f_iload_n hC dX4_tryLost_76 rfl 0 rfl ?_
          obtain ⟨g28, hF⟩ := fg_open hF
          obtain ⟨g29, hF⟩ := fg_open hF
          refine f_putIN hC 0 3 3 rfl (by decide) iX0 tyX0 tyX0_ok nmX0 q_211 rfl rfl rfl (nar_z g29) rfl (fSm.k (fSm.rf w) g28) dX4_tryLost_77 ?_
          refine f_iconst (v := 0) hC dX4_tryLost_80 (by decide) ?_
          obtain rfl := Option.some.inj hF
          exact f_iret hC hEn (fSm.rf w) dX4_tryLost_81
        refine f_if_ne hC 72 dX4_tryLost_65 (by decide) (fun c30 => ?_) (fun c30 => ?_)
        · replace h22 := fi_neg h22 c30
          refine f_iconst (v := 0) hC dX4_tryLost_72 (by decide) ?_
          obtain rfl := Option.some.inj h22
          refine f_sub (L' := [(3, .int x3)]) [4] rfl ?_
          exact K24
        · replace h22 := fi_pos h22 c30
          refine f_iconst (v := 1) hC dX4_tryLost_68 (by decide) ?_
          refine f_goto hC 73 dX4_tryLost_69 (by decide) ?_
          obtain rfl := Option.some.inj h22
          refine f_sub (L' := [(3, .int x3)]) [4] rfl ?_
          exact K24
    · replace hF := fi_pos hF c14
      refine f_aload_n hC dX4_tryLost_37 rfl 1 rfl ?_
      refine f_iconst (v := 3) hC dX4_tryLost_38 (by decide) ?_
      refine f_iconst (v := 1) hC dX4_tryLost_39 (by decide) ?_
      obtain ⟨r31, h32, hF⟩ := fb_open hF
      refine f_callV hC [.int 3, .int 1] (c_X4_refuse l D cy a0 3 1 w r31 h32) q_640 q_131 q_637 q_639 q_23 h9_X4_refuse rfl (fSm.k (fSm.rf w) g1) ⟨Nat.le_of_ble_eq_true rfl, Nat.le_of_ble_eq_true rfl⟩ ⟨Nat.le_of_ble_eq_true rfl, Nat.le_of_ble_eq_true rfl⟩ (Nat.le_of_ble_eq_true rfl) rfl dX4_tryLost_40 (fun e33 => ?_)
      obtain rfl := Option.some.inj hF
      exact f_iret hC hEn (fSm.tr e33 (fSm.rf w)) dX4_tryLost_43
  · replace hF := fi_pos hF c6
    refine f_iconst (v := 1) hC dX4_tryLost_11 (by decide) ?_
    obtain rfl := Option.some.inj hF
    exact f_iret hC hEn (fSm.rf w) dX4_tryLost_12
theorem dX1_lostHalves_0 : decode cX1_lostHalves 0 = .ok (.iconst 0, 1) := by decide +kernel
theorem dX1_lostHalves_1 : decode cX1_lostHalves 1 = .ok (.istore_n 1, 1) := by decide +kernel
theorem dX1_lostHalves_2 : decode cX1_lostHalves 2 = .ok (.iconst 0, 1) := by decide +kernel
theorem dX1_lostHalves_3 : decode cX1_lostHalves 3 = .ok (.istore_n 2, 1) := by decide +kernel
theorem dX1_lostHalves_4 : decode cX1_lostHalves 4 = .ok (.iload_n 2, 1) := by decide +kernel
theorem dX1_lostHalves_5 : decode cX1_lostHalves 5 = .ok (.aload_n 0, 1) := by decide +kernel
theorem dX1_lostHalves_6 : decode cX1_lostHalves 6 = .ok (.getfield 17, 3) := by decide +kernel
theorem dX1_lostHalves_9 : decode cX1_lostHalves 9 = .ok (.if_icmp .ge 55, 3) := by decide +kernel
theorem dX1_lostHalves_12 : decode cX1_lostHalves 12 = .ok (.iload_n 1, 1) := by decide +kernel
theorem dX1_lostHalves_13 : decode cX1_lostHalves 13 = .ok (.aload_n 0, 1) := by decide +kernel
theorem dX1_lostHalves_14 : decode cX1_lostHalves 14 = .ok (.getfield 11, 3) := by decide +kernel
theorem dX1_lostHalves_17 : decode cX1_lostHalves 17 = .ok (.iload_n 2, 1) := by decide +kernel
theorem dX1_lostHalves_18 : decode cX1_lostHalves 18 = .ok (.aaload, 1) := by decide +kernel
theorem dX1_lostHalves_19 : decode cX1_lostHalves 19 = .ok (.getfield 73, 3) := by decide +kernel
theorem dX1_lostHalves_22 : decode cX1_lostHalves 22 = .ok (.getfield 77, 3) := by decide +kernel
theorem dX1_lostHalves_25 : decode cX1_lostHalves 25 = .ok (.ifCond .eq 7, 3) := by decide +kernel
theorem dX1_lostHalves_28 : decode cX1_lostHalves 28 = .ok (.iconst 1, 1) := by decide +kernel
theorem dX1_lostHalves_29 : decode cX1_lostHalves 29 = .ok (.goto 4, 3) := by decide +kernel
theorem dX1_lostHalves_32 : decode cX1_lostHalves 32 = .ok (.iconst 0, 1) := by decide +kernel
theorem dX1_lostHalves_33 : decode cX1_lostHalves 33 = .ok (.iadd, 1) := by decide +kernel
theorem dX1_lostHalves_34 : decode cX1_lostHalves 34 = .ok (.istore_n 1, 1) := by decide +kernel
theorem dX1_lostHalves_35 : decode cX1_lostHalves 35 = .ok (.iload_n 1, 1) := by decide +kernel
theorem dX1_lostHalves_36 : decode cX1_lostHalves 36 = .ok (.aload_n 0, 1) := by decide +kernel
theorem dX1_lostHalves_37 : decode cX1_lostHalves 37 = .ok (.getfield 11, 3) := by decide +kernel
theorem dX1_lostHalves_40 : decode cX1_lostHalves 40 = .ok (.iload_n 2, 1) := by decide +kernel
theorem dX1_lostHalves_41 : decode cX1_lostHalves 41 = .ok (.aaload, 1) := by decide +kernel
theorem dX1_lostHalves_42 : decode cX1_lostHalves 42 = .ok (.getfield 82, 3) := by decide +kernel
theorem dX1_lostHalves_45 : decode cX1_lostHalves 45 = .ok (.getfield 77, 3) := by decide +kernel
theorem dX1_lostHalves_48 : decode cX1_lostHalves 48 = .ok (.ifCond .eq 7, 3) := by decide +kernel
theorem dX1_lostHalves_51 : decode cX1_lostHalves 51 = .ok (.iconst 1, 1) := by decide +kernel
theorem dX1_lostHalves_52 : decode cX1_lostHalves 52 = .ok (.goto 4, 3) := by decide +kernel
theorem dX1_lostHalves_55 : decode cX1_lostHalves 55 = .ok (.iconst 0, 1) := by decide +kernel
theorem dX1_lostHalves_56 : decode cX1_lostHalves 56 = .ok (.iadd, 1) := by decide +kernel
theorem dX1_lostHalves_57 : decode cX1_lostHalves 57 = .ok (.istore_n 1, 1) := by decide +kernel
theorem dX1_lostHalves_58 : decode cX1_lostHalves 58 = .ok (.iinc 2 1, 3) := by decide +kernel
theorem dX1_lostHalves_61 : decode cX1_lostHalves 61 = .ok (.goto (-57), 3) := by decide +kernel
theorem dX1_lostHalves_64 : decode cX1_lostHalves 64 = .ok (.iload_n 1, 1) := by decide +kernel
theorem dX1_lostHalves_65 : decode cX1_lostHalves 65 = .ok (.ireturn, 1) := by decide +kernel
theorem h9_X1_lostHalves : yX1_lostHalves.cls ≠ "java/lang/invoke/MethodHandle" ∧ yX1_lostHalves.cls ≠ "java/lang/invoke/VarHandle" ∧ (parseMethodDescriptor yX1_lostHalves.desc).map (fun d => d.parameters.length) = some 0 := by decide +kernel
noncomputable def F_X1_lostHalves (a0 : Nat) (w : FW) : Option (Int32) :=
  (fLoop (σ := Int32 × Int32) (ρ := Int32) (fun s1 => fg (w.1 a0 = 2) inferInstance ((if (gI w 101 a0 0) ≤ s1.2 then some (.inr s1.1) else fg (w.1 (gR w 100 a0 0) = 14) inferInstance (fg (¬ (s1.2 < 0 ∨ w.2.1 (gR w 100 a0 0) ≤ Int32.toNatClampNeg s1.2)) inferInstance (fg (w.1 (gR w 604 (gR w 100 a0 0) (Int32.toNatClampNeg s1.2)) = 3) inferInstance (fg (w.1 (gR w 206 (gR w 604 (gR w 100 a0 0) (Int32.toNatClampNeg s1.2)) 0) = 1) inferInstance (((if (gI w 3 (gR w 206 (gR w 604 (gR w 100 a0 0) (Int32.toNatClampNeg s1.2)) 0) 0) = 0 then some 0 else some 1) : Option (Int32)).bind (fun x16 => fg (w.1 (gR w 207 (gR w 604 (gR w 100 a0 0) (Int32.toNatClampNeg s1.2)) 0) = 1) inferInstance ((if (gI w 3 (gR w 207 (gR w 604 (gR w 100 a0 0) (Int32.toNatClampNeg s1.2)) 0) 0) = 0 then some (.inl (((s1.1 + x16) + 0), (s1.2 + 1))) else some (.inl (((s1.1 + x16) + 1), (s1.2 + 1))))))))))))) (0, 0)).bind (fun x7 => some x7)
set_option maxHeartbeats 4000000 in
set_option maxRecDepth 100000 in
theorem c_X1_lostHalves (l : Launch) (D : va_G) (cy : Nat → ClassId) (a0 : Nat) (w : FW) (r : Int32) (hF : F_X1_lostHalves a0 w = some r) : fSpec l D cy yX1_lostHalves cX1_lostHalves 3 (some .int) { frames := 0, cells := 0, slots := 0, locals := 0 } [.ref a0] w w (some (.int r)) := by
  refine f_begin (by decide +kernel) (Nat.le_of_ble_eq_true rfl) (fun X hC hEn => ?_)
  unfold F_X1_lostHalves at hF
  show fAt X 0 0 3 w [(0, .ref a0)] [] 0
  refine f_iconst (v := 0) hC dX1_lostHalves_0 (by decide) ?_
  refine f_istore_n (L' := [(1, .int 0), (0, .ref a0)]) hC dX1_lostHalves_1 rfl (by decide) rfl ?_
  refine f_iconst (v := 0) hC dX1_lostHalves_2 (by decide) ?_
  refine f_istore_n (L' := [(2, .int 0), (1, .int 0), (0, .ref a0)]) hC dX1_lostHalves_3 rfl (by decide) rfl ?_
  obtain ⟨x7, h8, hF⟩ := fb_open hF
  have K9 : fAt X 0 0 3 w [(1, .int x7)] [] 64 := by
    refine f_iload_n hC dX1_lostHalves_64 rfl 0 rfl ?_
    obtain rfl := Option.some.inj hF
    exact f_iret hC hEn (fSm.rf w) dX1_lostHalves_65
  refine f_sub (L' := [(0, .ref a0), (1, .int 0), (2, .int 0)]) [2, 1, 0] rfl ?_
  refine fLoop_ind (fun (s1 : Int32 × Int32) => fAt X 0 0 3 w [(0, .ref a0), (1, .int s1.1), (2, .int s1.2)] [] 4) (fun s1 y6 h2 go3 ou4 => ?_) h8
  refine f_iload_n hC dX1_lostHalves_4 rfl 2 rfl ?_
  refine f_aload_n hC dX1_lostHalves_5 rfl 0 rfl ?_
  obtain ⟨g10, h2⟩ := fg_open h2
  refine f_getI hC 1 1 101 rfl (by decide) iX1 q_271 rfl rfl (fSm.k (fSm.rf w) g10) dX1_lostHalves_6 ?_
  refine f_icmp_ge hC 64 dX1_lostHalves_9 (by decide) (fun c11 => ?_) (fun c11 => ?_)
  · replace h2 := fi_pos h2 c11
    obtain rfl := Option.some.inj h2
    obtain rfl := ou4 _ rfl
    refine f_sub (L' := [(1, .int s1.1)]) [1] rfl ?_
    exact K9
  · replace h2 := fi_neg h2 c11
    refine f_iload_n hC dX1_lostHalves_12 rfl 1 rfl ?_
    refine f_aload_n hC dX1_lostHalves_13 rfl 0 rfl ?_
    refine f_getR hC 1 0 100 rfl (by decide) iX1 q_269 rfl rfl (fSm.k (fSm.rf w) g10) dX1_lostHalves_14 ?_
    refine f_iload_n hC dX1_lostHalves_17 rfl 2 rfl ?_
    obtain ⟨g12, h2⟩ := fg_open h2
    obtain ⟨g13, h2⟩ := fg_open h2
    refine f_aald1 hC (fSm.k (fSm.rf w) g12) (fSm.v (fSm.rf w) g13) dX1_lostHalves_18 ?_
    obtain ⟨g14, h2⟩ := fg_open h2
    refine f_getRN hC 2 6 206 rfl (by decide) iX2 q_247 rfl rfl (fSm.k (fSm.rf w) g14) dX1_lostHalves_19 ?_
    obtain ⟨g15, h2⟩ := fg_open h2
    refine f_getIN hC 0 3 3 rfl (by decide) iX0 q_210 rfl rfl (fSm.k (fSm.rf w) g15) dX1_lostHalves_22 ?_
    obtain ⟨x16, h17, h2⟩ := fb_open h2
    have K19 : fAt X 0 0 3 w [(0, .ref a0), (2, .int s1.2)] [.int x16, .int s1.1] 33 := by
      refine f_iadd hC dX1_lostHalves_33 ?_
      refine f_istore_n (L' := [(1, .int (s1.1 + x16)), (0, .ref a0), (2, .int s1.2)]) hC dX1_lostHalves_34 rfl (by decide) rfl ?_
      refine f_iload_n hC dX1_lostHalves_35 rfl 0 rfl ?_
      refine f_aload_n hC dX1_lostHalves_36 rfl 1 rfl ?_
      refine f_getR hC 1 0 100 rfl (by decide) iX1 q_269 rfl rfl (fSm.k (fSm.rf w) g10) dX1_lostHalves_37 ?_
      refine f_iload_n hC dX1_lostHalves_40 rfl 2 rfl ?_
      refine f_aald1 hC (fSm.k (fSm.rf w) g12) (fSm.v (fSm.rf w) g13) dX1_lostHalves_41 ?_
      refine f_getRN hC 2 7 207 rfl (by decide) iX2 q_250 rfl rfl (fSm.k (fSm.rf w) g14) dX1_lostHalves_42 ?_
      obtain ⟨g20, h2⟩ := fg_open h2
      refine f_getIN hC 0 3 3 rfl (by decide) iX0 q_210 rfl rfl (fSm.k (fSm.rf w) g20) dX1_lostHalves_45 ?_
      refine f_if_eq hC 55 dX1_lostHalves_48 (by decide) (fun c21 => ?_) (fun c21 => ?_)
      · replace h2 := fi_pos h2 c21
        refine f_iconst (v := 0) hC dX1_lostHalves_55 (by decide) ?_
        refine f_iadd hC dX1_lostHalves_56 ?_
        refine f_istore_n (L' := [(1, .int ((s1.1 + x16) + 0)), (0, .ref a0), (2, .int s1.2)]) hC dX1_lostHalves_57 rfl (by decide) rfl ?_
        refine f_iinc (L' := [(2, .int (s1.2 + 1)), (1, .int ((s1.1 + x16) + 0)), (0, .ref a0)]) hC dX1_lostHalves_58 2 rfl rfl (by decide) rfl ?_
        refine f_goto hC 4 dX1_lostHalves_61 (by decide) ?_
        obtain rfl := Option.some.inj h2
        refine f_sub (L' := [(0, .ref a0), (1, .int ((s1.1 + x16) + 0)), (2, .int (s1.2 + 1))]) [2, 1, 0] rfl ?_
        exact go3 _ rfl
      · replace h2 := fi_neg h2 c21
        refine f_iconst (v := 1) hC dX1_lostHalves_51 (by decide) ?_
        refine f_goto hC 56 dX1_lostHalves_52 (by decide) ?_
        refine f_iadd hC dX1_lostHalves_56 ?_
        refine f_istore_n (L' := [(1, .int ((s1.1 + x16) + 1)), (0, .ref a0), (2, .int s1.2)]) hC dX1_lostHalves_57 rfl (by decide) rfl ?_
        refine f_iinc (L' := [(2, .int (s1.2 + 1)), (1, .int ((s1.1 + x16) + 1)), (0, .ref a0)]) hC dX1_lostHalves_58 2 rfl rfl (by decide) rfl ?_
        refine f_goto hC 4 dX1_lostHalves_61 (by decide) ?_
        obtain rfl := Option.some.inj h2
        refine f_sub (L' := [(0, .ref a0), (1, .int ((s1.1 + x16) + 1)), (2, .int (s1.2 + 1))]) [2, 1, 0] rfl ?_
        exact go3 _ rfl
    refine f_if_eq hC 32 dX1_lostHalves_25 (by decide) (fun c22 => ?_) (fun c22 => ?_)
    · replace h17 := fi_pos h17 c22
      refine f_iconst (v := 0) hC dX1_lostHalves_32 (by decide) ?_
      obtain rfl := Option.some.inj h17
      refine f_sub (L' := [(0, .ref a0), (2, .int s1.2)]) [0, 2] rfl ?_
      exact K19
    · replace h17 := fi_neg h17 c22
      refine f_iconst (v := 1) hC dX1_lostHalves_28 (by decide) ?_
      refine f_goto hC 33 dX1_lostHalves_29 (by decide) ?_
      obtain rfl := Option.some.inj h17
      refine f_sub (L' := [(0, .ref a0), (2, .int s1.2)]) [0, 2] rfl ?_
      exact K19
theorem dJ9_floorMod_7cf53_0 : decode cJ9_floorMod_7cf53 0 = .ok (.iload_n 0, 1) := by decide +kernel
theorem dJ9_floorMod_7cf53_1 : decode cJ9_floorMod_7cf53 1 = .ok (.iload_n 1, 1) := by decide +kernel
theorem dJ9_floorMod_7cf53_2 : decode cJ9_floorMod_7cf53 2 = .ok (.irem, 1) := by decide +kernel
theorem dJ9_floorMod_7cf53_3 : decode cJ9_floorMod_7cf53 3 = .ok (.istore_n 2, 1) := by decide +kernel
theorem dJ9_floorMod_7cf53_4 : decode cJ9_floorMod_7cf53 4 = .ok (.iload_n 0, 1) := by decide +kernel
theorem dJ9_floorMod_7cf53_5 : decode cJ9_floorMod_7cf53 5 = .ok (.iload_n 1, 1) := by decide +kernel
theorem dJ9_floorMod_7cf53_6 : decode cJ9_floorMod_7cf53 6 = .ok (.ixor, 1) := by decide +kernel
theorem dJ9_floorMod_7cf53_7 : decode cJ9_floorMod_7cf53 7 = .ok (.ifCond .ge 11, 3) := by decide +kernel
theorem dJ9_floorMod_7cf53_10 : decode cJ9_floorMod_7cf53 10 = .ok (.iload_n 2, 1) := by decide +kernel
theorem dJ9_floorMod_7cf53_11 : decode cJ9_floorMod_7cf53 11 = .ok (.ifCond .eq 7, 3) := by decide +kernel
theorem dJ9_floorMod_7cf53_14 : decode cJ9_floorMod_7cf53 14 = .ok (.iload_n 2, 1) := by decide +kernel
theorem dJ9_floorMod_7cf53_15 : decode cJ9_floorMod_7cf53 15 = .ok (.iload_n 1, 1) := by decide +kernel
theorem dJ9_floorMod_7cf53_16 : decode cJ9_floorMod_7cf53 16 = .ok (.iadd, 1) := by decide +kernel
theorem dJ9_floorMod_7cf53_17 : decode cJ9_floorMod_7cf53 17 = .ok (.ireturn, 1) := by decide +kernel
theorem dJ9_floorMod_7cf53_18 : decode cJ9_floorMod_7cf53 18 = .ok (.iload_n 2, 1) := by decide +kernel
theorem dJ9_floorMod_7cf53_19 : decode cJ9_floorMod_7cf53 19 = .ok (.ireturn, 1) := by decide +kernel
theorem h9_J9_floorMod_7cf53 : yJ9_floorMod_7cf53.cls ≠ "java/lang/invoke/MethodHandle" ∧ yJ9_floorMod_7cf53.cls ≠ "java/lang/invoke/VarHandle" ∧ (parseMethodDescriptor yJ9_floorMod_7cf53.desc).map (fun d => d.parameters.length) = some 2 := by decide +kernel
noncomputable def F_J9_floorMod_7cf53 (x1 : Int32) (x2 : Int32) (w : FW) : Option (Int32) :=
  fg (¬ x2 = 0) inferInstance ((if 0 ≤ (x1 ^^^ x2) then some (frem x1 x2) else (if (frem x1 x2) = 0 then some (frem x1 x2) else some ((frem x1 x2) + x2))))
set_option maxHeartbeats 4000000 in
set_option maxRecDepth 100000 in
theorem c_J9_floorMod_7cf53 (l : Launch) (D : va_G) (cy : Nat → ClassId) (x1 : Int32) (x2 : Int32) (w : FW) (r : Int32) (hF : F_J9_floorMod_7cf53 x1 x2 w = some r) : fSpec l D cy yJ9_floorMod_7cf53 cJ9_floorMod_7cf53 3 (some .int) { frames := 0, cells := 0, slots := 0, locals := 0 } [.int x1, .int x2] w w (some (.int r)) := by
  refine f_begin (by decide +kernel) (Nat.le_of_ble_eq_true rfl) (fun X hC hEn => ?_)
  unfold F_J9_floorMod_7cf53 at hF
  show fAt X 0 0 3 w [(0, .int x1), (1, .int x2)] [] 0
  refine f_iload_n hC dJ9_floorMod_7cf53_0 rfl 0 rfl ?_
  refine f_iload_n hC dJ9_floorMod_7cf53_1 rfl 1 rfl ?_
  obtain ⟨g1, hF⟩ := fg_open hF
  refine f_irem hC dJ9_floorMod_7cf53_2 g1 ?_
  refine f_istore_n (L' := [(2, .int (frem x1 x2)), (0, .int x1), (1, .int x2)]) hC dJ9_floorMod_7cf53_3 rfl (by decide) rfl ?_
  refine f_iload_n hC dJ9_floorMod_7cf53_4 rfl 1 rfl ?_
  refine f_iload_n hC dJ9_floorMod_7cf53_5 rfl 2 rfl ?_
  refine f_ixor hC dJ9_floorMod_7cf53_6 ?_
  refine f_if_ge hC 18 dJ9_floorMod_7cf53_7 (by decide) (fun c2 => ?_) (fun c2 => ?_)
  · replace hF := fi_pos hF c2
    refine f_iload_n hC dJ9_floorMod_7cf53_18 rfl 0 rfl ?_
    obtain rfl := Option.some.inj hF
    exact f_iret hC hEn (fSm.rf w) dJ9_floorMod_7cf53_19
  · replace hF := fi_neg hF c2
    refine f_iload_n hC dJ9_floorMod_7cf53_10 rfl 0 rfl ?_
    refine f_if_eq hC 18 dJ9_floorMod_7cf53_11 (by decide) (fun c3 => ?_) (fun c3 => ?_)
    · replace hF := fi_pos hF c3
      refine f_iload_n hC dJ9_floorMod_7cf53_18 rfl 0 rfl ?_
      obtain rfl := Option.some.inj hF
      exact f_iret hC hEn (fSm.rf w) dJ9_floorMod_7cf53_19
    · replace hF := fi_neg hF c3
      refine f_iload_n hC dJ9_floorMod_7cf53_14 rfl 0 rfl ?_
      refine f_iload_n hC dJ9_floorMod_7cf53_15 rfl 2 rfl ?_
      refine f_iadd hC dJ9_floorMod_7cf53_16 ?_
      obtain rfl := Option.some.inj hF
      exact f_iret hC hEn (fSm.rf w) dJ9_floorMod_7cf53_17
theorem dX2_isSameByHoles_0 : decode cX2_isSameByHoles 0 = .ok (.aload_n 0, 1) := by decide +kernel
theorem dX2_isSameByHoles_1 : decode cX2_isSameByHoles 1 = .ok (.getfield 38, 3) := by decide +kernel
theorem dX2_isSameByHoles_4 : decode cX2_isSameByHoles 4 = .ok (.getfield 79, 3) := by decide +kernel
theorem dX2_isSameByHoles_7 : decode cX2_isSameByHoles 7 = .ok (.ifCond .eq 13, 3) := by decide +kernel
theorem dX2_isSameByHoles_10 : decode cX2_isSameByHoles 10 = .ok (.aload_n 0, 1) := by decide +kernel
theorem dX2_isSameByHoles_11 : decode cX2_isSameByHoles 11 = .ok (.getfield 42, 3) := by decide +kernel
theorem dX2_isSameByHoles_14 : decode cX2_isSameByHoles 14 = .ok (.getfield 79, 3) := by decide +kernel
theorem dX2_isSameByHoles_17 : decode cX2_isSameByHoles 17 = .ok (.ifCond .ne 5, 3) := by decide +kernel
theorem dX2_isSameByHoles_20 : decode cX2_isSameByHoles 20 = .ok (.iconst 0, 1) := by decide +kernel
theorem dX2_isSameByHoles_21 : decode cX2_isSameByHoles 21 = .ok (.ireturn, 1) := by decide +kernel
theorem dX2_isSameByHoles_22 : decode cX2_isSameByHoles 22 = .ok (.aload_n 0, 1) := by decide +kernel
theorem dX2_isSameByHoles_23 : decode cX2_isSameByHoles 23 = .ok (.getfield 38, 3) := by decide +kernel
theorem dX2_isSameByHoles_26 : decode cX2_isSameByHoles 26 = .ok (.getfield 90, 3) := by decide +kernel
theorem dX2_isSameByHoles_29 : decode cX2_isSameByHoles 29 = .ok (.aload_n 0, 1) := by decide +kernel
theorem dX2_isSameByHoles_30 : decode cX2_isSameByHoles 30 = .ok (.getfield 42, 3) := by decide +kernel
theorem dX2_isSameByHoles_33 : decode cX2_isSameByHoles 33 = .ok (.getfield 90, 3) := by decide +kernel
theorem dX2_isSameByHoles_36 : decode cX2_isSameByHoles 36 = .ok (.isub, 1) := by decide +kernel
theorem dX2_isSameByHoles_37 : decode cX2_isSameByHoles 37 = .ok (.istore_n 1, 1) := by decide +kernel
theorem dX2_isSameByHoles_38 : decode cX2_isSameByHoles 38 = .ok (.iconst 0, 1) := by decide +kernel
theorem dX2_isSameByHoles_39 : decode cX2_isSameByHoles 39 = .ok (.istore_n 2, 1) := by decide +kernel
theorem dX2_isSameByHoles_40 : decode cX2_isSameByHoles 40 = .ok (.iload_n 2, 1) := by decide +kernel
theorem dX2_isSameByHoles_41 : decode cX2_isSameByHoles 41 = .ok (.aload_n 0, 1) := by decide +kernel
theorem dX2_isSameByHoles_42 : decode cX2_isSameByHoles 42 = .ok (.getfield 12, 3) := by decide +kernel
theorem dX2_isSameByHoles_45 : decode cX2_isSameByHoles 45 = .ok (.getfield 76, 3) := by decide +kernel
theorem dX2_isSameByHoles_48 : decode cX2_isSameByHoles 48 = .ok (.if_icmp .ge 101, 3) := by decide +kernel
theorem dX2_isSameByHoles_51 : decode cX2_isSameByHoles 51 = .ok (.aload_n 0, 1) := by decide +kernel
theorem dX2_isSameByHoles_52 : decode cX2_isSameByHoles 52 = .ok (.getfield 12, 3) := by decide +kernel
theorem dX2_isSameByHoles_55 : decode cX2_isSameByHoles 55 = .ok (.iload_n 2, 1) := by decide +kernel
theorem dX2_isSameByHoles_56 : decode cX2_isSameByHoles 56 = .ok (.invokevirtual 82, 3) := by decide +kernel
theorem dX2_isSameByHoles_59 : decode cX2_isSameByHoles 59 = .ok (.invokestatic 93, 3) := by decide +kernel
theorem dX2_isSameByHoles_62 : decode cX2_isSameByHoles 62 = .ok (.istore_n 3, 1) := by decide +kernel
theorem dX2_isSameByHoles_63 : decode cX2_isSameByHoles 63 = .ok (.aload_n 0, 1) := by decide +kernel
theorem dX2_isSameByHoles_64 : decode cX2_isSameByHoles 64 = .ok (.getfield 38, 3) := by decide +kernel
theorem dX2_isSameByHoles_67 : decode cX2_isSameByHoles 67 = .ok (.iload_n 3, 1) := by decide +kernel
theorem dX2_isSameByHoles_68 : decode cX2_isSameByHoles 68 = .ok (.aload_n 0, 1) := by decide +kernel
theorem dX2_isSameByHoles_69 : decode cX2_isSameByHoles 69 = .ok (.getfield 38, 3) := by decide +kernel
theorem dX2_isSameByHoles_72 : decode cX2_isSameByHoles 72 = .ok (.getfield 63, 3) := by decide +kernel
theorem dX2_isSameByHoles_75 : decode cX2_isSameByHoles 75 = .ok (.invokevirtual 97, 3) := by decide +kernel
theorem dX2_isSameByHoles_78 : decode cX2_isSameByHoles 78 = .ok (.istore 4, 2) := by decide +kernel
theorem dX2_isSameByHoles_80 : decode cX2_isSameByHoles 80 = .ok (.aload_n 0, 1) := by decide +kernel
theorem dX2_isSameByHoles_81 : decode cX2_isSameByHoles 81 = .ok (.getfield 42, 3) := by decide +kernel
theorem dX2_isSameByHoles_84 : decode cX2_isSameByHoles 84 = .ok (.iload_n 3, 1) := by decide +kernel
theorem dX2_isSameByHoles_85 : decode cX2_isSameByHoles 85 = .ok (.aload_n 0, 1) := by decide +kernel
theorem dX2_isSameByHoles_86 : decode cX2_isSameByHoles 86 = .ok (.getfield 42, 3) := by decide +kernel
theorem dX2_isSameByHoles_89 : decode cX2_isSameByHoles 89 = .ok (.getfield 63, 3) := by decide +kernel
theorem dX2_isSameByHoles_92 : decode cX2_isSameByHoles 92 = .ok (.invokevirtual 97, 3) := by decide +kernel
theorem dX2_isSameByHoles_95 : decode cX2_isSameByHoles 95 = .ok (.istore 5, 2) := by decide +kernel
theorem dX2_isSameByHoles_97 : decode cX2_isSameByHoles 97 = .ok (.iload 4, 2) := by decide +kernel
theorem dX2_isSameByHoles_99 : decode cX2_isSameByHoles 99 = .ok (.ifCond .ne 7, 3) := by decide +kernel
theorem dX2_isSameByHoles_102 : decode cX2_isSameByHoles 102 = .ok (.iconst 1, 1) := by decide +kernel
theorem dX2_isSameByHoles_103 : decode cX2_isSameByHoles 103 = .ok (.goto 4, 3) := by decide +kernel
theorem dX2_isSameByHoles_106 : decode cX2_isSameByHoles 106 = .ok (.iconst 0, 1) := by decide +kernel
theorem dX2_isSameByHoles_107 : decode cX2_isSameByHoles 107 = .ok (.iload 5, 2) := by decide +kernel
theorem dX2_isSameByHoles_109 : decode cX2_isSameByHoles 109 = .ok (.ifCond .ne 7, 3) := by decide +kernel
theorem dX2_isSameByHoles_112 : decode cX2_isSameByHoles 112 = .ok (.iconst 1, 1) := by decide +kernel
theorem dX2_isSameByHoles_113 : decode cX2_isSameByHoles 113 = .ok (.goto 4, 3) := by decide +kernel
theorem dX2_isSameByHoles_116 : decode cX2_isSameByHoles 116 = .ok (.iconst 0, 1) := by decide +kernel
theorem dX2_isSameByHoles_117 : decode cX2_isSameByHoles 117 = .ok (.if_icmp .eq 5, 3) := by decide +kernel
theorem dX2_isSameByHoles_120 : decode cX2_isSameByHoles 120 = .ok (.iconst 0, 1) := by decide +kernel
theorem dX2_isSameByHoles_121 : decode cX2_isSameByHoles 121 = .ok (.ireturn, 1) := by decide +kernel
theorem dX2_isSameByHoles_122 : decode cX2_isSameByHoles 122 = .ok (.iload 4, 2) := by decide +kernel
theorem dX2_isSameByHoles_124 : decode cX2_isSameByHoles 124 = .ok (.ifCond .eq 19, 3) := by decide +kernel
theorem dX2_isSameByHoles_127 : decode cX2_isSameByHoles 127 = .ok (.iload 4, 2) := by decide +kernel
theorem dX2_isSameByHoles_129 : decode cX2_isSameByHoles 129 = .ok (.iload 5, 2) := by decide +kernel
theorem dX2_isSameByHoles_131 : decode cX2_isSameByHoles 131 = .ok (.isub, 1) := by decide +kernel
theorem dX2_isSameByHoles_132 : decode cX2_isSameByHoles 132 = .ok (.iload_n 1, 1) := by decide +kernel
theorem dX2_isSameByHoles_133 : decode cX2_isSameByHoles 133 = .ok (.isub, 1) := by decide +kernel
theorem dX2_isSameByHoles_134 : decode cX2_isSameByHoles 134 = .ok (.iconst 5, 1) := by decide +kernel
theorem dX2_isSameByHoles_135 : decode cX2_isSameByHoles 135 = .ok (.invokestatic 101, 3) := by decide +kernel
theorem dX2_isSameByHoles_138 : decode cX2_isSameByHoles 138 = .ok (.ifCond .eq 5, 3) := by decide +kernel
theorem dX2_isSameByHoles_141 : decode cX2_isSameByHoles 141 = .ok (.iconst 0, 1) := by decide +kernel
theorem dX2_isSameByHoles_142 : decode cX2_isSameByHoles 142 = .ok (.ireturn, 1) := by decide +kernel
theorem dX2_isSameByHoles_143 : decode cX2_isSameByHoles 143 = .ok (.iinc 2 1, 3) := by decide +kernel
theorem dX2_isSameByHoles_146 : decode cX2_isSameByHoles 146 = .ok (.goto (-106), 3) := by decide +kernel
theorem dX2_isSameByHoles_149 : decode cX2_isSameByHoles 149 = .ok (.iconst 1, 1) := by decide +kernel
theorem dX2_isSameByHoles_150 : decode cX2_isSameByHoles 150 = .ok (.ireturn, 1) := by decide +kernel
theorem h9_X2_isSameByHoles : yX2_isSameByHoles.cls ≠ "java/lang/invoke/MethodHandle" ∧ yX2_isSameByHoles.cls ≠ "java/lang/invoke/VarHandle" ∧ (parseMethodDescriptor yX2_isSameByHoles.desc).map (fun d => d.parameters.length) = some 0 := by decide +kernel
noncomputable def F_X2_isSameByHoles (a0 : Nat) (w : FW) : Option (Int32) :=
  fg (w.1 a0 = 3) inferInstance (fg (w.1 (gR w 206 a0 0) = 1) inferInstance ((if (gI w 0 (gR w 206 a0 0) 0) = 0 then some 0 else fg (w.1 (gR w 207 a0 0) = 1) inferInstance ((if (gI w 0 (gR w 207 a0 0) 0) = 0 then some 0 else (fLoop (σ := Int32) (ρ := (Unit) ⊕ (Int32)) (fun s6 => fg (w.1 (gR w 200 a0 0) = 4) inferInstance ((if (gI w 301 (gR w 200 a0 0) 0) ≤ s6 then some (.inr (.inl ())) else (F_X3_letterAt (gR w 200 a0 0) s6 w).bind (fun r17 => (F_X4_vowelNumber r17 w).bind (fun r20 => (F_X0_holesFor (gR w 206 a0 0) r20 (gI w 2 (gR w 206 a0 0) 0) w).bind (fun r23 => (F_X0_holesFor (gR w 207 a0 0) r20 (gI w 2 (gR w 207 a0 0) 0) w).bind (fun r26 => ((if r23 = 0 then some 1 else some 0) : Option (Int32)).bind (fun x29 => ((if r26 = 0 then some 1 else some 0) : Option (Int32)).bind (fun x33 => (if x29 = x33 then (if r23 = 0 then some (.inl (s6 + 1)) else (F_J9_floorMod_7cf53 ((r23 - r26) - ((gI w 1 (gR w 206 a0 0) 0) - (gI w 1 (gR w 207 a0 0) 0))) 5 w).bind (fun r39 => (if r39 = 0 then some (.inl (s6 + 1)) else some (.inr (.inr 0))))) else some (.inr (.inr 0)))))))))))) 0).bind (fun x12 => fse x12 (fun z45 => some 1) (fun q9 => some q9)))))))
set_option maxHeartbeats 4000000 in
set_option maxRecDepth 100000 in
theorem c_X2_isSameByHoles (l : Launch) (D : va_G) (cy : Nat → ClassId) (a0 : Nat) (w : FW) (r : Int32) (hF : F_X2_isSameByHoles a0 w = some r) : fSpec l D cy yX2_isSameByHoles cX2_isSameByHoles 6 (some .boolean) { frames := 2, cells := 0, slots := 0, locals := 42 } [.ref a0] w w (some (.int r)) := by
  refine f_begin (by decide +kernel) (Nat.le_of_ble_eq_true rfl) (fun X hC hEn => ?_)
  unfold F_X2_isSameByHoles at hF
  show fAt X 0 0 6 w [(0, .ref a0)] [] 0
  refine f_aload_n hC dX2_isSameByHoles_0 rfl 0 rfl ?_
  obtain ⟨g1, hF⟩ := fg_open hF
  refine f_getR hC 2 6 206 rfl (by decide) iX2 q_246 rfl rfl (fSm.k (fSm.rf w) g1) dX2_isSameByHoles_1 ?_
  obtain ⟨g2, hF⟩ := fg_open hF
  refine f_getIN hC 0 0 0 rfl (by decide) iX0 q_200 rfl rfl (fSm.k (fSm.rf w) g2) dX2_isSameByHoles_4 ?_
  refine f_if_eq hC 20 dX2_isSameByHoles_7 (by decide) (fun c3 => ?_) (fun c3 => ?_)
  · replace hF := fi_pos hF c3
    refine f_iconst (v := 0) hC dX2_isSameByHoles_20 (by decide) ?_
    obtain rfl := Option.some.inj hF
    exact f_zret hC hEn (fSm.rf w) (nar_z (by decide)) dX2_isSameByHoles_21
  · replace hF := fi_neg hF c3
    refine f_aload_n hC dX2_isSameByHoles_10 rfl 0 rfl ?_
    refine f_getR hC 2 7 207 rfl (by decide) iX2 q_249 rfl rfl (fSm.k (fSm.rf w) g1) dX2_isSameByHoles_11 ?_
    obtain ⟨g4, hF⟩ := fg_open hF
    refine f_getIN hC 0 0 0 rfl (by decide) iX0 q_200 rfl rfl (fSm.k (fSm.rf w) g4) dX2_isSameByHoles_14 ?_
    refine f_if_ne hC 22 dX2_isSameByHoles_17 (by decide) (fun c5 => ?_) (fun c5 => ?_)
    · replace hF := fi_neg hF c5
      refine f_aload_n hC dX2_isSameByHoles_22 rfl 0 rfl ?_
      refine f_getR hC 2 6 206 rfl (by decide) iX2 q_246 rfl rfl (fSm.k (fSm.rf w) g1) dX2_isSameByHoles_23 ?_
      refine f_getIN hC 0 1 1 rfl (by decide) iX0 q_204 rfl rfl (fSm.k (fSm.rf w) g2) dX2_isSameByHoles_26 ?_
      refine f_aload_n hC dX2_isSameByHoles_29 rfl 0 rfl ?_
      refine f_getR hC 2 7 207 rfl (by decide) iX2 q_249 rfl rfl (fSm.k (fSm.rf w) g1) dX2_isSameByHoles_30 ?_
      refine f_getIN hC 0 1 1 rfl (by decide) iX0 q_204 rfl rfl (fSm.k (fSm.rf w) g4) dX2_isSameByHoles_33 ?_
      refine f_isub hC dX2_isSameByHoles_36 ?_
      refine f_istore_n (L' := [(1, .int ((gI w 1 (gR w 206 a0 0) 0) - (gI w 1 (gR w 207 a0 0) 0))), (0, .ref a0)]) hC dX2_isSameByHoles_37 rfl (by decide) rfl ?_
      refine f_iconst (v := 0) hC dX2_isSameByHoles_38 (by decide) ?_
      refine f_istore_n (L' := [(2, .int 0), (1, .int ((gI w 1 (gR w 206 a0 0) 0) - (gI w 1 (gR w 207 a0 0) 0))), (0, .ref a0)]) hC dX2_isSameByHoles_39 rfl (by decide) rfl ?_
      obtain ⟨x12, h13, hF⟩ := fb_open hF
      have K14 : ∀ z45, x12 = .inl z45 → fAt X 0 0 6 w [] [] 149 := by
        intro z45 hz9
        subst hz9
        refine f_iconst (v := 1) hC dX2_isSameByHoles_149 (by decide) ?_
        obtain rfl := Option.some.inj hF
        exact f_zret hC hEn (fSm.rf w) (nar_z (by decide)) dX2_isSameByHoles_150
      refine f_sub (L' := [(0, .ref a0), (1, .int ((gI w 1 (gR w 206 a0 0) 0) - (gI w 1 (gR w 207 a0 0) 0))), (2, .int 0)]) [2, 1, 0] rfl ?_
      refine fLoop_ind (fun (s6 : Int32) => fAt X 0 0 6 w [(0, .ref a0), (1, .int ((gI w 1 (gR w 206 a0 0) 0) - (gI w 1 (gR w 207 a0 0) 0))), (2, .int s6)] [] 40) (fun s6 y11 h7 go8 ou9 => ?_) h13
      refine f_iload_n hC dX2_isSameByHoles_40 rfl 2 rfl ?_
      refine f_aload_n hC dX2_isSameByHoles_41 rfl 0 rfl ?_
      refine f_getR hC 2 0 200 rfl (by decide) iX2 q_228 rfl rfl (fSm.k (fSm.rf w) g1) dX2_isSameByHoles_42 ?_
      obtain ⟨g15, h7⟩ := fg_open h7
      refine f_getIN hC 3 1 301 rfl (by decide) iX3 q_179 rfl rfl (fSm.k (fSm.rf w) g15) dX2_isSameByHoles_45 ?_
      refine f_icmp_ge hC 149 dX2_isSameByHoles_48 (by decide) (fun c16 => ?_) (fun c16 => ?_)
      · replace h7 := fi_pos h7 c16
        obtain rfl := Option.some.inj h7
        have eo := ou9 _ rfl
        refine f_sub (L' := []) [] rfl ?_
        exact K14 _ eo.symm
      · replace h7 := fi_neg h7 c16
        refine f_aload_n hC dX2_isSameByHoles_51 rfl 0 rfl ?_
        refine f_getR hC 2 0 200 rfl (by decide) iX2 q_228 rfl rfl (fSm.k (fSm.rf w) g1) dX2_isSameByHoles_52 ?_
        refine f_iload_n hC dX2_isSameByHoles_55 rfl 2 rfl ?_
        obtain ⟨r17, h18, h7⟩ := fb_open h7
        refine f_callVN hC [.int s6] (c_X3_letterAt l D cy (gR w 200 a0 0) s6 w r17 h18) q_523 q_133 q_536 q_522 q_12 h9_X3_letterAt rfl (fSm.k (fSm.rf w) g15) ⟨Nat.le_of_ble_eq_true rfl, Nat.le_of_ble_eq_true rfl⟩ ⟨Nat.le_of_ble_eq_true rfl, Nat.le_of_ble_eq_true rfl⟩ (Nat.le_of_ble_eq_true rfl) rfl dX2_isSameByHoles_56 (fun e19 => ?_)
        obtain ⟨r20, h21, h7⟩ := fb_open h7
        refine f_callSN hC [.int r17] (c_X4_vowelNumber l D cy r17 w r20 h21) q_547 q_131 q_600 q_546 h9_X4_vowelNumber ⟨Nat.le_of_ble_eq_true rfl, Nat.le_of_ble_eq_true rfl⟩ ⟨Nat.le_of_ble_eq_true rfl, Nat.le_of_ble_eq_true rfl⟩ (Nat.le_of_ble_eq_true rfl) rfl dX2_isSameByHoles_59 (fun e22 => ?_)
        refine f_istore_n (L' := [(3, .int r20), (0, .ref a0), (1, .int ((gI w 1 (gR w 206 a0 0) 0) - (gI w 1 (gR w 207 a0 0) 0))), (2, .int s6)]) hC dX2_isSameByHoles_62 rfl (by decide) rfl ?_
        refine f_aload_n hC dX2_isSameByHoles_63 rfl 1 rfl ?_
        refine f_getR hC 2 6 206 rfl (by decide) iX2 q_246 rfl rfl (fSm.k (fSm.rf w) g1) dX2_isSameByHoles_64 ?_
        refine f_iload_n hC dX2_isSameByHoles_67 rfl 0 rfl ?_
        refine f_aload_n hC dX2_isSameByHoles_68 rfl 1 rfl ?_
        refine f_getR hC 2 6 206 rfl (by decide) iX2 q_246 rfl rfl (fSm.k (fSm.rf w) g1) dX2_isSameByHoles_69 ?_
        refine f_getIN hC 0 2 2 rfl (by decide) iX0 q_207 rfl rfl (fSm.k (fSm.rf w) g2) dX2_isSameByHoles_72 ?_
        obtain ⟨r23, h24, h7⟩ := fb_open h7
        refine f_callVN hC [.int r20, .int (gI w 2 (gR w 206 a0 0) 0)] (c_X0_holesFor l D cy (gR w 206 a0 0) r20 (gI w 2 (gR w 206 a0 0) 0) w r23 h24) q_551 q_135 q_601 q_550 q_17 h9_X0_holesFor rfl (fSm.k (fSm.rf w) g2) ⟨Nat.le_of_ble_eq_true rfl, Nat.le_of_ble_eq_true rfl⟩ ⟨Nat.le_of_ble_eq_true rfl, Nat.le_of_ble_eq_true rfl⟩ (Nat.le_of_ble_eq_true rfl) rfl dX2_isSameByHoles_75 (fun e25 => ?_)
        refine f_istore (L' := [(4, .int r23), (3, .int r20), (0, .ref a0), (1, .int ((gI w 1 (gR w 206 a0 0) 0) - (gI w 1 (gR w 207 a0 0) 0))), (2, .int s6)]) hC dX2_isSameByHoles_78 (by decide) rfl ?_
        refine f_aload_n hC dX2_isSameByHoles_80 rfl 2 rfl ?_
        refine f_getR hC 2 7 207 rfl (by decide) iX2 q_249 rfl rfl (fSm.k (fSm.rf w) g1) dX2_isSameByHoles_81 ?_
        refine f_iload_n hC dX2_isSameByHoles_84 rfl 1 rfl ?_
        refine f_aload_n hC dX2_isSameByHoles_85 rfl 2 rfl ?_
        refine f_getR hC 2 7 207 rfl (by decide) iX2 q_249 rfl rfl (fSm.k (fSm.rf w) g1) dX2_isSameByHoles_86 ?_
        refine f_getIN hC 0 2 2 rfl (by decide) iX0 q_207 rfl rfl (fSm.k (fSm.rf w) g4) dX2_isSameByHoles_89 ?_
        obtain ⟨r26, h27, h7⟩ := fb_open h7
        refine f_callVN hC [.int r20, .int (gI w 2 (gR w 207 a0 0) 0)] (c_X0_holesFor l D cy (gR w 207 a0 0) r20 (gI w 2 (gR w 207 a0 0) 0) w r26 h27) q_551 q_135 q_601 q_550 q_17 h9_X0_holesFor rfl (fSm.k (fSm.rf w) g4) ⟨Nat.le_of_ble_eq_true rfl, Nat.le_of_ble_eq_true rfl⟩ ⟨Nat.le_of_ble_eq_true rfl, Nat.le_of_ble_eq_true rfl⟩ (Nat.le_of_ble_eq_true rfl) rfl dX2_isSameByHoles_92 (fun e28 => ?_)
        refine f_istore (L' := [(5, .int r26), (4, .int r23), (3, .int r20), (0, .ref a0), (1, .int ((gI w 1 (gR w 206 a0 0) 0) - (gI w 1 (gR w 207 a0 0) 0))), (2, .int s6)]) hC dX2_isSameByHoles_95 (by decide) rfl ?_
        refine f_iload hC dX2_isSameByHoles_97 1 rfl ?_
        obtain ⟨x29, h30, h7⟩ := fb_open h7
        have K32 : fAt X 0 0 6 w [(0, .ref a0), (1, .int ((gI w 1 (gR w 206 a0 0) 0) - (gI w 1 (gR w 207 a0 0) 0))), (2, .int s6), (4, .int r23), (5, .int r26)] [.int x29] 107 := by
          refine f_iload hC dX2_isSameByHoles_107 4 rfl ?_
          obtain ⟨x33, h34, h7⟩ := fb_open h7
          have K36 : fAt X 0 0 6 w [(0, .ref a0), (1, .int ((gI w 1 (gR w 206 a0 0) 0) - (gI w 1 (gR w 207 a0 0) 0))), (2, .int s6), (4, .int r23), (5, .int r26)] [.int x33, .int x29] 117 := by
            refine f_icmp_eq hC 122 dX2_isSameByHoles_117 (by decide) (fun c37 => ?_) (fun c37 => ?_)
            · replace h7 := fi_pos h7 c37
              refine f_iload hC dX2_isSameByHoles_122 3 rfl ?_
              refine f_if_eq hC 143 dX2_isSameByHoles_124 (by decide) (fun c38 => ?_) (fun c38 => ?_)
              · replace h7 := fi_pos h7 c38
                refine f_iinc (L' := [(2, .int (s6 + 1)), (0, .ref a0), (1, .int ((gI w 1 (gR w 206 a0 0) 0) - (gI w 1 (gR w 207 a0 0) 0))), (4, .int r23), (5, .int r26)]) hC dX2_isSameByHoles_143 2 rfl rfl (by decide) rfl ?_
                refine f_goto hC 40 dX2_isSameByHoles_146 (by decide) ?_
                obtain rfl := Option.some.inj h7
                refine f_sub (L' := [(0, .ref a0), (1, .int ((gI w 1 (gR w 206 a0 0) 0) - (gI w 1 (gR w 207 a0 0) 0))), (2, .int (s6 + 1))]) [1, 2, 0] rfl ?_
                exact go8 _ rfl
              · replace h7 := fi_neg h7 c38
                refine f_iload hC dX2_isSameByHoles_127 3 rfl ?_
                refine f_iload hC dX2_isSameByHoles_129 4 rfl ?_
                refine f_isub hC dX2_isSameByHoles_131 ?_
                refine f_iload_n hC dX2_isSameByHoles_132 rfl 1 rfl ?_
                refine f_isub hC dX2_isSameByHoles_133 ?_
                refine f_iconst (v := 5) hC dX2_isSameByHoles_134 (by decide) ?_
                obtain ⟨r39, h40, h7⟩ := fb_open h7
                refine f_callS hC [.int ((r23 - r26) - ((gI w 1 (gR w 206 a0 0) 0) - (gI w 1 (gR w 207 a0 0) 0))), .int 5] (c_J9_floorMod_7cf53 l D cy ((r23 - r26) - ((gI w 1 (gR w 206 a0 0) 0) - (gI w 1 (gR w 207 a0 0) 0))) 5 w r39 h40) q_555 q_146 q_602 q_554 h9_J9_floorMod_7cf53 ⟨Nat.le_of_ble_eq_true rfl, Nat.le_of_ble_eq_true rfl⟩ ⟨Nat.le_of_ble_eq_true rfl, Nat.le_of_ble_eq_true rfl⟩ (Nat.le_of_ble_eq_true rfl) rfl dX2_isSameByHoles_135 (fun e41 => ?_)
                refine f_if_eq hC 143 dX2_isSameByHoles_138 (by decide) (fun c42 => ?_) (fun c42 => ?_)
                · replace h7 := fi_pos h7 c42
                  refine f_iinc (L' := [(2, .int (s6 + 1)), (0, .ref a0), (1, .int ((gI w 1 (gR w 206 a0 0) 0) - (gI w 1 (gR w 207 a0 0) 0))), (4, .int r23), (5, .int r26)]) hC dX2_isSameByHoles_143 2 rfl rfl (by decide) rfl ?_
                  refine f_goto hC 40 dX2_isSameByHoles_146 (by decide) ?_
                  obtain rfl := Option.some.inj h7
                  refine f_sub (L' := [(0, .ref a0), (1, .int ((gI w 1 (gR w 206 a0 0) 0) - (gI w 1 (gR w 207 a0 0) 0))), (2, .int (s6 + 1))]) [1, 2, 0] rfl ?_
                  exact go8 _ rfl
                · replace h7 := fi_neg h7 c42
                  refine f_iconst (v := 0) hC dX2_isSameByHoles_141 (by decide) ?_
                  obtain rfl := Option.some.inj h7
                  obtain rfl := ou9 _ rfl
                  obtain rfl := Option.some.inj hF
                  exact f_zret hC hEn (fSm.rf w) (nar_z (by decide)) dX2_isSameByHoles_142
            · replace h7 := fi_neg h7 c37
              refine f_iconst (v := 0) hC dX2_isSameByHoles_120 (by decide) ?_
              obtain rfl := Option.some.inj h7
              obtain rfl := ou9 _ rfl
              obtain rfl := Option.some.inj hF
              exact f_zret hC hEn (fSm.rf w) (nar_z (by decide)) dX2_isSameByHoles_121
          refine f_if_ne hC 116 dX2_isSameByHoles_109 (by decide) (fun c43 => ?_) (fun c43 => ?_)
          · replace h34 := fi_neg h34 c43
            refine f_iconst (v := 0) hC dX2_isSameByHoles_116 (by decide) ?_
            obtain rfl := Option.some.inj h34
            exact K36
          · replace h34 := fi_pos h34 c43
            refine f_iconst (v := 1) hC dX2_isSameByHoles_112 (by decide) ?_
            refine f_goto hC 117 dX2_isSameByHoles_113 (by decide) ?_
            obtain rfl := Option.some.inj h34
            exact K36
        refine f_if_ne hC 106 dX2_isSameByHoles_99 (by decide) (fun c44 => ?_) (fun c44 => ?_)
        · replace h30 := fi_neg h30 c44
          refine f_iconst (v := 0) hC dX2_isSameByHoles_106 (by decide) ?_
          obtain rfl := Option.some.inj h30
          refine f_sub (L' := [(0, .ref a0), (1, .int ((gI w 1 (gR w 206 a0 0) 0) - (gI w 1 (gR w 207 a0 0) 0))), (2, .int s6), (4, .int r23), (5, .int r26)]) [3, 4, 5, 1, 0] rfl ?_
          exact K32
        · replace h30 := fi_pos h30 c44
          refine f_iconst (v := 1) hC dX2_isSameByHoles_102 (by decide) ?_
          refine f_goto hC 107 dX2_isSameByHoles_103 (by decide) ?_
          obtain rfl := Option.some.inj h30
          refine f_sub (L' := [(0, .ref a0), (1, .int ((gI w 1 (gR w 206 a0 0) 0) - (gI w 1 (gR w 207 a0 0) 0))), (2, .int s6), (4, .int r23), (5, .int r26)]) [3, 4, 5, 1, 0] rfl ?_
          exact K32
    · replace hF := fi_pos hF c5
      refine f_iconst (v := 0) hC dX2_isSameByHoles_20 (by decide) ?_
      obtain rfl := Option.some.inj hF
      exact f_zret hC hEn (fSm.rf w) (nar_z (by decide)) dX2_isSameByHoles_21
theorem dJ9_max_7cf53_0 : decode cJ9_max_7cf53 0 = .ok (.iload_n 0, 1) := by decide +kernel
theorem dJ9_max_7cf53_1 : decode cJ9_max_7cf53 1 = .ok (.iload_n 1, 1) := by decide +kernel
theorem dJ9_max_7cf53_2 : decode cJ9_max_7cf53 2 = .ok (.if_icmp .lt 7, 3) := by decide +kernel
theorem dJ9_max_7cf53_5 : decode cJ9_max_7cf53 5 = .ok (.iload_n 0, 1) := by decide +kernel
theorem dJ9_max_7cf53_6 : decode cJ9_max_7cf53 6 = .ok (.goto 4, 3) := by decide +kernel
theorem dJ9_max_7cf53_9 : decode cJ9_max_7cf53 9 = .ok (.iload_n 1, 1) := by decide +kernel
theorem dJ9_max_7cf53_10 : decode cJ9_max_7cf53 10 = .ok (.ireturn, 1) := by decide +kernel
theorem h9_J9_max_7cf53 : yJ9_max_7cf53.cls ≠ "java/lang/invoke/MethodHandle" ∧ yJ9_max_7cf53.cls ≠ "java/lang/invoke/VarHandle" ∧ (parseMethodDescriptor yJ9_max_7cf53.desc).map (fun d => d.parameters.length) = some 2 := by decide +kernel
noncomputable def F_J9_max_7cf53 (x1 : Int32) (x2 : Int32) (w : FW) : Option (Int32) :=
  (if x1 < x2 then some x2 else some x1)
set_option maxHeartbeats 4000000 in
set_option maxRecDepth 100000 in
theorem c_J9_max_7cf53 (l : Launch) (D : va_G) (cy : Nat → ClassId) (x1 : Int32) (x2 : Int32) (w : FW) (r : Int32) (hF : F_J9_max_7cf53 x1 x2 w = some r) : fSpec l D cy yJ9_max_7cf53 cJ9_max_7cf53 2 (some .int) { frames := 0, cells := 0, slots := 0, locals := 0 } [.int x1, .int x2] w w (some (.int r)) := by
  refine f_begin (by decide +kernel) (Nat.le_of_ble_eq_true rfl) (fun X hC hEn => ?_)
  unfold F_J9_max_7cf53 at hF
  show fAt X 0 0 2 w [(0, .int x1), (1, .int x2)] [] 0
  refine f_iload_n hC dJ9_max_7cf53_0 rfl 0 rfl ?_
  refine f_iload_n hC dJ9_max_7cf53_1 rfl 1 rfl ?_
  refine f_icmp_lt hC 9 dJ9_max_7cf53_2 (by decide) (fun c1 => ?_) (fun c1 => ?_)
  · replace hF := fi_pos hF c1
    refine f_iload_n hC dJ9_max_7cf53_9 rfl 1 rfl ?_
    obtain rfl := Option.some.inj hF
    exact f_iret hC hEn (fSm.rf w) dJ9_max_7cf53_10
  · replace hF := fi_neg hF c1
    refine f_iload_n hC dJ9_max_7cf53_5 rfl 0 rfl ?_
    refine f_goto hC 10 dJ9_max_7cf53_6 (by decide) ?_
    obtain rfl := Option.some.inj hF
    exact f_iret hC hEn (fSm.rf w) dJ9_max_7cf53_10
theorem dX1_isClosed_0 : decode cX1_isClosed 0 = .ok (.iload_n 1, 1) := by decide +kernel
theorem dX1_isClosed_1 : decode cX1_isClosed 1 = .ok (.invokestatic 66, 3) := by decide +kernel
theorem dX1_isClosed_4 : decode cX1_isClosed 4 = .ok (.ifCond .eq 16, 3) := by decide +kernel
theorem dX1_isClosed_7 : decode cX1_isClosed 7 = .ok (.aload_n 0, 1) := by decide +kernel
theorem dX1_isClosed_8 : decode cX1_isClosed 8 = .ok (.getfield 32, 3) := by decide +kernel
theorem dX1_isClosed_11 : decode cX1_isClosed 11 = .ok (.iload_n 1, 1) := by decide +kernel
theorem dX1_isClosed_12 : decode cX1_isClosed 12 = .ok (.baload, 1) := by decide +kernel
theorem dX1_isClosed_13 : decode cX1_isClosed 13 = .ok (.ifCond .ne 7, 3) := by decide +kernel
theorem dX1_isClosed_16 : decode cX1_isClosed 16 = .ok (.iconst 1, 1) := by decide +kernel
theorem dX1_isClosed_17 : decode cX1_isClosed 17 = .ok (.goto 4, 3) := by decide +kernel
theorem dX1_isClosed_20 : decode cX1_isClosed 20 = .ok (.iconst 0, 1) := by decide +kernel
theorem dX1_isClosed_21 : decode cX1_isClosed 21 = .ok (.ireturn, 1) := by decide +kernel
theorem h9_X1_isClosed : yX1_isClosed.cls ≠ "java/lang/invoke/MethodHandle" ∧ yX1_isClosed.cls ≠ "java/lang/invoke/VarHandle" ∧ (parseMethodDescriptor yX1_isClosed.desc).map (fun d => d.parameters.length) = some 1 := by decide +kernel
noncomputable def F_X1_isClosed (a0 : Nat) (x1 : Int32) (w : FW) : Option (Int32) :=
  (F_X4_isPier x1 w).bind (fun r1 => (if r1 = 0 then some 0 else fg (w.1 a0 = 2) inferInstance (fg (w.1 (gR w 104 a0 0) = 12) inferInstance (fg (¬ (x1 < 0 ∨ w.2.1 (gR w 104 a0 0) ≤ Int32.toNatClampNeg x1)) inferInstance ((if (gI w 602 (gR w 104 a0 0) (Int32.toNatClampNeg x1)) = 0 then some 1 else some 0))))))
set_option maxHeartbeats 4000000 in
set_option maxRecDepth 100000 in
theorem c_X1_isClosed (l : Launch) (D : va_G) (cy : Nat → ClassId) (a0 : Nat) (x1 : Int32) (w : FW) (r : Int32) (hF : F_X1_isClosed a0 x1 w = some r) : fSpec l D cy yX1_isClosed cX1_isClosed 2 (some .boolean) { frames := 1, cells := 0, slots := 0, locals := 20 } [.ref a0, .int x1] w w (some (.int r)) := by
  refine f_begin (by decide +kernel) (Nat.le_of_ble_eq_true rfl) (fun X hC hEn => ?_)
  unfold F_X1_isClosed at hF
  show fAt X 0 0 2 w [(0, .ref a0), (1, .int x1)] [] 0
  refine f_iload_n hC dX1_isClosed_0 rfl 1 rfl ?_
  obtain ⟨r1, h2, hF⟩ := fb_open hF
  refine f_callSN hC [.int x1] (c_X4_isPier l D cy x1 w r1 h2) q_690 q_131 q_958 q_689 h9_X4_isPier ⟨Nat.le_of_ble_eq_true rfl, Nat.le_of_ble_eq_true rfl⟩ ⟨Nat.le_of_ble_eq_true rfl, Nat.le_of_ble_eq_true rfl⟩ (Nat.le_of_ble_eq_true rfl) rfl dX1_isClosed_1 (fun e3 => ?_)
  refine f_if_eq hC 20 dX1_isClosed_4 (by decide) (fun c4 => ?_) (fun c4 => ?_)
  · replace hF := fi_pos hF c4
    refine f_iconst (v := 0) hC dX1_isClosed_20 (by decide) ?_
    obtain rfl := Option.some.inj hF
    exact f_zret hC hEn (fSm.rf w) (nar_z (by decide)) dX1_isClosed_21
  · replace hF := fi_neg hF c4
    refine f_aload_n hC dX1_isClosed_7 rfl 0 rfl ?_
    obtain ⟨g5, hF⟩ := fg_open hF
    refine f_getR hC 1 4 104 rfl (by decide) iX1 q_277 rfl rfl (fSm.k (fSm.rf w) g5) dX1_isClosed_8 ?_
    refine f_iload_n hC dX1_isClosed_11 rfl 1 rfl ?_
    obtain ⟨g6, hF⟩ := fg_open hF
    obtain ⟨g7, hF⟩ := fg_open hF
    refine f_zald hC (fSm.k (fSm.rf w) g6) (fSm.v (fSm.rf w) g7) dX1_isClosed_12 ?_
    refine f_if_ne hC 20 dX1_isClosed_13 (by decide) (fun c8 => ?_) (fun c8 => ?_)
    · replace hF := fi_neg hF c8
      refine f_iconst (v := 0) hC dX1_isClosed_20 (by decide) ?_
      obtain rfl := Option.some.inj hF
      exact f_zret hC hEn (fSm.rf w) (nar_z (by decide)) dX1_isClosed_21
    · replace hF := fi_pos hF c8
      refine f_iconst (v := 1) hC dX1_isClosed_16 (by decide) ?_
      refine f_goto hC 21 dX1_isClosed_17 (by decide) ?_
      obtain rfl := Option.some.inj hF
      exact f_zret hC hEn (fSm.rf w) (nar_z (by decide)) dX1_isClosed_21
theorem dX4_letDayGoBy_0 : decode cX4_letDayGoBy 0 = .ok (.aload_n 0, 1) := by decide +kernel
theorem dX4_letDayGoBy_1 : decode cX4_letDayGoBy 1 = .ok (.getfield 12, 3) := by decide +kernel
theorem dX4_letDayGoBy_4 : decode cX4_letDayGoBy 4 = .ok (.dup, 1) := by decide +kernel
theorem dX4_letDayGoBy_5 : decode cX4_letDayGoBy 5 = .ok (.getfield 259, 3) := by decide +kernel
theorem dX4_letDayGoBy_8 : decode cX4_letDayGoBy 8 = .ok (.iconst 1, 1) := by decide +kernel
theorem dX4_letDayGoBy_9 : decode cX4_letDayGoBy 9 = .ok (.iadd, 1) := by decide +kernel
theorem dX4_letDayGoBy_10 : decode cX4_letDayGoBy 10 = .ok (.putfield 259, 3) := by decide +kernel
theorem dX4_letDayGoBy_13 : decode cX4_letDayGoBy 13 = .ok (.iconst 0, 1) := by decide +kernel
theorem dX4_letDayGoBy_14 : decode cX4_letDayGoBy 14 = .ok (.ireturn, 1) := by decide +kernel
theorem h9_X4_letDayGoBy : yX4_letDayGoBy.cls ≠ "java/lang/invoke/MethodHandle" ∧ yX4_letDayGoBy.cls ≠ "java/lang/invoke/VarHandle" ∧ (parseMethodDescriptor yX4_letDayGoBy.desc).map (fun d => d.parameters.length) = some 0 := by decide +kernel
noncomputable def F_X4_letDayGoBy (a0 : Nat) (w : FW) : Option (Int32 × FW) :=
  fg (w.1 a0 = 5) inferInstance (fg (w.1 (gR w 400 a0 0) = 2) inferInstance (some (0, (sI w 105 (gR w 400 a0 0) 0 ((gI w 105 (gR w 400 a0 0) 0) + 1)))))
set_option maxHeartbeats 4000000 in
set_option maxRecDepth 100000 in
theorem c_X4_letDayGoBy (l : Launch) (D : va_G) (cy : Nat → ClassId) (a0 : Nat) (w : FW) (r : Int32 × FW) (hF : F_X4_letDayGoBy a0 w = some r) : fSpec l D cy yX4_letDayGoBy cX4_letDayGoBy 1 (some .int) { frames := 0, cells := 0, slots := 0, locals := 0 } [.ref a0] w r.2 (some (.int r.1)) := by
  refine f_begin (by decide +kernel) (Nat.le_of_ble_eq_true rfl) (fun X hC hEn => ?_)
  unfold F_X4_letDayGoBy at hF
  show fAt X 0 0 1 w [(0, .ref a0)] [] 0
  refine f_aload_n hC dX4_letDayGoBy_0 rfl 0 rfl ?_
  obtain ⟨g1, hF⟩ := fg_open hF
  refine f_getR hC 4 0 400 rfl (by decide) iX4 q_313 rfl rfl (fSm.k (fSm.rf w) g1) dX4_letDayGoBy_1 ?_
  refine f_dup hC dX4_letDayGoBy_4 rfl ?_
  obtain ⟨g2, hF⟩ := fg_open hF
  refine f_getIN hC 1 5 105 rfl (by decide) iX1 q_280 rfl rfl (fSm.k (fSm.rf w) g2) dX4_letDayGoBy_5 ?_
  refine f_iconst (v := 1) hC dX4_letDayGoBy_8 (by decide) ?_
  refine f_iadd hC dX4_letDayGoBy_9 ?_
  refine f_putIN hC 1 5 105 rfl (by decide) iX1 tyX1 tyX1_ok nmX1 q_280 rfl rfl rfl rfl rfl (fSm.k (fSm.rf w) g2) dX4_letDayGoBy_10 ?_
  refine f_iconst (v := 0) hC dX4_letDayGoBy_13 (by decide) ?_
  obtain rfl := Option.some.inj hF
  exact f_iret hC hEn (fSm.rf w) dX4_letDayGoBy_14
theorem dX3_isSame_0 : decode cX3_isSame 0 = .ok (.aload_n 0, 1) := by decide +kernel
theorem dX3_isSame_1 : decode cX3_isSame 1 = .ok (.getfield 15, 3) := by decide +kernel
theorem dX3_isSame_4 : decode cX3_isSame 4 = .ok (.aload_n 1, 1) := by decide +kernel
theorem dX3_isSame_5 : decode cX3_isSame 5 = .ok (.getfield 15, 3) := by decide +kernel
theorem dX3_isSame_8 : decode cX3_isSame 8 = .ok (.if_icmp .eq 5, 3) := by decide +kernel
theorem dX3_isSame_11 : decode cX3_isSame 11 = .ok (.iconst 0, 1) := by decide +kernel
theorem dX3_isSame_12 : decode cX3_isSame 12 = .ok (.ireturn, 1) := by decide +kernel
theorem dX3_isSame_13 : decode cX3_isSame 13 = .ok (.iconst 0, 1) := by decide +kernel
theorem dX3_isSame_14 : decode cX3_isSame 14 = .ok (.istore_n 2, 1) := by decide +kernel
theorem dX3_isSame_15 : decode cX3_isSame 15 = .ok (.iload_n 2, 1) := by decide +kernel
theorem dX3_isSame_16 : decode cX3_isSame 16 = .ok (.aload_n 0, 1) := by decide +kernel
theorem dX3_isSame_17 : decode cX3_isSame 17 = .ok (.getfield 15, 3) := by decide +kernel
theorem dX3_isSame_20 : decode cX3_isSame 20 = .ok (.if_icmp .ge 24, 3) := by decide +kernel
theorem dX3_isSame_23 : decode cX3_isSame 23 = .ok (.aload_n 0, 1) := by decide +kernel
theorem dX3_isSame_24 : decode cX3_isSame 24 = .ok (.iload_n 2, 1) := by decide +kernel
theorem dX3_isSame_25 : decode cX3_isSame 25 = .ok (.invokevirtual 23, 3) := by decide +kernel
theorem dX3_isSame_28 : decode cX3_isSame 28 = .ok (.aload_n 1, 1) := by decide +kernel
theorem dX3_isSame_29 : decode cX3_isSame 29 = .ok (.iload_n 2, 1) := by decide +kernel
theorem dX3_isSame_30 : decode cX3_isSame 30 = .ok (.invokevirtual 23, 3) := by decide +kernel
theorem dX3_isSame_33 : decode cX3_isSame 33 = .ok (.if_icmp .eq 5, 3) := by decide +kernel
theorem dX3_isSame_36 : decode cX3_isSame 36 = .ok (.iconst 0, 1) := by decide +kernel
theorem dX3_isSame_37 : decode cX3_isSame 37 = .ok (.ireturn, 1) := by decide +kernel
theorem dX3_isSame_38 : decode cX3_isSame 38 = .ok (.iinc 2 1, 3) := by decide +kernel
theorem dX3_isSame_41 : decode cX3_isSame 41 = .ok (.goto (-26), 3) := by decide +kernel
theorem dX3_isSame_44 : decode cX3_isSame 44 = .ok (.iconst 1, 1) := by decide +kernel
theorem dX3_isSame_45 : decode cX3_isSame 45 = .ok (.ireturn, 1) := by decide +kernel
theorem h9_X3_isSame : yX3_isSame.cls ≠ "java/lang/invoke/MethodHandle" ∧ yX3_isSame.cls ≠ "java/lang/invoke/VarHandle" ∧ (parseMethodDescriptor yX3_isSame.desc).map (fun d => d.parameters.length) = some 1 := by decide +kernel
noncomputable def F_X3_isSame (a0 : Nat) (a1 : Nat) (w : FW) : Option (Int32) :=
  fg (w.1 a0 = 4) inferInstance (fg (w.1 a1 = 4) inferInstance ((if (gI w 301 a0 0) = (gI w 301 a1 0) then (fLoop (σ := Int32) (ρ := (Unit) ⊕ (Int32)) (fun s4 => (if (gI w 301 a0 0) ≤ s4 then some (.inr (.inl ())) else (F_X3_letterAt a0 s4 w).bind (fun r14 => (F_X3_letterAt a1 s4 w).bind (fun r17 => (if r14 = r17 then some (.inl (s4 + 1)) else some (.inr (.inr 0))))))) 0).bind (fun x10 => fse x10 (fun z21 => some 1) (fun q9 => some q9)) else some 0)))
set_option maxHeartbeats 4000000 in
set_option maxRecDepth 100000 in
theorem c_X3_isSame (l : Launch) (D : va_G) (cy : Nat → ClassId) (a0 : Nat) (a1 : Nat) (w : FW) (r : Int32) (hF : F_X3_isSame a0 a1 w = some r) : fSpec l D cy yX3_isSame cX3_isSame 3 (some .boolean) { frames := 2, cells := 0, slots := 0, locals := 42 } [.ref a0, .ref a1] w w (some (.int r)) := by
  refine f_begin (by decide +kernel) (Nat.le_of_ble_eq_true rfl) (fun X hC hEn => ?_)
  unfold F_X3_isSame at hF
  show fAt X 0 0 3 w [(0, .ref a0), (1, .ref a1)] [] 0
  refine f_aload_n hC dX3_isSame_0 rfl 0 rfl ?_
  obtain ⟨g1, hF⟩ := fg_open hF
  refine f_getI hC 3 1 301 rfl (by decide) iX3 q_175 rfl rfl (fSm.k (fSm.rf w) g1) dX3_isSame_1 ?_
  refine f_aload_n hC dX3_isSame_4 rfl 1 rfl ?_
  obtain ⟨g2, hF⟩ := fg_open hF
  refine f_getI hC 3 1 301 rfl (by decide) iX3 q_175 rfl rfl (fSm.k (fSm.rf w) g2) dX3_isSame_5 ?_
  refine f_icmp_eq hC 13 dX3_isSame_8 (by decide) (fun c3 => ?_) (fun c3 => ?_)
  · replace hF := fi_pos hF c3
    refine f_iconst (v := 0) hC dX3_isSame_13 (by decide) ?_
    refine f_istore_n (L' := [(2, .int 0), (0, .ref a0), (1, .ref a1)]) hC dX3_isSame_14 rfl (by decide) rfl ?_
    obtain ⟨x10, h11, hF⟩ := fb_open hF
    have K12 : ∀ z21, x10 = .inl z21 → fAt X 0 0 3 w [] [] 44 := by
      intro z21 hz9
      subst hz9
      refine f_iconst (v := 1) hC dX3_isSame_44 (by decide) ?_
      obtain rfl := Option.some.inj hF
      exact f_zret hC hEn (fSm.rf w) (nar_z (by decide)) dX3_isSame_45
    refine f_sub (L' := [(0, .ref a0), (1, .ref a1), (2, .int 0)]) [1, 2, 0] rfl ?_
    refine fLoop_ind (fun (s4 : Int32) => fAt X 0 0 3 w [(0, .ref a0), (1, .ref a1), (2, .int s4)] [] 15) (fun s4 y9 h5 go6 ou7 => ?_) h11
    refine f_iload_n hC dX3_isSame_15 rfl 2 rfl ?_
    refine f_aload_n hC dX3_isSame_16 rfl 0 rfl ?_
    refine f_getI hC 3 1 301 rfl (by decide) iX3 q_175 rfl rfl (fSm.k (fSm.rf w) g1) dX3_isSame_17 ?_
    refine f_icmp_ge hC 44 dX3_isSame_20 (by decide) (fun c13 => ?_) (fun c13 => ?_)
    · replace h5 := fi_pos h5 c13
      obtain rfl := Option.some.inj h5
      have eo := ou7 _ rfl
      refine f_sub (L' := []) [] rfl ?_
      exact K12 _ eo.symm
    · replace h5 := fi_neg h5 c13
      refine f_aload_n hC dX3_isSame_23 rfl 0 rfl ?_
      refine f_iload_n hC dX3_isSame_24 rfl 2 rfl ?_
      obtain ⟨r14, h15, h5⟩ := fb_open h5
      refine f_callV hC [.int s4] (c_X3_letterAt l D cy a0 s4 w r14 h15) q_523 q_133 q_520 q_522 q_12 h9_X3_letterAt rfl (fSm.k (fSm.rf w) g1) ⟨Nat.le_of_ble_eq_true rfl, Nat.le_of_ble_eq_true rfl⟩ ⟨Nat.le_of_ble_eq_true rfl, Nat.le_of_ble_eq_true rfl⟩ (Nat.le_of_ble_eq_true rfl) rfl dX3_isSame_25 (fun e16 => ?_)
      refine f_aload_n hC dX3_isSame_28 rfl 1 rfl ?_
      refine f_iload_n hC dX3_isSame_29 rfl 2 rfl ?_
      obtain ⟨r17, h18, h5⟩ := fb_open h5
      refine f_callV hC [.int s4] (c_X3_letterAt l D cy a1 s4 w r17 h18) q_523 q_133 q_520 q_522 q_12 h9_X3_letterAt rfl (fSm.k (fSm.rf w) g2) ⟨Nat.le_of_ble_eq_true rfl, Nat.le_of_ble_eq_true rfl⟩ ⟨Nat.le_of_ble_eq_true rfl, Nat.le_of_ble_eq_true rfl⟩ (Nat.le_of_ble_eq_true rfl) rfl dX3_isSame_30 (fun e19 => ?_)
      refine f_icmp_eq hC 38 dX3_isSame_33 (by decide) (fun c20 => ?_) (fun c20 => ?_)
      · replace h5 := fi_pos h5 c20
        refine f_iinc (L' := [(2, .int (s4 + 1)), (0, .ref a0), (1, .ref a1)]) hC dX3_isSame_38 2 rfl rfl (by decide) rfl ?_
        refine f_goto hC 15 dX3_isSame_41 (by decide) ?_
        obtain rfl := Option.some.inj h5
        refine f_sub (L' := [(0, .ref a0), (1, .ref a1), (2, .int (s4 + 1))]) [1, 2, 0] rfl ?_
        exact go6 _ rfl
      · replace h5 := fi_neg h5 c20
        refine f_iconst (v := 0) hC dX3_isSame_36 (by decide) ?_
        obtain rfl := Option.some.inj h5
        obtain rfl := ou7 _ rfl
        obtain rfl := Option.some.inj hF
        exact f_zret hC hEn (fSm.rf w) (nar_z (by decide)) dX3_isSame_37
  · replace hF := fi_neg hF c3
    refine f_iconst (v := 0) hC dX3_isSame_11 (by decide) ?_
    obtain rfl := Option.some.inj hF
    exact f_zret hC hEn (fSm.rf w) (nar_z (by decide)) dX3_isSame_12
theorem dX1_firstWith_0 : decode cX1_firstWith 0 = .ok (.iconst 0, 1) := by decide +kernel
theorem dX1_firstWith_1 : decode cX1_firstWith 1 = .ok (.istore_n 2, 1) := by decide +kernel
theorem dX1_firstWith_2 : decode cX1_firstWith 2 = .ok (.iload_n 2, 1) := by decide +kernel
theorem dX1_firstWith_3 : decode cX1_firstWith 3 = .ok (.aload_n 0, 1) := by decide +kernel
theorem dX1_firstWith_4 : decode cX1_firstWith 4 = .ok (.getfield 17, 3) := by decide +kernel
theorem dX1_firstWith_7 : decode cX1_firstWith 7 = .ok (.if_icmp .ge 27, 3) := by decide +kernel
theorem dX1_firstWith_10 : decode cX1_firstWith 10 = .ok (.aload_n 0, 1) := by decide +kernel
theorem dX1_firstWith_11 : decode cX1_firstWith 11 = .ok (.getfield 11, 3) := by decide +kernel
theorem dX1_firstWith_14 : decode cX1_firstWith 14 = .ok (.iload_n 2, 1) := by decide +kernel
theorem dX1_firstWith_15 : decode cX1_firstWith 15 = .ok (.aaload, 1) := by decide +kernel
theorem dX1_firstWith_16 : decode cX1_firstWith 16 = .ok (.getfield 88, 3) := by decide +kernel
theorem dX1_firstWith_19 : decode cX1_firstWith 19 = .ok (.aload_n 1, 1) := by decide +kernel
theorem dX1_firstWith_20 : decode cX1_firstWith 20 = .ok (.invokevirtual 99, 3) := by decide +kernel
theorem dX1_firstWith_23 : decode cX1_firstWith 23 = .ok (.ifCond .eq 5, 3) := by decide +kernel
theorem dX1_firstWith_26 : decode cX1_firstWith 26 = .ok (.iload_n 2, 1) := by decide +kernel
theorem dX1_firstWith_27 : decode cX1_firstWith 27 = .ok (.ireturn, 1) := by decide +kernel
theorem dX1_firstWith_28 : decode cX1_firstWith 28 = .ok (.iinc 2 1, 3) := by decide +kernel
theorem dX1_firstWith_31 : decode cX1_firstWith 31 = .ok (.goto (-29), 3) := by decide +kernel
theorem dX1_firstWith_34 : decode cX1_firstWith 34 = .ok (.iconst (-1), 1) := by decide +kernel
theorem dX1_firstWith_35 : decode cX1_firstWith 35 = .ok (.ireturn, 1) := by decide +kernel
theorem h9_X1_firstWith : yX1_firstWith.cls ≠ "java/lang/invoke/MethodHandle" ∧ yX1_firstWith.cls ≠ "java/lang/invoke/VarHandle" ∧ (parseMethodDescriptor yX1_firstWith.desc).map (fun d => d.parameters.length) = some 1 := by decide +kernel
noncomputable def F_X1_firstWith (a0 : Nat) (a1 : Nat) (w : FW) : Option (Int32) :=
  (fLoop (σ := Int32) (ρ := (Unit) ⊕ (Int32)) (fun s1 => fg (w.1 a0 = 2) inferInstance ((if (gI w 101 a0 0) ≤ s1 then some (.inr (.inl ())) else fg (w.1 (gR w 100 a0 0) = 14) inferInstance (fg (¬ (s1 < 0 ∨ w.2.1 (gR w 100 a0 0) ≤ Int32.toNatClampNeg s1)) inferInstance (fg (w.1 (gR w 604 (gR w 100 a0 0) (Int32.toNatClampNeg s1)) = 3) inferInstance (fg (w.1 (gR w 200 (gR w 604 (gR w 100 a0 0) (Int32.toNatClampNeg s1)) 0) = 4) inferInstance ((F_X3_isSame (gR w 200 (gR w 604 (gR w 100 a0 0) (Int32.toNatClampNeg s1)) 0) a1 w).bind (fun r15 => (if r15 = 0 then some (.inl (s1 + 1)) else some (.inr (.inr s1))))))))))) 0).bind (fun x7 => fse x7 (fun z20 => some (-1)) (fun q9 => some q9))
set_option maxHeartbeats 4000000 in
set_option maxRecDepth 100000 in
theorem c_X1_firstWith (l : Launch) (D : va_G) (cy : Nat → ClassId) (a0 : Nat) (a1 : Nat) (w : FW) (r : Int32) (hF : F_X1_firstWith a0 a1 w = some r) : fSpec l D cy yX1_firstWith cX1_firstWith 3 (some .int) { frames := 3, cells := 0, slots := 0, locals := 64 } [.ref a0, .ref a1] w w (some (.int r)) := by
  refine f_begin (by decide +kernel) (Nat.le_of_ble_eq_true rfl) (fun X hC hEn => ?_)
  unfold F_X1_firstWith at hF
  show fAt X 0 0 3 w [(0, .ref a0), (1, .ref a1)] [] 0
  refine f_iconst (v := 0) hC dX1_firstWith_0 (by decide) ?_
  refine f_istore_n (L' := [(2, .int 0), (0, .ref a0), (1, .ref a1)]) hC dX1_firstWith_1 rfl (by decide) rfl ?_
  obtain ⟨x7, h8, hF⟩ := fb_open hF
  have K9 : ∀ z20, x7 = .inl z20 → fAt X 0 0 3 w [] [] 34 := by
    intro z20 hz9
    subst hz9
    refine f_iconst (v := (-1)) hC dX1_firstWith_34 (by decide) ?_
    obtain rfl := Option.some.inj hF
    exact f_iret hC hEn (fSm.rf w) dX1_firstWith_35
  refine f_sub (L' := [(0, .ref a0), (1, .ref a1), (2, .int 0)]) [1, 2, 0] rfl ?_
  refine fLoop_ind (fun (s1 : Int32) => fAt X 0 0 3 w [(0, .ref a0), (1, .ref a1), (2, .int s1)] [] 2) (fun s1 y6 h2 go3 ou4 => ?_) h8
  refine f_iload_n hC dX1_firstWith_2 rfl 2 rfl ?_
  refine f_aload_n hC dX1_firstWith_3 rfl 0 rfl ?_
  obtain ⟨g10, h2⟩ := fg_open h2
  refine f_getI hC 1 1 101 rfl (by decide) iX1 q_271 rfl rfl (fSm.k (fSm.rf w) g10) dX1_firstWith_4 ?_
  refine f_icmp_ge hC 34 dX1_firstWith_7 (by decide) (fun c11 => ?_) (fun c11 => ?_)
  · replace h2 := fi_pos h2 c11
    obtain rfl := Option.some.inj h2
    have eo := ou4 _ rfl
    refine f_sub (L' := []) [] rfl ?_
    exact K9 _ eo.symm
  · replace h2 := fi_neg h2 c11
    refine f_aload_n hC dX1_firstWith_10 rfl 0 rfl ?_
    refine f_getR hC 1 0 100 rfl (by decide) iX1 q_269 rfl rfl (fSm.k (fSm.rf w) g10) dX1_firstWith_11 ?_
    refine f_iload_n hC dX1_firstWith_14 rfl 2 rfl ?_
    obtain ⟨g12, h2⟩ := fg_open h2
    obtain ⟨g13, h2⟩ := fg_open h2
    refine f_aald1 hC (fSm.k (fSm.rf w) g12) (fSm.v (fSm.rf w) g13) dX1_firstWith_15 ?_
    obtain ⟨g14, h2⟩ := fg_open h2
    refine f_getRN hC 2 0 200 rfl (by decide) iX2 q_230 rfl rfl (fSm.k (fSm.rf w) g14) dX1_firstWith_16 ?_
    refine f_aload_n hC dX1_firstWith_19 rfl 1 rfl ?_
    obtain ⟨g17, h2⟩ := fg_open h2
    obtain ⟨r15, h16, h2⟩ := fb_open h2
    refine f_callVN hC [.ref a1] (c_X3_isSame l D cy (gR w 200 (gR w 604 (gR w 100 a0 0) (Int32.toNatClampNeg s1)) 0) a1 w r15 h16) q_519 q_133 q_516 q_518 q_11 h9_X3_isSame rfl (fSm.k (fSm.rf w) g17) ⟨Nat.le_of_ble_eq_true rfl, Nat.le_of_ble_eq_true rfl⟩ ⟨Nat.le_of_ble_eq_true rfl, Nat.le_of_ble_eq_true rfl⟩ (Nat.le_of_ble_eq_true rfl) rfl dX1_firstWith_20 (fun e18 => ?_)
    refine f_if_eq hC 28 dX1_firstWith_23 (by decide) (fun c19 => ?_) (fun c19 => ?_)
    · replace h2 := fi_pos h2 c19
      refine f_iinc (L' := [(2, .int (s1 + 1)), (0, .ref a0), (1, .ref a1)]) hC dX1_firstWith_28 2 rfl rfl (by decide) rfl ?_
      refine f_goto hC 2 dX1_firstWith_31 (by decide) ?_
      obtain rfl := Option.some.inj h2
      refine f_sub (L' := [(0, .ref a0), (1, .ref a1), (2, .int (s1 + 1))]) [1, 2, 0] rfl ?_
      exact go3 _ rfl
    · replace h2 := fi_neg h2 c19
      refine f_iload_n hC dX1_firstWith_26 rfl 2 rfl ?_
      obtain rfl := Option.some.inj h2
      obtain rfl := ou4 _ rfl
      obtain rfl := Option.some.inj hF
      exact f_iret hC hEn (fSm.rf w) dX1_firstWith_27
theorem dX4_words_0 : decode cX4_words 0 = .ok (.iconst 0, 1) := by decide +kernel
theorem dX4_words_1 : decode cX4_words 1 = .ok (.istore_n 1, 1) := by decide +kernel
theorem dX4_words_2 : decode cX4_words 2 = .ok (.iconst 0, 1) := by decide +kernel
theorem dX4_words_3 : decode cX4_words 3 = .ok (.istore_n 2, 1) := by decide +kernel
theorem dX4_words_4 : decode cX4_words 4 = .ok (.iload_n 2, 1) := by decide +kernel
theorem dX4_words_5 : decode cX4_words 5 = .ok (.aload_n 0, 1) := by decide +kernel
theorem dX4_words_6 : decode cX4_words 6 = .ok (.getfield 12, 3) := by decide +kernel
theorem dX4_words_9 : decode cX4_words 9 = .ok (.getfield 66, 3) := by decide +kernel
theorem dX4_words_12 : decode cX4_words 12 = .ok (.if_icmp .ge 35, 3) := by decide +kernel
theorem dX4_words_15 : decode cX4_words 15 = .ok (.aload_n 0, 1) := by decide +kernel
theorem dX4_words_16 : decode cX4_words 16 = .ok (.getfield 12, 3) := by decide +kernel
theorem dX4_words_19 : decode cX4_words 19 = .ok (.aload_n 0, 1) := by decide +kernel
theorem dX4_words_20 : decode cX4_words 20 = .ok (.getfield 12, 3) := by decide +kernel
theorem dX4_words_23 : decode cX4_words 23 = .ok (.getfield 235, 3) := by decide +kernel
theorem dX4_words_26 : decode cX4_words 26 = .ok (.iload_n 2, 1) := by decide +kernel
theorem dX4_words_27 : decode cX4_words 27 = .ok (.aaload, 1) := by decide +kernel
theorem dX4_words_28 : decode cX4_words 28 = .ok (.getfield 119, 3) := by decide +kernel
theorem dX4_words_31 : decode cX4_words 31 = .ok (.invokevirtual 273, 3) := by decide +kernel
theorem dX4_words_34 : decode cX4_words 34 = .ok (.iload_n 2, 1) := by decide +kernel
theorem dX4_words_35 : decode cX4_words 35 = .ok (.if_icmp .ne 6, 3) := by decide +kernel
theorem dX4_words_38 : decode cX4_words 38 = .ok (.iinc 1 1, 3) := by decide +kernel
theorem dX4_words_41 : decode cX4_words 41 = .ok (.iinc 2 1, 3) := by decide +kernel
theorem dX4_words_44 : decode cX4_words 44 = .ok (.goto (-40), 3) := by decide +kernel
theorem dX4_words_47 : decode cX4_words 47 = .ok (.iload_n 1, 1) := by decide +kernel
theorem dX4_words_48 : decode cX4_words 48 = .ok (.ireturn, 1) := by decide +kernel
theorem h9_X4_words : yX4_words.cls ≠ "java/lang/invoke/MethodHandle" ∧ yX4_words.cls ≠ "java/lang/invoke/VarHandle" ∧ (parseMethodDescriptor yX4_words.desc).map (fun d => d.parameters.length) = some 0 := by decide +kernel
noncomputable def F_X4_words (a0 : Nat) (w : FW) : Option (Int32) :=
  (fLoop (σ := Int32 × Int32) (ρ := Int32) (fun s1 => fg (w.1 a0 = 5) inferInstance (fg (w.1 (gR w 400 a0 0) = 2) inferInstance ((if (gI w 101 (gR w 400 a0 0) 0) ≤ s1.2 then some (.inr s1.1) else fg (w.1 (gR w 100 (gR w 400 a0 0) 0) = 14) inferInstance (fg (¬ (s1.2 < 0 ∨ w.2.1 (gR w 100 (gR w 400 a0 0) 0) ≤ Int32.toNatClampNeg s1.2)) inferInstance (fg (w.1 (gR w 604 (gR w 100 (gR w 400 a0 0) 0) (Int32.toNatClampNeg s1.2)) = 3) inferInstance ((F_X1_firstWith (gR w 400 a0 0) (gR w 200 (gR w 604 (gR w 100 (gR w 400 a0 0) 0) (Int32.toNatClampNeg s1.2)) 0) w).bind (fun r16 => (if r16 = s1.2 then some (.inl ((s1.1 + 1), (s1.2 + 1))) else some (.inl (s1.1, (s1.2 + 1)))))))))))) (0, 0)).bind (fun x7 => some x7)
set_option maxHeartbeats 4000000 in
set_option maxRecDepth 100000 in
theorem c_X4_words (l : Launch) (D : va_G) (cy : Nat → ClassId) (a0 : Nat) (w : FW) (r : Int32) (hF : F_X4_words a0 w = some r) : fSpec l D cy yX4_words cX4_words 3 (some .int) { frames := 4, cells := 0, slots := 0, locals := 86 } [.ref a0] w w (some (.int r)) := by
  refine f_begin (by decide +kernel) (Nat.le_of_ble_eq_true rfl) (fun X hC hEn => ?_)
  unfold F_X4_words at hF
  show fAt X 0 0 3 w [(0, .ref a0)] [] 0
  refine f_iconst (v := 0) hC dX4_words_0 (by decide) ?_
  refine f_istore_n (L' := [(1, .int 0), (0, .ref a0)]) hC dX4_words_1 rfl (by decide) rfl ?_
  refine f_iconst (v := 0) hC dX4_words_2 (by decide) ?_
  refine f_istore_n (L' := [(2, .int 0), (1, .int 0), (0, .ref a0)]) hC dX4_words_3 rfl (by decide) rfl ?_
  obtain ⟨x7, h8, hF⟩ := fb_open hF
  have K9 : fAt X 0 0 3 w [(1, .int x7)] [] 47 := by
    refine f_iload_n hC dX4_words_47 rfl 0 rfl ?_
    obtain rfl := Option.some.inj hF
    exact f_iret hC hEn (fSm.rf w) dX4_words_48
  refine f_sub (L' := [(0, .ref a0), (1, .int 0), (2, .int 0)]) [2, 1, 0] rfl ?_
  refine fLoop_ind (fun (s1 : Int32 × Int32) => fAt X 0 0 3 w [(0, .ref a0), (1, .int s1.1), (2, .int s1.2)] [] 4) (fun s1 y6 h2 go3 ou4 => ?_) h8
  refine f_iload_n hC dX4_words_4 rfl 2 rfl ?_
  refine f_aload_n hC dX4_words_5 rfl 0 rfl ?_
  obtain ⟨g10, h2⟩ := fg_open h2
  refine f_getR hC 4 0 400 rfl (by decide) iX4 q_313 rfl rfl (fSm.k (fSm.rf w) g10) dX4_words_6 ?_
  obtain ⟨g11, h2⟩ := fg_open h2
  refine f_getIN hC 1 1 101 rfl (by decide) iX1 q_272 rfl rfl (fSm.k (fSm.rf w) g11) dX4_words_9 ?_
  refine f_icmp_ge hC 47 dX4_words_12 (by decide) (fun c12 => ?_) (fun c12 => ?_)
  · replace h2 := fi_pos h2 c12
    obtain rfl := Option.some.inj h2
    obtain rfl := ou4 _ rfl
    refine f_sub (L' := [(1, .int s1.1)]) [1] rfl ?_
    exact K9
  · replace h2 := fi_neg h2 c12
    refine f_aload_n hC dX4_words_15 rfl 0 rfl ?_
    refine f_getR hC 4 0 400 rfl (by decide) iX4 q_313 rfl rfl (fSm.k (fSm.rf w) g10) dX4_words_16 ?_
    refine f_aload_n hC dX4_words_19 rfl 0 rfl ?_
    refine f_getR hC 4 0 400 rfl (by decide) iX4 q_313 rfl rfl (fSm.k (fSm.rf w) g10) dX4_words_20 ?_
    refine f_getRN hC 1 0 100 rfl (by decide) iX1 q_270 rfl rfl (fSm.k (fSm.rf w) g11) dX4_words_23 ?_
    refine f_iload_n hC dX4_words_26 rfl 2 rfl ?_
    obtain ⟨g13, h2⟩ := fg_open h2
    obtain ⟨g14, h2⟩ := fg_open h2
    refine f_aald1 hC (fSm.k (fSm.rf w) g13) (fSm.v (fSm.rf w) g14) dX4_words_27 ?_
    obtain ⟨g15, h2⟩ := fg_open h2
    refine f_getRN hC 2 0 200 rfl (by decide) iX2 q_229 rfl rfl (fSm.k (fSm.rf w) g15) dX4_words_28 ?_
    obtain ⟨r16, h17, h2⟩ := fb_open h2
    refine f_callVN hC [.ref (gR w 200 (gR w 604 (gR w 100 (gR w 400 a0 0) 0) (Int32.toNatClampNeg s1.2)) 0)] (c_X1_firstWith l D cy (gR w 400 a0 0) (gR w 200 (gR w 604 (gR w 100 (gR w 400 a0 0) 0) (Int32.toNatClampNeg s1.2)) 0) w r16 h17) q_515 q_132 q_512 q_514 q_10 h9_X1_firstWith rfl (fSm.k (fSm.rf w) g11) ⟨Nat.le_of_ble_eq_true rfl, Nat.le_of_ble_eq_true rfl⟩ ⟨Nat.le_of_ble_eq_true rfl, Nat.le_of_ble_eq_true rfl⟩ (Nat.le_of_ble_eq_true rfl) rfl dX4_words_31 (fun e18 => ?_)
    refine f_iload_n hC dX4_words_34 rfl 2 rfl ?_
    refine f_icmp_ne hC 41 dX4_words_35 (by decide) (fun c19 => ?_) (fun c19 => ?_)
    · replace h2 := fi_neg h2 c19
      refine f_iinc (L' := [(2, .int (s1.2 + 1)), (0, .ref a0), (1, .int s1.1)]) hC dX4_words_41 2 rfl rfl (by decide) rfl ?_
      refine f_goto hC 4 dX4_words_44 (by decide) ?_
      obtain rfl := Option.some.inj h2
      refine f_sub (L' := [(0, .ref a0), (1, .int s1.1), (2, .int (s1.2 + 1))]) [1, 2, 0] rfl ?_
      exact go3 _ rfl
    · replace h2 := fi_pos h2 c19
      refine f_iinc (L' := [(1, .int (s1.1 + 1)), (0, .ref a0), (2, .int s1.2)]) hC dX4_words_38 1 rfl rfl (by decide) rfl ?_
      refine f_iinc (L' := [(2, .int (s1.2 + 1)), (1, .int (s1.1 + 1)), (0, .ref a0)]) hC dX4_words_41 2 rfl rfl (by decide) rfl ?_
      refine f_goto hC 4 dX4_words_44 (by decide) ?_
      obtain rfl := Option.some.inj h2
      refine f_sub (L' := [(0, .ref a0), (1, .int (s1.1 + 1)), (2, .int (s1.2 + 1))]) [2, 1, 0] rfl ?_
      exact go3 _ rfl
theorem dX3_countOf_0 : decode cX3_countOf 0 = .ok (.iconst 0, 1) := by decide +kernel
theorem dX3_countOf_1 : decode cX3_countOf 1 = .ok (.istore_n 2, 1) := by decide +kernel
theorem dX3_countOf_2 : decode cX3_countOf 2 = .ok (.iconst 0, 1) := by decide +kernel
theorem dX3_countOf_3 : decode cX3_countOf 3 = .ok (.istore_n 3, 1) := by decide +kernel
theorem dX3_countOf_4 : decode cX3_countOf 4 = .ok (.iload_n 3, 1) := by decide +kernel
theorem dX3_countOf_5 : decode cX3_countOf 5 = .ok (.aload_n 0, 1) := by decide +kernel
theorem dX3_countOf_6 : decode cX3_countOf 6 = .ok (.getfield 15, 3) := by decide +kernel
theorem dX3_countOf_9 : decode cX3_countOf 9 = .ok (.if_icmp .ge 21, 3) := by decide +kernel
theorem dX3_countOf_12 : decode cX3_countOf 12 = .ok (.aload_n 0, 1) := by decide +kernel
theorem dX3_countOf_13 : decode cX3_countOf 13 = .ok (.iload_n 3, 1) := by decide +kernel
theorem dX3_countOf_14 : decode cX3_countOf 14 = .ok (.invokevirtual 23, 3) := by decide +kernel
theorem dX3_countOf_17 : decode cX3_countOf 17 = .ok (.iload_n 1, 1) := by decide +kernel
theorem dX3_countOf_18 : decode cX3_countOf 18 = .ok (.if_icmp .ne 6, 3) := by decide +kernel
theorem dX3_countOf_21 : decode cX3_countOf 21 = .ok (.iinc 2 1, 3) := by decide +kernel
theorem dX3_countOf_24 : decode cX3_countOf 24 = .ok (.iinc 3 1, 3) := by decide +kernel
theorem dX3_countOf_27 : decode cX3_countOf 27 = .ok (.goto (-23), 3) := by decide +kernel
theorem dX3_countOf_30 : decode cX3_countOf 30 = .ok (.iload_n 2, 1) := by decide +kernel
theorem dX3_countOf_31 : decode cX3_countOf 31 = .ok (.ireturn, 1) := by decide +kernel
theorem h9_X3_countOf : yX3_countOf.cls ≠ "java/lang/invoke/MethodHandle" ∧ yX3_countOf.cls ≠ "java/lang/invoke/VarHandle" ∧ (parseMethodDescriptor yX3_countOf.desc).map (fun d => d.parameters.length) = some 1 := by decide +kernel
noncomputable def F_X3_countOf (a0 : Nat) (x1 : Int32) (w : FW) : Option (Int32) :=
  (fLoop (σ := Int32 × Int32) (ρ := Int32) (fun s1 => fg (w.1 a0 = 4) inferInstance ((if (gI w 301 a0 0) ≤ s1.2 then some (.inr s1.1) else (F_X3_letterAt a0 s1.2 w).bind (fun r12 => (if r12 = x1 then some (.inl ((s1.1 + 1), (s1.2 + 1))) else some (.inl (s1.1, (s1.2 + 1)))))))) (0, 0)).bind (fun x7 => some x7)
set_option maxHeartbeats 4000000 in
set_option maxRecDepth 100000 in
theorem c_X3_countOf (l : Launch) (D : va_G) (cy : Nat → ClassId) (a0 : Nat) (x1 : Int32) (w : FW) (r : Int32) (hF : F_X3_countOf a0 x1 w = some r) : fSpec l D cy yX3_countOf cX3_countOf 4 (some .int) { frames := 2, cells := 0, slots := 0, locals := 42 } [.ref a0, .int x1] w w (some (.int r)) := by
  refine f_begin (by decide +kernel) (Nat.le_of_ble_eq_true rfl) (fun X hC hEn => ?_)
  unfold F_X3_countOf at hF
  show fAt X 0 0 4 w [(0, .ref a0), (1, .int x1)] [] 0
  refine f_iconst (v := 0) hC dX3_countOf_0 (by decide) ?_
  refine f_istore_n (L' := [(2, .int 0), (0, .ref a0), (1, .int x1)]) hC dX3_countOf_1 rfl (by decide) rfl ?_
  refine f_iconst (v := 0) hC dX3_countOf_2 (by decide) ?_
  refine f_istore_n (L' := [(3, .int 0), (2, .int 0), (0, .ref a0), (1, .int x1)]) hC dX3_countOf_3 rfl (by decide) rfl ?_
  obtain ⟨x7, h8, hF⟩ := fb_open hF
  have K9 : fAt X 0 0 4 w [(2, .int x7)] [] 30 := by
    refine f_iload_n hC dX3_countOf_30 rfl 0 rfl ?_
    obtain rfl := Option.some.inj hF
    exact f_iret hC hEn (fSm.rf w) dX3_countOf_31
  refine f_sub (L' := [(0, .ref a0), (1, .int x1), (2, .int 0), (3, .int 0)]) [2, 3, 1, 0] rfl ?_
  refine fLoop_ind (fun (s1 : Int32 × Int32) => fAt X 0 0 4 w [(0, .ref a0), (1, .int x1), (2, .int s1.1), (3, .int s1.2)] [] 4) (fun s1 y6 h2 go3 ou4 => ?_) h8
  refine f_iload_n hC dX3_countOf_4 rfl 3 rfl ?_
  refine f_aload_n hC dX3_countOf_5 rfl 0 rfl ?_
  obtain ⟨g10, h2⟩ := fg_open h2
  refine f_getI hC 3 1 301 rfl (by decide) iX3 q_175 rfl rfl (fSm.k (fSm.rf w) g10) dX3_countOf_6 ?_
  refine f_icmp_ge hC 30 dX3_countOf_9 (by decide) (fun c11 => ?_) (fun c11 => ?_)
  · replace h2 := fi_pos h2 c11
    obtain rfl := Option.some.inj h2
    obtain rfl := ou4 _ rfl
    refine f_sub (L' := [(2, .int s1.1)]) [2] rfl ?_
    exact K9
  · replace h2 := fi_neg h2 c11
    refine f_aload_n hC dX3_countOf_12 rfl 0 rfl ?_
    refine f_iload_n hC dX3_countOf_13 rfl 3 rfl ?_
    obtain ⟨r12, h13, h2⟩ := fb_open h2
    refine f_callV hC [.int s1.2] (c_X3_letterAt l D cy a0 s1.2 w r12 h13) q_523 q_133 q_520 q_522 q_12 h9_X3_letterAt rfl (fSm.k (fSm.rf w) g10) ⟨Nat.le_of_ble_eq_true rfl, Nat.le_of_ble_eq_true rfl⟩ ⟨Nat.le_of_ble_eq_true rfl, Nat.le_of_ble_eq_true rfl⟩ (Nat.le_of_ble_eq_true rfl) rfl dX3_countOf_14 (fun e14 => ?_)
    refine f_iload_n hC dX3_countOf_17 rfl 1 rfl ?_
    refine f_icmp_ne hC 24 dX3_countOf_18 (by decide) (fun c15 => ?_) (fun c15 => ?_)
    · replace h2 := fi_neg h2 c15
      refine f_iinc (L' := [(3, .int (s1.2 + 1)), (0, .ref a0), (1, .int x1), (2, .int s1.1)]) hC dX3_countOf_24 3 rfl rfl (by decide) rfl ?_
      refine f_goto hC 4 dX3_countOf_27 (by decide) ?_
      obtain rfl := Option.some.inj h2
      refine f_sub (L' := [(0, .ref a0), (1, .int x1), (2, .int s1.1), (3, .int (s1.2 + 1))]) [1, 2, 3, 0] rfl ?_
      exact go3 _ rfl
    · replace h2 := fi_pos h2 c15
      refine f_iinc (L' := [(2, .int (s1.1 + 1)), (0, .ref a0), (1, .int x1), (3, .int s1.2)]) hC dX3_countOf_21 2 rfl rfl (by decide) rfl ?_
      refine f_iinc (L' := [(3, .int (s1.2 + 1)), (2, .int (s1.1 + 1)), (0, .ref a0), (1, .int x1)]) hC dX3_countOf_24 3 rfl rfl (by decide) rfl ?_
      refine f_goto hC 4 dX3_countOf_27 (by decide) ?_
      obtain rfl := Option.some.inj h2
      refine f_sub (L' := [(0, .ref a0), (1, .int x1), (2, .int (s1.1 + 1)), (3, .int (s1.2 + 1))]) [2, 3, 1, 0] rfl ?_
      exact go3 _ rfl
theorem dX2_wetness_0 : decode cX2_wetness 0 = .ok (.aload_n 0, 1) := by decide +kernel
theorem dX2_wetness_1 : decode cX2_wetness 1 = .ok (.getfield 38, 3) := by decide +kernel
theorem dX2_wetness_4 : decode cX2_wetness 4 = .ok (.getfield 63, 3) := by decide +kernel
theorem dX2_wetness_7 : decode cX2_wetness 7 = .ok (.aload_n 0, 1) := by decide +kernel
theorem dX2_wetness_8 : decode cX2_wetness 8 = .ok (.getfield 42, 3) := by decide +kernel
theorem dX2_wetness_11 : decode cX2_wetness 11 = .ok (.getfield 63, 3) := by decide +kernel
theorem dX2_wetness_14 : decode cX2_wetness 14 = .ok (.iadd, 1) := by decide +kernel
theorem dX2_wetness_15 : decode cX2_wetness 15 = .ok (.ireturn, 1) := by decide +kernel
theorem h9_X2_wetness : yX2_wetness.cls ≠ "java/lang/invoke/MethodHandle" ∧ yX2_wetness.cls ≠ "java/lang/invoke/VarHandle" ∧ (parseMethodDescriptor yX2_wetness.desc).map (fun d => d.parameters.length) = some 0 := by decide +kernel
noncomputable def F_X2_wetness (a0 : Nat) (w : FW) : Option (Int32) :=
  fg (w.1 a0 = 3) inferInstance (fg (w.1 (gR w 206 a0 0) = 1) inferInstance (fg (w.1 (gR w 207 a0 0) = 1) inferInstance (some ((gI w 2 (gR w 206 a0 0) 0) + (gI w 2 (gR w 207 a0 0) 0)))))
set_option maxHeartbeats 4000000 in
set_option maxRecDepth 100000 in
theorem c_X2_wetness (l : Launch) (D : va_G) (cy : Nat → ClassId) (a0 : Nat) (w : FW) (r : Int32) (hF : F_X2_wetness a0 w = some r) : fSpec l D cy yX2_wetness cX2_wetness 1 (some .int) { frames := 0, cells := 0, slots := 0, locals := 0 } [.ref a0] w w (some (.int r)) := by
  refine f_begin (by decide +kernel) (Nat.le_of_ble_eq_true rfl) (fun X hC hEn => ?_)
  unfold F_X2_wetness at hF
  show fAt X 0 0 1 w [(0, .ref a0)] [] 0
  refine f_aload_n hC dX2_wetness_0 rfl 0 rfl ?_
  obtain ⟨g1, hF⟩ := fg_open hF
  refine f_getR hC 2 6 206 rfl (by decide) iX2 q_246 rfl rfl (fSm.k (fSm.rf w) g1) dX2_wetness_1 ?_
  obtain ⟨g2, hF⟩ := fg_open hF
  refine f_getIN hC 0 2 2 rfl (by decide) iX0 q_207 rfl rfl (fSm.k (fSm.rf w) g2) dX2_wetness_4 ?_
  refine f_aload_n hC dX2_wetness_7 rfl 0 rfl ?_
  refine f_getR hC 2 7 207 rfl (by decide) iX2 q_249 rfl rfl (fSm.k (fSm.rf w) g1) dX2_wetness_8 ?_
  obtain ⟨g3, hF⟩ := fg_open hF
  refine f_getIN hC 0 2 2 rfl (by decide) iX0 q_207 rfl rfl (fSm.k (fSm.rf w) g3) dX2_wetness_11 ?_
  refine f_iadd hC dX2_wetness_14 ?_
  obtain rfl := Option.some.inj hF
  exact f_iret hC hEn (fSm.rf w) dX2_wetness_15
