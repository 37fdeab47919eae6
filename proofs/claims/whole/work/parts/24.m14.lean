theorem dX5_measureOf_0 : decode cX5_measureOf 0 = .ok (.iload_n 2, 1) := by decide +kernel
theorem dX5_measureOf_1 : decode cX5_measureOf 1 = .ok (.ifCond .ne 21, 3) := by decide +kernel
theorem dX5_measureOf_4 : decode cX5_measureOf 4 = .ok (.aload_n 0, 1) := by decide +kernel
theorem dX5_measureOf_5 : decode cX5_measureOf 5 = .ok (.iload_n 1, 1) := by decide +kernel
theorem dX5_measureOf_6 : decode cX5_measureOf 6 = .ok (.iconst 0, 1) := by decide +kernel
theorem dX5_measureOf_7 : decode cX5_measureOf 7 = .ok (.iconst 1, 1) := by decide +kernel
theorem dX5_measureOf_8 : decode cX5_measureOf 8 = .ok (.invokevirtual 78, 3) := by decide +kernel
theorem dX5_measureOf_11 : decode cX5_measureOf 11 = .ok (.aload_n 0, 1) := by decide +kernel
theorem dX5_measureOf_12 : decode cX5_measureOf 12 = .ok (.iload_n 1, 1) := by decide +kernel
theorem dX5_measureOf_13 : decode cX5_measureOf 13 = .ok (.iconst 1, 1) := by decide +kernel
theorem dX5_measureOf_14 : decode cX5_measureOf 14 = .ok (.iconst 1, 1) := by decide +kernel
theorem dX5_measureOf_15 : decode cX5_measureOf 15 = .ok (.invokevirtual 78, 3) := by decide +kernel
theorem dX5_measureOf_18 : decode cX5_measureOf 18 = .ok (.iadd, 1) := by decide +kernel
theorem dX5_measureOf_19 : decode cX5_measureOf 19 = .ok (.goto 30, 3) := by decide +kernel
theorem dX5_measureOf_22 : decode cX5_measureOf 22 = .ok (.iload_n 2, 1) := by decide +kernel
theorem dX5_measureOf_23 : decode cX5_measureOf 23 = .ok (.iconst 1, 1) := by decide +kernel
theorem dX5_measureOf_24 : decode cX5_measureOf 24 = .ok (.if_icmp .ne 19, 3) := by decide +kernel
theorem dX5_measureOf_27 : decode cX5_measureOf 27 = .ok (.aload_n 0, 1) := by decide +kernel
theorem dX5_measureOf_28 : decode cX5_measureOf 28 = .ok (.iload_n 1, 1) := by decide +kernel
theorem dX5_measureOf_29 : decode cX5_measureOf 29 = .ok (.iconst 0, 1) := by decide +kernel
theorem dX5_measureOf_30 : decode cX5_measureOf 30 = .ok (.invokevirtual 210, 3) := by decide +kernel
theorem dX5_measureOf_33 : decode cX5_measureOf 33 = .ok (.aload_n 0, 1) := by decide +kernel
theorem dX5_measureOf_34 : decode cX5_measureOf 34 = .ok (.iload_n 1, 1) := by decide +kernel
theorem dX5_measureOf_35 : decode cX5_measureOf 35 = .ok (.iconst 1, 1) := by decide +kernel
theorem dX5_measureOf_36 : decode cX5_measureOf 36 = .ok (.invokevirtual 210, 3) := by decide +kernel
theorem dX5_measureOf_39 : decode cX5_measureOf 39 = .ok (.iadd, 1) := by decide +kernel
theorem dX5_measureOf_40 : decode cX5_measureOf 40 = .ok (.goto 9, 3) := by decide +kernel
theorem dX5_measureOf_43 : decode cX5_measureOf 43 = .ok (.aload_n 0, 1) := by decide +kernel
theorem dX5_measureOf_44 : decode cX5_measureOf 44 = .ok (.iload_n 1, 1) := by decide +kernel
theorem dX5_measureOf_45 : decode cX5_measureOf 45 = .ok (.iconst 0, 1) := by decide +kernel
theorem dX5_measureOf_46 : decode cX5_measureOf 46 = .ok (.invokevirtual 70, 3) := by decide +kernel
theorem dX5_measureOf_49 : decode cX5_measureOf 49 = .ok (.ireturn, 1) := by decide +kernel
theorem h9_X5_measureOf : yX5_measureOf.cls ≠ "java/lang/invoke/MethodHandle" ∧ yX5_measureOf.cls ≠ "java/lang/invoke/VarHandle" ∧ (parseMethodDescriptor yX5_measureOf.desc).map (fun d => d.parameters.length) = some 2 := by decide +kernel
noncomputable def F_X5_measureOf (a0 : Nat) (x1 : Int32) (x2 : Int32) (w : FW) : Option (Int32) :=
  (if x2 = 0 then fg (w.1 a0 = 6) inferInstance ((F_X5_half a0 x1 0 1 w).bind (fun r14 => (F_X5_half a0 x1 1 1 w).bind (fun r18 => some (r14 + r18)))) else (if x2 = 1 then fg (w.1 a0 = 6) inferInstance ((F_X5_leftOf a0 x1 0 w).bind (fun r7 => (F_X5_leftOf a0 x1 1 w).bind (fun r11 => some (r7 + r11)))) else fg (w.1 a0 = 6) inferInstance ((F_X5_of a0 x1 0 w).bind (fun r3 => some r3))))
set_option maxHeartbeats 4000000 in
set_option maxRecDepth 100000 in
theorem c_X5_measureOf (l : Launch) (D : va_G) (cy : Nat → ClassId) (a0 : Nat) (x1 : Int32) (x2 : Int32) (w : FW) (r : Int32) (hF : F_X5_measureOf a0 x1 x2 w = some r) : fSpec l D cy yX5_measureOf cX5_measureOf 3 (some .int) { frames := 6, cells := 0, slots := 0, locals := 140 } [.ref a0, .int x1, .int x2] w w (some (.int r)) := by
  refine f_begin (by decide +kernel) (Nat.le_of_ble_eq_true rfl) (fun X hC hEn => ?_)
  unfold F_X5_measureOf at hF
  show fAt X 0 0 3 w [(0, .ref a0), (1, .int x1), (2, .int x2)] [] 0
  refine f_iload_n hC dX5_measureOf_0 rfl 2 rfl ?_
  refine f_if_ne hC 22 dX5_measureOf_1 (by decide) (fun c1 => ?_) (fun c1 => ?_)
  · replace hF := fi_neg hF c1
    refine f_iload_n hC dX5_measureOf_22 rfl 2 rfl ?_
    refine f_iconst (v := 1) hC dX5_measureOf_23 (by decide) ?_
    refine f_icmp_ne hC 43 dX5_measureOf_24 (by decide) (fun c2 => ?_) (fun c2 => ?_)
    · replace hF := fi_neg hF c2
      refine f_aload_n hC dX5_measureOf_43 rfl 0 rfl ?_
      refine f_iload_n hC dX5_measureOf_44 rfl 1 rfl ?_
      refine f_iconst (v := 0) hC dX5_measureOf_45 (by decide) ?_
      obtain ⟨g5, hF⟩ := fg_open hF
      obtain ⟨r3, h4, hF⟩ := fb_open hF
      refine f_callV hC [.int x1, .int 0] (c_X5_of l D cy a0 x1 0 w r3 h4) q_1452 q_137 q_1449 q_1451 q_91 h9_X5_of rfl (fSm.k (fSm.rf w) g5) ⟨Nat.le_of_ble_eq_true rfl, Nat.le_of_ble_eq_true rfl⟩ ⟨Nat.le_of_ble_eq_true rfl, Nat.le_of_ble_eq_true rfl⟩ (Nat.le_of_ble_eq_true rfl) rfl dX5_measureOf_46 (fun e6 => ?_)
      obtain rfl := Option.some.inj hF
      exact f_iret hC hEn (fSm.rf w) dX5_measureOf_49
    · replace hF := fi_pos hF c2
      refine f_aload_n hC dX5_measureOf_27 rfl 0 rfl ?_
      refine f_iload_n hC dX5_measureOf_28 rfl 1 rfl ?_
      refine f_iconst (v := 0) hC dX5_measureOf_29 (by decide) ?_
      obtain ⟨g9, hF⟩ := fg_open hF
      obtain ⟨r7, h8, hF⟩ := fb_open hF
      refine f_callV hC [.int x1, .int 0] (c_X5_leftOf l D cy a0 x1 0 w r7 h8) q_1542 q_137 q_1539 q_1541 q_105 h9_X5_leftOf rfl (fSm.k (fSm.rf w) g9) ⟨Nat.le_of_ble_eq_true rfl, Nat.le_of_ble_eq_true rfl⟩ ⟨Nat.le_of_ble_eq_true rfl, Nat.le_of_ble_eq_true rfl⟩ (Nat.le_of_ble_eq_true rfl) rfl dX5_measureOf_30 (fun e10 => ?_)
      refine f_aload_n hC dX5_measureOf_33 rfl 0 rfl ?_
      refine f_iload_n hC dX5_measureOf_34 rfl 1 rfl ?_
      refine f_iconst (v := 1) hC dX5_measureOf_35 (by decide) ?_
      obtain ⟨r11, h12, hF⟩ := fb_open hF
      refine f_callV hC [.int x1, .int 1] (c_X5_leftOf l D cy a0 x1 1 w r11 h12) q_1542 q_137 q_1539 q_1541 q_105 h9_X5_leftOf rfl (fSm.k (fSm.rf w) g9) ⟨Nat.le_of_ble_eq_true rfl, Nat.le_of_ble_eq_true rfl⟩ ⟨Nat.le_of_ble_eq_true rfl, Nat.le_of_ble_eq_true rfl⟩ (Nat.le_of_ble_eq_true rfl) rfl dX5_measureOf_36 (fun e13 => ?_)
      refine f_iadd hC dX5_measureOf_39 ?_
      refine f_goto hC 49 dX5_measureOf_40 (by decide) ?_
      obtain rfl := Option.some.inj hF
      exact f_iret hC hEn (fSm.rf w) dX5_measureOf_49
  · replace hF := fi_pos hF c1
    refine f_aload_n hC dX5_measureOf_4 rfl 0 rfl ?_
    refine f_iload_n hC dX5_measureOf_5 rfl 1 rfl ?_
    refine f_iconst (v := 0) hC dX5_measureOf_6 (by decide) ?_
    refine f_iconst (v := 1) hC dX5_measureOf_7 (by decide) ?_
    obtain ⟨g16, hF⟩ := fg_open hF
    obtain ⟨r14, h15, hF⟩ := fb_open hF
    refine f_callV hC [.int x1, .int 0, .int 1] (c_X5_half l D cy a0 x1 0 1 w r14 h15) q_1483 q_137 q_1480 q_1482 q_96 h9_X5_half rfl (fSm.k (fSm.rf w) g16) ⟨Nat.le_of_ble_eq_true rfl, Nat.le_of_ble_eq_true rfl⟩ ⟨Nat.le_of_ble_eq_true rfl, Nat.le_of_ble_eq_true rfl⟩ (Nat.le_of_ble_eq_true rfl) rfl dX5_measureOf_8 (fun e17 => ?_)
    refine f_aload_n hC dX5_measureOf_11 rfl 0 rfl ?_
    refine f_iload_n hC dX5_measureOf_12 rfl 1 rfl ?_
    refine f_iconst (v := 1) hC dX5_measureOf_13 (by decide) ?_
    refine f_iconst (v := 1) hC dX5_measureOf_14 (by decide) ?_
    obtain ⟨r18, h19, hF⟩ := fb_open hF
    refine f_callV hC [.int x1, .int 1, .int 1] (c_X5_half l D cy a0 x1 1 1 w r18 h19) q_1483 q_137 q_1480 q_1482 q_96 h9_X5_half rfl (fSm.k (fSm.rf w) g16) ⟨Nat.le_of_ble_eq_true rfl, Nat.le_of_ble_eq_true rfl⟩ ⟨Nat.le_of_ble_eq_true rfl, Nat.le_of_ble_eq_true rfl⟩ (Nat.le_of_ble_eq_true rfl) rfl dX5_measureOf_15 (fun e20 => ?_)
    refine f_iadd hC dX5_measureOf_18 ?_
    refine f_goto hC 49 dX5_measureOf_19 (by decide) ?_
    obtain rfl := Option.some.inj hF
    exact f_iret hC hEn (fSm.rf w) dX5_measureOf_49
theorem dX5_ranked_0 : decode cX5_ranked 0 = .ok (.aload_n 0, 1) := by decide +kernel
theorem dX5_ranked_1 : decode cX5_ranked 1 = .ok (.iload_n 1, 1) := by decide +kernel
theorem dX5_ranked_2 : decode cX5_ranked 2 = .ok (.iconst 0, 1) := by decide +kernel
theorem dX5_ranked_3 : decode cX5_ranked 3 = .ok (.iconst 2, 1) := by decide +kernel
theorem dX5_ranked_4 : decode cX5_ranked 4 = .ok (.invokestatic 66, 3) := by decide +kernel
theorem dX5_ranked_7 : decode cX5_ranked 7 = .ok (.ifCond .eq 7, 3) := by decide +kernel
theorem dX5_ranked_10 : decode cX5_ranked 10 = .ok (.iconst 0, 1) := by decide +kernel
theorem dX5_ranked_11 : decode cX5_ranked 11 = .ok (.goto 4, 3) := by decide +kernel
theorem dX5_ranked_14 : decode cX5_ranked 14 = .ok (.iconst 1, 1) := by decide +kernel
theorem dX5_ranked_15 : decode cX5_ranked 15 = .ok (.putfield 41, 3) := by decide +kernel
theorem dX5_ranked_18 : decode cX5_ranked 18 = .ok (.aload_n 0, 1) := by decide +kernel
theorem dX5_ranked_19 : decode cX5_ranked 19 = .ok (.getfield 41, 3) := by decide +kernel
theorem dX5_ranked_22 : decode cX5_ranked 22 = .ok (.ifCond .le 5, 3) := by decide +kernel
theorem dX5_ranked_25 : decode cX5_ranked 25 = .ok (.iconst 0, 1) := by decide +kernel
theorem dX5_ranked_26 : decode cX5_ranked 26 = .ok (.ireturn, 1) := by decide +kernel
theorem dX5_ranked_27 : decode cX5_ranked 27 = .ok (.iconst 0, 1) := by decide +kernel
theorem dX5_ranked_28 : decode cX5_ranked 28 = .ok (.istore_n 3, 1) := by decide +kernel
theorem dX5_ranked_29 : decode cX5_ranked 29 = .ok (.iload_n 3, 1) := by decide +kernel
theorem dX5_ranked_30 : decode cX5_ranked 30 = .ok (.aload_n 0, 1) := by decide +kernel
theorem dX5_ranked_31 : decode cX5_ranked 31 = .ok (.getfield 7, 3) := by decide +kernel
theorem dX5_ranked_34 : decode cX5_ranked 34 = .ok (.iconst 0, 1) := by decide +kernel
theorem dX5_ranked_35 : decode cX5_ranked 35 = .ok (.iaload, 1) := by decide +kernel
theorem dX5_ranked_36 : decode cX5_ranked 36 = .ok (.if_icmp .ge 88, 3) := by decide +kernel
theorem dX5_ranked_39 : decode cX5_ranked 39 = .ok (.iconst 0, 1) := by decide +kernel
theorem dX5_ranked_40 : decode cX5_ranked 40 = .ok (.istore 4, 2) := by decide +kernel
theorem dX5_ranked_42 : decode cX5_ranked 42 = .ok (.aload_n 0, 1) := by decide +kernel
theorem dX5_ranked_43 : decode cX5_ranked 43 = .ok (.iload_n 3, 1) := by decide +kernel
theorem dX5_ranked_44 : decode cX5_ranked 44 = .ok (.iload_n 1, 1) := by decide +kernel
theorem dX5_ranked_45 : decode cX5_ranked 45 = .ok (.invokevirtual 228, 3) := by decide +kernel
theorem dX5_ranked_48 : decode cX5_ranked 48 = .ok (.istore 5, 2) := by decide +kernel
theorem dX5_ranked_50 : decode cX5_ranked 50 = .ok (.iconst 0, 1) := by decide +kernel
theorem dX5_ranked_51 : decode cX5_ranked 51 = .ok (.istore 6, 2) := by decide +kernel
theorem dX5_ranked_53 : decode cX5_ranked 53 = .ok (.iload 6, 2) := by decide +kernel
theorem dX5_ranked_55 : decode cX5_ranked 55 = .ok (.aload_n 0, 1) := by decide +kernel
theorem dX5_ranked_56 : decode cX5_ranked 56 = .ok (.getfield 7, 3) := by decide +kernel
theorem dX5_ranked_59 : decode cX5_ranked 59 = .ok (.iconst 0, 1) := by decide +kernel
theorem dX5_ranked_60 : decode cX5_ranked 60 = .ok (.iaload, 1) := by decide +kernel
theorem dX5_ranked_61 : decode cX5_ranked 61 = .ok (.if_icmp .ge 49, 3) := by decide +kernel
theorem dX5_ranked_64 : decode cX5_ranked 64 = .ok (.iload 4, 2) := by decide +kernel
theorem dX5_ranked_66 : decode cX5_ranked 66 = .ok (.aload_n 0, 1) := by decide +kernel
theorem dX5_ranked_67 : decode cX5_ranked 67 = .ok (.iload 6, 2) := by decide +kernel
theorem dX5_ranked_69 : decode cX5_ranked 69 = .ok (.iload_n 1, 1) := by decide +kernel
theorem dX5_ranked_70 : decode cX5_ranked 70 = .ok (.invokevirtual 228, 3) := by decide +kernel
theorem dX5_ranked_73 : decode cX5_ranked 73 = .ok (.iload 5, 2) := by decide +kernel
theorem dX5_ranked_75 : decode cX5_ranked 75 = .ok (.if_icmp .gt 21, 3) := by decide +kernel
theorem dX5_ranked_78 : decode cX5_ranked 78 = .ok (.aload_n 0, 1) := by decide +kernel
theorem dX5_ranked_79 : decode cX5_ranked 79 = .ok (.iload 6, 2) := by decide +kernel
theorem dX5_ranked_81 : decode cX5_ranked 81 = .ok (.iload_n 1, 1) := by decide +kernel
theorem dX5_ranked_82 : decode cX5_ranked 82 = .ok (.invokevirtual 228, 3) := by decide +kernel
theorem dX5_ranked_85 : decode cX5_ranked 85 = .ok (.iload 5, 2) := by decide +kernel
theorem dX5_ranked_87 : decode cX5_ranked 87 = .ok (.if_icmp .ne 13, 3) := by decide +kernel
theorem dX5_ranked_90 : decode cX5_ranked 90 = .ok (.iload 6, 2) := by decide +kernel
theorem dX5_ranked_92 : decode cX5_ranked 92 = .ok (.iload_n 3, 1) := by decide +kernel
theorem dX5_ranked_93 : decode cX5_ranked 93 = .ok (.if_icmp .ge 7, 3) := by decide +kernel
theorem dX5_ranked_96 : decode cX5_ranked 96 = .ok (.iconst 1, 1) := by decide +kernel
theorem dX5_ranked_97 : decode cX5_ranked 97 = .ok (.goto 4, 3) := by decide +kernel
theorem dX5_ranked_100 : decode cX5_ranked 100 = .ok (.iconst 0, 1) := by decide +kernel
theorem dX5_ranked_101 : decode cX5_ranked 101 = .ok (.iadd, 1) := by decide +kernel
theorem dX5_ranked_102 : decode cX5_ranked 102 = .ok (.istore 4, 2) := by decide +kernel
theorem dX5_ranked_104 : decode cX5_ranked 104 = .ok (.iinc 6 1, 3) := by decide +kernel
theorem dX5_ranked_107 : decode cX5_ranked 107 = .ok (.goto (-54), 3) := by decide +kernel
theorem dX5_ranked_110 : decode cX5_ranked 110 = .ok (.iload 4, 2) := by decide +kernel
theorem dX5_ranked_112 : decode cX5_ranked 112 = .ok (.iload_n 2, 1) := by decide +kernel
theorem dX5_ranked_113 : decode cX5_ranked 113 = .ok (.if_icmp .ne 5, 3) := by decide +kernel
theorem dX5_ranked_116 : decode cX5_ranked 116 = .ok (.iload_n 3, 1) := by decide +kernel
theorem dX5_ranked_117 : decode cX5_ranked 117 = .ok (.ireturn, 1) := by decide +kernel
theorem dX5_ranked_118 : decode cX5_ranked 118 = .ok (.iinc 3 1, 3) := by decide +kernel
theorem dX5_ranked_121 : decode cX5_ranked 121 = .ok (.goto (-92), 3) := by decide +kernel
theorem dX5_ranked_124 : decode cX5_ranked 124 = .ok (.aload_n 0, 1) := by decide +kernel
theorem dX5_ranked_125 : decode cX5_ranked 125 = .ok (.iconst 2, 1) := by decide +kernel
theorem dX5_ranked_126 : decode cX5_ranked 126 = .ok (.invokevirtual 57, 3) := by decide +kernel
theorem dX5_ranked_129 : decode cX5_ranked 129 = .ok (.ireturn, 1) := by decide +kernel
theorem h9_X5_ranked : yX5_ranked.cls ≠ "java/lang/invoke/MethodHandle" ∧ yX5_ranked.cls ≠ "java/lang/invoke/VarHandle" ∧ (parseMethodDescriptor yX5_ranked.desc).map (fun d => d.parameters.length) = some 2 := by decide +kernel
noncomputable def F_X5_ranked (a0 : Nat) (x1 : Int32) (x2 : Int32) (w : FW) : Option (Int32 × FW) :=
  (F_X5_in x1 0 2 w).bind (fun r1 => ((if r1 = 0 then some 1 else some 0) : Option (Int32)).bind (fun x4 => fg (w.1 a0 = 6) inferInstance ((if (gI (sI w 500 a0 0 x4) 500 a0 0) ≤ 0 then (fLoop (σ := Int32) (ρ := (Unit) ⊕ (Int32 × FW)) (fun s10 => fg (w.1 (gR w 501 a0 0) = 11) inferInstance (fg (¬ ((0 : Int32) < 0 ∨ w.2.1 (gR w 501 a0 0) ≤ Int32.toNatClampNeg 0)) inferInstance ((if (gI (sI w 500 a0 0 x4) 601 (gR (sI w 500 a0 0 x4) 501 a0 0) (Int32.toNatClampNeg 0)) ≤ s10 then some (.inr (.inl ())) else (F_X5_measureOf a0 s10 x1 (sI w 500 a0 0 x4)).bind (fun r22 => (fLoop (σ := Int32 × Int32) (ρ := Int32) (fun s25 => (if (gI (sI w 500 a0 0 x4) 601 (gR (sI w 500 a0 0 x4) 501 a0 0) (Int32.toNatClampNeg 0)) ≤ s25.2 then some (.inr s25.1) else (F_X5_measureOf a0 s25.2 x1 (sI w 500 a0 0 x4)).bind (fun r35 => (if r22 < r35 then some (.inl ((s25.1 + 1), (s25.2 + 1))) else (F_X5_measureOf a0 s25.2 x1 (sI w 500 a0 0 x4)).bind (fun r39 => (if r39 = r22 then (if s10 ≤ s25.2 then some (.inl ((s25.1 + 0), (s25.2 + 1))) else some (.inl ((s25.1 + 1), (s25.2 + 1)))) else some (.inl ((s25.1 + 0), (s25.2 + 1))))))))) (0, 0)).bind (fun x31 => (if x31 = x2 then some (.inr (.inr (s10, (sI w 500 a0 0 x4)))) else some (.inl (s10 + 1))))))))) 0).bind (fun x16 => fse x16 (fun z45 => (F_X5_fails a0 2 (sI w 500 a0 0 x4)).bind (fun r46 => some (r46.1, r46.2))) (fun q9 => some q9)) else some (0, (sI w 500 a0 0 x4))))))
set_option maxHeartbeats 4000000 in
set_option maxRecDepth 100000 in
theorem c_X5_ranked (l : Launch) (D : va_G) (cy : Nat → ClassId) (a0 : Nat) (x1 : Int32) (x2 : Int32) (w : FW) (r : Int32 × FW) (hF : F_X5_ranked a0 x1 x2 w = some r) : fSpec l D cy yX5_ranked cX5_ranked 7 (some .int) { frames := 7, cells := 0, slots := 0, locals := 162 } [.ref a0, .int x1, .int x2] w r.2 (some (.int r.1)) := by
  refine f_begin (by decide +kernel) (Nat.le_of_ble_eq_true rfl) (fun X hC hEn => ?_)
  unfold F_X5_ranked at hF
  show fAt X 0 0 7 w [(0, .ref a0), (1, .int x1), (2, .int x2)] [] 0
  refine f_aload_n hC dX5_ranked_0 rfl 0 rfl ?_
  refine f_iload_n hC dX5_ranked_1 rfl 1 rfl ?_
  refine f_iconst (v := 0) hC dX5_ranked_2 (by decide) ?_
  refine f_iconst (v := 2) hC dX5_ranked_3 (by decide) ?_
  obtain ⟨r1, h2, hF⟩ := fb_open hF
  refine f_callS hC [.int x1, .int 0, .int 2] (c_X5_in l D cy x1 0 2 w r1 h2) q_1357 q_137 q_1355 q_1356 h9_X5_in ⟨Nat.le_of_ble_eq_true rfl, Nat.le_of_ble_eq_true rfl⟩ ⟨Nat.le_of_ble_eq_true rfl, Nat.le_of_ble_eq_true rfl⟩ (Nat.le_of_ble_eq_true rfl) rfl dX5_ranked_4 (fun e3 => ?_)
  obtain ⟨x4, h5, hF⟩ := fb_open hF
  have K7 : fAt X 0 0 7 w [(0, .ref a0), (1, .int x1), (2, .int x2)] [.int x4, .ref a0] 15 := by
    obtain ⟨g8, hF⟩ := fg_open hF
    refine f_putI hC 5 0 500 rfl (by decide) iX5 tyX5 tyX5_ok nmX5 q_1259 rfl rfl rfl rfl rfl (fSm.k (fSm.rf w) g8) dX5_ranked_15 ?_
    refine f_aload_n hC dX5_ranked_18 rfl 0 rfl ?_
    refine f_getI hC 5 0 500 rfl (by decide) iX5 q_1259 rfl rfl (fSm.k (fSm.rf w) g8) dX5_ranked_19 ?_
    refine f_if_le hC 27 dX5_ranked_22 (by decide) (fun c9 => ?_) (fun c9 => ?_)
    · replace hF := fi_pos hF c9
      refine f_iconst (v := 0) hC dX5_ranked_27 (by decide) ?_
      refine f_istore_n (L' := [(3, .int 0), (0, .ref a0), (1, .int x1), (2, .int x2)]) hC dX5_ranked_28 rfl (by decide) rfl ?_
      obtain ⟨x16, h17, hF⟩ := fb_open hF
      have K18 : ∀ z45, x16 = .inl z45 → fAt X 0 0 7 (sI w 500 a0 0 x4) [(0, .ref a0)] [] 124 := by
        intro z45 hz9
        subst hz9
        refine f_aload_n hC dX5_ranked_124 rfl 0 rfl ?_
        refine f_iconst (v := 2) hC dX5_ranked_125 (by decide) ?_
        obtain ⟨r46, h47, hF⟩ := fb_open hF
        refine f_callV hC [.int 2] (c_X5_fails l D cy a0 2 (sI w 500 a0 0 x4) r46 h47) q_1380 q_137 q_1377 q_1379 q_79 h9_X5_fails rfl (fSm.k (fSm.rf w) g8) ⟨Nat.le_of_ble_eq_true rfl, Nat.le_of_ble_eq_true rfl⟩ ⟨Nat.le_of_ble_eq_true rfl, Nat.le_of_ble_eq_true rfl⟩ (Nat.le_of_ble_eq_true rfl) rfl dX5_ranked_126 (fun e48 => ?_)
        obtain rfl := Option.some.inj hF
        exact f_iret hC hEn (fSm.tr e48 (fSm.rf w)) dX5_ranked_129
      refine f_sub (L' := [(0, .ref a0), (1, .int x1), (2, .int x2), (3, .int 0)]) [1, 2, 3, 0] rfl ?_
      refine fLoop_ind (fun (s10 : Int32) => fAt X 0 0 7 (sI w 500 a0 0 x4) [(0, .ref a0), (1, .int x1), (2, .int x2), (3, .int s10)] [] 29) (fun s10 y15 h11 go12 ou13 => ?_) h17
      refine f_iload_n hC dX5_ranked_29 rfl 3 rfl ?_
      refine f_aload_n hC dX5_ranked_30 rfl 0 rfl ?_
      refine f_getR hC 5 1 501 rfl (by decide) iX5 q_1260 rfl rfl (fSm.k (fSm.rf w) g8) dX5_ranked_31 ?_
      refine f_iconst (v := 0) hC dX5_ranked_34 (by decide) ?_
      obtain ⟨g19, h11⟩ := fg_open h11
      obtain ⟨g20, h11⟩ := fg_open h11
      refine f_iald hC (fSm.k (fSm.rf w) g19) (fSm.v (fSm.rf w) g20) dX5_ranked_35 ?_
      refine f_icmp_ge hC 124 dX5_ranked_36 (by decide) (fun c21 => ?_) (fun c21 => ?_)
      · replace h11 := fi_pos h11 c21
        obtain rfl := Option.some.inj h11
        have eo := ou13 _ rfl
        refine f_sub (L' := [(0, .ref a0)]) [0] rfl ?_
        exact K18 _ eo.symm
      · replace h11 := fi_neg h11 c21
        refine f_iconst (v := 0) hC dX5_ranked_39 (by decide) ?_
        refine f_istore (L' := [(4, .int 0), (0, .ref a0), (1, .int x1), (2, .int x2), (3, .int s10)]) hC dX5_ranked_40 (by decide) rfl ?_
        refine f_aload_n hC dX5_ranked_42 rfl 1 rfl ?_
        refine f_iload_n hC dX5_ranked_43 rfl 4 rfl ?_
        refine f_iload_n hC dX5_ranked_44 rfl 2 rfl ?_
        obtain ⟨r22, h23, h11⟩ := fb_open h11
        refine f_callV hC [.int s10, .int x1] (c_X5_measureOf l D cy a0 s10 x1 (sI w 500 a0 0 x4) r22 h23) q_1649 q_137 q_1646 q_1648 q_118 h9_X5_measureOf rfl (fSm.k (fSm.rf w) g8) ⟨Nat.le_of_ble_eq_true rfl, Nat.le_of_ble_eq_true rfl⟩ ⟨Nat.le_of_ble_eq_true rfl, Nat.le_of_ble_eq_true rfl⟩ (Nat.le_of_ble_eq_true rfl) rfl dX5_ranked_45 (fun e24 => ?_)
        refine f_istore (L' := [(5, .int r22), (4, .int 0), (0, .ref a0), (1, .int x1), (2, .int x2), (3, .int s10)]) hC dX5_ranked_48 (by decide) rfl ?_
        refine f_iconst (v := 0) hC dX5_ranked_50 (by decide) ?_
        refine f_istore (L' := [(6, .int 0), (5, .int r22), (4, .int 0), (0, .ref a0), (1, .int x1), (2, .int x2), (3, .int s10)]) hC dX5_ranked_51 (by decide) rfl ?_
        obtain ⟨x31, h32, h11⟩ := fb_open h11
        have K33 : fAt X 0 0 7 (sI w 500 a0 0 x4) [(0, .ref a0), (1, .int x1), (2, .int x2), (3, .int s10), (4, .int x31)] [] 110 := by
          refine f_iload hC dX5_ranked_110 4 rfl ?_
          refine f_iload_n hC dX5_ranked_112 rfl 2 rfl ?_
          refine f_icmp_ne hC 118 dX5_ranked_113 (by decide) (fun c44 => ?_) (fun c44 => ?_)
          · replace h11 := fi_neg h11 c44
            refine f_iinc (L' := [(3, .int (s10 + 1)), (0, .ref a0), (1, .int x1), (2, .int x2), (4, .int x31)]) hC dX5_ranked_118 3 rfl rfl (by decide) rfl ?_
            refine f_goto hC 29 dX5_ranked_121 (by decide) ?_
            obtain rfl := Option.some.inj h11
            refine f_sub (L' := [(0, .ref a0), (1, .int x1), (2, .int x2), (3, .int (s10 + 1))]) [1, 2, 3, 0] rfl ?_
            exact go12 _ rfl
          · replace h11 := fi_pos h11 c44
            refine f_iload_n hC dX5_ranked_116 rfl 3 rfl ?_
            obtain rfl := Option.some.inj h11
            obtain rfl := ou13 _ rfl
            obtain rfl := Option.some.inj hF
            exact f_iret hC hEn (fSm.rf w) dX5_ranked_117
        refine f_sub (L' := [(0, .ref a0), (1, .int x1), (2, .int x2), (3, .int s10), (4, .int 0), (5, .int r22), (6, .int 0)]) [3, 4, 5, 6, 2, 1, 0] rfl ?_
        refine fLoop_ind (fun (s25 : Int32 × Int32) => fAt X 0 0 7 (sI w 500 a0 0 x4) [(0, .ref a0), (1, .int x1), (2, .int x2), (3, .int s10), (4, .int s25.1), (5, .int r22), (6, .int s25.2)] [] 53) (fun s25 y30 h26 go27 ou28 => ?_) h32
        refine f_iload hC dX5_ranked_53 6 rfl ?_
        refine f_aload_n hC dX5_ranked_55 rfl 0 rfl ?_
        refine f_getR hC 5 1 501 rfl (by decide) iX5 q_1260 rfl rfl (fSm.k (fSm.rf w) g8) dX5_ranked_56 ?_
        refine f_iconst (v := 0) hC dX5_ranked_59 (by decide) ?_
        refine f_iald hC (fSm.k (fSm.rf w) g19) (fSm.v (fSm.rf w) g20) dX5_ranked_60 ?_
        refine f_icmp_ge hC 110 dX5_ranked_61 (by decide) (fun c34 => ?_) (fun c34 => ?_)
        · replace h26 := fi_pos h26 c34
          obtain rfl := Option.some.inj h26
          obtain rfl := ou28 _ rfl
          refine f_sub (L' := [(0, .ref a0), (1, .int x1), (2, .int x2), (3, .int s10), (4, .int s25.1)]) [0, 1, 2, 3, 4] rfl ?_
          exact K33
        · replace h26 := fi_neg h26 c34
          refine f_iload hC dX5_ranked_64 4 rfl ?_
          refine f_aload_n hC dX5_ranked_66 rfl 0 rfl ?_
          refine f_iload hC dX5_ranked_67 6 rfl ?_
          refine f_iload_n hC dX5_ranked_69 rfl 1 rfl ?_
          obtain ⟨r35, h36, h26⟩ := fb_open h26
          refine f_callV hC [.int s25.2, .int x1] (c_X5_measureOf l D cy a0 s25.2 x1 (sI w 500 a0 0 x4) r35 h36) q_1649 q_137 q_1646 q_1648 q_118 h9_X5_measureOf rfl (fSm.k (fSm.rf w) g8) ⟨Nat.le_of_ble_eq_true rfl, Nat.le_of_ble_eq_true rfl⟩ ⟨Nat.le_of_ble_eq_true rfl, Nat.le_of_ble_eq_true rfl⟩ (Nat.le_of_ble_eq_true rfl) rfl dX5_ranked_70 (fun e37 => ?_)
          refine f_iload hC dX5_ranked_73 5 rfl ?_
          refine f_icmp_gt hC 96 dX5_ranked_75 (by decide) (fun c38 => ?_) (fun c38 => ?_)
          · replace h26 := fi_pos h26 c38
            refine f_iconst (v := 1) hC dX5_ranked_96 (by decide) ?_
            refine f_goto hC 101 dX5_ranked_97 (by decide) ?_
            refine f_iadd hC dX5_ranked_101 ?_
            refine f_istore (L' := [(4, .int (s25.1 + 1)), (0, .ref a0), (1, .int x1), (2, .int x2), (3, .int s10), (5, .int r22), (6, .int s25.2)]) hC dX5_ranked_102 (by decide) rfl ?_
            refine f_iinc (L' := [(6, .int (s25.2 + 1)), (4, .int (s25.1 + 1)), (0, .ref a0), (1, .int x1), (2, .int x2), (3, .int s10), (5, .int r22)]) hC dX5_ranked_104 6 rfl rfl (by decide) rfl ?_
            refine f_goto hC 53 dX5_ranked_107 (by decide) ?_
            obtain rfl := Option.some.inj h26
            refine f_sub (L' := [(0, .ref a0), (1, .int x1), (2, .int x2), (3, .int s10), (4, .int (s25.1 + 1)), (5, .int r22), (6, .int (s25.2 + 1))]) [2, 3, 4, 5, 1, 6, 0] rfl ?_
            exact go27 _ rfl
          · replace h26 := fi_neg h26 c38
            refine f_aload_n hC dX5_ranked_78 rfl 0 rfl ?_
            refine f_iload hC dX5_ranked_79 6 rfl ?_
            refine f_iload_n hC dX5_ranked_81 rfl 1 rfl ?_
            obtain ⟨r39, h40, h26⟩ := fb_open h26
            refine f_callV hC [.int s25.2, .int x1] (c_X5_measureOf l D cy a0 s25.2 x1 (sI w 500 a0 0 x4) r39 h40) q_1649 q_137 q_1646 q_1648 q_118 h9_X5_measureOf rfl (fSm.k (fSm.rf w) g8) ⟨Nat.le_of_ble_eq_true rfl, Nat.le_of_ble_eq_true rfl⟩ ⟨Nat.le_of_ble_eq_true rfl, Nat.le_of_ble_eq_true rfl⟩ (Nat.le_of_ble_eq_true rfl) rfl dX5_ranked_82 (fun e41 => ?_)
            refine f_iload hC dX5_ranked_85 5 rfl ?_
            refine f_icmp_ne hC 100 dX5_ranked_87 (by decide) (fun c42 => ?_) (fun c42 => ?_)
            · replace h26 := fi_neg h26 c42
              refine f_iconst (v := 0) hC dX5_ranked_100 (by decide) ?_
              refine f_iadd hC dX5_ranked_101 ?_
              refine f_istore (L' := [(4, .int (s25.1 + 0)), (0, .ref a0), (1, .int x1), (2, .int x2), (3, .int s10), (5, .int r22), (6, .int s25.2)]) hC dX5_ranked_102 (by decide) rfl ?_
              refine f_iinc (L' := [(6, .int (s25.2 + 1)), (4, .int (s25.1 + 0)), (0, .ref a0), (1, .int x1), (2, .int x2), (3, .int s10), (5, .int r22)]) hC dX5_ranked_104 6 rfl rfl (by decide) rfl ?_
              refine f_goto hC 53 dX5_ranked_107 (by decide) ?_
              obtain rfl := Option.some.inj h26
              refine f_sub (L' := [(0, .ref a0), (1, .int x1), (2, .int x2), (3, .int s10), (4, .int (s25.1 + 0)), (5, .int r22), (6, .int (s25.2 + 1))]) [2, 3, 4, 5, 1, 6, 0] rfl ?_
              exact go27 _ rfl
            · replace h26 := fi_pos h26 c42
              refine f_iload hC dX5_ranked_90 6 rfl ?_
              refine f_iload_n hC dX5_ranked_92 rfl 3 rfl ?_
              refine f_icmp_ge hC 100 dX5_ranked_93 (by decide) (fun c43 => ?_) (fun c43 => ?_)
              · replace h26 := fi_pos h26 c43
                refine f_iconst (v := 0) hC dX5_ranked_100 (by decide) ?_
                refine f_iadd hC dX5_ranked_101 ?_
                refine f_istore (L' := [(4, .int (s25.1 + 0)), (0, .ref a0), (1, .int x1), (2, .int x2), (3, .int s10), (5, .int r22), (6, .int s25.2)]) hC dX5_ranked_102 (by decide) rfl ?_
                refine f_iinc (L' := [(6, .int (s25.2 + 1)), (4, .int (s25.1 + 0)), (0, .ref a0), (1, .int x1), (2, .int x2), (3, .int s10), (5, .int r22)]) hC dX5_ranked_104 6 rfl rfl (by decide) rfl ?_
                refine f_goto hC 53 dX5_ranked_107 (by decide) ?_
                obtain rfl := Option.some.inj h26
                refine f_sub (L' := [(0, .ref a0), (1, .int x1), (2, .int x2), (3, .int s10), (4, .int (s25.1 + 0)), (5, .int r22), (6, .int (s25.2 + 1))]) [2, 3, 4, 5, 1, 6, 0] rfl ?_
                exact go27 _ rfl
              · replace h26 := fi_neg h26 c43
                refine f_iconst (v := 1) hC dX5_ranked_96 (by decide) ?_
                refine f_goto hC 101 dX5_ranked_97 (by decide) ?_
                refine f_iadd hC dX5_ranked_101 ?_
                refine f_istore (L' := [(4, .int (s25.1 + 1)), (0, .ref a0), (1, .int x1), (2, .int x2), (3, .int s10), (5, .int r22), (6, .int s25.2)]) hC dX5_ranked_102 (by decide) rfl ?_
                refine f_iinc (L' := [(6, .int (s25.2 + 1)), (4, .int (s25.1 + 1)), (0, .ref a0), (1, .int x1), (2, .int x2), (3, .int s10), (5, .int r22)]) hC dX5_ranked_104 6 rfl rfl (by decide) rfl ?_
                refine f_goto hC 53 dX5_ranked_107 (by decide) ?_
                obtain rfl := Option.some.inj h26
                refine f_sub (L' := [(0, .ref a0), (1, .int x1), (2, .int x2), (3, .int s10), (4, .int (s25.1 + 1)), (5, .int r22), (6, .int (s25.2 + 1))]) [2, 3, 4, 5, 1, 6, 0] rfl ?_
                exact go27 _ rfl
    · replace hF := fi_neg hF c9
      refine f_iconst (v := 0) hC dX5_ranked_25 (by decide) ?_
      obtain rfl := Option.some.inj hF
      exact f_iret hC hEn (fSm.rf w) dX5_ranked_26
  refine f_if_eq hC 14 dX5_ranked_7 (by decide) (fun c49 => ?_) (fun c49 => ?_)
  · replace h5 := fi_pos h5 c49
    refine f_iconst (v := 1) hC dX5_ranked_14 (by decide) ?_
    obtain rfl := Option.some.inj h5
    exact K7
  · replace h5 := fi_neg h5 c49
    refine f_iconst (v := 0) hC dX5_ranked_10 (by decide) ?_
    refine f_goto hC 15 dX5_ranked_11 (by decide) ?_
    obtain rfl := Option.some.inj h5
    exact K7
theorem dX5_isRight_0 : decode cX5_isRight 0 = .ok (.aload_n 0, 1) := by decide +kernel
theorem dX5_isRight_1 : decode cX5_isRight 1 = .ok (.iconst 0, 1) := by decide +kernel
theorem dX5_isRight_2 : decode cX5_isRight 2 = .ok (.putfield 41, 3) := by decide +kernel
theorem dX5_isRight_5 : decode cX5_isRight 5 = .ok (.iconst 0, 1) := by decide +kernel
theorem dX5_isRight_6 : decode cX5_isRight 6 = .ok (.istore_n 1, 1) := by decide +kernel
theorem dX5_isRight_7 : decode cX5_isRight 7 = .ok (.iload_n 1, 1) := by decide +kernel
theorem dX5_isRight_8 : decode cX5_isRight 8 = .ok (.aload_n 0, 1) := by decide +kernel
theorem dX5_isRight_9 : decode cX5_isRight 9 = .ok (.getfield 7, 3) := by decide +kernel
theorem dX5_isRight_12 : decode cX5_isRight 12 = .ok (.iconst 0, 1) := by decide +kernel
theorem dX5_isRight_13 : decode cX5_isRight 13 = .ok (.iaload, 1) := by decide +kernel
theorem dX5_isRight_14 : decode cX5_isRight 14 = .ok (.if_icmp .ge 82, 3) := by decide +kernel
theorem dX5_isRight_17 : decode cX5_isRight 17 = .ok (.iconst 0, 1) := by decide +kernel
theorem dX5_isRight_18 : decode cX5_isRight 18 = .ok (.istore_n 2, 1) := by decide +kernel
theorem dX5_isRight_19 : decode cX5_isRight 19 = .ok (.iload_n 2, 1) := by decide +kernel
theorem dX5_isRight_20 : decode cX5_isRight 20 = .ok (.iconst 2, 1) := by decide +kernel
theorem dX5_isRight_21 : decode cX5_isRight 21 = .ok (.if_icmp .ge 40, 3) := by decide +kernel
theorem dX5_isRight_24 : decode cX5_isRight 24 = .ok (.aload_n 0, 1) := by decide +kernel
theorem dX5_isRight_25 : decode cX5_isRight 25 = .ok (.iload_n 1, 1) := by decide +kernel
theorem dX5_isRight_26 : decode cX5_isRight 26 = .ok (.iload_n 2, 1) := by decide +kernel
theorem dX5_isRight_27 : decode cX5_isRight 27 = .ok (.invokevirtual 92, 3) := by decide +kernel
theorem dX5_isRight_30 : decode cX5_isRight 30 = .ok (.ifCond .eq 25, 3) := by decide +kernel
theorem dX5_isRight_33 : decode cX5_isRight 33 = .ok (.aload_n 0, 1) := by decide +kernel
theorem dX5_isRight_34 : decode cX5_isRight 34 = .ok (.iload_n 1, 1) := by decide +kernel
theorem dX5_isRight_35 : decode cX5_isRight 35 = .ok (.iload_n 2, 1) := by decide +kernel
theorem dX5_isRight_36 : decode cX5_isRight 36 = .ok (.iconst 1, 1) := by decide +kernel
theorem dX5_isRight_37 : decode cX5_isRight 37 = .ok (.invokevirtual 78, 3) := by decide +kernel
theorem dX5_isRight_40 : decode cX5_isRight 40 = .ok (.iconst 3, 1) := by decide +kernel
theorem dX5_isRight_41 : decode cX5_isRight 41 = .ok (.if_icmp .ge 14, 3) := by decide +kernel
theorem dX5_isRight_44 : decode cX5_isRight 44 = .ok (.aload_n 0, 1) := by decide +kernel
theorem dX5_isRight_45 : decode cX5_isRight 45 = .ok (.iload_n 1, 1) := by decide +kernel
theorem dX5_isRight_46 : decode cX5_isRight 46 = .ok (.iload_n 2, 1) := by decide +kernel
theorem dX5_isRight_47 : decode cX5_isRight 47 = .ok (.invokevirtual 157, 3) := by decide +kernel
theorem dX5_isRight_50 : decode cX5_isRight 50 = .ok (.ifCond .ne 5, 3) := by decide +kernel
theorem dX5_isRight_53 : decode cX5_isRight 53 = .ok (.iconst 0, 1) := by decide +kernel
theorem dX5_isRight_54 : decode cX5_isRight 54 = .ok (.ireturn, 1) := by decide +kernel
theorem dX5_isRight_55 : decode cX5_isRight 55 = .ok (.iinc 2 1, 3) := by decide +kernel
theorem dX5_isRight_58 : decode cX5_isRight 58 = .ok (.goto (-39), 3) := by decide +kernel
theorem dX5_isRight_61 : decode cX5_isRight 61 = .ok (.aload_n 0, 1) := by decide +kernel
theorem dX5_isRight_62 : decode cX5_isRight 62 = .ok (.iload_n 1, 1) := by decide +kernel
theorem dX5_isRight_63 : decode cX5_isRight 63 = .ok (.bipush 10, 2) := by decide +kernel
theorem dX5_isRight_65 : decode cX5_isRight 65 = .ok (.invokevirtual 70, 3) := by decide +kernel
theorem dX5_isRight_68 : decode cX5_isRight 68 = .ok (.ifCond .ne 22, 3) := by decide +kernel
theorem dX5_isRight_71 : decode cX5_isRight 71 = .ok (.aload_n 0, 1) := by decide +kernel
theorem dX5_isRight_72 : decode cX5_isRight 72 = .ok (.iload_n 1, 1) := by decide +kernel
theorem dX5_isRight_73 : decode cX5_isRight 73 = .ok (.iconst 0, 1) := by decide +kernel
theorem dX5_isRight_74 : decode cX5_isRight 74 = .ok (.iconst 2, 1) := by decide +kernel
theorem dX5_isRight_75 : decode cX5_isRight 75 = .ok (.invokevirtual 78, 3) := by decide +kernel
theorem dX5_isRight_78 : decode cX5_isRight 78 = .ok (.aload_n 0, 1) := by decide +kernel
theorem dX5_isRight_79 : decode cX5_isRight 79 = .ok (.iload_n 1, 1) := by decide +kernel
theorem dX5_isRight_80 : decode cX5_isRight 80 = .ok (.iconst 1, 1) := by decide +kernel
theorem dX5_isRight_81 : decode cX5_isRight 81 = .ok (.iconst 2, 1) := by decide +kernel
theorem dX5_isRight_82 : decode cX5_isRight 82 = .ok (.invokevirtual 78, 3) := by decide +kernel
theorem dX5_isRight_85 : decode cX5_isRight 85 = .ok (.if_icmp .eq 5, 3) := by decide +kernel
theorem dX5_isRight_88 : decode cX5_isRight 88 = .ok (.iconst 0, 1) := by decide +kernel
theorem dX5_isRight_89 : decode cX5_isRight 89 = .ok (.ireturn, 1) := by decide +kernel
theorem dX5_isRight_90 : decode cX5_isRight 90 = .ok (.iinc 1 1, 3) := by decide +kernel
theorem dX5_isRight_93 : decode cX5_isRight 93 = .ok (.goto (-86), 3) := by decide +kernel
theorem dX5_isRight_96 : decode cX5_isRight 96 = .ok (.iconst 1, 1) := by decide +kernel
theorem dX5_isRight_97 : decode cX5_isRight 97 = .ok (.ireturn, 1) := by decide +kernel
theorem h9_X5_isRight : yX5_isRight.cls ≠ "java/lang/invoke/MethodHandle" ∧ yX5_isRight.cls ≠ "java/lang/invoke/VarHandle" ∧ (parseMethodDescriptor yX5_isRight.desc).map (fun d => d.parameters.length) = some 0 := by decide +kernel
noncomputable def F_X5_isRight (a0 : Nat) (w : FW) : Option (Int32 × FW) :=
  fg (w.1 a0 = 6) inferInstance ((fLoop (σ := Int32) (ρ := (Unit) ⊕ (Int32 × FW)) (fun s2 => fg (w.1 (gR w 501 a0 0) = 11) inferInstance (fg (¬ ((0 : Int32) < 0 ∨ w.2.1 (gR w 501 a0 0) ≤ Int32.toNatClampNeg 0)) inferInstance ((if (gI (sI w 500 a0 0 0) 601 (gR (sI w 500 a0 0 0) 501 a0 0) (Int32.toNatClampNeg 0)) ≤ s2 then some (.inr (.inl ())) else (fLoop (σ := Int32) (ρ := (Unit) ⊕ (Int32 × FW)) (fun s14 => (if 2 ≤ s14 then some (.inr (.inl ())) else (F_X5_isPunched a0 s2 s14 (sI w 500 a0 0 0)).bind (fun r24 => (if r24 = 0 then some (.inl (s14 + 1)) else (F_X5_half a0 s2 s14 1 (sI w 500 a0 0 0)).bind (fun r28 => (if 3 ≤ r28 then some (.inl (s14 + 1)) else (F_X5_isRead a0 s2 s14 (sI w 500 a0 0 0)).bind (fun r32 => (if r32 = 0 then some (.inr (.inr (0, (sI w 500 a0 0 0)))) else some (.inl (s14 + 1)))))))))) 0).bind (fun x20 => fse x20 (fun z36 => (F_X5_of a0 s2 10 (sI w 500 a0 0 0)).bind (fun r37 => (if r37 = 0 then (F_X5_half a0 s2 0 2 (sI w 500 a0 0 0)).bind (fun r41 => (F_X5_half a0 s2 1 2 (sI w 500 a0 0 0)).bind (fun r44 => (if r41 = r44 then some (.inl (s2 + 1)) else some (.inr (.inr (0, (sI w 500 a0 0 0))))))) else some (.inl (s2 + 1))))) (fun q9 => some (.inr (.inr q9)))))))) 0).bind (fun x8 => fse x8 (fun z48 => some (1, (sI w 500 a0 0 0))) (fun q9 => some q9)))
set_option maxHeartbeats 4000000 in
set_option maxRecDepth 100000 in
theorem c_X5_isRight (l : Launch) (D : va_G) (cy : Nat → ClassId) (a0 : Nat) (w : FW) (r : Int32 × FW) (hF : F_X5_isRight a0 w = some r) : fSpec l D cy yX5_isRight cX5_isRight 3 (some .boolean) { frames := 8, cells := 0, slots := 0, locals := 190 } [.ref a0] w r.2 (some (.int r.1)) := by
  refine f_begin (by decide +kernel) (Nat.le_of_ble_eq_true rfl) (fun X hC hEn => ?_)
  unfold F_X5_isRight at hF
  show fAt X 0 0 3 w [(0, .ref a0)] [] 0
  refine f_aload_n hC dX5_isRight_0 rfl 0 rfl ?_
  refine f_iconst (v := 0) hC dX5_isRight_1 (by decide) ?_
  obtain ⟨g1, hF⟩ := fg_open hF
  refine f_putI hC 5 0 500 rfl (by decide) iX5 tyX5 tyX5_ok nmX5 q_1259 rfl rfl rfl rfl rfl (fSm.k (fSm.rf w) g1) dX5_isRight_2 ?_
  refine f_iconst (v := 0) hC dX5_isRight_5 (by decide) ?_
  refine f_istore_n (L' := [(1, .int 0), (0, .ref a0)]) hC dX5_isRight_6 rfl (by decide) rfl ?_
  obtain ⟨x8, h9, hF⟩ := fb_open hF
  have K10 : ∀ z48, x8 = .inl z48 → fAt X 0 0 3 (sI w 500 a0 0 0) [] [] 96 := by
    intro z48 hz9
    subst hz9
    refine f_iconst (v := 1) hC dX5_isRight_96 (by decide) ?_
    obtain rfl := Option.some.inj hF
    exact f_zret hC hEn (fSm.rf w) (nar_z (by decide)) dX5_isRight_97
  refine f_sub (L' := [(0, .ref a0), (1, .int 0)]) [1, 0] rfl ?_
  refine fLoop_ind (fun (s2 : Int32) => fAt X 0 0 3 (sI w 500 a0 0 0) [(0, .ref a0), (1, .int s2)] [] 7) (fun s2 y7 h3 go4 ou5 => ?_) h9
  refine f_iload_n hC dX5_isRight_7 rfl 1 rfl ?_
  refine f_aload_n hC dX5_isRight_8 rfl 0 rfl ?_
  refine f_getR hC 5 1 501 rfl (by decide) iX5 q_1260 rfl rfl (fSm.k (fSm.rf w) g1) dX5_isRight_9 ?_
  refine f_iconst (v := 0) hC dX5_isRight_12 (by decide) ?_
  obtain ⟨g11, h3⟩ := fg_open h3
  obtain ⟨g12, h3⟩ := fg_open h3
  refine f_iald hC (fSm.k (fSm.rf w) g11) (fSm.v (fSm.rf w) g12) dX5_isRight_13 ?_
  refine f_icmp_ge hC 96 dX5_isRight_14 (by decide) (fun c13 => ?_) (fun c13 => ?_)
  · replace h3 := fi_pos h3 c13
    obtain rfl := Option.some.inj h3
    have eo := ou5 _ rfl
    refine f_sub (L' := []) [] rfl ?_
    exact K10 _ eo.symm
  · replace h3 := fi_neg h3 c13
    refine f_iconst (v := 0) hC dX5_isRight_17 (by decide) ?_
    refine f_istore_n (L' := [(2, .int 0), (0, .ref a0), (1, .int s2)]) hC dX5_isRight_18 rfl (by decide) rfl ?_
    obtain ⟨x20, h21, h3⟩ := fb_open h3
    have K22 : ∀ z36, x20 = .inl z36 → fAt X 0 0 3 (sI w 500 a0 0 0) [(0, .ref a0), (1, .int s2)] [] 61 := by
      intro z36 hz9
      subst hz9
      refine f_aload_n hC dX5_isRight_61 rfl 0 rfl ?_
      refine f_iload_n hC dX5_isRight_62 rfl 1 rfl ?_
      refine f_bipush (v := 10) hC dX5_isRight_63 (by decide) ?_
      obtain ⟨r37, h38, h3⟩ := fb_open h3
      refine f_callV hC [.int s2, .int 10] (c_X5_of l D cy a0 s2 10 (sI w 500 a0 0 0) r37 h38) q_1452 q_137 q_1449 q_1451 q_91 h9_X5_of rfl (fSm.k (fSm.rf w) g1) ⟨Nat.le_of_ble_eq_true rfl, Nat.le_of_ble_eq_true rfl⟩ ⟨Nat.le_of_ble_eq_true rfl, Nat.le_of_ble_eq_true rfl⟩ (Nat.le_of_ble_eq_true rfl) rfl dX5_isRight_65 (fun e39 => ?_)
      refine f_if_ne hC 90 dX5_isRight_68 (by decide) (fun c40 => ?_) (fun c40 => ?_)
      · replace h3 := fi_neg h3 c40
        refine f_iinc (L' := [(1, .int (s2 + 1)), (0, .ref a0)]) hC dX5_isRight_90 1 rfl rfl (by decide) rfl ?_
        refine f_goto hC 7 dX5_isRight_93 (by decide) ?_
        obtain rfl := Option.some.inj h3
        refine f_sub (L' := [(0, .ref a0), (1, .int (s2 + 1))]) [1, 0] rfl ?_
        exact go4 _ rfl
      · replace h3 := fi_pos h3 c40
        refine f_aload_n hC dX5_isRight_71 rfl 0 rfl ?_
        refine f_iload_n hC dX5_isRight_72 rfl 1 rfl ?_
        refine f_iconst (v := 0) hC dX5_isRight_73 (by decide) ?_
        refine f_iconst (v := 2) hC dX5_isRight_74 (by decide) ?_
        obtain ⟨r41, h42, h3⟩ := fb_open h3
        refine f_callV hC [.int s2, .int 0, .int 2] (c_X5_half l D cy a0 s2 0 2 (sI w 500 a0 0 0) r41 h42) q_1483 q_137 q_1480 q_1482 q_96 h9_X5_half rfl (fSm.k (fSm.rf w) g1) ⟨Nat.le_of_ble_eq_true rfl, Nat.le_of_ble_eq_true rfl⟩ ⟨Nat.le_of_ble_eq_true rfl, Nat.le_of_ble_eq_true rfl⟩ (Nat.le_of_ble_eq_true rfl) rfl dX5_isRight_75 (fun e43 => ?_)
        refine f_aload_n hC dX5_isRight_78 rfl 0 rfl ?_
        refine f_iload_n hC dX5_isRight_79 rfl 1 rfl ?_
        refine f_iconst (v := 1) hC dX5_isRight_80 (by decide) ?_
        refine f_iconst (v := 2) hC dX5_isRight_81 (by decide) ?_
        obtain ⟨r44, h45, h3⟩ := fb_open h3
        refine f_callV hC [.int s2, .int 1, .int 2] (c_X5_half l D cy a0 s2 1 2 (sI w 500 a0 0 0) r44 h45) q_1483 q_137 q_1480 q_1482 q_96 h9_X5_half rfl (fSm.k (fSm.rf w) g1) ⟨Nat.le_of_ble_eq_true rfl, Nat.le_of_ble_eq_true rfl⟩ ⟨Nat.le_of_ble_eq_true rfl, Nat.le_of_ble_eq_true rfl⟩ (Nat.le_of_ble_eq_true rfl) rfl dX5_isRight_82 (fun e46 => ?_)
        refine f_icmp_eq hC 90 dX5_isRight_85 (by decide) (fun c47 => ?_) (fun c47 => ?_)
        · replace h3 := fi_pos h3 c47
          refine f_iinc (L' := [(1, .int (s2 + 1)), (0, .ref a0)]) hC dX5_isRight_90 1 rfl rfl (by decide) rfl ?_
          refine f_goto hC 7 dX5_isRight_93 (by decide) ?_
          obtain rfl := Option.some.inj h3
          refine f_sub (L' := [(0, .ref a0), (1, .int (s2 + 1))]) [1, 0] rfl ?_
          exact go4 _ rfl
        · replace h3 := fi_neg h3 c47
          refine f_iconst (v := 0) hC dX5_isRight_88 (by decide) ?_
          obtain rfl := Option.some.inj h3
          obtain rfl := ou5 _ rfl
          obtain rfl := Option.some.inj hF
          exact f_zret hC hEn (fSm.rf w) (nar_z (by decide)) dX5_isRight_89
    refine f_sub (L' := [(0, .ref a0), (1, .int s2), (2, .int 0)]) [1, 2, 0] rfl ?_
    refine fLoop_ind (fun (s14 : Int32) => fAt X 0 0 3 (sI w 500 a0 0 0) [(0, .ref a0), (1, .int s2), (2, .int s14)] [] 19) (fun s14 y19 h15 go16 ou17 => ?_) h21
    refine f_iload_n hC dX5_isRight_19 rfl 2 rfl ?_
    refine f_iconst (v := 2) hC dX5_isRight_20 (by decide) ?_
    refine f_icmp_ge hC 61 dX5_isRight_21 (by decide) (fun c23 => ?_) (fun c23 => ?_)
    · replace h15 := fi_pos h15 c23
      obtain rfl := Option.some.inj h15
      have eo := ou17 _ rfl
      refine f_sub (L' := [(0, .ref a0), (1, .int s2)]) [0, 1] rfl ?_
      exact K22 _ eo.symm
    · replace h15 := fi_neg h15 c23
      refine f_aload_n hC dX5_isRight_24 rfl 0 rfl ?_
      refine f_iload_n hC dX5_isRight_25 rfl 1 rfl ?_
      refine f_iload_n hC dX5_isRight_26 rfl 2 rfl ?_
      obtain ⟨r24, h25, h15⟩ := fb_open h15
      refine f_callV hC [.int s2, .int s14] (c_X5_isPunched l D cy a0 s2 s14 (sI w 500 a0 0 0) r24 h25) q_1479 q_137 q_1476 q_1478 q_95 h9_X5_isPunched rfl (fSm.k (fSm.rf w) g1) ⟨Nat.le_of_ble_eq_true rfl, Nat.le_of_ble_eq_true rfl⟩ ⟨Nat.le_of_ble_eq_true rfl, Nat.le_of_ble_eq_true rfl⟩ (Nat.le_of_ble_eq_true rfl) rfl dX5_isRight_27 (fun e26 => ?_)
      refine f_if_eq hC 55 dX5_isRight_30 (by decide) (fun c27 => ?_) (fun c27 => ?_)
      · replace h15 := fi_pos h15 c27
        refine f_iinc (L' := [(2, .int (s14 + 1)), (0, .ref a0), (1, .int s2)]) hC dX5_isRight_55 2 rfl rfl (by decide) rfl ?_
        refine f_goto hC 19 dX5_isRight_58 (by decide) ?_
        obtain rfl := Option.some.inj h15
        refine f_sub (L' := [(0, .ref a0), (1, .int s2), (2, .int (s14 + 1))]) [1, 2, 0] rfl ?_
        exact go16 _ rfl
      · replace h15 := fi_neg h15 c27
        refine f_aload_n hC dX5_isRight_33 rfl 0 rfl ?_
        refine f_iload_n hC dX5_isRight_34 rfl 1 rfl ?_
        refine f_iload_n hC dX5_isRight_35 rfl 2 rfl ?_
        refine f_iconst (v := 1) hC dX5_isRight_36 (by decide) ?_
        obtain ⟨r28, h29, h15⟩ := fb_open h15
        refine f_callV hC [.int s2, .int s14, .int 1] (c_X5_half l D cy a0 s2 s14 1 (sI w 500 a0 0 0) r28 h29) q_1483 q_137 q_1480 q_1482 q_96 h9_X5_half rfl (fSm.k (fSm.rf w) g1) ⟨Nat.le_of_ble_eq_true rfl, Nat.le_of_ble_eq_true rfl⟩ ⟨Nat.le_of_ble_eq_true rfl, Nat.le_of_ble_eq_true rfl⟩ (Nat.le_of_ble_eq_true rfl) rfl dX5_isRight_37 (fun e30 => ?_)
        refine f_iconst (v := 3) hC dX5_isRight_40 (by decide) ?_
        refine f_icmp_ge hC 55 dX5_isRight_41 (by decide) (fun c31 => ?_) (fun c31 => ?_)
        · replace h15 := fi_pos h15 c31
          refine f_iinc (L' := [(2, .int (s14 + 1)), (0, .ref a0), (1, .int s2)]) hC dX5_isRight_55 2 rfl rfl (by decide) rfl ?_
          refine f_goto hC 19 dX5_isRight_58 (by decide) ?_
          obtain rfl := Option.some.inj h15
          refine f_sub (L' := [(0, .ref a0), (1, .int s2), (2, .int (s14 + 1))]) [1, 2, 0] rfl ?_
          exact go16 _ rfl
        · replace h15 := fi_neg h15 c31
          refine f_aload_n hC dX5_isRight_44 rfl 0 rfl ?_
          refine f_iload_n hC dX5_isRight_45 rfl 1 rfl ?_
          refine f_iload_n hC dX5_isRight_46 rfl 2 rfl ?_
          obtain ⟨r32, h33, h15⟩ := fb_open h15
          refine f_callV hC [.int s2, .int s14] (c_X5_isRead l D cy a0 s2 s14 (sI w 500 a0 0 0) r32 h33) q_1605 q_137 q_1602 q_1604 q_114 h9_X5_isRead rfl (fSm.k (fSm.rf w) g1) ⟨Nat.le_of_ble_eq_true rfl, Nat.le_of_ble_eq_true rfl⟩ ⟨Nat.le_of_ble_eq_true rfl, Nat.le_of_ble_eq_true rfl⟩ (Nat.le_of_ble_eq_true rfl) rfl dX5_isRight_47 (fun e34 => ?_)
          refine f_if_ne hC 55 dX5_isRight_50 (by decide) (fun c35 => ?_) (fun c35 => ?_)
          · replace h15 := fi_neg h15 c35
            refine f_iinc (L' := [(2, .int (s14 + 1)), (0, .ref a0), (1, .int s2)]) hC dX5_isRight_55 2 rfl rfl (by decide) rfl ?_
            refine f_goto hC 19 dX5_isRight_58 (by decide) ?_
            obtain rfl := Option.some.inj h15
            refine f_sub (L' := [(0, .ref a0), (1, .int s2), (2, .int (s14 + 1))]) [1, 2, 0] rfl ?_
            exact go16 _ rfl
          · replace h15 := fi_pos h15 c35
            refine f_iconst (v := 0) hC dX5_isRight_53 (by decide) ?_
            obtain rfl := Option.some.inj h15
            obtain rfl := ou17 _ rfl
            obtain rfl := Option.some.inj h3
            obtain rfl := ou5 _ rfl
            obtain rfl := Option.some.inj hF
            exact f_zret hC hEn (fSm.rf w) (nar_z (by decide)) dX5_isRight_54
theorem dX5_writes_0 : decode cX5_writes 0 = .ok (.aload_n 0, 1) := by decide +kernel
theorem dX5_writes_1 : decode cX5_writes 1 = .ok (.getfield 28, 3) := by decide +kernel
theorem dX5_writes_4 : decode cX5_writes 4 = .ok (.aload_n 0, 1) := by decide +kernel
theorem dX5_writes_5 : decode cX5_writes 5 = .ok (.getfield 231, 3) := by decide +kernel
theorem dX5_writes_8 : decode cX5_writes 8 = .ok (.iload_n 1, 1) := by decide +kernel
theorem dX5_writes_9 : decode cX5_writes 9 = .ok (.iastore, 1) := by decide +kernel
theorem dX5_writes_10 : decode cX5_writes 10 = .ok (.aload_n 0, 1) := by decide +kernel
theorem dX5_writes_11 : decode cX5_writes 11 = .ok (.dup, 1) := by decide +kernel
theorem dX5_writes_12 : decode cX5_writes 12 = .ok (.getfield 231, 3) := by decide +kernel
theorem dX5_writes_15 : decode cX5_writes 15 = .ok (.iconst 1, 1) := by decide +kernel
theorem dX5_writes_16 : decode cX5_writes 16 = .ok (.iadd, 1) := by decide +kernel
theorem dX5_writes_17 : decode cX5_writes 17 = .ok (.putfield 231, 3) := by decide +kernel
theorem dX5_writes_20 : decode cX5_writes 20 = .ok (.return_, 1) := by decide +kernel
theorem h9_X5_writes : yX5_writes.cls ≠ "java/lang/invoke/MethodHandle" ∧ yX5_writes.cls ≠ "java/lang/invoke/VarHandle" ∧ (parseMethodDescriptor yX5_writes.desc).map (fun d => d.parameters.length) = some 1 := by decide +kernel
noncomputable def F_X5_writes (a0 : Nat) (x1 : Int32) (w : FW) : Option (FW) :=
  fg (w.1 a0 = 6) inferInstance (fg (w.1 (gR w 509 a0 0) = 11) inferInstance (fg (¬ ((gI w 512 a0 0) < 0 ∨ w.2.1 (gR w 509 a0 0) ≤ Int32.toNatClampNeg (gI w 512 a0 0))) inferInstance (some (sI (sI w 601 (gR w 509 a0 0) (Int32.toNatClampNeg (gI w 512 a0 0)) x1) 512 a0 0 ((gI (sI w 601 (gR w 509 a0 0) (Int32.toNatClampNeg (gI w 512 a0 0)) x1) 512 a0 0) + 1)))))
set_option maxHeartbeats 4000000 in
set_option maxRecDepth 100000 in
theorem c_X5_writes (l : Launch) (D : va_G) (cy : Nat → ClassId) (a0 : Nat) (x1 : Int32) (w : FW) (r : FW) (hF : F_X5_writes a0 x1 w = some r) : fSpec l D cy yX5_writes cX5_writes 2 none { frames := 0, cells := 0, slots := 0, locals := 0 } [.ref a0, .int x1] w r none := by
  refine f_begin (by decide +kernel) (Nat.le_of_ble_eq_true rfl) (fun X hC hEn => ?_)
  unfold F_X5_writes at hF
  show fAt X 0 0 2 w [(0, .ref a0), (1, .int x1)] [] 0
  refine f_aload_n hC dX5_writes_0 rfl 0 rfl ?_
  obtain ⟨g1, hF⟩ := fg_open hF
  refine f_getR hC 5 9 509 rfl (by decide) iX5 q_1268 rfl rfl (fSm.k (fSm.rf w) g1) dX5_writes_1 ?_
  refine f_aload_n hC dX5_writes_4 rfl 0 rfl ?_
  refine f_getI hC 5 12 512 rfl (by decide) iX5 q_1271 rfl rfl (fSm.k (fSm.rf w) g1) dX5_writes_5 ?_
  refine f_iload_n hC dX5_writes_8 rfl 1 rfl ?_
  obtain ⟨g2, hF⟩ := fg_open hF
  obtain ⟨g3, hF⟩ := fg_open hF
  refine f_iast hC (fSm.k (fSm.rf w) g2) (fSm.v (fSm.rf w) g3) dX5_writes_9 ?_
  refine f_aload_n hC dX5_writes_10 rfl 0 rfl ?_
  refine f_dup hC dX5_writes_11 rfl ?_
  refine f_getI hC 5 12 512 rfl (by decide) iX5 q_1271 rfl rfl (fSm.k (fSm.rf w) g1) dX5_writes_12 ?_
  refine f_iconst (v := 1) hC dX5_writes_15 (by decide) ?_
  refine f_iadd hC dX5_writes_16 ?_
  refine f_putI hC 5 12 512 rfl (by decide) iX5 tyX5 tyX5_ok nmX5 q_1271 rfl rfl rfl rfl rfl (fSm.k (fSm.rf w) g1) dX5_writes_17 ?_
  obtain rfl := Option.some.inj hF
  exact f_vret hC hEn (fSm.rf w) dX5_writes_20
theorem dX5_writesHalf_0 : decode cX5_writesHalf 0 = .ok (.aload_n 0, 1) := by decide +kernel
theorem dX5_writesHalf_1 : decode cX5_writesHalf 1 = .ok (.iload_n 1, 1) := by decide +kernel
theorem dX5_writesHalf_2 : decode cX5_writesHalf 2 = .ok (.iload_n 2, 1) := by decide +kernel
theorem dX5_writesHalf_3 : decode cX5_writesHalf 3 = .ok (.iconst 2, 1) := by decide +kernel
theorem dX5_writesHalf_4 : decode cX5_writesHalf 4 = .ok (.invokevirtual 78, 3) := by decide +kernel
theorem dX5_writesHalf_7 : decode cX5_writesHalf 7 = .ok (.iconst 1, 1) := by decide +kernel
theorem dX5_writesHalf_8 : decode cX5_writesHalf 8 = .ok (.if_icmp .ne 12, 3) := by decide +kernel
theorem dX5_writesHalf_11 : decode cX5_writesHalf 11 = .ok (.aload_n 0, 1) := by decide +kernel
theorem dX5_writesHalf_12 : decode cX5_writesHalf 12 = .ok (.bipush 95, 2) := by decide +kernel
theorem dX5_writesHalf_14 : decode cX5_writesHalf 14 = .ok (.invokevirtual 234, 3) := by decide +kernel
theorem dX5_writesHalf_17 : decode cX5_writesHalf 17 = .ok (.goto 50, 3) := by decide +kernel
theorem dX5_writesHalf_20 : decode cX5_writesHalf 20 = .ok (.aload_n 0, 1) := by decide +kernel
theorem dX5_writesHalf_21 : decode cX5_writesHalf 21 = .ok (.iload_n 1, 1) := by decide +kernel
theorem dX5_writesHalf_22 : decode cX5_writesHalf 22 = .ok (.iload_n 2, 1) := by decide +kernel
theorem dX5_writesHalf_23 : decode cX5_writesHalf 23 = .ok (.invokevirtual 92, 3) := by decide +kernel
theorem dX5_writesHalf_26 : decode cX5_writesHalf 26 = .ok (.ifCond .ne 12, 3) := by decide +kernel
theorem dX5_writesHalf_29 : decode cX5_writesHalf 29 = .ok (.aload_n 0, 1) := by decide +kernel
theorem dX5_writesHalf_30 : decode cX5_writesHalf 30 = .ok (.bipush 46, 2) := by decide +kernel
theorem dX5_writesHalf_32 : decode cX5_writesHalf 32 = .ok (.invokevirtual 234, 3) := by decide +kernel
theorem dX5_writesHalf_35 : decode cX5_writesHalf 35 = .ok (.goto 32, 3) := by decide +kernel
theorem dX5_writesHalf_38 : decode cX5_writesHalf 38 = .ok (.iconst 0, 1) := by decide +kernel
theorem dX5_writesHalf_39 : decode cX5_writesHalf 39 = .ok (.istore_n 3, 1) := by decide +kernel
theorem dX5_writesHalf_40 : decode cX5_writesHalf 40 = .ok (.iload_n 3, 1) := by decide +kernel
theorem dX5_writesHalf_41 : decode cX5_writesHalf 41 = .ok (.aload_n 0, 1) := by decide +kernel
theorem dX5_writesHalf_42 : decode cX5_writesHalf 42 = .ok (.iload_n 1, 1) := by decide +kernel
theorem dX5_writesHalf_43 : decode cX5_writesHalf 43 = .ok (.iconst 0, 1) := by decide +kernel
theorem dX5_writesHalf_44 : decode cX5_writesHalf 44 = .ok (.invokevirtual 70, 3) := by decide +kernel
theorem dX5_writesHalf_47 : decode cX5_writesHalf 47 = .ok (.if_icmp .ge 20, 3) := by decide +kernel
theorem dX5_writesHalf_50 : decode cX5_writesHalf 50 = .ok (.aload_n 0, 1) := by decide +kernel
theorem dX5_writesHalf_51 : decode cX5_writesHalf 51 = .ok (.aload_n 0, 1) := by decide +kernel
theorem dX5_writesHalf_52 : decode cX5_writesHalf 52 = .ok (.iload_n 1, 1) := by decide +kernel
theorem dX5_writesHalf_53 : decode cX5_writesHalf 53 = .ok (.iload_n 2, 1) := by decide +kernel
theorem dX5_writesHalf_54 : decode cX5_writesHalf 54 = .ok (.iload_n 3, 1) := by decide +kernel
theorem dX5_writesHalf_55 : decode cX5_writesHalf 55 = .ok (.invokevirtual 116, 3) := by decide +kernel
theorem dX5_writesHalf_58 : decode cX5_writesHalf 58 = .ok (.invokevirtual 234, 3) := by decide +kernel
theorem dX5_writesHalf_61 : decode cX5_writesHalf 61 = .ok (.iinc 3 1, 3) := by decide +kernel
theorem dX5_writesHalf_64 : decode cX5_writesHalf 64 = .ok (.goto (-24), 3) := by decide +kernel
theorem dX5_writesHalf_67 : decode cX5_writesHalf 67 = .ok (.return_, 1) := by decide +kernel
theorem h9_X5_writesHalf : yX5_writesHalf.cls ≠ "java/lang/invoke/MethodHandle" ∧ yX5_writesHalf.cls ≠ "java/lang/invoke/VarHandle" ∧ (parseMethodDescriptor yX5_writesHalf.desc).map (fun d => d.parameters.length) = some 2 := by decide +kernel
noncomputable def F_X5_writesHalf (a0 : Nat) (x1 : Int32) (x2 : Int32) (w : FW) : Option (FW) :=
  fg (w.1 a0 = 6) inferInstance ((F_X5_half a0 x1 x2 2 w).bind (fun r1 => (if r1 = 1 then (F_X5_writes a0 95 w).bind (fun r32 => some r32) else (F_X5_isPunched a0 x1 x2 w).bind (fun r6 => (if r6 = 0 then (F_X5_writes a0 46 w).bind (fun r29 => some r29) else (fLoop (σ := Int32 × FW) (ρ := FW) (fun s10 => (F_X5_of a0 x1 0 s10.2).bind (fun r19 => (if r19 ≤ s10.1 then some (.inr s10.2) else (F_X5_reads a0 x1 x2 s10.1 s10.2).bind (fun r23 => (F_X5_writes a0 r23 s10.2).bind (fun r26 => some (.inl ((s10.1 + 1), r26))))))) (0, w)).bind (fun x16 => some x16))))))
set_option maxHeartbeats 4000000 in
set_option maxRecDepth 100000 in
theorem c_X5_writesHalf (l : Launch) (D : va_G) (cy : Nat → ClassId) (a0 : Nat) (x1 : Int32) (x2 : Int32) (w : FW) (r : FW) (hF : F_X5_writesHalf a0 x1 x2 w = some r) : fSpec l D cy yX5_writesHalf cX5_writesHalf 4 none { frames := 7, cells := 0, slots := 0, locals := 165 } [.ref a0, .int x1, .int x2] w r none := by
  refine f_begin (by decide +kernel) (Nat.le_of_ble_eq_true rfl) (fun X hC hEn => ?_)
  unfold F_X5_writesHalf at hF
  show fAt X 0 0 4 w [(0, .ref a0), (1, .int x1), (2, .int x2)] [] 0
  refine f_aload_n hC dX5_writesHalf_0 rfl 0 rfl ?_
  refine f_iload_n hC dX5_writesHalf_1 rfl 1 rfl ?_
  refine f_iload_n hC dX5_writesHalf_2 rfl 2 rfl ?_
  refine f_iconst (v := 2) hC dX5_writesHalf_3 (by decide) ?_
  obtain ⟨g3, hF⟩ := fg_open hF
  obtain ⟨r1, h2, hF⟩ := fb_open hF
  refine f_callV hC [.int x1, .int x2, .int 2] (c_X5_half l D cy a0 x1 x2 2 w r1 h2) q_1483 q_137 q_1480 q_1482 q_96 h9_X5_half rfl (fSm.k (fSm.rf w) g3) ⟨Nat.le_of_ble_eq_true rfl, Nat.le_of_ble_eq_true rfl⟩ ⟨Nat.le_of_ble_eq_true rfl, Nat.le_of_ble_eq_true rfl⟩ (Nat.le_of_ble_eq_true rfl) rfl dX5_writesHalf_4 (fun e4 => ?_)
  refine f_iconst (v := 1) hC dX5_writesHalf_7 (by decide) ?_
  refine f_icmp_ne hC 20 dX5_writesHalf_8 (by decide) (fun c5 => ?_) (fun c5 => ?_)
  · replace hF := fi_neg hF c5
    refine f_aload_n hC dX5_writesHalf_20 rfl 0 rfl ?_
    refine f_iload_n hC dX5_writesHalf_21 rfl 1 rfl ?_
    refine f_iload_n hC dX5_writesHalf_22 rfl 2 rfl ?_
    obtain ⟨r6, h7, hF⟩ := fb_open hF
    refine f_callV hC [.int x1, .int x2] (c_X5_isPunched l D cy a0 x1 x2 w r6 h7) q_1479 q_137 q_1476 q_1478 q_95 h9_X5_isPunched rfl (fSm.k (fSm.rf w) g3) ⟨Nat.le_of_ble_eq_true rfl, Nat.le_of_ble_eq_true rfl⟩ ⟨Nat.le_of_ble_eq_true rfl, Nat.le_of_ble_eq_true rfl⟩ (Nat.le_of_ble_eq_true rfl) rfl dX5_writesHalf_23 (fun e8 => ?_)
    refine f_if_ne hC 38 dX5_writesHalf_26 (by decide) (fun c9 => ?_) (fun c9 => ?_)
    · replace hF := fi_neg hF c9
      refine f_iconst (v := 0) hC dX5_writesHalf_38 (by decide) ?_
      refine f_istore_n (L' := [(3, .int 0), (0, .ref a0), (1, .int x1), (2, .int x2)]) hC dX5_writesHalf_39 rfl (by decide) rfl ?_
      obtain ⟨x16, h17, hF⟩ := fb_open hF
      have K18 : fSm x16 w → fAt X 0 0 4 x16 [] [] 67 := by
        intro p14
        obtain rfl := Option.some.inj hF
        exact f_vret hC hEn p14 dX5_writesHalf_67
      refine f_sub (L' := [(0, .ref a0), (1, .int x1), (2, .int x2), (3, .int 0)]) [1, 2, 3, 0] rfl ?_
      refine fLoop_ind (fun (s10 : Int32 × FW) => fSm s10.2 w → fAt X 0 0 4 s10.2 [(0, .ref a0), (1, .int x1), (2, .int x2), (3, .int s10.1)] [] 40) (fun s10 y15 h11 go12 ou13 => ?_) h17 (fSm.rf w)
      intro p14
      refine f_iload_n hC dX5_writesHalf_40 rfl 3 rfl ?_
      refine f_aload_n hC dX5_writesHalf_41 rfl 0 rfl ?_
      refine f_iload_n hC dX5_writesHalf_42 rfl 1 rfl ?_
      refine f_iconst (v := 0) hC dX5_writesHalf_43 (by decide) ?_
      obtain ⟨r19, h20, h11⟩ := fb_open h11
      refine f_callV hC [.int x1, .int 0] (c_X5_of l D cy a0 x1 0 s10.2 r19 h20) q_1452 q_137 q_1449 q_1451 q_91 h9_X5_of rfl (fSm.k p14 g3) ⟨Nat.le_of_ble_eq_true rfl, Nat.le_of_ble_eq_true rfl⟩ ⟨Nat.le_of_ble_eq_true rfl, Nat.le_of_ble_eq_true rfl⟩ (Nat.le_of_ble_eq_true rfl) rfl dX5_writesHalf_44 (fun e21 => ?_)
      refine f_icmp_ge hC 67 dX5_writesHalf_47 (by decide) (fun c22 => ?_) (fun c22 => ?_)
      · replace h11 := fi_pos h11 c22
        obtain rfl := Option.some.inj h11
        obtain rfl := ou13 _ rfl
        refine f_sub (L' := []) [] rfl ?_
        exact K18 p14
      · replace h11 := fi_neg h11 c22
        refine f_aload_n hC dX5_writesHalf_50 rfl 0 rfl ?_
        refine f_aload_n hC dX5_writesHalf_51 rfl 0 rfl ?_
        refine f_iload_n hC dX5_writesHalf_52 rfl 1 rfl ?_
        refine f_iload_n hC dX5_writesHalf_53 rfl 2 rfl ?_
        refine f_iload_n hC dX5_writesHalf_54 rfl 3 rfl ?_
        obtain ⟨r23, h24, h11⟩ := fb_open h11
        refine f_callV hC [.int x1, .int x2, .int s10.1] (c_X5_reads l D cy a0 x1 x2 s10.1 s10.2 r23 h24) q_1565 q_137 q_1562 q_1564 q_109 h9_X5_reads rfl (fSm.k p14 g3) ⟨Nat.le_of_ble_eq_true rfl, Nat.le_of_ble_eq_true rfl⟩ ⟨Nat.le_of_ble_eq_true rfl, Nat.le_of_ble_eq_true rfl⟩ (Nat.le_of_ble_eq_true rfl) rfl dX5_writesHalf_55 (fun e25 => ?_)
        obtain ⟨r26, h27, h11⟩ := fb_open h11
        refine f_callV hC [.int r23] (c_X5_writes l D cy a0 r23 s10.2 r26 h27) q_1665 q_137 q_1662 q_1664 q_120 h9_X5_writes rfl (fSm.k p14 g3) ⟨Nat.le_of_ble_eq_true rfl, Nat.le_of_ble_eq_true rfl⟩ ⟨Nat.le_of_ble_eq_true rfl, Nat.le_of_ble_eq_true rfl⟩ (Nat.le_of_ble_eq_true rfl) rfl dX5_writesHalf_58 (fun e28 => ?_)
        refine f_iinc (L' := [(3, .int (s10.1 + 1)), (0, .ref a0), (1, .int x1), (2, .int x2)]) hC dX5_writesHalf_61 3 rfl rfl (by decide) rfl ?_
        refine f_goto hC 40 dX5_writesHalf_64 (by decide) ?_
        obtain rfl := Option.some.inj h11
        refine f_sub (L' := [(0, .ref a0), (1, .int x1), (2, .int x2), (3, .int (s10.1 + 1))]) [1, 2, 3, 0] rfl ?_
        exact go12 _ rfl (fSm.tr e28 p14)
    · replace hF := fi_pos hF c9
      refine f_aload_n hC dX5_writesHalf_29 rfl 0 rfl ?_
      refine f_bipush (v := 46) hC dX5_writesHalf_30 (by decide) ?_
      obtain ⟨r29, h30, hF⟩ := fb_open hF
      refine f_callV hC [.int 46] (c_X5_writes l D cy a0 46 w r29 h30) q_1665 q_137 q_1662 q_1664 q_120 h9_X5_writes rfl (fSm.k (fSm.rf w) g3) ⟨Nat.le_of_ble_eq_true rfl, Nat.le_of_ble_eq_true rfl⟩ ⟨Nat.le_of_ble_eq_true rfl, Nat.le_of_ble_eq_true rfl⟩ (Nat.le_of_ble_eq_true rfl) rfl dX5_writesHalf_32 (fun e31 => ?_)
      refine f_goto hC 67 dX5_writesHalf_35 (by decide) ?_
      obtain rfl := Option.some.inj hF
      exact f_vret hC hEn (fSm.tr e31 (fSm.rf w)) dX5_writesHalf_67
  · replace hF := fi_pos hF c5
    refine f_aload_n hC dX5_writesHalf_11 rfl 0 rfl ?_
    refine f_bipush (v := 95) hC dX5_writesHalf_12 (by decide) ?_
    obtain ⟨r32, h33, hF⟩ := fb_open hF
    refine f_callV hC [.int 95] (c_X5_writes l D cy a0 95 w r32 h33) q_1665 q_137 q_1662 q_1664 q_120 h9_X5_writes rfl (fSm.k (fSm.rf w) g3) ⟨Nat.le_of_ble_eq_true rfl, Nat.le_of_ble_eq_true rfl⟩ ⟨Nat.le_of_ble_eq_true rfl, Nat.le_of_ble_eq_true rfl⟩ (Nat.le_of_ble_eq_true rfl) rfl dX5_writesHalf_14 (fun e34 => ?_)
    refine f_goto hC 67 dX5_writesHalf_17 (by decide) ?_
    obtain rfl := Option.some.inj hF
    exact f_vret hC hEn (fSm.tr e34 (fSm.rf w)) dX5_writesHalf_67
theorem dX5_line_0 : decode cX5_line 0 = .ok (.aload_n 0, 1) := by decide +kernel
theorem dX5_line_1 : decode cX5_line 1 = .ok (.aload_n 0, 1) := by decide +kernel
theorem dX5_line_2 : decode cX5_line 2 = .ok (.iload_n 1, 1) := by decide +kernel
theorem dX5_line_3 : decode cX5_line 3 = .ok (.invokevirtual 135, 3) := by decide +kernel
theorem dX5_line_6 : decode cX5_line 6 = .ok (.ifCond .eq 7, 3) := by decide +kernel
theorem dX5_line_9 : decode cX5_line 9 = .ok (.iconst 0, 1) := by decide +kernel
theorem dX5_line_10 : decode cX5_line 10 = .ok (.goto 4, 3) := by decide +kernel
theorem dX5_line_13 : decode cX5_line 13 = .ok (.iconst 1, 1) := by decide +kernel
theorem dX5_line_14 : decode cX5_line 14 = .ok (.putfield 41, 3) := by decide +kernel
theorem dX5_line_17 : decode cX5_line 17 = .ok (.aload_n 0, 1) := by decide +kernel
theorem dX5_line_18 : decode cX5_line 18 = .ok (.getfield 41, 3) := by decide +kernel
theorem dX5_line_21 : decode cX5_line 21 = .ok (.ifCond .le 5, 3) := by decide +kernel
theorem dX5_line_24 : decode cX5_line 24 = .ok (.iconst 0, 1) := by decide +kernel
theorem dX5_line_25 : decode cX5_line 25 = .ok (.ireturn, 1) := by decide +kernel
theorem dX5_line_26 : decode cX5_line 26 = .ok (.aload_n 0, 1) := by decide +kernel
theorem dX5_line_27 : decode cX5_line 27 = .ok (.iconst 0, 1) := by decide +kernel
theorem dX5_line_28 : decode cX5_line 28 = .ok (.putfield 231, 3) := by decide +kernel
theorem dX5_line_31 : decode cX5_line 31 = .ok (.aload_n 0, 1) := by decide +kernel
theorem dX5_line_32 : decode cX5_line 32 = .ok (.iload_n 1, 1) := by decide +kernel
theorem dX5_line_33 : decode cX5_line 33 = .ok (.iconst 0, 1) := by decide +kernel
theorem dX5_line_34 : decode cX5_line 34 = .ok (.invokevirtual 238, 3) := by decide +kernel
theorem dX5_line_37 : decode cX5_line 37 = .ok (.aload_n 0, 1) := by decide +kernel
theorem dX5_line_38 : decode cX5_line 38 = .ok (.aload_n 0, 1) := by decide +kernel
theorem dX5_line_39 : decode cX5_line 39 = .ok (.iload_n 1, 1) := by decide +kernel
theorem dX5_line_40 : decode cX5_line 40 = .ok (.bipush 10, 2) := by decide +kernel
theorem dX5_line_42 : decode cX5_line 42 = .ok (.invokevirtual 70, 3) := by decide +kernel
theorem dX5_line_45 : decode cX5_line 45 = .ok (.iconst 1, 1) := by decide +kernel
theorem dX5_line_46 : decode cX5_line 46 = .ok (.if_icmp .ne 8, 3) := by decide +kernel
theorem dX5_line_49 : decode cX5_line 49 = .ok (.bipush 47, 2) := by decide +kernel
theorem dX5_line_51 : decode cX5_line 51 = .ok (.goto 5, 3) := by decide +kernel
theorem dX5_line_54 : decode cX5_line 54 = .ok (.bipush 45, 2) := by decide +kernel
theorem dX5_line_56 : decode cX5_line 56 = .ok (.invokevirtual 234, 3) := by decide +kernel
theorem dX5_line_59 : decode cX5_line 59 = .ok (.aload_n 0, 1) := by decide +kernel
theorem dX5_line_60 : decode cX5_line 60 = .ok (.iload_n 1, 1) := by decide +kernel
theorem dX5_line_61 : decode cX5_line 61 = .ok (.iconst 1, 1) := by decide +kernel
theorem dX5_line_62 : decode cX5_line 62 = .ok (.invokevirtual 238, 3) := by decide +kernel
theorem dX5_line_65 : decode cX5_line 65 = .ok (.aload_n 0, 1) := by decide +kernel
theorem dX5_line_66 : decode cX5_line 66 = .ok (.bipush 58, 2) := by decide +kernel
theorem dX5_line_68 : decode cX5_line 68 = .ok (.invokevirtual 234, 3) := by decide +kernel
theorem dX5_line_71 : decode cX5_line 71 = .ok (.aload_n 0, 1) := by decide +kernel
theorem dX5_line_72 : decode cX5_line 72 = .ok (.bipush 48, 2) := by decide +kernel
theorem dX5_line_74 : decode cX5_line 74 = .ok (.aload_n 0, 1) := by decide +kernel
theorem dX5_line_75 : decode cX5_line 75 = .ok (.iload_n 1, 1) := by decide +kernel
theorem dX5_line_76 : decode cX5_line 76 = .ok (.bipush 7, 2) := by decide +kernel
theorem dX5_line_78 : decode cX5_line 78 = .ok (.invokevirtual 70, 3) := by decide +kernel
theorem dX5_line_81 : decode cX5_line 81 = .ok (.iadd, 1) := by decide +kernel
theorem dX5_line_82 : decode cX5_line 82 = .ok (.invokevirtual 234, 3) := by decide +kernel
theorem dX5_line_85 : decode cX5_line 85 = .ok (.aload_n 0, 1) := by decide +kernel
theorem dX5_line_86 : decode cX5_line 86 = .ok (.bipush 62, 2) := by decide +kernel
theorem dX5_line_88 : decode cX5_line 88 = .ok (.invokevirtual 234, 3) := by decide +kernel
theorem dX5_line_91 : decode cX5_line 91 = .ok (.aload_n 0, 1) := by decide +kernel
theorem dX5_line_92 : decode cX5_line 92 = .ok (.bipush 48, 2) := by decide +kernel
theorem dX5_line_94 : decode cX5_line 94 = .ok (.aload_n 0, 1) := by decide +kernel
theorem dX5_line_95 : decode cX5_line 95 = .ok (.iload_n 1, 1) := by decide +kernel
theorem dX5_line_96 : decode cX5_line 96 = .ok (.bipush 8, 2) := by decide +kernel
theorem dX5_line_98 : decode cX5_line 98 = .ok (.invokevirtual 70, 3) := by decide +kernel
theorem dX5_line_101 : decode cX5_line 101 = .ok (.iadd, 1) := by decide +kernel
theorem dX5_line_102 : decode cX5_line 102 = .ok (.invokevirtual 234, 3) := by decide +kernel
theorem dX5_line_105 : decode cX5_line 105 = .ok (.aload_n 0, 1) := by decide +kernel
theorem dX5_line_106 : decode cX5_line 106 = .ok (.getfield 231, 3) := by decide +kernel
theorem dX5_line_109 : decode cX5_line 109 = .ok (.ireturn, 1) := by decide +kernel
theorem h9_X5_line : yX5_line.cls ≠ "java/lang/invoke/MethodHandle" ∧ yX5_line.cls ≠ "java/lang/invoke/VarHandle" ∧ (parseMethodDescriptor yX5_line.desc).map (fun d => d.parameters.length) = some 1 := by decide +kernel
noncomputable def F_X5_line (a0 : Nat) (x1 : Int32) (w : FW) : Option (Int32 × FW) :=
  fg (w.1 a0 = 6) inferInstance ((F_X5_isTicket a0 x1 w).bind (fun r1 => ((if r1 = 0 then some 1 else some 0) : Option (Int32)).bind (fun x5 => (if (gI (sI w 500 a0 0 x5) 500 a0 0) ≤ 0 then (F_X5_writesHalf a0 x1 0 (sI (sI w 500 a0 0 x5) 512 a0 0 0)).bind (fun r10 => (F_X5_of a0 x1 10 r10).bind (fun r13 => ((if r13 = 1 then some 47 else some 45) : Option (Int32)).bind (fun x16 => (F_X5_writes a0 x16 r10).bind (fun r20 => (F_X5_writesHalf a0 x1 1 r20).bind (fun r23 => (F_X5_writes a0 58 r23).bind (fun r26 => (F_X5_of a0 x1 7 r26).bind (fun r29 => (F_X5_writes a0 (48 + r29) r26).bind (fun r32 => (F_X5_writes a0 62 r32).bind (fun r35 => (F_X5_of a0 x1 8 r35).bind (fun r38 => (F_X5_writes a0 (48 + r38) r35).bind (fun r41 => some ((gI r41 512 a0 0), r41)))))))))))) else some (0, (sI w 500 a0 0 x5))))))
set_option maxHeartbeats 4000000 in
set_option maxRecDepth 100000 in
theorem c_X5_line (l : Launch) (D : va_G) (cy : Nat → ClassId) (a0 : Nat) (x1 : Int32) (w : FW) (r : Int32 × FW) (hF : F_X5_line a0 x1 w = some r) : fSpec l D cy yX5_line cX5_line 2 (some .int) { frames := 8, cells := 0, slots := 0, locals := 188 } [.ref a0, .int x1] w r.2 (some (.int r.1)) := by
  refine f_begin (by decide +kernel) (Nat.le_of_ble_eq_true rfl) (fun X hC hEn => ?_)
  unfold F_X5_line at hF
  show fAt X 0 0 2 w [(0, .ref a0), (1, .int x1)] [] 0
  refine f_aload_n hC dX5_line_0 rfl 0 rfl ?_
  refine f_aload_n hC dX5_line_1 rfl 0 rfl ?_
  refine f_iload_n hC dX5_line_2 rfl 1 rfl ?_
  obtain ⟨g3, hF⟩ := fg_open hF
  obtain ⟨r1, h2, hF⟩ := fb_open hF
  refine f_callV hC [.int x1] (c_X5_isTicket l D cy a0 x1 w r1 h2) q_1420 q_137 q_1417 q_1419 q_86 h9_X5_isTicket rfl (fSm.k (fSm.rf w) g3) ⟨Nat.le_of_ble_eq_true rfl, Nat.le_of_ble_eq_true rfl⟩ ⟨Nat.le_of_ble_eq_true rfl, Nat.le_of_ble_eq_true rfl⟩ (Nat.le_of_ble_eq_true rfl) rfl dX5_line_3 (fun e4 => ?_)
  obtain ⟨x5, h6, hF⟩ := fb_open hF
  have K8 : fAt X 0 0 2 w [(0, .ref a0), (1, .int x1)] [.int x5, .ref a0] 14 := by
    refine f_putI hC 5 0 500 rfl (by decide) iX5 tyX5 tyX5_ok nmX5 q_1259 rfl rfl rfl rfl rfl (fSm.k (fSm.rf w) g3) dX5_line_14 ?_
    refine f_aload_n hC dX5_line_17 rfl 0 rfl ?_
    refine f_getI hC 5 0 500 rfl (by decide) iX5 q_1259 rfl rfl (fSm.k (fSm.rf w) g3) dX5_line_18 ?_
    refine f_if_le hC 26 dX5_line_21 (by decide) (fun c9 => ?_) (fun c9 => ?_)
    · replace hF := fi_pos hF c9
      refine f_aload_n hC dX5_line_26 rfl 0 rfl ?_
      refine f_iconst (v := 0) hC dX5_line_27 (by decide) ?_
      refine f_putI hC 5 12 512 rfl (by decide) iX5 tyX5 tyX5_ok nmX5 q_1271 rfl rfl rfl rfl rfl (fSm.k (fSm.rf w) g3) dX5_line_28 ?_
      refine f_aload_n hC dX5_line_31 rfl 0 rfl ?_
      refine f_iload_n hC dX5_line_32 rfl 1 rfl ?_
      refine f_iconst (v := 0) hC dX5_line_33 (by decide) ?_
      obtain ⟨r10, h11, hF⟩ := fb_open hF
      refine f_callV hC [.int x1, .int 0] (c_X5_writesHalf l D cy a0 x1 0 (sI (sI w 500 a0 0 x5) 512 a0 0 0) r10 h11) q_1661 q_137 q_1658 q_1660 q_119 h9_X5_writesHalf rfl (fSm.k (fSm.rf w) g3) ⟨Nat.le_of_ble_eq_true rfl, Nat.le_of_ble_eq_true rfl⟩ ⟨Nat.le_of_ble_eq_true rfl, Nat.le_of_ble_eq_true rfl⟩ (Nat.le_of_ble_eq_true rfl) rfl dX5_line_34 (fun e12 => ?_)
      refine f_aload_n hC dX5_line_37 rfl 0 rfl ?_
      refine f_aload_n hC dX5_line_38 rfl 0 rfl ?_
      refine f_iload_n hC dX5_line_39 rfl 1 rfl ?_
      refine f_bipush (v := 10) hC dX5_line_40 (by decide) ?_
      obtain ⟨r13, h14, hF⟩ := fb_open hF
      refine f_callV hC [.int x1, .int 10] (c_X5_of l D cy a0 x1 10 r10 r13 h14) q_1452 q_137 q_1449 q_1451 q_91 h9_X5_of rfl (fSm.k (fSm.tr e12 (fSm.rf w)) g3) ⟨Nat.le_of_ble_eq_true rfl, Nat.le_of_ble_eq_true rfl⟩ ⟨Nat.le_of_ble_eq_true rfl, Nat.le_of_ble_eq_true rfl⟩ (Nat.le_of_ble_eq_true rfl) rfl dX5_line_42 (fun e15 => ?_)
      refine f_iconst (v := 1) hC dX5_line_45 (by decide) ?_
      obtain ⟨x16, h17, hF⟩ := fb_open hF
      have K19 : fAt X 0 0 2 r10 [(0, .ref a0), (1, .int x1)] [.int x16, .ref a0] 56 := by
        obtain ⟨r20, h21, hF⟩ := fb_open hF
        refine f_callV hC [.int x16] (c_X5_writes l D cy a0 x16 r10 r20 h21) q_1665 q_137 q_1662 q_1664 q_120 h9_X5_writes rfl (fSm.k (fSm.tr e12 (fSm.rf w)) g3) ⟨Nat.le_of_ble_eq_true rfl, Nat.le_of_ble_eq_true rfl⟩ ⟨Nat.le_of_ble_eq_true rfl, Nat.le_of_ble_eq_true rfl⟩ (Nat.le_of_ble_eq_true rfl) rfl dX5_line_56 (fun e22 => ?_)
        refine f_aload_n hC dX5_line_59 rfl 0 rfl ?_
        refine f_iload_n hC dX5_line_60 rfl 1 rfl ?_
        refine f_iconst (v := 1) hC dX5_line_61 (by decide) ?_
        obtain ⟨r23, h24, hF⟩ := fb_open hF
        refine f_callV hC [.int x1, .int 1] (c_X5_writesHalf l D cy a0 x1 1 r20 r23 h24) q_1661 q_137 q_1658 q_1660 q_119 h9_X5_writesHalf rfl (fSm.k (fSm.tr e22 (fSm.tr e12 (fSm.rf w))) g3) ⟨Nat.le_of_ble_eq_true rfl, Nat.le_of_ble_eq_true rfl⟩ ⟨Nat.le_of_ble_eq_true rfl, Nat.le_of_ble_eq_true rfl⟩ (Nat.le_of_ble_eq_true rfl) rfl dX5_line_62 (fun e25 => ?_)
        refine f_aload_n hC dX5_line_65 rfl 0 rfl ?_
        refine f_bipush (v := 58) hC dX5_line_66 (by decide) ?_
        obtain ⟨r26, h27, hF⟩ := fb_open hF
        refine f_callV hC [.int 58] (c_X5_writes l D cy a0 58 r23 r26 h27) q_1665 q_137 q_1662 q_1664 q_120 h9_X5_writes rfl (fSm.k (fSm.tr e25 (fSm.tr e22 (fSm.tr e12 (fSm.rf w)))) g3) ⟨Nat.le_of_ble_eq_true rfl, Nat.le_of_ble_eq_true rfl⟩ ⟨Nat.le_of_ble_eq_true rfl, Nat.le_of_ble_eq_true rfl⟩ (Nat.le_of_ble_eq_true rfl) rfl dX5_line_68 (fun e28 => ?_)
        refine f_aload_n hC dX5_line_71 rfl 0 rfl ?_
        refine f_bipush (v := 48) hC dX5_line_72 (by decide) ?_
        refine f_aload_n hC dX5_line_74 rfl 0 rfl ?_
        refine f_iload_n hC dX5_line_75 rfl 1 rfl ?_
        refine f_bipush (v := 7) hC dX5_line_76 (by decide) ?_
        obtain ⟨r29, h30, hF⟩ := fb_open hF
        refine f_callV hC [.int x1, .int 7] (c_X5_of l D cy a0 x1 7 r26 r29 h30) q_1452 q_137 q_1449 q_1451 q_91 h9_X5_of rfl (fSm.k (fSm.tr e28 (fSm.tr e25 (fSm.tr e22 (fSm.tr e12 (fSm.rf w))))) g3) ⟨Nat.le_of_ble_eq_true rfl, Nat.le_of_ble_eq_true rfl⟩ ⟨Nat.le_of_ble_eq_true rfl, Nat.le_of_ble_eq_true rfl⟩ (Nat.le_of_ble_eq_true rfl) rfl dX5_line_78 (fun e31 => ?_)
        refine f_iadd hC dX5_line_81 ?_
        obtain ⟨r32, h33, hF⟩ := fb_open hF
        refine f_callV hC [.int (48 + r29)] (c_X5_writes l D cy a0 (48 + r29) r26 r32 h33) q_1665 q_137 q_1662 q_1664 q_120 h9_X5_writes rfl (fSm.k (fSm.tr e28 (fSm.tr e25 (fSm.tr e22 (fSm.tr e12 (fSm.rf w))))) g3) ⟨Nat.le_of_ble_eq_true rfl, Nat.le_of_ble_eq_true rfl⟩ ⟨Nat.le_of_ble_eq_true rfl, Nat.le_of_ble_eq_true rfl⟩ (Nat.le_of_ble_eq_true rfl) rfl dX5_line_82 (fun e34 => ?_)
        refine f_aload_n hC dX5_line_85 rfl 0 rfl ?_
        refine f_bipush (v := 62) hC dX5_line_86 (by decide) ?_
        obtain ⟨r35, h36, hF⟩ := fb_open hF
        refine f_callV hC [.int 62] (c_X5_writes l D cy a0 62 r32 r35 h36) q_1665 q_137 q_1662 q_1664 q_120 h9_X5_writes rfl (fSm.k (fSm.tr e34 (fSm.tr e28 (fSm.tr e25 (fSm.tr e22 (fSm.tr e12 (fSm.rf w)))))) g3) ⟨Nat.le_of_ble_eq_true rfl, Nat.le_of_ble_eq_true rfl⟩ ⟨Nat.le_of_ble_eq_true rfl, Nat.le_of_ble_eq_true rfl⟩ (Nat.le_of_ble_eq_true rfl) rfl dX5_line_88 (fun e37 => ?_)
        refine f_aload_n hC dX5_line_91 rfl 0 rfl ?_
        refine f_bipush (v := 48) hC dX5_line_92 (by decide) ?_
        refine f_aload_n hC dX5_line_94 rfl 0 rfl ?_
        refine f_iload_n hC dX5_line_95 rfl 1 rfl ?_
        refine f_bipush (v := 8) hC dX5_line_96 (by decide) ?_
        obtain ⟨r38, h39, hF⟩ := fb_open hF
        refine f_callV hC [.int x1, .int 8] (c_X5_of l D cy a0 x1 8 r35 r38 h39) q_1452 q_137 q_1449 q_1451 q_91 h9_X5_of rfl (fSm.k (fSm.tr e37 (fSm.tr e34 (fSm.tr e28 (fSm.tr e25 (fSm.tr e22 (fSm.tr e12 (fSm.rf w))))))) g3) ⟨Nat.le_of_ble_eq_true rfl, Nat.le_of_ble_eq_true rfl⟩ ⟨Nat.le_of_ble_eq_true rfl, Nat.le_of_ble_eq_true rfl⟩ (Nat.le_of_ble_eq_true rfl) rfl dX5_line_98 (fun e40 => ?_)
        refine f_iadd hC dX5_line_101 ?_
        obtain ⟨r41, h42, hF⟩ := fb_open hF
        refine f_callV hC [.int (48 + r38)] (c_X5_writes l D cy a0 (48 + r38) r35 r41 h42) q_1665 q_137 q_1662 q_1664 q_120 h9_X5_writes rfl (fSm.k (fSm.tr e37 (fSm.tr e34 (fSm.tr e28 (fSm.tr e25 (fSm.tr e22 (fSm.tr e12 (fSm.rf w))))))) g3) ⟨Nat.le_of_ble_eq_true rfl, Nat.le_of_ble_eq_true rfl⟩ ⟨Nat.le_of_ble_eq_true rfl, Nat.le_of_ble_eq_true rfl⟩ (Nat.le_of_ble_eq_true rfl) rfl dX5_line_102 (fun e43 => ?_)
        refine f_aload_n hC dX5_line_105 rfl 0 rfl ?_
        refine f_getI hC 5 12 512 rfl (by decide) iX5 q_1271 rfl rfl (fSm.k (fSm.tr e43 (fSm.tr e37 (fSm.tr e34 (fSm.tr e28 (fSm.tr e25 (fSm.tr e22 (fSm.tr e12 (fSm.rf w)))))))) g3) dX5_line_106 ?_
        obtain rfl := Option.some.inj hF
        exact f_iret hC hEn (fSm.tr e43 (fSm.tr e37 (fSm.tr e34 (fSm.tr e28 (fSm.tr e25 (fSm.tr e22 (fSm.tr e12 (fSm.rf w)))))))) dX5_line_109
      refine f_icmp_ne hC 54 dX5_line_46 (by decide) (fun c44 => ?_) (fun c44 => ?_)
      · replace h17 := fi_neg h17 c44
        refine f_bipush (v := 45) hC dX5_line_54 (by decide) ?_
        obtain rfl := Option.some.inj h17
        exact K19
      · replace h17 := fi_pos h17 c44
        refine f_bipush (v := 47) hC dX5_line_49 (by decide) ?_
        refine f_goto hC 56 dX5_line_51 (by decide) ?_
        obtain rfl := Option.some.inj h17
        exact K19
    · replace hF := fi_neg hF c9
      refine f_iconst (v := 0) hC dX5_line_24 (by decide) ?_
      obtain rfl := Option.some.inj hF
      exact f_iret hC hEn (fSm.rf w) dX5_line_25
  refine f_if_eq hC 13 dX5_line_6 (by decide) (fun c45 => ?_) (fun c45 => ?_)
  · replace h6 := fi_pos h6 c45
    refine f_iconst (v := 1) hC dX5_line_13 (by decide) ?_
    obtain rfl := Option.some.inj h6
    exact K8
  · replace h6 := fi_neg h6 c45
    refine f_iconst (v := 0) hC dX5_line_9 (by decide) ?_
    refine f_goto hC 14 dX5_line_10 (by decide) ?_
    obtain rfl := Option.some.inj h6
    exact K8
theorem dX5_holeLine_0 : decode cX5_holeLine 0 = .ok (.aload_n 0, 1) := by decide +kernel
theorem dX5_holeLine_1 : decode cX5_holeLine 1 = .ok (.aload_n 0, 1) := by decide +kernel
theorem dX5_holeLine_2 : decode cX5_holeLine 2 = .ok (.iload_n 1, 1) := by decide +kernel
theorem dX5_holeLine_3 : decode cX5_holeLine 3 = .ok (.iload_n 2, 1) := by decide +kernel
theorem dX5_holeLine_4 : decode cX5_holeLine 4 = .ok (.invokevirtual 213, 3) := by decide +kernel
theorem dX5_holeLine_7 : decode cX5_holeLine 7 = .ok (.putfield 41, 3) := by decide +kernel
theorem dX5_holeLine_10 : decode cX5_holeLine 10 = .ok (.aload_n 0, 1) := by decide +kernel
theorem dX5_holeLine_11 : decode cX5_holeLine 11 = .ok (.getfield 41, 3) := by decide +kernel
theorem dX5_holeLine_14 : decode cX5_holeLine 14 = .ok (.ifCond .le 5, 3) := by decide +kernel
theorem dX5_holeLine_17 : decode cX5_holeLine 17 = .ok (.iconst 0, 1) := by decide +kernel
theorem dX5_holeLine_18 : decode cX5_holeLine 18 = .ok (.ireturn, 1) := by decide +kernel
theorem dX5_holeLine_19 : decode cX5_holeLine 19 = .ok (.iload_n 2, 1) := by decide +kernel
theorem dX5_holeLine_20 : decode cX5_holeLine 20 = .ok (.invokestatic 194, 3) := by decide +kernel
theorem dX5_holeLine_23 : decode cX5_holeLine 23 = .ok (.istore_n 3, 1) := by decide +kernel
theorem dX5_holeLine_24 : decode cX5_holeLine 24 = .ok (.aload_n 0, 1) := by decide +kernel
theorem dX5_holeLine_25 : decode cX5_holeLine 25 = .ok (.iconst 0, 1) := by decide +kernel
theorem dX5_holeLine_26 : decode cX5_holeLine 26 = .ok (.putfield 231, 3) := by decide +kernel
theorem dX5_holeLine_29 : decode cX5_holeLine 29 = .ok (.iconst 0, 1) := by decide +kernel
theorem dX5_holeLine_30 : decode cX5_holeLine 30 = .ok (.istore 4, 2) := by decide +kernel
theorem dX5_holeLine_32 : decode cX5_holeLine 32 = .ok (.iload 4, 2) := by decide +kernel
theorem dX5_holeLine_34 : decode cX5_holeLine 34 = .ok (.aload_n 0, 1) := by decide +kernel
theorem dX5_holeLine_35 : decode cX5_holeLine 35 = .ok (.iload_n 1, 1) := by decide +kernel
theorem dX5_holeLine_36 : decode cX5_holeLine 36 = .ok (.iconst 0, 1) := by decide +kernel
theorem dX5_holeLine_37 : decode cX5_holeLine 37 = .ok (.invokevirtual 70, 3) := by decide +kernel
theorem dX5_holeLine_40 : decode cX5_holeLine 40 = .ok (.if_icmp .ge 55, 3) := by decide +kernel
theorem dX5_holeLine_43 : decode cX5_holeLine 43 = .ok (.aload_n 0, 1) := by decide +kernel
theorem dX5_holeLine_44 : decode cX5_holeLine 44 = .ok (.aload_n 0, 1) := by decide +kernel
theorem dX5_holeLine_45 : decode cX5_holeLine 45 = .ok (.iload_n 1, 1) := by decide +kernel
theorem dX5_holeLine_46 : decode cX5_holeLine 46 = .ok (.iload 4, 2) := by decide +kernel
theorem dX5_holeLine_48 : decode cX5_holeLine 48 = .ok (.invokevirtual 89, 3) := by decide +kernel
theorem dX5_holeLine_51 : decode cX5_holeLine 51 = .ok (.invokestatic 86, 3) := by decide +kernel
theorem dX5_holeLine_54 : decode cX5_holeLine 54 = .ok (.iconst (-1), 1) := by decide +kernel
theorem dX5_holeLine_55 : decode cX5_holeLine 55 = .ok (.if_icmp .ne 13, 3) := by decide +kernel
theorem dX5_holeLine_58 : decode cX5_holeLine 58 = .ok (.aload_n 0, 1) := by decide +kernel
theorem dX5_holeLine_59 : decode cX5_holeLine 59 = .ok (.iload_n 1, 1) := by decide +kernel
theorem dX5_holeLine_60 : decode cX5_holeLine 60 = .ok (.iload 4, 2) := by decide +kernel
theorem dX5_holeLine_62 : decode cX5_holeLine 62 = .ok (.invokevirtual 89, 3) := by decide +kernel
theorem dX5_holeLine_65 : decode cX5_holeLine 65 = .ok (.goto 21, 3) := by decide +kernel
theorem dX5_holeLine_68 : decode cX5_holeLine 68 = .ok (.bipush 48, 2) := by decide +kernel
theorem dX5_holeLine_70 : decode cX5_holeLine 70 = .ok (.aload_n 0, 1) := by decide +kernel
theorem dX5_holeLine_71 : decode cX5_holeLine 71 = .ok (.iload_n 1, 1) := by decide +kernel
theorem dX5_holeLine_72 : decode cX5_holeLine 72 = .ok (.iload_n 3, 1) := by decide +kernel
theorem dX5_holeLine_73 : decode cX5_holeLine 73 = .ok (.iload 4, 2) := by decide +kernel
theorem dX5_holeLine_75 : decode cX5_holeLine 75 = .ok (.aload_n 0, 1) := by decide +kernel
theorem dX5_holeLine_76 : decode cX5_holeLine 76 = .ok (.iload_n 1, 1) := by decide +kernel
theorem dX5_holeLine_77 : decode cX5_holeLine 77 = .ok (.iload_n 3, 1) := by decide +kernel
theorem dX5_holeLine_78 : decode cX5_holeLine 78 = .ok (.iconst 1, 1) := by decide +kernel
theorem dX5_holeLine_79 : decode cX5_holeLine 79 = .ok (.invokevirtual 78, 3) := by decide +kernel
theorem dX5_holeLine_82 : decode cX5_holeLine 82 = .ok (.invokevirtual 102, 3) := by decide +kernel
theorem dX5_holeLine_85 : decode cX5_holeLine 85 = .ok (.iadd, 1) := by decide +kernel
theorem dX5_holeLine_86 : decode cX5_holeLine 86 = .ok (.invokevirtual 234, 3) := by decide +kernel
theorem dX5_holeLine_89 : decode cX5_holeLine 89 = .ok (.iinc 4 1, 3) := by decide +kernel
theorem dX5_holeLine_92 : decode cX5_holeLine 92 = .ok (.goto (-60), 3) := by decide +kernel
theorem dX5_holeLine_95 : decode cX5_holeLine 95 = .ok (.aload_n 0, 1) := by decide +kernel
theorem dX5_holeLine_96 : decode cX5_holeLine 96 = .ok (.getfield 231, 3) := by decide +kernel
theorem dX5_holeLine_99 : decode cX5_holeLine 99 = .ok (.ireturn, 1) := by decide +kernel
theorem h9_X5_holeLine : yX5_holeLine.cls ≠ "java/lang/invoke/MethodHandle" ∧ yX5_holeLine.cls ≠ "java/lang/invoke/VarHandle" ∧ (parseMethodDescriptor yX5_holeLine.desc).map (fun d => d.parameters.length) = some 2 := by decide +kernel
noncomputable def F_X5_holeLine (a0 : Nat) (x1 : Int32) (x2 : Int32) (w : FW) : Option (Int32 × FW) :=
  fg (w.1 a0 = 6) inferInstance ((F_X5_halfThere a0 x1 x2 w).bind (fun r1 => (if (gI (sI w 500 a0 0 r1) 500 a0 0) ≤ 0 then (F_X5_number x2 (sI w 500 a0 0 r1)).bind (fun r6 => (fLoop (σ := Int32 × FW) (ρ := FW) (fun s9 => (F_X5_of a0 x1 0 s9.2).bind (fun r18 => (if r18 ≤ s9.1 then some (.inr s9.2) else (F_X5_letterOf a0 x1 s9.1 s9.2).bind (fun r22 => (F_X5_vowel r22 s9.2).bind (fun r25 => ((if r25 = (-1) then (F_X5_letterOf a0 x1 s9.1 s9.2).bind (fun r42 => some r42) else (F_X5_half a0 x1 r6 1 s9.2).bind (fun r36 => (F_X5_leftAt a0 x1 r6 s9.1 r36 s9.2).bind (fun r39 => some (48 + r39)))) : Option (Int32)).bind (fun x28 => (F_X5_writes a0 x28 s9.2).bind (fun r32 => some (.inl ((s9.1 + 1), r32))))))))) (0, (sI (sI w 500 a0 0 r1) 512 a0 0 0))).bind (fun x15 => some ((gI x15 512 a0 0), x15))) else some (0, (sI w 500 a0 0 r1)))))
set_option maxHeartbeats 4000000 in
set_option maxRecDepth 100000 in
theorem c_X5_holeLine (l : Launch) (D : va_G) (cy : Nat → ClassId) (a0 : Nat) (x1 : Int32) (x2 : Int32) (w : FW) (r : Int32 × FW) (hF : F_X5_holeLine a0 x1 x2 w = some r) : fSpec l D cy yX5_holeLine cX5_holeLine 5 (some .int) { frames := 5, cells := 0, slots := 0, locals := 116 } [.ref a0, .int x1, .int x2] w r.2 (some (.int r.1)) := by
  refine f_begin (by decide +kernel) (Nat.le_of_ble_eq_true rfl) (fun X hC hEn => ?_)
  unfold F_X5_holeLine at hF
  show fAt X 0 0 5 w [(0, .ref a0), (1, .int x1), (2, .int x2)] [] 0
  refine f_aload_n hC dX5_holeLine_0 rfl 0 rfl ?_
  refine f_aload_n hC dX5_holeLine_1 rfl 0 rfl ?_
  refine f_iload_n hC dX5_holeLine_2 rfl 1 rfl ?_
  refine f_iload_n hC dX5_holeLine_3 rfl 2 rfl ?_
  obtain ⟨g3, hF⟩ := fg_open hF
  obtain ⟨r1, h2, hF⟩ := fb_open hF
  refine f_callV hC [.int x1, .int x2] (c_X5_halfThere l D cy a0 x1 x2 w r1 h2) q_1577 q_137 q_1574 q_1576 q_110 h9_X5_halfThere rfl (fSm.k (fSm.rf w) g3) ⟨Nat.le_of_ble_eq_true rfl, Nat.le_of_ble_eq_true rfl⟩ ⟨Nat.le_of_ble_eq_true rfl, Nat.le_of_ble_eq_true rfl⟩ (Nat.le_of_ble_eq_true rfl) rfl dX5_holeLine_4 (fun e4 => ?_)
  refine f_putI hC 5 0 500 rfl (by decide) iX5 tyX5 tyX5_ok nmX5 q_1259 rfl rfl rfl rfl rfl (fSm.k (fSm.rf w) g3) dX5_holeLine_7 ?_
  refine f_aload_n hC dX5_holeLine_10 rfl 0 rfl ?_
  refine f_getI hC 5 0 500 rfl (by decide) iX5 q_1259 rfl rfl (fSm.k (fSm.rf w) g3) dX5_holeLine_11 ?_
  refine f_if_le hC 19 dX5_holeLine_14 (by decide) (fun c5 => ?_) (fun c5 => ?_)
  · replace hF := fi_pos hF c5
    refine f_iload_n hC dX5_holeLine_19 rfl 2 rfl ?_
    obtain ⟨r6, h7, hF⟩ := fb_open hF
    refine f_callS hC [.int x2] (c_X5_number l D cy x2 (sI w 500 a0 0 r1) r6 h7) q_1471 q_137 q_1469 q_1470 h9_X5_number ⟨Nat.le_of_ble_eq_true rfl, Nat.le_of_ble_eq_true rfl⟩ ⟨Nat.le_of_ble_eq_true rfl, Nat.le_of_ble_eq_true rfl⟩ (Nat.le_of_ble_eq_true rfl) rfl dX5_holeLine_20 (fun e8 => ?_)
    refine f_istore_n (L' := [(3, .int r6), (0, .ref a0), (1, .int x1), (2, .int x2)]) hC dX5_holeLine_23 rfl (by decide) rfl ?_
    refine f_aload_n hC dX5_holeLine_24 rfl 1 rfl ?_
    refine f_iconst (v := 0) hC dX5_holeLine_25 (by decide) ?_
    refine f_putI hC 5 12 512 rfl (by decide) iX5 tyX5 tyX5_ok nmX5 q_1271 rfl rfl rfl rfl rfl (fSm.k (fSm.rf w) g3) dX5_holeLine_26 ?_
    refine f_iconst (v := 0) hC dX5_holeLine_29 (by decide) ?_
    refine f_istore (L' := [(4, .int 0), (3, .int r6), (0, .ref a0), (1, .int x1), (2, .int x2)]) hC dX5_holeLine_30 (by decide) rfl ?_
    obtain ⟨x15, h16, hF⟩ := fb_open hF
    have K17 : fSm x15 w → fAt X 0 0 5 x15 [(0, .ref a0)] [] 95 := by
      intro p13
      refine f_aload_n hC dX5_holeLine_95 rfl 0 rfl ?_
      refine f_getI hC 5 12 512 rfl (by decide) iX5 q_1271 rfl rfl (fSm.k p13 g3) dX5_holeLine_96 ?_
      obtain rfl := Option.some.inj hF
      exact f_iret hC hEn p13 dX5_holeLine_99
    refine f_sub (L' := [(0, .ref a0), (1, .int x1), (3, .int r6), (4, .int 0)]) [2, 3, 1, 0] rfl ?_
    refine fLoop_ind (fun (s9 : Int32 × FW) => fSm s9.2 w → fAt X 0 0 5 s9.2 [(0, .ref a0), (1, .int x1), (3, .int r6), (4, .int s9.1)] [] 32) (fun s9 y14 h10 go11 ou12 => ?_) h16 (fSm.rf w)
    intro p13
    refine f_iload hC dX5_holeLine_32 3 rfl ?_
    refine f_aload_n hC dX5_holeLine_34 rfl 0 rfl ?_
    refine f_iload_n hC dX5_holeLine_35 rfl 1 rfl ?_
    refine f_iconst (v := 0) hC dX5_holeLine_36 (by decide) ?_
    obtain ⟨r18, h19, h10⟩ := fb_open h10
    refine f_callV hC [.int x1, .int 0] (c_X5_of l D cy a0 x1 0 s9.2 r18 h19) q_1452 q_137 q_1449 q_1451 q_91 h9_X5_of rfl (fSm.k p13 g3) ⟨Nat.le_of_ble_eq_true rfl, Nat.le_of_ble_eq_true rfl⟩ ⟨Nat.le_of_ble_eq_true rfl, Nat.le_of_ble_eq_true rfl⟩ (Nat.le_of_ble_eq_true rfl) rfl dX5_holeLine_37 (fun e20 => ?_)
    refine f_icmp_ge hC 95 dX5_holeLine_40 (by decide) (fun c21 => ?_) (fun c21 => ?_)
    · replace h10 := fi_pos h10 c21
      obtain rfl := Option.some.inj h10
      obtain rfl := ou12 _ rfl
      refine f_sub (L' := [(0, .ref a0)]) [0] rfl ?_
      exact K17 p13
    · replace h10 := fi_neg h10 c21
      refine f_aload_n hC dX5_holeLine_43 rfl 0 rfl ?_
      refine f_aload_n hC dX5_holeLine_44 rfl 0 rfl ?_
      refine f_iload_n hC dX5_holeLine_45 rfl 1 rfl ?_
      refine f_iload hC dX5_holeLine_46 3 rfl ?_
      obtain ⟨r22, h23, h10⟩ := fb_open h10
      refine f_callV hC [.int x1, .int s9.1] (c_X5_letterOf l D cy a0 x1 s9.1 s9.2 r22 h23) q_1460 q_137 q_1457 q_1459 q_93 h9_X5_letterOf rfl (fSm.k p13 g3) ⟨Nat.le_of_ble_eq_true rfl, Nat.le_of_ble_eq_true rfl⟩ ⟨Nat.le_of_ble_eq_true rfl, Nat.le_of_ble_eq_true rfl⟩ (Nat.le_of_ble_eq_true rfl) rfl dX5_holeLine_48 (fun e24 => ?_)
      obtain ⟨r25, h26, h10⟩ := fb_open h10
      refine f_callS hC [.int r22] (c_X5_vowel l D cy r22 s9.2 r25 h26) q_1360 q_137 q_1358 q_1359 h9_X5_vowel ⟨Nat.le_of_ble_eq_true rfl, Nat.le_of_ble_eq_true rfl⟩ ⟨Nat.le_of_ble_eq_true rfl, Nat.le_of_ble_eq_true rfl⟩ (Nat.le_of_ble_eq_true rfl) rfl dX5_holeLine_51 (fun e27 => ?_)
      refine f_iconst (v := (-1)) hC dX5_holeLine_54 (by decide) ?_
      obtain ⟨x28, h29, h10⟩ := fb_open h10
      have K31 : fAt X 0 0 5 s9.2 [(0, .ref a0), (1, .int x1), (3, .int r6), (4, .int s9.1)] [.int x28, .ref a0] 86 := by
        obtain ⟨r32, h33, h10⟩ := fb_open h10
        refine f_callV hC [.int x28] (c_X5_writes l D cy a0 x28 s9.2 r32 h33) q_1665 q_137 q_1662 q_1664 q_120 h9_X5_writes rfl (fSm.k p13 g3) ⟨Nat.le_of_ble_eq_true rfl, Nat.le_of_ble_eq_true rfl⟩ ⟨Nat.le_of_ble_eq_true rfl, Nat.le_of_ble_eq_true rfl⟩ (Nat.le_of_ble_eq_true rfl) rfl dX5_holeLine_86 (fun e34 => ?_)
        refine f_iinc (L' := [(4, .int (s9.1 + 1)), (0, .ref a0), (1, .int x1), (3, .int r6)]) hC dX5_holeLine_89 3 rfl rfl (by decide) rfl ?_
        refine f_goto hC 32 dX5_holeLine_92 (by decide) ?_
        obtain rfl := Option.some.inj h10
        refine f_sub (L' := [(0, .ref a0), (1, .int x1), (3, .int r6), (4, .int (s9.1 + 1))]) [1, 2, 3, 0] rfl ?_
        exact go11 _ rfl (fSm.tr e34 p13)
      refine f_icmp_ne hC 68 dX5_holeLine_55 (by decide) (fun c35 => ?_) (fun c35 => ?_)
      · replace h29 := fi_neg h29 c35
        refine f_bipush (v := 48) hC dX5_holeLine_68 (by decide) ?_
        refine f_aload_n hC dX5_holeLine_70 rfl 0 rfl ?_
        refine f_iload_n hC dX5_holeLine_71 rfl 1 rfl ?_
        refine f_iload_n hC dX5_holeLine_72 rfl 2 rfl ?_
        refine f_iload hC dX5_holeLine_73 3 rfl ?_
        refine f_aload_n hC dX5_holeLine_75 rfl 0 rfl ?_
        refine f_iload_n hC dX5_holeLine_76 rfl 1 rfl ?_
        refine f_iload_n hC dX5_holeLine_77 rfl 2 rfl ?_
        refine f_iconst (v := 1) hC dX5_holeLine_78 (by decide) ?_
        obtain ⟨r36, h37, h29⟩ := fb_open h29
        refine f_callV hC [.int x1, .int r6, .int 1] (c_X5_half l D cy a0 x1 r6 1 s9.2 r36 h37) q_1483 q_137 q_1480 q_1482 q_96 h9_X5_half rfl (fSm.k p13 g3) ⟨Nat.le_of_ble_eq_true rfl, Nat.le_of_ble_eq_true rfl⟩ ⟨Nat.le_of_ble_eq_true rfl, Nat.le_of_ble_eq_true rfl⟩ (Nat.le_of_ble_eq_true rfl) rfl dX5_holeLine_79 (fun e38 => ?_)
        obtain ⟨r39, h40, h29⟩ := fb_open h29
        refine f_callV hC [.int x1, .int r6, .int s9.1, .int r36] (c_X5_leftAt l D cy a0 x1 r6 s9.1 r36 s9.2 r39 h40) q_1546 q_137 q_1543 q_1545 q_106 h9_X5_leftAt rfl (fSm.k p13 g3) ⟨Nat.le_of_ble_eq_true rfl, Nat.le_of_ble_eq_true rfl⟩ ⟨Nat.le_of_ble_eq_true rfl, Nat.le_of_ble_eq_true rfl⟩ (Nat.le_of_ble_eq_true rfl) rfl dX5_holeLine_82 (fun e41 => ?_)
        refine f_iadd hC dX5_holeLine_85 ?_
        obtain rfl := Option.some.inj h29
        exact K31
      · replace h29 := fi_pos h29 c35
        refine f_aload_n hC dX5_holeLine_58 rfl 0 rfl ?_
        refine f_iload_n hC dX5_holeLine_59 rfl 1 rfl ?_
        refine f_iload hC dX5_holeLine_60 3 rfl ?_
        obtain ⟨r42, h43, h29⟩ := fb_open h29
        refine f_callV hC [.int x1, .int s9.1] (c_X5_letterOf l D cy a0 x1 s9.1 s9.2 r42 h43) q_1460 q_137 q_1457 q_1459 q_93 h9_X5_letterOf rfl (fSm.k p13 g3) ⟨Nat.le_of_ble_eq_true rfl, Nat.le_of_ble_eq_true rfl⟩ ⟨Nat.le_of_ble_eq_true rfl, Nat.le_of_ble_eq_true rfl⟩ (Nat.le_of_ble_eq_true rfl) rfl dX5_holeLine_62 (fun e44 => ?_)
        refine f_goto hC 86 dX5_holeLine_65 (by decide) ?_
        obtain rfl := Option.some.inj h29
        exact K31
  · replace hF := fi_neg hF c5
    refine f_iconst (v := 0) hC dX5_holeLine_17 (by decide) ?_
    obtain rfl := Option.some.inj hF
    exact f_iret hC hEn (fSm.rf w) dX5_holeLine_18
theorem dX5_character_0 : decode cX5_character 0 = .ok (.aload_n 0, 1) := by decide +kernel
theorem dX5_character_1 : decode cX5_character 1 = .ok (.iload_n 1, 1) := by decide +kernel
theorem dX5_character_2 : decode cX5_character 2 = .ok (.iconst 0, 1) := by decide +kernel
theorem dX5_character_3 : decode cX5_character 3 = .ok (.aload_n 0, 1) := by decide +kernel
theorem dX5_character_4 : decode cX5_character 4 = .ok (.getfield 231, 3) := by decide +kernel
theorem dX5_character_7 : decode cX5_character 7 = .ok (.iconst 1, 1) := by decide +kernel
theorem dX5_character_8 : decode cX5_character 8 = .ok (.isub, 1) := by decide +kernel
theorem dX5_character_9 : decode cX5_character 9 = .ok (.invokestatic 66, 3) := by decide +kernel
theorem dX5_character_12 : decode cX5_character 12 = .ok (.ifCond .eq 7, 3) := by decide +kernel
theorem dX5_character_15 : decode cX5_character 15 = .ok (.iconst 0, 1) := by decide +kernel
theorem dX5_character_16 : decode cX5_character 16 = .ok (.goto 4, 3) := by decide +kernel
theorem dX5_character_19 : decode cX5_character 19 = .ok (.iconst 1, 1) := by decide +kernel
theorem dX5_character_20 : decode cX5_character 20 = .ok (.putfield 41, 3) := by decide +kernel
theorem dX5_character_23 : decode cX5_character 23 = .ok (.aload_n 0, 1) := by decide +kernel
theorem dX5_character_24 : decode cX5_character 24 = .ok (.getfield 41, 3) := by decide +kernel
theorem dX5_character_27 : decode cX5_character 27 = .ok (.ifCond .le 7, 3) := by decide +kernel
theorem dX5_character_30 : decode cX5_character 30 = .ok (.iconst 0, 1) := by decide +kernel
theorem dX5_character_31 : decode cX5_character 31 = .ok (.goto 10, 3) := by decide +kernel
theorem dX5_character_34 : decode cX5_character 34 = .ok (.aload_n 0, 1) := by decide +kernel
theorem dX5_character_35 : decode cX5_character 35 = .ok (.getfield 28, 3) := by decide +kernel
theorem dX5_character_38 : decode cX5_character 38 = .ok (.iload_n 1, 1) := by decide +kernel
theorem dX5_character_39 : decode cX5_character 39 = .ok (.iaload, 1) := by decide +kernel
theorem dX5_character_40 : decode cX5_character 40 = .ok (.i2c, 1) := by decide +kernel
theorem dX5_character_41 : decode cX5_character 41 = .ok (.ireturn, 1) := by decide +kernel
theorem h9_X5_character : yX5_character.cls ≠ "java/lang/invoke/MethodHandle" ∧ yX5_character.cls ≠ "java/lang/invoke/VarHandle" ∧ (parseMethodDescriptor yX5_character.desc).map (fun d => d.parameters.length) = some 1 := by decide +kernel
noncomputable def F_X5_character (a0 : Nat) (x1 : Int32) (w : FW) : Option (Int32 × FW) :=
  fg (w.1 a0 = 6) inferInstance ((F_X5_in x1 0 ((gI w 512 a0 0) - 1) w).bind (fun r2 => ((if r2 = 0 then some 1 else some 0) : Option (Int32)).bind (fun x5 => (if (gI (sI w 500 a0 0 x5) 500 a0 0) ≤ 0 then fg (w.1 (gR w 509 a0 0) = 11) inferInstance (fg (¬ (x1 < 0 ∨ w.2.1 (gR w 509 a0 0) ≤ Int32.toNatClampNeg x1)) inferInstance (fg (fch (fch (gI (sI w 500 a0 0 x5) 601 (gR (sI w 500 a0 0 x5) 509 a0 0) (Int32.toNatClampNeg x1))) = (fch (gI (sI w 500 a0 0 x5) 601 (gR (sI w 500 a0 0 x5) 509 a0 0) (Int32.toNatClampNeg x1)))) inferInstance (some ((fch (gI (sI w 500 a0 0 x5) 601 (gR (sI w 500 a0 0 x5) 509 a0 0) (Int32.toNatClampNeg x1))), (sI w 500 a0 0 x5))))) else some (0, (sI w 500 a0 0 x5))))))
set_option maxHeartbeats 4000000 in
set_option maxRecDepth 100000 in
theorem c_X5_character (l : Launch) (D : va_G) (cy : Nat → ClassId) (a0 : Nat) (x1 : Int32) (w : FW) (r : Int32 × FW) (hF : F_X5_character a0 x1 w = some r) : fSpec l D cy yX5_character cX5_character 2 (some .char) { frames := 1, cells := 0, slots := 0, locals := 22 } [.ref a0, .int x1] w r.2 (some (.int r.1)) := by
  refine f_begin (by decide +kernel) (Nat.le_of_ble_eq_true rfl) (fun X hC hEn => ?_)
  unfold F_X5_character at hF
  show fAt X 0 0 2 w [(0, .ref a0), (1, .int x1)] [] 0
  refine f_aload_n hC dX5_character_0 rfl 0 rfl ?_
  refine f_iload_n hC dX5_character_1 rfl 1 rfl ?_
  refine f_iconst (v := 0) hC dX5_character_2 (by decide) ?_
  refine f_aload_n hC dX5_character_3 rfl 0 rfl ?_
  obtain ⟨g1, hF⟩ := fg_open hF
  refine f_getI hC 5 12 512 rfl (by decide) iX5 q_1271 rfl rfl (fSm.k (fSm.rf w) g1) dX5_character_4 ?_
  refine f_iconst (v := 1) hC dX5_character_7 (by decide) ?_
  refine f_isub hC dX5_character_8 ?_
  obtain ⟨r2, h3, hF⟩ := fb_open hF
  refine f_callS hC [.int x1, .int 0, .int ((gI w 512 a0 0) - 1)] (c_X5_in l D cy x1 0 ((gI w 512 a0 0) - 1) w r2 h3) q_1357 q_137 q_1355 q_1356 h9_X5_in ⟨Nat.le_of_ble_eq_true rfl, Nat.le_of_ble_eq_true rfl⟩ ⟨Nat.le_of_ble_eq_true rfl, Nat.le_of_ble_eq_true rfl⟩ (Nat.le_of_ble_eq_true rfl) rfl dX5_character_9 (fun e4 => ?_)
  obtain ⟨x5, h6, hF⟩ := fb_open hF
  have K8 : fAt X 0 0 2 w [(0, .ref a0), (1, .int x1)] [.int x5, .ref a0] 20 := by
    refine f_putI hC 5 0 500 rfl (by decide) iX5 tyX5 tyX5_ok nmX5 q_1259 rfl rfl rfl rfl rfl (fSm.k (fSm.rf w) g1) dX5_character_20 ?_
    refine f_aload_n hC dX5_character_23 rfl 0 rfl ?_
    refine f_getI hC 5 0 500 rfl (by decide) iX5 q_1259 rfl rfl (fSm.k (fSm.rf w) g1) dX5_character_24 ?_
    refine f_if_le hC 34 dX5_character_27 (by decide) (fun c9 => ?_) (fun c9 => ?_)
    · replace hF := fi_pos hF c9
      refine f_aload_n hC dX5_character_34 rfl 0 rfl ?_
      refine f_getR hC 5 9 509 rfl (by decide) iX5 q_1268 rfl rfl (fSm.k (fSm.rf w) g1) dX5_character_35 ?_
      refine f_iload_n hC dX5_character_38 rfl 1 rfl ?_
      obtain ⟨g10, hF⟩ := fg_open hF
      obtain ⟨g11, hF⟩ := fg_open hF
      refine f_iald hC (fSm.k (fSm.rf w) g10) (fSm.v (fSm.rf w) g11) dX5_character_39 ?_
      refine f_i2c hC dX5_character_40 ?_
      obtain ⟨g12, hF⟩ := fg_open hF
      obtain rfl := Option.some.inj hF
      exact f_zret hC hEn (fSm.rf w) (nar_c g12) dX5_character_41
    · replace hF := fi_neg hF c9
      refine f_iconst (v := 0) hC dX5_character_30 (by decide) ?_
      refine f_goto hC 41 dX5_character_31 (by decide) ?_
      obtain rfl := Option.some.inj hF
      exact f_zret hC hEn (fSm.rf w) (nar_c (by decide)) dX5_character_41
  refine f_if_eq hC 19 dX5_character_12 (by decide) (fun c13 => ?_) (fun c13 => ?_)
  · replace h6 := fi_pos h6 c13
    refine f_iconst (v := 1) hC dX5_character_19 (by decide) ?_
    obtain rfl := Option.some.inj h6
    exact K8
  · replace h6 := fi_neg h6 c13
    refine f_iconst (v := 0) hC dX5_character_15 (by decide) ?_
    refine f_goto hC 20 dX5_character_16 (by decide) ?_
    obtain rfl := Option.some.inj h6
    exact K8
theorem dX5_refusal_0 : decode cX5_refusal 0 = .ok (.aload_n 0, 1) := by decide +kernel
theorem dX5_refusal_1 : decode cX5_refusal 1 = .ok (.aload_n 0, 1) := by decide +kernel
theorem dX5_refusal_2 : decode cX5_refusal 2 = .ok (.getfield 60, 3) := by decide +kernel
theorem dX5_refusal_5 : decode cX5_refusal 5 = .ok (.ifCond .ne 7, 3) := by decide +kernel
theorem dX5_refusal_8 : decode cX5_refusal 8 = .ok (.iconst 1, 1) := by decide +kernel
theorem dX5_refusal_9 : decode cX5_refusal 9 = .ok (.goto 4, 3) := by decide +kernel
theorem dX5_refusal_12 : decode cX5_refusal 12 = .ok (.iconst 0, 1) := by decide +kernel
theorem dX5_refusal_13 : decode cX5_refusal 13 = .ok (.putfield 41, 3) := by decide +kernel
theorem dX5_refusal_16 : decode cX5_refusal 16 = .ok (.aload_n 0, 1) := by decide +kernel
theorem dX5_refusal_17 : decode cX5_refusal 17 = .ok (.getfield 41, 3) := by decide +kernel
theorem dX5_refusal_20 : decode cX5_refusal 20 = .ok (.ifCond .le 7, 3) := by decide +kernel
theorem dX5_refusal_23 : decode cX5_refusal 23 = .ok (.iconst 0, 1) := by decide +kernel
theorem dX5_refusal_24 : decode cX5_refusal 24 = .ok (.goto 18, 3) := by decide +kernel
theorem dX5_refusal_27 : decode cX5_refusal 27 = .ok (.iload_n 1, 1) := by decide +kernel
theorem dX5_refusal_28 : decode cX5_refusal 28 = .ok (.ifCond .eq 10, 3) := by decide +kernel
theorem dX5_refusal_31 : decode cX5_refusal 31 = .ok (.aload_n 0, 1) := by decide +kernel
theorem dX5_refusal_32 : decode cX5_refusal 32 = .ok (.getfield 63, 3) := by decide +kernel
theorem dX5_refusal_35 : decode cX5_refusal 35 = .ok (.goto 7, 3) := by decide +kernel
theorem dX5_refusal_38 : decode cX5_refusal 38 = .ok (.aload_n 0, 1) := by decide +kernel
theorem dX5_refusal_39 : decode cX5_refusal 39 = .ok (.getfield 60, 3) := by decide +kernel
theorem dX5_refusal_42 : decode cX5_refusal 42 = .ok (.ireturn, 1) := by decide +kernel
theorem h9_X5_refusal : yX5_refusal.cls ≠ "java/lang/invoke/MethodHandle" ∧ yX5_refusal.cls ≠ "java/lang/invoke/VarHandle" ∧ (parseMethodDescriptor yX5_refusal.desc).map (fun d => d.parameters.length) = some 1 := by decide +kernel
noncomputable def F_X5_refusal (a0 : Nat) (x1 : Int32) (w : FW) : Option (Int32 × FW) :=
  fg (w.1 a0 = 6) inferInstance (((if (gI w 515 a0 0) = 0 then some 1 else some 0) : Option (Int32)).bind (fun x2 => (if (gI (sI w 500 a0 0 x2) 500 a0 0) ≤ 0 then (if x1 = 0 then some ((gI (sI w 500 a0 0 x2) 515 a0 0), (sI w 500 a0 0 x2)) else some ((gI (sI w 500 a0 0 x2) 516 a0 0), (sI w 500 a0 0 x2))) else some (0, (sI w 500 a0 0 x2)))))
set_option maxHeartbeats 4000000 in
set_option maxRecDepth 100000 in
theorem c_X5_refusal (l : Launch) (D : va_G) (cy : Nat → ClassId) (a0 : Nat) (x1 : Int32) (w : FW) (r : Int32 × FW) (hF : F_X5_refusal a0 x1 w = some r) : fSpec l D cy yX5_refusal cX5_refusal 2 (some .int) { frames := 0, cells := 0, slots := 0, locals := 0 } [.ref a0, .int x1] w r.2 (some (.int r.1)) := by
  refine f_begin (by decide +kernel) (Nat.le_of_ble_eq_true rfl) (fun X hC hEn => ?_)
  unfold F_X5_refusal at hF
  show fAt X 0 0 2 w [(0, .ref a0), (1, .int x1)] [] 0
  refine f_aload_n hC dX5_refusal_0 rfl 0 rfl ?_
  refine f_aload_n hC dX5_refusal_1 rfl 0 rfl ?_
  obtain ⟨g1, hF⟩ := fg_open hF
  refine f_getI hC 5 15 515 rfl (by decide) iX5 q_1274 rfl rfl (fSm.k (fSm.rf w) g1) dX5_refusal_2 ?_
  obtain ⟨x2, h3, hF⟩ := fb_open hF
  have K5 : fAt X 0 0 2 w [(0, .ref a0), (1, .int x1)] [.int x2, .ref a0] 13 := by
    refine f_putI hC 5 0 500 rfl (by decide) iX5 tyX5 tyX5_ok nmX5 q_1259 rfl rfl rfl rfl rfl (fSm.k (fSm.rf w) g1) dX5_refusal_13 ?_
    refine f_aload_n hC dX5_refusal_16 rfl 0 rfl ?_
    refine f_getI hC 5 0 500 rfl (by decide) iX5 q_1259 rfl rfl (fSm.k (fSm.rf w) g1) dX5_refusal_17 ?_
    refine f_if_le hC 27 dX5_refusal_20 (by decide) (fun c6 => ?_) (fun c6 => ?_)
    · replace hF := fi_pos hF c6
      refine f_iload_n hC dX5_refusal_27 rfl 1 rfl ?_
      refine f_if_eq hC 38 dX5_refusal_28 (by decide) (fun c7 => ?_) (fun c7 => ?_)
      · replace hF := fi_pos hF c7
        refine f_aload_n hC dX5_refusal_38 rfl 0 rfl ?_
        refine f_getI hC 5 15 515 rfl (by decide) iX5 q_1274 rfl rfl (fSm.k (fSm.rf w) g1) dX5_refusal_39 ?_
        obtain rfl := Option.some.inj hF
        exact f_iret hC hEn (fSm.rf w) dX5_refusal_42
      · replace hF := fi_neg hF c7
        refine f_aload_n hC dX5_refusal_31 rfl 0 rfl ?_
        refine f_getI hC 5 16 516 rfl (by decide) iX5 q_1275 rfl rfl (fSm.k (fSm.rf w) g1) dX5_refusal_32 ?_
        refine f_goto hC 42 dX5_refusal_35 (by decide) ?_
        obtain rfl := Option.some.inj hF
        exact f_iret hC hEn (fSm.rf w) dX5_refusal_42
    · replace hF := fi_neg hF c6
      refine f_iconst (v := 0) hC dX5_refusal_23 (by decide) ?_
      refine f_goto hC 42 dX5_refusal_24 (by decide) ?_
      obtain rfl := Option.some.inj hF
      exact f_iret hC hEn (fSm.rf w) dX5_refusal_42
  refine f_if_ne hC 12 dX5_refusal_5 (by decide) (fun c8 => ?_) (fun c8 => ?_)
  · replace h3 := fi_neg h3 c8
    refine f_iconst (v := 0) hC dX5_refusal_12 (by decide) ?_
    obtain rfl := Option.some.inj h3
    exact K5
  · replace h3 := fi_pos h3 c8
    refine f_iconst (v := 1) hC dX5_refusal_8 (by decide) ?_
    refine f_goto hC 13 dX5_refusal_9 (by decide) ?_
    obtain rfl := Option.some.inj h3
    exact K5
theorem dX5_punchedMany_0 : decode cX5_punchedMany 0 = .ok (.iconst 0, 1) := by decide +kernel
theorem dX5_punchedMany_1 : decode cX5_punchedMany 1 = .ok (.istore_n 1, 1) := by decide +kernel
theorem dX5_punchedMany_2 : decode cX5_punchedMany 2 = .ok (.iconst 0, 1) := by decide +kernel
theorem dX5_punchedMany_3 : decode cX5_punchedMany 3 = .ok (.istore_n 2, 1) := by decide +kernel
theorem dX5_punchedMany_4 : decode cX5_punchedMany 4 = .ok (.iload_n 2, 1) := by decide +kernel
theorem dX5_punchedMany_5 : decode cX5_punchedMany 5 = .ok (.aload_n 0, 1) := by decide +kernel
theorem dX5_punchedMany_6 : decode cX5_punchedMany 6 = .ok (.getfield 7, 3) := by decide +kernel
theorem dX5_punchedMany_9 : decode cX5_punchedMany 9 = .ok (.iconst 0, 1) := by decide +kernel
theorem dX5_punchedMany_10 : decode cX5_punchedMany 10 = .ok (.iaload, 1) := by decide +kernel
theorem dX5_punchedMany_11 : decode cX5_punchedMany 11 = .ok (.if_icmp .ge 31, 3) := by decide +kernel
theorem dX5_punchedMany_14 : decode cX5_punchedMany 14 = .ok (.iload_n 1, 1) := by decide +kernel
theorem dX5_punchedMany_15 : decode cX5_punchedMany 15 = .ok (.aload_n 0, 1) := by decide +kernel
theorem dX5_punchedMany_16 : decode cX5_punchedMany 16 = .ok (.iload_n 2, 1) := by decide +kernel
theorem dX5_punchedMany_17 : decode cX5_punchedMany 17 = .ok (.iconst 0, 1) := by decide +kernel
theorem dX5_punchedMany_18 : decode cX5_punchedMany 18 = .ok (.invokevirtual 92, 3) := by decide +kernel
theorem dX5_punchedMany_21 : decode cX5_punchedMany 21 = .ok (.invokestatic 194, 3) := by decide +kernel
theorem dX5_punchedMany_24 : decode cX5_punchedMany 24 = .ok (.aload_n 0, 1) := by decide +kernel
theorem dX5_punchedMany_25 : decode cX5_punchedMany 25 = .ok (.iload_n 2, 1) := by decide +kernel
theorem dX5_punchedMany_26 : decode cX5_punchedMany 26 = .ok (.iconst 1, 1) := by decide +kernel
theorem dX5_punchedMany_27 : decode cX5_punchedMany 27 = .ok (.invokevirtual 92, 3) := by decide +kernel
theorem dX5_punchedMany_30 : decode cX5_punchedMany 30 = .ok (.invokestatic 194, 3) := by decide +kernel
theorem dX5_punchedMany_33 : decode cX5_punchedMany 33 = .ok (.iadd, 1) := by decide +kernel
theorem dX5_punchedMany_34 : decode cX5_punchedMany 34 = .ok (.iadd, 1) := by decide +kernel
theorem dX5_punchedMany_35 : decode cX5_punchedMany 35 = .ok (.istore_n 1, 1) := by decide +kernel
theorem dX5_punchedMany_36 : decode cX5_punchedMany 36 = .ok (.iinc 2 1, 3) := by decide +kernel
theorem dX5_punchedMany_39 : decode cX5_punchedMany 39 = .ok (.goto (-35), 3) := by decide +kernel
theorem dX5_punchedMany_42 : decode cX5_punchedMany 42 = .ok (.iload_n 1, 1) := by decide +kernel
theorem dX5_punchedMany_43 : decode cX5_punchedMany 43 = .ok (.ireturn, 1) := by decide +kernel
theorem h9_X5_punchedMany : yX5_punchedMany.cls ≠ "java/lang/invoke/MethodHandle" ∧ yX5_punchedMany.cls ≠ "java/lang/invoke/VarHandle" ∧ (parseMethodDescriptor yX5_punchedMany.desc).map (fun d => d.parameters.length) = some 0 := by decide +kernel
noncomputable def F_X5_punchedMany (a0 : Nat) (w : FW) : Option (Int32) :=
  (fLoop (σ := Int32 × Int32) (ρ := Int32) (fun s1 => fg (w.1 a0 = 6) inferInstance (fg (w.1 (gR w 501 a0 0) = 11) inferInstance (fg (¬ ((0 : Int32) < 0 ∨ w.2.1 (gR w 501 a0 0) ≤ Int32.toNatClampNeg 0)) inferInstance ((if (gI w 601 (gR w 501 a0 0) (Int32.toNatClampNeg 0)) ≤ s1.2 then some (.inr s1.1) else (F_X5_isPunched a0 s1.2 0 w).bind (fun r14 => (F_X5_number r14 w).bind (fun r17 => (F_X5_isPunched a0 s1.2 1 w).bind (fun r20 => (F_X5_number r20 w).bind (fun r23 => some (.inl ((s1.1 + (r17 + r23)), (s1.2 + 1)))))))))))) (0, 0)).bind (fun x7 => some x7)
set_option maxHeartbeats 4000000 in
set_option maxRecDepth 100000 in
theorem c_X5_punchedMany (l : Launch) (D : va_G) (cy : Nat → ClassId) (a0 : Nat) (w : FW) (r : Int32) (hF : F_X5_punchedMany a0 w = some r) : fSpec l D cy yX5_punchedMany cX5_punchedMany 3 (some .int) { frames := 3, cells := 0, slots := 0, locals := 67 } [.ref a0] w w (some (.int r)) := by
  refine f_begin (by decide +kernel) (Nat.le_of_ble_eq_true rfl) (fun X hC hEn => ?_)
  unfold F_X5_punchedMany at hF
  show fAt X 0 0 3 w [(0, .ref a0)] [] 0
  refine f_iconst (v := 0) hC dX5_punchedMany_0 (by decide) ?_
  refine f_istore_n (L' := [(1, .int 0), (0, .ref a0)]) hC dX5_punchedMany_1 rfl (by decide) rfl ?_
  refine f_iconst (v := 0) hC dX5_punchedMany_2 (by decide) ?_
  refine f_istore_n (L' := [(2, .int 0), (1, .int 0), (0, .ref a0)]) hC dX5_punchedMany_3 rfl (by decide) rfl ?_
  obtain ⟨x7, h8, hF⟩ := fb_open hF
  have K9 : fAt X 0 0 3 w [(1, .int x7)] [] 42 := by
    refine f_iload_n hC dX5_punchedMany_42 rfl 0 rfl ?_
    obtain rfl := Option.some.inj hF
    exact f_iret hC hEn (fSm.rf w) dX5_punchedMany_43
  refine f_sub (L' := [(0, .ref a0), (1, .int 0), (2, .int 0)]) [2, 1, 0] rfl ?_
  refine fLoop_ind (fun (s1 : Int32 × Int32) => fAt X 0 0 3 w [(0, .ref a0), (1, .int s1.1), (2, .int s1.2)] [] 4) (fun s1 y6 h2 go3 ou4 => ?_) h8
  refine f_iload_n hC dX5_punchedMany_4 rfl 2 rfl ?_
  refine f_aload_n hC dX5_punchedMany_5 rfl 0 rfl ?_
  obtain ⟨g10, h2⟩ := fg_open h2
  refine f_getR hC 5 1 501 rfl (by decide) iX5 q_1260 rfl rfl (fSm.k (fSm.rf w) g10) dX5_punchedMany_6 ?_
  refine f_iconst (v := 0) hC dX5_punchedMany_9 (by decide) ?_
  obtain ⟨g11, h2⟩ := fg_open h2
  obtain ⟨g12, h2⟩ := fg_open h2
  refine f_iald hC (fSm.k (fSm.rf w) g11) (fSm.v (fSm.rf w) g12) dX5_punchedMany_10 ?_
  refine f_icmp_ge hC 42 dX5_punchedMany_11 (by decide) (fun c13 => ?_) (fun c13 => ?_)
  · replace h2 := fi_pos h2 c13
    obtain rfl := Option.some.inj h2
    obtain rfl := ou4 _ rfl
    refine f_sub (L' := [(1, .int s1.1)]) [1] rfl ?_
    exact K9
  · replace h2 := fi_neg h2 c13
    refine f_iload_n hC dX5_punchedMany_14 rfl 1 rfl ?_
    refine f_aload_n hC dX5_punchedMany_15 rfl 0 rfl ?_
    refine f_iload_n hC dX5_punchedMany_16 rfl 2 rfl ?_
    refine f_iconst (v := 0) hC dX5_punchedMany_17 (by decide) ?_
    obtain ⟨r14, h15, h2⟩ := fb_open h2
    refine f_callV hC [.int s1.2, .int 0] (c_X5_isPunched l D cy a0 s1.2 0 w r14 h15) q_1479 q_137 q_1476 q_1478 q_95 h9_X5_isPunched rfl (fSm.k (fSm.rf w) g10) ⟨Nat.le_of_ble_eq_true rfl, Nat.le_of_ble_eq_true rfl⟩ ⟨Nat.le_of_ble_eq_true rfl, Nat.le_of_ble_eq_true rfl⟩ (Nat.le_of_ble_eq_true rfl) rfl dX5_punchedMany_18 (fun e16 => ?_)
    obtain ⟨r17, h18, h2⟩ := fb_open h2
    refine f_callS hC [.int r14] (c_X5_number l D cy r14 w r17 h18) q_1471 q_137 q_1469 q_1470 h9_X5_number ⟨Nat.le_of_ble_eq_true rfl, Nat.le_of_ble_eq_true rfl⟩ ⟨Nat.le_of_ble_eq_true rfl, Nat.le_of_ble_eq_true rfl⟩ (Nat.le_of_ble_eq_true rfl) rfl dX5_punchedMany_21 (fun e19 => ?_)
    refine f_aload_n hC dX5_punchedMany_24 rfl 0 rfl ?_
    refine f_iload_n hC dX5_punchedMany_25 rfl 2 rfl ?_
    refine f_iconst (v := 1) hC dX5_punchedMany_26 (by decide) ?_
    obtain ⟨r20, h21, h2⟩ := fb_open h2
    refine f_callV hC [.int s1.2, .int 1] (c_X5_isPunched l D cy a0 s1.2 1 w r20 h21) q_1479 q_137 q_1476 q_1478 q_95 h9_X5_isPunched rfl (fSm.k (fSm.rf w) g10) ⟨Nat.le_of_ble_eq_true rfl, Nat.le_of_ble_eq_true rfl⟩ ⟨Nat.le_of_ble_eq_true rfl, Nat.le_of_ble_eq_true rfl⟩ (Nat.le_of_ble_eq_true rfl) rfl dX5_punchedMany_27 (fun e22 => ?_)
    obtain ⟨r23, h24, h2⟩ := fb_open h2
    refine f_callS hC [.int r20] (c_X5_number l D cy r20 w r23 h24) q_1471 q_137 q_1469 q_1470 h9_X5_number ⟨Nat.le_of_ble_eq_true rfl, Nat.le_of_ble_eq_true rfl⟩ ⟨Nat.le_of_ble_eq_true rfl, Nat.le_of_ble_eq_true rfl⟩ (Nat.le_of_ble_eq_true rfl) rfl dX5_punchedMany_30 (fun e25 => ?_)
    refine f_iadd hC dX5_punchedMany_33 ?_
    refine f_iadd hC dX5_punchedMany_34 ?_
    refine f_istore_n (L' := [(1, .int (s1.1 + (r17 + r23))), (0, .ref a0), (2, .int s1.2)]) hC dX5_punchedMany_35 rfl (by decide) rfl ?_
    refine f_iinc (L' := [(2, .int (s1.2 + 1)), (1, .int (s1.1 + (r17 + r23))), (0, .ref a0)]) hC dX5_punchedMany_36 2 rfl rfl (by decide) rfl ?_
    refine f_goto hC 4 dX5_punchedMany_39 (by decide) ?_
    obtain rfl := Option.some.inj h2
    refine f_sub (L' := [(0, .ref a0), (1, .int (s1.1 + (r17 + r23))), (2, .int (s1.2 + 1))]) [2, 1, 0] rfl ?_
    exact go3 _ rfl
