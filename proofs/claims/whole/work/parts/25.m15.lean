theorem dX5_allLeft_0 : decode cX5_allLeft 0 = .ok (.iconst 0, 1) := by decide +kernel
theorem dX5_allLeft_1 : decode cX5_allLeft 1 = .ok (.istore_n 1, 1) := by decide +kernel
theorem dX5_allLeft_2 : decode cX5_allLeft 2 = .ok (.iconst 0, 1) := by decide +kernel
theorem dX5_allLeft_3 : decode cX5_allLeft 3 = .ok (.istore_n 2, 1) := by decide +kernel
theorem dX5_allLeft_4 : decode cX5_allLeft 4 = .ok (.iload_n 2, 1) := by decide +kernel
theorem dX5_allLeft_5 : decode cX5_allLeft 5 = .ok (.aload_n 0, 1) := by decide +kernel
theorem dX5_allLeft_6 : decode cX5_allLeft 6 = .ok (.getfield 7, 3) := by decide +kernel
theorem dX5_allLeft_9 : decode cX5_allLeft 9 = .ok (.iconst 0, 1) := by decide +kernel
theorem dX5_allLeft_10 : decode cX5_allLeft 10 = .ok (.iaload, 1) := by decide +kernel
theorem dX5_allLeft_11 : decode cX5_allLeft 11 = .ok (.if_icmp .ge 25, 3) := by decide +kernel
theorem dX5_allLeft_14 : decode cX5_allLeft 14 = .ok (.iload_n 1, 1) := by decide +kernel
theorem dX5_allLeft_15 : decode cX5_allLeft 15 = .ok (.aload_n 0, 1) := by decide +kernel
theorem dX5_allLeft_16 : decode cX5_allLeft 16 = .ok (.iload_n 2, 1) := by decide +kernel
theorem dX5_allLeft_17 : decode cX5_allLeft 17 = .ok (.iconst 0, 1) := by decide +kernel
theorem dX5_allLeft_18 : decode cX5_allLeft 18 = .ok (.invokevirtual 210, 3) := by decide +kernel
theorem dX5_allLeft_21 : decode cX5_allLeft 21 = .ok (.aload_n 0, 1) := by decide +kernel
theorem dX5_allLeft_22 : decode cX5_allLeft 22 = .ok (.iload_n 2, 1) := by decide +kernel
theorem dX5_allLeft_23 : decode cX5_allLeft 23 = .ok (.iconst 1, 1) := by decide +kernel
theorem dX5_allLeft_24 : decode cX5_allLeft 24 = .ok (.invokevirtual 210, 3) := by decide +kernel
theorem dX5_allLeft_27 : decode cX5_allLeft 27 = .ok (.iadd, 1) := by decide +kernel
theorem dX5_allLeft_28 : decode cX5_allLeft 28 = .ok (.iadd, 1) := by decide +kernel
theorem dX5_allLeft_29 : decode cX5_allLeft 29 = .ok (.istore_n 1, 1) := by decide +kernel
theorem dX5_allLeft_30 : decode cX5_allLeft 30 = .ok (.iinc 2 1, 3) := by decide +kernel
theorem dX5_allLeft_33 : decode cX5_allLeft 33 = .ok (.goto (-29), 3) := by decide +kernel
theorem dX5_allLeft_36 : decode cX5_allLeft 36 = .ok (.iload_n 1, 1) := by decide +kernel
theorem dX5_allLeft_37 : decode cX5_allLeft 37 = .ok (.ireturn, 1) := by decide +kernel
theorem h9_X5_allLeft : yX5_allLeft.cls ≠ "java/lang/invoke/MethodHandle" ∧ yX5_allLeft.cls ≠ "java/lang/invoke/VarHandle" ∧ (parseMethodDescriptor yX5_allLeft.desc).map (fun d => d.parameters.length) = some 0 := by decide +kernel
noncomputable def F_X5_allLeft (a0 : Nat) (w : FW) : Option (Int32) :=
  (fLoop (σ := Int32 × Int32) (ρ := Int32) (fun s1 => fg (w.1 a0 = 6) inferInstance (fg (w.1 (gR w 501 a0 0) = 11) inferInstance (fg (¬ ((0 : Int32) < 0 ∨ w.2.1 (gR w 501 a0 0) ≤ Int32.toNatClampNeg 0)) inferInstance ((if (gI w 601 (gR w 501 a0 0) (Int32.toNatClampNeg 0)) ≤ s1.2 then some (.inr s1.1) else (F_X5_leftOf a0 s1.2 0 w).bind (fun r14 => (F_X5_leftOf a0 s1.2 1 w).bind (fun r17 => some (.inl ((s1.1 + (r14 + r17)), (s1.2 + 1)))))))))) (0, 0)).bind (fun x7 => some x7)
set_option maxHeartbeats 4000000 in
set_option maxRecDepth 100000 in
theorem c_X5_allLeft (l : Launch) (D : va_G) (cy : Nat → ClassId) (a0 : Nat) (w : FW) (r : Int32) (hF : F_X5_allLeft a0 w = some r) : fSpec l D cy yX5_allLeft cX5_allLeft 3 (some .int) { frames := 6, cells := 0, slots := 0, locals := 140 } [.ref a0] w w (some (.int r)) := by
  refine f_begin (by decide +kernel) (Nat.le_of_ble_eq_true rfl) (fun X hC hEn => ?_)
  unfold F_X5_allLeft at hF
  show fAt X 0 0 3 w [(0, .ref a0)] [] 0
  refine f_iconst (v := 0) hC dX5_allLeft_0 (by decide) ?_
  refine f_istore_n (L' := [(1, .int 0), (0, .ref a0)]) hC dX5_allLeft_1 rfl (by decide) rfl ?_
  refine f_iconst (v := 0) hC dX5_allLeft_2 (by decide) ?_
  refine f_istore_n (L' := [(2, .int 0), (1, .int 0), (0, .ref a0)]) hC dX5_allLeft_3 rfl (by decide) rfl ?_
  obtain ⟨x7, h8, hF⟩ := fb_open hF
  have K9 : fAt X 0 0 3 w [(1, .int x7)] [] 36 := by
    refine f_iload_n hC dX5_allLeft_36 rfl 0 rfl ?_
    obtain rfl := Option.some.inj hF
    exact f_iret hC hEn (fSm.rf w) dX5_allLeft_37
  refine f_sub (L' := [(0, .ref a0), (1, .int 0), (2, .int 0)]) [2, 1, 0] rfl ?_
  refine fLoop_ind (fun (s1 : Int32 × Int32) => fAt X 0 0 3 w [(0, .ref a0), (1, .int s1.1), (2, .int s1.2)] [] 4) (fun s1 y6 h2 go3 ou4 => ?_) h8
  refine f_iload_n hC dX5_allLeft_4 rfl 2 rfl ?_
  refine f_aload_n hC dX5_allLeft_5 rfl 0 rfl ?_
  obtain ⟨g10, h2⟩ := fg_open h2
  refine f_getR hC 5 1 501 rfl (by decide) iX5 q_1260 rfl rfl (fSm.k (fSm.rf w) g10) dX5_allLeft_6 ?_
  refine f_iconst (v := 0) hC dX5_allLeft_9 (by decide) ?_
  obtain ⟨g11, h2⟩ := fg_open h2
  obtain ⟨g12, h2⟩ := fg_open h2
  refine f_iald hC (fSm.k (fSm.rf w) g11) (fSm.v (fSm.rf w) g12) dX5_allLeft_10 ?_
  refine f_icmp_ge hC 36 dX5_allLeft_11 (by decide) (fun c13 => ?_) (fun c13 => ?_)
  · replace h2 := fi_pos h2 c13
    obtain rfl := Option.some.inj h2
    obtain rfl := ou4 _ rfl
    refine f_sub (L' := [(1, .int s1.1)]) [1] rfl ?_
    exact K9
  · replace h2 := fi_neg h2 c13
    refine f_iload_n hC dX5_allLeft_14 rfl 1 rfl ?_
    refine f_aload_n hC dX5_allLeft_15 rfl 0 rfl ?_
    refine f_iload_n hC dX5_allLeft_16 rfl 2 rfl ?_
    refine f_iconst (v := 0) hC dX5_allLeft_17 (by decide) ?_
    obtain ⟨r14, h15, h2⟩ := fb_open h2
    refine f_callV hC [.int s1.2, .int 0] (c_X5_leftOf l D cy a0 s1.2 0 w r14 h15) q_1542 q_137 q_1539 q_1541 q_105 h9_X5_leftOf rfl (fSm.k (fSm.rf w) g10) ⟨Nat.le_of_ble_eq_true rfl, Nat.le_of_ble_eq_true rfl⟩ ⟨Nat.le_of_ble_eq_true rfl, Nat.le_of_ble_eq_true rfl⟩ (Nat.le_of_ble_eq_true rfl) rfl dX5_allLeft_18 (fun e16 => ?_)
    refine f_aload_n hC dX5_allLeft_21 rfl 0 rfl ?_
    refine f_iload_n hC dX5_allLeft_22 rfl 2 rfl ?_
    refine f_iconst (v := 1) hC dX5_allLeft_23 (by decide) ?_
    obtain ⟨r17, h18, h2⟩ := fb_open h2
    refine f_callV hC [.int s1.2, .int 1] (c_X5_leftOf l D cy a0 s1.2 1 w r17 h18) q_1542 q_137 q_1539 q_1541 q_105 h9_X5_leftOf rfl (fSm.k (fSm.rf w) g10) ⟨Nat.le_of_ble_eq_true rfl, Nat.le_of_ble_eq_true rfl⟩ ⟨Nat.le_of_ble_eq_true rfl, Nat.le_of_ble_eq_true rfl⟩ (Nat.le_of_ble_eq_true rfl) rfl dX5_allLeft_24 (fun e19 => ?_)
    refine f_iadd hC dX5_allLeft_27 ?_
    refine f_iadd hC dX5_allLeft_28 ?_
    refine f_istore_n (L' := [(1, .int (s1.1 + (r14 + r17))), (0, .ref a0), (2, .int s1.2)]) hC dX5_allLeft_29 rfl (by decide) rfl ?_
    refine f_iinc (L' := [(2, .int (s1.2 + 1)), (1, .int (s1.1 + (r14 + r17))), (0, .ref a0)]) hC dX5_allLeft_30 2 rfl rfl (by decide) rfl ?_
    refine f_goto hC 4 dX5_allLeft_33 (by decide) ?_
    obtain rfl := Option.some.inj h2
    refine f_sub (L' := [(0, .ref a0), (1, .int (s1.1 + (r14 + r17))), (2, .int (s1.2 + 1))]) [2, 1, 0] rfl ?_
    exact go3 _ rfl
theorem dX5_account_0 : decode cX5_account 0 = .ok (.aload_n 0, 1) := by decide +kernel
theorem dX5_account_1 : decode cX5_account 1 = .ok (.iconst 0, 1) := by decide +kernel
theorem dX5_account_2 : decode cX5_account 2 = .ok (.putfield 41, 3) := by decide +kernel
theorem dX5_account_5 : decode cX5_account 5 = .ok (.iload_n 1, 1) := by decide +kernel
theorem dX5_account_6 : decode cX5_account 6 = .ok (.tableswitch 155 0 13 #[70, 77, 85, 92, 97, 102, 107, 112, 117, 124, 131, 138, 145, 150], 70) := by decide +kernel
theorem dX5_account_76 : decode cX5_account 76 = .ok (.aload_n 0, 1) := by decide +kernel
theorem dX5_account_77 : decode cX5_account 77 = .ok (.getfield 7, 3) := by decide +kernel
theorem dX5_account_80 : decode cX5_account 80 = .ok (.iconst 0, 1) := by decide +kernel
theorem dX5_account_81 : decode cX5_account 81 = .ok (.iaload, 1) := by decide +kernel
theorem dX5_account_82 : decode cX5_account 82 = .ok (.ireturn, 1) := by decide +kernel
theorem dX5_account_83 : decode cX5_account 83 = .ok (.aload_n 0, 1) := by decide +kernel
theorem dX5_account_84 : decode cX5_account 84 = .ok (.getfield 7, 3) := by decide +kernel
theorem dX5_account_87 : decode cX5_account 87 = .ok (.bipush 10, 2) := by decide +kernel
theorem dX5_account_89 : decode cX5_account 89 = .ok (.iaload, 1) := by decide +kernel
theorem dX5_account_90 : decode cX5_account 90 = .ok (.ireturn, 1) := by decide +kernel
theorem dX5_account_91 : decode cX5_account 91 = .ok (.aload_n 0, 1) := by decide +kernel
theorem dX5_account_92 : decode cX5_account 92 = .ok (.getfield 7, 3) := by decide +kernel
theorem dX5_account_95 : decode cX5_account 95 = .ok (.iconst 1, 1) := by decide +kernel
theorem dX5_account_96 : decode cX5_account 96 = .ok (.iaload, 1) := by decide +kernel
theorem dX5_account_97 : decode cX5_account 97 = .ok (.ireturn, 1) := by decide +kernel
theorem dX5_account_98 : decode cX5_account 98 = .ok (.aload_n 0, 1) := by decide +kernel
theorem dX5_account_99 : decode cX5_account 99 = .ok (.invokevirtual 141, 3) := by decide +kernel
theorem dX5_account_102 : decode cX5_account 102 = .ok (.ireturn, 1) := by decide +kernel
theorem dX5_account_103 : decode cX5_account 103 = .ok (.aload_n 0, 1) := by decide +kernel
theorem dX5_account_104 : decode cX5_account 104 = .ok (.invokevirtual 151, 3) := by decide +kernel
theorem dX5_account_107 : decode cX5_account 107 = .ok (.ireturn, 1) := by decide +kernel
theorem dX5_account_108 : decode cX5_account 108 = .ok (.aload_n 0, 1) := by decide +kernel
theorem dX5_account_109 : decode cX5_account 109 = .ok (.invokevirtual 154, 3) := by decide +kernel
theorem dX5_account_112 : decode cX5_account 112 = .ok (.ireturn, 1) := by decide +kernel
theorem dX5_account_113 : decode cX5_account 113 = .ok (.aload_n 0, 1) := by decide +kernel
theorem dX5_account_114 : decode cX5_account 114 = .ok (.invokevirtual 242, 3) := by decide +kernel
theorem dX5_account_117 : decode cX5_account 117 = .ok (.ireturn, 1) := by decide +kernel
theorem dX5_account_118 : decode cX5_account 118 = .ok (.aload_n 0, 1) := by decide +kernel
theorem dX5_account_119 : decode cX5_account 119 = .ok (.invokevirtual 245, 3) := by decide +kernel
theorem dX5_account_122 : decode cX5_account 122 = .ok (.ireturn, 1) := by decide +kernel
theorem dX5_account_123 : decode cX5_account 123 = .ok (.aload_n 0, 1) := by decide +kernel
theorem dX5_account_124 : decode cX5_account 124 = .ok (.getfield 7, 3) := by decide +kernel
theorem dX5_account_127 : decode cX5_account 127 = .ok (.iconst 2, 1) := by decide +kernel
theorem dX5_account_128 : decode cX5_account 128 = .ok (.iaload, 1) := by decide +kernel
theorem dX5_account_129 : decode cX5_account 129 = .ok (.ireturn, 1) := by decide +kernel
theorem dX5_account_130 : decode cX5_account 130 = .ok (.aload_n 0, 1) := by decide +kernel
theorem dX5_account_131 : decode cX5_account 131 = .ok (.getfield 7, 3) := by decide +kernel
theorem dX5_account_134 : decode cX5_account 134 = .ok (.iconst 3, 1) := by decide +kernel
theorem dX5_account_135 : decode cX5_account 135 = .ok (.iaload, 1) := by decide +kernel
theorem dX5_account_136 : decode cX5_account 136 = .ok (.ireturn, 1) := by decide +kernel
theorem dX5_account_137 : decode cX5_account 137 = .ok (.aload_n 0, 1) := by decide +kernel
theorem dX5_account_138 : decode cX5_account 138 = .ok (.getfield 7, 3) := by decide +kernel
theorem dX5_account_141 : decode cX5_account 141 = .ok (.iconst 4, 1) := by decide +kernel
theorem dX5_account_142 : decode cX5_account 142 = .ok (.iaload, 1) := by decide +kernel
theorem dX5_account_143 : decode cX5_account 143 = .ok (.ireturn, 1) := by decide +kernel
theorem dX5_account_144 : decode cX5_account 144 = .ok (.aload_n 0, 1) := by decide +kernel
theorem dX5_account_145 : decode cX5_account 145 = .ok (.getfield 7, 3) := by decide +kernel
theorem dX5_account_148 : decode cX5_account 148 = .ok (.iconst 5, 1) := by decide +kernel
theorem dX5_account_149 : decode cX5_account 149 = .ok (.iaload, 1) := by decide +kernel
theorem dX5_account_150 : decode cX5_account 150 = .ok (.ireturn, 1) := by decide +kernel
theorem dX5_account_151 : decode cX5_account 151 = .ok (.aload_n 0, 1) := by decide +kernel
theorem dX5_account_152 : decode cX5_account 152 = .ok (.getfield 248, 3) := by decide +kernel
theorem dX5_account_155 : decode cX5_account 155 = .ok (.ireturn, 1) := by decide +kernel
theorem dX5_account_156 : decode cX5_account 156 = .ok (.aload_n 0, 1) := by decide +kernel
theorem dX5_account_157 : decode cX5_account 157 = .ok (.getfield 44, 3) := by decide +kernel
theorem dX5_account_160 : decode cX5_account 160 = .ok (.ireturn, 1) := by decide +kernel
theorem dX5_account_161 : decode cX5_account 161 = .ok (.aload_n 0, 1) := by decide +kernel
theorem dX5_account_162 : decode cX5_account 162 = .ok (.iconst 1, 1) := by decide +kernel
theorem dX5_account_163 : decode cX5_account 163 = .ok (.invokevirtual 57, 3) := by decide +kernel
theorem dX5_account_166 : decode cX5_account 166 = .ok (.ireturn, 1) := by decide +kernel
theorem h9_X5_account : yX5_account.cls ≠ "java/lang/invoke/MethodHandle" ∧ yX5_account.cls ≠ "java/lang/invoke/VarHandle" ∧ (parseMethodDescriptor yX5_account.desc).map (fun d => d.parameters.length) = some 1 := by decide +kernel
noncomputable def F_X5_account (a0 : Nat) (x1 : Int32) (w : FW) : Option (Int32 × FW) :=
  fg (w.1 a0 = 6) inferInstance ((if x1 = 0 then fg (w.1 (gR w 501 a0 0) = 11) inferInstance (fg (¬ ((0 : Int32) < 0 ∨ w.2.1 (gR w 501 a0 0) ≤ Int32.toNatClampNeg 0)) inferInstance (some ((gI (sI w 500 a0 0 0) 601 (gR (sI w 500 a0 0 0) 501 a0 0) (Int32.toNatClampNeg 0)), (sI w 500 a0 0 0)))) else (if x1 = 1 then fg (w.1 (gR w 501 a0 0) = 11) inferInstance (fg (¬ ((10 : Int32) < 0 ∨ w.2.1 (gR w 501 a0 0) ≤ Int32.toNatClampNeg 10)) inferInstance (some ((gI (sI w 500 a0 0 0) 601 (gR (sI w 500 a0 0 0) 501 a0 0) (Int32.toNatClampNeg 10)), (sI w 500 a0 0 0)))) else (if x1 = 2 then fg (w.1 (gR w 501 a0 0) = 11) inferInstance (fg (¬ ((1 : Int32) < 0 ∨ w.2.1 (gR w 501 a0 0) ≤ Int32.toNatClampNeg 1)) inferInstance (some ((gI (sI w 500 a0 0 0) 601 (gR (sI w 500 a0 0 0) 501 a0 0) (Int32.toNatClampNeg 1)), (sI w 500 a0 0 0)))) else (if x1 = 3 then (F_X5_openMany a0 (sI w 500 a0 0 0)).bind (fun r12 => some (r12, (sI w 500 a0 0 0))) else (if x1 = 4 then (F_X5_tornMany a0 (sI w 500 a0 0 0)).bind (fun r16 => some (r16, (sI w 500 a0 0 0))) else (if x1 = 5 then (F_X5_lostMany a0 (sI w 500 a0 0 0)).bind (fun r20 => some (r20, (sI w 500 a0 0 0))) else (if x1 = 6 then (F_X5_punchedMany a0 (sI w 500 a0 0 0)).bind (fun r24 => some (r24, (sI w 500 a0 0 0))) else (if x1 = 7 then (F_X5_allLeft a0 (sI w 500 a0 0 0)).bind (fun r28 => some (r28, (sI w 500 a0 0 0))) else (if x1 = 8 then fg (w.1 (gR w 501 a0 0) = 11) inferInstance (fg (¬ ((2 : Int32) < 0 ∨ w.2.1 (gR w 501 a0 0) ≤ Int32.toNatClampNeg 2)) inferInstance (some ((gI (sI w 500 a0 0 0) 601 (gR (sI w 500 a0 0 0) 501 a0 0) (Int32.toNatClampNeg 2)), (sI w 500 a0 0 0)))) else (if x1 = 9 then fg (w.1 (gR w 501 a0 0) = 11) inferInstance (fg (¬ ((3 : Int32) < 0 ∨ w.2.1 (gR w 501 a0 0) ≤ Int32.toNatClampNeg 3)) inferInstance (some ((gI (sI w 500 a0 0 0) 601 (gR (sI w 500 a0 0 0) 501 a0 0) (Int32.toNatClampNeg 3)), (sI w 500 a0 0 0)))) else (if x1 = 10 then fg (w.1 (gR w 501 a0 0) = 11) inferInstance (fg (¬ ((4 : Int32) < 0 ∨ w.2.1 (gR w 501 a0 0) ≤ Int32.toNatClampNeg 4)) inferInstance (some ((gI (sI w 500 a0 0 0) 601 (gR (sI w 500 a0 0 0) 501 a0 0) (Int32.toNatClampNeg 4)), (sI w 500 a0 0 0)))) else (if x1 = 11 then fg (w.1 (gR w 501 a0 0) = 11) inferInstance (fg (¬ ((5 : Int32) < 0 ∨ w.2.1 (gR w 501 a0 0) ≤ Int32.toNatClampNeg 5)) inferInstance (some ((gI (sI w 500 a0 0 0) 601 (gR (sI w 500 a0 0 0) 501 a0 0) (Int32.toNatClampNeg 5)), (sI w 500 a0 0 0)))) else (if x1 = 12 then some ((gI (sI w 500 a0 0 0) 511 a0 0), (sI w 500 a0 0 0)) else (if x1 = 13 then some ((gI (sI w 500 a0 0 0) 505 a0 0), (sI w 500 a0 0 0)) else (F_X5_fails a0 1 (sI w 500 a0 0 0)).bind (fun r45 => some (r45.1, r45.2)))))))))))))))))
set_option maxHeartbeats 4000000 in
set_option maxRecDepth 100000 in
theorem c_X5_account (l : Launch) (D : va_G) (cy : Nat → ClassId) (a0 : Nat) (x1 : Int32) (w : FW) (r : Int32 × FW) (hF : F_X5_account a0 x1 w = some r) : fSpec l D cy yX5_account cX5_account 2 (some .int) { frames := 7, cells := 0, slots := 0, locals := 162 } [.ref a0, .int x1] w r.2 (some (.int r.1)) := by
  refine f_begin (by decide +kernel) (Nat.le_of_ble_eq_true rfl) (fun X hC hEn => ?_)
  unfold F_X5_account at hF
  show fAt X 0 0 2 w [(0, .ref a0), (1, .int x1)] [] 0
  refine f_aload_n hC dX5_account_0 rfl 0 rfl ?_
  refine f_iconst (v := 0) hC dX5_account_1 (by decide) ?_
  obtain ⟨g1, hF⟩ := fg_open hF
  refine f_putI hC 5 0 500 rfl (by decide) iX5 tyX5 tyX5_ok nmX5 q_1259 rfl rfl rfl rfl rfl (fSm.k (fSm.rf w) g1) dX5_account_2 ?_
  refine f_iload_n hC dX5_account_5 rfl 1 rfl ?_
  by_cases c2 : x1 = 0
  · replace hF := fi_pos hF c2
    refine f_tabIn hC 76 dX5_account_6 (by rw [c2] <;> decide) (by rw [c2] <;> decide) (by rw [c2] <;> rfl) (by decide) ?_
    refine f_aload_n hC dX5_account_76 rfl 0 rfl ?_
    refine f_getR hC 5 1 501 rfl (by decide) iX5 q_1260 rfl rfl (fSm.k (fSm.rf w) g1) dX5_account_77 ?_
    refine f_iconst (v := 0) hC dX5_account_80 (by decide) ?_
    obtain ⟨g3, hF⟩ := fg_open hF
    obtain ⟨g4, hF⟩ := fg_open hF
    refine f_iald hC (fSm.k (fSm.rf w) g3) (fSm.v (fSm.rf w) g4) dX5_account_81 ?_
    obtain rfl := Option.some.inj hF
    exact f_iret hC hEn (fSm.rf w) dX5_account_82
  · replace hF := fi_neg hF c2
    by_cases c5 : x1 = 1
    · replace hF := fi_pos hF c5
      refine f_tabIn hC 83 dX5_account_6 (by rw [c5] <;> decide) (by rw [c5] <;> decide) (by rw [c5] <;> rfl) (by decide) ?_
      refine f_aload_n hC dX5_account_83 rfl 0 rfl ?_
      refine f_getR hC 5 1 501 rfl (by decide) iX5 q_1260 rfl rfl (fSm.k (fSm.rf w) g1) dX5_account_84 ?_
      refine f_bipush (v := 10) hC dX5_account_87 (by decide) ?_
      obtain ⟨g6, hF⟩ := fg_open hF
      obtain ⟨g7, hF⟩ := fg_open hF
      refine f_iald hC (fSm.k (fSm.rf w) g6) (fSm.v (fSm.rf w) g7) dX5_account_89 ?_
      obtain rfl := Option.some.inj hF
      exact f_iret hC hEn (fSm.rf w) dX5_account_90
    · replace hF := fi_neg hF c5
      by_cases c8 : x1 = 2
      · replace hF := fi_pos hF c8
        refine f_tabIn hC 91 dX5_account_6 (by rw [c8] <;> decide) (by rw [c8] <;> decide) (by rw [c8] <;> rfl) (by decide) ?_
        refine f_aload_n hC dX5_account_91 rfl 0 rfl ?_
        refine f_getR hC 5 1 501 rfl (by decide) iX5 q_1260 rfl rfl (fSm.k (fSm.rf w) g1) dX5_account_92 ?_
        refine f_iconst (v := 1) hC dX5_account_95 (by decide) ?_
        obtain ⟨g9, hF⟩ := fg_open hF
        obtain ⟨g10, hF⟩ := fg_open hF
        refine f_iald hC (fSm.k (fSm.rf w) g9) (fSm.v (fSm.rf w) g10) dX5_account_96 ?_
        obtain rfl := Option.some.inj hF
        exact f_iret hC hEn (fSm.rf w) dX5_account_97
      · replace hF := fi_neg hF c8
        by_cases c11 : x1 = 3
        · replace hF := fi_pos hF c11
          refine f_tabIn hC 98 dX5_account_6 (by rw [c11] <;> decide) (by rw [c11] <;> decide) (by rw [c11] <;> rfl) (by decide) ?_
          refine f_aload_n hC dX5_account_98 rfl 0 rfl ?_
          obtain ⟨r12, h13, hF⟩ := fb_open hF
          refine f_callV hC [] (c_X5_openMany l D cy a0 (sI w 500 a0 0 0) r12 h13) q_1444 q_137 q_1441 q_1443 q_90 h9_X5_openMany rfl (fSm.k (fSm.rf w) g1) ⟨Nat.le_of_ble_eq_true rfl, Nat.le_of_ble_eq_true rfl⟩ ⟨Nat.le_of_ble_eq_true rfl, Nat.le_of_ble_eq_true rfl⟩ (Nat.le_of_ble_eq_true rfl) rfl dX5_account_99 (fun e14 => ?_)
          obtain rfl := Option.some.inj hF
          exact f_iret hC hEn (fSm.rf w) dX5_account_102
        · replace hF := fi_neg hF c11
          by_cases c15 : x1 = 4
          · replace hF := fi_pos hF c15
            refine f_tabIn hC 103 dX5_account_6 (by rw [c15] <;> decide) (by rw [c15] <;> decide) (by rw [c15] <;> rfl) (by decide) ?_
            refine f_aload_n hC dX5_account_103 rfl 0 rfl ?_
            obtain ⟨r16, h17, hF⟩ := fb_open hF
            refine f_callV hC [] (c_X5_tornMany l D cy a0 (sI w 500 a0 0 0) r16 h17) q_1518 q_137 q_1515 q_1517 q_102 h9_X5_tornMany rfl (fSm.k (fSm.rf w) g1) ⟨Nat.le_of_ble_eq_true rfl, Nat.le_of_ble_eq_true rfl⟩ ⟨Nat.le_of_ble_eq_true rfl, Nat.le_of_ble_eq_true rfl⟩ (Nat.le_of_ble_eq_true rfl) rfl dX5_account_104 (fun e18 => ?_)
            obtain rfl := Option.some.inj hF
            exact f_iret hC hEn (fSm.rf w) dX5_account_107
          · replace hF := fi_neg hF c15
            by_cases c19 : x1 = 5
            · replace hF := fi_pos hF c19
              refine f_tabIn hC 108 dX5_account_6 (by rw [c19] <;> decide) (by rw [c19] <;> decide) (by rw [c19] <;> rfl) (by decide) ?_
              refine f_aload_n hC dX5_account_108 rfl 0 rfl ?_
              obtain ⟨r20, h21, hF⟩ := fb_open hF
              refine f_callV hC [] (c_X5_lostMany l D cy a0 (sI w 500 a0 0 0) r20 h21) q_1530 q_137 q_1527 q_1529 q_104 h9_X5_lostMany rfl (fSm.k (fSm.rf w) g1) ⟨Nat.le_of_ble_eq_true rfl, Nat.le_of_ble_eq_true rfl⟩ ⟨Nat.le_of_ble_eq_true rfl, Nat.le_of_ble_eq_true rfl⟩ (Nat.le_of_ble_eq_true rfl) rfl dX5_account_109 (fun e22 => ?_)
              obtain rfl := Option.some.inj hF
              exact f_iret hC hEn (fSm.rf w) dX5_account_112
            · replace hF := fi_neg hF c19
              by_cases c23 : x1 = 6
              · replace hF := fi_pos hF c23
                refine f_tabIn hC 113 dX5_account_6 (by rw [c23] <;> decide) (by rw [c23] <;> decide) (by rw [c23] <;> rfl) (by decide) ?_
                refine f_aload_n hC dX5_account_113 rfl 0 rfl ?_
                obtain ⟨r24, h25, hF⟩ := fb_open hF
                refine f_callV hC [] (c_X5_punchedMany l D cy a0 (sI w 500 a0 0 0) r24 h25) q_1685 q_137 q_1682 q_1684 q_121 h9_X5_punchedMany rfl (fSm.k (fSm.rf w) g1) ⟨Nat.le_of_ble_eq_true rfl, Nat.le_of_ble_eq_true rfl⟩ ⟨Nat.le_of_ble_eq_true rfl, Nat.le_of_ble_eq_true rfl⟩ (Nat.le_of_ble_eq_true rfl) rfl dX5_account_114 (fun e26 => ?_)
                obtain rfl := Option.some.inj hF
                exact f_iret hC hEn (fSm.rf w) dX5_account_117
              · replace hF := fi_neg hF c23
                by_cases c27 : x1 = 7
                · replace hF := fi_pos hF c27
                  refine f_tabIn hC 118 dX5_account_6 (by rw [c27] <;> decide) (by rw [c27] <;> decide) (by rw [c27] <;> rfl) (by decide) ?_
                  refine f_aload_n hC dX5_account_118 rfl 0 rfl ?_
                  obtain ⟨r28, h29, hF⟩ := fb_open hF
                  refine f_callV hC [] (c_X5_allLeft l D cy a0 (sI w 500 a0 0 0) r28 h29) q_1689 q_137 q_1686 q_1688 q_122 h9_X5_allLeft rfl (fSm.k (fSm.rf w) g1) ⟨Nat.le_of_ble_eq_true rfl, Nat.le_of_ble_eq_true rfl⟩ ⟨Nat.le_of_ble_eq_true rfl, Nat.le_of_ble_eq_true rfl⟩ (Nat.le_of_ble_eq_true rfl) rfl dX5_account_119 (fun e30 => ?_)
                  obtain rfl := Option.some.inj hF
                  exact f_iret hC hEn (fSm.rf w) dX5_account_122
                · replace hF := fi_neg hF c27
                  by_cases c31 : x1 = 8
                  · replace hF := fi_pos hF c31
                    refine f_tabIn hC 123 dX5_account_6 (by rw [c31] <;> decide) (by rw [c31] <;> decide) (by rw [c31] <;> rfl) (by decide) ?_
                    refine f_aload_n hC dX5_account_123 rfl 0 rfl ?_
                    refine f_getR hC 5 1 501 rfl (by decide) iX5 q_1260 rfl rfl (fSm.k (fSm.rf w) g1) dX5_account_124 ?_
                    refine f_iconst (v := 2) hC dX5_account_127 (by decide) ?_
                    obtain ⟨g32, hF⟩ := fg_open hF
                    obtain ⟨g33, hF⟩ := fg_open hF
                    refine f_iald hC (fSm.k (fSm.rf w) g32) (fSm.v (fSm.rf w) g33) dX5_account_128 ?_
                    obtain rfl := Option.some.inj hF
                    exact f_iret hC hEn (fSm.rf w) dX5_account_129
                  · replace hF := fi_neg hF c31
                    by_cases c34 : x1 = 9
                    · replace hF := fi_pos hF c34
                      refine f_tabIn hC 130 dX5_account_6 (by rw [c34] <;> decide) (by rw [c34] <;> decide) (by rw [c34] <;> rfl) (by decide) ?_
                      refine f_aload_n hC dX5_account_130 rfl 0 rfl ?_
                      refine f_getR hC 5 1 501 rfl (by decide) iX5 q_1260 rfl rfl (fSm.k (fSm.rf w) g1) dX5_account_131 ?_
                      refine f_iconst (v := 3) hC dX5_account_134 (by decide) ?_
                      obtain ⟨g35, hF⟩ := fg_open hF
                      obtain ⟨g36, hF⟩ := fg_open hF
                      refine f_iald hC (fSm.k (fSm.rf w) g35) (fSm.v (fSm.rf w) g36) dX5_account_135 ?_
                      obtain rfl := Option.some.inj hF
                      exact f_iret hC hEn (fSm.rf w) dX5_account_136
                    · replace hF := fi_neg hF c34
                      by_cases c37 : x1 = 10
                      · replace hF := fi_pos hF c37
                        refine f_tabIn hC 137 dX5_account_6 (by rw [c37] <;> decide) (by rw [c37] <;> decide) (by rw [c37] <;> rfl) (by decide) ?_
                        refine f_aload_n hC dX5_account_137 rfl 0 rfl ?_
                        refine f_getR hC 5 1 501 rfl (by decide) iX5 q_1260 rfl rfl (fSm.k (fSm.rf w) g1) dX5_account_138 ?_
                        refine f_iconst (v := 4) hC dX5_account_141 (by decide) ?_
                        obtain ⟨g38, hF⟩ := fg_open hF
                        obtain ⟨g39, hF⟩ := fg_open hF
                        refine f_iald hC (fSm.k (fSm.rf w) g38) (fSm.v (fSm.rf w) g39) dX5_account_142 ?_
                        obtain rfl := Option.some.inj hF
                        exact f_iret hC hEn (fSm.rf w) dX5_account_143
                      · replace hF := fi_neg hF c37
                        by_cases c40 : x1 = 11
                        · replace hF := fi_pos hF c40
                          refine f_tabIn hC 144 dX5_account_6 (by rw [c40] <;> decide) (by rw [c40] <;> decide) (by rw [c40] <;> rfl) (by decide) ?_
                          refine f_aload_n hC dX5_account_144 rfl 0 rfl ?_
                          refine f_getR hC 5 1 501 rfl (by decide) iX5 q_1260 rfl rfl (fSm.k (fSm.rf w) g1) dX5_account_145 ?_
                          refine f_iconst (v := 5) hC dX5_account_148 (by decide) ?_
                          obtain ⟨g41, hF⟩ := fg_open hF
                          obtain ⟨g42, hF⟩ := fg_open hF
                          refine f_iald hC (fSm.k (fSm.rf w) g41) (fSm.v (fSm.rf w) g42) dX5_account_149 ?_
                          obtain rfl := Option.some.inj hF
                          exact f_iret hC hEn (fSm.rf w) dX5_account_150
                        · replace hF := fi_neg hF c40
                          by_cases c43 : x1 = 12
                          · replace hF := fi_pos hF c43
                            refine f_tabIn hC 151 dX5_account_6 (by rw [c43] <;> decide) (by rw [c43] <;> decide) (by rw [c43] <;> rfl) (by decide) ?_
                            refine f_aload_n hC dX5_account_151 rfl 0 rfl ?_
                            refine f_getI hC 5 11 511 rfl (by decide) iX5 q_1270 rfl rfl (fSm.k (fSm.rf w) g1) dX5_account_152 ?_
                            obtain rfl := Option.some.inj hF
                            exact f_iret hC hEn (fSm.rf w) dX5_account_155
                          · replace hF := fi_neg hF c43
                            by_cases c44 : x1 = 13
                            · replace hF := fi_pos hF c44
                              refine f_tabIn hC 156 dX5_account_6 (by rw [c44] <;> decide) (by rw [c44] <;> decide) (by rw [c44] <;> rfl) (by decide) ?_
                              refine f_aload_n hC dX5_account_156 rfl 0 rfl ?_
                              refine f_getI hC 5 5 505 rfl (by decide) iX5 q_1264 rfl rfl (fSm.k (fSm.rf w) g1) dX5_account_157 ?_
                              obtain rfl := Option.some.inj hF
                              exact f_iret hC hEn (fSm.rf w) dX5_account_160
                            · replace hF := fi_neg hF c44
                              refine f_tabOut hC 161 dX5_account_6 (ftab 0 13 (by decide) (by decide) (fun j h1 h2 => ?_)) (by decide) ?_
                              · rcases (show j = 0 ∨ j = 1 ∨ j = 2 ∨ j = 3 ∨ j = 4 ∨ j = 5 ∨ j = 6 ∨ j = 7 ∨ j = 8 ∨ j = 9 ∨ j = 10 ∨ j = 11 ∨ j = 12 ∨ j = 13 by omega) with rfl | rfl | rfl | rfl | rfl | rfl | rfl | rfl | rfl | rfl | rfl | rfl | rfl | rfl
                                · exact c2
                                · exact c5
                                · exact c8
                                · exact c11
                                · exact c15
                                · exact c19
                                · exact c23
                                · exact c27
                                · exact c31
                                · exact c34
                                · exact c37
                                · exact c40
                                · exact c43
                                · exact c44
                              refine f_aload_n hC dX5_account_161 rfl 0 rfl ?_
                              refine f_iconst (v := 1) hC dX5_account_162 (by decide) ?_
                              obtain ⟨r45, h46, hF⟩ := fb_open hF
                              refine f_callV hC [.int 1] (c_X5_fails l D cy a0 1 (sI w 500 a0 0 0) r45 h46) q_1380 q_137 q_1377 q_1379 q_79 h9_X5_fails rfl (fSm.k (fSm.rf w) g1) ⟨Nat.le_of_ble_eq_true rfl, Nat.le_of_ble_eq_true rfl⟩ ⟨Nat.le_of_ble_eq_true rfl, Nat.le_of_ble_eq_true rfl⟩ (Nat.le_of_ble_eq_true rfl) rfl dX5_account_163 (fun e47 => ?_)
                              obtain rfl := Option.some.inj hF
                              exact f_iret hC hEn (fSm.tr e47 (fSm.rf w)) dX5_account_166
theorem dX5_meanWet_0 : decode cX5_meanWet 0 = .ok (.aload_n 0, 1) := by decide +kernel
theorem dX5_meanWet_1 : decode cX5_meanWet 1 = .ok (.aload_n 0, 1) := by decide +kernel
theorem dX5_meanWet_2 : decode cX5_meanWet 2 = .ok (.getfield 7, 3) := by decide +kernel
theorem dX5_meanWet_5 : decode cX5_meanWet 5 = .ok (.iconst 0, 1) := by decide +kernel
theorem dX5_meanWet_6 : decode cX5_meanWet 6 = .ok (.iaload, 1) := by decide +kernel
theorem dX5_meanWet_7 : decode cX5_meanWet 7 = .ok (.ifCond .ne 7, 3) := by decide +kernel
theorem dX5_meanWet_10 : decode cX5_meanWet 10 = .ok (.iconst 1, 1) := by decide +kernel
theorem dX5_meanWet_11 : decode cX5_meanWet 11 = .ok (.goto 4, 3) := by decide +kernel
theorem dX5_meanWet_14 : decode cX5_meanWet 14 = .ok (.iconst 0, 1) := by decide +kernel
theorem dX5_meanWet_15 : decode cX5_meanWet 15 = .ok (.putfield 41, 3) := by decide +kernel
theorem dX5_meanWet_18 : decode cX5_meanWet 18 = .ok (.aload_n 0, 1) := by decide +kernel
theorem dX5_meanWet_19 : decode cX5_meanWet 19 = .ok (.getfield 41, 3) := by decide +kernel
theorem dX5_meanWet_22 : decode cX5_meanWet 22 = .ok (.ifCond .le 5, 3) := by decide +kernel
theorem dX5_meanWet_25 : decode cX5_meanWet 25 = .ok (.dconst 0, 1) := by decide +kernel
theorem dX5_meanWet_26 : decode cX5_meanWet 26 = .ok (.dreturn, 1) := by decide +kernel
theorem dX5_meanWet_27 : decode cX5_meanWet 27 = .ok (.iconst 0, 1) := by decide +kernel
theorem dX5_meanWet_28 : decode cX5_meanWet 28 = .ok (.istore_n 1, 1) := by decide +kernel
theorem dX5_meanWet_29 : decode cX5_meanWet 29 = .ok (.iconst 0, 1) := by decide +kernel
theorem dX5_meanWet_30 : decode cX5_meanWet 30 = .ok (.istore_n 2, 1) := by decide +kernel
theorem dX5_meanWet_31 : decode cX5_meanWet 31 = .ok (.iload_n 2, 1) := by decide +kernel
theorem dX5_meanWet_32 : decode cX5_meanWet 32 = .ok (.aload_n 0, 1) := by decide +kernel
theorem dX5_meanWet_33 : decode cX5_meanWet 33 = .ok (.getfield 7, 3) := by decide +kernel
theorem dX5_meanWet_36 : decode cX5_meanWet 36 = .ok (.iconst 0, 1) := by decide +kernel
theorem dX5_meanWet_37 : decode cX5_meanWet 37 = .ok (.iaload, 1) := by decide +kernel
theorem dX5_meanWet_38 : decode cX5_meanWet 38 = .ok (.if_icmp .ge 18, 3) := by decide +kernel
theorem dX5_meanWet_41 : decode cX5_meanWet 41 = .ok (.iload_n 1, 1) := by decide +kernel
theorem dX5_meanWet_42 : decode cX5_meanWet 42 = .ok (.aload_n 0, 1) := by decide +kernel
theorem dX5_meanWet_43 : decode cX5_meanWet 43 = .ok (.iload_n 2, 1) := by decide +kernel
theorem dX5_meanWet_44 : decode cX5_meanWet 44 = .ok (.iconst 0, 1) := by decide +kernel
theorem dX5_meanWet_45 : decode cX5_meanWet 45 = .ok (.invokevirtual 228, 3) := by decide +kernel
theorem dX5_meanWet_48 : decode cX5_meanWet 48 = .ok (.iadd, 1) := by decide +kernel
theorem dX5_meanWet_49 : decode cX5_meanWet 49 = .ok (.istore_n 1, 1) := by decide +kernel
theorem dX5_meanWet_50 : decode cX5_meanWet 50 = .ok (.iinc 2 1, 3) := by decide +kernel
theorem dX5_meanWet_53 : decode cX5_meanWet 53 = .ok (.goto (-22), 3) := by decide +kernel
theorem dX5_meanWet_56 : decode cX5_meanWet 56 = .ok (.iload_n 1, 1) := by decide +kernel
theorem dX5_meanWet_57 : decode cX5_meanWet 57 = .ok (.i2d, 1) := by decide +kernel
theorem dX5_meanWet_58 : decode cX5_meanWet 58 = .ok (.iconst 2, 1) := by decide +kernel
theorem dX5_meanWet_59 : decode cX5_meanWet 59 = .ok (.aload_n 0, 1) := by decide +kernel
theorem dX5_meanWet_60 : decode cX5_meanWet 60 = .ok (.getfield 7, 3) := by decide +kernel
theorem dX5_meanWet_63 : decode cX5_meanWet 63 = .ok (.iconst 0, 1) := by decide +kernel
theorem dX5_meanWet_64 : decode cX5_meanWet 64 = .ok (.iaload, 1) := by decide +kernel
theorem dX5_meanWet_65 : decode cX5_meanWet 65 = .ok (.imul, 1) := by decide +kernel
theorem dX5_meanWet_66 : decode cX5_meanWet 66 = .ok (.i2d, 1) := by decide +kernel
theorem dX5_meanWet_67 : decode cX5_meanWet 67 = .ok (.ddiv, 1) := by decide +kernel
theorem dX5_meanWet_68 : decode cX5_meanWet 68 = .ok (.dreturn, 1) := by decide +kernel
theorem h9_X5_meanWet : yX5_meanWet.cls ≠ "java/lang/invoke/MethodHandle" ∧ yX5_meanWet.cls ≠ "java/lang/invoke/VarHandle" ∧ (parseMethodDescriptor yX5_meanWet.desc).map (fun d => d.parameters.length) = some 0 := by decide +kernel
noncomputable def F_X5_meanWet (a0 : Nat) (w : FW) : Option (UInt64 × FW) :=
  fg (w.1 a0 = 6) inferInstance (fg (w.1 (gR w 501 a0 0) = 11) inferInstance (fg (¬ ((0 : Int32) < 0 ∨ w.2.1 (gR w 501 a0 0) ≤ Int32.toNatClampNeg 0)) inferInstance (((if (gI w 601 (gR w 501 a0 0) (Int32.toNatClampNeg 0)) = 0 then some 1 else some 0) : Option (Int32)).bind (fun x4 => (if (gI (sI w 500 a0 0 x4) 500 a0 0) ≤ 0 then (fLoop (σ := Int32 × Int32) (ρ := Int32) (fun s9 => (if (gI (sI w 500 a0 0 x4) 601 (gR (sI w 500 a0 0 x4) 501 a0 0) (Int32.toNatClampNeg 0)) ≤ s9.2 then some (.inr s9.1) else (F_X5_measureOf a0 s9.2 0 (sI w 500 a0 0 x4)).bind (fun r19 => some (.inl ((s9.1 + r19), (s9.2 + 1)))))) (0, 0)).bind (fun x15 => fg ((FP.ddiv (FP.i2d x15) (FP.i2d (2 * (gI (sI w 500 a0 0 x4) 601 (gR (sI w 500 a0 0 x4) 501 a0 0) (Int32.toNatClampNeg 0))))) &&& 0x7fffffffffffffff ≤ 0x7ff0000000000000) inferInstance (some ((FP.ddiv (FP.i2d x15) (FP.i2d (2 * (gI (sI w 500 a0 0 x4) 601 (gR (sI w 500 a0 0 x4) 501 a0 0) (Int32.toNatClampNeg 0))))), (sI w 500 a0 0 x4)))) else some (0, (sI w 500 a0 0 x4)))))))
set_option maxHeartbeats 4000000 in
set_option maxRecDepth 100000 in
theorem c_X5_meanWet (l : Launch) (D : va_G) (cy : Nat → ClassId) (a0 : Nat) (w : FW) (r : UInt64 × FW) (hF : F_X5_meanWet a0 w = some r) : fSpec l D cy yX5_meanWet cX5_meanWet 3 (some .double) { frames := 7, cells := 0, slots := 0, locals := 162 } [.ref a0] w r.2 (some (.double r.1)) := by
  refine f_begin (by decide +kernel) (Nat.le_of_ble_eq_true rfl) (fun X hC hEn => ?_)
  unfold F_X5_meanWet at hF
  show fAt X 0 0 3 w [(0, .ref a0)] [] 0
  refine f_aload_n hC dX5_meanWet_0 rfl 0 rfl ?_
  refine f_aload_n hC dX5_meanWet_1 rfl 0 rfl ?_
  obtain ⟨g1, hF⟩ := fg_open hF
  refine f_getR hC 5 1 501 rfl (by decide) iX5 q_1260 rfl rfl (fSm.k (fSm.rf w) g1) dX5_meanWet_2 ?_
  refine f_iconst (v := 0) hC dX5_meanWet_5 (by decide) ?_
  obtain ⟨g2, hF⟩ := fg_open hF
  obtain ⟨g3, hF⟩ := fg_open hF
  refine f_iald hC (fSm.k (fSm.rf w) g2) (fSm.v (fSm.rf w) g3) dX5_meanWet_6 ?_
  obtain ⟨x4, h5, hF⟩ := fb_open hF
  have K7 : fAt X 0 0 3 w [(0, .ref a0)] [.int x4, .ref a0] 15 := by
    refine f_putI hC 5 0 500 rfl (by decide) iX5 tyX5 tyX5_ok nmX5 q_1259 rfl rfl rfl rfl rfl (fSm.k (fSm.rf w) g1) dX5_meanWet_15 ?_
    refine f_aload_n hC dX5_meanWet_18 rfl 0 rfl ?_
    refine f_getI hC 5 0 500 rfl (by decide) iX5 q_1259 rfl rfl (fSm.k (fSm.rf w) g1) dX5_meanWet_19 ?_
    refine f_if_le hC 27 dX5_meanWet_22 (by decide) (fun c8 => ?_) (fun c8 => ?_)
    · replace hF := fi_pos hF c8
      refine f_iconst (v := 0) hC dX5_meanWet_27 (by decide) ?_
      refine f_istore_n (L' := [(1, .int 0), (0, .ref a0)]) hC dX5_meanWet_28 rfl (by decide) rfl ?_
      refine f_iconst (v := 0) hC dX5_meanWet_29 (by decide) ?_
      refine f_istore_n (L' := [(2, .int 0), (1, .int 0), (0, .ref a0)]) hC dX5_meanWet_30 rfl (by decide) rfl ?_
      obtain ⟨x15, h16, hF⟩ := fb_open hF
      have K17 : fAt X 0 0 3 (sI w 500 a0 0 x4) [(0, .ref a0), (1, .int x15)] [] 56 := by
        refine f_iload_n hC dX5_meanWet_56 rfl 1 rfl ?_
        refine f_i2d hC dX5_meanWet_57 ?_
        refine f_iconst (v := 2) hC dX5_meanWet_58 (by decide) ?_
        refine f_aload_n hC dX5_meanWet_59 rfl 0 rfl ?_
        refine f_getR hC 5 1 501 rfl (by decide) iX5 q_1260 rfl rfl (fSm.k (fSm.rf w) g1) dX5_meanWet_60 ?_
        refine f_iconst (v := 0) hC dX5_meanWet_63 (by decide) ?_
        refine f_iald hC (fSm.k (fSm.rf w) g2) (fSm.v (fSm.rf w) g3) dX5_meanWet_64 ?_
        refine f_imul hC dX5_meanWet_65 ?_
        refine f_i2d hC dX5_meanWet_66 ?_
        obtain ⟨g22, hF⟩ := fg_open hF
        refine f_ddiv hC dX5_meanWet_67 g22 ?_
        obtain rfl := Option.some.inj hF
        exact f_dret hC hEn (fSm.rf w) dX5_meanWet_68
      refine f_sub (L' := [(0, .ref a0), (1, .int 0), (2, .int 0)]) [2, 1, 0] rfl ?_
      refine fLoop_ind (fun (s9 : Int32 × Int32) => fAt X 0 0 3 (sI w 500 a0 0 x4) [(0, .ref a0), (1, .int s9.1), (2, .int s9.2)] [] 31) (fun s9 y14 h10 go11 ou12 => ?_) h16
      refine f_iload_n hC dX5_meanWet_31 rfl 2 rfl ?_
      refine f_aload_n hC dX5_meanWet_32 rfl 0 rfl ?_
      refine f_getR hC 5 1 501 rfl (by decide) iX5 q_1260 rfl rfl (fSm.k (fSm.rf w) g1) dX5_meanWet_33 ?_
      refine f_iconst (v := 0) hC dX5_meanWet_36 (by decide) ?_
      refine f_iald hC (fSm.k (fSm.rf w) g2) (fSm.v (fSm.rf w) g3) dX5_meanWet_37 ?_
      refine f_icmp_ge hC 56 dX5_meanWet_38 (by decide) (fun c18 => ?_) (fun c18 => ?_)
      · replace h10 := fi_pos h10 c18
        obtain rfl := Option.some.inj h10
        obtain rfl := ou12 _ rfl
        refine f_sub (L' := [(0, .ref a0), (1, .int s9.1)]) [0, 1] rfl ?_
        exact K17
      · replace h10 := fi_neg h10 c18
        refine f_iload_n hC dX5_meanWet_41 rfl 1 rfl ?_
        refine f_aload_n hC dX5_meanWet_42 rfl 0 rfl ?_
        refine f_iload_n hC dX5_meanWet_43 rfl 2 rfl ?_
        refine f_iconst (v := 0) hC dX5_meanWet_44 (by decide) ?_
        obtain ⟨r19, h20, h10⟩ := fb_open h10
        refine f_callV hC [.int s9.2, .int 0] (c_X5_measureOf l D cy a0 s9.2 0 (sI w 500 a0 0 x4) r19 h20) q_1649 q_137 q_1646 q_1648 q_118 h9_X5_measureOf rfl (fSm.k (fSm.rf w) g1) ⟨Nat.le_of_ble_eq_true rfl, Nat.le_of_ble_eq_true rfl⟩ ⟨Nat.le_of_ble_eq_true rfl, Nat.le_of_ble_eq_true rfl⟩ (Nat.le_of_ble_eq_true rfl) rfl dX5_meanWet_45 (fun e21 => ?_)
        refine f_iadd hC dX5_meanWet_48 ?_
        refine f_istore_n (L' := [(1, .int (s9.1 + r19)), (0, .ref a0), (2, .int s9.2)]) hC dX5_meanWet_49 rfl (by decide) rfl ?_
        refine f_iinc (L' := [(2, .int (s9.2 + 1)), (1, .int (s9.1 + r19)), (0, .ref a0)]) hC dX5_meanWet_50 2 rfl rfl (by decide) rfl ?_
        refine f_goto hC 31 dX5_meanWet_53 (by decide) ?_
        obtain rfl := Option.some.inj h10
        refine f_sub (L' := [(0, .ref a0), (1, .int (s9.1 + r19)), (2, .int (s9.2 + 1))]) [2, 1, 0] rfl ?_
        exact go11 _ rfl
    · replace hF := fi_neg hF c8
      refine f_dconst hC dX5_meanWet_25 ?_
      obtain rfl := Option.some.inj hF
      exact f_dret hC hEn (fSm.rf w) dX5_meanWet_26
  refine f_if_ne hC 14 dX5_meanWet_7 (by decide) (fun c23 => ?_) (fun c23 => ?_)
  · replace h5 := fi_neg h5 c23
    refine f_iconst (v := 0) hC dX5_meanWet_14 (by decide) ?_
    obtain rfl := Option.some.inj h5
    exact K7
  · replace h5 := fi_pos h5 c23
    refine f_iconst (v := 1) hC dX5_meanWet_10 (by decide) ?_
    refine f_goto hC 15 dX5_meanWet_11 (by decide) ?_
    obtain rfl := Option.some.inj h5
    exact K7
theorem dX5_readShare_0 : decode cX5_readShare 0 = .ok (.aload_n 0, 1) := by decide +kernel
theorem dX5_readShare_1 : decode cX5_readShare 1 = .ok (.aload_n 0, 1) := by decide +kernel
theorem dX5_readShare_2 : decode cX5_readShare 2 = .ok (.invokevirtual 242, 3) := by decide +kernel
theorem dX5_readShare_5 : decode cX5_readShare 5 = .ok (.ifCond .ne 7, 3) := by decide +kernel
theorem dX5_readShare_8 : decode cX5_readShare 8 = .ok (.iconst 1, 1) := by decide +kernel
theorem dX5_readShare_9 : decode cX5_readShare 9 = .ok (.goto 4, 3) := by decide +kernel
theorem dX5_readShare_12 : decode cX5_readShare 12 = .ok (.iconst 0, 1) := by decide +kernel
theorem dX5_readShare_13 : decode cX5_readShare 13 = .ok (.putfield 41, 3) := by decide +kernel
theorem dX5_readShare_16 : decode cX5_readShare 16 = .ok (.aload_n 0, 1) := by decide +kernel
theorem dX5_readShare_17 : decode cX5_readShare 17 = .ok (.getfield 41, 3) := by decide +kernel
theorem dX5_readShare_20 : decode cX5_readShare 20 = .ok (.ifCond .le 5, 3) := by decide +kernel
theorem dX5_readShare_23 : decode cX5_readShare 23 = .ok (.fconst 0, 1) := by decide +kernel
theorem dX5_readShare_24 : decode cX5_readShare 24 = .ok (.freturn, 1) := by decide +kernel
theorem dX5_readShare_25 : decode cX5_readShare 25 = .ok (.iconst 0, 1) := by decide +kernel
theorem dX5_readShare_26 : decode cX5_readShare 26 = .ok (.istore_n 1, 1) := by decide +kernel
theorem dX5_readShare_27 : decode cX5_readShare 27 = .ok (.iconst 0, 1) := by decide +kernel
theorem dX5_readShare_28 : decode cX5_readShare 28 = .ok (.istore_n 2, 1) := by decide +kernel
theorem dX5_readShare_29 : decode cX5_readShare 29 = .ok (.iload_n 2, 1) := by decide +kernel
theorem dX5_readShare_30 : decode cX5_readShare 30 = .ok (.aload_n 0, 1) := by decide +kernel
theorem dX5_readShare_31 : decode cX5_readShare 31 = .ok (.getfield 7, 3) := by decide +kernel
theorem dX5_readShare_34 : decode cX5_readShare 34 = .ok (.iconst 0, 1) := by decide +kernel
theorem dX5_readShare_35 : decode cX5_readShare 35 = .ok (.iaload, 1) := by decide +kernel
theorem dX5_readShare_36 : decode cX5_readShare 36 = .ok (.if_icmp .ge 31, 3) := by decide +kernel
theorem dX5_readShare_39 : decode cX5_readShare 39 = .ok (.iload_n 1, 1) := by decide +kernel
theorem dX5_readShare_40 : decode cX5_readShare 40 = .ok (.aload_n 0, 1) := by decide +kernel
theorem dX5_readShare_41 : decode cX5_readShare 41 = .ok (.iload_n 2, 1) := by decide +kernel
theorem dX5_readShare_42 : decode cX5_readShare 42 = .ok (.iconst 0, 1) := by decide +kernel
theorem dX5_readShare_43 : decode cX5_readShare 43 = .ok (.invokevirtual 157, 3) := by decide +kernel
theorem dX5_readShare_46 : decode cX5_readShare 46 = .ok (.invokestatic 194, 3) := by decide +kernel
theorem dX5_readShare_49 : decode cX5_readShare 49 = .ok (.aload_n 0, 1) := by decide +kernel
theorem dX5_readShare_50 : decode cX5_readShare 50 = .ok (.iload_n 2, 1) := by decide +kernel
theorem dX5_readShare_51 : decode cX5_readShare 51 = .ok (.iconst 1, 1) := by decide +kernel
theorem dX5_readShare_52 : decode cX5_readShare 52 = .ok (.invokevirtual 157, 3) := by decide +kernel
theorem dX5_readShare_55 : decode cX5_readShare 55 = .ok (.invokestatic 194, 3) := by decide +kernel
theorem dX5_readShare_58 : decode cX5_readShare 58 = .ok (.iadd, 1) := by decide +kernel
theorem dX5_readShare_59 : decode cX5_readShare 59 = .ok (.iadd, 1) := by decide +kernel
theorem dX5_readShare_60 : decode cX5_readShare 60 = .ok (.istore_n 1, 1) := by decide +kernel
theorem dX5_readShare_61 : decode cX5_readShare 61 = .ok (.iinc 2 1, 3) := by decide +kernel
theorem dX5_readShare_64 : decode cX5_readShare 64 = .ok (.goto (-35), 3) := by decide +kernel
theorem dX5_readShare_67 : decode cX5_readShare 67 = .ok (.iload_n 1, 1) := by decide +kernel
theorem dX5_readShare_68 : decode cX5_readShare 68 = .ok (.i2f, 1) := by decide +kernel
theorem dX5_readShare_69 : decode cX5_readShare 69 = .ok (.aload_n 0, 1) := by decide +kernel
theorem dX5_readShare_70 : decode cX5_readShare 70 = .ok (.invokevirtual 242, 3) := by decide +kernel
theorem dX5_readShare_73 : decode cX5_readShare 73 = .ok (.i2f, 1) := by decide +kernel
theorem dX5_readShare_74 : decode cX5_readShare 74 = .ok (.fdiv, 1) := by decide +kernel
theorem dX5_readShare_75 : decode cX5_readShare 75 = .ok (.freturn, 1) := by decide +kernel
theorem h9_X5_readShare : yX5_readShare.cls ≠ "java/lang/invoke/MethodHandle" ∧ yX5_readShare.cls ≠ "java/lang/invoke/VarHandle" ∧ (parseMethodDescriptor yX5_readShare.desc).map (fun d => d.parameters.length) = some 0 := by decide +kernel
noncomputable def F_X5_readShare (a0 : Nat) (w : FW) : Option (UInt32 × FW) :=
  fg (w.1 a0 = 6) inferInstance ((F_X5_punchedMany a0 w).bind (fun r1 => ((if r1 = 0 then some 1 else some 0) : Option (Int32)).bind (fun x5 => (if (gI (sI w 500 a0 0 x5) 500 a0 0) ≤ 0 then (fLoop (σ := Int32 × Int32) (ρ := Int32) (fun s10 => fg (w.1 (gR w 501 a0 0) = 11) inferInstance (fg (¬ ((0 : Int32) < 0 ∨ w.2.1 (gR w 501 a0 0) ≤ Int32.toNatClampNeg 0)) inferInstance ((if (gI (sI w 500 a0 0 x5) 601 (gR (sI w 500 a0 0 x5) 501 a0 0) (Int32.toNatClampNeg 0)) ≤ s10.2 then some (.inr s10.1) else (F_X5_isRead a0 s10.2 0 (sI w 500 a0 0 x5)).bind (fun r22 => (F_X5_number r22 (sI w 500 a0 0 x5)).bind (fun r25 => (F_X5_isRead a0 s10.2 1 (sI w 500 a0 0 x5)).bind (fun r28 => (F_X5_number r28 (sI w 500 a0 0 x5)).bind (fun r31 => some (.inl ((s10.1 + (r25 + r31)), (s10.2 + 1))))))))))) (0, 0)).bind (fun x16 => (F_X5_punchedMany a0 (sI w 500 a0 0 x5)).bind (fun r34 => fg ((FP.fdiv (FP.i2f x16) (FP.i2f r34)) &&& 0x7fffffff ≤ 0x7f800000) inferInstance (some ((FP.fdiv (FP.i2f x16) (FP.i2f r34)), (sI w 500 a0 0 x5))))) else some (0, (sI w 500 a0 0 x5))))))
set_option maxHeartbeats 4000000 in
set_option maxRecDepth 100000 in
theorem c_X5_readShare (l : Launch) (D : va_G) (cy : Nat → ClassId) (a0 : Nat) (w : FW) (r : UInt32 × FW) (hF : F_X5_readShare a0 w = some r) : fSpec l D cy yX5_readShare cX5_readShare 3 (some .float) { frames := 8, cells := 0, slots := 0, locals := 190 } [.ref a0] w r.2 (some (.float r.1)) := by
  refine f_begin (by decide +kernel) (Nat.le_of_ble_eq_true rfl) (fun X hC hEn => ?_)
  unfold F_X5_readShare at hF
  show fAt X 0 0 3 w [(0, .ref a0)] [] 0
  refine f_aload_n hC dX5_readShare_0 rfl 0 rfl ?_
  refine f_aload_n hC dX5_readShare_1 rfl 0 rfl ?_
  obtain ⟨g3, hF⟩ := fg_open hF
  obtain ⟨r1, h2, hF⟩ := fb_open hF
  refine f_callV hC [] (c_X5_punchedMany l D cy a0 w r1 h2) q_1685 q_137 q_1682 q_1684 q_121 h9_X5_punchedMany rfl (fSm.k (fSm.rf w) g3) ⟨Nat.le_of_ble_eq_true rfl, Nat.le_of_ble_eq_true rfl⟩ ⟨Nat.le_of_ble_eq_true rfl, Nat.le_of_ble_eq_true rfl⟩ (Nat.le_of_ble_eq_true rfl) rfl dX5_readShare_2 (fun e4 => ?_)
  obtain ⟨x5, h6, hF⟩ := fb_open hF
  have K8 : fAt X 0 0 3 w [(0, .ref a0)] [.int x5, .ref a0] 13 := by
    refine f_putI hC 5 0 500 rfl (by decide) iX5 tyX5 tyX5_ok nmX5 q_1259 rfl rfl rfl rfl rfl (fSm.k (fSm.rf w) g3) dX5_readShare_13 ?_
    refine f_aload_n hC dX5_readShare_16 rfl 0 rfl ?_
    refine f_getI hC 5 0 500 rfl (by decide) iX5 q_1259 rfl rfl (fSm.k (fSm.rf w) g3) dX5_readShare_17 ?_
    refine f_if_le hC 25 dX5_readShare_20 (by decide) (fun c9 => ?_) (fun c9 => ?_)
    · replace hF := fi_pos hF c9
      refine f_iconst (v := 0) hC dX5_readShare_25 (by decide) ?_
      refine f_istore_n (L' := [(1, .int 0), (0, .ref a0)]) hC dX5_readShare_26 rfl (by decide) rfl ?_
      refine f_iconst (v := 0) hC dX5_readShare_27 (by decide) ?_
      refine f_istore_n (L' := [(2, .int 0), (1, .int 0), (0, .ref a0)]) hC dX5_readShare_28 rfl (by decide) rfl ?_
      obtain ⟨x16, h17, hF⟩ := fb_open hF
      have K18 : fAt X 0 0 3 (sI w 500 a0 0 x5) [(0, .ref a0), (1, .int x16)] [] 67 := by
        refine f_iload_n hC dX5_readShare_67 rfl 1 rfl ?_
        refine f_i2f hC dX5_readShare_68 ?_
        refine f_aload_n hC dX5_readShare_69 rfl 0 rfl ?_
        obtain ⟨r34, h35, hF⟩ := fb_open hF
        refine f_callV hC [] (c_X5_punchedMany l D cy a0 (sI w 500 a0 0 x5) r34 h35) q_1685 q_137 q_1682 q_1684 q_121 h9_X5_punchedMany rfl (fSm.k (fSm.rf w) g3) ⟨Nat.le_of_ble_eq_true rfl, Nat.le_of_ble_eq_true rfl⟩ ⟨Nat.le_of_ble_eq_true rfl, Nat.le_of_ble_eq_true rfl⟩ (Nat.le_of_ble_eq_true rfl) rfl dX5_readShare_70 (fun e36 => ?_)
        refine f_i2f hC dX5_readShare_73 ?_
        obtain ⟨g37, hF⟩ := fg_open hF
        refine f_fdiv hC dX5_readShare_74 g37 ?_
        obtain rfl := Option.some.inj hF
        exact f_fret hC hEn (fSm.rf w) dX5_readShare_75
      refine f_sub (L' := [(0, .ref a0), (1, .int 0), (2, .int 0)]) [2, 1, 0] rfl ?_
      refine fLoop_ind (fun (s10 : Int32 × Int32) => fAt X 0 0 3 (sI w 500 a0 0 x5) [(0, .ref a0), (1, .int s10.1), (2, .int s10.2)] [] 29) (fun s10 y15 h11 go12 ou13 => ?_) h17
      refine f_iload_n hC dX5_readShare_29 rfl 2 rfl ?_
      refine f_aload_n hC dX5_readShare_30 rfl 0 rfl ?_
      refine f_getR hC 5 1 501 rfl (by decide) iX5 q_1260 rfl rfl (fSm.k (fSm.rf w) g3) dX5_readShare_31 ?_
      refine f_iconst (v := 0) hC dX5_readShare_34 (by decide) ?_
      obtain ⟨g19, h11⟩ := fg_open h11
      obtain ⟨g20, h11⟩ := fg_open h11
      refine f_iald hC (fSm.k (fSm.rf w) g19) (fSm.v (fSm.rf w) g20) dX5_readShare_35 ?_
      refine f_icmp_ge hC 67 dX5_readShare_36 (by decide) (fun c21 => ?_) (fun c21 => ?_)
      · replace h11 := fi_pos h11 c21
        obtain rfl := Option.some.inj h11
        obtain rfl := ou13 _ rfl
        refine f_sub (L' := [(0, .ref a0), (1, .int s10.1)]) [0, 1] rfl ?_
        exact K18
      · replace h11 := fi_neg h11 c21
        refine f_iload_n hC dX5_readShare_39 rfl 1 rfl ?_
        refine f_aload_n hC dX5_readShare_40 rfl 0 rfl ?_
        refine f_iload_n hC dX5_readShare_41 rfl 2 rfl ?_
        refine f_iconst (v := 0) hC dX5_readShare_42 (by decide) ?_
        obtain ⟨r22, h23, h11⟩ := fb_open h11
        refine f_callV hC [.int s10.2, .int 0] (c_X5_isRead l D cy a0 s10.2 0 (sI w 500 a0 0 x5) r22 h23) q_1605 q_137 q_1602 q_1604 q_114 h9_X5_isRead rfl (fSm.k (fSm.rf w) g3) ⟨Nat.le_of_ble_eq_true rfl, Nat.le_of_ble_eq_true rfl⟩ ⟨Nat.le_of_ble_eq_true rfl, Nat.le_of_ble_eq_true rfl⟩ (Nat.le_of_ble_eq_true rfl) rfl dX5_readShare_43 (fun e24 => ?_)
        obtain ⟨r25, h26, h11⟩ := fb_open h11
        refine f_callS hC [.int r22] (c_X5_number l D cy r22 (sI w 500 a0 0 x5) r25 h26) q_1471 q_137 q_1469 q_1470 h9_X5_number ⟨Nat.le_of_ble_eq_true rfl, Nat.le_of_ble_eq_true rfl⟩ ⟨Nat.le_of_ble_eq_true rfl, Nat.le_of_ble_eq_true rfl⟩ (Nat.le_of_ble_eq_true rfl) rfl dX5_readShare_46 (fun e27 => ?_)
        refine f_aload_n hC dX5_readShare_49 rfl 0 rfl ?_
        refine f_iload_n hC dX5_readShare_50 rfl 2 rfl ?_
        refine f_iconst (v := 1) hC dX5_readShare_51 (by decide) ?_
        obtain ⟨r28, h29, h11⟩ := fb_open h11
        refine f_callV hC [.int s10.2, .int 1] (c_X5_isRead l D cy a0 s10.2 1 (sI w 500 a0 0 x5) r28 h29) q_1605 q_137 q_1602 q_1604 q_114 h9_X5_isRead rfl (fSm.k (fSm.rf w) g3) ⟨Nat.le_of_ble_eq_true rfl, Nat.le_of_ble_eq_true rfl⟩ ⟨Nat.le_of_ble_eq_true rfl, Nat.le_of_ble_eq_true rfl⟩ (Nat.le_of_ble_eq_true rfl) rfl dX5_readShare_52 (fun e30 => ?_)
        obtain ⟨r31, h32, h11⟩ := fb_open h11
        refine f_callS hC [.int r28] (c_X5_number l D cy r28 (sI w 500 a0 0 x5) r31 h32) q_1471 q_137 q_1469 q_1470 h9_X5_number ⟨Nat.le_of_ble_eq_true rfl, Nat.le_of_ble_eq_true rfl⟩ ⟨Nat.le_of_ble_eq_true rfl, Nat.le_of_ble_eq_true rfl⟩ (Nat.le_of_ble_eq_true rfl) rfl dX5_readShare_55 (fun e33 => ?_)
        refine f_iadd hC dX5_readShare_58 ?_
        refine f_iadd hC dX5_readShare_59 ?_
        refine f_istore_n (L' := [(1, .int (s10.1 + (r25 + r31))), (0, .ref a0), (2, .int s10.2)]) hC dX5_readShare_60 rfl (by decide) rfl ?_
        refine f_iinc (L' := [(2, .int (s10.2 + 1)), (1, .int (s10.1 + (r25 + r31))), (0, .ref a0)]) hC dX5_readShare_61 2 rfl rfl (by decide) rfl ?_
        refine f_goto hC 29 dX5_readShare_64 (by decide) ?_
        obtain rfl := Option.some.inj h11
        refine f_sub (L' := [(0, .ref a0), (1, .int (s10.1 + (r25 + r31))), (2, .int (s10.2 + 1))]) [2, 1, 0] rfl ?_
        exact go12 _ rfl
    · replace hF := fi_neg hF c9
      refine f_fconst hC dX5_readShare_23 ?_
      obtain rfl := Option.some.inj hF
      exact f_fret hC hEn (fSm.rf w) dX5_readShare_24
  refine f_if_ne hC 12 dX5_readShare_5 (by decide) (fun c38 => ?_) (fun c38 => ?_)
  · replace h6 := fi_neg h6 c38
    refine f_iconst (v := 0) hC dX5_readShare_12 (by decide) ?_
    obtain rfl := Option.some.inj h6
    exact K8
  · replace h6 := fi_pos h6 c38
    refine f_iconst (v := 1) hC dX5_readShare_8 (by decide) ?_
    refine f_goto hC 13 dX5_readShare_9 (by decide) ?_
    obtain rfl := Option.some.inj h6
    exact K8
theorem dX5_append_0 : decode cX5_append 0 = .ok (.iconst 0, 1) := by decide +kernel
theorem dX5_append_1 : decode cX5_append 1 = .ok (.istore_n 2, 1) := by decide +kernel
theorem dX5_append_2 : decode cX5_append 2 = .ok (.iconst 1, 1) := by decide +kernel
theorem dX5_append_3 : decode cX5_append 3 = .ok (.istore_n 3, 1) := by decide +kernel
theorem dX5_append_4 : decode cX5_append 4 = .ok (.bipush 24, 2) := by decide +kernel
theorem dX5_append_6 : decode cX5_append 6 = .ok (.istore 4, 2) := by decide +kernel
theorem dX5_append_8 : decode cX5_append 8 = .ok (.iload 4, 2) := by decide +kernel
theorem dX5_append_10 : decode cX5_append 10 = .ok (.ifCond .lt 59, 3) := by decide +kernel
theorem dX5_append_13 : decode cX5_append 13 = .ok (.iload_n 1, 1) := by decide +kernel
theorem dX5_append_14 : decode cX5_append 14 = .ok (.iload 4, 2) := by decide +kernel
theorem dX5_append_16 : decode cX5_append 16 = .ok (.iushr, 1) := by decide +kernel
theorem dX5_append_17 : decode cX5_append 17 = .ok (.sipush 255, 3) := by decide +kernel
theorem dX5_append_20 : decode cX5_append 20 = .ok (.iand, 1) := by decide +kernel
theorem dX5_append_21 : decode cX5_append 21 = .ok (.istore 5, 2) := by decide +kernel
theorem dX5_append_23 : decode cX5_append 23 = .ok (.iload_n 3, 1) := by decide +kernel
theorem dX5_append_24 : decode cX5_append 24 = .ok (.ifCond .eq 24, 3) := by decide +kernel
theorem dX5_append_27 : decode cX5_append 27 = .ok (.iload 5, 2) := by decide +kernel
theorem dX5_append_29 : decode cX5_append 29 = .ok (.ifCond .eq 15, 3) := by decide +kernel
theorem dX5_append_32 : decode cX5_append 32 = .ok (.iload 5, 2) := by decide +kernel
theorem dX5_append_34 : decode cX5_append 34 = .ok (.bipush 32, 2) := by decide +kernel
theorem dX5_append_36 : decode cX5_append 36 = .ok (.bipush 126, 2) := by decide +kernel
theorem dX5_append_38 : decode cX5_append 38 = .ok (.invokestatic 66, 3) := by decide +kernel
theorem dX5_append_41 : decode cX5_append 41 = .ok (.ifCond .eq 7, 3) := by decide +kernel
theorem dX5_append_44 : decode cX5_append 44 = .ok (.iconst 1, 1) := by decide +kernel
theorem dX5_append_45 : decode cX5_append 45 = .ok (.goto 4, 3) := by decide +kernel
theorem dX5_append_48 : decode cX5_append 48 = .ok (.iconst 0, 1) := by decide +kernel
theorem dX5_append_49 : decode cX5_append 49 = .ok (.istore_n 3, 1) := by decide +kernel
theorem dX5_append_50 : decode cX5_append 50 = .ok (.iload_n 2, 1) := by decide +kernel
theorem dX5_append_51 : decode cX5_append 51 = .ok (.iload 5, 2) := by decide +kernel
theorem dX5_append_53 : decode cX5_append 53 = .ok (.ifCond .ne 7, 3) := by decide +kernel
theorem dX5_append_56 : decode cX5_append 56 = .ok (.iconst 0, 1) := by decide +kernel
theorem dX5_append_57 : decode cX5_append 57 = .ok (.goto 4, 3) := by decide +kernel
theorem dX5_append_60 : decode cX5_append 60 = .ok (.iconst 1, 1) := by decide +kernel
theorem dX5_append_61 : decode cX5_append 61 = .ok (.iadd, 1) := by decide +kernel
theorem dX5_append_62 : decode cX5_append 62 = .ok (.istore_n 2, 1) := by decide +kernel
theorem dX5_append_63 : decode cX5_append 63 = .ok (.iinc 4 (-8), 3) := by decide +kernel
theorem dX5_append_66 : decode cX5_append 66 = .ok (.goto (-58), 3) := by decide +kernel
theorem dX5_append_69 : decode cX5_append 69 = .ok (.aload_n 0, 1) := by decide +kernel
theorem dX5_append_70 : decode cX5_append 70 = .ok (.iload_n 3, 1) := by decide +kernel
theorem dX5_append_71 : decode cX5_append 71 = .ok (.ifCond .ne 7, 3) := by decide +kernel
theorem dX5_append_74 : decode cX5_append 74 = .ok (.iconst 1, 1) := by decide +kernel
theorem dX5_append_75 : decode cX5_append 75 = .ok (.goto 19, 3) := by decide +kernel
theorem dX5_append_78 : decode cX5_append 78 = .ok (.aload_n 0, 1) := by decide +kernel
theorem dX5_append_79 : decode cX5_append 79 = .ok (.getfield 248, 3) := by decide +kernel
theorem dX5_append_82 : decode cX5_append 82 = .ok (.iload_n 2, 1) := by decide +kernel
theorem dX5_append_83 : decode cX5_append 83 = .ok (.iadd, 1) := by decide +kernel
theorem dX5_append_84 : decode cX5_append 84 = .ok (.bipush 60, 2) := by decide +kernel
theorem dX5_append_86 : decode cX5_append 86 = .ok (.if_icmp .le 7, 3) := by decide +kernel
theorem dX5_append_89 : decode cX5_append 89 = .ok (.iconst 2, 1) := by decide +kernel
theorem dX5_append_90 : decode cX5_append 90 = .ok (.goto 4, 3) := by decide +kernel
theorem dX5_append_93 : decode cX5_append 93 = .ok (.iconst 0, 1) := by decide +kernel
theorem dX5_append_94 : decode cX5_append 94 = .ok (.putfield 41, 3) := by decide +kernel
theorem dX5_append_97 : decode cX5_append 97 = .ok (.aload_n 0, 1) := by decide +kernel
theorem dX5_append_98 : decode cX5_append 98 = .ok (.getfield 41, 3) := by decide +kernel
theorem dX5_append_101 : decode cX5_append 101 = .ok (.ifCond .le 5, 3) := by decide +kernel
theorem dX5_append_104 : decode cX5_append 104 = .ok (.iconst 0, 1) := by decide +kernel
theorem dX5_append_105 : decode cX5_append 105 = .ok (.ireturn, 1) := by decide +kernel
theorem dX5_append_106 : decode cX5_append 106 = .ok (.bipush 24, 2) := by decide +kernel
theorem dX5_append_108 : decode cX5_append 108 = .ok (.istore 4, 2) := by decide +kernel
theorem dX5_append_110 : decode cX5_append 110 = .ok (.iload 4, 2) := by decide +kernel
theorem dX5_append_112 : decode cX5_append 112 = .ok (.ifCond .lt 48, 3) := by decide +kernel
theorem dX5_append_115 : decode cX5_append 115 = .ok (.iload_n 1, 1) := by decide +kernel
theorem dX5_append_116 : decode cX5_append 116 = .ok (.iload 4, 2) := by decide +kernel
theorem dX5_append_118 : decode cX5_append 118 = .ok (.iushr, 1) := by decide +kernel
theorem dX5_append_119 : decode cX5_append 119 = .ok (.sipush 255, 3) := by decide +kernel
theorem dX5_append_122 : decode cX5_append 122 = .ok (.iand, 1) := by decide +kernel
theorem dX5_append_123 : decode cX5_append 123 = .ok (.istore 5, 2) := by decide +kernel
theorem dX5_append_125 : decode cX5_append 125 = .ok (.iload 5, 2) := by decide +kernel
theorem dX5_append_127 : decode cX5_append 127 = .ok (.ifCond .ne 6, 3) := by decide +kernel
theorem dX5_append_130 : decode cX5_append 130 = .ok (.goto 24, 3) := by decide +kernel
theorem dX5_append_133 : decode cX5_append 133 = .ok (.aload_n 0, 1) := by decide +kernel
theorem dX5_append_134 : decode cX5_append 134 = .ok (.getfield 22, 3) := by decide +kernel
theorem dX5_append_137 : decode cX5_append 137 = .ok (.aload_n 0, 1) := by decide +kernel
theorem dX5_append_138 : decode cX5_append 138 = .ok (.getfield 248, 3) := by decide +kernel
theorem dX5_append_141 : decode cX5_append 141 = .ok (.iload 5, 2) := by decide +kernel
theorem dX5_append_143 : decode cX5_append 143 = .ok (.iastore, 1) := by decide +kernel
theorem dX5_append_144 : decode cX5_append 144 = .ok (.aload_n 0, 1) := by decide +kernel
theorem dX5_append_145 : decode cX5_append 145 = .ok (.dup, 1) := by decide +kernel
theorem dX5_append_146 : decode cX5_append 146 = .ok (.getfield 248, 3) := by decide +kernel
theorem dX5_append_149 : decode cX5_append 149 = .ok (.iconst 1, 1) := by decide +kernel
theorem dX5_append_150 : decode cX5_append 150 = .ok (.iadd, 1) := by decide +kernel
theorem dX5_append_151 : decode cX5_append 151 = .ok (.putfield 248, 3) := by decide +kernel
theorem dX5_append_154 : decode cX5_append 154 = .ok (.iinc 4 (-8), 3) := by decide +kernel
theorem dX5_append_157 : decode cX5_append 157 = .ok (.goto (-47), 3) := by decide +kernel
theorem dX5_append_160 : decode cX5_append 160 = .ok (.aload_n 0, 1) := by decide +kernel
theorem dX5_append_161 : decode cX5_append 161 = .ok (.getfield 248, 3) := by decide +kernel
theorem dX5_append_164 : decode cX5_append 164 = .ok (.ireturn, 1) := by decide +kernel
theorem h9_X5_append : yX5_append.cls ≠ "java/lang/invoke/MethodHandle" ∧ yX5_append.cls ≠ "java/lang/invoke/VarHandle" ∧ (parseMethodDescriptor yX5_append.desc).map (fun d => d.parameters.length) = some 1 := by decide +kernel
noncomputable def F_X5_append (a0 : Nat) (x1 : Int32) (w : FW) : Option (Int32 × FW) :=
  (fLoop (σ := Int32 × Int32 × Int32) (ρ := Int32 × Int32) (fun s1 => (if s1.2.2 < 0 then some (.inr (s1.1, s1.2.1)) else ((if s1.2.1 = 0 then some 0 else (if ((fushr x1 s1.2.2) &&& 255) = 0 then some 1 else (F_X5_in ((fushr x1 s1.2.2) &&& 255) 32 126 w).bind (fun r18 => (if r18 = 0 then some 0 else some 1)))) : Option (Int32)).bind (fun x11 => (if ((fushr x1 s1.2.2) &&& 255) = 0 then some (.inl ((s1.1 + 0), x11, (s1.2.2 + (-8)))) else some (.inl ((s1.1 + 1), x11, (s1.2.2 + (-8)))))))) (0, 1, 24)).bind (fun x7 => ((if x7.2 = 0 then some 1 else fg (w.1 a0 = 6) inferInstance ((if ((gI w 511 a0 0) + x7.1) ≤ 60 then some 0 else some 2))) : Option (Int32)).bind (fun x22 => fg (w.1 a0 = 6) inferInstance ((if (gI (sI w 500 a0 0 x22) 500 a0 0) ≤ 0 then (fLoop (σ := Int32 × FW) (ρ := FW) (fun s28 => (if s28.1 < 0 then some (.inr s28.2) else (if ((fushr x1 s28.1) &&& 255) = 0 then some (.inl ((s28.1 + (-8)), s28.2)) else fg (w.1 (gR s28.2 507 a0 0) = 11) inferInstance (fg (¬ ((gI s28.2 511 a0 0) < 0 ∨ w.2.1 (gR s28.2 507 a0 0) ≤ Int32.toNatClampNeg (gI s28.2 511 a0 0))) inferInstance (some (.inl ((s28.1 + (-8)), (sI (sI s28.2 601 (gR s28.2 507 a0 0) (Int32.toNatClampNeg (gI s28.2 511 a0 0)) ((fushr x1 s28.1) &&& 255)) 511 a0 0 ((gI (sI s28.2 601 (gR s28.2 507 a0 0) (Int32.toNatClampNeg (gI s28.2 511 a0 0)) ((fushr x1 s28.1) &&& 255)) 511 a0 0) + 1))))))))) (24, (sI w 500 a0 0 x22))).bind (fun x34 => some ((gI x34 511 a0 0), x34)) else some (0, (sI w 500 a0 0 x22))))))
set_option maxHeartbeats 4000000 in
set_option maxRecDepth 100000 in
theorem c_X5_append (l : Launch) (D : va_G) (cy : Nat → ClassId) (a0 : Nat) (x1 : Int32) (w : FW) (r : Int32 × FW) (hF : F_X5_append a0 x1 w = some r) : fSpec l D cy yX5_append cX5_append 6 (some .int) { frames := 1, cells := 0, slots := 0, locals := 22 } [.ref a0, .int x1] w r.2 (some (.int r.1)) := by
  refine f_begin (by decide +kernel) (Nat.le_of_ble_eq_true rfl) (fun X hC hEn => ?_)
  unfold F_X5_append at hF
  show fAt X 0 0 6 w [(0, .ref a0), (1, .int x1)] [] 0
  refine f_iconst (v := 0) hC dX5_append_0 (by decide) ?_
  refine f_istore_n (L' := [(2, .int 0), (0, .ref a0), (1, .int x1)]) hC dX5_append_1 rfl (by decide) rfl ?_
  refine f_iconst (v := 1) hC dX5_append_2 (by decide) ?_
  refine f_istore_n (L' := [(3, .int 1), (2, .int 0), (0, .ref a0), (1, .int x1)]) hC dX5_append_3 rfl (by decide) rfl ?_
  refine f_bipush (v := 24) hC dX5_append_4 (by decide) ?_
  refine f_istore (L' := [(4, .int 24), (3, .int 1), (2, .int 0), (0, .ref a0), (1, .int x1)]) hC dX5_append_6 (by decide) rfl ?_
  obtain ⟨x7, h8, hF⟩ := fb_open hF
  have K9 : fAt X 0 0 6 w [(0, .ref a0), (1, .int x1), (2, .int x7.1), (3, .int x7.2)] [] 69 := by
    refine f_aload_n hC dX5_append_69 rfl 0 rfl ?_
    refine f_iload_n hC dX5_append_70 rfl 3 rfl ?_
    obtain ⟨x22, h23, hF⟩ := fb_open hF
    have K25 : fAt X 0 0 6 w [(0, .ref a0), (1, .int x1)] [.int x22, .ref a0] 94 := by
      obtain ⟨g26, hF⟩ := fg_open hF
      refine f_putI hC 5 0 500 rfl (by decide) iX5 tyX5 tyX5_ok nmX5 q_1259 rfl rfl rfl rfl rfl (fSm.k (fSm.rf w) g26) dX5_append_94 ?_
      refine f_aload_n hC dX5_append_97 rfl 0 rfl ?_
      refine f_getI hC 5 0 500 rfl (by decide) iX5 q_1259 rfl rfl (fSm.k (fSm.rf w) g26) dX5_append_98 ?_
      refine f_if_le hC 106 dX5_append_101 (by decide) (fun c27 => ?_) (fun c27 => ?_)
      · replace hF := fi_pos hF c27
        refine f_bipush (v := 24) hC dX5_append_106 (by decide) ?_
        refine f_istore (L' := [(4, .int 24), (0, .ref a0), (1, .int x1)]) hC dX5_append_108 (by decide) rfl ?_
        obtain ⟨x34, h35, hF⟩ := fb_open hF
        have K36 : fSm x34 w → fAt X 0 0 6 x34 [(0, .ref a0)] [] 160 := by
          intro p32
          refine f_aload_n hC dX5_append_160 rfl 0 rfl ?_
          refine f_getI hC 5 11 511 rfl (by decide) iX5 q_1270 rfl rfl (fSm.k p32 g26) dX5_append_161 ?_
          obtain rfl := Option.some.inj hF
          exact f_iret hC hEn p32 dX5_append_164
        refine f_sub (L' := [(0, .ref a0), (1, .int x1), (4, .int 24)]) [1, 2, 0] rfl ?_
        refine fLoop_ind (fun (s28 : Int32 × FW) => fSm s28.2 w → fAt X 0 0 6 s28.2 [(0, .ref a0), (1, .int x1), (4, .int s28.1)] [] 110) (fun s28 y33 h29 go30 ou31 => ?_) h35 (fSm.rf w)
        intro p32
        refine f_iload hC dX5_append_110 2 rfl ?_
        refine f_if_lt hC 160 dX5_append_112 (by decide) (fun c37 => ?_) (fun c37 => ?_)
        · replace h29 := fi_pos h29 c37
          obtain rfl := Option.some.inj h29
          obtain rfl := ou31 _ rfl
          refine f_sub (L' := [(0, .ref a0)]) [0] rfl ?_
          exact K36 p32
        · replace h29 := fi_neg h29 c37
          refine f_iload_n hC dX5_append_115 rfl 1 rfl ?_
          refine f_iload hC dX5_append_116 2 rfl ?_
          refine f_iushr hC dX5_append_118 ?_
          refine f_sipush (v := 255) hC dX5_append_119 (by decide) ?_
          refine f_iand hC dX5_append_122 ?_
          refine f_istore (L' := [(5, .int ((fushr x1 s28.1) &&& 255)), (0, .ref a0), (1, .int x1), (4, .int s28.1)]) hC dX5_append_123 (by decide) rfl ?_
          refine f_iload hC dX5_append_125 0 rfl ?_
          refine f_if_ne hC 133 dX5_append_127 (by decide) (fun c38 => ?_) (fun c38 => ?_)
          · replace h29 := fi_neg h29 c38
            refine f_aload_n hC dX5_append_133 rfl 1 rfl ?_
            refine f_getR hC 5 7 507 rfl (by decide) iX5 q_1266 rfl rfl (fSm.k p32 g26) dX5_append_134 ?_
            refine f_aload_n hC dX5_append_137 rfl 1 rfl ?_
            refine f_getI hC 5 11 511 rfl (by decide) iX5 q_1270 rfl rfl (fSm.k p32 g26) dX5_append_138 ?_
            refine f_iload hC dX5_append_141 0 rfl ?_
            obtain ⟨g39, h29⟩ := fg_open h29
            obtain ⟨g40, h29⟩ := fg_open h29
            refine f_iast hC (fSm.k p32 g39) (fSm.v p32 g40) dX5_append_143 ?_
            refine f_aload_n hC dX5_append_144 rfl 1 rfl ?_
            refine f_dup hC dX5_append_145 rfl ?_
            refine f_getI hC 5 11 511 rfl (by decide) iX5 q_1270 rfl rfl (fSm.k p32 g26) dX5_append_146 ?_
            refine f_iconst (v := 1) hC dX5_append_149 (by decide) ?_
            refine f_iadd hC dX5_append_150 ?_
            refine f_putI hC 5 11 511 rfl (by decide) iX5 tyX5 tyX5_ok nmX5 q_1270 rfl rfl rfl rfl rfl (fSm.k p32 g26) dX5_append_151 ?_
            refine f_iinc (L' := [(4, .int (s28.1 + (-8))), (5, .int ((fushr x1 s28.1) &&& 255)), (0, .ref a0), (1, .int x1)]) hC dX5_append_154 3 rfl rfl (by decide) rfl ?_
            refine f_goto hC 110 dX5_append_157 (by decide) ?_
            obtain rfl := Option.some.inj h29
            refine f_sub (L' := [(0, .ref a0), (1, .int x1), (4, .int (s28.1 + (-8)))]) [2, 3, 0] rfl ?_
            exact go30 _ rfl p32
          · replace h29 := fi_pos h29 c38
            refine f_goto hC 154 dX5_append_130 (by decide) ?_
            refine f_iinc (L' := [(4, .int (s28.1 + (-8))), (5, .int ((fushr x1 s28.1) &&& 255)), (0, .ref a0), (1, .int x1)]) hC dX5_append_154 3 rfl rfl (by decide) rfl ?_
            refine f_goto hC 110 dX5_append_157 (by decide) ?_
            obtain rfl := Option.some.inj h29
            refine f_sub (L' := [(0, .ref a0), (1, .int x1), (4, .int (s28.1 + (-8)))]) [2, 3, 0] rfl ?_
            have z9 := go30 ((s28.1 + (-8)), s28.2) rfl
            exact z9 p32
      · replace hF := fi_neg hF c27
        refine f_iconst (v := 0) hC dX5_append_104 (by decide) ?_
        obtain rfl := Option.some.inj hF
        exact f_iret hC hEn (fSm.rf w) dX5_append_105
    refine f_if_ne hC 78 dX5_append_71 (by decide) (fun c41 => ?_) (fun c41 => ?_)
    · replace h23 := fi_neg h23 c41
      refine f_aload_n hC dX5_append_78 rfl 0 rfl ?_
      obtain ⟨g42, h23⟩ := fg_open h23
      refine f_getI hC 5 11 511 rfl (by decide) iX5 q_1270 rfl rfl (fSm.k (fSm.rf w) g42) dX5_append_79 ?_
      refine f_iload_n hC dX5_append_82 rfl 2 rfl ?_
      refine f_iadd hC dX5_append_83 ?_
      refine f_bipush (v := 60) hC dX5_append_84 (by decide) ?_
      refine f_icmp_le hC 93 dX5_append_86 (by decide) (fun c43 => ?_) (fun c43 => ?_)
      · replace h23 := fi_pos h23 c43
        refine f_iconst (v := 0) hC dX5_append_93 (by decide) ?_
        obtain rfl := Option.some.inj h23
        refine f_sub (L' := [(0, .ref a0), (1, .int x1)]) [0, 1] rfl ?_
        exact K25
      · replace h23 := fi_neg h23 c43
        refine f_iconst (v := 2) hC dX5_append_89 (by decide) ?_
        refine f_goto hC 94 dX5_append_90 (by decide) ?_
        obtain rfl := Option.some.inj h23
        refine f_sub (L' := [(0, .ref a0), (1, .int x1)]) [0, 1] rfl ?_
        exact K25
    · replace h23 := fi_pos h23 c41
      refine f_iconst (v := 1) hC dX5_append_74 (by decide) ?_
      refine f_goto hC 94 dX5_append_75 (by decide) ?_
      obtain rfl := Option.some.inj h23
      refine f_sub (L' := [(0, .ref a0), (1, .int x1)]) [0, 1] rfl ?_
      exact K25
  refine f_sub (L' := [(0, .ref a0), (1, .int x1), (2, .int 0), (3, .int 1), (4, .int 24)]) [3, 4, 2, 1, 0] rfl ?_
  refine fLoop_ind (fun (s1 : Int32 × Int32 × Int32) => fAt X 0 0 6 w [(0, .ref a0), (1, .int x1), (2, .int s1.1), (3, .int s1.2.1), (4, .int s1.2.2)] [] 8) (fun s1 y6 h2 go3 ou4 => ?_) h8
  refine f_iload hC dX5_append_8 4 rfl ?_
  refine f_if_lt hC 69 dX5_append_10 (by decide) (fun c10 => ?_) (fun c10 => ?_)
  · replace h2 := fi_pos h2 c10
    obtain rfl := Option.some.inj h2
    obtain rfl := ou4 _ rfl
    refine f_sub (L' := [(0, .ref a0), (1, .int x1), (2, .int s1.1), (3, .int s1.2.1)]) [0, 1, 2, 3] rfl ?_
    exact K9
  · replace h2 := fi_neg h2 c10
    refine f_iload_n hC dX5_append_13 rfl 1 rfl ?_
    refine f_iload hC dX5_append_14 4 rfl ?_
    refine f_iushr hC dX5_append_16 ?_
    refine f_sipush (v := 255) hC dX5_append_17 (by decide) ?_
    refine f_iand hC dX5_append_20 ?_
    refine f_istore (L' := [(5, .int ((fushr x1 s1.2.2) &&& 255)), (0, .ref a0), (1, .int x1), (2, .int s1.1), (3, .int s1.2.1), (4, .int s1.2.2)]) hC dX5_append_21 (by decide) rfl ?_
    refine f_iload_n hC dX5_append_23 rfl 4 rfl ?_
    obtain ⟨x11, h12, h2⟩ := fb_open h2
    have K14 : fAt X 0 0 6 w [(0, .ref a0), (1, .int x1), (2, .int s1.1), (4, .int s1.2.2), (5, .int ((fushr x1 s1.2.2) &&& 255))] [.int x11] 49 := by
      refine f_istore_n (L' := [(3, .int x11), (0, .ref a0), (1, .int x1), (2, .int s1.1), (4, .int s1.2.2), (5, .int ((fushr x1 s1.2.2) &&& 255))]) hC dX5_append_49 rfl (by decide) rfl ?_
      refine f_iload_n hC dX5_append_50 rfl 3 rfl ?_
      refine f_iload hC dX5_append_51 5 rfl ?_
      refine f_if_ne hC 60 dX5_append_53 (by decide) (fun c15 => ?_) (fun c15 => ?_)
      · replace h2 := fi_neg h2 c15
        refine f_iconst (v := 1) hC dX5_append_60 (by decide) ?_
        refine f_iadd hC dX5_append_61 ?_
        refine f_istore_n (L' := [(2, .int (s1.1 + 1)), (3, .int x11), (0, .ref a0), (1, .int x1), (4, .int s1.2.2), (5, .int ((fushr x1 s1.2.2) &&& 255))]) hC dX5_append_62 rfl (by decide) rfl ?_
        refine f_iinc (L' := [(4, .int (s1.2.2 + (-8))), (2, .int (s1.1 + 1)), (3, .int x11), (0, .ref a0), (1, .int x1), (5, .int ((fushr x1 s1.2.2) &&& 255))]) hC dX5_append_63 4 rfl rfl (by decide) rfl ?_
        refine f_goto hC 8 dX5_append_66 (by decide) ?_
        obtain rfl := Option.some.inj h2
        refine f_sub (L' := [(0, .ref a0), (1, .int x1), (2, .int (s1.1 + 1)), (3, .int x11), (4, .int (s1.2.2 + (-8)))]) [3, 4, 1, 2, 0] rfl ?_
        exact go3 _ rfl
      · replace h2 := fi_pos h2 c15
        refine f_iconst (v := 0) hC dX5_append_56 (by decide) ?_
        refine f_goto hC 61 dX5_append_57 (by decide) ?_
        refine f_iadd hC dX5_append_61 ?_
        refine f_istore_n (L' := [(2, .int (s1.1 + 0)), (3, .int x11), (0, .ref a0), (1, .int x1), (4, .int s1.2.2), (5, .int ((fushr x1 s1.2.2) &&& 255))]) hC dX5_append_62 rfl (by decide) rfl ?_
        refine f_iinc (L' := [(4, .int (s1.2.2 + (-8))), (2, .int (s1.1 + 0)), (3, .int x11), (0, .ref a0), (1, .int x1), (5, .int ((fushr x1 s1.2.2) &&& 255))]) hC dX5_append_63 4 rfl rfl (by decide) rfl ?_
        refine f_goto hC 8 dX5_append_66 (by decide) ?_
        obtain rfl := Option.some.inj h2
        refine f_sub (L' := [(0, .ref a0), (1, .int x1), (2, .int (s1.1 + 0)), (3, .int x11), (4, .int (s1.2.2 + (-8)))]) [3, 4, 1, 2, 0] rfl ?_
        exact go3 _ rfl
    refine f_if_eq hC 48 dX5_append_24 (by decide) (fun c16 => ?_) (fun c16 => ?_)
    · replace h12 := fi_pos h12 c16
      refine f_iconst (v := 0) hC dX5_append_48 (by decide) ?_
      obtain rfl := Option.some.inj h12
      refine f_sub (L' := [(0, .ref a0), (1, .int x1), (2, .int s1.1), (4, .int s1.2.2), (5, .int ((fushr x1 s1.2.2) &&& 255))]) [1, 2, 3, 5, 0] rfl ?_
      exact K14
    · replace h12 := fi_neg h12 c16
      refine f_iload hC dX5_append_27 0 rfl ?_
      refine f_if_eq hC 44 dX5_append_29 (by decide) (fun c17 => ?_) (fun c17 => ?_)
      · replace h12 := fi_pos h12 c17
        refine f_iconst (v := 1) hC dX5_append_44 (by decide) ?_
        refine f_goto hC 49 dX5_append_45 (by decide) ?_
        obtain rfl := Option.some.inj h12
        refine f_sub (L' := [(0, .ref a0), (1, .int x1), (2, .int s1.1), (4, .int s1.2.2), (5, .int ((fushr x1 s1.2.2) &&& 255))]) [1, 2, 3, 5, 0] rfl ?_
        exact K14
      · replace h12 := fi_neg h12 c17
        refine f_iload hC dX5_append_32 0 rfl ?_
        refine f_bipush (v := 32) hC dX5_append_34 (by decide) ?_
        refine f_bipush (v := 126) hC dX5_append_36 (by decide) ?_
        obtain ⟨r18, h19, h12⟩ := fb_open h12
        refine f_callS hC [.int ((fushr x1 s1.2.2) &&& 255), .int 32, .int 126] (c_X5_in l D cy ((fushr x1 s1.2.2) &&& 255) 32 126 w r18 h19) q_1357 q_137 q_1355 q_1356 h9_X5_in ⟨Nat.le_of_ble_eq_true rfl, Nat.le_of_ble_eq_true rfl⟩ ⟨Nat.le_of_ble_eq_true rfl, Nat.le_of_ble_eq_true rfl⟩ (Nat.le_of_ble_eq_true rfl) rfl dX5_append_38 (fun e20 => ?_)
        refine f_if_eq hC 48 dX5_append_41 (by decide) (fun c21 => ?_) (fun c21 => ?_)
        · replace h12 := fi_pos h12 c21
          refine f_iconst (v := 0) hC dX5_append_48 (by decide) ?_
          obtain rfl := Option.some.inj h12
          refine f_sub (L' := [(0, .ref a0), (1, .int x1), (2, .int s1.1), (4, .int s1.2.2), (5, .int ((fushr x1 s1.2.2) &&& 255))]) [1, 2, 3, 5, 0] rfl ?_
          exact K14
        · replace h12 := fi_neg h12 c21
          refine f_iconst (v := 1) hC dX5_append_44 (by decide) ?_
          refine f_goto hC 49 dX5_append_45 (by decide) ?_
          obtain rfl := Option.some.inj h12
          refine f_sub (L' := [(0, .ref a0), (1, .int x1), (2, .int s1.1), (4, .int s1.2.2), (5, .int ((fushr x1 s1.2.2) &&& 255))]) [1, 2, 3, 5, 0] rfl ?_
          exact K14
theorem dX5_here_0 : decode cX5_here 0 = .ok (.aload_n 0, 1) := by decide +kernel
theorem dX5_here_1 : decode cX5_here 1 = .ok (.getfield 251, 3) := by decide +kernel
theorem dX5_here_4 : decode cX5_here 4 = .ok (.aload_n 0, 1) := by decide +kernel
theorem dX5_here_5 : decode cX5_here 5 = .ok (.getfield 254, 3) := by decide +kernel
theorem dX5_here_8 : decode cX5_here 8 = .ok (.if_icmp .ge 15, 3) := by decide +kernel
theorem dX5_here_11 : decode cX5_here 11 = .ok (.aload_n 0, 1) := by decide +kernel
theorem dX5_here_12 : decode cX5_here 12 = .ok (.getfield 22, 3) := by decide +kernel
theorem dX5_here_15 : decode cX5_here 15 = .ok (.aload_n 0, 1) := by decide +kernel
theorem dX5_here_16 : decode cX5_here 16 = .ok (.getfield 251, 3) := by decide +kernel
theorem dX5_here_19 : decode cX5_here 19 = .ok (.iaload, 1) := by decide +kernel
theorem dX5_here_20 : decode cX5_here 20 = .ok (.goto 4, 3) := by decide +kernel
theorem dX5_here_23 : decode cX5_here 23 = .ok (.iconst (-1), 1) := by decide +kernel
theorem dX5_here_24 : decode cX5_here 24 = .ok (.ireturn, 1) := by decide +kernel
theorem h9_X5_here : yX5_here.cls ≠ "java/lang/invoke/MethodHandle" ∧ yX5_here.cls ≠ "java/lang/invoke/VarHandle" ∧ (parseMethodDescriptor yX5_here.desc).map (fun d => d.parameters.length) = some 0 := by decide +kernel
noncomputable def F_X5_here (a0 : Nat) (w : FW) : Option (Int32) :=
  fg (w.1 a0 = 6) inferInstance ((if (gI w 520 a0 0) ≤ (gI w 519 a0 0) then some (-1) else fg (w.1 (gR w 507 a0 0) = 11) inferInstance (fg (¬ ((gI w 519 a0 0) < 0 ∨ w.2.1 (gR w 507 a0 0) ≤ Int32.toNatClampNeg (gI w 519 a0 0))) inferInstance (some (gI w 601 (gR w 507 a0 0) (Int32.toNatClampNeg (gI w 519 a0 0)))))))
set_option maxHeartbeats 4000000 in
set_option maxRecDepth 100000 in
theorem c_X5_here (l : Launch) (D : va_G) (cy : Nat → ClassId) (a0 : Nat) (w : FW) (r : Int32) (hF : F_X5_here a0 w = some r) : fSpec l D cy yX5_here cX5_here 1 (some .int) { frames := 0, cells := 0, slots := 0, locals := 0 } [.ref a0] w w (some (.int r)) := by
  refine f_begin (by decide +kernel) (Nat.le_of_ble_eq_true rfl) (fun X hC hEn => ?_)
  unfold F_X5_here at hF
  show fAt X 0 0 1 w [(0, .ref a0)] [] 0
  refine f_aload_n hC dX5_here_0 rfl 0 rfl ?_
  obtain ⟨g1, hF⟩ := fg_open hF
  refine f_getI hC 5 19 519 rfl (by decide) iX5 q_1278 rfl rfl (fSm.k (fSm.rf w) g1) dX5_here_1 ?_
  refine f_aload_n hC dX5_here_4 rfl 0 rfl ?_
  refine f_getI hC 5 20 520 rfl (by decide) iX5 q_1279 rfl rfl (fSm.k (fSm.rf w) g1) dX5_here_5 ?_
  refine f_icmp_ge hC 23 dX5_here_8 (by decide) (fun c2 => ?_) (fun c2 => ?_)
  · replace hF := fi_pos hF c2
    refine f_iconst (v := (-1)) hC dX5_here_23 (by decide) ?_
    obtain rfl := Option.some.inj hF
    exact f_iret hC hEn (fSm.rf w) dX5_here_24
  · replace hF := fi_neg hF c2
    refine f_aload_n hC dX5_here_11 rfl 0 rfl ?_
    refine f_getR hC 5 7 507 rfl (by decide) iX5 q_1266 rfl rfl (fSm.k (fSm.rf w) g1) dX5_here_12 ?_
    refine f_aload_n hC dX5_here_15 rfl 0 rfl ?_
    refine f_getI hC 5 19 519 rfl (by decide) iX5 q_1278 rfl rfl (fSm.k (fSm.rf w) g1) dX5_here_16 ?_
    obtain ⟨g3, hF⟩ := fg_open hF
    obtain ⟨g4, hF⟩ := fg_open hF
    refine f_iald hC (fSm.k (fSm.rf w) g3) (fSm.v (fSm.rf w) g4) dX5_here_19 ?_
    refine f_goto hC 24 dX5_here_20 (by decide) ?_
    obtain rfl := Option.some.inj hF
    exact f_iret hC hEn (fSm.rf w) dX5_here_24
theorem dX5_sign_0 : decode cX5_sign 0 = .ok (.aload_n 0, 1) := by decide +kernel
theorem dX5_sign_1 : decode cX5_sign 1 = .ok (.aload_n 0, 1) := by decide +kernel
theorem dX5_sign_2 : decode cX5_sign 2 = .ok (.getfield 257, 3) := by decide +kernel
theorem dX5_sign_5 : decode cX5_sign 5 = .ok (.ifCond .ne 11, 3) := by decide +kernel
theorem dX5_sign_8 : decode cX5_sign 8 = .ok (.aload_n 0, 1) := by decide +kernel
theorem dX5_sign_9 : decode cX5_sign 9 = .ok (.invokevirtual 261, 3) := by decide +kernel
theorem dX5_sign_12 : decode cX5_sign 12 = .ok (.iload_n 1, 1) := by decide +kernel
theorem dX5_sign_13 : decode cX5_sign 13 = .ok (.if_icmp .eq 7, 3) := by decide +kernel
theorem dX5_sign_16 : decode cX5_sign 16 = .ok (.iconst 1, 1) := by decide +kernel
theorem dX5_sign_17 : decode cX5_sign 17 = .ok (.goto 4, 3) := by decide +kernel
theorem dX5_sign_20 : decode cX5_sign 20 = .ok (.iconst 0, 1) := by decide +kernel
theorem dX5_sign_21 : decode cX5_sign 21 = .ok (.putfield 257, 3) := by decide +kernel
theorem dX5_sign_24 : decode cX5_sign 24 = .ok (.aload_n 0, 1) := by decide +kernel
theorem dX5_sign_25 : decode cX5_sign 25 = .ok (.dup, 1) := by decide +kernel
theorem dX5_sign_26 : decode cX5_sign 26 = .ok (.getfield 251, 3) := by decide +kernel
theorem dX5_sign_29 : decode cX5_sign 29 = .ok (.aload_n 0, 1) := by decide +kernel
theorem dX5_sign_30 : decode cX5_sign 30 = .ok (.getfield 257, 3) := by decide +kernel
theorem dX5_sign_33 : decode cX5_sign 33 = .ok (.ifCond .eq 7, 3) := by decide +kernel
theorem dX5_sign_36 : decode cX5_sign 36 = .ok (.iconst 0, 1) := by decide +kernel
theorem dX5_sign_37 : decode cX5_sign 37 = .ok (.goto 4, 3) := by decide +kernel
theorem dX5_sign_40 : decode cX5_sign 40 = .ok (.iconst 1, 1) := by decide +kernel
theorem dX5_sign_41 : decode cX5_sign 41 = .ok (.iadd, 1) := by decide +kernel
theorem dX5_sign_42 : decode cX5_sign 42 = .ok (.putfield 251, 3) := by decide +kernel
theorem dX5_sign_45 : decode cX5_sign 45 = .ok (.return_, 1) := by decide +kernel
theorem h9_X5_sign : yX5_sign.cls ≠ "java/lang/invoke/MethodHandle" ∧ yX5_sign.cls ≠ "java/lang/invoke/VarHandle" ∧ (parseMethodDescriptor yX5_sign.desc).map (fun d => d.parameters.length) = some 1 := by decide +kernel
noncomputable def F_X5_sign (a0 : Nat) (x1 : Int32) (w : FW) : Option (FW) :=
  fg (w.1 a0 = 6) inferInstance (((if (gI w 522 a0 0) = 0 then (F_X5_here a0 w).bind (fun r9 => (if r9 = x1 then some 0 else some 1)) else some 1) : Option (Int32)).bind (fun x2 => fg (x2 = 0 ∨ x2 = 1) inferInstance ((if (gI (sI w 522 a0 0 x2) 522 a0 0) = 0 then some (sI (sI w 522 a0 0 x2) 519 a0 0 ((gI (sI w 522 a0 0 x2) 519 a0 0) + 1)) else some (sI (sI w 522 a0 0 x2) 519 a0 0 ((gI (sI w 522 a0 0 x2) 519 a0 0) + 0))))))
set_option maxHeartbeats 4000000 in
set_option maxRecDepth 100000 in
theorem c_X5_sign (l : Launch) (D : va_G) (cy : Nat → ClassId) (a0 : Nat) (x1 : Int32) (w : FW) (r : FW) (hF : F_X5_sign a0 x1 w = some r) : fSpec l D cy yX5_sign cX5_sign 2 none { frames := 1, cells := 0, slots := 0, locals := 20 } [.ref a0, .int x1] w r none := by
  refine f_begin (by decide +kernel) (Nat.le_of_ble_eq_true rfl) (fun X hC hEn => ?_)
  unfold F_X5_sign at hF
  show fAt X 0 0 2 w [(0, .ref a0), (1, .int x1)] [] 0
  refine f_aload_n hC dX5_sign_0 rfl 0 rfl ?_
  refine f_aload_n hC dX5_sign_1 rfl 0 rfl ?_
  obtain ⟨g1, hF⟩ := fg_open hF
  refine f_getI hC 5 22 522 rfl (by decide) iX5 q_1281 rfl rfl (fSm.k (fSm.rf w) g1) dX5_sign_2 ?_
  obtain ⟨x2, h3, hF⟩ := fb_open hF
  have K5 : fAt X 0 0 2 w [(0, .ref a0)] [.int x2, .ref a0] 21 := by
    obtain ⟨g6, hF⟩ := fg_open hF
    refine f_putI hC 5 22 522 rfl (by decide) iX5 tyX5 tyX5_ok nmX5 q_1281 rfl rfl rfl (nar_z g6) (fit_z g6) (fSm.k (fSm.rf w) g1) dX5_sign_21 ?_
    refine f_aload_n hC dX5_sign_24 rfl 0 rfl ?_
    refine f_dup hC dX5_sign_25 rfl ?_
    refine f_getI hC 5 19 519 rfl (by decide) iX5 q_1278 rfl rfl (fSm.k (fSm.rf w) g1) dX5_sign_26 ?_
    refine f_aload_n hC dX5_sign_29 rfl 0 rfl ?_
    refine f_getI hC 5 22 522 rfl (by decide) iX5 q_1281 rfl rfl (fSm.k (fSm.rf w) g1) dX5_sign_30 ?_
    refine f_if_eq hC 40 dX5_sign_33 (by decide) (fun c7 => ?_) (fun c7 => ?_)
    · replace hF := fi_pos hF c7
      refine f_iconst (v := 1) hC dX5_sign_40 (by decide) ?_
      refine f_iadd hC dX5_sign_41 ?_
      refine f_putI hC 5 19 519 rfl (by decide) iX5 tyX5 tyX5_ok nmX5 q_1278 rfl rfl rfl rfl rfl (fSm.k (fSm.rf w) g1) dX5_sign_42 ?_
      obtain rfl := Option.some.inj hF
      exact f_vret hC hEn (fSm.rf w) dX5_sign_45
    · replace hF := fi_neg hF c7
      refine f_iconst (v := 0) hC dX5_sign_36 (by decide) ?_
      refine f_goto hC 41 dX5_sign_37 (by decide) ?_
      refine f_iadd hC dX5_sign_41 ?_
      refine f_putI hC 5 19 519 rfl (by decide) iX5 tyX5 tyX5_ok nmX5 q_1278 rfl rfl rfl rfl rfl (fSm.k (fSm.rf w) g1) dX5_sign_42 ?_
      obtain rfl := Option.some.inj hF
      exact f_vret hC hEn (fSm.rf w) dX5_sign_45
  refine f_if_ne hC 16 dX5_sign_5 (by decide) (fun c8 => ?_) (fun c8 => ?_)
  · replace h3 := fi_neg h3 c8
    refine f_iconst (v := 1) hC dX5_sign_16 (by decide) ?_
    refine f_goto hC 21 dX5_sign_17 (by decide) ?_
    obtain rfl := Option.some.inj h3
    refine f_sub (L' := [(0, .ref a0)]) [0] rfl ?_
    exact K5
  · replace h3 := fi_pos h3 c8
    refine f_aload_n hC dX5_sign_8 rfl 0 rfl ?_
    obtain ⟨r9, h10, h3⟩ := fb_open h3
    refine f_callV hC [] (c_X5_here l D cy a0 w r9 h10) q_1713 q_137 q_1710 q_1712 q_124 h9_X5_here rfl (fSm.k (fSm.rf w) g1) ⟨Nat.le_of_ble_eq_true rfl, Nat.le_of_ble_eq_true rfl⟩ ⟨Nat.le_of_ble_eq_true rfl, Nat.le_of_ble_eq_true rfl⟩ (Nat.le_of_ble_eq_true rfl) rfl dX5_sign_9 (fun e11 => ?_)
    refine f_iload_n hC dX5_sign_12 rfl 1 rfl ?_
    refine f_icmp_eq hC 20 dX5_sign_13 (by decide) (fun c12 => ?_) (fun c12 => ?_)
    · replace h3 := fi_pos h3 c12
      refine f_iconst (v := 0) hC dX5_sign_20 (by decide) ?_
      obtain rfl := Option.some.inj h3
      refine f_sub (L' := [(0, .ref a0)]) [0] rfl ?_
      exact K5
    · replace h3 := fi_neg h3 c12
      refine f_iconst (v := 1) hC dX5_sign_16 (by decide) ?_
      refine f_goto hC 21 dX5_sign_17 (by decide) ?_
      obtain rfl := Option.some.inj h3
      refine f_sub (L' := [(0, .ref a0)]) [0] rfl ?_
      exact K5
theorem dX5_digit_0 : decode cX5_digit 0 = .ok (.aload_n 0, 1) := by decide +kernel
theorem dX5_digit_1 : decode cX5_digit 1 = .ok (.aload_n 0, 1) := by decide +kernel
theorem dX5_digit_2 : decode cX5_digit 2 = .ok (.getfield 257, 3) := by decide +kernel
theorem dX5_digit_5 : decode cX5_digit 5 = .ok (.ifCond .ne 17, 3) := by decide +kernel
theorem dX5_digit_8 : decode cX5_digit 8 = .ok (.aload_n 0, 1) := by decide +kernel
theorem dX5_digit_9 : decode cX5_digit 9 = .ok (.invokevirtual 261, 3) := by decide +kernel
theorem dX5_digit_12 : decode cX5_digit 12 = .ok (.bipush 48, 2) := by decide +kernel
theorem dX5_digit_14 : decode cX5_digit 14 = .ok (.bipush 57, 2) := by decide +kernel
theorem dX5_digit_16 : decode cX5_digit 16 = .ok (.invokestatic 66, 3) := by decide +kernel
theorem dX5_digit_19 : decode cX5_digit 19 = .ok (.ifCond .ne 7, 3) := by decide +kernel
theorem dX5_digit_22 : decode cX5_digit 22 = .ok (.iconst 1, 1) := by decide +kernel
theorem dX5_digit_23 : decode cX5_digit 23 = .ok (.goto 4, 3) := by decide +kernel
theorem dX5_digit_26 : decode cX5_digit 26 = .ok (.iconst 0, 1) := by decide +kernel
theorem dX5_digit_27 : decode cX5_digit 27 = .ok (.putfield 257, 3) := by decide +kernel
theorem dX5_digit_30 : decode cX5_digit 30 = .ok (.aload_n 0, 1) := by decide +kernel
theorem dX5_digit_31 : decode cX5_digit 31 = .ok (.getfield 257, 3) := by decide +kernel
theorem dX5_digit_34 : decode cX5_digit 34 = .ok (.ifCond .eq 5, 3) := by decide +kernel
theorem dX5_digit_37 : decode cX5_digit 37 = .ok (.iconst 0, 1) := by decide +kernel
theorem dX5_digit_38 : decode cX5_digit 38 = .ok (.ireturn, 1) := by decide +kernel
theorem dX5_digit_39 : decode cX5_digit 39 = .ok (.aload_n 0, 1) := by decide +kernel
theorem dX5_digit_40 : decode cX5_digit 40 = .ok (.dup, 1) := by decide +kernel
theorem dX5_digit_41 : decode cX5_digit 41 = .ok (.getfield 251, 3) := by decide +kernel
theorem dX5_digit_44 : decode cX5_digit 44 = .ok (.iconst 1, 1) := by decide +kernel
theorem dX5_digit_45 : decode cX5_digit 45 = .ok (.iadd, 1) := by decide +kernel
theorem dX5_digit_46 : decode cX5_digit 46 = .ok (.putfield 251, 3) := by decide +kernel
theorem dX5_digit_49 : decode cX5_digit 49 = .ok (.aload_n 0, 1) := by decide +kernel
theorem dX5_digit_50 : decode cX5_digit 50 = .ok (.getfield 22, 3) := by decide +kernel
theorem dX5_digit_53 : decode cX5_digit 53 = .ok (.aload_n 0, 1) := by decide +kernel
theorem dX5_digit_54 : decode cX5_digit 54 = .ok (.getfield 251, 3) := by decide +kernel
theorem dX5_digit_57 : decode cX5_digit 57 = .ok (.iconst 1, 1) := by decide +kernel
theorem dX5_digit_58 : decode cX5_digit 58 = .ok (.isub, 1) := by decide +kernel
theorem dX5_digit_59 : decode cX5_digit 59 = .ok (.iaload, 1) := by decide +kernel
theorem dX5_digit_60 : decode cX5_digit 60 = .ok (.bipush 48, 2) := by decide +kernel
theorem dX5_digit_62 : decode cX5_digit 62 = .ok (.isub, 1) := by decide +kernel
theorem dX5_digit_63 : decode cX5_digit 63 = .ok (.ireturn, 1) := by decide +kernel
theorem h9_X5_digit : yX5_digit.cls ≠ "java/lang/invoke/MethodHandle" ∧ yX5_digit.cls ≠ "java/lang/invoke/VarHandle" ∧ (parseMethodDescriptor yX5_digit.desc).map (fun d => d.parameters.length) = some 0 := by decide +kernel
noncomputable def F_X5_digit (a0 : Nat) (w : FW) : Option (Int32 × FW) :=
  fg (w.1 a0 = 6) inferInstance (((if (gI w 522 a0 0) = 0 then (F_X5_here a0 w).bind (fun r11 => (F_X5_in r11 48 57 w).bind (fun r14 => (if r14 = 0 then some 1 else some 0))) else some 1) : Option (Int32)).bind (fun x2 => fg (x2 = 0 ∨ x2 = 1) inferInstance ((if (gI (sI w 522 a0 0 x2) 522 a0 0) = 0 then fg (w.1 (gR w 507 a0 0) = 11) inferInstance (fg (¬ (((gI (sI (sI w 522 a0 0 x2) 519 a0 0 ((gI (sI w 522 a0 0 x2) 519 a0 0) + 1)) 519 a0 0) - 1) < 0 ∨ w.2.1 (gR w 507 a0 0) ≤ Int32.toNatClampNeg ((gI (sI (sI w 522 a0 0 x2) 519 a0 0 ((gI (sI w 522 a0 0 x2) 519 a0 0) + 1)) 519 a0 0) - 1))) inferInstance (some (((gI (sI (sI w 522 a0 0 x2) 519 a0 0 ((gI (sI w 522 a0 0 x2) 519 a0 0) + 1)) 601 (gR (sI (sI w 522 a0 0 x2) 519 a0 0 ((gI (sI w 522 a0 0 x2) 519 a0 0) + 1)) 507 a0 0) (Int32.toNatClampNeg ((gI (sI (sI w 522 a0 0 x2) 519 a0 0 ((gI (sI w 522 a0 0 x2) 519 a0 0) + 1)) 519 a0 0) - 1))) - 48), (sI (sI w 522 a0 0 x2) 519 a0 0 ((gI (sI w 522 a0 0 x2) 519 a0 0) + 1))))) else some (0, (sI w 522 a0 0 x2))))))
set_option maxHeartbeats 4000000 in
set_option maxRecDepth 100000 in
theorem c_X5_digit (l : Launch) (D : va_G) (cy : Nat → ClassId) (a0 : Nat) (w : FW) (r : Int32 × FW) (hF : F_X5_digit a0 w = some r) : fSpec l D cy yX5_digit cX5_digit 1 (some .int) { frames := 1, cells := 0, slots := 0, locals := 22 } [.ref a0] w r.2 (some (.int r.1)) := by
  refine f_begin (by decide +kernel) (Nat.le_of_ble_eq_true rfl) (fun X hC hEn => ?_)
  unfold F_X5_digit at hF
  show fAt X 0 0 1 w [(0, .ref a0)] [] 0
  refine f_aload_n hC dX5_digit_0 rfl 0 rfl ?_
  refine f_aload_n hC dX5_digit_1 rfl 0 rfl ?_
  obtain ⟨g1, hF⟩ := fg_open hF
  refine f_getI hC 5 22 522 rfl (by decide) iX5 q_1281 rfl rfl (fSm.k (fSm.rf w) g1) dX5_digit_2 ?_
  obtain ⟨x2, h3, hF⟩ := fb_open hF
  have K5 : fAt X 0 0 1 w [(0, .ref a0)] [.int x2, .ref a0] 27 := by
    obtain ⟨g6, hF⟩ := fg_open hF
    refine f_putI hC 5 22 522 rfl (by decide) iX5 tyX5 tyX5_ok nmX5 q_1281 rfl rfl rfl (nar_z g6) (fit_z g6) (fSm.k (fSm.rf w) g1) dX5_digit_27 ?_
    refine f_aload_n hC dX5_digit_30 rfl 0 rfl ?_
    refine f_getI hC 5 22 522 rfl (by decide) iX5 q_1281 rfl rfl (fSm.k (fSm.rf w) g1) dX5_digit_31 ?_
    refine f_if_eq hC 39 dX5_digit_34 (by decide) (fun c7 => ?_) (fun c7 => ?_)
    · replace hF := fi_pos hF c7
      refine f_aload_n hC dX5_digit_39 rfl 0 rfl ?_
      refine f_dup hC dX5_digit_40 rfl ?_
      refine f_getI hC 5 19 519 rfl (by decide) iX5 q_1278 rfl rfl (fSm.k (fSm.rf w) g1) dX5_digit_41 ?_
      refine f_iconst (v := 1) hC dX5_digit_44 (by decide) ?_
      refine f_iadd hC dX5_digit_45 ?_
      refine f_putI hC 5 19 519 rfl (by decide) iX5 tyX5 tyX5_ok nmX5 q_1278 rfl rfl rfl rfl rfl (fSm.k (fSm.rf w) g1) dX5_digit_46 ?_
      refine f_aload_n hC dX5_digit_49 rfl 0 rfl ?_
      refine f_getR hC 5 7 507 rfl (by decide) iX5 q_1266 rfl rfl (fSm.k (fSm.rf w) g1) dX5_digit_50 ?_
      refine f_aload_n hC dX5_digit_53 rfl 0 rfl ?_
      refine f_getI hC 5 19 519 rfl (by decide) iX5 q_1278 rfl rfl (fSm.k (fSm.rf w) g1) dX5_digit_54 ?_
      refine f_iconst (v := 1) hC dX5_digit_57 (by decide) ?_
      refine f_isub hC dX5_digit_58 ?_
      obtain ⟨g8, hF⟩ := fg_open hF
      obtain ⟨g9, hF⟩ := fg_open hF
      refine f_iald hC (fSm.k (fSm.rf w) g8) (fSm.v (fSm.rf w) g9) dX5_digit_59 ?_
      refine f_bipush (v := 48) hC dX5_digit_60 (by decide) ?_
      refine f_isub hC dX5_digit_62 ?_
      obtain rfl := Option.some.inj hF
      exact f_iret hC hEn (fSm.rf w) dX5_digit_63
    · replace hF := fi_neg hF c7
      refine f_iconst (v := 0) hC dX5_digit_37 (by decide) ?_
      obtain rfl := Option.some.inj hF
      exact f_iret hC hEn (fSm.rf w) dX5_digit_38
  refine f_if_ne hC 22 dX5_digit_5 (by decide) (fun c10 => ?_) (fun c10 => ?_)
  · replace h3 := fi_neg h3 c10
    refine f_iconst (v := 1) hC dX5_digit_22 (by decide) ?_
    refine f_goto hC 27 dX5_digit_23 (by decide) ?_
    obtain rfl := Option.some.inj h3
    exact K5
  · replace h3 := fi_pos h3 c10
    refine f_aload_n hC dX5_digit_8 rfl 0 rfl ?_
    obtain ⟨r11, h12, h3⟩ := fb_open h3
    refine f_callV hC [] (c_X5_here l D cy a0 w r11 h12) q_1713 q_137 q_1710 q_1712 q_124 h9_X5_here rfl (fSm.k (fSm.rf w) g1) ⟨Nat.le_of_ble_eq_true rfl, Nat.le_of_ble_eq_true rfl⟩ ⟨Nat.le_of_ble_eq_true rfl, Nat.le_of_ble_eq_true rfl⟩ (Nat.le_of_ble_eq_true rfl) rfl dX5_digit_9 (fun e13 => ?_)
    refine f_bipush (v := 48) hC dX5_digit_12 (by decide) ?_
    refine f_bipush (v := 57) hC dX5_digit_14 (by decide) ?_
    obtain ⟨r14, h15, h3⟩ := fb_open h3
    refine f_callS hC [.int r11, .int 48, .int 57] (c_X5_in l D cy r11 48 57 w r14 h15) q_1357 q_137 q_1355 q_1356 h9_X5_in ⟨Nat.le_of_ble_eq_true rfl, Nat.le_of_ble_eq_true rfl⟩ ⟨Nat.le_of_ble_eq_true rfl, Nat.le_of_ble_eq_true rfl⟩ (Nat.le_of_ble_eq_true rfl) rfl dX5_digit_16 (fun e16 => ?_)
    refine f_if_ne hC 26 dX5_digit_19 (by decide) (fun c17 => ?_) (fun c17 => ?_)
    · replace h3 := fi_neg h3 c17
      refine f_iconst (v := 0) hC dX5_digit_26 (by decide) ?_
      obtain rfl := Option.some.inj h3
      exact K5
    · replace h3 := fi_pos h3 c17
      refine f_iconst (v := 1) hC dX5_digit_22 (by decide) ?_
      refine f_goto hC 27 dX5_digit_23 (by decide) ?_
      obtain rfl := Option.some.inj h3
      exact K5
theorem dX5_readsHalf_0 : decode cX5_readsHalf 0 = .ok (.aload_n 0, 1) := by decide +kernel
theorem dX5_readsHalf_1 : decode cX5_readsHalf 1 = .ok (.getfield 25, 3) := by decide +kernel
theorem dX5_readsHalf_4 : decode cX5_readsHalf 4 = .ok (.iconst 4, 1) := by decide +kernel
theorem dX5_readsHalf_5 : decode cX5_readsHalf 5 = .ok (.aload_n 0, 1) := by decide +kernel
theorem dX5_readsHalf_6 : decode cX5_readsHalf 6 = .ok (.getfield 264, 3) := by decide +kernel
theorem dX5_readsHalf_9 : decode cX5_readsHalf 9 = .ok (.imul, 1) := by decide +kernel
theorem dX5_readsHalf_10 : decode cX5_readsHalf 10 = .ok (.iconst 1, 1) := by decide +kernel
theorem dX5_readsHalf_11 : decode cX5_readsHalf 11 = .ok (.iadd, 1) := by decide +kernel
theorem dX5_readsHalf_12 : decode cX5_readsHalf 12 = .ok (.aload_n 0, 1) := by decide +kernel
theorem dX5_readsHalf_13 : decode cX5_readsHalf 13 = .ok (.invokevirtual 267, 3) := by decide +kernel
theorem dX5_readsHalf_16 : decode cX5_readsHalf 16 = .ok (.iastore, 1) := by decide +kernel
theorem dX5_readsHalf_17 : decode cX5_readsHalf 17 = .ok (.aload_n 0, 1) := by decide +kernel
theorem dX5_readsHalf_18 : decode cX5_readsHalf 18 = .ok (.aload_n 0, 1) := by decide +kernel
theorem dX5_readsHalf_19 : decode cX5_readsHalf 19 = .ok (.getfield 257, 3) := by decide +kernel
theorem dX5_readsHalf_22 : decode cX5_readsHalf 22 = .ok (.ifCond .ne 21, 3) := by decide +kernel
theorem dX5_readsHalf_25 : decode cX5_readsHalf 25 = .ok (.aload_n 0, 1) := by decide +kernel
theorem dX5_readsHalf_26 : decode cX5_readsHalf 26 = .ok (.invokevirtual 261, 3) := by decide +kernel
theorem dX5_readsHalf_29 : decode cX5_readsHalf 29 = .ok (.bipush 111, 2) := by decide +kernel
theorem dX5_readsHalf_31 : decode cX5_readsHalf 31 = .ok (.if_icmp .eq 16, 3) := by decide +kernel
theorem dX5_readsHalf_34 : decode cX5_readsHalf 34 = .ok (.aload_n 0, 1) := by decide +kernel
theorem dX5_readsHalf_35 : decode cX5_readsHalf 35 = .ok (.invokevirtual 261, 3) := by decide +kernel
theorem dX5_readsHalf_38 : decode cX5_readsHalf 38 = .ok (.bipush 114, 2) := by decide +kernel
theorem dX5_readsHalf_40 : decode cX5_readsHalf 40 = .ok (.if_icmp .eq 7, 3) := by decide +kernel
theorem dX5_readsHalf_43 : decode cX5_readsHalf 43 = .ok (.iconst 1, 1) := by decide +kernel
theorem dX5_readsHalf_44 : decode cX5_readsHalf 44 = .ok (.goto 4, 3) := by decide +kernel
theorem dX5_readsHalf_47 : decode cX5_readsHalf 47 = .ok (.iconst 0, 1) := by decide +kernel
theorem dX5_readsHalf_48 : decode cX5_readsHalf 48 = .ok (.putfield 257, 3) := by decide +kernel
theorem dX5_readsHalf_51 : decode cX5_readsHalf 51 = .ok (.aload_n 0, 1) := by decide +kernel
theorem dX5_readsHalf_52 : decode cX5_readsHalf 52 = .ok (.getfield 25, 3) := by decide +kernel
theorem dX5_readsHalf_55 : decode cX5_readsHalf 55 = .ok (.iconst 4, 1) := by decide +kernel
theorem dX5_readsHalf_56 : decode cX5_readsHalf 56 = .ok (.aload_n 0, 1) := by decide +kernel
theorem dX5_readsHalf_57 : decode cX5_readsHalf 57 = .ok (.getfield 264, 3) := by decide +kernel
theorem dX5_readsHalf_60 : decode cX5_readsHalf 60 = .ok (.imul, 1) := by decide +kernel
theorem dX5_readsHalf_61 : decode cX5_readsHalf 61 = .ok (.iconst 2, 1) := by decide +kernel
theorem dX5_readsHalf_62 : decode cX5_readsHalf 62 = .ok (.iadd, 1) := by decide +kernel
theorem dX5_readsHalf_63 : decode cX5_readsHalf 63 = .ok (.aload_n 0, 1) := by decide +kernel
theorem dX5_readsHalf_64 : decode cX5_readsHalf 64 = .ok (.invokevirtual 261, 3) := by decide +kernel
theorem dX5_readsHalf_67 : decode cX5_readsHalf 67 = .ok (.bipush 114, 2) := by decide +kernel
theorem dX5_readsHalf_69 : decode cX5_readsHalf 69 = .ok (.if_icmp .ne 7, 3) := by decide +kernel
theorem dX5_readsHalf_72 : decode cX5_readsHalf 72 = .ok (.iconst 1, 1) := by decide +kernel
theorem dX5_readsHalf_73 : decode cX5_readsHalf 73 = .ok (.goto 4, 3) := by decide +kernel
theorem dX5_readsHalf_76 : decode cX5_readsHalf 76 = .ok (.iconst 0, 1) := by decide +kernel
theorem dX5_readsHalf_77 : decode cX5_readsHalf 77 = .ok (.iastore, 1) := by decide +kernel
theorem dX5_readsHalf_78 : decode cX5_readsHalf 78 = .ok (.aload_n 0, 1) := by decide +kernel
theorem dX5_readsHalf_79 : decode cX5_readsHalf 79 = .ok (.dup, 1) := by decide +kernel
theorem dX5_readsHalf_80 : decode cX5_readsHalf 80 = .ok (.getfield 251, 3) := by decide +kernel
theorem dX5_readsHalf_83 : decode cX5_readsHalf 83 = .ok (.aload_n 0, 1) := by decide +kernel
theorem dX5_readsHalf_84 : decode cX5_readsHalf 84 = .ok (.getfield 257, 3) := by decide +kernel
theorem dX5_readsHalf_87 : decode cX5_readsHalf 87 = .ok (.ifCond .eq 7, 3) := by decide +kernel
theorem dX5_readsHalf_90 : decode cX5_readsHalf 90 = .ok (.iconst 0, 1) := by decide +kernel
theorem dX5_readsHalf_91 : decode cX5_readsHalf 91 = .ok (.goto 4, 3) := by decide +kernel
theorem dX5_readsHalf_94 : decode cX5_readsHalf 94 = .ok (.iconst 1, 1) := by decide +kernel
theorem dX5_readsHalf_95 : decode cX5_readsHalf 95 = .ok (.iadd, 1) := by decide +kernel
theorem dX5_readsHalf_96 : decode cX5_readsHalf 96 = .ok (.putfield 251, 3) := by decide +kernel
theorem dX5_readsHalf_99 : decode cX5_readsHalf 99 = .ok (.return_, 1) := by decide +kernel
theorem h9_X5_readsHalf : yX5_readsHalf.cls ≠ "java/lang/invoke/MethodHandle" ∧ yX5_readsHalf.cls ≠ "java/lang/invoke/VarHandle" ∧ (parseMethodDescriptor yX5_readsHalf.desc).map (fun d => d.parameters.length) = some 0 := by decide +kernel
noncomputable def F_X5_readsHalf (a0 : Nat) (w : FW) : Option (FW) :=
  fg (w.1 a0 = 6) inferInstance ((F_X5_digit a0 w).bind (fun r2 => fg (w.1 (gR w 508 a0 0) = 11) inferInstance (fg (¬ (((4 * (gI w 521 a0 0)) + 1) < 0 ∨ w.2.1 (gR w 508 a0 0) ≤ Int32.toNatClampNeg ((4 * (gI w 521 a0 0)) + 1))) inferInstance (((if (gI (sI r2.2 601 (gR w 508 a0 0) (Int32.toNatClampNeg ((4 * (gI w 521 a0 0)) + 1)) r2.1) 522 a0 0) = 0 then (F_X5_here a0 (sI r2.2 601 (gR w 508 a0 0) (Int32.toNatClampNeg ((4 * (gI w 521 a0 0)) + 1)) r2.1)).bind (fun r24 => (if r24 = 111 then some 0 else (F_X5_here a0 (sI r2.2 601 (gR w 508 a0 0) (Int32.toNatClampNeg ((4 * (gI w 521 a0 0)) + 1)) r2.1)).bind (fun r28 => (if r28 = 114 then some 0 else some 1)))) else some 1) : Option (Int32)).bind (fun x7 => fg (x7 = 0 ∨ x7 = 1) inferInstance ((F_X5_here a0 (sI (sI r2.2 601 (gR w 508 a0 0) (Int32.toNatClampNeg ((4 * (gI w 521 a0 0)) + 1)) r2.1) 522 a0 0 x7)).bind (fun r12 => ((if r12 = 114 then some 1 else some 0) : Option (Int32)).bind (fun x15 => fg (w.1 (gR r2.2 508 a0 0) = 11) inferInstance (fg (¬ (((4 * (gI (sI (sI r2.2 601 (gR w 508 a0 0) (Int32.toNatClampNeg ((4 * (gI w 521 a0 0)) + 1)) r2.1) 522 a0 0 x7) 521 a0 0)) + 2) < 0 ∨ w.2.1 (gR r2.2 508 a0 0) ≤ Int32.toNatClampNeg ((4 * (gI (sI (sI r2.2 601 (gR w 508 a0 0) (Int32.toNatClampNeg ((4 * (gI w 521 a0 0)) + 1)) r2.1) 522 a0 0 x7) 521 a0 0)) + 2))) inferInstance ((if (gI (sI (sI (sI r2.2 601 (gR w 508 a0 0) (Int32.toNatClampNeg ((4 * (gI w 521 a0 0)) + 1)) r2.1) 522 a0 0 x7) 601 (gR (sI (sI r2.2 601 (gR w 508 a0 0) (Int32.toNatClampNeg ((4 * (gI w 521 a0 0)) + 1)) r2.1) 522 a0 0 x7) 508 a0 0) (Int32.toNatClampNeg ((4 * (gI (sI (sI r2.2 601 (gR w 508 a0 0) (Int32.toNatClampNeg ((4 * (gI w 521 a0 0)) + 1)) r2.1) 522 a0 0 x7) 521 a0 0)) + 2)) x15) 522 a0 0) = 0 then some (sI (sI (sI (sI r2.2 601 (gR w 508 a0 0) (Int32.toNatClampNeg ((4 * (gI w 521 a0 0)) + 1)) r2.1) 522 a0 0 x7) 601 (gR (sI (sI r2.2 601 (gR w 508 a0 0) (Int32.toNatClampNeg ((4 * (gI w 521 a0 0)) + 1)) r2.1) 522 a0 0 x7) 508 a0 0) (Int32.toNatClampNeg ((4 * (gI (sI (sI r2.2 601 (gR w 508 a0 0) (Int32.toNatClampNeg ((4 * (gI w 521 a0 0)) + 1)) r2.1) 522 a0 0 x7) 521 a0 0)) + 2)) x15) 519 a0 0 ((gI (sI (sI (sI r2.2 601 (gR w 508 a0 0) (Int32.toNatClampNeg ((4 * (gI w 521 a0 0)) + 1)) r2.1) 522 a0 0 x7) 601 (gR (sI (sI r2.2 601 (gR w 508 a0 0) (Int32.toNatClampNeg ((4 * (gI w 521 a0 0)) + 1)) r2.1) 522 a0 0 x7) 508 a0 0) (Int32.toNatClampNeg ((4 * (gI (sI (sI r2.2 601 (gR w 508 a0 0) (Int32.toNatClampNeg ((4 * (gI w 521 a0 0)) + 1)) r2.1) 522 a0 0 x7) 521 a0 0)) + 2)) x15) 519 a0 0) + 1)) else some (sI (sI (sI (sI r2.2 601 (gR w 508 a0 0) (Int32.toNatClampNeg ((4 * (gI w 521 a0 0)) + 1)) r2.1) 522 a0 0 x7) 601 (gR (sI (sI r2.2 601 (gR w 508 a0 0) (Int32.toNatClampNeg ((4 * (gI w 521 a0 0)) + 1)) r2.1) 522 a0 0 x7) 508 a0 0) (Int32.toNatClampNeg ((4 * (gI (sI (sI r2.2 601 (gR w 508 a0 0) (Int32.toNatClampNeg ((4 * (gI w 521 a0 0)) + 1)) r2.1) 522 a0 0 x7) 521 a0 0)) + 2)) x15) 519 a0 0 ((gI (sI (sI (sI r2.2 601 (gR w 508 a0 0) (Int32.toNatClampNeg ((4 * (gI w 521 a0 0)) + 1)) r2.1) 522 a0 0 x7) 601 (gR (sI (sI r2.2 601 (gR w 508 a0 0) (Int32.toNatClampNeg ((4 * (gI w 521 a0 0)) + 1)) r2.1) 522 a0 0 x7) 508 a0 0) (Int32.toNatClampNeg ((4 * (gI (sI (sI r2.2 601 (gR w 508 a0 0) (Int32.toNatClampNeg ((4 * (gI w 521 a0 0)) + 1)) r2.1) 522 a0 0 x7) 521 a0 0)) + 2)) x15) 519 a0 0) + 0)))))))))))))
set_option maxHeartbeats 4000000 in
set_option maxRecDepth 100000 in
theorem c_X5_readsHalf (l : Launch) (D : va_G) (cy : Nat → ClassId) (a0 : Nat) (w : FW) (r : FW) (hF : F_X5_readsHalf a0 w = some r) : fSpec l D cy yX5_readsHalf cX5_readsHalf 1 none { frames := 2, cells := 0, slots := 0, locals := 42 } [.ref a0] w r none := by
  refine f_begin (by decide +kernel) (Nat.le_of_ble_eq_true rfl) (fun X hC hEn => ?_)
  unfold F_X5_readsHalf at hF
  show fAt X 0 0 1 w [(0, .ref a0)] [] 0
  refine f_aload_n hC dX5_readsHalf_0 rfl 0 rfl ?_
  obtain ⟨g1, hF⟩ := fg_open hF
  refine f_getR hC 5 8 508 rfl (by decide) iX5 q_1267 rfl rfl (fSm.k (fSm.rf w) g1) dX5_readsHalf_1 ?_
  refine f_iconst (v := 4) hC dX5_readsHalf_4 (by decide) ?_
  refine f_aload_n hC dX5_readsHalf_5 rfl 0 rfl ?_
  refine f_getI hC 5 21 521 rfl (by decide) iX5 q_1280 rfl rfl (fSm.k (fSm.rf w) g1) dX5_readsHalf_6 ?_
  refine f_imul hC dX5_readsHalf_9 ?_
  refine f_iconst (v := 1) hC dX5_readsHalf_10 (by decide) ?_
  refine f_iadd hC dX5_readsHalf_11 ?_
  refine f_aload_n hC dX5_readsHalf_12 rfl 0 rfl ?_
  obtain ⟨r2, h3, hF⟩ := fb_open hF
  refine f_callV hC [] (c_X5_digit l D cy a0 w r2 h3) q_1725 q_137 q_1722 q_1724 q_127 h9_X5_digit rfl (fSm.k (fSm.rf w) g1) ⟨Nat.le_of_ble_eq_true rfl, Nat.le_of_ble_eq_true rfl⟩ ⟨Nat.le_of_ble_eq_true rfl, Nat.le_of_ble_eq_true rfl⟩ (Nat.le_of_ble_eq_true rfl) rfl dX5_readsHalf_13 (fun e4 => ?_)
  obtain ⟨g5, hF⟩ := fg_open hF
  obtain ⟨g6, hF⟩ := fg_open hF
  refine f_iast hC (fSm.k (fSm.tr e4 (fSm.rf w)) g5) (fSm.v (fSm.tr e4 (fSm.rf w)) g6) dX5_readsHalf_16 ?_
  refine f_aload_n hC dX5_readsHalf_17 rfl 0 rfl ?_
  refine f_aload_n hC dX5_readsHalf_18 rfl 0 rfl ?_
  refine f_getI hC 5 22 522 rfl (by decide) iX5 q_1281 rfl rfl (fSm.k (fSm.tr e4 (fSm.rf w)) g1) dX5_readsHalf_19 ?_
  obtain ⟨x7, h8, hF⟩ := fb_open hF
  have K10 : fAt X 0 0 1 (sI r2.2 601 (gR w 508 a0 0) (Int32.toNatClampNeg ((4 * (gI w 521 a0 0)) + 1)) r2.1) [(0, .ref a0)] [.int x7, .ref a0] 48 := by
    obtain ⟨g11, hF⟩ := fg_open hF
    refine f_putI hC 5 22 522 rfl (by decide) iX5 tyX5 tyX5_ok nmX5 q_1281 rfl rfl rfl (nar_z g11) (fit_z g11) (fSm.k (fSm.tr e4 (fSm.rf w)) g1) dX5_readsHalf_48 ?_
    refine f_aload_n hC dX5_readsHalf_51 rfl 0 rfl ?_
    refine f_getR hC 5 8 508 rfl (by decide) iX5 q_1267 rfl rfl (fSm.k (fSm.tr e4 (fSm.rf w)) g1) dX5_readsHalf_52 ?_
    refine f_iconst (v := 4) hC dX5_readsHalf_55 (by decide) ?_
    refine f_aload_n hC dX5_readsHalf_56 rfl 0 rfl ?_
    refine f_getI hC 5 21 521 rfl (by decide) iX5 q_1280 rfl rfl (fSm.k (fSm.tr e4 (fSm.rf w)) g1) dX5_readsHalf_57 ?_
    refine f_imul hC dX5_readsHalf_60 ?_
    refine f_iconst (v := 2) hC dX5_readsHalf_61 (by decide) ?_
    refine f_iadd hC dX5_readsHalf_62 ?_
    refine f_aload_n hC dX5_readsHalf_63 rfl 0 rfl ?_
    obtain ⟨r12, h13, hF⟩ := fb_open hF
    refine f_callV hC [] (c_X5_here l D cy a0 (sI (sI r2.2 601 (gR w 508 a0 0) (Int32.toNatClampNeg ((4 * (gI w 521 a0 0)) + 1)) r2.1) 522 a0 0 x7) r12 h13) q_1713 q_137 q_1710 q_1712 q_124 h9_X5_here rfl (fSm.k (fSm.tr e4 (fSm.rf w)) g1) ⟨Nat.le_of_ble_eq_true rfl, Nat.le_of_ble_eq_true rfl⟩ ⟨Nat.le_of_ble_eq_true rfl, Nat.le_of_ble_eq_true rfl⟩ (Nat.le_of_ble_eq_true rfl) rfl dX5_readsHalf_64 (fun e14 => ?_)
    refine f_bipush (v := 114) hC dX5_readsHalf_67 (by decide) ?_
    obtain ⟨x15, h16, hF⟩ := fb_open hF
    have K18 : fAt X 0 0 1 (sI (sI r2.2 601 (gR w 508 a0 0) (Int32.toNatClampNeg ((4 * (gI w 521 a0 0)) + 1)) r2.1) 522 a0 0 x7) [(0, .ref a0)] [.int x15, .int ((4 * (gI (sI (sI r2.2 601 (gR w 508 a0 0) (Int32.toNatClampNeg ((4 * (gI w 521 a0 0)) + 1)) r2.1) 522 a0 0 x7) 521 a0 0)) + 2), .ref (gR (sI (sI r2.2 601 (gR w 508 a0 0) (Int32.toNatClampNeg ((4 * (gI w 521 a0 0)) + 1)) r2.1) 522 a0 0 x7) 508 a0 0)] 77 := by
      obtain ⟨g19, hF⟩ := fg_open hF
      obtain ⟨g20, hF⟩ := fg_open hF
      refine f_iast hC (fSm.k (fSm.tr e4 (fSm.rf w)) g19) (fSm.v (fSm.tr e4 (fSm.rf w)) g20) dX5_readsHalf_77 ?_
      refine f_aload_n hC dX5_readsHalf_78 rfl 0 rfl ?_
      refine f_dup hC dX5_readsHalf_79 rfl ?_
      refine f_getI hC 5 19 519 rfl (by decide) iX5 q_1278 rfl rfl (fSm.k (fSm.tr e4 (fSm.rf w)) g1) dX5_readsHalf_80 ?_
      refine f_aload_n hC dX5_readsHalf_83 rfl 0 rfl ?_
      refine f_getI hC 5 22 522 rfl (by decide) iX5 q_1281 rfl rfl (fSm.k (fSm.tr e4 (fSm.rf w)) g1) dX5_readsHalf_84 ?_
      refine f_if_eq hC 94 dX5_readsHalf_87 (by decide) (fun c21 => ?_) (fun c21 => ?_)
      · replace hF := fi_pos hF c21
        refine f_iconst (v := 1) hC dX5_readsHalf_94 (by decide) ?_
        refine f_iadd hC dX5_readsHalf_95 ?_
        refine f_putI hC 5 19 519 rfl (by decide) iX5 tyX5 tyX5_ok nmX5 q_1278 rfl rfl rfl rfl rfl (fSm.k (fSm.tr e4 (fSm.rf w)) g1) dX5_readsHalf_96 ?_
        obtain rfl := Option.some.inj hF
        exact f_vret hC hEn (fSm.tr e4 (fSm.rf w)) dX5_readsHalf_99
      · replace hF := fi_neg hF c21
        refine f_iconst (v := 0) hC dX5_readsHalf_90 (by decide) ?_
        refine f_goto hC 95 dX5_readsHalf_91 (by decide) ?_
        refine f_iadd hC dX5_readsHalf_95 ?_
        refine f_putI hC 5 19 519 rfl (by decide) iX5 tyX5 tyX5_ok nmX5 q_1278 rfl rfl rfl rfl rfl (fSm.k (fSm.tr e4 (fSm.rf w)) g1) dX5_readsHalf_96 ?_
        obtain rfl := Option.some.inj hF
        exact f_vret hC hEn (fSm.tr e4 (fSm.rf w)) dX5_readsHalf_99
    refine f_icmp_ne hC 76 dX5_readsHalf_69 (by decide) (fun c22 => ?_) (fun c22 => ?_)
    · replace h16 := fi_neg h16 c22
      refine f_iconst (v := 0) hC dX5_readsHalf_76 (by decide) ?_
      obtain rfl := Option.some.inj h16
      exact K18
    · replace h16 := fi_pos h16 c22
      refine f_iconst (v := 1) hC dX5_readsHalf_72 (by decide) ?_
      refine f_goto hC 77 dX5_readsHalf_73 (by decide) ?_
      obtain rfl := Option.some.inj h16
      exact K18
  refine f_if_ne hC 43 dX5_readsHalf_22 (by decide) (fun c23 => ?_) (fun c23 => ?_)
  · replace h8 := fi_neg h8 c23
    refine f_iconst (v := 1) hC dX5_readsHalf_43 (by decide) ?_
    refine f_goto hC 48 dX5_readsHalf_44 (by decide) ?_
    obtain rfl := Option.some.inj h8
    exact K10
  · replace h8 := fi_pos h8 c23
    refine f_aload_n hC dX5_readsHalf_25 rfl 0 rfl ?_
    obtain ⟨r24, h25, h8⟩ := fb_open h8
    refine f_callV hC [] (c_X5_here l D cy a0 (sI r2.2 601 (gR w 508 a0 0) (Int32.toNatClampNeg ((4 * (gI w 521 a0 0)) + 1)) r2.1) r24 h25) q_1713 q_137 q_1710 q_1712 q_124 h9_X5_here rfl (fSm.k (fSm.tr e4 (fSm.rf w)) g1) ⟨Nat.le_of_ble_eq_true rfl, Nat.le_of_ble_eq_true rfl⟩ ⟨Nat.le_of_ble_eq_true rfl, Nat.le_of_ble_eq_true rfl⟩ (Nat.le_of_ble_eq_true rfl) rfl dX5_readsHalf_26 (fun e26 => ?_)
    refine f_bipush (v := 111) hC dX5_readsHalf_29 (by decide) ?_
    refine f_icmp_eq hC 47 dX5_readsHalf_31 (by decide) (fun c27 => ?_) (fun c27 => ?_)
    · replace h8 := fi_pos h8 c27
      refine f_iconst (v := 0) hC dX5_readsHalf_47 (by decide) ?_
      obtain rfl := Option.some.inj h8
      exact K10
    · replace h8 := fi_neg h8 c27
      refine f_aload_n hC dX5_readsHalf_34 rfl 0 rfl ?_
      obtain ⟨r28, h29, h8⟩ := fb_open h8
      refine f_callV hC [] (c_X5_here l D cy a0 (sI r2.2 601 (gR w 508 a0 0) (Int32.toNatClampNeg ((4 * (gI w 521 a0 0)) + 1)) r2.1) r28 h29) q_1713 q_137 q_1710 q_1712 q_124 h9_X5_here rfl (fSm.k (fSm.tr e4 (fSm.rf w)) g1) ⟨Nat.le_of_ble_eq_true rfl, Nat.le_of_ble_eq_true rfl⟩ ⟨Nat.le_of_ble_eq_true rfl, Nat.le_of_ble_eq_true rfl⟩ (Nat.le_of_ble_eq_true rfl) rfl dX5_readsHalf_35 (fun e30 => ?_)
      refine f_bipush (v := 114) hC dX5_readsHalf_38 (by decide) ?_
      refine f_icmp_eq hC 47 dX5_readsHalf_40 (by decide) (fun c31 => ?_) (fun c31 => ?_)
      · replace h8 := fi_pos h8 c31
        refine f_iconst (v := 0) hC dX5_readsHalf_47 (by decide) ?_
        obtain rfl := Option.some.inj h8
        exact K10
      · replace h8 := fi_neg h8 c31
        refine f_iconst (v := 1) hC dX5_readsHalf_43 (by decide) ?_
        refine f_goto hC 48 dX5_readsHalf_44 (by decide) ?_
        obtain rfl := Option.some.inj h8
        exact K10
