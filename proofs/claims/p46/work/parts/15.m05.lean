theorem dX3_countOf_0 : decode cX3_countOf 0 = .ok (.iconst 0, 1) := by decide +kernel
theorem dX3_countOf_1 : decode cX3_countOf 1 = .ok (.istore_n 2, 1) := by decide +kernel
theorem dX3_countOf_2 : decode cX3_countOf 2 = .ok (.iconst 0, 1) := by decide +kernel
theorem dX3_countOf_3 : decode cX3_countOf 3 = .ok (.istore_n 3, 1) := by decide +kernel
theorem dX3_countOf_4 : decode cX3_countOf 4 = .ok (.iload_n 3, 1) := by decide +kernel
theorem dX3_countOf_5 : decode cX3_countOf 5 = .ok (.aload_n 0, 1) := by decide +kernel
theorem dX3_countOf_6 : decode cX3_countOf 6 = .ok (.getfield 15, 3) := by decide +kernel
theorem dX3_countOf_9 : decode cX3_countOf 9 = .ok (.if_icmp .ge 21, 3) := by decide +kernel
theorem dX3_countOf_12 : decode cX3_countOf 12 = .ok (.aload_n 0, 1) := by decide +kernel
theorem dX3_countOf_13 : decode cX3_countOf 13 = .ok (.iload_n 3, 1) := by decide +kernel
theorem dX3_countOf_14 : decode cX3_countOf 14 = .ok (.invokevirtual 23, 3) := by decide +kernel
theorem dX3_countOf_17 : decode cX3_countOf 17 = .ok (.iload_n 1, 1) := by decide +kernel
theorem dX3_countOf_18 : decode cX3_countOf 18 = .ok (.if_icmp .ne 6, 3) := by decide +kernel
theorem dX3_countOf_21 : decode cX3_countOf 21 = .ok (.iinc 2 1, 3) := by decide +kernel
theorem dX3_countOf_24 : decode cX3_countOf 24 = .ok (.iinc 3 1, 3) := by decide +kernel
theorem dX3_countOf_27 : decode cX3_countOf 27 = .ok (.goto (-23), 3) := by decide +kernel
theorem dX3_countOf_30 : decode cX3_countOf 30 = .ok (.iload_n 2, 1) := by decide +kernel
theorem dX3_countOf_31 : decode cX3_countOf 31 = .ok (.ireturn, 1) := by decide +kernel
theorem h9_X3_countOf : yX3_countOf.cls ≠ "java/lang/invoke/MethodHandle" ∧ yX3_countOf.cls ≠ "java/lang/invoke/VarHandle" ∧ (parseMethodDescriptor yX3_countOf.desc).map (fun d => d.parameters.length) = some 1 := by decide +kernel
noncomputable def F_X3_countOf (a0 : Nat) (x1 : Int32) (w : FW) : Option (Int32) :=
  (fLoop (σ := Int32 × Int32) (ρ := Int32) (fun s1 => fg (w.1 a0 = 4) inferInstance ((if (gI w 301 a0 0) ≤ s1.2 then some (.inr s1.1) else (F_X3_letterAt a0 s1.2 w).bind (fun r12 => (if r12 = x1 then some (.inl ((s1.1 + 1), (s1.2 + 1))) else some (.inl (s1.1, (s1.2 + 1)))))))) (0, 0)).bind (fun x7 => some x7)
set_option maxHeartbeats 4000000 in
set_option maxRecDepth 100000 in
theorem c_X3_countOf (l : Launch) (D : va_G) (cy : Nat → ClassId) (a0 : Nat) (x1 : Int32) (w : FW) (r : Int32) (hF : F_X3_countOf a0 x1 w = some r) : fSpec l D cy yX3_countOf cX3_countOf 4 (some .int) { frames := 2, cells := 0, slots := 0, locals := 42 } [.ref a0, .int x1] w w (some (.int r)) := by
  refine f_begin (by decide +kernel) (Nat.le_of_ble_eq_true rfl) (fun X hC hEn => ?_)
  unfold F_X3_countOf at hF
  show fAt X 0 0 4 w [(0, .ref a0), (1, .int x1)] [] 0
  refine f_iconst (v := 0) hC dX3_countOf_0 (by decide) ?_
  refine f_istore_n (L' := [(2, .int 0), (0, .ref a0), (1, .int x1)]) hC dX3_countOf_1 rfl (by decide) rfl ?_
  refine f_iconst (v := 0) hC dX3_countOf_2 (by decide) ?_
  refine f_istore_n (L' := [(3, .int 0), (2, .int 0), (0, .ref a0), (1, .int x1)]) hC dX3_countOf_3 rfl (by decide) rfl ?_
  obtain ⟨x7, h8, hF⟩ := fb_open hF
  have K9 : fAt X 0 0 4 w [(2, .int x7)] [] 30 := by
    refine f_iload_n hC dX3_countOf_30 rfl 0 rfl ?_
    obtain rfl := Option.some.inj hF
    exact f_iret hC hEn (fSm.rf w) dX3_countOf_31
  refine f_sub (L' := [(0, .ref a0), (1, .int x1), (2, .int 0), (3, .int 0)]) [2, 3, 1, 0] rfl ?_
  refine fLoop_ind (fun (s1 : Int32 × Int32) => fAt X 0 0 4 w [(0, .ref a0), (1, .int x1), (2, .int s1.1), (3, .int s1.2)] [] 4) (fun s1 y6 h2 go3 ou4 => ?_) h8
  refine f_iload_n hC dX3_countOf_4 rfl 3 rfl ?_
  refine f_aload_n hC dX3_countOf_5 rfl 0 rfl ?_
  obtain ⟨g10, h2⟩ := fg_open h2
  refine f_getI hC 3 1 301 rfl (by decide) iX3 q_123 rfl rfl (fSm.k (fSm.rf w) g10) dX3_countOf_6 ?_
  refine f_icmp_ge hC 30 dX3_countOf_9 (by decide) (fun c11 => ?_) (fun c11 => ?_)
  · replace h2 := fi_pos h2 c11
    obtain rfl := Option.some.inj h2
    obtain rfl := ou4 _ rfl
    refine f_sub (L' := [(2, .int s1.1)]) [2] rfl ?_
    exact K9
  · replace h2 := fi_neg h2 c11
    refine f_aload_n hC dX3_countOf_12 rfl 0 rfl ?_
    refine f_iload_n hC dX3_countOf_13 rfl 3 rfl ?_
    obtain ⟨r12, h13, h2⟩ := fb_open h2
    refine f_callV hC [.int s1.2] (c_X3_letterAt l D cy a0 s1.2 w r12 h13) q_433 q_75 q_979 q_432 q_5 h9_X3_letterAt rfl (fSm.k (fSm.rf w) g10) ⟨Nat.le_of_ble_eq_true rfl, Nat.le_of_ble_eq_true rfl⟩ ⟨Nat.le_of_ble_eq_true rfl, Nat.le_of_ble_eq_true rfl⟩ (Nat.le_of_ble_eq_true rfl) rfl dX3_countOf_14 (fun e14 => ?_)
    refine f_iload_n hC dX3_countOf_17 rfl 1 rfl ?_
    refine f_icmp_ne hC 24 dX3_countOf_18 (by decide) (fun c15 => ?_) (fun c15 => ?_)
    · replace h2 := fi_neg h2 c15
      refine f_iinc (L' := [(3, .int (s1.2 + 1)), (0, .ref a0), (1, .int x1), (2, .int s1.1)]) hC dX3_countOf_24 3 rfl rfl (by decide) rfl ?_
      refine f_goto hC 4 dX3_countOf_27 (by decide) ?_
      obtain rfl := Option.some.inj h2
      refine f_sub (L' := [(0, .ref a0), (1, .int x1), (2, .int s1.1), (3, .int (s1.2 + 1))]) [1, 2, 3, 0] rfl ?_
      exact go3 _ rfl
    · replace h2 := fi_pos h2 c15
      refine f_iinc (L' := [(2, .int (s1.1 + 1)), (0, .ref a0), (1, .int x1), (3, .int s1.2)]) hC dX3_countOf_21 2 rfl rfl (by decide) rfl ?_
      refine f_iinc (L' := [(3, .int (s1.2 + 1)), (2, .int (s1.1 + 1)), (0, .ref a0), (1, .int x1)]) hC dX3_countOf_24 3 rfl rfl (by decide) rfl ?_
      refine f_goto hC 4 dX3_countOf_27 (by decide) ?_
      obtain rfl := Option.some.inj h2
      refine f_sub (L' := [(0, .ref a0), (1, .int x1), (2, .int (s1.1 + 1)), (3, .int (s1.2 + 1))]) [2, 3, 1, 0] rfl ?_
      exact go3 _ rfl
theorem dX4_often_0 : decode cX4_often 0 = .ok (.iload_n 1, 1) := by decide +kernel
theorem dX4_often_1 : decode cX4_often 1 = .ok (.invokestatic 281, 3) := by decide +kernel
theorem dX4_often_4 : decode cX4_often 4 = .ok (.ifCond .ne 14, 3) := by decide +kernel
theorem dX4_often_7 : decode cX4_often 7 = .ok (.new 142, 3) := by decide +kernel
theorem dX4_often_10 : decode cX4_often 10 = .ok (.dup, 1) := by decide +kernel
theorem dX4_often_11 : decode cX4_often 11 = .ok (.ldc_w 285, 3) := by decide +kernel
theorem dX4_often_14 : decode cX4_often 14 = .ok (.invokespecial 146, 3) := by decide +kernel
theorem dX4_often_17 : decode cX4_often 17 = .ok (.athrow, 1) := by decide +kernel
theorem dX4_often_18 : decode cX4_often 18 = .ok (.iconst 0, 1) := by decide +kernel
theorem dX4_often_19 : decode cX4_often 19 = .ok (.istore_n 2, 1) := by decide +kernel
theorem dX4_often_20 : decode cX4_often 20 = .ok (.iconst 0, 1) := by decide +kernel
theorem dX4_often_21 : decode cX4_often 21 = .ok (.istore_n 3, 1) := by decide +kernel
theorem dX4_often_22 : decode cX4_often 22 = .ok (.iload_n 3, 1) := by decide +kernel
theorem dX4_often_23 : decode cX4_often 23 = .ok (.aload_n 0, 1) := by decide +kernel
theorem dX4_often_24 : decode cX4_often 24 = .ok (.getfield 12, 3) := by decide +kernel
theorem dX4_often_27 : decode cX4_often 27 = .ok (.getfield 66, 3) := by decide +kernel
theorem dX4_often_30 : decode cX4_often 30 = .ok (.if_icmp .ge 28, 3) := by decide +kernel
theorem dX4_often_33 : decode cX4_often 33 = .ok (.iload_n 2, 1) := by decide +kernel
theorem dX4_often_34 : decode cX4_often 34 = .ok (.aload_n 0, 1) := by decide +kernel
theorem dX4_often_35 : decode cX4_often 35 = .ok (.getfield 12, 3) := by decide +kernel
theorem dX4_often_38 : decode cX4_often 38 = .ok (.getfield 235, 3) := by decide +kernel
theorem dX4_often_41 : decode cX4_often 41 = .ok (.iload_n 3, 1) := by decide +kernel
theorem dX4_often_42 : decode cX4_often 42 = .ok (.aaload, 1) := by decide +kernel
theorem dX4_often_43 : decode cX4_often 43 = .ok (.getfield 119, 3) := by decide +kernel
theorem dX4_often_46 : decode cX4_often 46 = .ok (.iload_n 1, 1) := by decide +kernel
theorem dX4_often_47 : decode cX4_often 47 = .ok (.invokevirtual 287, 3) := by decide +kernel
theorem dX4_often_50 : decode cX4_often 50 = .ok (.iadd, 1) := by decide +kernel
theorem dX4_often_51 : decode cX4_often 51 = .ok (.istore_n 2, 1) := by decide +kernel
theorem dX4_often_52 : decode cX4_often 52 = .ok (.iinc 3 1, 3) := by decide +kernel
theorem dX4_often_55 : decode cX4_often 55 = .ok (.goto (-33), 3) := by decide +kernel
theorem dX4_often_58 : decode cX4_often 58 = .ok (.iload_n 2, 1) := by decide +kernel
theorem dX4_often_59 : decode cX4_often 59 = .ok (.ireturn, 1) := by decide +kernel
theorem h9_X4_often : yX4_often.cls ≠ "java/lang/invoke/MethodHandle" ∧ yX4_often.cls ≠ "java/lang/invoke/VarHandle" ∧ (parseMethodDescriptor yX4_often.desc).map (fun d => d.parameters.length) = some 1 := by decide +kernel
noncomputable def F_X4_often (a0 : Nat) (x1 : Int32) (w : FW) : Option (Int32 ⊕ Nat) :=
  (F_X4_isLetter x1 w).bind (fun r1 => (if r1 = 0 then some (.inr 1) else (fLoop (σ := Int32 × Int32) (ρ := Int32) (fun s5 => fg (w.1 a0 = 5) inferInstance (fg (w.1 (gR w 400 a0 0) = 2) inferInstance ((if (gI w 101 (gR w 400 a0 0) 0) ≤ s5.2 then some (.inr s5.1) else fg (w.1 (gR w 100 (gR w 400 a0 0) 0) = 14) inferInstance (fg (¬ (s5.2 < 0 ∨ w.2.1 (gR w 100 (gR w 400 a0 0) 0) ≤ Int32.toNatClampNeg s5.2)) inferInstance (fg (w.1 (gR w 604 (gR w 100 (gR w 400 a0 0) 0) (Int32.toNatClampNeg s5.2)) = 3) inferInstance (fg (w.1 (gR w 200 (gR w 604 (gR w 100 (gR w 400 a0 0) 0) (Int32.toNatClampNeg s5.2)) 0) = 4) inferInstance ((F_X3_countOf (gR w 200 (gR w 604 (gR w 100 (gR w 400 a0 0) 0) (Int32.toNatClampNeg s5.2)) 0) x1 w).bind (fun r20 => some (.inl ((s5.1 + r20), (s5.2 + 1)))))))))))) (0, 0)).bind (fun x11 => some (.inl x11))))
set_option maxHeartbeats 4000000 in
set_option maxRecDepth 100000 in
theorem c_X4_often (l : Launch) (D : va_G) (cy : Nat → ClassId) (a0 : Nat) (x1 : Int32) (w : FW) (r : Int32 ⊕ Nat) (hF : F_X4_often a0 x1 w = some r) : fSpecX l D cy yX4_often cX4_often 4 (some .int) { frames := 6, cells := 1, slots := 6, locals := 100 } [.ref a0, .int x1] w w (fOI r) := by
  refine f_beginX (by decide +kernel) (Nat.le_of_ble_eq_true rfl) (fun X hC hEn => ?_)
  have hst := f_st hC hEn
  unfold F_X4_often at hF
  show fAt X 0 0 4 w [(0, .ref a0), (1, .int x1)] [] 0
  refine f_iload_n hC dX4_often_0 rfl 1 rfl ?_
  obtain ⟨r1, h2, hF⟩ := fb_open hF
  refine f_callS hC [.int x1] (c_X4_isLetter l D cy x1 w r1 h2) q_926 q_73 q_924 q_925 h9_X4_isLetter ⟨Nat.le_of_ble_eq_true rfl, Nat.le_of_ble_eq_true rfl⟩ ⟨Nat.le_of_ble_eq_true rfl, Nat.le_of_ble_eq_true rfl⟩ (Nat.le_of_ble_eq_true rfl) rfl dX4_often_1 (fun e3 => ?_)
  refine f_if_ne hC 18 dX4_often_4 (by decide) (fun c4 => ?_) (fun c4 => ?_)
  · replace hF := fi_neg hF c4
    refine f_iconst (v := 0) hC dX4_often_18 (by decide) ?_
    refine f_istore_n (L' := [(2, .int 0), (0, .ref a0), (1, .int x1)]) hC dX4_often_19 rfl (by decide) rfl ?_
    refine f_iconst (v := 0) hC dX4_often_20 (by decide) ?_
    refine f_istore_n (L' := [(3, .int 0), (2, .int 0), (0, .ref a0), (1, .int x1)]) hC dX4_often_21 rfl (by decide) rfl ?_
    obtain ⟨x11, h12, hF⟩ := fb_open hF
    have K13 : fAt X 0 0 4 w [(2, .int x11)] [] 58 := by
      refine f_iload_n hC dX4_often_58 rfl 0 rfl ?_
      obtain rfl := Option.some.inj hF
      refine f_widen (k' := 1) (s' := 6) (Nat.le_of_ble_eq_true rfl) (Nat.le_of_ble_eq_true rfl) ?_
      exact f_iretX hC hEn (fSm.rf w) dX4_often_59
    refine f_sub (L' := [(0, .ref a0), (1, .int x1), (2, .int 0), (3, .int 0)]) [2, 3, 1, 0] rfl ?_
    refine fLoop_ind (fun (s5 : Int32 × Int32) => fAt X 0 0 4 w [(0, .ref a0), (1, .int x1), (2, .int s5.1), (3, .int s5.2)] [] 22) (fun s5 y10 h6 go7 ou8 => ?_) h12
    refine f_iload_n hC dX4_often_22 rfl 3 rfl ?_
    refine f_aload_n hC dX4_often_23 rfl 0 rfl ?_
    obtain ⟨g14, h6⟩ := fg_open h6
    refine f_getR hC 4 0 400 rfl (by decide) iX4 q_260 rfl rfl (fSm.k (fSm.rf w) g14) dX4_often_24 ?_
    obtain ⟨g15, h6⟩ := fg_open h6
    refine f_getIN hC 1 1 101 rfl (by decide) iX1 q_219 rfl rfl (fSm.k (fSm.rf w) g15) dX4_often_27 ?_
    refine f_icmp_ge hC 58 dX4_often_30 (by decide) (fun c16 => ?_) (fun c16 => ?_)
    · replace h6 := fi_pos h6 c16
      obtain rfl := Option.some.inj h6
      obtain rfl := ou8 _ rfl
      refine f_sub (L' := [(2, .int s5.1)]) [2] rfl ?_
      exact K13
    · replace h6 := fi_neg h6 c16
      refine f_iload_n hC dX4_often_33 rfl 2 rfl ?_
      refine f_aload_n hC dX4_often_34 rfl 0 rfl ?_
      refine f_getR hC 4 0 400 rfl (by decide) iX4 q_260 rfl rfl (fSm.k (fSm.rf w) g14) dX4_often_35 ?_
      refine f_getRN hC 1 0 100 rfl (by decide) iX1 q_217 rfl rfl (fSm.k (fSm.rf w) g15) dX4_often_38 ?_
      refine f_iload_n hC dX4_often_41 rfl 3 rfl ?_
      obtain ⟨g17, h6⟩ := fg_open h6
      obtain ⟨g18, h6⟩ := fg_open h6
      refine f_aald1 hC (fSm.k (fSm.rf w) g17) (fSm.v (fSm.rf w) g18) dX4_often_42 ?_
      obtain ⟨g19, h6⟩ := fg_open h6
      refine f_getRN hC 2 0 200 rfl (by decide) iX2 q_176 rfl rfl (fSm.k (fSm.rf w) g19) dX4_often_43 ?_
      refine f_iload_n hC dX4_often_46 rfl 1 rfl ?_
      obtain ⟨g22, h6⟩ := fg_open h6
      obtain ⟨r20, h21, h6⟩ := fb_open h6
      refine f_callVN hC [.int x1] (c_X3_countOf l D cy (gR w 200 (gR w 604 (gR w 100 (gR w 400 a0 0) 0) (Int32.toNatClampNeg s5.2)) 0) x1 w r20 h21) q_1349 q_75 q_1346 q_1348 q_67 h9_X3_countOf rfl (fSm.k (fSm.rf w) g22) ⟨Nat.le_of_ble_eq_true rfl, Nat.le_of_ble_eq_true rfl⟩ ⟨Nat.le_of_ble_eq_true rfl, Nat.le_of_ble_eq_true rfl⟩ (Nat.le_of_ble_eq_true rfl) rfl dX4_often_47 (fun e23 => ?_)
      refine f_iadd hC dX4_often_50 ?_
      refine f_istore_n (L' := [(2, .int (s5.1 + r20)), (0, .ref a0), (1, .int x1), (3, .int s5.2)]) hC dX4_often_51 rfl (by decide) rfl ?_
      refine f_iinc (L' := [(3, .int (s5.2 + 1)), (2, .int (s5.1 + r20)), (0, .ref a0), (1, .int x1)]) hC dX4_often_52 3 rfl rfl (by decide) rfl ?_
      refine f_goto hC 22 dX4_often_55 (by decide) ?_
      obtain rfl := Option.some.inj h6
      refine f_sub (L' := [(0, .ref a0), (1, .int x1), (2, .int (s5.1 + r20)), (3, .int (s5.2 + 1))]) [2, 3, 1, 0] rfl ?_
      exact go7 _ rfl
  · replace hF := fi_pos hF c4
    obtain rfl := Option.some.inj hF
    exact f_throwSW hC hEn (fSm.rf w) 44 rfl xf_1 xn_1 q_497 q_81 rfl xa_RX4_146 xg_RX4_142_146 dX4_often_7 dX4_often_10 dX4_often_11 dX4_often_14 dX4_often_17 (Nat.le_of_ble_eq_true rfl) (Nat.le_of_ble_eq_true rfl) (Nat.le_of_ble_eq_true rfl) (Nat.le_of_ble_eq_true rfl) (Nat.le_of_ble_eq_true rfl) (Nat.le_of_ble_eq_true rfl)
theorem dX2_wetness_0 : decode cX2_wetness 0 = .ok (.aload_n 0, 1) := by decide +kernel
theorem dX2_wetness_1 : decode cX2_wetness 1 = .ok (.getfield 38, 3) := by decide +kernel
theorem dX2_wetness_4 : decode cX2_wetness 4 = .ok (.getfield 63, 3) := by decide +kernel
theorem dX2_wetness_7 : decode cX2_wetness 7 = .ok (.aload_n 0, 1) := by decide +kernel
theorem dX2_wetness_8 : decode cX2_wetness 8 = .ok (.getfield 42, 3) := by decide +kernel
theorem dX2_wetness_11 : decode cX2_wetness 11 = .ok (.getfield 63, 3) := by decide +kernel
theorem dX2_wetness_14 : decode cX2_wetness 14 = .ok (.iadd, 1) := by decide +kernel
theorem dX2_wetness_15 : decode cX2_wetness 15 = .ok (.ireturn, 1) := by decide +kernel
theorem h9_X2_wetness : yX2_wetness.cls ≠ "java/lang/invoke/MethodHandle" ∧ yX2_wetness.cls ≠ "java/lang/invoke/VarHandle" ∧ (parseMethodDescriptor yX2_wetness.desc).map (fun d => d.parameters.length) = some 0 := by decide +kernel
noncomputable def F_X2_wetness (a0 : Nat) (w : FW) : Option (Int32) :=
  fg (w.1 a0 = 3) inferInstance (fg (w.1 (gR w 206 a0 0) = 1) inferInstance (fg (w.1 (gR w 207 a0 0) = 1) inferInstance (some ((gI w 2 (gR w 206 a0 0) 0) + (gI w 2 (gR w 207 a0 0) 0)))))
set_option maxHeartbeats 4000000 in
set_option maxRecDepth 100000 in
theorem c_X2_wetness (l : Launch) (D : va_G) (cy : Nat → ClassId) (a0 : Nat) (w : FW) (r : Int32) (hF : F_X2_wetness a0 w = some r) : fSpec l D cy yX2_wetness cX2_wetness 1 (some .int) { frames := 0, cells := 0, slots := 0, locals := 0 } [.ref a0] w w (some (.int r)) := by
  refine f_begin (by decide +kernel) (Nat.le_of_ble_eq_true rfl) (fun X hC hEn => ?_)
  unfold F_X2_wetness at hF
  show fAt X 0 0 1 w [(0, .ref a0)] [] 0
  refine f_aload_n hC dX2_wetness_0 rfl 0 rfl ?_
  obtain ⟨g1, hF⟩ := fg_open hF
  refine f_getR hC 2 6 206 rfl (by decide) iX2 q_193 rfl rfl (fSm.k (fSm.rf w) g1) dX2_wetness_1 ?_
  obtain ⟨g2, hF⟩ := fg_open hF
  refine f_getIN hC 0 2 2 rfl (by decide) iX0 q_154 rfl rfl (fSm.k (fSm.rf w) g2) dX2_wetness_4 ?_
  refine f_aload_n hC dX2_wetness_7 rfl 0 rfl ?_
  refine f_getR hC 2 7 207 rfl (by decide) iX2 q_196 rfl rfl (fSm.k (fSm.rf w) g1) dX2_wetness_8 ?_
  obtain ⟨g3, hF⟩ := fg_open hF
  refine f_getIN hC 0 2 2 rfl (by decide) iX0 q_154 rfl rfl (fSm.k (fSm.rf w) g3) dX2_wetness_11 ?_
  refine f_iadd hC dX2_wetness_14 ?_
  obtain rfl := Option.some.inj hF
  exact f_iret hC hEn (fSm.rf w) dX2_wetness_15
theorem dX2_holesLeft_0 : decode cX2_holesLeft 0 = .ok (.aload_n 0, 1) := by decide +kernel
theorem dX2_holesLeft_1 : decode cX2_holesLeft 1 = .ok (.getfield 38, 3) := by decide +kernel
theorem dX2_holesLeft_4 : decode cX2_holesLeft 4 = .ok (.aload_n 0, 1) := by decide +kernel
theorem dX2_holesLeft_5 : decode cX2_holesLeft 5 = .ok (.getfield 12, 3) := by decide +kernel
theorem dX2_holesLeft_8 : decode cX2_holesLeft 8 = .ok (.aload_n 0, 1) := by decide +kernel
theorem dX2_holesLeft_9 : decode cX2_holesLeft 9 = .ok (.getfield 38, 3) := by decide +kernel
theorem dX2_holesLeft_12 : decode cX2_holesLeft 12 = .ok (.getfield 63, 3) := by decide +kernel
theorem dX2_holesLeft_15 : decode cX2_holesLeft 15 = .ok (.invokevirtual 66, 3) := by decide +kernel
theorem dX2_holesLeft_18 : decode cX2_holesLeft 18 = .ok (.aload_n 0, 1) := by decide +kernel
theorem dX2_holesLeft_19 : decode cX2_holesLeft 19 = .ok (.getfield 42, 3) := by decide +kernel
theorem dX2_holesLeft_22 : decode cX2_holesLeft 22 = .ok (.aload_n 0, 1) := by decide +kernel
theorem dX2_holesLeft_23 : decode cX2_holesLeft 23 = .ok (.getfield 12, 3) := by decide +kernel
theorem dX2_holesLeft_26 : decode cX2_holesLeft 26 = .ok (.aload_n 0, 1) := by decide +kernel
theorem dX2_holesLeft_27 : decode cX2_holesLeft 27 = .ok (.getfield 42, 3) := by decide +kernel
theorem dX2_holesLeft_30 : decode cX2_holesLeft 30 = .ok (.getfield 63, 3) := by decide +kernel
theorem dX2_holesLeft_33 : decode cX2_holesLeft 33 = .ok (.invokevirtual 66, 3) := by decide +kernel
theorem dX2_holesLeft_36 : decode cX2_holesLeft 36 = .ok (.iadd, 1) := by decide +kernel
theorem dX2_holesLeft_37 : decode cX2_holesLeft 37 = .ok (.ireturn, 1) := by decide +kernel
theorem h9_X2_holesLeft : yX2_holesLeft.cls ≠ "java/lang/invoke/MethodHandle" ∧ yX2_holesLeft.cls ≠ "java/lang/invoke/VarHandle" ∧ (parseMethodDescriptor yX2_holesLeft.desc).map (fun d => d.parameters.length) = some 0 := by decide +kernel
noncomputable def F_X2_holesLeft (a0 : Nat) (w : FW) : Option (Int32) :=
  fg (w.1 a0 = 3) inferInstance (fg (w.1 (gR w 206 a0 0) = 1) inferInstance ((F_X0_holesWhenWet (gR w 206 a0 0) (gR w 200 a0 0) (gI w 2 (gR w 206 a0 0) 0) w).bind (fun r3 => fg (w.1 (gR w 207 a0 0) = 1) inferInstance ((F_X0_holesWhenWet (gR w 207 a0 0) (gR w 200 a0 0) (gI w 2 (gR w 207 a0 0) 0) w).bind (fun r7 => some (r3 + r7))))))
set_option maxHeartbeats 4000000 in
set_option maxRecDepth 100000 in
theorem c_X2_holesLeft (l : Launch) (D : va_G) (cy : Nat → ClassId) (a0 : Nat) (w : FW) (r : Int32) (hF : F_X2_holesLeft a0 w = some r) : fSpec l D cy yX2_holesLeft cX2_holesLeft 1 (some .int) { frames := 3, cells := 0, slots := 0, locals := 66 } [.ref a0] w w (some (.int r)) := by
  refine f_begin (by decide +kernel) (Nat.le_of_ble_eq_true rfl) (fun X hC hEn => ?_)
  unfold F_X2_holesLeft at hF
  show fAt X 0 0 1 w [(0, .ref a0)] [] 0
  refine f_aload_n hC dX2_holesLeft_0 rfl 0 rfl ?_
  obtain ⟨g1, hF⟩ := fg_open hF
  refine f_getR hC 2 6 206 rfl (by decide) iX2 q_193 rfl rfl (fSm.k (fSm.rf w) g1) dX2_holesLeft_1 ?_
  refine f_aload_n hC dX2_holesLeft_4 rfl 0 rfl ?_
  refine f_getR hC 2 0 200 rfl (by decide) iX2 q_175 rfl rfl (fSm.k (fSm.rf w) g1) dX2_holesLeft_5 ?_
  refine f_aload_n hC dX2_holesLeft_8 rfl 0 rfl ?_
  refine f_getR hC 2 6 206 rfl (by decide) iX2 q_193 rfl rfl (fSm.k (fSm.rf w) g1) dX2_holesLeft_9 ?_
  obtain ⟨g2, hF⟩ := fg_open hF
  refine f_getIN hC 0 2 2 rfl (by decide) iX0 q_154 rfl rfl (fSm.k (fSm.rf w) g2) dX2_holesLeft_12 ?_
  obtain ⟨r3, h4, hF⟩ := fb_open hF
  refine f_callVN hC [.ref (gR w 200 a0 0), .int (gI w 2 (gR w 206 a0 0) 0)] (c_X0_holesWhenWet l D cy (gR w 206 a0 0) (gR w 200 a0 0) (gI w 2 (gR w 206 a0 0) 0) w r3 h4) q_429 q_77 q_626 q_428 q_4 h9_X0_holesWhenWet rfl (fSm.k (fSm.rf w) g2) ⟨Nat.le_of_ble_eq_true rfl, Nat.le_of_ble_eq_true rfl⟩ ⟨Nat.le_of_ble_eq_true rfl, Nat.le_of_ble_eq_true rfl⟩ (Nat.le_of_ble_eq_true rfl) rfl dX2_holesLeft_15 (fun e5 => ?_)
  refine f_aload_n hC dX2_holesLeft_18 rfl 0 rfl ?_
  refine f_getR hC 2 7 207 rfl (by decide) iX2 q_196 rfl rfl (fSm.k (fSm.rf w) g1) dX2_holesLeft_19 ?_
  refine f_aload_n hC dX2_holesLeft_22 rfl 0 rfl ?_
  refine f_getR hC 2 0 200 rfl (by decide) iX2 q_175 rfl rfl (fSm.k (fSm.rf w) g1) dX2_holesLeft_23 ?_
  refine f_aload_n hC dX2_holesLeft_26 rfl 0 rfl ?_
  refine f_getR hC 2 7 207 rfl (by decide) iX2 q_196 rfl rfl (fSm.k (fSm.rf w) g1) dX2_holesLeft_27 ?_
  obtain ⟨g6, hF⟩ := fg_open hF
  refine f_getIN hC 0 2 2 rfl (by decide) iX0 q_154 rfl rfl (fSm.k (fSm.rf w) g6) dX2_holesLeft_30 ?_
  obtain ⟨r7, h8, hF⟩ := fb_open hF
  refine f_callVN hC [.ref (gR w 200 a0 0), .int (gI w 2 (gR w 207 a0 0) 0)] (c_X0_holesWhenWet l D cy (gR w 207 a0 0) (gR w 200 a0 0) (gI w 2 (gR w 207 a0 0) 0) w r7 h8) q_429 q_77 q_626 q_428 q_4 h9_X0_holesWhenWet rfl (fSm.k (fSm.rf w) g6) ⟨Nat.le_of_ble_eq_true rfl, Nat.le_of_ble_eq_true rfl⟩ ⟨Nat.le_of_ble_eq_true rfl, Nat.le_of_ble_eq_true rfl⟩ (Nat.le_of_ble_eq_true rfl) rfl dX2_holesLeft_33 (fun e9 => ?_)
  refine f_iadd hC dX2_holesLeft_36 ?_
  obtain rfl := Option.some.inj hF
  exact f_iret hC hEn (fSm.rf w) dX2_holesLeft_37
theorem dX2_measured_0 : decode cX2_measured 0 = .ok (.iload_n 1, 1) := by decide +kernel
theorem dX2_measured_1 : decode cX2_measured 1 = .ok (.lookupswitch 37 #[(0, 27), (1, 32)], 27) := by decide +kernel
theorem dX2_measured_28 : decode cX2_measured 28 = .ok (.aload_n 0, 1) := by decide +kernel
theorem dX2_measured_29 : decode cX2_measured 29 = .ok (.invokevirtual 70, 3) := by decide +kernel
theorem dX2_measured_32 : decode cX2_measured 32 = .ok (.ireturn, 1) := by decide +kernel
theorem dX2_measured_33 : decode cX2_measured 33 = .ok (.aload_n 0, 1) := by decide +kernel
theorem dX2_measured_34 : decode cX2_measured 34 = .ok (.invokevirtual 73, 3) := by decide +kernel
theorem dX2_measured_37 : decode cX2_measured 37 = .ok (.ireturn, 1) := by decide +kernel
theorem dX2_measured_38 : decode cX2_measured 38 = .ok (.aload_n 0, 1) := by decide +kernel
theorem dX2_measured_39 : decode cX2_measured 39 = .ok (.getfield 12, 3) := by decide +kernel
theorem dX2_measured_42 : decode cX2_measured 42 = .ok (.getfield 76, 3) := by decide +kernel
theorem dX2_measured_45 : decode cX2_measured 45 = .ok (.ireturn, 1) := by decide +kernel
theorem h9_X2_measured : yX2_measured.cls ≠ "java/lang/invoke/MethodHandle" ∧ yX2_measured.cls ≠ "java/lang/invoke/VarHandle" ∧ (parseMethodDescriptor yX2_measured.desc).map (fun d => d.parameters.length) = some 1 := by decide +kernel
noncomputable def F_X2_measured (a0 : Nat) (x1 : Int32) (w : FW) : Option (Int32) :=
  (if x1 = 0 then fg (w.1 a0 = 3) inferInstance ((F_X2_wetness a0 w).bind (fun r2 => some r2)) else (if x1 = 1 then fg (w.1 a0 = 3) inferInstance ((F_X2_holesLeft a0 w).bind (fun r7 => some r7)) else fg (w.1 a0 = 3) inferInstance (fg (w.1 (gR w 200 a0 0) = 4) inferInstance (some (gI w 301 (gR w 200 a0 0) 0)))))
set_option maxHeartbeats 4000000 in
set_option maxRecDepth 100000 in
theorem c_X2_measured (l : Launch) (D : va_G) (cy : Nat → ClassId) (a0 : Nat) (x1 : Int32) (w : FW) (r : Int32) (hF : F_X2_measured a0 x1 w = some r) : fSpec l D cy yX2_measured cX2_measured 2 (some .int) { frames := 4, cells := 0, slots := 0, locals := 86 } [.ref a0, .int x1] w w (some (.int r)) := by
  refine f_begin (by decide +kernel) (Nat.le_of_ble_eq_true rfl) (fun X hC hEn => ?_)
  unfold F_X2_measured at hF
  show fAt X 0 0 2 w [(0, .ref a0), (1, .int x1)] [] 0
  refine f_iload_n hC dX2_measured_0 rfl 1 rfl ?_
  by_cases c1 : x1 = 0
  · replace hF := fi_pos hF c1
    refine f_look hC 28 dX2_measured_1 (by decide) (by rw [c1] <;> decide) (by decide) ?_
    refine f_aload_n hC dX2_measured_28 rfl 0 rfl ?_
    obtain ⟨g4, hF⟩ := fg_open hF
    obtain ⟨r2, h3, hF⟩ := fb_open hF
    refine f_callV hC [] (c_X2_wetness l D cy a0 w r2 h3) q_1332 q_76 q_1329 q_1331 q_66 h9_X2_wetness rfl (fSm.k (fSm.rf w) g4) ⟨Nat.le_of_ble_eq_true rfl, Nat.le_of_ble_eq_true rfl⟩ ⟨Nat.le_of_ble_eq_true rfl, Nat.le_of_ble_eq_true rfl⟩ (Nat.le_of_ble_eq_true rfl) rfl dX2_measured_29 (fun e5 => ?_)
    obtain rfl := Option.some.inj hF
    exact f_iret hC hEn (fSm.rf w) dX2_measured_32
  · replace hF := fi_neg hF c1
    by_cases c6 : x1 = 1
    · replace hF := fi_pos hF c6
      refine f_look hC 33 dX2_measured_1 (by decide) (by rw [c6] <;> decide) (by decide) ?_
      refine f_aload_n hC dX2_measured_33 rfl 0 rfl ?_
      obtain ⟨g9, hF⟩ := fg_open hF
      obtain ⟨r7, h8, hF⟩ := fb_open hF
      refine f_callV hC [] (c_X2_holesLeft l D cy a0 w r7 h8) q_625 q_76 q_1333 q_624 q_19 h9_X2_holesLeft rfl (fSm.k (fSm.rf w) g9) ⟨Nat.le_of_ble_eq_true rfl, Nat.le_of_ble_eq_true rfl⟩ ⟨Nat.le_of_ble_eq_true rfl, Nat.le_of_ble_eq_true rfl⟩ (Nat.le_of_ble_eq_true rfl) rfl dX2_measured_34 (fun e10 => ?_)
      obtain rfl := Option.some.inj hF
      exact f_iret hC hEn (fSm.rf w) dX2_measured_37
    · replace hF := fi_neg hF c6
      refine f_look (off := 37) hC 38 dX2_measured_1 (by decide) (flook (List.forall_mem_cons.mpr ⟨c1, (List.forall_mem_cons.mpr ⟨c6, (fun _ h => absurd h List.not_mem_nil)⟩)⟩)) (by decide) ?_
      refine f_aload_n hC dX2_measured_38 rfl 0 rfl ?_
      obtain ⟨g11, hF⟩ := fg_open hF
      refine f_getR hC 2 0 200 rfl (by decide) iX2 q_175 rfl rfl (fSm.k (fSm.rf w) g11) dX2_measured_39 ?_
      obtain ⟨g12, hF⟩ := fg_open hF
      refine f_getIN hC 3 1 301 rfl (by decide) iX3 q_126 rfl rfl (fSm.k (fSm.rf w) g12) dX2_measured_42 ?_
      obtain rfl := Option.some.inj hF
      exact f_iret hC hEn (fSm.rf w) dX2_measured_45
theorem dX1_ticketsAhead_0 : decode cX1_ticketsAhead 0 = .ok (.aload_n 0, 1) := by decide +kernel
theorem dX1_ticketsAhead_1 : decode cX1_ticketsAhead 1 = .ok (.getfield 11, 3) := by decide +kernel
theorem dX1_ticketsAhead_4 : decode cX1_ticketsAhead 4 = .ok (.iload_n 2, 1) := by decide +kernel
theorem dX1_ticketsAhead_5 : decode cX1_ticketsAhead 5 = .ok (.aaload, 1) := by decide +kernel
theorem dX1_ticketsAhead_6 : decode cX1_ticketsAhead 6 = .ok (.iload_n 1, 1) := by decide +kernel
theorem dX1_ticketsAhead_7 : decode cX1_ticketsAhead 7 = .ok (.invokevirtual 102, 3) := by decide +kernel
theorem dX1_ticketsAhead_10 : decode cX1_ticketsAhead 10 = .ok (.istore_n 3, 1) := by decide +kernel
theorem dX1_ticketsAhead_11 : decode cX1_ticketsAhead 11 = .ok (.iconst 0, 1) := by decide +kernel
theorem dX1_ticketsAhead_12 : decode cX1_ticketsAhead 12 = .ok (.istore 4, 2) := by decide +kernel
theorem dX1_ticketsAhead_14 : decode cX1_ticketsAhead 14 = .ok (.iconst 0, 1) := by decide +kernel
theorem dX1_ticketsAhead_15 : decode cX1_ticketsAhead 15 = .ok (.istore 5, 2) := by decide +kernel
theorem dX1_ticketsAhead_17 : decode cX1_ticketsAhead 17 = .ok (.iload 5, 2) := by decide +kernel
theorem dX1_ticketsAhead_19 : decode cX1_ticketsAhead 19 = .ok (.aload_n 0, 1) := by decide +kernel
theorem dX1_ticketsAhead_20 : decode cX1_ticketsAhead 20 = .ok (.getfield 17, 3) := by decide +kernel
theorem dX1_ticketsAhead_23 : decode cX1_ticketsAhead 23 = .ok (.if_icmp .ge 43, 3) := by decide +kernel
theorem dX1_ticketsAhead_26 : decode cX1_ticketsAhead 26 = .ok (.aload_n 0, 1) := by decide +kernel
theorem dX1_ticketsAhead_27 : decode cX1_ticketsAhead 27 = .ok (.getfield 11, 3) := by decide +kernel
theorem dX1_ticketsAhead_30 : decode cX1_ticketsAhead 30 = .ok (.iload 5, 2) := by decide +kernel
theorem dX1_ticketsAhead_32 : decode cX1_ticketsAhead 32 = .ok (.aaload, 1) := by decide +kernel
theorem dX1_ticketsAhead_33 : decode cX1_ticketsAhead 33 = .ok (.iload_n 1, 1) := by decide +kernel
theorem dX1_ticketsAhead_34 : decode cX1_ticketsAhead 34 = .ok (.invokevirtual 102, 3) := by decide +kernel
theorem dX1_ticketsAhead_37 : decode cX1_ticketsAhead 37 = .ok (.istore 6, 2) := by decide +kernel
theorem dX1_ticketsAhead_39 : decode cX1_ticketsAhead 39 = .ok (.iload 6, 2) := by decide +kernel
theorem dX1_ticketsAhead_41 : decode cX1_ticketsAhead 41 = .ok (.iload_n 3, 1) := by decide +kernel
theorem dX1_ticketsAhead_42 : decode cX1_ticketsAhead 42 = .ok (.if_icmp .gt 15, 3) := by decide +kernel
theorem dX1_ticketsAhead_45 : decode cX1_ticketsAhead 45 = .ok (.iload 6, 2) := by decide +kernel
theorem dX1_ticketsAhead_47 : decode cX1_ticketsAhead 47 = .ok (.iload_n 3, 1) := by decide +kernel
theorem dX1_ticketsAhead_48 : decode cX1_ticketsAhead 48 = .ok (.if_icmp .ne 12, 3) := by decide +kernel
theorem dX1_ticketsAhead_51 : decode cX1_ticketsAhead 51 = .ok (.iload 5, 2) := by decide +kernel
theorem dX1_ticketsAhead_53 : decode cX1_ticketsAhead 53 = .ok (.iload_n 2, 1) := by decide +kernel
theorem dX1_ticketsAhead_54 : decode cX1_ticketsAhead 54 = .ok (.if_icmp .ge 6, 3) := by decide +kernel
theorem dX1_ticketsAhead_57 : decode cX1_ticketsAhead 57 = .ok (.iinc 4 1, 3) := by decide +kernel
theorem dX1_ticketsAhead_60 : decode cX1_ticketsAhead 60 = .ok (.iinc 5 1, 3) := by decide +kernel
theorem dX1_ticketsAhead_63 : decode cX1_ticketsAhead 63 = .ok (.goto (-46), 3) := by decide +kernel
theorem dX1_ticketsAhead_66 : decode cX1_ticketsAhead 66 = .ok (.iload 4, 2) := by decide +kernel
theorem dX1_ticketsAhead_68 : decode cX1_ticketsAhead 68 = .ok (.ireturn, 1) := by decide +kernel
theorem h9_X1_ticketsAhead : yX1_ticketsAhead.cls ≠ "java/lang/invoke/MethodHandle" ∧ yX1_ticketsAhead.cls ≠ "java/lang/invoke/VarHandle" ∧ (parseMethodDescriptor yX1_ticketsAhead.desc).map (fun d => d.parameters.length) = some 2 := by decide +kernel
noncomputable def F_X1_ticketsAhead (a0 : Nat) (x1 : Int32) (x2 : Int32) (w : FW) : Option (Int32) :=
  fg (w.1 a0 = 2) inferInstance (fg (w.1 (gR w 100 a0 0) = 14) inferInstance (fg (¬ (x2 < 0 ∨ w.2.1 (gR w 100 a0 0) ≤ Int32.toNatClampNeg x2)) inferInstance (fg (w.1 (gR w 604 (gR w 100 a0 0) (Int32.toNatClampNeg x2)) = 3) inferInstance ((F_X2_measured (gR w 604 (gR w 100 a0 0) (Int32.toNatClampNeg x2)) x1 w).bind (fun r4 => (fLoop (σ := Int32 × Int32) (ρ := Int32) (fun s8 => (if (gI w 101 a0 0) ≤ s8.2 then some (.inr s8.1) else fg (¬ (s8.2 < 0 ∨ w.2.1 (gR w 100 a0 0) ≤ Int32.toNatClampNeg s8.2)) inferInstance (fg (w.1 (gR w 604 (gR w 100 a0 0) (Int32.toNatClampNeg s8.2)) = 3) inferInstance ((F_X2_measured (gR w 604 (gR w 100 a0 0) (Int32.toNatClampNeg s8.2)) x1 w).bind (fun r19 => (if r4 < r19 then some (.inl ((s8.1 + 1), (s8.2 + 1))) else (if r19 = r4 then (if x2 ≤ s8.2 then some (.inl (s8.1, (s8.2 + 1))) else some (.inl ((s8.1 + 1), (s8.2 + 1)))) else some (.inl (s8.1, (s8.2 + 1)))))))))) (0, 0)).bind (fun x14 => some x14))))))
set_option maxHeartbeats 4000000 in
set_option maxRecDepth 100000 in
theorem c_X1_ticketsAhead (l : Launch) (D : va_G) (cy : Nat → ClassId) (a0 : Nat) (x1 : Int32) (x2 : Int32) (w : FW) (r : Int32) (hF : F_X1_ticketsAhead a0 x1 x2 w = some r) : fSpec l D cy yX1_ticketsAhead cX1_ticketsAhead 7 (some .int) { frames := 5, cells := 0, slots := 0, locals := 107 } [.ref a0, .int x1, .int x2] w w (some (.int r)) := by
  refine f_begin (by decide +kernel) (Nat.le_of_ble_eq_true rfl) (fun X hC hEn => ?_)
  unfold F_X1_ticketsAhead at hF
  show fAt X 0 0 7 w [(0, .ref a0), (1, .int x1), (2, .int x2)] [] 0
  refine f_aload_n hC dX1_ticketsAhead_0 rfl 0 rfl ?_
  obtain ⟨g1, hF⟩ := fg_open hF
  refine f_getR hC 1 0 100 rfl (by decide) iX1 q_216 rfl rfl (fSm.k (fSm.rf w) g1) dX1_ticketsAhead_1 ?_
  refine f_iload_n hC dX1_ticketsAhead_4 rfl 2 rfl ?_
  obtain ⟨g2, hF⟩ := fg_open hF
  obtain ⟨g3, hF⟩ := fg_open hF
  refine f_aald1 hC (fSm.k (fSm.rf w) g2) (fSm.v (fSm.rf w) g3) dX1_ticketsAhead_5 ?_
  refine f_iload_n hC dX1_ticketsAhead_6 rfl 1 rfl ?_
  obtain ⟨g6, hF⟩ := fg_open hF
  obtain ⟨r4, h5, hF⟩ := fb_open hF
  refine f_callVN hC [.int x1] (c_X2_measured l D cy (gR w 604 (gR w 100 a0 0) (Int32.toNatClampNeg x2)) x1 w r4 h5) q_1328 q_76 q_1325 q_1327 q_65 h9_X2_measured rfl (fSm.k (fSm.rf w) g6) ⟨Nat.le_of_ble_eq_true rfl, Nat.le_of_ble_eq_true rfl⟩ ⟨Nat.le_of_ble_eq_true rfl, Nat.le_of_ble_eq_true rfl⟩ (Nat.le_of_ble_eq_true rfl) rfl dX1_ticketsAhead_7 (fun e7 => ?_)
  refine f_istore_n (L' := [(3, .int r4), (0, .ref a0), (1, .int x1), (2, .int x2)]) hC dX1_ticketsAhead_10 rfl (by decide) rfl ?_
  refine f_iconst (v := 0) hC dX1_ticketsAhead_11 (by decide) ?_
  refine f_istore (L' := [(4, .int 0), (3, .int r4), (0, .ref a0), (1, .int x1), (2, .int x2)]) hC dX1_ticketsAhead_12 (by decide) rfl ?_
  refine f_iconst (v := 0) hC dX1_ticketsAhead_14 (by decide) ?_
  refine f_istore (L' := [(5, .int 0), (4, .int 0), (3, .int r4), (0, .ref a0), (1, .int x1), (2, .int x2)]) hC dX1_ticketsAhead_15 (by decide) rfl ?_
  obtain ⟨x14, h15, hF⟩ := fb_open hF
  have K16 : fAt X 0 0 7 w [(4, .int x14)] [] 66 := by
    refine f_iload hC dX1_ticketsAhead_66 0 rfl ?_
    obtain rfl := Option.some.inj hF
    exact f_iret hC hEn (fSm.rf w) dX1_ticketsAhead_68
  refine f_sub (L' := [(0, .ref a0), (1, .int x1), (2, .int x2), (3, .int r4), (4, .int 0), (5, .int 0)]) [3, 4, 5, 2, 1, 0] rfl ?_
  refine fLoop_ind (fun (s8 : Int32 × Int32) => fAt X 0 0 7 w [(0, .ref a0), (1, .int x1), (2, .int x2), (3, .int r4), (4, .int s8.1), (5, .int s8.2)] [] 17) (fun s8 y13 h9 go10 ou11 => ?_) h15
  refine f_iload hC dX1_ticketsAhead_17 5 rfl ?_
  refine f_aload_n hC dX1_ticketsAhead_19 rfl 0 rfl ?_
  refine f_getI hC 1 1 101 rfl (by decide) iX1 q_218 rfl rfl (fSm.k (fSm.rf w) g1) dX1_ticketsAhead_20 ?_
  refine f_icmp_ge hC 66 dX1_ticketsAhead_23 (by decide) (fun c17 => ?_) (fun c17 => ?_)
  · replace h9 := fi_pos h9 c17
    obtain rfl := Option.some.inj h9
    obtain rfl := ou11 _ rfl
    refine f_sub (L' := [(4, .int s8.1)]) [4] rfl ?_
    exact K16
  · replace h9 := fi_neg h9 c17
    refine f_aload_n hC dX1_ticketsAhead_26 rfl 0 rfl ?_
    refine f_getR hC 1 0 100 rfl (by decide) iX1 q_216 rfl rfl (fSm.k (fSm.rf w) g1) dX1_ticketsAhead_27 ?_
    refine f_iload hC dX1_ticketsAhead_30 5 rfl ?_
    obtain ⟨g18, h9⟩ := fg_open h9
    refine f_aald1 hC (fSm.k (fSm.rf w) g2) (fSm.v (fSm.rf w) g18) dX1_ticketsAhead_32 ?_
    refine f_iload_n hC dX1_ticketsAhead_33 rfl 1 rfl ?_
    obtain ⟨g21, h9⟩ := fg_open h9
    obtain ⟨r19, h20, h9⟩ := fb_open h9
    refine f_callVN hC [.int x1] (c_X2_measured l D cy (gR w 604 (gR w 100 a0 0) (Int32.toNatClampNeg s8.2)) x1 w r19 h20) q_1328 q_76 q_1325 q_1327 q_65 h9_X2_measured rfl (fSm.k (fSm.rf w) g21) ⟨Nat.le_of_ble_eq_true rfl, Nat.le_of_ble_eq_true rfl⟩ ⟨Nat.le_of_ble_eq_true rfl, Nat.le_of_ble_eq_true rfl⟩ (Nat.le_of_ble_eq_true rfl) rfl dX1_ticketsAhead_34 (fun e22 => ?_)
    refine f_istore (L' := [(6, .int r19), (0, .ref a0), (1, .int x1), (2, .int x2), (3, .int r4), (4, .int s8.1), (5, .int s8.2)]) hC dX1_ticketsAhead_37 (by decide) rfl ?_
    refine f_iload hC dX1_ticketsAhead_39 0 rfl ?_
    refine f_iload_n hC dX1_ticketsAhead_41 rfl 4 rfl ?_
    refine f_icmp_gt hC 57 dX1_ticketsAhead_42 (by decide) (fun c23 => ?_) (fun c23 => ?_)
    · replace h9 := fi_pos h9 c23
      refine f_iinc (L' := [(4, .int (s8.1 + 1)), (6, .int r19), (0, .ref a0), (1, .int x1), (2, .int x2), (3, .int r4), (5, .int s8.2)]) hC dX1_ticketsAhead_57 5 rfl rfl (by decide) rfl ?_
      refine f_iinc (L' := [(5, .int (s8.2 + 1)), (4, .int (s8.1 + 1)), (6, .int r19), (0, .ref a0), (1, .int x1), (2, .int x2), (3, .int r4)]) hC dX1_ticketsAhead_60 6 rfl rfl (by decide) rfl ?_
      refine f_goto hC 17 dX1_ticketsAhead_63 (by decide) ?_
      obtain rfl := Option.some.inj h9
      refine f_sub (L' := [(0, .ref a0), (1, .int x1), (2, .int x2), (3, .int r4), (4, .int (s8.1 + 1)), (5, .int (s8.2 + 1))]) [3, 4, 5, 6, 1, 0] rfl ?_
      exact go10 _ rfl
    · replace h9 := fi_neg h9 c23
      refine f_iload hC dX1_ticketsAhead_45 0 rfl ?_
      refine f_iload_n hC dX1_ticketsAhead_47 rfl 4 rfl ?_
      refine f_icmp_ne hC 60 dX1_ticketsAhead_48 (by decide) (fun c24 => ?_) (fun c24 => ?_)
      · replace h9 := fi_neg h9 c24
        refine f_iinc (L' := [(5, .int (s8.2 + 1)), (6, .int r19), (0, .ref a0), (1, .int x1), (2, .int x2), (3, .int r4), (4, .int s8.1)]) hC dX1_ticketsAhead_60 6 rfl rfl (by decide) rfl ?_
        refine f_goto hC 17 dX1_ticketsAhead_63 (by decide) ?_
        obtain rfl := Option.some.inj h9
        refine f_sub (L' := [(0, .ref a0), (1, .int x1), (2, .int x2), (3, .int r4), (4, .int s8.1), (5, .int (s8.2 + 1))]) [2, 3, 4, 5, 6, 0] rfl ?_
        exact go10 _ rfl
      · replace h9 := fi_pos h9 c24
        refine f_iload hC dX1_ticketsAhead_51 6 rfl ?_
        refine f_iload_n hC dX1_ticketsAhead_53 rfl 3 rfl ?_
        refine f_icmp_ge hC 60 dX1_ticketsAhead_54 (by decide) (fun c25 => ?_) (fun c25 => ?_)
        · replace h9 := fi_pos h9 c25
          refine f_iinc (L' := [(5, .int (s8.2 + 1)), (6, .int r19), (0, .ref a0), (1, .int x1), (2, .int x2), (3, .int r4), (4, .int s8.1)]) hC dX1_ticketsAhead_60 6 rfl rfl (by decide) rfl ?_
          refine f_goto hC 17 dX1_ticketsAhead_63 (by decide) ?_
          obtain rfl := Option.some.inj h9
          refine f_sub (L' := [(0, .ref a0), (1, .int x1), (2, .int x2), (3, .int r4), (4, .int s8.1), (5, .int (s8.2 + 1))]) [2, 3, 4, 5, 6, 0] rfl ?_
          exact go10 _ rfl
        · replace h9 := fi_neg h9 c25
          refine f_iinc (L' := [(4, .int (s8.1 + 1)), (6, .int r19), (0, .ref a0), (1, .int x1), (2, .int x2), (3, .int r4), (5, .int s8.2)]) hC dX1_ticketsAhead_57 5 rfl rfl (by decide) rfl ?_
          refine f_iinc (L' := [(5, .int (s8.2 + 1)), (4, .int (s8.1 + 1)), (6, .int r19), (0, .ref a0), (1, .int x1), (2, .int x2), (3, .int r4)]) hC dX1_ticketsAhead_60 6 rfl rfl (by decide) rfl ?_
          refine f_goto hC 17 dX1_ticketsAhead_63 (by decide) ?_
          obtain rfl := Option.some.inj h9
          refine f_sub (L' := [(0, .ref a0), (1, .int x1), (2, .int x2), (3, .int r4), (4, .int (s8.1 + 1)), (5, .int (s8.2 + 1))]) [3, 4, 5, 6, 1, 0] rfl ?_
          exact go10 _ rfl
theorem dX4_ranked_0 : decode cX4_ranked 0 = .ok (.iload_n 1, 1) := by decide +kernel
theorem dX4_ranked_1 : decode cX4_ranked 1 = .ok (.ifCond .lt 8, 3) := by decide +kernel
theorem dX4_ranked_4 : decode cX4_ranked 4 = .ok (.iload_n 1, 1) := by decide +kernel
theorem dX4_ranked_5 : decode cX4_ranked 5 = .ok (.iconst 2, 1) := by decide +kernel
theorem dX4_ranked_6 : decode cX4_ranked 6 = .ok (.if_icmp .le 14, 3) := by decide +kernel
theorem dX4_ranked_9 : decode cX4_ranked 9 = .ok (.new 142, 3) := by decide +kernel
theorem dX4_ranked_12 : decode cX4_ranked 12 = .ok (.dup, 1) := by decide +kernel
theorem dX4_ranked_13 : decode cX4_ranked 13 = .ok (.ldc_w 290, 3) := by decide +kernel
theorem dX4_ranked_16 : decode cX4_ranked 16 = .ok (.invokespecial 146, 3) := by decide +kernel
theorem dX4_ranked_19 : decode cX4_ranked 19 = .ok (.athrow, 1) := by decide +kernel
theorem dX4_ranked_20 : decode cX4_ranked 20 = .ok (.iconst 0, 1) := by decide +kernel
theorem dX4_ranked_21 : decode cX4_ranked 21 = .ok (.istore_n 3, 1) := by decide +kernel
theorem dX4_ranked_22 : decode cX4_ranked 22 = .ok (.iload_n 3, 1) := by decide +kernel
theorem dX4_ranked_23 : decode cX4_ranked 23 = .ok (.aload_n 0, 1) := by decide +kernel
theorem dX4_ranked_24 : decode cX4_ranked 24 = .ok (.getfield 12, 3) := by decide +kernel
theorem dX4_ranked_27 : decode cX4_ranked 27 = .ok (.getfield 66, 3) := by decide +kernel
theorem dX4_ranked_30 : decode cX4_ranked 30 = .ok (.if_icmp .ge 24, 3) := by decide +kernel
theorem dX4_ranked_33 : decode cX4_ranked 33 = .ok (.aload_n 0, 1) := by decide +kernel
theorem dX4_ranked_34 : decode cX4_ranked 34 = .ok (.getfield 12, 3) := by decide +kernel
theorem dX4_ranked_37 : decode cX4_ranked 37 = .ok (.iload_n 1, 1) := by decide +kernel
theorem dX4_ranked_38 : decode cX4_ranked 38 = .ok (.iload_n 3, 1) := by decide +kernel
theorem dX4_ranked_39 : decode cX4_ranked 39 = .ok (.invokevirtual 292, 3) := by decide +kernel
theorem dX4_ranked_42 : decode cX4_ranked 42 = .ok (.iload_n 2, 1) := by decide +kernel
theorem dX4_ranked_43 : decode cX4_ranked 43 = .ok (.if_icmp .ne 5, 3) := by decide +kernel
theorem dX4_ranked_46 : decode cX4_ranked 46 = .ok (.iload_n 3, 1) := by decide +kernel
theorem dX4_ranked_47 : decode cX4_ranked 47 = .ok (.ireturn, 1) := by decide +kernel
theorem dX4_ranked_48 : decode cX4_ranked 48 = .ok (.iinc 3 1, 3) := by decide +kernel
theorem dX4_ranked_51 : decode cX4_ranked 51 = .ok (.goto (-29), 3) := by decide +kernel
theorem dX4_ranked_54 : decode cX4_ranked 54 = .ok (.new 153, 3) := by decide +kernel
theorem dX4_ranked_57 : decode cX4_ranked 57 = .ok (.dup, 1) := by decide +kernel
theorem dX4_ranked_58 : decode cX4_ranked 58 = .ok (.ldc_w 295, 3) := by decide +kernel
theorem dX4_ranked_61 : decode cX4_ranked 61 = .ok (.invokespecial 157, 3) := by decide +kernel
theorem dX4_ranked_64 : decode cX4_ranked 64 = .ok (.athrow, 1) := by decide +kernel
theorem h9_X4_ranked : yX4_ranked.cls ≠ "java/lang/invoke/MethodHandle" ∧ yX4_ranked.cls ≠ "java/lang/invoke/VarHandle" ∧ (parseMethodDescriptor yX4_ranked.desc).map (fun d => d.parameters.length) = some 2 := by decide +kernel
noncomputable def F_X4_ranked (a0 : Nat) (x1 : Int32) (x2 : Int32) (w : FW) : Option (Int32 ⊕ Nat) :=
  (if x1 < 0 then some (.inr 1) else (if x1 ≤ 2 then (fLoop (σ := Int32) (ρ := (Unit) ⊕ (Int32 ⊕ Nat)) (fun s3 => fg (w.1 a0 = 5) inferInstance (fg (w.1 (gR w 400 a0 0) = 2) inferInstance ((if (gI w 101 (gR w 400 a0 0) 0) ≤ s3 then some (.inr (.inl ())) else (F_X1_ticketsAhead (gR w 400 a0 0) x1 s3 w).bind (fun r15 => (if r15 = x2 then some (.inr (.inr (.inl s3))) else some (.inl (s3 + 1)))))))) 0).bind (fun x9 => fse x9 (fun z19 => some (.inr 5)) (fun q9 => some q9)) else some (.inr 1)))
set_option maxHeartbeats 4000000 in
set_option maxRecDepth 100000 in
theorem c_X4_ranked (l : Launch) (D : va_G) (cy : Nat → ClassId) (a0 : Nat) (x1 : Int32) (x2 : Int32) (w : FW) (r : Int32 ⊕ Nat) (hF : F_X4_ranked a0 x1 x2 w = some r) : fSpecX l D cy yX4_ranked cX4_ranked 4 (some .int) { frames := 6, cells := 1, slots := 6, locals := 133 } [.ref a0, .int x1, .int x2] w w (fOI r) := by
  refine f_beginX (by decide +kernel) (Nat.le_of_ble_eq_true rfl) (fun X hC hEn => ?_)
  have hst := f_st hC hEn
  unfold F_X4_ranked at hF
  show fAt X 0 0 4 w [(0, .ref a0), (1, .int x1), (2, .int x2)] [] 0
  refine f_iload_n hC dX4_ranked_0 rfl 1 rfl ?_
  refine f_if_lt hC 9 dX4_ranked_1 (by decide) (fun c1 => ?_) (fun c1 => ?_)
  · replace hF := fi_pos hF c1
    obtain rfl := Option.some.inj hF
    exact f_throwSW hC hEn (fSm.rf w) 45 rfl xf_1 xn_1 q_497 q_81 rfl xa_RX4_146 xg_RX4_142_146 dX4_ranked_9 dX4_ranked_12 dX4_ranked_13 dX4_ranked_16 dX4_ranked_19 (Nat.le_of_ble_eq_true rfl) (Nat.le_of_ble_eq_true rfl) (Nat.le_of_ble_eq_true rfl) (Nat.le_of_ble_eq_true rfl) (Nat.le_of_ble_eq_true rfl) (Nat.le_of_ble_eq_true rfl)
  · replace hF := fi_neg hF c1
    refine f_iload_n hC dX4_ranked_4 rfl 1 rfl ?_
    refine f_iconst (v := 2) hC dX4_ranked_5 (by decide) ?_
    refine f_icmp_le hC 20 dX4_ranked_6 (by decide) (fun c2 => ?_) (fun c2 => ?_)
    · replace hF := fi_pos hF c2
      refine f_iconst (v := 0) hC dX4_ranked_20 (by decide) ?_
      refine f_istore_n (L' := [(3, .int 0), (0, .ref a0), (1, .int x1), (2, .int x2)]) hC dX4_ranked_21 rfl (by decide) rfl ?_
      obtain ⟨x9, h10, hF⟩ := fb_open hF
      have K11 : ∀ z19, x9 = .inl z19 → fAt X 0 0 4 w [] [] 54 := by
        intro z19 hz9
        subst hz9
        obtain rfl := Option.some.inj hF
        exact f_throwXSW hC hEn (fSm.rf w) 46 rfl xf_5 xy_5 xn_5 ns_0 ns_1 ns_2 ns_5 q_525 q_89 rfl xa_RX4_157 xg_RX4_153_157 dX4_ranked_54 dX4_ranked_57 dX4_ranked_58 dX4_ranked_61 dX4_ranked_64 (Nat.le_of_ble_eq_true rfl) (Nat.le_of_ble_eq_true rfl) (Nat.le_of_ble_eq_true rfl) (Nat.le_of_ble_eq_true rfl) (Nat.le_of_ble_eq_true rfl) (Nat.le_of_ble_eq_true rfl)
      refine f_sub (L' := [(0, .ref a0), (1, .int x1), (2, .int x2), (3, .int 0)]) [1, 2, 3, 0] rfl ?_
      refine fLoop_ind (fun (s3 : Int32) => fAt X 0 0 4 w [(0, .ref a0), (1, .int x1), (2, .int x2), (3, .int s3)] [] 22) (fun s3 y8 h4 go5 ou6 => ?_) h10
      refine f_iload_n hC dX4_ranked_22 rfl 3 rfl ?_
      refine f_aload_n hC dX4_ranked_23 rfl 0 rfl ?_
      obtain ⟨g12, h4⟩ := fg_open h4
      refine f_getR hC 4 0 400 rfl (by decide) iX4 q_260 rfl rfl (fSm.k (fSm.rf w) g12) dX4_ranked_24 ?_
      obtain ⟨g13, h4⟩ := fg_open h4
      refine f_getIN hC 1 1 101 rfl (by decide) iX1 q_219 rfl rfl (fSm.k (fSm.rf w) g13) dX4_ranked_27 ?_
      refine f_icmp_ge hC 54 dX4_ranked_30 (by decide) (fun c14 => ?_) (fun c14 => ?_)
      · replace h4 := fi_pos h4 c14
        obtain rfl := Option.some.inj h4
        have eo := ou6 _ rfl
        refine f_sub (L' := []) [] rfl ?_
        exact K11 _ eo.symm
      · replace h4 := fi_neg h4 c14
        refine f_aload_n hC dX4_ranked_33 rfl 0 rfl ?_
        refine f_getR hC 4 0 400 rfl (by decide) iX4 q_260 rfl rfl (fSm.k (fSm.rf w) g12) dX4_ranked_34 ?_
        refine f_iload_n hC dX4_ranked_37 rfl 1 rfl ?_
        refine f_iload_n hC dX4_ranked_38 rfl 3 rfl ?_
        obtain ⟨r15, h16, h4⟩ := fb_open h4
        refine f_callVN hC [.int x1, .int s3] (c_X1_ticketsAhead l D cy (gR w 400 a0 0) x1 s3 w r15 h16) q_1324 q_74 q_1321 q_1323 q_64 h9_X1_ticketsAhead rfl (fSm.k (fSm.rf w) g13) ⟨Nat.le_of_ble_eq_true rfl, Nat.le_of_ble_eq_true rfl⟩ ⟨Nat.le_of_ble_eq_true rfl, Nat.le_of_ble_eq_true rfl⟩ (Nat.le_of_ble_eq_true rfl) rfl dX4_ranked_39 (fun e17 => ?_)
        refine f_iload_n hC dX4_ranked_42 rfl 2 rfl ?_
        refine f_icmp_ne hC 48 dX4_ranked_43 (by decide) (fun c18 => ?_) (fun c18 => ?_)
        · replace h4 := fi_neg h4 c18
          refine f_iinc (L' := [(3, .int (s3 + 1)), (0, .ref a0), (1, .int x1), (2, .int x2)]) hC dX4_ranked_48 3 rfl rfl (by decide) rfl ?_
          refine f_goto hC 22 dX4_ranked_51 (by decide) ?_
          obtain rfl := Option.some.inj h4
          refine f_sub (L' := [(0, .ref a0), (1, .int x1), (2, .int x2), (3, .int (s3 + 1))]) [1, 2, 3, 0] rfl ?_
          exact go5 _ rfl
        · replace h4 := fi_pos h4 c18
          refine f_iload_n hC dX4_ranked_46 rfl 3 rfl ?_
          obtain rfl := Option.some.inj h4
          obtain rfl := ou6 _ rfl
          obtain rfl := Option.some.inj hF
          refine f_widen (k' := 1) (s' := 6) (Nat.le_of_ble_eq_true rfl) (Nat.le_of_ble_eq_true rfl) ?_
          exact f_iretX hC hEn (fSm.rf w) dX4_ranked_47
    · replace hF := fi_neg hF c2
      obtain rfl := Option.some.inj hF
      exact f_throwSW hC hEn (fSm.rf w) 45 rfl xf_1 xn_1 q_497 q_81 rfl xa_RX4_146 xg_RX4_142_146 dX4_ranked_9 dX4_ranked_12 dX4_ranked_13 dX4_ranked_16 dX4_ranked_19 (Nat.le_of_ble_eq_true rfl) (Nat.le_of_ble_eq_true rfl) (Nat.le_of_ble_eq_true rfl) (Nat.le_of_ble_eq_true rfl) (Nat.le_of_ble_eq_true rfl) (Nat.le_of_ble_eq_true rfl)
theorem dX0_isReadRightly_0 : decode cX0_isReadRightly 0 = .ok (.aload_n 0, 1) := by decide +kernel
theorem dX0_isReadRightly_1 : decode cX0_isReadRightly 1 = .ok (.getfield 9, 3) := by decide +kernel
theorem dX0_isReadRightly_4 : decode cX0_isReadRightly 4 = .ok (.ifCond .eq 16, 3) := by decide +kernel
theorem dX0_isReadRightly_7 : decode cX0_isReadRightly 7 = .ok (.aload_n 0, 1) := by decide +kernel
theorem dX0_isReadRightly_8 : decode cX0_isReadRightly 8 = .ok (.aload_n 1, 1) := by decide +kernel
theorem dX0_isReadRightly_9 : decode cX0_isReadRightly 9 = .ok (.invokevirtual 71, 3) := by decide +kernel
theorem dX0_isReadRightly_12 : decode cX0_isReadRightly 12 = .ok (.iconst (-1), 1) := by decide +kernel
theorem dX0_isReadRightly_13 : decode cX0_isReadRightly 13 = .ok (.if_icmp .ne 7, 3) := by decide +kernel
theorem dX0_isReadRightly_16 : decode cX0_isReadRightly 16 = .ok (.iconst 1, 1) := by decide +kernel
theorem dX0_isReadRightly_17 : decode cX0_isReadRightly 17 = .ok (.goto 4, 3) := by decide +kernel
theorem dX0_isReadRightly_20 : decode cX0_isReadRightly 20 = .ok (.iconst 0, 1) := by decide +kernel
theorem dX0_isReadRightly_21 : decode cX0_isReadRightly 21 = .ok (.ireturn, 1) := by decide +kernel
theorem h9_X0_isReadRightly : yX0_isReadRightly.cls ≠ "java/lang/invoke/MethodHandle" ∧ yX0_isReadRightly.cls ≠ "java/lang/invoke/VarHandle" ∧ (parseMethodDescriptor yX0_isReadRightly.desc).map (fun d => d.parameters.length) = some 1 := by decide +kernel
noncomputable def F_X0_isReadRightly (a0 : Nat) (a1 : Nat) (w : FW) : Option (Int32) :=
  fg (w.1 a0 = 1) inferInstance ((if (gI w 0 a0 0) = 0 then some 0 else (F_X0_firstWrongPlace a0 a1 w).bind (fun r3 => (if r3 = (-1) then some 1 else some 0))))
set_option maxHeartbeats 4000000 in
set_option maxRecDepth 100000 in
theorem c_X0_isReadRightly (l : Launch) (D : va_G) (cy : Nat → ClassId) (a0 : Nat) (a1 : Nat) (w : FW) (r : Int32) (hF : F_X0_isReadRightly a0 a1 w = some r) : fSpec l D cy yX0_isReadRightly cX0_isReadRightly 2 (some .boolean) { frames := 6, cells := 0, slots := 0, locals := 133 } [.ref a0, .ref a1] w w (some (.int r)) := by
  refine f_begin (by decide +kernel) (Nat.le_of_ble_eq_true rfl) (fun X hC hEn => ?_)
  unfold F_X0_isReadRightly at hF
  show fAt X 0 0 2 w [(0, .ref a0), (1, .ref a1)] [] 0
  refine f_aload_n hC dX0_isReadRightly_0 rfl 0 rfl ?_
  obtain ⟨g1, hF⟩ := fg_open hF
  refine f_getI hC 0 0 0 rfl (by decide) iX0 q_146 rfl rfl (fSm.k (fSm.rf w) g1) dX0_isReadRightly_1 ?_
  refine f_if_eq hC 20 dX0_isReadRightly_4 (by decide) (fun c2 => ?_) (fun c2 => ?_)
  · replace hF := fi_pos hF c2
    refine f_iconst (v := 0) hC dX0_isReadRightly_20 (by decide) ?_
    obtain rfl := Option.some.inj hF
    exact f_zret hC hEn (fSm.rf w) (nar_z (by decide)) dX0_isReadRightly_21
  · replace hF := fi_neg hF c2
    refine f_aload_n hC dX0_isReadRightly_7 rfl 0 rfl ?_
    refine f_aload_n hC dX0_isReadRightly_8 rfl 1 rfl ?_
    obtain ⟨r3, h4, hF⟩ := fb_open hF
    refine f_callV hC [.ref a1] (c_X0_firstWrongPlace l D cy a0 a1 w r3 h4) q_570 q_77 q_1402 q_569 q_13 h9_X0_firstWrongPlace rfl (fSm.k (fSm.rf w) g1) ⟨Nat.le_of_ble_eq_true rfl, Nat.le_of_ble_eq_true rfl⟩ ⟨Nat.le_of_ble_eq_true rfl, Nat.le_of_ble_eq_true rfl⟩ (Nat.le_of_ble_eq_true rfl) rfl dX0_isReadRightly_9 (fun e5 => ?_)
    refine f_iconst (v := (-1)) hC dX0_isReadRightly_12 (by decide) ?_
    refine f_icmp_ne hC 20 dX0_isReadRightly_13 (by decide) (fun c6 => ?_) (fun c6 => ?_)
    · replace hF := fi_neg hF c6
      refine f_iconst (v := 0) hC dX0_isReadRightly_20 (by decide) ?_
      obtain rfl := Option.some.inj hF
      exact f_zret hC hEn (fSm.rf w) (nar_z (by decide)) dX0_isReadRightly_21
    · replace hF := fi_pos hF c6
      refine f_iconst (v := 1) hC dX0_isReadRightly_16 (by decide) ?_
      refine f_goto hC 21 dX0_isReadRightly_17 (by decide) ?_
      obtain rfl := Option.some.inj hF
      exact f_zret hC hEn (fSm.rf w) (nar_z (by decide)) dX0_isReadRightly_21
theorem dX0_isRightWhileDry_0 : decode cX0_isRightWhileDry 0 = .ok (.aload_n 0, 1) := by decide +kernel
theorem dX0_isRightWhileDry_1 : decode cX0_isRightWhileDry 1 = .ok (.getfield 9, 3) := by decide +kernel
theorem dX0_isRightWhileDry_4 : decode cX0_isRightWhileDry 4 = .ok (.ifCond .eq 19, 3) := by decide +kernel
theorem dX0_isRightWhileDry_7 : decode cX0_isRightWhileDry 7 = .ok (.aload_n 0, 1) := by decide +kernel
theorem dX0_isRightWhileDry_8 : decode cX0_isRightWhileDry 8 = .ok (.getfield 19, 3) := by decide +kernel
theorem dX0_isRightWhileDry_11 : decode cX0_isRightWhileDry 11 = .ok (.iconst 3, 1) := by decide +kernel
theorem dX0_isRightWhileDry_12 : decode cX0_isRightWhileDry 12 = .ok (.if_icmp .ge 11, 3) := by decide +kernel
theorem dX0_isRightWhileDry_15 : decode cX0_isRightWhileDry 15 = .ok (.aload_n 0, 1) := by decide +kernel
theorem dX0_isRightWhileDry_16 : decode cX0_isRightWhileDry 16 = .ok (.aload_n 1, 1) := by decide +kernel
theorem dX0_isRightWhileDry_17 : decode cX0_isRightWhileDry 17 = .ok (.invokevirtual 75, 3) := by decide +kernel
theorem dX0_isRightWhileDry_20 : decode cX0_isRightWhileDry 20 = .ok (.ifCond .eq 7, 3) := by decide +kernel
theorem dX0_isRightWhileDry_23 : decode cX0_isRightWhileDry 23 = .ok (.iconst 1, 1) := by decide +kernel
theorem dX0_isRightWhileDry_24 : decode cX0_isRightWhileDry 24 = .ok (.goto 4, 3) := by decide +kernel
theorem dX0_isRightWhileDry_27 : decode cX0_isRightWhileDry 27 = .ok (.iconst 0, 1) := by decide +kernel
theorem dX0_isRightWhileDry_28 : decode cX0_isRightWhileDry 28 = .ok (.ireturn, 1) := by decide +kernel
theorem h9_X0_isRightWhileDry : yX0_isRightWhileDry.cls ≠ "java/lang/invoke/MethodHandle" ∧ yX0_isRightWhileDry.cls ≠ "java/lang/invoke/VarHandle" ∧ (parseMethodDescriptor yX0_isRightWhileDry.desc).map (fun d => d.parameters.length) = some 1 := by decide +kernel
noncomputable def F_X0_isRightWhileDry (a0 : Nat) (a1 : Nat) (w : FW) : Option (Int32) :=
  fg (w.1 a0 = 1) inferInstance ((if (gI w 0 a0 0) = 0 then some 1 else (if 3 ≤ (gI w 2 a0 0) then some 1 else (F_X0_isReadRightly a0 a1 w).bind (fun r4 => (if r4 = 0 then some 0 else some 1)))))
set_option maxHeartbeats 4000000 in
set_option maxRecDepth 100000 in
theorem c_X0_isRightWhileDry (l : Launch) (D : va_G) (cy : Nat → ClassId) (a0 : Nat) (a1 : Nat) (w : FW) (r : Int32) (hF : F_X0_isRightWhileDry a0 a1 w = some r) : fSpec l D cy yX0_isRightWhileDry cX0_isRightWhileDry 2 (some .boolean) { frames := 7, cells := 0, slots := 0, locals := 154 } [.ref a0, .ref a1] w w (some (.int r)) := by
  refine f_begin (by decide +kernel) (Nat.le_of_ble_eq_true rfl) (fun X hC hEn => ?_)
  unfold F_X0_isRightWhileDry at hF
  show fAt X 0 0 2 w [(0, .ref a0), (1, .ref a1)] [] 0
  refine f_aload_n hC dX0_isRightWhileDry_0 rfl 0 rfl ?_
  obtain ⟨g1, hF⟩ := fg_open hF
  refine f_getI hC 0 0 0 rfl (by decide) iX0 q_146 rfl rfl (fSm.k (fSm.rf w) g1) dX0_isRightWhileDry_1 ?_
  refine f_if_eq hC 23 dX0_isRightWhileDry_4 (by decide) (fun c2 => ?_) (fun c2 => ?_)
  · replace hF := fi_pos hF c2
    refine f_iconst (v := 1) hC dX0_isRightWhileDry_23 (by decide) ?_
    refine f_goto hC 28 dX0_isRightWhileDry_24 (by decide) ?_
    obtain rfl := Option.some.inj hF
    exact f_zret hC hEn (fSm.rf w) (nar_z (by decide)) dX0_isRightWhileDry_28
  · replace hF := fi_neg hF c2
    refine f_aload_n hC dX0_isRightWhileDry_7 rfl 0 rfl ?_
    refine f_getI hC 0 2 2 rfl (by decide) iX0 q_153 rfl rfl (fSm.k (fSm.rf w) g1) dX0_isRightWhileDry_8 ?_
    refine f_iconst (v := 3) hC dX0_isRightWhileDry_11 (by decide) ?_
    refine f_icmp_ge hC 23 dX0_isRightWhileDry_12 (by decide) (fun c3 => ?_) (fun c3 => ?_)
    · replace hF := fi_pos hF c3
      refine f_iconst (v := 1) hC dX0_isRightWhileDry_23 (by decide) ?_
      refine f_goto hC 28 dX0_isRightWhileDry_24 (by decide) ?_
      obtain rfl := Option.some.inj hF
      exact f_zret hC hEn (fSm.rf w) (nar_z (by decide)) dX0_isRightWhileDry_28
    · replace hF := fi_neg hF c3
      refine f_aload_n hC dX0_isRightWhileDry_15 rfl 0 rfl ?_
      refine f_aload_n hC dX0_isRightWhileDry_16 rfl 1 rfl ?_
      obtain ⟨r4, h5, hF⟩ := fb_open hF
      refine f_callV hC [.ref a1] (c_X0_isReadRightly l D cy a0 a1 w r4 h5) q_1401 q_77 q_1411 q_1400 q_70 h9_X0_isReadRightly rfl (fSm.k (fSm.rf w) g1) ⟨Nat.le_of_ble_eq_true rfl, Nat.le_of_ble_eq_true rfl⟩ ⟨Nat.le_of_ble_eq_true rfl, Nat.le_of_ble_eq_true rfl⟩ (Nat.le_of_ble_eq_true rfl) rfl dX0_isRightWhileDry_17 (fun e6 => ?_)
      refine f_if_eq hC 27 dX0_isRightWhileDry_20 (by decide) (fun c7 => ?_) (fun c7 => ?_)
      · replace hF := fi_pos hF c7
        refine f_iconst (v := 0) hC dX0_isRightWhileDry_27 (by decide) ?_
        obtain rfl := Option.some.inj hF
        exact f_zret hC hEn (fSm.rf w) (nar_z (by decide)) dX0_isRightWhileDry_28
      · replace hF := fi_neg hF c7
        refine f_iconst (v := 1) hC dX0_isRightWhileDry_23 (by decide) ?_
        refine f_goto hC 28 dX0_isRightWhileDry_24 (by decide) ?_
        obtain rfl := Option.some.inj hF
        exact f_zret hC hEn (fSm.rf w) (nar_z (by decide)) dX0_isRightWhileDry_28
theorem dX4_isRight_0 : decode cX4_isRight 0 = .ok (.iconst 0, 1) := by decide +kernel
theorem dX4_isRight_1 : decode cX4_isRight 1 = .ok (.istore_n 1, 1) := by decide +kernel
theorem dX4_isRight_2 : decode cX4_isRight 2 = .ok (.iload_n 1, 1) := by decide +kernel
theorem dX4_isRight_3 : decode cX4_isRight 3 = .ok (.aload_n 0, 1) := by decide +kernel
theorem dX4_isRight_4 : decode cX4_isRight 4 = .ok (.getfield 12, 3) := by decide +kernel
theorem dX4_isRight_7 : decode cX4_isRight 7 = .ok (.getfield 66, 3) := by decide +kernel
theorem dX4_isRight_10 : decode cX4_isRight 10 = .ok (.if_icmp .ge 88, 3) := by decide +kernel
theorem dX4_isRight_13 : decode cX4_isRight 13 = .ok (.aload_n 0, 1) := by decide +kernel
theorem dX4_isRight_14 : decode cX4_isRight 14 = .ok (.getfield 12, 3) := by decide +kernel
theorem dX4_isRight_17 : decode cX4_isRight 17 = .ok (.getfield 235, 3) := by decide +kernel
theorem dX4_isRight_20 : decode cX4_isRight 20 = .ok (.iload_n 1, 1) := by decide +kernel
theorem dX4_isRight_21 : decode cX4_isRight 21 = .ok (.aaload, 1) := by decide +kernel
theorem dX4_isRight_22 : decode cX4_isRight 22 = .ok (.astore_n 2, 1) := by decide +kernel
theorem dX4_isRight_23 : decode cX4_isRight 23 = .ok (.aload_n 2, 1) := by decide +kernel
theorem dX4_isRight_24 : decode cX4_isRight 24 = .ok (.invokevirtual 225, 3) := by decide +kernel
theorem dX4_isRight_27 : decode cX4_isRight 27 = .ok (.aload_n 2, 1) := by decide +kernel
theorem dX4_isRight_28 : decode cX4_isRight 28 = .ok (.invokevirtual 221, 3) := by decide +kernel
theorem dX4_isRight_31 : decode cX4_isRight 31 = .ok (.if_icmp .eq 5, 3) := by decide +kernel
theorem dX4_isRight_34 : decode cX4_isRight 34 = .ok (.iconst 0, 1) := by decide +kernel
theorem dX4_isRight_35 : decode cX4_isRight 35 = .ok (.ireturn, 1) := by decide +kernel
theorem dX4_isRight_36 : decode cX4_isRight 36 = .ok (.aload_n 2, 1) := by decide +kernel
theorem dX4_isRight_37 : decode cX4_isRight 37 = .ok (.getfield 262, 3) := by decide +kernel
theorem dX4_isRight_40 : decode cX4_isRight 40 = .ok (.aload_n 2, 1) := by decide +kernel
theorem dX4_isRight_41 : decode cX4_isRight 41 = .ok (.getfield 119, 3) := by decide +kernel
theorem dX4_isRight_44 : decode cX4_isRight 44 = .ok (.invokevirtual 297, 3) := by decide +kernel
theorem dX4_isRight_47 : decode cX4_isRight 47 = .ok (.ifCond .eq 17, 3) := by decide +kernel
theorem dX4_isRight_50 : decode cX4_isRight 50 = .ok (.aload_n 2, 1) := by decide +kernel
theorem dX4_isRight_51 : decode cX4_isRight 51 = .ok (.getfield 300, 3) := by decide +kernel
theorem dX4_isRight_54 : decode cX4_isRight 54 = .ok (.aload_n 2, 1) := by decide +kernel
theorem dX4_isRight_55 : decode cX4_isRight 55 = .ok (.getfield 119, 3) := by decide +kernel
theorem dX4_isRight_58 : decode cX4_isRight 58 = .ok (.invokevirtual 297, 3) := by decide +kernel
theorem dX4_isRight_61 : decode cX4_isRight 61 = .ok (.ifCond .ne 5, 3) := by decide +kernel
theorem dX4_isRight_64 : decode cX4_isRight 64 = .ok (.iconst 0, 1) := by decide +kernel
theorem dX4_isRight_65 : decode cX4_isRight 65 = .ok (.ireturn, 1) := by decide +kernel
theorem dX4_isRight_66 : decode cX4_isRight 66 = .ok (.aload_n 2, 1) := by decide +kernel
theorem dX4_isRight_67 : decode cX4_isRight 67 = .ok (.getfield 136, 3) := by decide +kernel
theorem dX4_isRight_70 : decode cX4_isRight 70 = .ok (.ifCond .ne 22, 3) := by decide +kernel
theorem dX4_isRight_73 : decode cX4_isRight 73 = .ok (.aload_n 2, 1) := by decide +kernel
theorem dX4_isRight_74 : decode cX4_isRight 74 = .ok (.getfield 262, 3) := by decide +kernel
theorem dX4_isRight_77 : decode cX4_isRight 77 = .ok (.getfield 201, 3) := by decide +kernel
theorem dX4_isRight_80 : decode cX4_isRight 80 = .ok (.aload_n 2, 1) := by decide +kernel
theorem dX4_isRight_81 : decode cX4_isRight 81 = .ok (.getfield 300, 3) := by decide +kernel
theorem dX4_isRight_84 : decode cX4_isRight 84 = .ok (.getfield 201, 3) := by decide +kernel
theorem dX4_isRight_87 : decode cX4_isRight 87 = .ok (.if_icmp .eq 5, 3) := by decide +kernel
theorem dX4_isRight_90 : decode cX4_isRight 90 = .ok (.iconst 0, 1) := by decide +kernel
theorem dX4_isRight_91 : decode cX4_isRight 91 = .ok (.ireturn, 1) := by decide +kernel
theorem dX4_isRight_92 : decode cX4_isRight 92 = .ok (.iinc 1 1, 3) := by decide +kernel
theorem dX4_isRight_95 : decode cX4_isRight 95 = .ok (.goto (-93), 3) := by decide +kernel
theorem dX4_isRight_98 : decode cX4_isRight 98 = .ok (.iconst 1, 1) := by decide +kernel
theorem dX4_isRight_99 : decode cX4_isRight 99 = .ok (.ireturn, 1) := by decide +kernel
theorem h9_X4_isRight : yX4_isRight.cls ≠ "java/lang/invoke/MethodHandle" ∧ yX4_isRight.cls ≠ "java/lang/invoke/VarHandle" ∧ (parseMethodDescriptor yX4_isRight.desc).map (fun d => d.parameters.length) = some 0 := by decide +kernel
noncomputable def F_X4_isRight (a0 : Nat) (w : FW) : Option (Int32) :=
  (fLoop (σ := Int32) (ρ := (Unit) ⊕ (Int32)) (fun s1 => fg (w.1 a0 = 5) inferInstance (fg (w.1 (gR w 400 a0 0) = 2) inferInstance ((if (gI w 101 (gR w 400 a0 0) 0) ≤ s1 then some (.inr (.inl ())) else fg (w.1 (gR w 100 (gR w 400 a0 0) 0) = 14) inferInstance (fg (¬ (s1 < 0 ∨ w.2.1 (gR w 100 (gR w 400 a0 0) 0) ≤ Int32.toNatClampNeg s1)) inferInstance (fg (w.1 (gR w 604 (gR w 100 (gR w 400 a0 0) 0) (Int32.toNatClampNeg s1)) = 3) inferInstance ((F_X2_isSameByReading (gR w 604 (gR w 100 (gR w 400 a0 0) 0) (Int32.toNatClampNeg s1)) w).bind (fun r15 => (F_X2_isSameByHoles (gR w 604 (gR w 100 (gR w 400 a0 0) 0) (Int32.toNatClampNeg s1)) w).bind (fun r19 => (if r15 = r19 then fg (w.1 (gR w 206 (gR w 604 (gR w 100 (gR w 400 a0 0) 0) (Int32.toNatClampNeg s1)) 0) = 1) inferInstance ((F_X0_isRightWhileDry (gR w 206 (gR w 604 (gR w 100 (gR w 400 a0 0) 0) (Int32.toNatClampNeg s1)) 0) (gR w 200 (gR w 604 (gR w 100 (gR w 400 a0 0) 0) (Int32.toNatClampNeg s1)) 0) w).bind (fun r23 => (if r23 = 0 then some (.inr (.inr 0)) else fg (w.1 (gR w 207 (gR w 604 (gR w 100 (gR w 400 a0 0) 0) (Int32.toNatClampNeg s1)) 0) = 1) inferInstance ((F_X0_isRightWhileDry (gR w 207 (gR w 604 (gR w 100 (gR w 400 a0 0) 0) (Int32.toNatClampNeg s1)) 0) (gR w 200 (gR w 604 (gR w 100 (gR w 400 a0 0) 0) (Int32.toNatClampNeg s1)) 0) w).bind (fun r28 => (if r28 = 0 then some (.inr (.inr 0)) else (if (gI w 204 (gR w 604 (gR w 100 (gR w 400 a0 0) 0) (Int32.toNatClampNeg s1)) 0) = 0 then (if (gI w 3 (gR w 206 (gR w 604 (gR w 100 (gR w 400 a0 0) 0) (Int32.toNatClampNeg s1)) 0) 0) = (gI w 3 (gR w 207 (gR w 604 (gR w 100 (gR w 400 a0 0) 0) (Int32.toNatClampNeg s1)) 0) 0) then some (.inl (s1 + 1)) else some (.inr (.inr 0))) else some (.inl (s1 + 1))))))))) else some (.inr (.inr 0)))))))))))) 0).bind (fun x7 => fse x7 (fun z35 => some 1) (fun q9 => some q9))
set_option maxHeartbeats 4000000 in
set_option maxRecDepth 100000 in
theorem c_X4_isRight (l : Launch) (D : va_G) (cy : Nat → ClassId) (a0 : Nat) (w : FW) (r : Int32) (hF : F_X4_isRight a0 w = some r) : fSpec l D cy yX4_isRight cX4_isRight 3 (some .boolean) { frames := 8, cells := 0, slots := 0, locals := 175 } [.ref a0] w w (some (.int r)) := by
  refine f_begin (by decide +kernel) (Nat.le_of_ble_eq_true rfl) (fun X hC hEn => ?_)
  unfold F_X4_isRight at hF
  show fAt X 0 0 3 w [(0, .ref a0)] [] 0
  refine f_iconst (v := 0) hC dX4_isRight_0 (by decide) ?_
  refine f_istore_n (L' := [(1, .int 0), (0, .ref a0)]) hC dX4_isRight_1 rfl (by decide) rfl ?_
  obtain ⟨x7, h8, hF⟩ := fb_open hF
  have K9 : ∀ z35, x7 = .inl z35 → fAt X 0 0 3 w [] [] 98 := by
    intro z35 hz9
    subst hz9
    refine f_iconst (v := 1) hC dX4_isRight_98 (by decide) ?_
    obtain rfl := Option.some.inj hF
    exact f_zret hC hEn (fSm.rf w) (nar_z (by decide)) dX4_isRight_99
  refine f_sub (L' := [(0, .ref a0), (1, .int 0)]) [1, 0] rfl ?_
  refine fLoop_ind (fun (s1 : Int32) => fAt X 0 0 3 w [(0, .ref a0), (1, .int s1)] [] 2) (fun s1 y6 h2 go3 ou4 => ?_) h8
  refine f_iload_n hC dX4_isRight_2 rfl 1 rfl ?_
  refine f_aload_n hC dX4_isRight_3 rfl 0 rfl ?_
  obtain ⟨g10, h2⟩ := fg_open h2
  refine f_getR hC 4 0 400 rfl (by decide) iX4 q_260 rfl rfl (fSm.k (fSm.rf w) g10) dX4_isRight_4 ?_
  obtain ⟨g11, h2⟩ := fg_open h2
  refine f_getIN hC 1 1 101 rfl (by decide) iX1 q_219 rfl rfl (fSm.k (fSm.rf w) g11) dX4_isRight_7 ?_
  refine f_icmp_ge hC 98 dX4_isRight_10 (by decide) (fun c12 => ?_) (fun c12 => ?_)
  · replace h2 := fi_pos h2 c12
    obtain rfl := Option.some.inj h2
    have eo := ou4 _ rfl
    refine f_sub (L' := []) [] rfl ?_
    exact K9 _ eo.symm
  · replace h2 := fi_neg h2 c12
    refine f_aload_n hC dX4_isRight_13 rfl 0 rfl ?_
    refine f_getR hC 4 0 400 rfl (by decide) iX4 q_260 rfl rfl (fSm.k (fSm.rf w) g10) dX4_isRight_14 ?_
    refine f_getRN hC 1 0 100 rfl (by decide) iX1 q_217 rfl rfl (fSm.k (fSm.rf w) g11) dX4_isRight_17 ?_
    refine f_iload_n hC dX4_isRight_20 rfl 1 rfl ?_
    obtain ⟨g13, h2⟩ := fg_open h2
    obtain ⟨g14, h2⟩ := fg_open h2
    refine f_aald1 hC (fSm.k (fSm.rf w) g13) (fSm.v (fSm.rf w) g14) dX4_isRight_21 ?_
    refine f_astore_n (L' := [(2, .ref (gR w 604 (gR w 100 (gR w 400 a0 0) 0) (Int32.toNatClampNeg s1))), (0, .ref a0), (1, .int s1)]) hC dX4_isRight_22 rfl (by decide) rfl ?_
    refine f_aload_n hC dX4_isRight_23 rfl 0 rfl ?_
    obtain ⟨g17, h2⟩ := fg_open h2
    obtain ⟨r15, h16, h2⟩ := fb_open h2
    refine f_callVN hC [] (c_X2_isSameByReading l D cy (gR w 604 (gR w 100 (gR w 400 a0 0) 0) (Int32.toNatClampNeg s1)) w r15 h16) q_1291 q_76 q_1288 q_1290 q_62 h9_X2_isSameByReading rfl (fSm.k (fSm.rf w) g17) ⟨Nat.le_of_ble_eq_true rfl, Nat.le_of_ble_eq_true rfl⟩ ⟨Nat.le_of_ble_eq_true rfl, Nat.le_of_ble_eq_true rfl⟩ (Nat.le_of_ble_eq_true rfl) rfl dX4_isRight_24 (fun e18 => ?_)
    refine f_aload_n hC dX4_isRight_27 rfl 0 rfl ?_
    obtain ⟨r19, h20, h2⟩ := fb_open h2
    refine f_callVN hC [] (c_X2_isSameByHoles l D cy (gR w 604 (gR w 100 (gR w 400 a0 0) 0) (Int32.toNatClampNeg s1)) w r19 h20) q_1283 q_76 q_1280 q_1282 q_61 h9_X2_isSameByHoles rfl (fSm.k (fSm.rf w) g17) ⟨Nat.le_of_ble_eq_true rfl, Nat.le_of_ble_eq_true rfl⟩ ⟨Nat.le_of_ble_eq_true rfl, Nat.le_of_ble_eq_true rfl⟩ (Nat.le_of_ble_eq_true rfl) rfl dX4_isRight_28 (fun e21 => ?_)
    refine f_icmp_eq hC 36 dX4_isRight_31 (by decide) (fun c22 => ?_) (fun c22 => ?_)
    · replace h2 := fi_pos h2 c22
      refine f_aload_n hC dX4_isRight_36 rfl 0 rfl ?_
      refine f_getRN hC 2 6 206 rfl (by decide) iX2 q_195 rfl rfl (fSm.k (fSm.rf w) g17) dX4_isRight_37 ?_
      refine f_aload_n hC dX4_isRight_40 rfl 0 rfl ?_
      refine f_getRN hC 2 0 200 rfl (by decide) iX2 q_176 rfl rfl (fSm.k (fSm.rf w) g17) dX4_isRight_41 ?_
      obtain ⟨g25, h2⟩ := fg_open h2
      obtain ⟨r23, h24, h2⟩ := fb_open h2
      refine f_callVN hC [.ref (gR w 200 (gR w 604 (gR w 100 (gR w 400 a0 0) 0) (Int32.toNatClampNeg s1)) 0)] (c_X0_isRightWhileDry l D cy (gR w 206 (gR w 604 (gR w 100 (gR w 400 a0 0) 0) (Int32.toNatClampNeg s1)) 0) (gR w 200 (gR w 604 (gR w 100 (gR w 400 a0 0) 0) (Int32.toNatClampNeg s1)) 0) w r23 h24) q_1410 q_77 q_1407 q_1409 q_71 h9_X0_isRightWhileDry rfl (fSm.k (fSm.rf w) g25) ⟨Nat.le_of_ble_eq_true rfl, Nat.le_of_ble_eq_true rfl⟩ ⟨Nat.le_of_ble_eq_true rfl, Nat.le_of_ble_eq_true rfl⟩ (Nat.le_of_ble_eq_true rfl) rfl dX4_isRight_44 (fun e26 => ?_)
      refine f_if_eq hC 64 dX4_isRight_47 (by decide) (fun c27 => ?_) (fun c27 => ?_)
      · replace h2 := fi_pos h2 c27
        refine f_iconst (v := 0) hC dX4_isRight_64 (by decide) ?_
        obtain rfl := Option.some.inj h2
        obtain rfl := ou4 _ rfl
        obtain rfl := Option.some.inj hF
        exact f_zret hC hEn (fSm.rf w) (nar_z (by decide)) dX4_isRight_65
      · replace h2 := fi_neg h2 c27
        refine f_aload_n hC dX4_isRight_50 rfl 0 rfl ?_
        refine f_getRN hC 2 7 207 rfl (by decide) iX2 q_198 rfl rfl (fSm.k (fSm.rf w) g17) dX4_isRight_51 ?_
        refine f_aload_n hC dX4_isRight_54 rfl 0 rfl ?_
        refine f_getRN hC 2 0 200 rfl (by decide) iX2 q_176 rfl rfl (fSm.k (fSm.rf w) g17) dX4_isRight_55 ?_
        obtain ⟨g30, h2⟩ := fg_open h2
        obtain ⟨r28, h29, h2⟩ := fb_open h2
        refine f_callVN hC [.ref (gR w 200 (gR w 604 (gR w 100 (gR w 400 a0 0) 0) (Int32.toNatClampNeg s1)) 0)] (c_X0_isRightWhileDry l D cy (gR w 207 (gR w 604 (gR w 100 (gR w 400 a0 0) 0) (Int32.toNatClampNeg s1)) 0) (gR w 200 (gR w 604 (gR w 100 (gR w 400 a0 0) 0) (Int32.toNatClampNeg s1)) 0) w r28 h29) q_1410 q_77 q_1407 q_1409 q_71 h9_X0_isRightWhileDry rfl (fSm.k (fSm.rf w) g30) ⟨Nat.le_of_ble_eq_true rfl, Nat.le_of_ble_eq_true rfl⟩ ⟨Nat.le_of_ble_eq_true rfl, Nat.le_of_ble_eq_true rfl⟩ (Nat.le_of_ble_eq_true rfl) rfl dX4_isRight_58 (fun e31 => ?_)
        refine f_if_ne hC 66 dX4_isRight_61 (by decide) (fun c32 => ?_) (fun c32 => ?_)
        · replace h2 := fi_neg h2 c32
          refine f_aload_n hC dX4_isRight_66 rfl 0 rfl ?_
          refine f_getIN hC 2 4 204 rfl (by decide) iX2 q_189 rfl rfl (fSm.k (fSm.rf w) g17) dX4_isRight_67 ?_
          refine f_if_ne hC 92 dX4_isRight_70 (by decide) (fun c33 => ?_) (fun c33 => ?_)
          · replace h2 := fi_neg h2 c33
            refine f_iinc (L' := [(1, .int (s1 + 1)), (2, .ref (gR w 604 (gR w 100 (gR w 400 a0 0) 0) (Int32.toNatClampNeg s1))), (0, .ref a0)]) hC dX4_isRight_92 2 rfl rfl (by decide) rfl ?_
            refine f_goto hC 2 dX4_isRight_95 (by decide) ?_
            obtain rfl := Option.some.inj h2
            refine f_sub (L' := [(0, .ref a0), (1, .int (s1 + 1))]) [2, 0] rfl ?_
            exact go3 _ rfl
          · replace h2 := fi_pos h2 c33
            refine f_aload_n hC dX4_isRight_73 rfl 0 rfl ?_
            refine f_getRN hC 2 6 206 rfl (by decide) iX2 q_195 rfl rfl (fSm.k (fSm.rf w) g17) dX4_isRight_74 ?_
            refine f_getIN hC 0 3 3 rfl (by decide) iX0 q_158 rfl rfl (fSm.k (fSm.rf w) g25) dX4_isRight_77 ?_
            refine f_aload_n hC dX4_isRight_80 rfl 0 rfl ?_
            refine f_getRN hC 2 7 207 rfl (by decide) iX2 q_198 rfl rfl (fSm.k (fSm.rf w) g17) dX4_isRight_81 ?_
            refine f_getIN hC 0 3 3 rfl (by decide) iX0 q_158 rfl rfl (fSm.k (fSm.rf w) g30) dX4_isRight_84 ?_
            refine f_icmp_eq hC 92 dX4_isRight_87 (by decide) (fun c34 => ?_) (fun c34 => ?_)
            · replace h2 := fi_pos h2 c34
              refine f_iinc (L' := [(1, .int (s1 + 1)), (2, .ref (gR w 604 (gR w 100 (gR w 400 a0 0) 0) (Int32.toNatClampNeg s1))), (0, .ref a0)]) hC dX4_isRight_92 2 rfl rfl (by decide) rfl ?_
              refine f_goto hC 2 dX4_isRight_95 (by decide) ?_
              obtain rfl := Option.some.inj h2
              refine f_sub (L' := [(0, .ref a0), (1, .int (s1 + 1))]) [2, 0] rfl ?_
              exact go3 _ rfl
            · replace h2 := fi_neg h2 c34
              refine f_iconst (v := 0) hC dX4_isRight_90 (by decide) ?_
              obtain rfl := Option.some.inj h2
              obtain rfl := ou4 _ rfl
              obtain rfl := Option.some.inj hF
              exact f_zret hC hEn (fSm.rf w) (nar_z (by decide)) dX4_isRight_91
        · replace h2 := fi_pos h2 c32
          refine f_iconst (v := 0) hC dX4_isRight_64 (by decide) ?_
          obtain rfl := Option.some.inj h2
          obtain rfl := ou4 _ rfl
          obtain rfl := Option.some.inj hF
          exact f_zret hC hEn (fSm.rf w) (nar_z (by decide)) dX4_isRight_65
    · replace h2 := fi_neg h2 c22
      refine f_iconst (v := 0) hC dX4_isRight_34 (by decide) ?_
      obtain rfl := Option.some.inj h2
      obtain rfl := ou4 _ rfl
      obtain rfl := Option.some.inj hF
      exact f_zret hC hEn (fSm.rf w) (nar_z (by decide)) dX4_isRight_35
theorem dX4_write_0 : decode cX4_write 0 = .ok (.aload_n 0, 1) := by decide +kernel
theorem dX4_write_1 : decode cX4_write 1 = .ok (.getfield 51, 3) := by decide +kernel
theorem dX4_write_4 : decode cX4_write 4 = .ok (.bipush 17, 2) := by decide +kernel
theorem dX4_write_6 : decode cX4_write 6 = .ok (.if_icmp .ge 23, 3) := by decide +kernel
theorem dX4_write_9 : decode cX4_write 9 = .ok (.aload_n 0, 1) := by decide +kernel
theorem dX4_write_10 : decode cX4_write 10 = .ok (.getfield 48, 3) := by decide +kernel
theorem dX4_write_13 : decode cX4_write 13 = .ok (.aload_n 0, 1) := by decide +kernel
theorem dX4_write_14 : decode cX4_write 14 = .ok (.getfield 51, 3) := by decide +kernel
theorem dX4_write_17 : decode cX4_write 17 = .ok (.iload_n 1, 1) := by decide +kernel
theorem dX4_write_18 : decode cX4_write 18 = .ok (.castore, 1) := by decide +kernel
theorem dX4_write_19 : decode cX4_write 19 = .ok (.aload_n 0, 1) := by decide +kernel
theorem dX4_write_20 : decode cX4_write 20 = .ok (.dup, 1) := by decide +kernel
theorem dX4_write_21 : decode cX4_write 21 = .ok (.getfield 51, 3) := by decide +kernel
theorem dX4_write_24 : decode cX4_write 24 = .ok (.iconst 1, 1) := by decide +kernel
theorem dX4_write_25 : decode cX4_write 25 = .ok (.iadd, 1) := by decide +kernel
theorem dX4_write_26 : decode cX4_write 26 = .ok (.putfield 51, 3) := by decide +kernel
theorem dX4_write_29 : decode cX4_write 29 = .ok (.return_, 1) := by decide +kernel
theorem h9_X4_write : yX4_write.cls ≠ "java/lang/invoke/MethodHandle" ∧ yX4_write.cls ≠ "java/lang/invoke/VarHandle" ∧ (parseMethodDescriptor yX4_write.desc).map (fun d => d.parameters.length) = some 1 := by decide +kernel
noncomputable def F_X4_write (a0 : Nat) (x1 : Int32) (w : FW) : Option (FW) :=
  fg (w.1 a0 = 5) inferInstance ((if 17 ≤ (gI w 410 a0 0) then some w else fg (w.1 (gR w 409 a0 0) = 10) inferInstance (fg (¬ ((gI w 410 a0 0) < 0 ∨ w.2.1 (gR w 409 a0 0) ≤ Int32.toNatClampNeg (gI w 410 a0 0))) inferInstance (fg (fch x1 = x1) inferInstance (some (sI (sI w 600 (gR w 409 a0 0) (Int32.toNatClampNeg (gI w 410 a0 0)) x1) 410 a0 0 ((gI (sI w 600 (gR w 409 a0 0) (Int32.toNatClampNeg (gI w 410 a0 0)) x1) 410 a0 0) + 1)))))))
set_option maxHeartbeats 4000000 in
set_option maxRecDepth 100000 in
theorem c_X4_write (l : Launch) (D : va_G) (cy : Nat → ClassId) (a0 : Nat) (x1 : Int32) (w : FW) (r : FW) (hF : F_X4_write a0 x1 w = some r) : fSpec l D cy yX4_write cX4_write 2 none { frames := 0, cells := 0, slots := 0, locals := 0 } [.ref a0, .int x1] w r none := by
  refine f_begin (by decide +kernel) (Nat.le_of_ble_eq_true rfl) (fun X hC hEn => ?_)
  unfold F_X4_write at hF
  show fAt X 0 0 2 w [(0, .ref a0), (1, .int x1)] [] 0
  refine f_aload_n hC dX4_write_0 rfl 0 rfl ?_
  obtain ⟨g1, hF⟩ := fg_open hF
  refine f_getI hC 4 10 410 rfl (by decide) iX4 q_270 rfl rfl (fSm.k (fSm.rf w) g1) dX4_write_1 ?_
  refine f_bipush (v := 17) hC dX4_write_4 (by decide) ?_
  refine f_icmp_ge hC 29 dX4_write_6 (by decide) (fun c2 => ?_) (fun c2 => ?_)
  · replace hF := fi_pos hF c2
    obtain rfl := Option.some.inj hF
    exact f_vret hC hEn (fSm.rf w) dX4_write_29
  · replace hF := fi_neg hF c2
    refine f_aload_n hC dX4_write_9 rfl 0 rfl ?_
    refine f_getR hC 4 9 409 rfl (by decide) iX4 q_269 rfl rfl (fSm.k (fSm.rf w) g1) dX4_write_10 ?_
    refine f_aload_n hC dX4_write_13 rfl 0 rfl ?_
    refine f_getI hC 4 10 410 rfl (by decide) iX4 q_270 rfl rfl (fSm.k (fSm.rf w) g1) dX4_write_14 ?_
    refine f_iload_n hC dX4_write_17 rfl 1 rfl ?_
    obtain ⟨g3, hF⟩ := fg_open hF
    obtain ⟨g4, hF⟩ := fg_open hF
    obtain ⟨g5, hF⟩ := fg_open hF
    refine f_cast hC g5 (fSm.k (fSm.rf w) g3) (fSm.v (fSm.rf w) g4) dX4_write_18 ?_
    refine f_aload_n hC dX4_write_19 rfl 0 rfl ?_
    refine f_dup hC dX4_write_20 rfl ?_
    refine f_getI hC 4 10 410 rfl (by decide) iX4 q_270 rfl rfl (fSm.k (fSm.rf w) g1) dX4_write_21 ?_
    refine f_iconst (v := 1) hC dX4_write_24 (by decide) ?_
    refine f_iadd hC dX4_write_25 ?_
    refine f_putI hC 4 10 410 rfl (by decide) iX4 tyX4 tyX4_ok nmX4 q_270 rfl rfl rfl rfl rfl (fSm.k (fSm.rf w) g1) dX4_write_26 ?_
    obtain rfl := Option.some.inj hF
    exact f_vret hC hEn (fSm.rf w) dX4_write_29
theorem dX4_writeHalf_0 : decode cX4_writeHalf 0 = .ok (.aload_n 1, 1) := by decide +kernel
theorem dX4_writeHalf_1 : decode cX4_writeHalf 1 = .ok (.iload_n 2, 1) := by decide +kernel
theorem dX4_writeHalf_2 : decode cX4_writeHalf 2 = .ok (.invokevirtual 166, 3) := by decide +kernel
theorem dX4_writeHalf_5 : decode cX4_writeHalf 5 = .ok (.astore_n 3, 1) := by decide +kernel
theorem dX4_writeHalf_6 : decode cX4_writeHalf 6 = .ok (.aload_n 3, 1) := by decide +kernel
theorem dX4_writeHalf_7 : decode cX4_writeHalf 7 = .ok (.getfield 201, 3) := by decide +kernel
theorem dX4_writeHalf_10 : decode cX4_writeHalf 10 = .ok (.ifCond .eq 12, 3) := by decide +kernel
theorem dX4_writeHalf_13 : decode cX4_writeHalf 13 = .ok (.aload_n 0, 1) := by decide +kernel
theorem dX4_writeHalf_14 : decode cX4_writeHalf 14 = .ok (.bipush 95, 2) := by decide +kernel
theorem dX4_writeHalf_16 : decode cX4_writeHalf 16 = .ok (.invokevirtual 307, 3) := by decide +kernel
theorem dX4_writeHalf_19 : decode cX4_writeHalf 19 = .ok (.goto 57, 3) := by decide +kernel
theorem dX4_writeHalf_22 : decode cX4_writeHalf 22 = .ok (.aload_n 3, 1) := by decide +kernel
theorem dX4_writeHalf_23 : decode cX4_writeHalf 23 = .ok (.getfield 195, 3) := by decide +kernel
theorem dX4_writeHalf_26 : decode cX4_writeHalf 26 = .ok (.ifCond .ne 12, 3) := by decide +kernel
theorem dX4_writeHalf_29 : decode cX4_writeHalf 29 = .ok (.aload_n 0, 1) := by decide +kernel
theorem dX4_writeHalf_30 : decode cX4_writeHalf 30 = .ok (.bipush 46, 2) := by decide +kernel
theorem dX4_writeHalf_32 : decode cX4_writeHalf 32 = .ok (.invokevirtual 307, 3) := by decide +kernel
theorem dX4_writeHalf_35 : decode cX4_writeHalf 35 = .ok (.goto 41, 3) := by decide +kernel
theorem dX4_writeHalf_38 : decode cX4_writeHalf 38 = .ok (.iconst 0, 1) := by decide +kernel
theorem dX4_writeHalf_39 : decode cX4_writeHalf 39 = .ok (.istore 4, 2) := by decide +kernel
theorem dX4_writeHalf_41 : decode cX4_writeHalf 41 = .ok (.iload 4, 2) := by decide +kernel
theorem dX4_writeHalf_43 : decode cX4_writeHalf 43 = .ok (.aload_n 1, 1) := by decide +kernel
theorem dX4_writeHalf_44 : decode cX4_writeHalf 44 = .ok (.getfield 119, 3) := by decide +kernel
theorem dX4_writeHalf_47 : decode cX4_writeHalf 47 = .ok (.getfield 86, 3) := by decide +kernel
theorem dX4_writeHalf_50 : decode cX4_writeHalf 50 = .ok (.if_icmp .ge 26, 3) := by decide +kernel
theorem dX4_writeHalf_53 : decode cX4_writeHalf 53 = .ok (.aload_n 0, 1) := by decide +kernel
theorem dX4_writeHalf_54 : decode cX4_writeHalf 54 = .ok (.aload_n 3, 1) := by decide +kernel
theorem dX4_writeHalf_55 : decode cX4_writeHalf 55 = .ok (.aload_n 1, 1) := by decide +kernel
theorem dX4_writeHalf_56 : decode cX4_writeHalf 56 = .ok (.getfield 119, 3) := by decide +kernel
theorem dX4_writeHalf_59 : decode cX4_writeHalf 59 = .ok (.iload 4, 2) := by decide +kernel
theorem dX4_writeHalf_61 : decode cX4_writeHalf 61 = .ok (.invokevirtual 158, 3) := by decide +kernel
theorem dX4_writeHalf_64 : decode cX4_writeHalf 64 = .ok (.invokevirtual 217, 3) := by decide +kernel
theorem dX4_writeHalf_67 : decode cX4_writeHalf 67 = .ok (.invokevirtual 307, 3) := by decide +kernel
theorem dX4_writeHalf_70 : decode cX4_writeHalf 70 = .ok (.iinc 4 1, 3) := by decide +kernel
theorem dX4_writeHalf_73 : decode cX4_writeHalf 73 = .ok (.goto (-32), 3) := by decide +kernel
theorem dX4_writeHalf_76 : decode cX4_writeHalf 76 = .ok (.return_, 1) := by decide +kernel
theorem h9_X4_writeHalf : yX4_writeHalf.cls ≠ "java/lang/invoke/MethodHandle" ∧ yX4_writeHalf.cls ≠ "java/lang/invoke/VarHandle" ∧ (parseMethodDescriptor yX4_writeHalf.desc).map (fun d => d.parameters.length) = some 2 := by decide +kernel
noncomputable def F_X4_writeHalf (a0 : Nat) (a1 : Nat) (x2 : Int32) (w : FW) : Option (FW) :=
  fg (w.1 a1 = 3) inferInstance ((F_X2_half a1 x2 w).bind (fun r1 => fg (w.1 r1 = 1) inferInstance ((if (gI w 3 r1 0) = 0 then (if (gI w 0 r1 0) = 0 then fg (w.1 a0 = 5) inferInstance ((F_X4_write a0 46 w).bind (fun r29 => some r29)) else (fLoop (σ := Int32 × FW) (ρ := FW) (fun s8 => fg (w.1 (gR s8.2 200 a1 0) = 4) inferInstance ((if (gI s8.2 301 (gR s8.2 200 a1 0) 0) ≤ s8.1 then some (.inr s8.2) else (F_X3_letterAt (gR s8.2 200 a1 0) s8.1 s8.2).bind (fun r19 => (F_X0_seen r1 r19 s8.2).bind (fun r22 => fg (w.1 a0 = 5) inferInstance ((F_X4_write a0 r22 s8.2).bind (fun r25 => some (.inl ((s8.1 + 1), r25))))))))) (0, w)).bind (fun x14 => some x14)) else fg (w.1 a0 = 5) inferInstance ((F_X4_write a0 95 w).bind (fun r33 => some r33))))))
set_option maxHeartbeats 4000000 in
set_option maxRecDepth 100000 in
theorem c_X4_writeHalf (l : Launch) (D : va_G) (cy : Nat → ClassId) (a0 : Nat) (a1 : Nat) (x2 : Int32) (w : FW) (r : FW) (hF : F_X4_writeHalf a0 a1 x2 w = some r) : fSpec l D cy yX4_writeHalf cX4_writeHalf 5 none { frames := 6, cells := 0, slots := 0, locals := 131 } [.ref a0, .ref a1, .int x2] w r none := by
  refine f_begin (by decide +kernel) (Nat.le_of_ble_eq_true rfl) (fun X hC hEn => ?_)
  unfold F_X4_writeHalf at hF
  show fAt X 0 0 5 w [(0, .ref a0), (1, .ref a1), (2, .int x2)] [] 0
  refine f_aload_n hC dX4_writeHalf_0 rfl 1 rfl ?_
  refine f_iload_n hC dX4_writeHalf_1 rfl 2 rfl ?_
  obtain ⟨g3, hF⟩ := fg_open hF
  obtain ⟨r1, h2, hF⟩ := fb_open hF
  refine f_callVN hC [.int x2] (c_X2_half l D cy a1 x2 w r1 h2) q_425 q_76 q_422 q_424 q_3 h9_X2_half rfl (fSm.k (fSm.rf w) g3) ⟨Nat.le_of_ble_eq_true rfl, Nat.le_of_ble_eq_true rfl⟩ ⟨Nat.le_of_ble_eq_true rfl, Nat.le_of_ble_eq_true rfl⟩ (Nat.le_of_ble_eq_true rfl) rfl dX4_writeHalf_2 (fun e4 => ?_)
  refine f_astore_n (L' := [(3, .ref r1), (0, .ref a0), (1, .ref a1), (2, .int x2)]) hC dX4_writeHalf_5 rfl (by decide) rfl ?_
  refine f_aload_n hC dX4_writeHalf_6 rfl 0 rfl ?_
  obtain ⟨g5, hF⟩ := fg_open hF
  refine f_getIN hC 0 3 3 rfl (by decide) iX0 q_158 rfl rfl (fSm.k (fSm.rf w) g5) dX4_writeHalf_7 ?_
  refine f_if_eq hC 22 dX4_writeHalf_10 (by decide) (fun c6 => ?_) (fun c6 => ?_)
  · replace hF := fi_pos hF c6
    refine f_aload_n hC dX4_writeHalf_22 rfl 0 rfl ?_
    refine f_getIN hC 0 0 0 rfl (by decide) iX0 q_149 rfl rfl (fSm.k (fSm.rf w) g5) dX4_writeHalf_23 ?_
    refine f_if_ne hC 38 dX4_writeHalf_26 (by decide) (fun c7 => ?_) (fun c7 => ?_)
    · replace hF := fi_neg hF c7
      refine f_iconst (v := 0) hC dX4_writeHalf_38 (by decide) ?_
      refine f_istore (L' := [(4, .int 0), (3, .ref r1), (0, .ref a0), (1, .ref a1), (2, .int x2)]) hC dX4_writeHalf_39 (by decide) rfl ?_
      obtain ⟨x14, h15, hF⟩ := fb_open hF
      have K16 : fSm x14 w → fAt X 0 0 5 x14 [] [] 76 := by
        intro p12
        obtain rfl := Option.some.inj hF
        exact f_vret hC hEn p12 dX4_writeHalf_76
      refine f_sub (L' := [(0, .ref a0), (1, .ref a1), (3, .ref r1), (4, .int 0)]) [2, 3, 1, 0] rfl ?_
      refine fLoop_ind (fun (s8 : Int32 × FW) => fSm s8.2 w → fAt X 0 0 5 s8.2 [(0, .ref a0), (1, .ref a1), (3, .ref r1), (4, .int s8.1)] [] 41) (fun s8 y13 h9 go10 ou11 => ?_) h15 (fSm.rf w)
      intro p12
      refine f_iload hC dX4_writeHalf_41 3 rfl ?_
      refine f_aload_n hC dX4_writeHalf_43 rfl 1 rfl ?_
      refine f_getRN hC 2 0 200 rfl (by decide) iX2 q_176 rfl rfl (fSm.k p12 g3) dX4_writeHalf_44 ?_
      obtain ⟨g17, h9⟩ := fg_open h9
      refine f_getIN hC 3 1 301 rfl (by decide) iX3 q_124 rfl rfl (fSm.k p12 g17) dX4_writeHalf_47 ?_
      refine f_icmp_ge hC 76 dX4_writeHalf_50 (by decide) (fun c18 => ?_) (fun c18 => ?_)
      · replace h9 := fi_pos h9 c18
        obtain rfl := Option.some.inj h9
        obtain rfl := ou11 _ rfl
        refine f_sub (L' := []) [] rfl ?_
        exact K16 p12
      · replace h9 := fi_neg h9 c18
        refine f_aload_n hC dX4_writeHalf_53 rfl 0 rfl ?_
        refine f_aload_n hC dX4_writeHalf_54 rfl 2 rfl ?_
        refine f_aload_n hC dX4_writeHalf_55 rfl 1 rfl ?_
        refine f_getRN hC 2 0 200 rfl (by decide) iX2 q_176 rfl rfl (fSm.k p12 g3) dX4_writeHalf_56 ?_
        refine f_iload hC dX4_writeHalf_59 3 rfl ?_
        obtain ⟨r19, h20, h9⟩ := fb_open h9
        refine f_callVN hC [.int s8.1] (c_X3_letterAt l D cy (gR s8.2 200 a1 0) s8.1 s8.2 r19 h20) q_433 q_75 q_1207 q_432 q_5 h9_X3_letterAt rfl (fSm.k p12 g17) ⟨Nat.le_of_ble_eq_true rfl, Nat.le_of_ble_eq_true rfl⟩ ⟨Nat.le_of_ble_eq_true rfl, Nat.le_of_ble_eq_true rfl⟩ (Nat.le_of_ble_eq_true rfl) rfl dX4_writeHalf_61 (fun e21 => ?_)
        obtain ⟨r22, h23, h9⟩ := fb_open h9
        refine f_callVN hC [.int r19] (c_X0_seen l D cy r1 r19 s8.2 r22 h23) q_1224 q_77 q_1221 q_1223 q_57 h9_X0_seen rfl (fSm.k p12 g5) ⟨Nat.le_of_ble_eq_true rfl, Nat.le_of_ble_eq_true rfl⟩ ⟨Nat.le_of_ble_eq_true rfl, Nat.le_of_ble_eq_true rfl⟩ (Nat.le_of_ble_eq_true rfl) rfl dX4_writeHalf_64 (fun e24 => ?_)
        obtain ⟨g27, h9⟩ := fg_open h9
        obtain ⟨r25, h26, h9⟩ := fb_open h9
        refine f_callV hC [.int r22] (c_X4_write l D cy a0 r22 s8.2 r25 h26) q_1260 q_73 q_1257 q_1259 q_59 h9_X4_write rfl (fSm.k p12 g27) ⟨Nat.le_of_ble_eq_true rfl, Nat.le_of_ble_eq_true rfl⟩ ⟨Nat.le_of_ble_eq_true rfl, Nat.le_of_ble_eq_true rfl⟩ (Nat.le_of_ble_eq_true rfl) rfl dX4_writeHalf_67 (fun e28 => ?_)
        refine f_iinc (L' := [(4, .int (s8.1 + 1)), (0, .ref a0), (1, .ref a1), (3, .ref r1)]) hC dX4_writeHalf_70 3 rfl rfl (by decide) rfl ?_
        refine f_goto hC 41 dX4_writeHalf_73 (by decide) ?_
        obtain rfl := Option.some.inj h9
        refine f_sub (L' := [(0, .ref a0), (1, .ref a1), (3, .ref r1), (4, .int (s8.1 + 1))]) [1, 2, 3, 0] rfl ?_
        exact go10 _ rfl (fSm.tr e28 p12)
    · replace hF := fi_pos hF c7
      refine f_aload_n hC dX4_writeHalf_29 rfl 1 rfl ?_
      refine f_bipush (v := 46) hC dX4_writeHalf_30 (by decide) ?_
      obtain ⟨g31, hF⟩ := fg_open hF
      obtain ⟨r29, h30, hF⟩ := fb_open hF
      refine f_callV hC [.int 46] (c_X4_write l D cy a0 46 w r29 h30) q_1260 q_73 q_1257 q_1259 q_59 h9_X4_write rfl (fSm.k (fSm.rf w) g31) ⟨Nat.le_of_ble_eq_true rfl, Nat.le_of_ble_eq_true rfl⟩ ⟨Nat.le_of_ble_eq_true rfl, Nat.le_of_ble_eq_true rfl⟩ (Nat.le_of_ble_eq_true rfl) rfl dX4_writeHalf_32 (fun e32 => ?_)
      refine f_goto hC 76 dX4_writeHalf_35 (by decide) ?_
      obtain rfl := Option.some.inj hF
      exact f_vret hC hEn (fSm.tr e32 (fSm.rf w)) dX4_writeHalf_76
  · replace hF := fi_neg hF c6
    refine f_aload_n hC dX4_writeHalf_13 rfl 1 rfl ?_
    refine f_bipush (v := 95) hC dX4_writeHalf_14 (by decide) ?_
    obtain ⟨g35, hF⟩ := fg_open hF
    obtain ⟨r33, h34, hF⟩ := fb_open hF
    refine f_callV hC [.int 95] (c_X4_write l D cy a0 95 w r33 h34) q_1260 q_73 q_1257 q_1259 q_59 h9_X4_write rfl (fSm.k (fSm.rf w) g35) ⟨Nat.le_of_ble_eq_true rfl, Nat.le_of_ble_eq_true rfl⟩ ⟨Nat.le_of_ble_eq_true rfl, Nat.le_of_ble_eq_true rfl⟩ (Nat.le_of_ble_eq_true rfl) rfl dX4_writeHalf_16 (fun e36 => ?_)
    refine f_goto hC 76 dX4_writeHalf_19 (by decide) ?_
    obtain rfl := Option.some.inj hF
    exact f_vret hC hEn (fSm.tr e36 (fSm.rf w)) dX4_writeHalf_76
theorem dX4_digit_0 : decode cX4_digit 0 = .ok (.bipush 48, 2) := by decide +kernel
theorem dX4_digit_2 : decode cX4_digit 2 = .ok (.iload_n 0, 1) := by decide +kernel
theorem dX4_digit_3 : decode cX4_digit 3 = .ok (.iadd, 1) := by decide +kernel
theorem dX4_digit_4 : decode cX4_digit 4 = .ok (.i2c, 1) := by decide +kernel
theorem dX4_digit_5 : decode cX4_digit 5 = .ok (.ireturn, 1) := by decide +kernel
theorem h9_X4_digit : yX4_digit.cls ≠ "java/lang/invoke/MethodHandle" ∧ yX4_digit.cls ≠ "java/lang/invoke/VarHandle" ∧ (parseMethodDescriptor yX4_digit.desc).map (fun d => d.parameters.length) = some 1 := by decide +kernel
noncomputable def F_X4_digit (x1 : Int32) (w : FW) : Option (Int32) :=
  fg (fch (fch (48 + x1)) = (fch (48 + x1))) inferInstance (some (fch (48 + x1)))
set_option maxHeartbeats 4000000 in
set_option maxRecDepth 100000 in
theorem c_X4_digit (l : Launch) (D : va_G) (cy : Nat → ClassId) (x1 : Int32) (w : FW) (r : Int32) (hF : F_X4_digit x1 w = some r) : fSpec l D cy yX4_digit cX4_digit 1 (some .char) { frames := 0, cells := 0, slots := 0, locals := 0 } [.int x1] w w (some (.int r)) := by
  refine f_begin (by decide +kernel) (Nat.le_of_ble_eq_true rfl) (fun X hC hEn => ?_)
  unfold F_X4_digit at hF
  show fAt X 0 0 1 w [(0, .int x1)] [] 0
  refine f_bipush (v := 48) hC dX4_digit_0 (by decide) ?_
  refine f_iload_n hC dX4_digit_2 rfl 0 rfl ?_
  refine f_iadd hC dX4_digit_3 ?_
  refine f_i2c hC dX4_digit_4 ?_
  obtain ⟨g1, hF⟩ := fg_open hF
  obtain rfl := Option.some.inj hF
  exact f_zret hC hEn (fSm.rf w) (nar_c g1) dX4_digit_5
theorem dX4_line_0 : decode cX4_line 0 = .ok (.aload_n 0, 1) := by decide +kernel
theorem dX4_line_1 : decode cX4_line 1 = .ok (.iload_n 1, 1) := by decide +kernel
theorem dX4_line_2 : decode cX4_line 2 = .ok (.invokevirtual 115, 3) := by decide +kernel
theorem dX4_line_5 : decode cX4_line 5 = .ok (.astore_n 2, 1) := by decide +kernel
theorem dX4_line_6 : decode cX4_line 6 = .ok (.aload_n 0, 1) := by decide +kernel
theorem dX4_line_7 : decode cX4_line 7 = .ok (.iconst 0, 1) := by decide +kernel
theorem dX4_line_8 : decode cX4_line 8 = .ok (.putfield 51, 3) := by decide +kernel
theorem dX4_line_11 : decode cX4_line 11 = .ok (.aload_n 0, 1) := by decide +kernel
theorem dX4_line_12 : decode cX4_line 12 = .ok (.aload_n 2, 1) := by decide +kernel
theorem dX4_line_13 : decode cX4_line 13 = .ok (.iconst 0, 1) := by decide +kernel
theorem dX4_line_14 : decode cX4_line 14 = .ok (.invokevirtual 303, 3) := by decide +kernel
theorem dX4_line_17 : decode cX4_line 17 = .ok (.aload_n 0, 1) := by decide +kernel
theorem dX4_line_18 : decode cX4_line 18 = .ok (.aload_n 2, 1) := by decide +kernel
theorem dX4_line_19 : decode cX4_line 19 = .ok (.getfield 136, 3) := by decide +kernel
theorem dX4_line_22 : decode cX4_line 22 = .ok (.ifCond .eq 8, 3) := by decide +kernel
theorem dX4_line_25 : decode cX4_line 25 = .ok (.bipush 47, 2) := by decide +kernel
theorem dX4_line_27 : decode cX4_line 27 = .ok (.goto 5, 3) := by decide +kernel
theorem dX4_line_30 : decode cX4_line 30 = .ok (.bipush 45, 2) := by decide +kernel
theorem dX4_line_32 : decode cX4_line 32 = .ok (.invokevirtual 307, 3) := by decide +kernel
theorem dX4_line_35 : decode cX4_line 35 = .ok (.aload_n 0, 1) := by decide +kernel
theorem dX4_line_36 : decode cX4_line 36 = .ok (.aload_n 2, 1) := by decide +kernel
theorem dX4_line_37 : decode cX4_line 37 = .ok (.iconst 1, 1) := by decide +kernel
theorem dX4_line_38 : decode cX4_line 38 = .ok (.invokevirtual 303, 3) := by decide +kernel
theorem dX4_line_41 : decode cX4_line 41 = .ok (.aload_n 0, 1) := by decide +kernel
theorem dX4_line_42 : decode cX4_line 42 = .ok (.bipush 58, 2) := by decide +kernel
theorem dX4_line_44 : decode cX4_line 44 = .ok (.invokevirtual 307, 3) := by decide +kernel
theorem dX4_line_47 : decode cX4_line 47 = .ok (.aload_n 0, 1) := by decide +kernel
theorem dX4_line_48 : decode cX4_line 48 = .ok (.aload_n 2, 1) := by decide +kernel
theorem dX4_line_49 : decode cX4_line 49 = .ok (.getfield 127, 3) := by decide +kernel
theorem dX4_line_52 : decode cX4_line 52 = .ok (.invokestatic 311, 3) := by decide +kernel
theorem dX4_line_55 : decode cX4_line 55 = .ok (.invokevirtual 307, 3) := by decide +kernel
theorem dX4_line_58 : decode cX4_line 58 = .ok (.aload_n 0, 1) := by decide +kernel
theorem dX4_line_59 : decode cX4_line 59 = .ok (.bipush 62, 2) := by decide +kernel
theorem dX4_line_61 : decode cX4_line 61 = .ok (.invokevirtual 307, 3) := by decide +kernel
theorem dX4_line_64 : decode cX4_line 64 = .ok (.aload_n 0, 1) := by decide +kernel
theorem dX4_line_65 : decode cX4_line 65 = .ok (.aload_n 2, 1) := by decide +kernel
theorem dX4_line_66 : decode cX4_line 66 = .ok (.getfield 130, 3) := by decide +kernel
theorem dX4_line_69 : decode cX4_line 69 = .ok (.invokestatic 311, 3) := by decide +kernel
theorem dX4_line_72 : decode cX4_line 72 = .ok (.invokevirtual 307, 3) := by decide +kernel
theorem dX4_line_75 : decode cX4_line 75 = .ok (.aload_n 0, 1) := by decide +kernel
theorem dX4_line_76 : decode cX4_line 76 = .ok (.getfield 51, 3) := by decide +kernel
theorem dX4_line_79 : decode cX4_line 79 = .ok (.ireturn, 1) := by decide +kernel
theorem h9_X4_line : yX4_line.cls ≠ "java/lang/invoke/MethodHandle" ∧ yX4_line.cls ≠ "java/lang/invoke/VarHandle" ∧ (parseMethodDescriptor yX4_line.desc).map (fun d => d.parameters.length) = some 1 := by decide +kernel
noncomputable def F_X4_line (a0 : Nat) (x1 : Int32) (w : FW) : Option ((Int32 ⊕ Nat) × FW) :=
  fg (w.1 a0 = 5) inferInstance ((F_X4_existing a0 x1 w).bind (fun r1 => fse r1 (fun v5 => (F_X4_writeHalf a0 v5 0 (sI w 410 a0 0 0)).bind (fun r8 => fg (w.1 v5 = 3) inferInstance (((if (gI r8 204 v5 0) = 0 then some 45 else some 47) : Option (Int32)).bind (fun x12 => (F_X4_write a0 x12 r8).bind (fun r16 => (F_X4_writeHalf a0 v5 1 r16).bind (fun r19 => (F_X4_write a0 58 r19).bind (fun r22 => (F_X4_digit (gI r22 201 v5 0) r22).bind (fun r25 => (F_X4_write a0 r25 r22).bind (fun r28 => (F_X4_write a0 62 r28).bind (fun r31 => (F_X4_digit (gI r31 202 v5 0) r31).bind (fun r34 => (F_X4_write a0 r34 r31).bind (fun r37 => some ((.inl (gI r37 410 a0 0)), r37))))))))))))) (fun x6 => some (.inr x6, w))))
set_option maxHeartbeats 4000000 in
set_option maxRecDepth 100000 in
theorem c_X4_line (l : Launch) (D : va_G) (cy : Nat → ClassId) (a0 : Nat) (x1 : Int32) (w : FW) (r : (Int32 ⊕ Nat) × FW) (hF : F_X4_line a0 x1 w = some r) : fSpecX l D cy yX4_line cX4_line 3 (some .int) { frames := 7, cells := 1, slots := 6, locals := 155 } [.ref a0, .int x1] w r.2 (fOI r.1) := by
  refine f_beginX (by decide +kernel) (Nat.le_of_ble_eq_true rfl) (fun X hC hEn => ?_)
  have hst := f_st hC hEn
  unfold F_X4_line at hF
  show fAt X 0 0 3 w [(0, .ref a0), (1, .int x1)] [] 0
  refine f_aload_n hC dX4_line_0 rfl 0 rfl ?_
  refine f_iload_n hC dX4_line_1 rfl 1 rfl ?_
  obtain ⟨g3, hF⟩ := fg_open hF
  obtain ⟨r1, h2, hF⟩ := fb_open hF
  rcases r1 with v5 | x6
  · refine f_callVR hC [.int x1] hst (c_X4_existing l D cy a0 x1 w (.inl v5) h2) q_404 q_73 q_401 q_403 q_1 h9_X4_existing rfl (fSm.k (fSm.rf w) g3) ⟨Nat.le_of_ble_eq_true rfl, Nat.le_of_ble_eq_true rfl⟩ ⟨Nat.le_of_ble_eq_true rfl, Nat.le_of_ble_eq_true rfl⟩ (Nat.le_of_ble_eq_true rfl) rfl dX4_line_2 (fun e4 => ?_)
    refine f_astore_n (L' := [(2, .ref v5), (0, .ref a0), (1, .int x1)]) hC dX4_line_5 rfl (by decide) rfl ?_
    refine f_aload_n hC dX4_line_6 rfl 1 rfl ?_
    refine f_iconst (v := 0) hC dX4_line_7 (by decide) ?_
    refine f_putI hC 4 10 410 rfl (by decide) iX4 tyX4 tyX4_ok nmX4 q_270 rfl rfl rfl rfl rfl (fSm.k (fSm.rf w) g3) dX4_line_8 ?_
    refine f_aload_n hC dX4_line_11 rfl 1 rfl ?_
    refine f_aload_n hC dX4_line_12 rfl 0 rfl ?_
    refine f_iconst (v := 0) hC dX4_line_13 (by decide) ?_
    obtain ⟨r8, h9, hF⟩ := fb_open hF
    refine f_callV hC [.ref v5, .int 0] (c_X4_writeHalf l D cy a0 v5 0 (sI w 410 a0 0 0) r8 h9) q_1312 q_73 q_1309 q_1311 q_63 h9_X4_writeHalf rfl (fSm.k (fSm.rf w) g3) ⟨Nat.le_of_ble_eq_true rfl, Nat.le_of_ble_eq_true rfl⟩ ⟨Nat.le_of_ble_eq_true rfl, Nat.le_of_ble_eq_true rfl⟩ (Nat.le_of_ble_eq_true rfl) rfl dX4_line_14 (fun e10 => ?_)
    refine f_aload_n hC dX4_line_17 rfl 1 rfl ?_
    refine f_aload_n hC dX4_line_18 rfl 0 rfl ?_
    obtain ⟨g11, hF⟩ := fg_open hF
    refine f_getIN hC 2 4 204 rfl (by decide) iX2 q_189 rfl rfl (fSm.k (fSm.tr e10 (fSm.rf w)) g11) dX4_line_19 ?_
    obtain ⟨x12, h13, hF⟩ := fb_open hF
    have K15 : fAt X 1 6 3 r8 [(0, .ref a0), (2, .ref v5)] [.int x12, .ref a0] 32 := by
      obtain ⟨r16, h17, hF⟩ := fb_open hF
      refine f_callV hC [.int x12] (c_X4_write l D cy a0 x12 r8 r16 h17) q_1260 q_73 q_1257 q_1259 q_59 h9_X4_write rfl (fSm.k (fSm.tr e10 (fSm.rf w)) g3) ⟨Nat.le_of_ble_eq_true rfl, Nat.le_of_ble_eq_true rfl⟩ ⟨Nat.le_of_ble_eq_true rfl, Nat.le_of_ble_eq_true rfl⟩ (Nat.le_of_ble_eq_true rfl) rfl dX4_line_32 (fun e18 => ?_)
      refine f_aload_n hC dX4_line_35 rfl 0 rfl ?_
      refine f_aload_n hC dX4_line_36 rfl 1 rfl ?_
      refine f_iconst (v := 1) hC dX4_line_37 (by decide) ?_
      obtain ⟨r19, h20, hF⟩ := fb_open hF
      refine f_callV hC [.ref v5, .int 1] (c_X4_writeHalf l D cy a0 v5 1 r16 r19 h20) q_1312 q_73 q_1309 q_1311 q_63 h9_X4_writeHalf rfl (fSm.k (fSm.tr e18 (fSm.tr e10 (fSm.rf w))) g3) ⟨Nat.le_of_ble_eq_true rfl, Nat.le_of_ble_eq_true rfl⟩ ⟨Nat.le_of_ble_eq_true rfl, Nat.le_of_ble_eq_true rfl⟩ (Nat.le_of_ble_eq_true rfl) rfl dX4_line_38 (fun e21 => ?_)
      refine f_aload_n hC dX4_line_41 rfl 0 rfl ?_
      refine f_bipush (v := 58) hC dX4_line_42 (by decide) ?_
      obtain ⟨r22, h23, hF⟩ := fb_open hF
      refine f_callV hC [.int 58] (c_X4_write l D cy a0 58 r19 r22 h23) q_1260 q_73 q_1257 q_1259 q_59 h9_X4_write rfl (fSm.k (fSm.tr e21 (fSm.tr e18 (fSm.tr e10 (fSm.rf w)))) g3) ⟨Nat.le_of_ble_eq_true rfl, Nat.le_of_ble_eq_true rfl⟩ ⟨Nat.le_of_ble_eq_true rfl, Nat.le_of_ble_eq_true rfl⟩ (Nat.le_of_ble_eq_true rfl) rfl dX4_line_44 (fun e24 => ?_)
      refine f_aload_n hC dX4_line_47 rfl 0 rfl ?_
      refine f_aload_n hC dX4_line_48 rfl 1 rfl ?_
      refine f_getIN hC 2 1 201 rfl (by decide) iX2 q_179 rfl rfl (fSm.k (fSm.tr e24 (fSm.tr e21 (fSm.tr e18 (fSm.tr e10 (fSm.rf w))))) g11) dX4_line_49 ?_
      obtain ⟨r25, h26, hF⟩ := fb_open hF
      refine f_callS hC [.int (gI r22 201 v5 0)] (c_X4_digit l D cy (gI r22 201 v5 0) r22 r25 h26) q_1256 q_73 q_1254 q_1255 h9_X4_digit ⟨Nat.le_of_ble_eq_true rfl, Nat.le_of_ble_eq_true rfl⟩ ⟨Nat.le_of_ble_eq_true rfl, Nat.le_of_ble_eq_true rfl⟩ (Nat.le_of_ble_eq_true rfl) rfl dX4_line_52 (fun e27 => ?_)
      obtain ⟨r28, h29, hF⟩ := fb_open hF
      refine f_callV hC [.int r25] (c_X4_write l D cy a0 r25 r22 r28 h29) q_1260 q_73 q_1257 q_1259 q_59 h9_X4_write rfl (fSm.k (fSm.tr e24 (fSm.tr e21 (fSm.tr e18 (fSm.tr e10 (fSm.rf w))))) g3) ⟨Nat.le_of_ble_eq_true rfl, Nat.le_of_ble_eq_true rfl⟩ ⟨Nat.le_of_ble_eq_true rfl, Nat.le_of_ble_eq_true rfl⟩ (Nat.le_of_ble_eq_true rfl) rfl dX4_line_55 (fun e30 => ?_)
      refine f_aload_n hC dX4_line_58 rfl 0 rfl ?_
      refine f_bipush (v := 62) hC dX4_line_59 (by decide) ?_
      obtain ⟨r31, h32, hF⟩ := fb_open hF
      refine f_callV hC [.int 62] (c_X4_write l D cy a0 62 r28 r31 h32) q_1260 q_73 q_1257 q_1259 q_59 h9_X4_write rfl (fSm.k (fSm.tr e30 (fSm.tr e24 (fSm.tr e21 (fSm.tr e18 (fSm.tr e10 (fSm.rf w)))))) g3) ⟨Nat.le_of_ble_eq_true rfl, Nat.le_of_ble_eq_true rfl⟩ ⟨Nat.le_of_ble_eq_true rfl, Nat.le_of_ble_eq_true rfl⟩ (Nat.le_of_ble_eq_true rfl) rfl dX4_line_61 (fun e33 => ?_)
      refine f_aload_n hC dX4_line_64 rfl 0 rfl ?_
      refine f_aload_n hC dX4_line_65 rfl 1 rfl ?_
      refine f_getIN hC 2 2 202 rfl (by decide) iX2 q_182 rfl rfl (fSm.k (fSm.tr e33 (fSm.tr e30 (fSm.tr e24 (fSm.tr e21 (fSm.tr e18 (fSm.tr e10 (fSm.rf w))))))) g11) dX4_line_66 ?_
      obtain ⟨r34, h35, hF⟩ := fb_open hF
      refine f_callS hC [.int (gI r31 202 v5 0)] (c_X4_digit l D cy (gI r31 202 v5 0) r31 r34 h35) q_1256 q_73 q_1254 q_1255 h9_X4_digit ⟨Nat.le_of_ble_eq_true rfl, Nat.le_of_ble_eq_true rfl⟩ ⟨Nat.le_of_ble_eq_true rfl, Nat.le_of_ble_eq_true rfl⟩ (Nat.le_of_ble_eq_true rfl) rfl dX4_line_69 (fun e36 => ?_)
      obtain ⟨r37, h38, hF⟩ := fb_open hF
      refine f_callV hC [.int r34] (c_X4_write l D cy a0 r34 r31 r37 h38) q_1260 q_73 q_1257 q_1259 q_59 h9_X4_write rfl (fSm.k (fSm.tr e33 (fSm.tr e30 (fSm.tr e24 (fSm.tr e21 (fSm.tr e18 (fSm.tr e10 (fSm.rf w))))))) g3) ⟨Nat.le_of_ble_eq_true rfl, Nat.le_of_ble_eq_true rfl⟩ ⟨Nat.le_of_ble_eq_true rfl, Nat.le_of_ble_eq_true rfl⟩ (Nat.le_of_ble_eq_true rfl) rfl dX4_line_72 (fun e39 => ?_)
      refine f_aload_n hC dX4_line_75 rfl 0 rfl ?_
      refine f_getI hC 4 10 410 rfl (by decide) iX4 q_270 rfl rfl (fSm.k (fSm.tr e39 (fSm.tr e33 (fSm.tr e30 (fSm.tr e24 (fSm.tr e21 (fSm.tr e18 (fSm.tr e10 (fSm.rf w)))))))) g3) dX4_line_76 ?_
      obtain rfl := Option.some.inj hF
      exact f_iretX hC hEn (fSm.tr e39 (fSm.tr e33 (fSm.tr e30 (fSm.tr e24 (fSm.tr e21 (fSm.tr e18 (fSm.tr e10 (fSm.rf w)))))))) dX4_line_79
    refine f_if_eq hC 30 dX4_line_22 (by decide) (fun c40 => ?_) (fun c40 => ?_)
    · replace h13 := fi_pos h13 c40
      refine f_bipush (v := 45) hC dX4_line_30 (by decide) ?_
      obtain rfl := Option.some.inj h13
      refine f_sub (L' := [(0, .ref a0), (2, .ref v5)]) [1, 0] rfl ?_
      exact K15
    · replace h13 := fi_neg h13 c40
      refine f_bipush (v := 47) hC dX4_line_25 (by decide) ?_
      refine f_goto hC 32 dX4_line_27 (by decide) ?_
      obtain rfl := Option.some.inj h13
      refine f_sub (L' := [(0, .ref a0), (2, .ref v5)]) [1, 0] rfl ?_
      exact K15
  · obtain rfl := Option.some.inj hF
    exact f_callVT hC [.int x1] hEn (fSm.rf w) (Nat.le_of_ble_eq_true rfl) (Nat.le_of_ble_eq_true rfl) (c_X4_existing l D cy a0 x1 w (.inr x6) h2) q_404 q_73 q_401 q_403 q_1 h9_X4_existing rfl (fSm.k (fSm.rf w) g3) ⟨Nat.le_of_ble_eq_true rfl, Nat.le_of_ble_eq_true rfl⟩ ⟨Nat.le_of_ble_eq_true rfl, Nat.le_of_ble_eq_true rfl⟩ (Nat.le_of_ble_eq_true rfl) rfl dX4_line_2
theorem dX4_holeLine_0 : decode cX4_holeLine 0 = .ok (.aload_n 0, 1) := by decide +kernel
theorem dX4_holeLine_1 : decode cX4_holeLine 1 = .ok (.iload_n 1, 1) := by decide +kernel
theorem dX4_holeLine_2 : decode cX4_holeLine 2 = .ok (.invokevirtual 115, 3) := by decide +kernel
theorem dX4_holeLine_5 : decode cX4_holeLine 5 = .ok (.astore_n 3, 1) := by decide +kernel
theorem dX4_holeLine_6 : decode cX4_holeLine 6 = .ok (.aload_n 3, 1) := by decide +kernel
theorem dX4_holeLine_7 : decode cX4_holeLine 7 = .ok (.iload_n 2, 1) := by decide +kernel
theorem dX4_holeLine_8 : decode cX4_holeLine 8 = .ok (.invokestatic 213, 3) := by decide +kernel
theorem dX4_holeLine_11 : decode cX4_holeLine 11 = .ok (.astore 4, 2) := by decide +kernel
theorem dX4_holeLine_13 : decode cX4_holeLine 13 = .ok (.aload_n 0, 1) := by decide +kernel
theorem dX4_holeLine_14 : decode cX4_holeLine 14 = .ok (.iconst 0, 1) := by decide +kernel
theorem dX4_holeLine_15 : decode cX4_holeLine 15 = .ok (.putfield 51, 3) := by decide +kernel
theorem dX4_holeLine_18 : decode cX4_holeLine 18 = .ok (.iconst 0, 1) := by decide +kernel
theorem dX4_holeLine_19 : decode cX4_holeLine 19 = .ok (.istore 5, 2) := by decide +kernel
theorem dX4_holeLine_21 : decode cX4_holeLine 21 = .ok (.iload 5, 2) := by decide +kernel
theorem dX4_holeLine_23 : decode cX4_holeLine 23 = .ok (.aload_n 3, 1) := by decide +kernel
theorem dX4_holeLine_24 : decode cX4_holeLine 24 = .ok (.getfield 119, 3) := by decide +kernel
theorem dX4_holeLine_27 : decode cX4_holeLine 27 = .ok (.getfield 86, 3) := by decide +kernel
theorem dX4_holeLine_30 : decode cX4_holeLine 30 = .ok (.if_icmp .ge 57, 3) := by decide +kernel
theorem dX4_holeLine_33 : decode cX4_holeLine 33 = .ok (.aload_n 3, 1) := by decide +kernel
theorem dX4_holeLine_34 : decode cX4_holeLine 34 = .ok (.getfield 119, 3) := by decide +kernel
theorem dX4_holeLine_37 : decode cX4_holeLine 37 = .ok (.iload 5, 2) := by decide +kernel
theorem dX4_holeLine_39 : decode cX4_holeLine 39 = .ok (.invokevirtual 158, 3) := by decide +kernel
theorem dX4_holeLine_42 : decode cX4_holeLine 42 = .ok (.istore 6, 2) := by decide +kernel
theorem dX4_holeLine_44 : decode cX4_holeLine 44 = .ok (.iload 6, 2) := by decide +kernel
theorem dX4_holeLine_46 : decode cX4_holeLine 46 = .ok (.invokestatic 314, 3) := by decide +kernel
theorem dX4_holeLine_49 : decode cX4_holeLine 49 = .ok (.istore 7, 2) := by decide +kernel
theorem dX4_holeLine_51 : decode cX4_holeLine 51 = .ok (.aload_n 0, 1) := by decide +kernel
theorem dX4_holeLine_52 : decode cX4_holeLine 52 = .ok (.iload 7, 2) := by decide +kernel
theorem dX4_holeLine_54 : decode cX4_holeLine 54 = .ok (.iconst (-1), 1) := by decide +kernel
theorem dX4_holeLine_55 : decode cX4_holeLine 55 = .ok (.if_icmp .ne 8, 3) := by decide +kernel
theorem dX4_holeLine_58 : decode cX4_holeLine 58 = .ok (.iload 6, 2) := by decide +kernel
theorem dX4_holeLine_60 : decode cX4_holeLine 60 = .ok (.goto 18, 3) := by decide +kernel
theorem dX4_holeLine_63 : decode cX4_holeLine 63 = .ok (.aload 4, 2) := by decide +kernel
theorem dX4_holeLine_65 : decode cX4_holeLine 65 = .ok (.iload 7, 2) := by decide +kernel
theorem dX4_holeLine_67 : decode cX4_holeLine 67 = .ok (.aload 4, 2) := by decide +kernel
theorem dX4_holeLine_69 : decode cX4_holeLine 69 = .ok (.getfield 179, 3) := by decide +kernel
theorem dX4_holeLine_72 : decode cX4_holeLine 72 = .ok (.invokevirtual 317, 3) := by decide +kernel
theorem dX4_holeLine_75 : decode cX4_holeLine 75 = .ok (.invokestatic 311, 3) := by decide +kernel
theorem dX4_holeLine_78 : decode cX4_holeLine 78 = .ok (.invokevirtual 307, 3) := by decide +kernel
theorem dX4_holeLine_81 : decode cX4_holeLine 81 = .ok (.iinc 5 1, 3) := by decide +kernel
theorem dX4_holeLine_84 : decode cX4_holeLine 84 = .ok (.goto (-63), 3) := by decide +kernel
theorem dX4_holeLine_87 : decode cX4_holeLine 87 = .ok (.aload_n 0, 1) := by decide +kernel
theorem dX4_holeLine_88 : decode cX4_holeLine 88 = .ok (.getfield 51, 3) := by decide +kernel
theorem dX4_holeLine_91 : decode cX4_holeLine 91 = .ok (.ireturn, 1) := by decide +kernel
theorem h9_X4_holeLine : yX4_holeLine.cls ≠ "java/lang/invoke/MethodHandle" ∧ yX4_holeLine.cls ≠ "java/lang/invoke/VarHandle" ∧ (parseMethodDescriptor yX4_holeLine.desc).map (fun d => d.parameters.length) = some 2 := by decide +kernel
noncomputable def F_X4_holeLine (a0 : Nat) (x1 : Int32) (x2 : Int32) (w : FW) : Option ((Int32 ⊕ Nat) × FW) :=
  fg (w.1 a0 = 5) inferInstance ((F_X4_existing a0 x1 w).bind (fun r1 => fse r1 (fun v5 => (F_X4_punchedHalf v5 x2 w).bind (fun r8 => fse r8 (fun v11 => (fLoop (σ := Int32 × FW) (ρ := FW) (fun s14 => fg (w.1 v5 = 3) inferInstance (fg (w.1 (gR s14.2 200 v5 0) = 4) inferInstance ((if (gI s14.2 301 (gR s14.2 200 v5 0) 0) ≤ s14.1 then some (.inr s14.2) else (F_X3_letterAt (gR s14.2 200 v5 0) s14.1 s14.2).bind (fun r26 => (F_X4_vowelNumber r26 s14.2).bind (fun r29 => ((if r29 = (-1) then some r26 else fg (w.1 v11 = 1) inferInstance ((F_X0_holesFor v11 r29 (gI s14.2 2 v11 0) s14.2).bind (fun r41 => (F_X4_digit r41 s14.2).bind (fun r44 => some r44)))) : Option (Int32)).bind (fun x32 => (F_X4_write a0 x32 s14.2).bind (fun r36 => some (.inl ((s14.1 + 1), r36)))))))))) (0, (sI w 410 a0 0 0))).bind (fun x20 => some ((.inl (gI x20 410 a0 0)), x20))) (fun x12 => some (.inr x12, w)))) (fun x6 => some (.inr x6, w))))
set_option maxHeartbeats 4000000 in
set_option maxRecDepth 100000 in
theorem c_X4_holeLine (l : Launch) (D : va_G) (cy : Nat → ClassId) (a0 : Nat) (x1 : Int32) (x2 : Int32) (w : FW) (r : (Int32 ⊕ Nat) × FW) (hF : F_X4_holeLine a0 x1 x2 w = some r) : fSpecX l D cy yX4_holeLine cX4_holeLine 8 (some .int) { frames := 7, cells := 2, slots := 12, locals := 122 } [.ref a0, .int x1, .int x2] w r.2 (fOI r.1) := by
  refine f_beginX (by decide +kernel) (Nat.le_of_ble_eq_true rfl) (fun X hC hEn => ?_)
  have hst := f_st hC hEn
  unfold F_X4_holeLine at hF
  show fAt X 0 0 8 w [(0, .ref a0), (1, .int x1), (2, .int x2)] [] 0
  refine f_aload_n hC dX4_holeLine_0 rfl 0 rfl ?_
  refine f_iload_n hC dX4_holeLine_1 rfl 1 rfl ?_
  obtain ⟨g3, hF⟩ := fg_open hF
  obtain ⟨r1, h2, hF⟩ := fb_open hF
  rcases r1 with v5 | x6
  · refine f_callVR hC [.int x1] hst (c_X4_existing l D cy a0 x1 w (.inl v5) h2) q_404 q_73 q_401 q_403 q_1 h9_X4_existing rfl (fSm.k (fSm.rf w) g3) ⟨Nat.le_of_ble_eq_true rfl, Nat.le_of_ble_eq_true rfl⟩ ⟨Nat.le_of_ble_eq_true rfl, Nat.le_of_ble_eq_true rfl⟩ (Nat.le_of_ble_eq_true rfl) rfl dX4_holeLine_2 (fun e4 => ?_)
    refine f_astore_n (L' := [(3, .ref v5), (0, .ref a0), (1, .int x1), (2, .int x2)]) hC dX4_holeLine_5 rfl (by decide) rfl ?_
    refine f_aload_n hC dX4_holeLine_6 rfl 0 rfl ?_
    refine f_iload_n hC dX4_holeLine_7 rfl 3 rfl ?_
    obtain ⟨r8, h9, hF⟩ := fb_open hF
    rcases r8 with v11 | x12
    · refine f_callSR hC [.ref v5, .int x2] hst (c_X4_punchedHalf l D cy v5 x2 w (.inl v11) h9) q_524 q_73 q_522 q_523 h9_X4_punchedHalf ⟨Nat.le_of_ble_eq_true rfl, Nat.le_of_ble_eq_true rfl⟩ ⟨Nat.le_of_ble_eq_true rfl, Nat.le_of_ble_eq_true rfl⟩ (Nat.le_of_ble_eq_true rfl) rfl dX4_holeLine_8 (fun e10 => ?_)
      refine f_astore (L' := [(4, .ref v11), (3, .ref v5), (0, .ref a0), (1, .int x1), (2, .int x2)]) hC dX4_holeLine_11 (by decide) rfl ?_
      refine f_aload_n hC dX4_holeLine_13 rfl 2 rfl ?_
      refine f_iconst (v := 0) hC dX4_holeLine_14 (by decide) ?_
      refine f_putI hC 4 10 410 rfl (by decide) iX4 tyX4 tyX4_ok nmX4 q_270 rfl rfl rfl rfl rfl (fSm.k (fSm.rf w) g3) dX4_holeLine_15 ?_
      refine f_iconst (v := 0) hC dX4_holeLine_18 (by decide) ?_
      refine f_istore (L' := [(5, .int 0), (4, .ref v11), (3, .ref v5), (0, .ref a0), (1, .int x1), (2, .int x2)]) hC dX4_holeLine_19 (by decide) rfl ?_
      obtain ⟨x20, h21, hF⟩ := fb_open hF
      have K22 : fSm x20 w → fAt X 2 12 8 x20 [(0, .ref a0)] [] 87 := by
        intro p18
        refine f_aload_n hC dX4_holeLine_87 rfl 0 rfl ?_
        refine f_getI hC 4 10 410 rfl (by decide) iX4 q_270 rfl rfl (fSm.k p18 g3) dX4_holeLine_88 ?_
        obtain rfl := Option.some.inj hF
        exact f_iretX hC hEn p18 dX4_holeLine_91
      refine f_sub (L' := [(0, .ref a0), (3, .ref v5), (4, .ref v11), (5, .int 0)]) [3, 2, 1, 0] rfl ?_
      refine fLoop_ind (fun (s14 : Int32 × FW) => fSm s14.2 w → fAt X 2 12 8 s14.2 [(0, .ref a0), (3, .ref v5), (4, .ref v11), (5, .int s14.1)] [] 21) (fun s14 y19 h15 go16 ou17 => ?_) h21 (fSm.rf w)
      intro p18
      refine f_iload hC dX4_holeLine_21 3 rfl ?_
      refine f_aload_n hC dX4_holeLine_23 rfl 1 rfl ?_
      obtain ⟨g23, h15⟩ := fg_open h15
      refine f_getRN hC 2 0 200 rfl (by decide) iX2 q_176 rfl rfl (fSm.k p18 g23) dX4_holeLine_24 ?_
      obtain ⟨g24, h15⟩ := fg_open h15
      refine f_getIN hC 3 1 301 rfl (by decide) iX3 q_124 rfl rfl (fSm.k p18 g24) dX4_holeLine_27 ?_
      refine f_icmp_ge hC 87 dX4_holeLine_30 (by decide) (fun c25 => ?_) (fun c25 => ?_)
      · replace h15 := fi_pos h15 c25
        obtain rfl := Option.some.inj h15
        obtain rfl := ou17 _ rfl
        refine f_sub (L' := [(0, .ref a0)]) [0] rfl ?_
        exact K22 p18
      · replace h15 := fi_neg h15 c25
        refine f_aload_n hC dX4_holeLine_33 rfl 1 rfl ?_
        refine f_getRN hC 2 0 200 rfl (by decide) iX2 q_176 rfl rfl (fSm.k p18 g23) dX4_holeLine_34 ?_
        refine f_iload hC dX4_holeLine_37 3 rfl ?_
        obtain ⟨r26, h27, h15⟩ := fb_open h15
        refine f_callVN hC [.int s14.1] (c_X3_letterAt l D cy (gR s14.2 200 v5 0) s14.1 s14.2 r26 h27) q_433 q_75 q_1207 q_432 q_5 h9_X3_letterAt rfl (fSm.k p18 g24) ⟨Nat.le_of_ble_eq_true rfl, Nat.le_of_ble_eq_true rfl⟩ ⟨Nat.le_of_ble_eq_true rfl, Nat.le_of_ble_eq_true rfl⟩ (Nat.le_of_ble_eq_true rfl) rfl dX4_holeLine_39 (fun e28 => ?_)
        refine f_istore (L' := [(6, .int r26), (0, .ref a0), (3, .ref v5), (4, .ref v11), (5, .int s14.1)]) hC dX4_holeLine_42 (by decide) rfl ?_
        refine f_iload hC dX4_holeLine_44 0 rfl ?_
        obtain ⟨r29, h30, h15⟩ := fb_open h15
        refine f_callS hC [.int r26] (c_X4_vowelNumber l D cy r26 s14.2 r29 h30) q_440 q_73 q_927 q_439 h9_X4_vowelNumber ⟨Nat.le_of_ble_eq_true rfl, Nat.le_of_ble_eq_true rfl⟩ ⟨Nat.le_of_ble_eq_true rfl, Nat.le_of_ble_eq_true rfl⟩ (Nat.le_of_ble_eq_true rfl) rfl dX4_holeLine_46 (fun e31 => ?_)
        refine f_istore (L' := [(7, .int r29), (6, .int r26), (0, .ref a0), (3, .ref v5), (4, .ref v11), (5, .int s14.1)]) hC dX4_holeLine_49 (by decide) rfl ?_
        refine f_aload_n hC dX4_holeLine_51 rfl 2 rfl ?_
        refine f_iload hC dX4_holeLine_52 0 rfl ?_
        refine f_iconst (v := (-1)) hC dX4_holeLine_54 (by decide) ?_
        obtain ⟨x32, h33, h15⟩ := fb_open h15
        have K35 : fAt X 2 12 8 s14.2 [(0, .ref a0), (3, .ref v5), (4, .ref v11), (5, .int s14.1)] [.int x32, .ref a0] 78 := by
          obtain ⟨r36, h37, h15⟩ := fb_open h15
          refine f_callV hC [.int x32] (c_X4_write l D cy a0 x32 s14.2 r36 h37) q_1260 q_73 q_1257 q_1259 q_59 h9_X4_write rfl (fSm.k p18 g3) ⟨Nat.le_of_ble_eq_true rfl, Nat.le_of_ble_eq_true rfl⟩ ⟨Nat.le_of_ble_eq_true rfl, Nat.le_of_ble_eq_true rfl⟩ (Nat.le_of_ble_eq_true rfl) rfl dX4_holeLine_78 (fun e38 => ?_)
          refine f_iinc (L' := [(5, .int (s14.1 + 1)), (0, .ref a0), (3, .ref v5), (4, .ref v11)]) hC dX4_holeLine_81 3 rfl rfl (by decide) rfl ?_
          refine f_goto hC 21 dX4_holeLine_84 (by decide) ?_
          obtain rfl := Option.some.inj h15
          refine f_sub (L' := [(0, .ref a0), (3, .ref v5), (4, .ref v11), (5, .int (s14.1 + 1))]) [1, 2, 3, 0] rfl ?_
          exact go16 _ rfl (fSm.tr e38 p18)
        refine f_icmp_ne hC 63 dX4_holeLine_55 (by decide) (fun c39 => ?_) (fun c39 => ?_)
        · replace h33 := fi_neg h33 c39
          refine f_aload hC dX4_holeLine_63 4 rfl ?_
          refine f_iload hC dX4_holeLine_65 0 rfl ?_
          refine f_aload hC dX4_holeLine_67 4 rfl ?_
          obtain ⟨g40, h33⟩ := fg_open h33
          refine f_getIN hC 0 2 2 rfl (by decide) iX0 q_155 rfl rfl (fSm.k p18 g40) dX4_holeLine_69 ?_
          obtain ⟨r41, h42, h33⟩ := fb_open h33
          refine f_callVN hC [.int r29, .int (gI s14.2 2 v11 0)] (c_X0_holesFor l D cy v11 r29 (gI s14.2 2 v11 0) s14.2 r41 h42) q_444 q_77 q_1253 q_443 q_7 h9_X0_holesFor rfl (fSm.k p18 g40) ⟨Nat.le_of_ble_eq_true rfl, Nat.le_of_ble_eq_true rfl⟩ ⟨Nat.le_of_ble_eq_true rfl, Nat.le_of_ble_eq_true rfl⟩ (Nat.le_of_ble_eq_true rfl) rfl dX4_holeLine_72 (fun e43 => ?_)
          obtain ⟨r44, h45, h33⟩ := fb_open h33
          refine f_callS hC [.int r41] (c_X4_digit l D cy r41 s14.2 r44 h45) q_1256 q_73 q_1254 q_1255 h9_X4_digit ⟨Nat.le_of_ble_eq_true rfl, Nat.le_of_ble_eq_true rfl⟩ ⟨Nat.le_of_ble_eq_true rfl, Nat.le_of_ble_eq_true rfl⟩ (Nat.le_of_ble_eq_true rfl) rfl dX4_holeLine_75 (fun e46 => ?_)
          obtain rfl := Option.some.inj h33
          refine f_sub (L' := [(0, .ref a0), (3, .ref v5), (4, .ref v11), (5, .int s14.1)]) [2, 3, 4, 5] rfl ?_
          exact K35
        · replace h33 := fi_pos h33 c39
          refine f_iload hC dX4_holeLine_58 1 rfl ?_
          refine f_goto hC 78 dX4_holeLine_60 (by decide) ?_
          obtain rfl := Option.some.inj h33
          refine f_sub (L' := [(0, .ref a0), (3, .ref v5), (4, .ref v11), (5, .int s14.1)]) [2, 3, 4, 5] rfl ?_
          exact K35
    · obtain rfl := Option.some.inj hF
      exact f_callST hC [.ref v5, .int x2] hEn (fSm.rf w) (Nat.le_of_ble_eq_true rfl) (Nat.le_of_ble_eq_true rfl) (c_X4_punchedHalf l D cy v5 x2 w (.inr x12) h9) q_524 q_73 q_522 q_523 h9_X4_punchedHalf ⟨Nat.le_of_ble_eq_true rfl, Nat.le_of_ble_eq_true rfl⟩ ⟨Nat.le_of_ble_eq_true rfl, Nat.le_of_ble_eq_true rfl⟩ (Nat.le_of_ble_eq_true rfl) rfl dX4_holeLine_8
  · obtain rfl := Option.some.inj hF
    exact f_callVT hC [.int x1] hEn (fSm.rf w) (Nat.le_of_ble_eq_true rfl) (Nat.le_of_ble_eq_true rfl) (c_X4_existing l D cy a0 x1 w (.inr x6) h2) q_404 q_73 q_401 q_403 q_1 h9_X4_existing rfl (fSm.k (fSm.rf w) g3) ⟨Nat.le_of_ble_eq_true rfl, Nat.le_of_ble_eq_true rfl⟩ ⟨Nat.le_of_ble_eq_true rfl, Nat.le_of_ble_eq_true rfl⟩ (Nat.le_of_ble_eq_true rfl) rfl dX4_holeLine_2
theorem dX4_refusal_0 : decode cX4_refusal 0 = .ok (.aload_n 0, 1) := by decide +kernel
theorem dX4_refusal_1 : decode cX4_refusal 1 = .ok (.getfield 54, 3) := by decide +kernel
theorem dX4_refusal_4 : decode cX4_refusal 4 = .ok (.ifCond .ne 14, 3) := by decide +kernel
theorem dX4_refusal_7 : decode cX4_refusal 7 = .ok (.new 325, 3) := by decide +kernel
theorem dX4_refusal_10 : decode cX4_refusal 10 = .ok (.dup, 1) := by decide +kernel
theorem dX4_refusal_11 : decode cX4_refusal 11 = .ok (.ldc_w 327, 3) := by decide +kernel
theorem dX4_refusal_14 : decode cX4_refusal 14 = .ok (.invokespecial 329, 3) := by decide +kernel
theorem dX4_refusal_17 : decode cX4_refusal 17 = .ok (.athrow, 1) := by decide +kernel
theorem dX4_refusal_18 : decode cX4_refusal 18 = .ok (.iload_n 1, 1) := by decide +kernel
theorem dX4_refusal_19 : decode cX4_refusal 19 = .ok (.ifCond .eq 10, 3) := by decide +kernel
theorem dX4_refusal_22 : decode cX4_refusal 22 = .ok (.aload_n 0, 1) := by decide +kernel
theorem dX4_refusal_23 : decode cX4_refusal 23 = .ok (.getfield 57, 3) := by decide +kernel
theorem dX4_refusal_26 : decode cX4_refusal 26 = .ok (.goto 7, 3) := by decide +kernel
theorem dX4_refusal_29 : decode cX4_refusal 29 = .ok (.aload_n 0, 1) := by decide +kernel
theorem dX4_refusal_30 : decode cX4_refusal 30 = .ok (.getfield 54, 3) := by decide +kernel
theorem dX4_refusal_33 : decode cX4_refusal 33 = .ok (.ireturn, 1) := by decide +kernel
theorem h9_X4_refusal : yX4_refusal.cls ≠ "java/lang/invoke/MethodHandle" ∧ yX4_refusal.cls ≠ "java/lang/invoke/VarHandle" ∧ (parseMethodDescriptor yX4_refusal.desc).map (fun d => d.parameters.length) = some 1 := by decide +kernel
noncomputable def F_X4_refusal (a0 : Nat) (x1 : Int32) (w : FW) : Option (Int32 ⊕ Nat) :=
  fg (w.1 a0 = 5) inferInstance ((if (gI w 411 a0 0) = 0 then some (.inr 0) else (if x1 = 0 then some (.inl (gI w 411 a0 0)) else some (.inl (gI w 412 a0 0)))))
set_option maxHeartbeats 4000000 in
set_option maxRecDepth 100000 in
theorem c_X4_refusal (l : Launch) (D : va_G) (cy : Nat → ClassId) (a0 : Nat) (x1 : Int32) (w : FW) (r : Int32 ⊕ Nat) (hF : F_X4_refusal a0 x1 w = some r) : fSpecX l D cy yX4_refusal cX4_refusal 2 (some .int) { frames := 6, cells := 1, slots := 6, locals := 100 } [.ref a0, .int x1] w w (fOI r) := by
  refine f_beginX (by decide +kernel) (Nat.le_of_ble_eq_true rfl) (fun X hC hEn => ?_)
  have hst := f_st hC hEn
  unfold F_X4_refusal at hF
  show fAt X 0 0 2 w [(0, .ref a0), (1, .int x1)] [] 0
  refine f_aload_n hC dX4_refusal_0 rfl 0 rfl ?_
  obtain ⟨g1, hF⟩ := fg_open hF
  refine f_getI hC 4 11 411 rfl (by decide) iX4 q_271 rfl rfl (fSm.k (fSm.rf w) g1) dX4_refusal_1 ?_
  refine f_if_ne hC 18 dX4_refusal_4 (by decide) (fun c2 => ?_) (fun c2 => ?_)
  · replace hF := fi_neg hF c2
    refine f_iload_n hC dX4_refusal_18 rfl 1 rfl ?_
    refine f_if_eq hC 29 dX4_refusal_19 (by decide) (fun c3 => ?_) (fun c3 => ?_)
    · replace hF := fi_pos hF c3
      refine f_aload_n hC dX4_refusal_29 rfl 0 rfl ?_
      refine f_getI hC 4 11 411 rfl (by decide) iX4 q_271 rfl rfl (fSm.k (fSm.rf w) g1) dX4_refusal_30 ?_
      obtain rfl := Option.some.inj hF
      refine f_widen (k' := 1) (s' := 6) (Nat.le_of_ble_eq_true rfl) (Nat.le_of_ble_eq_true rfl) ?_
      exact f_iretX hC hEn (fSm.rf w) dX4_refusal_33
    · replace hF := fi_neg hF c3
      refine f_aload_n hC dX4_refusal_22 rfl 0 rfl ?_
      refine f_getI hC 4 12 412 rfl (by decide) iX4 q_272 rfl rfl (fSm.k (fSm.rf w) g1) dX4_refusal_23 ?_
      refine f_goto hC 33 dX4_refusal_26 (by decide) ?_
      obtain rfl := Option.some.inj hF
      refine f_widen (k' := 1) (s' := 6) (Nat.le_of_ble_eq_true rfl) (Nat.le_of_ble_eq_true rfl) ?_
      exact f_iretX hC hEn (fSm.rf w) dX4_refusal_33
  · replace hF := fi_pos hF c2
    obtain rfl := Option.some.inj hF
    exact f_throwSW hC hEn (fSm.rf w) 47 rfl xf_0 xn_0 q_579 q_97 rfl xa_RX4_329 xg_RX4_325_329 dX4_refusal_7 dX4_refusal_10 dX4_refusal_11 dX4_refusal_14 dX4_refusal_17 (Nat.le_of_ble_eq_true rfl) (Nat.le_of_ble_eq_true rfl) (Nat.le_of_ble_eq_true rfl) (Nat.le_of_ble_eq_true rfl) (Nat.le_of_ble_eq_true rfl) (Nat.le_of_ble_eq_true rfl)
