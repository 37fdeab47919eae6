theorem dX0_seenAs_0 : decode cX0_seenAs 0 = .ok (.iload_n 1, 1) := by decide +kernel
theorem dX0_seenAs_1 : decode cX0_seenAs 1 = .ok (.invokestatic 43, 3) := by decide +kernel
theorem dX0_seenAs_4 : decode cX0_seenAs 4 = .ok (.istore 4, 2) := by decide +kernel
theorem dX0_seenAs_6 : decode cX0_seenAs 6 = .ok (.iload 4, 2) := by decide +kernel
theorem dX0_seenAs_8 : decode cX0_seenAs 8 = .ok (.iconst (-1), 1) := by decide +kernel
theorem dX0_seenAs_9 : decode cX0_seenAs 9 = .ok (.if_icmp .ne 5, 3) := by decide +kernel
theorem dX0_seenAs_12 : decode cX0_seenAs 12 = .ok (.iload_n 1, 1) := by decide +kernel
theorem dX0_seenAs_13 : decode cX0_seenAs 13 = .ok (.ireturn, 1) := by decide +kernel
theorem dX0_seenAs_14 : decode cX0_seenAs 14 = .ok (.aload_n 0, 1) := by decide +kernel
theorem dX0_seenAs_15 : decode cX0_seenAs 15 = .ok (.iload 4, 2) := by decide +kernel
theorem dX0_seenAs_17 : decode cX0_seenAs 17 = .ok (.iload_n 3, 1) := by decide +kernel
theorem dX0_seenAs_18 : decode cX0_seenAs 18 = .ok (.invokevirtual 47, 3) := by decide +kernel
theorem dX0_seenAs_21 : decode cX0_seenAs 21 = .ok (.istore 5, 2) := by decide +kernel
theorem dX0_seenAs_23 : decode cX0_seenAs 23 = .ok (.iload 5, 2) := by decide +kernel
theorem dX0_seenAs_25 : decode cX0_seenAs 25 = .ok (.ifCond .ne 8, 3) := by decide +kernel
theorem dX0_seenAs_28 : decode cX0_seenAs 28 = .ok (.bipush 63, 2) := by decide +kernel
theorem dX0_seenAs_30 : decode cX0_seenAs 30 = .ok (.goto 18, 3) := by decide +kernel
theorem dX0_seenAs_33 : decode cX0_seenAs 33 = .ok (.ldc 50, 2) := by decide +kernel
theorem dX0_seenAs_35 : decode cX0_seenAs 35 = .ok (.iload 5, 2) := by decide +kernel
theorem dX0_seenAs_37 : decode cX0_seenAs 37 = .ok (.iconst 1, 1) := by decide +kernel
theorem dX0_seenAs_38 : decode cX0_seenAs 38 = .ok (.isub, 1) := by decide +kernel
theorem dX0_seenAs_39 : decode cX0_seenAs 39 = .ok (.iload_n 2, 1) := by decide +kernel
theorem dX0_seenAs_40 : decode cX0_seenAs 40 = .ok (.isub, 1) := by decide +kernel
theorem dX0_seenAs_41 : decode cX0_seenAs 41 = .ok (.iconst 5, 1) := by decide +kernel
theorem dX0_seenAs_42 : decode cX0_seenAs 42 = .ok (.invokestatic 52, 3) := by decide +kernel
theorem dX0_seenAs_45 : decode cX0_seenAs 45 = .ok (.invokevirtual 55, 3) := by decide +kernel
theorem dX0_seenAs_48 : decode cX0_seenAs 48 = .ok (.ireturn, 1) := by decide +kernel
theorem h9_X0_seenAs : yX0_seenAs.cls ≠ "java/lang/invoke/MethodHandle" ∧ yX0_seenAs.cls ≠ "java/lang/invoke/VarHandle" ∧ (parseMethodDescriptor yX0_seenAs.desc).map (fun d => d.parameters.length) = some 3 := by decide +kernel
noncomputable def F_X0_seenAs (a0 : Nat) (x1 : Int32) (x2 : Int32) (x3 : Int32) (w : FW) : Option (Int32) :=
  (F_X4_vowelNumber x1 w).bind (fun r1 => (if r1 = (-1) then fg (fch x1 = x1) inferInstance (some x1) else fg (w.1 a0 = 1) inferInstance ((F_X0_holesFor a0 r1 x3 w).bind (fun r5 => (if r5 = 0 then some 63 else (F_J9_floorMod_7cf53 ((r5 - 1) - x2) 5 w).bind (fun r10 => fg (¬ (r10 < 0 ∨ (fByt.getD 0 []).length ≤ Int32.toNatClampNeg r10)) inferInstance (fg (fch (fsc 0 r10) = (fsc 0 r10)) inferInstance (some (fsc 0 r10)))))))))
set_option maxHeartbeats 4000000 in
set_option maxRecDepth 100000 in
theorem c_X0_seenAs (l : Launch) (D : va_G) (cy : Nat → ClassId) (a0 : Nat) (x1 : Int32) (x2 : Int32) (x3 : Int32) (w : FW) (r : Int32) (hF : F_X0_seenAs a0 x1 x2 x3 w = some r) : fSpec l D cy yX0_seenAs cX0_seenAs 6 (some .char) { frames := 4, cells := 0, slots := 0, locals := 85 } [.ref a0, .int x1, .int x2, .int x3] w w (some (.int r)) := by
  refine f_begin (by decide +kernel) (Nat.le_of_ble_eq_true rfl) (fun X hC hEn => ?_)
  unfold F_X0_seenAs at hF
  show fAt X 0 0 6 w [(0, .ref a0), (1, .int x1), (2, .int x2), (3, .int x3)] [] 0
  refine f_iload_n hC dX0_seenAs_0 rfl 1 rfl ?_
  obtain ⟨r1, h2, hF⟩ := fb_open hF
  refine f_callSN hC [.int x1] (c_X4_vowelNumber l D cy x1 w r1 h2) q_440 q_73 q_438 q_439 h9_X4_vowelNumber ⟨Nat.le_of_ble_eq_true rfl, Nat.le_of_ble_eq_true rfl⟩ ⟨Nat.le_of_ble_eq_true rfl, Nat.le_of_ble_eq_true rfl⟩ (Nat.le_of_ble_eq_true rfl) rfl dX0_seenAs_1 (fun e3 => ?_)
  refine f_istore (L' := [(4, .int r1), (0, .ref a0), (1, .int x1), (2, .int x2), (3, .int x3)]) hC dX0_seenAs_4 (by decide) rfl ?_
  refine f_iload hC dX0_seenAs_6 0 rfl ?_
  refine f_iconst (v := (-1)) hC dX0_seenAs_8 (by decide) ?_
  refine f_icmp_ne hC 14 dX0_seenAs_9 (by decide) (fun c4 => ?_) (fun c4 => ?_)
  · replace hF := fi_neg hF c4
    refine f_aload_n hC dX0_seenAs_14 rfl 1 rfl ?_
    refine f_iload hC dX0_seenAs_15 0 rfl ?_
    refine f_iload_n hC dX0_seenAs_17 rfl 4 rfl ?_
    obtain ⟨g7, hF⟩ := fg_open hF
    obtain ⟨r5, h6, hF⟩ := fb_open hF
    refine f_callV hC [.int r1, .int x3] (c_X0_holesFor l D cy a0 r1 x3 w r5 h6) q_444 q_77 q_441 q_443 q_7 h9_X0_holesFor rfl (fSm.k (fSm.rf w) g7) ⟨Nat.le_of_ble_eq_true rfl, Nat.le_of_ble_eq_true rfl⟩ ⟨Nat.le_of_ble_eq_true rfl, Nat.le_of_ble_eq_true rfl⟩ (Nat.le_of_ble_eq_true rfl) rfl dX0_seenAs_18 (fun e8 => ?_)
    refine f_istore (L' := [(5, .int r5), (4, .int r1), (0, .ref a0), (1, .int x1), (2, .int x2), (3, .int x3)]) hC dX0_seenAs_21 (by decide) rfl ?_
    refine f_iload hC dX0_seenAs_23 0 rfl ?_
    refine f_if_ne hC 33 dX0_seenAs_25 (by decide) (fun c9 => ?_) (fun c9 => ?_)
    · replace hF := fi_neg hF c9
      refine f_ldcS hC 0 rfl dX0_seenAs_33 ?_
      refine f_iload hC dX0_seenAs_35 0 rfl ?_
      refine f_iconst (v := 1) hC dX0_seenAs_37 (by decide) ?_
      refine f_isub hC dX0_seenAs_38 ?_
      refine f_iload_n hC dX0_seenAs_39 rfl 4 rfl ?_
      refine f_isub hC dX0_seenAs_40 ?_
      refine f_iconst (v := 5) hC dX0_seenAs_41 (by decide) ?_
      obtain ⟨r10, h11, hF⟩ := fb_open hF
      refine f_callS hC [.int ((r5 - 1) - x2), .int 5] (c_J9_floorMod_7cf53 l D cy ((r5 - 1) - x2) 5 w r10 h11) q_456 q_85 q_454 q_455 h9_J9_floorMod_7cf53 ⟨Nat.le_of_ble_eq_true rfl, Nat.le_of_ble_eq_true rfl⟩ ⟨Nat.le_of_ble_eq_true rfl, Nat.le_of_ble_eq_true rfl⟩ (Nat.le_of_ble_eq_true rfl) rfl dX0_seenAs_42 (fun e12 => ?_)
      obtain ⟨g13, hF⟩ := fg_open hF
      refine f_callStr hC [.int r10] (c_charAt l D cy w 0 r10 (by decide) g13) (by decide) rfl q_s559 q_s144 q_457 q_s557 q_s558 h9_J0_charAt_5068e ⟨Nat.le_of_ble_eq_true rfl, Nat.le_of_ble_eq_true rfl⟩ ⟨Nat.le_of_ble_eq_true rfl, Nat.le_of_ble_eq_true rfl⟩ (Nat.le_of_ble_eq_true rfl) rfl dX0_seenAs_45 (fun _ => ?_)
      obtain ⟨g14, hF⟩ := fg_open hF
      obtain rfl := Option.some.inj hF
      exact f_zret hC hEn (fSm.rf w) (nar_c g14) dX0_seenAs_48
    · replace hF := fi_pos hF c9
      refine f_bipush (v := 63) hC dX0_seenAs_28 (by decide) ?_
      refine f_goto hC 48 dX0_seenAs_30 (by decide) ?_
      obtain rfl := Option.some.inj hF
      exact f_zret hC hEn (fSm.rf w) (nar_c (by decide)) dX0_seenAs_48
  · replace hF := fi_pos hF c4
    refine f_iload_n hC dX0_seenAs_12 rfl 2 rfl ?_
    obtain ⟨g15, hF⟩ := fg_open hF
    obtain rfl := Option.some.inj hF
    exact f_zret hC hEn (fSm.rf w) (nar_c g15) dX0_seenAs_13
theorem dX0_rightLetters_0 : decode cX0_rightLetters 0 = .ok (.iconst 0, 1) := by decide +kernel
theorem dX0_rightLetters_1 : decode cX0_rightLetters 1 = .ok (.istore 4, 2) := by decide +kernel
theorem dX0_rightLetters_3 : decode cX0_rightLetters 3 = .ok (.iconst 0, 1) := by decide +kernel
theorem dX0_rightLetters_4 : decode cX0_rightLetters 4 = .ok (.istore 5, 2) := by decide +kernel
theorem dX0_rightLetters_6 : decode cX0_rightLetters 6 = .ok (.iload 5, 2) := by decide +kernel
theorem dX0_rightLetters_8 : decode cX0_rightLetters 8 = .ok (.aload_n 1, 1) := by decide +kernel
theorem dX0_rightLetters_9 : decode cX0_rightLetters 9 = .ok (.getfield 34, 3) := by decide +kernel
theorem dX0_rightLetters_12 : decode cX0_rightLetters 12 = .ok (.if_icmp .ge 33, 3) := by decide +kernel
theorem dX0_rightLetters_15 : decode cX0_rightLetters 15 = .ok (.aload_n 1, 1) := by decide +kernel
theorem dX0_rightLetters_16 : decode cX0_rightLetters 16 = .ok (.iload 5, 2) := by decide +kernel
theorem dX0_rightLetters_18 : decode cX0_rightLetters 18 = .ok (.invokevirtual 39, 3) := by decide +kernel
theorem dX0_rightLetters_21 : decode cX0_rightLetters 21 = .ok (.istore 6, 2) := by decide +kernel
theorem dX0_rightLetters_23 : decode cX0_rightLetters 23 = .ok (.aload_n 0, 1) := by decide +kernel
theorem dX0_rightLetters_24 : decode cX0_rightLetters 24 = .ok (.iload 6, 2) := by decide +kernel
theorem dX0_rightLetters_26 : decode cX0_rightLetters 26 = .ok (.iload_n 2, 1) := by decide +kernel
theorem dX0_rightLetters_27 : decode cX0_rightLetters 27 = .ok (.iload_n 3, 1) := by decide +kernel
theorem dX0_rightLetters_28 : decode cX0_rightLetters 28 = .ok (.invokevirtual 60, 3) := by decide +kernel
theorem dX0_rightLetters_31 : decode cX0_rightLetters 31 = .ok (.iload 6, 2) := by decide +kernel
theorem dX0_rightLetters_33 : decode cX0_rightLetters 33 = .ok (.if_icmp .ne 6, 3) := by decide +kernel
theorem dX0_rightLetters_36 : decode cX0_rightLetters 36 = .ok (.iinc 4 1, 3) := by decide +kernel
theorem dX0_rightLetters_39 : decode cX0_rightLetters 39 = .ok (.iinc 5 1, 3) := by decide +kernel
theorem dX0_rightLetters_42 : decode cX0_rightLetters 42 = .ok (.goto (-36), 3) := by decide +kernel
theorem dX0_rightLetters_45 : decode cX0_rightLetters 45 = .ok (.iload 4, 2) := by decide +kernel
theorem dX0_rightLetters_47 : decode cX0_rightLetters 47 = .ok (.ireturn, 1) := by decide +kernel
theorem h9_X0_rightLetters : yX0_rightLetters.cls ≠ "java/lang/invoke/MethodHandle" ∧ yX0_rightLetters.cls ≠ "java/lang/invoke/VarHandle" ∧ (parseMethodDescriptor yX0_rightLetters.desc).map (fun d => d.parameters.length) = some 3 := by decide +kernel
noncomputable def F_X0_rightLetters (a0 : Nat) (a1 : Nat) (x2 : Int32) (x3 : Int32) (w : FW) : Option (Int32) :=
  (fLoop (σ := Int32 × Int32) (ρ := Int32) (fun s1 => fg (w.1 a1 = 4) inferInstance ((if (gI w 301 a1 0) ≤ s1.2 then some (.inr s1.1) else (F_X3_letterAt a1 s1.2 w).bind (fun r12 => fg (w.1 a0 = 1) inferInstance ((F_X0_seenAs a0 r12 x2 x3 w).bind (fun r15 => (if r15 = r12 then some (.inl ((s1.1 + 1), (s1.2 + 1))) else some (.inl (s1.1, (s1.2 + 1)))))))))) (0, 0)).bind (fun x7 => some x7)
set_option maxHeartbeats 4000000 in
set_option maxRecDepth 100000 in
theorem c_X0_rightLetters (l : Launch) (D : va_G) (cy : Nat → ClassId) (a0 : Nat) (a1 : Nat) (x2 : Int32) (x3 : Int32) (w : FW) (r : Int32) (hF : F_X0_rightLetters a0 a1 x2 x3 w = some r) : fSpec l D cy yX0_rightLetters cX0_rightLetters 7 (some .int) { frames := 5, cells := 0, slots := 0, locals := 110 } [.ref a0, .ref a1, .int x2, .int x3] w w (some (.int r)) := by
  refine f_begin (by decide +kernel) (Nat.le_of_ble_eq_true rfl) (fun X hC hEn => ?_)
  unfold F_X0_rightLetters at hF
  show fAt X 0 0 7 w [(0, .ref a0), (1, .ref a1), (2, .int x2), (3, .int x3)] [] 0
  refine f_iconst (v := 0) hC dX0_rightLetters_0 (by decide) ?_
  refine f_istore (L' := [(4, .int 0), (0, .ref a0), (1, .ref a1), (2, .int x2), (3, .int x3)]) hC dX0_rightLetters_1 (by decide) rfl ?_
  refine f_iconst (v := 0) hC dX0_rightLetters_3 (by decide) ?_
  refine f_istore (L' := [(5, .int 0), (4, .int 0), (0, .ref a0), (1, .ref a1), (2, .int x2), (3, .int x3)]) hC dX0_rightLetters_4 (by decide) rfl ?_
  obtain ⟨x7, h8, hF⟩ := fb_open hF
  have K9 : fAt X 0 0 7 w [(4, .int x7)] [] 45 := by
    refine f_iload hC dX0_rightLetters_45 0 rfl ?_
    obtain rfl := Option.some.inj hF
    exact f_iret hC hEn (fSm.rf w) dX0_rightLetters_47
  refine f_sub (L' := [(0, .ref a0), (1, .ref a1), (2, .int x2), (3, .int x3), (4, .int 0), (5, .int 0)]) [2, 3, 4, 5, 1, 0] rfl ?_
  refine fLoop_ind (fun (s1 : Int32 × Int32) => fAt X 0 0 7 w [(0, .ref a0), (1, .ref a1), (2, .int x2), (3, .int x3), (4, .int s1.1), (5, .int s1.2)] [] 6) (fun s1 y6 h2 go3 ou4 => ?_) h8
  refine f_iload hC dX0_rightLetters_6 5 rfl ?_
  refine f_aload_n hC dX0_rightLetters_8 rfl 1 rfl ?_
  obtain ⟨g10, h2⟩ := fg_open h2
  refine f_getIN hC 3 1 301 rfl (by decide) iX3 q_125 rfl rfl (fSm.k (fSm.rf w) g10) dX0_rightLetters_9 ?_
  refine f_icmp_ge hC 45 dX0_rightLetters_12 (by decide) (fun c11 => ?_) (fun c11 => ?_)
  · replace h2 := fi_pos h2 c11
    obtain rfl := Option.some.inj h2
    obtain rfl := ou4 _ rfl
    refine f_sub (L' := [(4, .int s1.1)]) [4] rfl ?_
    exact K9
  · replace h2 := fi_neg h2 c11
    refine f_aload_n hC dX0_rightLetters_15 rfl 1 rfl ?_
    refine f_iload hC dX0_rightLetters_16 5 rfl ?_
    obtain ⟨r12, h13, h2⟩ := fb_open h2
    refine f_callVN hC [.int s1.2] (c_X3_letterAt l D cy a1 s1.2 w r12 h13) q_433 q_75 q_430 q_432 q_5 h9_X3_letterAt rfl (fSm.k (fSm.rf w) g10) ⟨Nat.le_of_ble_eq_true rfl, Nat.le_of_ble_eq_true rfl⟩ ⟨Nat.le_of_ble_eq_true rfl, Nat.le_of_ble_eq_true rfl⟩ (Nat.le_of_ble_eq_true rfl) rfl dX0_rightLetters_18 (fun e14 => ?_)
    refine f_istore (L' := [(6, .int r12), (0, .ref a0), (1, .ref a1), (2, .int x2), (3, .int x3), (4, .int s1.1), (5, .int s1.2)]) hC dX0_rightLetters_21 (by decide) rfl ?_
    refine f_aload_n hC dX0_rightLetters_23 rfl 1 rfl ?_
    refine f_iload hC dX0_rightLetters_24 0 rfl ?_
    refine f_iload_n hC dX0_rightLetters_26 rfl 3 rfl ?_
    refine f_iload_n hC dX0_rightLetters_27 rfl 4 rfl ?_
    obtain ⟨g17, h2⟩ := fg_open h2
    obtain ⟨r15, h16, h2⟩ := fb_open h2
    refine f_callV hC [.int r12, .int x2, .int x3] (c_X0_seenAs l D cy a0 r12 x2 x3 w r15 h16) q_452 q_77 q_449 q_451 q_9 h9_X0_seenAs rfl (fSm.k (fSm.rf w) g17) ⟨Nat.le_of_ble_eq_true rfl, Nat.le_of_ble_eq_true rfl⟩ ⟨Nat.le_of_ble_eq_true rfl, Nat.le_of_ble_eq_true rfl⟩ (Nat.le_of_ble_eq_true rfl) rfl dX0_rightLetters_28 (fun e18 => ?_)
    refine f_iload hC dX0_rightLetters_31 0 rfl ?_
    refine f_icmp_ne hC 39 dX0_rightLetters_33 (by decide) (fun c19 => ?_) (fun c19 => ?_)
    · replace h2 := fi_neg h2 c19
      refine f_iinc (L' := [(5, .int (s1.2 + 1)), (6, .int r12), (0, .ref a0), (1, .ref a1), (2, .int x2), (3, .int x3), (4, .int s1.1)]) hC dX0_rightLetters_39 6 rfl rfl (by decide) rfl ?_
      refine f_goto hC 6 dX0_rightLetters_42 (by decide) ?_
      obtain rfl := Option.some.inj h2
      refine f_sub (L' := [(0, .ref a0), (1, .ref a1), (2, .int x2), (3, .int x3), (4, .int s1.1), (5, .int (s1.2 + 1))]) [2, 3, 4, 5, 6, 0] rfl ?_
      exact go3 _ rfl
    · replace h2 := fi_pos h2 c19
      refine f_iinc (L' := [(4, .int (s1.1 + 1)), (6, .int r12), (0, .ref a0), (1, .ref a1), (2, .int x2), (3, .int x3), (5, .int s1.2)]) hC dX0_rightLetters_36 5 rfl rfl (by decide) rfl ?_
      refine f_iinc (L' := [(5, .int (s1.2 + 1)), (4, .int (s1.1 + 1)), (6, .int r12), (0, .ref a0), (1, .ref a1), (2, .int x2), (3, .int x3)]) hC dX0_rightLetters_39 6 rfl rfl (by decide) rfl ?_
      refine f_goto hC 6 dX0_rightLetters_42 (by decide) ?_
      obtain rfl := Option.some.inj h2
      refine f_sub (L' := [(0, .ref a0), (1, .ref a1), (2, .int x2), (3, .int x3), (4, .int (s1.1 + 1)), (5, .int (s1.2 + 1))]) [3, 4, 5, 6, 1, 0] rfl ?_
      exact go3 _ rfl
theorem dX4_halfOf_0 : decode cX4_halfOf 0 = .ok (.aload_n 0, 1) := by decide +kernel
theorem dX4_halfOf_1 : decode cX4_halfOf 1 = .ok (.iload_n 1, 1) := by decide +kernel
theorem dX4_halfOf_2 : decode cX4_halfOf 2 = .ok (.invokevirtual 115, 3) := by decide +kernel
theorem dX4_halfOf_5 : decode cX4_halfOf 5 = .ok (.astore 4, 2) := by decide +kernel
theorem dX4_halfOf_7 : decode cX4_halfOf 7 = .ok (.aload 4, 2) := by decide +kernel
theorem dX4_halfOf_9 : decode cX4_halfOf 9 = .ok (.iload_n 2, 1) := by decide +kernel
theorem dX4_halfOf_10 : decode cX4_halfOf 10 = .ok (.invokevirtual 166, 3) := by decide +kernel
theorem dX4_halfOf_13 : decode cX4_halfOf 13 = .ok (.astore 5, 2) := by decide +kernel
theorem dX4_halfOf_15 : decode cX4_halfOf 15 = .ok (.iload_n 3, 1) := by decide +kernel
theorem dX4_halfOf_16 : decode cX4_halfOf 16 = .ok (.tableswitch 163 0 7 #[48, 62, 68, 74, 86, 102, 116, 130], 48) := by decide +kernel
theorem dX4_halfOf_64 : decode cX4_halfOf 64 = .ok (.aload 5, 2) := by decide +kernel
theorem dX4_halfOf_66 : decode cX4_halfOf 66 = .ok (.getfield 195, 3) := by decide +kernel
theorem dX4_halfOf_69 : decode cX4_halfOf 69 = .ok (.ifCond .eq 7, 3) := by decide +kernel
theorem dX4_halfOf_72 : decode cX4_halfOf 72 = .ok (.iconst 1, 1) := by decide +kernel
theorem dX4_halfOf_73 : decode cX4_halfOf 73 = .ok (.goto 4, 3) := by decide +kernel
theorem dX4_halfOf_76 : decode cX4_halfOf 76 = .ok (.iconst 0, 1) := by decide +kernel
theorem dX4_halfOf_77 : decode cX4_halfOf 77 = .ok (.ireturn, 1) := by decide +kernel
theorem dX4_halfOf_78 : decode cX4_halfOf 78 = .ok (.aload 5, 2) := by decide +kernel
theorem dX4_halfOf_80 : decode cX4_halfOf 80 = .ok (.getfield 198, 3) := by decide +kernel
theorem dX4_halfOf_83 : decode cX4_halfOf 83 = .ok (.ireturn, 1) := by decide +kernel
theorem dX4_halfOf_84 : decode cX4_halfOf 84 = .ok (.aload 5, 2) := by decide +kernel
theorem dX4_halfOf_86 : decode cX4_halfOf 86 = .ok (.getfield 179, 3) := by decide +kernel
theorem dX4_halfOf_89 : decode cX4_halfOf 89 = .ok (.ireturn, 1) := by decide +kernel
theorem dX4_halfOf_90 : decode cX4_halfOf 90 = .ok (.aload 5, 2) := by decide +kernel
theorem dX4_halfOf_92 : decode cX4_halfOf 92 = .ok (.aload 4, 2) := by decide +kernel
theorem dX4_halfOf_94 : decode cX4_halfOf 94 = .ok (.getfield 119, 3) := by decide +kernel
theorem dX4_halfOf_97 : decode cX4_halfOf 97 = .ok (.iconst 0, 1) := by decide +kernel
theorem dX4_halfOf_98 : decode cX4_halfOf 98 = .ok (.invokevirtual 170, 3) := by decide +kernel
theorem dX4_halfOf_101 : decode cX4_halfOf 101 = .ok (.ireturn, 1) := by decide +kernel
theorem dX4_halfOf_102 : decode cX4_halfOf 102 = .ok (.aload 5, 2) := by decide +kernel
theorem dX4_halfOf_104 : decode cX4_halfOf 104 = .ok (.aload 4, 2) := by decide +kernel
theorem dX4_halfOf_106 : decode cX4_halfOf 106 = .ok (.getfield 119, 3) := by decide +kernel
theorem dX4_halfOf_109 : decode cX4_halfOf 109 = .ok (.aload 5, 2) := by decide +kernel
theorem dX4_halfOf_111 : decode cX4_halfOf 111 = .ok (.getfield 179, 3) := by decide +kernel
theorem dX4_halfOf_114 : decode cX4_halfOf 114 = .ok (.invokevirtual 170, 3) := by decide +kernel
theorem dX4_halfOf_117 : decode cX4_halfOf 117 = .ok (.ireturn, 1) := by decide +kernel
theorem dX4_halfOf_118 : decode cX4_halfOf 118 = .ok (.aload 5, 2) := by decide +kernel
theorem dX4_halfOf_120 : decode cX4_halfOf 120 = .ok (.getfield 201, 3) := by decide +kernel
theorem dX4_halfOf_123 : decode cX4_halfOf 123 = .ok (.ifCond .eq 7, 3) := by decide +kernel
theorem dX4_halfOf_126 : decode cX4_halfOf 126 = .ok (.iconst 1, 1) := by decide +kernel
theorem dX4_halfOf_127 : decode cX4_halfOf 127 = .ok (.goto 4, 3) := by decide +kernel
theorem dX4_halfOf_130 : decode cX4_halfOf 130 = .ok (.iconst 0, 1) := by decide +kernel
theorem dX4_halfOf_131 : decode cX4_halfOf 131 = .ok (.ireturn, 1) := by decide +kernel
theorem dX4_halfOf_132 : decode cX4_halfOf 132 = .ok (.aload 5, 2) := by decide +kernel
theorem dX4_halfOf_134 : decode cX4_halfOf 134 = .ok (.getfield 204, 3) := by decide +kernel
theorem dX4_halfOf_137 : decode cX4_halfOf 137 = .ok (.ifCond .eq 7, 3) := by decide +kernel
theorem dX4_halfOf_140 : decode cX4_halfOf 140 = .ok (.iconst 1, 1) := by decide +kernel
theorem dX4_halfOf_141 : decode cX4_halfOf 141 = .ok (.goto 4, 3) := by decide +kernel
theorem dX4_halfOf_144 : decode cX4_halfOf 144 = .ok (.iconst 0, 1) := by decide +kernel
theorem dX4_halfOf_145 : decode cX4_halfOf 145 = .ok (.ireturn, 1) := by decide +kernel
theorem dX4_halfOf_146 : decode cX4_halfOf 146 = .ok (.aload 5, 2) := by decide +kernel
theorem dX4_halfOf_148 : decode cX4_halfOf 148 = .ok (.getfield 195, 3) := by decide +kernel
theorem dX4_halfOf_151 : decode cX4_halfOf 151 = .ok (.ifCond .eq 26, 3) := by decide +kernel
theorem dX4_halfOf_154 : decode cX4_halfOf 154 = .ok (.aload 5, 2) := by decide +kernel
theorem dX4_halfOf_156 : decode cX4_halfOf 156 = .ok (.aload 4, 2) := by decide +kernel
theorem dX4_halfOf_158 : decode cX4_halfOf 158 = .ok (.getfield 119, 3) := by decide +kernel
theorem dX4_halfOf_161 : decode cX4_halfOf 161 = .ok (.aload 5, 2) := by decide +kernel
theorem dX4_halfOf_163 : decode cX4_halfOf 163 = .ok (.getfield 198, 3) := by decide +kernel
theorem dX4_halfOf_166 : decode cX4_halfOf 166 = .ok (.aload 5, 2) := by decide +kernel
theorem dX4_halfOf_168 : decode cX4_halfOf 168 = .ok (.getfield 179, 3) := by decide +kernel
theorem dX4_halfOf_171 : decode cX4_halfOf 171 = .ok (.invokevirtual 207, 3) := by decide +kernel
theorem dX4_halfOf_174 : decode cX4_halfOf 174 = .ok (.goto 4, 3) := by decide +kernel
theorem dX4_halfOf_177 : decode cX4_halfOf 177 = .ok (.iconst 0, 1) := by decide +kernel
theorem dX4_halfOf_178 : decode cX4_halfOf 178 = .ok (.ireturn, 1) := by decide +kernel
theorem dX4_halfOf_179 : decode cX4_halfOf 179 = .ok (.new 142, 3) := by decide +kernel
theorem dX4_halfOf_182 : decode cX4_halfOf 182 = .ok (.dup, 1) := by decide +kernel
theorem dX4_halfOf_183 : decode cX4_halfOf 183 = .ok (.ldc 211, 2) := by decide +kernel
theorem dX4_halfOf_185 : decode cX4_halfOf 185 = .ok (.invokespecial 146, 3) := by decide +kernel
theorem dX4_halfOf_188 : decode cX4_halfOf 188 = .ok (.athrow, 1) := by decide +kernel
theorem h9_X4_halfOf : yX4_halfOf.cls ≠ "java/lang/invoke/MethodHandle" ∧ yX4_halfOf.cls ≠ "java/lang/invoke/VarHandle" ∧ (parseMethodDescriptor yX4_halfOf.desc).map (fun d => d.parameters.length) = some 3 := by decide +kernel
noncomputable def F_X4_halfOf (a0 : Nat) (x1 : Int32) (x2 : Int32) (x3 : Int32) (w : FW) : Option (Int32 ⊕ Nat) :=
  fg (w.1 a0 = 5) inferInstance ((F_X4_existing a0 x1 w).bind (fun r1 => fse r1 (fun v5 => fg (w.1 v5 = 3) inferInstance ((F_X2_half v5 x2 w).bind (fun r8 => (if x3 = 0 then fg (w.1 r8 = 1) inferInstance ((if (gI w 0 r8 0) = 0 then some (.inl 0) else some (.inl 1))) else (if x3 = 1 then fg (w.1 r8 = 1) inferInstance (some (.inl (gI w 1 r8 0))) else (if x3 = 2 then fg (w.1 r8 = 1) inferInstance (some (.inl (gI w 2 r8 0))) else (if x3 = 3 then fg (w.1 r8 = 1) inferInstance ((F_X0_holesWhenWet r8 (gR w 200 v5 0) 0 w).bind (fun r20 => some (.inl r20))) else (if x3 = 4 then fg (w.1 r8 = 1) inferInstance ((F_X0_holesWhenWet r8 (gR w 200 v5 0) (gI w 2 r8 0) w).bind (fun r26 => some (.inl r26))) else (if x3 = 5 then fg (w.1 r8 = 1) inferInstance ((if (gI w 3 r8 0) = 0 then some (.inl 0) else some (.inl 1))) else (if x3 = 6 then fg (w.1 r8 = 1) inferInstance ((if (gI w 4 r8 0) = 0 then some (.inl 0) else some (.inl 1))) else (if x3 = 7 then fg (w.1 r8 = 1) inferInstance ((if (gI w 0 r8 0) = 0 then some (.inl 0) else (F_X0_rightLetters r8 (gR w 200 v5 0) (gI w 1 r8 0) (gI w 2 r8 0) w).bind (fun r38 => some (.inl r38)))) else some (.inr 1)))))))))))) (fun x6 => some (.inr x6))))
set_option maxHeartbeats 4000000 in
set_option maxRecDepth 100000 in
theorem c_X4_halfOf (l : Launch) (D : va_G) (cy : Nat → ClassId) (a0 : Nat) (x1 : Int32) (x2 : Int32) (x3 : Int32) (w : FW) (r : Int32 ⊕ Nat) (hF : F_X4_halfOf a0 x1 x2 x3 w = some r) : fSpecX l D cy yX4_halfOf cX4_halfOf 6 (some .int) { frames := 7, cells := 2, slots := 12, locals := 136 } [.ref a0, .int x1, .int x2, .int x3] w w (fOI r) := by
  refine f_beginX (by decide +kernel) (Nat.le_of_ble_eq_true rfl) (fun X hC hEn => ?_)
  have hst := f_st hC hEn
  unfold F_X4_halfOf at hF
  show fAt X 0 0 6 w [(0, .ref a0), (1, .int x1), (2, .int x2), (3, .int x3)] [] 0
  refine f_aload_n hC dX4_halfOf_0 rfl 0 rfl ?_
  refine f_iload_n hC dX4_halfOf_1 rfl 1 rfl ?_
  obtain ⟨g3, hF⟩ := fg_open hF
  obtain ⟨r1, h2, hF⟩ := fb_open hF
  rcases r1 with v5 | x6
  · refine f_callVR hC [.int x1] hst (c_X4_existing l D cy a0 x1 w (.inl v5) h2) q_404 q_73 q_401 q_403 q_1 h9_X4_existing rfl (fSm.k (fSm.rf w) g3) ⟨Nat.le_of_ble_eq_true rfl, Nat.le_of_ble_eq_true rfl⟩ ⟨Nat.le_of_ble_eq_true rfl, Nat.le_of_ble_eq_true rfl⟩ (Nat.le_of_ble_eq_true rfl) rfl dX4_halfOf_2 (fun e4 => ?_)
    refine f_astore (L' := [(4, .ref v5), (0, .ref a0), (1, .int x1), (2, .int x2), (3, .int x3)]) hC dX4_halfOf_5 (by decide) rfl ?_
    refine f_aload hC dX4_halfOf_7 0 rfl ?_
    refine f_iload_n hC dX4_halfOf_9 rfl 3 rfl ?_
    obtain ⟨g10, hF⟩ := fg_open hF
    obtain ⟨r8, h9, hF⟩ := fb_open hF
    refine f_callVN hC [.int x2] (c_X2_half l D cy v5 x2 w r8 h9) q_425 q_76 q_422 q_424 q_3 h9_X2_half rfl (fSm.k (fSm.rf w) g10) ⟨Nat.le_of_ble_eq_true rfl, Nat.le_of_ble_eq_true rfl⟩ ⟨Nat.le_of_ble_eq_true rfl, Nat.le_of_ble_eq_true rfl⟩ (Nat.le_of_ble_eq_true rfl) rfl dX4_halfOf_10 (fun e11 => ?_)
    refine f_astore (L' := [(5, .ref r8), (4, .ref v5), (0, .ref a0), (1, .int x1), (2, .int x2), (3, .int x3)]) hC dX4_halfOf_13 (by decide) rfl ?_
    refine f_iload_n hC dX4_halfOf_15 rfl 5 rfl ?_
    by_cases c12 : x3 = 0
    · replace hF := fi_pos hF c12
      refine f_tabIn hC 64 dX4_halfOf_16 (by rw [c12] <;> decide) (by rw [c12] <;> decide) (by rw [c12] <;> rfl) (by decide) ?_
      refine f_aload hC dX4_halfOf_64 0 rfl ?_
      obtain ⟨g13, hF⟩ := fg_open hF
      refine f_getIN hC 0 0 0 rfl (by decide) iX0 q_149 rfl rfl (fSm.k (fSm.rf w) g13) dX4_halfOf_66 ?_
      refine f_if_eq hC 76 dX4_halfOf_69 (by decide) (fun c14 => ?_) (fun c14 => ?_)
      · replace hF := fi_pos hF c14
        refine f_iconst (v := 0) hC dX4_halfOf_76 (by decide) ?_
        obtain rfl := Option.some.inj hF
        refine f_widen (k' := 2) (s' := 12) (Nat.le_of_ble_eq_true rfl) (Nat.le_of_ble_eq_true rfl) ?_
        exact f_iretX hC hEn (fSm.rf w) dX4_halfOf_77
      · replace hF := fi_neg hF c14
        refine f_iconst (v := 1) hC dX4_halfOf_72 (by decide) ?_
        refine f_goto hC 77 dX4_halfOf_73 (by decide) ?_
        obtain rfl := Option.some.inj hF
        refine f_widen (k' := 2) (s' := 12) (Nat.le_of_ble_eq_true rfl) (Nat.le_of_ble_eq_true rfl) ?_
        exact f_iretX hC hEn (fSm.rf w) dX4_halfOf_77
    · replace hF := fi_neg hF c12
      by_cases c15 : x3 = 1
      · replace hF := fi_pos hF c15
        refine f_tabIn hC 78 dX4_halfOf_16 (by rw [c15] <;> decide) (by rw [c15] <;> decide) (by rw [c15] <;> rfl) (by decide) ?_
        refine f_aload hC dX4_halfOf_78 0 rfl ?_
        obtain ⟨g16, hF⟩ := fg_open hF
        refine f_getIN hC 0 1 1 rfl (by decide) iX0 q_152 rfl rfl (fSm.k (fSm.rf w) g16) dX4_halfOf_80 ?_
        obtain rfl := Option.some.inj hF
        refine f_widen (k' := 2) (s' := 12) (Nat.le_of_ble_eq_true rfl) (Nat.le_of_ble_eq_true rfl) ?_
        exact f_iretX hC hEn (fSm.rf w) dX4_halfOf_83
      · replace hF := fi_neg hF c15
        by_cases c17 : x3 = 2
        · replace hF := fi_pos hF c17
          refine f_tabIn hC 84 dX4_halfOf_16 (by rw [c17] <;> decide) (by rw [c17] <;> decide) (by rw [c17] <;> rfl) (by decide) ?_
          refine f_aload hC dX4_halfOf_84 0 rfl ?_
          obtain ⟨g18, hF⟩ := fg_open hF
          refine f_getIN hC 0 2 2 rfl (by decide) iX0 q_155 rfl rfl (fSm.k (fSm.rf w) g18) dX4_halfOf_86 ?_
          obtain rfl := Option.some.inj hF
          refine f_widen (k' := 2) (s' := 12) (Nat.le_of_ble_eq_true rfl) (Nat.le_of_ble_eq_true rfl) ?_
          exact f_iretX hC hEn (fSm.rf w) dX4_halfOf_89
        · replace hF := fi_neg hF c17
          by_cases c19 : x3 = 3
          · replace hF := fi_pos hF c19
            refine f_tabIn hC 90 dX4_halfOf_16 (by rw [c19] <;> decide) (by rw [c19] <;> decide) (by rw [c19] <;> rfl) (by decide) ?_
            refine f_aload hC dX4_halfOf_90 0 rfl ?_
            refine f_aload hC dX4_halfOf_92 1 rfl ?_
            refine f_getRN hC 2 0 200 rfl (by decide) iX2 q_176 rfl rfl (fSm.k (fSm.rf w) g10) dX4_halfOf_94 ?_
            refine f_iconst (v := 0) hC dX4_halfOf_97 (by decide) ?_
            obtain ⟨g22, hF⟩ := fg_open hF
            obtain ⟨r20, h21, hF⟩ := fb_open hF
            refine f_callVN hC [.ref (gR w 200 v5 0), .int 0] (c_X0_holesWhenWet l D cy r8 (gR w 200 v5 0) 0 w r20 h21) q_429 q_77 q_426 q_428 q_4 h9_X0_holesWhenWet rfl (fSm.k (fSm.rf w) g22) ⟨Nat.le_of_ble_eq_true rfl, Nat.le_of_ble_eq_true rfl⟩ ⟨Nat.le_of_ble_eq_true rfl, Nat.le_of_ble_eq_true rfl⟩ (Nat.le_of_ble_eq_true rfl) rfl dX4_halfOf_98 (fun e23 => ?_)
            obtain rfl := Option.some.inj hF
            refine f_widen (k' := 2) (s' := 12) (Nat.le_of_ble_eq_true rfl) (Nat.le_of_ble_eq_true rfl) ?_
            exact f_iretX hC hEn (fSm.rf w) dX4_halfOf_101
          · replace hF := fi_neg hF c19
            by_cases c24 : x3 = 4
            · replace hF := fi_pos hF c24
              refine f_tabIn hC 102 dX4_halfOf_16 (by rw [c24] <;> decide) (by rw [c24] <;> decide) (by rw [c24] <;> rfl) (by decide) ?_
              refine f_aload hC dX4_halfOf_102 0 rfl ?_
              refine f_aload hC dX4_halfOf_104 1 rfl ?_
              refine f_getRN hC 2 0 200 rfl (by decide) iX2 q_176 rfl rfl (fSm.k (fSm.rf w) g10) dX4_halfOf_106 ?_
              refine f_aload hC dX4_halfOf_109 0 rfl ?_
              obtain ⟨g25, hF⟩ := fg_open hF
              refine f_getIN hC 0 2 2 rfl (by decide) iX0 q_155 rfl rfl (fSm.k (fSm.rf w) g25) dX4_halfOf_111 ?_
              obtain ⟨r26, h27, hF⟩ := fb_open hF
              refine f_callVN hC [.ref (gR w 200 v5 0), .int (gI w 2 r8 0)] (c_X0_holesWhenWet l D cy r8 (gR w 200 v5 0) (gI w 2 r8 0) w r26 h27) q_429 q_77 q_426 q_428 q_4 h9_X0_holesWhenWet rfl (fSm.k (fSm.rf w) g25) ⟨Nat.le_of_ble_eq_true rfl, Nat.le_of_ble_eq_true rfl⟩ ⟨Nat.le_of_ble_eq_true rfl, Nat.le_of_ble_eq_true rfl⟩ (Nat.le_of_ble_eq_true rfl) rfl dX4_halfOf_114 (fun e28 => ?_)
              obtain rfl := Option.some.inj hF
              refine f_widen (k' := 2) (s' := 12) (Nat.le_of_ble_eq_true rfl) (Nat.le_of_ble_eq_true rfl) ?_
              exact f_iretX hC hEn (fSm.rf w) dX4_halfOf_117
            · replace hF := fi_neg hF c24
              by_cases c29 : x3 = 5
              · replace hF := fi_pos hF c29
                refine f_tabIn hC 118 dX4_halfOf_16 (by rw [c29] <;> decide) (by rw [c29] <;> decide) (by rw [c29] <;> rfl) (by decide) ?_
                refine f_aload hC dX4_halfOf_118 0 rfl ?_
                obtain ⟨g30, hF⟩ := fg_open hF
                refine f_getIN hC 0 3 3 rfl (by decide) iX0 q_158 rfl rfl (fSm.k (fSm.rf w) g30) dX4_halfOf_120 ?_
                refine f_if_eq hC 130 dX4_halfOf_123 (by decide) (fun c31 => ?_) (fun c31 => ?_)
                · replace hF := fi_pos hF c31
                  refine f_iconst (v := 0) hC dX4_halfOf_130 (by decide) ?_
                  obtain rfl := Option.some.inj hF
                  refine f_widen (k' := 2) (s' := 12) (Nat.le_of_ble_eq_true rfl) (Nat.le_of_ble_eq_true rfl) ?_
                  exact f_iretX hC hEn (fSm.rf w) dX4_halfOf_131
                · replace hF := fi_neg hF c31
                  refine f_iconst (v := 1) hC dX4_halfOf_126 (by decide) ?_
                  refine f_goto hC 131 dX4_halfOf_127 (by decide) ?_
                  obtain rfl := Option.some.inj hF
                  refine f_widen (k' := 2) (s' := 12) (Nat.le_of_ble_eq_true rfl) (Nat.le_of_ble_eq_true rfl) ?_
                  exact f_iretX hC hEn (fSm.rf w) dX4_halfOf_131
              · replace hF := fi_neg hF c29
                by_cases c32 : x3 = 6
                · replace hF := fi_pos hF c32
                  refine f_tabIn hC 132 dX4_halfOf_16 (by rw [c32] <;> decide) (by rw [c32] <;> decide) (by rw [c32] <;> rfl) (by decide) ?_
                  refine f_aload hC dX4_halfOf_132 0 rfl ?_
                  obtain ⟨g33, hF⟩ := fg_open hF
                  refine f_getIN hC 0 4 4 rfl (by decide) iX0 q_161 rfl rfl (fSm.k (fSm.rf w) g33) dX4_halfOf_134 ?_
                  refine f_if_eq hC 144 dX4_halfOf_137 (by decide) (fun c34 => ?_) (fun c34 => ?_)
                  · replace hF := fi_pos hF c34
                    refine f_iconst (v := 0) hC dX4_halfOf_144 (by decide) ?_
                    obtain rfl := Option.some.inj hF
                    refine f_widen (k' := 2) (s' := 12) (Nat.le_of_ble_eq_true rfl) (Nat.le_of_ble_eq_true rfl) ?_
                    exact f_iretX hC hEn (fSm.rf w) dX4_halfOf_145
                  · replace hF := fi_neg hF c34
                    refine f_iconst (v := 1) hC dX4_halfOf_140 (by decide) ?_
                    refine f_goto hC 145 dX4_halfOf_141 (by decide) ?_
                    obtain rfl := Option.some.inj hF
                    refine f_widen (k' := 2) (s' := 12) (Nat.le_of_ble_eq_true rfl) (Nat.le_of_ble_eq_true rfl) ?_
                    exact f_iretX hC hEn (fSm.rf w) dX4_halfOf_145
                · replace hF := fi_neg hF c32
                  by_cases c35 : x3 = 7
                  · replace hF := fi_pos hF c35
                    refine f_tabIn hC 146 dX4_halfOf_16 (by rw [c35] <;> decide) (by rw [c35] <;> decide) (by rw [c35] <;> rfl) (by decide) ?_
                    refine f_aload hC dX4_halfOf_146 0 rfl ?_
                    obtain ⟨g36, hF⟩ := fg_open hF
                    refine f_getIN hC 0 0 0 rfl (by decide) iX0 q_149 rfl rfl (fSm.k (fSm.rf w) g36) dX4_halfOf_148 ?_
                    refine f_if_eq hC 177 dX4_halfOf_151 (by decide) (fun c37 => ?_) (fun c37 => ?_)
                    · replace hF := fi_pos hF c37
                      refine f_iconst (v := 0) hC dX4_halfOf_177 (by decide) ?_
                      obtain rfl := Option.some.inj hF
                      refine f_widen (k' := 2) (s' := 12) (Nat.le_of_ble_eq_true rfl) (Nat.le_of_ble_eq_true rfl) ?_
                      exact f_iretX hC hEn (fSm.rf w) dX4_halfOf_178
                    · replace hF := fi_neg hF c37
                      refine f_aload hC dX4_halfOf_154 0 rfl ?_
                      refine f_aload hC dX4_halfOf_156 1 rfl ?_
                      refine f_getRN hC 2 0 200 rfl (by decide) iX2 q_176 rfl rfl (fSm.k (fSm.rf w) g10) dX4_halfOf_158 ?_
                      refine f_aload hC dX4_halfOf_161 0 rfl ?_
                      refine f_getIN hC 0 1 1 rfl (by decide) iX0 q_152 rfl rfl (fSm.k (fSm.rf w) g36) dX4_halfOf_163 ?_
                      refine f_aload hC dX4_halfOf_166 0 rfl ?_
                      refine f_getIN hC 0 2 2 rfl (by decide) iX0 q_155 rfl rfl (fSm.k (fSm.rf w) g36) dX4_halfOf_168 ?_
                      obtain ⟨r38, h39, hF⟩ := fb_open hF
                      refine f_callVN hC [.ref (gR w 200 v5 0), .int (gI w 1 r8 0), .int (gI w 2 r8 0)] (c_X0_rightLetters l D cy r8 (gR w 200 v5 0) (gI w 1 r8 0) (gI w 2 r8 0) w r38 h39) q_448 q_77 q_445 q_447 q_8 h9_X0_rightLetters rfl (fSm.k (fSm.rf w) g36) ⟨Nat.le_of_ble_eq_true rfl, Nat.le_of_ble_eq_true rfl⟩ ⟨Nat.le_of_ble_eq_true rfl, Nat.le_of_ble_eq_true rfl⟩ (Nat.le_of_ble_eq_true rfl) rfl dX4_halfOf_171 (fun e40 => ?_)
                      refine f_goto hC 178 dX4_halfOf_174 (by decide) ?_
                      obtain rfl := Option.some.inj hF
                      refine f_widen (k' := 2) (s' := 12) (Nat.le_of_ble_eq_true rfl) (Nat.le_of_ble_eq_true rfl) ?_
                      exact f_iretX hC hEn (fSm.rf w) dX4_halfOf_178
                  · replace hF := fi_neg hF c35
                    refine f_tabOut hC 179 dX4_halfOf_16 (ftab 0 7 (by decide) (by decide) (fun j h1 h2 => ?_)) (by decide) ?_
                    · rcases (show j = 0 ∨ j = 1 ∨ j = 2 ∨ j = 3 ∨ j = 4 ∨ j = 5 ∨ j = 6 ∨ j = 7 by omega) with rfl | rfl | rfl | rfl | rfl | rfl | rfl | rfl
                      · exact c12
                      · exact c15
                      · exact c17
                      · exact c19
                      · exact c24
                      · exact c29
                      · exact c32
                      · exact c35
                    obtain rfl := Option.some.inj hF
                    exact f_throwS hC hEn (fSm.rf w) 39 rfl xf_1 xn_1 q_497 q_81 rfl xa_RX4_146 xg_RX4_142_146 dX4_halfOf_179 dX4_halfOf_182 dX4_halfOf_183 dX4_halfOf_185 dX4_halfOf_188 (Nat.le_of_ble_eq_true rfl) (Nat.le_of_ble_eq_true rfl) (Nat.le_of_ble_eq_true rfl) (Nat.le_of_ble_eq_true rfl) (Nat.le_of_ble_eq_true rfl) (Nat.le_of_ble_eq_true rfl)
  · obtain rfl := Option.some.inj hF
    exact f_callVT hC [.int x1] hEn (fSm.rf w) (Nat.le_of_ble_eq_true rfl) (Nat.le_of_ble_eq_true rfl) (c_X4_existing l D cy a0 x1 w (.inr x6) h2) q_404 q_73 q_401 q_403 q_1 h9_X4_existing rfl (fSm.k (fSm.rf w) g3) ⟨Nat.le_of_ble_eq_true rfl, Nat.le_of_ble_eq_true rfl⟩ ⟨Nat.le_of_ble_eq_true rfl, Nat.le_of_ble_eq_true rfl⟩ (Nat.le_of_ble_eq_true rfl) rfl dX4_halfOf_2
theorem dX4_punchedHalf_0 : decode cX4_punchedHalf 0 = .ok (.aload_n 0, 1) := by decide +kernel
theorem dX4_punchedHalf_1 : decode cX4_punchedHalf 1 = .ok (.iload_n 1, 1) := by decide +kernel
theorem dX4_punchedHalf_2 : decode cX4_punchedHalf 2 = .ok (.invokevirtual 166, 3) := by decide +kernel
theorem dX4_punchedHalf_5 : decode cX4_punchedHalf 5 = .ok (.astore_n 2, 1) := by decide +kernel
theorem dX4_punchedHalf_6 : decode cX4_punchedHalf 6 = .ok (.aload_n 2, 1) := by decide +kernel
theorem dX4_punchedHalf_7 : decode cX4_punchedHalf 7 = .ok (.getfield 195, 3) := by decide +kernel
theorem dX4_punchedHalf_10 : decode cX4_punchedHalf 10 = .ok (.ifCond .ne 14, 3) := by decide +kernel
theorem dX4_punchedHalf_13 : decode cX4_punchedHalf 13 = .ok (.new 153, 3) := by decide +kernel
theorem dX4_punchedHalf_16 : decode cX4_punchedHalf 16 = .ok (.dup, 1) := by decide +kernel
theorem dX4_punchedHalf_17 : decode cX4_punchedHalf 17 = .ok (.ldc_w 434, 3) := by decide +kernel
theorem dX4_punchedHalf_20 : decode cX4_punchedHalf 20 = .ok (.invokespecial 157, 3) := by decide +kernel
theorem dX4_punchedHalf_23 : decode cX4_punchedHalf 23 = .ok (.athrow, 1) := by decide +kernel
theorem dX4_punchedHalf_24 : decode cX4_punchedHalf 24 = .ok (.aload_n 2, 1) := by decide +kernel
theorem dX4_punchedHalf_25 : decode cX4_punchedHalf 25 = .ok (.areturn, 1) := by decide +kernel
theorem h9_X4_punchedHalf : yX4_punchedHalf.cls ≠ "java/lang/invoke/MethodHandle" ∧ yX4_punchedHalf.cls ≠ "java/lang/invoke/VarHandle" ∧ (parseMethodDescriptor yX4_punchedHalf.desc).map (fun d => d.parameters.length) = some 2 := by decide +kernel
noncomputable def F_X4_punchedHalf (a1 : Nat) (x2 : Int32) (w : FW) : Option (Nat ⊕ Nat) :=
  fg (w.1 a1 = 3) inferInstance ((F_X2_half a1 x2 w).bind (fun r1 => fg (w.1 r1 = 1) inferInstance ((if (gI w 0 r1 0) = 0 then some (.inr 5) else some (.inl r1)))))
set_option maxHeartbeats 4000000 in
set_option maxRecDepth 100000 in
theorem c_X4_punchedHalf (l : Launch) (D : va_G) (cy : Nat → ClassId) (a1 : Nat) (x2 : Int32) (w : FW) (r : Nat ⊕ Nat) (hF : F_X4_punchedHalf a1 x2 w = some r) : fSpecX l D cy yX4_punchedHalf cX4_punchedHalf 3 (some (.object "FerryTickets$Half")) { frames := 6, cells := 1, slots := 6, locals := 100 } [.ref a1, .int x2] w w (fOR r) := by
  refine f_beginX (by decide +kernel) (Nat.le_of_ble_eq_true rfl) (fun X hC hEn => ?_)
  have hst := f_st hC hEn
  unfold F_X4_punchedHalf at hF
  show fAt X 0 0 3 w [(0, .ref a1), (1, .int x2)] [] 0
  refine f_aload_n hC dX4_punchedHalf_0 rfl 0 rfl ?_
  refine f_iload_n hC dX4_punchedHalf_1 rfl 1 rfl ?_
  obtain ⟨g3, hF⟩ := fg_open hF
  obtain ⟨r1, h2, hF⟩ := fb_open hF
  refine f_callVN hC [.int x2] (c_X2_half l D cy a1 x2 w r1 h2) q_425 q_76 q_422 q_424 q_3 h9_X2_half rfl (fSm.k (fSm.rf w) g3) ⟨Nat.le_of_ble_eq_true rfl, Nat.le_of_ble_eq_true rfl⟩ ⟨Nat.le_of_ble_eq_true rfl, Nat.le_of_ble_eq_true rfl⟩ (Nat.le_of_ble_eq_true rfl) rfl dX4_punchedHalf_2 (fun e4 => ?_)
  refine f_astore_n (L' := [(2, .ref r1), (0, .ref a1), (1, .int x2)]) hC dX4_punchedHalf_5 rfl (by decide) rfl ?_
  refine f_aload_n hC dX4_punchedHalf_6 rfl 0 rfl ?_
  obtain ⟨g5, hF⟩ := fg_open hF
  refine f_getIN hC 0 0 0 rfl (by decide) iX0 q_149 rfl rfl (fSm.k (fSm.rf w) g5) dX4_punchedHalf_7 ?_
  refine f_if_ne hC 24 dX4_punchedHalf_10 (by decide) (fun c6 => ?_) (fun c6 => ?_)
  · replace hF := fi_neg hF c6
    refine f_aload_n hC dX4_punchedHalf_24 rfl 0 rfl ?_
    obtain rfl := Option.some.inj hF
    refine f_widen (k' := 1) (s' := 6) (Nat.le_of_ble_eq_true rfl) (Nat.le_of_ble_eq_true rfl) ?_
    exact f_aretX hC hEn (fSm.rf w) dX4_punchedHalf_25
  · replace hF := fi_pos hF c6
    obtain rfl := Option.some.inj hF
    exact f_throwXSW hC hEn (fSm.rf w) 40 rfl xf_5 xy_5 xn_5 ns_0 ns_1 ns_2 ns_5 q_525 q_89 rfl xa_RX4_157 xg_RX4_153_157 dX4_punchedHalf_13 dX4_punchedHalf_16 dX4_punchedHalf_17 dX4_punchedHalf_20 dX4_punchedHalf_23 (Nat.le_of_ble_eq_true rfl) (Nat.le_of_ble_eq_true rfl) (Nat.le_of_ble_eq_true rfl) (Nat.le_of_ble_eq_true rfl) (Nat.le_of_ble_eq_true rfl) (Nat.le_of_ble_eq_true rfl)
theorem dX0_seen_0 : decode cX0_seen 0 = .ok (.aload_n 0, 1) := by decide +kernel
theorem dX0_seen_1 : decode cX0_seen 1 = .ok (.iload_n 1, 1) := by decide +kernel
theorem dX0_seen_2 : decode cX0_seen 2 = .ok (.aload_n 0, 1) := by decide +kernel
theorem dX0_seen_3 : decode cX0_seen 3 = .ok (.getfield 15, 3) := by decide +kernel
theorem dX0_seen_6 : decode cX0_seen 6 = .ok (.aload_n 0, 1) := by decide +kernel
theorem dX0_seen_7 : decode cX0_seen 7 = .ok (.getfield 19, 3) := by decide +kernel
theorem dX0_seen_10 : decode cX0_seen 10 = .ok (.invokevirtual 60, 3) := by decide +kernel
theorem dX0_seen_13 : decode cX0_seen 13 = .ok (.ireturn, 1) := by decide +kernel
theorem h9_X0_seen : yX0_seen.cls ≠ "java/lang/invoke/MethodHandle" ∧ yX0_seen.cls ≠ "java/lang/invoke/VarHandle" ∧ (parseMethodDescriptor yX0_seen.desc).map (fun d => d.parameters.length) = some 1 := by decide +kernel
noncomputable def F_X0_seen (a0 : Nat) (x1 : Int32) (w : FW) : Option (Int32) :=
  fg (w.1 a0 = 1) inferInstance ((F_X0_seenAs a0 x1 (gI w 1 a0 0) (gI w 2 a0 0) w).bind (fun r2 => fg (fch r2 = r2) inferInstance (some r2)))
set_option maxHeartbeats 4000000 in
set_option maxRecDepth 100000 in
theorem c_X0_seen (l : Launch) (D : va_G) (cy : Nat → ClassId) (a0 : Nat) (x1 : Int32) (w : FW) (r : Int32) (hF : F_X0_seen a0 x1 w = some r) : fSpec l D cy yX0_seen cX0_seen 2 (some .char) { frames := 5, cells := 0, slots := 0, locals := 110 } [.ref a0, .int x1] w w (some (.int r)) := by
  refine f_begin (by decide +kernel) (Nat.le_of_ble_eq_true rfl) (fun X hC hEn => ?_)
  unfold F_X0_seen at hF
  show fAt X 0 0 2 w [(0, .ref a0), (1, .int x1)] [] 0
  refine f_aload_n hC dX0_seen_0 rfl 0 rfl ?_
  refine f_iload_n hC dX0_seen_1 rfl 1 rfl ?_
  refine f_aload_n hC dX0_seen_2 rfl 0 rfl ?_
  obtain ⟨g1, hF⟩ := fg_open hF
  refine f_getI hC 0 1 1 rfl (by decide) iX0 q_150 rfl rfl (fSm.k (fSm.rf w) g1) dX0_seen_3 ?_
  refine f_aload_n hC dX0_seen_6 rfl 0 rfl ?_
  refine f_getI hC 0 2 2 rfl (by decide) iX0 q_153 rfl rfl (fSm.k (fSm.rf w) g1) dX0_seen_7 ?_
  obtain ⟨r2, h3, hF⟩ := fb_open hF
  refine f_callV hC [.int x1, .int (gI w 1 a0 0), .int (gI w 2 a0 0)] (c_X0_seenAs l D cy a0 x1 (gI w 1 a0 0) (gI w 2 a0 0) w r2 h3) q_452 q_77 q_449 q_451 q_9 h9_X0_seenAs rfl (fSm.k (fSm.rf w) g1) ⟨Nat.le_of_ble_eq_true rfl, Nat.le_of_ble_eq_true rfl⟩ ⟨Nat.le_of_ble_eq_true rfl, Nat.le_of_ble_eq_true rfl⟩ (Nat.le_of_ble_eq_true rfl) rfl dX0_seen_10 (fun e4 => ?_)
  obtain ⟨g5, hF⟩ := fg_open hF
  obtain rfl := Option.some.inj hF
  exact f_zret hC hEn (fSm.rf w) (nar_c g5) dX0_seen_13
theorem dX4_readAt_0 : decode cX4_readAt 0 = .ok (.aload_n 0, 1) := by decide +kernel
theorem dX4_readAt_1 : decode cX4_readAt 1 = .ok (.iload_n 1, 1) := by decide +kernel
theorem dX4_readAt_2 : decode cX4_readAt 2 = .ok (.invokevirtual 115, 3) := by decide +kernel
theorem dX4_readAt_5 : decode cX4_readAt 5 = .ok (.astore 4, 2) := by decide +kernel
theorem dX4_readAt_7 : decode cX4_readAt 7 = .ok (.aload 4, 2) := by decide +kernel
theorem dX4_readAt_9 : decode cX4_readAt 9 = .ok (.iload_n 2, 1) := by decide +kernel
theorem dX4_readAt_10 : decode cX4_readAt 10 = .ok (.invokestatic 213, 3) := by decide +kernel
theorem dX4_readAt_13 : decode cX4_readAt 13 = .ok (.astore 5, 2) := by decide +kernel
theorem dX4_readAt_15 : decode cX4_readAt 15 = .ok (.aload 4, 2) := by decide +kernel
theorem dX4_readAt_17 : decode cX4_readAt 17 = .ok (.getfield 119, 3) := by decide +kernel
theorem dX4_readAt_20 : decode cX4_readAt 20 = .ok (.iload_n 3, 1) := by decide +kernel
theorem dX4_readAt_21 : decode cX4_readAt 21 = .ok (.invokevirtual 149, 3) := by decide +kernel
theorem dX4_readAt_24 : decode cX4_readAt 24 = .ok (.ifCond .ne 13, 3) := by decide +kernel
theorem dX4_readAt_27 : decode cX4_readAt 27 = .ok (.new 153, 3) := by decide +kernel
theorem dX4_readAt_30 : decode cX4_readAt 30 = .ok (.dup, 1) := by decide +kernel
theorem dX4_readAt_31 : decode cX4_readAt 31 = .ok (.ldc 155, 2) := by decide +kernel
theorem dX4_readAt_33 : decode cX4_readAt 33 = .ok (.invokespecial 157, 3) := by decide +kernel
theorem dX4_readAt_36 : decode cX4_readAt 36 = .ok (.athrow, 1) := by decide +kernel
theorem dX4_readAt_37 : decode cX4_readAt 37 = .ok (.aload 5, 2) := by decide +kernel
theorem dX4_readAt_39 : decode cX4_readAt 39 = .ok (.aload 4, 2) := by decide +kernel
theorem dX4_readAt_41 : decode cX4_readAt 41 = .ok (.getfield 119, 3) := by decide +kernel
theorem dX4_readAt_44 : decode cX4_readAt 44 = .ok (.iload_n 3, 1) := by decide +kernel
theorem dX4_readAt_45 : decode cX4_readAt 45 = .ok (.invokevirtual 158, 3) := by decide +kernel
theorem dX4_readAt_48 : decode cX4_readAt 48 = .ok (.invokevirtual 217, 3) := by decide +kernel
theorem dX4_readAt_51 : decode cX4_readAt 51 = .ok (.ireturn, 1) := by decide +kernel
theorem h9_X4_readAt : yX4_readAt.cls ≠ "java/lang/invoke/MethodHandle" ∧ yX4_readAt.cls ≠ "java/lang/invoke/VarHandle" ∧ (parseMethodDescriptor yX4_readAt.desc).map (fun d => d.parameters.length) = some 3 := by decide +kernel
noncomputable def F_X4_readAt (a0 : Nat) (x1 : Int32) (x2 : Int32) (x3 : Int32) (w : FW) : Option (Int32 ⊕ Nat) :=
  fg (w.1 a0 = 5) inferInstance ((F_X4_existing a0 x1 w).bind (fun r1 => fse r1 (fun v5 => (F_X4_punchedHalf v5 x2 w).bind (fun r8 => fse r8 (fun v11 => fg (w.1 v5 = 3) inferInstance (fg (w.1 (gR w 200 v5 0) = 4) inferInstance ((F_X3_hasPlace (gR w 200 v5 0) x3 w).bind (fun r15 => (if r15 = 0 then some (.inr 5) else (F_X3_letterAt (gR w 200 v5 0) x3 w).bind (fun r20 => fg (w.1 v11 = 1) inferInstance ((F_X0_seen v11 r20 w).bind (fun r23 => fg (fch r23 = r23) inferInstance (some (.inl r23)))))))))) (fun x12 => some (.inr x12)))) (fun x6 => some (.inr x6))))
set_option maxHeartbeats 4000000 in
set_option maxRecDepth 100000 in
theorem c_X4_readAt (l : Launch) (D : va_G) (cy : Nat → ClassId) (a0 : Nat) (x1 : Int32) (x2 : Int32) (x3 : Int32) (w : FW) (r : Int32 ⊕ Nat) (hF : F_X4_readAt a0 x1 x2 x3 w = some r) : fSpecX l D cy yX4_readAt cX4_readAt 6 (some .char) { frames := 7, cells := 3, slots := 18, locals := 131 } [.ref a0, .int x1, .int x2, .int x3] w w (fOI r) := by
  refine f_beginX (by decide +kernel) (Nat.le_of_ble_eq_true rfl) (fun X hC hEn => ?_)
  have hst := f_st hC hEn
  unfold F_X4_readAt at hF
  show fAt X 0 0 6 w [(0, .ref a0), (1, .int x1), (2, .int x2), (3, .int x3)] [] 0
  refine f_aload_n hC dX4_readAt_0 rfl 0 rfl ?_
  refine f_iload_n hC dX4_readAt_1 rfl 1 rfl ?_
  obtain ⟨g3, hF⟩ := fg_open hF
  obtain ⟨r1, h2, hF⟩ := fb_open hF
  rcases r1 with v5 | x6
  · refine f_callVR hC [.int x1] hst (c_X4_existing l D cy a0 x1 w (.inl v5) h2) q_404 q_73 q_401 q_403 q_1 h9_X4_existing rfl (fSm.k (fSm.rf w) g3) ⟨Nat.le_of_ble_eq_true rfl, Nat.le_of_ble_eq_true rfl⟩ ⟨Nat.le_of_ble_eq_true rfl, Nat.le_of_ble_eq_true rfl⟩ (Nat.le_of_ble_eq_true rfl) rfl dX4_readAt_2 (fun e4 => ?_)
    refine f_astore (L' := [(4, .ref v5), (0, .ref a0), (1, .int x1), (2, .int x2), (3, .int x3)]) hC dX4_readAt_5 (by decide) rfl ?_
    refine f_aload hC dX4_readAt_7 0 rfl ?_
    refine f_iload_n hC dX4_readAt_9 rfl 3 rfl ?_
    obtain ⟨r8, h9, hF⟩ := fb_open hF
    rcases r8 with v11 | x12
    · refine f_callSR hC [.ref v5, .int x2] hst (c_X4_punchedHalf l D cy v5 x2 w (.inl v11) h9) q_524 q_73 q_522 q_523 h9_X4_punchedHalf ⟨Nat.le_of_ble_eq_true rfl, Nat.le_of_ble_eq_true rfl⟩ ⟨Nat.le_of_ble_eq_true rfl, Nat.le_of_ble_eq_true rfl⟩ (Nat.le_of_ble_eq_true rfl) rfl dX4_readAt_10 (fun e10 => ?_)
      refine f_astore (L' := [(5, .ref v11), (4, .ref v5), (0, .ref a0), (1, .int x1), (2, .int x2), (3, .int x3)]) hC dX4_readAt_13 (by decide) rfl ?_
      refine f_aload hC dX4_readAt_15 1 rfl ?_
      obtain ⟨g14, hF⟩ := fg_open hF
      refine f_getRN hC 2 0 200 rfl (by decide) iX2 q_176 rfl rfl (fSm.k (fSm.rf w) g14) dX4_readAt_17 ?_
      refine f_iload_n hC dX4_readAt_20 rfl 5 rfl ?_
      obtain ⟨g17, hF⟩ := fg_open hF
      obtain ⟨r15, h16, hF⟩ := fb_open hF
      refine f_callVN hC [.int x3] (c_X3_hasPlace l D cy (gR w 200 v5 0) x3 w r15 h16) q_437 q_75 q_1205 q_436 q_6 h9_X3_hasPlace rfl (fSm.k (fSm.rf w) g17) ⟨Nat.le_of_ble_eq_true rfl, Nat.le_of_ble_eq_true rfl⟩ ⟨Nat.le_of_ble_eq_true rfl, Nat.le_of_ble_eq_true rfl⟩ (Nat.le_of_ble_eq_true rfl) rfl dX4_readAt_21 (fun e18 => ?_)
      refine f_if_ne hC 37 dX4_readAt_24 (by decide) (fun c19 => ?_) (fun c19 => ?_)
      · replace hF := fi_neg hF c19
        refine f_aload hC dX4_readAt_37 0 rfl ?_
        refine f_aload hC dX4_readAt_39 1 rfl ?_
        refine f_getRN hC 2 0 200 rfl (by decide) iX2 q_176 rfl rfl (fSm.k (fSm.rf w) g14) dX4_readAt_41 ?_
        refine f_iload_n hC dX4_readAt_44 rfl 5 rfl ?_
        obtain ⟨r20, h21, hF⟩ := fb_open hF
        refine f_callVN hC [.int x3] (c_X3_letterAt l D cy (gR w 200 v5 0) x3 w r20 h21) q_433 q_75 q_1207 q_432 q_5 h9_X3_letterAt rfl (fSm.k (fSm.rf w) g17) ⟨Nat.le_of_ble_eq_true rfl, Nat.le_of_ble_eq_true rfl⟩ ⟨Nat.le_of_ble_eq_true rfl, Nat.le_of_ble_eq_true rfl⟩ (Nat.le_of_ble_eq_true rfl) rfl dX4_readAt_45 (fun e22 => ?_)
        obtain ⟨g25, hF⟩ := fg_open hF
        obtain ⟨r23, h24, hF⟩ := fb_open hF
        refine f_callVN hC [.int r20] (c_X0_seen l D cy v11 r20 w r23 h24) q_1224 q_77 q_1221 q_1223 q_57 h9_X0_seen rfl (fSm.k (fSm.rf w) g25) ⟨Nat.le_of_ble_eq_true rfl, Nat.le_of_ble_eq_true rfl⟩ ⟨Nat.le_of_ble_eq_true rfl, Nat.le_of_ble_eq_true rfl⟩ (Nat.le_of_ble_eq_true rfl) rfl dX4_readAt_48 (fun e26 => ?_)
        obtain ⟨g27, hF⟩ := fg_open hF
        obtain rfl := Option.some.inj hF
        refine f_widen (k' := 3) (s' := 18) (Nat.le_of_ble_eq_true rfl) (Nat.le_of_ble_eq_true rfl) ?_
        exact f_zretX hC hEn (fSm.rf w) (nar_c g27) dX4_readAt_51
      · replace hF := fi_pos hF c19
        obtain rfl := Option.some.inj hF
        exact f_throwXS hC hEn (fSm.rf w) 38 rfl xf_5 xy_5 xn_5 ns_0 ns_1 ns_2 ns_5 q_525 q_89 rfl xa_RX4_157 xg_RX4_153_157 dX4_readAt_27 dX4_readAt_30 dX4_readAt_31 dX4_readAt_33 dX4_readAt_36 (Nat.le_of_ble_eq_true rfl) (Nat.le_of_ble_eq_true rfl) (Nat.le_of_ble_eq_true rfl) (Nat.le_of_ble_eq_true rfl) (Nat.le_of_ble_eq_true rfl) (Nat.le_of_ble_eq_true rfl)
    · obtain rfl := Option.some.inj hF
      exact f_callST hC [.ref v5, .int x2] hEn (fSm.rf w) (Nat.le_of_ble_eq_true rfl) (Nat.le_of_ble_eq_true rfl) (c_X4_punchedHalf l D cy v5 x2 w (.inr x12) h9) q_524 q_73 q_522 q_523 h9_X4_punchedHalf ⟨Nat.le_of_ble_eq_true rfl, Nat.le_of_ble_eq_true rfl⟩ ⟨Nat.le_of_ble_eq_true rfl, Nat.le_of_ble_eq_true rfl⟩ (Nat.le_of_ble_eq_true rfl) rfl dX4_readAt_10
  · obtain rfl := Option.some.inj hF
    exact f_callVT hC [.int x1] hEn (fSm.rf w) (Nat.le_of_ble_eq_true rfl) (Nat.le_of_ble_eq_true rfl) (c_X4_existing l D cy a0 x1 w (.inr x6) h2) q_404 q_73 q_401 q_403 q_1 h9_X4_existing rfl (fSm.k (fSm.rf w) g3) ⟨Nat.le_of_ble_eq_true rfl, Nat.le_of_ble_eq_true rfl⟩ ⟨Nat.le_of_ble_eq_true rfl, Nat.le_of_ble_eq_true rfl⟩ (Nat.le_of_ble_eq_true rfl) rfl dX4_readAt_2
theorem dX2_isSameByHoles_0 : decode cX2_isSameByHoles 0 = .ok (.aload_n 0, 1) := by decide +kernel
theorem dX2_isSameByHoles_1 : decode cX2_isSameByHoles 1 = .ok (.getfield 38, 3) := by decide +kernel
theorem dX2_isSameByHoles_4 : decode cX2_isSameByHoles 4 = .ok (.getfield 79, 3) := by decide +kernel
theorem dX2_isSameByHoles_7 : decode cX2_isSameByHoles 7 = .ok (.ifCond .eq 13, 3) := by decide +kernel
theorem dX2_isSameByHoles_10 : decode cX2_isSameByHoles 10 = .ok (.aload_n 0, 1) := by decide +kernel
theorem dX2_isSameByHoles_11 : decode cX2_isSameByHoles 11 = .ok (.getfield 42, 3) := by decide +kernel
theorem dX2_isSameByHoles_14 : decode cX2_isSameByHoles 14 = .ok (.getfield 79, 3) := by decide +kernel
theorem dX2_isSameByHoles_17 : decode cX2_isSameByHoles 17 = .ok (.ifCond .ne 5, 3) := by decide +kernel
theorem dX2_isSameByHoles_20 : decode cX2_isSameByHoles 20 = .ok (.iconst 0, 1) := by decide +kernel
theorem dX2_isSameByHoles_21 : decode cX2_isSameByHoles 21 = .ok (.ireturn, 1) := by decide +kernel
theorem dX2_isSameByHoles_22 : decode cX2_isSameByHoles 22 = .ok (.aload_n 0, 1) := by decide +kernel
theorem dX2_isSameByHoles_23 : decode cX2_isSameByHoles 23 = .ok (.getfield 38, 3) := by decide +kernel
theorem dX2_isSameByHoles_26 : decode cX2_isSameByHoles 26 = .ok (.getfield 90, 3) := by decide +kernel
theorem dX2_isSameByHoles_29 : decode cX2_isSameByHoles 29 = .ok (.aload_n 0, 1) := by decide +kernel
theorem dX2_isSameByHoles_30 : decode cX2_isSameByHoles 30 = .ok (.getfield 42, 3) := by decide +kernel
theorem dX2_isSameByHoles_33 : decode cX2_isSameByHoles 33 = .ok (.getfield 90, 3) := by decide +kernel
theorem dX2_isSameByHoles_36 : decode cX2_isSameByHoles 36 = .ok (.isub, 1) := by decide +kernel
theorem dX2_isSameByHoles_37 : decode cX2_isSameByHoles 37 = .ok (.istore_n 1, 1) := by decide +kernel
theorem dX2_isSameByHoles_38 : decode cX2_isSameByHoles 38 = .ok (.iconst 0, 1) := by decide +kernel
theorem dX2_isSameByHoles_39 : decode cX2_isSameByHoles 39 = .ok (.istore_n 2, 1) := by decide +kernel
theorem dX2_isSameByHoles_40 : decode cX2_isSameByHoles 40 = .ok (.iload_n 2, 1) := by decide +kernel
theorem dX2_isSameByHoles_41 : decode cX2_isSameByHoles 41 = .ok (.aload_n 0, 1) := by decide +kernel
theorem dX2_isSameByHoles_42 : decode cX2_isSameByHoles 42 = .ok (.getfield 12, 3) := by decide +kernel
theorem dX2_isSameByHoles_45 : decode cX2_isSameByHoles 45 = .ok (.getfield 76, 3) := by decide +kernel
theorem dX2_isSameByHoles_48 : decode cX2_isSameByHoles 48 = .ok (.if_icmp .ge 101, 3) := by decide +kernel
theorem dX2_isSameByHoles_51 : decode cX2_isSameByHoles 51 = .ok (.aload_n 0, 1) := by decide +kernel
theorem dX2_isSameByHoles_52 : decode cX2_isSameByHoles 52 = .ok (.getfield 12, 3) := by decide +kernel
theorem dX2_isSameByHoles_55 : decode cX2_isSameByHoles 55 = .ok (.iload_n 2, 1) := by decide +kernel
theorem dX2_isSameByHoles_56 : decode cX2_isSameByHoles 56 = .ok (.invokevirtual 82, 3) := by decide +kernel
theorem dX2_isSameByHoles_59 : decode cX2_isSameByHoles 59 = .ok (.invokestatic 93, 3) := by decide +kernel
theorem dX2_isSameByHoles_62 : decode cX2_isSameByHoles 62 = .ok (.istore_n 3, 1) := by decide +kernel
theorem dX2_isSameByHoles_63 : decode cX2_isSameByHoles 63 = .ok (.aload_n 0, 1) := by decide +kernel
theorem dX2_isSameByHoles_64 : decode cX2_isSameByHoles 64 = .ok (.getfield 38, 3) := by decide +kernel
theorem dX2_isSameByHoles_67 : decode cX2_isSameByHoles 67 = .ok (.iload_n 3, 1) := by decide +kernel
theorem dX2_isSameByHoles_68 : decode cX2_isSameByHoles 68 = .ok (.aload_n 0, 1) := by decide +kernel
theorem dX2_isSameByHoles_69 : decode cX2_isSameByHoles 69 = .ok (.getfield 38, 3) := by decide +kernel
theorem dX2_isSameByHoles_72 : decode cX2_isSameByHoles 72 = .ok (.getfield 63, 3) := by decide +kernel
theorem dX2_isSameByHoles_75 : decode cX2_isSameByHoles 75 = .ok (.invokevirtual 97, 3) := by decide +kernel
theorem dX2_isSameByHoles_78 : decode cX2_isSameByHoles 78 = .ok (.istore 4, 2) := by decide +kernel
theorem dX2_isSameByHoles_80 : decode cX2_isSameByHoles 80 = .ok (.aload_n 0, 1) := by decide +kernel
theorem dX2_isSameByHoles_81 : decode cX2_isSameByHoles 81 = .ok (.getfield 42, 3) := by decide +kernel
theorem dX2_isSameByHoles_84 : decode cX2_isSameByHoles 84 = .ok (.iload_n 3, 1) := by decide +kernel
theorem dX2_isSameByHoles_85 : decode cX2_isSameByHoles 85 = .ok (.aload_n 0, 1) := by decide +kernel
theorem dX2_isSameByHoles_86 : decode cX2_isSameByHoles 86 = .ok (.getfield 42, 3) := by decide +kernel
theorem dX2_isSameByHoles_89 : decode cX2_isSameByHoles 89 = .ok (.getfield 63, 3) := by decide +kernel
theorem dX2_isSameByHoles_92 : decode cX2_isSameByHoles 92 = .ok (.invokevirtual 97, 3) := by decide +kernel
theorem dX2_isSameByHoles_95 : decode cX2_isSameByHoles 95 = .ok (.istore 5, 2) := by decide +kernel
theorem dX2_isSameByHoles_97 : decode cX2_isSameByHoles 97 = .ok (.iload 4, 2) := by decide +kernel
theorem dX2_isSameByHoles_99 : decode cX2_isSameByHoles 99 = .ok (.ifCond .ne 7, 3) := by decide +kernel
theorem dX2_isSameByHoles_102 : decode cX2_isSameByHoles 102 = .ok (.iconst 1, 1) := by decide +kernel
theorem dX2_isSameByHoles_103 : decode cX2_isSameByHoles 103 = .ok (.goto 4, 3) := by decide +kernel
theorem dX2_isSameByHoles_106 : decode cX2_isSameByHoles 106 = .ok (.iconst 0, 1) := by decide +kernel
theorem dX2_isSameByHoles_107 : decode cX2_isSameByHoles 107 = .ok (.iload 5, 2) := by decide +kernel
theorem dX2_isSameByHoles_109 : decode cX2_isSameByHoles 109 = .ok (.ifCond .ne 7, 3) := by decide +kernel
theorem dX2_isSameByHoles_112 : decode cX2_isSameByHoles 112 = .ok (.iconst 1, 1) := by decide +kernel
theorem dX2_isSameByHoles_113 : decode cX2_isSameByHoles 113 = .ok (.goto 4, 3) := by decide +kernel
theorem dX2_isSameByHoles_116 : decode cX2_isSameByHoles 116 = .ok (.iconst 0, 1) := by decide +kernel
theorem dX2_isSameByHoles_117 : decode cX2_isSameByHoles 117 = .ok (.if_icmp .eq 5, 3) := by decide +kernel
theorem dX2_isSameByHoles_120 : decode cX2_isSameByHoles 120 = .ok (.iconst 0, 1) := by decide +kernel
theorem dX2_isSameByHoles_121 : decode cX2_isSameByHoles 121 = .ok (.ireturn, 1) := by decide +kernel
theorem dX2_isSameByHoles_122 : decode cX2_isSameByHoles 122 = .ok (.iload 4, 2) := by decide +kernel
theorem dX2_isSameByHoles_124 : decode cX2_isSameByHoles 124 = .ok (.ifCond .eq 19, 3) := by decide +kernel
theorem dX2_isSameByHoles_127 : decode cX2_isSameByHoles 127 = .ok (.iload 4, 2) := by decide +kernel
theorem dX2_isSameByHoles_129 : decode cX2_isSameByHoles 129 = .ok (.iload 5, 2) := by decide +kernel
theorem dX2_isSameByHoles_131 : decode cX2_isSameByHoles 131 = .ok (.isub, 1) := by decide +kernel
theorem dX2_isSameByHoles_132 : decode cX2_isSameByHoles 132 = .ok (.iload_n 1, 1) := by decide +kernel
theorem dX2_isSameByHoles_133 : decode cX2_isSameByHoles 133 = .ok (.isub, 1) := by decide +kernel
theorem dX2_isSameByHoles_134 : decode cX2_isSameByHoles 134 = .ok (.iconst 5, 1) := by decide +kernel
theorem dX2_isSameByHoles_135 : decode cX2_isSameByHoles 135 = .ok (.invokestatic 101, 3) := by decide +kernel
theorem dX2_isSameByHoles_138 : decode cX2_isSameByHoles 138 = .ok (.ifCond .eq 5, 3) := by decide +kernel
theorem dX2_isSameByHoles_141 : decode cX2_isSameByHoles 141 = .ok (.iconst 0, 1) := by decide +kernel
theorem dX2_isSameByHoles_142 : decode cX2_isSameByHoles 142 = .ok (.ireturn, 1) := by decide +kernel
theorem dX2_isSameByHoles_143 : decode cX2_isSameByHoles 143 = .ok (.iinc 2 1, 3) := by decide +kernel
theorem dX2_isSameByHoles_146 : decode cX2_isSameByHoles 146 = .ok (.goto (-106), 3) := by decide +kernel
theorem dX2_isSameByHoles_149 : decode cX2_isSameByHoles 149 = .ok (.iconst 1, 1) := by decide +kernel
theorem dX2_isSameByHoles_150 : decode cX2_isSameByHoles 150 = .ok (.ireturn, 1) := by decide +kernel
theorem h9_X2_isSameByHoles : yX2_isSameByHoles.cls ≠ "java/lang/invoke/MethodHandle" ∧ yX2_isSameByHoles.cls ≠ "java/lang/invoke/VarHandle" ∧ (parseMethodDescriptor yX2_isSameByHoles.desc).map (fun d => d.parameters.length) = some 0 := by decide +kernel
noncomputable def F_X2_isSameByHoles (a0 : Nat) (w : FW) : Option (Int32) :=
  fg (w.1 a0 = 3) inferInstance (fg (w.1 (gR w 206 a0 0) = 1) inferInstance ((if (gI w 0 (gR w 206 a0 0) 0) = 0 then some 0 else fg (w.1 (gR w 207 a0 0) = 1) inferInstance ((if (gI w 0 (gR w 207 a0 0) 0) = 0 then some 0 else (fLoop (σ := Int32) (ρ := (Unit) ⊕ (Int32)) (fun s6 => fg (w.1 (gR w 200 a0 0) = 4) inferInstance ((if (gI w 301 (gR w 200 a0 0) 0) ≤ s6 then some (.inr (.inl ())) else (F_X3_letterAt (gR w 200 a0 0) s6 w).bind (fun r17 => (F_X4_vowelNumber r17 w).bind (fun r20 => (F_X0_holesFor (gR w 206 a0 0) r20 (gI w 2 (gR w 206 a0 0) 0) w).bind (fun r23 => (F_X0_holesFor (gR w 207 a0 0) r20 (gI w 2 (gR w 207 a0 0) 0) w).bind (fun r26 => ((if r23 = 0 then some 1 else some 0) : Option (Int32)).bind (fun x29 => ((if r26 = 0 then some 1 else some 0) : Option (Int32)).bind (fun x33 => (if x29 = x33 then (if r23 = 0 then some (.inl (s6 + 1)) else (F_J9_floorMod_7cf53 ((r23 - r26) - ((gI w 1 (gR w 206 a0 0) 0) - (gI w 1 (gR w 207 a0 0) 0))) 5 w).bind (fun r39 => (if r39 = 0 then some (.inl (s6 + 1)) else some (.inr (.inr 0))))) else some (.inr (.inr 0)))))))))))) 0).bind (fun x12 => fse x12 (fun z45 => some 1) (fun q9 => some q9)))))))
set_option maxHeartbeats 4000000 in
set_option maxRecDepth 100000 in
theorem c_X2_isSameByHoles (l : Launch) (D : va_G) (cy : Nat → ClassId) (a0 : Nat) (w : FW) (r : Int32) (hF : F_X2_isSameByHoles a0 w = some r) : fSpec l D cy yX2_isSameByHoles cX2_isSameByHoles 6 (some .boolean) { frames := 2, cells := 0, slots := 0, locals := 42 } [.ref a0] w w (some (.int r)) := by
  refine f_begin (by decide +kernel) (Nat.le_of_ble_eq_true rfl) (fun X hC hEn => ?_)
  unfold F_X2_isSameByHoles at hF
  show fAt X 0 0 6 w [(0, .ref a0)] [] 0
  refine f_aload_n hC dX2_isSameByHoles_0 rfl 0 rfl ?_
  obtain ⟨g1, hF⟩ := fg_open hF
  refine f_getR hC 2 6 206 rfl (by decide) iX2 q_193 rfl rfl (fSm.k (fSm.rf w) g1) dX2_isSameByHoles_1 ?_
  obtain ⟨g2, hF⟩ := fg_open hF
  refine f_getIN hC 0 0 0 rfl (by decide) iX0 q_147 rfl rfl (fSm.k (fSm.rf w) g2) dX2_isSameByHoles_4 ?_
  refine f_if_eq hC 20 dX2_isSameByHoles_7 (by decide) (fun c3 => ?_) (fun c3 => ?_)
  · replace hF := fi_pos hF c3
    refine f_iconst (v := 0) hC dX2_isSameByHoles_20 (by decide) ?_
    obtain rfl := Option.some.inj hF
    exact f_zret hC hEn (fSm.rf w) (nar_z (by decide)) dX2_isSameByHoles_21
  · replace hF := fi_neg hF c3
    refine f_aload_n hC dX2_isSameByHoles_10 rfl 0 rfl ?_
    refine f_getR hC 2 7 207 rfl (by decide) iX2 q_196 rfl rfl (fSm.k (fSm.rf w) g1) dX2_isSameByHoles_11 ?_
    obtain ⟨g4, hF⟩ := fg_open hF
    refine f_getIN hC 0 0 0 rfl (by decide) iX0 q_147 rfl rfl (fSm.k (fSm.rf w) g4) dX2_isSameByHoles_14 ?_
    refine f_if_ne hC 22 dX2_isSameByHoles_17 (by decide) (fun c5 => ?_) (fun c5 => ?_)
    · replace hF := fi_neg hF c5
      refine f_aload_n hC dX2_isSameByHoles_22 rfl 0 rfl ?_
      refine f_getR hC 2 6 206 rfl (by decide) iX2 q_193 rfl rfl (fSm.k (fSm.rf w) g1) dX2_isSameByHoles_23 ?_
      refine f_getIN hC 0 1 1 rfl (by decide) iX0 q_151 rfl rfl (fSm.k (fSm.rf w) g2) dX2_isSameByHoles_26 ?_
      refine f_aload_n hC dX2_isSameByHoles_29 rfl 0 rfl ?_
      refine f_getR hC 2 7 207 rfl (by decide) iX2 q_196 rfl rfl (fSm.k (fSm.rf w) g1) dX2_isSameByHoles_30 ?_
      refine f_getIN hC 0 1 1 rfl (by decide) iX0 q_151 rfl rfl (fSm.k (fSm.rf w) g4) dX2_isSameByHoles_33 ?_
      refine f_isub hC dX2_isSameByHoles_36 ?_
      refine f_istore_n (L' := [(1, .int ((gI w 1 (gR w 206 a0 0) 0) - (gI w 1 (gR w 207 a0 0) 0))), (0, .ref a0)]) hC dX2_isSameByHoles_37 rfl (by decide) rfl ?_
      refine f_iconst (v := 0) hC dX2_isSameByHoles_38 (by decide) ?_
      refine f_istore_n (L' := [(2, .int 0), (1, .int ((gI w 1 (gR w 206 a0 0) 0) - (gI w 1 (gR w 207 a0 0) 0))), (0, .ref a0)]) hC dX2_isSameByHoles_39 rfl (by decide) rfl ?_
      obtain ⟨x12, h13, hF⟩ := fb_open hF
      have K14 : ∀ z45, x12 = .inl z45 → fAt X 0 0 6 w [] [] 149 := by
        intro z45 hz9
        subst hz9
        refine f_iconst (v := 1) hC dX2_isSameByHoles_149 (by decide) ?_
        obtain rfl := Option.some.inj hF
        exact f_zret hC hEn (fSm.rf w) (nar_z (by decide)) dX2_isSameByHoles_150
      refine f_sub (L' := [(0, .ref a0), (1, .int ((gI w 1 (gR w 206 a0 0) 0) - (gI w 1 (gR w 207 a0 0) 0))), (2, .int 0)]) [2, 1, 0] rfl ?_
      refine fLoop_ind (fun (s6 : Int32) => fAt X 0 0 6 w [(0, .ref a0), (1, .int ((gI w 1 (gR w 206 a0 0) 0) - (gI w 1 (gR w 207 a0 0) 0))), (2, .int s6)] [] 40) (fun s6 y11 h7 go8 ou9 => ?_) h13
      refine f_iload_n hC dX2_isSameByHoles_40 rfl 2 rfl ?_
      refine f_aload_n hC dX2_isSameByHoles_41 rfl 0 rfl ?_
      refine f_getR hC 2 0 200 rfl (by decide) iX2 q_175 rfl rfl (fSm.k (fSm.rf w) g1) dX2_isSameByHoles_42 ?_
      obtain ⟨g15, h7⟩ := fg_open h7
      refine f_getIN hC 3 1 301 rfl (by decide) iX3 q_126 rfl rfl (fSm.k (fSm.rf w) g15) dX2_isSameByHoles_45 ?_
      refine f_icmp_ge hC 149 dX2_isSameByHoles_48 (by decide) (fun c16 => ?_) (fun c16 => ?_)
      · replace h7 := fi_pos h7 c16
        obtain rfl := Option.some.inj h7
        have eo := ou9 _ rfl
        refine f_sub (L' := []) [] rfl ?_
        exact K14 _ eo.symm
      · replace h7 := fi_neg h7 c16
        refine f_aload_n hC dX2_isSameByHoles_51 rfl 0 rfl ?_
        refine f_getR hC 2 0 200 rfl (by decide) iX2 q_175 rfl rfl (fSm.k (fSm.rf w) g1) dX2_isSameByHoles_52 ?_
        refine f_iload_n hC dX2_isSameByHoles_55 rfl 2 rfl ?_
        obtain ⟨r17, h18, h7⟩ := fb_open h7
        refine f_callVN hC [.int s6] (c_X3_letterAt l D cy (gR w 200 a0 0) s6 w r17 h18) q_433 q_75 q_1284 q_432 q_5 h9_X3_letterAt rfl (fSm.k (fSm.rf w) g15) ⟨Nat.le_of_ble_eq_true rfl, Nat.le_of_ble_eq_true rfl⟩ ⟨Nat.le_of_ble_eq_true rfl, Nat.le_of_ble_eq_true rfl⟩ (Nat.le_of_ble_eq_true rfl) rfl dX2_isSameByHoles_56 (fun e19 => ?_)
        obtain ⟨r20, h21, h7⟩ := fb_open h7
        refine f_callSN hC [.int r17] (c_X4_vowelNumber l D cy r17 w r20 h21) q_440 q_73 q_1285 q_439 h9_X4_vowelNumber ⟨Nat.le_of_ble_eq_true rfl, Nat.le_of_ble_eq_true rfl⟩ ⟨Nat.le_of_ble_eq_true rfl, Nat.le_of_ble_eq_true rfl⟩ (Nat.le_of_ble_eq_true rfl) rfl dX2_isSameByHoles_59 (fun e22 => ?_)
        refine f_istore_n (L' := [(3, .int r20), (0, .ref a0), (1, .int ((gI w 1 (gR w 206 a0 0) 0) - (gI w 1 (gR w 207 a0 0) 0))), (2, .int s6)]) hC dX2_isSameByHoles_62 rfl (by decide) rfl ?_
        refine f_aload_n hC dX2_isSameByHoles_63 rfl 1 rfl ?_
        refine f_getR hC 2 6 206 rfl (by decide) iX2 q_193 rfl rfl (fSm.k (fSm.rf w) g1) dX2_isSameByHoles_64 ?_
        refine f_iload_n hC dX2_isSameByHoles_67 rfl 0 rfl ?_
        refine f_aload_n hC dX2_isSameByHoles_68 rfl 1 rfl ?_
        refine f_getR hC 2 6 206 rfl (by decide) iX2 q_193 rfl rfl (fSm.k (fSm.rf w) g1) dX2_isSameByHoles_69 ?_
        refine f_getIN hC 0 2 2 rfl (by decide) iX0 q_154 rfl rfl (fSm.k (fSm.rf w) g2) dX2_isSameByHoles_72 ?_
        obtain ⟨r23, h24, h7⟩ := fb_open h7
        refine f_callVN hC [.int r20, .int (gI w 2 (gR w 206 a0 0) 0)] (c_X0_holesFor l D cy (gR w 206 a0 0) r20 (gI w 2 (gR w 206 a0 0) 0) w r23 h24) q_444 q_77 q_1286 q_443 q_7 h9_X0_holesFor rfl (fSm.k (fSm.rf w) g2) ⟨Nat.le_of_ble_eq_true rfl, Nat.le_of_ble_eq_true rfl⟩ ⟨Nat.le_of_ble_eq_true rfl, Nat.le_of_ble_eq_true rfl⟩ (Nat.le_of_ble_eq_true rfl) rfl dX2_isSameByHoles_75 (fun e25 => ?_)
        refine f_istore (L' := [(4, .int r23), (3, .int r20), (0, .ref a0), (1, .int ((gI w 1 (gR w 206 a0 0) 0) - (gI w 1 (gR w 207 a0 0) 0))), (2, .int s6)]) hC dX2_isSameByHoles_78 (by decide) rfl ?_
        refine f_aload_n hC dX2_isSameByHoles_80 rfl 2 rfl ?_
        refine f_getR hC 2 7 207 rfl (by decide) iX2 q_196 rfl rfl (fSm.k (fSm.rf w) g1) dX2_isSameByHoles_81 ?_
        refine f_iload_n hC dX2_isSameByHoles_84 rfl 1 rfl ?_
        refine f_aload_n hC dX2_isSameByHoles_85 rfl 2 rfl ?_
        refine f_getR hC 2 7 207 rfl (by decide) iX2 q_196 rfl rfl (fSm.k (fSm.rf w) g1) dX2_isSameByHoles_86 ?_
        refine f_getIN hC 0 2 2 rfl (by decide) iX0 q_154 rfl rfl (fSm.k (fSm.rf w) g4) dX2_isSameByHoles_89 ?_
        obtain ⟨r26, h27, h7⟩ := fb_open h7
        refine f_callVN hC [.int r20, .int (gI w 2 (gR w 207 a0 0) 0)] (c_X0_holesFor l D cy (gR w 207 a0 0) r20 (gI w 2 (gR w 207 a0 0) 0) w r26 h27) q_444 q_77 q_1286 q_443 q_7 h9_X0_holesFor rfl (fSm.k (fSm.rf w) g4) ⟨Nat.le_of_ble_eq_true rfl, Nat.le_of_ble_eq_true rfl⟩ ⟨Nat.le_of_ble_eq_true rfl, Nat.le_of_ble_eq_true rfl⟩ (Nat.le_of_ble_eq_true rfl) rfl dX2_isSameByHoles_92 (fun e28 => ?_)
        refine f_istore (L' := [(5, .int r26), (4, .int r23), (3, .int r20), (0, .ref a0), (1, .int ((gI w 1 (gR w 206 a0 0) 0) - (gI w 1 (gR w 207 a0 0) 0))), (2, .int s6)]) hC dX2_isSameByHoles_95 (by decide) rfl ?_
        refine f_iload hC dX2_isSameByHoles_97 1 rfl ?_
        obtain ⟨x29, h30, h7⟩ := fb_open h7
        have K32 : fAt X 0 0 6 w [(0, .ref a0), (1, .int ((gI w 1 (gR w 206 a0 0) 0) - (gI w 1 (gR w 207 a0 0) 0))), (2, .int s6), (4, .int r23), (5, .int r26)] [.int x29] 107 := by
          refine f_iload hC dX2_isSameByHoles_107 4 rfl ?_
          obtain ⟨x33, h34, h7⟩ := fb_open h7
          have K36 : fAt X 0 0 6 w [(0, .ref a0), (1, .int ((gI w 1 (gR w 206 a0 0) 0) - (gI w 1 (gR w 207 a0 0) 0))), (2, .int s6), (4, .int r23), (5, .int r26)] [.int x33, .int x29] 117 := by
            refine f_icmp_eq hC 122 dX2_isSameByHoles_117 (by decide) (fun c37 => ?_) (fun c37 => ?_)
            · replace h7 := fi_pos h7 c37
              refine f_iload hC dX2_isSameByHoles_122 3 rfl ?_
              refine f_if_eq hC 143 dX2_isSameByHoles_124 (by decide) (fun c38 => ?_) (fun c38 => ?_)
              · replace h7 := fi_pos h7 c38
                refine f_iinc (L' := [(2, .int (s6 + 1)), (0, .ref a0), (1, .int ((gI w 1 (gR w 206 a0 0) 0) - (gI w 1 (gR w 207 a0 0) 0))), (4, .int r23), (5, .int r26)]) hC dX2_isSameByHoles_143 2 rfl rfl (by decide) rfl ?_
                refine f_goto hC 40 dX2_isSameByHoles_146 (by decide) ?_
                obtain rfl := Option.some.inj h7
                refine f_sub (L' := [(0, .ref a0), (1, .int ((gI w 1 (gR w 206 a0 0) 0) - (gI w 1 (gR w 207 a0 0) 0))), (2, .int (s6 + 1))]) [1, 2, 0] rfl ?_
                exact go8 _ rfl
              · replace h7 := fi_neg h7 c38
                refine f_iload hC dX2_isSameByHoles_127 3 rfl ?_
                refine f_iload hC dX2_isSameByHoles_129 4 rfl ?_
                refine f_isub hC dX2_isSameByHoles_131 ?_
                refine f_iload_n hC dX2_isSameByHoles_132 rfl 1 rfl ?_
                refine f_isub hC dX2_isSameByHoles_133 ?_
                refine f_iconst (v := 5) hC dX2_isSameByHoles_134 (by decide) ?_
                obtain ⟨r39, h40, h7⟩ := fb_open h7
                refine f_callS hC [.int ((r23 - r26) - ((gI w 1 (gR w 206 a0 0) 0) - (gI w 1 (gR w 207 a0 0) 0))), .int 5] (c_J9_floorMod_7cf53 l D cy ((r23 - r26) - ((gI w 1 (gR w 206 a0 0) 0) - (gI w 1 (gR w 207 a0 0) 0))) 5 w r39 h40) q_456 q_85 q_1287 q_455 h9_J9_floorMod_7cf53 ⟨Nat.le_of_ble_eq_true rfl, Nat.le_of_ble_eq_true rfl⟩ ⟨Nat.le_of_ble_eq_true rfl, Nat.le_of_ble_eq_true rfl⟩ (Nat.le_of_ble_eq_true rfl) rfl dX2_isSameByHoles_135 (fun e41 => ?_)
                refine f_if_eq hC 143 dX2_isSameByHoles_138 (by decide) (fun c42 => ?_) (fun c42 => ?_)
                · replace h7 := fi_pos h7 c42
                  refine f_iinc (L' := [(2, .int (s6 + 1)), (0, .ref a0), (1, .int ((gI w 1 (gR w 206 a0 0) 0) - (gI w 1 (gR w 207 a0 0) 0))), (4, .int r23), (5, .int r26)]) hC dX2_isSameByHoles_143 2 rfl rfl (by decide) rfl ?_
                  refine f_goto hC 40 dX2_isSameByHoles_146 (by decide) ?_
                  obtain rfl := Option.some.inj h7
                  refine f_sub (L' := [(0, .ref a0), (1, .int ((gI w 1 (gR w 206 a0 0) 0) - (gI w 1 (gR w 207 a0 0) 0))), (2, .int (s6 + 1))]) [1, 2, 0] rfl ?_
                  exact go8 _ rfl
                · replace h7 := fi_neg h7 c42
                  refine f_iconst (v := 0) hC dX2_isSameByHoles_141 (by decide) ?_
                  obtain rfl := Option.some.inj h7
                  obtain rfl := ou9 _ rfl
                  obtain rfl := Option.some.inj hF
                  exact f_zret hC hEn (fSm.rf w) (nar_z (by decide)) dX2_isSameByHoles_142
            · replace h7 := fi_neg h7 c37
              refine f_iconst (v := 0) hC dX2_isSameByHoles_120 (by decide) ?_
              obtain rfl := Option.some.inj h7
              obtain rfl := ou9 _ rfl
              obtain rfl := Option.some.inj hF
              exact f_zret hC hEn (fSm.rf w) (nar_z (by decide)) dX2_isSameByHoles_121
          refine f_if_ne hC 116 dX2_isSameByHoles_109 (by decide) (fun c43 => ?_) (fun c43 => ?_)
          · replace h34 := fi_neg h34 c43
            refine f_iconst (v := 0) hC dX2_isSameByHoles_116 (by decide) ?_
            obtain rfl := Option.some.inj h34
            exact K36
          · replace h34 := fi_pos h34 c43
            refine f_iconst (v := 1) hC dX2_isSameByHoles_112 (by decide) ?_
            refine f_goto hC 117 dX2_isSameByHoles_113 (by decide) ?_
            obtain rfl := Option.some.inj h34
            exact K36
        refine f_if_ne hC 106 dX2_isSameByHoles_99 (by decide) (fun c44 => ?_) (fun c44 => ?_)
        · replace h30 := fi_neg h30 c44
          refine f_iconst (v := 0) hC dX2_isSameByHoles_106 (by decide) ?_
          obtain rfl := Option.some.inj h30
          refine f_sub (L' := [(0, .ref a0), (1, .int ((gI w 1 (gR w 206 a0 0) 0) - (gI w 1 (gR w 207 a0 0) 0))), (2, .int s6), (4, .int r23), (5, .int r26)]) [3, 4, 5, 1, 0] rfl ?_
          exact K32
        · replace h30 := fi_pos h30 c44
          refine f_iconst (v := 1) hC dX2_isSameByHoles_102 (by decide) ?_
          refine f_goto hC 107 dX2_isSameByHoles_103 (by decide) ?_
          obtain rfl := Option.some.inj h30
          refine f_sub (L' := [(0, .ref a0), (1, .int ((gI w 1 (gR w 206 a0 0) 0) - (gI w 1 (gR w 207 a0 0) 0))), (2, .int s6), (4, .int r23), (5, .int r26)]) [3, 4, 5, 1, 0] rfl ?_
          exact K32
    · replace hF := fi_pos hF c5
      refine f_iconst (v := 0) hC dX2_isSameByHoles_20 (by decide) ?_
      obtain rfl := Option.some.inj hF
      exact f_zret hC hEn (fSm.rf w) (nar_z (by decide)) dX2_isSameByHoles_21
theorem dX2_isSameByReading_0 : decode cX2_isSameByReading 0 = .ok (.aload_n 0, 1) := by decide +kernel
theorem dX2_isSameByReading_1 : decode cX2_isSameByReading 1 = .ok (.getfield 38, 3) := by decide +kernel
theorem dX2_isSameByReading_4 : decode cX2_isSameByReading 4 = .ok (.getfield 79, 3) := by decide +kernel
theorem dX2_isSameByReading_7 : decode cX2_isSameByReading 7 = .ok (.ifCond .eq 13, 3) := by decide +kernel
theorem dX2_isSameByReading_10 : decode cX2_isSameByReading 10 = .ok (.aload_n 0, 1) := by decide +kernel
theorem dX2_isSameByReading_11 : decode cX2_isSameByReading 11 = .ok (.getfield 42, 3) := by decide +kernel
theorem dX2_isSameByReading_14 : decode cX2_isSameByReading 14 = .ok (.getfield 79, 3) := by decide +kernel
theorem dX2_isSameByReading_17 : decode cX2_isSameByReading 17 = .ok (.ifCond .ne 5, 3) := by decide +kernel
theorem dX2_isSameByReading_20 : decode cX2_isSameByReading 20 = .ok (.iconst 0, 1) := by decide +kernel
theorem dX2_isSameByReading_21 : decode cX2_isSameByReading 21 = .ok (.ireturn, 1) := by decide +kernel
theorem dX2_isSameByReading_22 : decode cX2_isSameByReading 22 = .ok (.iconst 0, 1) := by decide +kernel
theorem dX2_isSameByReading_23 : decode cX2_isSameByReading 23 = .ok (.istore_n 1, 1) := by decide +kernel
theorem dX2_isSameByReading_24 : decode cX2_isSameByReading 24 = .ok (.iload_n 1, 1) := by decide +kernel
theorem dX2_isSameByReading_25 : decode cX2_isSameByReading 25 = .ok (.aload_n 0, 1) := by decide +kernel
theorem dX2_isSameByReading_26 : decode cX2_isSameByReading 26 = .ok (.getfield 12, 3) := by decide +kernel
theorem dX2_isSameByReading_29 : decode cX2_isSameByReading 29 = .ok (.getfield 76, 3) := by decide +kernel
theorem dX2_isSameByReading_32 : decode cX2_isSameByReading 32 = .ok (.if_icmp .ge 39, 3) := by decide +kernel
theorem dX2_isSameByReading_35 : decode cX2_isSameByReading 35 = .ok (.aload_n 0, 1) := by decide +kernel
theorem dX2_isSameByReading_36 : decode cX2_isSameByReading 36 = .ok (.getfield 12, 3) := by decide +kernel
theorem dX2_isSameByReading_39 : decode cX2_isSameByReading 39 = .ok (.iload_n 1, 1) := by decide +kernel
theorem dX2_isSameByReading_40 : decode cX2_isSameByReading 40 = .ok (.invokevirtual 82, 3) := by decide +kernel
theorem dX2_isSameByReading_43 : decode cX2_isSameByReading 43 = .ok (.istore_n 2, 1) := by decide +kernel
theorem dX2_isSameByReading_44 : decode cX2_isSameByReading 44 = .ok (.aload_n 0, 1) := by decide +kernel
theorem dX2_isSameByReading_45 : decode cX2_isSameByReading 45 = .ok (.getfield 38, 3) := by decide +kernel
theorem dX2_isSameByReading_48 : decode cX2_isSameByReading 48 = .ok (.iload_n 2, 1) := by decide +kernel
theorem dX2_isSameByReading_49 : decode cX2_isSameByReading 49 = .ok (.invokevirtual 86, 3) := by decide +kernel
theorem dX2_isSameByReading_52 : decode cX2_isSameByReading 52 = .ok (.aload_n 0, 1) := by decide +kernel
theorem dX2_isSameByReading_53 : decode cX2_isSameByReading 53 = .ok (.getfield 42, 3) := by decide +kernel
theorem dX2_isSameByReading_56 : decode cX2_isSameByReading 56 = .ok (.iload_n 2, 1) := by decide +kernel
theorem dX2_isSameByReading_57 : decode cX2_isSameByReading 57 = .ok (.invokevirtual 86, 3) := by decide +kernel
theorem dX2_isSameByReading_60 : decode cX2_isSameByReading 60 = .ok (.if_icmp .eq 5, 3) := by decide +kernel
theorem dX2_isSameByReading_63 : decode cX2_isSameByReading 63 = .ok (.iconst 0, 1) := by decide +kernel
theorem dX2_isSameByReading_64 : decode cX2_isSameByReading 64 = .ok (.ireturn, 1) := by decide +kernel
theorem dX2_isSameByReading_65 : decode cX2_isSameByReading 65 = .ok (.iinc 1 1, 3) := by decide +kernel
theorem dX2_isSameByReading_68 : decode cX2_isSameByReading 68 = .ok (.goto (-44), 3) := by decide +kernel
theorem dX2_isSameByReading_71 : decode cX2_isSameByReading 71 = .ok (.iconst 1, 1) := by decide +kernel
theorem dX2_isSameByReading_72 : decode cX2_isSameByReading 72 = .ok (.ireturn, 1) := by decide +kernel
theorem h9_X2_isSameByReading : yX2_isSameByReading.cls ≠ "java/lang/invoke/MethodHandle" ∧ yX2_isSameByReading.cls ≠ "java/lang/invoke/VarHandle" ∧ (parseMethodDescriptor yX2_isSameByReading.desc).map (fun d => d.parameters.length) = some 0 := by decide +kernel
noncomputable def F_X2_isSameByReading (a0 : Nat) (w : FW) : Option (Int32) :=
  fg (w.1 a0 = 3) inferInstance (fg (w.1 (gR w 206 a0 0) = 1) inferInstance ((if (gI w 0 (gR w 206 a0 0) 0) = 0 then some 0 else fg (w.1 (gR w 207 a0 0) = 1) inferInstance ((if (gI w 0 (gR w 207 a0 0) 0) = 0 then some 0 else (fLoop (σ := Int32) (ρ := (Unit) ⊕ (Int32)) (fun s6 => fg (w.1 (gR w 200 a0 0) = 4) inferInstance ((if (gI w 301 (gR w 200 a0 0) 0) ≤ s6 then some (.inr (.inl ())) else (F_X3_letterAt (gR w 200 a0 0) s6 w).bind (fun r17 => (F_X0_seen (gR w 206 a0 0) r17 w).bind (fun r20 => (F_X0_seen (gR w 207 a0 0) r17 w).bind (fun r23 => (if r20 = r23 then some (.inl (s6 + 1)) else some (.inr (.inr 0))))))))) 0).bind (fun x12 => fse x12 (fun z27 => some 1) (fun q9 => some q9)))))))
set_option maxHeartbeats 4000000 in
set_option maxRecDepth 100000 in
theorem c_X2_isSameByReading (l : Launch) (D : va_G) (cy : Nat → ClassId) (a0 : Nat) (w : FW) (r : Int32) (hF : F_X2_isSameByReading a0 w = some r) : fSpec l D cy yX2_isSameByReading cX2_isSameByReading 3 (some .boolean) { frames := 6, cells := 0, slots := 0, locals := 131 } [.ref a0] w w (some (.int r)) := by
  refine f_begin (by decide +kernel) (Nat.le_of_ble_eq_true rfl) (fun X hC hEn => ?_)
  unfold F_X2_isSameByReading at hF
  show fAt X 0 0 3 w [(0, .ref a0)] [] 0
  refine f_aload_n hC dX2_isSameByReading_0 rfl 0 rfl ?_
  obtain ⟨g1, hF⟩ := fg_open hF
  refine f_getR hC 2 6 206 rfl (by decide) iX2 q_193 rfl rfl (fSm.k (fSm.rf w) g1) dX2_isSameByReading_1 ?_
  obtain ⟨g2, hF⟩ := fg_open hF
  refine f_getIN hC 0 0 0 rfl (by decide) iX0 q_147 rfl rfl (fSm.k (fSm.rf w) g2) dX2_isSameByReading_4 ?_
  refine f_if_eq hC 20 dX2_isSameByReading_7 (by decide) (fun c3 => ?_) (fun c3 => ?_)
  · replace hF := fi_pos hF c3
    refine f_iconst (v := 0) hC dX2_isSameByReading_20 (by decide) ?_
    obtain rfl := Option.some.inj hF
    exact f_zret hC hEn (fSm.rf w) (nar_z (by decide)) dX2_isSameByReading_21
  · replace hF := fi_neg hF c3
    refine f_aload_n hC dX2_isSameByReading_10 rfl 0 rfl ?_
    refine f_getR hC 2 7 207 rfl (by decide) iX2 q_196 rfl rfl (fSm.k (fSm.rf w) g1) dX2_isSameByReading_11 ?_
    obtain ⟨g4, hF⟩ := fg_open hF
    refine f_getIN hC 0 0 0 rfl (by decide) iX0 q_147 rfl rfl (fSm.k (fSm.rf w) g4) dX2_isSameByReading_14 ?_
    refine f_if_ne hC 22 dX2_isSameByReading_17 (by decide) (fun c5 => ?_) (fun c5 => ?_)
    · replace hF := fi_neg hF c5
      refine f_iconst (v := 0) hC dX2_isSameByReading_22 (by decide) ?_
      refine f_istore_n (L' := [(1, .int 0), (0, .ref a0)]) hC dX2_isSameByReading_23 rfl (by decide) rfl ?_
      obtain ⟨x12, h13, hF⟩ := fb_open hF
      have K14 : ∀ z27, x12 = .inl z27 → fAt X 0 0 3 w [] [] 71 := by
        intro z27 hz9
        subst hz9
        refine f_iconst (v := 1) hC dX2_isSameByReading_71 (by decide) ?_
        obtain rfl := Option.some.inj hF
        exact f_zret hC hEn (fSm.rf w) (nar_z (by decide)) dX2_isSameByReading_72
      refine f_sub (L' := [(0, .ref a0), (1, .int 0)]) [1, 0] rfl ?_
      refine fLoop_ind (fun (s6 : Int32) => fAt X 0 0 3 w [(0, .ref a0), (1, .int s6)] [] 24) (fun s6 y11 h7 go8 ou9 => ?_) h13
      refine f_iload_n hC dX2_isSameByReading_24 rfl 1 rfl ?_
      refine f_aload_n hC dX2_isSameByReading_25 rfl 0 rfl ?_
      refine f_getR hC 2 0 200 rfl (by decide) iX2 q_175 rfl rfl (fSm.k (fSm.rf w) g1) dX2_isSameByReading_26 ?_
      obtain ⟨g15, h7⟩ := fg_open h7
      refine f_getIN hC 3 1 301 rfl (by decide) iX3 q_126 rfl rfl (fSm.k (fSm.rf w) g15) dX2_isSameByReading_29 ?_
      refine f_icmp_ge hC 71 dX2_isSameByReading_32 (by decide) (fun c16 => ?_) (fun c16 => ?_)
      · replace h7 := fi_pos h7 c16
        obtain rfl := Option.some.inj h7
        have eo := ou9 _ rfl
        refine f_sub (L' := []) [] rfl ?_
        exact K14 _ eo.symm
      · replace h7 := fi_neg h7 c16
        refine f_aload_n hC dX2_isSameByReading_35 rfl 0 rfl ?_
        refine f_getR hC 2 0 200 rfl (by decide) iX2 q_175 rfl rfl (fSm.k (fSm.rf w) g1) dX2_isSameByReading_36 ?_
        refine f_iload_n hC dX2_isSameByReading_39 rfl 1 rfl ?_
        obtain ⟨r17, h18, h7⟩ := fb_open h7
        refine f_callVN hC [.int s6] (c_X3_letterAt l D cy (gR w 200 a0 0) s6 w r17 h18) q_433 q_75 q_1284 q_432 q_5 h9_X3_letterAt rfl (fSm.k (fSm.rf w) g15) ⟨Nat.le_of_ble_eq_true rfl, Nat.le_of_ble_eq_true rfl⟩ ⟨Nat.le_of_ble_eq_true rfl, Nat.le_of_ble_eq_true rfl⟩ (Nat.le_of_ble_eq_true rfl) rfl dX2_isSameByReading_40 (fun e19 => ?_)
        refine f_istore_n (L' := [(2, .int r17), (0, .ref a0), (1, .int s6)]) hC dX2_isSameByReading_43 rfl (by decide) rfl ?_
        refine f_aload_n hC dX2_isSameByReading_44 rfl 1 rfl ?_
        refine f_getR hC 2 6 206 rfl (by decide) iX2 q_193 rfl rfl (fSm.k (fSm.rf w) g1) dX2_isSameByReading_45 ?_
        refine f_iload_n hC dX2_isSameByReading_48 rfl 0 rfl ?_
        obtain ⟨r20, h21, h7⟩ := fb_open h7
        refine f_callVN hC [.int r17] (c_X0_seen l D cy (gR w 206 a0 0) r17 w r20 h21) q_1224 q_77 q_1292 q_1223 q_57 h9_X0_seen rfl (fSm.k (fSm.rf w) g2) ⟨Nat.le_of_ble_eq_true rfl, Nat.le_of_ble_eq_true rfl⟩ ⟨Nat.le_of_ble_eq_true rfl, Nat.le_of_ble_eq_true rfl⟩ (Nat.le_of_ble_eq_true rfl) rfl dX2_isSameByReading_49 (fun e22 => ?_)
        refine f_aload_n hC dX2_isSameByReading_52 rfl 1 rfl ?_
        refine f_getR hC 2 7 207 rfl (by decide) iX2 q_196 rfl rfl (fSm.k (fSm.rf w) g1) dX2_isSameByReading_53 ?_
        refine f_iload_n hC dX2_isSameByReading_56 rfl 0 rfl ?_
        obtain ⟨r23, h24, h7⟩ := fb_open h7
        refine f_callVN hC [.int r17] (c_X0_seen l D cy (gR w 207 a0 0) r17 w r23 h24) q_1224 q_77 q_1292 q_1223 q_57 h9_X0_seen rfl (fSm.k (fSm.rf w) g4) ⟨Nat.le_of_ble_eq_true rfl, Nat.le_of_ble_eq_true rfl⟩ ⟨Nat.le_of_ble_eq_true rfl, Nat.le_of_ble_eq_true rfl⟩ (Nat.le_of_ble_eq_true rfl) rfl dX2_isSameByReading_57 (fun e25 => ?_)
        refine f_icmp_eq hC 65 dX2_isSameByReading_60 (by decide) (fun c26 => ?_) (fun c26 => ?_)
        · replace h7 := fi_pos h7 c26
          refine f_iinc (L' := [(1, .int (s6 + 1)), (2, .int r17), (0, .ref a0)]) hC dX2_isSameByReading_65 2 rfl rfl (by decide) rfl ?_
          refine f_goto hC 24 dX2_isSameByReading_68 (by decide) ?_
          obtain rfl := Option.some.inj h7
          refine f_sub (L' := [(0, .ref a0), (1, .int (s6 + 1))]) [2, 0] rfl ?_
          exact go8 _ rfl
        · replace h7 := fi_neg h7 c26
          refine f_iconst (v := 0) hC dX2_isSameByReading_63 (by decide) ?_
          obtain rfl := Option.some.inj h7
          obtain rfl := ou9 _ rfl
          obtain rfl := Option.some.inj hF
          exact f_zret hC hEn (fSm.rf w) (nar_z (by decide)) dX2_isSameByReading_64
    · replace hF := fi_pos hF c5
      refine f_iconst (v := 0) hC dX2_isSameByReading_20 (by decide) ?_
      obtain rfl := Option.some.inj hF
      exact f_zret hC hEn (fSm.rf w) (nar_z (by decide)) dX2_isSameByReading_21
theorem dX4_doAgree_0 : decode cX4_doAgree 0 = .ok (.aload_n 0, 1) := by decide +kernel
theorem dX4_doAgree_1 : decode cX4_doAgree 1 = .ok (.iload_n 1, 1) := by decide +kernel
theorem dX4_doAgree_2 : decode cX4_doAgree 2 = .ok (.invokevirtual 115, 3) := by decide +kernel
theorem dX4_doAgree_5 : decode cX4_doAgree 5 = .ok (.astore_n 3, 1) := by decide +kernel
theorem dX4_doAgree_6 : decode cX4_doAgree 6 = .ok (.iload_n 2, 1) := by decide +kernel
theorem dX4_doAgree_7 : decode cX4_doAgree 7 = .ok (.ifCond .eq 10, 3) := by decide +kernel
theorem dX4_doAgree_10 : decode cX4_doAgree 10 = .ok (.aload_n 3, 1) := by decide +kernel
theorem dX4_doAgree_11 : decode cX4_doAgree 11 = .ok (.invokevirtual 221, 3) := by decide +kernel
theorem dX4_doAgree_14 : decode cX4_doAgree 14 = .ok (.goto 7, 3) := by decide +kernel
theorem dX4_doAgree_17 : decode cX4_doAgree 17 = .ok (.aload_n 3, 1) := by decide +kernel
theorem dX4_doAgree_18 : decode cX4_doAgree 18 = .ok (.invokevirtual 225, 3) := by decide +kernel
theorem dX4_doAgree_21 : decode cX4_doAgree 21 = .ok (.ireturn, 1) := by decide +kernel
theorem h9_X4_doAgree : yX4_doAgree.cls ≠ "java/lang/invoke/MethodHandle" ∧ yX4_doAgree.cls ≠ "java/lang/invoke/VarHandle" ∧ (parseMethodDescriptor yX4_doAgree.desc).map (fun d => d.parameters.length) = some 2 := by decide +kernel
noncomputable def F_X4_doAgree (a0 : Nat) (x1 : Int32) (x2 : Int32) (w : FW) : Option (Int32 ⊕ Nat) :=
  fg (w.1 a0 = 5) inferInstance ((F_X4_existing a0 x1 w).bind (fun r1 => fse r1 (fun v5 => (if x2 = 0 then fg (w.1 v5 = 3) inferInstance ((F_X2_isSameByReading v5 w).bind (fun r9 => fg (r9 = 0 ∨ r9 = 1) inferInstance (some (.inl r9)))) else fg (w.1 v5 = 3) inferInstance ((F_X2_isSameByHoles v5 w).bind (fun r14 => fg (r14 = 0 ∨ r14 = 1) inferInstance (some (.inl r14)))))) (fun x6 => some (.inr x6))))
set_option maxHeartbeats 4000000 in
set_option maxRecDepth 100000 in
theorem c_X4_doAgree (l : Launch) (D : va_G) (cy : Nat → ClassId) (a0 : Nat) (x1 : Int32) (x2 : Int32) (w : FW) (r : Int32 ⊕ Nat) (hF : F_X4_doAgree a0 x1 x2 w = some r) : fSpecX l D cy yX4_doAgree cX4_doAgree 4 (some .boolean) { frames := 7, cells := 1, slots := 6, locals := 153 } [.ref a0, .int x1, .int x2] w w (fOI r) := by
  refine f_beginX (by decide +kernel) (Nat.le_of_ble_eq_true rfl) (fun X hC hEn => ?_)
  have hst := f_st hC hEn
  unfold F_X4_doAgree at hF
  show fAt X 0 0 4 w [(0, .ref a0), (1, .int x1), (2, .int x2)] [] 0
  refine f_aload_n hC dX4_doAgree_0 rfl 0 rfl ?_
  refine f_iload_n hC dX4_doAgree_1 rfl 1 rfl ?_
  obtain ⟨g3, hF⟩ := fg_open hF
  obtain ⟨r1, h2, hF⟩ := fb_open hF
  rcases r1 with v5 | x6
  · refine f_callVR hC [.int x1] hst (c_X4_existing l D cy a0 x1 w (.inl v5) h2) q_404 q_73 q_401 q_403 q_1 h9_X4_existing rfl (fSm.k (fSm.rf w) g3) ⟨Nat.le_of_ble_eq_true rfl, Nat.le_of_ble_eq_true rfl⟩ ⟨Nat.le_of_ble_eq_true rfl, Nat.le_of_ble_eq_true rfl⟩ (Nat.le_of_ble_eq_true rfl) rfl dX4_doAgree_2 (fun e4 => ?_)
    refine f_astore_n (L' := [(3, .ref v5), (0, .ref a0), (1, .int x1), (2, .int x2)]) hC dX4_doAgree_5 rfl (by decide) rfl ?_
    refine f_iload_n hC dX4_doAgree_6 rfl 3 rfl ?_
    refine f_if_eq hC 17 dX4_doAgree_7 (by decide) (fun c8 => ?_) (fun c8 => ?_)
    · replace hF := fi_pos hF c8
      refine f_aload_n hC dX4_doAgree_17 rfl 0 rfl ?_
      obtain ⟨g11, hF⟩ := fg_open hF
      obtain ⟨r9, h10, hF⟩ := fb_open hF
      refine f_callVN hC [] (c_X2_isSameByReading l D cy v5 w r9 h10) q_1291 q_76 q_1288 q_1290 q_62 h9_X2_isSameByReading rfl (fSm.k (fSm.rf w) g11) ⟨Nat.le_of_ble_eq_true rfl, Nat.le_of_ble_eq_true rfl⟩ ⟨Nat.le_of_ble_eq_true rfl, Nat.le_of_ble_eq_true rfl⟩ (Nat.le_of_ble_eq_true rfl) rfl dX4_doAgree_18 (fun e12 => ?_)
      obtain ⟨g13, hF⟩ := fg_open hF
      obtain rfl := Option.some.inj hF
      exact f_zretX hC hEn (fSm.rf w) (nar_z g13) dX4_doAgree_21
    · replace hF := fi_neg hF c8
      refine f_aload_n hC dX4_doAgree_10 rfl 0 rfl ?_
      obtain ⟨g16, hF⟩ := fg_open hF
      obtain ⟨r14, h15, hF⟩ := fb_open hF
      refine f_callVN hC [] (c_X2_isSameByHoles l D cy v5 w r14 h15) q_1283 q_76 q_1280 q_1282 q_61 h9_X2_isSameByHoles rfl (fSm.k (fSm.rf w) g16) ⟨Nat.le_of_ble_eq_true rfl, Nat.le_of_ble_eq_true rfl⟩ ⟨Nat.le_of_ble_eq_true rfl, Nat.le_of_ble_eq_true rfl⟩ (Nat.le_of_ble_eq_true rfl) rfl dX4_doAgree_11 (fun e17 => ?_)
      refine f_goto hC 21 dX4_doAgree_14 (by decide) ?_
      obtain ⟨g18, hF⟩ := fg_open hF
      obtain rfl := Option.some.inj hF
      exact f_zretX hC hEn (fSm.rf w) (nar_z g18) dX4_doAgree_21
  · obtain rfl := Option.some.inj hF
    exact f_callVT hC [.int x1] hEn (fSm.rf w) (Nat.le_of_ble_eq_true rfl) (Nat.le_of_ble_eq_true rfl) (c_X4_existing l D cy a0 x1 w (.inr x6) h2) q_404 q_73 q_401 q_403 q_1 h9_X4_existing rfl (fSm.k (fSm.rf w) g3) ⟨Nat.le_of_ble_eq_true rfl, Nat.le_of_ble_eq_true rfl⟩ ⟨Nat.le_of_ble_eq_true rfl, Nat.le_of_ble_eq_true rfl⟩ (Nat.le_of_ble_eq_true rfl) rfl dX4_doAgree_2
theorem dX4_moodFor_0 : decode cX4_moodFor 0 = .ok (.aload_n 0, 1) := by decide +kernel
theorem dX4_moodFor_1 : decode cX4_moodFor 1 = .ok (.iload_n 1, 1) := by decide +kernel
theorem dX4_moodFor_2 : decode cX4_moodFor 2 = .ok (.invokevirtual 115, 3) := by decide +kernel
theorem dX4_moodFor_5 : decode cX4_moodFor 5 = .ok (.astore_n 3, 1) := by decide +kernel
theorem dX4_moodFor_6 : decode cX4_moodFor 6 = .ok (.aload_n 3, 1) := by decide +kernel
theorem dX4_moodFor_7 : decode cX4_moodFor 7 = .ok (.iload_n 2, 1) := by decide +kernel
theorem dX4_moodFor_8 : decode cX4_moodFor 8 = .ok (.invokestatic 213, 3) := by decide +kernel
theorem dX4_moodFor_11 : decode cX4_moodFor 11 = .ok (.astore 4, 2) := by decide +kernel
theorem dX4_moodFor_13 : decode cX4_moodFor 13 = .ok (.iconst 0, 1) := by decide +kernel
theorem dX4_moodFor_14 : decode cX4_moodFor 14 = .ok (.istore 5, 2) := by decide +kernel
theorem dX4_moodFor_16 : decode cX4_moodFor 16 = .ok (.iload 5, 2) := by decide +kernel
theorem dX4_moodFor_18 : decode cX4_moodFor 18 = .ok (.iconst 5, 1) := by decide +kernel
theorem dX4_moodFor_19 : decode cX4_moodFor 19 = .ok (.if_icmp .ge 38, 3) := by decide +kernel
theorem dX4_moodFor_22 : decode cX4_moodFor 22 = .ok (.aload 4, 2) := by decide +kernel
theorem dX4_moodFor_24 : decode cX4_moodFor 24 = .ok (.aload_n 3, 1) := by decide +kernel
theorem dX4_moodFor_25 : decode cX4_moodFor 25 = .ok (.getfield 119, 3) := by decide +kernel
theorem dX4_moodFor_28 : decode cX4_moodFor 28 = .ok (.iload 5, 2) := by decide +kernel
theorem dX4_moodFor_30 : decode cX4_moodFor 30 = .ok (.aload 4, 2) := by decide +kernel
theorem dX4_moodFor_32 : decode cX4_moodFor 32 = .ok (.getfield 179, 3) := by decide +kernel
theorem dX4_moodFor_35 : decode cX4_moodFor 35 = .ok (.invokevirtual 207, 3) := by decide +kernel
theorem dX4_moodFor_38 : decode cX4_moodFor 38 = .ok (.aload_n 3, 1) := by decide +kernel
theorem dX4_moodFor_39 : decode cX4_moodFor 39 = .ok (.getfield 119, 3) := by decide +kernel
theorem dX4_moodFor_42 : decode cX4_moodFor 42 = .ok (.getfield 86, 3) := by decide +kernel
theorem dX4_moodFor_45 : decode cX4_moodFor 45 = .ok (.if_icmp .ne 6, 3) := by decide +kernel
theorem dX4_moodFor_48 : decode cX4_moodFor 48 = .ok (.iload 5, 2) := by decide +kernel
theorem dX4_moodFor_50 : decode cX4_moodFor 50 = .ok (.ireturn, 1) := by decide +kernel
theorem dX4_moodFor_51 : decode cX4_moodFor 51 = .ok (.iinc 5 1, 3) := by decide +kernel
theorem dX4_moodFor_54 : decode cX4_moodFor 54 = .ok (.goto (-38), 3) := by decide +kernel
theorem dX4_moodFor_57 : decode cX4_moodFor 57 = .ok (.new 153, 3) := by decide +kernel
theorem dX4_moodFor_60 : decode cX4_moodFor 60 = .ok (.dup, 1) := by decide +kernel
theorem dX4_moodFor_61 : decode cX4_moodFor 61 = .ok (.ldc 228, 2) := by decide +kernel
theorem dX4_moodFor_63 : decode cX4_moodFor 63 = .ok (.invokespecial 157, 3) := by decide +kernel
theorem dX4_moodFor_66 : decode cX4_moodFor 66 = .ok (.athrow, 1) := by decide +kernel
theorem h9_X4_moodFor : yX4_moodFor.cls ≠ "java/lang/invoke/MethodHandle" ∧ yX4_moodFor.cls ≠ "java/lang/invoke/VarHandle" ∧ (parseMethodDescriptor yX4_moodFor.desc).map (fun d => d.parameters.length) = some 2 := by decide +kernel
noncomputable def F_X4_moodFor (a0 : Nat) (x1 : Int32) (x2 : Int32) (w : FW) : Option (Int32 ⊕ Nat) :=
  fg (w.1 a0 = 5) inferInstance ((F_X4_existing a0 x1 w).bind (fun r1 => fse r1 (fun v5 => (F_X4_punchedHalf v5 x2 w).bind (fun r8 => fse r8 (fun v11 => (fLoop (σ := Int32) (ρ := (Unit) ⊕ (Int32 ⊕ Nat)) (fun s14 => (if 5 ≤ s14 then some (.inr (.inl ())) else fg (w.1 v5 = 3) inferInstance (fg (w.1 v11 = 1) inferInstance ((F_X0_rightLetters v11 (gR w 200 v5 0) s14 (gI w 2 v11 0) w).bind (fun r26 => fg (w.1 (gR w 200 v5 0) = 4) inferInstance ((if r26 = (gI w 301 (gR w 200 v5 0) 0) then some (.inr (.inr (.inl s14))) else some (.inl (s14 + 1))))))))) 0).bind (fun x20 => fse x20 (fun z31 => some (.inr 5)) (fun q9 => some q9))) (fun x12 => some (.inr x12)))) (fun x6 => some (.inr x6))))
set_option maxHeartbeats 4000000 in
set_option maxRecDepth 100000 in
theorem c_X4_moodFor (l : Launch) (D : va_G) (cy : Nat → ClassId) (a0 : Nat) (x1 : Int32) (x2 : Int32) (w : FW) (r : Int32 ⊕ Nat) (hF : F_X4_moodFor a0 x1 x2 w = some r) : fSpecX l D cy yX4_moodFor cX4_moodFor 6 (some .int) { frames := 7, cells := 3, slots := 18, locals := 136 } [.ref a0, .int x1, .int x2] w w (fOI r) := by
  refine f_beginX (by decide +kernel) (Nat.le_of_ble_eq_true rfl) (fun X hC hEn => ?_)
  have hst := f_st hC hEn
  unfold F_X4_moodFor at hF
  show fAt X 0 0 6 w [(0, .ref a0), (1, .int x1), (2, .int x2)] [] 0
  refine f_aload_n hC dX4_moodFor_0 rfl 0 rfl ?_
  refine f_iload_n hC dX4_moodFor_1 rfl 1 rfl ?_
  obtain ⟨g3, hF⟩ := fg_open hF
  obtain ⟨r1, h2, hF⟩ := fb_open hF
  rcases r1 with v5 | x6
  · refine f_callVR hC [.int x1] hst (c_X4_existing l D cy a0 x1 w (.inl v5) h2) q_404 q_73 q_401 q_403 q_1 h9_X4_existing rfl (fSm.k (fSm.rf w) g3) ⟨Nat.le_of_ble_eq_true rfl, Nat.le_of_ble_eq_true rfl⟩ ⟨Nat.le_of_ble_eq_true rfl, Nat.le_of_ble_eq_true rfl⟩ (Nat.le_of_ble_eq_true rfl) rfl dX4_moodFor_2 (fun e4 => ?_)
    refine f_astore_n (L' := [(3, .ref v5), (0, .ref a0), (1, .int x1), (2, .int x2)]) hC dX4_moodFor_5 rfl (by decide) rfl ?_
    refine f_aload_n hC dX4_moodFor_6 rfl 0 rfl ?_
    refine f_iload_n hC dX4_moodFor_7 rfl 3 rfl ?_
    obtain ⟨r8, h9, hF⟩ := fb_open hF
    rcases r8 with v11 | x12
    · refine f_callSR hC [.ref v5, .int x2] hst (c_X4_punchedHalf l D cy v5 x2 w (.inl v11) h9) q_524 q_73 q_522 q_523 h9_X4_punchedHalf ⟨Nat.le_of_ble_eq_true rfl, Nat.le_of_ble_eq_true rfl⟩ ⟨Nat.le_of_ble_eq_true rfl, Nat.le_of_ble_eq_true rfl⟩ (Nat.le_of_ble_eq_true rfl) rfl dX4_moodFor_8 (fun e10 => ?_)
      refine f_astore (L' := [(4, .ref v11), (3, .ref v5), (0, .ref a0), (1, .int x1), (2, .int x2)]) hC dX4_moodFor_11 (by decide) rfl ?_
      refine f_iconst (v := 0) hC dX4_moodFor_13 (by decide) ?_
      refine f_istore (L' := [(5, .int 0), (4, .ref v11), (3, .ref v5), (0, .ref a0), (1, .int x1), (2, .int x2)]) hC dX4_moodFor_14 (by decide) rfl ?_
      obtain ⟨x20, h21, hF⟩ := fb_open hF
      have K22 : ∀ z31, x20 = .inl z31 → fAt X 2 12 6 w [] [] 57 := by
        intro z31 hz9
        subst hz9
        obtain rfl := Option.some.inj hF
        exact f_throwXS hC hEn (fSm.rf w) 41 rfl xf_5 xy_5 xn_5 ns_0 ns_1 ns_2 ns_5 q_525 q_89 rfl xa_RX4_157 xg_RX4_153_157 dX4_moodFor_57 dX4_moodFor_60 dX4_moodFor_61 dX4_moodFor_63 dX4_moodFor_66 (Nat.le_of_ble_eq_true rfl) (Nat.le_of_ble_eq_true rfl) (Nat.le_of_ble_eq_true rfl) (Nat.le_of_ble_eq_true rfl) (Nat.le_of_ble_eq_true rfl) (Nat.le_of_ble_eq_true rfl)
      refine f_sub (L' := [(3, .ref v5), (4, .ref v11), (5, .int 0)]) [2, 1, 0] rfl ?_
      refine fLoop_ind (fun (s14 : Int32) => fAt X 2 12 6 w [(3, .ref v5), (4, .ref v11), (5, .int s14)] [] 16) (fun s14 y19 h15 go16 ou17 => ?_) h21
      refine f_iload hC dX4_moodFor_16 2 rfl ?_
      refine f_iconst (v := 5) hC dX4_moodFor_18 (by decide) ?_
      refine f_icmp_ge hC 57 dX4_moodFor_19 (by decide) (fun c23 => ?_) (fun c23 => ?_)
      · replace h15 := fi_pos h15 c23
        obtain rfl := Option.some.inj h15
        have eo := ou17 _ rfl
        refine f_sub (L' := []) [] rfl ?_
        exact K22 _ eo.symm
      · replace h15 := fi_neg h15 c23
        refine f_aload hC dX4_moodFor_22 1 rfl ?_
        refine f_aload_n hC dX4_moodFor_24 rfl 0 rfl ?_
        obtain ⟨g24, h15⟩ := fg_open h15
        refine f_getRN hC 2 0 200 rfl (by decide) iX2 q_176 rfl rfl (fSm.k (fSm.rf w) g24) dX4_moodFor_25 ?_
        refine f_iload hC dX4_moodFor_28 2 rfl ?_
        refine f_aload hC dX4_moodFor_30 1 rfl ?_
        obtain ⟨g25, h15⟩ := fg_open h15
        refine f_getIN hC 0 2 2 rfl (by decide) iX0 q_155 rfl rfl (fSm.k (fSm.rf w) g25) dX4_moodFor_32 ?_
        obtain ⟨r26, h27, h15⟩ := fb_open h15
        refine f_callVN hC [.ref (gR w 200 v5 0), .int s14, .int (gI w 2 v11 0)] (c_X0_rightLetters l D cy v11 (gR w 200 v5 0) s14 (gI w 2 v11 0) w r26 h27) q_448 q_77 q_445 q_447 q_8 h9_X0_rightLetters rfl (fSm.k (fSm.rf w) g25) ⟨Nat.le_of_ble_eq_true rfl, Nat.le_of_ble_eq_true rfl⟩ ⟨Nat.le_of_ble_eq_true rfl, Nat.le_of_ble_eq_true rfl⟩ (Nat.le_of_ble_eq_true rfl) rfl dX4_moodFor_35 (fun e28 => ?_)
        refine f_aload_n hC dX4_moodFor_38 rfl 0 rfl ?_
        refine f_getRN hC 2 0 200 rfl (by decide) iX2 q_176 rfl rfl (fSm.k (fSm.rf w) g24) dX4_moodFor_39 ?_
        obtain ⟨g29, h15⟩ := fg_open h15
        refine f_getIN hC 3 1 301 rfl (by decide) iX3 q_124 rfl rfl (fSm.k (fSm.rf w) g29) dX4_moodFor_42 ?_
        refine f_icmp_ne hC 51 dX4_moodFor_45 (by decide) (fun c30 => ?_) (fun c30 => ?_)
        · replace h15 := fi_neg h15 c30
          refine f_iinc (L' := [(5, .int (s14 + 1)), (3, .ref v5), (4, .ref v11)]) hC dX4_moodFor_51 2 rfl rfl (by decide) rfl ?_
          refine f_goto hC 16 dX4_moodFor_54 (by decide) ?_
          obtain rfl := Option.some.inj h15
          refine f_sub (L' := [(3, .ref v5), (4, .ref v11), (5, .int (s14 + 1))]) [1, 2, 0] rfl ?_
          exact go16 _ rfl
        · replace h15 := fi_pos h15 c30
          refine f_iload hC dX4_moodFor_48 2 rfl ?_
          obtain rfl := Option.some.inj h15
          obtain rfl := ou17 _ rfl
          obtain rfl := Option.some.inj hF
          refine f_widen (k' := 3) (s' := 18) (Nat.le_of_ble_eq_true rfl) (Nat.le_of_ble_eq_true rfl) ?_
          exact f_iretX hC hEn (fSm.rf w) dX4_moodFor_50
    · obtain rfl := Option.some.inj hF
      exact f_callST hC [.ref v5, .int x2] hEn (fSm.rf w) (Nat.le_of_ble_eq_true rfl) (Nat.le_of_ble_eq_true rfl) (c_X4_punchedHalf l D cy v5 x2 w (.inr x12) h9) q_524 q_73 q_522 q_523 h9_X4_punchedHalf ⟨Nat.le_of_ble_eq_true rfl, Nat.le_of_ble_eq_true rfl⟩ ⟨Nat.le_of_ble_eq_true rfl, Nat.le_of_ble_eq_true rfl⟩ (Nat.le_of_ble_eq_true rfl) rfl dX4_moodFor_8
  · obtain rfl := Option.some.inj hF
    exact f_callVT hC [.int x1] hEn (fSm.rf w) (Nat.le_of_ble_eq_true rfl) (Nat.le_of_ble_eq_true rfl) (c_X4_existing l D cy a0 x1 w (.inr x6) h2) q_404 q_73 q_401 q_403 q_1 h9_X4_existing rfl (fSm.k (fSm.rf w) g3) ⟨Nat.le_of_ble_eq_true rfl, Nat.le_of_ble_eq_true rfl⟩ ⟨Nat.le_of_ble_eq_true rfl, Nat.le_of_ble_eq_true rfl⟩ (Nat.le_of_ble_eq_true rfl) rfl dX4_moodFor_2
theorem dX4_would_0 : decode cX4_would 0 = .ok (.aload_n 0, 1) := by decide +kernel
theorem dX4_would_1 : decode cX4_would 1 = .ok (.iload_n 1, 1) := by decide +kernel
theorem dX4_would_2 : decode cX4_would 2 = .ok (.invokevirtual 115, 3) := by decide +kernel
theorem dX4_would_5 : decode cX4_would 5 = .ok (.astore 4, 2) := by decide +kernel
theorem dX4_would_7 : decode cX4_would 7 = .ok (.iload_n 3, 1) := by decide +kernel
theorem dX4_would_8 : decode cX4_would 8 = .ok (.ifCond .lt 9, 3) := by decide +kernel
theorem dX4_would_11 : decode cX4_would 11 = .ok (.iload_n 3, 1) := by decide +kernel
theorem dX4_would_12 : decode cX4_would 12 = .ok (.bipush 9, 2) := by decide +kernel
theorem dX4_would_14 : decode cX4_would 14 = .ok (.if_icmp .le 13, 3) := by decide +kernel
theorem dX4_would_17 : decode cX4_would 17 = .ok (.new 142, 3) := by decide +kernel
theorem dX4_would_20 : decode cX4_would 20 = .ok (.dup, 1) := by decide +kernel
theorem dX4_would_21 : decode cX4_would 21 = .ok (.ldc 230, 2) := by decide +kernel
theorem dX4_would_23 : decode cX4_would 23 = .ok (.invokespecial 146, 3) := by decide +kernel
theorem dX4_would_26 : decode cX4_would 26 = .ok (.athrow, 1) := by decide +kernel
theorem dX4_would_27 : decode cX4_would 27 = .ok (.aload 4, 2) := by decide +kernel
theorem dX4_would_29 : decode cX4_would 29 = .ok (.iload_n 2, 1) := by decide +kernel
theorem dX4_would_30 : decode cX4_would 30 = .ok (.invokestatic 213, 3) := by decide +kernel
theorem dX4_would_33 : decode cX4_would 33 = .ok (.astore 5, 2) := by decide +kernel
theorem dX4_would_35 : decode cX4_would 35 = .ok (.aload 5, 2) := by decide +kernel
theorem dX4_would_37 : decode cX4_would 37 = .ok (.aload 4, 2) := by decide +kernel
theorem dX4_would_39 : decode cX4_would 39 = .ok (.getfield 119, 3) := by decide +kernel
theorem dX4_would_42 : decode cX4_would 42 = .ok (.aload 5, 2) := by decide +kernel
theorem dX4_would_44 : decode cX4_would 44 = .ok (.getfield 198, 3) := by decide +kernel
theorem dX4_would_47 : decode cX4_would 47 = .ok (.aload 5, 2) := by decide +kernel
theorem dX4_would_49 : decode cX4_would 49 = .ok (.iload_n 3, 1) := by decide +kernel
theorem dX4_would_50 : decode cX4_would 50 = .ok (.invokevirtual 232, 3) := by decide +kernel
theorem dX4_would_53 : decode cX4_would 53 = .ok (.invokevirtual 207, 3) := by decide +kernel
theorem dX4_would_56 : decode cX4_would 56 = .ok (.ireturn, 1) := by decide +kernel
theorem h9_X4_would : yX4_would.cls ≠ "java/lang/invoke/MethodHandle" ∧ yX4_would.cls ≠ "java/lang/invoke/VarHandle" ∧ (parseMethodDescriptor yX4_would.desc).map (fun d => d.parameters.length) = some 3 := by decide +kernel
noncomputable def F_X4_would (a0 : Nat) (x1 : Int32) (x2 : Int32) (x3 : Int32) (w : FW) : Option (Int32 ⊕ Nat) :=
  fg (w.1 a0 = 5) inferInstance ((F_X4_existing a0 x1 w).bind (fun r1 => fse r1 (fun v5 => (if x3 < 0 then some (.inr 1) else (if x3 ≤ 9 then (F_X4_punchedHalf v5 x2 w).bind (fun r10 => fse r10 (fun v13 => fg (w.1 v5 = 3) inferInstance (fg (w.1 v13 = 1) inferInstance ((F_X0_wetterBy v13 x3 w).bind (fun r18 => (F_X0_rightLetters v13 (gR w 200 v5 0) (gI w 1 v13 0) r18 w).bind (fun r21 => some (.inl r21)))))) (fun x14 => some (.inr x14))) else some (.inr 1)))) (fun x6 => some (.inr x6))))
set_option maxHeartbeats 4000000 in
set_option maxRecDepth 100000 in
theorem c_X4_would (l : Launch) (D : va_G) (cy : Nat → ClassId) (a0 : Nat) (x1 : Int32) (x2 : Int32) (x3 : Int32) (w : FW) (r : Int32 ⊕ Nat) (hF : F_X4_would a0 x1 x2 x3 w = some r) : fSpecX l D cy yX4_would cX4_would 6 (some .int) { frames := 7, cells := 2, slots := 12, locals := 136 } [.ref a0, .int x1, .int x2, .int x3] w w (fOI r) := by
  refine f_beginX (by decide +kernel) (Nat.le_of_ble_eq_true rfl) (fun X hC hEn => ?_)
  have hst := f_st hC hEn
  unfold F_X4_would at hF
  show fAt X 0 0 6 w [(0, .ref a0), (1, .int x1), (2, .int x2), (3, .int x3)] [] 0
  refine f_aload_n hC dX4_would_0 rfl 0 rfl ?_
  refine f_iload_n hC dX4_would_1 rfl 1 rfl ?_
  obtain ⟨g3, hF⟩ := fg_open hF
  obtain ⟨r1, h2, hF⟩ := fb_open hF
  rcases r1 with v5 | x6
  · refine f_callVR hC [.int x1] hst (c_X4_existing l D cy a0 x1 w (.inl v5) h2) q_404 q_73 q_401 q_403 q_1 h9_X4_existing rfl (fSm.k (fSm.rf w) g3) ⟨Nat.le_of_ble_eq_true rfl, Nat.le_of_ble_eq_true rfl⟩ ⟨Nat.le_of_ble_eq_true rfl, Nat.le_of_ble_eq_true rfl⟩ (Nat.le_of_ble_eq_true rfl) rfl dX4_would_2 (fun e4 => ?_)
    refine f_astore (L' := [(4, .ref v5), (0, .ref a0), (1, .int x1), (2, .int x2), (3, .int x3)]) hC dX4_would_5 (by decide) rfl ?_
    refine f_iload_n hC dX4_would_7 rfl 4 rfl ?_
    refine f_if_lt hC 17 dX4_would_8 (by decide) (fun c8 => ?_) (fun c8 => ?_)
    · replace hF := fi_pos hF c8
      obtain rfl := Option.some.inj hF
      exact f_throwS hC hEn (fSm.rf w) 42 rfl xf_1 xn_1 q_497 q_81 rfl xa_RX4_146 xg_RX4_142_146 dX4_would_17 dX4_would_20 dX4_would_21 dX4_would_23 dX4_would_26 (Nat.le_of_ble_eq_true rfl) (Nat.le_of_ble_eq_true rfl) (Nat.le_of_ble_eq_true rfl) (Nat.le_of_ble_eq_true rfl) (Nat.le_of_ble_eq_true rfl) (Nat.le_of_ble_eq_true rfl)
    · replace hF := fi_neg hF c8
      refine f_iload_n hC dX4_would_11 rfl 4 rfl ?_
      refine f_bipush (v := 9) hC dX4_would_12 (by decide) ?_
      refine f_icmp_le hC 27 dX4_would_14 (by decide) (fun c9 => ?_) (fun c9 => ?_)
      · replace hF := fi_pos hF c9
        refine f_aload hC dX4_would_27 0 rfl ?_
        refine f_iload_n hC dX4_would_29 rfl 3 rfl ?_
        obtain ⟨r10, h11, hF⟩ := fb_open hF
        rcases r10 with v13 | x14
        · refine f_callSR hC [.ref v5, .int x2] hst (c_X4_punchedHalf l D cy v5 x2 w (.inl v13) h11) q_524 q_73 q_522 q_523 h9_X4_punchedHalf ⟨Nat.le_of_ble_eq_true rfl, Nat.le_of_ble_eq_true rfl⟩ ⟨Nat.le_of_ble_eq_true rfl, Nat.le_of_ble_eq_true rfl⟩ (Nat.le_of_ble_eq_true rfl) rfl dX4_would_30 (fun e12 => ?_)
          refine f_astore (L' := [(5, .ref v13), (4, .ref v5), (0, .ref a0), (1, .int x1), (2, .int x2), (3, .int x3)]) hC dX4_would_33 (by decide) rfl ?_
          refine f_aload hC dX4_would_35 0 rfl ?_
          refine f_aload hC dX4_would_37 1 rfl ?_
          obtain ⟨g16, hF⟩ := fg_open hF
          refine f_getRN hC 2 0 200 rfl (by decide) iX2 q_176 rfl rfl (fSm.k (fSm.rf w) g16) dX4_would_39 ?_
          refine f_aload hC dX4_would_42 0 rfl ?_
          obtain ⟨g17, hF⟩ := fg_open hF
          refine f_getIN hC 0 1 1 rfl (by decide) iX0 q_152 rfl rfl (fSm.k (fSm.rf w) g17) dX4_would_44 ?_
          refine f_aload hC dX4_would_47 0 rfl ?_
          refine f_iload_n hC dX4_would_49 rfl 5 rfl ?_
          obtain ⟨r18, h19, hF⟩ := fb_open hF
          refine f_callVN hC [.int x3] (c_X0_wetterBy l D cy v13 x3 w r18 h19) q_544 q_77 q_541 q_543 q_10 h9_X0_wetterBy rfl (fSm.k (fSm.rf w) g17) ⟨Nat.le_of_ble_eq_true rfl, Nat.le_of_ble_eq_true rfl⟩ ⟨Nat.le_of_ble_eq_true rfl, Nat.le_of_ble_eq_true rfl⟩ (Nat.le_of_ble_eq_true rfl) rfl dX4_would_50 (fun e20 => ?_)
          obtain ⟨r21, h22, hF⟩ := fb_open hF
          refine f_callVN hC [.ref (gR w 200 v5 0), .int (gI w 1 v13 0), .int r18] (c_X0_rightLetters l D cy v13 (gR w 200 v5 0) (gI w 1 v13 0) r18 w r21 h22) q_448 q_77 q_445 q_447 q_8 h9_X0_rightLetters rfl (fSm.k (fSm.rf w) g17) ⟨Nat.le_of_ble_eq_true rfl, Nat.le_of_ble_eq_true rfl⟩ ⟨Nat.le_of_ble_eq_true rfl, Nat.le_of_ble_eq_true rfl⟩ (Nat.le_of_ble_eq_true rfl) rfl dX4_would_53 (fun e23 => ?_)
          obtain rfl := Option.some.inj hF
          exact f_iretX hC hEn (fSm.rf w) dX4_would_56
        · obtain rfl := Option.some.inj hF
          exact f_callST hC [.ref v5, .int x2] hEn (fSm.rf w) (Nat.le_of_ble_eq_true rfl) (Nat.le_of_ble_eq_true rfl) (c_X4_punchedHalf l D cy v5 x2 w (.inr x14) h11) q_524 q_73 q_522 q_523 h9_X4_punchedHalf ⟨Nat.le_of_ble_eq_true rfl, Nat.le_of_ble_eq_true rfl⟩ ⟨Nat.le_of_ble_eq_true rfl, Nat.le_of_ble_eq_true rfl⟩ (Nat.le_of_ble_eq_true rfl) rfl dX4_would_30
      · replace hF := fi_neg hF c9
        obtain rfl := Option.some.inj hF
        exact f_throwS hC hEn (fSm.rf w) 42 rfl xf_1 xn_1 q_497 q_81 rfl xa_RX4_146 xg_RX4_142_146 dX4_would_17 dX4_would_20 dX4_would_21 dX4_would_23 dX4_would_26 (Nat.le_of_ble_eq_true rfl) (Nat.le_of_ble_eq_true rfl) (Nat.le_of_ble_eq_true rfl) (Nat.le_of_ble_eq_true rfl) (Nat.le_of_ble_eq_true rfl) (Nat.le_of_ble_eq_true rfl)
  · obtain rfl := Option.some.inj hF
    exact f_callVT hC [.int x1] hEn (fSm.rf w) (Nat.le_of_ble_eq_true rfl) (Nat.le_of_ble_eq_true rfl) (c_X4_existing l D cy a0 x1 w (.inr x6) h2) q_404 q_73 q_401 q_403 q_1 h9_X4_existing rfl (fSm.k (fSm.rf w) g3) ⟨Nat.le_of_ble_eq_true rfl, Nat.le_of_ble_eq_true rfl⟩ ⟨Nat.le_of_ble_eq_true rfl, Nat.le_of_ble_eq_true rfl⟩ (Nat.le_of_ble_eq_true rfl) rfl dX4_would_2
theorem dJ9_max_7cf53_0 : decode cJ9_max_7cf53 0 = .ok (.iload_n 0, 1) := by decide +kernel
theorem dJ9_max_7cf53_1 : decode cJ9_max_7cf53 1 = .ok (.iload_n 1, 1) := by decide +kernel
theorem dJ9_max_7cf53_2 : decode cJ9_max_7cf53 2 = .ok (.if_icmp .lt 7, 3) := by decide +kernel
theorem dJ9_max_7cf53_5 : decode cJ9_max_7cf53 5 = .ok (.iload_n 0, 1) := by decide +kernel
theorem dJ9_max_7cf53_6 : decode cJ9_max_7cf53 6 = .ok (.goto 4, 3) := by decide +kernel
theorem dJ9_max_7cf53_9 : decode cJ9_max_7cf53 9 = .ok (.iload_n 1, 1) := by decide +kernel
theorem dJ9_max_7cf53_10 : decode cJ9_max_7cf53 10 = .ok (.ireturn, 1) := by decide +kernel
theorem h9_J9_max_7cf53 : yJ9_max_7cf53.cls ≠ "java/lang/invoke/MethodHandle" ∧ yJ9_max_7cf53.cls ≠ "java/lang/invoke/VarHandle" ∧ (parseMethodDescriptor yJ9_max_7cf53.desc).map (fun d => d.parameters.length) = some 2 := by decide +kernel
noncomputable def F_J9_max_7cf53 (x1 : Int32) (x2 : Int32) (w : FW) : Option (Int32) :=
  (if x1 < x2 then some x2 else some x1)
set_option maxHeartbeats 4000000 in
set_option maxRecDepth 100000 in
theorem c_J9_max_7cf53 (l : Launch) (D : va_G) (cy : Nat → ClassId) (x1 : Int32) (x2 : Int32) (w : FW) (r : Int32) (hF : F_J9_max_7cf53 x1 x2 w = some r) : fSpec l D cy yJ9_max_7cf53 cJ9_max_7cf53 2 (some .int) { frames := 0, cells := 0, slots := 0, locals := 0 } [.int x1, .int x2] w w (some (.int r)) := by
  refine f_begin (by decide +kernel) (Nat.le_of_ble_eq_true rfl) (fun X hC hEn => ?_)
  unfold F_J9_max_7cf53 at hF
  show fAt X 0 0 2 w [(0, .int x1), (1, .int x2)] [] 0
  refine f_iload_n hC dJ9_max_7cf53_0 rfl 0 rfl ?_
  refine f_iload_n hC dJ9_max_7cf53_1 rfl 1 rfl ?_
  refine f_icmp_lt hC 9 dJ9_max_7cf53_2 (by decide) (fun c1 => ?_) (fun c1 => ?_)
  · replace hF := fi_pos hF c1
    refine f_iload_n hC dJ9_max_7cf53_9 rfl 1 rfl ?_
    obtain rfl := Option.some.inj hF
    exact f_iret hC hEn (fSm.rf w) dJ9_max_7cf53_10
  · replace hF := fi_neg hF c1
    refine f_iload_n hC dJ9_max_7cf53_5 rfl 0 rfl ?_
    refine f_goto hC 10 dJ9_max_7cf53_6 (by decide) ?_
    obtain rfl := Option.some.inj hF
    exact f_iret hC hEn (fSm.rf w) dJ9_max_7cf53_10
theorem dX0_unlikeLetters_0 : decode cX0_unlikeLetters 0 = .ok (.aload_n 1, 1) := by decide +kernel
theorem dX0_unlikeLetters_1 : decode cX0_unlikeLetters 1 = .ok (.getfield 34, 3) := by decide +kernel
theorem dX0_unlikeLetters_4 : decode cX0_unlikeLetters 4 = .ok (.aload_n 2, 1) := by decide +kernel
theorem dX0_unlikeLetters_5 : decode cX0_unlikeLetters 5 = .ok (.getfield 34, 3) := by decide +kernel
theorem dX0_unlikeLetters_8 : decode cX0_unlikeLetters 8 = .ok (.invokestatic 28, 3) := by decide +kernel
theorem dX0_unlikeLetters_11 : decode cX0_unlikeLetters 11 = .ok (.istore_n 3, 1) := by decide +kernel
theorem dX0_unlikeLetters_12 : decode cX0_unlikeLetters 12 = .ok (.aload_n 1, 1) := by decide +kernel
theorem dX0_unlikeLetters_13 : decode cX0_unlikeLetters 13 = .ok (.getfield 34, 3) := by decide +kernel
theorem dX0_unlikeLetters_16 : decode cX0_unlikeLetters 16 = .ok (.aload_n 2, 1) := by decide +kernel
theorem dX0_unlikeLetters_17 : decode cX0_unlikeLetters 17 = .ok (.getfield 34, 3) := by decide +kernel
theorem dX0_unlikeLetters_20 : decode cX0_unlikeLetters 20 = .ok (.invokestatic 64, 3) := by decide +kernel
theorem dX0_unlikeLetters_23 : decode cX0_unlikeLetters 23 = .ok (.iload_n 3, 1) := by decide +kernel
theorem dX0_unlikeLetters_24 : decode cX0_unlikeLetters 24 = .ok (.isub, 1) := by decide +kernel
theorem dX0_unlikeLetters_25 : decode cX0_unlikeLetters 25 = .ok (.istore 4, 2) := by decide +kernel
theorem dX0_unlikeLetters_27 : decode cX0_unlikeLetters 27 = .ok (.iconst 0, 1) := by decide +kernel
theorem dX0_unlikeLetters_28 : decode cX0_unlikeLetters 28 = .ok (.istore 5, 2) := by decide +kernel
theorem dX0_unlikeLetters_30 : decode cX0_unlikeLetters 30 = .ok (.iload 5, 2) := by decide +kernel
theorem dX0_unlikeLetters_32 : decode cX0_unlikeLetters 32 = .ok (.iload_n 3, 1) := by decide +kernel
theorem dX0_unlikeLetters_33 : decode cX0_unlikeLetters 33 = .ok (.if_icmp .ge 31, 3) := by decide +kernel
theorem dX0_unlikeLetters_36 : decode cX0_unlikeLetters 36 = .ok (.aload_n 0, 1) := by decide +kernel
theorem dX0_unlikeLetters_37 : decode cX0_unlikeLetters 37 = .ok (.aload_n 1, 1) := by decide +kernel
theorem dX0_unlikeLetters_38 : decode cX0_unlikeLetters 38 = .ok (.iload 5, 2) := by decide +kernel
theorem dX0_unlikeLetters_40 : decode cX0_unlikeLetters 40 = .ok (.invokevirtual 39, 3) := by decide +kernel
theorem dX0_unlikeLetters_43 : decode cX0_unlikeLetters 43 = .ok (.invokevirtual 67, 3) := by decide +kernel
theorem dX0_unlikeLetters_46 : decode cX0_unlikeLetters 46 = .ok (.aload_n 2, 1) := by decide +kernel
theorem dX0_unlikeLetters_47 : decode cX0_unlikeLetters 47 = .ok (.iload 5, 2) := by decide +kernel
theorem dX0_unlikeLetters_49 : decode cX0_unlikeLetters 49 = .ok (.invokevirtual 39, 3) := by decide +kernel
theorem dX0_unlikeLetters_52 : decode cX0_unlikeLetters 52 = .ok (.if_icmp .eq 6, 3) := by decide +kernel
theorem dX0_unlikeLetters_55 : decode cX0_unlikeLetters 55 = .ok (.iinc 4 1, 3) := by decide +kernel
theorem dX0_unlikeLetters_58 : decode cX0_unlikeLetters 58 = .ok (.iinc 5 1, 3) := by decide +kernel
theorem dX0_unlikeLetters_61 : decode cX0_unlikeLetters 61 = .ok (.goto (-31), 3) := by decide +kernel
theorem dX0_unlikeLetters_64 : decode cX0_unlikeLetters 64 = .ok (.iload 4, 2) := by decide +kernel
theorem dX0_unlikeLetters_66 : decode cX0_unlikeLetters 66 = .ok (.ireturn, 1) := by decide +kernel
theorem h9_X0_unlikeLetters : yX0_unlikeLetters.cls ≠ "java/lang/invoke/MethodHandle" ∧ yX0_unlikeLetters.cls ≠ "java/lang/invoke/VarHandle" ∧ (parseMethodDescriptor yX0_unlikeLetters.desc).map (fun d => d.parameters.length) = some 2 := by decide +kernel
noncomputable def F_X0_unlikeLetters (a0 : Nat) (a1 : Nat) (a2 : Nat) (w : FW) : Option (Int32) :=
  fg (w.1 a1 = 4) inferInstance (fg (w.1 a2 = 4) inferInstance ((F_J9_min_7cf53 (gI w 301 a1 0) (gI w 301 a2 0) w).bind (fun r3 => (F_J9_max_7cf53 (gI w 301 a1 0) (gI w 301 a2 0) w).bind (fun r6 => (fLoop (σ := Int32 × Int32) (ρ := Int32) (fun s9 => (if r3 ≤ s9.2 then some (.inr s9.1) else (F_X3_letterAt a1 s9.2 w).bind (fun r19 => fg (w.1 a0 = 1) inferInstance ((F_X0_seen a0 r19 w).bind (fun r22 => (F_X3_letterAt a2 s9.2 w).bind (fun r26 => (if r22 = r26 then some (.inl (s9.1, (s9.2 + 1))) else some (.inl ((s9.1 + 1), (s9.2 + 1)))))))))) ((r6 - r3), 0)).bind (fun x15 => some x15)))))
set_option maxHeartbeats 4000000 in
set_option maxRecDepth 100000 in
theorem c_X0_unlikeLetters (l : Launch) (D : va_G) (cy : Nat → ClassId) (a0 : Nat) (a1 : Nat) (a2 : Nat) (w : FW) (r : Int32) (hF : F_X0_unlikeLetters a0 a1 a2 w = some r) : fSpec l D cy yX0_unlikeLetters cX0_unlikeLetters 6 (some .int) { frames := 6, cells := 0, slots := 0, locals := 131 } [.ref a0, .ref a1, .ref a2] w w (some (.int r)) := by
  refine f_begin (by decide +kernel) (Nat.le_of_ble_eq_true rfl) (fun X hC hEn => ?_)
  unfold F_X0_unlikeLetters at hF
  show fAt X 0 0 6 w [(0, .ref a0), (1, .ref a1), (2, .ref a2)] [] 0
  refine f_aload_n hC dX0_unlikeLetters_0 rfl 1 rfl ?_
  obtain ⟨g1, hF⟩ := fg_open hF
  refine f_getIN hC 3 1 301 rfl (by decide) iX3 q_125 rfl rfl (fSm.k (fSm.rf w) g1) dX0_unlikeLetters_1 ?_
  refine f_aload_n hC dX0_unlikeLetters_4 rfl 2 rfl ?_
  obtain ⟨g2, hF⟩ := fg_open hF
  refine f_getIN hC 3 1 301 rfl (by decide) iX3 q_125 rfl rfl (fSm.k (fSm.rf w) g2) dX0_unlikeLetters_5 ?_
  obtain ⟨r3, h4, hF⟩ := fb_open hF
  refine f_callS hC [.int (gI w 301 a1 0), .int (gI w 301 a2 0)] (c_J9_min_7cf53 l D cy (gI w 301 a1 0) (gI w 301 a2 0) w r3 h4) q_547 q_85 q_545 q_546 h9_J9_min_7cf53 ⟨Nat.le_of_ble_eq_true rfl, Nat.le_of_ble_eq_true rfl⟩ ⟨Nat.le_of_ble_eq_true rfl, Nat.le_of_ble_eq_true rfl⟩ (Nat.le_of_ble_eq_true rfl) rfl dX0_unlikeLetters_8 (fun e5 => ?_)
  refine f_istore_n (L' := [(3, .int r3), (0, .ref a0), (1, .ref a1), (2, .ref a2)]) hC dX0_unlikeLetters_11 rfl (by decide) rfl ?_
  refine f_aload_n hC dX0_unlikeLetters_12 rfl 2 rfl ?_
  refine f_getIN hC 3 1 301 rfl (by decide) iX3 q_125 rfl rfl (fSm.k (fSm.rf w) g1) dX0_unlikeLetters_13 ?_
  refine f_aload_n hC dX0_unlikeLetters_16 rfl 3 rfl ?_
  refine f_getIN hC 3 1 301 rfl (by decide) iX3 q_125 rfl rfl (fSm.k (fSm.rf w) g2) dX0_unlikeLetters_17 ?_
  obtain ⟨r6, h7, hF⟩ := fb_open hF
  refine f_callS hC [.int (gI w 301 a1 0), .int (gI w 301 a2 0)] (c_J9_max_7cf53 l D cy (gI w 301 a1 0) (gI w 301 a2 0) w r6 h7) q_694 q_85 q_1244 q_693 h9_J9_max_7cf53 ⟨Nat.le_of_ble_eq_true rfl, Nat.le_of_ble_eq_true rfl⟩ ⟨Nat.le_of_ble_eq_true rfl, Nat.le_of_ble_eq_true rfl⟩ (Nat.le_of_ble_eq_true rfl) rfl dX0_unlikeLetters_20 (fun e8 => ?_)
  refine f_iload_n hC dX0_unlikeLetters_23 rfl 0 rfl ?_
  refine f_isub hC dX0_unlikeLetters_24 ?_
  refine f_istore (L' := [(4, .int (r6 - r3)), (3, .int r3), (0, .ref a0), (1, .ref a1), (2, .ref a2)]) hC dX0_unlikeLetters_25 (by decide) rfl ?_
  refine f_iconst (v := 0) hC dX0_unlikeLetters_27 (by decide) ?_
  refine f_istore (L' := [(5, .int 0), (4, .int (r6 - r3)), (3, .int r3), (0, .ref a0), (1, .ref a1), (2, .ref a2)]) hC dX0_unlikeLetters_28 (by decide) rfl ?_
  obtain ⟨x15, h16, hF⟩ := fb_open hF
  have K17 : fAt X 0 0 6 w [(4, .int x15)] [] 64 := by
    refine f_iload hC dX0_unlikeLetters_64 0 rfl ?_
    obtain rfl := Option.some.inj hF
    exact f_iret hC hEn (fSm.rf w) dX0_unlikeLetters_66
  refine f_sub (L' := [(0, .ref a0), (1, .ref a1), (2, .ref a2), (3, .int r3), (4, .int (r6 - r3)), (5, .int 0)]) [3, 4, 5, 2, 1, 0] rfl ?_
  refine fLoop_ind (fun (s9 : Int32 × Int32) => fAt X 0 0 6 w [(0, .ref a0), (1, .ref a1), (2, .ref a2), (3, .int r3), (4, .int s9.1), (5, .int s9.2)] [] 30) (fun s9 y14 h10 go11 ou12 => ?_) h16
  refine f_iload hC dX0_unlikeLetters_30 5 rfl ?_
  refine f_iload_n hC dX0_unlikeLetters_32 rfl 3 rfl ?_
  refine f_icmp_ge hC 64 dX0_unlikeLetters_33 (by decide) (fun c18 => ?_) (fun c18 => ?_)
  · replace h10 := fi_pos h10 c18
    obtain rfl := Option.some.inj h10
    obtain rfl := ou12 _ rfl
    refine f_sub (L' := [(4, .int s9.1)]) [4] rfl ?_
    exact K17
  · replace h10 := fi_neg h10 c18
    refine f_aload_n hC dX0_unlikeLetters_36 rfl 0 rfl ?_
    refine f_aload_n hC dX0_unlikeLetters_37 rfl 1 rfl ?_
    refine f_iload hC dX0_unlikeLetters_38 5 rfl ?_
    obtain ⟨r19, h20, h10⟩ := fb_open h10
    refine f_callVN hC [.int s9.2] (c_X3_letterAt l D cy a1 s9.2 w r19 h20) q_433 q_75 q_430 q_432 q_5 h9_X3_letterAt rfl (fSm.k (fSm.rf w) g1) ⟨Nat.le_of_ble_eq_true rfl, Nat.le_of_ble_eq_true rfl⟩ ⟨Nat.le_of_ble_eq_true rfl, Nat.le_of_ble_eq_true rfl⟩ (Nat.le_of_ble_eq_true rfl) rfl dX0_unlikeLetters_40 (fun e21 => ?_)
    obtain ⟨g24, h10⟩ := fg_open h10
    obtain ⟨r22, h23, h10⟩ := fb_open h10
    refine f_callV hC [.int r19] (c_X0_seen l D cy a0 r19 w r22 h23) q_1224 q_77 q_1245 q_1223 q_57 h9_X0_seen rfl (fSm.k (fSm.rf w) g24) ⟨Nat.le_of_ble_eq_true rfl, Nat.le_of_ble_eq_true rfl⟩ ⟨Nat.le_of_ble_eq_true rfl, Nat.le_of_ble_eq_true rfl⟩ (Nat.le_of_ble_eq_true rfl) rfl dX0_unlikeLetters_43 (fun e25 => ?_)
    refine f_aload_n hC dX0_unlikeLetters_46 rfl 2 rfl ?_
    refine f_iload hC dX0_unlikeLetters_47 5 rfl ?_
    obtain ⟨r26, h27, h10⟩ := fb_open h10
    refine f_callVN hC [.int s9.2] (c_X3_letterAt l D cy a2 s9.2 w r26 h27) q_433 q_75 q_430 q_432 q_5 h9_X3_letterAt rfl (fSm.k (fSm.rf w) g2) ⟨Nat.le_of_ble_eq_true rfl, Nat.le_of_ble_eq_true rfl⟩ ⟨Nat.le_of_ble_eq_true rfl, Nat.le_of_ble_eq_true rfl⟩ (Nat.le_of_ble_eq_true rfl) rfl dX0_unlikeLetters_49 (fun e28 => ?_)
    refine f_icmp_eq hC 58 dX0_unlikeLetters_52 (by decide) (fun c29 => ?_) (fun c29 => ?_)
    · replace h10 := fi_pos h10 c29
      refine f_iinc (L' := [(5, .int (s9.2 + 1)), (0, .ref a0), (1, .ref a1), (2, .ref a2), (3, .int r3), (4, .int s9.1)]) hC dX0_unlikeLetters_58 5 rfl rfl (by decide) rfl ?_
      refine f_goto hC 30 dX0_unlikeLetters_61 (by decide) ?_
      obtain rfl := Option.some.inj h10
      refine f_sub (L' := [(0, .ref a0), (1, .ref a1), (2, .ref a2), (3, .int r3), (4, .int s9.1), (5, .int (s9.2 + 1))]) [1, 2, 3, 4, 5, 0] rfl ?_
      exact go11 _ rfl
    · replace h10 := fi_neg h10 c29
      refine f_iinc (L' := [(4, .int (s9.1 + 1)), (0, .ref a0), (1, .ref a1), (2, .ref a2), (3, .int r3), (5, .int s9.2)]) hC dX0_unlikeLetters_55 4 rfl rfl (by decide) rfl ?_
      refine f_iinc (L' := [(5, .int (s9.2 + 1)), (4, .int (s9.1 + 1)), (0, .ref a0), (1, .ref a1), (2, .ref a2), (3, .int r3)]) hC dX0_unlikeLetters_58 5 rfl rfl (by decide) rfl ?_
      refine f_goto hC 30 dX0_unlikeLetters_61 (by decide) ?_
      obtain rfl := Option.some.inj h10
      refine f_sub (L' := [(0, .ref a0), (1, .ref a1), (2, .ref a2), (3, .int r3), (4, .int (s9.1 + 1)), (5, .int (s9.2 + 1))]) [2, 3, 4, 5, 1, 0] rfl ?_
      exact go11 _ rfl
