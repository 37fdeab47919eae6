theorem dX4_lettersFrom_0 : decode cX4_lettersFrom 0 = .ok (.iconst 0, 1) := by decide +kernel
theorem dX4_lettersFrom_1 : decode cX4_lettersFrom 1 = .ok (.istore_n 2, 1) := by decide +kernel
theorem dX4_lettersFrom_2 : decode cX4_lettersFrom 2 = .ok (.iload_n 2, 1) := by decide +kernel
theorem dX4_lettersFrom_3 : decode cX4_lettersFrom 3 = .ok (.bipush 6, 2) := by decide +kernel
theorem dX4_lettersFrom_5 : decode cX4_lettersFrom 5 = .ok (.if_icmp .ge 33, 3) := by decide +kernel
theorem dX4_lettersFrom_8 : decode cX4_lettersFrom 8 = .ok (.iload_n 1, 1) := by decide +kernel
theorem dX4_lettersFrom_9 : decode cX4_lettersFrom 9 = .ok (.iload_n 2, 1) := by decide +kernel
theorem dX4_lettersFrom_10 : decode cX4_lettersFrom 10 = .ok (.iadd, 1) := by decide +kernel
theorem dX4_lettersFrom_11 : decode cX4_lettersFrom 11 = .ok (.aload_n 0, 1) := by decide +kernel
theorem dX4_lettersFrom_12 : decode cX4_lettersFrom 12 = .ok (.getfield 45, 3) := by decide +kernel
theorem dX4_lettersFrom_15 : decode cX4_lettersFrom 15 = .ok (.if_icmp .ge 23, 3) := by decide +kernel
theorem dX4_lettersFrom_18 : decode cX4_lettersFrom 18 = .ok (.aload_n 0, 1) := by decide +kernel
theorem dX4_lettersFrom_19 : decode cX4_lettersFrom 19 = .ok (.getfield 41, 3) := by decide +kernel
theorem dX4_lettersFrom_22 : decode cX4_lettersFrom 22 = .ok (.iload_n 1, 1) := by decide +kernel
theorem dX4_lettersFrom_23 : decode cX4_lettersFrom 23 = .ok (.iload_n 2, 1) := by decide +kernel
theorem dX4_lettersFrom_24 : decode cX4_lettersFrom 24 = .ok (.iadd, 1) := by decide +kernel
theorem dX4_lettersFrom_25 : decode cX4_lettersFrom 25 = .ok (.caload, 1) := by decide +kernel
theorem dX4_lettersFrom_26 : decode cX4_lettersFrom 26 = .ok (.invokestatic 281, 3) := by decide +kernel
theorem dX4_lettersFrom_29 : decode cX4_lettersFrom 29 = .ok (.ifCond .eq 9, 3) := by decide +kernel
theorem dX4_lettersFrom_32 : decode cX4_lettersFrom 32 = .ok (.iinc 2 1, 3) := by decide +kernel
theorem dX4_lettersFrom_35 : decode cX4_lettersFrom 35 = .ok (.goto (-33), 3) := by decide +kernel
theorem dX4_lettersFrom_38 : decode cX4_lettersFrom 38 = .ok (.iload_n 2, 1) := by decide +kernel
theorem dX4_lettersFrom_39 : decode cX4_lettersFrom 39 = .ok (.ireturn, 1) := by decide +kernel
theorem h9_X4_lettersFrom : yX4_lettersFrom.cls ≠ "java/lang/invoke/MethodHandle" ∧ yX4_lettersFrom.cls ≠ "java/lang/invoke/VarHandle" ∧ (parseMethodDescriptor yX4_lettersFrom.desc).map (fun d => d.parameters.length) = some 1 := by decide +kernel
noncomputable def F_X4_lettersFrom (a0 : Nat) (x1 : Int32) (w : FW) : Option (Int32) :=
  (fLoop (σ := Int32) (ρ := Int32) (fun s1 => (if 6 ≤ s1 then some (.inr s1) else fg (w.1 a0 = 5) inferInstance ((if (gI w 408 a0 0) ≤ (x1 + s1) then some (.inr s1) else fg (w.1 (gR w 407 a0 0) = 10) inferInstance (fg (¬ ((x1 + s1) < 0 ∨ w.2.1 (gR w 407 a0 0) ≤ Int32.toNatClampNeg (x1 + s1))) inferInstance ((F_X4_isLetter (gI w 600 (gR w 407 a0 0) (Int32.toNatClampNeg (x1 + s1))) w).bind (fun r15 => (if r15 = 0 then some (.inr s1) else some (.inl (s1 + 1)))))))))) 0).bind (fun x7 => some x7)
set_option maxHeartbeats 4000000 in
set_option maxRecDepth 100000 in
theorem c_X4_lettersFrom (l : Launch) (D : va_G) (cy : Nat → ClassId) (a0 : Nat) (x1 : Int32) (w : FW) (r : Int32) (hF : F_X4_lettersFrom a0 x1 w = some r) : fSpec l D cy yX4_lettersFrom cX4_lettersFrom 3 (some .int) { frames := 2, cells := 0, slots := 0, locals := 40 } [.ref a0, .int x1] w w (some (.int r)) := by
  refine f_begin (by decide +kernel) (Nat.le_of_ble_eq_true rfl) (fun X hC hEn => ?_)
  unfold F_X4_lettersFrom at hF
  show fAt X 0 0 3 w [(0, .ref a0), (1, .int x1)] [] 0
  refine f_iconst (v := 0) hC dX4_lettersFrom_0 (by decide) ?_
  refine f_istore_n (L' := [(2, .int 0), (0, .ref a0), (1, .int x1)]) hC dX4_lettersFrom_1 rfl (by decide) rfl ?_
  obtain ⟨x7, h8, hF⟩ := fb_open hF
  have K9 : fAt X 0 0 3 w [(2, .int x7)] [] 38 := by
    refine f_iload_n hC dX4_lettersFrom_38 rfl 0 rfl ?_
    obtain rfl := Option.some.inj hF
    exact f_iret hC hEn (fSm.rf w) dX4_lettersFrom_39
  refine f_sub (L' := [(0, .ref a0), (1, .int x1), (2, .int 0)]) [1, 2, 0] rfl ?_
  refine fLoop_ind (fun (s1 : Int32) => fAt X 0 0 3 w [(0, .ref a0), (1, .int x1), (2, .int s1)] [] 2) (fun s1 y6 h2 go3 ou4 => ?_) h8
  refine f_iload_n hC dX4_lettersFrom_2 rfl 2 rfl ?_
  refine f_bipush (v := 6) hC dX4_lettersFrom_3 (by decide) ?_
  refine f_icmp_ge hC 38 dX4_lettersFrom_5 (by decide) (fun c10 => ?_) (fun c10 => ?_)
  · replace h2 := fi_pos h2 c10
    obtain rfl := Option.some.inj h2
    obtain rfl := ou4 _ rfl
    refine f_sub (L' := [(2, .int s1)]) [2] rfl ?_
    exact K9
  · replace h2 := fi_neg h2 c10
    refine f_iload_n hC dX4_lettersFrom_8 rfl 1 rfl ?_
    refine f_iload_n hC dX4_lettersFrom_9 rfl 2 rfl ?_
    refine f_iadd hC dX4_lettersFrom_10 ?_
    refine f_aload_n hC dX4_lettersFrom_11 rfl 0 rfl ?_
    obtain ⟨g11, h2⟩ := fg_open h2
    refine f_getI hC 4 8 408 rfl (by decide) iX4 q_321 rfl rfl (fSm.k (fSm.rf w) g11) dX4_lettersFrom_12 ?_
    refine f_icmp_ge hC 38 dX4_lettersFrom_15 (by decide) (fun c12 => ?_) (fun c12 => ?_)
    · replace h2 := fi_pos h2 c12
      obtain rfl := Option.some.inj h2
      obtain rfl := ou4 _ rfl
      refine f_sub (L' := [(2, .int s1)]) [2] rfl ?_
      exact K9
    · replace h2 := fi_neg h2 c12
      refine f_aload_n hC dX4_lettersFrom_18 rfl 0 rfl ?_
      refine f_getR hC 4 7 407 rfl (by decide) iX4 q_320 rfl rfl (fSm.k (fSm.rf w) g11) dX4_lettersFrom_19 ?_
      refine f_iload_n hC dX4_lettersFrom_22 rfl 1 rfl ?_
      refine f_iload_n hC dX4_lettersFrom_23 rfl 2 rfl ?_
      refine f_iadd hC dX4_lettersFrom_24 ?_
      obtain ⟨g13, h2⟩ := fg_open h2
      obtain ⟨g14, h2⟩ := fg_open h2
      refine f_cald hC (fSm.k (fSm.rf w) g13) (fSm.v (fSm.rf w) g14) dX4_lettersFrom_25 ?_
      obtain ⟨r15, h16, h2⟩ := fb_open h2
      refine f_callS hC [.int (gI w 600 (gR w 407 a0 0) (Int32.toNatClampNeg (x1 + s1)))] (c_X4_isLetter l D cy (gI w 600 (gR w 407 a0 0) (Int32.toNatClampNeg (x1 + s1))) w r15 h16) q_635 q_131 q_633 q_634 h9_X4_isLetter ⟨Nat.le_of_ble_eq_true rfl, Nat.le_of_ble_eq_true rfl⟩ ⟨Nat.le_of_ble_eq_true rfl, Nat.le_of_ble_eq_true rfl⟩ (Nat.le_of_ble_eq_true rfl) rfl dX4_lettersFrom_26 (fun e17 => ?_)
      refine f_if_eq hC 38 dX4_lettersFrom_29 (by decide) (fun c18 => ?_) (fun c18 => ?_)
      · replace h2 := fi_pos h2 c18
        obtain rfl := Option.some.inj h2
        obtain rfl := ou4 _ rfl
        refine f_sub (L' := [(2, .int s1)]) [2] rfl ?_
        exact K9
      · replace h2 := fi_neg h2 c18
        refine f_iinc (L' := [(2, .int (s1 + 1)), (0, .ref a0), (1, .int x1)]) hC dX4_lettersFrom_32 2 rfl rfl (by decide) rfl ?_
        refine f_goto hC 2 dX4_lettersFrom_35 (by decide) ?_
        obtain rfl := Option.some.inj h2
        refine f_sub (L' := [(0, .ref a0), (1, .int x1), (2, .int (s1 + 1))]) [1, 2, 0] rfl ?_
        exact go3 _ rfl
theorem dX4_fittingCharacters_0 : decode cX4_fittingCharacters 0 = .ok (.iload_n 2, 1) := by decide +kernel
theorem dX4_fittingCharacters_1 : decode cX4_fittingCharacters 1 = .ok (.aload_n 0, 1) := by decide +kernel
theorem dX4_fittingCharacters_2 : decode cX4_fittingCharacters 2 = .ok (.getfield 45, 3) := by decide +kernel
theorem dX4_fittingCharacters_5 : decode cX4_fittingCharacters 5 = .ok (.if_icmp .lt 5, 3) := by decide +kernel
theorem dX4_fittingCharacters_8 : decode cX4_fittingCharacters 8 = .ok (.iconst 0, 1) := by decide +kernel
theorem dX4_fittingCharacters_9 : decode cX4_fittingCharacters 9 = .ok (.ireturn, 1) := by decide +kernel
theorem dX4_fittingCharacters_10 : decode cX4_fittingCharacters 10 = .ok (.aload_n 0, 1) := by decide +kernel
theorem dX4_fittingCharacters_11 : decode cX4_fittingCharacters 11 = .ok (.getfield 41, 3) := by decide +kernel
theorem dX4_fittingCharacters_14 : decode cX4_fittingCharacters 14 = .ok (.iload_n 2, 1) := by decide +kernel
theorem dX4_fittingCharacters_15 : decode cX4_fittingCharacters 15 = .ok (.caload, 1) := by decide +kernel
theorem dX4_fittingCharacters_16 : decode cX4_fittingCharacters 16 = .ok (.istore_n 3, 1) := by decide +kernel
theorem dX4_fittingCharacters_17 : decode cX4_fittingCharacters 17 = .ok (.iload_n 1, 1) := by decide +kernel
theorem dX4_fittingCharacters_18 : decode cX4_fittingCharacters 18 = .ok (.lookupswitch 86 #[(33, 84), (35, 42), (64, 78), (104, 60)], 42) := by decide +kernel
theorem dX4_fittingCharacters_60 : decode cX4_fittingCharacters 60 = .ok (.iload_n 3, 1) := by decide +kernel
theorem dX4_fittingCharacters_61 : decode cX4_fittingCharacters 61 = .ok (.bipush 48, 2) := by decide +kernel
theorem dX4_fittingCharacters_63 : decode cX4_fittingCharacters 63 = .ok (.if_icmp .lt 13, 3) := by decide +kernel
theorem dX4_fittingCharacters_66 : decode cX4_fittingCharacters 66 = .ok (.iload_n 3, 1) := by decide +kernel
theorem dX4_fittingCharacters_67 : decode cX4_fittingCharacters 67 = .ok (.bipush 57, 2) := by decide +kernel
theorem dX4_fittingCharacters_69 : decode cX4_fittingCharacters 69 = .ok (.if_icmp .gt 7, 3) := by decide +kernel
theorem dX4_fittingCharacters_72 : decode cX4_fittingCharacters 72 = .ok (.iconst 1, 1) := by decide +kernel
theorem dX4_fittingCharacters_73 : decode cX4_fittingCharacters 73 = .ok (.goto 4, 3) := by decide +kernel
theorem dX4_fittingCharacters_76 : decode cX4_fittingCharacters 76 = .ok (.iconst 0, 1) := by decide +kernel
theorem dX4_fittingCharacters_77 : decode cX4_fittingCharacters 77 = .ok (.ireturn, 1) := by decide +kernel
theorem dX4_fittingCharacters_78 : decode cX4_fittingCharacters 78 = .ok (.iload_n 3, 1) := by decide +kernel
theorem dX4_fittingCharacters_79 : decode cX4_fittingCharacters 79 = .ok (.bipush 111, 2) := by decide +kernel
theorem dX4_fittingCharacters_81 : decode cX4_fittingCharacters 81 = .ok (.if_icmp .eq 9, 3) := by decide +kernel
theorem dX4_fittingCharacters_84 : decode cX4_fittingCharacters 84 = .ok (.iload_n 3, 1) := by decide +kernel
theorem dX4_fittingCharacters_85 : decode cX4_fittingCharacters 85 = .ok (.bipush 114, 2) := by decide +kernel
theorem dX4_fittingCharacters_87 : decode cX4_fittingCharacters 87 = .ok (.if_icmp .ne 7, 3) := by decide +kernel
theorem dX4_fittingCharacters_90 : decode cX4_fittingCharacters 90 = .ok (.iconst 1, 1) := by decide +kernel
theorem dX4_fittingCharacters_91 : decode cX4_fittingCharacters 91 = .ok (.goto 4, 3) := by decide +kernel
theorem dX4_fittingCharacters_94 : decode cX4_fittingCharacters 94 = .ok (.iconst 0, 1) := by decide +kernel
theorem dX4_fittingCharacters_95 : decode cX4_fittingCharacters 95 = .ok (.ireturn, 1) := by decide +kernel
theorem dX4_fittingCharacters_96 : decode cX4_fittingCharacters 96 = .ok (.aload_n 0, 1) := by decide +kernel
theorem dX4_fittingCharacters_97 : decode cX4_fittingCharacters 97 = .ok (.iload_n 2, 1) := by decide +kernel
theorem dX4_fittingCharacters_98 : decode cX4_fittingCharacters 98 = .ok (.invokevirtual 483, 3) := by decide +kernel
theorem dX4_fittingCharacters_101 : decode cX4_fittingCharacters 101 = .ok (.ireturn, 1) := by decide +kernel
theorem dX4_fittingCharacters_102 : decode cX4_fittingCharacters 102 = .ok (.iconst 0, 1) := by decide +kernel
theorem dX4_fittingCharacters_103 : decode cX4_fittingCharacters 103 = .ok (.ireturn, 1) := by decide +kernel
theorem dX4_fittingCharacters_104 : decode cX4_fittingCharacters 104 = .ok (.iload_n 3, 1) := by decide +kernel
theorem dX4_fittingCharacters_105 : decode cX4_fittingCharacters 105 = .ok (.iload_n 1, 1) := by decide +kernel
theorem dX4_fittingCharacters_106 : decode cX4_fittingCharacters 106 = .ok (.if_icmp .ne 7, 3) := by decide +kernel
theorem dX4_fittingCharacters_109 : decode cX4_fittingCharacters 109 = .ok (.iconst 1, 1) := by decide +kernel
theorem dX4_fittingCharacters_110 : decode cX4_fittingCharacters 110 = .ok (.goto 4, 3) := by decide +kernel
theorem dX4_fittingCharacters_113 : decode cX4_fittingCharacters 113 = .ok (.iconst 0, 1) := by decide +kernel
theorem dX4_fittingCharacters_114 : decode cX4_fittingCharacters 114 = .ok (.ireturn, 1) := by decide +kernel
theorem h9_X4_fittingCharacters : yX4_fittingCharacters.cls ≠ "java/lang/invoke/MethodHandle" ∧ yX4_fittingCharacters.cls ≠ "java/lang/invoke/VarHandle" ∧ (parseMethodDescriptor yX4_fittingCharacters.desc).map (fun d => d.parameters.length) = some 2 := by decide +kernel
noncomputable def F_X4_fittingCharacters (a0 : Nat) (x1 : Int32) (x2 : Int32) (w : FW) : Option (Int32) :=
  fg (w.1 a0 = 5) inferInstance ((if x2 < (gI w 408 a0 0) then fg (w.1 (gR w 407 a0 0) = 10) inferInstance (fg (¬ (x2 < 0 ∨ w.2.1 (gR w 407 a0 0) ≤ Int32.toNatClampNeg x2)) inferInstance ((if x1 = 33 then some 0 else (if x1 = 35 then (if (gI w 600 (gR w 407 a0 0) (Int32.toNatClampNeg x2)) < 48 then some 0 else (if 57 < (gI w 600 (gR w 407 a0 0) (Int32.toNatClampNeg x2)) then some 0 else some 1)) else (if x1 = 64 then (F_X4_lettersFrom a0 x2 w).bind (fun r10 => some r10) else (if x1 = 104 then (if (gI w 600 (gR w 407 a0 0) (Int32.toNatClampNeg x2)) = 111 then some 1 else (if (gI w 600 (gR w 407 a0 0) (Int32.toNatClampNeg x2)) = 114 then some 1 else some 0)) else (if (gI w 600 (gR w 407 a0 0) (Int32.toNatClampNeg x2)) = x1 then some 1 else some 0))))))) else some 0))
set_option maxHeartbeats 4000000 in
set_option maxRecDepth 100000 in
theorem c_X4_fittingCharacters (l : Launch) (D : va_G) (cy : Nat → ClassId) (a0 : Nat) (x1 : Int32) (x2 : Int32) (w : FW) (r : Int32) (hF : F_X4_fittingCharacters a0 x1 x2 w = some r) : fSpec l D cy yX4_fittingCharacters cX4_fittingCharacters 4 (some .int) { frames := 3, cells := 0, slots := 0, locals := 62 } [.ref a0, .int x1, .int x2] w w (some (.int r)) := by
  refine f_begin (by decide +kernel) (Nat.le_of_ble_eq_true rfl) (fun X hC hEn => ?_)
  unfold F_X4_fittingCharacters at hF
  show fAt X 0 0 4 w [(0, .ref a0), (1, .int x1), (2, .int x2)] [] 0
  refine f_iload_n hC dX4_fittingCharacters_0 rfl 2 rfl ?_
  refine f_aload_n hC dX4_fittingCharacters_1 rfl 0 rfl ?_
  obtain ⟨g1, hF⟩ := fg_open hF
  refine f_getI hC 4 8 408 rfl (by decide) iX4 q_321 rfl rfl (fSm.k (fSm.rf w) g1) dX4_fittingCharacters_2 ?_
  refine f_icmp_lt hC 10 dX4_fittingCharacters_5 (by decide) (fun c2 => ?_) (fun c2 => ?_)
  · replace hF := fi_pos hF c2
    refine f_aload_n hC dX4_fittingCharacters_10 rfl 0 rfl ?_
    refine f_getR hC 4 7 407 rfl (by decide) iX4 q_320 rfl rfl (fSm.k (fSm.rf w) g1) dX4_fittingCharacters_11 ?_
    refine f_iload_n hC dX4_fittingCharacters_14 rfl 2 rfl ?_
    obtain ⟨g3, hF⟩ := fg_open hF
    obtain ⟨g4, hF⟩ := fg_open hF
    refine f_cald hC (fSm.k (fSm.rf w) g3) (fSm.v (fSm.rf w) g4) dX4_fittingCharacters_15 ?_
    refine f_istore_n (L' := [(3, .int (gI w 600 (gR w 407 a0 0) (Int32.toNatClampNeg x2))), (0, .ref a0), (1, .int x1), (2, .int x2)]) hC dX4_fittingCharacters_16 rfl (by decide) rfl ?_
    refine f_iload_n hC dX4_fittingCharacters_17 rfl 2 rfl ?_
    by_cases c5 : x1 = 33
    · replace hF := fi_pos hF c5
      refine f_look hC 102 dX4_fittingCharacters_18 (by decide) (by rw [c5] <;> decide) (by decide) ?_
      refine f_iconst (v := 0) hC dX4_fittingCharacters_102 (by decide) ?_
      obtain rfl := Option.some.inj hF
      exact f_iret hC hEn (fSm.rf w) dX4_fittingCharacters_103
    · replace hF := fi_neg hF c5
      by_cases c6 : x1 = 35
      · replace hF := fi_pos hF c6
        refine f_look hC 60 dX4_fittingCharacters_18 (by decide) (by rw [c6] <;> decide) (by decide) ?_
        refine f_iload_n hC dX4_fittingCharacters_60 rfl 0 rfl ?_
        refine f_bipush (v := 48) hC dX4_fittingCharacters_61 (by decide) ?_
        refine f_icmp_lt hC 76 dX4_fittingCharacters_63 (by decide) (fun c7 => ?_) (fun c7 => ?_)
        · replace hF := fi_pos hF c7
          refine f_iconst (v := 0) hC dX4_fittingCharacters_76 (by decide) ?_
          obtain rfl := Option.some.inj hF
          exact f_iret hC hEn (fSm.rf w) dX4_fittingCharacters_77
        · replace hF := fi_neg hF c7
          refine f_iload_n hC dX4_fittingCharacters_66 rfl 0 rfl ?_
          refine f_bipush (v := 57) hC dX4_fittingCharacters_67 (by decide) ?_
          refine f_icmp_gt hC 76 dX4_fittingCharacters_69 (by decide) (fun c8 => ?_) (fun c8 => ?_)
          · replace hF := fi_pos hF c8
            refine f_iconst (v := 0) hC dX4_fittingCharacters_76 (by decide) ?_
            obtain rfl := Option.some.inj hF
            exact f_iret hC hEn (fSm.rf w) dX4_fittingCharacters_77
          · replace hF := fi_neg hF c8
            refine f_iconst (v := 1) hC dX4_fittingCharacters_72 (by decide) ?_
            refine f_goto hC 77 dX4_fittingCharacters_73 (by decide) ?_
            obtain rfl := Option.some.inj hF
            exact f_iret hC hEn (fSm.rf w) dX4_fittingCharacters_77
      · replace hF := fi_neg hF c6
        by_cases c9 : x1 = 64
        · replace hF := fi_pos hF c9
          refine f_look hC 96 dX4_fittingCharacters_18 (by decide) (by rw [c9] <;> decide) (by decide) ?_
          refine f_aload_n hC dX4_fittingCharacters_96 rfl 1 rfl ?_
          refine f_iload_n hC dX4_fittingCharacters_97 rfl 3 rfl ?_
          obtain ⟨r10, h11, hF⟩ := fb_open hF
          refine f_callV hC [.int x2] (c_X4_lettersFrom l D cy a0 x2 w r10 h11) q_1197 q_131 q_1194 q_1196 q_67 h9_X4_lettersFrom rfl (fSm.k (fSm.rf w) g1) ⟨Nat.le_of_ble_eq_true rfl, Nat.le_of_ble_eq_true rfl⟩ ⟨Nat.le_of_ble_eq_true rfl, Nat.le_of_ble_eq_true rfl⟩ (Nat.le_of_ble_eq_true rfl) rfl dX4_fittingCharacters_98 (fun e12 => ?_)
          obtain rfl := Option.some.inj hF
          exact f_iret hC hEn (fSm.rf w) dX4_fittingCharacters_101
        · replace hF := fi_neg hF c9
          by_cases c13 : x1 = 104
          · replace hF := fi_pos hF c13
            refine f_look hC 78 dX4_fittingCharacters_18 (by decide) (by rw [c13] <;> decide) (by decide) ?_
            refine f_iload_n hC dX4_fittingCharacters_78 rfl 0 rfl ?_
            refine f_bipush (v := 111) hC dX4_fittingCharacters_79 (by decide) ?_
            refine f_icmp_eq hC 90 dX4_fittingCharacters_81 (by decide) (fun c14 => ?_) (fun c14 => ?_)
            · replace hF := fi_pos hF c14
              refine f_iconst (v := 1) hC dX4_fittingCharacters_90 (by decide) ?_
              refine f_goto hC 95 dX4_fittingCharacters_91 (by decide) ?_
              obtain rfl := Option.some.inj hF
              exact f_iret hC hEn (fSm.rf w) dX4_fittingCharacters_95
            · replace hF := fi_neg hF c14
              refine f_iload_n hC dX4_fittingCharacters_84 rfl 0 rfl ?_
              refine f_bipush (v := 114) hC dX4_fittingCharacters_85 (by decide) ?_
              refine f_icmp_ne hC 94 dX4_fittingCharacters_87 (by decide) (fun c15 => ?_) (fun c15 => ?_)
              · replace hF := fi_neg hF c15
                refine f_iconst (v := 0) hC dX4_fittingCharacters_94 (by decide) ?_
                obtain rfl := Option.some.inj hF
                exact f_iret hC hEn (fSm.rf w) dX4_fittingCharacters_95
              · replace hF := fi_pos hF c15
                refine f_iconst (v := 1) hC dX4_fittingCharacters_90 (by decide) ?_
                refine f_goto hC 95 dX4_fittingCharacters_91 (by decide) ?_
                obtain rfl := Option.some.inj hF
                exact f_iret hC hEn (fSm.rf w) dX4_fittingCharacters_95
          · replace hF := fi_neg hF c13
            refine f_look (off := 86) hC 104 dX4_fittingCharacters_18 (by decide) (flook (List.forall_mem_cons.mpr ⟨c5, (List.forall_mem_cons.mpr ⟨c6, (List.forall_mem_cons.mpr ⟨c9, (List.forall_mem_cons.mpr ⟨c13, (fun _ h => absurd h List.not_mem_nil)⟩)⟩)⟩)⟩)) (by decide) ?_
            refine f_iload_n hC dX4_fittingCharacters_104 rfl 0 rfl ?_
            refine f_iload_n hC dX4_fittingCharacters_105 rfl 2 rfl ?_
            refine f_icmp_ne hC 113 dX4_fittingCharacters_106 (by decide) (fun c16 => ?_) (fun c16 => ?_)
            · replace hF := fi_neg hF c16
              refine f_iconst (v := 0) hC dX4_fittingCharacters_113 (by decide) ?_
              obtain rfl := Option.some.inj hF
              exact f_iret hC hEn (fSm.rf w) dX4_fittingCharacters_114
            · replace hF := fi_pos hF c16
              refine f_iconst (v := 1) hC dX4_fittingCharacters_109 (by decide) ?_
              refine f_goto hC 114 dX4_fittingCharacters_110 (by decide) ?_
              obtain rfl := Option.some.inj hF
              exact f_iret hC hEn (fSm.rf w) dX4_fittingCharacters_114
  · replace hF := fi_neg hF c2
    refine f_iconst (v := 0) hC dX4_fittingCharacters_8 (by decide) ?_
    obtain rfl := Option.some.inj hF
    exact f_iret hC hEn (fSm.rf w) dX4_fittingCharacters_9
theorem dX4_endOfOrder_0 : decode cX4_endOfOrder 0 = .ok (.iload_n 1, 1) := by decide +kernel
theorem dX4_endOfOrder_1 : decode cX4_endOfOrder 1 = .ok (.aload_n 0, 1) := by decide +kernel
theorem dX4_endOfOrder_2 : decode cX4_endOfOrder 2 = .ok (.getfield 45, 3) := by decide +kernel
theorem dX4_endOfOrder_5 : decode cX4_endOfOrder 5 = .ok (.if_icmp .ge 15, 3) := by decide +kernel
theorem dX4_endOfOrder_8 : decode cX4_endOfOrder 8 = .ok (.aload_n 0, 1) := by decide +kernel
theorem dX4_endOfOrder_9 : decode cX4_endOfOrder 9 = .ok (.getfield 41, 3) := by decide +kernel
theorem dX4_endOfOrder_12 : decode cX4_endOfOrder 12 = .ok (.iload_n 1, 1) := by decide +kernel
theorem dX4_endOfOrder_13 : decode cX4_endOfOrder 13 = .ok (.caload, 1) := by decide +kernel
theorem dX4_endOfOrder_14 : decode cX4_endOfOrder 14 = .ok (.invokestatic 442, 3) := by decide +kernel
theorem dX4_endOfOrder_17 : decode cX4_endOfOrder 17 = .ok (.goto 6, 3) := by decide +kernel
theorem dX4_endOfOrder_20 : decode cX4_endOfOrder 20 = .ok (.ldc_w 446, 3) := by decide +kernel
theorem dX4_endOfOrder_23 : decode cX4_endOfOrder 23 = .ok (.astore_n 2, 1) := by decide +kernel
theorem dX4_endOfOrder_24 : decode cX4_endOfOrder 24 = .ok (.iload_n 1, 1) := by decide +kernel
theorem dX4_endOfOrder_25 : decode cX4_endOfOrder 25 = .ok (.istore_n 3, 1) := by decide +kernel
theorem dX4_endOfOrder_26 : decode cX4_endOfOrder 26 = .ok (.iconst 0, 1) := by decide +kernel
theorem dX4_endOfOrder_27 : decode cX4_endOfOrder 27 = .ok (.istore 4, 2) := by decide +kernel
theorem dX4_endOfOrder_29 : decode cX4_endOfOrder 29 = .ok (.iload 4, 2) := by decide +kernel
theorem dX4_endOfOrder_31 : decode cX4_endOfOrder 31 = .ok (.aload_n 2, 1) := by decide +kernel
theorem dX4_endOfOrder_32 : decode cX4_endOfOrder 32 = .ok (.invokevirtual 448, 3) := by decide +kernel
theorem dX4_endOfOrder_35 : decode cX4_endOfOrder 35 = .ok (.if_icmp .ge 36, 3) := by decide +kernel
theorem dX4_endOfOrder_38 : decode cX4_endOfOrder 38 = .ok (.aload_n 0, 1) := by decide +kernel
theorem dX4_endOfOrder_39 : decode cX4_endOfOrder 39 = .ok (.aload_n 2, 1) := by decide +kernel
theorem dX4_endOfOrder_40 : decode cX4_endOfOrder 40 = .ok (.iload 4, 2) := by decide +kernel
theorem dX4_endOfOrder_42 : decode cX4_endOfOrder 42 = .ok (.invokevirtual 452, 3) := by decide +kernel
theorem dX4_endOfOrder_45 : decode cX4_endOfOrder 45 = .ok (.iload_n 3, 1) := by decide +kernel
theorem dX4_endOfOrder_46 : decode cX4_endOfOrder 46 = .ok (.invokevirtual 455, 3) := by decide +kernel
theorem dX4_endOfOrder_49 : decode cX4_endOfOrder 49 = .ok (.istore 5, 2) := by decide +kernel
theorem dX4_endOfOrder_51 : decode cX4_endOfOrder 51 = .ok (.iload 5, 2) := by decide +kernel
theorem dX4_endOfOrder_53 : decode cX4_endOfOrder 53 = .ok (.ifCond .ne 7, 3) := by decide +kernel
theorem dX4_endOfOrder_56 : decode cX4_endOfOrder 56 = .ok (.iload_n 3, 1) := by decide +kernel
theorem dX4_endOfOrder_57 : decode cX4_endOfOrder 57 = .ok (.iconst (-1), 1) := by decide +kernel
theorem dX4_endOfOrder_58 : decode cX4_endOfOrder 58 = .ok (.ixor, 1) := by decide +kernel
theorem dX4_endOfOrder_59 : decode cX4_endOfOrder 59 = .ok (.ireturn, 1) := by decide +kernel
theorem dX4_endOfOrder_60 : decode cX4_endOfOrder 60 = .ok (.iload_n 3, 1) := by decide +kernel
theorem dX4_endOfOrder_61 : decode cX4_endOfOrder 61 = .ok (.iload 5, 2) := by decide +kernel
theorem dX4_endOfOrder_63 : decode cX4_endOfOrder 63 = .ok (.iadd, 1) := by decide +kernel
theorem dX4_endOfOrder_64 : decode cX4_endOfOrder 64 = .ok (.istore_n 3, 1) := by decide +kernel
theorem dX4_endOfOrder_65 : decode cX4_endOfOrder 65 = .ok (.iinc 4 1, 3) := by decide +kernel
theorem dX4_endOfOrder_68 : decode cX4_endOfOrder 68 = .ok (.goto (-39), 3) := by decide +kernel
theorem dX4_endOfOrder_71 : decode cX4_endOfOrder 71 = .ok (.iload_n 3, 1) := by decide +kernel
theorem dX4_endOfOrder_72 : decode cX4_endOfOrder 72 = .ok (.ireturn, 1) := by decide +kernel
theorem h9_X4_endOfOrder : yX4_endOfOrder.cls ≠ "java/lang/invoke/MethodHandle" ∧ yX4_endOfOrder.cls ≠ "java/lang/invoke/VarHandle" ∧ (parseMethodDescriptor yX4_endOfOrder.desc).map (fun d => d.parameters.length) = some 1 := by decide +kernel
noncomputable def F_X4_endOfOrder (a0 : Nat) (x1 : Int32) (w : FW) : Option (Int32) :=
  fg (w.1 a0 = 5) inferInstance (((if (gI w 408 a0 0) ≤ x1 then some 1 else fg (w.1 (gR w 407 a0 0) = 10) inferInstance (fg (¬ (x1 < 0 ∨ w.2.1 (gR w 407 a0 0) ≤ Int32.toNatClampNeg x1)) inferInstance ((F_X4_shapeOf (gI w 600 (gR w 407 a0 0) (Int32.toNatClampNeg x1)) w).bind (fun r27 => some r27)))) : Option (Nat)).bind (fun x2 => (fLoop (σ := Int32 × Int32) (ρ := (Int32) ⊕ (Int32)) (fun s6 => fg (x2 < 14) inferInstance ((if (fsl x2) ≤ s6.2 then some (.inr (.inl s6.1)) else fg (x2 < 14) inferInstance (fg (¬ (s6.2 < 0 ∨ (fByt.getD x2 []).length ≤ Int32.toNatClampNeg s6.2)) inferInstance ((F_X4_fittingCharacters a0 (fsc x2 s6.2) s6.1 w).bind (fun r19 => (if r19 = 0 then some (.inr (.inr (s6.1 ^^^ (-1)))) else some (.inl ((s6.1 + r19), (s6.2 + 1)))))))))) (x1, 0)).bind (fun x12 => fse x12 (fun z23 => some z23) (fun q9 => some q9))))
set_option maxHeartbeats 4000000 in
set_option maxRecDepth 100000 in
theorem c_X4_endOfOrder (l : Launch) (D : va_G) (cy : Nat → ClassId) (a0 : Nat) (x1 : Int32) (w : FW) (r : Int32) (hF : F_X4_endOfOrder a0 x1 w = some r) : fSpec l D cy yX4_endOfOrder cX4_endOfOrder 6 (some .int) { frames := 4, cells := 0, slots := 0, locals := 85 } [.ref a0, .int x1] w w (some (.int r)) := by
  refine f_begin (by decide +kernel) (Nat.le_of_ble_eq_true rfl) (fun X hC hEn => ?_)
  unfold F_X4_endOfOrder at hF
  show fAt X 0 0 6 w [(0, .ref a0), (1, .int x1)] [] 0
  refine f_iload_n hC dX4_endOfOrder_0 rfl 1 rfl ?_
  refine f_aload_n hC dX4_endOfOrder_1 rfl 0 rfl ?_
  obtain ⟨g1, hF⟩ := fg_open hF
  refine f_getI hC 4 8 408 rfl (by decide) iX4 q_321 rfl rfl (fSm.k (fSm.rf w) g1) dX4_endOfOrder_2 ?_
  obtain ⟨x2, h3, hF⟩ := fb_open hF
  have K5 : fAt X 0 0 6 w [(0, .ref a0), (1, .int x1)] [.ref (D.2 99 x2)] 23 := by
    refine f_astore_n (L' := [(2, .ref (D.2 99 x2)), (0, .ref a0), (1, .int x1)]) hC dX4_endOfOrder_23 rfl (by decide) rfl ?_
    refine f_iload_n hC dX4_endOfOrder_24 rfl 2 rfl ?_
    refine f_istore_n (L' := [(3, .int x1), (2, .ref (D.2 99 x2)), (0, .ref a0), (1, .int x1)]) hC dX4_endOfOrder_25 rfl (by decide) rfl ?_
    refine f_iconst (v := 0) hC dX4_endOfOrder_26 (by decide) ?_
    refine f_istore (L' := [(4, .int 0), (3, .int x1), (2, .ref (D.2 99 x2)), (0, .ref a0), (1, .int x1)]) hC dX4_endOfOrder_27 (by decide) rfl ?_
    obtain ⟨x12, h13, hF⟩ := fb_open hF
    have K14 : ∀ z23, x12 = .inl z23 → fAt X 0 0 6 w [(3, .int z23)] [] 71 := by
      intro z23 hz9
      subst hz9
      refine f_iload_n hC dX4_endOfOrder_71 rfl 0 rfl ?_
      obtain rfl := Option.some.inj hF
      exact f_iret hC hEn (fSm.rf w) dX4_endOfOrder_72
    refine f_sub (L' := [(0, .ref a0), (2, .ref (D.2 99 x2)), (3, .int x1), (4, .int 0)]) [3, 2, 1, 0] rfl ?_
    refine fLoop_ind (fun (s6 : Int32 × Int32) => fAt X 0 0 6 w [(0, .ref a0), (2, .ref (D.2 99 x2)), (3, .int s6.1), (4, .int s6.2)] [] 29) (fun s6 y11 h7 go8 ou9 => ?_) h13
    refine f_iload hC dX4_endOfOrder_29 3 rfl ?_
    refine f_aload_n hC dX4_endOfOrder_31 rfl 1 rfl ?_
    obtain ⟨g15, h7⟩ := fg_open h7
    refine f_callStr hC [] (c_strlen l D cy w x2 g15) g15 rfl q_s1184 q_s144 q_1181 q_s1182 q_s1183 h9_J0_length_8abf5 ⟨Nat.le_of_ble_eq_true rfl, Nat.le_of_ble_eq_true rfl⟩ ⟨Nat.le_of_ble_eq_true rfl, Nat.le_of_ble_eq_true rfl⟩ (Nat.le_of_ble_eq_true rfl) rfl dX4_endOfOrder_32 (fun _ => ?_)
    refine f_icmp_ge hC 71 dX4_endOfOrder_35 (by decide) (fun c16 => ?_) (fun c16 => ?_)
    · replace h7 := fi_pos h7 c16
      obtain rfl := Option.some.inj h7
      have eo := ou9 _ rfl
      refine f_sub (L' := [(3, .int s6.1)]) [2] rfl ?_
      exact K14 _ eo.symm
    · replace h7 := fi_neg h7 c16
      refine f_aload_n hC dX4_endOfOrder_38 rfl 0 rfl ?_
      refine f_aload_n hC dX4_endOfOrder_39 rfl 1 rfl ?_
      refine f_iload hC dX4_endOfOrder_40 3 rfl ?_
      obtain ⟨g17, h7⟩ := fg_open h7
      obtain ⟨g18, h7⟩ := fg_open h7
      refine f_callStr hC [.int s6.2] (c_charAt l D cy w x2 s6.2 g17 g18) g17 rfl q_s559 q_s144 q_1189 q_s557 q_s558 h9_J0_charAt_5068e ⟨Nat.le_of_ble_eq_true rfl, Nat.le_of_ble_eq_true rfl⟩ ⟨Nat.le_of_ble_eq_true rfl, Nat.le_of_ble_eq_true rfl⟩ (Nat.le_of_ble_eq_true rfl) rfl dX4_endOfOrder_42 (fun _ => ?_)
      refine f_iload_n hC dX4_endOfOrder_45 rfl 2 rfl ?_
      obtain ⟨r19, h20, h7⟩ := fb_open h7
      refine f_callV hC [.int (fsc x2 s6.2), .int s6.1] (c_X4_fittingCharacters l D cy a0 (fsc x2 s6.2) s6.1 w r19 h20) q_1193 q_131 q_1190 q_1192 q_66 h9_X4_fittingCharacters rfl (fSm.k (fSm.rf w) g1) ⟨Nat.le_of_ble_eq_true rfl, Nat.le_of_ble_eq_true rfl⟩ ⟨Nat.le_of_ble_eq_true rfl, Nat.le_of_ble_eq_true rfl⟩ (Nat.le_of_ble_eq_true rfl) rfl dX4_endOfOrder_46 (fun e21 => ?_)
      refine f_istore (L' := [(5, .int r19), (0, .ref a0), (2, .ref (D.2 99 x2)), (3, .int s6.1), (4, .int s6.2)]) hC dX4_endOfOrder_49 (by decide) rfl ?_
      refine f_iload hC dX4_endOfOrder_51 0 rfl ?_
      refine f_if_ne hC 60 dX4_endOfOrder_53 (by decide) (fun c22 => ?_) (fun c22 => ?_)
      · replace h7 := fi_neg h7 c22
        refine f_iload_n hC dX4_endOfOrder_60 rfl 3 rfl ?_
        refine f_iload hC dX4_endOfOrder_61 0 rfl ?_
        refine f_iadd hC dX4_endOfOrder_63 ?_
        refine f_istore_n (L' := [(3, .int (s6.1 + r19)), (5, .int r19), (0, .ref a0), (2, .ref (D.2 99 x2)), (4, .int s6.2)]) hC dX4_endOfOrder_64 rfl (by decide) rfl ?_
        refine f_iinc (L' := [(4, .int (s6.2 + 1)), (3, .int (s6.1 + r19)), (5, .int r19), (0, .ref a0), (2, .ref (D.2 99 x2))]) hC dX4_endOfOrder_65 4 rfl rfl (by decide) rfl ?_
        refine f_goto hC 29 dX4_endOfOrder_68 (by decide) ?_
        obtain rfl := Option.some.inj h7
        refine f_sub (L' := [(0, .ref a0), (2, .ref (D.2 99 x2)), (3, .int (s6.1 + r19)), (4, .int (s6.2 + 1))]) [3, 4, 1, 0] rfl ?_
        exact go8 _ rfl
      · replace h7 := fi_pos h7 c22
        refine f_iload_n hC dX4_endOfOrder_56 rfl 3 rfl ?_
        refine f_iconst (v := (-1)) hC dX4_endOfOrder_57 (by decide) ?_
        refine f_ixor hC dX4_endOfOrder_58 ?_
        obtain rfl := Option.some.inj h7
        obtain rfl := ou9 _ rfl
        obtain rfl := Option.some.inj hF
        exact f_iret hC hEn (fSm.rf w) dX4_endOfOrder_59
  refine f_icmp_ge hC 20 dX4_endOfOrder_5 (by decide) (fun c24 => ?_) (fun c24 => ?_)
  · replace h3 := fi_pos h3 c24
    refine f_ldcW hC 1 rfl dX4_endOfOrder_20 ?_
    obtain rfl := Option.some.inj h3
    exact K5
  · replace h3 := fi_neg h3 c24
    refine f_aload_n hC dX4_endOfOrder_8 rfl 0 rfl ?_
    refine f_getR hC 4 7 407 rfl (by decide) iX4 q_320 rfl rfl (fSm.k (fSm.rf w) g1) dX4_endOfOrder_9 ?_
    refine f_iload_n hC dX4_endOfOrder_12 rfl 1 rfl ?_
    obtain ⟨g25, h3⟩ := fg_open h3
    obtain ⟨g26, h3⟩ := fg_open h3
    refine f_cald hC (fSm.k (fSm.rf w) g25) (fSm.v (fSm.rf w) g26) dX4_endOfOrder_13 ?_
    obtain ⟨r27, h28, h3⟩ := fb_open h3
    refine f_callS hC [.int (gI w 600 (gR w 407 a0 0) (Int32.toNatClampNeg x1))] (c_X4_shapeOf l D cy (gI w 600 (gR w 407 a0 0) (Int32.toNatClampNeg x1)) w r27 h28) q_1167 q_131 q_1165 q_1166 h9_X4_shapeOf ⟨Nat.le_of_ble_eq_true rfl, Nat.le_of_ble_eq_true rfl⟩ ⟨Nat.le_of_ble_eq_true rfl, Nat.le_of_ble_eq_true rfl⟩ (Nat.le_of_ble_eq_true rfl) rfl dX4_endOfOrder_14 (fun e29 => ?_)
    refine f_goto hC 23 dX4_endOfOrder_17 (by decide) ?_
    obtain rfl := Option.some.inj h3
    exact K5
theorem dX4_faultOfInput_0 : decode cX4_faultOfInput 0 = .ok (.iconst 0, 1) := by decide +kernel
theorem dX4_faultOfInput_1 : decode cX4_faultOfInput 1 = .ok (.istore_n 1, 1) := by decide +kernel
theorem dX4_faultOfInput_2 : decode cX4_faultOfInput 2 = .ok (.iconst 0, 1) := by decide +kernel
theorem dX4_faultOfInput_3 : decode cX4_faultOfInput 3 = .ok (.istore_n 2, 1) := by decide +kernel
theorem dX4_faultOfInput_4 : decode cX4_faultOfInput 4 = .ok (.iload_n 2, 1) := by decide +kernel
theorem dX4_faultOfInput_5 : decode cX4_faultOfInput 5 = .ok (.bipush 60, 2) := by decide +kernel
theorem dX4_faultOfInput_7 : decode cX4_faultOfInput 7 = .ok (.if_icmp .ge 50, 3) := by decide +kernel
theorem dX4_faultOfInput_10 : decode cX4_faultOfInput 10 = .ok (.aload_n 0, 1) := by decide +kernel
theorem dX4_faultOfInput_11 : decode cX4_faultOfInput 11 = .ok (.iload_n 1, 1) := by decide +kernel
theorem dX4_faultOfInput_12 : decode cX4_faultOfInput 12 = .ok (.invokevirtual 436, 3) := by decide +kernel
theorem dX4_faultOfInput_15 : decode cX4_faultOfInput 15 = .ok (.istore_n 3, 1) := by decide +kernel
theorem dX4_faultOfInput_16 : decode cX4_faultOfInput 16 = .ok (.iload_n 3, 1) := by decide +kernel
theorem dX4_faultOfInput_17 : decode cX4_faultOfInput 17 = .ok (.ifCond .ge 7, 3) := by decide +kernel
theorem dX4_faultOfInput_20 : decode cX4_faultOfInput 20 = .ok (.iload_n 3, 1) := by decide +kernel
theorem dX4_faultOfInput_21 : decode cX4_faultOfInput 21 = .ok (.iconst (-1), 1) := by decide +kernel
theorem dX4_faultOfInput_22 : decode cX4_faultOfInput 22 = .ok (.ixor, 1) := by decide +kernel
theorem dX4_faultOfInput_23 : decode cX4_faultOfInput 23 = .ok (.ireturn, 1) := by decide +kernel
theorem dX4_faultOfInput_24 : decode cX4_faultOfInput 24 = .ok (.iload_n 3, 1) := by decide +kernel
theorem dX4_faultOfInput_25 : decode cX4_faultOfInput 25 = .ok (.aload_n 0, 1) := by decide +kernel
theorem dX4_faultOfInput_26 : decode cX4_faultOfInput 26 = .ok (.getfield 45, 3) := by decide +kernel
theorem dX4_faultOfInput_29 : decode cX4_faultOfInput 29 = .ok (.if_icmp .lt 5, 3) := by decide +kernel
theorem dX4_faultOfInput_32 : decode cX4_faultOfInput 32 = .ok (.iconst (-1), 1) := by decide +kernel
theorem dX4_faultOfInput_33 : decode cX4_faultOfInput 33 = .ok (.ireturn, 1) := by decide +kernel
theorem dX4_faultOfInput_34 : decode cX4_faultOfInput 34 = .ok (.aload_n 0, 1) := by decide +kernel
theorem dX4_faultOfInput_35 : decode cX4_faultOfInput 35 = .ok (.getfield 41, 3) := by decide +kernel
theorem dX4_faultOfInput_38 : decode cX4_faultOfInput 38 = .ok (.iload_n 3, 1) := by decide +kernel
theorem dX4_faultOfInput_39 : decode cX4_faultOfInput 39 = .ok (.caload, 1) := by decide +kernel
theorem dX4_faultOfInput_40 : decode cX4_faultOfInput 40 = .ok (.bipush 59, 2) := by decide +kernel
theorem dX4_faultOfInput_42 : decode cX4_faultOfInput 42 = .ok (.if_icmp .eq 5, 3) := by decide +kernel
theorem dX4_faultOfInput_45 : decode cX4_faultOfInput 45 = .ok (.iload_n 3, 1) := by decide +kernel
theorem dX4_faultOfInput_46 : decode cX4_faultOfInput 46 = .ok (.ireturn, 1) := by decide +kernel
theorem dX4_faultOfInput_47 : decode cX4_faultOfInput 47 = .ok (.iload_n 3, 1) := by decide +kernel
theorem dX4_faultOfInput_48 : decode cX4_faultOfInput 48 = .ok (.iconst 1, 1) := by decide +kernel
theorem dX4_faultOfInput_49 : decode cX4_faultOfInput 49 = .ok (.iadd, 1) := by decide +kernel
theorem dX4_faultOfInput_50 : decode cX4_faultOfInput 50 = .ok (.istore_n 1, 1) := by decide +kernel
theorem dX4_faultOfInput_51 : decode cX4_faultOfInput 51 = .ok (.iinc 2 1, 3) := by decide +kernel
theorem dX4_faultOfInput_54 : decode cX4_faultOfInput 54 = .ok (.goto (-50), 3) := by decide +kernel
theorem dX4_faultOfInput_57 : decode cX4_faultOfInput 57 = .ok (.aload_n 0, 1) := by decide +kernel
theorem dX4_faultOfInput_58 : decode cX4_faultOfInput 58 = .ok (.getfield 45, 3) := by decide +kernel
theorem dX4_faultOfInput_61 : decode cX4_faultOfInput 61 = .ok (.ireturn, 1) := by decide +kernel
theorem h9_X4_faultOfInput : yX4_faultOfInput.cls ≠ "java/lang/invoke/MethodHandle" ∧ yX4_faultOfInput.cls ≠ "java/lang/invoke/VarHandle" ∧ (parseMethodDescriptor yX4_faultOfInput.desc).map (fun d => d.parameters.length) = some 0 := by decide +kernel
noncomputable def F_X4_faultOfInput (a0 : Nat) (w : FW) : Option (Int32) :=
  (fLoop (σ := Int32 × Int32) (ρ := (Unit) ⊕ (Int32)) (fun s1 => (if 60 ≤ s1.2 then some (.inr (.inl ())) else fg (w.1 a0 = 5) inferInstance ((F_X4_endOfOrder a0 s1.1 w).bind (fun r11 => (if 0 ≤ r11 then (if r11 < (gI w 408 a0 0) then fg (w.1 (gR w 407 a0 0) = 10) inferInstance (fg (¬ (r11 < 0 ∨ w.2.1 (gR w 407 a0 0) ≤ Int32.toNatClampNeg r11)) inferInstance ((if (gI w 600 (gR w 407 a0 0) (Int32.toNatClampNeg r11)) = 59 then some (.inl ((r11 + 1), (s1.2 + 1))) else some (.inr (.inr r11))))) else some (.inr (.inr (-1)))) else some (.inr (.inr (r11 ^^^ (-1))))))))) (0, 0)).bind (fun x7 => fse x7 (fun z20 => fg (w.1 a0 = 5) inferInstance (some (gI w 408 a0 0))) (fun q9 => some q9))
set_option maxHeartbeats 4000000 in
set_option maxRecDepth 100000 in
theorem c_X4_faultOfInput (l : Launch) (D : va_G) (cy : Nat → ClassId) (a0 : Nat) (w : FW) (r : Int32) (hF : F_X4_faultOfInput a0 w = some r) : fSpec l D cy yX4_faultOfInput cX4_faultOfInput 4 (some .int) { frames := 5, cells := 0, slots := 0, locals := 110 } [.ref a0] w w (some (.int r)) := by
  refine f_begin (by decide +kernel) (Nat.le_of_ble_eq_true rfl) (fun X hC hEn => ?_)
  unfold F_X4_faultOfInput at hF
  show fAt X 0 0 4 w [(0, .ref a0)] [] 0
  refine f_iconst (v := 0) hC dX4_faultOfInput_0 (by decide) ?_
  refine f_istore_n (L' := [(1, .int 0), (0, .ref a0)]) hC dX4_faultOfInput_1 rfl (by decide) rfl ?_
  refine f_iconst (v := 0) hC dX4_faultOfInput_2 (by decide) ?_
  refine f_istore_n (L' := [(2, .int 0), (1, .int 0), (0, .ref a0)]) hC dX4_faultOfInput_3 rfl (by decide) rfl ?_
  obtain ⟨x7, h8, hF⟩ := fb_open hF
  have K9 : ∀ z20, x7 = .inl z20 → fAt X 0 0 4 w [(0, .ref a0)] [] 57 := by
    intro z20 hz9
    subst hz9
    refine f_aload_n hC dX4_faultOfInput_57 rfl 0 rfl ?_
    obtain ⟨g21, hF⟩ := fg_open hF
    refine f_getI hC 4 8 408 rfl (by decide) iX4 q_321 rfl rfl (fSm.k (fSm.rf w) g21) dX4_faultOfInput_58 ?_
    obtain rfl := Option.some.inj hF
    exact f_iret hC hEn (fSm.rf w) dX4_faultOfInput_61
  refine f_sub (L' := [(0, .ref a0), (1, .int 0), (2, .int 0)]) [2, 1, 0] rfl ?_
  refine fLoop_ind (fun (s1 : Int32 × Int32) => fAt X 0 0 4 w [(0, .ref a0), (1, .int s1.1), (2, .int s1.2)] [] 4) (fun s1 y6 h2 go3 ou4 => ?_) h8
  refine f_iload_n hC dX4_faultOfInput_4 rfl 2 rfl ?_
  refine f_bipush (v := 60) hC dX4_faultOfInput_5 (by decide) ?_
  refine f_icmp_ge hC 57 dX4_faultOfInput_7 (by decide) (fun c10 => ?_) (fun c10 => ?_)
  · replace h2 := fi_pos h2 c10
    obtain rfl := Option.some.inj h2
    have eo := ou4 _ rfl
    refine f_sub (L' := [(0, .ref a0)]) [0] rfl ?_
    exact K9 _ eo.symm
  · replace h2 := fi_neg h2 c10
    refine f_aload_n hC dX4_faultOfInput_10 rfl 0 rfl ?_
    refine f_iload_n hC dX4_faultOfInput_11 rfl 1 rfl ?_
    obtain ⟨g13, h2⟩ := fg_open h2
    obtain ⟨r11, h12, h2⟩ := fb_open h2
    refine f_callV hC [.int s1.1] (c_X4_endOfOrder l D cy a0 s1.1 w r11 h12) q_1164 q_131 q_1161 q_1163 q_65 h9_X4_endOfOrder rfl (fSm.k (fSm.rf w) g13) ⟨Nat.le_of_ble_eq_true rfl, Nat.le_of_ble_eq_true rfl⟩ ⟨Nat.le_of_ble_eq_true rfl, Nat.le_of_ble_eq_true rfl⟩ (Nat.le_of_ble_eq_true rfl) rfl dX4_faultOfInput_12 (fun e14 => ?_)
    refine f_istore_n (L' := [(3, .int r11), (0, .ref a0), (1, .int s1.1), (2, .int s1.2)]) hC dX4_faultOfInput_15 rfl (by decide) rfl ?_
    refine f_iload_n hC dX4_faultOfInput_16 rfl 0 rfl ?_
    refine f_if_ge hC 24 dX4_faultOfInput_17 (by decide) (fun c15 => ?_) (fun c15 => ?_)
    · replace h2 := fi_pos h2 c15
      refine f_iload_n hC dX4_faultOfInput_24 rfl 0 rfl ?_
      refine f_aload_n hC dX4_faultOfInput_25 rfl 1 rfl ?_
      refine f_getI hC 4 8 408 rfl (by decide) iX4 q_321 rfl rfl (fSm.k (fSm.rf w) g13) dX4_faultOfInput_26 ?_
      refine f_icmp_lt hC 34 dX4_faultOfInput_29 (by decide) (fun c16 => ?_) (fun c16 => ?_)
      · replace h2 := fi_pos h2 c16
        refine f_aload_n hC dX4_faultOfInput_34 rfl 1 rfl ?_
        refine f_getR hC 4 7 407 rfl (by decide) iX4 q_320 rfl rfl (fSm.k (fSm.rf w) g13) dX4_faultOfInput_35 ?_
        refine f_iload_n hC dX4_faultOfInput_38 rfl 0 rfl ?_
        obtain ⟨g17, h2⟩ := fg_open h2
        obtain ⟨g18, h2⟩ := fg_open h2
        refine f_cald hC (fSm.k (fSm.rf w) g17) (fSm.v (fSm.rf w) g18) dX4_faultOfInput_39 ?_
        refine f_bipush (v := 59) hC dX4_faultOfInput_40 (by decide) ?_
        refine f_icmp_eq hC 47 dX4_faultOfInput_42 (by decide) (fun c19 => ?_) (fun c19 => ?_)
        · replace h2 := fi_pos h2 c19
          refine f_iload_n hC dX4_faultOfInput_47 rfl 0 rfl ?_
          refine f_iconst (v := 1) hC dX4_faultOfInput_48 (by decide) ?_
          refine f_iadd hC dX4_faultOfInput_49 ?_
          refine f_istore_n (L' := [(1, .int (r11 + 1)), (3, .int r11), (0, .ref a0), (2, .int s1.2)]) hC dX4_faultOfInput_50 rfl (by decide) rfl ?_
          refine f_iinc (L' := [(2, .int (s1.2 + 1)), (1, .int (r11 + 1)), (3, .int r11), (0, .ref a0)]) hC dX4_faultOfInput_51 3 rfl rfl (by decide) rfl ?_
          refine f_goto hC 4 dX4_faultOfInput_54 (by decide) ?_
          obtain rfl := Option.some.inj h2
          refine f_sub (L' := [(0, .ref a0), (1, .int (r11 + 1)), (2, .int (s1.2 + 1))]) [3, 1, 0] rfl ?_
          exact go3 _ rfl
        · replace h2 := fi_neg h2 c19
          refine f_iload_n hC dX4_faultOfInput_45 rfl 0 rfl ?_
          obtain rfl := Option.some.inj h2
          obtain rfl := ou4 _ rfl
          obtain rfl := Option.some.inj hF
          exact f_iret hC hEn (fSm.rf w) dX4_faultOfInput_46
      · replace h2 := fi_neg h2 c16
        refine f_iconst (v := (-1)) hC dX4_faultOfInput_32 (by decide) ?_
        obtain rfl := Option.some.inj h2
        obtain rfl := ou4 _ rfl
        obtain rfl := Option.some.inj hF
        exact f_iret hC hEn (fSm.rf w) dX4_faultOfInput_33
    · replace h2 := fi_neg h2 c15
      refine f_iload_n hC dX4_faultOfInput_20 rfl 0 rfl ?_
      refine f_iconst (v := (-1)) hC dX4_faultOfInput_21 (by decide) ?_
      refine f_ixor hC dX4_faultOfInput_22 ?_
      obtain rfl := Option.some.inj h2
      obtain rfl := ou4 _ rfl
      obtain rfl := Option.some.inj hF
      exact f_iret hC hEn (fSm.rf w) dX4_faultOfInput_23
theorem dX4_digitAt_0 : decode cX4_digitAt 0 = .ok (.iload_n 1, 1) := by decide +kernel
theorem dX4_digitAt_1 : decode cX4_digitAt 1 = .ok (.ifCond .lt 23, 3) := by decide +kernel
theorem dX4_digitAt_4 : decode cX4_digitAt 4 = .ok (.iload_n 1, 1) := by decide +kernel
theorem dX4_digitAt_5 : decode cX4_digitAt 5 = .ok (.aload_n 0, 1) := by decide +kernel
theorem dX4_digitAt_6 : decode cX4_digitAt 6 = .ok (.getfield 45, 3) := by decide +kernel
theorem dX4_digitAt_9 : decode cX4_digitAt 9 = .ok (.if_icmp .ge 15, 3) := by decide +kernel
theorem dX4_digitAt_12 : decode cX4_digitAt 12 = .ok (.aload_n 0, 1) := by decide +kernel
theorem dX4_digitAt_13 : decode cX4_digitAt 13 = .ok (.getfield 41, 3) := by decide +kernel
theorem dX4_digitAt_16 : decode cX4_digitAt 16 = .ok (.iload_n 1, 1) := by decide +kernel
theorem dX4_digitAt_17 : decode cX4_digitAt 17 = .ok (.caload, 1) := by decide +kernel
theorem dX4_digitAt_18 : decode cX4_digitAt 18 = .ok (.bipush 48, 2) := by decide +kernel
theorem dX4_digitAt_20 : decode cX4_digitAt 20 = .ok (.isub, 1) := by decide +kernel
theorem dX4_digitAt_21 : decode cX4_digitAt 21 = .ok (.goto 4, 3) := by decide +kernel
theorem dX4_digitAt_24 : decode cX4_digitAt 24 = .ok (.iconst (-1), 1) := by decide +kernel
theorem dX4_digitAt_25 : decode cX4_digitAt 25 = .ok (.ireturn, 1) := by decide +kernel
theorem h9_X4_digitAt : yX4_digitAt.cls ≠ "java/lang/invoke/MethodHandle" ∧ yX4_digitAt.cls ≠ "java/lang/invoke/VarHandle" ∧ (parseMethodDescriptor yX4_digitAt.desc).map (fun d => d.parameters.length) = some 1 := by decide +kernel
noncomputable def F_X4_digitAt (a0 : Nat) (x1 : Int32) (w : FW) : Option (Int32) :=
  (if x1 < 0 then some (-1) else fg (w.1 a0 = 5) inferInstance ((if (gI w 408 a0 0) ≤ x1 then some (-1) else fg (w.1 (gR w 407 a0 0) = 10) inferInstance (fg (¬ (x1 < 0 ∨ w.2.1 (gR w 407 a0 0) ≤ Int32.toNatClampNeg x1)) inferInstance (some ((gI w 600 (gR w 407 a0 0) (Int32.toNatClampNeg x1)) - 48))))))
set_option maxHeartbeats 4000000 in
set_option maxRecDepth 100000 in
theorem c_X4_digitAt (l : Launch) (D : va_G) (cy : Nat → ClassId) (a0 : Nat) (x1 : Int32) (w : FW) (r : Int32) (hF : F_X4_digitAt a0 x1 w = some r) : fSpec l D cy yX4_digitAt cX4_digitAt 2 (some .int) { frames := 0, cells := 0, slots := 0, locals := 0 } [.ref a0, .int x1] w w (some (.int r)) := by
  refine f_begin (by decide +kernel) (Nat.le_of_ble_eq_true rfl) (fun X hC hEn => ?_)
  unfold F_X4_digitAt at hF
  show fAt X 0 0 2 w [(0, .ref a0), (1, .int x1)] [] 0
  refine f_iload_n hC dX4_digitAt_0 rfl 1 rfl ?_
  refine f_if_lt hC 24 dX4_digitAt_1 (by decide) (fun c1 => ?_) (fun c1 => ?_)
  · replace hF := fi_pos hF c1
    refine f_iconst (v := (-1)) hC dX4_digitAt_24 (by decide) ?_
    obtain rfl := Option.some.inj hF
    exact f_iret hC hEn (fSm.rf w) dX4_digitAt_25
  · replace hF := fi_neg hF c1
    refine f_iload_n hC dX4_digitAt_4 rfl 1 rfl ?_
    refine f_aload_n hC dX4_digitAt_5 rfl 0 rfl ?_
    obtain ⟨g2, hF⟩ := fg_open hF
    refine f_getI hC 4 8 408 rfl (by decide) iX4 q_321 rfl rfl (fSm.k (fSm.rf w) g2) dX4_digitAt_6 ?_
    refine f_icmp_ge hC 24 dX4_digitAt_9 (by decide) (fun c3 => ?_) (fun c3 => ?_)
    · replace hF := fi_pos hF c3
      refine f_iconst (v := (-1)) hC dX4_digitAt_24 (by decide) ?_
      obtain rfl := Option.some.inj hF
      exact f_iret hC hEn (fSm.rf w) dX4_digitAt_25
    · replace hF := fi_neg hF c3
      refine f_aload_n hC dX4_digitAt_12 rfl 0 rfl ?_
      refine f_getR hC 4 7 407 rfl (by decide) iX4 q_320 rfl rfl (fSm.k (fSm.rf w) g2) dX4_digitAt_13 ?_
      refine f_iload_n hC dX4_digitAt_16 rfl 1 rfl ?_
      obtain ⟨g4, hF⟩ := fg_open hF
      obtain ⟨g5, hF⟩ := fg_open hF
      refine f_cald hC (fSm.k (fSm.rf w) g4) (fSm.v (fSm.rf w) g5) dX4_digitAt_17 ?_
      refine f_bipush (v := 48) hC dX4_digitAt_18 (by decide) ?_
      refine f_isub hC dX4_digitAt_20 ?_
      refine f_goto hC 25 dX4_digitAt_21 (by decide) ?_
      obtain rfl := Option.some.inj hF
      exact f_iret hC hEn (fSm.rf w) dX4_digitAt_25
theorem dX4_carryOutPrint_0 : decode cX4_carryOutPrint 0 = .ok (.aload_n 0, 1) := by decide +kernel
theorem dX4_carryOutPrint_1 : decode cX4_carryOutPrint 1 = .ok (.getfield 37, 3) := by decide +kernel
theorem dX4_carryOutPrint_4 : decode cX4_carryOutPrint 4 = .ok (.iconst 0, 1) := by decide +kernel
theorem dX4_carryOutPrint_5 : decode cX4_carryOutPrint 5 = .ok (.putfield 86, 3) := by decide +kernel
theorem dX4_carryOutPrint_8 : decode cX4_carryOutPrint 8 = .ok (.iload_n 1, 1) := by decide +kernel
theorem dX4_carryOutPrint_9 : decode cX4_carryOutPrint 9 = .ok (.iconst 1, 1) := by decide +kernel
theorem dX4_carryOutPrint_10 : decode cX4_carryOutPrint 10 = .ok (.iadd, 1) := by decide +kernel
theorem dX4_carryOutPrint_11 : decode cX4_carryOutPrint 11 = .ok (.istore_n 3, 1) := by decide +kernel
theorem dX4_carryOutPrint_12 : decode cX4_carryOutPrint 12 = .ok (.iload_n 3, 1) := by decide +kernel
theorem dX4_carryOutPrint_13 : decode cX4_carryOutPrint 13 = .ok (.iload_n 2, 1) := by decide +kernel
theorem dX4_carryOutPrint_14 : decode cX4_carryOutPrint 14 = .ok (.bipush 6, 2) := by decide +kernel
theorem dX4_carryOutPrint_16 : decode cX4_carryOutPrint 16 = .ok (.isub, 1) := by decide +kernel
theorem dX4_carryOutPrint_17 : decode cX4_carryOutPrint 17 = .ok (.if_icmp .ge 22, 3) := by decide +kernel
theorem dX4_carryOutPrint_20 : decode cX4_carryOutPrint 20 = .ok (.aload_n 0, 1) := by decide +kernel
theorem dX4_carryOutPrint_21 : decode cX4_carryOutPrint 21 = .ok (.getfield 37, 3) := by decide +kernel
theorem dX4_carryOutPrint_24 : decode cX4_carryOutPrint 24 = .ok (.aload_n 0, 1) := by decide +kernel
theorem dX4_carryOutPrint_25 : decode cX4_carryOutPrint 25 = .ok (.getfield 41, 3) := by decide +kernel
theorem dX4_carryOutPrint_28 : decode cX4_carryOutPrint 28 = .ok (.iload_n 3, 1) := by decide +kernel
theorem dX4_carryOutPrint_29 : decode cX4_carryOutPrint 29 = .ok (.caload, 1) := by decide +kernel
theorem dX4_carryOutPrint_30 : decode cX4_carryOutPrint 30 = .ok (.invokevirtual 397, 3) := by decide +kernel
theorem dX4_carryOutPrint_33 : decode cX4_carryOutPrint 33 = .ok (.iinc 3 1, 3) := by decide +kernel
theorem dX4_carryOutPrint_36 : decode cX4_carryOutPrint 36 = .ok (.goto (-24), 3) := by decide +kernel
theorem dX4_carryOutPrint_39 : decode cX4_carryOutPrint 39 = .ok (.aload_n 0, 1) := by decide +kernel
theorem dX4_carryOutPrint_40 : decode cX4_carryOutPrint 40 = .ok (.aload_n 0, 1) := by decide +kernel
theorem dX4_carryOutPrint_41 : decode cX4_carryOutPrint 41 = .ok (.getfield 37, 3) := by decide +kernel
theorem dX4_carryOutPrint_44 : decode cX4_carryOutPrint 44 = .ok (.aload_n 0, 1) := by decide +kernel
theorem dX4_carryOutPrint_45 : decode cX4_carryOutPrint 45 = .ok (.iload_n 2, 1) := by decide +kernel
theorem dX4_carryOutPrint_46 : decode cX4_carryOutPrint 46 = .ok (.iconst 5, 1) := by decide +kernel
theorem dX4_carryOutPrint_47 : decode cX4_carryOutPrint 47 = .ok (.isub, 1) := by decide +kernel
theorem dX4_carryOutPrint_48 : decode cX4_carryOutPrint 48 = .ok (.invokevirtual 486, 3) := by decide +kernel
theorem dX4_carryOutPrint_51 : decode cX4_carryOutPrint 51 = .ok (.aload_n 0, 1) := by decide +kernel
theorem dX4_carryOutPrint_52 : decode cX4_carryOutPrint 52 = .ok (.iload_n 2, 1) := by decide +kernel
theorem dX4_carryOutPrint_53 : decode cX4_carryOutPrint 53 = .ok (.iconst 3, 1) := by decide +kernel
theorem dX4_carryOutPrint_54 : decode cX4_carryOutPrint 54 = .ok (.isub, 1) := by decide +kernel
theorem dX4_carryOutPrint_55 : decode cX4_carryOutPrint 55 = .ok (.invokevirtual 486, 3) := by decide +kernel
theorem dX4_carryOutPrint_58 : decode cX4_carryOutPrint 58 = .ok (.aload_n 0, 1) := by decide +kernel
theorem dX4_carryOutPrint_59 : decode cX4_carryOutPrint 59 = .ok (.iload_n 2, 1) := by decide +kernel
theorem dX4_carryOutPrint_60 : decode cX4_carryOutPrint 60 = .ok (.iconst 1, 1) := by decide +kernel
theorem dX4_carryOutPrint_61 : decode cX4_carryOutPrint 61 = .ok (.isub, 1) := by decide +kernel
theorem dX4_carryOutPrint_62 : decode cX4_carryOutPrint 62 = .ok (.invokevirtual 486, 3) := by decide +kernel
theorem dX4_carryOutPrint_65 : decode cX4_carryOutPrint 65 = .ok (.invokevirtual 93, 3) := by decide +kernel
theorem dX4_carryOutPrint_68 : decode cX4_carryOutPrint 68 = .ok (.ireturn, 1) := by decide +kernel
theorem h9_X4_carryOutPrint : yX4_carryOutPrint.cls ≠ "java/lang/invoke/MethodHandle" ∧ yX4_carryOutPrint.cls ≠ "java/lang/invoke/VarHandle" ∧ (parseMethodDescriptor yX4_carryOutPrint.desc).map (fun d => d.parameters.length) = some 2 := by decide +kernel
noncomputable def F_X4_carryOutPrint (a0 : Nat) (x1 : Int32) (x2 : Int32) (w : FW) : Option (Int32 × FW) :=
  fg (w.1 a0 = 5) inferInstance (fg (w.1 (gR w 406 a0 0) = 4) inferInstance ((fLoop (σ := Int32 × FW) (ρ := FW) (fun s3 => (if (x2 - 6) ≤ s3.1 then some (.inr s3.2) else fg (w.1 (gR s3.2 407 a0 0) = 10) inferInstance (fg (¬ (s3.1 < 0 ∨ w.2.1 (gR s3.2 407 a0 0) ≤ Int32.toNatClampNeg s3.1)) inferInstance (fg (w.1 (gR s3.2 406 a0 0) = 4) inferInstance ((F_X3_add (gR s3.2 406 a0 0) (gI s3.2 600 (gR s3.2 407 a0 0) (Int32.toNatClampNeg s3.1)) s3.2).bind (fun r15 => some (.inl ((s3.1 + 1), r15)))))))) ((x1 + 1), (sI w 301 (gR w 406 a0 0) 0 0))).bind (fun x9 => (F_X4_digitAt a0 (x2 - 5) x9).bind (fun r19 => (F_X4_digitAt a0 (x2 - 3) x9).bind (fun r22 => (F_X4_digitAt a0 (x2 - 1) x9).bind (fun r25 => (F_X4_tryPrint a0 (gR x9 406 a0 0) r19 r22 r25 x9).bind (fun r28 => some (r28.1, r28.2))))))))
set_option maxHeartbeats 4000000 in
set_option maxRecDepth 100000 in
theorem c_X4_carryOutPrint (l : Launch) (D : va_G) (cy : Nat → ClassId) (a0 : Nat) (x1 : Int32) (x2 : Int32) (w : FW) (r : Int32 × FW) (hF : F_X4_carryOutPrint a0 x1 x2 w = some r) : fSpec l D cy yX4_carryOutPrint cX4_carryOutPrint 4 (some .int) { frames := 4, cells := 0, slots := 0, locals := 88 } [.ref a0, .int x1, .int x2] w r.2 (some (.int r.1)) := by
  refine f_begin (by decide +kernel) (Nat.le_of_ble_eq_true rfl) (fun X hC hEn => ?_)
  unfold F_X4_carryOutPrint at hF
  show fAt X 0 0 4 w [(0, .ref a0), (1, .int x1), (2, .int x2)] [] 0
  refine f_aload_n hC dX4_carryOutPrint_0 rfl 0 rfl ?_
  obtain ⟨g1, hF⟩ := fg_open hF
  refine f_getR hC 4 6 406 rfl (by decide) iX4 q_319 rfl rfl (fSm.k (fSm.rf w) g1) dX4_carryOutPrint_1 ?_
  refine f_iconst (v := 0) hC dX4_carryOutPrint_4 (by decide) ?_
  obtain ⟨g2, hF⟩ := fg_open hF
  refine f_putIN hC 3 1 301 rfl (by decide) iX3 tyX3 tyX3_ok nmX3 q_177 rfl rfl rfl rfl rfl (fSm.k (fSm.rf w) g2) dX4_carryOutPrint_5 ?_
  refine f_iload_n hC dX4_carryOutPrint_8 rfl 1 rfl ?_
  refine f_iconst (v := 1) hC dX4_carryOutPrint_9 (by decide) ?_
  refine f_iadd hC dX4_carryOutPrint_10 ?_
  refine f_istore_n (L' := [(3, .int (x1 + 1)), (0, .ref a0), (1, .int x1), (2, .int x2)]) hC dX4_carryOutPrint_11 rfl (by decide) rfl ?_
  obtain ⟨x9, h10, hF⟩ := fb_open hF
  have K11 : fSm x9 w → fAt X 0 0 4 x9 [(0, .ref a0), (2, .int x2)] [] 39 := by
    intro p7
    refine f_aload_n hC dX4_carryOutPrint_39 rfl 0 rfl ?_
    refine f_aload_n hC dX4_carryOutPrint_40 rfl 0 rfl ?_
    refine f_getR hC 4 6 406 rfl (by decide) iX4 q_319 rfl rfl (fSm.k p7 g1) dX4_carryOutPrint_41 ?_
    refine f_aload_n hC dX4_carryOutPrint_44 rfl 0 rfl ?_
    refine f_iload_n hC dX4_carryOutPrint_45 rfl 1 rfl ?_
    refine f_iconst (v := 5) hC dX4_carryOutPrint_46 (by decide) ?_
    refine f_isub hC dX4_carryOutPrint_47 ?_
    obtain ⟨r19, h20, hF⟩ := fb_open hF
    refine f_callV hC [.int (x2 - 5)] (c_X4_digitAt l D cy a0 (x2 - 5) x9 r19 h20) q_1210 q_131 q_1207 q_1209 q_70 h9_X4_digitAt rfl (fSm.k p7 g1) ⟨Nat.le_of_ble_eq_true rfl, Nat.le_of_ble_eq_true rfl⟩ ⟨Nat.le_of_ble_eq_true rfl, Nat.le_of_ble_eq_true rfl⟩ (Nat.le_of_ble_eq_true rfl) rfl dX4_carryOutPrint_48 (fun e21 => ?_)
    refine f_aload_n hC dX4_carryOutPrint_51 rfl 0 rfl ?_
    refine f_iload_n hC dX4_carryOutPrint_52 rfl 1 rfl ?_
    refine f_iconst (v := 3) hC dX4_carryOutPrint_53 (by decide) ?_
    refine f_isub hC dX4_carryOutPrint_54 ?_
    obtain ⟨r22, h23, hF⟩ := fb_open hF
    refine f_callV hC [.int (x2 - 3)] (c_X4_digitAt l D cy a0 (x2 - 3) x9 r22 h23) q_1210 q_131 q_1207 q_1209 q_70 h9_X4_digitAt rfl (fSm.k p7 g1) ⟨Nat.le_of_ble_eq_true rfl, Nat.le_of_ble_eq_true rfl⟩ ⟨Nat.le_of_ble_eq_true rfl, Nat.le_of_ble_eq_true rfl⟩ (Nat.le_of_ble_eq_true rfl) rfl dX4_carryOutPrint_55 (fun e24 => ?_)
    refine f_aload_n hC dX4_carryOutPrint_58 rfl 0 rfl ?_
    refine f_iload_n hC dX4_carryOutPrint_59 rfl 1 rfl ?_
    refine f_iconst (v := 1) hC dX4_carryOutPrint_60 (by decide) ?_
    refine f_isub hC dX4_carryOutPrint_61 ?_
    obtain ⟨r25, h26, hF⟩ := fb_open hF
    refine f_callV hC [.int (x2 - 1)] (c_X4_digitAt l D cy a0 (x2 - 1) x9 r25 h26) q_1210 q_131 q_1207 q_1209 q_70 h9_X4_digitAt rfl (fSm.k p7 g1) ⟨Nat.le_of_ble_eq_true rfl, Nat.le_of_ble_eq_true rfl⟩ ⟨Nat.le_of_ble_eq_true rfl, Nat.le_of_ble_eq_true rfl⟩ (Nat.le_of_ble_eq_true rfl) rfl dX4_carryOutPrint_62 (fun e27 => ?_)
    obtain ⟨r28, h29, hF⟩ := fb_open hF
    refine f_callV hC [.ref (gR x9 406 a0 0), .int r19, .int r22, .int r25] (c_X4_tryPrint l D cy a0 (gR x9 406 a0 0) r19 r22 r25 x9 r28 h29) q_687 q_131 q_684 q_686 q_26 h9_X4_tryPrint rfl (fSm.k p7 g1) ⟨Nat.le_of_ble_eq_true rfl, Nat.le_of_ble_eq_true rfl⟩ ⟨Nat.le_of_ble_eq_true rfl, Nat.le_of_ble_eq_true rfl⟩ (Nat.le_of_ble_eq_true rfl) rfl dX4_carryOutPrint_65 (fun e30 => ?_)
    obtain rfl := Option.some.inj hF
    exact f_iret hC hEn (fSm.tr e30 p7) dX4_carryOutPrint_68
  refine f_sub (L' := [(0, .ref a0), (2, .int x2), (3, .int (x1 + 1))]) [1, 3, 0] rfl ?_
  refine fLoop_ind (fun (s3 : Int32 × FW) => fSm s3.2 w → fAt X 0 0 4 s3.2 [(0, .ref a0), (2, .int x2), (3, .int s3.1)] [] 12) (fun s3 y8 h4 go5 ou6 => ?_) h10 (fSm.rf w)
  intro p7
  refine f_iload_n hC dX4_carryOutPrint_12 rfl 2 rfl ?_
  refine f_iload_n hC dX4_carryOutPrint_13 rfl 1 rfl ?_
  refine f_bipush (v := 6) hC dX4_carryOutPrint_14 (by decide) ?_
  refine f_isub hC dX4_carryOutPrint_16 ?_
  refine f_icmp_ge hC 39 dX4_carryOutPrint_17 (by decide) (fun c12 => ?_) (fun c12 => ?_)
  · replace h4 := fi_pos h4 c12
    obtain rfl := Option.some.inj h4
    obtain rfl := ou6 _ rfl
    refine f_sub (L' := [(0, .ref a0), (2, .int x2)]) [0, 1] rfl ?_
    exact K11 p7
  · replace h4 := fi_neg h4 c12
    refine f_aload_n hC dX4_carryOutPrint_20 rfl 0 rfl ?_
    refine f_getR hC 4 6 406 rfl (by decide) iX4 q_319 rfl rfl (fSm.k p7 g1) dX4_carryOutPrint_21 ?_
    refine f_aload_n hC dX4_carryOutPrint_24 rfl 0 rfl ?_
    refine f_getR hC 4 7 407 rfl (by decide) iX4 q_320 rfl rfl (fSm.k p7 g1) dX4_carryOutPrint_25 ?_
    refine f_iload_n hC dX4_carryOutPrint_28 rfl 2 rfl ?_
    obtain ⟨g13, h4⟩ := fg_open h4
    obtain ⟨g14, h4⟩ := fg_open h4
    refine f_cald hC (fSm.k p7 g13) (fSm.v p7 g14) dX4_carryOutPrint_29 ?_
    obtain ⟨g17, h4⟩ := fg_open h4
    obtain ⟨r15, h16, h4⟩ := fb_open h4
    refine f_callVN hC [.int (gI s3.2 600 (gR s3.2 407 a0 0) (Int32.toNatClampNeg s3.1))] (c_X3_add l D cy (gR s3.2 406 a0 0) (gI s3.2 600 (gR s3.2 407 a0 0) (Int32.toNatClampNeg s3.1)) s3.2 r15 h16) q_644 q_133 q_641 q_643 q_24 h9_X3_add rfl (fSm.k p7 g17) ⟨Nat.le_of_ble_eq_true rfl, Nat.le_of_ble_eq_true rfl⟩ ⟨Nat.le_of_ble_eq_true rfl, Nat.le_of_ble_eq_true rfl⟩ (Nat.le_of_ble_eq_true rfl) rfl dX4_carryOutPrint_30 (fun e18 => ?_)
    refine f_iinc (L' := [(3, .int (s3.1 + 1)), (0, .ref a0), (2, .int x2)]) hC dX4_carryOutPrint_33 2 rfl rfl (by decide) rfl ?_
    refine f_goto hC 12 dX4_carryOutPrint_36 (by decide) ?_
    obtain rfl := Option.some.inj h4
    refine f_sub (L' := [(0, .ref a0), (2, .int x2), (3, .int (s3.1 + 1))]) [1, 2, 0] rfl ?_
    exact go5 _ rfl (fSm.tr e18 p7)
theorem dX4_carryOut_0 : decode cX4_carryOut 0 = .ok (.aload_n 0, 1) := by decide +kernel
theorem dX4_carryOut_1 : decode cX4_carryOut 1 = .ok (.iload_n 1, 1) := by decide +kernel
theorem dX4_carryOut_2 : decode cX4_carryOut 2 = .ok (.iconst 1, 1) := by decide +kernel
theorem dX4_carryOut_3 : decode cX4_carryOut 3 = .ok (.iadd, 1) := by decide +kernel
theorem dX4_carryOut_4 : decode cX4_carryOut 4 = .ok (.invokevirtual 486, 3) := by decide +kernel
theorem dX4_carryOut_7 : decode cX4_carryOut 7 = .ok (.istore_n 3, 1) := by decide +kernel
theorem dX4_carryOut_8 : decode cX4_carryOut 8 = .ok (.iload_n 1, 1) := by decide +kernel
theorem dX4_carryOut_9 : decode cX4_carryOut 9 = .ok (.iconst 2, 1) := by decide +kernel
theorem dX4_carryOut_10 : decode cX4_carryOut 10 = .ok (.iadd, 1) := by decide +kernel
theorem dX4_carryOut_11 : decode cX4_carryOut 11 = .ok (.iload_n 2, 1) := by decide +kernel
theorem dX4_carryOut_12 : decode cX4_carryOut 12 = .ok (.if_icmp .ge 20, 3) := by decide +kernel
theorem dX4_carryOut_15 : decode cX4_carryOut 15 = .ok (.aload_n 0, 1) := by decide +kernel
theorem dX4_carryOut_16 : decode cX4_carryOut 16 = .ok (.getfield 41, 3) := by decide +kernel
theorem dX4_carryOut_19 : decode cX4_carryOut 19 = .ok (.iload_n 1, 1) := by decide +kernel
theorem dX4_carryOut_20 : decode cX4_carryOut 20 = .ok (.iconst 2, 1) := by decide +kernel
theorem dX4_carryOut_21 : decode cX4_carryOut 21 = .ok (.iadd, 1) := by decide +kernel
theorem dX4_carryOut_22 : decode cX4_carryOut 22 = .ok (.caload, 1) := by decide +kernel
theorem dX4_carryOut_23 : decode cX4_carryOut 23 = .ok (.bipush 114, 2) := by decide +kernel
theorem dX4_carryOut_25 : decode cX4_carryOut 25 = .ok (.if_icmp .ne 7, 3) := by decide +kernel
theorem dX4_carryOut_28 : decode cX4_carryOut 28 = .ok (.iconst 1, 1) := by decide +kernel
theorem dX4_carryOut_29 : decode cX4_carryOut 29 = .ok (.goto 4, 3) := by decide +kernel
theorem dX4_carryOut_32 : decode cX4_carryOut 32 = .ok (.iconst 0, 1) := by decide +kernel
theorem dX4_carryOut_33 : decode cX4_carryOut 33 = .ok (.istore 4, 2) := by decide +kernel
theorem dX4_carryOut_35 : decode cX4_carryOut 35 = .ok (.aload_n 0, 1) := by decide +kernel
theorem dX4_carryOut_36 : decode cX4_carryOut 36 = .ok (.iload_n 2, 1) := by decide +kernel
theorem dX4_carryOut_37 : decode cX4_carryOut 37 = .ok (.iconst 1, 1) := by decide +kernel
theorem dX4_carryOut_38 : decode cX4_carryOut 38 = .ok (.isub, 1) := by decide +kernel
theorem dX4_carryOut_39 : decode cX4_carryOut 39 = .ok (.invokevirtual 486, 3) := by decide +kernel
theorem dX4_carryOut_42 : decode cX4_carryOut 42 = .ok (.istore 5, 2) := by decide +kernel
theorem dX4_carryOut_44 : decode cX4_carryOut 44 = .ok (.aload_n 0, 1) := by decide +kernel
theorem dX4_carryOut_45 : decode cX4_carryOut 45 = .ok (.getfield 41, 3) := by decide +kernel
theorem dX4_carryOut_48 : decode cX4_carryOut 48 = .ok (.iload_n 1, 1) := by decide +kernel
theorem dX4_carryOut_49 : decode cX4_carryOut 49 = .ok (.caload, 1) := by decide +kernel
theorem dX4_carryOut_50 : decode cX4_carryOut 50 = .ok (.tableswitch 189 99 120 #[169, 189, 189, 144, 153, 189, 189, 189, 189, 135, 161, 102, 176, 109, 189, 189, 189, 129, 189, 189, 119, 183], 102) := by decide +kernel
theorem dX4_carryOut_152 : decode cX4_carryOut 152 = .ok (.aload_n 0, 1) := by decide +kernel
theorem dX4_carryOut_153 : decode cX4_carryOut 153 = .ok (.iload_n 1, 1) := by decide +kernel
theorem dX4_carryOut_154 : decode cX4_carryOut 154 = .ok (.iload_n 2, 1) := by decide +kernel
theorem dX4_carryOut_155 : decode cX4_carryOut 155 = .ok (.invokevirtual 489, 3) := by decide +kernel
theorem dX4_carryOut_158 : decode cX4_carryOut 158 = .ok (.ireturn, 1) := by decide +kernel
theorem dX4_carryOut_159 : decode cX4_carryOut 159 = .ok (.aload_n 0, 1) := by decide +kernel
theorem dX4_carryOut_160 : decode cX4_carryOut 160 = .ok (.iload_n 3, 1) := by decide +kernel
theorem dX4_carryOut_161 : decode cX4_carryOut 161 = .ok (.iload 4, 2) := by decide +kernel
theorem dX4_carryOut_163 : decode cX4_carryOut 163 = .ok (.iload 5, 2) := by decide +kernel
theorem dX4_carryOut_165 : decode cX4_carryOut 165 = .ok (.invokevirtual 162, 3) := by decide +kernel
theorem dX4_carryOut_168 : decode cX4_carryOut 168 = .ok (.ireturn, 1) := by decide +kernel
theorem dX4_carryOut_169 : decode cX4_carryOut 169 = .ok (.aload_n 0, 1) := by decide +kernel
theorem dX4_carryOut_170 : decode cX4_carryOut 170 = .ok (.iload_n 3, 1) := by decide +kernel
theorem dX4_carryOut_171 : decode cX4_carryOut 171 = .ok (.iload 4, 2) := by decide +kernel
theorem dX4_carryOut_173 : decode cX4_carryOut 173 = .ok (.iload 5, 2) := by decide +kernel
theorem dX4_carryOut_175 : decode cX4_carryOut 175 = .ok (.invokevirtual 176, 3) := by decide +kernel
theorem dX4_carryOut_178 : decode cX4_carryOut 178 = .ok (.ireturn, 1) := by decide +kernel
theorem dX4_carryOut_179 : decode cX4_carryOut 179 = .ok (.aload_n 0, 1) := by decide +kernel
theorem dX4_carryOut_180 : decode cX4_carryOut 180 = .ok (.iload_n 3, 1) := by decide +kernel
theorem dX4_carryOut_181 : decode cX4_carryOut 181 = .ok (.invokevirtual 182, 3) := by decide +kernel
theorem dX4_carryOut_184 : decode cX4_carryOut 184 = .ok (.ireturn, 1) := by decide +kernel
theorem dX4_carryOut_185 : decode cX4_carryOut 185 = .ok (.aload_n 0, 1) := by decide +kernel
theorem dX4_carryOut_186 : decode cX4_carryOut 186 = .ok (.iload_n 3, 1) := by decide +kernel
theorem dX4_carryOut_187 : decode cX4_carryOut 187 = .ok (.iload 4, 2) := by decide +kernel
theorem dX4_carryOut_189 : decode cX4_carryOut 189 = .ok (.iconst 1, 1) := by decide +kernel
theorem dX4_carryOut_190 : decode cX4_carryOut 190 = .ok (.invokevirtual 188, 3) := by decide +kernel
theorem dX4_carryOut_193 : decode cX4_carryOut 193 = .ok (.ireturn, 1) := by decide +kernel
theorem dX4_carryOut_194 : decode cX4_carryOut 194 = .ok (.aload_n 0, 1) := by decide +kernel
theorem dX4_carryOut_195 : decode cX4_carryOut 195 = .ok (.iload_n 3, 1) := by decide +kernel
theorem dX4_carryOut_196 : decode cX4_carryOut 196 = .ok (.iload 4, 2) := by decide +kernel
theorem dX4_carryOut_198 : decode cX4_carryOut 198 = .ok (.iconst 0, 1) := by decide +kernel
theorem dX4_carryOut_199 : decode cX4_carryOut 199 = .ok (.invokevirtual 188, 3) := by decide +kernel
theorem dX4_carryOut_202 : decode cX4_carryOut 202 = .ok (.ireturn, 1) := by decide +kernel
theorem dX4_carryOut_203 : decode cX4_carryOut 203 = .ok (.aload_n 0, 1) := by decide +kernel
theorem dX4_carryOut_204 : decode cX4_carryOut 204 = .ok (.iload_n 3, 1) := by decide +kernel
theorem dX4_carryOut_205 : decode cX4_carryOut 205 = .ok (.iload 4, 2) := by decide +kernel
theorem dX4_carryOut_207 : decode cX4_carryOut 207 = .ok (.invokevirtual 243, 3) := by decide +kernel
theorem dX4_carryOut_210 : decode cX4_carryOut 210 = .ok (.ireturn, 1) := by decide +kernel
theorem dX4_carryOut_211 : decode cX4_carryOut 211 = .ok (.aload_n 0, 1) := by decide +kernel
theorem dX4_carryOut_212 : decode cX4_carryOut 212 = .ok (.iload_n 3, 1) := by decide +kernel
theorem dX4_carryOut_213 : decode cX4_carryOut 213 = .ok (.iload 5, 2) := by decide +kernel
theorem dX4_carryOut_215 : decode cX4_carryOut 215 = .ok (.invokevirtual 104, 3) := by decide +kernel
theorem dX4_carryOut_218 : decode cX4_carryOut 218 = .ok (.ireturn, 1) := by decide +kernel
theorem dX4_carryOut_219 : decode cX4_carryOut 219 = .ok (.aload_n 0, 1) := by decide +kernel
theorem dX4_carryOut_220 : decode cX4_carryOut 220 = .ok (.iload_n 3, 1) := by decide +kernel
theorem dX4_carryOut_221 : decode cX4_carryOut 221 = .ok (.iconst 0, 1) := by decide +kernel
theorem dX4_carryOut_222 : decode cX4_carryOut 222 = .ok (.invokevirtual 108, 3) := by decide +kernel
theorem dX4_carryOut_225 : decode cX4_carryOut 225 = .ok (.ireturn, 1) := by decide +kernel
theorem dX4_carryOut_226 : decode cX4_carryOut 226 = .ok (.aload_n 0, 1) := by decide +kernel
theorem dX4_carryOut_227 : decode cX4_carryOut 227 = .ok (.iload_n 3, 1) := by decide +kernel
theorem dX4_carryOut_228 : decode cX4_carryOut 228 = .ok (.iconst 1, 1) := by decide +kernel
theorem dX4_carryOut_229 : decode cX4_carryOut 229 = .ok (.invokevirtual 108, 3) := by decide +kernel
theorem dX4_carryOut_232 : decode cX4_carryOut 232 = .ok (.ireturn, 1) := by decide +kernel
theorem dX4_carryOut_233 : decode cX4_carryOut 233 = .ok (.aload_n 0, 1) := by decide +kernel
theorem dX4_carryOut_234 : decode cX4_carryOut 234 = .ok (.iload_n 3, 1) := by decide +kernel
theorem dX4_carryOut_235 : decode cX4_carryOut 235 = .ok (.invokevirtual 97, 3) := by decide +kernel
theorem dX4_carryOut_238 : decode cX4_carryOut 238 = .ok (.ireturn, 1) := by decide +kernel
theorem dX4_carryOut_239 : decode cX4_carryOut 239 = .ok (.aload_n 0, 1) := by decide +kernel
theorem dX4_carryOut_240 : decode cX4_carryOut 240 = .ok (.invokevirtual 256, 3) := by decide +kernel
theorem dX4_carryOut_243 : decode cX4_carryOut 243 = .ok (.ireturn, 1) := by decide +kernel
theorem h9_X4_carryOut : yX4_carryOut.cls ≠ "java/lang/invoke/MethodHandle" ∧ yX4_carryOut.cls ≠ "java/lang/invoke/VarHandle" ∧ (parseMethodDescriptor yX4_carryOut.desc).map (fun d => d.parameters.length) = some 2 := by decide +kernel
noncomputable def F_X4_carryOut (a0 : Nat) (x1 : Int32) (x2 : Int32) (w : FW) : Option (Int32 × FW) :=
  fg (w.1 a0 = 5) inferInstance ((F_X4_digitAt a0 (x1 + 1) w).bind (fun r1 => ((if x2 ≤ (x1 + 2) then some 0 else fg (w.1 (gR w 407 a0 0) = 10) inferInstance (fg (¬ ((x1 + 2) < 0 ∨ w.2.1 (gR w 407 a0 0) ≤ Int32.toNatClampNeg (x1 + 2))) inferInstance ((if (gI w 600 (gR w 407 a0 0) (Int32.toNatClampNeg (x1 + 2))) = 114 then some 1 else some 0)))) : Option (Int32)).bind (fun x5 => (F_X4_digitAt a0 (x2 - 1) w).bind (fun r9 => fg (w.1 (gR w 407 a0 0) = 10) inferInstance (fg (¬ (x1 < 0 ∨ w.2.1 (gR w 407 a0 0) ≤ Int32.toNatClampNeg x1)) inferInstance ((if (gI w 600 (gR w 407 a0 0) (Int32.toNatClampNeg x1)) = 99 then (F_X4_tryPier a0 r1 0 w).bind (fun r15 => some (r15.1, r15.2)) else (if (gI w 600 (gR w 407 a0 0) (Int32.toNatClampNeg x1)) = 100 then (F_X4_letDayGoBy a0 w).bind (fun r19 => some (r19.1, r19.2)) else (if (gI w 600 (gR w 407 a0 0) (Int32.toNatClampNeg x1)) = 101 then (F_X4_letDayGoBy a0 w).bind (fun r23 => some (r23.1, r23.2)) else (if (gI w 600 (gR w 407 a0 0) (Int32.toNatClampNeg x1)) = 102 then (F_X4_tryLost a0 r1 x5 0 w).bind (fun r27 => some (r27.1, r27.2)) else (if (gI w 600 (gR w 407 a0 0) (Int32.toNatClampNeg x1)) = 103 then (F_X4_tryRide a0 r1 x5 w).bind (fun r31 => some (r31.1, r31.2)) else (if (gI w 600 (gR w 407 a0 0) (Int32.toNatClampNeg x1)) = 104 then (F_X4_letDayGoBy a0 w).bind (fun r35 => some (r35.1, r35.2)) else (if (gI w 600 (gR w 407 a0 0) (Int32.toNatClampNeg x1)) = 105 then (F_X4_letDayGoBy a0 w).bind (fun r39 => some (r39.1, r39.2)) else (if (gI w 600 (gR w 407 a0 0) (Int32.toNatClampNeg x1)) = 106 then (F_X4_letDayGoBy a0 w).bind (fun r43 => some (r43.1, r43.2)) else (if (gI w 600 (gR w 407 a0 0) (Int32.toNatClampNeg x1)) = 107 then (F_X4_letDayGoBy a0 w).bind (fun r47 => some (r47.1, r47.2)) else (if (gI w 600 (gR w 407 a0 0) (Int32.toNatClampNeg x1)) = 108 then (F_X4_tryLost a0 r1 x5 1 w).bind (fun r51 => some (r51.1, r51.2)) else (if (gI w 600 (gR w 407 a0 0) (Int32.toNatClampNeg x1)) = 109 then (F_X4_tryMood a0 r1 r9 w).bind (fun r55 => some (r55.1, r55.2)) else (if (gI w 600 (gR w 407 a0 0) (Int32.toNatClampNeg x1)) = 110 then (F_X4_carryOutPrint a0 x1 x2 w).bind (fun r59 => some (r59.1, r59.2)) else (if (gI w 600 (gR w 407 a0 0) (Int32.toNatClampNeg x1)) = 111 then (F_X4_tryPier a0 r1 1 w).bind (fun r63 => some (r63.1, r63.2)) else (if (gI w 600 (gR w 407 a0 0) (Int32.toNatClampNeg x1)) = 112 then (F_X4_tryPunch a0 r1 x5 r9 w).bind (fun r67 => some (r67.1, r67.2)) else (if (gI w 600 (gR w 407 a0 0) (Int32.toNatClampNeg x1)) = 113 then (F_X4_letDayGoBy a0 w).bind (fun r71 => some (r71.1, r71.2)) else (if (gI w 600 (gR w 407 a0 0) (Int32.toNatClampNeg x1)) = 114 then (F_X4_letDayGoBy a0 w).bind (fun r75 => some (r75.1, r75.2)) else (if (gI w 600 (gR w 407 a0 0) (Int32.toNatClampNeg x1)) = 115 then (F_X4_letDayGoBy a0 w).bind (fun r79 => some (r79.1, r79.2)) else (if (gI w 600 (gR w 407 a0 0) (Int32.toNatClampNeg x1)) = 116 then (F_X4_tryTear a0 r1 w).bind (fun r83 => some (r83.1, r83.2)) else (if (gI w 600 (gR w 407 a0 0) (Int32.toNatClampNeg x1)) = 117 then (F_X4_letDayGoBy a0 w).bind (fun r87 => some (r87.1, r87.2)) else (if (gI w 600 (gR w 407 a0 0) (Int32.toNatClampNeg x1)) = 118 then (F_X4_letDayGoBy a0 w).bind (fun r91 => some (r91.1, r91.2)) else (if (gI w 600 (gR w 407 a0 0) (Int32.toNatClampNeg x1)) = 119 then (F_X4_tryWet a0 r1 x5 r9 w).bind (fun r95 => some (r95.1, r95.2)) else (if (gI w 600 (gR w 407 a0 0) (Int32.toNatClampNeg x1)) = 120 then (F_X4_tryThrowAway a0 r1 w).bind (fun r99 => some (r99.1, r99.2)) else (F_X4_letDayGoBy a0 w).bind (fun r102 => some (r102.1, r102.2))))))))))))))))))))))))))))))
set_option maxHeartbeats 4000000 in
set_option maxRecDepth 100000 in
theorem c_X4_carryOut (l : Launch) (D : va_G) (cy : Nat → ClassId) (a0 : Nat) (x1 : Int32) (x2 : Int32) (w : FW) (r : Int32 × FW) (hF : F_X4_carryOut a0 x1 x2 w = some r) : fSpec l D cy yX4_carryOut cX4_carryOut 6 (some .int) { frames := 8, cells := 0, slots := 0, locals := 182 } [.ref a0, .int x1, .int x2] w r.2 (some (.int r.1)) := by
  refine f_begin (by decide +kernel) (Nat.le_of_ble_eq_true rfl) (fun X hC hEn => ?_)
  unfold F_X4_carryOut at hF
  show fAt X 0 0 6 w [(0, .ref a0), (1, .int x1), (2, .int x2)] [] 0
  refine f_aload_n hC dX4_carryOut_0 rfl 0 rfl ?_
  refine f_iload_n hC dX4_carryOut_1 rfl 1 rfl ?_
  refine f_iconst (v := 1) hC dX4_carryOut_2 (by decide) ?_
  refine f_iadd hC dX4_carryOut_3 ?_
  obtain ⟨g3, hF⟩ := fg_open hF
  obtain ⟨r1, h2, hF⟩ := fb_open hF
  refine f_callV hC [.int (x1 + 1)] (c_X4_digitAt l D cy a0 (x1 + 1) w r1 h2) q_1210 q_131 q_1207 q_1209 q_70 h9_X4_digitAt rfl (fSm.k (fSm.rf w) g3) ⟨Nat.le_of_ble_eq_true rfl, Nat.le_of_ble_eq_true rfl⟩ ⟨Nat.le_of_ble_eq_true rfl, Nat.le_of_ble_eq_true rfl⟩ (Nat.le_of_ble_eq_true rfl) rfl dX4_carryOut_4 (fun e4 => ?_)
  refine f_istore_n (L' := [(3, .int r1), (0, .ref a0), (1, .int x1), (2, .int x2)]) hC dX4_carryOut_7 rfl (by decide) rfl ?_
  refine f_iload_n hC dX4_carryOut_8 rfl 2 rfl ?_
  refine f_iconst (v := 2) hC dX4_carryOut_9 (by decide) ?_
  refine f_iadd hC dX4_carryOut_10 ?_
  refine f_iload_n hC dX4_carryOut_11 rfl 3 rfl ?_
  obtain ⟨x5, h6, hF⟩ := fb_open hF
  have K8 : fAt X 0 0 6 w [(0, .ref a0), (1, .int x1), (2, .int x2), (3, .int r1)] [.int x5] 33 := by
    refine f_istore (L' := [(4, .int x5), (0, .ref a0), (1, .int x1), (2, .int x2), (3, .int r1)]) hC dX4_carryOut_33 (by decide) rfl ?_
    refine f_aload_n hC dX4_carryOut_35 rfl 1 rfl ?_
    refine f_iload_n hC dX4_carryOut_36 rfl 3 rfl ?_
    refine f_iconst (v := 1) hC dX4_carryOut_37 (by decide) ?_
    refine f_isub hC dX4_carryOut_38 ?_
    obtain ⟨r9, h10, hF⟩ := fb_open hF
    refine f_callV hC [.int (x2 - 1)] (c_X4_digitAt l D cy a0 (x2 - 1) w r9 h10) q_1210 q_131 q_1207 q_1209 q_70 h9_X4_digitAt rfl (fSm.k (fSm.rf w) g3) ⟨Nat.le_of_ble_eq_true rfl, Nat.le_of_ble_eq_true rfl⟩ ⟨Nat.le_of_ble_eq_true rfl, Nat.le_of_ble_eq_true rfl⟩ (Nat.le_of_ble_eq_true rfl) rfl dX4_carryOut_39 (fun e11 => ?_)
    refine f_istore (L' := [(5, .int r9), (4, .int x5), (0, .ref a0), (1, .int x1), (2, .int x2), (3, .int r1)]) hC dX4_carryOut_42 (by decide) rfl ?_
    refine f_aload_n hC dX4_carryOut_44 rfl 2 rfl ?_
    refine f_getR hC 4 7 407 rfl (by decide) iX4 q_320 rfl rfl (fSm.k (fSm.rf w) g3) dX4_carryOut_45 ?_
    refine f_iload_n hC dX4_carryOut_48 rfl 3 rfl ?_
    obtain ⟨g12, hF⟩ := fg_open hF
    obtain ⟨g13, hF⟩ := fg_open hF
    refine f_cald hC (fSm.k (fSm.rf w) g12) (fSm.v (fSm.rf w) g13) dX4_carryOut_49 ?_
    by_cases c14 : (gI w 600 (gR w 407 a0 0) (Int32.toNatClampNeg x1)) = 99
    · replace hF := fi_pos hF c14
      refine f_tabIn hC 219 dX4_carryOut_50 (by rw [c14] <;> decide) (by rw [c14] <;> decide) (by rw [c14] <;> rfl) (by decide) ?_
      refine f_aload_n hC dX4_carryOut_219 rfl 2 rfl ?_
      refine f_iload_n hC dX4_carryOut_220 rfl 5 rfl ?_
      refine f_iconst (v := 0) hC dX4_carryOut_221 (by decide) ?_
      obtain ⟨r15, h16, hF⟩ := fb_open hF
      refine f_callV hC [.int r1, .int 0] (c_X4_tryPier l D cy a0 r1 0 w r15 h16) q_752 q_131 q_749 q_751 q_35 h9_X4_tryPier rfl (fSm.k (fSm.rf w) g3) ⟨Nat.le_of_ble_eq_true rfl, Nat.le_of_ble_eq_true rfl⟩ ⟨Nat.le_of_ble_eq_true rfl, Nat.le_of_ble_eq_true rfl⟩ (Nat.le_of_ble_eq_true rfl) rfl dX4_carryOut_222 (fun e17 => ?_)
      obtain rfl := Option.some.inj hF
      exact f_iret hC hEn (fSm.tr e17 (fSm.rf w)) dX4_carryOut_225
    · replace hF := fi_neg hF c14
      by_cases c18 : (gI w 600 (gR w 407 a0 0) (Int32.toNatClampNeg x1)) = 100
      · replace hF := fi_pos hF c18
        refine f_tabIn hC 239 dX4_carryOut_50 (by rw [c18] <;> decide) (by rw [c18] <;> decide) (by rw [c18] <;> rfl) (by decide) ?_
        refine f_aload_n hC dX4_carryOut_239 rfl 2 rfl ?_
        obtain ⟨r19, h20, hF⟩ := fb_open hF
        refine f_callV hC [] (c_X4_letDayGoBy l D cy a0 w r19 h20) q_395 q_131 q_392 q_394 q_6 h9_X4_letDayGoBy rfl (fSm.k (fSm.rf w) g3) ⟨Nat.le_of_ble_eq_true rfl, Nat.le_of_ble_eq_true rfl⟩ ⟨Nat.le_of_ble_eq_true rfl, Nat.le_of_ble_eq_true rfl⟩ (Nat.le_of_ble_eq_true rfl) rfl dX4_carryOut_240 (fun e21 => ?_)
        obtain rfl := Option.some.inj hF
        exact f_iret hC hEn (fSm.tr e21 (fSm.rf w)) dX4_carryOut_243
      · replace hF := fi_neg hF c18
        by_cases c22 : (gI w 600 (gR w 407 a0 0) (Int32.toNatClampNeg x1)) = 101
        · replace hF := fi_pos hF c22
          refine f_tabIn hC 239 dX4_carryOut_50 (by rw [c22] <;> decide) (by rw [c22] <;> decide) (by rw [c22] <;> rfl) (by decide) ?_
          refine f_aload_n hC dX4_carryOut_239 rfl 2 rfl ?_
          obtain ⟨r23, h24, hF⟩ := fb_open hF
          refine f_callV hC [] (c_X4_letDayGoBy l D cy a0 w r23 h24) q_395 q_131 q_392 q_394 q_6 h9_X4_letDayGoBy rfl (fSm.k (fSm.rf w) g3) ⟨Nat.le_of_ble_eq_true rfl, Nat.le_of_ble_eq_true rfl⟩ ⟨Nat.le_of_ble_eq_true rfl, Nat.le_of_ble_eq_true rfl⟩ (Nat.le_of_ble_eq_true rfl) rfl dX4_carryOut_240 (fun e25 => ?_)
          obtain rfl := Option.some.inj hF
          exact f_iret hC hEn (fSm.tr e25 (fSm.rf w)) dX4_carryOut_243
        · replace hF := fi_neg hF c22
          by_cases c26 : (gI w 600 (gR w 407 a0 0) (Int32.toNatClampNeg x1)) = 102
          · replace hF := fi_pos hF c26
            refine f_tabIn hC 194 dX4_carryOut_50 (by rw [c26] <;> decide) (by rw [c26] <;> decide) (by rw [c26] <;> rfl) (by decide) ?_
            refine f_aload_n hC dX4_carryOut_194 rfl 2 rfl ?_
            refine f_iload_n hC dX4_carryOut_195 rfl 5 rfl ?_
            refine f_iload hC dX4_carryOut_196 1 rfl ?_
            refine f_iconst (v := 0) hC dX4_carryOut_198 (by decide) ?_
            obtain ⟨r27, h28, hF⟩ := fb_open hF
            refine f_callV hC [.int r1, .int x5, .int 0] (c_X4_tryLost l D cy a0 r1 x5 0 w r27 h28) q_863 q_131 q_860 q_862 q_46 h9_X4_tryLost rfl (fSm.k (fSm.rf w) g3) ⟨Nat.le_of_ble_eq_true rfl, Nat.le_of_ble_eq_true rfl⟩ ⟨Nat.le_of_ble_eq_true rfl, Nat.le_of_ble_eq_true rfl⟩ (Nat.le_of_ble_eq_true rfl) rfl dX4_carryOut_199 (fun e29 => ?_)
            obtain rfl := Option.some.inj hF
            exact f_iret hC hEn (fSm.tr e29 (fSm.rf w)) dX4_carryOut_202
          · replace hF := fi_neg hF c26
            by_cases c30 : (gI w 600 (gR w 407 a0 0) (Int32.toNatClampNeg x1)) = 103
            · replace hF := fi_pos hF c30
              refine f_tabIn hC 203 dX4_carryOut_50 (by rw [c30] <;> decide) (by rw [c30] <;> decide) (by rw [c30] <;> rfl) (by decide) ?_
              refine f_aload_n hC dX4_carryOut_203 rfl 2 rfl ?_
              refine f_iload_n hC dX4_carryOut_204 rfl 5 rfl ?_
              refine f_iload hC dX4_carryOut_205 1 rfl ?_
              obtain ⟨r31, h32, hF⟩ := fb_open hF
              refine f_callV hC [.int r1, .int x5] (c_X4_tryRide l D cy a0 r1 x5 w r31 h32) q_948 q_131 q_945 q_947 q_50 h9_X4_tryRide rfl (fSm.k (fSm.rf w) g3) ⟨Nat.le_of_ble_eq_true rfl, Nat.le_of_ble_eq_true rfl⟩ ⟨Nat.le_of_ble_eq_true rfl, Nat.le_of_ble_eq_true rfl⟩ (Nat.le_of_ble_eq_true rfl) rfl dX4_carryOut_207 (fun e33 => ?_)
              obtain rfl := Option.some.inj hF
              exact f_iret hC hEn (fSm.tr e33 (fSm.rf w)) dX4_carryOut_210
            · replace hF := fi_neg hF c30
              by_cases c34 : (gI w 600 (gR w 407 a0 0) (Int32.toNatClampNeg x1)) = 104
              · replace hF := fi_pos hF c34
                refine f_tabIn hC 239 dX4_carryOut_50 (by rw [c34] <;> decide) (by rw [c34] <;> decide) (by rw [c34] <;> rfl) (by decide) ?_
                refine f_aload_n hC dX4_carryOut_239 rfl 2 rfl ?_
                obtain ⟨r35, h36, hF⟩ := fb_open hF
                refine f_callV hC [] (c_X4_letDayGoBy l D cy a0 w r35 h36) q_395 q_131 q_392 q_394 q_6 h9_X4_letDayGoBy rfl (fSm.k (fSm.rf w) g3) ⟨Nat.le_of_ble_eq_true rfl, Nat.le_of_ble_eq_true rfl⟩ ⟨Nat.le_of_ble_eq_true rfl, Nat.le_of_ble_eq_true rfl⟩ (Nat.le_of_ble_eq_true rfl) rfl dX4_carryOut_240 (fun e37 => ?_)
                obtain rfl := Option.some.inj hF
                exact f_iret hC hEn (fSm.tr e37 (fSm.rf w)) dX4_carryOut_243
              · replace hF := fi_neg hF c34
                by_cases c38 : (gI w 600 (gR w 407 a0 0) (Int32.toNatClampNeg x1)) = 105
                · replace hF := fi_pos hF c38
                  refine f_tabIn hC 239 dX4_carryOut_50 (by rw [c38] <;> decide) (by rw [c38] <;> decide) (by rw [c38] <;> rfl) (by decide) ?_
                  refine f_aload_n hC dX4_carryOut_239 rfl 2 rfl ?_
                  obtain ⟨r39, h40, hF⟩ := fb_open hF
                  refine f_callV hC [] (c_X4_letDayGoBy l D cy a0 w r39 h40) q_395 q_131 q_392 q_394 q_6 h9_X4_letDayGoBy rfl (fSm.k (fSm.rf w) g3) ⟨Nat.le_of_ble_eq_true rfl, Nat.le_of_ble_eq_true rfl⟩ ⟨Nat.le_of_ble_eq_true rfl, Nat.le_of_ble_eq_true rfl⟩ (Nat.le_of_ble_eq_true rfl) rfl dX4_carryOut_240 (fun e41 => ?_)
                  obtain rfl := Option.some.inj hF
                  exact f_iret hC hEn (fSm.tr e41 (fSm.rf w)) dX4_carryOut_243
                · replace hF := fi_neg hF c38
                  by_cases c42 : (gI w 600 (gR w 407 a0 0) (Int32.toNatClampNeg x1)) = 106
                  · replace hF := fi_pos hF c42
                    refine f_tabIn hC 239 dX4_carryOut_50 (by rw [c42] <;> decide) (by rw [c42] <;> decide) (by rw [c42] <;> rfl) (by decide) ?_
                    refine f_aload_n hC dX4_carryOut_239 rfl 2 rfl ?_
                    obtain ⟨r43, h44, hF⟩ := fb_open hF
                    refine f_callV hC [] (c_X4_letDayGoBy l D cy a0 w r43 h44) q_395 q_131 q_392 q_394 q_6 h9_X4_letDayGoBy rfl (fSm.k (fSm.rf w) g3) ⟨Nat.le_of_ble_eq_true rfl, Nat.le_of_ble_eq_true rfl⟩ ⟨Nat.le_of_ble_eq_true rfl, Nat.le_of_ble_eq_true rfl⟩ (Nat.le_of_ble_eq_true rfl) rfl dX4_carryOut_240 (fun e45 => ?_)
                    obtain rfl := Option.some.inj hF
                    exact f_iret hC hEn (fSm.tr e45 (fSm.rf w)) dX4_carryOut_243
                  · replace hF := fi_neg hF c42
                    by_cases c46 : (gI w 600 (gR w 407 a0 0) (Int32.toNatClampNeg x1)) = 107
                    · replace hF := fi_pos hF c46
                      refine f_tabIn hC 239 dX4_carryOut_50 (by rw [c46] <;> decide) (by rw [c46] <;> decide) (by rw [c46] <;> rfl) (by decide) ?_
                      refine f_aload_n hC dX4_carryOut_239 rfl 2 rfl ?_
                      obtain ⟨r47, h48, hF⟩ := fb_open hF
                      refine f_callV hC [] (c_X4_letDayGoBy l D cy a0 w r47 h48) q_395 q_131 q_392 q_394 q_6 h9_X4_letDayGoBy rfl (fSm.k (fSm.rf w) g3) ⟨Nat.le_of_ble_eq_true rfl, Nat.le_of_ble_eq_true rfl⟩ ⟨Nat.le_of_ble_eq_true rfl, Nat.le_of_ble_eq_true rfl⟩ (Nat.le_of_ble_eq_true rfl) rfl dX4_carryOut_240 (fun e49 => ?_)
                      obtain rfl := Option.some.inj hF
                      exact f_iret hC hEn (fSm.tr e49 (fSm.rf w)) dX4_carryOut_243
                    · replace hF := fi_neg hF c46
                      by_cases c50 : (gI w 600 (gR w 407 a0 0) (Int32.toNatClampNeg x1)) = 108
                      · replace hF := fi_pos hF c50
                        refine f_tabIn hC 185 dX4_carryOut_50 (by rw [c50] <;> decide) (by rw [c50] <;> decide) (by rw [c50] <;> rfl) (by decide) ?_
                        refine f_aload_n hC dX4_carryOut_185 rfl 2 rfl ?_
                        refine f_iload_n hC dX4_carryOut_186 rfl 5 rfl ?_
                        refine f_iload hC dX4_carryOut_187 1 rfl ?_
                        refine f_iconst (v := 1) hC dX4_carryOut_189 (by decide) ?_
                        obtain ⟨r51, h52, hF⟩ := fb_open hF
                        refine f_callV hC [.int r1, .int x5, .int 1] (c_X4_tryLost l D cy a0 r1 x5 1 w r51 h52) q_863 q_131 q_860 q_862 q_46 h9_X4_tryLost rfl (fSm.k (fSm.rf w) g3) ⟨Nat.le_of_ble_eq_true rfl, Nat.le_of_ble_eq_true rfl⟩ ⟨Nat.le_of_ble_eq_true rfl, Nat.le_of_ble_eq_true rfl⟩ (Nat.le_of_ble_eq_true rfl) rfl dX4_carryOut_190 (fun e53 => ?_)
                        obtain rfl := Option.some.inj hF
                        exact f_iret hC hEn (fSm.tr e53 (fSm.rf w)) dX4_carryOut_193
                      · replace hF := fi_neg hF c50
                        by_cases c54 : (gI w 600 (gR w 407 a0 0) (Int32.toNatClampNeg x1)) = 109
                        · replace hF := fi_pos hF c54
                          refine f_tabIn hC 211 dX4_carryOut_50 (by rw [c54] <;> decide) (by rw [c54] <;> decide) (by rw [c54] <;> rfl) (by decide) ?_
                          refine f_aload_n hC dX4_carryOut_211 rfl 2 rfl ?_
                          refine f_iload_n hC dX4_carryOut_212 rfl 5 rfl ?_
                          refine f_iload hC dX4_carryOut_213 0 rfl ?_
                          obtain ⟨r55, h56, hF⟩ := fb_open hF
                          refine f_callV hC [.int r1, .int r9] (c_X4_tryMood l D cy a0 r1 r9 w r55 h56) q_740 q_131 q_737 q_739 q_34 h9_X4_tryMood rfl (fSm.k (fSm.rf w) g3) ⟨Nat.le_of_ble_eq_true rfl, Nat.le_of_ble_eq_true rfl⟩ ⟨Nat.le_of_ble_eq_true rfl, Nat.le_of_ble_eq_true rfl⟩ (Nat.le_of_ble_eq_true rfl) rfl dX4_carryOut_215 (fun e57 => ?_)
                          obtain rfl := Option.some.inj hF
                          exact f_iret hC hEn (fSm.tr e57 (fSm.rf w)) dX4_carryOut_218
                        · replace hF := fi_neg hF c54
                          by_cases c58 : (gI w 600 (gR w 407 a0 0) (Int32.toNatClampNeg x1)) = 110
                          · replace hF := fi_pos hF c58
                            refine f_tabIn hC 152 dX4_carryOut_50 (by rw [c58] <;> decide) (by rw [c58] <;> decide) (by rw [c58] <;> rfl) (by decide) ?_
                            refine f_aload_n hC dX4_carryOut_152 rfl 2 rfl ?_
                            refine f_iload_n hC dX4_carryOut_153 rfl 3 rfl ?_
                            refine f_iload_n hC dX4_carryOut_154 rfl 4 rfl ?_
                            obtain ⟨r59, h60, hF⟩ := fb_open hF
                            refine f_callV hC [.int x1, .int x2] (c_X4_carryOutPrint l D cy a0 x1 x2 w r59 h60) q_1214 q_131 q_1211 q_1213 q_71 h9_X4_carryOutPrint rfl (fSm.k (fSm.rf w) g3) ⟨Nat.le_of_ble_eq_true rfl, Nat.le_of_ble_eq_true rfl⟩ ⟨Nat.le_of_ble_eq_true rfl, Nat.le_of_ble_eq_true rfl⟩ (Nat.le_of_ble_eq_true rfl) rfl dX4_carryOut_155 (fun e61 => ?_)
                            obtain rfl := Option.some.inj hF
                            exact f_iret hC hEn (fSm.tr e61 (fSm.rf w)) dX4_carryOut_158
                          · replace hF := fi_neg hF c58
                            by_cases c62 : (gI w 600 (gR w 407 a0 0) (Int32.toNatClampNeg x1)) = 111
                            · replace hF := fi_pos hF c62
                              refine f_tabIn hC 226 dX4_carryOut_50 (by rw [c62] <;> decide) (by rw [c62] <;> decide) (by rw [c62] <;> rfl) (by decide) ?_
                              refine f_aload_n hC dX4_carryOut_226 rfl 2 rfl ?_
                              refine f_iload_n hC dX4_carryOut_227 rfl 5 rfl ?_
                              refine f_iconst (v := 1) hC dX4_carryOut_228 (by decide) ?_
                              obtain ⟨r63, h64, hF⟩ := fb_open hF
                              refine f_callV hC [.int r1, .int 1] (c_X4_tryPier l D cy a0 r1 1 w r63 h64) q_752 q_131 q_749 q_751 q_35 h9_X4_tryPier rfl (fSm.k (fSm.rf w) g3) ⟨Nat.le_of_ble_eq_true rfl, Nat.le_of_ble_eq_true rfl⟩ ⟨Nat.le_of_ble_eq_true rfl, Nat.le_of_ble_eq_true rfl⟩ (Nat.le_of_ble_eq_true rfl) rfl dX4_carryOut_229 (fun e65 => ?_)
                              obtain rfl := Option.some.inj hF
                              exact f_iret hC hEn (fSm.tr e65 (fSm.rf w)) dX4_carryOut_232
                            · replace hF := fi_neg hF c62
                              by_cases c66 : (gI w 600 (gR w 407 a0 0) (Int32.toNatClampNeg x1)) = 112
                              · replace hF := fi_pos hF c66
                                refine f_tabIn hC 159 dX4_carryOut_50 (by rw [c66] <;> decide) (by rw [c66] <;> decide) (by rw [c66] <;> rfl) (by decide) ?_
                                refine f_aload_n hC dX4_carryOut_159 rfl 2 rfl ?_
                                refine f_iload_n hC dX4_carryOut_160 rfl 5 rfl ?_
                                refine f_iload hC dX4_carryOut_161 1 rfl ?_
                                refine f_iload hC dX4_carryOut_163 0 rfl ?_
                                obtain ⟨r67, h68, hF⟩ := fb_open hF
                                refine f_callV hC [.int r1, .int x5, .int r9] (c_X4_tryPunch l D cy a0 r1 x5 r9 w r67 h68) q_806 q_131 q_803 q_805 q_38 h9_X4_tryPunch rfl (fSm.k (fSm.rf w) g3) ⟨Nat.le_of_ble_eq_true rfl, Nat.le_of_ble_eq_true rfl⟩ ⟨Nat.le_of_ble_eq_true rfl, Nat.le_of_ble_eq_true rfl⟩ (Nat.le_of_ble_eq_true rfl) rfl dX4_carryOut_165 (fun e69 => ?_)
                                obtain rfl := Option.some.inj hF
                                exact f_iret hC hEn (fSm.tr e69 (fSm.rf w)) dX4_carryOut_168
                              · replace hF := fi_neg hF c66
                                by_cases c70 : (gI w 600 (gR w 407 a0 0) (Int32.toNatClampNeg x1)) = 113
                                · replace hF := fi_pos hF c70
                                  refine f_tabIn hC 239 dX4_carryOut_50 (by rw [c70] <;> decide) (by rw [c70] <;> decide) (by rw [c70] <;> rfl) (by decide) ?_
                                  refine f_aload_n hC dX4_carryOut_239 rfl 2 rfl ?_
                                  obtain ⟨r71, h72, hF⟩ := fb_open hF
                                  refine f_callV hC [] (c_X4_letDayGoBy l D cy a0 w r71 h72) q_395 q_131 q_392 q_394 q_6 h9_X4_letDayGoBy rfl (fSm.k (fSm.rf w) g3) ⟨Nat.le_of_ble_eq_true rfl, Nat.le_of_ble_eq_true rfl⟩ ⟨Nat.le_of_ble_eq_true rfl, Nat.le_of_ble_eq_true rfl⟩ (Nat.le_of_ble_eq_true rfl) rfl dX4_carryOut_240 (fun e73 => ?_)
                                  obtain rfl := Option.some.inj hF
                                  exact f_iret hC hEn (fSm.tr e73 (fSm.rf w)) dX4_carryOut_243
                                · replace hF := fi_neg hF c70
                                  by_cases c74 : (gI w 600 (gR w 407 a0 0) (Int32.toNatClampNeg x1)) = 114
                                  · replace hF := fi_pos hF c74
                                    refine f_tabIn hC 239 dX4_carryOut_50 (by rw [c74] <;> decide) (by rw [c74] <;> decide) (by rw [c74] <;> rfl) (by decide) ?_
                                    refine f_aload_n hC dX4_carryOut_239 rfl 2 rfl ?_
                                    obtain ⟨r75, h76, hF⟩ := fb_open hF
                                    refine f_callV hC [] (c_X4_letDayGoBy l D cy a0 w r75 h76) q_395 q_131 q_392 q_394 q_6 h9_X4_letDayGoBy rfl (fSm.k (fSm.rf w) g3) ⟨Nat.le_of_ble_eq_true rfl, Nat.le_of_ble_eq_true rfl⟩ ⟨Nat.le_of_ble_eq_true rfl, Nat.le_of_ble_eq_true rfl⟩ (Nat.le_of_ble_eq_true rfl) rfl dX4_carryOut_240 (fun e77 => ?_)
                                    obtain rfl := Option.some.inj hF
                                    exact f_iret hC hEn (fSm.tr e77 (fSm.rf w)) dX4_carryOut_243
                                  · replace hF := fi_neg hF c74
                                    by_cases c78 : (gI w 600 (gR w 407 a0 0) (Int32.toNatClampNeg x1)) = 115
                                    · replace hF := fi_pos hF c78
                                      refine f_tabIn hC 239 dX4_carryOut_50 (by rw [c78] <;> decide) (by rw [c78] <;> decide) (by rw [c78] <;> rfl) (by decide) ?_
                                      refine f_aload_n hC dX4_carryOut_239 rfl 2 rfl ?_
                                      obtain ⟨r79, h80, hF⟩ := fb_open hF
                                      refine f_callV hC [] (c_X4_letDayGoBy l D cy a0 w r79 h80) q_395 q_131 q_392 q_394 q_6 h9_X4_letDayGoBy rfl (fSm.k (fSm.rf w) g3) ⟨Nat.le_of_ble_eq_true rfl, Nat.le_of_ble_eq_true rfl⟩ ⟨Nat.le_of_ble_eq_true rfl, Nat.le_of_ble_eq_true rfl⟩ (Nat.le_of_ble_eq_true rfl) rfl dX4_carryOut_240 (fun e81 => ?_)
                                      obtain rfl := Option.some.inj hF
                                      exact f_iret hC hEn (fSm.tr e81 (fSm.rf w)) dX4_carryOut_243
                                    · replace hF := fi_neg hF c78
                                      by_cases c82 : (gI w 600 (gR w 407 a0 0) (Int32.toNatClampNeg x1)) = 116
                                      · replace hF := fi_pos hF c82
                                        refine f_tabIn hC 179 dX4_carryOut_50 (by rw [c82] <;> decide) (by rw [c82] <;> decide) (by rw [c82] <;> rfl) (by decide) ?_
                                        refine f_aload_n hC dX4_carryOut_179 rfl 2 rfl ?_
                                        refine f_iload_n hC dX4_carryOut_180 rfl 5 rfl ?_
                                        obtain ⟨r83, h84, hF⟩ := fb_open hF
                                        refine f_callV hC [.int r1] (c_X4_tryTear l D cy a0 r1 w r83 h84) q_848 q_131 q_845 q_847 q_44 h9_X4_tryTear rfl (fSm.k (fSm.rf w) g3) ⟨Nat.le_of_ble_eq_true rfl, Nat.le_of_ble_eq_true rfl⟩ ⟨Nat.le_of_ble_eq_true rfl, Nat.le_of_ble_eq_true rfl⟩ (Nat.le_of_ble_eq_true rfl) rfl dX4_carryOut_181 (fun e85 => ?_)
                                        obtain rfl := Option.some.inj hF
                                        exact f_iret hC hEn (fSm.tr e85 (fSm.rf w)) dX4_carryOut_184
                                      · replace hF := fi_neg hF c82
                                        by_cases c86 : (gI w 600 (gR w 407 a0 0) (Int32.toNatClampNeg x1)) = 117
                                        · replace hF := fi_pos hF c86
                                          refine f_tabIn hC 239 dX4_carryOut_50 (by rw [c86] <;> decide) (by rw [c86] <;> decide) (by rw [c86] <;> rfl) (by decide) ?_
                                          refine f_aload_n hC dX4_carryOut_239 rfl 2 rfl ?_
                                          obtain ⟨r87, h88, hF⟩ := fb_open hF
                                          refine f_callV hC [] (c_X4_letDayGoBy l D cy a0 w r87 h88) q_395 q_131 q_392 q_394 q_6 h9_X4_letDayGoBy rfl (fSm.k (fSm.rf w) g3) ⟨Nat.le_of_ble_eq_true rfl, Nat.le_of_ble_eq_true rfl⟩ ⟨Nat.le_of_ble_eq_true rfl, Nat.le_of_ble_eq_true rfl⟩ (Nat.le_of_ble_eq_true rfl) rfl dX4_carryOut_240 (fun e89 => ?_)
                                          obtain rfl := Option.some.inj hF
                                          exact f_iret hC hEn (fSm.tr e89 (fSm.rf w)) dX4_carryOut_243
                                        · replace hF := fi_neg hF c86
                                          by_cases c90 : (gI w 600 (gR w 407 a0 0) (Int32.toNatClampNeg x1)) = 118
                                          · replace hF := fi_pos hF c90
                                            refine f_tabIn hC 239 dX4_carryOut_50 (by rw [c90] <;> decide) (by rw [c90] <;> decide) (by rw [c90] <;> rfl) (by decide) ?_
                                            refine f_aload_n hC dX4_carryOut_239 rfl 2 rfl ?_
                                            obtain ⟨r91, h92, hF⟩ := fb_open hF
                                            refine f_callV hC [] (c_X4_letDayGoBy l D cy a0 w r91 h92) q_395 q_131 q_392 q_394 q_6 h9_X4_letDayGoBy rfl (fSm.k (fSm.rf w) g3) ⟨Nat.le_of_ble_eq_true rfl, Nat.le_of_ble_eq_true rfl⟩ ⟨Nat.le_of_ble_eq_true rfl, Nat.le_of_ble_eq_true rfl⟩ (Nat.le_of_ble_eq_true rfl) rfl dX4_carryOut_240 (fun e93 => ?_)
                                            obtain rfl := Option.some.inj hF
                                            exact f_iret hC hEn (fSm.tr e93 (fSm.rf w)) dX4_carryOut_243
                                          · replace hF := fi_neg hF c90
                                            by_cases c94 : (gI w 600 (gR w 407 a0 0) (Int32.toNatClampNeg x1)) = 119
                                            · replace hF := fi_pos hF c94
                                              refine f_tabIn hC 169 dX4_carryOut_50 (by rw [c94] <;> decide) (by rw [c94] <;> decide) (by rw [c94] <;> rfl) (by decide) ?_
                                              refine f_aload_n hC dX4_carryOut_169 rfl 2 rfl ?_
                                              refine f_iload_n hC dX4_carryOut_170 rfl 5 rfl ?_
                                              refine f_iload hC dX4_carryOut_171 1 rfl ?_
                                              refine f_iload hC dX4_carryOut_173 0 rfl ?_
                                              obtain ⟨r95, h96, hF⟩ := fb_open hF
                                              refine f_callV hC [.int r1, .int x5, .int r9] (c_X4_tryWet l D cy a0 r1 x5 r9 w r95 h96) q_825 q_131 q_822 q_824 q_41 h9_X4_tryWet rfl (fSm.k (fSm.rf w) g3) ⟨Nat.le_of_ble_eq_true rfl, Nat.le_of_ble_eq_true rfl⟩ ⟨Nat.le_of_ble_eq_true rfl, Nat.le_of_ble_eq_true rfl⟩ (Nat.le_of_ble_eq_true rfl) rfl dX4_carryOut_175 (fun e97 => ?_)
                                              obtain rfl := Option.some.inj hF
                                              exact f_iret hC hEn (fSm.tr e97 (fSm.rf w)) dX4_carryOut_178
                                            · replace hF := fi_neg hF c94
                                              by_cases c98 : (gI w 600 (gR w 407 a0 0) (Int32.toNatClampNeg x1)) = 120
                                              · replace hF := fi_pos hF c98
                                                refine f_tabIn hC 233 dX4_carryOut_50 (by rw [c98] <;> decide) (by rw [c98] <;> decide) (by rw [c98] <;> rfl) (by decide) ?_
                                                refine f_aload_n hC dX4_carryOut_233 rfl 2 rfl ?_
                                                refine f_iload_n hC dX4_carryOut_234 rfl 5 rfl ?_
                                                obtain ⟨r99, h100, hF⟩ := fb_open hF
                                                refine f_callV hC [.int r1] (c_X4_tryThrowAway l D cy a0 r1 w r99 h100) q_714 q_131 q_711 q_713 q_30 h9_X4_tryThrowAway rfl (fSm.k (fSm.rf w) g3) ⟨Nat.le_of_ble_eq_true rfl, Nat.le_of_ble_eq_true rfl⟩ ⟨Nat.le_of_ble_eq_true rfl, Nat.le_of_ble_eq_true rfl⟩ (Nat.le_of_ble_eq_true rfl) rfl dX4_carryOut_235 (fun e101 => ?_)
                                                obtain rfl := Option.some.inj hF
                                                exact f_iret hC hEn (fSm.tr e101 (fSm.rf w)) dX4_carryOut_238
                                              · replace hF := fi_neg hF c98
                                                refine f_tabOut hC 239 dX4_carryOut_50 (ftab 99 120 (by decide) (by decide) (fun j h1 h2 => ?_)) (by decide) ?_
                                                · rcases (show j = 99 ∨ j = 100 ∨ j = 101 ∨ j = 102 ∨ j = 103 ∨ j = 104 ∨ j = 105 ∨ j = 106 ∨ j = 107 ∨ j = 108 ∨ j = 109 ∨ j = 110 ∨ j = 111 ∨ j = 112 ∨ j = 113 ∨ j = 114 ∨ j = 115 ∨ j = 116 ∨ j = 117 ∨ j = 118 ∨ j = 119 ∨ j = 120 by omega) with rfl | rfl | rfl | rfl | rfl | rfl | rfl | rfl | rfl | rfl | rfl | rfl | rfl | rfl | rfl | rfl | rfl | rfl | rfl | rfl | rfl | rfl
                                                  · exact c14
                                                  · exact c18
                                                  · exact c22
                                                  · exact c26
                                                  · exact c30
                                                  · exact c34
                                                  · exact c38
                                                  · exact c42
                                                  · exact c46
                                                  · exact c50
                                                  · exact c54
                                                  · exact c58
                                                  · exact c62
                                                  · exact c66
                                                  · exact c70
                                                  · exact c74
                                                  · exact c78
                                                  · exact c82
                                                  · exact c86
                                                  · exact c90
                                                  · exact c94
                                                  · exact c98
                                                refine f_aload_n hC dX4_carryOut_239 rfl 2 rfl ?_
                                                obtain ⟨r102, h103, hF⟩ := fb_open hF
                                                refine f_callV hC [] (c_X4_letDayGoBy l D cy a0 w r102 h103) q_395 q_131 q_392 q_394 q_6 h9_X4_letDayGoBy rfl (fSm.k (fSm.rf w) g3) ⟨Nat.le_of_ble_eq_true rfl, Nat.le_of_ble_eq_true rfl⟩ ⟨Nat.le_of_ble_eq_true rfl, Nat.le_of_ble_eq_true rfl⟩ (Nat.le_of_ble_eq_true rfl) rfl dX4_carryOut_240 (fun e104 => ?_)
                                                obtain rfl := Option.some.inj hF
                                                exact f_iret hC hEn (fSm.tr e104 (fSm.rf w)) dX4_carryOut_243
  refine f_icmp_ge hC 32 dX4_carryOut_12 (by decide) (fun c105 => ?_) (fun c105 => ?_)
  · replace h6 := fi_pos h6 c105
    refine f_iconst (v := 0) hC dX4_carryOut_32 (by decide) ?_
    obtain rfl := Option.some.inj h6
    refine f_sub (L' := [(0, .ref a0), (1, .int x1), (2, .int x2), (3, .int r1)]) [1, 2, 3, 0] rfl ?_
    exact K8
  · replace h6 := fi_neg h6 c105
    refine f_aload_n hC dX4_carryOut_15 rfl 1 rfl ?_
    refine f_getR hC 4 7 407 rfl (by decide) iX4 q_320 rfl rfl (fSm.k (fSm.rf w) g3) dX4_carryOut_16 ?_
    refine f_iload_n hC dX4_carryOut_19 rfl 2 rfl ?_
    refine f_iconst (v := 2) hC dX4_carryOut_20 (by decide) ?_
    refine f_iadd hC dX4_carryOut_21 ?_
    obtain ⟨g106, h6⟩ := fg_open h6
    obtain ⟨g107, h6⟩ := fg_open h6
    refine f_cald hC (fSm.k (fSm.rf w) g106) (fSm.v (fSm.rf w) g107) dX4_carryOut_22 ?_
    refine f_bipush (v := 114) hC dX4_carryOut_23 (by decide) ?_
    refine f_icmp_ne hC 32 dX4_carryOut_25 (by decide) (fun c108 => ?_) (fun c108 => ?_)
    · replace h6 := fi_neg h6 c108
      refine f_iconst (v := 0) hC dX4_carryOut_32 (by decide) ?_
      obtain rfl := Option.some.inj h6
      refine f_sub (L' := [(0, .ref a0), (1, .int x1), (2, .int x2), (3, .int r1)]) [1, 2, 3, 0] rfl ?_
      exact K8
    · replace h6 := fi_pos h6 c108
      refine f_iconst (v := 1) hC dX4_carryOut_28 (by decide) ?_
      refine f_goto hC 33 dX4_carryOut_29 (by decide) ?_
      obtain rfl := Option.some.inj h6
      refine f_sub (L' := [(0, .ref a0), (1, .int x1), (2, .int x2), (3, .int r1)]) [1, 2, 3, 0] rfl ?_
      exact K8
theorem dX4_carryOutAll_0 : decode cX4_carryOutAll 0 = .ok (.iconst 0, 1) := by decide +kernel
theorem dX4_carryOutAll_1 : decode cX4_carryOutAll 1 = .ok (.istore_n 1, 1) := by decide +kernel
theorem dX4_carryOutAll_2 : decode cX4_carryOutAll 2 = .ok (.iconst 0, 1) := by decide +kernel
theorem dX4_carryOutAll_3 : decode cX4_carryOutAll 3 = .ok (.istore_n 2, 1) := by decide +kernel
theorem dX4_carryOutAll_4 : decode cX4_carryOutAll 4 = .ok (.iload_n 2, 1) := by decide +kernel
theorem dX4_carryOutAll_5 : decode cX4_carryOutAll 5 = .ok (.bipush 60, 2) := by decide +kernel
theorem dX4_carryOutAll_7 : decode cX4_carryOutAll 7 = .ok (.if_icmp .ge 48, 3) := by decide +kernel
theorem dX4_carryOutAll_10 : decode cX4_carryOutAll 10 = .ok (.aload_n 0, 1) := by decide +kernel
theorem dX4_carryOutAll_11 : decode cX4_carryOutAll 11 = .ok (.iload_n 1, 1) := by decide +kernel
theorem dX4_carryOutAll_12 : decode cX4_carryOutAll 12 = .ok (.invokevirtual 436, 3) := by decide +kernel
theorem dX4_carryOutAll_15 : decode cX4_carryOutAll 15 = .ok (.istore_n 3, 1) := by decide +kernel
theorem dX4_carryOutAll_16 : decode cX4_carryOutAll 16 = .ok (.iload_n 3, 1) := by decide +kernel
theorem dX4_carryOutAll_17 : decode cX4_carryOutAll 17 = .ok (.ifCond .lt 12, 3) := by decide +kernel
theorem dX4_carryOutAll_20 : decode cX4_carryOutAll 20 = .ok (.aload_n 0, 1) := by decide +kernel
theorem dX4_carryOutAll_21 : decode cX4_carryOutAll 21 = .ok (.iload_n 1, 1) := by decide +kernel
theorem dX4_carryOutAll_22 : decode cX4_carryOutAll 22 = .ok (.iload_n 3, 1) := by decide +kernel
theorem dX4_carryOutAll_23 : decode cX4_carryOutAll 23 = .ok (.invokevirtual 439, 3) := by decide +kernel
theorem dX4_carryOutAll_26 : decode cX4_carryOutAll 26 = .ok (.ifCond .eq 7, 3) := by decide +kernel
theorem dX4_carryOutAll_29 : decode cX4_carryOutAll 29 = .ok (.iload_n 2, 1) := by decide +kernel
theorem dX4_carryOutAll_30 : decode cX4_carryOutAll 30 = .ok (.iconst (-1), 1) := by decide +kernel
theorem dX4_carryOutAll_31 : decode cX4_carryOutAll 31 = .ok (.ixor, 1) := by decide +kernel
theorem dX4_carryOutAll_32 : decode cX4_carryOutAll 32 = .ok (.ireturn, 1) := by decide +kernel
theorem dX4_carryOutAll_33 : decode cX4_carryOutAll 33 = .ok (.iload_n 3, 1) := by decide +kernel
theorem dX4_carryOutAll_34 : decode cX4_carryOutAll 34 = .ok (.aload_n 0, 1) := by decide +kernel
theorem dX4_carryOutAll_35 : decode cX4_carryOutAll 35 = .ok (.getfield 45, 3) := by decide +kernel
theorem dX4_carryOutAll_38 : decode cX4_carryOutAll 38 = .ok (.if_icmp .lt 7, 3) := by decide +kernel
theorem dX4_carryOutAll_41 : decode cX4_carryOutAll 41 = .ok (.iload_n 2, 1) := by decide +kernel
theorem dX4_carryOutAll_42 : decode cX4_carryOutAll 42 = .ok (.iconst 1, 1) := by decide +kernel
theorem dX4_carryOutAll_43 : decode cX4_carryOutAll 43 = .ok (.iadd, 1) := by decide +kernel
theorem dX4_carryOutAll_44 : decode cX4_carryOutAll 44 = .ok (.ireturn, 1) := by decide +kernel
theorem dX4_carryOutAll_45 : decode cX4_carryOutAll 45 = .ok (.iload_n 3, 1) := by decide +kernel
theorem dX4_carryOutAll_46 : decode cX4_carryOutAll 46 = .ok (.iconst 1, 1) := by decide +kernel
theorem dX4_carryOutAll_47 : decode cX4_carryOutAll 47 = .ok (.iadd, 1) := by decide +kernel
theorem dX4_carryOutAll_48 : decode cX4_carryOutAll 48 = .ok (.istore_n 1, 1) := by decide +kernel
theorem dX4_carryOutAll_49 : decode cX4_carryOutAll 49 = .ok (.iinc 2 1, 3) := by decide +kernel
theorem dX4_carryOutAll_52 : decode cX4_carryOutAll 52 = .ok (.goto (-48), 3) := by decide +kernel
theorem dX4_carryOutAll_55 : decode cX4_carryOutAll 55 = .ok (.bipush 60, 2) := by decide +kernel
theorem dX4_carryOutAll_57 : decode cX4_carryOutAll 57 = .ok (.ireturn, 1) := by decide +kernel
theorem h9_X4_carryOutAll : yX4_carryOutAll.cls ≠ "java/lang/invoke/MethodHandle" ∧ yX4_carryOutAll.cls ≠ "java/lang/invoke/VarHandle" ∧ (parseMethodDescriptor yX4_carryOutAll.desc).map (fun d => d.parameters.length) = some 0 := by decide +kernel
noncomputable def F_X4_carryOutAll (a0 : Nat) (w : FW) : Option (Int32 × FW) :=
  (fLoop (σ := Int32 × Int32 × FW) (ρ := (FW) ⊕ (Int32 × FW)) (fun s1 => (if 60 ≤ s1.2.1 then some (.inr (.inl s1.2.2)) else fg (w.1 a0 = 5) inferInstance ((F_X4_endOfOrder a0 s1.1 s1.2.2).bind (fun r11 => (if r11 < 0 then some (.inr (.inr ((s1.2.1 ^^^ (-1)), s1.2.2))) else (F_X4_carryOut a0 s1.1 r11 s1.2.2).bind (fun r16 => (if r16.1 = 0 then (if r11 < (gI r16.2 408 a0 0) then some (.inl ((r11 + 1), (s1.2.1 + 1), r16.2)) else some (.inr (.inr ((s1.2.1 + 1), r16.2)))) else some (.inr (.inr ((s1.2.1 ^^^ (-1)), r16.2)))))))))) (0, 0, w)).bind (fun x7 => fse x7 (fun z21 => some (60, z21)) (fun q9 => some q9))
set_option maxHeartbeats 4000000 in
set_option maxRecDepth 100000 in
theorem c_X4_carryOutAll (l : Launch) (D : va_G) (cy : Nat → ClassId) (a0 : Nat) (w : FW) (r : Int32 × FW) (hF : F_X4_carryOutAll a0 w = some r) : fSpec l D cy yX4_carryOutAll cX4_carryOutAll 4 (some .int) { frames := 9, cells := 0, slots := 0, locals := 207 } [.ref a0] w r.2 (some (.int r.1)) := by
  refine f_begin (by decide +kernel) (Nat.le_of_ble_eq_true rfl) (fun X hC hEn => ?_)
  unfold F_X4_carryOutAll at hF
  show fAt X 0 0 4 w [(0, .ref a0)] [] 0
  refine f_iconst (v := 0) hC dX4_carryOutAll_0 (by decide) ?_
  refine f_istore_n (L' := [(1, .int 0), (0, .ref a0)]) hC dX4_carryOutAll_1 rfl (by decide) rfl ?_
  refine f_iconst (v := 0) hC dX4_carryOutAll_2 (by decide) ?_
  refine f_istore_n (L' := [(2, .int 0), (1, .int 0), (0, .ref a0)]) hC dX4_carryOutAll_3 rfl (by decide) rfl ?_
  obtain ⟨x7, h8, hF⟩ := fb_open hF
  have K9 : ∀ z21, x7 = .inl z21 → fSm z21 w → fAt X 0 0 4 z21 [] [] 55 := by
    intro z21 hz9
    subst hz9
    intro p5
    refine f_bipush (v := 60) hC dX4_carryOutAll_55 (by decide) ?_
    obtain rfl := Option.some.inj hF
    exact f_iret hC hEn p5 dX4_carryOutAll_57
  refine f_sub (L' := [(0, .ref a0), (1, .int 0), (2, .int 0)]) [2, 1, 0] rfl ?_
  refine fLoop_ind (fun (s1 : Int32 × Int32 × FW) => fSm s1.2.2 w → fAt X 0 0 4 s1.2.2 [(0, .ref a0), (1, .int s1.1), (2, .int s1.2.1)] [] 4) (fun s1 y6 h2 go3 ou4 => ?_) h8 (fSm.rf w)
  intro p5
  refine f_iload_n hC dX4_carryOutAll_4 rfl 2 rfl ?_
  refine f_bipush (v := 60) hC dX4_carryOutAll_5 (by decide) ?_
  refine f_icmp_ge hC 55 dX4_carryOutAll_7 (by decide) (fun c10 => ?_) (fun c10 => ?_)
  · replace h2 := fi_pos h2 c10
    obtain rfl := Option.some.inj h2
    have eo := ou4 _ rfl
    refine f_sub (L' := []) [] rfl ?_
    exact K9 _ eo.symm p5
  · replace h2 := fi_neg h2 c10
    refine f_aload_n hC dX4_carryOutAll_10 rfl 0 rfl ?_
    refine f_iload_n hC dX4_carryOutAll_11 rfl 1 rfl ?_
    obtain ⟨g13, h2⟩ := fg_open h2
    obtain ⟨r11, h12, h2⟩ := fb_open h2
    refine f_callV hC [.int s1.1] (c_X4_endOfOrder l D cy a0 s1.1 s1.2.2 r11 h12) q_1164 q_131 q_1161 q_1163 q_65 h9_X4_endOfOrder rfl (fSm.k p5 g13) ⟨Nat.le_of_ble_eq_true rfl, Nat.le_of_ble_eq_true rfl⟩ ⟨Nat.le_of_ble_eq_true rfl, Nat.le_of_ble_eq_true rfl⟩ (Nat.le_of_ble_eq_true rfl) rfl dX4_carryOutAll_12 (fun e14 => ?_)
    refine f_istore_n (L' := [(3, .int r11), (0, .ref a0), (1, .int s1.1), (2, .int s1.2.1)]) hC dX4_carryOutAll_15 rfl (by decide) rfl ?_
    refine f_iload_n hC dX4_carryOutAll_16 rfl 0 rfl ?_
    refine f_if_lt hC 29 dX4_carryOutAll_17 (by decide) (fun c15 => ?_) (fun c15 => ?_)
    · replace h2 := fi_pos h2 c15
      refine f_iload_n hC dX4_carryOutAll_29 rfl 3 rfl ?_
      refine f_iconst (v := (-1)) hC dX4_carryOutAll_30 (by decide) ?_
      refine f_ixor hC dX4_carryOutAll_31 ?_
      obtain rfl := Option.some.inj h2
      obtain rfl := ou4 _ rfl
      obtain rfl := Option.some.inj hF
      exact f_iret hC hEn p5 dX4_carryOutAll_32
    · replace h2 := fi_neg h2 c15
      refine f_aload_n hC dX4_carryOutAll_20 rfl 1 rfl ?_
      refine f_iload_n hC dX4_carryOutAll_21 rfl 2 rfl ?_
      refine f_iload_n hC dX4_carryOutAll_22 rfl 0 rfl ?_
      obtain ⟨r16, h17, h2⟩ := fb_open h2
      refine f_callV hC [.int s1.1, .int r11] (c_X4_carryOut l D cy a0 s1.1 r11 s1.2.2 r16 h17) q_1206 q_131 q_1203 q_1205 q_69 h9_X4_carryOut rfl (fSm.k p5 g13) ⟨Nat.le_of_ble_eq_true rfl, Nat.le_of_ble_eq_true rfl⟩ ⟨Nat.le_of_ble_eq_true rfl, Nat.le_of_ble_eq_true rfl⟩ (Nat.le_of_ble_eq_true rfl) rfl dX4_carryOutAll_23 (fun e18 => ?_)
      refine f_if_eq hC 33 dX4_carryOutAll_26 (by decide) (fun c19 => ?_) (fun c19 => ?_)
      · replace h2 := fi_pos h2 c19
        refine f_iload_n hC dX4_carryOutAll_33 rfl 0 rfl ?_
        refine f_aload_n hC dX4_carryOutAll_34 rfl 1 rfl ?_
        refine f_getI hC 4 8 408 rfl (by decide) iX4 q_321 rfl rfl (fSm.k (fSm.tr e18 p5) g13) dX4_carryOutAll_35 ?_
        refine f_icmp_lt hC 45 dX4_carryOutAll_38 (by decide) (fun c20 => ?_) (fun c20 => ?_)
        · replace h2 := fi_pos h2 c20
          refine f_iload_n hC dX4_carryOutAll_45 rfl 0 rfl ?_
          refine f_iconst (v := 1) hC dX4_carryOutAll_46 (by decide) ?_
          refine f_iadd hC dX4_carryOutAll_47 ?_
          refine f_istore_n (L' := [(1, .int (r11 + 1)), (3, .int r11), (0, .ref a0), (2, .int s1.2.1)]) hC dX4_carryOutAll_48 rfl (by decide) rfl ?_
          refine f_iinc (L' := [(2, .int (s1.2.1 + 1)), (1, .int (r11 + 1)), (3, .int r11), (0, .ref a0)]) hC dX4_carryOutAll_49 3 rfl rfl (by decide) rfl ?_
          refine f_goto hC 4 dX4_carryOutAll_52 (by decide) ?_
          obtain rfl := Option.some.inj h2
          refine f_sub (L' := [(0, .ref a0), (1, .int (r11 + 1)), (2, .int (s1.2.1 + 1))]) [3, 1, 0] rfl ?_
          exact go3 _ rfl (fSm.tr e18 p5)
        · replace h2 := fi_neg h2 c20
          refine f_iload_n hC dX4_carryOutAll_41 rfl 3 rfl ?_
          refine f_iconst (v := 1) hC dX4_carryOutAll_42 (by decide) ?_
          refine f_iadd hC dX4_carryOutAll_43 ?_
          obtain rfl := Option.some.inj h2
          obtain rfl := ou4 _ rfl
          obtain rfl := Option.some.inj hF
          exact f_iret hC hEn (fSm.tr e18 p5) dX4_carryOutAll_44
      · replace h2 := fi_neg h2 c19
        refine f_iload_n hC dX4_carryOutAll_29 rfl 3 rfl ?_
        refine f_iconst (v := (-1)) hC dX4_carryOutAll_30 (by decide) ?_
        refine f_ixor hC dX4_carryOutAll_31 ?_
        obtain rfl := Option.some.inj h2
        obtain rfl := ou4 _ rfl
        obtain rfl := Option.some.inj hF
        exact f_iret hC hEn (fSm.tr e18 p5) dX4_carryOutAll_32
theorem dX4_read_0 : decode cX4_read 0 = .ok (.aload_n 0, 1) := by decide +kernel
theorem dX4_read_1 : decode cX4_read 1 = .ok (.invokevirtual 360, 3) := by decide +kernel
theorem dX4_read_4 : decode cX4_read 4 = .ok (.istore_n 1, 1) := by decide +kernel
theorem dX4_read_5 : decode cX4_read 5 = .ok (.iload_n 1, 1) := by decide +kernel
theorem dX4_read_6 : decode cX4_read 6 = .ok (.iconst (-1), 1) := by decide +kernel
theorem dX4_read_7 : decode cX4_read 7 = .ok (.if_icmp .eq 24, 3) := by decide +kernel
theorem dX4_read_10 : decode cX4_read 10 = .ok (.aload_n 0, 1) := by decide +kernel
theorem dX4_read_11 : decode cX4_read 11 = .ok (.iconst 0, 1) := by decide +kernel
theorem dX4_read_12 : decode cX4_read 12 = .ok (.putfield 45, 3) := by decide +kernel
theorem dX4_read_15 : decode cX4_read 15 = .ok (.aload_n 0, 1) := by decide +kernel
theorem dX4_read_16 : decode cX4_read 16 = .ok (.iload_n 1, 1) := by decide +kernel
theorem dX4_read_17 : decode cX4_read 17 = .ok (.putfield 60, 3) := by decide +kernel
theorem dX4_read_20 : decode cX4_read 20 = .ok (.new 142, 3) := by decide +kernel
theorem dX4_read_23 : decode cX4_read 23 = .ok (.dup, 1) := by decide +kernel
theorem dX4_read_24 : decode cX4_read 24 = .ok (.ldc_w 363, 3) := by decide +kernel
theorem dX4_read_27 : decode cX4_read 27 = .ok (.invokespecial 146, 3) := by decide +kernel
theorem dX4_read_30 : decode cX4_read 30 = .ok (.athrow, 1) := by decide +kernel
theorem dX4_read_31 : decode cX4_read 31 = .ok (.aload_n 0, 1) := by decide +kernel
theorem dX4_read_32 : decode cX4_read 32 = .ok (.invokevirtual 72, 3) := by decide +kernel
theorem dX4_read_35 : decode cX4_read 35 = .ok (.aload_n 0, 1) := by decide +kernel
theorem dX4_read_36 : decode cX4_read 36 = .ok (.invokevirtual 365, 3) := by decide +kernel
theorem dX4_read_39 : decode cX4_read 39 = .ok (.istore_n 2, 1) := by decide +kernel
theorem dX4_read_40 : decode cX4_read 40 = .ok (.aload_n 0, 1) := by decide +kernel
theorem dX4_read_41 : decode cX4_read 41 = .ok (.iconst 0, 1) := by decide +kernel
theorem dX4_read_42 : decode cX4_read 42 = .ok (.putfield 45, 3) := by decide +kernel
theorem dX4_read_45 : decode cX4_read 45 = .ok (.iload_n 2, 1) := by decide +kernel
theorem dX4_read_46 : decode cX4_read 46 = .ok (.ifCond .ge 32, 3) := by decide +kernel
theorem dX4_read_49 : decode cX4_read 49 = .ok (.aload_n 0, 1) := by decide +kernel
theorem dX4_read_50 : decode cX4_read 50 = .ok (.getfield 12, 3) := by decide +kernel
theorem dX4_read_53 : decode cX4_read 53 = .ok (.aload_n 0, 1) := by decide +kernel
theorem dX4_read_54 : decode cX4_read 54 = .ok (.getfield 16, 3) := by decide +kernel
theorem dX4_read_57 : decode cX4_read 57 = .ok (.invokevirtual 368, 3) := by decide +kernel
theorem dX4_read_60 : decode cX4_read 60 = .ok (.aload_n 0, 1) := by decide +kernel
theorem dX4_read_61 : decode cX4_read 61 = .ok (.iload_n 2, 1) := by decide +kernel
theorem dX4_read_62 : decode cX4_read 62 = .ok (.iconst (-1), 1) := by decide +kernel
theorem dX4_read_63 : decode cX4_read 63 = .ok (.ixor, 1) := by decide +kernel
theorem dX4_read_64 : decode cX4_read 64 = .ok (.putfield 63, 3) := by decide +kernel
theorem dX4_read_67 : decode cX4_read 67 = .ok (.new 372, 3) := by decide +kernel
theorem dX4_read_70 : decode cX4_read 70 = .ok (.dup, 1) := by decide +kernel
theorem dX4_read_71 : decode cX4_read 71 = .ok (.ldc_w 374, 3) := by decide +kernel
theorem dX4_read_74 : decode cX4_read 74 = .ok (.invokespecial 376, 3) := by decide +kernel
theorem dX4_read_77 : decode cX4_read 77 = .ok (.athrow, 1) := by decide +kernel
theorem dX4_read_78 : decode cX4_read 78 = .ok (.aload_n 0, 1) := by decide +kernel
theorem dX4_read_79 : decode cX4_read 79 = .ok (.invokevirtual 377, 3) := by decide +kernel
theorem dX4_read_82 : decode cX4_read 82 = .ok (.iload_n 2, 1) := by decide +kernel
theorem dX4_read_83 : decode cX4_read 83 = .ok (.ireturn, 1) := by decide +kernel
theorem h9_X4_read : yX4_read.cls ≠ "java/lang/invoke/MethodHandle" ∧ yX4_read.cls ≠ "java/lang/invoke/VarHandle" ∧ (parseMethodDescriptor yX4_read.desc).map (fun d => d.parameters.length) = some 0 := by decide +kernel
noncomputable def F_X4_read (a0 : Nat) (w : FW) : Option ((Int32 ⊕ Nat) × FW) :=
  fg (w.1 a0 = 5) inferInstance ((F_X4_faultOfInput a0 w).bind (fun r1 => (if r1 = (-1) then (F_X4_begin a0 w).bind (fun r6 => (F_X4_carryOutAll a0 r6).bind (fun r9 => (if 0 ≤ r9.1 then (F_X4_remember a0 (sI r9.2 408 a0 0 0)).bind (fun r13 => some ((.inl r9.1), r13)) else fg (w.1 (gR r9.2 400 a0 0) = 2) inferInstance ((F_X1_take (gR (sI r9.2 408 a0 0 0) 400 a0 0) (gR (sI r9.2 408 a0 0 0) 401 a0 0) (sI r9.2 408 a0 0 0)).bind (fun r16 => some (.inr 4, (sI r16 414 a0 0 (r9.1 ^^^ (-1))))))))) else some (.inr 1, (sI (sI w 408 a0 0 0) 413 a0 0 r1)))))
set_option maxHeartbeats 4000000 in
set_option maxRecDepth 100000 in
theorem c_X4_read (l : Launch) (D : va_G) (cy : Nat → ClassId) (a0 : Nat) (w : FW) (r : (Int32 ⊕ Nat) × FW) (hF : F_X4_read a0 w = some r) : fSpecX l D cy yX4_read cX4_read 3 (some .int) { frames := 10, cells := 1, slots := 6, locals := 230 } [.ref a0] w r.2 (fOI r.1) := by
  refine f_beginX (by decide +kernel) (Nat.le_of_ble_eq_true rfl) (fun X hC hEn => ?_)
  have hst := f_st hC hEn
  unfold F_X4_read at hF
  show fAt X 0 0 3 w [(0, .ref a0)] [] 0
  refine f_aload_n hC dX4_read_0 rfl 0 rfl ?_
  obtain ⟨g3, hF⟩ := fg_open hF
  obtain ⟨r1, h2, hF⟩ := fb_open hF
  refine f_callV hC [] (c_X4_faultOfInput l D cy a0 w r1 h2) q_1160 q_131 q_1157 q_1159 q_64 h9_X4_faultOfInput rfl (fSm.k (fSm.rf w) g3) ⟨Nat.le_of_ble_eq_true rfl, Nat.le_of_ble_eq_true rfl⟩ ⟨Nat.le_of_ble_eq_true rfl, Nat.le_of_ble_eq_true rfl⟩ (Nat.le_of_ble_eq_true rfl) rfl dX4_read_1 (fun e4 => ?_)
  refine f_istore_n (L' := [(1, .int r1), (0, .ref a0)]) hC dX4_read_4 rfl (by decide) rfl ?_
  refine f_iload_n hC dX4_read_5 rfl 0 rfl ?_
  refine f_iconst (v := (-1)) hC dX4_read_6 (by decide) ?_
  refine f_icmp_eq hC 31 dX4_read_7 (by decide) (fun c5 => ?_) (fun c5 => ?_)
  · replace hF := fi_pos hF c5
    refine f_aload_n hC dX4_read_31 rfl 1 rfl ?_
    obtain ⟨r6, h7, hF⟩ := fb_open hF
    refine f_callV hC [] (c_X4_begin l D cy a0 w r6 h7) q_374 q_131 q_371 q_373 q_1 h9_X4_begin rfl (fSm.k (fSm.rf w) g3) ⟨Nat.le_of_ble_eq_true rfl, Nat.le_of_ble_eq_true rfl⟩ ⟨Nat.le_of_ble_eq_true rfl, Nat.le_of_ble_eq_true rfl⟩ (Nat.le_of_ble_eq_true rfl) rfl dX4_read_32 (fun e8 => ?_)
    refine f_aload_n hC dX4_read_35 rfl 1 rfl ?_
    obtain ⟨r9, h10, hF⟩ := fb_open hF
    refine f_callV hC [] (c_X4_carryOutAll l D cy a0 r6 r9 h10) q_1202 q_131 q_1199 q_1201 q_68 h9_X4_carryOutAll rfl (fSm.k (fSm.tr e8 (fSm.rf w)) g3) ⟨Nat.le_of_ble_eq_true rfl, Nat.le_of_ble_eq_true rfl⟩ ⟨Nat.le_of_ble_eq_true rfl, Nat.le_of_ble_eq_true rfl⟩ (Nat.le_of_ble_eq_true rfl) rfl dX4_read_36 (fun e11 => ?_)
    refine f_istore_n (L' := [(2, .int r9.1), (1, .int r1), (0, .ref a0)]) hC dX4_read_39 rfl (by decide) rfl ?_
    refine f_aload_n hC dX4_read_40 rfl 2 rfl ?_
    refine f_iconst (v := 0) hC dX4_read_41 (by decide) ?_
    refine f_putI hC 4 8 408 rfl (by decide) iX4 tyX4 tyX4_ok nmX4 q_321 rfl rfl rfl rfl rfl (fSm.k (fSm.tr e11 (fSm.tr e8 (fSm.rf w))) g3) dX4_read_42 ?_
    refine f_iload_n hC dX4_read_45 rfl 0 rfl ?_
    refine f_if_ge hC 78 dX4_read_46 (by decide) (fun c12 => ?_) (fun c12 => ?_)
    · replace hF := fi_pos hF c12
      refine f_aload_n hC dX4_read_78 rfl 2 rfl ?_
      obtain ⟨r13, h14, hF⟩ := fb_open hF
      refine f_callV hC [] (c_X4_remember l D cy a0 (sI r9.2 408 a0 0 0) r13 h14) q_507 q_131 q_504 q_506 q_9 h9_X4_remember rfl (fSm.k (fSm.tr e11 (fSm.tr e8 (fSm.rf w))) g3) ⟨Nat.le_of_ble_eq_true rfl, Nat.le_of_ble_eq_true rfl⟩ ⟨Nat.le_of_ble_eq_true rfl, Nat.le_of_ble_eq_true rfl⟩ (Nat.le_of_ble_eq_true rfl) rfl dX4_read_79 (fun e15 => ?_)
      refine f_iload_n hC dX4_read_82 rfl 0 rfl ?_
      obtain rfl := Option.some.inj hF
      refine f_widen (k' := 1) (s' := 6) (Nat.le_of_ble_eq_true rfl) (Nat.le_of_ble_eq_true rfl) ?_
      exact f_iretX hC hEn (fSm.tr e15 (fSm.tr e11 (fSm.tr e8 (fSm.rf w)))) dX4_read_83
    · replace hF := fi_neg hF c12
      refine f_aload_n hC dX4_read_49 rfl 2 rfl ?_
      refine f_getR hC 4 0 400 rfl (by decide) iX4 q_313 rfl rfl (fSm.k (fSm.tr e11 (fSm.tr e8 (fSm.rf w))) g3) dX4_read_50 ?_
      refine f_aload_n hC dX4_read_53 rfl 2 rfl ?_
      refine f_getR hC 4 1 401 rfl (by decide) iX4 q_314 rfl rfl (fSm.k (fSm.tr e11 (fSm.tr e8 (fSm.rf w))) g3) dX4_read_54 ?_
      obtain ⟨g18, hF⟩ := fg_open hF
      obtain ⟨r16, h17, hF⟩ := fb_open hF
      refine f_callVN hC [.ref (gR (sI r9.2 408 a0 0 0) 401 a0 0)] (c_X1_take l D cy (gR (sI r9.2 408 a0 0 0) 400 a0 0) (gR (sI r9.2 408 a0 0 0) 401 a0 0) (sI r9.2 408 a0 0 0) r16 h17) q_378 q_132 q_375 q_377 q_2 h9_X1_take rfl (fSm.k (fSm.tr e11 (fSm.tr e8 (fSm.rf w))) g18) ⟨Nat.le_of_ble_eq_true rfl, Nat.le_of_ble_eq_true rfl⟩ ⟨Nat.le_of_ble_eq_true rfl, Nat.le_of_ble_eq_true rfl⟩ (Nat.le_of_ble_eq_true rfl) rfl dX4_read_57 (fun e19 => ?_)
      refine f_aload_n hC dX4_read_60 rfl 2 rfl ?_
      refine f_iload_n hC dX4_read_61 rfl 0 rfl ?_
      refine f_iconst (v := (-1)) hC dX4_read_62 (by decide) ?_
      refine f_ixor hC dX4_read_63 ?_
      refine f_putI hC 4 14 414 rfl (by decide) iX4 tyX4 tyX4_ok nmX4 q_327 rfl rfl rfl rfl rfl (fSm.k (fSm.tr e19 (fSm.tr e11 (fSm.tr e8 (fSm.rf w)))) g3) dX4_read_64 ?_
      obtain rfl := Option.some.inj hF
      exact f_throwSW hC hEn (fSm.tr e19 (fSm.tr e11 (fSm.tr e8 (fSm.rf w)))) 36 rfl xf_4 xn_4 q_488 q_142 rfl xa_RX4_376 xg_RX4_372_376 dX4_read_67 dX4_read_70 dX4_read_71 dX4_read_74 dX4_read_77 (Nat.le_of_ble_eq_true rfl) (Nat.le_of_ble_eq_true rfl) (Nat.le_of_ble_eq_true rfl) (Nat.le_of_ble_eq_true rfl) (Nat.le_of_ble_eq_true rfl) (Nat.le_of_ble_eq_true rfl)
  · replace hF := fi_neg hF c5
    refine f_aload_n hC dX4_read_10 rfl 1 rfl ?_
    refine f_iconst (v := 0) hC dX4_read_11 (by decide) ?_
    refine f_putI hC 4 8 408 rfl (by decide) iX4 tyX4 tyX4_ok nmX4 q_321 rfl rfl rfl rfl rfl (fSm.k (fSm.rf w) g3) dX4_read_12 ?_
    refine f_aload_n hC dX4_read_15 rfl 1 rfl ?_
    refine f_iload_n hC dX4_read_16 rfl 0 rfl ?_
    refine f_putI hC 4 13 413 rfl (by decide) iX4 tyX4 tyX4_ok nmX4 q_326 rfl rfl rfl rfl rfl (fSm.k (fSm.rf w) g3) dX4_read_17 ?_
    obtain rfl := Option.some.inj hF
    exact f_throwSW hC hEn (fSm.rf w) 35 rfl xf_1 xn_1 q_472 q_141 rfl xa_RX4_146 xg_RX4_142_146 dX4_read_20 dX4_read_23 dX4_read_24 dX4_read_27 dX4_read_30 (Nat.le_of_ble_eq_true rfl) (Nat.le_of_ble_eq_true rfl) (Nat.le_of_ble_eq_true rfl) (Nat.le_of_ble_eq_true rfl) (Nat.le_of_ble_eq_true rfl) (Nat.le_of_ble_eq_true rfl)
theorem dX4_errorPosition_0 : decode cX4_errorPosition 0 = .ok (.aload_n 0, 1) := by decide +kernel
theorem dX4_errorPosition_1 : decode cX4_errorPosition 1 = .ok (.getfield 60, 3) := by decide +kernel
theorem dX4_errorPosition_4 : decode cX4_errorPosition 4 = .ok (.iconst (-1), 1) := by decide +kernel
theorem dX4_errorPosition_5 : decode cX4_errorPosition 5 = .ok (.if_icmp .ne 14, 3) := by decide +kernel
theorem dX4_errorPosition_8 : decode cX4_errorPosition 8 = .ok (.new 153, 3) := by decide +kernel
theorem dX4_errorPosition_11 : decode cX4_errorPosition 11 = .ok (.dup, 1) := by decide +kernel
theorem dX4_errorPosition_12 : decode cX4_errorPosition 12 = .ok (.ldc_w 380, 3) := by decide +kernel
theorem dX4_errorPosition_15 : decode cX4_errorPosition 15 = .ok (.invokespecial 157, 3) := by decide +kernel
theorem dX4_errorPosition_18 : decode cX4_errorPosition 18 = .ok (.athrow, 1) := by decide +kernel
theorem dX4_errorPosition_19 : decode cX4_errorPosition 19 = .ok (.aload_n 0, 1) := by decide +kernel
theorem dX4_errorPosition_20 : decode cX4_errorPosition 20 = .ok (.getfield 60, 3) := by decide +kernel
theorem dX4_errorPosition_23 : decode cX4_errorPosition 23 = .ok (.ireturn, 1) := by decide +kernel
theorem h9_X4_errorPosition : yX4_errorPosition.cls ≠ "java/lang/invoke/MethodHandle" ∧ yX4_errorPosition.cls ≠ "java/lang/invoke/VarHandle" ∧ (parseMethodDescriptor yX4_errorPosition.desc).map (fun d => d.parameters.length) = some 0 := by decide +kernel
noncomputable def F_X4_errorPosition (a0 : Nat) (w : FW) : Option (Int32 ⊕ Nat) :=
  fg (w.1 a0 = 5) inferInstance ((if (gI w 413 a0 0) = (-1) then some (.inr 5) else some (.inl (gI w 413 a0 0))))
set_option maxHeartbeats 4000000 in
set_option maxRecDepth 100000 in
theorem c_X4_errorPosition (l : Launch) (D : va_G) (cy : Nat → ClassId) (a0 : Nat) (w : FW) (r : Int32 ⊕ Nat) (hF : F_X4_errorPosition a0 w = some r) : fSpecX l D cy yX4_errorPosition cX4_errorPosition 1 (some .int) { frames := 6, cells := 1, slots := 6, locals := 100 } [.ref a0] w w (fOI r) := by
  refine f_beginX (by decide +kernel) (Nat.le_of_ble_eq_true rfl) (fun X hC hEn => ?_)
  have hst := f_st hC hEn
  unfold F_X4_errorPosition at hF
  show fAt X 0 0 1 w [(0, .ref a0)] [] 0
  refine f_aload_n hC dX4_errorPosition_0 rfl 0 rfl ?_
  obtain ⟨g1, hF⟩ := fg_open hF
  refine f_getI hC 4 13 413 rfl (by decide) iX4 q_326 rfl rfl (fSm.k (fSm.rf w) g1) dX4_errorPosition_1 ?_
  refine f_iconst (v := (-1)) hC dX4_errorPosition_4 (by decide) ?_
  refine f_icmp_ne hC 19 dX4_errorPosition_5 (by decide) (fun c2 => ?_) (fun c2 => ?_)
  · replace hF := fi_neg hF c2
    refine f_aload_n hC dX4_errorPosition_19 rfl 0 rfl ?_
    refine f_getI hC 4 13 413 rfl (by decide) iX4 q_326 rfl rfl (fSm.k (fSm.rf w) g1) dX4_errorPosition_20 ?_
    obtain rfl := Option.some.inj hF
    refine f_widen (k' := 1) (s' := 6) (Nat.le_of_ble_eq_true rfl) (Nat.le_of_ble_eq_true rfl) ?_
    exact f_iretX hC hEn (fSm.rf w) dX4_errorPosition_23
  · replace hF := fi_pos hF c2
    obtain rfl := Option.some.inj hF
    exact f_throwXSW hC hEn (fSm.rf w) 37 rfl xf_5 xy_5 xn_5 ns_0 ns_1 ns_2 ns_5 q_779 q_145 rfl xa_RX4_157 xg_RX4_153_157 dX4_errorPosition_8 dX4_errorPosition_11 dX4_errorPosition_12 dX4_errorPosition_15 dX4_errorPosition_18 (Nat.le_of_ble_eq_true rfl) (Nat.le_of_ble_eq_true rfl) (Nat.le_of_ble_eq_true rfl) (Nat.le_of_ble_eq_true rfl) (Nat.le_of_ble_eq_true rfl) (Nat.le_of_ble_eq_true rfl)
theorem dX4_refusedItem_0 : decode cX4_refusedItem 0 = .ok (.aload_n 0, 1) := by decide +kernel
theorem dX4_refusedItem_1 : decode cX4_refusedItem 1 = .ok (.getfield 63, 3) := by decide +kernel
theorem dX4_refusedItem_4 : decode cX4_refusedItem 4 = .ok (.iconst (-1), 1) := by decide +kernel
theorem dX4_refusedItem_5 : decode cX4_refusedItem 5 = .ok (.if_icmp .ne 14, 3) := by decide +kernel
theorem dX4_refusedItem_8 : decode cX4_refusedItem 8 = .ok (.new 153, 3) := by decide +kernel
theorem dX4_refusedItem_11 : decode cX4_refusedItem 11 = .ok (.dup, 1) := by decide +kernel
theorem dX4_refusedItem_12 : decode cX4_refusedItem 12 = .ok (.ldc_w 382, 3) := by decide +kernel
theorem dX4_refusedItem_15 : decode cX4_refusedItem 15 = .ok (.invokespecial 157, 3) := by decide +kernel
theorem dX4_refusedItem_18 : decode cX4_refusedItem 18 = .ok (.athrow, 1) := by decide +kernel
theorem dX4_refusedItem_19 : decode cX4_refusedItem 19 = .ok (.aload_n 0, 1) := by decide +kernel
theorem dX4_refusedItem_20 : decode cX4_refusedItem 20 = .ok (.getfield 63, 3) := by decide +kernel
theorem dX4_refusedItem_23 : decode cX4_refusedItem 23 = .ok (.ireturn, 1) := by decide +kernel
theorem h9_X4_refusedItem : yX4_refusedItem.cls ≠ "java/lang/invoke/MethodHandle" ∧ yX4_refusedItem.cls ≠ "java/lang/invoke/VarHandle" ∧ (parseMethodDescriptor yX4_refusedItem.desc).map (fun d => d.parameters.length) = some 0 := by decide +kernel
noncomputable def F_X4_refusedItem (a0 : Nat) (w : FW) : Option (Int32 ⊕ Nat) :=
  fg (w.1 a0 = 5) inferInstance ((if (gI w 414 a0 0) = (-1) then some (.inr 5) else some (.inl (gI w 414 a0 0))))
set_option maxHeartbeats 4000000 in
set_option maxRecDepth 100000 in
theorem c_X4_refusedItem (l : Launch) (D : va_G) (cy : Nat → ClassId) (a0 : Nat) (w : FW) (r : Int32 ⊕ Nat) (hF : F_X4_refusedItem a0 w = some r) : fSpecX l D cy yX4_refusedItem cX4_refusedItem 1 (some .int) { frames := 6, cells := 1, slots := 6, locals := 100 } [.ref a0] w w (fOI r) := by
  refine f_beginX (by decide +kernel) (Nat.le_of_ble_eq_true rfl) (fun X hC hEn => ?_)
  have hst := f_st hC hEn
  unfold F_X4_refusedItem at hF
  show fAt X 0 0 1 w [(0, .ref a0)] [] 0
  refine f_aload_n hC dX4_refusedItem_0 rfl 0 rfl ?_
  obtain ⟨g1, hF⟩ := fg_open hF
  refine f_getI hC 4 14 414 rfl (by decide) iX4 q_327 rfl rfl (fSm.k (fSm.rf w) g1) dX4_refusedItem_1 ?_
  refine f_iconst (v := (-1)) hC dX4_refusedItem_4 (by decide) ?_
  refine f_icmp_ne hC 19 dX4_refusedItem_5 (by decide) (fun c2 => ?_) (fun c2 => ?_)
  · replace hF := fi_neg hF c2
    refine f_aload_n hC dX4_refusedItem_19 rfl 0 rfl ?_
    refine f_getI hC 4 14 414 rfl (by decide) iX4 q_327 rfl rfl (fSm.k (fSm.rf w) g1) dX4_refusedItem_20 ?_
    obtain rfl := Option.some.inj hF
    refine f_widen (k' := 1) (s' := 6) (Nat.le_of_ble_eq_true rfl) (Nat.le_of_ble_eq_true rfl) ?_
    exact f_iretX hC hEn (fSm.rf w) dX4_refusedItem_23
  · replace hF := fi_pos hF c2
    obtain rfl := Option.some.inj hF
    exact f_throwXSW hC hEn (fSm.rf w) 38 rfl xf_5 xy_5 xn_5 ns_0 ns_1 ns_2 ns_5 q_779 q_145 rfl xa_RX4_157 xg_RX4_153_157 dX4_refusedItem_8 dX4_refusedItem_11 dX4_refusedItem_12 dX4_refusedItem_15 dX4_refusedItem_18 (Nat.le_of_ble_eq_true rfl) (Nat.le_of_ble_eq_true rfl) (Nat.le_of_ble_eq_true rfl) (Nat.le_of_ble_eq_true rfl) (Nat.le_of_ble_eq_true rfl) (Nat.le_of_ble_eq_true rfl)
