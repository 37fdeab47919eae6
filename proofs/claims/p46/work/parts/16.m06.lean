theorem dX1_punchedHalves_0 : decode cX1_punchedHalves 0 = .ok (.iconst 0, 1) := by decide +kernel
theorem dX1_punchedHalves_1 : decode cX1_punchedHalves 1 = .ok (.istore_n 1, 1) := by decide +kernel
theorem dX1_punchedHalves_2 : decode cX1_punchedHalves 2 = .ok (.iconst 0, 1) := by decide +kernel
theorem dX1_punchedHalves_3 : decode cX1_punchedHalves 3 = .ok (.istore_n 2, 1) := by decide +kernel
theorem dX1_punchedHalves_4 : decode cX1_punchedHalves 4 = .ok (.iload_n 2, 1) := by decide +kernel
theorem dX1_punchedHalves_5 : decode cX1_punchedHalves 5 = .ok (.aload_n 0, 1) := by decide +kernel
theorem dX1_punchedHalves_6 : decode cX1_punchedHalves 6 = .ok (.getfield 17, 3) := by decide +kernel
theorem dX1_punchedHalves_9 : decode cX1_punchedHalves 9 = .ok (.if_icmp .ge 55, 3) := by decide +kernel
theorem dX1_punchedHalves_12 : decode cX1_punchedHalves 12 = .ok (.iload_n 1, 1) := by decide +kernel
theorem dX1_punchedHalves_13 : decode cX1_punchedHalves 13 = .ok (.aload_n 0, 1) := by decide +kernel
theorem dX1_punchedHalves_14 : decode cX1_punchedHalves 14 = .ok (.getfield 11, 3) := by decide +kernel
theorem dX1_punchedHalves_17 : decode cX1_punchedHalves 17 = .ok (.iload_n 2, 1) := by decide +kernel
theorem dX1_punchedHalves_18 : decode cX1_punchedHalves 18 = .ok (.aaload, 1) := by decide +kernel
theorem dX1_punchedHalves_19 : decode cX1_punchedHalves 19 = .ok (.getfield 73, 3) := by decide +kernel
theorem dX1_punchedHalves_22 : decode cX1_punchedHalves 22 = .ok (.getfield 85, 3) := by decide +kernel
theorem dX1_punchedHalves_25 : decode cX1_punchedHalves 25 = .ok (.ifCond .eq 7, 3) := by decide +kernel
theorem dX1_punchedHalves_28 : decode cX1_punchedHalves 28 = .ok (.iconst 1, 1) := by decide +kernel
theorem dX1_punchedHalves_29 : decode cX1_punchedHalves 29 = .ok (.goto 4, 3) := by decide +kernel
theorem dX1_punchedHalves_32 : decode cX1_punchedHalves 32 = .ok (.iconst 0, 1) := by decide +kernel
theorem dX1_punchedHalves_33 : decode cX1_punchedHalves 33 = .ok (.iadd, 1) := by decide +kernel
theorem dX1_punchedHalves_34 : decode cX1_punchedHalves 34 = .ok (.istore_n 1, 1) := by decide +kernel
theorem dX1_punchedHalves_35 : decode cX1_punchedHalves 35 = .ok (.iload_n 1, 1) := by decide +kernel
theorem dX1_punchedHalves_36 : decode cX1_punchedHalves 36 = .ok (.aload_n 0, 1) := by decide +kernel
theorem dX1_punchedHalves_37 : decode cX1_punchedHalves 37 = .ok (.getfield 11, 3) := by decide +kernel
theorem dX1_punchedHalves_40 : decode cX1_punchedHalves 40 = .ok (.iload_n 2, 1) := by decide +kernel
theorem dX1_punchedHalves_41 : decode cX1_punchedHalves 41 = .ok (.aaload, 1) := by decide +kernel
theorem dX1_punchedHalves_42 : decode cX1_punchedHalves 42 = .ok (.getfield 82, 3) := by decide +kernel
theorem dX1_punchedHalves_45 : decode cX1_punchedHalves 45 = .ok (.getfield 85, 3) := by decide +kernel
theorem dX1_punchedHalves_48 : decode cX1_punchedHalves 48 = .ok (.ifCond .eq 7, 3) := by decide +kernel
theorem dX1_punchedHalves_51 : decode cX1_punchedHalves 51 = .ok (.iconst 1, 1) := by decide +kernel
theorem dX1_punchedHalves_52 : decode cX1_punchedHalves 52 = .ok (.goto 4, 3) := by decide +kernel
theorem dX1_punchedHalves_55 : decode cX1_punchedHalves 55 = .ok (.iconst 0, 1) := by decide +kernel
theorem dX1_punchedHalves_56 : decode cX1_punchedHalves 56 = .ok (.iadd, 1) := by decide +kernel
theorem dX1_punchedHalves_57 : decode cX1_punchedHalves 57 = .ok (.istore_n 1, 1) := by decide +kernel
theorem dX1_punchedHalves_58 : decode cX1_punchedHalves 58 = .ok (.iinc 2 1, 3) := by decide +kernel
theorem dX1_punchedHalves_61 : decode cX1_punchedHalves 61 = .ok (.goto (-57), 3) := by decide +kernel
theorem dX1_punchedHalves_64 : decode cX1_punchedHalves 64 = .ok (.iload_n 1, 1) := by decide +kernel
theorem dX1_punchedHalves_65 : decode cX1_punchedHalves 65 = .ok (.ireturn, 1) := by decide +kernel
theorem h9_X1_punchedHalves : yX1_punchedHalves.cls ≠ "java/lang/invoke/MethodHandle" ∧ yX1_punchedHalves.cls ≠ "java/lang/invoke/VarHandle" ∧ (parseMethodDescriptor yX1_punchedHalves.desc).map (fun d => d.parameters.length) = some 0 := by decide +kernel
noncomputable def F_X1_punchedHalves (a0 : Nat) (w : FW) : Option (Int32) :=
  (fLoop (σ := Int32 × Int32) (ρ := Int32) (fun s1 => fg (w.1 a0 = 2) inferInstance ((if (gI w 101 a0 0) ≤ s1.2 then some (.inr s1.1) else fg (w.1 (gR w 100 a0 0) = 14) inferInstance (fg (¬ (s1.2 < 0 ∨ w.2.1 (gR w 100 a0 0) ≤ Int32.toNatClampNeg s1.2)) inferInstance (fg (w.1 (gR w 604 (gR w 100 a0 0) (Int32.toNatClampNeg s1.2)) = 3) inferInstance (fg (w.1 (gR w 206 (gR w 604 (gR w 100 a0 0) (Int32.toNatClampNeg s1.2)) 0) = 1) inferInstance (((if (gI w 0 (gR w 206 (gR w 604 (gR w 100 a0 0) (Int32.toNatClampNeg s1.2)) 0) 0) = 0 then some 0 else some 1) : Option (Int32)).bind (fun x16 => fg (w.1 (gR w 207 (gR w 604 (gR w 100 a0 0) (Int32.toNatClampNeg s1.2)) 0) = 1) inferInstance ((if (gI w 0 (gR w 207 (gR w 604 (gR w 100 a0 0) (Int32.toNatClampNeg s1.2)) 0) 0) = 0 then some (.inl (((s1.1 + x16) + 0), (s1.2 + 1))) else some (.inl (((s1.1 + x16) + 1), (s1.2 + 1))))))))))))) (0, 0)).bind (fun x7 => some x7)
set_option maxHeartbeats 4000000 in
set_option maxRecDepth 100000 in
theorem c_X1_punchedHalves (l : Launch) (D : va_G) (cy : Nat → ClassId) (a0 : Nat) (w : FW) (r : Int32) (hF : F_X1_punchedHalves a0 w = some r) : fSpec l D cy yX1_punchedHalves cX1_punchedHalves 3 (some .int) { frames := 0, cells := 0, slots := 0, locals := 0 } [.ref a0] w w (some (.int r)) := by
  refine f_begin (by decide +kernel) (Nat.le_of_ble_eq_true rfl) (fun X hC hEn => ?_)
  unfold F_X1_punchedHalves at hF
  show fAt X 0 0 3 w [(0, .ref a0)] [] 0
  refine f_iconst (v := 0) hC dX1_punchedHalves_0 (by decide) ?_
  refine f_istore_n (L' := [(1, .int 0), (0, .ref a0)]) hC dX1_punchedHalves_1 rfl (by decide) rfl ?_
  refine f_iconst (v := 0) hC dX1_punchedHalves_2 (by decide) ?_
  refine f_istore_n (L' := [(2, .int 0), (1, .int 0), (0, .ref a0)]) hC dX1_punchedHalves_3 rfl (by decide) rfl ?_
  obtain ⟨x7, h8, hF⟩ := fb_open hF
  have K9 : fAt X 0 0 3 w [(1, .int x7)] [] 64 := by
    refine f_iload_n hC dX1_punchedHalves_64 rfl 0 rfl ?_
    obtain rfl := Option.some.inj hF
    exact f_iret hC hEn (fSm.rf w) dX1_punchedHalves_65
  refine f_sub (L' := [(0, .ref a0), (1, .int 0), (2, .int 0)]) [2, 1, 0] rfl ?_
  refine fLoop_ind (fun (s1 : Int32 × Int32) => fAt X 0 0 3 w [(0, .ref a0), (1, .int s1.1), (2, .int s1.2)] [] 4) (fun s1 y6 h2 go3 ou4 => ?_) h8
  refine f_iload_n hC dX1_punchedHalves_4 rfl 2 rfl ?_
  refine f_aload_n hC dX1_punchedHalves_5 rfl 0 rfl ?_
  obtain ⟨g10, h2⟩ := fg_open h2
  refine f_getI hC 1 1 101 rfl (by decide) iX1 q_218 rfl rfl (fSm.k (fSm.rf w) g10) dX1_punchedHalves_6 ?_
  refine f_icmp_ge hC 64 dX1_punchedHalves_9 (by decide) (fun c11 => ?_) (fun c11 => ?_)
  · replace h2 := fi_pos h2 c11
    obtain rfl := Option.some.inj h2
    obtain rfl := ou4 _ rfl
    refine f_sub (L' := [(1, .int s1.1)]) [1] rfl ?_
    exact K9
  · replace h2 := fi_neg h2 c11
    refine f_iload_n hC dX1_punchedHalves_12 rfl 1 rfl ?_
    refine f_aload_n hC dX1_punchedHalves_13 rfl 0 rfl ?_
    refine f_getR hC 1 0 100 rfl (by decide) iX1 q_216 rfl rfl (fSm.k (fSm.rf w) g10) dX1_punchedHalves_14 ?_
    refine f_iload_n hC dX1_punchedHalves_17 rfl 2 rfl ?_
    obtain ⟨g12, h2⟩ := fg_open h2
    obtain ⟨g13, h2⟩ := fg_open h2
    refine f_aald1 hC (fSm.k (fSm.rf w) g12) (fSm.v (fSm.rf w) g13) dX1_punchedHalves_18 ?_
    obtain ⟨g14, h2⟩ := fg_open h2
    refine f_getRN hC 2 6 206 rfl (by decide) iX2 q_194 rfl rfl (fSm.k (fSm.rf w) g14) dX1_punchedHalves_19 ?_
    obtain ⟨g15, h2⟩ := fg_open h2
    refine f_getIN hC 0 0 0 rfl (by decide) iX0 q_148 rfl rfl (fSm.k (fSm.rf w) g15) dX1_punchedHalves_22 ?_
    obtain ⟨x16, h17, h2⟩ := fb_open h2
    have K19 : fAt X 0 0 3 w [(0, .ref a0), (2, .int s1.2)] [.int x16, .int s1.1] 33 := by
      refine f_iadd hC dX1_punchedHalves_33 ?_
      refine f_istore_n (L' := [(1, .int (s1.1 + x16)), (0, .ref a0), (2, .int s1.2)]) hC dX1_punchedHalves_34 rfl (by decide) rfl ?_
      refine f_iload_n hC dX1_punchedHalves_35 rfl 0 rfl ?_
      refine f_aload_n hC dX1_punchedHalves_36 rfl 1 rfl ?_
      refine f_getR hC 1 0 100 rfl (by decide) iX1 q_216 rfl rfl (fSm.k (fSm.rf w) g10) dX1_punchedHalves_37 ?_
      refine f_iload_n hC dX1_punchedHalves_40 rfl 2 rfl ?_
      refine f_aald1 hC (fSm.k (fSm.rf w) g12) (fSm.v (fSm.rf w) g13) dX1_punchedHalves_41 ?_
      refine f_getRN hC 2 7 207 rfl (by decide) iX2 q_197 rfl rfl (fSm.k (fSm.rf w) g14) dX1_punchedHalves_42 ?_
      obtain ⟨g20, h2⟩ := fg_open h2
      refine f_getIN hC 0 0 0 rfl (by decide) iX0 q_148 rfl rfl (fSm.k (fSm.rf w) g20) dX1_punchedHalves_45 ?_
      refine f_if_eq hC 55 dX1_punchedHalves_48 (by decide) (fun c21 => ?_) (fun c21 => ?_)
      · replace h2 := fi_pos h2 c21
        refine f_iconst (v := 0) hC dX1_punchedHalves_55 (by decide) ?_
        refine f_iadd hC dX1_punchedHalves_56 ?_
        refine f_istore_n (L' := [(1, .int ((s1.1 + x16) + 0)), (0, .ref a0), (2, .int s1.2)]) hC dX1_punchedHalves_57 rfl (by decide) rfl ?_
        refine f_iinc (L' := [(2, .int (s1.2 + 1)), (1, .int ((s1.1 + x16) + 0)), (0, .ref a0)]) hC dX1_punchedHalves_58 2 rfl rfl (by decide) rfl ?_
        refine f_goto hC 4 dX1_punchedHalves_61 (by decide) ?_
        obtain rfl := Option.some.inj h2
        refine f_sub (L' := [(0, .ref a0), (1, .int ((s1.1 + x16) + 0)), (2, .int (s1.2 + 1))]) [2, 1, 0] rfl ?_
        exact go3 _ rfl
      · replace h2 := fi_neg h2 c21
        refine f_iconst (v := 1) hC dX1_punchedHalves_51 (by decide) ?_
        refine f_goto hC 56 dX1_punchedHalves_52 (by decide) ?_
        refine f_iadd hC dX1_punchedHalves_56 ?_
        refine f_istore_n (L' := [(1, .int ((s1.1 + x16) + 1)), (0, .ref a0), (2, .int s1.2)]) hC dX1_punchedHalves_57 rfl (by decide) rfl ?_
        refine f_iinc (L' := [(2, .int (s1.2 + 1)), (1, .int ((s1.1 + x16) + 1)), (0, .ref a0)]) hC dX1_punchedHalves_58 2 rfl rfl (by decide) rfl ?_
        refine f_goto hC 4 dX1_punchedHalves_61 (by decide) ?_
        obtain rfl := Option.some.inj h2
        refine f_sub (L' := [(0, .ref a0), (1, .int ((s1.1 + x16) + 1)), (2, .int (s1.2 + 1))]) [2, 1, 0] rfl ?_
        exact go3 _ rfl
    refine f_if_eq hC 32 dX1_punchedHalves_25 (by decide) (fun c22 => ?_) (fun c22 => ?_)
    · replace h17 := fi_pos h17 c22
      refine f_iconst (v := 0) hC dX1_punchedHalves_32 (by decide) ?_
      obtain rfl := Option.some.inj h17
      refine f_sub (L' := [(0, .ref a0), (2, .int s1.2)]) [0, 2] rfl ?_
      exact K19
    · replace h17 := fi_neg h17 c22
      refine f_iconst (v := 1) hC dX1_punchedHalves_28 (by decide) ?_
      refine f_goto hC 33 dX1_punchedHalves_29 (by decide) ?_
      obtain rfl := Option.some.inj h17
      refine f_sub (L' := [(0, .ref a0), (2, .int s1.2)]) [0, 2] rfl ?_
      exact K19
theorem dX1_holesLeft_0 : decode cX1_holesLeft 0 = .ok (.iconst 0, 1) := by decide +kernel
theorem dX1_holesLeft_1 : decode cX1_holesLeft 1 = .ok (.istore_n 1, 1) := by decide +kernel
theorem dX1_holesLeft_2 : decode cX1_holesLeft 2 = .ok (.iconst 0, 1) := by decide +kernel
theorem dX1_holesLeft_3 : decode cX1_holesLeft 3 = .ok (.istore_n 2, 1) := by decide +kernel
theorem dX1_holesLeft_4 : decode cX1_holesLeft 4 = .ok (.iload_n 2, 1) := by decide +kernel
theorem dX1_holesLeft_5 : decode cX1_holesLeft 5 = .ok (.aload_n 0, 1) := by decide +kernel
theorem dX1_holesLeft_6 : decode cX1_holesLeft 6 = .ok (.getfield 17, 3) := by decide +kernel
theorem dX1_holesLeft_9 : decode cX1_holesLeft 9 = .ok (.if_icmp .ge 21, 3) := by decide +kernel
theorem dX1_holesLeft_12 : decode cX1_holesLeft 12 = .ok (.iload_n 1, 1) := by decide +kernel
theorem dX1_holesLeft_13 : decode cX1_holesLeft 13 = .ok (.aload_n 0, 1) := by decide +kernel
theorem dX1_holesLeft_14 : decode cX1_holesLeft 14 = .ok (.getfield 11, 3) := by decide +kernel
theorem dX1_holesLeft_17 : decode cX1_holesLeft 17 = .ok (.iload_n 2, 1) := by decide +kernel
theorem dX1_holesLeft_18 : decode cX1_holesLeft 18 = .ok (.aaload, 1) := by decide +kernel
theorem dX1_holesLeft_19 : decode cX1_holesLeft 19 = .ok (.invokevirtual 95, 3) := by decide +kernel
theorem dX1_holesLeft_22 : decode cX1_holesLeft 22 = .ok (.iadd, 1) := by decide +kernel
theorem dX1_holesLeft_23 : decode cX1_holesLeft 23 = .ok (.istore_n 1, 1) := by decide +kernel
theorem dX1_holesLeft_24 : decode cX1_holesLeft 24 = .ok (.iinc 2 1, 3) := by decide +kernel
theorem dX1_holesLeft_27 : decode cX1_holesLeft 27 = .ok (.goto (-23), 3) := by decide +kernel
theorem dX1_holesLeft_30 : decode cX1_holesLeft 30 = .ok (.iload_n 1, 1) := by decide +kernel
theorem dX1_holesLeft_31 : decode cX1_holesLeft 31 = .ok (.ireturn, 1) := by decide +kernel
theorem h9_X1_holesLeft : yX1_holesLeft.cls ≠ "java/lang/invoke/MethodHandle" ∧ yX1_holesLeft.cls ≠ "java/lang/invoke/VarHandle" ∧ (parseMethodDescriptor yX1_holesLeft.desc).map (fun d => d.parameters.length) = some 0 := by decide +kernel
noncomputable def F_X1_holesLeft (a0 : Nat) (w : FW) : Option (Int32) :=
  (fLoop (σ := Int32 × Int32) (ρ := Int32) (fun s1 => fg (w.1 a0 = 2) inferInstance ((if (gI w 101 a0 0) ≤ s1.2 then some (.inr s1.1) else fg (w.1 (gR w 100 a0 0) = 14) inferInstance (fg (¬ (s1.2 < 0 ∨ w.2.1 (gR w 100 a0 0) ≤ Int32.toNatClampNeg s1.2)) inferInstance (fg (w.1 (gR w 604 (gR w 100 a0 0) (Int32.toNatClampNeg s1.2)) = 3) inferInstance ((F_X2_holesLeft (gR w 604 (gR w 100 a0 0) (Int32.toNatClampNeg s1.2)) w).bind (fun r14 => some (.inl ((s1.1 + r14), (s1.2 + 1)))))))))) (0, 0)).bind (fun x7 => some x7)
set_option maxHeartbeats 4000000 in
set_option maxRecDepth 100000 in
theorem c_X1_holesLeft (l : Launch) (D : va_G) (cy : Nat → ClassId) (a0 : Nat) (w : FW) (r : Int32) (hF : F_X1_holesLeft a0 w = some r) : fSpec l D cy yX1_holesLeft cX1_holesLeft 3 (some .int) { frames := 4, cells := 0, slots := 0, locals := 86 } [.ref a0] w w (some (.int r)) := by
  refine f_begin (by decide +kernel) (Nat.le_of_ble_eq_true rfl) (fun X hC hEn => ?_)
  unfold F_X1_holesLeft at hF
  show fAt X 0 0 3 w [(0, .ref a0)] [] 0
  refine f_iconst (v := 0) hC dX1_holesLeft_0 (by decide) ?_
  refine f_istore_n (L' := [(1, .int 0), (0, .ref a0)]) hC dX1_holesLeft_1 rfl (by decide) rfl ?_
  refine f_iconst (v := 0) hC dX1_holesLeft_2 (by decide) ?_
  refine f_istore_n (L' := [(2, .int 0), (1, .int 0), (0, .ref a0)]) hC dX1_holesLeft_3 rfl (by decide) rfl ?_
  obtain ⟨x7, h8, hF⟩ := fb_open hF
  have K9 : fAt X 0 0 3 w [(1, .int x7)] [] 30 := by
    refine f_iload_n hC dX1_holesLeft_30 rfl 0 rfl ?_
    obtain rfl := Option.some.inj hF
    exact f_iret hC hEn (fSm.rf w) dX1_holesLeft_31
  refine f_sub (L' := [(0, .ref a0), (1, .int 0), (2, .int 0)]) [2, 1, 0] rfl ?_
  refine fLoop_ind (fun (s1 : Int32 × Int32) => fAt X 0 0 3 w [(0, .ref a0), (1, .int s1.1), (2, .int s1.2)] [] 4) (fun s1 y6 h2 go3 ou4 => ?_) h8
  refine f_iload_n hC dX1_holesLeft_4 rfl 2 rfl ?_
  refine f_aload_n hC dX1_holesLeft_5 rfl 0 rfl ?_
  obtain ⟨g10, h2⟩ := fg_open h2
  refine f_getI hC 1 1 101 rfl (by decide) iX1 q_218 rfl rfl (fSm.k (fSm.rf w) g10) dX1_holesLeft_6 ?_
  refine f_icmp_ge hC 30 dX1_holesLeft_9 (by decide) (fun c11 => ?_) (fun c11 => ?_)
  · replace h2 := fi_pos h2 c11
    obtain rfl := Option.some.inj h2
    obtain rfl := ou4 _ rfl
    refine f_sub (L' := [(1, .int s1.1)]) [1] rfl ?_
    exact K9
  · replace h2 := fi_neg h2 c11
    refine f_iload_n hC dX1_holesLeft_12 rfl 1 rfl ?_
    refine f_aload_n hC dX1_holesLeft_13 rfl 0 rfl ?_
    refine f_getR hC 1 0 100 rfl (by decide) iX1 q_216 rfl rfl (fSm.k (fSm.rf w) g10) dX1_holesLeft_14 ?_
    refine f_iload_n hC dX1_holesLeft_17 rfl 2 rfl ?_
    obtain ⟨g12, h2⟩ := fg_open h2
    obtain ⟨g13, h2⟩ := fg_open h2
    refine f_aald1 hC (fSm.k (fSm.rf w) g12) (fSm.v (fSm.rf w) g13) dX1_holesLeft_18 ?_
    obtain ⟨g16, h2⟩ := fg_open h2
    obtain ⟨r14, h15, h2⟩ := fb_open h2
    refine f_callVN hC [] (c_X2_holesLeft l D cy (gR w 604 (gR w 100 a0 0) (Int32.toNatClampNeg s1.2)) w r14 h15) q_625 q_76 q_622 q_624 q_19 h9_X2_holesLeft rfl (fSm.k (fSm.rf w) g16) ⟨Nat.le_of_ble_eq_true rfl, Nat.le_of_ble_eq_true rfl⟩ ⟨Nat.le_of_ble_eq_true rfl, Nat.le_of_ble_eq_true rfl⟩ (Nat.le_of_ble_eq_true rfl) rfl dX1_holesLeft_19 (fun e17 => ?_)
    refine f_iadd hC dX1_holesLeft_22 ?_
    refine f_istore_n (L' := [(1, .int (s1.1 + r14)), (0, .ref a0), (2, .int s1.2)]) hC dX1_holesLeft_23 rfl (by decide) rfl ?_
    refine f_iinc (L' := [(2, .int (s1.2 + 1)), (1, .int (s1.1 + r14)), (0, .ref a0)]) hC dX1_holesLeft_24 2 rfl rfl (by decide) rfl ?_
    refine f_goto hC 4 dX1_holesLeft_27 (by decide) ?_
    obtain rfl := Option.some.inj h2
    refine f_sub (L' := [(0, .ref a0), (1, .int (s1.1 + r14)), (2, .int (s1.2 + 1))]) [2, 1, 0] rfl ?_
    exact go3 _ rfl
theorem dX4_account_0 : decode cX4_account 0 = .ok (.iload_n 1, 1) := by decide +kernel
theorem dX4_account_1 : decode cX4_account 1 = .ok (.tableswitch 180 0 13 #[71, 79, 90, 98, 106, 114, 122, 130, 138, 146, 154, 162, 170, 175], 71) := by decide +kernel
theorem dX4_account_72 : decode cX4_account 72 = .ok (.aload_n 0, 1) := by decide +kernel
theorem dX4_account_73 : decode cX4_account 73 = .ok (.getfield 12, 3) := by decide +kernel
theorem dX4_account_76 : decode cX4_account 76 = .ok (.getfield 66, 3) := by decide +kernel
theorem dX4_account_79 : decode cX4_account 79 = .ok (.ireturn, 1) := by decide +kernel
theorem dX4_account_80 : decode cX4_account 80 = .ok (.aload_n 0, 1) := by decide +kernel
theorem dX4_account_81 : decode cX4_account 81 = .ok (.getfield 12, 3) := by decide +kernel
theorem dX4_account_84 : decode cX4_account 84 = .ok (.getfield 83, 3) := by decide +kernel
theorem dX4_account_87 : decode cX4_account 87 = .ok (.getfield 86, 3) := by decide +kernel
theorem dX4_account_90 : decode cX4_account 90 = .ok (.ireturn, 1) := by decide +kernel
theorem dX4_account_91 : decode cX4_account 91 = .ok (.aload_n 0, 1) := by decide +kernel
theorem dX4_account_92 : decode cX4_account 92 = .ok (.getfield 12, 3) := by decide +kernel
theorem dX4_account_95 : decode cX4_account 95 = .ok (.getfield 259, 3) := by decide +kernel
theorem dX4_account_98 : decode cX4_account 98 = .ok (.ireturn, 1) := by decide +kernel
theorem dX4_account_99 : decode cX4_account 99 = .ok (.aload_n 0, 1) := by decide +kernel
theorem dX4_account_100 : decode cX4_account 100 = .ok (.getfield 12, 3) := by decide +kernel
theorem dX4_account_103 : decode cX4_account 103 = .ok (.invokevirtual 112, 3) := by decide +kernel
theorem dX4_account_106 : decode cX4_account 106 = .ok (.ireturn, 1) := by decide +kernel
theorem dX4_account_107 : decode cX4_account 107 = .ok (.aload_n 0, 1) := by decide +kernel
theorem dX4_account_108 : decode cX4_account 108 = .ok (.getfield 12, 3) := by decide +kernel
theorem dX4_account_111 : decode cX4_account 111 = .ok (.invokevirtual 185, 3) := by decide +kernel
theorem dX4_account_114 : decode cX4_account 114 = .ok (.ireturn, 1) := by decide +kernel
theorem dX4_account_115 : decode cX4_account 115 = .ok (.aload_n 0, 1) := by decide +kernel
theorem dX4_account_116 : decode cX4_account 116 = .ok (.getfield 12, 3) := by decide +kernel
theorem dX4_account_119 : decode cX4_account 119 = .ok (.invokevirtual 192, 3) := by decide +kernel
theorem dX4_account_122 : decode cX4_account 122 = .ok (.ireturn, 1) := by decide +kernel
theorem dX4_account_123 : decode cX4_account 123 = .ok (.aload_n 0, 1) := by decide +kernel
theorem dX4_account_124 : decode cX4_account 124 = .ok (.getfield 12, 3) := by decide +kernel
theorem dX4_account_127 : decode cX4_account 127 = .ok (.invokevirtual 330, 3) := by decide +kernel
theorem dX4_account_130 : decode cX4_account 130 = .ok (.ireturn, 1) := by decide +kernel
theorem dX4_account_131 : decode cX4_account 131 = .ok (.aload_n 0, 1) := by decide +kernel
theorem dX4_account_132 : decode cX4_account 132 = .ok (.getfield 12, 3) := by decide +kernel
theorem dX4_account_135 : decode cX4_account 135 = .ok (.invokevirtual 333, 3) := by decide +kernel
theorem dX4_account_138 : decode cX4_account 138 = .ok (.ireturn, 1) := by decide +kernel
theorem dX4_account_139 : decode cX4_account 139 = .ok (.aload_n 0, 1) := by decide +kernel
theorem dX4_account_140 : decode cX4_account 140 = .ok (.getfield 12, 3) := by decide +kernel
theorem dX4_account_143 : decode cX4_account 143 = .ok (.getfield 336, 3) := by decide +kernel
theorem dX4_account_146 : decode cX4_account 146 = .ok (.ireturn, 1) := by decide +kernel
theorem dX4_account_147 : decode cX4_account 147 = .ok (.aload_n 0, 1) := by decide +kernel
theorem dX4_account_148 : decode cX4_account 148 = .ok (.getfield 12, 3) := by decide +kernel
theorem dX4_account_151 : decode cX4_account 151 = .ok (.getfield 246, 3) := by decide +kernel
theorem dX4_account_154 : decode cX4_account 154 = .ok (.ireturn, 1) := by decide +kernel
theorem dX4_account_155 : decode cX4_account 155 = .ok (.aload_n 0, 1) := by decide +kernel
theorem dX4_account_156 : decode cX4_account 156 = .ok (.getfield 12, 3) := by decide +kernel
theorem dX4_account_159 : decode cX4_account 159 = .ok (.getfield 249, 3) := by decide +kernel
theorem dX4_account_162 : decode cX4_account 162 = .ok (.ireturn, 1) := by decide +kernel
theorem dX4_account_163 : decode cX4_account 163 = .ok (.aload_n 0, 1) := by decide +kernel
theorem dX4_account_164 : decode cX4_account 164 = .ok (.getfield 12, 3) := by decide +kernel
theorem dX4_account_167 : decode cX4_account 167 = .ok (.getfield 339, 3) := by decide +kernel
theorem dX4_account_170 : decode cX4_account 170 = .ok (.ireturn, 1) := by decide +kernel
theorem dX4_account_171 : decode cX4_account 171 = .ok (.aload_n 0, 1) := by decide +kernel
theorem dX4_account_172 : decode cX4_account 172 = .ok (.getfield 45, 3) := by decide +kernel
theorem dX4_account_175 : decode cX4_account 175 = .ok (.ireturn, 1) := by decide +kernel
theorem dX4_account_176 : decode cX4_account 176 = .ok (.aload_n 0, 1) := by decide +kernel
theorem dX4_account_177 : decode cX4_account 177 = .ok (.getfield 30, 3) := by decide +kernel
theorem dX4_account_180 : decode cX4_account 180 = .ok (.ireturn, 1) := by decide +kernel
theorem dX4_account_181 : decode cX4_account 181 = .ok (.new 142, 3) := by decide +kernel
theorem dX4_account_184 : decode cX4_account 184 = .ok (.dup, 1) := by decide +kernel
theorem dX4_account_185 : decode cX4_account 185 = .ok (.ldc_w 342, 3) := by decide +kernel
theorem dX4_account_188 : decode cX4_account 188 = .ok (.invokespecial 146, 3) := by decide +kernel
theorem dX4_account_191 : decode cX4_account 191 = .ok (.athrow, 1) := by decide +kernel
theorem h9_X4_account : yX4_account.cls ≠ "java/lang/invoke/MethodHandle" ∧ yX4_account.cls ≠ "java/lang/invoke/VarHandle" ∧ (parseMethodDescriptor yX4_account.desc).map (fun d => d.parameters.length) = some 1 := by decide +kernel
noncomputable def F_X4_account (a0 : Nat) (x1 : Int32) (w : FW) : Option (Int32 ⊕ Nat) :=
  (if x1 = 0 then fg (w.1 a0 = 5) inferInstance (fg (w.1 (gR w 400 a0 0) = 2) inferInstance (some (.inl (gI w 101 (gR w 400 a0 0) 0)))) else (if x1 = 1 then fg (w.1 a0 = 5) inferInstance (fg (w.1 (gR w 400 a0 0) = 2) inferInstance (fg (w.1 (gR w 102 (gR w 400 a0 0) 0) = 4) inferInstance (some (.inl (gI w 301 (gR w 102 (gR w 400 a0 0) 0) 0))))) else (if x1 = 2 then fg (w.1 a0 = 5) inferInstance (fg (w.1 (gR w 400 a0 0) = 2) inferInstance (some (.inl (gI w 105 (gR w 400 a0 0) 0)))) else (if x1 = 3 then fg (w.1 a0 = 5) inferInstance (fg (w.1 (gR w 400 a0 0) = 2) inferInstance ((F_X1_openPiers (gR w 400 a0 0) w).bind (fun r13 => some (.inl r13)))) else (if x1 = 4 then fg (w.1 a0 = 5) inferInstance (fg (w.1 (gR w 400 a0 0) = 2) inferInstance ((F_X1_tornTickets (gR w 400 a0 0) w).bind (fun r19 => some (.inl r19)))) else (if x1 = 5 then fg (w.1 a0 = 5) inferInstance (fg (w.1 (gR w 400 a0 0) = 2) inferInstance ((F_X1_lostHalves (gR w 400 a0 0) w).bind (fun r25 => some (.inl r25)))) else (if x1 = 6 then fg (w.1 a0 = 5) inferInstance (fg (w.1 (gR w 400 a0 0) = 2) inferInstance ((F_X1_punchedHalves (gR w 400 a0 0) w).bind (fun r31 => some (.inl r31)))) else (if x1 = 7 then fg (w.1 a0 = 5) inferInstance (fg (w.1 (gR w 400 a0 0) = 2) inferInstance ((F_X1_holesLeft (gR w 400 a0 0) w).bind (fun r37 => some (.inl r37)))) else (if x1 = 8 then fg (w.1 a0 = 5) inferInstance (fg (w.1 (gR w 400 a0 0) = 2) inferInstance (some (.inl (gI w 106 (gR w 400 a0 0) 0)))) else (if x1 = 9 then fg (w.1 a0 = 5) inferInstance (fg (w.1 (gR w 400 a0 0) = 2) inferInstance (some (.inl (gI w 107 (gR w 400 a0 0) 0)))) else (if x1 = 10 then fg (w.1 a0 = 5) inferInstance (fg (w.1 (gR w 400 a0 0) = 2) inferInstance (some (.inl (gI w 108 (gR w 400 a0 0) 0)))) else (if x1 = 11 then fg (w.1 a0 = 5) inferInstance (fg (w.1 (gR w 400 a0 0) = 2) inferInstance (some (.inl (gI w 109 (gR w 400 a0 0) 0)))) else (if x1 = 12 then fg (w.1 a0 = 5) inferInstance (some (.inl (gI w 408 a0 0))) else (if x1 = 13 then fg (w.1 a0 = 5) inferInstance (some (.inl (gI w 405 a0 0))) else some (.inr 1)))))))))))))))
set_option maxHeartbeats 4000000 in
set_option maxRecDepth 100000 in
theorem c_X4_account (l : Launch) (D : va_G) (cy : Nat → ClassId) (a0 : Nat) (x1 : Int32) (w : FW) (r : Int32 ⊕ Nat) (hF : F_X4_account a0 x1 w = some r) : fSpecX l D cy yX4_account cX4_account 2 (some .int) { frames := 6, cells := 1, slots := 6, locals := 108 } [.ref a0, .int x1] w w (fOI r) := by
  refine f_beginX (by decide +kernel) (Nat.le_of_ble_eq_true rfl) (fun X hC hEn => ?_)
  have hst := f_st hC hEn
  unfold F_X4_account at hF
  show fAt X 0 0 2 w [(0, .ref a0), (1, .int x1)] [] 0
  refine f_iload_n hC dX4_account_0 rfl 1 rfl ?_
  by_cases c1 : x1 = 0
  · replace hF := fi_pos hF c1
    refine f_tabIn hC 72 dX4_account_1 (by rw [c1] <;> decide) (by rw [c1] <;> decide) (by rw [c1] <;> rfl) (by decide) ?_
    refine f_aload_n hC dX4_account_72 rfl 0 rfl ?_
    obtain ⟨g2, hF⟩ := fg_open hF
    refine f_getR hC 4 0 400 rfl (by decide) iX4 q_260 rfl rfl (fSm.k (fSm.rf w) g2) dX4_account_73 ?_
    obtain ⟨g3, hF⟩ := fg_open hF
    refine f_getIN hC 1 1 101 rfl (by decide) iX1 q_219 rfl rfl (fSm.k (fSm.rf w) g3) dX4_account_76 ?_
    obtain rfl := Option.some.inj hF
    refine f_widen (k' := 1) (s' := 6) (Nat.le_of_ble_eq_true rfl) (Nat.le_of_ble_eq_true rfl) ?_
    exact f_iretX hC hEn (fSm.rf w) dX4_account_79
  · replace hF := fi_neg hF c1
    by_cases c4 : x1 = 1
    · replace hF := fi_pos hF c4
      refine f_tabIn hC 80 dX4_account_1 (by rw [c4] <;> decide) (by rw [c4] <;> decide) (by rw [c4] <;> rfl) (by decide) ?_
      refine f_aload_n hC dX4_account_80 rfl 0 rfl ?_
      obtain ⟨g5, hF⟩ := fg_open hF
      refine f_getR hC 4 0 400 rfl (by decide) iX4 q_260 rfl rfl (fSm.k (fSm.rf w) g5) dX4_account_81 ?_
      obtain ⟨g6, hF⟩ := fg_open hF
      refine f_getRN hC 1 2 102 rfl (by decide) iX1 q_221 rfl rfl (fSm.k (fSm.rf w) g6) dX4_account_84 ?_
      obtain ⟨g7, hF⟩ := fg_open hF
      refine f_getIN hC 3 1 301 rfl (by decide) iX3 q_124 rfl rfl (fSm.k (fSm.rf w) g7) dX4_account_87 ?_
      obtain rfl := Option.some.inj hF
      refine f_widen (k' := 1) (s' := 6) (Nat.le_of_ble_eq_true rfl) (Nat.le_of_ble_eq_true rfl) ?_
      exact f_iretX hC hEn (fSm.rf w) dX4_account_90
    · replace hF := fi_neg hF c4
      by_cases c8 : x1 = 2
      · replace hF := fi_pos hF c8
        refine f_tabIn hC 91 dX4_account_1 (by rw [c8] <;> decide) (by rw [c8] <;> decide) (by rw [c8] <;> rfl) (by decide) ?_
        refine f_aload_n hC dX4_account_91 rfl 0 rfl ?_
        obtain ⟨g9, hF⟩ := fg_open hF
        refine f_getR hC 4 0 400 rfl (by decide) iX4 q_260 rfl rfl (fSm.k (fSm.rf w) g9) dX4_account_92 ?_
        obtain ⟨g10, hF⟩ := fg_open hF
        refine f_getIN hC 1 5 105 rfl (by decide) iX1 q_227 rfl rfl (fSm.k (fSm.rf w) g10) dX4_account_95 ?_
        obtain rfl := Option.some.inj hF
        refine f_widen (k' := 1) (s' := 6) (Nat.le_of_ble_eq_true rfl) (Nat.le_of_ble_eq_true rfl) ?_
        exact f_iretX hC hEn (fSm.rf w) dX4_account_98
      · replace hF := fi_neg hF c8
        by_cases c11 : x1 = 3
        · replace hF := fi_pos hF c11
          refine f_tabIn hC 99 dX4_account_1 (by rw [c11] <;> decide) (by rw [c11] <;> decide) (by rw [c11] <;> rfl) (by decide) ?_
          refine f_aload_n hC dX4_account_99 rfl 0 rfl ?_
          obtain ⟨g12, hF⟩ := fg_open hF
          refine f_getR hC 4 0 400 rfl (by decide) iX4 q_260 rfl rfl (fSm.k (fSm.rf w) g12) dX4_account_100 ?_
          obtain ⟨g15, hF⟩ := fg_open hF
          obtain ⟨r13, h14, hF⟩ := fb_open hF
          refine f_callVN hC [] (c_X1_openPiers l D cy (gR w 400 a0 0) w r13 h14) q_605 q_74 q_602 q_604 q_14 h9_X1_openPiers rfl (fSm.k (fSm.rf w) g15) ⟨Nat.le_of_ble_eq_true rfl, Nat.le_of_ble_eq_true rfl⟩ ⟨Nat.le_of_ble_eq_true rfl, Nat.le_of_ble_eq_true rfl⟩ (Nat.le_of_ble_eq_true rfl) rfl dX4_account_103 (fun e16 => ?_)
          obtain rfl := Option.some.inj hF
          refine f_widen (k' := 1) (s' := 6) (Nat.le_of_ble_eq_true rfl) (Nat.le_of_ble_eq_true rfl) ?_
          exact f_iretX hC hEn (fSm.rf w) dX4_account_106
        · replace hF := fi_neg hF c11
          by_cases c17 : x1 = 4
          · replace hF := fi_pos hF c17
            refine f_tabIn hC 107 dX4_account_1 (by rw [c17] <;> decide) (by rw [c17] <;> decide) (by rw [c17] <;> rfl) (by decide) ?_
            refine f_aload_n hC dX4_account_107 rfl 0 rfl ?_
            obtain ⟨g18, hF⟩ := fg_open hF
            refine f_getR hC 4 0 400 rfl (by decide) iX4 q_260 rfl rfl (fSm.k (fSm.rf w) g18) dX4_account_108 ?_
            obtain ⟨g21, hF⟩ := fg_open hF
            obtain ⟨r19, h20, hF⟩ := fb_open hF
            refine f_callVN hC [] (c_X1_tornTickets l D cy (gR w 400 a0 0) w r19 h20) q_609 q_74 q_606 q_608 q_15 h9_X1_tornTickets rfl (fSm.k (fSm.rf w) g21) ⟨Nat.le_of_ble_eq_true rfl, Nat.le_of_ble_eq_true rfl⟩ ⟨Nat.le_of_ble_eq_true rfl, Nat.le_of_ble_eq_true rfl⟩ (Nat.le_of_ble_eq_true rfl) rfl dX4_account_111 (fun e22 => ?_)
            obtain rfl := Option.some.inj hF
            refine f_widen (k' := 1) (s' := 6) (Nat.le_of_ble_eq_true rfl) (Nat.le_of_ble_eq_true rfl) ?_
            exact f_iretX hC hEn (fSm.rf w) dX4_account_114
          · replace hF := fi_neg hF c17
            by_cases c23 : x1 = 5
            · replace hF := fi_pos hF c23
              refine f_tabIn hC 115 dX4_account_1 (by rw [c23] <;> decide) (by rw [c23] <;> decide) (by rw [c23] <;> rfl) (by decide) ?_
              refine f_aload_n hC dX4_account_115 rfl 0 rfl ?_
              obtain ⟨g24, hF⟩ := fg_open hF
              refine f_getR hC 4 0 400 rfl (by decide) iX4 q_260 rfl rfl (fSm.k (fSm.rf w) g24) dX4_account_116 ?_
              obtain ⟨g27, hF⟩ := fg_open hF
              obtain ⟨r25, h26, hF⟩ := fb_open hF
              refine f_callVN hC [] (c_X1_lostHalves l D cy (gR w 400 a0 0) w r25 h26) q_613 q_74 q_610 q_612 q_16 h9_X1_lostHalves rfl (fSm.k (fSm.rf w) g27) ⟨Nat.le_of_ble_eq_true rfl, Nat.le_of_ble_eq_true rfl⟩ ⟨Nat.le_of_ble_eq_true rfl, Nat.le_of_ble_eq_true rfl⟩ (Nat.le_of_ble_eq_true rfl) rfl dX4_account_119 (fun e28 => ?_)
              obtain rfl := Option.some.inj hF
              refine f_widen (k' := 1) (s' := 6) (Nat.le_of_ble_eq_true rfl) (Nat.le_of_ble_eq_true rfl) ?_
              exact f_iretX hC hEn (fSm.rf w) dX4_account_122
            · replace hF := fi_neg hF c23
              by_cases c29 : x1 = 6
              · replace hF := fi_pos hF c29
                refine f_tabIn hC 123 dX4_account_1 (by rw [c29] <;> decide) (by rw [c29] <;> decide) (by rw [c29] <;> rfl) (by decide) ?_
                refine f_aload_n hC dX4_account_123 rfl 0 rfl ?_
                obtain ⟨g30, hF⟩ := fg_open hF
                refine f_getR hC 4 0 400 rfl (by decide) iX4 q_260 rfl rfl (fSm.k (fSm.rf w) g30) dX4_account_124 ?_
                obtain ⟨g33, hF⟩ := fg_open hF
                obtain ⟨r31, h32, hF⟩ := fb_open hF
                refine f_callVN hC [] (c_X1_punchedHalves l D cy (gR w 400 a0 0) w r31 h32) q_617 q_74 q_614 q_616 q_17 h9_X1_punchedHalves rfl (fSm.k (fSm.rf w) g33) ⟨Nat.le_of_ble_eq_true rfl, Nat.le_of_ble_eq_true rfl⟩ ⟨Nat.le_of_ble_eq_true rfl, Nat.le_of_ble_eq_true rfl⟩ (Nat.le_of_ble_eq_true rfl) rfl dX4_account_127 (fun e34 => ?_)
                obtain rfl := Option.some.inj hF
                refine f_widen (k' := 1) (s' := 6) (Nat.le_of_ble_eq_true rfl) (Nat.le_of_ble_eq_true rfl) ?_
                exact f_iretX hC hEn (fSm.rf w) dX4_account_130
              · replace hF := fi_neg hF c29
                by_cases c35 : x1 = 7
                · replace hF := fi_pos hF c35
                  refine f_tabIn hC 131 dX4_account_1 (by rw [c35] <;> decide) (by rw [c35] <;> decide) (by rw [c35] <;> rfl) (by decide) ?_
                  refine f_aload_n hC dX4_account_131 rfl 0 rfl ?_
                  obtain ⟨g36, hF⟩ := fg_open hF
                  refine f_getR hC 4 0 400 rfl (by decide) iX4 q_260 rfl rfl (fSm.k (fSm.rf w) g36) dX4_account_132 ?_
                  obtain ⟨g39, hF⟩ := fg_open hF
                  obtain ⟨r37, h38, hF⟩ := fb_open hF
                  refine f_callVN hC [] (c_X1_holesLeft l D cy (gR w 400 a0 0) w r37 h38) q_621 q_74 q_618 q_620 q_18 h9_X1_holesLeft rfl (fSm.k (fSm.rf w) g39) ⟨Nat.le_of_ble_eq_true rfl, Nat.le_of_ble_eq_true rfl⟩ ⟨Nat.le_of_ble_eq_true rfl, Nat.le_of_ble_eq_true rfl⟩ (Nat.le_of_ble_eq_true rfl) rfl dX4_account_135 (fun e40 => ?_)
                  obtain rfl := Option.some.inj hF
                  refine f_widen (k' := 1) (s' := 6) (Nat.le_of_ble_eq_true rfl) (Nat.le_of_ble_eq_true rfl) ?_
                  exact f_iretX hC hEn (fSm.rf w) dX4_account_138
                · replace hF := fi_neg hF c35
                  by_cases c41 : x1 = 8
                  · replace hF := fi_pos hF c41
                    refine f_tabIn hC 139 dX4_account_1 (by rw [c41] <;> decide) (by rw [c41] <;> decide) (by rw [c41] <;> rfl) (by decide) ?_
                    refine f_aload_n hC dX4_account_139 rfl 0 rfl ?_
                    obtain ⟨g42, hF⟩ := fg_open hF
                    refine f_getR hC 4 0 400 rfl (by decide) iX4 q_260 rfl rfl (fSm.k (fSm.rf w) g42) dX4_account_140 ?_
                    obtain ⟨g43, hF⟩ := fg_open hF
                    refine f_getIN hC 1 6 106 rfl (by decide) iX1 q_229 rfl rfl (fSm.k (fSm.rf w) g43) dX4_account_143 ?_
                    obtain rfl := Option.some.inj hF
                    refine f_widen (k' := 1) (s' := 6) (Nat.le_of_ble_eq_true rfl) (Nat.le_of_ble_eq_true rfl) ?_
                    exact f_iretX hC hEn (fSm.rf w) dX4_account_146
                  · replace hF := fi_neg hF c41
                    by_cases c44 : x1 = 9
                    · replace hF := fi_pos hF c44
                      refine f_tabIn hC 147 dX4_account_1 (by rw [c44] <;> decide) (by rw [c44] <;> decide) (by rw [c44] <;> rfl) (by decide) ?_
                      refine f_aload_n hC dX4_account_147 rfl 0 rfl ?_
                      obtain ⟨g45, hF⟩ := fg_open hF
                      refine f_getR hC 4 0 400 rfl (by decide) iX4 q_260 rfl rfl (fSm.k (fSm.rf w) g45) dX4_account_148 ?_
                      obtain ⟨g46, hF⟩ := fg_open hF
                      refine f_getIN hC 1 7 107 rfl (by decide) iX1 q_231 rfl rfl (fSm.k (fSm.rf w) g46) dX4_account_151 ?_
                      obtain rfl := Option.some.inj hF
                      refine f_widen (k' := 1) (s' := 6) (Nat.le_of_ble_eq_true rfl) (Nat.le_of_ble_eq_true rfl) ?_
                      exact f_iretX hC hEn (fSm.rf w) dX4_account_154
                    · replace hF := fi_neg hF c44
                      by_cases c47 : x1 = 10
                      · replace hF := fi_pos hF c47
                        refine f_tabIn hC 155 dX4_account_1 (by rw [c47] <;> decide) (by rw [c47] <;> decide) (by rw [c47] <;> rfl) (by decide) ?_
                        refine f_aload_n hC dX4_account_155 rfl 0 rfl ?_
                        obtain ⟨g48, hF⟩ := fg_open hF
                        refine f_getR hC 4 0 400 rfl (by decide) iX4 q_260 rfl rfl (fSm.k (fSm.rf w) g48) dX4_account_156 ?_
                        obtain ⟨g49, hF⟩ := fg_open hF
                        refine f_getIN hC 1 8 108 rfl (by decide) iX1 q_233 rfl rfl (fSm.k (fSm.rf w) g49) dX4_account_159 ?_
                        obtain rfl := Option.some.inj hF
                        refine f_widen (k' := 1) (s' := 6) (Nat.le_of_ble_eq_true rfl) (Nat.le_of_ble_eq_true rfl) ?_
                        exact f_iretX hC hEn (fSm.rf w) dX4_account_162
                      · replace hF := fi_neg hF c47
                        by_cases c50 : x1 = 11
                        · replace hF := fi_pos hF c50
                          refine f_tabIn hC 163 dX4_account_1 (by rw [c50] <;> decide) (by rw [c50] <;> decide) (by rw [c50] <;> rfl) (by decide) ?_
                          refine f_aload_n hC dX4_account_163 rfl 0 rfl ?_
                          obtain ⟨g51, hF⟩ := fg_open hF
                          refine f_getR hC 4 0 400 rfl (by decide) iX4 q_260 rfl rfl (fSm.k (fSm.rf w) g51) dX4_account_164 ?_
                          obtain ⟨g52, hF⟩ := fg_open hF
                          refine f_getIN hC 1 9 109 rfl (by decide) iX1 q_235 rfl rfl (fSm.k (fSm.rf w) g52) dX4_account_167 ?_
                          obtain rfl := Option.some.inj hF
                          refine f_widen (k' := 1) (s' := 6) (Nat.le_of_ble_eq_true rfl) (Nat.le_of_ble_eq_true rfl) ?_
                          exact f_iretX hC hEn (fSm.rf w) dX4_account_170
                        · replace hF := fi_neg hF c50
                          by_cases c53 : x1 = 12
                          · replace hF := fi_pos hF c53
                            refine f_tabIn hC 171 dX4_account_1 (by rw [c53] <;> decide) (by rw [c53] <;> decide) (by rw [c53] <;> rfl) (by decide) ?_
                            refine f_aload_n hC dX4_account_171 rfl 0 rfl ?_
                            obtain ⟨g54, hF⟩ := fg_open hF
                            refine f_getI hC 4 8 408 rfl (by decide) iX4 q_268 rfl rfl (fSm.k (fSm.rf w) g54) dX4_account_172 ?_
                            obtain rfl := Option.some.inj hF
                            refine f_widen (k' := 1) (s' := 6) (Nat.le_of_ble_eq_true rfl) (Nat.le_of_ble_eq_true rfl) ?_
                            exact f_iretX hC hEn (fSm.rf w) dX4_account_175
                          · replace hF := fi_neg hF c53
                            by_cases c55 : x1 = 13
                            · replace hF := fi_pos hF c55
                              refine f_tabIn hC 176 dX4_account_1 (by rw [c55] <;> decide) (by rw [c55] <;> decide) (by rw [c55] <;> rfl) (by decide) ?_
                              refine f_aload_n hC dX4_account_176 rfl 0 rfl ?_
                              obtain ⟨g56, hF⟩ := fg_open hF
                              refine f_getI hC 4 5 405 rfl (by decide) iX4 q_265 rfl rfl (fSm.k (fSm.rf w) g56) dX4_account_177 ?_
                              obtain rfl := Option.some.inj hF
                              refine f_widen (k' := 1) (s' := 6) (Nat.le_of_ble_eq_true rfl) (Nat.le_of_ble_eq_true rfl) ?_
                              exact f_iretX hC hEn (fSm.rf w) dX4_account_180
                            · replace hF := fi_neg hF c55
                              refine f_tabOut hC 181 dX4_account_1 (ftab 0 13 (by decide) (by decide) (fun j h1 h2 => ?_)) (by decide) ?_
                              · rcases (show j = 0 ∨ j = 1 ∨ j = 2 ∨ j = 3 ∨ j = 4 ∨ j = 5 ∨ j = 6 ∨ j = 7 ∨ j = 8 ∨ j = 9 ∨ j = 10 ∨ j = 11 ∨ j = 12 ∨ j = 13 by omega) with rfl | rfl | rfl | rfl | rfl | rfl | rfl | rfl | rfl | rfl | rfl | rfl | rfl | rfl
                                · exact c1
                                · exact c4
                                · exact c8
                                · exact c11
                                · exact c17
                                · exact c23
                                · exact c29
                                · exact c35
                                · exact c41
                                · exact c44
                                · exact c47
                                · exact c50
                                · exact c53
                                · exact c55
                              obtain rfl := Option.some.inj hF
                              exact f_throwSW hC hEn (fSm.rf w) 48 rfl xf_1 xn_1 q_497 q_81 rfl xa_RX4_146 xg_RX4_142_146 dX4_account_181 dX4_account_184 dX4_account_185 dX4_account_188 dX4_account_191 (Nat.le_of_ble_eq_true rfl) (Nat.le_of_ble_eq_true rfl) (Nat.le_of_ble_eq_true rfl) (Nat.le_of_ble_eq_true rfl) (Nat.le_of_ble_eq_true rfl) (Nat.le_of_ble_eq_true rfl)
theorem dX4_meanWet_0 : decode cX4_meanWet 0 = .ok (.iconst 2, 1) := by decide +kernel
theorem dX4_meanWet_1 : decode cX4_meanWet 1 = .ok (.aload_n 0, 1) := by decide +kernel
theorem dX4_meanWet_2 : decode cX4_meanWet 2 = .ok (.getfield 12, 3) := by decide +kernel
theorem dX4_meanWet_5 : decode cX4_meanWet 5 = .ok (.getfield 66, 3) := by decide +kernel
theorem dX4_meanWet_8 : decode cX4_meanWet 8 = .ok (.imul, 1) := by decide +kernel
theorem dX4_meanWet_9 : decode cX4_meanWet 9 = .ok (.istore_n 1, 1) := by decide +kernel
theorem dX4_meanWet_10 : decode cX4_meanWet 10 = .ok (.iload_n 1, 1) := by decide +kernel
theorem dX4_meanWet_11 : decode cX4_meanWet 11 = .ok (.ifCond .ne 14, 3) := by decide +kernel
theorem dX4_meanWet_14 : decode cX4_meanWet 14 = .ok (.new 344, 3) := by decide +kernel
theorem dX4_meanWet_17 : decode cX4_meanWet 17 = .ok (.dup, 1) := by decide +kernel
theorem dX4_meanWet_18 : decode cX4_meanWet 18 = .ok (.ldc_w 346, 3) := by decide +kernel
theorem dX4_meanWet_21 : decode cX4_meanWet 21 = .ok (.invokespecial 348, 3) := by decide +kernel
theorem dX4_meanWet_24 : decode cX4_meanWet 24 = .ok (.athrow, 1) := by decide +kernel
theorem dX4_meanWet_25 : decode cX4_meanWet 25 = .ok (.iconst 0, 1) := by decide +kernel
theorem dX4_meanWet_26 : decode cX4_meanWet 26 = .ok (.istore_n 2, 1) := by decide +kernel
theorem dX4_meanWet_27 : decode cX4_meanWet 27 = .ok (.iconst 0, 1) := by decide +kernel
theorem dX4_meanWet_28 : decode cX4_meanWet 28 = .ok (.istore_n 3, 1) := by decide +kernel
theorem dX4_meanWet_29 : decode cX4_meanWet 29 = .ok (.iload_n 3, 1) := by decide +kernel
theorem dX4_meanWet_30 : decode cX4_meanWet 30 = .ok (.aload_n 0, 1) := by decide +kernel
theorem dX4_meanWet_31 : decode cX4_meanWet 31 = .ok (.getfield 12, 3) := by decide +kernel
theorem dX4_meanWet_34 : decode cX4_meanWet 34 = .ok (.getfield 66, 3) := by decide +kernel
theorem dX4_meanWet_37 : decode cX4_meanWet 37 = .ok (.if_icmp .ge 24, 3) := by decide +kernel
theorem dX4_meanWet_40 : decode cX4_meanWet 40 = .ok (.iload_n 2, 1) := by decide +kernel
theorem dX4_meanWet_41 : decode cX4_meanWet 41 = .ok (.aload_n 0, 1) := by decide +kernel
theorem dX4_meanWet_42 : decode cX4_meanWet 42 = .ok (.getfield 12, 3) := by decide +kernel
theorem dX4_meanWet_45 : decode cX4_meanWet 45 = .ok (.getfield 235, 3) := by decide +kernel
theorem dX4_meanWet_48 : decode cX4_meanWet 48 = .ok (.iload_n 3, 1) := by decide +kernel
theorem dX4_meanWet_49 : decode cX4_meanWet 49 = .ok (.aaload, 1) := by decide +kernel
theorem dX4_meanWet_50 : decode cX4_meanWet 50 = .ok (.invokevirtual 349, 3) := by decide +kernel
theorem dX4_meanWet_53 : decode cX4_meanWet 53 = .ok (.iadd, 1) := by decide +kernel
theorem dX4_meanWet_54 : decode cX4_meanWet 54 = .ok (.istore_n 2, 1) := by decide +kernel
theorem dX4_meanWet_55 : decode cX4_meanWet 55 = .ok (.iinc 3 1, 3) := by decide +kernel
theorem dX4_meanWet_58 : decode cX4_meanWet 58 = .ok (.goto (-29), 3) := by decide +kernel
theorem dX4_meanWet_61 : decode cX4_meanWet 61 = .ok (.iload_n 2, 1) := by decide +kernel
theorem dX4_meanWet_62 : decode cX4_meanWet 62 = .ok (.i2d, 1) := by decide +kernel
theorem dX4_meanWet_63 : decode cX4_meanWet 63 = .ok (.iload_n 1, 1) := by decide +kernel
theorem dX4_meanWet_64 : decode cX4_meanWet 64 = .ok (.i2d, 1) := by decide +kernel
theorem dX4_meanWet_65 : decode cX4_meanWet 65 = .ok (.ddiv, 1) := by decide +kernel
theorem dX4_meanWet_66 : decode cX4_meanWet 66 = .ok (.dreturn, 1) := by decide +kernel
theorem h9_X4_meanWet : yX4_meanWet.cls ≠ "java/lang/invoke/MethodHandle" ∧ yX4_meanWet.cls ≠ "java/lang/invoke/VarHandle" ∧ (parseMethodDescriptor yX4_meanWet.desc).map (fun d => d.parameters.length) = some 0 := by decide +kernel
noncomputable def F_X4_meanWet (a0 : Nat) (w : FW) : Option (UInt64 ⊕ Nat) :=
  fg (w.1 a0 = 5) inferInstance (fg (w.1 (gR w 400 a0 0) = 2) inferInstance ((if (2 * (gI w 101 (gR w 400 a0 0) 0)) = 0 then some (.inr 3) else (fLoop (σ := Int32 × Int32) (ρ := Int32) (fun s4 => (if (gI w 101 (gR w 400 a0 0) 0) ≤ s4.2 then some (.inr s4.1) else fg (w.1 (gR w 100 (gR w 400 a0 0) 0) = 14) inferInstance (fg (¬ (s4.2 < 0 ∨ w.2.1 (gR w 100 (gR w 400 a0 0) 0) ≤ Int32.toNatClampNeg s4.2)) inferInstance (fg (w.1 (gR w 604 (gR w 100 (gR w 400 a0 0) 0) (Int32.toNatClampNeg s4.2)) = 3) inferInstance ((F_X2_wetness (gR w 604 (gR w 100 (gR w 400 a0 0) 0) (Int32.toNatClampNeg s4.2)) w).bind (fun r16 => some (.inl ((s4.1 + r16), (s4.2 + 1))))))))) (0, 0)).bind (fun x10 => fg ((FP.ddiv (FP.i2d x10) (FP.i2d (2 * (gI w 101 (gR w 400 a0 0) 0)))) &&& 0x7fffffffffffffff ≤ 0x7ff0000000000000) inferInstance (some (.inl (FP.ddiv (FP.i2d x10) (FP.i2d (2 * (gI w 101 (gR w 400 a0 0) 0))))))))))
set_option maxHeartbeats 4000000 in
set_option maxRecDepth 100000 in
theorem c_X4_meanWet (l : Launch) (D : va_G) (cy : Nat → ClassId) (a0 : Nat) (w : FW) (r : UInt64 ⊕ Nat) (hF : F_X4_meanWet a0 w = some r) : fSpecX l D cy yX4_meanWet cX4_meanWet 4 (some .double) { frames := 6, cells := 1, slots := 6, locals := 100 } [.ref a0] w w (fOD r) := by
  refine f_beginX (by decide +kernel) (Nat.le_of_ble_eq_true rfl) (fun X hC hEn => ?_)
  have hst := f_st hC hEn
  unfold F_X4_meanWet at hF
  show fAt X 0 0 4 w [(0, .ref a0)] [] 0
  refine f_iconst (v := 2) hC dX4_meanWet_0 (by decide) ?_
  refine f_aload_n hC dX4_meanWet_1 rfl 0 rfl ?_
  obtain ⟨g1, hF⟩ := fg_open hF
  refine f_getR hC 4 0 400 rfl (by decide) iX4 q_260 rfl rfl (fSm.k (fSm.rf w) g1) dX4_meanWet_2 ?_
  obtain ⟨g2, hF⟩ := fg_open hF
  refine f_getIN hC 1 1 101 rfl (by decide) iX1 q_219 rfl rfl (fSm.k (fSm.rf w) g2) dX4_meanWet_5 ?_
  refine f_imul hC dX4_meanWet_8 ?_
  refine f_istore_n (L' := [(1, .int (2 * (gI w 101 (gR w 400 a0 0) 0))), (0, .ref a0)]) hC dX4_meanWet_9 rfl (by decide) rfl ?_
  refine f_iload_n hC dX4_meanWet_10 rfl 0 rfl ?_
  refine f_if_ne hC 25 dX4_meanWet_11 (by decide) (fun c3 => ?_) (fun c3 => ?_)
  · replace hF := fi_neg hF c3
    refine f_iconst (v := 0) hC dX4_meanWet_25 (by decide) ?_
    refine f_istore_n (L' := [(2, .int 0), (1, .int (2 * (gI w 101 (gR w 400 a0 0) 0))), (0, .ref a0)]) hC dX4_meanWet_26 rfl (by decide) rfl ?_
    refine f_iconst (v := 0) hC dX4_meanWet_27 (by decide) ?_
    refine f_istore_n (L' := [(3, .int 0), (2, .int 0), (1, .int (2 * (gI w 101 (gR w 400 a0 0) 0))), (0, .ref a0)]) hC dX4_meanWet_28 rfl (by decide) rfl ?_
    obtain ⟨x10, h11, hF⟩ := fb_open hF
    have K12 : fAt X 0 0 4 w [(1, .int (2 * (gI w 101 (gR w 400 a0 0) 0))), (2, .int x10)] [] 61 := by
      refine f_iload_n hC dX4_meanWet_61 rfl 1 rfl ?_
      refine f_i2d hC dX4_meanWet_62 ?_
      refine f_iload_n hC dX4_meanWet_63 rfl 0 rfl ?_
      refine f_i2d hC dX4_meanWet_64 ?_
      obtain ⟨g20, hF⟩ := fg_open hF
      refine f_ddiv hC dX4_meanWet_65 g20 ?_
      obtain rfl := Option.some.inj hF
      refine f_widen (k' := 1) (s' := 6) (Nat.le_of_ble_eq_true rfl) (Nat.le_of_ble_eq_true rfl) ?_
      exact f_dretX hC hEn (fSm.rf w) dX4_meanWet_66
    refine f_sub (L' := [(0, .ref a0), (1, .int (2 * (gI w 101 (gR w 400 a0 0) 0))), (2, .int 0), (3, .int 0)]) [3, 2, 1, 0] rfl ?_
    refine fLoop_ind (fun (s4 : Int32 × Int32) => fAt X 0 0 4 w [(0, .ref a0), (1, .int (2 * (gI w 101 (gR w 400 a0 0) 0))), (2, .int s4.1), (3, .int s4.2)] [] 29) (fun s4 y9 h5 go6 ou7 => ?_) h11
    refine f_iload_n hC dX4_meanWet_29 rfl 3 rfl ?_
    refine f_aload_n hC dX4_meanWet_30 rfl 0 rfl ?_
    refine f_getR hC 4 0 400 rfl (by decide) iX4 q_260 rfl rfl (fSm.k (fSm.rf w) g1) dX4_meanWet_31 ?_
    refine f_getIN hC 1 1 101 rfl (by decide) iX1 q_219 rfl rfl (fSm.k (fSm.rf w) g2) dX4_meanWet_34 ?_
    refine f_icmp_ge hC 61 dX4_meanWet_37 (by decide) (fun c13 => ?_) (fun c13 => ?_)
    · replace h5 := fi_pos h5 c13
      obtain rfl := Option.some.inj h5
      obtain rfl := ou7 _ rfl
      refine f_sub (L' := [(1, .int (2 * (gI w 101 (gR w 400 a0 0) 0))), (2, .int s4.1)]) [1, 2] rfl ?_
      exact K12
    · replace h5 := fi_neg h5 c13
      refine f_iload_n hC dX4_meanWet_40 rfl 2 rfl ?_
      refine f_aload_n hC dX4_meanWet_41 rfl 0 rfl ?_
      refine f_getR hC 4 0 400 rfl (by decide) iX4 q_260 rfl rfl (fSm.k (fSm.rf w) g1) dX4_meanWet_42 ?_
      refine f_getRN hC 1 0 100 rfl (by decide) iX1 q_217 rfl rfl (fSm.k (fSm.rf w) g2) dX4_meanWet_45 ?_
      refine f_iload_n hC dX4_meanWet_48 rfl 3 rfl ?_
      obtain ⟨g14, h5⟩ := fg_open h5
      obtain ⟨g15, h5⟩ := fg_open h5
      refine f_aald1 hC (fSm.k (fSm.rf w) g14) (fSm.v (fSm.rf w) g15) dX4_meanWet_49 ?_
      obtain ⟨g18, h5⟩ := fg_open h5
      obtain ⟨r16, h17, h5⟩ := fb_open h5
      refine f_callVN hC [] (c_X2_wetness l D cy (gR w 604 (gR w 100 (gR w 400 a0 0) 0) (Int32.toNatClampNeg s4.2)) w r16 h17) q_1332 q_76 q_1385 q_1331 q_66 h9_X2_wetness rfl (fSm.k (fSm.rf w) g18) ⟨Nat.le_of_ble_eq_true rfl, Nat.le_of_ble_eq_true rfl⟩ ⟨Nat.le_of_ble_eq_true rfl, Nat.le_of_ble_eq_true rfl⟩ (Nat.le_of_ble_eq_true rfl) rfl dX4_meanWet_50 (fun e19 => ?_)
      refine f_iadd hC dX4_meanWet_53 ?_
      refine f_istore_n (L' := [(2, .int (s4.1 + r16)), (0, .ref a0), (1, .int (2 * (gI w 101 (gR w 400 a0 0) 0))), (3, .int s4.2)]) hC dX4_meanWet_54 rfl (by decide) rfl ?_
      refine f_iinc (L' := [(3, .int (s4.2 + 1)), (2, .int (s4.1 + r16)), (0, .ref a0), (1, .int (2 * (gI w 101 (gR w 400 a0 0) 0)))]) hC dX4_meanWet_55 3 rfl rfl (by decide) rfl ?_
      refine f_goto hC 29 dX4_meanWet_58 (by decide) ?_
      obtain rfl := Option.some.inj h5
      refine f_sub (L' := [(0, .ref a0), (1, .int (2 * (gI w 101 (gR w 400 a0 0) 0))), (2, .int (s4.1 + r16)), (3, .int (s4.2 + 1))]) [2, 3, 1, 0] rfl ?_
      exact go6 _ rfl
  · replace hF := fi_pos hF c3
    obtain rfl := Option.some.inj hF
    exact f_throwSW hC hEn (fSm.rf w) 49 rfl xf_3 xn_3 q_1382 q_99 rfl xa_RX4_348 xg_RX4_344_348 dX4_meanWet_14 dX4_meanWet_17 dX4_meanWet_18 dX4_meanWet_21 dX4_meanWet_24 (Nat.le_of_ble_eq_true rfl) (Nat.le_of_ble_eq_true rfl) (Nat.le_of_ble_eq_true rfl) (Nat.le_of_ble_eq_true rfl) (Nat.le_of_ble_eq_true rfl) (Nat.le_of_ble_eq_true rfl)
theorem dX1_rightHalves_0 : decode cX1_rightHalves 0 = .ok (.iconst 0, 1) := by decide +kernel
theorem dX1_rightHalves_1 : decode cX1_rightHalves 1 = .ok (.istore_n 1, 1) := by decide +kernel
theorem dX1_rightHalves_2 : decode cX1_rightHalves 2 = .ok (.iconst 0, 1) := by decide +kernel
theorem dX1_rightHalves_3 : decode cX1_rightHalves 3 = .ok (.istore_n 2, 1) := by decide +kernel
theorem dX1_rightHalves_4 : decode cX1_rightHalves 4 = .ok (.iload_n 2, 1) := by decide +kernel
theorem dX1_rightHalves_5 : decode cX1_rightHalves 5 = .ok (.aload_n 0, 1) := by decide +kernel
theorem dX1_rightHalves_6 : decode cX1_rightHalves 6 = .ok (.getfield 17, 3) := by decide +kernel
theorem dX1_rightHalves_9 : decode cX1_rightHalves 9 = .ok (.if_icmp .ge 73, 3) := by decide +kernel
theorem dX1_rightHalves_12 : decode cX1_rightHalves 12 = .ok (.iload_n 1, 1) := by decide +kernel
theorem dX1_rightHalves_13 : decode cX1_rightHalves 13 = .ok (.aload_n 0, 1) := by decide +kernel
theorem dX1_rightHalves_14 : decode cX1_rightHalves 14 = .ok (.getfield 11, 3) := by decide +kernel
theorem dX1_rightHalves_17 : decode cX1_rightHalves 17 = .ok (.iload_n 2, 1) := by decide +kernel
theorem dX1_rightHalves_18 : decode cX1_rightHalves 18 = .ok (.aaload, 1) := by decide +kernel
theorem dX1_rightHalves_19 : decode cX1_rightHalves 19 = .ok (.getfield 73, 3) := by decide +kernel
theorem dX1_rightHalves_22 : decode cX1_rightHalves 22 = .ok (.aload_n 0, 1) := by decide +kernel
theorem dX1_rightHalves_23 : decode cX1_rightHalves 23 = .ok (.getfield 11, 3) := by decide +kernel
theorem dX1_rightHalves_26 : decode cX1_rightHalves 26 = .ok (.iload_n 2, 1) := by decide +kernel
theorem dX1_rightHalves_27 : decode cX1_rightHalves 27 = .ok (.aaload, 1) := by decide +kernel
theorem dX1_rightHalves_28 : decode cX1_rightHalves 28 = .ok (.getfield 88, 3) := by decide +kernel
theorem dX1_rightHalves_31 : decode cX1_rightHalves 31 = .ok (.invokevirtual 91, 3) := by decide +kernel
theorem dX1_rightHalves_34 : decode cX1_rightHalves 34 = .ok (.ifCond .eq 7, 3) := by decide +kernel
theorem dX1_rightHalves_37 : decode cX1_rightHalves 37 = .ok (.iconst 1, 1) := by decide +kernel
theorem dX1_rightHalves_38 : decode cX1_rightHalves 38 = .ok (.goto 4, 3) := by decide +kernel
theorem dX1_rightHalves_41 : decode cX1_rightHalves 41 = .ok (.iconst 0, 1) := by decide +kernel
theorem dX1_rightHalves_42 : decode cX1_rightHalves 42 = .ok (.iadd, 1) := by decide +kernel
theorem dX1_rightHalves_43 : decode cX1_rightHalves 43 = .ok (.istore_n 1, 1) := by decide +kernel
theorem dX1_rightHalves_44 : decode cX1_rightHalves 44 = .ok (.iload_n 1, 1) := by decide +kernel
theorem dX1_rightHalves_45 : decode cX1_rightHalves 45 = .ok (.aload_n 0, 1) := by decide +kernel
theorem dX1_rightHalves_46 : decode cX1_rightHalves 46 = .ok (.getfield 11, 3) := by decide +kernel
theorem dX1_rightHalves_49 : decode cX1_rightHalves 49 = .ok (.iload_n 2, 1) := by decide +kernel
theorem dX1_rightHalves_50 : decode cX1_rightHalves 50 = .ok (.aaload, 1) := by decide +kernel
theorem dX1_rightHalves_51 : decode cX1_rightHalves 51 = .ok (.getfield 82, 3) := by decide +kernel
theorem dX1_rightHalves_54 : decode cX1_rightHalves 54 = .ok (.aload_n 0, 1) := by decide +kernel
theorem dX1_rightHalves_55 : decode cX1_rightHalves 55 = .ok (.getfield 11, 3) := by decide +kernel
theorem dX1_rightHalves_58 : decode cX1_rightHalves 58 = .ok (.iload_n 2, 1) := by decide +kernel
theorem dX1_rightHalves_59 : decode cX1_rightHalves 59 = .ok (.aaload, 1) := by decide +kernel
theorem dX1_rightHalves_60 : decode cX1_rightHalves 60 = .ok (.getfield 88, 3) := by decide +kernel
theorem dX1_rightHalves_63 : decode cX1_rightHalves 63 = .ok (.invokevirtual 91, 3) := by decide +kernel
theorem dX1_rightHalves_66 : decode cX1_rightHalves 66 = .ok (.ifCond .eq 7, 3) := by decide +kernel
theorem dX1_rightHalves_69 : decode cX1_rightHalves 69 = .ok (.iconst 1, 1) := by decide +kernel
theorem dX1_rightHalves_70 : decode cX1_rightHalves 70 = .ok (.goto 4, 3) := by decide +kernel
theorem dX1_rightHalves_73 : decode cX1_rightHalves 73 = .ok (.iconst 0, 1) := by decide +kernel
theorem dX1_rightHalves_74 : decode cX1_rightHalves 74 = .ok (.iadd, 1) := by decide +kernel
theorem dX1_rightHalves_75 : decode cX1_rightHalves 75 = .ok (.istore_n 1, 1) := by decide +kernel
theorem dX1_rightHalves_76 : decode cX1_rightHalves 76 = .ok (.iinc 2 1, 3) := by decide +kernel
theorem dX1_rightHalves_79 : decode cX1_rightHalves 79 = .ok (.goto (-75), 3) := by decide +kernel
theorem dX1_rightHalves_82 : decode cX1_rightHalves 82 = .ok (.iload_n 1, 1) := by decide +kernel
theorem dX1_rightHalves_83 : decode cX1_rightHalves 83 = .ok (.ireturn, 1) := by decide +kernel
theorem h9_X1_rightHalves : yX1_rightHalves.cls ≠ "java/lang/invoke/MethodHandle" ∧ yX1_rightHalves.cls ≠ "java/lang/invoke/VarHandle" ∧ (parseMethodDescriptor yX1_rightHalves.desc).map (fun d => d.parameters.length) = some 0 := by decide +kernel
noncomputable def F_X1_rightHalves (a0 : Nat) (w : FW) : Option (Int32) :=
  (fLoop (σ := Int32 × Int32) (ρ := Int32) (fun s1 => fg (w.1 a0 = 2) inferInstance ((if (gI w 101 a0 0) ≤ s1.2 then some (.inr s1.1) else fg (w.1 (gR w 100 a0 0) = 14) inferInstance (fg (¬ (s1.2 < 0 ∨ w.2.1 (gR w 100 a0 0) ≤ Int32.toNatClampNeg s1.2)) inferInstance (fg (w.1 (gR w 604 (gR w 100 a0 0) (Int32.toNatClampNeg s1.2)) = 3) inferInstance (fg (w.1 (gR w 206 (gR w 604 (gR w 100 a0 0) (Int32.toNatClampNeg s1.2)) 0) = 1) inferInstance ((F_X0_isReadRightly (gR w 206 (gR w 604 (gR w 100 a0 0) (Int32.toNatClampNeg s1.2)) 0) (gR w 200 (gR w 604 (gR w 100 a0 0) (Int32.toNatClampNeg s1.2)) 0) w).bind (fun r15 => ((if r15 = 0 then some 0 else some 1) : Option (Int32)).bind (fun x19 => fg (w.1 (gR w 207 (gR w 604 (gR w 100 a0 0) (Int32.toNatClampNeg s1.2)) 0) = 1) inferInstance ((F_X0_isReadRightly (gR w 207 (gR w 604 (gR w 100 a0 0) (Int32.toNatClampNeg s1.2)) 0) (gR w 200 (gR w 604 (gR w 100 a0 0) (Int32.toNatClampNeg s1.2)) 0) w).bind (fun r23 => (if r23 = 0 then some (.inl (((s1.1 + x19) + 0), (s1.2 + 1))) else some (.inl (((s1.1 + x19) + 1), (s1.2 + 1))))))))))))))) (0, 0)).bind (fun x7 => some x7)
set_option maxHeartbeats 4000000 in
set_option maxRecDepth 100000 in
theorem c_X1_rightHalves (l : Launch) (D : va_G) (cy : Nat → ClassId) (a0 : Nat) (w : FW) (r : Int32) (hF : F_X1_rightHalves a0 w = some r) : fSpec l D cy yX1_rightHalves cX1_rightHalves 3 (some .int) { frames := 7, cells := 0, slots := 0, locals := 154 } [.ref a0] w w (some (.int r)) := by
  refine f_begin (by decide +kernel) (Nat.le_of_ble_eq_true rfl) (fun X hC hEn => ?_)
  unfold F_X1_rightHalves at hF
  show fAt X 0 0 3 w [(0, .ref a0)] [] 0
  refine f_iconst (v := 0) hC dX1_rightHalves_0 (by decide) ?_
  refine f_istore_n (L' := [(1, .int 0), (0, .ref a0)]) hC dX1_rightHalves_1 rfl (by decide) rfl ?_
  refine f_iconst (v := 0) hC dX1_rightHalves_2 (by decide) ?_
  refine f_istore_n (L' := [(2, .int 0), (1, .int 0), (0, .ref a0)]) hC dX1_rightHalves_3 rfl (by decide) rfl ?_
  obtain ⟨x7, h8, hF⟩ := fb_open hF
  have K9 : fAt X 0 0 3 w [(1, .int x7)] [] 82 := by
    refine f_iload_n hC dX1_rightHalves_82 rfl 0 rfl ?_
    obtain rfl := Option.some.inj hF
    exact f_iret hC hEn (fSm.rf w) dX1_rightHalves_83
  refine f_sub (L' := [(0, .ref a0), (1, .int 0), (2, .int 0)]) [2, 1, 0] rfl ?_
  refine fLoop_ind (fun (s1 : Int32 × Int32) => fAt X 0 0 3 w [(0, .ref a0), (1, .int s1.1), (2, .int s1.2)] [] 4) (fun s1 y6 h2 go3 ou4 => ?_) h8
  refine f_iload_n hC dX1_rightHalves_4 rfl 2 rfl ?_
  refine f_aload_n hC dX1_rightHalves_5 rfl 0 rfl ?_
  obtain ⟨g10, h2⟩ := fg_open h2
  refine f_getI hC 1 1 101 rfl (by decide) iX1 q_218 rfl rfl (fSm.k (fSm.rf w) g10) dX1_rightHalves_6 ?_
  refine f_icmp_ge hC 82 dX1_rightHalves_9 (by decide) (fun c11 => ?_) (fun c11 => ?_)
  · replace h2 := fi_pos h2 c11
    obtain rfl := Option.some.inj h2
    obtain rfl := ou4 _ rfl
    refine f_sub (L' := [(1, .int s1.1)]) [1] rfl ?_
    exact K9
  · replace h2 := fi_neg h2 c11
    refine f_iload_n hC dX1_rightHalves_12 rfl 1 rfl ?_
    refine f_aload_n hC dX1_rightHalves_13 rfl 0 rfl ?_
    refine f_getR hC 1 0 100 rfl (by decide) iX1 q_216 rfl rfl (fSm.k (fSm.rf w) g10) dX1_rightHalves_14 ?_
    refine f_iload_n hC dX1_rightHalves_17 rfl 2 rfl ?_
    obtain ⟨g12, h2⟩ := fg_open h2
    obtain ⟨g13, h2⟩ := fg_open h2
    refine f_aald1 hC (fSm.k (fSm.rf w) g12) (fSm.v (fSm.rf w) g13) dX1_rightHalves_18 ?_
    obtain ⟨g14, h2⟩ := fg_open h2
    refine f_getRN hC 2 6 206 rfl (by decide) iX2 q_194 rfl rfl (fSm.k (fSm.rf w) g14) dX1_rightHalves_19 ?_
    refine f_aload_n hC dX1_rightHalves_22 rfl 0 rfl ?_
    refine f_getR hC 1 0 100 rfl (by decide) iX1 q_216 rfl rfl (fSm.k (fSm.rf w) g10) dX1_rightHalves_23 ?_
    refine f_iload_n hC dX1_rightHalves_26 rfl 2 rfl ?_
    refine f_aald1 hC (fSm.k (fSm.rf w) g12) (fSm.v (fSm.rf w) g13) dX1_rightHalves_27 ?_
    refine f_getRN hC 2 0 200 rfl (by decide) iX2 q_177 rfl rfl (fSm.k (fSm.rf w) g14) dX1_rightHalves_28 ?_
    obtain ⟨g17, h2⟩ := fg_open h2
    obtain ⟨r15, h16, h2⟩ := fb_open h2
    refine f_callVN hC [.ref (gR w 200 (gR w 604 (gR w 100 a0 0) (Int32.toNatClampNeg s1.2)) 0)] (c_X0_isReadRightly l D cy (gR w 206 (gR w 604 (gR w 100 a0 0) (Int32.toNatClampNeg s1.2)) 0) (gR w 200 (gR w 604 (gR w 100 a0 0) (Int32.toNatClampNeg s1.2)) 0) w r15 h16) q_1401 q_77 q_1398 q_1400 q_70 h9_X0_isReadRightly rfl (fSm.k (fSm.rf w) g17) ⟨Nat.le_of_ble_eq_true rfl, Nat.le_of_ble_eq_true rfl⟩ ⟨Nat.le_of_ble_eq_true rfl, Nat.le_of_ble_eq_true rfl⟩ (Nat.le_of_ble_eq_true rfl) rfl dX1_rightHalves_31 (fun e18 => ?_)
    obtain ⟨x19, h20, h2⟩ := fb_open h2
    have K22 : fAt X 0 0 3 w [(0, .ref a0), (2, .int s1.2)] [.int x19, .int s1.1] 42 := by
      refine f_iadd hC dX1_rightHalves_42 ?_
      refine f_istore_n (L' := [(1, .int (s1.1 + x19)), (0, .ref a0), (2, .int s1.2)]) hC dX1_rightHalves_43 rfl (by decide) rfl ?_
      refine f_iload_n hC dX1_rightHalves_44 rfl 0 rfl ?_
      refine f_aload_n hC dX1_rightHalves_45 rfl 1 rfl ?_
      refine f_getR hC 1 0 100 rfl (by decide) iX1 q_216 rfl rfl (fSm.k (fSm.rf w) g10) dX1_rightHalves_46 ?_
      refine f_iload_n hC dX1_rightHalves_49 rfl 2 rfl ?_
      refine f_aald1 hC (fSm.k (fSm.rf w) g12) (fSm.v (fSm.rf w) g13) dX1_rightHalves_50 ?_
      refine f_getRN hC 2 7 207 rfl (by decide) iX2 q_197 rfl rfl (fSm.k (fSm.rf w) g14) dX1_rightHalves_51 ?_
      refine f_aload_n hC dX1_rightHalves_54 rfl 1 rfl ?_
      refine f_getR hC 1 0 100 rfl (by decide) iX1 q_216 rfl rfl (fSm.k (fSm.rf w) g10) dX1_rightHalves_55 ?_
      refine f_iload_n hC dX1_rightHalves_58 rfl 2 rfl ?_
      refine f_aald1 hC (fSm.k (fSm.rf w) g12) (fSm.v (fSm.rf w) g13) dX1_rightHalves_59 ?_
      refine f_getRN hC 2 0 200 rfl (by decide) iX2 q_177 rfl rfl (fSm.k (fSm.rf w) g14) dX1_rightHalves_60 ?_
      obtain ⟨g25, h2⟩ := fg_open h2
      obtain ⟨r23, h24, h2⟩ := fb_open h2
      refine f_callVN hC [.ref (gR w 200 (gR w 604 (gR w 100 a0 0) (Int32.toNatClampNeg s1.2)) 0)] (c_X0_isReadRightly l D cy (gR w 207 (gR w 604 (gR w 100 a0 0) (Int32.toNatClampNeg s1.2)) 0) (gR w 200 (gR w 604 (gR w 100 a0 0) (Int32.toNatClampNeg s1.2)) 0) w r23 h24) q_1401 q_77 q_1398 q_1400 q_70 h9_X0_isReadRightly rfl (fSm.k (fSm.rf w) g25) ⟨Nat.le_of_ble_eq_true rfl, Nat.le_of_ble_eq_true rfl⟩ ⟨Nat.le_of_ble_eq_true rfl, Nat.le_of_ble_eq_true rfl⟩ (Nat.le_of_ble_eq_true rfl) rfl dX1_rightHalves_63 (fun e26 => ?_)
      refine f_if_eq hC 73 dX1_rightHalves_66 (by decide) (fun c27 => ?_) (fun c27 => ?_)
      · replace h2 := fi_pos h2 c27
        refine f_iconst (v := 0) hC dX1_rightHalves_73 (by decide) ?_
        refine f_iadd hC dX1_rightHalves_74 ?_
        refine f_istore_n (L' := [(1, .int ((s1.1 + x19) + 0)), (0, .ref a0), (2, .int s1.2)]) hC dX1_rightHalves_75 rfl (by decide) rfl ?_
        refine f_iinc (L' := [(2, .int (s1.2 + 1)), (1, .int ((s1.1 + x19) + 0)), (0, .ref a0)]) hC dX1_rightHalves_76 2 rfl rfl (by decide) rfl ?_
        refine f_goto hC 4 dX1_rightHalves_79 (by decide) ?_
        obtain rfl := Option.some.inj h2
        refine f_sub (L' := [(0, .ref a0), (1, .int ((s1.1 + x19) + 0)), (2, .int (s1.2 + 1))]) [2, 1, 0] rfl ?_
        exact go3 _ rfl
      · replace h2 := fi_neg h2 c27
        refine f_iconst (v := 1) hC dX1_rightHalves_69 (by decide) ?_
        refine f_goto hC 74 dX1_rightHalves_70 (by decide) ?_
        refine f_iadd hC dX1_rightHalves_74 ?_
        refine f_istore_n (L' := [(1, .int ((s1.1 + x19) + 1)), (0, .ref a0), (2, .int s1.2)]) hC dX1_rightHalves_75 rfl (by decide) rfl ?_
        refine f_iinc (L' := [(2, .int (s1.2 + 1)), (1, .int ((s1.1 + x19) + 1)), (0, .ref a0)]) hC dX1_rightHalves_76 2 rfl rfl (by decide) rfl ?_
        refine f_goto hC 4 dX1_rightHalves_79 (by decide) ?_
        obtain rfl := Option.some.inj h2
        refine f_sub (L' := [(0, .ref a0), (1, .int ((s1.1 + x19) + 1)), (2, .int (s1.2 + 1))]) [2, 1, 0] rfl ?_
        exact go3 _ rfl
    refine f_if_eq hC 41 dX1_rightHalves_34 (by decide) (fun c28 => ?_) (fun c28 => ?_)
    · replace h20 := fi_pos h20 c28
      refine f_iconst (v := 0) hC dX1_rightHalves_41 (by decide) ?_
      obtain rfl := Option.some.inj h20
      refine f_sub (L' := [(0, .ref a0), (2, .int s1.2)]) [0, 2] rfl ?_
      exact K22
    · replace h20 := fi_neg h20 c28
      refine f_iconst (v := 1) hC dX1_rightHalves_37 (by decide) ?_
      refine f_goto hC 42 dX1_rightHalves_38 (by decide) ?_
      obtain rfl := Option.some.inj h20
      refine f_sub (L' := [(0, .ref a0), (2, .int s1.2)]) [0, 2] rfl ?_
      exact K22
theorem dX4_readShare_0 : decode cX4_readShare 0 = .ok (.aload_n 0, 1) := by decide +kernel
theorem dX4_readShare_1 : decode cX4_readShare 1 = .ok (.getfield 12, 3) := by decide +kernel
theorem dX4_readShare_4 : decode cX4_readShare 4 = .ok (.invokevirtual 330, 3) := by decide +kernel
theorem dX4_readShare_7 : decode cX4_readShare 7 = .ok (.istore_n 1, 1) := by decide +kernel
theorem dX4_readShare_8 : decode cX4_readShare 8 = .ok (.iload_n 1, 1) := by decide +kernel
theorem dX4_readShare_9 : decode cX4_readShare 9 = .ok (.ifCond .ne 14, 3) := by decide +kernel
theorem dX4_readShare_12 : decode cX4_readShare 12 = .ok (.new 344, 3) := by decide +kernel
theorem dX4_readShare_15 : decode cX4_readShare 15 = .ok (.dup, 1) := by decide +kernel
theorem dX4_readShare_16 : decode cX4_readShare 16 = .ok (.ldc_w 351, 3) := by decide +kernel
theorem dX4_readShare_19 : decode cX4_readShare 19 = .ok (.invokespecial 348, 3) := by decide +kernel
theorem dX4_readShare_22 : decode cX4_readShare 22 = .ok (.athrow, 1) := by decide +kernel
theorem dX4_readShare_23 : decode cX4_readShare 23 = .ok (.aload_n 0, 1) := by decide +kernel
theorem dX4_readShare_24 : decode cX4_readShare 24 = .ok (.getfield 12, 3) := by decide +kernel
theorem dX4_readShare_27 : decode cX4_readShare 27 = .ok (.invokevirtual 353, 3) := by decide +kernel
theorem dX4_readShare_30 : decode cX4_readShare 30 = .ok (.i2f, 1) := by decide +kernel
theorem dX4_readShare_31 : decode cX4_readShare 31 = .ok (.iload_n 1, 1) := by decide +kernel
theorem dX4_readShare_32 : decode cX4_readShare 32 = .ok (.i2f, 1) := by decide +kernel
theorem dX4_readShare_33 : decode cX4_readShare 33 = .ok (.fdiv, 1) := by decide +kernel
theorem dX4_readShare_34 : decode cX4_readShare 34 = .ok (.freturn, 1) := by decide +kernel
theorem h9_X4_readShare : yX4_readShare.cls ≠ "java/lang/invoke/MethodHandle" ∧ yX4_readShare.cls ≠ "java/lang/invoke/VarHandle" ∧ (parseMethodDescriptor yX4_readShare.desc).map (fun d => d.parameters.length) = some 0 := by decide +kernel
noncomputable def F_X4_readShare (a0 : Nat) (w : FW) : Option (UInt32 ⊕ Nat) :=
  fg (w.1 a0 = 5) inferInstance (fg (w.1 (gR w 400 a0 0) = 2) inferInstance ((F_X1_punchedHalves (gR w 400 a0 0) w).bind (fun r2 => (if r2 = 0 then some (.inr 3) else (F_X1_rightHalves (gR w 400 a0 0) w).bind (fun r7 => fg ((FP.fdiv (FP.i2f r7) (FP.i2f r2)) &&& 0x7fffffff ≤ 0x7f800000) inferInstance (some (.inl (FP.fdiv (FP.i2f r7) (FP.i2f r2)))))))))
set_option maxHeartbeats 4000000 in
set_option maxRecDepth 100000 in
theorem c_X4_readShare (l : Launch) (D : va_G) (cy : Nat → ClassId) (a0 : Nat) (w : FW) (r : UInt32 ⊕ Nat) (hF : F_X4_readShare a0 w = some r) : fSpecX l D cy yX4_readShare cX4_readShare 2 (some .float) { frames := 8, cells := 1, slots := 6, locals := 176 } [.ref a0] w w (fOF r) := by
  refine f_beginX (by decide +kernel) (Nat.le_of_ble_eq_true rfl) (fun X hC hEn => ?_)
  have hst := f_st hC hEn
  unfold F_X4_readShare at hF
  show fAt X 0 0 2 w [(0, .ref a0)] [] 0
  refine f_aload_n hC dX4_readShare_0 rfl 0 rfl ?_
  obtain ⟨g1, hF⟩ := fg_open hF
  refine f_getR hC 4 0 400 rfl (by decide) iX4 q_260 rfl rfl (fSm.k (fSm.rf w) g1) dX4_readShare_1 ?_
  obtain ⟨g4, hF⟩ := fg_open hF
  obtain ⟨r2, h3, hF⟩ := fb_open hF
  refine f_callVN hC [] (c_X1_punchedHalves l D cy (gR w 400 a0 0) w r2 h3) q_617 q_74 q_614 q_616 q_17 h9_X1_punchedHalves rfl (fSm.k (fSm.rf w) g4) ⟨Nat.le_of_ble_eq_true rfl, Nat.le_of_ble_eq_true rfl⟩ ⟨Nat.le_of_ble_eq_true rfl, Nat.le_of_ble_eq_true rfl⟩ (Nat.le_of_ble_eq_true rfl) rfl dX4_readShare_4 (fun e5 => ?_)
  refine f_istore_n (L' := [(1, .int r2), (0, .ref a0)]) hC dX4_readShare_7 rfl (by decide) rfl ?_
  refine f_iload_n hC dX4_readShare_8 rfl 0 rfl ?_
  refine f_if_ne hC 23 dX4_readShare_9 (by decide) (fun c6 => ?_) (fun c6 => ?_)
  · replace hF := fi_neg hF c6
    refine f_aload_n hC dX4_readShare_23 rfl 1 rfl ?_
    refine f_getR hC 4 0 400 rfl (by decide) iX4 q_260 rfl rfl (fSm.k (fSm.rf w) g1) dX4_readShare_24 ?_
    obtain ⟨r7, h8, hF⟩ := fb_open hF
    refine f_callVN hC [] (c_X1_rightHalves l D cy (gR w 400 a0 0) w r7 h8) q_1397 q_74 q_1394 q_1396 q_69 h9_X1_rightHalves rfl (fSm.k (fSm.rf w) g4) ⟨Nat.le_of_ble_eq_true rfl, Nat.le_of_ble_eq_true rfl⟩ ⟨Nat.le_of_ble_eq_true rfl, Nat.le_of_ble_eq_true rfl⟩ (Nat.le_of_ble_eq_true rfl) rfl dX4_readShare_27 (fun e9 => ?_)
    refine f_i2f hC dX4_readShare_30 ?_
    refine f_iload_n hC dX4_readShare_31 rfl 0 rfl ?_
    refine f_i2f hC dX4_readShare_32 ?_
    obtain ⟨g10, hF⟩ := fg_open hF
    refine f_fdiv hC dX4_readShare_33 g10 ?_
    obtain rfl := Option.some.inj hF
    refine f_widen (k' := 1) (s' := 6) (Nat.le_of_ble_eq_true rfl) (Nat.le_of_ble_eq_true rfl) ?_
    exact f_fretX hC hEn (fSm.rf w) dX4_readShare_34
  · replace hF := fi_pos hF c6
    obtain rfl := Option.some.inj hF
    exact f_throwSW hC hEn (fSm.rf w) 50 rfl xf_3 xn_3 q_1382 q_99 rfl xa_RX4_348 xg_RX4_344_348 dX4_readShare_12 dX4_readShare_15 dX4_readShare_16 dX4_readShare_19 dX4_readShare_22 (Nat.le_of_ble_eq_true rfl) (Nat.le_of_ble_eq_true rfl) (Nat.le_of_ble_eq_true rfl) (Nat.le_of_ble_eq_true rfl) (Nat.le_of_ble_eq_true rfl) (Nat.le_of_ble_eq_true rfl)
theorem dX4_append_0 : decode cX4_append 0 = .ok (.iconst 0, 1) := by decide +kernel
theorem dX4_append_1 : decode cX4_append 1 = .ok (.istore_n 2, 1) := by decide +kernel
theorem dX4_append_2 : decode cX4_append 2 = .ok (.bipush 24, 2) := by decide +kernel
theorem dX4_append_4 : decode cX4_append 4 = .ok (.istore_n 3, 1) := by decide +kernel
theorem dX4_append_5 : decode cX4_append 5 = .ok (.iload_n 3, 1) := by decide +kernel
theorem dX4_append_6 : decode cX4_append 6 = .ok (.ifCond .lt 61, 3) := by decide +kernel
theorem dX4_append_9 : decode cX4_append 9 = .ok (.iload_n 1, 1) := by decide +kernel
theorem dX4_append_10 : decode cX4_append 10 = .ok (.iload_n 3, 1) := by decide +kernel
theorem dX4_append_11 : decode cX4_append 11 = .ok (.iushr, 1) := by decide +kernel
theorem dX4_append_12 : decode cX4_append 12 = .ok (.sipush 255, 3) := by decide +kernel
theorem dX4_append_15 : decode cX4_append 15 = .ok (.iand, 1) := by decide +kernel
theorem dX4_append_16 : decode cX4_append 16 = .ok (.istore 4, 2) := by decide +kernel
theorem dX4_append_18 : decode cX4_append 18 = .ok (.iload 4, 2) := by decide +kernel
theorem dX4_append_20 : decode cX4_append 20 = .ok (.ifCond .eq 28, 3) := by decide +kernel
theorem dX4_append_23 : decode cX4_append 23 = .ok (.iload 4, 2) := by decide +kernel
theorem dX4_append_25 : decode cX4_append 25 = .ok (.bipush 32, 2) := by decide +kernel
theorem dX4_append_27 : decode cX4_append 27 = .ok (.if_icmp .lt 10, 3) := by decide +kernel
theorem dX4_append_30 : decode cX4_append 30 = .ok (.iload 4, 2) := by decide +kernel
theorem dX4_append_32 : decode cX4_append 32 = .ok (.bipush 126, 2) := by decide +kernel
theorem dX4_append_34 : decode cX4_append 34 = .ok (.if_icmp .le 14, 3) := by decide +kernel
theorem dX4_append_37 : decode cX4_append 37 = .ok (.new 142, 3) := by decide +kernel
theorem dX4_append_40 : decode cX4_append 40 = .ok (.dup, 1) := by decide +kernel
theorem dX4_append_41 : decode cX4_append 41 = .ok (.ldc_w 356, 3) := by decide +kernel
theorem dX4_append_44 : decode cX4_append 44 = .ok (.invokespecial 146, 3) := by decide +kernel
theorem dX4_append_47 : decode cX4_append 47 = .ok (.athrow, 1) := by decide +kernel
theorem dX4_append_48 : decode cX4_append 48 = .ok (.iload_n 2, 1) := by decide +kernel
theorem dX4_append_49 : decode cX4_append 49 = .ok (.iload 4, 2) := by decide +kernel
theorem dX4_append_51 : decode cX4_append 51 = .ok (.ifCond .ne 7, 3) := by decide +kernel
theorem dX4_append_54 : decode cX4_append 54 = .ok (.iconst 0, 1) := by decide +kernel
theorem dX4_append_55 : decode cX4_append 55 = .ok (.goto 4, 3) := by decide +kernel
theorem dX4_append_58 : decode cX4_append 58 = .ok (.iconst 1, 1) := by decide +kernel
theorem dX4_append_59 : decode cX4_append 59 = .ok (.iadd, 1) := by decide +kernel
theorem dX4_append_60 : decode cX4_append 60 = .ok (.istore_n 2, 1) := by decide +kernel
theorem dX4_append_61 : decode cX4_append 61 = .ok (.iinc 3 (-8), 3) := by decide +kernel
theorem dX4_append_64 : decode cX4_append 64 = .ok (.goto (-59), 3) := by decide +kernel
theorem dX4_append_67 : decode cX4_append 67 = .ok (.aload_n 0, 1) := by decide +kernel
theorem dX4_append_68 : decode cX4_append 68 = .ok (.getfield 45, 3) := by decide +kernel
theorem dX4_append_71 : decode cX4_append 71 = .ok (.iload_n 2, 1) := by decide +kernel
theorem dX4_append_72 : decode cX4_append 72 = .ok (.iadd, 1) := by decide +kernel
theorem dX4_append_73 : decode cX4_append 73 = .ok (.bipush 60, 2) := by decide +kernel
theorem dX4_append_75 : decode cX4_append 75 = .ok (.if_icmp .le 14, 3) := by decide +kernel
theorem dX4_append_78 : decode cX4_append 78 = .ok (.new 325, 3) := by decide +kernel
theorem dX4_append_81 : decode cX4_append 81 = .ok (.dup, 1) := by decide +kernel
theorem dX4_append_82 : decode cX4_append 82 = .ok (.ldc_w 358, 3) := by decide +kernel
theorem dX4_append_85 : decode cX4_append 85 = .ok (.invokespecial 329, 3) := by decide +kernel
theorem dX4_append_88 : decode cX4_append 88 = .ok (.athrow, 1) := by decide +kernel
theorem dX4_append_89 : decode cX4_append 89 = .ok (.bipush 24, 2) := by decide +kernel
theorem dX4_append_91 : decode cX4_append 91 = .ok (.istore_n 3, 1) := by decide +kernel
theorem dX4_append_92 : decode cX4_append 92 = .ok (.iload_n 3, 1) := by decide +kernel
theorem dX4_append_93 : decode cX4_append 93 = .ok (.ifCond .lt 54, 3) := by decide +kernel
theorem dX4_append_96 : decode cX4_append 96 = .ok (.iload_n 1, 1) := by decide +kernel
theorem dX4_append_97 : decode cX4_append 97 = .ok (.iload_n 3, 1) := by decide +kernel
theorem dX4_append_98 : decode cX4_append 98 = .ok (.iushr, 1) := by decide +kernel
theorem dX4_append_99 : decode cX4_append 99 = .ok (.sipush 255, 3) := by decide +kernel
theorem dX4_append_102 : decode cX4_append 102 = .ok (.iand, 1) := by decide +kernel
theorem dX4_append_103 : decode cX4_append 103 = .ok (.istore 4, 2) := by decide +kernel
theorem dX4_append_105 : decode cX4_append 105 = .ok (.iload 4, 2) := by decide +kernel
theorem dX4_append_107 : decode cX4_append 107 = .ok (.ifCond .eq 34, 3) := by decide +kernel
theorem dX4_append_110 : decode cX4_append 110 = .ok (.aload_n 0, 1) := by decide +kernel
theorem dX4_append_111 : decode cX4_append 111 = .ok (.getfield 45, 3) := by decide +kernel
theorem dX4_append_114 : decode cX4_append 114 = .ok (.bipush 60, 2) := by decide +kernel
theorem dX4_append_116 : decode cX4_append 116 = .ok (.if_icmp .ge 25, 3) := by decide +kernel
theorem dX4_append_119 : decode cX4_append 119 = .ok (.aload_n 0, 1) := by decide +kernel
theorem dX4_append_120 : decode cX4_append 120 = .ok (.getfield 41, 3) := by decide +kernel
theorem dX4_append_123 : decode cX4_append 123 = .ok (.aload_n 0, 1) := by decide +kernel
theorem dX4_append_124 : decode cX4_append 124 = .ok (.getfield 45, 3) := by decide +kernel
theorem dX4_append_127 : decode cX4_append 127 = .ok (.iload 4, 2) := by decide +kernel
theorem dX4_append_129 : decode cX4_append 129 = .ok (.i2c, 1) := by decide +kernel
theorem dX4_append_130 : decode cX4_append 130 = .ok (.castore, 1) := by decide +kernel
theorem dX4_append_131 : decode cX4_append 131 = .ok (.aload_n 0, 1) := by decide +kernel
theorem dX4_append_132 : decode cX4_append 132 = .ok (.dup, 1) := by decide +kernel
theorem dX4_append_133 : decode cX4_append 133 = .ok (.getfield 45, 3) := by decide +kernel
theorem dX4_append_136 : decode cX4_append 136 = .ok (.iconst 1, 1) := by decide +kernel
theorem dX4_append_137 : decode cX4_append 137 = .ok (.iadd, 1) := by decide +kernel
theorem dX4_append_138 : decode cX4_append 138 = .ok (.putfield 45, 3) := by decide +kernel
theorem dX4_append_141 : decode cX4_append 141 = .ok (.iinc 3 (-8), 3) := by decide +kernel
theorem dX4_append_144 : decode cX4_append 144 = .ok (.goto (-52), 3) := by decide +kernel
theorem dX4_append_147 : decode cX4_append 147 = .ok (.aload_n 0, 1) := by decide +kernel
theorem dX4_append_148 : decode cX4_append 148 = .ok (.getfield 45, 3) := by decide +kernel
theorem dX4_append_151 : decode cX4_append 151 = .ok (.ireturn, 1) := by decide +kernel
theorem h9_X4_append : yX4_append.cls ≠ "java/lang/invoke/MethodHandle" ∧ yX4_append.cls ≠ "java/lang/invoke/VarHandle" ∧ (parseMethodDescriptor yX4_append.desc).map (fun d => d.parameters.length) = some 1 := by decide +kernel
noncomputable def F_X4_append (a0 : Nat) (x1 : Int32) (w : FW) : Option ((Int32 ⊕ Nat) × FW) :=
  (fLoop (σ := Int32 × Int32) (ρ := (Int32) ⊕ ((Int32 ⊕ Nat) × FW)) (fun s1 => (if s1.2 < 0 then some (.inr (.inl s1.1)) else (if ((fushr x1 s1.2) &&& 255) = 0 then (if ((fushr x1 s1.2) &&& 255) = 0 then some (.inl ((s1.1 + 0), (s1.2 + (-8)))) else some (.inl ((s1.1 + 1), (s1.2 + (-8))))) else (if ((fushr x1 s1.2) &&& 255) < 32 then some (.inr (.inr (.inr 1, w))) else (if ((fushr x1 s1.2) &&& 255) ≤ 126 then (if ((fushr x1 s1.2) &&& 255) = 0 then some (.inl ((s1.1 + 0), (s1.2 + (-8)))) else some (.inl ((s1.1 + 1), (s1.2 + (-8))))) else some (.inr (.inr (.inr 1, w)))))))) (0, 24)).bind (fun x7 => fse x7 (fun z16 => fg (w.1 a0 = 5) inferInstance ((if ((gI w 408 a0 0) + z16) ≤ 60 then (fLoop (σ := Int32 × FW) (ρ := FW) (fun s19 => (if s19.1 < 0 then some (.inr s19.2) else (if ((fushr x1 s19.1) &&& 255) = 0 then some (.inl ((s19.1 + (-8)), s19.2)) else (if 60 ≤ (gI s19.2 408 a0 0) then some (.inl ((s19.1 + (-8)), s19.2)) else fg (w.1 (gR s19.2 407 a0 0) = 10) inferInstance (fg (¬ ((gI s19.2 408 a0 0) < 0 ∨ w.2.1 (gR s19.2 407 a0 0) ≤ Int32.toNatClampNeg (gI s19.2 408 a0 0))) inferInstance (fg (fch (fch ((fushr x1 s19.1) &&& 255)) = (fch ((fushr x1 s19.1) &&& 255))) inferInstance (some (.inl ((s19.1 + (-8)), (sI (sI s19.2 600 (gR s19.2 407 a0 0) (Int32.toNatClampNeg (gI s19.2 408 a0 0)) (fch ((fushr x1 s19.1) &&& 255))) 408 a0 0 ((gI (sI s19.2 600 (gR s19.2 407 a0 0) (Int32.toNatClampNeg (gI s19.2 408 a0 0)) (fch ((fushr x1 s19.1) &&& 255))) 408 a0 0) + 1))))))))))) (24, w)).bind (fun x25 => some ((.inl (gI x25 408 a0 0)), x25)) else some (.inr 0, w)))) (fun q9 => some q9))
set_option maxHeartbeats 4000000 in
set_option maxRecDepth 100000 in
theorem c_X4_append (l : Launch) (D : va_G) (cy : Nat → ClassId) (a0 : Nat) (x1 : Int32) (w : FW) (r : (Int32 ⊕ Nat) × FW) (hF : F_X4_append a0 x1 w = some r) : fSpecX l D cy yX4_append cX4_append 5 (some .int) { frames := 6, cells := 1, slots := 6, locals := 100 } [.ref a0, .int x1] w r.2 (fOI r.1) := by
  refine f_beginX (by decide +kernel) (Nat.le_of_ble_eq_true rfl) (fun X hC hEn => ?_)
  have hst := f_st hC hEn
  unfold F_X4_append at hF
  show fAt X 0 0 5 w [(0, .ref a0), (1, .int x1)] [] 0
  refine f_iconst (v := 0) hC dX4_append_0 (by decide) ?_
  refine f_istore_n (L' := [(2, .int 0), (0, .ref a0), (1, .int x1)]) hC dX4_append_1 rfl (by decide) rfl ?_
  refine f_bipush (v := 24) hC dX4_append_2 (by decide) ?_
  refine f_istore_n (L' := [(3, .int 24), (2, .int 0), (0, .ref a0), (1, .int x1)]) hC dX4_append_4 rfl (by decide) rfl ?_
  obtain ⟨x7, h8, hF⟩ := fb_open hF
  have K9 : ∀ z16, x7 = .inl z16 → fAt X 0 0 5 w [(0, .ref a0), (1, .int x1), (2, .int z16)] [] 67 := by
    intro z16 hz9
    subst hz9
    refine f_aload_n hC dX4_append_67 rfl 0 rfl ?_
    obtain ⟨g17, hF⟩ := fg_open hF
    refine f_getI hC 4 8 408 rfl (by decide) iX4 q_268 rfl rfl (fSm.k (fSm.rf w) g17) dX4_append_68 ?_
    refine f_iload_n hC dX4_append_71 rfl 2 rfl ?_
    refine f_iadd hC dX4_append_72 ?_
    refine f_bipush (v := 60) hC dX4_append_73 (by decide) ?_
    refine f_icmp_le hC 89 dX4_append_75 (by decide) (fun c18 => ?_) (fun c18 => ?_)
    · replace hF := fi_pos hF c18
      refine f_bipush (v := 24) hC dX4_append_89 (by decide) ?_
      refine f_istore_n (L' := [(3, .int 24), (0, .ref a0), (1, .int x1), (2, .int z16)]) hC dX4_append_91 rfl (by decide) rfl ?_
      obtain ⟨x25, h26, hF⟩ := fb_open hF
      have K27 : fSm x25 w → fAt X 0 0 5 x25 [(0, .ref a0)] [] 147 := by
        intro p23
        refine f_aload_n hC dX4_append_147 rfl 0 rfl ?_
        refine f_getI hC 4 8 408 rfl (by decide) iX4 q_268 rfl rfl (fSm.k p23 g17) dX4_append_148 ?_
        obtain rfl := Option.some.inj hF
        refine f_widen (k' := 1) (s' := 6) (Nat.le_of_ble_eq_true rfl) (Nat.le_of_ble_eq_true rfl) ?_
        exact f_iretX hC hEn p23 dX4_append_151
      refine f_sub (L' := [(0, .ref a0), (1, .int x1), (3, .int 24)]) [1, 2, 0] rfl ?_
      refine fLoop_ind (fun (s19 : Int32 × FW) => fSm s19.2 w → fAt X 0 0 5 s19.2 [(0, .ref a0), (1, .int x1), (3, .int s19.1)] [] 92) (fun s19 y24 h20 go21 ou22 => ?_) h26 (fSm.rf w)
      intro p23
      refine f_iload_n hC dX4_append_92 rfl 2 rfl ?_
      refine f_if_lt hC 147 dX4_append_93 (by decide) (fun c28 => ?_) (fun c28 => ?_)
      · replace h20 := fi_pos h20 c28
        obtain rfl := Option.some.inj h20
        obtain rfl := ou22 _ rfl
        refine f_sub (L' := [(0, .ref a0)]) [0] rfl ?_
        exact K27 p23
      · replace h20 := fi_neg h20 c28
        refine f_iload_n hC dX4_append_96 rfl 1 rfl ?_
        refine f_iload_n hC dX4_append_97 rfl 2 rfl ?_
        refine f_iushr hC dX4_append_98 ?_
        refine f_sipush (v := 255) hC dX4_append_99 (by decide) ?_
        refine f_iand hC dX4_append_102 ?_
        refine f_istore (L' := [(4, .int ((fushr x1 s19.1) &&& 255)), (0, .ref a0), (1, .int x1), (3, .int s19.1)]) hC dX4_append_103 (by decide) rfl ?_
        refine f_iload hC dX4_append_105 0 rfl ?_
        refine f_if_eq hC 141 dX4_append_107 (by decide) (fun c29 => ?_) (fun c29 => ?_)
        · replace h20 := fi_pos h20 c29
          refine f_iinc (L' := [(3, .int (s19.1 + (-8))), (4, .int ((fushr x1 s19.1) &&& 255)), (0, .ref a0), (1, .int x1)]) hC dX4_append_141 3 rfl rfl (by decide) rfl ?_
          refine f_goto hC 92 dX4_append_144 (by decide) ?_
          obtain rfl := Option.some.inj h20
          refine f_sub (L' := [(0, .ref a0), (1, .int x1), (3, .int (s19.1 + (-8)))]) [2, 3, 0] rfl ?_
          have z9 := go21 ((s19.1 + (-8)), s19.2) rfl
          exact z9 p23
        · replace h20 := fi_neg h20 c29
          refine f_aload_n hC dX4_append_110 rfl 1 rfl ?_
          refine f_getI hC 4 8 408 rfl (by decide) iX4 q_268 rfl rfl (fSm.k p23 g17) dX4_append_111 ?_
          refine f_bipush (v := 60) hC dX4_append_114 (by decide) ?_
          refine f_icmp_ge hC 141 dX4_append_116 (by decide) (fun c30 => ?_) (fun c30 => ?_)
          · replace h20 := fi_pos h20 c30
            refine f_iinc (L' := [(3, .int (s19.1 + (-8))), (4, .int ((fushr x1 s19.1) &&& 255)), (0, .ref a0), (1, .int x1)]) hC dX4_append_141 3 rfl rfl (by decide) rfl ?_
            refine f_goto hC 92 dX4_append_144 (by decide) ?_
            obtain rfl := Option.some.inj h20
            refine f_sub (L' := [(0, .ref a0), (1, .int x1), (3, .int (s19.1 + (-8)))]) [2, 3, 0] rfl ?_
            have z9 := go21 ((s19.1 + (-8)), s19.2) rfl
            exact z9 p23
          · replace h20 := fi_neg h20 c30
            refine f_aload_n hC dX4_append_119 rfl 1 rfl ?_
            refine f_getR hC 4 7 407 rfl (by decide) iX4 q_267 rfl rfl (fSm.k p23 g17) dX4_append_120 ?_
            refine f_aload_n hC dX4_append_123 rfl 1 rfl ?_
            refine f_getI hC 4 8 408 rfl (by decide) iX4 q_268 rfl rfl (fSm.k p23 g17) dX4_append_124 ?_
            refine f_iload hC dX4_append_127 0 rfl ?_
            refine f_i2c hC dX4_append_129 ?_
            obtain ⟨g31, h20⟩ := fg_open h20
            obtain ⟨g32, h20⟩ := fg_open h20
            obtain ⟨g33, h20⟩ := fg_open h20
            refine f_cast hC g33 (fSm.k p23 g31) (fSm.v p23 g32) dX4_append_130 ?_
            refine f_aload_n hC dX4_append_131 rfl 1 rfl ?_
            refine f_dup hC dX4_append_132 rfl ?_
            refine f_getI hC 4 8 408 rfl (by decide) iX4 q_268 rfl rfl (fSm.k p23 g17) dX4_append_133 ?_
            refine f_iconst (v := 1) hC dX4_append_136 (by decide) ?_
            refine f_iadd hC dX4_append_137 ?_
            refine f_putI hC 4 8 408 rfl (by decide) iX4 tyX4 tyX4_ok nmX4 q_268 rfl rfl rfl rfl rfl (fSm.k p23 g17) dX4_append_138 ?_
            refine f_iinc (L' := [(3, .int (s19.1 + (-8))), (4, .int ((fushr x1 s19.1) &&& 255)), (0, .ref a0), (1, .int x1)]) hC dX4_append_141 3 rfl rfl (by decide) rfl ?_
            refine f_goto hC 92 dX4_append_144 (by decide) ?_
            obtain rfl := Option.some.inj h20
            refine f_sub (L' := [(0, .ref a0), (1, .int x1), (3, .int (s19.1 + (-8)))]) [2, 3, 0] rfl ?_
            exact go21 _ rfl p23
    · replace hF := fi_neg hF c18
      obtain rfl := Option.some.inj hF
      exact f_throwSW hC hEn (fSm.rf w) 52 rfl xf_0 xn_0 q_579 q_97 rfl xa_RX4_329 xg_RX4_325_329 dX4_append_78 dX4_append_81 dX4_append_82 dX4_append_85 dX4_append_88 (Nat.le_of_ble_eq_true rfl) (Nat.le_of_ble_eq_true rfl) (Nat.le_of_ble_eq_true rfl) (Nat.le_of_ble_eq_true rfl) (Nat.le_of_ble_eq_true rfl) (Nat.le_of_ble_eq_true rfl)
  refine f_sub (L' := [(0, .ref a0), (1, .int x1), (2, .int 0), (3, .int 24)]) [2, 3, 1, 0] rfl ?_
  refine fLoop_ind (fun (s1 : Int32 × Int32) => fAt X 0 0 5 w [(0, .ref a0), (1, .int x1), (2, .int s1.1), (3, .int s1.2)] [] 5) (fun s1 y6 h2 go3 ou4 => ?_) h8
  refine f_iload_n hC dX4_append_5 rfl 3 rfl ?_
  refine f_if_lt hC 67 dX4_append_6 (by decide) (fun c10 => ?_) (fun c10 => ?_)
  · replace h2 := fi_pos h2 c10
    obtain rfl := Option.some.inj h2
    have eo := ou4 _ rfl
    refine f_sub (L' := [(0, .ref a0), (1, .int x1), (2, .int s1.1)]) [0, 1, 2] rfl ?_
    exact K9 _ eo.symm
  · replace h2 := fi_neg h2 c10
    refine f_iload_n hC dX4_append_9 rfl 1 rfl ?_
    refine f_iload_n hC dX4_append_10 rfl 3 rfl ?_
    refine f_iushr hC dX4_append_11 ?_
    refine f_sipush (v := 255) hC dX4_append_12 (by decide) ?_
    refine f_iand hC dX4_append_15 ?_
    refine f_istore (L' := [(4, .int ((fushr x1 s1.2) &&& 255)), (0, .ref a0), (1, .int x1), (2, .int s1.1), (3, .int s1.2)]) hC dX4_append_16 (by decide) rfl ?_
    refine f_iload hC dX4_append_18 0 rfl ?_
    refine f_if_eq hC 48 dX4_append_20 (by decide) (fun c11 => ?_) (fun c11 => ?_)
    · replace h2 := fi_pos h2 c11
      refine f_iload_n hC dX4_append_48 rfl 3 rfl ?_
      refine f_iload hC dX4_append_49 0 rfl ?_
      refine f_if_ne hC 58 dX4_append_51 (by decide) (fun c12 => ?_) (fun c12 => ?_)
      · replace h2 := fi_neg h2 c12
        refine f_iconst (v := 1) hC dX4_append_58 (by decide) ?_
        refine f_iadd hC dX4_append_59 ?_
        refine f_istore_n (L' := [(2, .int (s1.1 + 1)), (4, .int ((fushr x1 s1.2) &&& 255)), (0, .ref a0), (1, .int x1), (3, .int s1.2)]) hC dX4_append_60 rfl (by decide) rfl ?_
        refine f_iinc (L' := [(3, .int (s1.2 + (-8))), (2, .int (s1.1 + 1)), (4, .int ((fushr x1 s1.2) &&& 255)), (0, .ref a0), (1, .int x1)]) hC dX4_append_61 4 rfl rfl (by decide) rfl ?_
        refine f_goto hC 5 dX4_append_64 (by decide) ?_
        obtain rfl := Option.some.inj h2
        refine f_sub (L' := [(0, .ref a0), (1, .int x1), (2, .int (s1.1 + 1)), (3, .int (s1.2 + (-8)))]) [3, 4, 1, 0] rfl ?_
        exact go3 _ rfl
      · replace h2 := fi_pos h2 c12
        refine f_iconst (v := 0) hC dX4_append_54 (by decide) ?_
        refine f_goto hC 59 dX4_append_55 (by decide) ?_
        refine f_iadd hC dX4_append_59 ?_
        refine f_istore_n (L' := [(2, .int (s1.1 + 0)), (4, .int ((fushr x1 s1.2) &&& 255)), (0, .ref a0), (1, .int x1), (3, .int s1.2)]) hC dX4_append_60 rfl (by decide) rfl ?_
        refine f_iinc (L' := [(3, .int (s1.2 + (-8))), (2, .int (s1.1 + 0)), (4, .int ((fushr x1 s1.2) &&& 255)), (0, .ref a0), (1, .int x1)]) hC dX4_append_61 4 rfl rfl (by decide) rfl ?_
        refine f_goto hC 5 dX4_append_64 (by decide) ?_
        obtain rfl := Option.some.inj h2
        refine f_sub (L' := [(0, .ref a0), (1, .int x1), (2, .int (s1.1 + 0)), (3, .int (s1.2 + (-8)))]) [3, 4, 1, 0] rfl ?_
        exact go3 _ rfl
    · replace h2 := fi_neg h2 c11
      refine f_iload hC dX4_append_23 0 rfl ?_
      refine f_bipush (v := 32) hC dX4_append_25 (by decide) ?_
      refine f_icmp_lt hC 37 dX4_append_27 (by decide) (fun c13 => ?_) (fun c13 => ?_)
      · replace h2 := fi_pos h2 c13
        obtain rfl := Option.some.inj h2
        obtain rfl := ou4 _ rfl
        obtain rfl := Option.some.inj hF
        exact f_throwSW hC hEn (fSm.rf w) 51 rfl xf_1 xn_1 q_497 q_81 rfl xa_RX4_146 xg_RX4_142_146 dX4_append_37 dX4_append_40 dX4_append_41 dX4_append_44 dX4_append_47 (Nat.le_of_ble_eq_true rfl) (Nat.le_of_ble_eq_true rfl) (Nat.le_of_ble_eq_true rfl) (Nat.le_of_ble_eq_true rfl) (Nat.le_of_ble_eq_true rfl) (Nat.le_of_ble_eq_true rfl)
      · replace h2 := fi_neg h2 c13
        refine f_iload hC dX4_append_30 0 rfl ?_
        refine f_bipush (v := 126) hC dX4_append_32 (by decide) ?_
        refine f_icmp_le hC 48 dX4_append_34 (by decide) (fun c14 => ?_) (fun c14 => ?_)
        · replace h2 := fi_pos h2 c14
          refine f_iload_n hC dX4_append_48 rfl 3 rfl ?_
          refine f_iload hC dX4_append_49 0 rfl ?_
          refine f_if_ne hC 58 dX4_append_51 (by decide) (fun c15 => ?_) (fun c15 => ?_)
          · replace h2 := fi_neg h2 c15
            refine f_iconst (v := 1) hC dX4_append_58 (by decide) ?_
            refine f_iadd hC dX4_append_59 ?_
            refine f_istore_n (L' := [(2, .int (s1.1 + 1)), (4, .int ((fushr x1 s1.2) &&& 255)), (0, .ref a0), (1, .int x1), (3, .int s1.2)]) hC dX4_append_60 rfl (by decide) rfl ?_
            refine f_iinc (L' := [(3, .int (s1.2 + (-8))), (2, .int (s1.1 + 1)), (4, .int ((fushr x1 s1.2) &&& 255)), (0, .ref a0), (1, .int x1)]) hC dX4_append_61 4 rfl rfl (by decide) rfl ?_
            refine f_goto hC 5 dX4_append_64 (by decide) ?_
            obtain rfl := Option.some.inj h2
            refine f_sub (L' := [(0, .ref a0), (1, .int x1), (2, .int (s1.1 + 1)), (3, .int (s1.2 + (-8)))]) [3, 4, 1, 0] rfl ?_
            exact go3 _ rfl
          · replace h2 := fi_pos h2 c15
            refine f_iconst (v := 0) hC dX4_append_54 (by decide) ?_
            refine f_goto hC 59 dX4_append_55 (by decide) ?_
            refine f_iadd hC dX4_append_59 ?_
            refine f_istore_n (L' := [(2, .int (s1.1 + 0)), (4, .int ((fushr x1 s1.2) &&& 255)), (0, .ref a0), (1, .int x1), (3, .int s1.2)]) hC dX4_append_60 rfl (by decide) rfl ?_
            refine f_iinc (L' := [(3, .int (s1.2 + (-8))), (2, .int (s1.1 + 0)), (4, .int ((fushr x1 s1.2) &&& 255)), (0, .ref a0), (1, .int x1)]) hC dX4_append_61 4 rfl rfl (by decide) rfl ?_
            refine f_goto hC 5 dX4_append_64 (by decide) ?_
            obtain rfl := Option.some.inj h2
            refine f_sub (L' := [(0, .ref a0), (1, .int x1), (2, .int (s1.1 + 0)), (3, .int (s1.2 + (-8)))]) [3, 4, 1, 0] rfl ?_
            exact go3 _ rfl
        · replace h2 := fi_neg h2 c14
          obtain rfl := Option.some.inj h2
          obtain rfl := ou4 _ rfl
          obtain rfl := Option.some.inj hF
          exact f_throwSW hC hEn (fSm.rf w) 51 rfl xf_1 xn_1 q_497 q_81 rfl xa_RX4_146 xg_RX4_142_146 dX4_append_37 dX4_append_40 dX4_append_41 dX4_append_44 dX4_append_47 (Nat.le_of_ble_eq_true rfl) (Nat.le_of_ble_eq_true rfl) (Nat.le_of_ble_eq_true rfl) (Nat.le_of_ble_eq_true rfl) (Nat.le_of_ble_eq_true rfl) (Nat.le_of_ble_eq_true rfl)
theorem dX4_signAt_0 : decode cX4_signAt 0 = .ok (.iload_n 1, 1) := by decide +kernel
theorem dX4_signAt_1 : decode cX4_signAt 1 = .ok (.ifCond .lt 20, 3) := by decide +kernel
theorem dX4_signAt_4 : decode cX4_signAt 4 = .ok (.iload_n 1, 1) := by decide +kernel
theorem dX4_signAt_5 : decode cX4_signAt 5 = .ok (.aload_n 0, 1) := by decide +kernel
theorem dX4_signAt_6 : decode cX4_signAt 6 = .ok (.getfield 45, 3) := by decide +kernel
theorem dX4_signAt_9 : decode cX4_signAt 9 = .ok (.if_icmp .ge 12, 3) := by decide +kernel
theorem dX4_signAt_12 : decode cX4_signAt 12 = .ok (.aload_n 0, 1) := by decide +kernel
theorem dX4_signAt_13 : decode cX4_signAt 13 = .ok (.getfield 41, 3) := by decide +kernel
theorem dX4_signAt_16 : decode cX4_signAt 16 = .ok (.iload_n 1, 1) := by decide +kernel
theorem dX4_signAt_17 : decode cX4_signAt 17 = .ok (.caload, 1) := by decide +kernel
theorem dX4_signAt_18 : decode cX4_signAt 18 = .ok (.goto 5, 3) := by decide +kernel
theorem dX4_signAt_21 : decode cX4_signAt 21 = .ok (.bipush 33, 2) := by decide +kernel
theorem dX4_signAt_23 : decode cX4_signAt 23 = .ok (.ireturn, 1) := by decide +kernel
theorem h9_X4_signAt : yX4_signAt.cls ≠ "java/lang/invoke/MethodHandle" ∧ yX4_signAt.cls ≠ "java/lang/invoke/VarHandle" ∧ (parseMethodDescriptor yX4_signAt.desc).map (fun d => d.parameters.length) = some 1 := by decide +kernel
noncomputable def F_X4_signAt (a0 : Nat) (x1 : Int32) (w : FW) : Option (Int32) :=
  (if x1 < 0 then some 33 else fg (w.1 a0 = 5) inferInstance ((if (gI w 408 a0 0) ≤ x1 then some 33 else fg (w.1 (gR w 407 a0 0) = 10) inferInstance (fg (¬ (x1 < 0 ∨ w.2.1 (gR w 407 a0 0) ≤ Int32.toNatClampNeg x1)) inferInstance (fg (fch (gI w 600 (gR w 407 a0 0) (Int32.toNatClampNeg x1)) = (gI w 600 (gR w 407 a0 0) (Int32.toNatClampNeg x1))) inferInstance (some (gI w 600 (gR w 407 a0 0) (Int32.toNatClampNeg x1))))))))
set_option maxHeartbeats 4000000 in
set_option maxRecDepth 100000 in
theorem c_X4_signAt (l : Launch) (D : va_G) (cy : Nat → ClassId) (a0 : Nat) (x1 : Int32) (w : FW) (r : Int32) (hF : F_X4_signAt a0 x1 w = some r) : fSpec l D cy yX4_signAt cX4_signAt 2 (some .char) { frames := 0, cells := 0, slots := 0, locals := 0 } [.ref a0, .int x1] w w (some (.int r)) := by
  refine f_begin (by decide +kernel) (Nat.le_of_ble_eq_true rfl) (fun X hC hEn => ?_)
  unfold F_X4_signAt at hF
  show fAt X 0 0 2 w [(0, .ref a0), (1, .int x1)] [] 0
  refine f_iload_n hC dX4_signAt_0 rfl 1 rfl ?_
  refine f_if_lt hC 21 dX4_signAt_1 (by decide) (fun c1 => ?_) (fun c1 => ?_)
  · replace hF := fi_pos hF c1
    refine f_bipush (v := 33) hC dX4_signAt_21 (by decide) ?_
    obtain rfl := Option.some.inj hF
    exact f_zret hC hEn (fSm.rf w) (nar_c (by decide)) dX4_signAt_23
  · replace hF := fi_neg hF c1
    refine f_iload_n hC dX4_signAt_4 rfl 1 rfl ?_
    refine f_aload_n hC dX4_signAt_5 rfl 0 rfl ?_
    obtain ⟨g2, hF⟩ := fg_open hF
    refine f_getI hC 4 8 408 rfl (by decide) iX4 q_268 rfl rfl (fSm.k (fSm.rf w) g2) dX4_signAt_6 ?_
    refine f_icmp_ge hC 21 dX4_signAt_9 (by decide) (fun c3 => ?_) (fun c3 => ?_)
    · replace hF := fi_pos hF c3
      refine f_bipush (v := 33) hC dX4_signAt_21 (by decide) ?_
      obtain rfl := Option.some.inj hF
      exact f_zret hC hEn (fSm.rf w) (nar_c (by decide)) dX4_signAt_23
    · replace hF := fi_neg hF c3
      refine f_aload_n hC dX4_signAt_12 rfl 0 rfl ?_
      refine f_getR hC 4 7 407 rfl (by decide) iX4 q_267 rfl rfl (fSm.k (fSm.rf w) g2) dX4_signAt_13 ?_
      refine f_iload_n hC dX4_signAt_16 rfl 1 rfl ?_
      obtain ⟨g4, hF⟩ := fg_open hF
      obtain ⟨g5, hF⟩ := fg_open hF
      refine f_cald hC (fSm.k (fSm.rf w) g4) (fSm.v (fSm.rf w) g5) dX4_signAt_17 ?_
      refine f_goto hC 23 dX4_signAt_18 (by decide) ?_
      obtain ⟨g6, hF⟩ := fg_open hF
      obtain rfl := Option.some.inj hF
      exact f_zret hC hEn (fSm.rf w) (nar_c g6) dX4_signAt_23
theorem dX4_shapeOf_0 : decode cX4_shapeOf 0 = .ok (.iload_n 0, 1) := by decide +kernel
theorem dX4_shapeOf_1 : decode cX4_shapeOf 1 = .ok (.tableswitch 151 99 120 #[135, 147, 151, 123, 127, 151, 151, 151, 151, 119, 131, 103, 139, 107, 151, 151, 151, 115, 151, 151, 111, 143], 103) := by decide +kernel
theorem dX4_shapeOf_104 : decode cX4_shapeOf 104 = .ok (.ldc_w 460, 3) := by decide +kernel
theorem dX4_shapeOf_107 : decode cX4_shapeOf 107 = .ok (.areturn, 1) := by decide +kernel
theorem dX4_shapeOf_108 : decode cX4_shapeOf 108 = .ok (.ldc_w 462, 3) := by decide +kernel
theorem dX4_shapeOf_111 : decode cX4_shapeOf 111 = .ok (.areturn, 1) := by decide +kernel
theorem dX4_shapeOf_112 : decode cX4_shapeOf 112 = .ok (.ldc_w 464, 3) := by decide +kernel
theorem dX4_shapeOf_115 : decode cX4_shapeOf 115 = .ok (.areturn, 1) := by decide +kernel
theorem dX4_shapeOf_116 : decode cX4_shapeOf 116 = .ok (.ldc_w 466, 3) := by decide +kernel
theorem dX4_shapeOf_119 : decode cX4_shapeOf 119 = .ok (.areturn, 1) := by decide +kernel
theorem dX4_shapeOf_120 : decode cX4_shapeOf 120 = .ok (.ldc_w 468, 3) := by decide +kernel
theorem dX4_shapeOf_123 : decode cX4_shapeOf 123 = .ok (.areturn, 1) := by decide +kernel
theorem dX4_shapeOf_124 : decode cX4_shapeOf 124 = .ok (.ldc_w 470, 3) := by decide +kernel
theorem dX4_shapeOf_127 : decode cX4_shapeOf 127 = .ok (.areturn, 1) := by decide +kernel
theorem dX4_shapeOf_128 : decode cX4_shapeOf 128 = .ok (.ldc_w 472, 3) := by decide +kernel
theorem dX4_shapeOf_131 : decode cX4_shapeOf 131 = .ok (.areturn, 1) := by decide +kernel
theorem dX4_shapeOf_132 : decode cX4_shapeOf 132 = .ok (.ldc_w 474, 3) := by decide +kernel
theorem dX4_shapeOf_135 : decode cX4_shapeOf 135 = .ok (.areturn, 1) := by decide +kernel
theorem dX4_shapeOf_136 : decode cX4_shapeOf 136 = .ok (.ldc_w 476, 3) := by decide +kernel
theorem dX4_shapeOf_139 : decode cX4_shapeOf 139 = .ok (.areturn, 1) := by decide +kernel
theorem dX4_shapeOf_140 : decode cX4_shapeOf 140 = .ok (.ldc_w 478, 3) := by decide +kernel
theorem dX4_shapeOf_143 : decode cX4_shapeOf 143 = .ok (.areturn, 1) := by decide +kernel
theorem dX4_shapeOf_144 : decode cX4_shapeOf 144 = .ok (.ldc_w 480, 3) := by decide +kernel
theorem dX4_shapeOf_147 : decode cX4_shapeOf 147 = .ok (.areturn, 1) := by decide +kernel
theorem dX4_shapeOf_148 : decode cX4_shapeOf 148 = .ok (.ldc_w 482, 3) := by decide +kernel
theorem dX4_shapeOf_151 : decode cX4_shapeOf 151 = .ok (.areturn, 1) := by decide +kernel
theorem dX4_shapeOf_152 : decode cX4_shapeOf 152 = .ok (.ldc_w 484, 3) := by decide +kernel
theorem dX4_shapeOf_155 : decode cX4_shapeOf 155 = .ok (.areturn, 1) := by decide +kernel
theorem h9_X4_shapeOf : yX4_shapeOf.cls ≠ "java/lang/invoke/MethodHandle" ∧ yX4_shapeOf.cls ≠ "java/lang/invoke/VarHandle" ∧ (parseMethodDescriptor yX4_shapeOf.desc).map (fun d => d.parameters.length) = some 1 := by decide +kernel
noncomputable def F_X4_shapeOf (x1 : Int32) (w : FW) : Option (Nat) :=
  (if x1 = 99 then some 10 else (if x1 = 100 then some 13 else (if x1 = 101 then some 1 else (if x1 = 102 then some 7 else (if x1 = 103 then some 8 else (if x1 = 104 then some 1 else (if x1 = 105 then some 1 else (if x1 = 106 then some 1 else (if x1 = 107 then some 1 else (if x1 = 108 then some 6 else (if x1 = 109 then some 9 else (if x1 = 110 then some 2 else (if x1 = 111 then some 11 else (if x1 = 112 then some 3 else (if x1 = 113 then some 1 else (if x1 = 114 then some 1 else (if x1 = 115 then some 1 else (if x1 = 116 then some 5 else (if x1 = 117 then some 1 else (if x1 = 118 then some 1 else (if x1 = 119 then some 4 else (if x1 = 120 then some 12 else some 1))))))))))))))))))))))
set_option maxHeartbeats 4000000 in
set_option maxRecDepth 100000 in
theorem c_X4_shapeOf (l : Launch) (D : va_G) (cy : Nat → ClassId) (x1 : Int32) (w : FW) (r : Nat) (hF : F_X4_shapeOf x1 w = some r) : fSpec l D cy yX4_shapeOf cX4_shapeOf 1 (some (.object "java/lang/String")) { frames := 0, cells := 0, slots := 0, locals := 0 } [.int x1] w w (some (.ref (D.2 99 r))) := by
  refine f_begin (by decide +kernel) (Nat.le_of_ble_eq_true rfl) (fun X hC hEn => ?_)
  unfold F_X4_shapeOf at hF
  show fAt X 0 0 1 w [(0, .int x1)] [] 0
  refine f_iload_n hC dX4_shapeOf_0 rfl 0 rfl ?_
  by_cases c1 : x1 = 99
  · replace hF := fi_pos hF c1
    refine f_tabIn hC 136 dX4_shapeOf_1 (by rw [c1] <;> decide) (by rw [c1] <;> decide) (by rw [c1] <;> rfl) (by decide) ?_
    refine f_ldcW hC 10 rfl dX4_shapeOf_136 ?_
    obtain rfl := Option.some.inj hF
    exact f_aret hC hEn (fSm.rf w) dX4_shapeOf_139
  · replace hF := fi_neg hF c1
    by_cases c2 : x1 = 100
    · replace hF := fi_pos hF c2
      refine f_tabIn hC 148 dX4_shapeOf_1 (by rw [c2] <;> decide) (by rw [c2] <;> decide) (by rw [c2] <;> rfl) (by decide) ?_
      refine f_ldcW hC 13 rfl dX4_shapeOf_148 ?_
      obtain rfl := Option.some.inj hF
      exact f_aret hC hEn (fSm.rf w) dX4_shapeOf_151
    · replace hF := fi_neg hF c2
      by_cases c3 : x1 = 101
      · replace hF := fi_pos hF c3
        refine f_tabIn hC 152 dX4_shapeOf_1 (by rw [c3] <;> decide) (by rw [c3] <;> decide) (by rw [c3] <;> rfl) (by decide) ?_
        refine f_ldcW hC 1 rfl dX4_shapeOf_152 ?_
        obtain rfl := Option.some.inj hF
        exact f_aret hC hEn (fSm.rf w) dX4_shapeOf_155
      · replace hF := fi_neg hF c3
        by_cases c4 : x1 = 102
        · replace hF := fi_pos hF c4
          refine f_tabIn hC 124 dX4_shapeOf_1 (by rw [c4] <;> decide) (by rw [c4] <;> decide) (by rw [c4] <;> rfl) (by decide) ?_
          refine f_ldcW hC 7 rfl dX4_shapeOf_124 ?_
          obtain rfl := Option.some.inj hF
          exact f_aret hC hEn (fSm.rf w) dX4_shapeOf_127
        · replace hF := fi_neg hF c4
          by_cases c5 : x1 = 103
          · replace hF := fi_pos hF c5
            refine f_tabIn hC 128 dX4_shapeOf_1 (by rw [c5] <;> decide) (by rw [c5] <;> decide) (by rw [c5] <;> rfl) (by decide) ?_
            refine f_ldcW hC 8 rfl dX4_shapeOf_128 ?_
            obtain rfl := Option.some.inj hF
            exact f_aret hC hEn (fSm.rf w) dX4_shapeOf_131
          · replace hF := fi_neg hF c5
            by_cases c6 : x1 = 104
            · replace hF := fi_pos hF c6
              refine f_tabIn hC 152 dX4_shapeOf_1 (by rw [c6] <;> decide) (by rw [c6] <;> decide) (by rw [c6] <;> rfl) (by decide) ?_
              refine f_ldcW hC 1 rfl dX4_shapeOf_152 ?_
              obtain rfl := Option.some.inj hF
              exact f_aret hC hEn (fSm.rf w) dX4_shapeOf_155
            · replace hF := fi_neg hF c6
              by_cases c7 : x1 = 105
              · replace hF := fi_pos hF c7
                refine f_tabIn hC 152 dX4_shapeOf_1 (by rw [c7] <;> decide) (by rw [c7] <;> decide) (by rw [c7] <;> rfl) (by decide) ?_
                refine f_ldcW hC 1 rfl dX4_shapeOf_152 ?_
                obtain rfl := Option.some.inj hF
                exact f_aret hC hEn (fSm.rf w) dX4_shapeOf_155
              · replace hF := fi_neg hF c7
                by_cases c8 : x1 = 106
                · replace hF := fi_pos hF c8
                  refine f_tabIn hC 152 dX4_shapeOf_1 (by rw [c8] <;> decide) (by rw [c8] <;> decide) (by rw [c8] <;> rfl) (by decide) ?_
                  refine f_ldcW hC 1 rfl dX4_shapeOf_152 ?_
                  obtain rfl := Option.some.inj hF
                  exact f_aret hC hEn (fSm.rf w) dX4_shapeOf_155
                · replace hF := fi_neg hF c8
                  by_cases c9 : x1 = 107
                  · replace hF := fi_pos hF c9
                    refine f_tabIn hC 152 dX4_shapeOf_1 (by rw [c9] <;> decide) (by rw [c9] <;> decide) (by rw [c9] <;> rfl) (by decide) ?_
                    refine f_ldcW hC 1 rfl dX4_shapeOf_152 ?_
                    obtain rfl := Option.some.inj hF
                    exact f_aret hC hEn (fSm.rf w) dX4_shapeOf_155
                  · replace hF := fi_neg hF c9
                    by_cases c10 : x1 = 108
                    · replace hF := fi_pos hF c10
                      refine f_tabIn hC 120 dX4_shapeOf_1 (by rw [c10] <;> decide) (by rw [c10] <;> decide) (by rw [c10] <;> rfl) (by decide) ?_
                      refine f_ldcW hC 6 rfl dX4_shapeOf_120 ?_
                      obtain rfl := Option.some.inj hF
                      exact f_aret hC hEn (fSm.rf w) dX4_shapeOf_123
                    · replace hF := fi_neg hF c10
                      by_cases c11 : x1 = 109
                      · replace hF := fi_pos hF c11
                        refine f_tabIn hC 132 dX4_shapeOf_1 (by rw [c11] <;> decide) (by rw [c11] <;> decide) (by rw [c11] <;> rfl) (by decide) ?_
                        refine f_ldcW hC 9 rfl dX4_shapeOf_132 ?_
                        obtain rfl := Option.some.inj hF
                        exact f_aret hC hEn (fSm.rf w) dX4_shapeOf_135
                      · replace hF := fi_neg hF c11
                        by_cases c12 : x1 = 110
                        · replace hF := fi_pos hF c12
                          refine f_tabIn hC 104 dX4_shapeOf_1 (by rw [c12] <;> decide) (by rw [c12] <;> decide) (by rw [c12] <;> rfl) (by decide) ?_
                          refine f_ldcW hC 2 rfl dX4_shapeOf_104 ?_
                          obtain rfl := Option.some.inj hF
                          exact f_aret hC hEn (fSm.rf w) dX4_shapeOf_107
                        · replace hF := fi_neg hF c12
                          by_cases c13 : x1 = 111
                          · replace hF := fi_pos hF c13
                            refine f_tabIn hC 140 dX4_shapeOf_1 (by rw [c13] <;> decide) (by rw [c13] <;> decide) (by rw [c13] <;> rfl) (by decide) ?_
                            refine f_ldcW hC 11 rfl dX4_shapeOf_140 ?_
                            obtain rfl := Option.some.inj hF
                            exact f_aret hC hEn (fSm.rf w) dX4_shapeOf_143
                          · replace hF := fi_neg hF c13
                            by_cases c14 : x1 = 112
                            · replace hF := fi_pos hF c14
                              refine f_tabIn hC 108 dX4_shapeOf_1 (by rw [c14] <;> decide) (by rw [c14] <;> decide) (by rw [c14] <;> rfl) (by decide) ?_
                              refine f_ldcW hC 3 rfl dX4_shapeOf_108 ?_
                              obtain rfl := Option.some.inj hF
                              exact f_aret hC hEn (fSm.rf w) dX4_shapeOf_111
                            · replace hF := fi_neg hF c14
                              by_cases c15 : x1 = 113
                              · replace hF := fi_pos hF c15
                                refine f_tabIn hC 152 dX4_shapeOf_1 (by rw [c15] <;> decide) (by rw [c15] <;> decide) (by rw [c15] <;> rfl) (by decide) ?_
                                refine f_ldcW hC 1 rfl dX4_shapeOf_152 ?_
                                obtain rfl := Option.some.inj hF
                                exact f_aret hC hEn (fSm.rf w) dX4_shapeOf_155
                              · replace hF := fi_neg hF c15
                                by_cases c16 : x1 = 114
                                · replace hF := fi_pos hF c16
                                  refine f_tabIn hC 152 dX4_shapeOf_1 (by rw [c16] <;> decide) (by rw [c16] <;> decide) (by rw [c16] <;> rfl) (by decide) ?_
                                  refine f_ldcW hC 1 rfl dX4_shapeOf_152 ?_
                                  obtain rfl := Option.some.inj hF
                                  exact f_aret hC hEn (fSm.rf w) dX4_shapeOf_155
                                · replace hF := fi_neg hF c16
                                  by_cases c17 : x1 = 115
                                  · replace hF := fi_pos hF c17
                                    refine f_tabIn hC 152 dX4_shapeOf_1 (by rw [c17] <;> decide) (by rw [c17] <;> decide) (by rw [c17] <;> rfl) (by decide) ?_
                                    refine f_ldcW hC 1 rfl dX4_shapeOf_152 ?_
                                    obtain rfl := Option.some.inj hF
                                    exact f_aret hC hEn (fSm.rf w) dX4_shapeOf_155
                                  · replace hF := fi_neg hF c17
                                    by_cases c18 : x1 = 116
                                    · replace hF := fi_pos hF c18
                                      refine f_tabIn hC 116 dX4_shapeOf_1 (by rw [c18] <;> decide) (by rw [c18] <;> decide) (by rw [c18] <;> rfl) (by decide) ?_
                                      refine f_ldcW hC 5 rfl dX4_shapeOf_116 ?_
                                      obtain rfl := Option.some.inj hF
                                      exact f_aret hC hEn (fSm.rf w) dX4_shapeOf_119
                                    · replace hF := fi_neg hF c18
                                      by_cases c19 : x1 = 117
                                      · replace hF := fi_pos hF c19
                                        refine f_tabIn hC 152 dX4_shapeOf_1 (by rw [c19] <;> decide) (by rw [c19] <;> decide) (by rw [c19] <;> rfl) (by decide) ?_
                                        refine f_ldcW hC 1 rfl dX4_shapeOf_152 ?_
                                        obtain rfl := Option.some.inj hF
                                        exact f_aret hC hEn (fSm.rf w) dX4_shapeOf_155
                                      · replace hF := fi_neg hF c19
                                        by_cases c20 : x1 = 118
                                        · replace hF := fi_pos hF c20
                                          refine f_tabIn hC 152 dX4_shapeOf_1 (by rw [c20] <;> decide) (by rw [c20] <;> decide) (by rw [c20] <;> rfl) (by decide) ?_
                                          refine f_ldcW hC 1 rfl dX4_shapeOf_152 ?_
                                          obtain rfl := Option.some.inj hF
                                          exact f_aret hC hEn (fSm.rf w) dX4_shapeOf_155
                                        · replace hF := fi_neg hF c20
                                          by_cases c21 : x1 = 119
                                          · replace hF := fi_pos hF c21
                                            refine f_tabIn hC 112 dX4_shapeOf_1 (by rw [c21] <;> decide) (by rw [c21] <;> decide) (by rw [c21] <;> rfl) (by decide) ?_
                                            refine f_ldcW hC 4 rfl dX4_shapeOf_112 ?_
                                            obtain rfl := Option.some.inj hF
                                            exact f_aret hC hEn (fSm.rf w) dX4_shapeOf_115
                                          · replace hF := fi_neg hF c21
                                            by_cases c22 : x1 = 120
                                            · replace hF := fi_pos hF c22
                                              refine f_tabIn hC 144 dX4_shapeOf_1 (by rw [c22] <;> decide) (by rw [c22] <;> decide) (by rw [c22] <;> rfl) (by decide) ?_
                                              refine f_ldcW hC 12 rfl dX4_shapeOf_144 ?_
                                              obtain rfl := Option.some.inj hF
                                              exact f_aret hC hEn (fSm.rf w) dX4_shapeOf_147
                                            · replace hF := fi_neg hF c22
                                              refine f_tabOut hC 152 dX4_shapeOf_1 (ftab 99 120 (by decide) (by decide) (fun j h1 h2 => ?_)) (by decide) ?_
                                              · rcases (show j = 99 ∨ j = 100 ∨ j = 101 ∨ j = 102 ∨ j = 103 ∨ j = 104 ∨ j = 105 ∨ j = 106 ∨ j = 107 ∨ j = 108 ∨ j = 109 ∨ j = 110 ∨ j = 111 ∨ j = 112 ∨ j = 113 ∨ j = 114 ∨ j = 115 ∨ j = 116 ∨ j = 117 ∨ j = 118 ∨ j = 119 ∨ j = 120 by omega) with rfl | rfl | rfl | rfl | rfl | rfl | rfl | rfl | rfl | rfl | rfl | rfl | rfl | rfl | rfl | rfl | rfl | rfl | rfl | rfl | rfl | rfl
                                                · exact c1
                                                · exact c2
                                                · exact c3
                                                · exact c4
                                                · exact c5
                                                · exact c6
                                                · exact c7
                                                · exact c8
                                                · exact c9
                                                · exact c10
                                                · exact c11
                                                · exact c12
                                                · exact c13
                                                · exact c14
                                                · exact c15
                                                · exact c16
                                                · exact c17
                                                · exact c18
                                                · exact c19
                                                · exact c20
                                                · exact c21
                                                · exact c22
                                              refine f_ldcW hC 1 rfl dX4_shapeOf_152 ?_
                                              obtain rfl := Option.some.inj hF
                                              exact f_aret hC hEn (fSm.rf w) dX4_shapeOf_155
theorem dX4_lettersFrom_0 : decode cX4_lettersFrom 0 = .ok (.iconst 0, 1) := by decide +kernel
theorem dX4_lettersFrom_1 : decode cX4_lettersFrom 1 = .ok (.istore_n 2, 1) := by decide +kernel
theorem dX4_lettersFrom_2 : decode cX4_lettersFrom 2 = .ok (.iload_n 2, 1) := by decide +kernel
theorem dX4_lettersFrom_3 : decode cX4_lettersFrom 3 = .ok (.bipush 6, 2) := by decide +kernel
theorem dX4_lettersFrom_5 : decode cX4_lettersFrom 5 = .ok (.if_icmp .ge 22, 3) := by decide +kernel
theorem dX4_lettersFrom_8 : decode cX4_lettersFrom 8 = .ok (.aload_n 0, 1) := by decide +kernel
theorem dX4_lettersFrom_9 : decode cX4_lettersFrom 9 = .ok (.iload_n 1, 1) := by decide +kernel
theorem dX4_lettersFrom_10 : decode cX4_lettersFrom 10 = .ok (.iload_n 2, 1) := by decide +kernel
theorem dX4_lettersFrom_11 : decode cX4_lettersFrom 11 = .ok (.iadd, 1) := by decide +kernel
theorem dX4_lettersFrom_12 : decode cX4_lettersFrom 12 = .ok (.invokevirtual 439, 3) := by decide +kernel
theorem dX4_lettersFrom_15 : decode cX4_lettersFrom 15 = .ok (.invokestatic 281, 3) := by decide +kernel
theorem dX4_lettersFrom_18 : decode cX4_lettersFrom 18 = .ok (.ifCond .eq 9, 3) := by decide +kernel
theorem dX4_lettersFrom_21 : decode cX4_lettersFrom 21 = .ok (.iinc 2 1, 3) := by decide +kernel
theorem dX4_lettersFrom_24 : decode cX4_lettersFrom 24 = .ok (.goto (-22), 3) := by decide +kernel
theorem dX4_lettersFrom_27 : decode cX4_lettersFrom 27 = .ok (.iload_n 2, 1) := by decide +kernel
theorem dX4_lettersFrom_28 : decode cX4_lettersFrom 28 = .ok (.ireturn, 1) := by decide +kernel
theorem h9_X4_lettersFrom : yX4_lettersFrom.cls ≠ "java/lang/invoke/MethodHandle" ∧ yX4_lettersFrom.cls ≠ "java/lang/invoke/VarHandle" ∧ (parseMethodDescriptor yX4_lettersFrom.desc).map (fun d => d.parameters.length) = some 1 := by decide +kernel
noncomputable def F_X4_lettersFrom (a0 : Nat) (x1 : Int32) (w : FW) : Option (Int32) :=
  (fLoop (σ := Int32) (ρ := Int32) (fun s1 => (if 6 ≤ s1 then some (.inr s1) else fg (w.1 a0 = 5) inferInstance ((F_X4_signAt a0 (x1 + s1) w).bind (fun r11 => (F_X4_isLetter r11 w).bind (fun r15 => (if r15 = 0 then some (.inr s1) else some (.inl (s1 + 1)))))))) 0).bind (fun x7 => some x7)
set_option maxHeartbeats 4000000 in
set_option maxRecDepth 100000 in
theorem c_X4_lettersFrom (l : Launch) (D : va_G) (cy : Nat → ClassId) (a0 : Nat) (x1 : Int32) (w : FW) (r : Int32) (hF : F_X4_lettersFrom a0 x1 w = some r) : fSpec l D cy yX4_lettersFrom cX4_lettersFrom 3 (some .int) { frames := 2, cells := 0, slots := 0, locals := 40 } [.ref a0, .int x1] w w (some (.int r)) := by
  refine f_begin (by decide +kernel) (Nat.le_of_ble_eq_true rfl) (fun X hC hEn => ?_)
  unfold F_X4_lettersFrom at hF
  show fAt X 0 0 3 w [(0, .ref a0), (1, .int x1)] [] 0
  refine f_iconst (v := 0) hC dX4_lettersFrom_0 (by decide) ?_
  refine f_istore_n (L' := [(2, .int 0), (0, .ref a0), (1, .int x1)]) hC dX4_lettersFrom_1 rfl (by decide) rfl ?_
  obtain ⟨x7, h8, hF⟩ := fb_open hF
  have K9 : fAt X 0 0 3 w [(2, .int x7)] [] 27 := by
    refine f_iload_n hC dX4_lettersFrom_27 rfl 0 rfl ?_
    obtain rfl := Option.some.inj hF
    exact f_iret hC hEn (fSm.rf w) dX4_lettersFrom_28
  refine f_sub (L' := [(0, .ref a0), (1, .int x1), (2, .int 0)]) [1, 2, 0] rfl ?_
  refine fLoop_ind (fun (s1 : Int32) => fAt X 0 0 3 w [(0, .ref a0), (1, .int x1), (2, .int s1)] [] 2) (fun s1 y6 h2 go3 ou4 => ?_) h8
  refine f_iload_n hC dX4_lettersFrom_2 rfl 2 rfl ?_
  refine f_bipush (v := 6) hC dX4_lettersFrom_3 (by decide) ?_
  refine f_icmp_ge hC 27 dX4_lettersFrom_5 (by decide) (fun c10 => ?_) (fun c10 => ?_)
  · replace h2 := fi_pos h2 c10
    obtain rfl := Option.some.inj h2
    obtain rfl := ou4 _ rfl
    refine f_sub (L' := [(2, .int s1)]) [2] rfl ?_
    exact K9
  · replace h2 := fi_neg h2 c10
    refine f_aload_n hC dX4_lettersFrom_8 rfl 0 rfl ?_
    refine f_iload_n hC dX4_lettersFrom_9 rfl 1 rfl ?_
    refine f_iload_n hC dX4_lettersFrom_10 rfl 2 rfl ?_
    refine f_iadd hC dX4_lettersFrom_11 ?_
    obtain ⟨g13, h2⟩ := fg_open h2
    obtain ⟨r11, h12, h2⟩ := fb_open h2
    refine f_callV hC [.int (x1 + s1)] (c_X4_signAt l D cy a0 (x1 + s1) w r11 h12) q_897 q_73 q_894 q_896 q_22 h9_X4_signAt rfl (fSm.k (fSm.rf w) g13) ⟨Nat.le_of_ble_eq_true rfl, Nat.le_of_ble_eq_true rfl⟩ ⟨Nat.le_of_ble_eq_true rfl, Nat.le_of_ble_eq_true rfl⟩ (Nat.le_of_ble_eq_true rfl) rfl dX4_lettersFrom_12 (fun e14 => ?_)
    obtain ⟨r15, h16, h2⟩ := fb_open h2
    refine f_callS hC [.int r11] (c_X4_isLetter l D cy r11 w r15 h16) q_926 q_73 q_924 q_925 h9_X4_isLetter ⟨Nat.le_of_ble_eq_true rfl, Nat.le_of_ble_eq_true rfl⟩ ⟨Nat.le_of_ble_eq_true rfl, Nat.le_of_ble_eq_true rfl⟩ (Nat.le_of_ble_eq_true rfl) rfl dX4_lettersFrom_15 (fun e17 => ?_)
    refine f_if_eq hC 27 dX4_lettersFrom_18 (by decide) (fun c18 => ?_) (fun c18 => ?_)
    · replace h2 := fi_pos h2 c18
      obtain rfl := Option.some.inj h2
      obtain rfl := ou4 _ rfl
      refine f_sub (L' := [(2, .int s1)]) [2] rfl ?_
      exact K9
    · replace h2 := fi_neg h2 c18
      refine f_iinc (L' := [(2, .int (s1 + 1)), (0, .ref a0), (1, .int x1)]) hC dX4_lettersFrom_21 2 rfl rfl (by decide) rfl ?_
      refine f_goto hC 2 dX4_lettersFrom_24 (by decide) ?_
      obtain rfl := Option.some.inj h2
      refine f_sub (L' := [(0, .ref a0), (1, .int x1), (2, .int (s1 + 1))]) [1, 2, 0] rfl ?_
      exact go3 _ rfl
theorem dX4_fittingCharacters_0 : decode cX4_fittingCharacters 0 = .ok (.aload_n 0, 1) := by decide +kernel
theorem dX4_fittingCharacters_1 : decode cX4_fittingCharacters 1 = .ok (.iload_n 2, 1) := by decide +kernel
theorem dX4_fittingCharacters_2 : decode cX4_fittingCharacters 2 = .ok (.invokevirtual 439, 3) := by decide +kernel
theorem dX4_fittingCharacters_5 : decode cX4_fittingCharacters 5 = .ok (.istore_n 3, 1) := by decide +kernel
theorem dX4_fittingCharacters_6 : decode cX4_fittingCharacters 6 = .ok (.iload_n 1, 1) := by decide +kernel
theorem dX4_fittingCharacters_7 : decode cX4_fittingCharacters 7 = .ok (.lookupswitch 85 #[(33, 83), (35, 41), (64, 77), (104, 59)], 41) := by decide +kernel
theorem dX4_fittingCharacters_48 : decode cX4_fittingCharacters 48 = .ok (.iload_n 3, 1) := by decide +kernel
theorem dX4_fittingCharacters_49 : decode cX4_fittingCharacters 49 = .ok (.bipush 48, 2) := by decide +kernel
theorem dX4_fittingCharacters_51 : decode cX4_fittingCharacters 51 = .ok (.if_icmp .lt 13, 3) := by decide +kernel
theorem dX4_fittingCharacters_54 : decode cX4_fittingCharacters 54 = .ok (.iload_n 3, 1) := by decide +kernel
theorem dX4_fittingCharacters_55 : decode cX4_fittingCharacters 55 = .ok (.bipush 57, 2) := by decide +kernel
theorem dX4_fittingCharacters_57 : decode cX4_fittingCharacters 57 = .ok (.if_icmp .gt 7, 3) := by decide +kernel
theorem dX4_fittingCharacters_60 : decode cX4_fittingCharacters 60 = .ok (.iconst 1, 1) := by decide +kernel
theorem dX4_fittingCharacters_61 : decode cX4_fittingCharacters 61 = .ok (.goto 4, 3) := by decide +kernel
theorem dX4_fittingCharacters_64 : decode cX4_fittingCharacters 64 = .ok (.iconst 0, 1) := by decide +kernel
theorem dX4_fittingCharacters_65 : decode cX4_fittingCharacters 65 = .ok (.ireturn, 1) := by decide +kernel
theorem dX4_fittingCharacters_66 : decode cX4_fittingCharacters 66 = .ok (.iload_n 3, 1) := by decide +kernel
theorem dX4_fittingCharacters_67 : decode cX4_fittingCharacters 67 = .ok (.bipush 111, 2) := by decide +kernel
theorem dX4_fittingCharacters_69 : decode cX4_fittingCharacters 69 = .ok (.if_icmp .eq 9, 3) := by decide +kernel
theorem dX4_fittingCharacters_72 : decode cX4_fittingCharacters 72 = .ok (.iload_n 3, 1) := by decide +kernel
theorem dX4_fittingCharacters_73 : decode cX4_fittingCharacters 73 = .ok (.bipush 114, 2) := by decide +kernel
theorem dX4_fittingCharacters_75 : decode cX4_fittingCharacters 75 = .ok (.if_icmp .ne 7, 3) := by decide +kernel
theorem dX4_fittingCharacters_78 : decode cX4_fittingCharacters 78 = .ok (.iconst 1, 1) := by decide +kernel
theorem dX4_fittingCharacters_79 : decode cX4_fittingCharacters 79 = .ok (.goto 4, 3) := by decide +kernel
theorem dX4_fittingCharacters_82 : decode cX4_fittingCharacters 82 = .ok (.iconst 0, 1) := by decide +kernel
theorem dX4_fittingCharacters_83 : decode cX4_fittingCharacters 83 = .ok (.ireturn, 1) := by decide +kernel
theorem dX4_fittingCharacters_84 : decode cX4_fittingCharacters 84 = .ok (.aload_n 0, 1) := by decide +kernel
theorem dX4_fittingCharacters_85 : decode cX4_fittingCharacters 85 = .ok (.iload_n 2, 1) := by decide +kernel
theorem dX4_fittingCharacters_86 : decode cX4_fittingCharacters 86 = .ok (.invokevirtual 486, 3) := by decide +kernel
theorem dX4_fittingCharacters_89 : decode cX4_fittingCharacters 89 = .ok (.ireturn, 1) := by decide +kernel
theorem dX4_fittingCharacters_90 : decode cX4_fittingCharacters 90 = .ok (.iconst 0, 1) := by decide +kernel
theorem dX4_fittingCharacters_91 : decode cX4_fittingCharacters 91 = .ok (.ireturn, 1) := by decide +kernel
theorem dX4_fittingCharacters_92 : decode cX4_fittingCharacters 92 = .ok (.iload_n 3, 1) := by decide +kernel
theorem dX4_fittingCharacters_93 : decode cX4_fittingCharacters 93 = .ok (.iload_n 1, 1) := by decide +kernel
theorem dX4_fittingCharacters_94 : decode cX4_fittingCharacters 94 = .ok (.if_icmp .ne 7, 3) := by decide +kernel
theorem dX4_fittingCharacters_97 : decode cX4_fittingCharacters 97 = .ok (.iconst 1, 1) := by decide +kernel
theorem dX4_fittingCharacters_98 : decode cX4_fittingCharacters 98 = .ok (.goto 4, 3) := by decide +kernel
theorem dX4_fittingCharacters_101 : decode cX4_fittingCharacters 101 = .ok (.iconst 0, 1) := by decide +kernel
theorem dX4_fittingCharacters_102 : decode cX4_fittingCharacters 102 = .ok (.ireturn, 1) := by decide +kernel
theorem h9_X4_fittingCharacters : yX4_fittingCharacters.cls ≠ "java/lang/invoke/MethodHandle" ∧ yX4_fittingCharacters.cls ≠ "java/lang/invoke/VarHandle" ∧ (parseMethodDescriptor yX4_fittingCharacters.desc).map (fun d => d.parameters.length) = some 2 := by decide +kernel
noncomputable def F_X4_fittingCharacters (a0 : Nat) (x1 : Int32) (x2 : Int32) (w : FW) : Option (Int32) :=
  fg (w.1 a0 = 5) inferInstance ((F_X4_signAt a0 x2 w).bind (fun r1 => (if x1 = 33 then some 0 else (if x1 = 35 then (if r1 < 48 then some 0 else (if 57 < r1 then some 0 else some 1)) else (if x1 = 64 then (F_X4_lettersFrom a0 x2 w).bind (fun r10 => some r10) else (if x1 = 104 then (if r1 = 111 then some 1 else (if r1 = 114 then some 1 else some 0)) else (if r1 = x1 then some 1 else some 0)))))))
set_option maxHeartbeats 4000000 in
set_option maxRecDepth 100000 in
theorem c_X4_fittingCharacters (l : Launch) (D : va_G) (cy : Nat → ClassId) (a0 : Nat) (x1 : Int32) (x2 : Int32) (w : FW) (r : Int32) (hF : F_X4_fittingCharacters a0 x1 x2 w = some r) : fSpec l D cy yX4_fittingCharacters cX4_fittingCharacters 4 (some .int) { frames := 3, cells := 0, slots := 0, locals := 62 } [.ref a0, .int x1, .int x2] w w (some (.int r)) := by
  refine f_begin (by decide +kernel) (Nat.le_of_ble_eq_true rfl) (fun X hC hEn => ?_)
  unfold F_X4_fittingCharacters at hF
  show fAt X 0 0 4 w [(0, .ref a0), (1, .int x1), (2, .int x2)] [] 0
  refine f_aload_n hC dX4_fittingCharacters_0 rfl 0 rfl ?_
  refine f_iload_n hC dX4_fittingCharacters_1 rfl 2 rfl ?_
  obtain ⟨g3, hF⟩ := fg_open hF
  obtain ⟨r1, h2, hF⟩ := fb_open hF
  refine f_callV hC [.int x2] (c_X4_signAt l D cy a0 x2 w r1 h2) q_897 q_73 q_894 q_896 q_22 h9_X4_signAt rfl (fSm.k (fSm.rf w) g3) ⟨Nat.le_of_ble_eq_true rfl, Nat.le_of_ble_eq_true rfl⟩ ⟨Nat.le_of_ble_eq_true rfl, Nat.le_of_ble_eq_true rfl⟩ (Nat.le_of_ble_eq_true rfl) rfl dX4_fittingCharacters_2 (fun e4 => ?_)
  refine f_istore_n (L' := [(3, .int r1), (0, .ref a0), (1, .int x1), (2, .int x2)]) hC dX4_fittingCharacters_5 rfl (by decide) rfl ?_
  refine f_iload_n hC dX4_fittingCharacters_6 rfl 2 rfl ?_
  by_cases c5 : x1 = 33
  · replace hF := fi_pos hF c5
    refine f_look hC 90 dX4_fittingCharacters_7 (by decide) (by rw [c5] <;> decide) (by decide) ?_
    refine f_iconst (v := 0) hC dX4_fittingCharacters_90 (by decide) ?_
    obtain rfl := Option.some.inj hF
    exact f_iret hC hEn (fSm.rf w) dX4_fittingCharacters_91
  · replace hF := fi_neg hF c5
    by_cases c6 : x1 = 35
    · replace hF := fi_pos hF c6
      refine f_look hC 48 dX4_fittingCharacters_7 (by decide) (by rw [c6] <;> decide) (by decide) ?_
      refine f_iload_n hC dX4_fittingCharacters_48 rfl 0 rfl ?_
      refine f_bipush (v := 48) hC dX4_fittingCharacters_49 (by decide) ?_
      refine f_icmp_lt hC 64 dX4_fittingCharacters_51 (by decide) (fun c7 => ?_) (fun c7 => ?_)
      · replace hF := fi_pos hF c7
        refine f_iconst (v := 0) hC dX4_fittingCharacters_64 (by decide) ?_
        obtain rfl := Option.some.inj hF
        exact f_iret hC hEn (fSm.rf w) dX4_fittingCharacters_65
      · replace hF := fi_neg hF c7
        refine f_iload_n hC dX4_fittingCharacters_54 rfl 0 rfl ?_
        refine f_bipush (v := 57) hC dX4_fittingCharacters_55 (by decide) ?_
        refine f_icmp_gt hC 64 dX4_fittingCharacters_57 (by decide) (fun c8 => ?_) (fun c8 => ?_)
        · replace hF := fi_pos hF c8
          refine f_iconst (v := 0) hC dX4_fittingCharacters_64 (by decide) ?_
          obtain rfl := Option.some.inj hF
          exact f_iret hC hEn (fSm.rf w) dX4_fittingCharacters_65
        · replace hF := fi_neg hF c8
          refine f_iconst (v := 1) hC dX4_fittingCharacters_60 (by decide) ?_
          refine f_goto hC 65 dX4_fittingCharacters_61 (by decide) ?_
          obtain rfl := Option.some.inj hF
          exact f_iret hC hEn (fSm.rf w) dX4_fittingCharacters_65
    · replace hF := fi_neg hF c6
      by_cases c9 : x1 = 64
      · replace hF := fi_pos hF c9
        refine f_look hC 84 dX4_fittingCharacters_7 (by decide) (by rw [c9] <;> decide) (by decide) ?_
        refine f_aload_n hC dX4_fittingCharacters_84 rfl 1 rfl ?_
        refine f_iload_n hC dX4_fittingCharacters_85 rfl 3 rfl ?_
        obtain ⟨r10, h11, hF⟩ := fb_open hF
        refine f_callV hC [.int x2] (c_X4_lettersFrom l D cy a0 x2 w r10 h11) q_923 q_73 q_920 q_922 q_24 h9_X4_lettersFrom rfl (fSm.k (fSm.rf w) g3) ⟨Nat.le_of_ble_eq_true rfl, Nat.le_of_ble_eq_true rfl⟩ ⟨Nat.le_of_ble_eq_true rfl, Nat.le_of_ble_eq_true rfl⟩ (Nat.le_of_ble_eq_true rfl) rfl dX4_fittingCharacters_86 (fun e12 => ?_)
        obtain rfl := Option.some.inj hF
        exact f_iret hC hEn (fSm.rf w) dX4_fittingCharacters_89
      · replace hF := fi_neg hF c9
        by_cases c13 : x1 = 104
        · replace hF := fi_pos hF c13
          refine f_look hC 66 dX4_fittingCharacters_7 (by decide) (by rw [c13] <;> decide) (by decide) ?_
          refine f_iload_n hC dX4_fittingCharacters_66 rfl 0 rfl ?_
          refine f_bipush (v := 111) hC dX4_fittingCharacters_67 (by decide) ?_
          refine f_icmp_eq hC 78 dX4_fittingCharacters_69 (by decide) (fun c14 => ?_) (fun c14 => ?_)
          · replace hF := fi_pos hF c14
            refine f_iconst (v := 1) hC dX4_fittingCharacters_78 (by decide) ?_
            refine f_goto hC 83 dX4_fittingCharacters_79 (by decide) ?_
            obtain rfl := Option.some.inj hF
            exact f_iret hC hEn (fSm.rf w) dX4_fittingCharacters_83
          · replace hF := fi_neg hF c14
            refine f_iload_n hC dX4_fittingCharacters_72 rfl 0 rfl ?_
            refine f_bipush (v := 114) hC dX4_fittingCharacters_73 (by decide) ?_
            refine f_icmp_ne hC 82 dX4_fittingCharacters_75 (by decide) (fun c15 => ?_) (fun c15 => ?_)
            · replace hF := fi_neg hF c15
              refine f_iconst (v := 0) hC dX4_fittingCharacters_82 (by decide) ?_
              obtain rfl := Option.some.inj hF
              exact f_iret hC hEn (fSm.rf w) dX4_fittingCharacters_83
            · replace hF := fi_pos hF c15
              refine f_iconst (v := 1) hC dX4_fittingCharacters_78 (by decide) ?_
              refine f_goto hC 83 dX4_fittingCharacters_79 (by decide) ?_
              obtain rfl := Option.some.inj hF
              exact f_iret hC hEn (fSm.rf w) dX4_fittingCharacters_83
        · replace hF := fi_neg hF c13
          refine f_look (off := 85) hC 92 dX4_fittingCharacters_7 (by decide) (flook (List.forall_mem_cons.mpr ⟨c5, (List.forall_mem_cons.mpr ⟨c6, (List.forall_mem_cons.mpr ⟨c9, (List.forall_mem_cons.mpr ⟨c13, (fun _ h => absurd h List.not_mem_nil)⟩)⟩)⟩)⟩)) (by decide) ?_
          refine f_iload_n hC dX4_fittingCharacters_92 rfl 0 rfl ?_
          refine f_iload_n hC dX4_fittingCharacters_93 rfl 2 rfl ?_
          refine f_icmp_ne hC 101 dX4_fittingCharacters_94 (by decide) (fun c16 => ?_) (fun c16 => ?_)
          · replace hF := fi_neg hF c16
            refine f_iconst (v := 0) hC dX4_fittingCharacters_101 (by decide) ?_
            obtain rfl := Option.some.inj hF
            exact f_iret hC hEn (fSm.rf w) dX4_fittingCharacters_102
          · replace hF := fi_pos hF c16
            refine f_iconst (v := 1) hC dX4_fittingCharacters_97 (by decide) ?_
            refine f_goto hC 102 dX4_fittingCharacters_98 (by decide) ?_
            obtain rfl := Option.some.inj hF
            exact f_iret hC hEn (fSm.rf w) dX4_fittingCharacters_102
