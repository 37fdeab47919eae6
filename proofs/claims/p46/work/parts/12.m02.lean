theorem dX0_holesFor_0 : decode cX0_holesFor 0 = .ok (.aload_n 0, 1) := by decide +kernel
theorem dX0_holesFor_1 : decode cX0_holesFor 1 = .ok (.getfield 9, 3) := by decide +kernel
theorem dX0_holesFor_4 : decode cX0_holesFor 4 = .ok (.ifCond .eq 8, 3) := by decide +kernel
theorem dX0_holesFor_7 : decode cX0_holesFor 7 = .ok (.iload_n 1, 1) := by decide +kernel
theorem dX0_holesFor_8 : decode cX0_holesFor 8 = .ok (.iconst (-1), 1) := by decide +kernel
theorem dX0_holesFor_9 : decode cX0_holesFor 9 = .ok (.if_icmp .ne 5, 3) := by decide +kernel
theorem dX0_holesFor_12 : decode cX0_holesFor 12 = .ok (.iconst 0, 1) := by decide +kernel
theorem dX0_holesFor_13 : decode cX0_holesFor 13 = .ok (.ireturn, 1) := by decide +kernel
theorem dX0_holesFor_14 : decode cX0_holesFor 14 = .ok (.iconst 1, 1) := by decide +kernel
theorem dX0_holesFor_15 : decode cX0_holesFor 15 = .ok (.iload_n 1, 1) := by decide +kernel
theorem dX0_holesFor_16 : decode cX0_holesFor 16 = .ok (.aload_n 0, 1) := by decide +kernel
theorem dX0_holesFor_17 : decode cX0_holesFor 17 = .ok (.getfield 15, 3) := by decide +kernel
theorem dX0_holesFor_20 : decode cX0_holesFor 20 = .ok (.iadd, 1) := by decide +kernel
theorem dX0_holesFor_21 : decode cX0_holesFor 21 = .ok (.iconst 5, 1) := by decide +kernel
theorem dX0_holesFor_22 : decode cX0_holesFor 22 = .ok (.irem, 1) := by decide +kernel
theorem dX0_holesFor_23 : decode cX0_holesFor 23 = .ok (.iadd, 1) := by decide +kernel
theorem dX0_holesFor_24 : decode cX0_holesFor 24 = .ok (.istore_n 3, 1) := by decide +kernel
theorem dX0_holesFor_25 : decode cX0_holesFor 25 = .ok (.iload_n 2, 1) := by decide +kernel
theorem dX0_holesFor_26 : decode cX0_holesFor 26 = .ok (.iconst 3, 1) := by decide +kernel
theorem dX0_holesFor_27 : decode cX0_holesFor 27 = .ok (.idiv, 1) := by decide +kernel
theorem dX0_holesFor_28 : decode cX0_holesFor 28 = .ok (.istore 4, 2) := by decide +kernel
theorem dX0_holesFor_30 : decode cX0_holesFor 30 = .ok (.iload 4, 2) := by decide +kernel
theorem dX0_holesFor_32 : decode cX0_holesFor 32 = .ok (.iload_n 3, 1) := by decide +kernel
theorem dX0_holesFor_33 : decode cX0_holesFor 33 = .ok (.if_icmp .ge 10, 3) := by decide +kernel
theorem dX0_holesFor_36 : decode cX0_holesFor 36 = .ok (.iload_n 3, 1) := by decide +kernel
theorem dX0_holesFor_37 : decode cX0_holesFor 37 = .ok (.iload 4, 2) := by decide +kernel
theorem dX0_holesFor_39 : decode cX0_holesFor 39 = .ok (.isub, 1) := by decide +kernel
theorem dX0_holesFor_40 : decode cX0_holesFor 40 = .ok (.goto 4, 3) := by decide +kernel
theorem dX0_holesFor_43 : decode cX0_holesFor 43 = .ok (.iconst 0, 1) := by decide +kernel
theorem dX0_holesFor_44 : decode cX0_holesFor 44 = .ok (.ireturn, 1) := by decide +kernel
theorem h9_X0_holesFor : yX0_holesFor.cls ≠ "java/lang/invoke/MethodHandle" ∧ yX0_holesFor.cls ≠ "java/lang/invoke/VarHandle" ∧ (parseMethodDescriptor yX0_holesFor.desc).map (fun d => d.parameters.length) = some 2 := by decide +kernel
noncomputable def F_X0_holesFor (a0 : Nat) (x1 : Int32) (x2 : Int32) (w : FW) : Option (Int32) :=
  fg (w.1 a0 = 1) inferInstance ((if (gI w 0 a0 0) = 0 then some 0 else (if x1 = (-1) then some 0 else (if (1 + (frem (x1 + (gI w 1 a0 0)) 5)) ≤ (x2 / 3) then some 0 else some ((1 + (frem (x1 + (gI w 1 a0 0)) 5)) - (x2 / 3))))))
set_option maxHeartbeats 4000000 in
set_option maxRecDepth 100000 in
theorem c_X0_holesFor (l : Launch) (D : va_G) (cy : Nat → ClassId) (a0 : Nat) (x1 : Int32) (x2 : Int32) (w : FW) (r : Int32) (hF : F_X0_holesFor a0 x1 x2 w = some r) : fSpec l D cy yX0_holesFor cX0_holesFor 5 (some .int) { frames := 0, cells := 0, slots := 0, locals := 0 } [.ref a0, .int x1, .int x2] w w (some (.int r)) := by
  refine f_begin (by decide +kernel) (Nat.le_of_ble_eq_true rfl) (fun X hC hEn => ?_)
  unfold F_X0_holesFor at hF
  show fAt X 0 0 5 w [(0, .ref a0), (1, .int x1), (2, .int x2)] [] 0
  refine f_aload_n hC dX0_holesFor_0 rfl 0 rfl ?_
  obtain ⟨g1, hF⟩ := fg_open hF
  refine f_getI hC 0 0 0 rfl (by decide) iX0 q_146 rfl rfl (fSm.k (fSm.rf w) g1) dX0_holesFor_1 ?_
  refine f_if_eq hC 12 dX0_holesFor_4 (by decide) (fun c2 => ?_) (fun c2 => ?_)
  · replace hF := fi_pos hF c2
    refine f_iconst (v := 0) hC dX0_holesFor_12 (by decide) ?_
    obtain rfl := Option.some.inj hF
    exact f_iret hC hEn (fSm.rf w) dX0_holesFor_13
  · replace hF := fi_neg hF c2
    refine f_iload_n hC dX0_holesFor_7 rfl 1 rfl ?_
    refine f_iconst (v := (-1)) hC dX0_holesFor_8 (by decide) ?_
    refine f_icmp_ne hC 14 dX0_holesFor_9 (by decide) (fun c3 => ?_) (fun c3 => ?_)
    · replace hF := fi_neg hF c3
      refine f_iconst (v := 1) hC dX0_holesFor_14 (by decide) ?_
      refine f_iload_n hC dX0_holesFor_15 rfl 1 rfl ?_
      refine f_aload_n hC dX0_holesFor_16 rfl 0 rfl ?_
      refine f_getI hC 0 1 1 rfl (by decide) iX0 q_150 rfl rfl (fSm.k (fSm.rf w) g1) dX0_holesFor_17 ?_
      refine f_iadd hC dX0_holesFor_20 ?_
      refine f_iconst (v := 5) hC dX0_holesFor_21 (by decide) ?_
      refine f_irem hC dX0_holesFor_22 (by decide) ?_
      refine f_iadd hC dX0_holesFor_23 ?_
      refine f_istore_n (L' := [(3, .int (1 + (frem (x1 + (gI w 1 a0 0)) 5))), (0, .ref a0), (1, .int x1), (2, .int x2)]) hC dX0_holesFor_24 rfl (by decide) rfl ?_
      refine f_iload_n hC dX0_holesFor_25 rfl 3 rfl ?_
      refine f_iconst (v := 3) hC dX0_holesFor_26 (by decide) ?_
      refine f_idiv hC dX0_holesFor_27 (by decide) ?_
      refine f_istore (L' := [(4, .int (x2 / 3)), (3, .int (1 + (frem (x1 + (gI w 1 a0 0)) 5))), (0, .ref a0), (1, .int x1), (2, .int x2)]) hC dX0_holesFor_28 (by decide) rfl ?_
      refine f_iload hC dX0_holesFor_30 0 rfl ?_
      refine f_iload_n hC dX0_holesFor_32 rfl 1 rfl ?_
      refine f_icmp_ge hC 43 dX0_holesFor_33 (by decide) (fun c4 => ?_) (fun c4 => ?_)
      · replace hF := fi_pos hF c4
        refine f_iconst (v := 0) hC dX0_holesFor_43 (by decide) ?_
        obtain rfl := Option.some.inj hF
        exact f_iret hC hEn (fSm.rf w) dX0_holesFor_44
      · replace hF := fi_neg hF c4
        refine f_iload_n hC dX0_holesFor_36 rfl 1 rfl ?_
        refine f_iload hC dX0_holesFor_37 0 rfl ?_
        refine f_isub hC dX0_holesFor_39 ?_
        refine f_goto hC 44 dX0_holesFor_40 (by decide) ?_
        obtain rfl := Option.some.inj hF
        exact f_iret hC hEn (fSm.rf w) dX0_holesFor_44
    · replace hF := fi_pos hF c3
      refine f_iconst (v := 0) hC dX0_holesFor_12 (by decide) ?_
      obtain rfl := Option.some.inj hF
      exact f_iret hC hEn (fSm.rf w) dX0_holesFor_13
theorem dX0_holesWhenWet_0 : decode cX0_holesWhenWet 0 = .ok (.iconst 0, 1) := by decide +kernel
theorem dX0_holesWhenWet_1 : decode cX0_holesWhenWet 1 = .ok (.istore_n 3, 1) := by decide +kernel
theorem dX0_holesWhenWet_2 : decode cX0_holesWhenWet 2 = .ok (.iconst 0, 1) := by decide +kernel
theorem dX0_holesWhenWet_3 : decode cX0_holesWhenWet 3 = .ok (.istore 4, 2) := by decide +kernel
theorem dX0_holesWhenWet_5 : decode cX0_holesWhenWet 5 = .ok (.iload 4, 2) := by decide +kernel
theorem dX0_holesWhenWet_7 : decode cX0_holesWhenWet 7 = .ok (.aload_n 1, 1) := by decide +kernel
theorem dX0_holesWhenWet_8 : decode cX0_holesWhenWet 8 = .ok (.getfield 34, 3) := by decide +kernel
theorem dX0_holesWhenWet_11 : decode cX0_holesWhenWet 11 = .ok (.if_icmp .ge 26, 3) := by decide +kernel
theorem dX0_holesWhenWet_14 : decode cX0_holesWhenWet 14 = .ok (.iload_n 3, 1) := by decide +kernel
theorem dX0_holesWhenWet_15 : decode cX0_holesWhenWet 15 = .ok (.aload_n 0, 1) := by decide +kernel
theorem dX0_holesWhenWet_16 : decode cX0_holesWhenWet 16 = .ok (.aload_n 1, 1) := by decide +kernel
theorem dX0_holesWhenWet_17 : decode cX0_holesWhenWet 17 = .ok (.iload 4, 2) := by decide +kernel
theorem dX0_holesWhenWet_19 : decode cX0_holesWhenWet 19 = .ok (.invokevirtual 39, 3) := by decide +kernel
theorem dX0_holesWhenWet_22 : decode cX0_holesWhenWet 22 = .ok (.invokestatic 43, 3) := by decide +kernel
theorem dX0_holesWhenWet_25 : decode cX0_holesWhenWet 25 = .ok (.iload_n 2, 1) := by decide +kernel
theorem dX0_holesWhenWet_26 : decode cX0_holesWhenWet 26 = .ok (.invokevirtual 47, 3) := by decide +kernel
theorem dX0_holesWhenWet_29 : decode cX0_holesWhenWet 29 = .ok (.iadd, 1) := by decide +kernel
theorem dX0_holesWhenWet_30 : decode cX0_holesWhenWet 30 = .ok (.istore_n 3, 1) := by decide +kernel
theorem dX0_holesWhenWet_31 : decode cX0_holesWhenWet 31 = .ok (.iinc 4 1, 3) := by decide +kernel
theorem dX0_holesWhenWet_34 : decode cX0_holesWhenWet 34 = .ok (.goto (-29), 3) := by decide +kernel
theorem dX0_holesWhenWet_37 : decode cX0_holesWhenWet 37 = .ok (.iload_n 3, 1) := by decide +kernel
theorem dX0_holesWhenWet_38 : decode cX0_holesWhenWet 38 = .ok (.ireturn, 1) := by decide +kernel
theorem h9_X0_holesWhenWet : yX0_holesWhenWet.cls ≠ "java/lang/invoke/MethodHandle" ∧ yX0_holesWhenWet.cls ≠ "java/lang/invoke/VarHandle" ∧ (parseMethodDescriptor yX0_holesWhenWet.desc).map (fun d => d.parameters.length) = some 2 := by decide +kernel
noncomputable def F_X0_holesWhenWet (a0 : Nat) (a1 : Nat) (x2 : Int32) (w : FW) : Option (Int32) :=
  (fLoop (σ := Int32 × Int32) (ρ := Int32) (fun s1 => fg (w.1 a1 = 4) inferInstance ((if (gI w 301 a1 0) ≤ s1.2 then some (.inr s1.1) else (F_X3_letterAt a1 s1.2 w).bind (fun r12 => (F_X4_vowelNumber r12 w).bind (fun r15 => fg (w.1 a0 = 1) inferInstance ((F_X0_holesFor a0 r15 x2 w).bind (fun r18 => some (.inl ((s1.1 + r18), (s1.2 + 1)))))))))) (0, 0)).bind (fun x7 => some x7)
set_option maxHeartbeats 4000000 in
set_option maxRecDepth 100000 in
theorem c_X0_holesWhenWet (l : Launch) (D : va_G) (cy : Nat → ClassId) (a0 : Nat) (a1 : Nat) (x2 : Int32) (w : FW) (r : Int32) (hF : F_X0_holesWhenWet a0 a1 x2 w = some r) : fSpec l D cy yX0_holesWhenWet cX0_holesWhenWet 5 (some .int) { frames := 2, cells := 0, slots := 0, locals := 42 } [.ref a0, .ref a1, .int x2] w w (some (.int r)) := by
  refine f_begin (by decide +kernel) (Nat.le_of_ble_eq_true rfl) (fun X hC hEn => ?_)
  unfold F_X0_holesWhenWet at hF
  show fAt X 0 0 5 w [(0, .ref a0), (1, .ref a1), (2, .int x2)] [] 0
  refine f_iconst (v := 0) hC dX0_holesWhenWet_0 (by decide) ?_
  refine f_istore_n (L' := [(3, .int 0), (0, .ref a0), (1, .ref a1), (2, .int x2)]) hC dX0_holesWhenWet_1 rfl (by decide) rfl ?_
  refine f_iconst (v := 0) hC dX0_holesWhenWet_2 (by decide) ?_
  refine f_istore (L' := [(4, .int 0), (3, .int 0), (0, .ref a0), (1, .ref a1), (2, .int x2)]) hC dX0_holesWhenWet_3 (by decide) rfl ?_
  obtain ⟨x7, h8, hF⟩ := fb_open hF
  have K9 : fAt X 0 0 5 w [(3, .int x7)] [] 37 := by
    refine f_iload_n hC dX0_holesWhenWet_37 rfl 0 rfl ?_
    obtain rfl := Option.some.inj hF
    exact f_iret hC hEn (fSm.rf w) dX0_holesWhenWet_38
  refine f_sub (L' := [(0, .ref a0), (1, .ref a1), (2, .int x2), (3, .int 0), (4, .int 0)]) [2, 3, 4, 1, 0] rfl ?_
  refine fLoop_ind (fun (s1 : Int32 × Int32) => fAt X 0 0 5 w [(0, .ref a0), (1, .ref a1), (2, .int x2), (3, .int s1.1), (4, .int s1.2)] [] 5) (fun s1 y6 h2 go3 ou4 => ?_) h8
  refine f_iload hC dX0_holesWhenWet_5 4 rfl ?_
  refine f_aload_n hC dX0_holesWhenWet_7 rfl 1 rfl ?_
  obtain ⟨g10, h2⟩ := fg_open h2
  refine f_getIN hC 3 1 301 rfl (by decide) iX3 q_125 rfl rfl (fSm.k (fSm.rf w) g10) dX0_holesWhenWet_8 ?_
  refine f_icmp_ge hC 37 dX0_holesWhenWet_11 (by decide) (fun c11 => ?_) (fun c11 => ?_)
  · replace h2 := fi_pos h2 c11
    obtain rfl := Option.some.inj h2
    obtain rfl := ou4 _ rfl
    refine f_sub (L' := [(3, .int s1.1)]) [3] rfl ?_
    exact K9
  · replace h2 := fi_neg h2 c11
    refine f_iload_n hC dX0_holesWhenWet_14 rfl 3 rfl ?_
    refine f_aload_n hC dX0_holesWhenWet_15 rfl 0 rfl ?_
    refine f_aload_n hC dX0_holesWhenWet_16 rfl 1 rfl ?_
    refine f_iload hC dX0_holesWhenWet_17 4 rfl ?_
    obtain ⟨r12, h13, h2⟩ := fb_open h2
    refine f_callVN hC [.int s1.2] (c_X3_letterAt l D cy a1 s1.2 w r12 h13) q_433 q_75 q_430 q_432 q_5 h9_X3_letterAt rfl (fSm.k (fSm.rf w) g10) ⟨Nat.le_of_ble_eq_true rfl, Nat.le_of_ble_eq_true rfl⟩ ⟨Nat.le_of_ble_eq_true rfl, Nat.le_of_ble_eq_true rfl⟩ (Nat.le_of_ble_eq_true rfl) rfl dX0_holesWhenWet_19 (fun e14 => ?_)
    obtain ⟨r15, h16, h2⟩ := fb_open h2
    refine f_callSN hC [.int r12] (c_X4_vowelNumber l D cy r12 w r15 h16) q_440 q_73 q_438 q_439 h9_X4_vowelNumber ⟨Nat.le_of_ble_eq_true rfl, Nat.le_of_ble_eq_true rfl⟩ ⟨Nat.le_of_ble_eq_true rfl, Nat.le_of_ble_eq_true rfl⟩ (Nat.le_of_ble_eq_true rfl) rfl dX0_holesWhenWet_22 (fun e17 => ?_)
    refine f_iload_n hC dX0_holesWhenWet_25 rfl 2 rfl ?_
    obtain ⟨g20, h2⟩ := fg_open h2
    obtain ⟨r18, h19, h2⟩ := fb_open h2
    refine f_callV hC [.int r15, .int x2] (c_X0_holesFor l D cy a0 r15 x2 w r18 h19) q_444 q_77 q_441 q_443 q_7 h9_X0_holesFor rfl (fSm.k (fSm.rf w) g20) ⟨Nat.le_of_ble_eq_true rfl, Nat.le_of_ble_eq_true rfl⟩ ⟨Nat.le_of_ble_eq_true rfl, Nat.le_of_ble_eq_true rfl⟩ (Nat.le_of_ble_eq_true rfl) rfl dX0_holesWhenWet_26 (fun e21 => ?_)
    refine f_iadd hC dX0_holesWhenWet_29 ?_
    refine f_istore_n (L' := [(3, .int (s1.1 + r18)), (0, .ref a0), (1, .ref a1), (2, .int x2), (4, .int s1.2)]) hC dX0_holesWhenWet_30 rfl (by decide) rfl ?_
    refine f_iinc (L' := [(4, .int (s1.2 + 1)), (3, .int (s1.1 + r18)), (0, .ref a0), (1, .ref a1), (2, .int x2)]) hC dX0_holesWhenWet_31 4 rfl rfl (by decide) rfl ?_
    refine f_goto hC 5 dX0_holesWhenWet_34 (by decide) ?_
    obtain rfl := Option.some.inj h2
    refine f_sub (L' := [(0, .ref a0), (1, .ref a1), (2, .int x2), (3, .int (s1.1 + r18)), (4, .int (s1.2 + 1))]) [2, 3, 4, 1, 0] rfl ?_
    exact go3 _ rfl
theorem dX4_tryPunch_0 : decode cX4_tryPunch 0 = .ok (.aload_n 0, 1) := by decide +kernel
theorem dX4_tryPunch_1 : decode cX4_tryPunch 1 = .ok (.getfield 12, 3) := by decide +kernel
theorem dX4_tryPunch_4 : decode cX4_tryPunch 4 = .ok (.iload_n 1, 1) := by decide +kernel
theorem dX4_tryPunch_5 : decode cX4_tryPunch 5 = .ok (.invokevirtual 407, 3) := by decide +kernel
theorem dX4_tryPunch_8 : decode cX4_tryPunch 8 = .ok (.ifCond .eq 10, 3) := by decide +kernel
theorem dX4_tryPunch_11 : decode cX4_tryPunch 11 = .ok (.iload_n 3, 1) := by decide +kernel
theorem dX4_tryPunch_12 : decode cX4_tryPunch 12 = .ok (.invokestatic 413, 3) := by decide +kernel
theorem dX4_tryPunch_15 : decode cX4_tryPunch 15 = .ok (.ifCond .ne 5, 3) := by decide +kernel
theorem dX4_tryPunch_18 : decode cX4_tryPunch 18 = .ok (.iconst 1, 1) := by decide +kernel
theorem dX4_tryPunch_19 : decode cX4_tryPunch 19 = .ok (.ireturn, 1) := by decide +kernel
theorem dX4_tryPunch_20 : decode cX4_tryPunch 20 = .ok (.aload_n 0, 1) := by decide +kernel
theorem dX4_tryPunch_21 : decode cX4_tryPunch 21 = .ok (.getfield 12, 3) := by decide +kernel
theorem dX4_tryPunch_24 : decode cX4_tryPunch 24 = .ok (.getfield 235, 3) := by decide +kernel
theorem dX4_tryPunch_27 : decode cX4_tryPunch 27 = .ok (.iload_n 1, 1) := by decide +kernel
theorem dX4_tryPunch_28 : decode cX4_tryPunch 28 = .ok (.aaload, 1) := by decide +kernel
theorem dX4_tryPunch_29 : decode cX4_tryPunch 29 = .ok (.astore 4, 2) := by decide +kernel
theorem dX4_tryPunch_31 : decode cX4_tryPunch 31 = .ok (.aload 4, 2) := by decide +kernel
theorem dX4_tryPunch_33 : decode cX4_tryPunch 33 = .ok (.iload_n 2, 1) := by decide +kernel
theorem dX4_tryPunch_34 : decode cX4_tryPunch 34 = .ok (.invokevirtual 166, 3) := by decide +kernel
theorem dX4_tryPunch_37 : decode cX4_tryPunch 37 = .ok (.astore 5, 2) := by decide +kernel
theorem dX4_tryPunch_39 : decode cX4_tryPunch 39 = .ok (.aload 5, 2) := by decide +kernel
theorem dX4_tryPunch_41 : decode cX4_tryPunch 41 = .ok (.getfield 195, 3) := by decide +kernel
theorem dX4_tryPunch_44 : decode cX4_tryPunch 44 = .ok (.ifCond .eq 10, 3) := by decide +kernel
theorem dX4_tryPunch_47 : decode cX4_tryPunch 47 = .ok (.aload_n 0, 1) := by decide +kernel
theorem dX4_tryPunch_48 : decode cX4_tryPunch 48 = .ok (.iconst 3, 1) := by decide +kernel
theorem dX4_tryPunch_49 : decode cX4_tryPunch 49 = .ok (.iconst 1, 1) := by decide +kernel
theorem dX4_tryPunch_50 : decode cX4_tryPunch 50 = .ok (.invokevirtual 394, 3) := by decide +kernel
theorem dX4_tryPunch_53 : decode cX4_tryPunch 53 = .ok (.ireturn, 1) := by decide +kernel
theorem dX4_tryPunch_54 : decode cX4_tryPunch 54 = .ok (.aload 5, 2) := by decide +kernel
theorem dX4_tryPunch_56 : decode cX4_tryPunch 56 = .ok (.iconst 1, 1) := by decide +kernel
theorem dX4_tryPunch_57 : decode cX4_tryPunch 57 = .ok (.putfield 195, 3) := by decide +kernel
theorem dX4_tryPunch_60 : decode cX4_tryPunch 60 = .ok (.aload 5, 2) := by decide +kernel
theorem dX4_tryPunch_62 : decode cX4_tryPunch 62 = .ok (.aload_n 0, 1) := by decide +kernel
theorem dX4_tryPunch_63 : decode cX4_tryPunch 63 = .ok (.getfield 12, 3) := by decide +kernel
theorem dX4_tryPunch_66 : decode cX4_tryPunch 66 = .ok (.getfield 416, 3) := by decide +kernel
theorem dX4_tryPunch_69 : decode cX4_tryPunch 69 = .ok (.iload_n 3, 1) := by decide +kernel
theorem dX4_tryPunch_70 : decode cX4_tryPunch 70 = .ok (.iaload, 1) := by decide +kernel
theorem dX4_tryPunch_71 : decode cX4_tryPunch 71 = .ok (.putfield 198, 3) := by decide +kernel
theorem dX4_tryPunch_74 : decode cX4_tryPunch 74 = .ok (.aload_n 0, 1) := by decide +kernel
theorem dX4_tryPunch_75 : decode cX4_tryPunch 75 = .ok (.getfield 12, 3) := by decide +kernel
theorem dX4_tryPunch_78 : decode cX4_tryPunch 78 = .ok (.dup, 1) := by decide +kernel
theorem dX4_tryPunch_79 : decode cX4_tryPunch 79 = .ok (.getfield 339, 3) := by decide +kernel
theorem dX4_tryPunch_82 : decode cX4_tryPunch 82 = .ok (.aload 5, 2) := by decide +kernel
theorem dX4_tryPunch_84 : decode cX4_tryPunch 84 = .ok (.aload 4, 2) := by decide +kernel
theorem dX4_tryPunch_86 : decode cX4_tryPunch 86 = .ok (.getfield 119, 3) := by decide +kernel
theorem dX4_tryPunch_89 : decode cX4_tryPunch 89 = .ok (.iconst 0, 1) := by decide +kernel
theorem dX4_tryPunch_90 : decode cX4_tryPunch 90 = .ok (.invokevirtual 170, 3) := by decide +kernel
theorem dX4_tryPunch_93 : decode cX4_tryPunch 93 = .ok (.iadd, 1) := by decide +kernel
theorem dX4_tryPunch_94 : decode cX4_tryPunch 94 = .ok (.putfield 339, 3) := by decide +kernel
theorem dX4_tryPunch_97 : decode cX4_tryPunch 97 = .ok (.iconst 0, 1) := by decide +kernel
theorem dX4_tryPunch_98 : decode cX4_tryPunch 98 = .ok (.ireturn, 1) := by decide +kernel
theorem h9_X4_tryPunch : yX4_tryPunch.cls ≠ "java/lang/invoke/MethodHandle" ∧ yX4_tryPunch.cls ≠ "java/lang/invoke/VarHandle" ∧ (parseMethodDescriptor yX4_tryPunch.desc).map (fun d => d.parameters.length) = some 3 := by decide +kernel
noncomputable def F_X4_tryPunch (a0 : Nat) (x1 : Int32) (x2 : Int32) (x3 : Int32) (w : FW) : Option (Int32 × FW) :=
  fg (w.1 a0 = 5) inferInstance (fg (w.1 (gR w 400 a0 0) = 2) inferInstance ((F_X1_hasTicket (gR w 400 a0 0) x1 w).bind (fun r2 => (if r2 = 0 then some (1, w) else (F_X4_isPuncher x3 w).bind (fun r7 => (if r7 = 0 then some (1, w) else fg (w.1 (gR w 100 (gR w 400 a0 0) 0) = 14) inferInstance (fg (¬ (x1 < 0 ∨ w.2.1 (gR w 100 (gR w 400 a0 0) 0) ≤ Int32.toNatClampNeg x1)) inferInstance (fg (w.1 (gR w 604 (gR w 100 (gR w 400 a0 0) 0) (Int32.toNatClampNeg x1)) = 3) inferInstance ((F_X2_half (gR w 604 (gR w 100 (gR w 400 a0 0) 0) (Int32.toNatClampNeg x1)) x2 w).bind (fun r13 => fg (w.1 r13 = 1) inferInstance ((if (gI w 0 r13 0) = 0 then fg (w.1 (gR w 103 (gR w 400 a0 0) 0) = 11) inferInstance (fg (¬ (x3 < 0 ∨ w.2.1 (gR w 103 (gR w 400 a0 0) 0) ≤ Int32.toNatClampNeg x3)) inferInstance ((F_X0_holesWhenWet r13 (gR (sI (sI w 0 r13 0 1) 1 r13 0 (gI (sI w 0 r13 0 1) 601 (gR (sI w 0 r13 0 1) 103 (gR (sI w 0 r13 0 1) 400 a0 0) 0) (Int32.toNatClampNeg x3))) 200 (gR w 604 (gR w 100 (gR w 400 a0 0) 0) (Int32.toNatClampNeg x1)) 0) 0 (sI (sI w 0 r13 0 1) 1 r13 0 (gI (sI w 0 r13 0 1) 601 (gR (sI w 0 r13 0 1) 103 (gR (sI w 0 r13 0 1) 400 a0 0) 0) (Int32.toNatClampNeg x3)))).bind (fun r21 => some (0, (sI (sI (sI w 0 r13 0 1) 1 r13 0 (gI (sI w 0 r13 0 1) 601 (gR (sI w 0 r13 0 1) 103 (gR (sI w 0 r13 0 1) 400 a0 0) 0) (Int32.toNatClampNeg x3))) 109 (gR (sI (sI w 0 r13 0 1) 1 r13 0 (gI (sI w 0 r13 0 1) 601 (gR (sI w 0 r13 0 1) 103 (gR (sI w 0 r13 0 1) 400 a0 0) 0) (Int32.toNatClampNeg x3))) 400 a0 0) 0 ((gI (sI (sI w 0 r13 0 1) 1 r13 0 (gI (sI w 0 r13 0 1) 601 (gR (sI w 0 r13 0 1) 103 (gR (sI w 0 r13 0 1) 400 a0 0) 0) (Int32.toNatClampNeg x3))) 109 (gR (sI (sI w 0 r13 0 1) 1 r13 0 (gI (sI w 0 r13 0 1) 601 (gR (sI w 0 r13 0 1) 103 (gR (sI w 0 r13 0 1) 400 a0 0) 0) (Int32.toNatClampNeg x3))) 400 a0 0) 0) + r21)))))) else (F_X4_refuse a0 3 1 w).bind (fun r24 => some (r24.1, r24.2))))))))))))))
set_option maxHeartbeats 4000000 in
set_option maxRecDepth 100000 in
theorem c_X4_tryPunch (l : Launch) (D : va_G) (cy : Nat → ClassId) (a0 : Nat) (x1 : Int32) (x2 : Int32) (x3 : Int32) (w : FW) (r : Int32 × FW) (hF : F_X4_tryPunch a0 x1 x2 x3 w = some r) : fSpec l D cy yX4_tryPunch cX4_tryPunch 6 (some .int) { frames := 3, cells := 0, slots := 0, locals := 66 } [.ref a0, .int x1, .int x2, .int x3] w r.2 (some (.int r.1)) := by
  refine f_begin (by decide +kernel) (Nat.le_of_ble_eq_true rfl) (fun X hC hEn => ?_)
  unfold F_X4_tryPunch at hF
  show fAt X 0 0 6 w [(0, .ref a0), (1, .int x1), (2, .int x2), (3, .int x3)] [] 0
  refine f_aload_n hC dX4_tryPunch_0 rfl 0 rfl ?_
  obtain ⟨g1, hF⟩ := fg_open hF
  refine f_getR hC 4 0 400 rfl (by decide) iX4 q_260 rfl rfl (fSm.k (fSm.rf w) g1) dX4_tryPunch_1 ?_
  refine f_iload_n hC dX4_tryPunch_4 rfl 1 rfl ?_
  obtain ⟨g4, hF⟩ := fg_open hF
  obtain ⟨r2, h3, hF⟩ := fb_open hF
  refine f_callVN hC [.int x1] (c_X1_hasTicket l D cy (gR w 400 a0 0) x1 w r2 h3) q_408 q_74 q_405 q_407 q_2 h9_X1_hasTicket rfl (fSm.k (fSm.rf w) g4) ⟨Nat.le_of_ble_eq_true rfl, Nat.le_of_ble_eq_true rfl⟩ ⟨Nat.le_of_ble_eq_true rfl, Nat.le_of_ble_eq_true rfl⟩ (Nat.le_of_ble_eq_true rfl) rfl dX4_tryPunch_5 (fun e5 => ?_)
  refine f_if_eq hC 18 dX4_tryPunch_8 (by decide) (fun c6 => ?_) (fun c6 => ?_)
  · replace hF := fi_pos hF c6
    refine f_iconst (v := 1) hC dX4_tryPunch_18 (by decide) ?_
    obtain rfl := Option.some.inj hF
    exact f_iret hC hEn (fSm.rf w) dX4_tryPunch_19
  · replace hF := fi_neg hF c6
    refine f_iload_n hC dX4_tryPunch_11 rfl 3 rfl ?_
    obtain ⟨r7, h8, hF⟩ := fb_open hF
    refine f_callS hC [.int x3] (c_X4_isPuncher l D cy x3 w r7 h8) q_999 q_73 q_997 q_998 h9_X4_isPuncher ⟨Nat.le_of_ble_eq_true rfl, Nat.le_of_ble_eq_true rfl⟩ ⟨Nat.le_of_ble_eq_true rfl, Nat.le_of_ble_eq_true rfl⟩ (Nat.le_of_ble_eq_true rfl) rfl dX4_tryPunch_12 (fun e9 => ?_)
    refine f_if_ne hC 20 dX4_tryPunch_15 (by decide) (fun c10 => ?_) (fun c10 => ?_)
    · replace hF := fi_neg hF c10
      refine f_aload_n hC dX4_tryPunch_20 rfl 0 rfl ?_
      refine f_getR hC 4 0 400 rfl (by decide) iX4 q_260 rfl rfl (fSm.k (fSm.rf w) g1) dX4_tryPunch_21 ?_
      refine f_getRN hC 1 0 100 rfl (by decide) iX1 q_217 rfl rfl (fSm.k (fSm.rf w) g4) dX4_tryPunch_24 ?_
      refine f_iload_n hC dX4_tryPunch_27 rfl 1 rfl ?_
      obtain ⟨g11, hF⟩ := fg_open hF
      obtain ⟨g12, hF⟩ := fg_open hF
      refine f_aald1 hC (fSm.k (fSm.rf w) g11) (fSm.v (fSm.rf w) g12) dX4_tryPunch_28 ?_
      refine f_astore (L' := [(4, .ref (gR w 604 (gR w 100 (gR w 400 a0 0) 0) (Int32.toNatClampNeg x1))), (0, .ref a0), (1, .int x1), (2, .int x2), (3, .int x3)]) hC dX4_tryPunch_29 (by decide) rfl ?_
      refine f_aload hC dX4_tryPunch_31 0 rfl ?_
      refine f_iload_n hC dX4_tryPunch_33 rfl 3 rfl ?_
      obtain ⟨g15, hF⟩ := fg_open hF
      obtain ⟨r13, h14, hF⟩ := fb_open hF
      refine f_callVN hC [.int x2] (c_X2_half l D cy (gR w 604 (gR w 100 (gR w 400 a0 0) 0) (Int32.toNatClampNeg x1)) x2 w r13 h14) q_425 q_76 q_422 q_424 q_3 h9_X2_half rfl (fSm.k (fSm.rf w) g15) ⟨Nat.le_of_ble_eq_true rfl, Nat.le_of_ble_eq_true rfl⟩ ⟨Nat.le_of_ble_eq_true rfl, Nat.le_of_ble_eq_true rfl⟩ (Nat.le_of_ble_eq_true rfl) rfl dX4_tryPunch_34 (fun e16 => ?_)
      refine f_astore (L' := [(5, .ref r13), (4, .ref (gR w 604 (gR w 100 (gR w 400 a0 0) 0) (Int32.toNatClampNeg x1))), (0, .ref a0), (1, .int x1), (2, .int x2), (3, .int x3)]) hC dX4_tryPunch_37 (by decide) rfl ?_
      refine f_aload hC dX4_tryPunch_39 0 rfl ?_
      obtain ⟨g17, hF⟩ := fg_open hF
      refine f_getIN hC 0 0 0 rfl (by decide) iX0 q_149 rfl rfl (fSm.k (fSm.rf w) g17) dX4_tryPunch_41 ?_
      refine f_if_eq hC 54 dX4_tryPunch_44 (by decide) (fun c18 => ?_) (fun c18 => ?_)
      · replace hF := fi_pos hF c18
        refine f_aload hC dX4_tryPunch_54 0 rfl ?_
        refine f_iconst (v := 1) hC dX4_tryPunch_56 (by decide) ?_
        refine f_putIN hC 0 0 0 rfl (by decide) iX0 tyX0 tyX0_ok nmX0 q_149 rfl rfl rfl (nar_z (by decide)) (fit_z (by decide)) (fSm.k (fSm.rf w) g17) dX4_tryPunch_57 ?_
        refine f_aload hC dX4_tryPunch_60 0 rfl ?_
        refine f_aload_n hC dX4_tryPunch_62 rfl 2 rfl ?_
        refine f_getR hC 4 0 400 rfl (by decide) iX4 q_260 rfl rfl (fSm.k (fSm.rf w) g1) dX4_tryPunch_63 ?_
        refine f_getRN hC 1 3 103 rfl (by decide) iX1 q_223 rfl rfl (fSm.k (fSm.rf w) g4) dX4_tryPunch_66 ?_
        refine f_iload_n hC dX4_tryPunch_69 rfl 5 rfl ?_
        obtain ⟨g19, hF⟩ := fg_open hF
        obtain ⟨g20, hF⟩ := fg_open hF
        refine f_iald hC (fSm.k (fSm.rf w) g19) (fSm.v (fSm.rf w) g20) dX4_tryPunch_70 ?_
        refine f_putIN hC 0 1 1 rfl (by decide) iX0 tyX0 tyX0_ok nmX0 q_152 rfl rfl rfl rfl rfl (fSm.k (fSm.rf w) g17) dX4_tryPunch_71 ?_
        refine f_aload_n hC dX4_tryPunch_74 rfl 2 rfl ?_
        refine f_getR hC 4 0 400 rfl (by decide) iX4 q_260 rfl rfl (fSm.k (fSm.rf w) g1) dX4_tryPunch_75 ?_
        refine f_dup hC dX4_tryPunch_78 rfl ?_
        refine f_getIN hC 1 9 109 rfl (by decide) iX1 q_235 rfl rfl (fSm.k (fSm.rf w) g4) dX4_tryPunch_79 ?_
        refine f_aload hC dX4_tryPunch_82 0 rfl ?_
        refine f_aload hC dX4_tryPunch_84 1 rfl ?_
        refine f_getRN hC 2 0 200 rfl (by decide) iX2 q_176 rfl rfl (fSm.k (fSm.rf w) g15) dX4_tryPunch_86 ?_
        refine f_iconst (v := 0) hC dX4_tryPunch_89 (by decide) ?_
        obtain ⟨r21, h22, hF⟩ := fb_open hF
        refine f_callVN hC [.ref (gR (sI (sI w 0 r13 0 1) 1 r13 0 (gI (sI w 0 r13 0 1) 601 (gR (sI w 0 r13 0 1) 103 (gR (sI w 0 r13 0 1) 400 a0 0) 0) (Int32.toNatClampNeg x3))) 200 (gR w 604 (gR w 100 (gR w 400 a0 0) 0) (Int32.toNatClampNeg x1)) 0), .int 0] (c_X0_holesWhenWet l D cy r13 (gR (sI (sI w 0 r13 0 1) 1 r13 0 (gI (sI w 0 r13 0 1) 601 (gR (sI w 0 r13 0 1) 103 (gR (sI w 0 r13 0 1) 400 a0 0) 0) (Int32.toNatClampNeg x3))) 200 (gR w 604 (gR w 100 (gR w 400 a0 0) 0) (Int32.toNatClampNeg x1)) 0) 0 (sI (sI w 0 r13 0 1) 1 r13 0 (gI (sI w 0 r13 0 1) 601 (gR (sI w 0 r13 0 1) 103 (gR (sI w 0 r13 0 1) 400 a0 0) 0) (Int32.toNatClampNeg x3))) r21 h22) q_429 q_77 q_426 q_428 q_4 h9_X0_holesWhenWet rfl (fSm.k (fSm.rf w) g17) ⟨Nat.le_of_ble_eq_true rfl, Nat.le_of_ble_eq_true rfl⟩ ⟨Nat.le_of_ble_eq_true rfl, Nat.le_of_ble_eq_true rfl⟩ (Nat.le_of_ble_eq_true rfl) rfl dX4_tryPunch_90 (fun e23 => ?_)
        refine f_iadd hC dX4_tryPunch_93 ?_
        refine f_putIN hC 1 9 109 rfl (by decide) iX1 tyX1 tyX1_ok nmX1 q_235 rfl rfl rfl rfl rfl (fSm.k (fSm.rf w) g4) dX4_tryPunch_94 ?_
        refine f_iconst (v := 0) hC dX4_tryPunch_97 (by decide) ?_
        obtain rfl := Option.some.inj hF
        exact f_iret hC hEn (fSm.rf w) dX4_tryPunch_98
      · replace hF := fi_neg hF c18
        refine f_aload_n hC dX4_tryPunch_47 rfl 2 rfl ?_
        refine f_iconst (v := 3) hC dX4_tryPunch_48 (by decide) ?_
        refine f_iconst (v := 1) hC dX4_tryPunch_49 (by decide) ?_
        obtain ⟨r24, h25, hF⟩ := fb_open hF
        refine f_callV hC [.int 3, .int 1] (c_X4_refuse l D cy a0 3 1 w r24 h25) q_984 q_73 q_981 q_983 q_37 h9_X4_refuse rfl (fSm.k (fSm.rf w) g1) ⟨Nat.le_of_ble_eq_true rfl, Nat.le_of_ble_eq_true rfl⟩ ⟨Nat.le_of_ble_eq_true rfl, Nat.le_of_ble_eq_true rfl⟩ (Nat.le_of_ble_eq_true rfl) rfl dX4_tryPunch_50 (fun e26 => ?_)
        obtain rfl := Option.some.inj hF
        exact f_iret hC hEn (fSm.tr e26 (fSm.rf w)) dX4_tryPunch_53
    · replace hF := fi_pos hF c10
      refine f_iconst (v := 1) hC dX4_tryPunch_18 (by decide) ?_
      obtain rfl := Option.some.inj hF
      exact f_iret hC hEn (fSm.rf w) dX4_tryPunch_19
theorem dX4_punch_0 : decode cX4_punch 0 = .ok (.aload_n 0, 1) := by decide +kernel
theorem dX4_punch_1 : decode cX4_punch 1 = .ok (.invokevirtual 72, 3) := by decide +kernel
theorem dX4_punch_4 : decode cX4_punch 4 = .ok (.aload_n 0, 1) := by decide +kernel
theorem dX4_punch_5 : decode cX4_punch 5 = .ok (.aload_n 0, 1) := by decide +kernel
theorem dX4_punch_6 : decode cX4_punch 6 = .ok (.iload_n 1, 1) := by decide +kernel
theorem dX4_punch_7 : decode cX4_punch 7 = .ok (.iload_n 2, 1) := by decide +kernel
theorem dX4_punch_8 : decode cX4_punch 8 = .ok (.iload_n 3, 1) := by decide +kernel
theorem dX4_punch_9 : decode cX4_punch 9 = .ok (.invokevirtual 162, 3) := by decide +kernel
theorem dX4_punch_12 : decode cX4_punch 12 = .ok (.invokevirtual 79, 3) := by decide +kernel
theorem dX4_punch_15 : decode cX4_punch 15 = .ok (.aload_n 0, 1) := by decide +kernel
theorem dX4_punch_16 : decode cX4_punch 16 = .ok (.iload_n 1, 1) := by decide +kernel
theorem dX4_punch_17 : decode cX4_punch 17 = .ok (.invokevirtual 115, 3) := by decide +kernel
theorem dX4_punch_20 : decode cX4_punch 20 = .ok (.astore 4, 2) := by decide +kernel
theorem dX4_punch_22 : decode cX4_punch 22 = .ok (.aload 4, 2) := by decide +kernel
theorem dX4_punch_24 : decode cX4_punch 24 = .ok (.iload_n 2, 1) := by decide +kernel
theorem dX4_punch_25 : decode cX4_punch 25 = .ok (.invokevirtual 166, 3) := by decide +kernel
theorem dX4_punch_28 : decode cX4_punch 28 = .ok (.aload 4, 2) := by decide +kernel
theorem dX4_punch_30 : decode cX4_punch 30 = .ok (.getfield 119, 3) := by decide +kernel
theorem dX4_punch_33 : decode cX4_punch 33 = .ok (.iconst 0, 1) := by decide +kernel
theorem dX4_punch_34 : decode cX4_punch 34 = .ok (.invokevirtual 170, 3) := by decide +kernel
theorem dX4_punch_37 : decode cX4_punch 37 = .ok (.ireturn, 1) := by decide +kernel
theorem h9_X4_punch : yX4_punch.cls ≠ "java/lang/invoke/MethodHandle" ∧ yX4_punch.cls ≠ "java/lang/invoke/VarHandle" ∧ (parseMethodDescriptor yX4_punch.desc).map (fun d => d.parameters.length) = some 3 := by decide +kernel
noncomputable def F_X4_punch (a0 : Nat) (x1 : Int32) (x2 : Int32) (x3 : Int32) (w : FW) : Option ((Int32 ⊕ Nat) × FW) :=
  fg (w.1 a0 = 5) inferInstance ((F_X4_begin a0 w).bind (fun r1 => (F_X4_tryPunch a0 x1 x2 x3 r1).bind (fun r5 => (F_X4_settle a0 r5.1 r5.2).bind (fun r8 => fse r8.1 (fun v11 => (F_X4_existing a0 x1 r8.2).bind (fun r15 => fse r15 (fun v18 => fg (w.1 v18 = 3) inferInstance ((F_X2_half v18 x2 r8.2).bind (fun r21 => fg (w.1 r21 = 1) inferInstance ((F_X0_holesWhenWet r21 (gR r8.2 200 v18 0) 0 r8.2).bind (fun r25 => some ((.inl r25), r8.2)))))) (fun x19 => some (.inr x19, r8.2)))) (fun x12 => some (.inr x12, r8.2))))))
set_option maxHeartbeats 4000000 in
set_option maxRecDepth 100000 in
theorem c_X4_punch (l : Launch) (D : va_G) (cy : Nat → ClassId) (a0 : Nat) (x1 : Int32) (x2 : Int32) (x3 : Int32) (w : FW) (r : (Int32 ⊕ Nat) × FW) (hF : F_X4_punch a0 x1 x2 x3 w = some r) : fSpecX l D cy yX4_punch cX4_punch 5 (some .int) { frames := 7, cells := 2, slots := 12, locals := 121 } [.ref a0, .int x1, .int x2, .int x3] w r.2 (fOI r.1) := by
  refine f_beginX (by decide +kernel) (Nat.le_of_ble_eq_true rfl) (fun X hC hEn => ?_)
  have hst := f_st hC hEn
  unfold F_X4_punch at hF
  show fAt X 0 0 5 w [(0, .ref a0), (1, .int x1), (2, .int x2), (3, .int x3)] [] 0
  refine f_aload_n hC dX4_punch_0 rfl 0 rfl ?_
  obtain ⟨g3, hF⟩ := fg_open hF
  obtain ⟨r1, h2, hF⟩ := fb_open hF
  refine f_callV hC [] (c_X4_begin l D cy a0 w r1 h2) q_932 q_73 q_929 q_931 q_25 h9_X4_begin rfl (fSm.k (fSm.rf w) g3) ⟨Nat.le_of_ble_eq_true rfl, Nat.le_of_ble_eq_true rfl⟩ ⟨Nat.le_of_ble_eq_true rfl, Nat.le_of_ble_eq_true rfl⟩ (Nat.le_of_ble_eq_true rfl) rfl dX4_punch_1 (fun e4 => ?_)
  refine f_aload_n hC dX4_punch_4 rfl 0 rfl ?_
  refine f_aload_n hC dX4_punch_5 rfl 0 rfl ?_
  refine f_iload_n hC dX4_punch_6 rfl 1 rfl ?_
  refine f_iload_n hC dX4_punch_7 rfl 2 rfl ?_
  refine f_iload_n hC dX4_punch_8 rfl 3 rfl ?_
  obtain ⟨r5, h6, hF⟩ := fb_open hF
  refine f_callV hC [.int x1, .int x2, .int x3] (c_X4_tryPunch l D cy a0 x1 x2 x3 r1 r5 h6) q_996 q_73 q_993 q_995 q_40 h9_X4_tryPunch rfl (fSm.k (fSm.tr e4 (fSm.rf w)) g3) ⟨Nat.le_of_ble_eq_true rfl, Nat.le_of_ble_eq_true rfl⟩ ⟨Nat.le_of_ble_eq_true rfl, Nat.le_of_ble_eq_true rfl⟩ (Nat.le_of_ble_eq_true rfl) rfl dX4_punch_9 (fun e7 => ?_)
  obtain ⟨r8, h9, hF⟩ := fb_open hF
  obtain ⟨o14, w13⟩ := r8
  rcases o14 with v11 | x12
  · refine f_callVR hC [.int r5.1] hst (c_X4_settle l D cy a0 r5.1 r5.2 (.inl v11, w13) h9) q_1082 q_73 q_1079 q_1081 q_54 h9_X4_settle rfl (fSm.k (fSm.tr e7 (fSm.tr e4 (fSm.rf w))) g3) ⟨Nat.le_of_ble_eq_true rfl, Nat.le_of_ble_eq_true rfl⟩ ⟨Nat.le_of_ble_eq_true rfl, Nat.le_of_ble_eq_true rfl⟩ (Nat.le_of_ble_eq_true rfl) rfl dX4_punch_12 (fun e10 => ?_)
    refine f_aload_n hC dX4_punch_15 rfl 0 rfl ?_
    refine f_iload_n hC dX4_punch_16 rfl 1 rfl ?_
    obtain ⟨r15, h16, hF⟩ := fb_open hF
    rcases r15 with v18 | x19
    · refine f_callVR hC [.int x1] hst (c_X4_existing l D cy a0 x1 w13 (.inl v18) h16) q_404 q_73 q_401 q_403 q_1 h9_X4_existing rfl (fSm.k (fSm.tr e10 (fSm.tr e7 (fSm.tr e4 (fSm.rf w)))) g3) ⟨Nat.le_of_ble_eq_true rfl, Nat.le_of_ble_eq_true rfl⟩ ⟨Nat.le_of_ble_eq_true rfl, Nat.le_of_ble_eq_true rfl⟩ (Nat.le_of_ble_eq_true rfl) rfl dX4_punch_17 (fun e17 => ?_)
      refine f_astore (L' := [(4, .ref v18), (0, .ref a0), (1, .int x1), (2, .int x2), (3, .int x3)]) hC dX4_punch_20 (by decide) rfl ?_
      refine f_aload hC dX4_punch_22 0 rfl ?_
      refine f_iload_n hC dX4_punch_24 rfl 3 rfl ?_
      obtain ⟨g23, hF⟩ := fg_open hF
      obtain ⟨r21, h22, hF⟩ := fb_open hF
      refine f_callVN hC [.int x2] (c_X2_half l D cy v18 x2 w13 r21 h22) q_425 q_76 q_422 q_424 q_3 h9_X2_half rfl (fSm.k (fSm.tr e10 (fSm.tr e7 (fSm.tr e4 (fSm.rf w)))) g23) ⟨Nat.le_of_ble_eq_true rfl, Nat.le_of_ble_eq_true rfl⟩ ⟨Nat.le_of_ble_eq_true rfl, Nat.le_of_ble_eq_true rfl⟩ (Nat.le_of_ble_eq_true rfl) rfl dX4_punch_25 (fun e24 => ?_)
      refine f_aload hC dX4_punch_28 0 rfl ?_
      refine f_getRN hC 2 0 200 rfl (by decide) iX2 q_176 rfl rfl (fSm.k (fSm.tr e10 (fSm.tr e7 (fSm.tr e4 (fSm.rf w)))) g23) dX4_punch_30 ?_
      refine f_iconst (v := 0) hC dX4_punch_33 (by decide) ?_
      obtain ⟨g27, hF⟩ := fg_open hF
      obtain ⟨r25, h26, hF⟩ := fb_open hF
      refine f_callVN hC [.ref (gR w13 200 v18 0), .int 0] (c_X0_holesWhenWet l D cy r21 (gR w13 200 v18 0) 0 w13 r25 h26) q_429 q_77 q_426 q_428 q_4 h9_X0_holesWhenWet rfl (fSm.k (fSm.tr e10 (fSm.tr e7 (fSm.tr e4 (fSm.rf w)))) g27) ⟨Nat.le_of_ble_eq_true rfl, Nat.le_of_ble_eq_true rfl⟩ ⟨Nat.le_of_ble_eq_true rfl, Nat.le_of_ble_eq_true rfl⟩ (Nat.le_of_ble_eq_true rfl) rfl dX4_punch_34 (fun e28 => ?_)
      obtain rfl := Option.some.inj hF
      exact f_iretX hC hEn (fSm.tr e10 (fSm.tr e7 (fSm.tr e4 (fSm.rf w)))) dX4_punch_37
    · obtain rfl := Option.some.inj hF
      exact f_callVT hC [.int x1] hEn (fSm.tr e10 (fSm.tr e7 (fSm.tr e4 (fSm.rf w)))) (Nat.le_of_ble_eq_true rfl) (Nat.le_of_ble_eq_true rfl) (c_X4_existing l D cy a0 x1 w13 (.inr x19) h16) q_404 q_73 q_401 q_403 q_1 h9_X4_existing rfl (fSm.k (fSm.tr e10 (fSm.tr e7 (fSm.tr e4 (fSm.rf w)))) g3) ⟨Nat.le_of_ble_eq_true rfl, Nat.le_of_ble_eq_true rfl⟩ ⟨Nat.le_of_ble_eq_true rfl, Nat.le_of_ble_eq_true rfl⟩ (Nat.le_of_ble_eq_true rfl) rfl dX4_punch_17
  · obtain rfl := Option.some.inj hF
    exact f_callVT hC [.int r5.1] hEn (fSm.tr e7 (fSm.tr e4 (fSm.rf w))) (Nat.le_of_ble_eq_true rfl) (Nat.le_of_ble_eq_true rfl) (c_X4_settle l D cy a0 r5.1 r5.2 (.inr x12, w13) h9) q_1082 q_73 q_1079 q_1081 q_54 h9_X4_settle rfl (fSm.k (fSm.tr e7 (fSm.tr e4 (fSm.rf w))) g3) ⟨Nat.le_of_ble_eq_true rfl, Nat.le_of_ble_eq_true rfl⟩ ⟨Nat.le_of_ble_eq_true rfl, Nat.le_of_ble_eq_true rfl⟩ (Nat.le_of_ble_eq_true rfl) rfl dX4_punch_12
theorem dJ9_min_7cf53_0 : decode cJ9_min_7cf53 0 = .ok (.iload_n 0, 1) := by decide +kernel
theorem dJ9_min_7cf53_1 : decode cJ9_min_7cf53 1 = .ok (.iload_n 1, 1) := by decide +kernel
theorem dJ9_min_7cf53_2 : decode cJ9_min_7cf53 2 = .ok (.if_icmp .gt 7, 3) := by decide +kernel
theorem dJ9_min_7cf53_5 : decode cJ9_min_7cf53 5 = .ok (.iload_n 0, 1) := by decide +kernel
theorem dJ9_min_7cf53_6 : decode cJ9_min_7cf53 6 = .ok (.goto 4, 3) := by decide +kernel
theorem dJ9_min_7cf53_9 : decode cJ9_min_7cf53 9 = .ok (.iload_n 1, 1) := by decide +kernel
theorem dJ9_min_7cf53_10 : decode cJ9_min_7cf53 10 = .ok (.ireturn, 1) := by decide +kernel
theorem h9_J9_min_7cf53 : yJ9_min_7cf53.cls ≠ "java/lang/invoke/MethodHandle" ∧ yJ9_min_7cf53.cls ≠ "java/lang/invoke/VarHandle" ∧ (parseMethodDescriptor yJ9_min_7cf53.desc).map (fun d => d.parameters.length) = some 2 := by decide +kernel
noncomputable def F_J9_min_7cf53 (x1 : Int32) (x2 : Int32) (w : FW) : Option (Int32) :=
  (if x2 < x1 then some x2 else some x1)
set_option maxHeartbeats 4000000 in
set_option maxRecDepth 100000 in
theorem c_J9_min_7cf53 (l : Launch) (D : va_G) (cy : Nat → ClassId) (x1 : Int32) (x2 : Int32) (w : FW) (r : Int32) (hF : F_J9_min_7cf53 x1 x2 w = some r) : fSpec l D cy yJ9_min_7cf53 cJ9_min_7cf53 2 (some .int) { frames := 0, cells := 0, slots := 0, locals := 0 } [.int x1, .int x2] w w (some (.int r)) := by
  refine f_begin (by decide +kernel) (Nat.le_of_ble_eq_true rfl) (fun X hC hEn => ?_)
  unfold F_J9_min_7cf53 at hF
  show fAt X 0 0 2 w [(0, .int x1), (1, .int x2)] [] 0
  refine f_iload_n hC dJ9_min_7cf53_0 rfl 0 rfl ?_
  refine f_iload_n hC dJ9_min_7cf53_1 rfl 1 rfl ?_
  refine f_icmp_gt hC 9 dJ9_min_7cf53_2 (by decide) (fun c1 => ?_) (fun c1 => ?_)
  · replace hF := fi_pos hF c1
    refine f_iload_n hC dJ9_min_7cf53_9 rfl 1 rfl ?_
    obtain rfl := Option.some.inj hF
    exact f_iret hC hEn (fSm.rf w) dJ9_min_7cf53_10
  · replace hF := fi_neg hF c1
    refine f_iload_n hC dJ9_min_7cf53_5 rfl 0 rfl ?_
    refine f_goto hC 10 dJ9_min_7cf53_6 (by decide) ?_
    obtain rfl := Option.some.inj hF
    exact f_iret hC hEn (fSm.rf w) dJ9_min_7cf53_10
theorem dX0_wetterBy_0 : decode cX0_wetterBy 0 = .ok (.bipush 9, 2) := by decide +kernel
theorem dX0_wetterBy_2 : decode cX0_wetterBy 2 = .ok (.aload_n 0, 1) := by decide +kernel
theorem dX0_wetterBy_3 : decode cX0_wetterBy 3 = .ok (.getfield 19, 3) := by decide +kernel
theorem dX0_wetterBy_6 : decode cX0_wetterBy 6 = .ok (.iload_n 1, 1) := by decide +kernel
theorem dX0_wetterBy_7 : decode cX0_wetterBy 7 = .ok (.iadd, 1) := by decide +kernel
theorem dX0_wetterBy_8 : decode cX0_wetterBy 8 = .ok (.invokestatic 28, 3) := by decide +kernel
theorem dX0_wetterBy_11 : decode cX0_wetterBy 11 = .ok (.ireturn, 1) := by decide +kernel
theorem h9_X0_wetterBy : yX0_wetterBy.cls ≠ "java/lang/invoke/MethodHandle" ∧ yX0_wetterBy.cls ≠ "java/lang/invoke/VarHandle" ∧ (parseMethodDescriptor yX0_wetterBy.desc).map (fun d => d.parameters.length) = some 1 := by decide +kernel
noncomputable def F_X0_wetterBy (a0 : Nat) (x1 : Int32) (w : FW) : Option (Int32) :=
  fg (w.1 a0 = 1) inferInstance ((F_J9_min_7cf53 9 ((gI w 2 a0 0) + x1) w).bind (fun r2 => some r2))
set_option maxHeartbeats 4000000 in
set_option maxRecDepth 100000 in
theorem c_X0_wetterBy (l : Launch) (D : va_G) (cy : Nat → ClassId) (a0 : Nat) (x1 : Int32) (w : FW) (r : Int32) (hF : F_X0_wetterBy a0 x1 w = some r) : fSpec l D cy yX0_wetterBy cX0_wetterBy 2 (some .int) { frames := 1, cells := 0, slots := 0, locals := 21 } [.ref a0, .int x1] w w (some (.int r)) := by
  refine f_begin (by decide +kernel) (Nat.le_of_ble_eq_true rfl) (fun X hC hEn => ?_)
  unfold F_X0_wetterBy at hF
  show fAt X 0 0 2 w [(0, .ref a0), (1, .int x1)] [] 0
  refine f_bipush (v := 9) hC dX0_wetterBy_0 (by decide) ?_
  refine f_aload_n hC dX0_wetterBy_2 rfl 0 rfl ?_
  obtain ⟨g1, hF⟩ := fg_open hF
  refine f_getI hC 0 2 2 rfl (by decide) iX0 q_153 rfl rfl (fSm.k (fSm.rf w) g1) dX0_wetterBy_3 ?_
  refine f_iload_n hC dX0_wetterBy_6 rfl 1 rfl ?_
  refine f_iadd hC dX0_wetterBy_7 ?_
  obtain ⟨r2, h3, hF⟩ := fb_open hF
  refine f_callS hC [.int 9, .int ((gI w 2 a0 0) + x1)] (c_J9_min_7cf53 l D cy 9 ((gI w 2 a0 0) + x1) w r2 h3) q_547 q_85 q_545 q_546 h9_J9_min_7cf53 ⟨Nat.le_of_ble_eq_true rfl, Nat.le_of_ble_eq_true rfl⟩ ⟨Nat.le_of_ble_eq_true rfl, Nat.le_of_ble_eq_true rfl⟩ (Nat.le_of_ble_eq_true rfl) rfl dX0_wetterBy_8 (fun e4 => ?_)
  obtain rfl := Option.some.inj hF
  exact f_iret hC hEn (fSm.rf w) dX0_wetterBy_11
theorem dX2_getWet_0 : decode cX2_getWet 0 = .ok (.aload_n 0, 1) := by decide +kernel
theorem dX2_getWet_1 : decode cX2_getWet 1 = .ok (.iload_n 1, 1) := by decide +kernel
theorem dX2_getWet_2 : decode cX2_getWet 2 = .ok (.invokevirtual 55, 3) := by decide +kernel
theorem dX2_getWet_5 : decode cX2_getWet 5 = .ok (.astore_n 3, 1) := by decide +kernel
theorem dX2_getWet_6 : decode cX2_getWet 6 = .ok (.aload_n 0, 1) := by decide +kernel
theorem dX2_getWet_7 : decode cX2_getWet 7 = .ok (.iload_n 1, 1) := by decide +kernel
theorem dX2_getWet_8 : decode cX2_getWet 8 = .ok (.ifCond .ne 7, 3) := by decide +kernel
theorem dX2_getWet_11 : decode cX2_getWet 11 = .ok (.iconst 1, 1) := by decide +kernel
theorem dX2_getWet_12 : decode cX2_getWet 12 = .ok (.goto 4, 3) := by decide +kernel
theorem dX2_getWet_15 : decode cX2_getWet 15 = .ok (.iconst 0, 1) := by decide +kernel
theorem dX2_getWet_16 : decode cX2_getWet 16 = .ok (.invokevirtual 55, 3) := by decide +kernel
theorem dX2_getWet_19 : decode cX2_getWet 19 = .ok (.astore 4, 2) := by decide +kernel
theorem dX2_getWet_21 : decode cX2_getWet 21 = .ok (.aload_n 3, 1) := by decide +kernel
theorem dX2_getWet_22 : decode cX2_getWet 22 = .ok (.aload_n 3, 1) := by decide +kernel
theorem dX2_getWet_23 : decode cX2_getWet 23 = .ok (.iload_n 2, 1) := by decide +kernel
theorem dX2_getWet_24 : decode cX2_getWet 24 = .ok (.invokevirtual 59, 3) := by decide +kernel
theorem dX2_getWet_27 : decode cX2_getWet 27 = .ok (.putfield 63, 3) := by decide +kernel
theorem dX2_getWet_30 : decode cX2_getWet 30 = .ok (.aload_n 0, 1) := by decide +kernel
theorem dX2_getWet_31 : decode cX2_getWet 31 = .ok (.getfield 28, 3) := by decide +kernel
theorem dX2_getWet_34 : decode cX2_getWet 34 = .ok (.ifCond .ne 16, 3) := by decide +kernel
theorem dX2_getWet_37 : decode cX2_getWet 37 = .ok (.aload 4, 2) := by decide +kernel
theorem dX2_getWet_39 : decode cX2_getWet 39 = .ok (.aload 4, 2) := by decide +kernel
theorem dX2_getWet_41 : decode cX2_getWet 41 = .ok (.iload_n 2, 1) := by decide +kernel
theorem dX2_getWet_42 : decode cX2_getWet 42 = .ok (.iconst 2, 1) := by decide +kernel
theorem dX2_getWet_43 : decode cX2_getWet 43 = .ok (.idiv, 1) := by decide +kernel
theorem dX2_getWet_44 : decode cX2_getWet 44 = .ok (.invokevirtual 59, 3) := by decide +kernel
theorem dX2_getWet_47 : decode cX2_getWet 47 = .ok (.putfield 63, 3) := by decide +kernel
theorem dX2_getWet_50 : decode cX2_getWet 50 = .ok (.aload_n 0, 1) := by decide +kernel
theorem dX2_getWet_51 : decode cX2_getWet 51 = .ok (.aload_n 0, 1) := by decide +kernel
theorem dX2_getWet_52 : decode cX2_getWet 52 = .ok (.getfield 28, 3) := by decide +kernel
theorem dX2_getWet_55 : decode cX2_getWet 55 = .ok (.ifCond .ne 22, 3) := by decide +kernel
theorem dX2_getWet_58 : decode cX2_getWet 58 = .ok (.aload_n 3, 1) := by decide +kernel
theorem dX2_getWet_59 : decode cX2_getWet 59 = .ok (.getfield 63, 3) := by decide +kernel
theorem dX2_getWet_62 : decode cX2_getWet 62 = .ok (.bipush 6, 2) := by decide +kernel
theorem dX2_getWet_64 : decode cX2_getWet 64 = .ok (.if_icmp .ge 13, 3) := by decide +kernel
theorem dX2_getWet_67 : decode cX2_getWet 67 = .ok (.aload 4, 2) := by decide +kernel
theorem dX2_getWet_69 : decode cX2_getWet 69 = .ok (.getfield 63, 3) := by decide +kernel
theorem dX2_getWet_72 : decode cX2_getWet 72 = .ok (.bipush 6, 2) := by decide +kernel
theorem dX2_getWet_74 : decode cX2_getWet 74 = .ok (.if_icmp .lt 7, 3) := by decide +kernel
theorem dX2_getWet_77 : decode cX2_getWet 77 = .ok (.iconst 1, 1) := by decide +kernel
theorem dX2_getWet_78 : decode cX2_getWet 78 = .ok (.goto 4, 3) := by decide +kernel
theorem dX2_getWet_81 : decode cX2_getWet 81 = .ok (.iconst 0, 1) := by decide +kernel
theorem dX2_getWet_82 : decode cX2_getWet 82 = .ok (.putfield 28, 3) := by decide +kernel
theorem dX2_getWet_85 : decode cX2_getWet 85 = .ok (.return_, 1) := by decide +kernel
theorem h9_X2_getWet : yX2_getWet.cls ≠ "java/lang/invoke/MethodHandle" ∧ yX2_getWet.cls ≠ "java/lang/invoke/VarHandle" ∧ (parseMethodDescriptor yX2_getWet.desc).map (fun d => d.parameters.length) = some 2 := by decide +kernel
noncomputable def F_X2_getWet (a0 : Nat) (x1 : Int32) (x2 : Int32) (w : FW) : Option (FW) :=
  fg (w.1 a0 = 3) inferInstance ((F_X2_half a0 x1 w).bind (fun r1 => ((if x1 = 0 then some 1 else some 0) : Option (Int32)).bind (fun x5 => (F_X2_half a0 x5 w).bind (fun r9 => fg (w.1 r1 = 1) inferInstance ((F_X0_wetterBy r1 x2 w).bind (fun r12 => ((if (gI (sI w 2 r1 0 r12) 204 a0 0) = 0 then fg (w.1 r9 = 1) inferInstance ((F_X0_wetterBy r9 (x2 / 2) (sI w 2 r1 0 r12)).bind (fun r25 => some (sI (sI w 2 r1 0 r12) 2 r9 0 r25))) else some (sI w 2 r1 0 r12)) : Option (FW)).bind (fun x16 => (if (gI x16 204 a0 0) = 0 then (if 6 ≤ (gI x16 2 r1 0) then some (sI x16 204 a0 0 1) else fg (w.1 r9 = 1) inferInstance ((if (gI x16 2 r9 0) < 6 then some (sI x16 204 a0 0 0) else some (sI x16 204 a0 0 1)))) else some (sI x16 204 a0 0 1)))))))))
set_option maxHeartbeats 4000000 in
set_option maxRecDepth 100000 in
theorem c_X2_getWet (l : Launch) (D : va_G) (cy : Nat → ClassId) (a0 : Nat) (x1 : Int32) (x2 : Int32) (w : FW) (r : FW) (hF : F_X2_getWet a0 x1 x2 w = some r) : fSpec l D cy yX2_getWet cX2_getWet 5 none { frames := 2, cells := 0, slots := 0, locals := 42 } [.ref a0, .int x1, .int x2] w r none := by
  refine f_begin (by decide +kernel) (Nat.le_of_ble_eq_true rfl) (fun X hC hEn => ?_)
  unfold F_X2_getWet at hF
  show fAt X 0 0 5 w [(0, .ref a0), (1, .int x1), (2, .int x2)] [] 0
  refine f_aload_n hC dX2_getWet_0 rfl 0 rfl ?_
  refine f_iload_n hC dX2_getWet_1 rfl 1 rfl ?_
  obtain ⟨g3, hF⟩ := fg_open hF
  obtain ⟨r1, h2, hF⟩ := fb_open hF
  refine f_callV hC [.int x1] (c_X2_half l D cy a0 x1 w r1 h2) q_425 q_76 q_1008 q_424 q_3 h9_X2_half rfl (fSm.k (fSm.rf w) g3) ⟨Nat.le_of_ble_eq_true rfl, Nat.le_of_ble_eq_true rfl⟩ ⟨Nat.le_of_ble_eq_true rfl, Nat.le_of_ble_eq_true rfl⟩ (Nat.le_of_ble_eq_true rfl) rfl dX2_getWet_2 (fun e4 => ?_)
  refine f_astore_n (L' := [(3, .ref r1), (0, .ref a0), (1, .int x1), (2, .int x2)]) hC dX2_getWet_5 rfl (by decide) rfl ?_
  refine f_aload_n hC dX2_getWet_6 rfl 1 rfl ?_
  refine f_iload_n hC dX2_getWet_7 rfl 2 rfl ?_
  obtain ⟨x5, h6, hF⟩ := fb_open hF
  have K8 : fAt X 0 0 5 w [(0, .ref a0), (2, .int x2), (3, .ref r1)] [.int x5, .ref a0] 16 := by
    obtain ⟨r9, h10, hF⟩ := fb_open hF
    refine f_callV hC [.int x5] (c_X2_half l D cy a0 x5 w r9 h10) q_425 q_76 q_1008 q_424 q_3 h9_X2_half rfl (fSm.k (fSm.rf w) g3) ⟨Nat.le_of_ble_eq_true rfl, Nat.le_of_ble_eq_true rfl⟩ ⟨Nat.le_of_ble_eq_true rfl, Nat.le_of_ble_eq_true rfl⟩ (Nat.le_of_ble_eq_true rfl) rfl dX2_getWet_16 (fun e11 => ?_)
    refine f_astore (L' := [(4, .ref r9), (0, .ref a0), (2, .int x2), (3, .ref r1)]) hC dX2_getWet_19 (by decide) rfl ?_
    refine f_aload_n hC dX2_getWet_21 rfl 3 rfl ?_
    refine f_aload_n hC dX2_getWet_22 rfl 3 rfl ?_
    refine f_iload_n hC dX2_getWet_23 rfl 2 rfl ?_
    obtain ⟨g14, hF⟩ := fg_open hF
    obtain ⟨r12, h13, hF⟩ := fb_open hF
    refine f_callVN hC [.int x2] (c_X0_wetterBy l D cy r1 x2 w r12 h13) q_544 q_77 q_1009 q_543 q_10 h9_X0_wetterBy rfl (fSm.k (fSm.rf w) g14) ⟨Nat.le_of_ble_eq_true rfl, Nat.le_of_ble_eq_true rfl⟩ ⟨Nat.le_of_ble_eq_true rfl, Nat.le_of_ble_eq_true rfl⟩ (Nat.le_of_ble_eq_true rfl) rfl dX2_getWet_24 (fun e15 => ?_)
    refine f_putIN hC 0 2 2 rfl (by decide) iX0 tyX0 tyX0_ok nmX0 q_154 rfl rfl rfl rfl rfl (fSm.k (fSm.rf w) g14) dX2_getWet_27 ?_
    refine f_aload_n hC dX2_getWet_30 rfl 1 rfl ?_
    refine f_getI hC 2 4 204 rfl (by decide) iX2 q_187 rfl rfl (fSm.k (fSm.rf w) g3) dX2_getWet_31 ?_
    obtain ⟨x16, h17, hF⟩ := fb_open hF
    have K19 : fSm x16 w → fAt X 0 0 5 x16 [(0, .ref a0), (3, .ref r1), (4, .ref r9)] [] 50 := by
      intro p18
      refine f_aload_n hC dX2_getWet_50 rfl 0 rfl ?_
      refine f_aload_n hC dX2_getWet_51 rfl 0 rfl ?_
      refine f_getI hC 2 4 204 rfl (by decide) iX2 q_187 rfl rfl (fSm.k p18 g3) dX2_getWet_52 ?_
      refine f_if_ne hC 77 dX2_getWet_55 (by decide) (fun c20 => ?_) (fun c20 => ?_)
      · replace hF := fi_neg hF c20
        refine f_iconst (v := 1) hC dX2_getWet_77 (by decide) ?_
        refine f_goto hC 82 dX2_getWet_78 (by decide) ?_
        refine f_putI hC 2 4 204 rfl (by decide) iX2 tyX2 tyX2_ok nmX2 q_187 rfl rfl rfl (nar_z (by decide)) (fit_z (by decide)) (fSm.k p18 g3) dX2_getWet_82 ?_
        obtain rfl := Option.some.inj hF
        exact f_vret hC hEn p18 dX2_getWet_85
      · replace hF := fi_pos hF c20
        refine f_aload_n hC dX2_getWet_58 rfl 1 rfl ?_
        refine f_getIN hC 0 2 2 rfl (by decide) iX0 q_154 rfl rfl (fSm.k p18 g14) dX2_getWet_59 ?_
        refine f_bipush (v := 6) hC dX2_getWet_62 (by decide) ?_
        refine f_icmp_ge hC 77 dX2_getWet_64 (by decide) (fun c21 => ?_) (fun c21 => ?_)
        · replace hF := fi_pos hF c21
          refine f_iconst (v := 1) hC dX2_getWet_77 (by decide) ?_
          refine f_goto hC 82 dX2_getWet_78 (by decide) ?_
          refine f_putI hC 2 4 204 rfl (by decide) iX2 tyX2 tyX2_ok nmX2 q_187 rfl rfl rfl (nar_z (by decide)) (fit_z (by decide)) (fSm.k p18 g3) dX2_getWet_82 ?_
          obtain rfl := Option.some.inj hF
          exact f_vret hC hEn p18 dX2_getWet_85
        · replace hF := fi_neg hF c21
          refine f_aload hC dX2_getWet_67 2 rfl ?_
          obtain ⟨g22, hF⟩ := fg_open hF
          refine f_getIN hC 0 2 2 rfl (by decide) iX0 q_154 rfl rfl (fSm.k p18 g22) dX2_getWet_69 ?_
          refine f_bipush (v := 6) hC dX2_getWet_72 (by decide) ?_
          refine f_icmp_lt hC 81 dX2_getWet_74 (by decide) (fun c23 => ?_) (fun c23 => ?_)
          · replace hF := fi_pos hF c23
            refine f_iconst (v := 0) hC dX2_getWet_81 (by decide) ?_
            refine f_putI hC 2 4 204 rfl (by decide) iX2 tyX2 tyX2_ok nmX2 q_187 rfl rfl rfl (nar_z (by decide)) (fit_z (by decide)) (fSm.k p18 g3) dX2_getWet_82 ?_
            obtain rfl := Option.some.inj hF
            exact f_vret hC hEn p18 dX2_getWet_85
          · replace hF := fi_neg hF c23
            refine f_iconst (v := 1) hC dX2_getWet_77 (by decide) ?_
            refine f_goto hC 82 dX2_getWet_78 (by decide) ?_
            refine f_putI hC 2 4 204 rfl (by decide) iX2 tyX2 tyX2_ok nmX2 q_187 rfl rfl rfl (nar_z (by decide)) (fit_z (by decide)) (fSm.k p18 g3) dX2_getWet_82 ?_
            obtain rfl := Option.some.inj hF
            exact f_vret hC hEn p18 dX2_getWet_85
    refine f_if_ne hC 50 dX2_getWet_34 (by decide) (fun c24 => ?_) (fun c24 => ?_)
    · replace h17 := fi_neg h17 c24
      obtain rfl := Option.some.inj h17
      refine f_sub (L' := [(0, .ref a0), (3, .ref r1), (4, .ref r9)]) [1, 3, 0] rfl ?_
      exact K19 (fSm.rf w)
    · replace h17 := fi_pos h17 c24
      refine f_aload hC dX2_getWet_37 0 rfl ?_
      refine f_aload hC dX2_getWet_39 0 rfl ?_
      refine f_iload_n hC dX2_getWet_41 rfl 2 rfl ?_
      refine f_iconst (v := 2) hC dX2_getWet_42 (by decide) ?_
      refine f_idiv hC dX2_getWet_43 (by decide) ?_
      obtain ⟨g27, h17⟩ := fg_open h17
      obtain ⟨r25, h26, h17⟩ := fb_open h17
      refine f_callVN hC [.int (x2 / 2)] (c_X0_wetterBy l D cy r9 (x2 / 2) (sI w 2 r1 0 r12) r25 h26) q_544 q_77 q_1009 q_543 q_10 h9_X0_wetterBy rfl (fSm.k (fSm.rf w) g27) ⟨Nat.le_of_ble_eq_true rfl, Nat.le_of_ble_eq_true rfl⟩ ⟨Nat.le_of_ble_eq_true rfl, Nat.le_of_ble_eq_true rfl⟩ (Nat.le_of_ble_eq_true rfl) rfl dX2_getWet_44 (fun e28 => ?_)
      refine f_putIN hC 0 2 2 rfl (by decide) iX0 tyX0 tyX0_ok nmX0 q_154 rfl rfl rfl rfl rfl (fSm.k (fSm.rf w) g27) dX2_getWet_47 ?_
      obtain rfl := Option.some.inj h17
      refine f_sub (L' := [(0, .ref a0), (3, .ref r1), (4, .ref r9)]) [1, 3, 0] rfl ?_
      exact K19 (fSm.rf w)
  refine f_if_ne hC 15 dX2_getWet_8 (by decide) (fun c29 => ?_) (fun c29 => ?_)
  · replace h6 := fi_neg h6 c29
    refine f_iconst (v := 0) hC dX2_getWet_15 (by decide) ?_
    obtain rfl := Option.some.inj h6
    refine f_sub (L' := [(0, .ref a0), (2, .int x2), (3, .ref r1)]) [1, 3, 0] rfl ?_
    exact K8
  · replace h6 := fi_pos h6 c29
    refine f_iconst (v := 1) hC dX2_getWet_11 (by decide) ?_
    refine f_goto hC 16 dX2_getWet_12 (by decide) ?_
    obtain rfl := Option.some.inj h6
    refine f_sub (L' := [(0, .ref a0), (2, .int x2), (3, .ref r1)]) [1, 3, 0] rfl ?_
    exact K8
theorem dX4_tryWet_0 : decode cX4_tryWet 0 = .ok (.aload_n 0, 1) := by decide +kernel
theorem dX4_tryWet_1 : decode cX4_tryWet 1 = .ok (.getfield 12, 3) := by decide +kernel
theorem dX4_tryWet_4 : decode cX4_tryWet 4 = .ok (.iload_n 1, 1) := by decide +kernel
theorem dX4_tryWet_5 : decode cX4_tryWet 5 = .ok (.invokevirtual 407, 3) := by decide +kernel
theorem dX4_tryWet_8 : decode cX4_tryWet 8 = .ok (.ifCond .ne 5, 3) := by decide +kernel
theorem dX4_tryWet_11 : decode cX4_tryWet 11 = .ok (.iconst 1, 1) := by decide +kernel
theorem dX4_tryWet_12 : decode cX4_tryWet 12 = .ok (.ireturn, 1) := by decide +kernel
theorem dX4_tryWet_13 : decode cX4_tryWet 13 = .ok (.iload_n 3, 1) := by decide +kernel
theorem dX4_tryWet_14 : decode cX4_tryWet 14 = .ok (.iconst 1, 1) := by decide +kernel
theorem dX4_tryWet_15 : decode cX4_tryWet 15 = .ok (.if_icmp .lt 9, 3) := by decide +kernel
theorem dX4_tryWet_18 : decode cX4_tryWet 18 = .ok (.iload_n 3, 1) := by decide +kernel
theorem dX4_tryWet_19 : decode cX4_tryWet 19 = .ok (.bipush 9, 2) := by decide +kernel
theorem dX4_tryWet_21 : decode cX4_tryWet 21 = .ok (.if_icmp .le 5, 3) := by decide +kernel
theorem dX4_tryWet_24 : decode cX4_tryWet 24 = .ok (.iconst 2, 1) := by decide +kernel
theorem dX4_tryWet_25 : decode cX4_tryWet 25 = .ok (.ireturn, 1) := by decide +kernel
theorem dX4_tryWet_26 : decode cX4_tryWet 26 = .ok (.aload_n 0, 1) := by decide +kernel
theorem dX4_tryWet_27 : decode cX4_tryWet 27 = .ok (.getfield 12, 3) := by decide +kernel
theorem dX4_tryWet_30 : decode cX4_tryWet 30 = .ok (.getfield 235, 3) := by decide +kernel
theorem dX4_tryWet_33 : decode cX4_tryWet 33 = .ok (.iload_n 1, 1) := by decide +kernel
theorem dX4_tryWet_34 : decode cX4_tryWet 34 = .ok (.aaload, 1) := by decide +kernel
theorem dX4_tryWet_35 : decode cX4_tryWet 35 = .ok (.iload_n 2, 1) := by decide +kernel
theorem dX4_tryWet_36 : decode cX4_tryWet 36 = .ok (.iload_n 3, 1) := by decide +kernel
theorem dX4_tryWet_37 : decode cX4_tryWet 37 = .ok (.invokevirtual 424, 3) := by decide +kernel
theorem dX4_tryWet_40 : decode cX4_tryWet 40 = .ok (.iconst 0, 1) := by decide +kernel
theorem dX4_tryWet_41 : decode cX4_tryWet 41 = .ok (.ireturn, 1) := by decide +kernel
theorem h9_X4_tryWet : yX4_tryWet.cls ≠ "java/lang/invoke/MethodHandle" ∧ yX4_tryWet.cls ≠ "java/lang/invoke/VarHandle" ∧ (parseMethodDescriptor yX4_tryWet.desc).map (fun d => d.parameters.length) = some 3 := by decide +kernel
noncomputable def F_X4_tryWet (a0 : Nat) (x1 : Int32) (x2 : Int32) (x3 : Int32) (w : FW) : Option (Int32 × FW) :=
  fg (w.1 a0 = 5) inferInstance (fg (w.1 (gR w 400 a0 0) = 2) inferInstance ((F_X1_hasTicket (gR w 400 a0 0) x1 w).bind (fun r2 => (if r2 = 0 then some (1, w) else (if x3 < 1 then some (2, w) else (if x3 ≤ 9 then fg (w.1 (gR w 100 (gR w 400 a0 0) 0) = 14) inferInstance (fg (¬ (x1 < 0 ∨ w.2.1 (gR w 100 (gR w 400 a0 0) 0) ≤ Int32.toNatClampNeg x1)) inferInstance (fg (w.1 (gR w 604 (gR w 100 (gR w 400 a0 0) 0) (Int32.toNatClampNeg x1)) = 3) inferInstance ((F_X2_getWet (gR w 604 (gR w 100 (gR w 400 a0 0) 0) (Int32.toNatClampNeg x1)) x2 x3 w).bind (fun r11 => some (0, r11))))) else some (2, w)))))))
set_option maxHeartbeats 4000000 in
set_option maxRecDepth 100000 in
theorem c_X4_tryWet (l : Launch) (D : va_G) (cy : Nat → ClassId) (a0 : Nat) (x1 : Int32) (x2 : Int32) (x3 : Int32) (w : FW) (r : Int32 × FW) (hF : F_X4_tryWet a0 x1 x2 x3 w = some r) : fSpec l D cy yX4_tryWet cX4_tryWet 4 (some .int) { frames := 3, cells := 0, slots := 0, locals := 66 } [.ref a0, .int x1, .int x2, .int x3] w r.2 (some (.int r.1)) := by
  refine f_begin (by decide +kernel) (Nat.le_of_ble_eq_true rfl) (fun X hC hEn => ?_)
  unfold F_X4_tryWet at hF
  show fAt X 0 0 4 w [(0, .ref a0), (1, .int x1), (2, .int x2), (3, .int x3)] [] 0
  refine f_aload_n hC dX4_tryWet_0 rfl 0 rfl ?_
  obtain ⟨g1, hF⟩ := fg_open hF
  refine f_getR hC 4 0 400 rfl (by decide) iX4 q_260 rfl rfl (fSm.k (fSm.rf w) g1) dX4_tryWet_1 ?_
  refine f_iload_n hC dX4_tryWet_4 rfl 1 rfl ?_
  obtain ⟨g4, hF⟩ := fg_open hF
  obtain ⟨r2, h3, hF⟩ := fb_open hF
  refine f_callVN hC [.int x1] (c_X1_hasTicket l D cy (gR w 400 a0 0) x1 w r2 h3) q_408 q_74 q_405 q_407 q_2 h9_X1_hasTicket rfl (fSm.k (fSm.rf w) g4) ⟨Nat.le_of_ble_eq_true rfl, Nat.le_of_ble_eq_true rfl⟩ ⟨Nat.le_of_ble_eq_true rfl, Nat.le_of_ble_eq_true rfl⟩ (Nat.le_of_ble_eq_true rfl) rfl dX4_tryWet_5 (fun e5 => ?_)
  refine f_if_ne hC 13 dX4_tryWet_8 (by decide) (fun c6 => ?_) (fun c6 => ?_)
  · replace hF := fi_neg hF c6
    refine f_iload_n hC dX4_tryWet_13 rfl 3 rfl ?_
    refine f_iconst (v := 1) hC dX4_tryWet_14 (by decide) ?_
    refine f_icmp_lt hC 24 dX4_tryWet_15 (by decide) (fun c7 => ?_) (fun c7 => ?_)
    · replace hF := fi_pos hF c7
      refine f_iconst (v := 2) hC dX4_tryWet_24 (by decide) ?_
      obtain rfl := Option.some.inj hF
      exact f_iret hC hEn (fSm.rf w) dX4_tryWet_25
    · replace hF := fi_neg hF c7
      refine f_iload_n hC dX4_tryWet_18 rfl 3 rfl ?_
      refine f_bipush (v := 9) hC dX4_tryWet_19 (by decide) ?_
      refine f_icmp_le hC 26 dX4_tryWet_21 (by decide) (fun c8 => ?_) (fun c8 => ?_)
      · replace hF := fi_pos hF c8
        refine f_aload_n hC dX4_tryWet_26 rfl 0 rfl ?_
        refine f_getR hC 4 0 400 rfl (by decide) iX4 q_260 rfl rfl (fSm.k (fSm.rf w) g1) dX4_tryWet_27 ?_
        refine f_getRN hC 1 0 100 rfl (by decide) iX1 q_217 rfl rfl (fSm.k (fSm.rf w) g4) dX4_tryWet_30 ?_
        refine f_iload_n hC dX4_tryWet_33 rfl 1 rfl ?_
        obtain ⟨g9, hF⟩ := fg_open hF
        obtain ⟨g10, hF⟩ := fg_open hF
        refine f_aald1 hC (fSm.k (fSm.rf w) g9) (fSm.v (fSm.rf w) g10) dX4_tryWet_34 ?_
        refine f_iload_n hC dX4_tryWet_35 rfl 2 rfl ?_
        refine f_iload_n hC dX4_tryWet_36 rfl 3 rfl ?_
        obtain ⟨g13, hF⟩ := fg_open hF
        obtain ⟨r11, h12, hF⟩ := fb_open hF
        refine f_callVN hC [.int x2, .int x3] (c_X2_getWet l D cy (gR w 604 (gR w 100 (gR w 400 a0 0) 0) (Int32.toNatClampNeg x1)) x2 x3 w r11 h12) q_1007 q_76 q_1004 q_1006 q_42 h9_X2_getWet rfl (fSm.k (fSm.rf w) g13) ⟨Nat.le_of_ble_eq_true rfl, Nat.le_of_ble_eq_true rfl⟩ ⟨Nat.le_of_ble_eq_true rfl, Nat.le_of_ble_eq_true rfl⟩ (Nat.le_of_ble_eq_true rfl) rfl dX4_tryWet_37 (fun e14 => ?_)
        refine f_iconst (v := 0) hC dX4_tryWet_40 (by decide) ?_
        obtain rfl := Option.some.inj hF
        exact f_iret hC hEn (fSm.tr e14 (fSm.rf w)) dX4_tryWet_41
      · replace hF := fi_neg hF c8
        refine f_iconst (v := 2) hC dX4_tryWet_24 (by decide) ?_
        obtain rfl := Option.some.inj hF
        exact f_iret hC hEn (fSm.rf w) dX4_tryWet_25
  · replace hF := fi_pos hF c6
    refine f_iconst (v := 1) hC dX4_tryWet_11 (by decide) ?_
    obtain rfl := Option.some.inj hF
    exact f_iret hC hEn (fSm.rf w) dX4_tryWet_12
theorem dX4_wet_0 : decode cX4_wet 0 = .ok (.aload_n 0, 1) := by decide +kernel
theorem dX4_wet_1 : decode cX4_wet 1 = .ok (.invokevirtual 72, 3) := by decide +kernel
theorem dX4_wet_4 : decode cX4_wet 4 = .ok (.aload_n 0, 1) := by decide +kernel
theorem dX4_wet_5 : decode cX4_wet 5 = .ok (.aload_n 0, 1) := by decide +kernel
theorem dX4_wet_6 : decode cX4_wet 6 = .ok (.iload_n 1, 1) := by decide +kernel
theorem dX4_wet_7 : decode cX4_wet 7 = .ok (.iload_n 2, 1) := by decide +kernel
theorem dX4_wet_8 : decode cX4_wet 8 = .ok (.iload_n 3, 1) := by decide +kernel
theorem dX4_wet_9 : decode cX4_wet 9 = .ok (.invokevirtual 176, 3) := by decide +kernel
theorem dX4_wet_12 : decode cX4_wet 12 = .ok (.invokevirtual 79, 3) := by decide +kernel
theorem dX4_wet_15 : decode cX4_wet 15 = .ok (.aload_n 0, 1) := by decide +kernel
theorem dX4_wet_16 : decode cX4_wet 16 = .ok (.iload_n 1, 1) := by decide +kernel
theorem dX4_wet_17 : decode cX4_wet 17 = .ok (.invokevirtual 115, 3) := by decide +kernel
theorem dX4_wet_20 : decode cX4_wet 20 = .ok (.iload_n 2, 1) := by decide +kernel
theorem dX4_wet_21 : decode cX4_wet 21 = .ok (.invokevirtual 166, 3) := by decide +kernel
theorem dX4_wet_24 : decode cX4_wet 24 = .ok (.getfield 179, 3) := by decide +kernel
theorem dX4_wet_27 : decode cX4_wet 27 = .ok (.ireturn, 1) := by decide +kernel
theorem h9_X4_wet : yX4_wet.cls ≠ "java/lang/invoke/MethodHandle" ∧ yX4_wet.cls ≠ "java/lang/invoke/VarHandle" ∧ (parseMethodDescriptor yX4_wet.desc).map (fun d => d.parameters.length) = some 3 := by decide +kernel
noncomputable def F_X4_wet (a0 : Nat) (x1 : Int32) (x2 : Int32) (x3 : Int32) (w : FW) : Option ((Int32 ⊕ Nat) × FW) :=
  fg (w.1 a0 = 5) inferInstance ((F_X4_begin a0 w).bind (fun r1 => (F_X4_tryWet a0 x1 x2 x3 r1).bind (fun r5 => (F_X4_settle a0 r5.1 r5.2).bind (fun r8 => fse r8.1 (fun v11 => (F_X4_existing a0 x1 r8.2).bind (fun r15 => fse r15 (fun v18 => fg (w.1 v18 = 3) inferInstance ((F_X2_half v18 x2 r8.2).bind (fun r21 => fg (w.1 r21 = 1) inferInstance (some ((.inl (gI r8.2 2 r21 0)), r8.2))))) (fun x19 => some (.inr x19, r8.2)))) (fun x12 => some (.inr x12, r8.2))))))
set_option maxHeartbeats 4000000 in
set_option maxRecDepth 100000 in
theorem c_X4_wet (l : Launch) (D : va_G) (cy : Nat → ClassId) (a0 : Nat) (x1 : Int32) (x2 : Int32) (x3 : Int32) (w : FW) (r : (Int32 ⊕ Nat) × FW) (hF : F_X4_wet a0 x1 x2 x3 w = some r) : fSpecX l D cy yX4_wet cX4_wet 4 (some .int) { frames := 7, cells := 2, slots := 12, locals := 121 } [.ref a0, .int x1, .int x2, .int x3] w r.2 (fOI r.1) := by
  refine f_beginX (by decide +kernel) (Nat.le_of_ble_eq_true rfl) (fun X hC hEn => ?_)
  have hst := f_st hC hEn
  unfold F_X4_wet at hF
  show fAt X 0 0 4 w [(0, .ref a0), (1, .int x1), (2, .int x2), (3, .int x3)] [] 0
  refine f_aload_n hC dX4_wet_0 rfl 0 rfl ?_
  obtain ⟨g3, hF⟩ := fg_open hF
  obtain ⟨r1, h2, hF⟩ := fb_open hF
  refine f_callV hC [] (c_X4_begin l D cy a0 w r1 h2) q_932 q_73 q_929 q_931 q_25 h9_X4_begin rfl (fSm.k (fSm.rf w) g3) ⟨Nat.le_of_ble_eq_true rfl, Nat.le_of_ble_eq_true rfl⟩ ⟨Nat.le_of_ble_eq_true rfl, Nat.le_of_ble_eq_true rfl⟩ (Nat.le_of_ble_eq_true rfl) rfl dX4_wet_1 (fun e4 => ?_)
  refine f_aload_n hC dX4_wet_4 rfl 0 rfl ?_
  refine f_aload_n hC dX4_wet_5 rfl 0 rfl ?_
  refine f_iload_n hC dX4_wet_6 rfl 1 rfl ?_
  refine f_iload_n hC dX4_wet_7 rfl 2 rfl ?_
  refine f_iload_n hC dX4_wet_8 rfl 3 rfl ?_
  obtain ⟨r5, h6, hF⟩ := fb_open hF
  refine f_callV hC [.int x1, .int x2, .int x3] (c_X4_tryWet l D cy a0 x1 x2 x3 r1 r5 h6) q_1003 q_73 q_1000 q_1002 q_41 h9_X4_tryWet rfl (fSm.k (fSm.tr e4 (fSm.rf w)) g3) ⟨Nat.le_of_ble_eq_true rfl, Nat.le_of_ble_eq_true rfl⟩ ⟨Nat.le_of_ble_eq_true rfl, Nat.le_of_ble_eq_true rfl⟩ (Nat.le_of_ble_eq_true rfl) rfl dX4_wet_9 (fun e7 => ?_)
  obtain ⟨r8, h9, hF⟩ := fb_open hF
  obtain ⟨o14, w13⟩ := r8
  rcases o14 with v11 | x12
  · refine f_callVR hC [.int r5.1] hst (c_X4_settle l D cy a0 r5.1 r5.2 (.inl v11, w13) h9) q_1082 q_73 q_1079 q_1081 q_54 h9_X4_settle rfl (fSm.k (fSm.tr e7 (fSm.tr e4 (fSm.rf w))) g3) ⟨Nat.le_of_ble_eq_true rfl, Nat.le_of_ble_eq_true rfl⟩ ⟨Nat.le_of_ble_eq_true rfl, Nat.le_of_ble_eq_true rfl⟩ (Nat.le_of_ble_eq_true rfl) rfl dX4_wet_12 (fun e10 => ?_)
    refine f_aload_n hC dX4_wet_15 rfl 0 rfl ?_
    refine f_iload_n hC dX4_wet_16 rfl 1 rfl ?_
    obtain ⟨r15, h16, hF⟩ := fb_open hF
    rcases r15 with v18 | x19
    · refine f_callVR hC [.int x1] hst (c_X4_existing l D cy a0 x1 w13 (.inl v18) h16) q_404 q_73 q_401 q_403 q_1 h9_X4_existing rfl (fSm.k (fSm.tr e10 (fSm.tr e7 (fSm.tr e4 (fSm.rf w)))) g3) ⟨Nat.le_of_ble_eq_true rfl, Nat.le_of_ble_eq_true rfl⟩ ⟨Nat.le_of_ble_eq_true rfl, Nat.le_of_ble_eq_true rfl⟩ (Nat.le_of_ble_eq_true rfl) rfl dX4_wet_17 (fun e17 => ?_)
      refine f_iload_n hC dX4_wet_20 rfl 2 rfl ?_
      obtain ⟨g23, hF⟩ := fg_open hF
      obtain ⟨r21, h22, hF⟩ := fb_open hF
      refine f_callVN hC [.int x2] (c_X2_half l D cy v18 x2 w13 r21 h22) q_425 q_76 q_422 q_424 q_3 h9_X2_half rfl (fSm.k (fSm.tr e10 (fSm.tr e7 (fSm.tr e4 (fSm.rf w)))) g23) ⟨Nat.le_of_ble_eq_true rfl, Nat.le_of_ble_eq_true rfl⟩ ⟨Nat.le_of_ble_eq_true rfl, Nat.le_of_ble_eq_true rfl⟩ (Nat.le_of_ble_eq_true rfl) rfl dX4_wet_21 (fun e24 => ?_)
      obtain ⟨g25, hF⟩ := fg_open hF
      refine f_getIN hC 0 2 2 rfl (by decide) iX0 q_155 rfl rfl (fSm.k (fSm.tr e10 (fSm.tr e7 (fSm.tr e4 (fSm.rf w)))) g25) dX4_wet_24 ?_
      obtain rfl := Option.some.inj hF
      exact f_iretX hC hEn (fSm.tr e10 (fSm.tr e7 (fSm.tr e4 (fSm.rf w)))) dX4_wet_27
    · obtain rfl := Option.some.inj hF
      exact f_callVT hC [.int x1] hEn (fSm.tr e10 (fSm.tr e7 (fSm.tr e4 (fSm.rf w)))) (Nat.le_of_ble_eq_true rfl) (Nat.le_of_ble_eq_true rfl) (c_X4_existing l D cy a0 x1 w13 (.inr x19) h16) q_404 q_73 q_401 q_403 q_1 h9_X4_existing rfl (fSm.k (fSm.tr e10 (fSm.tr e7 (fSm.tr e4 (fSm.rf w)))) g3) ⟨Nat.le_of_ble_eq_true rfl, Nat.le_of_ble_eq_true rfl⟩ ⟨Nat.le_of_ble_eq_true rfl, Nat.le_of_ble_eq_true rfl⟩ (Nat.le_of_ble_eq_true rfl) rfl dX4_wet_17
  · obtain rfl := Option.some.inj hF
    exact f_callVT hC [.int r5.1] hEn (fSm.tr e7 (fSm.tr e4 (fSm.rf w))) (Nat.le_of_ble_eq_true rfl) (Nat.le_of_ble_eq_true rfl) (c_X4_settle l D cy a0 r5.1 r5.2 (.inr x12, w13) h9) q_1082 q_73 q_1079 q_1081 q_54 h9_X4_settle rfl (fSm.k (fSm.tr e7 (fSm.tr e4 (fSm.rf w))) g3) ⟨Nat.le_of_ble_eq_true rfl, Nat.le_of_ble_eq_true rfl⟩ ⟨Nat.le_of_ble_eq_true rfl, Nat.le_of_ble_eq_true rfl⟩ (Nat.le_of_ble_eq_true rfl) rfl dX4_wet_12
theorem dX4_tryTear_0 : decode cX4_tryTear 0 = .ok (.aload_n 0, 1) := by decide +kernel
theorem dX4_tryTear_1 : decode cX4_tryTear 1 = .ok (.getfield 12, 3) := by decide +kernel
theorem dX4_tryTear_4 : decode cX4_tryTear 4 = .ok (.iload_n 1, 1) := by decide +kernel
theorem dX4_tryTear_5 : decode cX4_tryTear 5 = .ok (.invokevirtual 407, 3) := by decide +kernel
theorem dX4_tryTear_8 : decode cX4_tryTear 8 = .ok (.ifCond .ne 5, 3) := by decide +kernel
theorem dX4_tryTear_11 : decode cX4_tryTear 11 = .ok (.iconst 1, 1) := by decide +kernel
theorem dX4_tryTear_12 : decode cX4_tryTear 12 = .ok (.ireturn, 1) := by decide +kernel
theorem dX4_tryTear_13 : decode cX4_tryTear 13 = .ok (.aload_n 0, 1) := by decide +kernel
theorem dX4_tryTear_14 : decode cX4_tryTear 14 = .ok (.getfield 12, 3) := by decide +kernel
theorem dX4_tryTear_17 : decode cX4_tryTear 17 = .ok (.getfield 235, 3) := by decide +kernel
theorem dX4_tryTear_20 : decode cX4_tryTear 20 = .ok (.iload_n 1, 1) := by decide +kernel
theorem dX4_tryTear_21 : decode cX4_tryTear 21 = .ok (.aaload, 1) := by decide +kernel
theorem dX4_tryTear_22 : decode cX4_tryTear 22 = .ok (.getfield 136, 3) := by decide +kernel
theorem dX4_tryTear_25 : decode cX4_tryTear 25 = .ok (.ifCond .eq 10, 3) := by decide +kernel
theorem dX4_tryTear_28 : decode cX4_tryTear 28 = .ok (.aload_n 0, 1) := by decide +kernel
theorem dX4_tryTear_29 : decode cX4_tryTear 29 = .ok (.iconst 3, 1) := by decide +kernel
theorem dX4_tryTear_30 : decode cX4_tryTear 30 = .ok (.iconst 1, 1) := by decide +kernel
theorem dX4_tryTear_31 : decode cX4_tryTear 31 = .ok (.invokevirtual 394, 3) := by decide +kernel
theorem dX4_tryTear_34 : decode cX4_tryTear 34 = .ok (.ireturn, 1) := by decide +kernel
theorem dX4_tryTear_35 : decode cX4_tryTear 35 = .ok (.aload_n 0, 1) := by decide +kernel
theorem dX4_tryTear_36 : decode cX4_tryTear 36 = .ok (.getfield 12, 3) := by decide +kernel
theorem dX4_tryTear_39 : decode cX4_tryTear 39 = .ok (.getfield 235, 3) := by decide +kernel
theorem dX4_tryTear_42 : decode cX4_tryTear 42 = .ok (.iload_n 1, 1) := by decide +kernel
theorem dX4_tryTear_43 : decode cX4_tryTear 43 = .ok (.aaload, 1) := by decide +kernel
theorem dX4_tryTear_44 : decode cX4_tryTear 44 = .ok (.iconst 1, 1) := by decide +kernel
theorem dX4_tryTear_45 : decode cX4_tryTear 45 = .ok (.putfield 136, 3) := by decide +kernel
theorem dX4_tryTear_48 : decode cX4_tryTear 48 = .ok (.iconst 0, 1) := by decide +kernel
theorem dX4_tryTear_49 : decode cX4_tryTear 49 = .ok (.ireturn, 1) := by decide +kernel
theorem h9_X4_tryTear : yX4_tryTear.cls ≠ "java/lang/invoke/MethodHandle" ∧ yX4_tryTear.cls ≠ "java/lang/invoke/VarHandle" ∧ (parseMethodDescriptor yX4_tryTear.desc).map (fun d => d.parameters.length) = some 1 := by decide +kernel
noncomputable def F_X4_tryTear (a0 : Nat) (x1 : Int32) (w : FW) : Option (Int32 × FW) :=
  fg (w.1 a0 = 5) inferInstance (fg (w.1 (gR w 400 a0 0) = 2) inferInstance ((F_X1_hasTicket (gR w 400 a0 0) x1 w).bind (fun r2 => (if r2 = 0 then some (1, w) else fg (w.1 (gR w 100 (gR w 400 a0 0) 0) = 14) inferInstance (fg (¬ (x1 < 0 ∨ w.2.1 (gR w 100 (gR w 400 a0 0) 0) ≤ Int32.toNatClampNeg x1)) inferInstance (fg (w.1 (gR w 604 (gR w 100 (gR w 400 a0 0) 0) (Int32.toNatClampNeg x1)) = 3) inferInstance ((if (gI w 204 (gR w 604 (gR w 100 (gR w 400 a0 0) 0) (Int32.toNatClampNeg x1)) 0) = 0 then some (0, (sI w 204 (gR w 604 (gR w 100 (gR w 400 a0 0) 0) (Int32.toNatClampNeg x1)) 0 1)) else (F_X4_refuse a0 3 1 w).bind (fun r11 => some (r11.1, r11.2))))))))))
set_option maxHeartbeats 4000000 in
set_option maxRecDepth 100000 in
theorem c_X4_tryTear (l : Launch) (D : va_G) (cy : Nat → ClassId) (a0 : Nat) (x1 : Int32) (w : FW) (r : Int32 × FW) (hF : F_X4_tryTear a0 x1 w = some r) : fSpec l D cy yX4_tryTear cX4_tryTear 2 (some .int) { frames := 1, cells := 0, slots := 0, locals := 22 } [.ref a0, .int x1] w r.2 (some (.int r.1)) := by
  refine f_begin (by decide +kernel) (Nat.le_of_ble_eq_true rfl) (fun X hC hEn => ?_)
  unfold F_X4_tryTear at hF
  show fAt X 0 0 2 w [(0, .ref a0), (1, .int x1)] [] 0
  refine f_aload_n hC dX4_tryTear_0 rfl 0 rfl ?_
  obtain ⟨g1, hF⟩ := fg_open hF
  refine f_getR hC 4 0 400 rfl (by decide) iX4 q_260 rfl rfl (fSm.k (fSm.rf w) g1) dX4_tryTear_1 ?_
  refine f_iload_n hC dX4_tryTear_4 rfl 1 rfl ?_
  obtain ⟨g4, hF⟩ := fg_open hF
  obtain ⟨r2, h3, hF⟩ := fb_open hF
  refine f_callVN hC [.int x1] (c_X1_hasTicket l D cy (gR w 400 a0 0) x1 w r2 h3) q_408 q_74 q_405 q_407 q_2 h9_X1_hasTicket rfl (fSm.k (fSm.rf w) g4) ⟨Nat.le_of_ble_eq_true rfl, Nat.le_of_ble_eq_true rfl⟩ ⟨Nat.le_of_ble_eq_true rfl, Nat.le_of_ble_eq_true rfl⟩ (Nat.le_of_ble_eq_true rfl) rfl dX4_tryTear_5 (fun e5 => ?_)
  refine f_if_ne hC 13 dX4_tryTear_8 (by decide) (fun c6 => ?_) (fun c6 => ?_)
  · replace hF := fi_neg hF c6
    refine f_aload_n hC dX4_tryTear_13 rfl 0 rfl ?_
    refine f_getR hC 4 0 400 rfl (by decide) iX4 q_260 rfl rfl (fSm.k (fSm.rf w) g1) dX4_tryTear_14 ?_
    refine f_getRN hC 1 0 100 rfl (by decide) iX1 q_217 rfl rfl (fSm.k (fSm.rf w) g4) dX4_tryTear_17 ?_
    refine f_iload_n hC dX4_tryTear_20 rfl 1 rfl ?_
    obtain ⟨g7, hF⟩ := fg_open hF
    obtain ⟨g8, hF⟩ := fg_open hF
    refine f_aald1 hC (fSm.k (fSm.rf w) g7) (fSm.v (fSm.rf w) g8) dX4_tryTear_21 ?_
    obtain ⟨g9, hF⟩ := fg_open hF
    refine f_getIN hC 2 4 204 rfl (by decide) iX2 q_189 rfl rfl (fSm.k (fSm.rf w) g9) dX4_tryTear_22 ?_
    refine f_if_eq hC 35 dX4_tryTear_25 (by decide) (fun c10 => ?_) (fun c10 => ?_)
    · replace hF := fi_pos hF c10
      refine f_aload_n hC dX4_tryTear_35 rfl 0 rfl ?_
      refine f_getR hC 4 0 400 rfl (by decide) iX4 q_260 rfl rfl (fSm.k (fSm.rf w) g1) dX4_tryTear_36 ?_
      refine f_getRN hC 1 0 100 rfl (by decide) iX1 q_217 rfl rfl (fSm.k (fSm.rf w) g4) dX4_tryTear_39 ?_
      refine f_iload_n hC dX4_tryTear_42 rfl 1 rfl ?_
      refine f_aald1 hC (fSm.k (fSm.rf w) g7) (fSm.v (fSm.rf w) g8) dX4_tryTear_43 ?_
      refine f_iconst (v := 1) hC dX4_tryTear_44 (by decide) ?_
      refine f_putIN hC 2 4 204 rfl (by decide) iX2 tyX2 tyX2_ok nmX2 q_189 rfl rfl rfl (nar_z (by decide)) (fit_z (by decide)) (fSm.k (fSm.rf w) g9) dX4_tryTear_45 ?_
      refine f_iconst (v := 0) hC dX4_tryTear_48 (by decide) ?_
      obtain rfl := Option.some.inj hF
      exact f_iret hC hEn (fSm.rf w) dX4_tryTear_49
    · replace hF := fi_neg hF c10
      refine f_aload_n hC dX4_tryTear_28 rfl 0 rfl ?_
      refine f_iconst (v := 3) hC dX4_tryTear_29 (by decide) ?_
      refine f_iconst (v := 1) hC dX4_tryTear_30 (by decide) ?_
      obtain ⟨r11, h12, hF⟩ := fb_open hF
      refine f_callV hC [.int 3, .int 1] (c_X4_refuse l D cy a0 3 1 w r11 h12) q_984 q_73 q_981 q_983 q_37 h9_X4_refuse rfl (fSm.k (fSm.rf w) g1) ⟨Nat.le_of_ble_eq_true rfl, Nat.le_of_ble_eq_true rfl⟩ ⟨Nat.le_of_ble_eq_true rfl, Nat.le_of_ble_eq_true rfl⟩ (Nat.le_of_ble_eq_true rfl) rfl dX4_tryTear_31 (fun e13 => ?_)
      obtain rfl := Option.some.inj hF
      exact f_iret hC hEn (fSm.tr e13 (fSm.rf w)) dX4_tryTear_34
  · replace hF := fi_pos hF c6
    refine f_iconst (v := 1) hC dX4_tryTear_11 (by decide) ?_
    obtain rfl := Option.some.inj hF
    exact f_iret hC hEn (fSm.rf w) dX4_tryTear_12
theorem dX1_tornTickets_0 : decode cX1_tornTickets 0 = .ok (.iconst 0, 1) := by decide +kernel
theorem dX1_tornTickets_1 : decode cX1_tornTickets 1 = .ok (.istore_n 1, 1) := by decide +kernel
theorem dX1_tornTickets_2 : decode cX1_tornTickets 2 = .ok (.iconst 0, 1) := by decide +kernel
theorem dX1_tornTickets_3 : decode cX1_tornTickets 3 = .ok (.istore_n 2, 1) := by decide +kernel
theorem dX1_tornTickets_4 : decode cX1_tornTickets 4 = .ok (.iload_n 2, 1) := by decide +kernel
theorem dX1_tornTickets_5 : decode cX1_tornTickets 5 = .ok (.aload_n 0, 1) := by decide +kernel
theorem dX1_tornTickets_6 : decode cX1_tornTickets 6 = .ok (.getfield 17, 3) := by decide +kernel
theorem dX1_tornTickets_9 : decode cX1_tornTickets 9 = .ok (.if_icmp .ge 24, 3) := by decide +kernel
theorem dX1_tornTickets_12 : decode cX1_tornTickets 12 = .ok (.aload_n 0, 1) := by decide +kernel
theorem dX1_tornTickets_13 : decode cX1_tornTickets 13 = .ok (.getfield 11, 3) := by decide +kernel
theorem dX1_tornTickets_16 : decode cX1_tornTickets 16 = .ok (.iload_n 2, 1) := by decide +kernel
theorem dX1_tornTickets_17 : decode cX1_tornTickets 17 = .ok (.aaload, 1) := by decide +kernel
theorem dX1_tornTickets_18 : decode cX1_tornTickets 18 = .ok (.getfield 69, 3) := by decide +kernel
theorem dX1_tornTickets_21 : decode cX1_tornTickets 21 = .ok (.ifCond .eq 6, 3) := by decide +kernel
theorem dX1_tornTickets_24 : decode cX1_tornTickets 24 = .ok (.iinc 1 1, 3) := by decide +kernel
theorem dX1_tornTickets_27 : decode cX1_tornTickets 27 = .ok (.iinc 2 1, 3) := by decide +kernel
theorem dX1_tornTickets_30 : decode cX1_tornTickets 30 = .ok (.goto (-26), 3) := by decide +kernel
theorem dX1_tornTickets_33 : decode cX1_tornTickets 33 = .ok (.iload_n 1, 1) := by decide +kernel
theorem dX1_tornTickets_34 : decode cX1_tornTickets 34 = .ok (.ireturn, 1) := by decide +kernel
theorem h9_X1_tornTickets : yX1_tornTickets.cls ≠ "java/lang/invoke/MethodHandle" ∧ yX1_tornTickets.cls ≠ "java/lang/invoke/VarHandle" ∧ (parseMethodDescriptor yX1_tornTickets.desc).map (fun d => d.parameters.length) = some 0 := by decide +kernel
noncomputable def F_X1_tornTickets (a0 : Nat) (w : FW) : Option (Int32) :=
  (fLoop (σ := Int32 × Int32) (ρ := Int32) (fun s1 => fg (w.1 a0 = 2) inferInstance ((if (gI w 101 a0 0) ≤ s1.2 then some (.inr s1.1) else fg (w.1 (gR w 100 a0 0) = 14) inferInstance (fg (¬ (s1.2 < 0 ∨ w.2.1 (gR w 100 a0 0) ≤ Int32.toNatClampNeg s1.2)) inferInstance (fg (w.1 (gR w 604 (gR w 100 a0 0) (Int32.toNatClampNeg s1.2)) = 3) inferInstance ((if (gI w 204 (gR w 604 (gR w 100 a0 0) (Int32.toNatClampNeg s1.2)) 0) = 0 then some (.inl (s1.1, (s1.2 + 1))) else some (.inl ((s1.1 + 1), (s1.2 + 1)))))))))) (0, 0)).bind (fun x7 => some x7)
set_option maxHeartbeats 4000000 in
set_option maxRecDepth 100000 in
theorem c_X1_tornTickets (l : Launch) (D : va_G) (cy : Nat → ClassId) (a0 : Nat) (w : FW) (r : Int32) (hF : F_X1_tornTickets a0 w = some r) : fSpec l D cy yX1_tornTickets cX1_tornTickets 3 (some .int) { frames := 0, cells := 0, slots := 0, locals := 0 } [.ref a0] w w (some (.int r)) := by
  refine f_begin (by decide +kernel) (Nat.le_of_ble_eq_true rfl) (fun X hC hEn => ?_)
  unfold F_X1_tornTickets at hF
  show fAt X 0 0 3 w [(0, .ref a0)] [] 0
  refine f_iconst (v := 0) hC dX1_tornTickets_0 (by decide) ?_
  refine f_istore_n (L' := [(1, .int 0), (0, .ref a0)]) hC dX1_tornTickets_1 rfl (by decide) rfl ?_
  refine f_iconst (v := 0) hC dX1_tornTickets_2 (by decide) ?_
  refine f_istore_n (L' := [(2, .int 0), (1, .int 0), (0, .ref a0)]) hC dX1_tornTickets_3 rfl (by decide) rfl ?_
  obtain ⟨x7, h8, hF⟩ := fb_open hF
  have K9 : fAt X 0 0 3 w [(1, .int x7)] [] 33 := by
    refine f_iload_n hC dX1_tornTickets_33 rfl 0 rfl ?_
    obtain rfl := Option.some.inj hF
    exact f_iret hC hEn (fSm.rf w) dX1_tornTickets_34
  refine f_sub (L' := [(0, .ref a0), (1, .int 0), (2, .int 0)]) [2, 1, 0] rfl ?_
  refine fLoop_ind (fun (s1 : Int32 × Int32) => fAt X 0 0 3 w [(0, .ref a0), (1, .int s1.1), (2, .int s1.2)] [] 4) (fun s1 y6 h2 go3 ou4 => ?_) h8
  refine f_iload_n hC dX1_tornTickets_4 rfl 2 rfl ?_
  refine f_aload_n hC dX1_tornTickets_5 rfl 0 rfl ?_
  obtain ⟨g10, h2⟩ := fg_open h2
  refine f_getI hC 1 1 101 rfl (by decide) iX1 q_218 rfl rfl (fSm.k (fSm.rf w) g10) dX1_tornTickets_6 ?_
  refine f_icmp_ge hC 33 dX1_tornTickets_9 (by decide) (fun c11 => ?_) (fun c11 => ?_)
  · replace h2 := fi_pos h2 c11
    obtain rfl := Option.some.inj h2
    obtain rfl := ou4 _ rfl
    refine f_sub (L' := [(1, .int s1.1)]) [1] rfl ?_
    exact K9
  · replace h2 := fi_neg h2 c11
    refine f_aload_n hC dX1_tornTickets_12 rfl 0 rfl ?_
    refine f_getR hC 1 0 100 rfl (by decide) iX1 q_216 rfl rfl (fSm.k (fSm.rf w) g10) dX1_tornTickets_13 ?_
    refine f_iload_n hC dX1_tornTickets_16 rfl 2 rfl ?_
    obtain ⟨g12, h2⟩ := fg_open h2
    obtain ⟨g13, h2⟩ := fg_open h2
    refine f_aald1 hC (fSm.k (fSm.rf w) g12) (fSm.v (fSm.rf w) g13) dX1_tornTickets_17 ?_
    obtain ⟨g14, h2⟩ := fg_open h2
    refine f_getIN hC 2 4 204 rfl (by decide) iX2 q_188 rfl rfl (fSm.k (fSm.rf w) g14) dX1_tornTickets_18 ?_
    refine f_if_eq hC 27 dX1_tornTickets_21 (by decide) (fun c15 => ?_) (fun c15 => ?_)
    · replace h2 := fi_pos h2 c15
      refine f_iinc (L' := [(2, .int (s1.2 + 1)), (0, .ref a0), (1, .int s1.1)]) hC dX1_tornTickets_27 2 rfl rfl (by decide) rfl ?_
      refine f_goto hC 4 dX1_tornTickets_30 (by decide) ?_
      obtain rfl := Option.some.inj h2
      refine f_sub (L' := [(0, .ref a0), (1, .int s1.1), (2, .int (s1.2 + 1))]) [1, 2, 0] rfl ?_
      exact go3 _ rfl
    · replace h2 := fi_neg h2 c15
      refine f_iinc (L' := [(1, .int (s1.1 + 1)), (0, .ref a0), (2, .int s1.2)]) hC dX1_tornTickets_24 1 rfl rfl (by decide) rfl ?_
      refine f_iinc (L' := [(2, .int (s1.2 + 1)), (1, .int (s1.1 + 1)), (0, .ref a0)]) hC dX1_tornTickets_27 2 rfl rfl (by decide) rfl ?_
      refine f_goto hC 4 dX1_tornTickets_30 (by decide) ?_
      obtain rfl := Option.some.inj h2
      refine f_sub (L' := [(0, .ref a0), (1, .int (s1.1 + 1)), (2, .int (s1.2 + 1))]) [2, 1, 0] rfl ?_
      exact go3 _ rfl
theorem dX4_tear_0 : decode cX4_tear 0 = .ok (.aload_n 0, 1) := by decide +kernel
theorem dX4_tear_1 : decode cX4_tear 1 = .ok (.invokevirtual 72, 3) := by decide +kernel
theorem dX4_tear_4 : decode cX4_tear 4 = .ok (.aload_n 0, 1) := by decide +kernel
theorem dX4_tear_5 : decode cX4_tear 5 = .ok (.aload_n 0, 1) := by decide +kernel
theorem dX4_tear_6 : decode cX4_tear 6 = .ok (.iload_n 1, 1) := by decide +kernel
theorem dX4_tear_7 : decode cX4_tear 7 = .ok (.invokevirtual 182, 3) := by decide +kernel
theorem dX4_tear_10 : decode cX4_tear 10 = .ok (.invokevirtual 79, 3) := by decide +kernel
theorem dX4_tear_13 : decode cX4_tear 13 = .ok (.aload_n 0, 1) := by decide +kernel
theorem dX4_tear_14 : decode cX4_tear 14 = .ok (.getfield 12, 3) := by decide +kernel
theorem dX4_tear_17 : decode cX4_tear 17 = .ok (.invokevirtual 185, 3) := by decide +kernel
theorem dX4_tear_20 : decode cX4_tear 20 = .ok (.ireturn, 1) := by decide +kernel
theorem h9_X4_tear : yX4_tear.cls ≠ "java/lang/invoke/MethodHandle" ∧ yX4_tear.cls ≠ "java/lang/invoke/VarHandle" ∧ (parseMethodDescriptor yX4_tear.desc).map (fun d => d.parameters.length) = some 1 := by decide +kernel
noncomputable def F_X4_tear (a0 : Nat) (x1 : Int32) (w : FW) : Option ((Int32 ⊕ Nat) × FW) :=
  fg (w.1 a0 = 5) inferInstance ((F_X4_begin a0 w).bind (fun r1 => (F_X4_tryTear a0 x1 r1).bind (fun r5 => (F_X4_settle a0 r5.1 r5.2).bind (fun r8 => fse r8.1 (fun v11 => fg (w.1 (gR r8.2 400 a0 0) = 2) inferInstance ((F_X1_tornTickets (gR r8.2 400 a0 0) r8.2).bind (fun r15 => some ((.inl r15), r8.2)))) (fun x12 => some (.inr x12, r8.2))))))
set_option maxHeartbeats 4000000 in
set_option maxRecDepth 100000 in
theorem c_X4_tear (l : Launch) (D : va_G) (cy : Nat → ClassId) (a0 : Nat) (x1 : Int32) (w : FW) (r : (Int32 ⊕ Nat) × FW) (hF : F_X4_tear a0 x1 w = some r) : fSpecX l D cy yX4_tear cX4_tear 2 (some .int) { frames := 7, cells := 1, slots := 6, locals := 121 } [.ref a0, .int x1] w r.2 (fOI r.1) := by
  refine f_beginX (by decide +kernel) (Nat.le_of_ble_eq_true rfl) (fun X hC hEn => ?_)
  have hst := f_st hC hEn
  unfold F_X4_tear at hF
  show fAt X 0 0 2 w [(0, .ref a0), (1, .int x1)] [] 0
  refine f_aload_n hC dX4_tear_0 rfl 0 rfl ?_
  obtain ⟨g3, hF⟩ := fg_open hF
  obtain ⟨r1, h2, hF⟩ := fb_open hF
  refine f_callV hC [] (c_X4_begin l D cy a0 w r1 h2) q_932 q_73 q_929 q_931 q_25 h9_X4_begin rfl (fSm.k (fSm.rf w) g3) ⟨Nat.le_of_ble_eq_true rfl, Nat.le_of_ble_eq_true rfl⟩ ⟨Nat.le_of_ble_eq_true rfl, Nat.le_of_ble_eq_true rfl⟩ (Nat.le_of_ble_eq_true rfl) rfl dX4_tear_1 (fun e4 => ?_)
  refine f_aload_n hC dX4_tear_4 rfl 0 rfl ?_
  refine f_aload_n hC dX4_tear_5 rfl 0 rfl ?_
  refine f_iload_n hC dX4_tear_6 rfl 1 rfl ?_
  obtain ⟨r5, h6, hF⟩ := fb_open hF
  refine f_callV hC [.int x1] (c_X4_tryTear l D cy a0 x1 r1 r5 h6) q_1013 q_73 q_1010 q_1012 q_43 h9_X4_tryTear rfl (fSm.k (fSm.tr e4 (fSm.rf w)) g3) ⟨Nat.le_of_ble_eq_true rfl, Nat.le_of_ble_eq_true rfl⟩ ⟨Nat.le_of_ble_eq_true rfl, Nat.le_of_ble_eq_true rfl⟩ (Nat.le_of_ble_eq_true rfl) rfl dX4_tear_7 (fun e7 => ?_)
  obtain ⟨r8, h9, hF⟩ := fb_open hF
  obtain ⟨o14, w13⟩ := r8
  rcases o14 with v11 | x12
  · refine f_callVR hC [.int r5.1] hst (c_X4_settle l D cy a0 r5.1 r5.2 (.inl v11, w13) h9) q_1082 q_73 q_1079 q_1081 q_54 h9_X4_settle rfl (fSm.k (fSm.tr e7 (fSm.tr e4 (fSm.rf w))) g3) ⟨Nat.le_of_ble_eq_true rfl, Nat.le_of_ble_eq_true rfl⟩ ⟨Nat.le_of_ble_eq_true rfl, Nat.le_of_ble_eq_true rfl⟩ (Nat.le_of_ble_eq_true rfl) rfl dX4_tear_10 (fun e10 => ?_)
    refine f_aload_n hC dX4_tear_13 rfl 0 rfl ?_
    refine f_getR hC 4 0 400 rfl (by decide) iX4 q_260 rfl rfl (fSm.k (fSm.tr e10 (fSm.tr e7 (fSm.tr e4 (fSm.rf w)))) g3) dX4_tear_14 ?_
    obtain ⟨g17, hF⟩ := fg_open hF
    obtain ⟨r15, h16, hF⟩ := fb_open hF
    refine f_callVN hC [] (c_X1_tornTickets l D cy (gR w13 400 a0 0) w13 r15 h16) q_609 q_74 q_606 q_608 q_15 h9_X1_tornTickets rfl (fSm.k (fSm.tr e10 (fSm.tr e7 (fSm.tr e4 (fSm.rf w)))) g17) ⟨Nat.le_of_ble_eq_true rfl, Nat.le_of_ble_eq_true rfl⟩ ⟨Nat.le_of_ble_eq_true rfl, Nat.le_of_ble_eq_true rfl⟩ (Nat.le_of_ble_eq_true rfl) rfl dX4_tear_17 (fun e18 => ?_)
    obtain rfl := Option.some.inj hF
    exact f_iretX hC hEn (fSm.tr e10 (fSm.tr e7 (fSm.tr e4 (fSm.rf w)))) dX4_tear_20
  · obtain rfl := Option.some.inj hF
    exact f_callVT hC [.int r5.1] hEn (fSm.tr e7 (fSm.tr e4 (fSm.rf w))) (Nat.le_of_ble_eq_true rfl) (Nat.le_of_ble_eq_true rfl) (c_X4_settle l D cy a0 r5.1 r5.2 (.inr x12, w13) h9) q_1082 q_73 q_1079 q_1081 q_54 h9_X4_settle rfl (fSm.k (fSm.tr e7 (fSm.tr e4 (fSm.rf w))) g3) ⟨Nat.le_of_ble_eq_true rfl, Nat.le_of_ble_eq_true rfl⟩ ⟨Nat.le_of_ble_eq_true rfl, Nat.le_of_ble_eq_true rfl⟩ (Nat.le_of_ble_eq_true rfl) rfl dX4_tear_10
theorem dX4_tryLost_0 : decode cX4_tryLost 0 = .ok (.aload_n 0, 1) := by decide +kernel
theorem dX4_tryLost_1 : decode cX4_tryLost 1 = .ok (.getfield 12, 3) := by decide +kernel
theorem dX4_tryLost_4 : decode cX4_tryLost 4 = .ok (.iload_n 1, 1) := by decide +kernel
theorem dX4_tryLost_5 : decode cX4_tryLost 5 = .ok (.invokevirtual 407, 3) := by decide +kernel
theorem dX4_tryLost_8 : decode cX4_tryLost 8 = .ok (.ifCond .ne 5, 3) := by decide +kernel
theorem dX4_tryLost_11 : decode cX4_tryLost 11 = .ok (.iconst 1, 1) := by decide +kernel
theorem dX4_tryLost_12 : decode cX4_tryLost 12 = .ok (.ireturn, 1) := by decide +kernel
theorem dX4_tryLost_13 : decode cX4_tryLost 13 = .ok (.aload_n 0, 1) := by decide +kernel
theorem dX4_tryLost_14 : decode cX4_tryLost 14 = .ok (.getfield 12, 3) := by decide +kernel
theorem dX4_tryLost_17 : decode cX4_tryLost 17 = .ok (.getfield 235, 3) := by decide +kernel
theorem dX4_tryLost_20 : decode cX4_tryLost 20 = .ok (.iload_n 1, 1) := by decide +kernel
theorem dX4_tryLost_21 : decode cX4_tryLost 21 = .ok (.aaload, 1) := by decide +kernel
theorem dX4_tryLost_22 : decode cX4_tryLost 22 = .ok (.astore 4, 2) := by decide +kernel
theorem dX4_tryLost_24 : decode cX4_tryLost 24 = .ok (.aload 4, 2) := by decide +kernel
theorem dX4_tryLost_26 : decode cX4_tryLost 26 = .ok (.iload_n 2, 1) := by decide +kernel
theorem dX4_tryLost_27 : decode cX4_tryLost 27 = .ok (.invokevirtual 166, 3) := by decide +kernel
theorem dX4_tryLost_30 : decode cX4_tryLost 30 = .ok (.getfield 201, 3) := by decide +kernel
theorem dX4_tryLost_33 : decode cX4_tryLost 33 = .ok (.iload_n 3, 1) := by decide +kernel
theorem dX4_tryLost_34 : decode cX4_tryLost 34 = .ok (.if_icmp .ne 10, 3) := by decide +kernel
theorem dX4_tryLost_37 : decode cX4_tryLost 37 = .ok (.aload_n 0, 1) := by decide +kernel
theorem dX4_tryLost_38 : decode cX4_tryLost 38 = .ok (.iconst 3, 1) := by decide +kernel
theorem dX4_tryLost_39 : decode cX4_tryLost 39 = .ok (.iconst 1, 1) := by decide +kernel
theorem dX4_tryLost_40 : decode cX4_tryLost 40 = .ok (.invokevirtual 394, 3) := by decide +kernel
theorem dX4_tryLost_43 : decode cX4_tryLost 43 = .ok (.ireturn, 1) := by decide +kernel
theorem dX4_tryLost_44 : decode cX4_tryLost 44 = .ok (.aload 4, 2) := by decide +kernel
theorem dX4_tryLost_46 : decode cX4_tryLost 46 = .ok (.iload_n 2, 1) := by decide +kernel
theorem dX4_tryLost_47 : decode cX4_tryLost 47 = .ok (.invokevirtual 166, 3) := by decide +kernel
theorem dX4_tryLost_50 : decode cX4_tryLost 50 = .ok (.iload_n 3, 1) := by decide +kernel
theorem dX4_tryLost_51 : decode cX4_tryLost 51 = .ok (.putfield 201, 3) := by decide +kernel
theorem dX4_tryLost_54 : decode cX4_tryLost 54 = .ok (.aload 4, 2) := by decide +kernel
theorem dX4_tryLost_56 : decode cX4_tryLost 56 = .ok (.getfield 136, 3) := by decide +kernel
theorem dX4_tryLost_59 : decode cX4_tryLost 59 = .ok (.ifCond .ne 21, 3) := by decide +kernel
theorem dX4_tryLost_62 : decode cX4_tryLost 62 = .ok (.aload 4, 2) := by decide +kernel
theorem dX4_tryLost_64 : decode cX4_tryLost 64 = .ok (.iload_n 2, 1) := by decide +kernel
theorem dX4_tryLost_65 : decode cX4_tryLost 65 = .ok (.ifCond .ne 7, 3) := by decide +kernel
theorem dX4_tryLost_68 : decode cX4_tryLost 68 = .ok (.iconst 1, 1) := by decide +kernel
theorem dX4_tryLost_69 : decode cX4_tryLost 69 = .ok (.goto 4, 3) := by decide +kernel
theorem dX4_tryLost_72 : decode cX4_tryLost 72 = .ok (.iconst 0, 1) := by decide +kernel
theorem dX4_tryLost_73 : decode cX4_tryLost 73 = .ok (.invokevirtual 166, 3) := by decide +kernel
theorem dX4_tryLost_76 : decode cX4_tryLost 76 = .ok (.iload_n 3, 1) := by decide +kernel
theorem dX4_tryLost_77 : decode cX4_tryLost 77 = .ok (.putfield 201, 3) := by decide +kernel
theorem dX4_tryLost_80 : decode cX4_tryLost 80 = .ok (.iconst 0, 1) := by decide +kernel
theorem dX4_tryLost_81 : decode cX4_tryLost 81 = .ok (.ireturn, 1) := by decide +kernel
theorem h9_X4_tryLost : yX4_tryLost.cls ≠ "java/lang/invoke/MethodHandle" ∧ yX4_tryLost.cls ≠ "java/lang/invoke/VarHandle" ∧ (parseMethodDescriptor yX4_tryLost.desc).map (fun d => d.parameters.length) = some 3 := by decide +kernel
noncomputable def F_X4_tryLost (a0 : Nat) (x1 : Int32) (x2 : Int32) (x3 : Int32) (w : FW) : Option (Int32 × FW) :=
  fg (w.1 a0 = 5) inferInstance (fg (w.1 (gR w 400 a0 0) = 2) inferInstance ((F_X1_hasTicket (gR w 400 a0 0) x1 w).bind (fun r2 => (if r2 = 0 then some (1, w) else fg (w.1 (gR w 100 (gR w 400 a0 0) 0) = 14) inferInstance (fg (¬ (x1 < 0 ∨ w.2.1 (gR w 100 (gR w 400 a0 0) 0) ≤ Int32.toNatClampNeg x1)) inferInstance (fg (w.1 (gR w 604 (gR w 100 (gR w 400 a0 0) 0) (Int32.toNatClampNeg x1)) = 3) inferInstance ((F_X2_half (gR w 604 (gR w 100 (gR w 400 a0 0) 0) (Int32.toNatClampNeg x1)) x2 w).bind (fun r9 => fg (w.1 r9 = 1) inferInstance ((if (gI w 3 r9 0) = x3 then (F_X4_refuse a0 3 1 w).bind (fun r31 => some (r31.1, r31.2)) else (F_X2_half (gR w 604 (gR w 100 (gR w 400 a0 0) 0) (Int32.toNatClampNeg x1)) x2 w).bind (fun r15 => fg (w.1 r15 = 1) inferInstance (fg (x3 = 0 ∨ x3 = 1) inferInstance ((if (gI (sI w 3 r15 0 x3) 204 (gR w 604 (gR w 100 (gR w 400 a0 0) 0) (Int32.toNatClampNeg x1)) 0) = 0 then ((if x2 = 0 then some 1 else some 0) : Option (Int32)).bind (fun x21 => (F_X2_half (gR w 604 (gR w 100 (gR w 400 a0 0) 0) (Int32.toNatClampNeg x1)) x21 (sI w 3 r15 0 x3)).bind (fun r25 => fg (w.1 r25 = 1) inferInstance (fg (x3 = 0 ∨ x3 = 1) inferInstance (some (0, (sI (sI w 3 r15 0 x3) 3 r25 0 x3)))))) else some (0, (sI w 3 r15 0 x3))))))))))))))))
set_option maxHeartbeats 4000000 in
set_option maxRecDepth 100000 in
theorem c_X4_tryLost (l : Launch) (D : va_G) (cy : Nat → ClassId) (a0 : Nat) (x1 : Int32) (x2 : Int32) (x3 : Int32) (w : FW) (r : Int32 × FW) (hF : F_X4_tryLost a0 x1 x2 x3 w = some r) : fSpec l D cy yX4_tryLost cX4_tryLost 5 (some .int) { frames := 1, cells := 0, slots := 0, locals := 22 } [.ref a0, .int x1, .int x2, .int x3] w r.2 (some (.int r.1)) := by
  refine f_begin (by decide +kernel) (Nat.le_of_ble_eq_true rfl) (fun X hC hEn => ?_)
  unfold F_X4_tryLost at hF
  show fAt X 0 0 5 w [(0, .ref a0), (1, .int x1), (2, .int x2), (3, .int x3)] [] 0
  refine f_aload_n hC dX4_tryLost_0 rfl 0 rfl ?_
  obtain ⟨g1, hF⟩ := fg_open hF
  refine f_getR hC 4 0 400 rfl (by decide) iX4 q_260 rfl rfl (fSm.k (fSm.rf w) g1) dX4_tryLost_1 ?_
  refine f_iload_n hC dX4_tryLost_4 rfl 1 rfl ?_
  obtain ⟨g4, hF⟩ := fg_open hF
  obtain ⟨r2, h3, hF⟩ := fb_open hF
  refine f_callVN hC [.int x1] (c_X1_hasTicket l D cy (gR w 400 a0 0) x1 w r2 h3) q_408 q_74 q_405 q_407 q_2 h9_X1_hasTicket rfl (fSm.k (fSm.rf w) g4) ⟨Nat.le_of_ble_eq_true rfl, Nat.le_of_ble_eq_true rfl⟩ ⟨Nat.le_of_ble_eq_true rfl, Nat.le_of_ble_eq_true rfl⟩ (Nat.le_of_ble_eq_true rfl) rfl dX4_tryLost_5 (fun e5 => ?_)
  refine f_if_ne hC 13 dX4_tryLost_8 (by decide) (fun c6 => ?_) (fun c6 => ?_)
  · replace hF := fi_neg hF c6
    refine f_aload_n hC dX4_tryLost_13 rfl 0 rfl ?_
    refine f_getR hC 4 0 400 rfl (by decide) iX4 q_260 rfl rfl (fSm.k (fSm.rf w) g1) dX4_tryLost_14 ?_
    refine f_getRN hC 1 0 100 rfl (by decide) iX1 q_217 rfl rfl (fSm.k (fSm.rf w) g4) dX4_tryLost_17 ?_
    refine f_iload_n hC dX4_tryLost_20 rfl 1 rfl ?_
    obtain ⟨g7, hF⟩ := fg_open hF
    obtain ⟨g8, hF⟩ := fg_open hF
    refine f_aald1 hC (fSm.k (fSm.rf w) g7) (fSm.v (fSm.rf w) g8) dX4_tryLost_21 ?_
    refine f_astore (L' := [(4, .ref (gR w 604 (gR w 100 (gR w 400 a0 0) 0) (Int32.toNatClampNeg x1))), (0, .ref a0), (1, .int x1), (2, .int x2), (3, .int x3)]) hC dX4_tryLost_22 (by decide) rfl ?_
    refine f_aload hC dX4_tryLost_24 0 rfl ?_
    refine f_iload_n hC dX4_tryLost_26 rfl 3 rfl ?_
    obtain ⟨g11, hF⟩ := fg_open hF
    obtain ⟨r9, h10, hF⟩ := fb_open hF
    refine f_callVN hC [.int x2] (c_X2_half l D cy (gR w 604 (gR w 100 (gR w 400 a0 0) 0) (Int32.toNatClampNeg x1)) x2 w r9 h10) q_425 q_76 q_422 q_424 q_3 h9_X2_half rfl (fSm.k (fSm.rf w) g11) ⟨Nat.le_of_ble_eq_true rfl, Nat.le_of_ble_eq_true rfl⟩ ⟨Nat.le_of_ble_eq_true rfl, Nat.le_of_ble_eq_true rfl⟩ (Nat.le_of_ble_eq_true rfl) rfl dX4_tryLost_27 (fun e12 => ?_)
    obtain ⟨g13, hF⟩ := fg_open hF
    refine f_getIN hC 0 3 3 rfl (by decide) iX0 q_158 rfl rfl (fSm.k (fSm.rf w) g13) dX4_tryLost_30 ?_
    refine f_iload_n hC dX4_tryLost_33 rfl 4 rfl ?_
    refine f_icmp_ne hC 44 dX4_tryLost_34 (by decide) (fun c14 => ?_) (fun c14 => ?_)
    · replace hF := fi_neg hF c14
      refine f_aload hC dX4_tryLost_44 0 rfl ?_
      refine f_iload_n hC dX4_tryLost_46 rfl 3 rfl ?_
      obtain ⟨r15, h16, hF⟩ := fb_open hF
      refine f_callVN hC [.int x2] (c_X2_half l D cy (gR w 604 (gR w 100 (gR w 400 a0 0) 0) (Int32.toNatClampNeg x1)) x2 w r15 h16) q_425 q_76 q_422 q_424 q_3 h9_X2_half rfl (fSm.k (fSm.rf w) g11) ⟨Nat.le_of_ble_eq_true rfl, Nat.le_of_ble_eq_true rfl⟩ ⟨Nat.le_of_ble_eq_true rfl, Nat.le_of_ble_eq_true rfl⟩ (Nat.le_of_ble_eq_true rfl) rfl dX4_tryLost_47 (fun e17 => ?_)
      refine f_iload_n hC dX4_tryLost_50 rfl 4 rfl ?_
      obtain ⟨g18, hF⟩ := fg_open hF
      obtain ⟨g19, hF⟩ := fg_open hF
      refine f_putIN hC 0 3 3 rfl (by decide) iX0 tyX0 tyX0_ok nmX0 q_158 rfl rfl rfl (nar_z g19) (fit_z g19) (fSm.k (fSm.rf w) g18) dX4_tryLost_51 ?_
      refine f_aload hC dX4_tryLost_54 0 rfl ?_
      refine f_getIN hC 2 4 204 rfl (by decide) iX2 q_189 rfl rfl (fSm.k (fSm.rf w) g11) dX4_tryLost_56 ?_
      refine f_if_ne hC 80 dX4_tryLost_59 (by decide) (fun c20 => ?_) (fun c20 => ?_)
      · replace hF := fi_neg hF c20
        refine f_iconst (v := 0) hC dX4_tryLost_80 (by decide) ?_
        obtain rfl := Option.some.inj hF
        exact f_iret hC hEn (fSm.rf w) dX4_tryLost_81
      · replace hF := fi_pos hF c20
        refine f_aload hC dX4_tryLost_62 0 rfl ?_
        refine f_iload_n hC dX4_tryLost_64 rfl 3 rfl ?_
        obtain ⟨x21, h22, hF⟩ := fb_open hF
        have K24 : fAt X 0 0 5 (sI w 3 r15 0 x3) [(3, .int x3)] [.int x21, .ref (gR w 604 (gR w 100 (gR w 400 a0 0) 0) (Int32.toNatClampNeg x1))] 73 := by
          obtain ⟨r25, h26, hF⟩ := fb_open hF
          refine f_callVN hC [.int x21] (c_X2_half l D cy (gR w 604 (gR w 100 (gR w 400 a0 0) 0) (Int32.toNatClampNeg x1)) x21 (sI w 3 r15 0 x3) r25 h26) q_425 q_76 q_422 q_424 q_3 h9_X2_half rfl (fSm.k (fSm.rf w) g11) ⟨Nat.le_of_ble_eq_true rfl, Nat.le_of_ble_eq_true rfl⟩ ⟨Nat.le_of_ble_eq_true rfl, Nat.le_of_ble_eq_true rfl⟩ (Nat.le_of_ble_eq_true rfl) rfl dX4_tryLost_73 (fun e27 => ?_)
          refine f_iload_n hC dX4_tryLost_76 rfl 0 rfl ?_
          obtain ⟨g28, hF⟩ := fg_open hF
          obtain ⟨g29, hF⟩ := fg_open hF
          refine f_putIN hC 0 3 3 rfl (by decide) iX0 tyX0 tyX0_ok nmX0 q_158 rfl rfl rfl (nar_z g29) (fit_z g29) (fSm.k (fSm.rf w) g28) dX4_tryLost_77 ?_
          refine f_iconst (v := 0) hC dX4_tryLost_80 (by decide) ?_
          obtain rfl := Option.some.inj hF
          exact f_iret hC hEn (fSm.rf w) dX4_tryLost_81
        refine f_if_ne hC 72 dX4_tryLost_65 (by decide) (fun c30 => ?_) (fun c30 => ?_)
        · replace h22 := fi_neg h22 c30
          refine f_iconst (v := 0) hC dX4_tryLost_72 (by decide) ?_
          obtain rfl := Option.some.inj h22
          refine f_sub (L' := [(3, .int x3)]) [4] rfl ?_
          exact K24
        · replace h22 := fi_pos h22 c30
          refine f_iconst (v := 1) hC dX4_tryLost_68 (by decide) ?_
          refine f_goto hC 73 dX4_tryLost_69 (by decide) ?_
          obtain rfl := Option.some.inj h22
          refine f_sub (L' := [(3, .int x3)]) [4] rfl ?_
          exact K24
    · replace hF := fi_pos hF c14
      refine f_aload_n hC dX4_tryLost_37 rfl 1 rfl ?_
      refine f_iconst (v := 3) hC dX4_tryLost_38 (by decide) ?_
      refine f_iconst (v := 1) hC dX4_tryLost_39 (by decide) ?_
      obtain ⟨r31, h32, hF⟩ := fb_open hF
      refine f_callV hC [.int 3, .int 1] (c_X4_refuse l D cy a0 3 1 w r31 h32) q_984 q_73 q_981 q_983 q_37 h9_X4_refuse rfl (fSm.k (fSm.rf w) g1) ⟨Nat.le_of_ble_eq_true rfl, Nat.le_of_ble_eq_true rfl⟩ ⟨Nat.le_of_ble_eq_true rfl, Nat.le_of_ble_eq_true rfl⟩ (Nat.le_of_ble_eq_true rfl) rfl dX4_tryLost_40 (fun e33 => ?_)
      obtain rfl := Option.some.inj hF
      exact f_iret hC hEn (fSm.tr e33 (fSm.rf w)) dX4_tryLost_43
  · replace hF := fi_pos hF c6
    refine f_iconst (v := 1) hC dX4_tryLost_11 (by decide) ?_
    obtain rfl := Option.some.inj hF
    exact f_iret hC hEn (fSm.rf w) dX4_tryLost_12
theorem dX1_lostHalves_0 : decode cX1_lostHalves 0 = .ok (.iconst 0, 1) := by decide +kernel
theorem dX1_lostHalves_1 : decode cX1_lostHalves 1 = .ok (.istore_n 1, 1) := by decide +kernel
theorem dX1_lostHalves_2 : decode cX1_lostHalves 2 = .ok (.iconst 0, 1) := by decide +kernel
theorem dX1_lostHalves_3 : decode cX1_lostHalves 3 = .ok (.istore_n 2, 1) := by decide +kernel
theorem dX1_lostHalves_4 : decode cX1_lostHalves 4 = .ok (.iload_n 2, 1) := by decide +kernel
theorem dX1_lostHalves_5 : decode cX1_lostHalves 5 = .ok (.aload_n 0, 1) := by decide +kernel
theorem dX1_lostHalves_6 : decode cX1_lostHalves 6 = .ok (.getfield 17, 3) := by decide +kernel
theorem dX1_lostHalves_9 : decode cX1_lostHalves 9 = .ok (.if_icmp .ge 55, 3) := by decide +kernel
theorem dX1_lostHalves_12 : decode cX1_lostHalves 12 = .ok (.iload_n 1, 1) := by decide +kernel
theorem dX1_lostHalves_13 : decode cX1_lostHalves 13 = .ok (.aload_n 0, 1) := by decide +kernel
theorem dX1_lostHalves_14 : decode cX1_lostHalves 14 = .ok (.getfield 11, 3) := by decide +kernel
theorem dX1_lostHalves_17 : decode cX1_lostHalves 17 = .ok (.iload_n 2, 1) := by decide +kernel
theorem dX1_lostHalves_18 : decode cX1_lostHalves 18 = .ok (.aaload, 1) := by decide +kernel
theorem dX1_lostHalves_19 : decode cX1_lostHalves 19 = .ok (.getfield 73, 3) := by decide +kernel
theorem dX1_lostHalves_22 : decode cX1_lostHalves 22 = .ok (.getfield 77, 3) := by decide +kernel
theorem dX1_lostHalves_25 : decode cX1_lostHalves 25 = .ok (.ifCond .eq 7, 3) := by decide +kernel
theorem dX1_lostHalves_28 : decode cX1_lostHalves 28 = .ok (.iconst 1, 1) := by decide +kernel
theorem dX1_lostHalves_29 : decode cX1_lostHalves 29 = .ok (.goto 4, 3) := by decide +kernel
theorem dX1_lostHalves_32 : decode cX1_lostHalves 32 = .ok (.iconst 0, 1) := by decide +kernel
theorem dX1_lostHalves_33 : decode cX1_lostHalves 33 = .ok (.iadd, 1) := by decide +kernel
theorem dX1_lostHalves_34 : decode cX1_lostHalves 34 = .ok (.istore_n 1, 1) := by decide +kernel
theorem dX1_lostHalves_35 : decode cX1_lostHalves 35 = .ok (.iload_n 1, 1) := by decide +kernel
theorem dX1_lostHalves_36 : decode cX1_lostHalves 36 = .ok (.aload_n 0, 1) := by decide +kernel
theorem dX1_lostHalves_37 : decode cX1_lostHalves 37 = .ok (.getfield 11, 3) := by decide +kernel
theorem dX1_lostHalves_40 : decode cX1_lostHalves 40 = .ok (.iload_n 2, 1) := by decide +kernel
theorem dX1_lostHalves_41 : decode cX1_lostHalves 41 = .ok (.aaload, 1) := by decide +kernel
theorem dX1_lostHalves_42 : decode cX1_lostHalves 42 = .ok (.getfield 82, 3) := by decide +kernel
theorem dX1_lostHalves_45 : decode cX1_lostHalves 45 = .ok (.getfield 77, 3) := by decide +kernel
theorem dX1_lostHalves_48 : decode cX1_lostHalves 48 = .ok (.ifCond .eq 7, 3) := by decide +kernel
theorem dX1_lostHalves_51 : decode cX1_lostHalves 51 = .ok (.iconst 1, 1) := by decide +kernel
theorem dX1_lostHalves_52 : decode cX1_lostHalves 52 = .ok (.goto 4, 3) := by decide +kernel
theorem dX1_lostHalves_55 : decode cX1_lostHalves 55 = .ok (.iconst 0, 1) := by decide +kernel
theorem dX1_lostHalves_56 : decode cX1_lostHalves 56 = .ok (.iadd, 1) := by decide +kernel
theorem dX1_lostHalves_57 : decode cX1_lostHalves 57 = .ok (.istore_n 1, 1) := by decide +kernel
theorem dX1_lostHalves_58 : decode cX1_lostHalves 58 = .ok (.iinc 2 1, 3) := by decide +kernel
theorem dX1_lostHalves_61 : decode cX1_lostHalves 61 = .ok (.goto (-57), 3) := by decide +kernel
theorem dX1_lostHalves_64 : decode cX1_lostHalves 64 = .ok (.iload_n 1, 1) := by decide +kernel
theorem dX1_lostHalves_65 : decode cX1_lostHalves 65 = .ok (.ireturn, 1) := by decide +kernel
theorem h9_X1_lostHalves : yX1_lostHalves.cls ≠ "java/lang/invoke/MethodHandle" ∧ yX1_lostHalves.cls ≠ "java/lang/invoke/VarHandle" ∧ (parseMethodDescriptor yX1_lostHalves.desc).map (fun d => d.parameters.length) = some 0 := by decide +kernel
noncomputable def F_X1_lostHalves (a0 : Nat) (w : FW) : Option (Int32) :=
  (fLoop (σ := Int32 × Int32) (ρ := Int32) (fun s1 => fg (w.1 a0 = 2) inferInstance ((if (gI w 101 a0 0) ≤ s1.2 then some (.inr s1.1) else fg (w.1 (gR w 100 a0 0) = 14) inferInstance (fg (¬ (s1.2 < 0 ∨ w.2.1 (gR w 100 a0 0) ≤ Int32.toNatClampNeg s1.2)) inferInstance (fg (w.1 (gR w 604 (gR w 100 a0 0) (Int32.toNatClampNeg s1.2)) = 3) inferInstance (fg (w.1 (gR w 206 (gR w 604 (gR w 100 a0 0) (Int32.toNatClampNeg s1.2)) 0) = 1) inferInstance (((if (gI w 3 (gR w 206 (gR w 604 (gR w 100 a0 0) (Int32.toNatClampNeg s1.2)) 0) 0) = 0 then some 0 else some 1) : Option (Int32)).bind (fun x16 => fg (w.1 (gR w 207 (gR w 604 (gR w 100 a0 0) (Int32.toNatClampNeg s1.2)) 0) = 1) inferInstance ((if (gI w 3 (gR w 207 (gR w 604 (gR w 100 a0 0) (Int32.toNatClampNeg s1.2)) 0) 0) = 0 then some (.inl (((s1.1 + x16) + 0), (s1.2 + 1))) else some (.inl (((s1.1 + x16) + 1), (s1.2 + 1))))))))))))) (0, 0)).bind (fun x7 => some x7)
set_option maxHeartbeats 4000000 in
set_option maxRecDepth 100000 in
theorem c_X1_lostHalves (l : Launch) (D : va_G) (cy : Nat → ClassId) (a0 : Nat) (w : FW) (r : Int32) (hF : F_X1_lostHalves a0 w = some r) : fSpec l D cy yX1_lostHalves cX1_lostHalves 3 (some .int) { frames := 0, cells := 0, slots := 0, locals := 0 } [.ref a0] w w (some (.int r)) := by
  refine f_begin (by decide +kernel) (Nat.le_of_ble_eq_true rfl) (fun X hC hEn => ?_)
  unfold F_X1_lostHalves at hF
  show fAt X 0 0 3 w [(0, .ref a0)] [] 0
  refine f_iconst (v := 0) hC dX1_lostHalves_0 (by decide) ?_
  refine f_istore_n (L' := [(1, .int 0), (0, .ref a0)]) hC dX1_lostHalves_1 rfl (by decide) rfl ?_
  refine f_iconst (v := 0) hC dX1_lostHalves_2 (by decide) ?_
  refine f_istore_n (L' := [(2, .int 0), (1, .int 0), (0, .ref a0)]) hC dX1_lostHalves_3 rfl (by decide) rfl ?_
  obtain ⟨x7, h8, hF⟩ := fb_open hF
  have K9 : fAt X 0 0 3 w [(1, .int x7)] [] 64 := by
    refine f_iload_n hC dX1_lostHalves_64 rfl 0 rfl ?_
    obtain rfl := Option.some.inj hF
    exact f_iret hC hEn (fSm.rf w) dX1_lostHalves_65
  refine f_sub (L' := [(0, .ref a0), (1, .int 0), (2, .int 0)]) [2, 1, 0] rfl ?_
  refine fLoop_ind (fun (s1 : Int32 × Int32) => fAt X 0 0 3 w [(0, .ref a0), (1, .int s1.1), (2, .int s1.2)] [] 4) (fun s1 y6 h2 go3 ou4 => ?_) h8
  refine f_iload_n hC dX1_lostHalves_4 rfl 2 rfl ?_
  refine f_aload_n hC dX1_lostHalves_5 rfl 0 rfl ?_
  obtain ⟨g10, h2⟩ := fg_open h2
  refine f_getI hC 1 1 101 rfl (by decide) iX1 q_218 rfl rfl (fSm.k (fSm.rf w) g10) dX1_lostHalves_6 ?_
  refine f_icmp_ge hC 64 dX1_lostHalves_9 (by decide) (fun c11 => ?_) (fun c11 => ?_)
  · replace h2 := fi_pos h2 c11
    obtain rfl := Option.some.inj h2
    obtain rfl := ou4 _ rfl
    refine f_sub (L' := [(1, .int s1.1)]) [1] rfl ?_
    exact K9
  · replace h2 := fi_neg h2 c11
    refine f_iload_n hC dX1_lostHalves_12 rfl 1 rfl ?_
    refine f_aload_n hC dX1_lostHalves_13 rfl 0 rfl ?_
    refine f_getR hC 1 0 100 rfl (by decide) iX1 q_216 rfl rfl (fSm.k (fSm.rf w) g10) dX1_lostHalves_14 ?_
    refine f_iload_n hC dX1_lostHalves_17 rfl 2 rfl ?_
    obtain ⟨g12, h2⟩ := fg_open h2
    obtain ⟨g13, h2⟩ := fg_open h2
    refine f_aald1 hC (fSm.k (fSm.rf w) g12) (fSm.v (fSm.rf w) g13) dX1_lostHalves_18 ?_
    obtain ⟨g14, h2⟩ := fg_open h2
    refine f_getRN hC 2 6 206 rfl (by decide) iX2 q_194 rfl rfl (fSm.k (fSm.rf w) g14) dX1_lostHalves_19 ?_
    obtain ⟨g15, h2⟩ := fg_open h2
    refine f_getIN hC 0 3 3 rfl (by decide) iX0 q_157 rfl rfl (fSm.k (fSm.rf w) g15) dX1_lostHalves_22 ?_
    obtain ⟨x16, h17, h2⟩ := fb_open h2
    have K19 : fAt X 0 0 3 w [(0, .ref a0), (2, .int s1.2)] [.int x16, .int s1.1] 33 := by
      refine f_iadd hC dX1_lostHalves_33 ?_
      refine f_istore_n (L' := [(1, .int (s1.1 + x16)), (0, .ref a0), (2, .int s1.2)]) hC dX1_lostHalves_34 rfl (by decide) rfl ?_
      refine f_iload_n hC dX1_lostHalves_35 rfl 0 rfl ?_
      refine f_aload_n hC dX1_lostHalves_36 rfl 1 rfl ?_
      refine f_getR hC 1 0 100 rfl (by decide) iX1 q_216 rfl rfl (fSm.k (fSm.rf w) g10) dX1_lostHalves_37 ?_
      refine f_iload_n hC dX1_lostHalves_40 rfl 2 rfl ?_
      refine f_aald1 hC (fSm.k (fSm.rf w) g12) (fSm.v (fSm.rf w) g13) dX1_lostHalves_41 ?_
      refine f_getRN hC 2 7 207 rfl (by decide) iX2 q_197 rfl rfl (fSm.k (fSm.rf w) g14) dX1_lostHalves_42 ?_
      obtain ⟨g20, h2⟩ := fg_open h2
      refine f_getIN hC 0 3 3 rfl (by decide) iX0 q_157 rfl rfl (fSm.k (fSm.rf w) g20) dX1_lostHalves_45 ?_
      refine f_if_eq hC 55 dX1_lostHalves_48 (by decide) (fun c21 => ?_) (fun c21 => ?_)
      · replace h2 := fi_pos h2 c21
        refine f_iconst (v := 0) hC dX1_lostHalves_55 (by decide) ?_
        refine f_iadd hC dX1_lostHalves_56 ?_
        refine f_istore_n (L' := [(1, .int ((s1.1 + x16) + 0)), (0, .ref a0), (2, .int s1.2)]) hC dX1_lostHalves_57 rfl (by decide) rfl ?_
        refine f_iinc (L' := [(2, .int (s1.2 + 1)), (1, .int ((s1.1 + x16) + 0)), (0, .ref a0)]) hC dX1_lostHalves_58 2 rfl rfl (by decide) rfl ?_
        refine f_goto hC 4 dX1_lostHalves_61 (by decide) ?_
        obtain rfl := Option.some.inj h2
        refine f_sub (L' := [(0, .ref a0), (1, .int ((s1.1 + x16) + 0)), (2, .int (s1.2 + 1))]) [2, 1, 0] rfl ?_
        exact go3 _ rfl
      · replace h2 := fi_neg h2 c21
        refine f_iconst (v := 1) hC dX1_lostHalves_51 (by decide) ?_
        refine f_goto hC 56 dX1_lostHalves_52 (by decide) ?_
        refine f_iadd hC dX1_lostHalves_56 ?_
        refine f_istore_n (L' := [(1, .int ((s1.1 + x16) + 1)), (0, .ref a0), (2, .int s1.2)]) hC dX1_lostHalves_57 rfl (by decide) rfl ?_
        refine f_iinc (L' := [(2, .int (s1.2 + 1)), (1, .int ((s1.1 + x16) + 1)), (0, .ref a0)]) hC dX1_lostHalves_58 2 rfl rfl (by decide) rfl ?_
        refine f_goto hC 4 dX1_lostHalves_61 (by decide) ?_
        obtain rfl := Option.some.inj h2
        refine f_sub (L' := [(0, .ref a0), (1, .int ((s1.1 + x16) + 1)), (2, .int (s1.2 + 1))]) [2, 1, 0] rfl ?_
        exact go3 _ rfl
    refine f_if_eq hC 32 dX1_lostHalves_25 (by decide) (fun c22 => ?_) (fun c22 => ?_)
    · replace h17 := fi_pos h17 c22
      refine f_iconst (v := 0) hC dX1_lostHalves_32 (by decide) ?_
      obtain rfl := Option.some.inj h17
      refine f_sub (L' := [(0, .ref a0), (2, .int s1.2)]) [0, 2] rfl ?_
      exact K19
    · replace h17 := fi_neg h17 c22
      refine f_iconst (v := 1) hC dX1_lostHalves_28 (by decide) ?_
      refine f_goto hC 33 dX1_lostHalves_29 (by decide) ?_
      obtain rfl := Option.some.inj h17
      refine f_sub (L' := [(0, .ref a0), (2, .int s1.2)]) [0, 2] rfl ?_
      exact K19
theorem dX4_lose_0 : decode cX4_lose 0 = .ok (.aload_n 0, 1) := by decide +kernel
theorem dX4_lose_1 : decode cX4_lose 1 = .ok (.invokevirtual 72, 3) := by decide +kernel
theorem dX4_lose_4 : decode cX4_lose 4 = .ok (.aload_n 0, 1) := by decide +kernel
theorem dX4_lose_5 : decode cX4_lose 5 = .ok (.aload_n 0, 1) := by decide +kernel
theorem dX4_lose_6 : decode cX4_lose 6 = .ok (.iload_n 1, 1) := by decide +kernel
theorem dX4_lose_7 : decode cX4_lose 7 = .ok (.iload_n 2, 1) := by decide +kernel
theorem dX4_lose_8 : decode cX4_lose 8 = .ok (.iconst 1, 1) := by decide +kernel
theorem dX4_lose_9 : decode cX4_lose 9 = .ok (.invokevirtual 188, 3) := by decide +kernel
theorem dX4_lose_12 : decode cX4_lose 12 = .ok (.invokevirtual 79, 3) := by decide +kernel
theorem dX4_lose_15 : decode cX4_lose 15 = .ok (.aload_n 0, 1) := by decide +kernel
theorem dX4_lose_16 : decode cX4_lose 16 = .ok (.getfield 12, 3) := by decide +kernel
theorem dX4_lose_19 : decode cX4_lose 19 = .ok (.invokevirtual 192, 3) := by decide +kernel
theorem dX4_lose_22 : decode cX4_lose 22 = .ok (.ireturn, 1) := by decide +kernel
theorem h9_X4_lose : yX4_lose.cls ≠ "java/lang/invoke/MethodHandle" ∧ yX4_lose.cls ≠ "java/lang/invoke/VarHandle" ∧ (parseMethodDescriptor yX4_lose.desc).map (fun d => d.parameters.length) = some 2 := by decide +kernel
noncomputable def F_X4_lose (a0 : Nat) (x1 : Int32) (x2 : Int32) (w : FW) : Option ((Int32 ⊕ Nat) × FW) :=
  fg (w.1 a0 = 5) inferInstance ((F_X4_begin a0 w).bind (fun r1 => (F_X4_tryLost a0 x1 x2 1 r1).bind (fun r5 => (F_X4_settle a0 r5.1 r5.2).bind (fun r8 => fse r8.1 (fun v11 => fg (w.1 (gR r8.2 400 a0 0) = 2) inferInstance ((F_X1_lostHalves (gR r8.2 400 a0 0) r8.2).bind (fun r15 => some ((.inl r15), r8.2)))) (fun x12 => some (.inr x12, r8.2))))))
set_option maxHeartbeats 4000000 in
set_option maxRecDepth 100000 in
theorem c_X4_lose (l : Launch) (D : va_G) (cy : Nat → ClassId) (a0 : Nat) (x1 : Int32) (x2 : Int32) (w : FW) (r : (Int32 ⊕ Nat) × FW) (hF : F_X4_lose a0 x1 x2 w = some r) : fSpecX l D cy yX4_lose cX4_lose 3 (some .int) { frames := 7, cells := 1, slots := 6, locals := 121 } [.ref a0, .int x1, .int x2] w r.2 (fOI r.1) := by
  refine f_beginX (by decide +kernel) (Nat.le_of_ble_eq_true rfl) (fun X hC hEn => ?_)
  have hst := f_st hC hEn
  unfold F_X4_lose at hF
  show fAt X 0 0 3 w [(0, .ref a0), (1, .int x1), (2, .int x2)] [] 0
  refine f_aload_n hC dX4_lose_0 rfl 0 rfl ?_
  obtain ⟨g3, hF⟩ := fg_open hF
  obtain ⟨r1, h2, hF⟩ := fb_open hF
  refine f_callV hC [] (c_X4_begin l D cy a0 w r1 h2) q_932 q_73 q_929 q_931 q_25 h9_X4_begin rfl (fSm.k (fSm.rf w) g3) ⟨Nat.le_of_ble_eq_true rfl, Nat.le_of_ble_eq_true rfl⟩ ⟨Nat.le_of_ble_eq_true rfl, Nat.le_of_ble_eq_true rfl⟩ (Nat.le_of_ble_eq_true rfl) rfl dX4_lose_1 (fun e4 => ?_)
  refine f_aload_n hC dX4_lose_4 rfl 0 rfl ?_
  refine f_aload_n hC dX4_lose_5 rfl 0 rfl ?_
  refine f_iload_n hC dX4_lose_6 rfl 1 rfl ?_
  refine f_iload_n hC dX4_lose_7 rfl 2 rfl ?_
  refine f_iconst (v := 1) hC dX4_lose_8 (by decide) ?_
  obtain ⟨r5, h6, hF⟩ := fb_open hF
  refine f_callV hC [.int x1, .int x2, .int 1] (c_X4_tryLost l D cy a0 x1 x2 1 r1 r5 h6) q_1017 q_73 q_1014 q_1016 q_44 h9_X4_tryLost rfl (fSm.k (fSm.tr e4 (fSm.rf w)) g3) ⟨Nat.le_of_ble_eq_true rfl, Nat.le_of_ble_eq_true rfl⟩ ⟨Nat.le_of_ble_eq_true rfl, Nat.le_of_ble_eq_true rfl⟩ (Nat.le_of_ble_eq_true rfl) rfl dX4_lose_9 (fun e7 => ?_)
  obtain ⟨r8, h9, hF⟩ := fb_open hF
  obtain ⟨o14, w13⟩ := r8
  rcases o14 with v11 | x12
  · refine f_callVR hC [.int r5.1] hst (c_X4_settle l D cy a0 r5.1 r5.2 (.inl v11, w13) h9) q_1082 q_73 q_1079 q_1081 q_54 h9_X4_settle rfl (fSm.k (fSm.tr e7 (fSm.tr e4 (fSm.rf w))) g3) ⟨Nat.le_of_ble_eq_true rfl, Nat.le_of_ble_eq_true rfl⟩ ⟨Nat.le_of_ble_eq_true rfl, Nat.le_of_ble_eq_true rfl⟩ (Nat.le_of_ble_eq_true rfl) rfl dX4_lose_12 (fun e10 => ?_)
    refine f_aload_n hC dX4_lose_15 rfl 0 rfl ?_
    refine f_getR hC 4 0 400 rfl (by decide) iX4 q_260 rfl rfl (fSm.k (fSm.tr e10 (fSm.tr e7 (fSm.tr e4 (fSm.rf w)))) g3) dX4_lose_16 ?_
    obtain ⟨g17, hF⟩ := fg_open hF
    obtain ⟨r15, h16, hF⟩ := fb_open hF
    refine f_callVN hC [] (c_X1_lostHalves l D cy (gR w13 400 a0 0) w13 r15 h16) q_613 q_74 q_610 q_612 q_16 h9_X1_lostHalves rfl (fSm.k (fSm.tr e10 (fSm.tr e7 (fSm.tr e4 (fSm.rf w)))) g17) ⟨Nat.le_of_ble_eq_true rfl, Nat.le_of_ble_eq_true rfl⟩ ⟨Nat.le_of_ble_eq_true rfl, Nat.le_of_ble_eq_true rfl⟩ (Nat.le_of_ble_eq_true rfl) rfl dX4_lose_19 (fun e18 => ?_)
    obtain rfl := Option.some.inj hF
    exact f_iretX hC hEn (fSm.tr e10 (fSm.tr e7 (fSm.tr e4 (fSm.rf w)))) dX4_lose_22
  · obtain rfl := Option.some.inj hF
    exact f_callVT hC [.int r5.1] hEn (fSm.tr e7 (fSm.tr e4 (fSm.rf w))) (Nat.le_of_ble_eq_true rfl) (Nat.le_of_ble_eq_true rfl) (c_X4_settle l D cy a0 r5.1 r5.2 (.inr x12, w13) h9) q_1082 q_73 q_1079 q_1081 q_54 h9_X4_settle rfl (fSm.k (fSm.tr e7 (fSm.tr e4 (fSm.rf w))) g3) ⟨Nat.le_of_ble_eq_true rfl, Nat.le_of_ble_eq_true rfl⟩ ⟨Nat.le_of_ble_eq_true rfl, Nat.le_of_ble_eq_true rfl⟩ (Nat.le_of_ble_eq_true rfl) rfl dX4_lose_12
theorem dX4_find_0 : decode cX4_find 0 = .ok (.aload_n 0, 1) := by decide +kernel
theorem dX4_find_1 : decode cX4_find 1 = .ok (.invokevirtual 72, 3) := by decide +kernel
theorem dX4_find_4 : decode cX4_find 4 = .ok (.aload_n 0, 1) := by decide +kernel
theorem dX4_find_5 : decode cX4_find 5 = .ok (.aload_n 0, 1) := by decide +kernel
theorem dX4_find_6 : decode cX4_find 6 = .ok (.iload_n 1, 1) := by decide +kernel
theorem dX4_find_7 : decode cX4_find 7 = .ok (.iload_n 2, 1) := by decide +kernel
theorem dX4_find_8 : decode cX4_find 8 = .ok (.iconst 0, 1) := by decide +kernel
theorem dX4_find_9 : decode cX4_find 9 = .ok (.invokevirtual 188, 3) := by decide +kernel
theorem dX4_find_12 : decode cX4_find 12 = .ok (.invokevirtual 79, 3) := by decide +kernel
theorem dX4_find_15 : decode cX4_find 15 = .ok (.aload_n 0, 1) := by decide +kernel
theorem dX4_find_16 : decode cX4_find 16 = .ok (.getfield 12, 3) := by decide +kernel
theorem dX4_find_19 : decode cX4_find 19 = .ok (.invokevirtual 192, 3) := by decide +kernel
theorem dX4_find_22 : decode cX4_find 22 = .ok (.ireturn, 1) := by decide +kernel
theorem h9_X4_find : yX4_find.cls ≠ "java/lang/invoke/MethodHandle" ∧ yX4_find.cls ≠ "java/lang/invoke/VarHandle" ∧ (parseMethodDescriptor yX4_find.desc).map (fun d => d.parameters.length) = some 2 := by decide +kernel
noncomputable def F_X4_find (a0 : Nat) (x1 : Int32) (x2 : Int32) (w : FW) : Option ((Int32 ⊕ Nat) × FW) :=
  fg (w.1 a0 = 5) inferInstance ((F_X4_begin a0 w).bind (fun r1 => (F_X4_tryLost a0 x1 x2 0 r1).bind (fun r5 => (F_X4_settle a0 r5.1 r5.2).bind (fun r8 => fse r8.1 (fun v11 => fg (w.1 (gR r8.2 400 a0 0) = 2) inferInstance ((F_X1_lostHalves (gR r8.2 400 a0 0) r8.2).bind (fun r15 => some ((.inl r15), r8.2)))) (fun x12 => some (.inr x12, r8.2))))))
set_option maxHeartbeats 4000000 in
set_option maxRecDepth 100000 in
theorem c_X4_find (l : Launch) (D : va_G) (cy : Nat → ClassId) (a0 : Nat) (x1 : Int32) (x2 : Int32) (w : FW) (r : (Int32 ⊕ Nat) × FW) (hF : F_X4_find a0 x1 x2 w = some r) : fSpecX l D cy yX4_find cX4_find 3 (some .int) { frames := 7, cells := 1, slots := 6, locals := 121 } [.ref a0, .int x1, .int x2] w r.2 (fOI r.1) := by
  refine f_beginX (by decide +kernel) (Nat.le_of_ble_eq_true rfl) (fun X hC hEn => ?_)
  have hst := f_st hC hEn
  unfold F_X4_find at hF
  show fAt X 0 0 3 w [(0, .ref a0), (1, .int x1), (2, .int x2)] [] 0
  refine f_aload_n hC dX4_find_0 rfl 0 rfl ?_
  obtain ⟨g3, hF⟩ := fg_open hF
  obtain ⟨r1, h2, hF⟩ := fb_open hF
  refine f_callV hC [] (c_X4_begin l D cy a0 w r1 h2) q_932 q_73 q_929 q_931 q_25 h9_X4_begin rfl (fSm.k (fSm.rf w) g3) ⟨Nat.le_of_ble_eq_true rfl, Nat.le_of_ble_eq_true rfl⟩ ⟨Nat.le_of_ble_eq_true rfl, Nat.le_of_ble_eq_true rfl⟩ (Nat.le_of_ble_eq_true rfl) rfl dX4_find_1 (fun e4 => ?_)
  refine f_aload_n hC dX4_find_4 rfl 0 rfl ?_
  refine f_aload_n hC dX4_find_5 rfl 0 rfl ?_
  refine f_iload_n hC dX4_find_6 rfl 1 rfl ?_
  refine f_iload_n hC dX4_find_7 rfl 2 rfl ?_
  refine f_iconst (v := 0) hC dX4_find_8 (by decide) ?_
  obtain ⟨r5, h6, hF⟩ := fb_open hF
  refine f_callV hC [.int x1, .int x2, .int 0] (c_X4_tryLost l D cy a0 x1 x2 0 r1 r5 h6) q_1017 q_73 q_1014 q_1016 q_44 h9_X4_tryLost rfl (fSm.k (fSm.tr e4 (fSm.rf w)) g3) ⟨Nat.le_of_ble_eq_true rfl, Nat.le_of_ble_eq_true rfl⟩ ⟨Nat.le_of_ble_eq_true rfl, Nat.le_of_ble_eq_true rfl⟩ (Nat.le_of_ble_eq_true rfl) rfl dX4_find_9 (fun e7 => ?_)
  obtain ⟨r8, h9, hF⟩ := fb_open hF
  obtain ⟨o14, w13⟩ := r8
  rcases o14 with v11 | x12
  · refine f_callVR hC [.int r5.1] hst (c_X4_settle l D cy a0 r5.1 r5.2 (.inl v11, w13) h9) q_1082 q_73 q_1079 q_1081 q_54 h9_X4_settle rfl (fSm.k (fSm.tr e7 (fSm.tr e4 (fSm.rf w))) g3) ⟨Nat.le_of_ble_eq_true rfl, Nat.le_of_ble_eq_true rfl⟩ ⟨Nat.le_of_ble_eq_true rfl, Nat.le_of_ble_eq_true rfl⟩ (Nat.le_of_ble_eq_true rfl) rfl dX4_find_12 (fun e10 => ?_)
    refine f_aload_n hC dX4_find_15 rfl 0 rfl ?_
    refine f_getR hC 4 0 400 rfl (by decide) iX4 q_260 rfl rfl (fSm.k (fSm.tr e10 (fSm.tr e7 (fSm.tr e4 (fSm.rf w)))) g3) dX4_find_16 ?_
    obtain ⟨g17, hF⟩ := fg_open hF
    obtain ⟨r15, h16, hF⟩ := fb_open hF
    refine f_callVN hC [] (c_X1_lostHalves l D cy (gR w13 400 a0 0) w13 r15 h16) q_613 q_74 q_610 q_612 q_16 h9_X1_lostHalves rfl (fSm.k (fSm.tr e10 (fSm.tr e7 (fSm.tr e4 (fSm.rf w)))) g17) ⟨Nat.le_of_ble_eq_true rfl, Nat.le_of_ble_eq_true rfl⟩ ⟨Nat.le_of_ble_eq_true rfl, Nat.le_of_ble_eq_true rfl⟩ (Nat.le_of_ble_eq_true rfl) rfl dX4_find_19 (fun e18 => ?_)
    obtain rfl := Option.some.inj hF
    exact f_iretX hC hEn (fSm.tr e10 (fSm.tr e7 (fSm.tr e4 (fSm.rf w)))) dX4_find_22
  · obtain rfl := Option.some.inj hF
    exact f_callVT hC [.int r5.1] hEn (fSm.tr e7 (fSm.tr e4 (fSm.rf w))) (Nat.le_of_ble_eq_true rfl) (Nat.le_of_ble_eq_true rfl) (c_X4_settle l D cy a0 r5.1 r5.2 (.inr x12, w13) h9) q_1082 q_73 q_1079 q_1081 q_54 h9_X4_settle rfl (fSm.k (fSm.tr e7 (fSm.tr e4 (fSm.rf w))) g3) ⟨Nat.le_of_ble_eq_true rfl, Nat.le_of_ble_eq_true rfl⟩ ⟨Nat.le_of_ble_eq_true rfl, Nat.le_of_ble_eq_true rfl⟩ (Nat.le_of_ble_eq_true rfl) rfl dX4_find_12
theorem dJ9_floorMod_7cf53_0 : decode cJ9_floorMod_7cf53 0 = .ok (.iload_n 0, 1) := by decide +kernel
theorem dJ9_floorMod_7cf53_1 : decode cJ9_floorMod_7cf53 1 = .ok (.iload_n 1, 1) := by decide +kernel
theorem dJ9_floorMod_7cf53_2 : decode cJ9_floorMod_7cf53 2 = .ok (.irem, 1) := by decide +kernel
theorem dJ9_floorMod_7cf53_3 : decode cJ9_floorMod_7cf53 3 = .ok (.istore_n 2, 1) := by decide +kernel
theorem dJ9_floorMod_7cf53_4 : decode cJ9_floorMod_7cf53 4 = .ok (.iload_n 0, 1) := by decide +kernel
theorem dJ9_floorMod_7cf53_5 : decode cJ9_floorMod_7cf53 5 = .ok (.iload_n 1, 1) := by decide +kernel
theorem dJ9_floorMod_7cf53_6 : decode cJ9_floorMod_7cf53 6 = .ok (.ixor, 1) := by decide +kernel
theorem dJ9_floorMod_7cf53_7 : decode cJ9_floorMod_7cf53 7 = .ok (.ifCond .ge 11, 3) := by decide +kernel
theorem dJ9_floorMod_7cf53_10 : decode cJ9_floorMod_7cf53 10 = .ok (.iload_n 2, 1) := by decide +kernel
theorem dJ9_floorMod_7cf53_11 : decode cJ9_floorMod_7cf53 11 = .ok (.ifCond .eq 7, 3) := by decide +kernel
theorem dJ9_floorMod_7cf53_14 : decode cJ9_floorMod_7cf53 14 = .ok (.iload_n 2, 1) := by decide +kernel
theorem dJ9_floorMod_7cf53_15 : decode cJ9_floorMod_7cf53 15 = .ok (.iload_n 1, 1) := by decide +kernel
theorem dJ9_floorMod_7cf53_16 : decode cJ9_floorMod_7cf53 16 = .ok (.iadd, 1) := by decide +kernel
theorem dJ9_floorMod_7cf53_17 : decode cJ9_floorMod_7cf53 17 = .ok (.ireturn, 1) := by decide +kernel
theorem dJ9_floorMod_7cf53_18 : decode cJ9_floorMod_7cf53 18 = .ok (.iload_n 2, 1) := by decide +kernel
theorem dJ9_floorMod_7cf53_19 : decode cJ9_floorMod_7cf53 19 = .ok (.ireturn, 1) := by decide +kernel
theorem h9_J9_floorMod_7cf53 : yJ9_floorMod_7cf53.cls ≠ "java/lang/invoke/MethodHandle" ∧ yJ9_floorMod_7cf53.cls ≠ "java/lang/invoke/VarHandle" ∧ (parseMethodDescriptor yJ9_floorMod_7cf53.desc).map (fun d => d.parameters.length) = some 2 := by decide +kernel
noncomputable def F_J9_floorMod_7cf53 (x1 : Int32) (x2 : Int32) (w : FW) : Option (Int32) :=
  fg (¬ x2 = 0) inferInstance ((if 0 ≤ (x1 ^^^ x2) then some (frem x1 x2) else (if (frem x1 x2) = 0 then some (frem x1 x2) else some ((frem x1 x2) + x2))))
set_option maxHeartbeats 4000000 in
set_option maxRecDepth 100000 in
theorem c_J9_floorMod_7cf53 (l : Launch) (D : va_G) (cy : Nat → ClassId) (x1 : Int32) (x2 : Int32) (w : FW) (r : Int32) (hF : F_J9_floorMod_7cf53 x1 x2 w = some r) : fSpec l D cy yJ9_floorMod_7cf53 cJ9_floorMod_7cf53 3 (some .int) { frames := 0, cells := 0, slots := 0, locals := 0 } [.int x1, .int x2] w w (some (.int r)) := by
  refine f_begin (by decide +kernel) (Nat.le_of_ble_eq_true rfl) (fun X hC hEn => ?_)
  unfold F_J9_floorMod_7cf53 at hF
  show fAt X 0 0 3 w [(0, .int x1), (1, .int x2)] [] 0
  refine f_iload_n hC dJ9_floorMod_7cf53_0 rfl 0 rfl ?_
  refine f_iload_n hC dJ9_floorMod_7cf53_1 rfl 1 rfl ?_
  obtain ⟨g1, hF⟩ := fg_open hF
  refine f_irem hC dJ9_floorMod_7cf53_2 g1 ?_
  refine f_istore_n (L' := [(2, .int (frem x1 x2)), (0, .int x1), (1, .int x2)]) hC dJ9_floorMod_7cf53_3 rfl (by decide) rfl ?_
  refine f_iload_n hC dJ9_floorMod_7cf53_4 rfl 1 rfl ?_
  refine f_iload_n hC dJ9_floorMod_7cf53_5 rfl 2 rfl ?_
  refine f_ixor hC dJ9_floorMod_7cf53_6 ?_
  refine f_if_ge hC 18 dJ9_floorMod_7cf53_7 (by decide) (fun c2 => ?_) (fun c2 => ?_)
  · replace hF := fi_pos hF c2
    refine f_iload_n hC dJ9_floorMod_7cf53_18 rfl 0 rfl ?_
    obtain rfl := Option.some.inj hF
    exact f_iret hC hEn (fSm.rf w) dJ9_floorMod_7cf53_19
  · replace hF := fi_neg hF c2
    refine f_iload_n hC dJ9_floorMod_7cf53_10 rfl 0 rfl ?_
    refine f_if_eq hC 18 dJ9_floorMod_7cf53_11 (by decide) (fun c3 => ?_) (fun c3 => ?_)
    · replace hF := fi_pos hF c3
      refine f_iload_n hC dJ9_floorMod_7cf53_18 rfl 0 rfl ?_
      obtain rfl := Option.some.inj hF
      exact f_iret hC hEn (fSm.rf w) dJ9_floorMod_7cf53_19
    · replace hF := fi_neg hF c3
      refine f_iload_n hC dJ9_floorMod_7cf53_14 rfl 0 rfl ?_
      refine f_iload_n hC dJ9_floorMod_7cf53_15 rfl 2 rfl ?_
      refine f_iadd hC dJ9_floorMod_7cf53_16 ?_
      obtain rfl := Option.some.inj hF
      exact f_iret hC hEn (fSm.rf w) dJ9_floorMod_7cf53_17
