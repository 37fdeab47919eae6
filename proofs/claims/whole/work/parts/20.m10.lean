theorem dX5_holeLine_0 : decode cX5_holeLine 0 = .ok (.aload_n 0, 1) := by decide +kernel
theorem dX5_holeLine_1 : decode cX5_holeLine 1 = .ok (.aload_n 0, 1) := by decide +kernel
theorem dX5_holeLine_2 : decode cX5_holeLine 2 = .ok (.iload_n 1, 1) := by decide +kernel
theorem dX5_holeLine_3 : decode cX5_holeLine 3 = .ok (.iload_n 2, 1) := by decide +kernel
theorem dX5_holeLine_4 : decode cX5_holeLine 4 = .ok (.invokevirtual 213, 3) := by decide +kernel
theorem dX5_holeLine_7 : decode cX5_holeLine 7 = .ok (.putfield 41, 3) := by decide +kernel
theorem dX5_holeLine_10 : decode cX5_holeLine 10 = .ok (.aload_n 0, 1) := by decide +kernel
theorem dX5_holeLine_11 : decode cX5_holeLine 11 = .ok (.getfield 41, 3) := by decide +kernel
theorem dX5_holeLine_14 : decode cX5_holeLine 14 = .ok (.ifCond .le 5, 3) := by decide +kernel
theorem dX5_holeLine_17 : decode cX5_holeLine 17 = .ok (.iconst 0, 1) := by decide +kernel
theorem dX5_holeLine_18 : decode cX5_holeLine 18 = .ok (.ireturn, 1) := by decide +kernel
theorem dX5_holeLine_19 : decode cX5_holeLine 19 = .ok (.iload_n 2, 1) := by decide +kernel
theorem dX5_holeLine_20 : decode cX5_holeLine 20 = .ok (.invokestatic 194, 3) := by decide +kernel
theorem dX5_holeLine_23 : decode cX5_holeLine 23 = .ok (.istore_n 3, 1) := by decide +kernel
theorem dX5_holeLine_24 : decode cX5_holeLine 24 = .ok (.aload_n 0, 1) := by decide +kernel
theorem dX5_holeLine_25 : decode cX5_holeLine 25 = .ok (.iconst 0, 1) := by decide +kernel
theorem dX5_holeLine_26 : decode cX5_holeLine 26 = .ok (.putfield 231, 3) := by decide +kernel
theorem dX5_holeLine_29 : decode cX5_holeLine 29 = .ok (.iconst 0, 1) := by decide +kernel
theorem dX5_holeLine_30 : decode cX5_holeLine 30 = .ok (.istore 4, 2) := by decide +kernel
theorem dX5_holeLine_32 : decode cX5_holeLine 32 = .ok (.iload 4, 2) := by decide +kernel
theorem dX5_holeLine_34 : decode cX5_holeLine 34 = .ok (.aload_n 0, 1) := by decide +kernel
theorem dX5_holeLine_35 : decode cX5_holeLine 35 = .ok (.iload_n 1, 1) := by decide +kernel
theorem dX5_holeLine_36 : decode cX5_holeLine 36 = .ok (.iconst 0, 1) := by decide +kernel
theorem dX5_holeLine_37 : decode cX5_holeLine 37 = .ok (.invokevirtual 70, 3) := by decide +kernel
theorem dX5_holeLine_40 : decode cX5_holeLine 40 = .ok (.if_icmp .ge 55, 3) := by decide +kernel
theorem dX5_holeLine_43 : decode cX5_holeLine 43 = .ok (.aload_n 0, 1) := by decide +kernel
theorem dX5_holeLine_44 : decode cX5_holeLine 44 = .ok (.aload_n 0, 1) := by decide +kernel
theorem dX5_holeLine_45 : decode cX5_holeLine 45 = .ok (.iload_n 1, 1) := by decide +kernel
theorem dX5_holeLine_46 : decode cX5_holeLine 46 = .ok (.iload 4, 2) := by decide +kernel
theorem dX5_holeLine_48 : decode cX5_holeLine 48 = .ok (.invokevirtual 89, 3) := by decide +kernel
theorem dX5_holeLine_51 : decode cX5_holeLine 51 = .ok (.invokestatic 86, 3) := by decide +kernel
theorem dX5_holeLine_54 : decode cX5_holeLine 54 = .ok (.iconst (-1), 1) := by decide +kernel
theorem dX5_holeLine_55 : decode cX5_holeLine 55 = .ok (.if_icmp .ne 13, 3) := by decide +kernel
theorem dX5_holeLine_58 : decode cX5_holeLine 58 = .ok (.aload_n 0, 1) := by decide +kernel
theorem dX5_holeLine_59 : decode cX5_holeLine 59 = .ok (.iload_n 1, 1) := by decide +kernel
theorem dX5_holeLine_60 : decode cX5_holeLine 60 = .ok (.iload 4, 2) := by decide +kernel
theorem dX5_holeLine_62 : decode cX5_holeLine 62 = .ok (.invokevirtual 89, 3) := by decide +kernel
theorem dX5_holeLine_65 : decode cX5_holeLine 65 = .ok (.goto 21, 3) := by decide +kernel
theorem dX5_holeLine_68 : decode cX5_holeLine 68 = .ok (.bipush 48, 2) := by decide +kernel
theorem dX5_holeLine_70 : decode cX5_holeLine 70 = .ok (.aload_n 0, 1) := by decide +kernel
theorem dX5_holeLine_71 : decode cX5_holeLine 71 = .ok (.iload_n 1, 1) := by decide +kernel
theorem dX5_holeLine_72 : decode cX5_holeLine 72 = .ok (.iload_n 3, 1) := by decide +kernel
theorem dX5_holeLine_73 : decode cX5_holeLine 73 = .ok (.iload 4, 2) := by decide +kernel
theorem dX5_holeLine_75 : decode cX5_holeLine 75 = .ok (.aload_n 0, 1) := by decide +kernel
theorem dX5_holeLine_76 : decode cX5_holeLine 76 = .ok (.iload_n 1, 1) := by decide +kernel
theorem dX5_holeLine_77 : decode cX5_holeLine 77 = .ok (.iload_n 3, 1) := by decide +kernel
theorem dX5_holeLine_78 : decode cX5_holeLine 78 = .ok (.iconst 1, 1) := by decide +kernel
theorem dX5_holeLine_79 : decode cX5_holeLine 79 = .ok (.invokevirtual 78, 3) := by decide +kernel
theorem dX5_holeLine_82 : decode cX5_holeLine 82 = .ok (.invokevirtual 102, 3) := by decide +kernel
theorem dX5_holeLine_85 : decode cX5_holeLine 85 = .ok (.iadd, 1) := by decide +kernel
theorem dX5_holeLine_86 : decode cX5_holeLine 86 = .ok (.invokevirtual 234, 3) := by decide +kernel
theorem dX5_holeLine_89 : decode cX5_holeLine 89 = .ok (.iinc 4 1, 3) := by decide +kernel
theorem dX5_holeLine_92 : decode cX5_holeLine 92 = .ok (.goto (-60), 3) := by decide +kernel
theorem dX5_holeLine_95 : decode cX5_holeLine 95 = .ok (.aload_n 0, 1) := by decide +kernel
theorem dX5_holeLine_96 : decode cX5_holeLine 96 = .ok (.getfield 231, 3) := by decide +kernel
theorem dX5_holeLine_99 : decode cX5_holeLine 99 = .ok (.ireturn, 1) := by decide +kernel
theorem h9_X5_holeLine : yX5_holeLine.cls ≠ "java/lang/invoke/MethodHandle" ∧ yX5_holeLine.cls ≠ "java/lang/invoke/VarHandle" ∧ (parseMethodDescriptor yX5_holeLine.desc).map (fun d => d.parameters.length) = some 2 := by decide +kernel
noncomputable def F_X5_holeLine (a0 : Nat) (x1 : Int32) (x2 : Int32) (w : FW) : Option (Int32 × FW) :=
  fg (w.1 a0 = 6) inferInstance ((F_X5_halfThere a0 x1 x2 w).bind (fun r1 => (if (gI (sI w 500 a0 0 r1) 500 a0 0) ≤ 0 then (F_X5_number x2 (sI w 500 a0 0 r1)).bind (fun r6 => (fLoop (σ := Int32 × FW) (ρ := FW) (fun s9 => (F_X5_of a0 x1 0 s9.2).bind (fun r18 => (if r18 ≤ s9.1 then some (.inr s9.2) else (F_X5_letterOf a0 x1 s9.1 s9.2).bind (fun r22 => (F_X5_vowel r22 s9.2).bind (fun r25 => ((if r25 = (-1) then (F_X5_letterOf a0 x1 s9.1 s9.2).bind (fun r42 => some r42) else (F_X5_half a0 x1 r6 1 s9.2).bind (fun r36 => (F_X5_leftAt a0 x1 r6 s9.1 r36 s9.2).bind (fun r39 => some (48 + r39)))) : Option (Int32)).bind (fun x28 => (F_X5_writes a0 x28 s9.2).bind (fun r32 => some (.inl ((s9.1 + 1), r32))))))))) (0, (sI (sI w 500 a0 0 r1) 512 a0 0 0))).bind (fun x15 => some ((gI x15 512 a0 0), x15))) else some (0, (sI w 500 a0 0 r1)))))
set_option maxHeartbeats 4000000 in
set_option maxRecDepth 100000 in
theorem c_X5_holeLine (l : Launch) (D : va_G) (cy : Nat → ClassId) (a0 : Nat) (x1 : Int32) (x2 : Int32) (w : FW) (r : Int32 × FW) (hF : F_X5_holeLine a0 x1 x2 w = some r) : fSpec l D cy yX5_holeLine cX5_holeLine 5 (some .int) { frames := 5, cells := 0, slots := 0, locals := 116 } [.ref a0, .int x1, .int x2] w r.2 (some (.int r.1)) := by
  refine f_begin (by decide +kernel) (Nat.le_of_ble_eq_true rfl) (fun X hC hEn => ?_)
  unfold F_X5_holeLine at hF
  show fAt X 0 0 5 w [(0, .ref a0), (1, .int x1), (2, .int x2)] [] 0
  refine f_aload_n hC dX5_holeLine_0 rfl 0 rfl ?_
  refine f_aload_n hC dX5_holeLine_1 rfl 0 rfl ?_
  refine f_iload_n hC dX5_holeLine_2 rfl 1 rfl ?_
  refine f_iload_n hC dX5_holeLine_3 rfl 2 rfl ?_
  obtain ⟨g3, hF⟩ := fg_open hF
  obtain ⟨r1, h2, hF⟩ := fb_open hF
  refine f_callV hC [.int x1, .int x2] (c_X5_halfThere l D cy a0 x1 x2 w r1 h2) q_1572 q_136 q_1569 q_1571 q_109 h9_X5_halfThere rfl (fSm.k (fSm.rf w) g3) ⟨Nat.le_of_ble_eq_true rfl, Nat.le_of_ble_eq_true rfl⟩ ⟨Nat.le_of_ble_eq_true rfl, Nat.le_of_ble_eq_true rfl⟩ (Nat.le_of_ble_eq_true rfl) rfl dX5_holeLine_4 (fun e4 => ?_)
  refine f_putI hC 5 0 500 rfl (by decide) iX5 tyX5 tyX5_ok nmX5 q_1254 rfl rfl rfl rfl rfl (fSm.k (fSm.rf w) g3) dX5_holeLine_7 ?_
  refine f_aload_n hC dX5_holeLine_10 rfl 0 rfl ?_
  refine f_getI hC 5 0 500 rfl (by decide) iX5 q_1254 rfl rfl (fSm.k (fSm.rf w) g3) dX5_holeLine_11 ?_
  refine f_if_le hC 19 dX5_holeLine_14 (by decide) (fun c5 => ?_) (fun c5 => ?_)
  · replace hF := fi_pos hF c5
    refine f_iload_n hC dX5_holeLine_19 rfl 2 rfl ?_
    obtain ⟨r6, h7, hF⟩ := fb_open hF
    refine f_callS hC [.int x2] (c_X5_number l D cy x2 (sI w 500 a0 0 r1) r6 h7) q_1466 q_136 q_1464 q_1465 h9_X5_number ⟨Nat.le_of_ble_eq_true rfl, Nat.le_of_ble_eq_true rfl⟩ ⟨Nat.le_of_ble_eq_true rfl, Nat.le_of_ble_eq_true rfl⟩ (Nat.le_of_ble_eq_true rfl) rfl dX5_holeLine_20 (fun e8 => ?_)
    refine f_istore_n (L' := [(3, .int r6), (0, .ref a0), (1, .int x1), (2, .int x2)]) hC dX5_holeLine_23 rfl (by decide) rfl ?_
    refine f_aload_n hC dX5_holeLine_24 rfl 1 rfl ?_
    refine f_iconst (v := 0) hC dX5_holeLine_25 (by decide) ?_
    refine f_putI hC 5 12 512 rfl (by decide) iX5 tyX5 tyX5_ok nmX5 q_1266 rfl rfl rfl rfl rfl (fSm.k (fSm.rf w) g3) dX5_holeLine_26 ?_
    refine f_iconst (v := 0) hC dX5_holeLine_29 (by decide) ?_
    refine f_istore (L' := [(4, .int 0), (3, .int r6), (0, .ref a0), (1, .int x1), (2, .int x2)]) hC dX5_holeLine_30 (by decide) rfl ?_
    obtain ⟨x15, h16, hF⟩ := fb_open hF
    have K17 : fSm x15 w → fAt X 0 0 5 x15 [(0, .ref a0)] [] 95 := by
      intro p13
      refine f_aload_n hC dX5_holeLine_95 rfl 0 rfl ?_
      refine f_getI hC 5 12 512 rfl (by decide) iX5 q_1266 rfl rfl (fSm.k p13 g3) dX5_holeLine_96 ?_
      obtain rfl := Option.some.inj hF
      exact f_iret hC hEn p13 dX5_holeLine_99
    refine f_sub (L' := [(0, .ref a0), (1, .int x1), (3, .int r6), (4, .int 0)]) [2, 3, 1, 0] rfl ?_
    refine fLoop_ind (fun (s9 : Int32 × FW) => fSm s9.2 w → fAt X 0 0 5 s9.2 [(0, .ref a0), (1, .int x1), (3, .int r6), (4, .int s9.1)] [] 32) (fun s9 y14 h10 go11 ou12 => ?_) h16 (fSm.rf w)
    intro p13
    refine f_iload hC dX5_holeLine_32 3 rfl ?_
    refine f_aload_n hC dX5_holeLine_34 rfl 0 rfl ?_
    refine f_iload_n hC dX5_holeLine_35 rfl 1 rfl ?_
    refine f_iconst (v := 0) hC dX5_holeLine_36 (by decide) ?_
    obtain ⟨r18, h19, h10⟩ := fb_open h10
    refine f_callV hC [.int x1, .int 0] (c_X5_of l D cy a0 x1 0 s9.2 r18 h19) q_1447 q_136 q_1444 q_1446 q_90 h9_X5_of rfl (fSm.k p13 g3) ⟨Nat.le_of_ble_eq_true rfl, Nat.le_of_ble_eq_true rfl⟩ ⟨Nat.le_of_ble_eq_true rfl, Nat.le_of_ble_eq_true rfl⟩ (Nat.le_of_ble_eq_true rfl) rfl dX5_holeLine_37 (fun e20 => ?_)
    refine f_icmp_ge hC 95 dX5_holeLine_40 (by decide) (fun c21 => ?_) (fun c21 => ?_)
    · replace h10 := fi_pos h10 c21
      obtain rfl := Option.some.inj h10
      obtain rfl := ou12 _ rfl
      refine f_sub (L' := [(0, .ref a0)]) [0] rfl ?_
      exact K17 p13
    · replace h10 := fi_neg h10 c21
      refine f_aload_n hC dX5_holeLine_43 rfl 0 rfl ?_
      refine f_aload_n hC dX5_holeLine_44 rfl 0 rfl ?_
      refine f_iload_n hC dX5_holeLine_45 rfl 1 rfl ?_
      refine f_iload hC dX5_holeLine_46 3 rfl ?_
      obtain ⟨r22, h23, h10⟩ := fb_open h10
      refine f_callV hC [.int x1, .int s9.1] (c_X5_letterOf l D cy a0 x1 s9.1 s9.2 r22 h23) q_1455 q_136 q_1452 q_1454 q_92 h9_X5_letterOf rfl (fSm.k p13 g3) ⟨Nat.le_of_ble_eq_true rfl, Nat.le_of_ble_eq_true rfl⟩ ⟨Nat.le_of_ble_eq_true rfl, Nat.le_of_ble_eq_true rfl⟩ (Nat.le_of_ble_eq_true rfl) rfl dX5_holeLine_48 (fun e24 => ?_)
      obtain ⟨r25, h26, h10⟩ := fb_open h10
      refine f_callS hC [.int r22] (c_X5_vowel l D cy r22 s9.2 r25 h26) q_1355 q_136 q_1353 q_1354 h9_X5_vowel ⟨Nat.le_of_ble_eq_true rfl, Nat.le_of_ble_eq_true rfl⟩ ⟨Nat.le_of_ble_eq_true rfl, Nat.le_of_ble_eq_true rfl⟩ (Nat.le_of_ble_eq_true rfl) rfl dX5_holeLine_51 (fun e27 => ?_)
      refine f_iconst (v := (-1)) hC dX5_holeLine_54 (by decide) ?_
      obtain ⟨x28, h29, h10⟩ := fb_open h10
      have K31 : fAt X 0 0 5 s9.2 [(0, .ref a0), (1, .int x1), (3, .int r6), (4, .int s9.1)] [.int x28, .ref a0] 86 := by
        obtain ⟨r32, h33, h10⟩ := fb_open h10
        refine f_callV hC [.int x28] (c_X5_writes l D cy a0 x28 s9.2 r32 h33) q_1660 q_136 q_1657 q_1659 q_119 h9_X5_writes rfl (fSm.k p13 g3) ⟨Nat.le_of_ble_eq_true rfl, Nat.le_of_ble_eq_true rfl⟩ ⟨Nat.le_of_ble_eq_true rfl, Nat.le_of_ble_eq_true rfl⟩ (Nat.le_of_ble_eq_true rfl) rfl dX5_holeLine_86 (fun e34 => ?_)
        refine f_iinc (L' := [(4, .int (s9.1 + 1)), (0, .ref a0), (1, .int x1), (3, .int r6)]) hC dX5_holeLine_89 3 rfl rfl (by decide) rfl ?_
        refine f_goto hC 32 dX5_holeLine_92 (by decide) ?_
        obtain rfl := Option.some.inj h10
        refine f_sub (L' := [(0, .ref a0), (1, .int x1), (3, .int r6), (4, .int (s9.1 + 1))]) [1, 2, 3, 0] rfl ?_
        exact go11 _ rfl (fSm.tr e34 p13)
      refine f_icmp_ne hC 68 dX5_holeLine_55 (by decide) (fun c35 => ?_) (fun c35 => ?_)
      · replace h29 := fi_neg h29 c35
        refine f_bipush (v := 48) hC dX5_holeLine_68 (by decide) ?_
        refine f_aload_n hC dX5_holeLine_70 rfl 0 rfl ?_
        refine f_iload_n hC dX5_holeLine_71 rfl 1 rfl ?_
        refine f_iload_n hC dX5_holeLine_72 rfl 2 rfl ?_
        refine f_iload hC dX5_holeLine_73 3 rfl ?_
        refine f_aload_n hC dX5_holeLine_75 rfl 0 rfl ?_
        refine f_iload_n hC dX5_holeLine_76 rfl 1 rfl ?_
        refine f_iload_n hC dX5_holeLine_77 rfl 2 rfl ?_
        refine f_iconst (v := 1) hC dX5_holeLine_78 (by decide) ?_
        obtain ⟨r36, h37, h29⟩ := fb_open h29
        refine f_callV hC [.int x1, .int r6, .int 1] (c_X5_half l D cy a0 x1 r6 1 s9.2 r36 h37) q_1478 q_136 q_1475 q_1477 q_95 h9_X5_half rfl (fSm.k p13 g3) ⟨Nat.le_of_ble_eq_true rfl, Nat.le_of_ble_eq_true rfl⟩ ⟨Nat.le_of_ble_eq_true rfl, Nat.le_of_ble_eq_true rfl⟩ (Nat.le_of_ble_eq_true rfl) rfl dX5_holeLine_79 (fun e38 => ?_)
        obtain ⟨r39, h40, h29⟩ := fb_open h29
        refine f_callV hC [.int x1, .int r6, .int s9.1, .int r36] (c_X5_leftAt l D cy a0 x1 r6 s9.1 r36 s9.2 r39 h40) q_1541 q_136 q_1538 q_1540 q_105 h9_X5_leftAt rfl (fSm.k p13 g3) ⟨Nat.le_of_ble_eq_true rfl, Nat.le_of_ble_eq_true rfl⟩ ⟨Nat.le_of_ble_eq_true rfl, Nat.le_of_ble_eq_true rfl⟩ (Nat.le_of_ble_eq_true rfl) rfl dX5_holeLine_82 (fun e41 => ?_)
        refine f_iadd hC dX5_holeLine_85 ?_
        obtain rfl := Option.some.inj h29
        exact K31
      · replace h29 := fi_pos h29 c35
        refine f_aload_n hC dX5_holeLine_58 rfl 0 rfl ?_
        refine f_iload_n hC dX5_holeLine_59 rfl 1 rfl ?_
        refine f_iload hC dX5_holeLine_60 3 rfl ?_
        obtain ⟨r42, h43, h29⟩ := fb_open h29
        refine f_callV hC [.int x1, .int s9.1] (c_X5_letterOf l D cy a0 x1 s9.1 s9.2 r42 h43) q_1455 q_136 q_1452 q_1454 q_92 h9_X5_letterOf rfl (fSm.k p13 g3) ⟨Nat.le_of_ble_eq_true rfl, Nat.le_of_ble_eq_true rfl⟩ ⟨Nat.le_of_ble_eq_true rfl, Nat.le_of_ble_eq_true rfl⟩ (Nat.le_of_ble_eq_true rfl) rfl dX5_holeLine_62 (fun e44 => ?_)
        refine f_goto hC 86 dX5_holeLine_65 (by decide) ?_
        obtain rfl := Option.some.inj h29
        exact K31
  · replace hF := fi_neg hF c5
    refine f_iconst (v := 0) hC dX5_holeLine_17 (by decide) ?_
    obtain rfl := Option.some.inj hF
    exact f_iret hC hEn (fSm.rf w) dX5_holeLine_18
theorem dX5_character_0 : decode cX5_character 0 = .ok (.aload_n 0, 1) := by decide +kernel
theorem dX5_character_1 : decode cX5_character 1 = .ok (.iload_n 1, 1) := by decide +kernel
theorem dX5_character_2 : decode cX5_character 2 = .ok (.iconst 0, 1) := by decide +kernel
theorem dX5_character_3 : decode cX5_character 3 = .ok (.aload_n 0, 1) := by decide +kernel
theorem dX5_character_4 : decode cX5_character 4 = .ok (.getfield 231, 3) := by decide +kernel
theorem dX5_character_7 : decode cX5_character 7 = .ok (.iconst 1, 1) := by decide +kernel
theorem dX5_character_8 : decode cX5_character 8 = .ok (.isub, 1) := by decide +kernel
theorem dX5_character_9 : decode cX5_character 9 = .ok (.invokestatic 66, 3) := by decide +kernel
theorem dX5_character_12 : decode cX5_character 12 = .ok (.ifCond .eq 7, 3) := by decide +kernel
theorem dX5_character_15 : decode cX5_character 15 = .ok (.iconst 0, 1) := by decide +kernel
theorem dX5_character_16 : decode cX5_character 16 = .ok (.goto 4, 3) := by decide +kernel
theorem dX5_character_19 : decode cX5_character 19 = .ok (.iconst 1, 1) := by decide +kernel
theorem dX5_character_20 : decode cX5_character 20 = .ok (.putfield 41, 3) := by decide +kernel
theorem dX5_character_23 : decode cX5_character 23 = .ok (.aload_n 0, 1) := by decide +kernel
theorem dX5_character_24 : decode cX5_character 24 = .ok (.getfield 41, 3) := by decide +kernel
theorem dX5_character_27 : decode cX5_character 27 = .ok (.ifCond .le 7, 3) := by decide +kernel
theorem dX5_character_30 : decode cX5_character 30 = .ok (.iconst 0, 1) := by decide +kernel
theorem dX5_character_31 : decode cX5_character 31 = .ok (.goto 10, 3) := by decide +kernel
theorem dX5_character_34 : decode cX5_character 34 = .ok (.aload_n 0, 1) := by decide +kernel
theorem dX5_character_35 : decode cX5_character 35 = .ok (.getfield 28, 3) := by decide +kernel
theorem dX5_character_38 : decode cX5_character 38 = .ok (.iload_n 1, 1) := by decide +kernel
theorem dX5_character_39 : decode cX5_character 39 = .ok (.iaload, 1) := by decide +kernel
theorem dX5_character_40 : decode cX5_character 40 = .ok (.i2c, 1) := by decide +kernel
theorem dX5_character_41 : decode cX5_character 41 = .ok (.ireturn, 1) := by decide +kernel
theorem h9_X5_character : yX5_character.cls ≠ "java/lang/invoke/MethodHandle" ∧ yX5_character.cls ≠ "java/lang/invoke/VarHandle" ∧ (parseMethodDescriptor yX5_character.desc).map (fun d => d.parameters.length) = some 1 := by decide +kernel
noncomputable def F_X5_character (a0 : Nat) (x1 : Int32) (w : FW) : Option (Int32 × FW) :=
  fg (w.1 a0 = 6) inferInstance ((F_X5_in x1 0 ((gI w 512 a0 0) - 1) w).bind (fun r2 => ((if r2 = 0 then some 1 else some 0) : Option (Int32)).bind (fun x5 => (if (gI (sI w 500 a0 0 x5) 500 a0 0) ≤ 0 then fg (w.1 (gR w 509 a0 0) = 11) inferInstance (fg (¬ (x1 < 0 ∨ w.2.1 (gR w 509 a0 0) ≤ Int32.toNatClampNeg x1)) inferInstance (fg (fch (fch (gI (sI w 500 a0 0 x5) 601 (gR (sI w 500 a0 0 x5) 509 a0 0) (Int32.toNatClampNeg x1))) = (fch (gI (sI w 500 a0 0 x5) 601 (gR (sI w 500 a0 0 x5) 509 a0 0) (Int32.toNatClampNeg x1)))) inferInstance (some ((fch (gI (sI w 500 a0 0 x5) 601 (gR (sI w 500 a0 0 x5) 509 a0 0) (Int32.toNatClampNeg x1))), (sI w 500 a0 0 x5))))) else some (0, (sI w 500 a0 0 x5))))))
set_option maxHeartbeats 4000000 in
set_option maxRecDepth 100000 in
theorem c_X5_character (l : Launch) (D : va_G) (cy : Nat → ClassId) (a0 : Nat) (x1 : Int32) (w : FW) (r : Int32 × FW) (hF : F_X5_character a0 x1 w = some r) : fSpec l D cy yX5_character cX5_character 2 (some .char) { frames := 1, cells := 0, slots := 0, locals := 22 } [.ref a0, .int x1] w r.2 (some (.int r.1)) := by
  refine f_begin (by decide +kernel) (Nat.le_of_ble_eq_true rfl) (fun X hC hEn => ?_)
  unfold F_X5_character at hF
  show fAt X 0 0 2 w [(0, .ref a0), (1, .int x1)] [] 0
  refine f_aload_n hC dX5_character_0 rfl 0 rfl ?_
  refine f_iload_n hC dX5_character_1 rfl 1 rfl ?_
  refine f_iconst (v := 0) hC dX5_character_2 (by decide) ?_
  refine f_aload_n hC dX5_character_3 rfl 0 rfl ?_
  obtain ⟨g1, hF⟩ := fg_open hF
  refine f_getI hC 5 12 512 rfl (by decide) iX5 q_1266 rfl rfl (fSm.k (fSm.rf w) g1) dX5_character_4 ?_
  refine f_iconst (v := 1) hC dX5_character_7 (by decide) ?_
  refine f_isub hC dX5_character_8 ?_
  obtain ⟨r2, h3, hF⟩ := fb_open hF
  refine f_callS hC [.int x1, .int 0, .int ((gI w 512 a0 0) - 1)] (c_X5_in l D cy x1 0 ((gI w 512 a0 0) - 1) w r2 h3) q_1352 q_136 q_1350 q_1351 h9_X5_in ⟨Nat.le_of_ble_eq_true rfl, Nat.le_of_ble_eq_true rfl⟩ ⟨Nat.le_of_ble_eq_true rfl, Nat.le_of_ble_eq_true rfl⟩ (Nat.le_of_ble_eq_true rfl) rfl dX5_character_9 (fun e4 => ?_)
  obtain ⟨x5, h6, hF⟩ := fb_open hF
  have K8 : fAt X 0 0 2 w [(0, .ref a0), (1, .int x1)] [.int x5, .ref a0] 20 := by
    refine f_putI hC 5 0 500 rfl (by decide) iX5 tyX5 tyX5_ok nmX5 q_1254 rfl rfl rfl rfl rfl (fSm.k (fSm.rf w) g1) dX5_character_20 ?_
    refine f_aload_n hC dX5_character_23 rfl 0 rfl ?_
    refine f_getI hC 5 0 500 rfl (by decide) iX5 q_1254 rfl rfl (fSm.k (fSm.rf w) g1) dX5_character_24 ?_
    refine f_if_le hC 34 dX5_character_27 (by decide) (fun c9 => ?_) (fun c9 => ?_)
    · replace hF := fi_pos hF c9
      refine f_aload_n hC dX5_character_34 rfl 0 rfl ?_
      refine f_getR hC 5 9 509 rfl (by decide) iX5 q_1263 rfl rfl (fSm.k (fSm.rf w) g1) dX5_character_35 ?_
      refine f_iload_n hC dX5_character_38 rfl 1 rfl ?_
      obtain ⟨g10, hF⟩ := fg_open hF
      obtain ⟨g11, hF⟩ := fg_open hF
      refine f_iald hC (fSm.k (fSm.rf w) g10) (fSm.v (fSm.rf w) g11) dX5_character_39 ?_
      refine f_i2c hC dX5_character_40 ?_
      obtain ⟨g12, hF⟩ := fg_open hF
      obtain rfl := Option.some.inj hF
      exact f_zret hC hEn (fSm.rf w) (nar_c g12) dX5_character_41
    · replace hF := fi_neg hF c9
      refine f_iconst (v := 0) hC dX5_character_30 (by decide) ?_
      refine f_goto hC 41 dX5_character_31 (by decide) ?_
      obtain rfl := Option.some.inj hF
      exact f_zret hC hEn (fSm.rf w) (nar_c (by decide)) dX5_character_41
  refine f_if_eq hC 19 dX5_character_12 (by decide) (fun c13 => ?_) (fun c13 => ?_)
  · replace h6 := fi_pos h6 c13
    refine f_iconst (v := 1) hC dX5_character_19 (by decide) ?_
    obtain rfl := Option.some.inj h6
    exact K8
  · replace h6 := fi_neg h6 c13
    refine f_iconst (v := 0) hC dX5_character_15 (by decide) ?_
    refine f_goto hC 20 dX5_character_16 (by decide) ?_
    obtain rfl := Option.some.inj h6
    exact K8
theorem dX5_refusal_0 : decode cX5_refusal 0 = .ok (.aload_n 0, 1) := by decide +kernel
theorem dX5_refusal_1 : decode cX5_refusal 1 = .ok (.aload_n 0, 1) := by decide +kernel
theorem dX5_refusal_2 : decode cX5_refusal 2 = .ok (.getfield 60, 3) := by decide +kernel
theorem dX5_refusal_5 : decode cX5_refusal 5 = .ok (.ifCond .ne 7, 3) := by decide +kernel
theorem dX5_refusal_8 : decode cX5_refusal 8 = .ok (.iconst 1, 1) := by decide +kernel
theorem dX5_refusal_9 : decode cX5_refusal 9 = .ok (.goto 4, 3) := by decide +kernel
theorem dX5_refusal_12 : decode cX5_refusal 12 = .ok (.iconst 0, 1) := by decide +kernel
theorem dX5_refusal_13 : decode cX5_refusal 13 = .ok (.putfield 41, 3) := by decide +kernel
theorem dX5_refusal_16 : decode cX5_refusal 16 = .ok (.aload_n 0, 1) := by decide +kernel
theorem dX5_refusal_17 : decode cX5_refusal 17 = .ok (.getfield 41, 3) := by decide +kernel
theorem dX5_refusal_20 : decode cX5_refusal 20 = .ok (.ifCond .le 7, 3) := by decide +kernel
theorem dX5_refusal_23 : decode cX5_refusal 23 = .ok (.iconst 0, 1) := by decide +kernel
theorem dX5_refusal_24 : decode cX5_refusal 24 = .ok (.goto 18, 3) := by decide +kernel
theorem dX5_refusal_27 : decode cX5_refusal 27 = .ok (.iload_n 1, 1) := by decide +kernel
theorem dX5_refusal_28 : decode cX5_refusal 28 = .ok (.ifCond .eq 10, 3) := by decide +kernel
theorem dX5_refusal_31 : decode cX5_refusal 31 = .ok (.aload_n 0, 1) := by decide +kernel
theorem dX5_refusal_32 : decode cX5_refusal 32 = .ok (.getfield 63, 3) := by decide +kernel
theorem dX5_refusal_35 : decode cX5_refusal 35 = .ok (.goto 7, 3) := by decide +kernel
theorem dX5_refusal_38 : decode cX5_refusal 38 = .ok (.aload_n 0, 1) := by decide +kernel
theorem dX5_refusal_39 : decode cX5_refusal 39 = .ok (.getfield 60, 3) := by decide +kernel
theorem dX5_refusal_42 : decode cX5_refusal 42 = .ok (.ireturn, 1) := by decide +kernel
theorem h9_X5_refusal : yX5_refusal.cls ≠ "java/lang/invoke/MethodHandle" ∧ yX5_refusal.cls ≠ "java/lang/invoke/VarHandle" ∧ (parseMethodDescriptor yX5_refusal.desc).map (fun d => d.parameters.length) = some 1 := by decide +kernel
noncomputable def F_X5_refusal (a0 : Nat) (x1 : Int32) (w : FW) : Option (Int32 × FW) :=
  fg (w.1 a0 = 6) inferInstance (((if (gI w 515 a0 0) = 0 then some 1 else some 0) : Option (Int32)).bind (fun x2 => (if (gI (sI w 500 a0 0 x2) 500 a0 0) ≤ 0 then (if x1 = 0 then some ((gI (sI w 500 a0 0 x2) 515 a0 0), (sI w 500 a0 0 x2)) else some ((gI (sI w 500 a0 0 x2) 516 a0 0), (sI w 500 a0 0 x2))) else some (0, (sI w 500 a0 0 x2)))))
set_option maxHeartbeats 4000000 in
set_option maxRecDepth 100000 in
theorem c_X5_refusal (l : Launch) (D : va_G) (cy : Nat → ClassId) (a0 : Nat) (x1 : Int32) (w : FW) (r : Int32 × FW) (hF : F_X5_refusal a0 x1 w = some r) : fSpec l D cy yX5_refusal cX5_refusal 2 (some .int) { frames := 0, cells := 0, slots := 0, locals := 0 } [.ref a0, .int x1] w r.2 (some (.int r.1)) := by
  refine f_begin (by decide +kernel) (Nat.le_of_ble_eq_true rfl) (fun X hC hEn => ?_)
  unfold F_X5_refusal at hF
  show fAt X 0 0 2 w [(0, .ref a0), (1, .int x1)] [] 0
  refine f_aload_n hC dX5_refusal_0 rfl 0 rfl ?_
  refine f_aload_n hC dX5_refusal_1 rfl 0 rfl ?_
  obtain ⟨g1, hF⟩ := fg_open hF
  refine f_getI hC 5 15 515 rfl (by decide) iX5 q_1269 rfl rfl (fSm.k (fSm.rf w) g1) dX5_refusal_2 ?_
  obtain ⟨x2, h3, hF⟩ := fb_open hF
  have K5 : fAt X 0 0 2 w [(0, .ref a0), (1, .int x1)] [.int x2, .ref a0] 13 := by
    refine f_putI hC 5 0 500 rfl (by decide) iX5 tyX5 tyX5_ok nmX5 q_1254 rfl rfl rfl rfl rfl (fSm.k (fSm.rf w) g1) dX5_refusal_13 ?_
    refine f_aload_n hC dX5_refusal_16 rfl 0 rfl ?_
    refine f_getI hC 5 0 500 rfl (by decide) iX5 q_1254 rfl rfl (fSm.k (fSm.rf w) g1) dX5_refusal_17 ?_
    refine f_if_le hC 27 dX5_refusal_20 (by decide) (fun c6 => ?_) (fun c6 => ?_)
    · replace hF := fi_pos hF c6
      refine f_iload_n hC dX5_refusal_27 rfl 1 rfl ?_
      refine f_if_eq hC 38 dX5_refusal_28 (by decide) (fun c7 => ?_) (fun c7 => ?_)
      · replace hF := fi_pos hF c7
        refine f_aload_n hC dX5_refusal_38 rfl 0 rfl ?_
        refine f_getI hC 5 15 515 rfl (by decide) iX5 q_1269 rfl rfl (fSm.k (fSm.rf w) g1) dX5_refusal_39 ?_
        obtain rfl := Option.some.inj hF
        exact f_iret hC hEn (fSm.rf w) dX5_refusal_42
      · replace hF := fi_neg hF c7
        refine f_aload_n hC dX5_refusal_31 rfl 0 rfl ?_
        refine f_getI hC 5 16 516 rfl (by decide) iX5 q_1270 rfl rfl (fSm.k (fSm.rf w) g1) dX5_refusal_32 ?_
        refine f_goto hC 42 dX5_refusal_35 (by decide) ?_
        obtain rfl := Option.some.inj hF
        exact f_iret hC hEn (fSm.rf w) dX5_refusal_42
    · replace hF := fi_neg hF c6
      refine f_iconst (v := 0) hC dX5_refusal_23 (by decide) ?_
      refine f_goto hC 42 dX5_refusal_24 (by decide) ?_
      obtain rfl := Option.some.inj hF
      exact f_iret hC hEn (fSm.rf w) dX5_refusal_42
  refine f_if_ne hC 12 dX5_refusal_5 (by decide) (fun c8 => ?_) (fun c8 => ?_)
  · replace h3 := fi_neg h3 c8
    refine f_iconst (v := 0) hC dX5_refusal_12 (by decide) ?_
    obtain rfl := Option.some.inj h3
    exact K5
  · replace h3 := fi_pos h3 c8
    refine f_iconst (v := 1) hC dX5_refusal_8 (by decide) ?_
    refine f_goto hC 13 dX5_refusal_9 (by decide) ?_
    obtain rfl := Option.some.inj h3
    exact K5
theorem dX5_punchedMany_0 : decode cX5_punchedMany 0 = .ok (.iconst 0, 1) := by decide +kernel
theorem dX5_punchedMany_1 : decode cX5_punchedMany 1 = .ok (.istore_n 1, 1) := by decide +kernel
theorem dX5_punchedMany_2 : decode cX5_punchedMany 2 = .ok (.iconst 0, 1) := by decide +kernel
theorem dX5_punchedMany_3 : decode cX5_punchedMany 3 = .ok (.istore_n 2, 1) := by decide +kernel
theorem dX5_punchedMany_4 : decode cX5_punchedMany 4 = .ok (.iload_n 2, 1) := by decide +kernel
theorem dX5_punchedMany_5 : decode cX5_punchedMany 5 = .ok (.aload_n 0, 1) := by decide +kernel
theorem dX5_punchedMany_6 : decode cX5_punchedMany 6 = .ok (.getfield 7, 3) := by decide +kernel
theorem dX5_punchedMany_9 : decode cX5_punchedMany 9 = .ok (.iconst 0, 1) := by decide +kernel
theorem dX5_punchedMany_10 : decode cX5_punchedMany 10 = .ok (.iaload, 1) := by decide +kernel
theorem dX5_punchedMany_11 : decode cX5_punchedMany 11 = .ok (.if_icmp .ge 31, 3) := by decide +kernel
theorem dX5_punchedMany_14 : decode cX5_punchedMany 14 = .ok (.iload_n 1, 1) := by decide +kernel
theorem dX5_punchedMany_15 : decode cX5_punchedMany 15 = .ok (.aload_n 0, 1) := by decide +kernel
theorem dX5_punchedMany_16 : decode cX5_punchedMany 16 = .ok (.iload_n 2, 1) := by decide +kernel
theorem dX5_punchedMany_17 : decode cX5_punchedMany 17 = .ok (.iconst 0, 1) := by decide +kernel
theorem dX5_punchedMany_18 : decode cX5_punchedMany 18 = .ok (.invokevirtual 92, 3) := by decide +kernel
theorem dX5_punchedMany_21 : decode cX5_punchedMany 21 = .ok (.invokestatic 194, 3) := by decide +kernel
theorem dX5_punchedMany_24 : decode cX5_punchedMany 24 = .ok (.aload_n 0, 1) := by decide +kernel
theorem dX5_punchedMany_25 : decode cX5_punchedMany 25 = .ok (.iload_n 2, 1) := by decide +kernel
theorem dX5_punchedMany_26 : decode cX5_punchedMany 26 = .ok (.iconst 1, 1) := by decide +kernel
theorem dX5_punchedMany_27 : decode cX5_punchedMany 27 = .ok (.invokevirtual 92, 3) := by decide +kernel
theorem dX5_punchedMany_30 : decode cX5_punchedMany 30 = .ok (.invokestatic 194, 3) := by decide +kernel
theorem dX5_punchedMany_33 : decode cX5_punchedMany 33 = .ok (.iadd, 1) := by decide +kernel
theorem dX5_punchedMany_34 : decode cX5_punchedMany 34 = .ok (.iadd, 1) := by decide +kernel
theorem dX5_punchedMany_35 : decode cX5_punchedMany 35 = .ok (.istore_n 1, 1) := by decide +kernel
theorem dX5_punchedMany_36 : decode cX5_punchedMany 36 = .ok (.iinc 2 1, 3) := by decide +kernel
theorem dX5_punchedMany_39 : decode cX5_punchedMany 39 = .ok (.goto (-35), 3) := by decide +kernel
theorem dX5_punchedMany_42 : decode cX5_punchedMany 42 = .ok (.iload_n 1, 1) := by decide +kernel
theorem dX5_punchedMany_43 : decode cX5_punchedMany 43 = .ok (.ireturn, 1) := by decide +kernel
theorem h9_X5_punchedMany : yX5_punchedMany.cls ≠ "java/lang/invoke/MethodHandle" ∧ yX5_punchedMany.cls ≠ "java/lang/invoke/VarHandle" ∧ (parseMethodDescriptor yX5_punchedMany.desc).map (fun d => d.parameters.length) = some 0 := by decide +kernel
noncomputable def F_X5_punchedMany (a0 : Nat) (w : FW) : Option (Int32) :=
  (fLoop (σ := Int32 × Int32) (ρ := Int32) (fun s1 => fg (w.1 a0 = 6) inferInstance (fg (w.1 (gR w 501 a0 0) = 11) inferInstance (fg (¬ (0 < 0 ∨ w.2.1 (gR w 501 a0 0) ≤ Int32.toNatClampNeg 0)) inferInstance ((if (gI w 601 (gR w 501 a0 0) (Int32.toNatClampNeg 0)) ≤ s1.2 then some (.inr s1.1) else (F_X5_isPunched a0 s1.2 0 w).bind (fun r14 => (F_X5_number r14 w).bind (fun r17 => (F_X5_isPunched a0 s1.2 1 w).bind (fun r20 => (F_X5_number r20 w).bind (fun r23 => some (.inl ((s1.1 + (r17 + r23)), (s1.2 + 1)))))))))))) (0, 0)).bind (fun x7 => some x7)
set_option maxHeartbeats 4000000 in
set_option maxRecDepth 100000 in
theorem c_X5_punchedMany (l : Launch) (D : va_G) (cy : Nat → ClassId) (a0 : Nat) (w : FW) (r : Int32) (hF : F_X5_punchedMany a0 w = some r) : fSpec l D cy yX5_punchedMany cX5_punchedMany 3 (some .int) { frames := 3, cells := 0, slots := 0, locals := 67 } [.ref a0] w w (some (.int r)) := by
  refine f_begin (by decide +kernel) (Nat.le_of_ble_eq_true rfl) (fun X hC hEn => ?_)
  unfold F_X5_punchedMany at hF
  show fAt X 0 0 3 w [(0, .ref a0)] [] 0
  refine f_iconst (v := 0) hC dX5_punchedMany_0 (by decide) ?_
  refine f_istore_n (L' := [(1, .int 0), (0, .ref a0)]) hC dX5_punchedMany_1 rfl (by decide) rfl ?_
  refine f_iconst (v := 0) hC dX5_punchedMany_2 (by decide) ?_
  refine f_istore_n (L' := [(2, .int 0), (1, .int 0), (0, .ref a0)]) hC dX5_punchedMany_3 rfl (by decide) rfl ?_
  obtain ⟨x7, h8, hF⟩ := fb_open hF
  have K9 : fAt X 0 0 3 w [(1, .int x7)] [] 42 := by
    refine f_iload_n hC dX5_punchedMany_42 rfl 0 rfl ?_
    obtain rfl := Option.some.inj hF
    exact f_iret hC hEn (fSm.rf w) dX5_punchedMany_43
  refine f_sub (L' := [(0, .ref a0), (1, .int 0), (2, .int 0)]) [2, 1, 0] rfl ?_
  refine fLoop_ind (fun (s1 : Int32 × Int32) => fAt X 0 0 3 w [(0, .ref a0), (1, .int s1.1), (2, .int s1.2)] [] 4) (fun s1 y6 h2 go3 ou4 => ?_) h8
  refine f_iload_n hC dX5_punchedMany_4 rfl 2 rfl ?_
  refine f_aload_n hC dX5_punchedMany_5 rfl 0 rfl ?_
  obtain ⟨g10, h2⟩ := fg_open h2
  refine f_getR hC 5 1 501 rfl (by decide) iX5 q_1255 rfl rfl (fSm.k (fSm.rf w) g10) dX5_punchedMany_6 ?_
  refine f_iconst (v := 0) hC dX5_punchedMany_9 (by decide) ?_
  obtain ⟨g11, h2⟩ := fg_open h2
  obtain ⟨g12, h2⟩ := fg_open h2
  refine f_iald hC (fSm.k (fSm.rf w) g11) (fSm.v (fSm.rf w) g12) dX5_punchedMany_10 ?_
  refine f_icmp_ge hC 42 dX5_punchedMany_11 (by decide) (fun c13 => ?_) (fun c13 => ?_)
  · replace h2 := fi_pos h2 c13
    obtain rfl := Option.some.inj h2
    obtain rfl := ou4 _ rfl
    refine f_sub (L' := [(1, .int s1.1)]) [1] rfl ?_
    exact K9
  · replace h2 := fi_neg h2 c13
    refine f_iload_n hC dX5_punchedMany_14 rfl 1 rfl ?_
    refine f_aload_n hC dX5_punchedMany_15 rfl 0 rfl ?_
    refine f_iload_n hC dX5_punchedMany_16 rfl 2 rfl ?_
    refine f_iconst (v := 0) hC dX5_punchedMany_17 (by decide) ?_
    obtain ⟨r14, h15, h2⟩ := fb_open h2
    refine f_callV hC [.int s1.2, .int 0] (c_X5_isPunched l D cy a0 s1.2 0 w r14 h15) q_1474 q_136 q_1471 q_1473 q_94 h9_X5_isPunched rfl (fSm.k (fSm.rf w) g10) ⟨Nat.le_of_ble_eq_true rfl, Nat.le_of_ble_eq_true rfl⟩ ⟨Nat.le_of_ble_eq_true rfl, Nat.le_of_ble_eq_true rfl⟩ (Nat.le_of_ble_eq_true rfl) rfl dX5_punchedMany_18 (fun e16 => ?_)
    obtain ⟨r17, h18, h2⟩ := fb_open h2
    refine f_callS hC [.int r14] (c_X5_number l D cy r14 w r17 h18) q_1466 q_136 q_1464 q_1465 h9_X5_number ⟨Nat.le_of_ble_eq_true rfl, Nat.le_of_ble_eq_true rfl⟩ ⟨Nat.le_of_ble_eq_true rfl, Nat.le_of_ble_eq_true rfl⟩ (Nat.le_of_ble_eq_true rfl) rfl dX5_punchedMany_21 (fun e19 => ?_)
    refine f_aload_n hC dX5_punchedMany_24 rfl 0 rfl ?_
    refine f_iload_n hC dX5_punchedMany_25 rfl 2 rfl ?_
    refine f_iconst (v := 1) hC dX5_punchedMany_26 (by decide) ?_
    obtain ⟨r20, h21, h2⟩ := fb_open h2
    refine f_callV hC [.int s1.2, .int 1] (c_X5_isPunched l D cy a0 s1.2 1 w r20 h21) q_1474 q_136 q_1471 q_1473 q_94 h9_X5_isPunched rfl (fSm.k (fSm.rf w) g10) ⟨Nat.le_of_ble_eq_true rfl, Nat.le_of_ble_eq_true rfl⟩ ⟨Nat.le_of_ble_eq_true rfl, Nat.le_of_ble_eq_true rfl⟩ (Nat.le_of_ble_eq_true rfl) rfl dX5_punchedMany_27 (fun e22 => ?_)
    obtain ⟨r23, h24, h2⟩ := fb_open h2
    refine f_callS hC [.int r20] (c_X5_number l D cy r20 w r23 h24) q_1466 q_136 q_1464 q_1465 h9_X5_number ⟨Nat.le_of_ble_eq_true rfl, Nat.le_of_ble_eq_true rfl⟩ ⟨Nat.le_of_ble_eq_true rfl, Nat.le_of_ble_eq_true rfl⟩ (Nat.le_of_ble_eq_true rfl) rfl dX5_punchedMany_30 (fun e25 => ?_)
    refine f_iadd hC dX5_punchedMany_33 ?_
    refine f_iadd hC dX5_punchedMany_34 ?_
    refine f_istore_n (L' := [(1, .int (s1.1 + (r17 + r23))), (0, .ref a0), (2, .int s1.2)]) hC dX5_punchedMany_35 rfl (by decide) rfl ?_
    refine f_iinc (L' := [(2, .int (s1.2 + 1)), (1, .int (s1.1 + (r17 + r23))), (0, .ref a0)]) hC dX5_punchedMany_36 2 rfl rfl (by decide) rfl ?_
    refine f_goto hC 4 dX5_punchedMany_39 (by decide) ?_
    obtain rfl := Option.some.inj h2
    refine f_sub (L' := [(0, .ref a0), (1, .int (s1.1 + (r17 + r23))), (2, .int (s1.2 + 1))]) [2, 1, 0] rfl ?_
    exact go3 _ rfl
theorem dX5_allLeft_0 : decode cX5_allLeft 0 = .ok (.iconst 0, 1) := by decide +kernel
theorem dX5_allLeft_1 : decode cX5_allLeft 1 = .ok (.istore_n 1, 1) := by decide +kernel
theorem dX5_allLeft_2 : decode cX5_allLeft 2 = .ok (.iconst 0, 1) := by decide +kernel
theorem dX5_allLeft_3 : decode cX5_allLeft 3 = .ok (.istore_n 2, 1) := by decide +kernel
theorem dX5_allLeft_4 : decode cX5_allLeft 4 = .ok (.iload_n 2, 1) := by decide +kernel
theorem dX5_allLeft_5 : decode cX5_allLeft 5 = .ok (.aload_n 0, 1) := by decide +kernel
theorem dX5_allLeft_6 : decode cX5_allLeft 6 = .ok (.getfield 7, 3) := by decide +kernel
theorem dX5_allLeft_9 : decode cX5_allLeft 9 = .ok (.iconst 0, 1) := by decide +kernel
theorem dX5_allLeft_10 : decode cX5_allLeft 10 = .ok (.iaload, 1) := by decide +kernel
theorem dX5_allLeft_11 : decode cX5_allLeft 11 = .ok (.if_icmp .ge 25, 3) := by decide +kernel
theorem dX5_allLeft_14 : decode cX5_allLeft 14 = .ok (.iload_n 1, 1) := by decide +kernel
theorem dX5_allLeft_15 : decode cX5_allLeft 15 = .ok (.aload_n 0, 1) := by decide +kernel
theorem dX5_allLeft_16 : decode cX5_allLeft 16 = .ok (.iload_n 2, 1) := by decide +kernel
theorem dX5_allLeft_17 : decode cX5_allLeft 17 = .ok (.iconst 0, 1) := by decide +kernel
theorem dX5_allLeft_18 : decode cX5_allLeft 18 = .ok (.invokevirtual 210, 3) := by decide +kernel
theorem dX5_allLeft_21 : decode cX5_allLeft 21 = .ok (.aload_n 0, 1) := by decide +kernel
theorem dX5_allLeft_22 : decode cX5_allLeft 22 = .ok (.iload_n 2, 1) := by decide +kernel
theorem dX5_allLeft_23 : decode cX5_allLeft 23 = .ok (.iconst 1, 1) := by decide +kernel
theorem dX5_allLeft_24 : decode cX5_allLeft 24 = .ok (.invokevirtual 210, 3) := by decide +kernel
theorem dX5_allLeft_27 : decode cX5_allLeft 27 = .ok (.iadd, 1) := by decide +kernel
theorem dX5_allLeft_28 : decode cX5_allLeft 28 = .ok (.iadd, 1) := by decide +kernel
theorem dX5_allLeft_29 : decode cX5_allLeft 29 = .ok (.istore_n 1, 1) := by decide +kernel
theorem dX5_allLeft_30 : decode cX5_allLeft 30 = .ok (.iinc 2 1, 3) := by decide +kernel
theorem dX5_allLeft_33 : decode cX5_allLeft 33 = .ok (.goto (-29), 3) := by decide +kernel
theorem dX5_allLeft_36 : decode cX5_allLeft 36 = .ok (.iload_n 1, 1) := by decide +kernel
theorem dX5_allLeft_37 : decode cX5_allLeft 37 = .ok (.ireturn, 1) := by decide +kernel
theorem h9_X5_allLeft : yX5_allLeft.cls ≠ "java/lang/invoke/MethodHandle" ∧ yX5_allLeft.cls ≠ "java/lang/invoke/VarHandle" ∧ (parseMethodDescriptor yX5_allLeft.desc).map (fun d => d.parameters.length) = some 0 := by decide +kernel
noncomputable def F_X5_allLeft (a0 : Nat) (w : FW) : Option (Int32) :=
  (fLoop (σ := Int32 × Int32) (ρ := Int32) (fun s1 => fg (w.1 a0 = 6) inferInstance (fg (w.1 (gR w 501 a0 0) = 11) inferInstance (fg (¬ (0 < 0 ∨ w.2.1 (gR w 501 a0 0) ≤ Int32.toNatClampNeg 0)) inferInstance ((if (gI w 601 (gR w 501 a0 0) (Int32.toNatClampNeg 0)) ≤ s1.2 then some (.inr s1.1) else (F_X5_leftOf a0 s1.2 0 w).bind (fun r14 => (F_X5_leftOf a0 s1.2 1 w).bind (fun r17 => some (.inl ((s1.1 + (r14 + r17)), (s1.2 + 1)))))))))) (0, 0)).bind (fun x7 => some x7)
set_option maxHeartbeats 4000000 in
set_option maxRecDepth 100000 in
theorem c_X5_allLeft (l : Launch) (D : va_G) (cy : Nat → ClassId) (a0 : Nat) (w : FW) (r : Int32) (hF : F_X5_allLeft a0 w = some r) : fSpec l D cy yX5_allLeft cX5_allLeft 3 (some .int) { frames := 6, cells := 0, slots := 0, locals := 140 } [.ref a0] w w (some (.int r)) := by
  refine f_begin (by decide +kernel) (Nat.le_of_ble_eq_true rfl) (fun X hC hEn => ?_)
  unfold F_X5_allLeft at hF
  show fAt X 0 0 3 w [(0, .ref a0)] [] 0
  refine f_iconst (v := 0) hC dX5_allLeft_0 (by decide) ?_
  refine f_istore_n (L' := [(1, .int 0), (0, .ref a0)]) hC dX5_allLeft_1 rfl (by decide) rfl ?_
  refine f_iconst (v := 0) hC dX5_allLeft_2 (by decide) ?_
  refine f_istore_n (L' := [(2, .int 0), (1, .int 0), (0, .ref a0)]) hC dX5_allLeft_3 rfl (by decide) rfl ?_
  obtain ⟨x7, h8, hF⟩ := fb_open hF
  have K9 : fAt X 0 0 3 w [(1, .int x7)] [] 36 := by
    refine f_iload_n hC dX5_allLeft_36 rfl 0 rfl ?_
    obtain rfl := Option.some.inj hF
    exact f_iret hC hEn (fSm.rf w) dX5_allLeft_37
  refine f_sub (L' := [(0, .ref a0), (1, .int 0), (2, .int 0)]) [2, 1, 0] rfl ?_
  refine fLoop_ind (fun (s1 : Int32 × Int32) => fAt X 0 0 3 w [(0, .ref a0), (1, .int s1.1), (2, .int s1.2)] [] 4) (fun s1 y6 h2 go3 ou4 => ?_) h8
  refine f_iload_n hC dX5_allLeft_4 rfl 2 rfl ?_
  refine f_aload_n hC dX5_allLeft_5 rfl 0 rfl ?_
  obtain ⟨g10, h2⟩ := fg_open h2
  refine f_getR hC 5 1 501 rfl (by decide) iX5 q_1255 rfl rfl (fSm.k (fSm.rf w) g10) dX5_allLeft_6 ?_
  refine f_iconst (v := 0) hC dX5_allLeft_9 (by decide) ?_
  obtain ⟨g11, h2⟩ := fg_open h2
  obtain ⟨g12, h2⟩ := fg_open h2
  refine f_iald hC (fSm.k (fSm.rf w) g11) (fSm.v (fSm.rf w) g12) dX5_allLeft_10 ?_
  refine f_icmp_ge hC 36 dX5_allLeft_11 (by decide) (fun c13 => ?_) (fun c13 => ?_)
  · replace h2 := fi_pos h2 c13
    obtain rfl := Option.some.inj h2
    obtain rfl := ou4 _ rfl
    refine f_sub (L' := [(1, .int s1.1)]) [1] rfl ?_
    exact K9
  · replace h2 := fi_neg h2 c13
    refine f_iload_n hC dX5_allLeft_14 rfl 1 rfl ?_
    refine f_aload_n hC dX5_allLeft_15 rfl 0 rfl ?_
    refine f_iload_n hC dX5_allLeft_16 rfl 2 rfl ?_
    refine f_iconst (v := 0) hC dX5_allLeft_17 (by decide) ?_
    obtain ⟨r14, h15, h2⟩ := fb_open h2
    refine f_callV hC [.int s1.2, .int 0] (c_X5_leftOf l D cy a0 s1.2 0 w r14 h15) q_1537 q_136 q_1534 q_1536 q_104 h9_X5_leftOf rfl (fSm.k (fSm.rf w) g10) ⟨Nat.le_of_ble_eq_true rfl, Nat.le_of_ble_eq_true rfl⟩ ⟨Nat.le_of_ble_eq_true rfl, Nat.le_of_ble_eq_true rfl⟩ (Nat.le_of_ble_eq_true rfl) rfl dX5_allLeft_18 (fun e16 => ?_)
    refine f_aload_n hC dX5_allLeft_21 rfl 0 rfl ?_
    refine f_iload_n hC dX5_allLeft_22 rfl 2 rfl ?_
    refine f_iconst (v := 1) hC dX5_allLeft_23 (by decide) ?_
    obtain ⟨r17, h18, h2⟩ := fb_open h2
    refine f_callV hC [.int s1.2, .int 1] (c_X5_leftOf l D cy a0 s1.2 1 w r17 h18) q_1537 q_136 q_1534 q_1536 q_104 h9_X5_leftOf rfl (fSm.k (fSm.rf w) g10) ⟨Nat.le_of_ble_eq_true rfl, Nat.le_of_ble_eq_true rfl⟩ ⟨Nat.le_of_ble_eq_true rfl, Nat.le_of_ble_eq_true rfl⟩ (Nat.le_of_ble_eq_true rfl) rfl dX5_allLeft_24 (fun e19 => ?_)
    refine f_iadd hC dX5_allLeft_27 ?_
    refine f_iadd hC dX5_allLeft_28 ?_
    refine f_istore_n (L' := [(1, .int (s1.1 + (r14 + r17))), (0, .ref a0), (2, .int s1.2)]) hC dX5_allLeft_29 rfl (by decide) rfl ?_
    refine f_iinc (L' := [(2, .int (s1.2 + 1)), (1, .int (s1.1 + (r14 + r17))), (0, .ref a0)]) hC dX5_allLeft_30 2 rfl rfl (by decide) rfl ?_
    refine f_goto hC 4 dX5_allLeft_33 (by decide) ?_
    obtain rfl := Option.some.inj h2
    refine f_sub (L' := [(0, .ref a0), (1, .int (s1.1 + (r14 + r17))), (2, .int (s1.2 + 1))]) [2, 1, 0] rfl ?_
    exact go3 _ rfl
theorem dX5_account_0 : decode cX5_account 0 = .ok (.aload_n 0, 1) := by decide +kernel
theorem dX5_account_1 : decode cX5_account 1 = .ok (.iconst 0, 1) := by decide +kernel
theorem dX5_account_2 : decode cX5_account 2 = .ok (.putfield 41, 3) := by decide +kernel
theorem dX5_account_5 : decode cX5_account 5 = .ok (.iload_n 1, 1) := by decide +kernel
theorem dX5_account_6 : decode cX5_account 6 = .ok (.tableswitch 155 0 13 #[70, 77, 85, 92, 97, 102, 107, 112, 117, 124, 131, 138, 145, 150], 70) := by decide +kernel
theorem dX5_account_76 : decode cX5_account 76 = .ok (.aload_n 0, 1) := by decide +kernel
theorem dX5_account_77 : decode cX5_account 77 = .ok (.getfield 7, 3) := by decide +kernel
theorem dX5_account_80 : decode cX5_account 80 = .ok (.iconst 0, 1) := by decide +kernel
theorem dX5_account_81 : decode cX5_account 81 = .ok (.iaload, 1) := by decide +kernel
theorem dX5_account_82 : decode cX5_account 82 = .ok (.ireturn, 1) := by decide +kernel
theorem dX5_account_83 : decode cX5_account 83 = .ok (.aload_n 0, 1) := by decide +kernel
theorem dX5_account_84 : decode cX5_account 84 = .ok (.getfield 7, 3) := by decide +kernel
theorem dX5_account_87 : decode cX5_account 87 = .ok (.bipush 10, 2) := by decide +kernel
theorem dX5_account_89 : decode cX5_account 89 = .ok (.iaload, 1) := by decide +kernel
theorem dX5_account_90 : decode cX5_account 90 = .ok (.ireturn, 1) := by decide +kernel
theorem dX5_account_91 : decode cX5_account 91 = .ok (.aload_n 0, 1) := by decide +kernel
theorem dX5_account_92 : decode cX5_account 92 = .ok (.getfield 7, 3) := by decide +kernel
theorem dX5_account_95 : decode cX5_account 95 = .ok (.iconst 1, 1) := by decide +kernel
theorem dX5_account_96 : decode cX5_account 96 = .ok (.iaload, 1) := by decide +kernel
theorem dX5_account_97 : decode cX5_account 97 = .ok (.ireturn, 1) := by decide +kernel
theorem dX5_account_98 : decode cX5_account 98 = .ok (.aload_n 0, 1) := by decide +kernel
theorem dX5_account_99 : decode cX5_account 99 = .ok (.invokevirtual 141, 3) := by decide +kernel
theorem dX5_account_102 : decode cX5_account 102 = .ok (.ireturn, 1) := by decide +kernel
theorem dX5_account_103 : decode cX5_account 103 = .ok (.aload_n 0, 1) := by decide +kernel
theorem dX5_account_104 : decode cX5_account 104 = .ok (.invokevirtual 151, 3) := by decide +kernel
theorem dX5_account_107 : decode cX5_account 107 = .ok (.ireturn, 1) := by decide +kernel
theorem dX5_account_108 : decode cX5_account 108 = .ok (.aload_n 0, 1) := by decide +kernel
theorem dX5_account_109 : decode cX5_account 109 = .ok (.invokevirtual 154, 3) := by decide +kernel
theorem dX5_account_112 : decode cX5_account 112 = .ok (.ireturn, 1) := by decide +kernel
theorem dX5_account_113 : decode cX5_account 113 = .ok (.aload_n 0, 1) := by decide +kernel
theorem dX5_account_114 : decode cX5_account 114 = .ok (.invokevirtual 242, 3) := by decide +kernel
theorem dX5_account_117 : decode cX5_account 117 = .ok (.ireturn, 1) := by decide +kernel
theorem dX5_account_118 : decode cX5_account 118 = .ok (.aload_n 0, 1) := by decide +kernel
theorem dX5_account_119 : decode cX5_account 119 = .ok (.invokevirtual 245, 3) := by decide +kernel
theorem dX5_account_122 : decode cX5_account 122 = .ok (.ireturn, 1) := by decide +kernel
theorem dX5_account_123 : decode cX5_account 123 = .ok (.aload_n 0, 1) := by decide +kernel
theorem dX5_account_124 : decode cX5_account 124 = .ok (.getfield 7, 3) := by decide +kernel
theorem dX5_account_127 : decode cX5_account 127 = .ok (.iconst 2, 1) := by decide +kernel
theorem dX5_account_128 : decode cX5_account 128 = .ok (.iaload, 1) := by decide +kernel
theorem dX5_account_129 : decode cX5_account 129 = .ok (.ireturn, 1) := by decide +kernel
theorem dX5_account_130 : decode cX5_account 130 = .ok (.aload_n 0, 1) := by decide +kernel
theorem dX5_account_131 : decode cX5_account 131 = .ok (.getfield 7, 3) := by decide +kernel
theorem dX5_account_134 : decode cX5_account 134 = .ok (.iconst 3, 1) := by decide +kernel
theorem dX5_account_135 : decode cX5_account 135 = .ok (.iaload, 1) := by decide +kernel
theorem dX5_account_136 : decode cX5_account 136 = .ok (.ireturn, 1) := by decide +kernel
theorem dX5_account_137 : decode cX5_account 137 = .ok (.aload_n 0, 1) := by decide +kernel
theorem dX5_account_138 : decode cX5_account 138 = .ok (.getfield 7, 3) := by decide +kernel
theorem dX5_account_141 : decode cX5_account 141 = .ok (.iconst 4, 1) := by decide +kernel
theorem dX5_account_142 : decode cX5_account 142 = .ok (.iaload, 1) := by decide +kernel
theorem dX5_account_143 : decode cX5_account 143 = .ok (.ireturn, 1) := by decide +kernel
theorem dX5_account_144 : decode cX5_account 144 = .ok (.aload_n 0, 1) := by decide +kernel
theorem dX5_account_145 : decode cX5_account 145 = .ok (.getfield 7, 3) := by decide +kernel
theorem dX5_account_148 : decode cX5_account 148 = .ok (.iconst 5, 1) := by decide +kernel
theorem dX5_account_149 : decode cX5_account 149 = .ok (.iaload, 1) := by decide +kernel
theorem dX5_account_150 : decode cX5_account 150 = .ok (.ireturn, 1) := by decide +kernel
theorem dX5_account_151 : decode cX5_account 151 = .ok (.aload_n 0, 1) := by decide +kernel
theorem dX5_account_152 : decode cX5_account 152 = .ok (.getfield 248, 3) := by decide +kernel
theorem dX5_account_155 : decode cX5_account 155 = .ok (.ireturn, 1) := by decide +kernel
theorem dX5_account_156 : decode cX5_account 156 = .ok (.aload_n 0, 1) := by decide +kernel
theorem dX5_account_157 : decode cX5_account 157 = .ok (.getfield 44, 3) := by decide +kernel
theorem dX5_account_160 : decode cX5_account 160 = .ok (.ireturn, 1) := by decide +kernel
theorem dX5_account_161 : decode cX5_account 161 = .ok (.aload_n 0, 1) := by decide +kernel
theorem dX5_account_162 : decode cX5_account 162 = .ok (.iconst 1, 1) := by decide +kernel
theorem dX5_account_163 : decode cX5_account 163 = .ok (.invokevirtual 57, 3) := by decide +kernel
theorem dX5_account_166 : decode cX5_account 166 = .ok (.ireturn, 1) := by decide +kernel
theorem h9_X5_account : yX5_account.cls ≠ "java/lang/invoke/MethodHandle" ∧ yX5_account.cls ≠ "java/lang/invoke/VarHandle" ∧ (parseMethodDescriptor yX5_account.desc).map (fun d => d.parameters.length) = some 1 := by decide +kernel
noncomputable def F_X5_account (a0 : Nat) (x1 : Int32) (w : FW) : Option (Int32 × FW) :=
  fg (w.1 a0 = 6) inferInstance ((if x1 = 0 then fg (w.1 (gR w 501 a0 0) = 11) inferInstance (fg (¬ (0 < 0 ∨ w.2.1 (gR w 501 a0 0) ≤ Int32.toNatClampNeg 0)) inferInstance (some ((gI (sI w 500 a0 0 0) 601 (gR (sI w 500 a0 0 0) 501 a0 0) (Int32.toNatClampNeg 0)), (sI w 500 a0 0 0)))) else (if x1 = 1 then fg (w.1 (gR w 501 a0 0) = 11) inferInstance (fg (¬ (10 < 0 ∨ w.2.1 (gR w 501 a0 0) ≤ Int32.toNatClampNeg 10)) inferInstance (some ((gI (sI w 500 a0 0 0) 601 (gR (sI w 500 a0 0 0) 501 a0 0) (Int32.toNatClampNeg 10)), (sI w 500 a0 0 0)))) else (if x1 = 2 then fg (w.1 (gR w 501 a0 0) = 11) inferInstance (fg (¬ (1 < 0 ∨ w.2.1 (gR w 501 a0 0) ≤ Int32.toNatClampNeg 1)) inferInstance (some ((gI (sI w 500 a0 0 0) 601 (gR (sI w 500 a0 0 0) 501 a0 0) (Int32.toNatClampNeg 1)), (sI w 500 a0 0 0)))) else (if x1 = 3 then (F_X5_openMany a0 (sI w 500 a0 0 0)).bind (fun r12 => some (r12, (sI w 500 a0 0 0))) else (if x1 = 4 then (F_X5_tornMany a0 (sI w 500 a0 0 0)).bind (fun r16 => some (r16, (sI w 500 a0 0 0))) else (if x1 = 5 then (F_X5_lostMany a0 (sI w 500 a0 0 0)).bind (fun r20 => some (r20, (sI w 500 a0 0 0))) else (if x1 = 6 then (F_X5_punchedMany a0 (sI w 500 a0 0 0)).bind (fun r24 => some (r24, (sI w 500 a0 0 0))) else (if x1 = 7 then (F_X5_allLeft a0 (sI w 500 a0 0 0)).bind (fun r28 => some (r28, (sI w 500 a0 0 0))) else (if x1 = 8 then fg (w.1 (gR w 501 a0 0) = 11) inferInstance (fg (¬ (2 < 0 ∨ w.2.1 (gR w 501 a0 0) ≤ Int32.toNatClampNeg 2)) inferInstance (some ((gI (sI w 500 a0 0 0) 601 (gR (sI w 500 a0 0 0) 501 a0 0) (Int32.toNatClampNeg 2)), (sI w 500 a0 0 0)))) else (if x1 = 9 then fg (w.1 (gR w 501 a0 0) = 11) inferInstance (fg (¬ (3 < 0 ∨ w.2.1 (gR w 501 a0 0) ≤ Int32.toNatClampNeg 3)) inferInstance (some ((gI (sI w 500 a0 0 0) 601 (gR (sI w 500 a0 0 0) 501 a0 0) (Int32.toNatClampNeg 3)), (sI w 500 a0 0 0)))) else (if x1 = 10 then fg (w.1 (gR w 501 a0 0) = 11) inferInstance (fg (¬ (4 < 0 ∨ w.2.1 (gR w 501 a0 0) ≤ Int32.toNatClampNeg 4)) inferInstance (some ((gI (sI w 500 a0 0 0) 601 (gR (sI w 500 a0 0 0) 501 a0 0) (Int32.toNatClampNeg 4)), (sI w 500 a0 0 0)))) else (if x1 = 11 then fg (w.1 (gR w 501 a0 0) = 11) inferInstance (fg (¬ (5 < 0 ∨ w.2.1 (gR w 501 a0 0) ≤ Int32.toNatClampNeg 5)) inferInstance (some ((gI (sI w 500 a0 0 0) 601 (gR (sI w 500 a0 0 0) 501 a0 0) (Int32.toNatClampNeg 5)), (sI w 500 a0 0 0)))) else (if x1 = 12 then some ((gI (sI w 500 a0 0 0) 511 a0 0), (sI w 500 a0 0 0)) else (if x1 = 13 then some ((gI (sI w 500 a0 0 0) 505 a0 0), (sI w 500 a0 0 0)) else (F_X5_fails a0 1 (sI w 500 a0 0 0)).bind (fun r45 => some (r45.1, r45.2)))))))))))))))))
set_option maxHeartbeats 4000000 in
set_option maxRecDepth 100000 in
theorem c_X5_account (l : Launch) (D : va_G) (cy : Nat → ClassId) (a0 : Nat) (x1 : Int32) (w : FW) (r : Int32 × FW) (hF : F_X5_account a0 x1 w = some r) : fSpec l D cy yX5_account cX5_account 2 (some .int) { frames := 7, cells := 0, slots := 0, locals := 162 } [.ref a0, .int x1] w r.2 (some (.int r.1)) := by
  refine f_begin (by decide +kernel) (Nat.le_of_ble_eq_true rfl) (fun X hC hEn => ?_)
  unfold F_X5_account at hF
  show fAt X 0 0 2 w [(0, .ref a0), (1, .int x1)] [] 0
  refine f_aload_n hC dX5_account_0 rfl 0 rfl ?_
  refine f_iconst (v := 0) hC dX5_account_1 (by decide) ?_
  obtain ⟨g1, hF⟩ := fg_open hF
  refine f_putI hC 5 0 500 rfl (by decide) iX5 tyX5 tyX5_ok nmX5 q_1254 rfl rfl rfl rfl rfl (fSm.k (fSm.rf w) g1) dX5_account_2 ?_
  refine f_iload_n hC dX5_account_5 rfl 1 rfl ?_
  by_cases c2 : x1 = 0
  · replace hF := fi_pos hF c2
    refine f_tabIn hC 76 dX5_account_6 (by rw [c2] <;> decide) (by rw [c2] <;> decide) (by rw [c2] <;> rfl) (by decide) ?_
    refine f_aload_n hC dX5_account_76 rfl 0 rfl ?_
    refine f_getR hC 5 1 501 rfl (by decide) iX5 q_1255 rfl rfl (fSm.k (fSm.rf w) g1) dX5_account_77 ?_
    refine f_iconst (v := 0) hC dX5_account_80 (by decide) ?_
    obtain ⟨g3, hF⟩ := fg_open hF
    obtain ⟨g4, hF⟩ := fg_open hF
    refine f_iald hC (fSm.k (fSm.rf w) g3) (fSm.v (fSm.rf w) g4) dX5_account_81 ?_
    obtain rfl := Option.some.inj hF
    exact f_iret hC hEn (fSm.rf w) dX5_account_82
  · replace hF := fi_neg hF c2
    by_cases c5 : x1 = 1
    · replace hF := fi_pos hF c5
      refine f_tabIn hC 83 dX5_account_6 (by rw [c5] <;> decide) (by rw [c5] <;> decide) (by rw [c5] <;> rfl) (by decide) ?_
      refine f_aload_n hC dX5_account_83 rfl 0 rfl ?_
      refine f_getR hC 5 1 501 rfl (by decide) iX5 q_1255 rfl rfl (fSm.k (fSm.rf w) g1) dX5_account_84 ?_
      refine f_bipush (v := 10) hC dX5_account_87 (by decide) ?_
      obtain ⟨g6, hF⟩ := fg_open hF
      obtain ⟨g7, hF⟩ := fg_open hF
      refine f_iald hC (fSm.k (fSm.rf w) g6) (fSm.v (fSm.rf w) g7) dX5_account_89 ?_
      obtain rfl := Option.some.inj hF
      exact f_iret hC hEn (fSm.rf w) dX5_account_90
    · replace hF := fi_neg hF c5
      by_cases c8 : x1 = 2
      · replace hF := fi_pos hF c8
        refine f_tabIn hC 91 dX5_account_6 (by rw [c8] <;> decide) (by rw [c8] <;> decide) (by rw [c8] <;> rfl) (by decide) ?_
        refine f_aload_n hC dX5_account_91 rfl 0 rfl ?_
        refine f_getR hC 5 1 501 rfl (by decide) iX5 q_1255 rfl rfl (fSm.k (fSm.rf w) g1) dX5_account_92 ?_
        refine f_iconst (v := 1) hC dX5_account_95 (by decide) ?_
        obtain ⟨g9, hF⟩ := fg_open hF
        obtain ⟨g10, hF⟩ := fg_open hF
        refine f_iald hC (fSm.k (fSm.rf w) g9) (fSm.v (fSm.rf w) g10) dX5_account_96 ?_
        obtain rfl := Option.some.inj hF
        exact f_iret hC hEn (fSm.rf w) dX5_account_97
      · replace hF := fi_neg hF c8
        by_cases c11 : x1 = 3
        · replace hF := fi_pos hF c11
          refine f_tabIn hC 98 dX5_account_6 (by rw [c11] <;> decide) (by rw [c11] <;> decide) (by rw [c11] <;> rfl) (by decide) ?_
          refine f_aload_n hC dX5_account_98 rfl 0 rfl ?_
          obtain ⟨r12, h13, hF⟩ := fb_open hF
          refine f_callV hC [] (c_X5_openMany l D cy a0 (sI w 500 a0 0 0) r12 h13) q_1439 q_136 q_1436 q_1438 q_89 h9_X5_openMany rfl (fSm.k (fSm.rf w) g1) ⟨Nat.le_of_ble_eq_true rfl, Nat.le_of_ble_eq_true rfl⟩ ⟨Nat.le_of_ble_eq_true rfl, Nat.le_of_ble_eq_true rfl⟩ (Nat.le_of_ble_eq_true rfl) rfl dX5_account_99 (fun e14 => ?_)
          obtain rfl := Option.some.inj hF
          exact f_iret hC hEn (fSm.rf w) dX5_account_102
        · replace hF := fi_neg hF c11
          by_cases c15 : x1 = 4
          · replace hF := fi_pos hF c15
            refine f_tabIn hC 103 dX5_account_6 (by rw [c15] <;> decide) (by rw [c15] <;> decide) (by rw [c15] <;> rfl) (by decide) ?_
            refine f_aload_n hC dX5_account_103 rfl 0 rfl ?_
            obtain ⟨r16, h17, hF⟩ := fb_open hF
            refine f_callV hC [] (c_X5_tornMany l D cy a0 (sI w 500 a0 0 0) r16 h17) q_1513 q_136 q_1510 q_1512 q_101 h9_X5_tornMany rfl (fSm.k (fSm.rf w) g1) ⟨Nat.le_of_ble_eq_true rfl, Nat.le_of_ble_eq_true rfl⟩ ⟨Nat.le_of_ble_eq_true rfl, Nat.le_of_ble_eq_true rfl⟩ (Nat.le_of_ble_eq_true rfl) rfl dX5_account_104 (fun e18 => ?_)
            obtain rfl := Option.some.inj hF
            exact f_iret hC hEn (fSm.rf w) dX5_account_107
          · replace hF := fi_neg hF c15
            by_cases c19 : x1 = 5
            · replace hF := fi_pos hF c19
              refine f_tabIn hC 108 dX5_account_6 (by rw [c19] <;> decide) (by rw [c19] <;> decide) (by rw [c19] <;> rfl) (by decide) ?_
              refine f_aload_n hC dX5_account_108 rfl 0 rfl ?_
              obtain ⟨r20, h21, hF⟩ := fb_open hF
              refine f_callV hC [] (c_X5_lostMany l D cy a0 (sI w 500 a0 0 0) r20 h21) q_1525 q_136 q_1522 q_1524 q_103 h9_X5_lostMany rfl (fSm.k (fSm.rf w) g1) ⟨Nat.le_of_ble_eq_true rfl, Nat.le_of_ble_eq_true rfl⟩ ⟨Nat.le_of_ble_eq_true rfl, Nat.le_of_ble_eq_true rfl⟩ (Nat.le_of_ble_eq_true rfl) rfl dX5_account_109 (fun e22 => ?_)
              obtain rfl := Option.some.inj hF
              exact f_iret hC hEn (fSm.rf w) dX5_account_112
            · replace hF := fi_neg hF c19
              by_cases c23 : x1 = 6
              · replace hF := fi_pos hF c23
                refine f_tabIn hC 113 dX5_account_6 (by rw [c23] <;> decide) (by rw [c23] <;> decide) (by rw [c23] <;> rfl) (by decide) ?_
                refine f_aload_n hC dX5_account_113 rfl 0 rfl ?_
                obtain ⟨r24, h25, hF⟩ := fb_open hF
                refine f_callV hC [] (c_X5_punchedMany l D cy a0 (sI w 500 a0 0 0) r24 h25) q_1680 q_136 q_1677 q_1679 q_120 h9_X5_punchedMany rfl (fSm.k (fSm.rf w) g1) ⟨Nat.le_of_ble_eq_true rfl, Nat.le_of_ble_eq_true rfl⟩ ⟨Nat.le_of_ble_eq_true rfl, Nat.le_of_ble_eq_true rfl⟩ (Nat.le_of_ble_eq_true rfl) rfl dX5_account_114 (fun e26 => ?_)
                obtain rfl := Option.some.inj hF
                exact f_iret hC hEn (fSm.rf w) dX5_account_117
              · replace hF := fi_neg hF c23
                by_cases c27 : x1 = 7
                · replace hF := fi_pos hF c27
                  refine f_tabIn hC 118 dX5_account_6 (by rw [c27] <;> decide) (by rw [c27] <;> decide) (by rw [c27] <;> rfl) (by decide) ?_
                  refine f_aload_n hC dX5_account_118 rfl 0 rfl ?_
                  obtain ⟨r28, h29, hF⟩ := fb_open hF
                  refine f_callV hC [] (c_X5_allLeft l D cy a0 (sI w 500 a0 0 0) r28 h29) q_1684 q_136 q_1681 q_1683 q_121 h9_X5_allLeft rfl (fSm.k (fSm.rf w) g1) ⟨Nat.le_of_ble_eq_true rfl, Nat.le_of_ble_eq_true rfl⟩ ⟨Nat.le_of_ble_eq_true rfl, Nat.le_of_ble_eq_true rfl⟩ (Nat.le_of_ble_eq_true rfl) rfl dX5_account_119 (fun e30 => ?_)
                  obtain rfl := Option.some.inj hF
                  exact f_iret hC hEn (fSm.rf w) dX5_account_122
                · replace hF := fi_neg hF c27
                  by_cases c31 : x1 = 8
                  · replace hF := fi_pos hF c31
                    refine f_tabIn hC 123 dX5_account_6 (by rw [c31] <;> decide) (by rw [c31] <;> decide) (by rw [c31] <;> rfl) (by decide) ?_
                    refine f_aload_n hC dX5_account_123 rfl 0 rfl ?_
                    refine f_getR hC 5 1 501 rfl (by decide) iX5 q_1255 rfl rfl (fSm.k (fSm.rf w) g1) dX5_account_124 ?_
                    refine f_iconst (v := 2) hC dX5_account_127 (by decide) ?_
                    obtain ⟨g32, hF⟩ := fg_open hF
                    obtain ⟨g33, hF⟩ := fg_open hF
                    refine f_iald hC (fSm.k (fSm.rf w) g32) (fSm.v (fSm.rf w) g33) dX5_account_128 ?_
                    obtain rfl := Option.some.inj hF
                    exact f_iret hC hEn (fSm.rf w) dX5_account_129
                  · replace hF := fi_neg hF c31
                    by_cases c34 : x1 = 9
                    · replace hF := fi_pos hF c34
                      refine f_tabIn hC 130 dX5_account_6 (by rw [c34] <;> decide) (by rw [c34] <;> decide) (by rw [c34] <;> rfl) (by decide) ?_
                      refine f_aload_n hC dX5_account_130 rfl 0 rfl ?_
                      refine f_getR hC 5 1 501 rfl (by decide) iX5 q_1255 rfl rfl (fSm.k (fSm.rf w) g1) dX5_account_131 ?_
                      refine f_iconst (v := 3) hC dX5_account_134 (by decide) ?_
                      obtain ⟨g35, hF⟩ := fg_open hF
                      obtain ⟨g36, hF⟩ := fg_open hF
                      refine f_iald hC (fSm.k (fSm.rf w) g35) (fSm.v (fSm.rf w) g36) dX5_account_135 ?_
                      obtain rfl := Option.some.inj hF
                      exact f_iret hC hEn (fSm.rf w) dX5_account_136
                    · replace hF := fi_neg hF c34
                      by_cases c37 : x1 = 10
                      · replace hF := fi_pos hF c37
                        refine f_tabIn hC 137 dX5_account_6 (by rw [c37] <;> decide) (by rw [c37] <;> decide) (by rw [c37] <;> rfl) (by decide) ?_
                        refine f_aload_n hC dX5_account_137 rfl 0 rfl ?_
                        refine f_getR hC 5 1 501 rfl (by decide) iX5 q_1255 rfl rfl (fSm.k (fSm.rf w) g1) dX5_account_138 ?_
                        refine f_iconst (v := 4) hC dX5_account_141 (by decide) ?_
                        obtain ⟨g38, hF⟩ := fg_open hF
                        obtain ⟨g39, hF⟩ := fg_open hF
                        refine f_iald hC (fSm.k (fSm.rf w) g38) (fSm.v (fSm.rf w) g39) dX5_account_142 ?_
                        obtain rfl := Option.some.inj hF
                        exact f_iret hC hEn (fSm.rf w) dX5_account_143
                      · replace hF := fi_neg hF c37
                        by_cases c40 : x1 = 11
                        · replace hF := fi_pos hF c40
                          refine f_tabIn hC 144 dX5_account_6 (by rw [c40] <;> decide) (by rw [c40] <;> decide) (by rw [c40] <;> rfl) (by decide) ?_
                          refine f_aload_n hC dX5_account_144 rfl 0 rfl ?_
                          refine f_getR hC 5 1 501 rfl (by decide) iX5 q_1255 rfl rfl (fSm.k (fSm.rf w) g1) dX5_account_145 ?_
                          refine f_iconst (v := 5) hC dX5_account_148 (by decide) ?_
                          obtain ⟨g41, hF⟩ := fg_open hF
                          obtain ⟨g42, hF⟩ := fg_open hF
                          refine f_iald hC (fSm.k (fSm.rf w) g41) (fSm.v (fSm.rf w) g42) dX5_account_149 ?_
                          obtain rfl := Option.some.inj hF
                          exact f_iret hC hEn (fSm.rf w) dX5_account_150
                        · replace hF := fi_neg hF c40
                          by_cases c43 : x1 = 12
                          · replace hF := fi_pos hF c43
                            refine f_tabIn hC 151 dX5_account_6 (by rw [c43] <;> decide) (by rw [c43] <;> decide) (by rw [c43] <;> rfl) (by decide) ?_
                            refine f_aload_n hC dX5_account_151 rfl 0 rfl ?_
                            refine f_getI hC 5 11 511 rfl (by decide) iX5 q_1265 rfl rfl (fSm.k (fSm.rf w) g1) dX5_account_152 ?_
                            obtain rfl := Option.some.inj hF
                            exact f_iret hC hEn (fSm.rf w) dX5_account_155
                          · replace hF := fi_neg hF c43
                            by_cases c44 : x1 = 13
                            · replace hF := fi_pos hF c44
                              refine f_tabIn hC 156 dX5_account_6 (by rw [c44] <;> decide) (by rw [c44] <;> decide) (by rw [c44] <;> rfl) (by decide) ?_
                              refine f_aload_n hC dX5_account_156 rfl 0 rfl ?_
                              refine f_getI hC 5 5 505 rfl (by decide) iX5 q_1259 rfl rfl (fSm.k (fSm.rf w) g1) dX5_account_157 ?_
                              obtain rfl := Option.some.inj hF
                              exact f_iret hC hEn (fSm.rf w) dX5_account_160
                            · replace hF := fi_neg hF c44
                              refine f_tabOut hC 161 dX5_account_6 (ftab 0 13 (by decide) (by decide) (fun j h1 h2 => ?_)) (by decide) ?_
                              · rcases (show j = 0 ∨ j = 1 ∨ j = 2 ∨ j = 3 ∨ j = 4 ∨ j = 5 ∨ j = 6 ∨ j = 7 ∨ j = 8 ∨ j = 9 ∨ j = 10 ∨ j = 11 ∨ j = 12 ∨ j = 13 by omega) with rfl | rfl | rfl | rfl | rfl | rfl | rfl | rfl | rfl | rfl | rfl | rfl | rfl | rfl
                                · exact c2
                                · exact c5
                                · exact c8
                                · exact c11
                                · exact c15
                                · exact c19
                                · exact c23
                                · exact c27
                                · exact c31
                                · exact c34
                                · exact c37
                                · exact c40
                                · exact c43
                                · exact c44
                              refine f_aload_n hC dX5_account_161 rfl 0 rfl ?_
                              refine f_iconst (v := 1) hC dX5_account_162 (by decide) ?_
                              obtain ⟨r45, h46, hF⟩ := fb_open hF
                              refine f_callV hC [.int 1] (c_X5_fails l D cy a0 1 (sI w 500 a0 0 0) r45 h46) q_1375 q_136 q_1372 q_1374 q_78 h9_X5_fails rfl (fSm.k (fSm.rf w) g1) ⟨Nat.le_of_ble_eq_true rfl, Nat.le_of_ble_eq_true rfl⟩ ⟨Nat.le_of_ble_eq_true rfl, Nat.le_of_ble_eq_true rfl⟩ (Nat.le_of_ble_eq_true rfl) rfl dX5_account_163 (fun e47 => ?_)
                              obtain rfl := Option.some.inj hF
                              exact f_iret hC hEn (fSm.tr e47 (fSm.rf w)) dX5_account_166
theorem dX5_append_0 : decode cX5_append 0 = .ok (.iconst 0, 1) := by decide +kernel
theorem dX5_append_1 : decode cX5_append 1 = .ok (.istore_n 2, 1) := by decide +kernel
theorem dX5_append_2 : decode cX5_append 2 = .ok (.iconst 1, 1) := by decide +kernel
theorem dX5_append_3 : decode cX5_append 3 = .ok (.istore_n 3, 1) := by decide +kernel
theorem dX5_append_4 : decode cX5_append 4 = .ok (.bipush 24, 2) := by decide +kernel
theorem dX5_append_6 : decode cX5_append 6 = .ok (.istore 4, 2) := by decide +kernel
theorem dX5_append_8 : decode cX5_append 8 = .ok (.iload 4, 2) := by decide +kernel
theorem dX5_append_10 : decode cX5_append 10 = .ok (.ifCond .lt 59, 3) := by decide +kernel
theorem dX5_append_13 : decode cX5_append 13 = .ok (.iload_n 1, 1) := by decide +kernel
theorem dX5_append_14 : decode cX5_append 14 = .ok (.iload 4, 2) := by decide +kernel
theorem dX5_append_16 : decode cX5_append 16 = .ok (.iushr, 1) := by decide +kernel
theorem dX5_append_17 : decode cX5_append 17 = .ok (.sipush 255, 3) := by decide +kernel
theorem dX5_append_20 : decode cX5_append 20 = .ok (.iand, 1) := by decide +kernel
theorem dX5_append_21 : decode cX5_append 21 = .ok (.istore 5, 2) := by decide +kernel
theorem dX5_append_23 : decode cX5_append 23 = .ok (.iload_n 3, 1) := by decide +kernel
theorem dX5_append_24 : decode cX5_append 24 = .ok (.ifCond .eq 24, 3) := by decide +kernel
theorem dX5_append_27 : decode cX5_append 27 = .ok (.iload 5, 2) := by decide +kernel
theorem dX5_append_29 : decode cX5_append 29 = .ok (.ifCond .eq 15, 3) := by decide +kernel
theorem dX5_append_32 : decode cX5_append 32 = .ok (.iload 5, 2) := by decide +kernel
theorem dX5_append_34 : decode cX5_append 34 = .ok (.bipush 32, 2) := by decide +kernel
theorem dX5_append_36 : decode cX5_append 36 = .ok (.bipush 126, 2) := by decide +kernel
theorem dX5_append_38 : decode cX5_append 38 = .ok (.invokestatic 66, 3) := by decide +kernel
theorem dX5_append_41 : decode cX5_append 41 = .ok (.ifCond .eq 7, 3) := by decide +kernel
theorem dX5_append_44 : decode cX5_append 44 = .ok (.iconst 1, 1) := by decide +kernel
theorem dX5_append_45 : decode cX5_append 45 = .ok (.goto 4, 3) := by decide +kernel
theorem dX5_append_48 : decode cX5_append 48 = .ok (.iconst 0, 1) := by decide +kernel
theorem dX5_append_49 : decode cX5_append 49 = .ok (.istore_n 3, 1) := by decide +kernel
theorem dX5_append_50 : decode cX5_append 50 = .ok (.iload_n 2, 1) := by decide +kernel
theorem dX5_append_51 : decode cX5_append 51 = .ok (.iload 5, 2) := by decide +kernel
theorem dX5_append_53 : decode cX5_append 53 = .ok (.ifCond .ne 7, 3) := by decide +kernel
theorem dX5_append_56 : decode cX5_append 56 = .ok (.iconst 0, 1) := by decide +kernel
theorem dX5_append_57 : decode cX5_append 57 = .ok (.goto 4, 3) := by decide +kernel
theorem dX5_append_60 : decode cX5_append 60 = .ok (.iconst 1, 1) := by decide +kernel
theorem dX5_append_61 : decode cX5_append 61 = .ok (.iadd, 1) := by decide +kernel
theorem dX5_append_62 : decode cX5_append 62 = .ok (.istore_n 2, 1) := by decide +kernel
theorem dX5_append_63 : decode cX5_append 63 = .ok (.iinc 4 (-8), 3) := by decide +kernel
theorem dX5_append_66 : decode cX5_append 66 = .ok (.goto (-58), 3) := by decide +kernel
theorem dX5_append_69 : decode cX5_append 69 = .ok (.aload_n 0, 1) := by decide +kernel
theorem dX5_append_70 : decode cX5_append 70 = .ok (.iload_n 3, 1) := by decide +kernel
theorem dX5_append_71 : decode cX5_append 71 = .ok (.ifCond .ne 7, 3) := by decide +kernel
theorem dX5_append_74 : decode cX5_append 74 = .ok (.iconst 1, 1) := by decide +kernel
theorem dX5_append_75 : decode cX5_append 75 = .ok (.goto 19, 3) := by decide +kernel
theorem dX5_append_78 : decode cX5_append 78 = .ok (.aload_n 0, 1) := by decide +kernel
theorem dX5_append_79 : decode cX5_append 79 = .ok (.getfield 248, 3) := by decide +kernel
theorem dX5_append_82 : decode cX5_append 82 = .ok (.iload_n 2, 1) := by decide +kernel
theorem dX5_append_83 : decode cX5_append 83 = .ok (.iadd, 1) := by decide +kernel
theorem dX5_append_84 : decode cX5_append 84 = .ok (.bipush 60, 2) := by decide +kernel
theorem dX5_append_86 : decode cX5_append 86 = .ok (.if_icmp .le 7, 3) := by decide +kernel
theorem dX5_append_89 : decode cX5_append 89 = .ok (.iconst 2, 1) := by decide +kernel
theorem dX5_append_90 : decode cX5_append 90 = .ok (.goto 4, 3) := by decide +kernel
theorem dX5_append_93 : decode cX5_append 93 = .ok (.iconst 0, 1) := by decide +kernel
theorem dX5_append_94 : decode cX5_append 94 = .ok (.putfield 41, 3) := by decide +kernel
theorem dX5_append_97 : decode cX5_append 97 = .ok (.aload_n 0, 1) := by decide +kernel
theorem dX5_append_98 : decode cX5_append 98 = .ok (.getfield 41, 3) := by decide +kernel
theorem dX5_append_101 : decode cX5_append 101 = .ok (.ifCond .le 5, 3) := by decide +kernel
theorem dX5_append_104 : decode cX5_append 104 = .ok (.iconst 0, 1) := by decide +kernel
theorem dX5_append_105 : decode cX5_append 105 = .ok (.ireturn, 1) := by decide +kernel
theorem dX5_append_106 : decode cX5_append 106 = .ok (.bipush 24, 2) := by decide +kernel
theorem dX5_append_108 : decode cX5_append 108 = .ok (.istore 4, 2) := by decide +kernel
theorem dX5_append_110 : decode cX5_append 110 = .ok (.iload 4, 2) := by decide +kernel
theorem dX5_append_112 : decode cX5_append 112 = .ok (.ifCond .lt 48, 3) := by decide +kernel
theorem dX5_append_115 : decode cX5_append 115 = .ok (.iload_n 1, 1) := by decide +kernel
theorem dX5_append_116 : decode cX5_append 116 = .ok (.iload 4, 2) := by decide +kernel
theorem dX5_append_118 : decode cX5_append 118 = .ok (.iushr, 1) := by decide +kernel
theorem dX5_append_119 : decode cX5_append 119 = .ok (.sipush 255, 3) := by decide +kernel
theorem dX5_append_122 : decode cX5_append 122 = .ok (.iand, 1) := by decide +kernel
theorem dX5_append_123 : decode cX5_append 123 = .ok (.istore 5, 2) := by decide +kernel
theorem dX5_append_125 : decode cX5_append 125 = .ok (.iload 5, 2) := by decide +kernel
theorem dX5_append_127 : decode cX5_append 127 = .ok (.ifCond .ne 6, 3) := by decide +kernel
theorem dX5_append_130 : decode cX5_append 130 = .ok (.goto 24, 3) := by decide +kernel
theorem dX5_append_133 : decode cX5_append 133 = .ok (.aload_n 0, 1) := by decide +kernel
theorem dX5_append_134 : decode cX5_append 134 = .ok (.getfield 22, 3) := by decide +kernel
theorem dX5_append_137 : decode cX5_append 137 = .ok (.aload_n 0, 1) := by decide +kernel
theorem dX5_append_138 : decode cX5_append 138 = .ok (.getfield 248, 3) := by decide +kernel
theorem dX5_append_141 : decode cX5_append 141 = .ok (.iload 5, 2) := by decide +kernel
theorem dX5_append_143 : decode cX5_append 143 = .ok (.iastore, 1) := by decide +kernel
theorem dX5_append_144 : decode cX5_append 144 = .ok (.aload_n 0, 1) := by decide +kernel
theorem dX5_append_145 : decode cX5_append 145 = .ok (.dup, 1) := by decide +kernel
theorem dX5_append_146 : decode cX5_append 146 = .ok (.getfield 248, 3) := by decide +kernel
theorem dX5_append_149 : decode cX5_append 149 = .ok (.iconst 1, 1) := by decide +kernel
theorem dX5_append_150 : decode cX5_append 150 = .ok (.iadd, 1) := by decide +kernel
theorem dX5_append_151 : decode cX5_append 151 = .ok (.putfield 248, 3) := by decide +kernel
theorem dX5_append_154 : decode cX5_append 154 = .ok (.iinc 4 (-8), 3) := by decide +kernel
theorem dX5_append_157 : decode cX5_append 157 = .ok (.goto (-47), 3) := by decide +kernel
theorem dX5_append_160 : decode cX5_append 160 = .ok (.aload_n 0, 1) := by decide +kernel
theorem dX5_append_161 : decode cX5_append 161 = .ok (.getfield 248, 3) := by decide +kernel
theorem dX5_append_164 : decode cX5_append 164 = .ok (.ireturn, 1) := by decide +kernel
theorem h9_X5_append : yX5_append.cls ≠ "java/lang/invoke/MethodHandle" ∧ yX5_append.cls ≠ "java/lang/invoke/VarHandle" ∧ (parseMethodDescriptor yX5_append.desc).map (fun d => d.parameters.length) = some 1 := by decide +kernel
noncomputable def F_X5_append (a0 : Nat) (x1 : Int32) (w : FW) : Option (Int32 × FW) :=
  (fLoop (σ := Int32 × Int32 × Int32) (ρ := Int32 × Int32) (fun s1 => (if s1.2.2 < 0 then some (.inr (s1.1, s1.2.1)) else ((if s1.2.1 = 0 then some 0 else (if ((fushr x1 s1.2.2) &&& 255) = 0 then some 1 else (F_X5_in ((fushr x1 s1.2.2) &&& 255) 32 126 w).bind (fun r18 => (if r18 = 0 then some 0 else some 1)))) : Option (Int32)).bind (fun x11 => (if ((fushr x1 s1.2.2) &&& 255) = 0 then some (.inl ((s1.1 + 0), x11, (s1.2.2 + (-8)))) else some (.inl ((s1.1 + 1), x11, (s1.2.2 + (-8)))))))) (0, 1, 24)).bind (fun x7 => ((if x7.2 = 0 then some 1 else fg (w.1 a0 = 6) inferInstance ((if ((gI w 511 a0 0) + x7.1) ≤ 60 then some 0 else some 2))) : Option (Int32)).bind (fun x22 => fg (w.1 a0 = 6) inferInstance ((if (gI (sI w 500 a0 0 x22) 500 a0 0) ≤ 0 then (fLoop (σ := Int32 × FW) (ρ := FW) (fun s28 => (if s28.1 < 0 then some (.inr s28.2) else (if ((fushr x1 s28.1) &&& 255) = 0 then some (.inl ((s28.1 + (-8)), s28.2)) else fg (w.1 (gR s28.2 507 a0 0) = 11) inferInstance (fg (¬ ((gI s28.2 511 a0 0) < 0 ∨ w.2.1 (gR s28.2 507 a0 0) ≤ Int32.toNatClampNeg (gI s28.2 511 a0 0))) inferInstance (some (.inl ((s28.1 + (-8)), (sI (sI s28.2 601 (gR s28.2 507 a0 0) (Int32.toNatClampNeg (gI s28.2 511 a0 0)) ((fushr x1 s28.1) &&& 255)) 511 a0 0 ((gI (sI s28.2 601 (gR s28.2 507 a0 0) (Int32.toNatClampNeg (gI s28.2 511 a0 0)) ((fushr x1 s28.1) &&& 255)) 511 a0 0) + 1))))))))) (24, (sI w 500 a0 0 x22))).bind (fun x34 => some ((gI x34 511 a0 0), x34)) else some (0, (sI w 500 a0 0 x22))))))
set_option maxHeartbeats 4000000 in
set_option maxRecDepth 100000 in
theorem c_X5_append (l : Launch) (D : va_G) (cy : Nat → ClassId) (a0 : Nat) (x1 : Int32) (w : FW) (r : Int32 × FW) (hF : F_X5_append a0 x1 w = some r) : fSpec l D cy yX5_append cX5_append 6 (some .int) { frames := 1, cells := 0, slots := 0, locals := 22 } [.ref a0, .int x1] w r.2 (some (.int r.1)) := by
  refine f_begin (by decide +kernel) (Nat.le_of_ble_eq_true rfl) (fun X hC hEn => ?_)
  unfold F_X5_append at hF
  show fAt X 0 0 6 w [(0, .ref a0), (1, .int x1)] [] 0
  refine f_iconst (v := 0) hC dX5_append_0 (by decide) ?_
  refine f_istore_n (L' := [(2, .int 0), (0, .ref a0), (1, .int x1)]) hC dX5_append_1 rfl (by decide) rfl ?_
  refine f_iconst (v := 1) hC dX5_append_2 (by decide) ?_
  refine f_istore_n (L' := [(3, .int 1), (2, .int 0), (0, .ref a0), (1, .int x1)]) hC dX5_append_3 rfl (by decide) rfl ?_
  refine f_bipush (v := 24) hC dX5_append_4 (by decide) ?_
  refine f_istore (L' := [(4, .int 24), (3, .int 1), (2, .int 0), (0, .ref a0), (1, .int x1)]) hC dX5_append_6 (by decide) rfl ?_
  obtain ⟨x7, h8, hF⟩ := fb_open hF
  have K9 : fAt X 0 0 6 w [(0, .ref a0), (1, .int x1), (2, .int x7.1), (3, .int x7.2)] [] 69 := by
    refine f_aload_n hC dX5_append_69 rfl 0 rfl ?_
    refine f_iload_n hC dX5_append_70 rfl 3 rfl ?_
    obtain ⟨x22, h23, hF⟩ := fb_open hF
    have K25 : fAt X 0 0 6 w [(0, .ref a0), (1, .int x1)] [.int x22, .ref a0] 94 := by
      obtain ⟨g26, hF⟩ := fg_open hF
      refine f_putI hC 5 0 500 rfl (by decide) iX5 tyX5 tyX5_ok nmX5 q_1254 rfl rfl rfl rfl rfl (fSm.k (fSm.rf w) g26) dX5_append_94 ?_
      refine f_aload_n hC dX5_append_97 rfl 0 rfl ?_
      refine f_getI hC 5 0 500 rfl (by decide) iX5 q_1254 rfl rfl (fSm.k (fSm.rf w) g26) dX5_append_98 ?_
      refine f_if_le hC 106 dX5_append_101 (by decide) (fun c27 => ?_) (fun c27 => ?_)
      · replace hF := fi_pos hF c27
        refine f_bipush (v := 24) hC dX5_append_106 (by decide) ?_
        refine f_istore (L' := [(4, .int 24), (0, .ref a0), (1, .int x1)]) hC dX5_append_108 (by decide) rfl ?_
        obtain ⟨x34, h35, hF⟩ := fb_open hF
        have K36 : fSm x34 w → fAt X 0 0 6 x34 [(0, .ref a0)] [] 160 := by
          intro p32
          refine f_aload_n hC dX5_append_160 rfl 0 rfl ?_
          refine f_getI hC 5 11 511 rfl (by decide) iX5 q_1265 rfl rfl (fSm.k p32 g26) dX5_append_161 ?_
          obtain rfl := Option.some.inj hF
          exact f_iret hC hEn p32 dX5_append_164
        refine f_sub (L' := [(0, .ref a0), (1, .int x1), (4, .int 24)]) [1, 2, 0] rfl ?_
        refine fLoop_ind (fun (s28 : Int32 × FW) => fSm s28.2 w → fAt X 0 0 6 s28.2 [(0, .ref a0), (1, .int x1), (4, .int s28.1)] [] 110) (fun s28 y33 h29 go30 ou31 => ?_) h35 (fSm.rf w)
        intro p32
        refine f_iload hC dX5_append_110 2 rfl ?_
        refine f_if_lt hC 160 dX5_append_112 (by decide) (fun c37 => ?_) (fun c37 => ?_)
        · replace h29 := fi_pos h29 c37
          obtain rfl := Option.some.inj h29
          obtain rfl := ou31 _ rfl
          refine f_sub (L' := [(0, .ref a0)]) [0] rfl ?_
          exact K36 p32
        · replace h29 := fi_neg h29 c37
          refine f_iload_n hC dX5_append_115 rfl 1 rfl ?_
          refine f_iload hC dX5_append_116 2 rfl ?_
          refine f_iushr hC dX5_append_118 ?_
          refine f_sipush (v := 255) hC dX5_append_119 (by decide) ?_
          refine f_iand hC dX5_append_122 ?_
          refine f_istore (L' := [(5, .int ((fushr x1 s28.1) &&& 255)), (0, .ref a0), (1, .int x1), (4, .int s28.1)]) hC dX5_append_123 (by decide) rfl ?_
          refine f_iload hC dX5_append_125 0 rfl ?_
          refine f_if_ne hC 133 dX5_append_127 (by decide) (fun c38 => ?_) (fun c38 => ?_)
          · replace h29 := fi_neg h29 c38
            refine f_aload_n hC dX5_append_133 rfl 1 rfl ?_
            refine f_getR hC 5 7 507 rfl (by decide) iX5 q_1261 rfl rfl (fSm.k p32 g26) dX5_append_134 ?_
            refine f_aload_n hC dX5_append_137 rfl 1 rfl ?_
            refine f_getI hC 5 11 511 rfl (by decide) iX5 q_1265 rfl rfl (fSm.k p32 g26) dX5_append_138 ?_
            refine f_iload hC dX5_append_141 0 rfl ?_
            obtain ⟨g39, h29⟩ := fg_open h29
            obtain ⟨g40, h29⟩ := fg_open h29
            refine f_iast hC (fSm.k p32 g39) (fSm.v p32 g40) dX5_append_143 ?_
            refine f_aload_n hC dX5_append_144 rfl 1 rfl ?_
            refine f_dup hC dX5_append_145 rfl ?_
            refine f_getI hC 5 11 511 rfl (by decide) iX5 q_1265 rfl rfl (fSm.k p32 g26) dX5_append_146 ?_
            refine f_iconst (v := 1) hC dX5_append_149 (by decide) ?_
            refine f_iadd hC dX5_append_150 ?_
            refine f_putI hC 5 11 511 rfl (by decide) iX5 tyX5 tyX5_ok nmX5 q_1265 rfl rfl rfl rfl rfl (fSm.k p32 g26) dX5_append_151 ?_
            refine f_iinc (L' := [(4, .int (s28.1 + (-8))), (5, .int ((fushr x1 s28.1) &&& 255)), (0, .ref a0), (1, .int x1)]) hC dX5_append_154 3 rfl rfl (by decide) rfl ?_
            refine f_goto hC 110 dX5_append_157 (by decide) ?_
            obtain rfl := Option.some.inj h29
            refine f_sub (L' := [(0, .ref a0), (1, .int x1), (4, .int (s28.1 + (-8)))]) [2, 3, 0] rfl ?_
            exact go30 _ rfl p32
          · replace h29 := fi_pos h29 c38
            refine f_goto hC 154 dX5_append_130 (by decide) ?_
            refine f_iinc (L' := [(4, .int (s28.1 + (-8))), (5, .int ((fushr x1 s28.1) &&& 255)), (0, .ref a0), (1, .int x1)]) hC dX5_append_154 3 rfl rfl (by decide) rfl ?_
            refine f_goto hC 110 dX5_append_157 (by decide) ?_
            obtain rfl := Option.some.inj h29
            refine f_sub (L' := [(0, .ref a0), (1, .int x1), (4, .int (s28.1 + (-8)))]) [2, 3, 0] rfl ?_
            exact go30 _ rfl p32
      · replace hF := fi_neg hF c27
        refine f_iconst (v := 0) hC dX5_append_104 (by decide) ?_
        obtain rfl := Option.some.inj hF
        exact f_iret hC hEn (fSm.rf w) dX5_append_105
    refine f_if_ne hC 78 dX5_append_71 (by decide) (fun c41 => ?_) (fun c41 => ?_)
    · replace h23 := fi_neg h23 c41
      refine f_aload_n hC dX5_append_78 rfl 0 rfl ?_
      obtain ⟨g42, h23⟩ := fg_open h23
      refine f_getI hC 5 11 511 rfl (by decide) iX5 q_1265 rfl rfl (fSm.k (fSm.rf w) g42) dX5_append_79 ?_
      refine f_iload_n hC dX5_append_82 rfl 2 rfl ?_
      refine f_iadd hC dX5_append_83 ?_
      refine f_bipush (v := 60) hC dX5_append_84 (by decide) ?_
      refine f_icmp_le hC 93 dX5_append_86 (by decide) (fun c43 => ?_) (fun c43 => ?_)
      · replace h23 := fi_pos h23 c43
        refine f_iconst (v := 0) hC dX5_append_93 (by decide) ?_
        obtain rfl := Option.some.inj h23
        refine f_sub (L' := [(0, .ref a0), (1, .int x1)]) [0, 1] rfl ?_
        exact K25
      · replace h23 := fi_neg h23 c43
        refine f_iconst (v := 2) hC dX5_append_89 (by decide) ?_
        refine f_goto hC 94 dX5_append_90 (by decide) ?_
        obtain rfl := Option.some.inj h23
        refine f_sub (L' := [(0, .ref a0), (1, .int x1)]) [0, 1] rfl ?_
        exact K25
    · replace h23 := fi_pos h23 c41
      refine f_iconst (v := 1) hC dX5_append_74 (by decide) ?_
      refine f_goto hC 94 dX5_append_75 (by decide) ?_
      obtain rfl := Option.some.inj h23
      refine f_sub (L' := [(0, .ref a0), (1, .int x1)]) [0, 1] rfl ?_
      exact K25
  refine f_sub (L' := [(0, .ref a0), (1, .int x1), (2, .int 0), (3, .int 1), (4, .int 24)]) [3, 4, 2, 1, 0] rfl ?_
  refine fLoop_ind (fun (s1 : Int32 × Int32 × Int32) => fAt X 0 0 6 w [(0, .ref a0), (1, .int x1), (2, .int s1.1), (3, .int s1.2.1), (4, .int s1.2.2)] [] 8) (fun s1 y6 h2 go3 ou4 => ?_) h8
  refine f_iload hC dX5_append_8 4 rfl ?_
  refine f_if_lt hC 69 dX5_append_10 (by decide) (fun c10 => ?_) (fun c10 => ?_)
  · replace h2 := fi_pos h2 c10
    obtain rfl := Option.some.inj h2
    obtain rfl := ou4 _ rfl
    refine f_sub (L' := [(0, .ref a0), (1, .int x1), (2, .int s1.1), (3, .int s1.2.1)]) [0, 1, 2, 3] rfl ?_
    exact K9
  · replace h2 := fi_neg h2 c10
    refine f_iload_n hC dX5_append_13 rfl 1 rfl ?_
    refine f_iload hC dX5_append_14 4 rfl ?_
    refine f_iushr hC dX5_append_16 ?_
    refine f_sipush (v := 255) hC dX5_append_17 (by decide) ?_
    refine f_iand hC dX5_append_20 ?_
    refine f_istore (L' := [(5, .int ((fushr x1 s1.2.2) &&& 255)), (0, .ref a0), (1, .int x1), (2, .int s1.1), (3, .int s1.2.1), (4, .int s1.2.2)]) hC dX5_append_21 (by decide) rfl ?_
    refine f_iload_n hC dX5_append_23 rfl 4 rfl ?_
    obtain ⟨x11, h12, h2⟩ := fb_open h2
    have K14 : fAt X 0 0 6 w [(0, .ref a0), (1, .int x1), (2, .int s1.1), (4, .int s1.2.2), (5, .int ((fushr x1 s1.2.2) &&& 255))] [.int x11] 49 := by
      refine f_istore_n (L' := [(3, .int x11), (0, .ref a0), (1, .int x1), (2, .int s1.1), (4, .int s1.2.2), (5, .int ((fushr x1 s1.2.2) &&& 255))]) hC dX5_append_49 rfl (by decide) rfl ?_
      refine f_iload_n hC dX5_append_50 rfl 3 rfl ?_
      refine f_iload hC dX5_append_51 5 rfl ?_
      refine f_if_ne hC 60 dX5_append_53 (by decide) (fun c15 => ?_) (fun c15 => ?_)
      · replace h2 := fi_neg h2 c15
        refine f_iconst (v := 1) hC dX5_append_60 (by decide) ?_
        refine f_iadd hC dX5_append_61 ?_
        refine f_istore_n (L' := [(2, .int (s1.1 + 1)), (3, .int x11), (0, .ref a0), (1, .int x1), (4, .int s1.2.2), (5, .int ((fushr x1 s1.2.2) &&& 255))]) hC dX5_append_62 rfl (by decide) rfl ?_
        refine f_iinc (L' := [(4, .int (s1.2.2 + (-8))), (2, .int (s1.1 + 1)), (3, .int x11), (0, .ref a0), (1, .int x1), (5, .int ((fushr x1 s1.2.2) &&& 255))]) hC dX5_append_63 4 rfl rfl (by decide) rfl ?_
        refine f_goto hC 8 dX5_append_66 (by decide) ?_
        obtain rfl := Option.some.inj h2
        refine f_sub (L' := [(0, .ref a0), (1, .int x1), (2, .int (s1.1 + 1)), (3, .int x11), (4, .int (s1.2.2 + (-8)))]) [3, 4, 1, 2, 0] rfl ?_
        exact go3 _ rfl
      · replace h2 := fi_pos h2 c15
        refine f_iconst (v := 0) hC dX5_append_56 (by decide) ?_
        refine f_goto hC 61 dX5_append_57 (by decide) ?_
        refine f_iadd hC dX5_append_61 ?_
        refine f_istore_n (L' := [(2, .int (s1.1 + 0)), (3, .int x11), (0, .ref a0), (1, .int x1), (4, .int s1.2.2), (5, .int ((fushr x1 s1.2.2) &&& 255))]) hC dX5_append_62 rfl (by decide) rfl ?_
        refine f_iinc (L' := [(4, .int (s1.2.2 + (-8))), (2, .int (s1.1 + 0)), (3, .int x11), (0, .ref a0), (1, .int x1), (5, .int ((fushr x1 s1.2.2) &&& 255))]) hC dX5_append_63 4 rfl rfl (by decide) rfl ?_
        refine f_goto hC 8 dX5_append_66 (by decide) ?_
        obtain rfl := Option.some.inj h2
        refine f_sub (L' := [(0, .ref a0), (1, .int x1), (2, .int (s1.1 + 0)), (3, .int x11), (4, .int (s1.2.2 + (-8)))]) [3, 4, 1, 2, 0] rfl ?_
        exact go3 _ rfl
    refine f_if_eq hC 48 dX5_append_24 (by decide) (fun c16 => ?_) (fun c16 => ?_)
    · replace h12 := fi_pos h12 c16
      refine f_iconst (v := 0) hC dX5_append_48 (by decide) ?_
      obtain rfl := Option.some.inj h12
      refine f_sub (L' := [(0, .ref a0), (1, .int x1), (2, .int s1.1), (4, .int s1.2.2), (5, .int ((fushr x1 s1.2.2) &&& 255))]) [1, 2, 3, 5, 0] rfl ?_
      exact K14
    · replace h12 := fi_neg h12 c16
      refine f_iload hC dX5_append_27 0 rfl ?_
      refine f_if_eq hC 44 dX5_append_29 (by decide) (fun c17 => ?_) (fun c17 => ?_)
      · replace h12 := fi_pos h12 c17
        refine f_iconst (v := 1) hC dX5_append_44 (by decide) ?_
        refine f_goto hC 49 dX5_append_45 (by decide) ?_
        obtain rfl := Option.some.inj h12
        refine f_sub (L' := [(0, .ref a0), (1, .int x1), (2, .int s1.1), (4, .int s1.2.2), (5, .int ((fushr x1 s1.2.2) &&& 255))]) [1, 2, 3, 5, 0] rfl ?_
        exact K14
      · replace h12 := fi_neg h12 c17
        refine f_iload hC dX5_append_32 0 rfl ?_
        refine f_bipush (v := 32) hC dX5_append_34 (by decide) ?_
        refine f_bipush (v := 126) hC dX5_append_36 (by decide) ?_
        obtain ⟨r18, h19, h12⟩ := fb_open h12
        refine f_callS hC [.int ((fushr x1 s1.2.2) &&& 255), .int 32, .int 126] (c_X5_in l D cy ((fushr x1 s1.2.2) &&& 255) 32 126 w r18 h19) q_1352 q_136 q_1350 q_1351 h9_X5_in ⟨Nat.le_of_ble_eq_true rfl, Nat.le_of_ble_eq_true rfl⟩ ⟨Nat.le_of_ble_eq_true rfl, Nat.le_of_ble_eq_true rfl⟩ (Nat.le_of_ble_eq_true rfl) rfl dX5_append_38 (fun e20 => ?_)
        refine f_if_eq hC 48 dX5_append_41 (by decide) (fun c21 => ?_) (fun c21 => ?_)
        · replace h12 := fi_pos h12 c21
          refine f_iconst (v := 0) hC dX5_append_48 (by decide) ?_
          obtain rfl := Option.some.inj h12
          refine f_sub (L' := [(0, .ref a0), (1, .int x1), (2, .int s1.1), (4, .int s1.2.2), (5, .int ((fushr x1 s1.2.2) &&& 255))]) [1, 2, 3, 5, 0] rfl ?_
          exact K14
        · replace h12 := fi_neg h12 c21
          refine f_iconst (v := 1) hC dX5_append_44 (by decide) ?_
          refine f_goto hC 49 dX5_append_45 (by decide) ?_
          obtain rfl := Option.some.inj h12
          refine f_sub (L' := [(0, .ref a0), (1, .int x1), (2, .int s1.1), (4, .int s1.2.2), (5, .int ((fushr x1 s1.2.2) &&& 255))]) [1, 2, 3, 5, 0] rfl ?_
          exact K14
theorem dX5_here_0 : decode cX5_here 0 = .ok (.aload_n 0, 1) := by decide +kernel
theorem dX5_here_1 : decode cX5_here 1 = .ok (.getfield 251, 3) := by decide +kernel
theorem dX5_here_4 : decode cX5_here 4 = .ok (.aload_n 0, 1) := by decide +kernel
theorem dX5_here_5 : decode cX5_here 5 = .ok (.getfield 254, 3) := by decide +kernel
theorem dX5_here_8 : decode cX5_here 8 = .ok (.if_icmp .ge 15, 3) := by decide +kernel
theorem dX5_here_11 : decode cX5_here 11 = .ok (.aload_n 0, 1) := by decide +kernel
theorem dX5_here_12 : decode cX5_here 12 = .ok (.getfield 22, 3) := by decide +kernel
theorem dX5_here_15 : decode cX5_here 15 = .ok (.aload_n 0, 1) := by decide +kernel
theorem dX5_here_16 : decode cX5_here 16 = .ok (.getfield 251, 3) := by decide +kernel
theorem dX5_here_19 : decode cX5_here 19 = .ok (.iaload, 1) := by decide +kernel
theorem dX5_here_20 : decode cX5_here 20 = .ok (.goto 4, 3) := by decide +kernel
theorem dX5_here_23 : decode cX5_here 23 = .ok (.iconst (-1), 1) := by decide +kernel
theorem dX5_here_24 : decode cX5_here 24 = .ok (.ireturn, 1) := by decide +kernel
theorem h9_X5_here : yX5_here.cls ≠ "java/lang/invoke/MethodHandle" ∧ yX5_here.cls ≠ "java/lang/invoke/VarHandle" ∧ (parseMethodDescriptor yX5_here.desc).map (fun d => d.parameters.length) = some 0 := by decide +kernel
noncomputable def F_X5_here (a0 : Nat) (w : FW) : Option (Int32) :=
  fg (w.1 a0 = 6) inferInstance ((if (gI w 520 a0 0) ≤ (gI w 519 a0 0) then some (-1) else fg (w.1 (gR w 507 a0 0) = 11) inferInstance (fg (¬ ((gI w 519 a0 0) < 0 ∨ w.2.1 (gR w 507 a0 0) ≤ Int32.toNatClampNeg (gI w 519 a0 0))) inferInstance (some (gI w 601 (gR w 507 a0 0) (Int32.toNatClampNeg (gI w 519 a0 0)))))))
set_option maxHeartbeats 4000000 in
set_option maxRecDepth 100000 in
theorem c_X5_here (l : Launch) (D : va_G) (cy : Nat → ClassId) (a0 : Nat) (w : FW) (r : Int32) (hF : F_X5_here a0 w = some r) : fSpec l D cy yX5_here cX5_here 1 (some .int) { frames := 0, cells := 0, slots := 0, locals := 0 } [.ref a0] w w (some (.int r)) := by
  refine f_begin (by decide +kernel) (Nat.le_of_ble_eq_true rfl) (fun X hC hEn => ?_)
  unfold F_X5_here at hF
  show fAt X 0 0 1 w [(0, .ref a0)] [] 0
  refine f_aload_n hC dX5_here_0 rfl 0 rfl ?_
  obtain ⟨g1, hF⟩ := fg_open hF
  refine f_getI hC 5 19 519 rfl (by decide) iX5 q_1273 rfl rfl (fSm.k (fSm.rf w) g1) dX5_here_1 ?_
  refine f_aload_n hC dX5_here_4 rfl 0 rfl ?_
  refine f_getI hC 5 20 520 rfl (by decide) iX5 q_1274 rfl rfl (fSm.k (fSm.rf w) g1) dX5_here_5 ?_
  refine f_icmp_ge hC 23 dX5_here_8 (by decide) (fun c2 => ?_) (fun c2 => ?_)
  · replace hF := fi_pos hF c2
    refine f_iconst (v := (-1)) hC dX5_here_23 (by decide) ?_
    obtain rfl := Option.some.inj hF
    exact f_iret hC hEn (fSm.rf w) dX5_here_24
  · replace hF := fi_neg hF c2
    refine f_aload_n hC dX5_here_11 rfl 0 rfl ?_
    refine f_getR hC 5 7 507 rfl (by decide) iX5 q_1261 rfl rfl (fSm.k (fSm.rf w) g1) dX5_here_12 ?_
    refine f_aload_n hC dX5_here_15 rfl 0 rfl ?_
    refine f_getI hC 5 19 519 rfl (by decide) iX5 q_1273 rfl rfl (fSm.k (fSm.rf w) g1) dX5_here_16 ?_
    obtain ⟨g3, hF⟩ := fg_open hF
    obtain ⟨g4, hF⟩ := fg_open hF
    refine f_iald hC (fSm.k (fSm.rf w) g3) (fSm.v (fSm.rf w) g4) dX5_here_19 ?_
    refine f_goto hC 24 dX5_here_20 (by decide) ?_
    obtain rfl := Option.some.inj hF
    exact f_iret hC hEn (fSm.rf w) dX5_here_24
theorem dX5_sign_0 : decode cX5_sign 0 = .ok (.aload_n 0, 1) := by decide +kernel
theorem dX5_sign_1 : decode cX5_sign 1 = .ok (.aload_n 0, 1) := by decide +kernel
theorem dX5_sign_2 : decode cX5_sign 2 = .ok (.getfield 257, 3) := by decide +kernel
theorem dX5_sign_5 : decode cX5_sign 5 = .ok (.ifCond .ne 11, 3) := by decide +kernel
theorem dX5_sign_8 : decode cX5_sign 8 = .ok (.aload_n 0, 1) := by decide +kernel
theorem dX5_sign_9 : decode cX5_sign 9 = .ok (.invokevirtual 261, 3) := by decide +kernel
theorem dX5_sign_12 : decode cX5_sign 12 = .ok (.iload_n 1, 1) := by decide +kernel
theorem dX5_sign_13 : decode cX5_sign 13 = .ok (.if_icmp .eq 7, 3) := by decide +kernel
theorem dX5_sign_16 : decode cX5_sign 16 = .ok (.iconst 1, 1) := by decide +kernel
theorem dX5_sign_17 : decode cX5_sign 17 = .ok (.goto 4, 3) := by decide +kernel
theorem dX5_sign_20 : decode cX5_sign 20 = .ok (.iconst 0, 1) := by decide +kernel
theorem dX5_sign_21 : decode cX5_sign 21 = .ok (.putfield 257, 3) := by decide +kernel
theorem dX5_sign_24 : decode cX5_sign 24 = .ok (.aload_n 0, 1) := by decide +kernel
theorem dX5_sign_25 : decode cX5_sign 25 = .ok (.dup, 1) := by decide +kernel
theorem dX5_sign_26 : decode cX5_sign 26 = .ok (.getfield 251, 3) := by decide +kernel
theorem dX5_sign_29 : decode cX5_sign 29 = .ok (.aload_n 0, 1) := by decide +kernel
theorem dX5_sign_30 : decode cX5_sign 30 = .ok (.getfield 257, 3) := by decide +kernel
theorem dX5_sign_33 : decode cX5_sign 33 = .ok (.ifCond .eq 7, 3) := by decide +kernel
theorem dX5_sign_36 : decode cX5_sign 36 = .ok (.iconst 0, 1) := by decide +kernel
theorem dX5_sign_37 : decode cX5_sign 37 = .ok (.goto 4, 3) := by decide +kernel
theorem dX5_sign_40 : decode cX5_sign 40 = .ok (.iconst 1, 1) := by decide +kernel
theorem dX5_sign_41 : decode cX5_sign 41 = .ok (.iadd, 1) := by decide +kernel
theorem dX5_sign_42 : decode cX5_sign 42 = .ok (.putfield 251, 3) := by decide +kernel
theorem dX5_sign_45 : decode cX5_sign 45 = .ok (.return_, 1) := by decide +kernel
theorem h9_X5_sign : yX5_sign.cls ≠ "java/lang/invoke/MethodHandle" ∧ yX5_sign.cls ≠ "java/lang/invoke/VarHandle" ∧ (parseMethodDescriptor yX5_sign.desc).map (fun d => d.parameters.length) = some 1 := by decide +kernel
noncomputable def F_X5_sign (a0 : Nat) (x1 : Int32) (w : FW) : Option (FW) :=
  fg (w.1 a0 = 6) inferInstance (((if (gI w 522 a0 0) = 0 then (F_X5_here a0 w).bind (fun r9 => (if r9 = x1 then some 0 else some 1)) else some 1) : Option (Int32)).bind (fun x2 => fg (x2 = 0 ∨ x2 = 1) inferInstance ((if (gI (sI w 522 a0 0 x2) 522 a0 0) = 0 then some (sI (sI w 522 a0 0 x2) 519 a0 0 ((gI (sI w 522 a0 0 x2) 519 a0 0) + 1)) else some (sI (sI w 522 a0 0 x2) 519 a0 0 ((gI (sI w 522 a0 0 x2) 519 a0 0) + 0))))))
set_option maxHeartbeats 4000000 in
set_option maxRecDepth 100000 in
theorem c_X5_sign (l : Launch) (D : va_G) (cy : Nat → ClassId) (a0 : Nat) (x1 : Int32) (w : FW) (r : FW) (hF : F_X5_sign a0 x1 w = some r) : fSpec l D cy yX5_sign cX5_sign 2 none { frames := 1, cells := 0, slots := 0, locals := 20 } [.ref a0, .int x1] w r none := by
  refine f_begin (by decide +kernel) (Nat.le_of_ble_eq_true rfl) (fun X hC hEn => ?_)
  unfold F_X5_sign at hF
  show fAt X 0 0 2 w [(0, .ref a0), (1, .int x1)] [] 0
  refine f_aload_n hC dX5_sign_0 rfl 0 rfl ?_
  refine f_aload_n hC dX5_sign_1 rfl 0 rfl ?_
  obtain ⟨g1, hF⟩ := fg_open hF
  refine f_getI hC 5 22 522 rfl (by decide) iX5 q_1276 rfl rfl (fSm.k (fSm.rf w) g1) dX5_sign_2 ?_
  obtain ⟨x2, h3, hF⟩ := fb_open hF
  have K5 : fAt X 0 0 2 w [(0, .ref a0)] [.int x2, .ref a0] 21 := by
    obtain ⟨g6, hF⟩ := fg_open hF
    refine f_putI hC 5 22 522 rfl (by decide) iX5 tyX5 tyX5_ok nmX5 q_1276 rfl rfl rfl (nar_z g6) rfl (fSm.k (fSm.rf w) g1) dX5_sign_21 ?_
    refine f_aload_n hC dX5_sign_24 rfl 0 rfl ?_
    refine f_dup hC dX5_sign_25 rfl ?_
    refine f_getI hC 5 19 519 rfl (by decide) iX5 q_1273 rfl rfl (fSm.k (fSm.rf w) g1) dX5_sign_26 ?_
    refine f_aload_n hC dX5_sign_29 rfl 0 rfl ?_
    refine f_getI hC 5 22 522 rfl (by decide) iX5 q_1276 rfl rfl (fSm.k (fSm.rf w) g1) dX5_sign_30 ?_
    refine f_if_eq hC 40 dX5_sign_33 (by decide) (fun c7 => ?_) (fun c7 => ?_)
    · replace hF := fi_pos hF c7
      refine f_iconst (v := 1) hC dX5_sign_40 (by decide) ?_
      refine f_iadd hC dX5_sign_41 ?_
      refine f_putI hC 5 19 519 rfl (by decide) iX5 tyX5 tyX5_ok nmX5 q_1273 rfl rfl rfl rfl rfl (fSm.k (fSm.rf w) g1) dX5_sign_42 ?_
      obtain rfl := Option.some.inj hF
      exact f_vret hC hEn (fSm.rf w) dX5_sign_45
    · replace hF := fi_neg hF c7
      refine f_iconst (v := 0) hC dX5_sign_36 (by decide) ?_
      refine f_goto hC 41 dX5_sign_37 (by decide) ?_
      refine f_iadd hC dX5_sign_41 ?_
      refine f_putI hC 5 19 519 rfl (by decide) iX5 tyX5 tyX5_ok nmX5 q_1273 rfl rfl rfl rfl rfl (fSm.k (fSm.rf w) g1) dX5_sign_42 ?_
      obtain rfl := Option.some.inj hF
      exact f_vret hC hEn (fSm.rf w) dX5_sign_45
  refine f_if_ne hC 16 dX5_sign_5 (by decide) (fun c8 => ?_) (fun c8 => ?_)
  · replace h3 := fi_neg h3 c8
    refine f_iconst (v := 1) hC dX5_sign_16 (by decide) ?_
    refine f_goto hC 21 dX5_sign_17 (by decide) ?_
    obtain rfl := Option.some.inj h3
    refine f_sub (L' := [(0, .ref a0)]) [0] rfl ?_
    exact K5
  · replace h3 := fi_pos h3 c8
    refine f_aload_n hC dX5_sign_8 rfl 0 rfl ?_
    obtain ⟨r9, h10, h3⟩ := fb_open h3
    refine f_callV hC [] (c_X5_here l D cy a0 w r9 h10) q_1708 q_136 q_1705 q_1707 q_123 h9_X5_here rfl (fSm.k (fSm.rf w) g1) ⟨Nat.le_of_ble_eq_true rfl, Nat.le_of_ble_eq_true rfl⟩ ⟨Nat.le_of_ble_eq_true rfl, Nat.le_of_ble_eq_true rfl⟩ (Nat.le_of_ble_eq_true rfl) rfl dX5_sign_9 (fun e11 => ?_)
    refine f_iload_n hC dX5_sign_12 rfl 1 rfl ?_
    refine f_icmp_eq hC 20 dX5_sign_13 (by decide) (fun c12 => ?_) (fun c12 => ?_)
    · replace h3 := fi_pos h3 c12
      refine f_iconst (v := 0) hC dX5_sign_20 (by decide) ?_
      obtain rfl := Option.some.inj h3
      refine f_sub (L' := [(0, .ref a0)]) [0] rfl ?_
      exact K5
    · replace h3 := fi_neg h3 c12
      refine f_iconst (v := 1) hC dX5_sign_16 (by decide) ?_
      refine f_goto hC 21 dX5_sign_17 (by decide) ?_
      obtain rfl := Option.some.inj h3
      refine f_sub (L' := [(0, .ref a0)]) [0] rfl ?_
      exact K5
theorem dX5_digit_0 : decode cX5_digit 0 = .ok (.aload_n 0, 1) := by decide +kernel
theorem dX5_digit_1 : decode cX5_digit 1 = .ok (.aload_n 0, 1) := by decide +kernel
theorem dX5_digit_2 : decode cX5_digit 2 = .ok (.getfield 257, 3) := by decide +kernel
theorem dX5_digit_5 : decode cX5_digit 5 = .ok (.ifCond .ne 17, 3) := by decide +kernel
theorem dX5_digit_8 : decode cX5_digit 8 = .ok (.aload_n 0, 1) := by decide +kernel
theorem dX5_digit_9 : decode cX5_digit 9 = .ok (.invokevirtual 261, 3) := by decide +kernel
theorem dX5_digit_12 : decode cX5_digit 12 = .ok (.bipush 48, 2) := by decide +kernel
theorem dX5_digit_14 : decode cX5_digit 14 = .ok (.bipush 57, 2) := by decide +kernel
theorem dX5_digit_16 : decode cX5_digit 16 = .ok (.invokestatic 66, 3) := by decide +kernel
theorem dX5_digit_19 : decode cX5_digit 19 = .ok (.ifCond .ne 7, 3) := by decide +kernel
theorem dX5_digit_22 : decode cX5_digit 22 = .ok (.iconst 1, 1) := by decide +kernel
theorem dX5_digit_23 : decode cX5_digit 23 = .ok (.goto 4, 3) := by decide +kernel
theorem dX5_digit_26 : decode cX5_digit 26 = .ok (.iconst 0, 1) := by decide +kernel
theorem dX5_digit_27 : decode cX5_digit 27 = .ok (.putfield 257, 3) := by decide +kernel
theorem dX5_digit_30 : decode cX5_digit 30 = .ok (.aload_n 0, 1) := by decide +kernel
theorem dX5_digit_31 : decode cX5_digit 31 = .ok (.getfield 257, 3) := by decide +kernel
theorem dX5_digit_34 : decode cX5_digit 34 = .ok (.ifCond .eq 5, 3) := by decide +kernel
theorem dX5_digit_37 : decode cX5_digit 37 = .ok (.iconst 0, 1) := by decide +kernel
theorem dX5_digit_38 : decode cX5_digit 38 = .ok (.ireturn, 1) := by decide +kernel
theorem dX5_digit_39 : decode cX5_digit 39 = .ok (.aload_n 0, 1) := by decide +kernel
theorem dX5_digit_40 : decode cX5_digit 40 = .ok (.dup, 1) := by decide +kernel
theorem dX5_digit_41 : decode cX5_digit 41 = .ok (.getfield 251, 3) := by decide +kernel
theorem dX5_digit_44 : decode cX5_digit 44 = .ok (.iconst 1, 1) := by decide +kernel
theorem dX5_digit_45 : decode cX5_digit 45 = .ok (.iadd, 1) := by decide +kernel
theorem dX5_digit_46 : decode cX5_digit 46 = .ok (.putfield 251, 3) := by decide +kernel
theorem dX5_digit_49 : decode cX5_digit 49 = .ok (.aload_n 0, 1) := by decide +kernel
theorem dX5_digit_50 : decode cX5_digit 50 = .ok (.getfield 22, 3) := by decide +kernel
theorem dX5_digit_53 : decode cX5_digit 53 = .ok (.aload_n 0, 1) := by decide +kernel
theorem dX5_digit_54 : decode cX5_digit 54 = .ok (.getfield 251, 3) := by decide +kernel
theorem dX5_digit_57 : decode cX5_digit 57 = .ok (.iconst 1, 1) := by decide +kernel
theorem dX5_digit_58 : decode cX5_digit 58 = .ok (.isub, 1) := by decide +kernel
theorem dX5_digit_59 : decode cX5_digit 59 = .ok (.iaload, 1) := by decide +kernel
theorem dX5_digit_60 : decode cX5_digit 60 = .ok (.bipush 48, 2) := by decide +kernel
theorem dX5_digit_62 : decode cX5_digit 62 = .ok (.isub, 1) := by decide +kernel
theorem dX5_digit_63 : decode cX5_digit 63 = .ok (.ireturn, 1) := by decide +kernel
theorem h9_X5_digit : yX5_digit.cls ≠ "java/lang/invoke/MethodHandle" ∧ yX5_digit.cls ≠ "java/lang/invoke/VarHandle" ∧ (parseMethodDescriptor yX5_digit.desc).map (fun d => d.parameters.length) = some 0 := by decide +kernel
noncomputable def F_X5_digit (a0 : Nat) (w : FW) : Option (Int32 × FW) :=
  fg (w.1 a0 = 6) inferInstance (((if (gI w 522 a0 0) = 0 then (F_X5_here a0 w).bind (fun r11 => (F_X5_in r11 48 57 w).bind (fun r14 => (if r14 = 0 then some 1 else some 0))) else some 1) : Option (Int32)).bind (fun x2 => fg (x2 = 0 ∨ x2 = 1) inferInstance ((if (gI (sI w 522 a0 0 x2) 522 a0 0) = 0 then fg (w.1 (gR w 507 a0 0) = 11) inferInstance (fg (¬ (((gI (sI (sI w 522 a0 0 x2) 519 a0 0 ((gI (sI w 522 a0 0 x2) 519 a0 0) + 1)) 519 a0 0) - 1) < 0 ∨ w.2.1 (gR w 507 a0 0) ≤ Int32.toNatClampNeg ((gI (sI (sI w 522 a0 0 x2) 519 a0 0 ((gI (sI w 522 a0 0 x2) 519 a0 0) + 1)) 519 a0 0) - 1))) inferInstance (some (((gI (sI (sI w 522 a0 0 x2) 519 a0 0 ((gI (sI w 522 a0 0 x2) 519 a0 0) + 1)) 601 (gR (sI (sI w 522 a0 0 x2) 519 a0 0 ((gI (sI w 522 a0 0 x2) 519 a0 0) + 1)) 507 a0 0) (Int32.toNatClampNeg ((gI (sI (sI w 522 a0 0 x2) 519 a0 0 ((gI (sI w 522 a0 0 x2) 519 a0 0) + 1)) 519 a0 0) - 1))) - 48), (sI (sI w 522 a0 0 x2) 519 a0 0 ((gI (sI w 522 a0 0 x2) 519 a0 0) + 1))))) else some (0, (sI w 522 a0 0 x2))))))
set_option maxHeartbeats 4000000 in
set_option maxRecDepth 100000 in
theorem c_X5_digit (l : Launch) (D : va_G) (cy : Nat → ClassId) (a0 : Nat) (w : FW) (r : Int32 × FW) (hF : F_X5_digit a0 w = some r) : fSpec l D cy yX5_digit cX5_digit 1 (some .int) { frames := 1, cells := 0, slots := 0, locals := 22 } [.ref a0] w r.2 (some (.int r.1)) := by
  refine f_begin (by decide +kernel) (Nat.le_of_ble_eq_true rfl) (fun X hC hEn => ?_)
  unfold F_X5_digit at hF
  show fAt X 0 0 1 w [(0, .ref a0)] [] 0
  refine f_aload_n hC dX5_digit_0 rfl 0 rfl ?_
  refine f_aload_n hC dX5_digit_1 rfl 0 rfl ?_
  obtain ⟨g1, hF⟩ := fg_open hF
  refine f_getI hC 5 22 522 rfl (by decide) iX5 q_1276 rfl rfl (fSm.k (fSm.rf w) g1) dX5_digit_2 ?_
  obtain ⟨x2, h3, hF⟩ := fb_open hF
  have K5 : fAt X 0 0 1 w [(0, .ref a0)] [.int x2, .ref a0] 27 := by
    obtain ⟨g6, hF⟩ := fg_open hF
    refine f_putI hC 5 22 522 rfl (by decide) iX5 tyX5 tyX5_ok nmX5 q_1276 rfl rfl rfl (nar_z g6) rfl (fSm.k (fSm.rf w) g1) dX5_digit_27 ?_
    refine f_aload_n hC dX5_digit_30 rfl 0 rfl ?_
    refine f_getI hC 5 22 522 rfl (by decide) iX5 q_1276 rfl rfl (fSm.k (fSm.rf w) g1) dX5_digit_31 ?_
    refine f_if_eq hC 39 dX5_digit_34 (by decide) (fun c7 => ?_) (fun c7 => ?_)
    · replace hF := fi_pos hF c7
      refine f_aload_n hC dX5_digit_39 rfl 0 rfl ?_
      refine f_dup hC dX5_digit_40 rfl ?_
      refine f_getI hC 5 19 519 rfl (by decide) iX5 q_1273 rfl rfl (fSm.k (fSm.rf w) g1) dX5_digit_41 ?_
      refine f_iconst (v := 1) hC dX5_digit_44 (by decide) ?_
      refine f_iadd hC dX5_digit_45 ?_
      refine f_putI hC 5 19 519 rfl (by decide) iX5 tyX5 tyX5_ok nmX5 q_1273 rfl rfl rfl rfl rfl (fSm.k (fSm.rf w) g1) dX5_digit_46 ?_
      refine f_aload_n hC dX5_digit_49 rfl 0 rfl ?_
      refine f_getR hC 5 7 507 rfl (by decide) iX5 q_1261 rfl rfl (fSm.k (fSm.rf w) g1) dX5_digit_50 ?_
      refine f_aload_n hC dX5_digit_53 rfl 0 rfl ?_
      refine f_getI hC 5 19 519 rfl (by decide) iX5 q_1273 rfl rfl (fSm.k (fSm.rf w) g1) dX5_digit_54 ?_
      refine f_iconst (v := 1) hC dX5_digit_57 (by decide) ?_
      refine f_isub hC dX5_digit_58 ?_
      obtain ⟨g8, hF⟩ := fg_open hF
      obtain ⟨g9, hF⟩ := fg_open hF
      refine f_iald hC (fSm.k (fSm.rf w) g8) (fSm.v (fSm.rf w) g9) dX5_digit_59 ?_
      refine f_bipush (v := 48) hC dX5_digit_60 (by decide) ?_
      refine f_isub hC dX5_digit_62 ?_
      obtain rfl := Option.some.inj hF
      exact f_iret hC hEn (fSm.rf w) dX5_digit_63
    · replace hF := fi_neg hF c7
      refine f_iconst (v := 0) hC dX5_digit_37 (by decide) ?_
      obtain rfl := Option.some.inj hF
      exact f_iret hC hEn (fSm.rf w) dX5_digit_38
  refine f_if_ne hC 22 dX5_digit_5 (by decide) (fun c10 => ?_) (fun c10 => ?_)
  · replace h3 := fi_neg h3 c10
    refine f_iconst (v := 1) hC dX5_digit_22 (by decide) ?_
    refine f_goto hC 27 dX5_digit_23 (by decide) ?_
    obtain rfl := Option.some.inj h3
    exact K5
  · replace h3 := fi_pos h3 c10
    refine f_aload_n hC dX5_digit_8 rfl 0 rfl ?_
    obtain ⟨r11, h12, h3⟩ := fb_open h3
    refine f_callV hC [] (c_X5_here l D cy a0 w r11 h12) q_1708 q_136 q_1705 q_1707 q_123 h9_X5_here rfl (fSm.k (fSm.rf w) g1) ⟨Nat.le_of_ble_eq_true rfl, Nat.le_of_ble_eq_true rfl⟩ ⟨Nat.le_of_ble_eq_true rfl, Nat.le_of_ble_eq_true rfl⟩ (Nat.le_of_ble_eq_true rfl) rfl dX5_digit_9 (fun e13 => ?_)
    refine f_bipush (v := 48) hC dX5_digit_12 (by decide) ?_
    refine f_bipush (v := 57) hC dX5_digit_14 (by decide) ?_
    obtain ⟨r14, h15, h3⟩ := fb_open h3
    refine f_callS hC [.int r11, .int 48, .int 57] (c_X5_in l D cy r11 48 57 w r14 h15) q_1352 q_136 q_1350 q_1351 h9_X5_in ⟨Nat.le_of_ble_eq_true rfl, Nat.le_of_ble_eq_true rfl⟩ ⟨Nat.le_of_ble_eq_true rfl, Nat.le_of_ble_eq_true rfl⟩ (Nat.le_of_ble_eq_true rfl) rfl dX5_digit_16 (fun e16 => ?_)
    refine f_if_ne hC 26 dX5_digit_19 (by decide) (fun c17 => ?_) (fun c17 => ?_)
    · replace h3 := fi_neg h3 c17
      refine f_iconst (v := 0) hC dX5_digit_26 (by decide) ?_
      obtain rfl := Option.some.inj h3
      exact K5
    · replace h3 := fi_pos h3 c17
      refine f_iconst (v := 1) hC dX5_digit_22 (by decide) ?_
      refine f_goto hC 27 dX5_digit_23 (by decide) ?_
      obtain rfl := Option.some.inj h3
      exact K5
