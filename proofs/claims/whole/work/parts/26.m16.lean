theorem dX5_readsWord_0 : decode cX5_readsWord 0 = .ok (.aload_n 0, 1) := by decide +kernel
theorem dX5_readsWord_1 : decode cX5_readsWord 1 = .ok (.getfield 25, 3) := by decide +kernel
theorem dX5_readsWord_4 : decode cX5_readsWord 4 = .ok (.iconst 4, 1) := by decide +kernel
theorem dX5_readsWord_5 : decode cX5_readsWord 5 = .ok (.aload_n 0, 1) := by decide +kernel
theorem dX5_readsWord_6 : decode cX5_readsWord 6 = .ok (.getfield 264, 3) := by decide +kernel
theorem dX5_readsWord_9 : decode cX5_readsWord 9 = .ok (.imul, 1) := by decide +kernel
theorem dX5_readsWord_10 : decode cX5_readsWord 10 = .ok (.iconst 3, 1) := by decide +kernel
theorem dX5_readsWord_11 : decode cX5_readsWord 11 = .ok (.iadd, 1) := by decide +kernel
theorem dX5_readsWord_12 : decode cX5_readsWord 12 = .ok (.aload_n 0, 1) := by decide +kernel
theorem dX5_readsWord_13 : decode cX5_readsWord 13 = .ok (.getfield 251, 3) := by decide +kernel
theorem dX5_readsWord_16 : decode cX5_readsWord 16 = .ok (.iastore, 1) := by decide +kernel
theorem dX5_readsWord_17 : decode cX5_readsWord 17 = .ok (.iconst 0, 1) := by decide +kernel
theorem dX5_readsWord_18 : decode cX5_readsWord 18 = .ok (.istore_n 1, 1) := by decide +kernel
theorem dX5_readsWord_19 : decode cX5_readsWord 19 = .ok (.iload_n 1, 1) := by decide +kernel
theorem dX5_readsWord_20 : decode cX5_readsWord 20 = .ok (.bipush 6, 2) := by decide +kernel
theorem dX5_readsWord_22 : decode cX5_readsWord 22 = .ok (.if_icmp .ge 29, 3) := by decide +kernel
theorem dX5_readsWord_25 : decode cX5_readsWord 25 = .ok (.aload_n 0, 1) := by decide +kernel
theorem dX5_readsWord_26 : decode cX5_readsWord 26 = .ok (.invokevirtual 261, 3) := by decide +kernel
theorem dX5_readsWord_29 : decode cX5_readsWord 29 = .ok (.invokestatic 119, 3) := by decide +kernel
theorem dX5_readsWord_32 : decode cX5_readsWord 32 = .ok (.ifCond .eq 19, 3) := by decide +kernel
theorem dX5_readsWord_35 : decode cX5_readsWord 35 = .ok (.aload_n 0, 1) := by decide +kernel
theorem dX5_readsWord_36 : decode cX5_readsWord 36 = .ok (.dup, 1) := by decide +kernel
theorem dX5_readsWord_37 : decode cX5_readsWord 37 = .ok (.getfield 251, 3) := by decide +kernel
theorem dX5_readsWord_40 : decode cX5_readsWord 40 = .ok (.iconst 1, 1) := by decide +kernel
theorem dX5_readsWord_41 : decode cX5_readsWord 41 = .ok (.iadd, 1) := by decide +kernel
theorem dX5_readsWord_42 : decode cX5_readsWord 42 = .ok (.putfield 251, 3) := by decide +kernel
theorem dX5_readsWord_45 : decode cX5_readsWord 45 = .ok (.iinc 1 1, 3) := by decide +kernel
theorem dX5_readsWord_48 : decode cX5_readsWord 48 = .ok (.goto (-29), 3) := by decide +kernel
theorem dX5_readsWord_51 : decode cX5_readsWord 51 = .ok (.aload_n 0, 1) := by decide +kernel
theorem dX5_readsWord_52 : decode cX5_readsWord 52 = .ok (.iload_n 1, 1) := by decide +kernel
theorem dX5_readsWord_53 : decode cX5_readsWord 53 = .ok (.ifCond .ne 7, 3) := by decide +kernel
theorem dX5_readsWord_56 : decode cX5_readsWord 56 = .ok (.iconst 1, 1) := by decide +kernel
theorem dX5_readsWord_57 : decode cX5_readsWord 57 = .ok (.goto 4, 3) := by decide +kernel
theorem dX5_readsWord_60 : decode cX5_readsWord 60 = .ok (.iconst 0, 1) := by decide +kernel
theorem dX5_readsWord_61 : decode cX5_readsWord 61 = .ok (.putfield 257, 3) := by decide +kernel
theorem dX5_readsWord_64 : decode cX5_readsWord 64 = .ok (.aload_n 0, 1) := by decide +kernel
theorem dX5_readsWord_65 : decode cX5_readsWord 65 = .ok (.bipush 58, 2) := by decide +kernel
theorem dX5_readsWord_67 : decode cX5_readsWord 67 = .ok (.invokevirtual 270, 3) := by decide +kernel
theorem dX5_readsWord_70 : decode cX5_readsWord 70 = .ok (.aload_n 0, 1) := by decide +kernel
theorem dX5_readsWord_71 : decode cX5_readsWord 71 = .ok (.getfield 25, 3) := by decide +kernel
theorem dX5_readsWord_74 : decode cX5_readsWord 74 = .ok (.iconst 4, 1) := by decide +kernel
theorem dX5_readsWord_75 : decode cX5_readsWord 75 = .ok (.aload_n 0, 1) := by decide +kernel
theorem dX5_readsWord_76 : decode cX5_readsWord 76 = .ok (.getfield 264, 3) := by decide +kernel
theorem dX5_readsWord_79 : decode cX5_readsWord 79 = .ok (.imul, 1) := by decide +kernel
theorem dX5_readsWord_80 : decode cX5_readsWord 80 = .ok (.iconst 1, 1) := by decide +kernel
theorem dX5_readsWord_81 : decode cX5_readsWord 81 = .ok (.iadd, 1) := by decide +kernel
theorem dX5_readsWord_82 : decode cX5_readsWord 82 = .ok (.aload_n 0, 1) := by decide +kernel
theorem dX5_readsWord_83 : decode cX5_readsWord 83 = .ok (.invokevirtual 267, 3) := by decide +kernel
theorem dX5_readsWord_86 : decode cX5_readsWord 86 = .ok (.iastore, 1) := by decide +kernel
theorem dX5_readsWord_87 : decode cX5_readsWord 87 = .ok (.aload_n 0, 1) := by decide +kernel
theorem dX5_readsWord_88 : decode cX5_readsWord 88 = .ok (.bipush 62, 2) := by decide +kernel
theorem dX5_readsWord_90 : decode cX5_readsWord 90 = .ok (.invokevirtual 270, 3) := by decide +kernel
theorem dX5_readsWord_93 : decode cX5_readsWord 93 = .ok (.aload_n 0, 1) := by decide +kernel
theorem dX5_readsWord_94 : decode cX5_readsWord 94 = .ok (.getfield 25, 3) := by decide +kernel
theorem dX5_readsWord_97 : decode cX5_readsWord 97 = .ok (.iconst 4, 1) := by decide +kernel
theorem dX5_readsWord_98 : decode cX5_readsWord 98 = .ok (.aload_n 0, 1) := by decide +kernel
theorem dX5_readsWord_99 : decode cX5_readsWord 99 = .ok (.getfield 264, 3) := by decide +kernel
theorem dX5_readsWord_102 : decode cX5_readsWord 102 = .ok (.imul, 1) := by decide +kernel
theorem dX5_readsWord_103 : decode cX5_readsWord 103 = .ok (.iconst 2, 1) := by decide +kernel
theorem dX5_readsWord_104 : decode cX5_readsWord 104 = .ok (.iadd, 1) := by decide +kernel
theorem dX5_readsWord_105 : decode cX5_readsWord 105 = .ok (.aload_n 0, 1) := by decide +kernel
theorem dX5_readsWord_106 : decode cX5_readsWord 106 = .ok (.invokevirtual 267, 3) := by decide +kernel
theorem dX5_readsWord_109 : decode cX5_readsWord 109 = .ok (.iastore, 1) := by decide +kernel
theorem dX5_readsWord_110 : decode cX5_readsWord 110 = .ok (.aload_n 0, 1) := by decide +kernel
theorem dX5_readsWord_111 : decode cX5_readsWord 111 = .ok (.bipush 47, 2) := by decide +kernel
theorem dX5_readsWord_113 : decode cX5_readsWord 113 = .ok (.invokevirtual 270, 3) := by decide +kernel
theorem dX5_readsWord_116 : decode cX5_readsWord 116 = .ok (.aload_n 0, 1) := by decide +kernel
theorem dX5_readsWord_117 : decode cX5_readsWord 117 = .ok (.invokevirtual 267, 3) := by decide +kernel
theorem dX5_readsWord_120 : decode cX5_readsWord 120 = .ok (.istore_n 2, 1) := by decide +kernel
theorem dX5_readsWord_121 : decode cX5_readsWord 121 = .ok (.aload_n 0, 1) := by decide +kernel
theorem dX5_readsWord_122 : decode cX5_readsWord 122 = .ok (.getfield 25, 3) := by decide +kernel
theorem dX5_readsWord_125 : decode cX5_readsWord 125 = .ok (.iconst 4, 1) := by decide +kernel
theorem dX5_readsWord_126 : decode cX5_readsWord 126 = .ok (.aload_n 0, 1) := by decide +kernel
theorem dX5_readsWord_127 : decode cX5_readsWord 127 = .ok (.getfield 264, 3) := by decide +kernel
theorem dX5_readsWord_130 : decode cX5_readsWord 130 = .ok (.imul, 1) := by decide +kernel
theorem dX5_readsWord_131 : decode cX5_readsWord 131 = .ok (.iconst 3, 1) := by decide +kernel
theorem dX5_readsWord_132 : decode cX5_readsWord 132 = .ok (.iadd, 1) := by decide +kernel
theorem dX5_readsWord_133 : decode cX5_readsWord 133 = .ok (.dup2, 1) := by decide +kernel
theorem dX5_readsWord_134 : decode cX5_readsWord 134 = .ok (.iaload, 1) := by decide +kernel
theorem dX5_readsWord_135 : decode cX5_readsWord 135 = .ok (.bipush 100, 2) := by decide +kernel
theorem dX5_readsWord_137 : decode cX5_readsWord 137 = .ok (.iload_n 2, 1) := by decide +kernel
theorem dX5_readsWord_138 : decode cX5_readsWord 138 = .ok (.imul, 1) := by decide +kernel
theorem dX5_readsWord_139 : decode cX5_readsWord 139 = .ok (.iadd, 1) := by decide +kernel
theorem dX5_readsWord_140 : decode cX5_readsWord 140 = .ok (.iastore, 1) := by decide +kernel
theorem dX5_readsWord_141 : decode cX5_readsWord 141 = .ok (.return_, 1) := by decide +kernel
theorem h9_X5_readsWord : yX5_readsWord.cls ≠ "java/lang/invoke/MethodHandle" ∧ yX5_readsWord.cls ≠ "java/lang/invoke/VarHandle" ∧ (parseMethodDescriptor yX5_readsWord.desc).map (fun d => d.parameters.length) = some 0 := by decide +kernel
noncomputable def F_X5_readsWord (a0 : Nat) (w : FW) : Option (FW) :=
  fg (w.1 a0 = 6) inferInstance (fg (w.1 (gR w 508 a0 0) = 11) inferInstance (fg (¬ (((4 * (gI w 521 a0 0)) + 3) < 0 ∨ w.2.1 (gR w 508 a0 0) ≤ Int32.toNatClampNeg ((4 * (gI w 521 a0 0)) + 3))) inferInstance ((fLoop (σ := Int32 × FW) (ρ := Int32 × FW) (fun s4 => (if 6 ≤ s4.1 then some (.inr (s4.1, s4.2)) else (F_X5_here a0 s4.2).bind (fun r14 => (F_X5_isLetter r14 s4.2).bind (fun r17 => (if r17 = 0 then some (.inr (s4.1, s4.2)) else some (.inl ((s4.1 + 1), (sI s4.2 519 a0 0 ((gI s4.2 519 a0 0) + 1))))))))) (0, (sI w 601 (gR w 508 a0 0) (Int32.toNatClampNeg ((4 * (gI w 521 a0 0)) + 3)) (gI w 519 a0 0)))).bind (fun x10 => ((if x10.1 = 0 then some 1 else some 0) : Option (Int32)).bind (fun x21 => fg (x21 = 0 ∨ x21 = 1) inferInstance ((F_X5_sign a0 58 (sI x10.2 522 a0 0 x21)).bind (fun r26 => (F_X5_digit a0 r26).bind (fun r29 => fg (w.1 (gR r26 508 a0 0) = 11) inferInstance (fg (¬ (((4 * (gI r26 521 a0 0)) + 1) < 0 ∨ w.2.1 (gR r26 508 a0 0) ≤ Int32.toNatClampNeg ((4 * (gI r26 521 a0 0)) + 1))) inferInstance ((F_X5_sign a0 62 (sI r29.2 601 (gR r26 508 a0 0) (Int32.toNatClampNeg ((4 * (gI r26 521 a0 0)) + 1)) r29.1)).bind (fun r34 => (F_X5_digit a0 r34).bind (fun r37 => fg (w.1 (gR r34 508 a0 0) = 11) inferInstance (fg (¬ (((4 * (gI r34 521 a0 0)) + 2) < 0 ∨ w.2.1 (gR r34 508 a0 0) ≤ Int32.toNatClampNeg ((4 * (gI r34 521 a0 0)) + 2))) inferInstance ((F_X5_sign a0 47 (sI r37.2 601 (gR r34 508 a0 0) (Int32.toNatClampNeg ((4 * (gI r34 521 a0 0)) + 2)) r37.1)).bind (fun r42 => (F_X5_digit a0 r42).bind (fun r45 => fg (w.1 (gR r45.2 508 a0 0) = 11) inferInstance (fg (¬ (((4 * (gI r45.2 521 a0 0)) + 3) < 0 ∨ w.2.1 (gR r45.2 508 a0 0) ≤ Int32.toNatClampNeg ((4 * (gI r45.2 521 a0 0)) + 3))) inferInstance (some (sI r45.2 601 (gR r45.2 508 a0 0) (Int32.toNatClampNeg ((4 * (gI r45.2 521 a0 0)) + 3)) ((gI r45.2 601 (gR r45.2 508 a0 0) (Int32.toNatClampNeg ((4 * (gI r45.2 521 a0 0)) + 3))) + (100 * r45.1)))))))))))))))))))))
set_option maxHeartbeats 4000000 in
set_option maxRecDepth 100000 in
theorem c_X5_readsWord (l : Launch) (D : va_G) (cy : Nat → ClassId) (a0 : Nat) (w : FW) (r : FW) (hF : F_X5_readsWord a0 w = some r) : fSpec l D cy yX5_readsWord cX5_readsWord 3 none { frames := 3, cells := 0, slots := 0, locals := 62 } [.ref a0] w r none := by
  refine f_begin (by decide +kernel) (Nat.le_of_ble_eq_true rfl) (fun X hC hEn => ?_)
  unfold F_X5_readsWord at hF
  show fAt X 0 0 3 w [(0, .ref a0)] [] 0
  refine f_aload_n hC dX5_readsWord_0 rfl 0 rfl ?_
  obtain ⟨g1, hF⟩ := fg_open hF
  refine f_getR hC 5 8 508 rfl (by decide) iX5 q_1267 rfl rfl (fSm.k (fSm.rf w) g1) dX5_readsWord_1 ?_
  refine f_iconst (v := 4) hC dX5_readsWord_4 (by decide) ?_
  refine f_aload_n hC dX5_readsWord_5 rfl 0 rfl ?_
  refine f_getI hC 5 21 521 rfl (by decide) iX5 q_1280 rfl rfl (fSm.k (fSm.rf w) g1) dX5_readsWord_6 ?_
  refine f_imul hC dX5_readsWord_9 ?_
  refine f_iconst (v := 3) hC dX5_readsWord_10 (by decide) ?_
  refine f_iadd hC dX5_readsWord_11 ?_
  refine f_aload_n hC dX5_readsWord_12 rfl 0 rfl ?_
  refine f_getI hC 5 19 519 rfl (by decide) iX5 q_1278 rfl rfl (fSm.k (fSm.rf w) g1) dX5_readsWord_13 ?_
  obtain ⟨g2, hF⟩ := fg_open hF
  obtain ⟨g3, hF⟩ := fg_open hF
  refine f_iast hC (fSm.k (fSm.rf w) g2) (fSm.v (fSm.rf w) g3) dX5_readsWord_16 ?_
  refine f_iconst (v := 0) hC dX5_readsWord_17 (by decide) ?_
  refine f_istore_n (L' := [(1, .int 0), (0, .ref a0)]) hC dX5_readsWord_18 rfl (by decide) rfl ?_
  obtain ⟨x10, h11, hF⟩ := fb_open hF
  have K12 : fSm x10.2 w → fAt X 0 0 3 x10.2 [(0, .ref a0), (1, .int x10.1)] [] 51 := by
    intro p8
    refine f_aload_n hC dX5_readsWord_51 rfl 0 rfl ?_
    refine f_iload_n hC dX5_readsWord_52 rfl 1 rfl ?_
    obtain ⟨x21, h22, hF⟩ := fb_open hF
    have K24 : fAt X 0 0 3 x10.2 [(0, .ref a0)] [.int x21, .ref a0] 61 := by
      obtain ⟨g25, hF⟩ := fg_open hF
      refine f_putI hC 5 22 522 rfl (by decide) iX5 tyX5 tyX5_ok nmX5 q_1281 rfl rfl rfl (nar_z g25) (fit_z g25) (fSm.k p8 g1) dX5_readsWord_61 ?_
      refine f_aload_n hC dX5_readsWord_64 rfl 0 rfl ?_
      refine f_bipush (v := 58) hC dX5_readsWord_65 (by decide) ?_
      obtain ⟨r26, h27, hF⟩ := fb_open hF
      refine f_callV hC [.int 58] (c_X5_sign l D cy a0 58 (sI x10.2 522 a0 0 x21) r26 h27) q_1721 q_137 q_1718 q_1720 q_126 h9_X5_sign rfl (fSm.k p8 g1) ⟨Nat.le_of_ble_eq_true rfl, Nat.le_of_ble_eq_true rfl⟩ ⟨Nat.le_of_ble_eq_true rfl, Nat.le_of_ble_eq_true rfl⟩ (Nat.le_of_ble_eq_true rfl) rfl dX5_readsWord_67 (fun e28 => ?_)
      refine f_aload_n hC dX5_readsWord_70 rfl 0 rfl ?_
      refine f_getR hC 5 8 508 rfl (by decide) iX5 q_1267 rfl rfl (fSm.k (fSm.tr e28 p8) g1) dX5_readsWord_71 ?_
      refine f_iconst (v := 4) hC dX5_readsWord_74 (by decide) ?_
      refine f_aload_n hC dX5_readsWord_75 rfl 0 rfl ?_
      refine f_getI hC 5 21 521 rfl (by decide) iX5 q_1280 rfl rfl (fSm.k (fSm.tr e28 p8) g1) dX5_readsWord_76 ?_
      refine f_imul hC dX5_readsWord_79 ?_
      refine f_iconst (v := 1) hC dX5_readsWord_80 (by decide) ?_
      refine f_iadd hC dX5_readsWord_81 ?_
      refine f_aload_n hC dX5_readsWord_82 rfl 0 rfl ?_
      obtain ⟨r29, h30, hF⟩ := fb_open hF
      refine f_callV hC [] (c_X5_digit l D cy a0 r26 r29 h30) q_1725 q_137 q_1722 q_1724 q_127 h9_X5_digit rfl (fSm.k (fSm.tr e28 p8) g1) ⟨Nat.le_of_ble_eq_true rfl, Nat.le_of_ble_eq_true rfl⟩ ⟨Nat.le_of_ble_eq_true rfl, Nat.le_of_ble_eq_true rfl⟩ (Nat.le_of_ble_eq_true rfl) rfl dX5_readsWord_83 (fun e31 => ?_)
      obtain ⟨g32, hF⟩ := fg_open hF
      obtain ⟨g33, hF⟩ := fg_open hF
      refine f_iast hC (fSm.k (fSm.tr e31 (fSm.tr e28 p8)) g32) (fSm.v (fSm.tr e31 (fSm.tr e28 p8)) g33) dX5_readsWord_86 ?_
      refine f_aload_n hC dX5_readsWord_87 rfl 0 rfl ?_
      refine f_bipush (v := 62) hC dX5_readsWord_88 (by decide) ?_
      obtain ⟨r34, h35, hF⟩ := fb_open hF
      refine f_callV hC [.int 62] (c_X5_sign l D cy a0 62 (sI r29.2 601 (gR r26 508 a0 0) (Int32.toNatClampNeg ((4 * (gI r26 521 a0 0)) + 1)) r29.1) r34 h35) q_1721 q_137 q_1718 q_1720 q_126 h9_X5_sign rfl (fSm.k (fSm.tr e31 (fSm.tr e28 p8)) g1) ⟨Nat.le_of_ble_eq_true rfl, Nat.le_of_ble_eq_true rfl⟩ ⟨Nat.le_of_ble_eq_true rfl, Nat.le_of_ble_eq_true rfl⟩ (Nat.le_of_ble_eq_true rfl) rfl dX5_readsWord_90 (fun e36 => ?_)
      refine f_aload_n hC dX5_readsWord_93 rfl 0 rfl ?_
      refine f_getR hC 5 8 508 rfl (by decide) iX5 q_1267 rfl rfl (fSm.k (fSm.tr e36 (fSm.tr e31 (fSm.tr e28 p8))) g1) dX5_readsWord_94 ?_
      refine f_iconst (v := 4) hC dX5_readsWord_97 (by decide) ?_
      refine f_aload_n hC dX5_readsWord_98 rfl 0 rfl ?_
      refine f_getI hC 5 21 521 rfl (by decide) iX5 q_1280 rfl rfl (fSm.k (fSm.tr e36 (fSm.tr e31 (fSm.tr e28 p8))) g1) dX5_readsWord_99 ?_
      refine f_imul hC dX5_readsWord_102 ?_
      refine f_iconst (v := 2) hC dX5_readsWord_103 (by decide) ?_
      refine f_iadd hC dX5_readsWord_104 ?_
      refine f_aload_n hC dX5_readsWord_105 rfl 0 rfl ?_
      obtain ⟨r37, h38, hF⟩ := fb_open hF
      refine f_callV hC [] (c_X5_digit l D cy a0 r34 r37 h38) q_1725 q_137 q_1722 q_1724 q_127 h9_X5_digit rfl (fSm.k (fSm.tr e36 (fSm.tr e31 (fSm.tr e28 p8))) g1) ⟨Nat.le_of_ble_eq_true rfl, Nat.le_of_ble_eq_true rfl⟩ ⟨Nat.le_of_ble_eq_true rfl, Nat.le_of_ble_eq_true rfl⟩ (Nat.le_of_ble_eq_true rfl) rfl dX5_readsWord_106 (fun e39 => ?_)
      obtain ⟨g40, hF⟩ := fg_open hF
      obtain ⟨g41, hF⟩ := fg_open hF
      refine f_iast hC (fSm.k (fSm.tr e39 (fSm.tr e36 (fSm.tr e31 (fSm.tr e28 p8)))) g40) (fSm.v (fSm.tr e39 (fSm.tr e36 (fSm.tr e31 (fSm.tr e28 p8)))) g41) dX5_readsWord_109 ?_
      refine f_aload_n hC dX5_readsWord_110 rfl 0 rfl ?_
      refine f_bipush (v := 47) hC dX5_readsWord_111 (by decide) ?_
      obtain ⟨r42, h43, hF⟩ := fb_open hF
      refine f_callV hC [.int 47] (c_X5_sign l D cy a0 47 (sI r37.2 601 (gR r34 508 a0 0) (Int32.toNatClampNeg ((4 * (gI r34 521 a0 0)) + 2)) r37.1) r42 h43) q_1721 q_137 q_1718 q_1720 q_126 h9_X5_sign rfl (fSm.k (fSm.tr e39 (fSm.tr e36 (fSm.tr e31 (fSm.tr e28 p8)))) g1) ⟨Nat.le_of_ble_eq_true rfl, Nat.le_of_ble_eq_true rfl⟩ ⟨Nat.le_of_ble_eq_true rfl, Nat.le_of_ble_eq_true rfl⟩ (Nat.le_of_ble_eq_true rfl) rfl dX5_readsWord_113 (fun e44 => ?_)
      refine f_aload_n hC dX5_readsWord_116 rfl 0 rfl ?_
      obtain ⟨r45, h46, hF⟩ := fb_open hF
      refine f_callV hC [] (c_X5_digit l D cy a0 r42 r45 h46) q_1725 q_137 q_1722 q_1724 q_127 h9_X5_digit rfl (fSm.k (fSm.tr e44 (fSm.tr e39 (fSm.tr e36 (fSm.tr e31 (fSm.tr e28 p8))))) g1) ⟨Nat.le_of_ble_eq_true rfl, Nat.le_of_ble_eq_true rfl⟩ ⟨Nat.le_of_ble_eq_true rfl, Nat.le_of_ble_eq_true rfl⟩ (Nat.le_of_ble_eq_true rfl) rfl dX5_readsWord_117 (fun e47 => ?_)
      refine f_istore_n (L' := [(2, .int r45.1), (0, .ref a0)]) hC dX5_readsWord_120 rfl (by decide) rfl ?_
      refine f_aload_n hC dX5_readsWord_121 rfl 1 rfl ?_
      refine f_getR hC 5 8 508 rfl (by decide) iX5 q_1267 rfl rfl (fSm.k (fSm.tr e47 (fSm.tr e44 (fSm.tr e39 (fSm.tr e36 (fSm.tr e31 (fSm.tr e28 p8)))))) g1) dX5_readsWord_122 ?_
      refine f_iconst (v := 4) hC dX5_readsWord_125 (by decide) ?_
      refine f_aload_n hC dX5_readsWord_126 rfl 1 rfl ?_
      refine f_getI hC 5 21 521 rfl (by decide) iX5 q_1280 rfl rfl (fSm.k (fSm.tr e47 (fSm.tr e44 (fSm.tr e39 (fSm.tr e36 (fSm.tr e31 (fSm.tr e28 p8)))))) g1) dX5_readsWord_127 ?_
      refine f_imul hC dX5_readsWord_130 ?_
      refine f_iconst (v := 3) hC dX5_readsWord_131 (by decide) ?_
      refine f_iadd hC dX5_readsWord_132 ?_
      refine f_dup2 hC dX5_readsWord_133 rfl rfl ?_
      obtain ⟨g48, hF⟩ := fg_open hF
      obtain ⟨g49, hF⟩ := fg_open hF
      refine f_iald hC (fSm.k (fSm.tr e47 (fSm.tr e44 (fSm.tr e39 (fSm.tr e36 (fSm.tr e31 (fSm.tr e28 p8)))))) g48) (fSm.v (fSm.tr e47 (fSm.tr e44 (fSm.tr e39 (fSm.tr e36 (fSm.tr e31 (fSm.tr e28 p8)))))) g49) dX5_readsWord_134 ?_
      refine f_bipush (v := 100) hC dX5_readsWord_135 (by decide) ?_
      refine f_iload_n hC dX5_readsWord_137 rfl 0 rfl ?_
      refine f_imul hC dX5_readsWord_138 ?_
      refine f_iadd hC dX5_readsWord_139 ?_
      refine f_iast hC (fSm.k (fSm.tr e47 (fSm.tr e44 (fSm.tr e39 (fSm.tr e36 (fSm.tr e31 (fSm.tr e28 p8)))))) g48) (fSm.v (fSm.tr e47 (fSm.tr e44 (fSm.tr e39 (fSm.tr e36 (fSm.tr e31 (fSm.tr e28 p8)))))) g49) dX5_readsWord_140 ?_
      obtain rfl := Option.some.inj hF
      exact f_vret hC hEn (fSm.tr e47 (fSm.tr e44 (fSm.tr e39 (fSm.tr e36 (fSm.tr e31 (fSm.tr e28 p8)))))) dX5_readsWord_141
    refine f_if_ne hC 60 dX5_readsWord_53 (by decide) (fun c50 => ?_) (fun c50 => ?_)
    · replace h22 := fi_neg h22 c50
      refine f_iconst (v := 0) hC dX5_readsWord_60 (by decide) ?_
      obtain rfl := Option.some.inj h22
      refine f_sub (L' := [(0, .ref a0)]) [0] rfl ?_
      exact K24
    · replace h22 := fi_pos h22 c50
      refine f_iconst (v := 1) hC dX5_readsWord_56 (by decide) ?_
      refine f_goto hC 61 dX5_readsWord_57 (by decide) ?_
      obtain rfl := Option.some.inj h22
      refine f_sub (L' := [(0, .ref a0)]) [0] rfl ?_
      exact K24
  refine f_sub (L' := [(0, .ref a0), (1, .int 0)]) [1, 0] rfl ?_
  refine fLoop_ind (fun (s4 : Int32 × FW) => fSm s4.2 w → fAt X 0 0 3 s4.2 [(0, .ref a0), (1, .int s4.1)] [] 19) (fun s4 y9 h5 go6 ou7 => ?_) h11 (fSm.rf w)
  intro p8
  refine f_iload_n hC dX5_readsWord_19 rfl 1 rfl ?_
  refine f_bipush (v := 6) hC dX5_readsWord_20 (by decide) ?_
  refine f_icmp_ge hC 51 dX5_readsWord_22 (by decide) (fun c13 => ?_) (fun c13 => ?_)
  · replace h5 := fi_pos h5 c13
    obtain rfl := Option.some.inj h5
    obtain rfl := ou7 _ rfl
    exact K12 p8
  · replace h5 := fi_neg h5 c13
    refine f_aload_n hC dX5_readsWord_25 rfl 0 rfl ?_
    obtain ⟨r14, h15, h5⟩ := fb_open h5
    refine f_callV hC [] (c_X5_here l D cy a0 s4.2 r14 h15) q_1713 q_137 q_1710 q_1712 q_124 h9_X5_here rfl (fSm.k p8 g1) ⟨Nat.le_of_ble_eq_true rfl, Nat.le_of_ble_eq_true rfl⟩ ⟨Nat.le_of_ble_eq_true rfl, Nat.le_of_ble_eq_true rfl⟩ (Nat.le_of_ble_eq_true rfl) rfl dX5_readsWord_26 (fun e16 => ?_)
    obtain ⟨r17, h18, h5⟩ := fb_open h5
    refine f_callS hC [.int r14] (c_X5_isLetter l D cy r14 s4.2 r17 h18) q_1351 q_137 q_1349 q_1350 h9_X5_isLetter ⟨Nat.le_of_ble_eq_true rfl, Nat.le_of_ble_eq_true rfl⟩ ⟨Nat.le_of_ble_eq_true rfl, Nat.le_of_ble_eq_true rfl⟩ (Nat.le_of_ble_eq_true rfl) rfl dX5_readsWord_29 (fun e19 => ?_)
    refine f_if_eq hC 51 dX5_readsWord_32 (by decide) (fun c20 => ?_) (fun c20 => ?_)
    · replace h5 := fi_pos h5 c20
      obtain rfl := Option.some.inj h5
      obtain rfl := ou7 _ rfl
      exact K12 p8
    · replace h5 := fi_neg h5 c20
      refine f_aload_n hC dX5_readsWord_35 rfl 0 rfl ?_
      refine f_dup hC dX5_readsWord_36 rfl ?_
      refine f_getI hC 5 19 519 rfl (by decide) iX5 q_1278 rfl rfl (fSm.k p8 g1) dX5_readsWord_37 ?_
      refine f_iconst (v := 1) hC dX5_readsWord_40 (by decide) ?_
      refine f_iadd hC dX5_readsWord_41 ?_
      refine f_putI hC 5 19 519 rfl (by decide) iX5 tyX5 tyX5_ok nmX5 q_1278 rfl rfl rfl rfl rfl (fSm.k p8 g1) dX5_readsWord_42 ?_
      refine f_iinc (L' := [(1, .int (s4.1 + 1)), (0, .ref a0)]) hC dX5_readsWord_45 1 rfl rfl (by decide) rfl ?_
      refine f_goto hC 19 dX5_readsWord_48 (by decide) ?_
      obtain rfl := Option.some.inj h5
      refine f_sub (L' := [(0, .ref a0), (1, .int (s4.1 + 1))]) [1, 0] rfl ?_
      exact go6 _ rfl p8
theorem dX5_readsOne_0 : decode cX5_readsOne 0 = .ok (.aload_n 0, 1) := by decide +kernel
theorem dX5_readsOne_1 : decode cX5_readsOne 1 = .ok (.invokevirtual 261, 3) := by decide +kernel
theorem dX5_readsOne_4 : decode cX5_readsOne 4 = .ok (.istore_n 1, 1) := by decide +kernel
theorem dX5_readsOne_5 : decode cX5_readsOne 5 = .ok (.aload_n 0, 1) := by decide +kernel
theorem dX5_readsOne_6 : decode cX5_readsOne 6 = .ok (.getfield 25, 3) := by decide +kernel
theorem dX5_readsOne_9 : decode cX5_readsOne 9 = .ok (.iconst 4, 1) := by decide +kernel
theorem dX5_readsOne_10 : decode cX5_readsOne 10 = .ok (.aload_n 0, 1) := by decide +kernel
theorem dX5_readsOne_11 : decode cX5_readsOne 11 = .ok (.getfield 264, 3) := by decide +kernel
theorem dX5_readsOne_14 : decode cX5_readsOne 14 = .ok (.imul, 1) := by decide +kernel
theorem dX5_readsOne_15 : decode cX5_readsOne 15 = .ok (.iload_n 1, 1) := by decide +kernel
theorem dX5_readsOne_16 : decode cX5_readsOne 16 = .ok (.iastore, 1) := by decide +kernel
theorem dX5_readsOne_17 : decode cX5_readsOne 17 = .ok (.aload_n 0, 1) := by decide +kernel
theorem dX5_readsOne_18 : decode cX5_readsOne 18 = .ok (.dup, 1) := by decide +kernel
theorem dX5_readsOne_19 : decode cX5_readsOne 19 = .ok (.getfield 251, 3) := by decide +kernel
theorem dX5_readsOne_22 : decode cX5_readsOne 22 = .ok (.iload_n 1, 1) := by decide +kernel
theorem dX5_readsOne_23 : decode cX5_readsOne 23 = .ok (.iconst (-1), 1) := by decide +kernel
theorem dX5_readsOne_24 : decode cX5_readsOne 24 = .ok (.if_icmp .ne 7, 3) := by decide +kernel
theorem dX5_readsOne_27 : decode cX5_readsOne 27 = .ok (.iconst 0, 1) := by decide +kernel
theorem dX5_readsOne_28 : decode cX5_readsOne 28 = .ok (.goto 4, 3) := by decide +kernel
theorem dX5_readsOne_31 : decode cX5_readsOne 31 = .ok (.iconst 1, 1) := by decide +kernel
theorem dX5_readsOne_32 : decode cX5_readsOne 32 = .ok (.iadd, 1) := by decide +kernel
theorem dX5_readsOne_33 : decode cX5_readsOne 33 = .ok (.putfield 251, 3) := by decide +kernel
theorem dX5_readsOne_36 : decode cX5_readsOne 36 = .ok (.iload_n 1, 1) := by decide +kernel
theorem dX5_readsOne_37 : decode cX5_readsOne 37 = .ok (.tableswitch 243 99 120 #[220, 240, 243, 170, 170, 243, 243, 243, 243, 170, 177, 103, 220, 110, 243, 243, 243, 220, 243, 243, 140, 220], 103) := by decide +kernel
theorem dX5_readsOne_140 : decode cX5_readsOne 140 = .ok (.aload_n 0, 1) := by decide +kernel
theorem dX5_readsOne_141 : decode cX5_readsOne 141 = .ok (.invokevirtual 273, 3) := by decide +kernel
theorem dX5_readsOne_144 : decode cX5_readsOne 144 = .ok (.goto 160, 3) := by decide +kernel
theorem dX5_readsOne_147 : decode cX5_readsOne 147 = .ok (.aload_n 0, 1) := by decide +kernel
theorem dX5_readsOne_148 : decode cX5_readsOne 148 = .ok (.invokevirtual 276, 3) := by decide +kernel
theorem dX5_readsOne_151 : decode cX5_readsOne 151 = .ok (.aload_n 0, 1) := by decide +kernel
theorem dX5_readsOne_152 : decode cX5_readsOne 152 = .ok (.bipush 61, 2) := by decide +kernel
theorem dX5_readsOne_154 : decode cX5_readsOne 154 = .ok (.invokevirtual 270, 3) := by decide +kernel
theorem dX5_readsOne_157 : decode cX5_readsOne 157 = .ok (.aload_n 0, 1) := by decide +kernel
theorem dX5_readsOne_158 : decode cX5_readsOne 158 = .ok (.getfield 25, 3) := by decide +kernel
theorem dX5_readsOne_161 : decode cX5_readsOne 161 = .ok (.iconst 4, 1) := by decide +kernel
theorem dX5_readsOne_162 : decode cX5_readsOne 162 = .ok (.aload_n 0, 1) := by decide +kernel
theorem dX5_readsOne_163 : decode cX5_readsOne 163 = .ok (.getfield 264, 3) := by decide +kernel
theorem dX5_readsOne_166 : decode cX5_readsOne 166 = .ok (.imul, 1) := by decide +kernel
theorem dX5_readsOne_167 : decode cX5_readsOne 167 = .ok (.iconst 3, 1) := by decide +kernel
theorem dX5_readsOne_168 : decode cX5_readsOne 168 = .ok (.iadd, 1) := by decide +kernel
theorem dX5_readsOne_169 : decode cX5_readsOne 169 = .ok (.aload_n 0, 1) := by decide +kernel
theorem dX5_readsOne_170 : decode cX5_readsOne 170 = .ok (.invokevirtual 267, 3) := by decide +kernel
theorem dX5_readsOne_173 : decode cX5_readsOne 173 = .ok (.iastore, 1) := by decide +kernel
theorem dX5_readsOne_174 : decode cX5_readsOne 174 = .ok (.goto 130, 3) := by decide +kernel
theorem dX5_readsOne_177 : decode cX5_readsOne 177 = .ok (.aload_n 0, 1) := by decide +kernel
theorem dX5_readsOne_178 : decode cX5_readsOne 178 = .ok (.invokevirtual 276, 3) := by decide +kernel
theorem dX5_readsOne_181 : decode cX5_readsOne 181 = .ok (.aload_n 0, 1) := by decide +kernel
theorem dX5_readsOne_182 : decode cX5_readsOne 182 = .ok (.bipush 43, 2) := by decide +kernel
theorem dX5_readsOne_184 : decode cX5_readsOne 184 = .ok (.invokevirtual 270, 3) := by decide +kernel
theorem dX5_readsOne_187 : decode cX5_readsOne 187 = .ok (.aload_n 0, 1) := by decide +kernel
theorem dX5_readsOne_188 : decode cX5_readsOne 188 = .ok (.getfield 25, 3) := by decide +kernel
theorem dX5_readsOne_191 : decode cX5_readsOne 191 = .ok (.iconst 4, 1) := by decide +kernel
theorem dX5_readsOne_192 : decode cX5_readsOne 192 = .ok (.aload_n 0, 1) := by decide +kernel
theorem dX5_readsOne_193 : decode cX5_readsOne 193 = .ok (.getfield 264, 3) := by decide +kernel
theorem dX5_readsOne_196 : decode cX5_readsOne 196 = .ok (.imul, 1) := by decide +kernel
theorem dX5_readsOne_197 : decode cX5_readsOne 197 = .ok (.iconst 3, 1) := by decide +kernel
theorem dX5_readsOne_198 : decode cX5_readsOne 198 = .ok (.iadd, 1) := by decide +kernel
theorem dX5_readsOne_199 : decode cX5_readsOne 199 = .ok (.aload_n 0, 1) := by decide +kernel
theorem dX5_readsOne_200 : decode cX5_readsOne 200 = .ok (.invokevirtual 267, 3) := by decide +kernel
theorem dX5_readsOne_203 : decode cX5_readsOne 203 = .ok (.iastore, 1) := by decide +kernel
theorem dX5_readsOne_204 : decode cX5_readsOne 204 = .ok (.goto 100, 3) := by decide +kernel
theorem dX5_readsOne_207 : decode cX5_readsOne 207 = .ok (.aload_n 0, 1) := by decide +kernel
theorem dX5_readsOne_208 : decode cX5_readsOne 208 = .ok (.invokevirtual 276, 3) := by decide +kernel
theorem dX5_readsOne_211 : decode cX5_readsOne 211 = .ok (.goto 93, 3) := by decide +kernel
theorem dX5_readsOne_214 : decode cX5_readsOne 214 = .ok (.aload_n 0, 1) := by decide +kernel
theorem dX5_readsOne_215 : decode cX5_readsOne 215 = .ok (.getfield 25, 3) := by decide +kernel
theorem dX5_readsOne_218 : decode cX5_readsOne 218 = .ok (.iconst 4, 1) := by decide +kernel
theorem dX5_readsOne_219 : decode cX5_readsOne 219 = .ok (.aload_n 0, 1) := by decide +kernel
theorem dX5_readsOne_220 : decode cX5_readsOne 220 = .ok (.getfield 264, 3) := by decide +kernel
theorem dX5_readsOne_223 : decode cX5_readsOne 223 = .ok (.imul, 1) := by decide +kernel
theorem dX5_readsOne_224 : decode cX5_readsOne 224 = .ok (.iconst 1, 1) := by decide +kernel
theorem dX5_readsOne_225 : decode cX5_readsOne 225 = .ok (.iadd, 1) := by decide +kernel
theorem dX5_readsOne_226 : decode cX5_readsOne 226 = .ok (.aload_n 0, 1) := by decide +kernel
theorem dX5_readsOne_227 : decode cX5_readsOne 227 = .ok (.invokevirtual 267, 3) := by decide +kernel
theorem dX5_readsOne_230 : decode cX5_readsOne 230 = .ok (.iastore, 1) := by decide +kernel
theorem dX5_readsOne_231 : decode cX5_readsOne 231 = .ok (.aload_n 0, 1) := by decide +kernel
theorem dX5_readsOne_232 : decode cX5_readsOne 232 = .ok (.bipush 61, 2) := by decide +kernel
theorem dX5_readsOne_234 : decode cX5_readsOne 234 = .ok (.invokevirtual 270, 3) := by decide +kernel
theorem dX5_readsOne_237 : decode cX5_readsOne 237 = .ok (.aload_n 0, 1) := by decide +kernel
theorem dX5_readsOne_238 : decode cX5_readsOne 238 = .ok (.getfield 25, 3) := by decide +kernel
theorem dX5_readsOne_241 : decode cX5_readsOne 241 = .ok (.iconst 4, 1) := by decide +kernel
theorem dX5_readsOne_242 : decode cX5_readsOne 242 = .ok (.aload_n 0, 1) := by decide +kernel
theorem dX5_readsOne_243 : decode cX5_readsOne 243 = .ok (.getfield 264, 3) := by decide +kernel
theorem dX5_readsOne_246 : decode cX5_readsOne 246 = .ok (.imul, 1) := by decide +kernel
theorem dX5_readsOne_247 : decode cX5_readsOne 247 = .ok (.iconst 2, 1) := by decide +kernel
theorem dX5_readsOne_248 : decode cX5_readsOne 248 = .ok (.iadd, 1) := by decide +kernel
theorem dX5_readsOne_249 : decode cX5_readsOne 249 = .ok (.aload_n 0, 1) := by decide +kernel
theorem dX5_readsOne_250 : decode cX5_readsOne 250 = .ok (.invokevirtual 267, 3) := by decide +kernel
theorem dX5_readsOne_253 : decode cX5_readsOne 253 = .ok (.iastore, 1) := by decide +kernel
theorem dX5_readsOne_254 : decode cX5_readsOne 254 = .ok (.goto 50, 3) := by decide +kernel
theorem dX5_readsOne_257 : decode cX5_readsOne 257 = .ok (.aload_n 0, 1) := by decide +kernel
theorem dX5_readsOne_258 : decode cX5_readsOne 258 = .ok (.getfield 25, 3) := by decide +kernel
theorem dX5_readsOne_261 : decode cX5_readsOne 261 = .ok (.iconst 4, 1) := by decide +kernel
theorem dX5_readsOne_262 : decode cX5_readsOne 262 = .ok (.aload_n 0, 1) := by decide +kernel
theorem dX5_readsOne_263 : decode cX5_readsOne 263 = .ok (.getfield 264, 3) := by decide +kernel
theorem dX5_readsOne_266 : decode cX5_readsOne 266 = .ok (.imul, 1) := by decide +kernel
theorem dX5_readsOne_267 : decode cX5_readsOne 267 = .ok (.iconst 1, 1) := by decide +kernel
theorem dX5_readsOne_268 : decode cX5_readsOne 268 = .ok (.iadd, 1) := by decide +kernel
theorem dX5_readsOne_269 : decode cX5_readsOne 269 = .ok (.aload_n 0, 1) := by decide +kernel
theorem dX5_readsOne_270 : decode cX5_readsOne 270 = .ok (.invokevirtual 267, 3) := by decide +kernel
theorem dX5_readsOne_273 : decode cX5_readsOne 273 = .ok (.iastore, 1) := by decide +kernel
theorem dX5_readsOne_274 : decode cX5_readsOne 274 = .ok (.goto 30, 3) := by decide +kernel
theorem dX5_readsOne_277 : decode cX5_readsOne 277 = .ok (.goto 27, 3) := by decide +kernel
theorem dX5_readsOne_280 : decode cX5_readsOne 280 = .ok (.aload_n 0, 1) := by decide +kernel
theorem dX5_readsOne_281 : decode cX5_readsOne 281 = .ok (.iconst 1, 1) := by decide +kernel
theorem dX5_readsOne_282 : decode cX5_readsOne 282 = .ok (.putfield 257, 3) := by decide +kernel
theorem dX5_readsOne_285 : decode cX5_readsOne 285 = .ok (.aload_n 0, 1) := by decide +kernel
theorem dX5_readsOne_286 : decode cX5_readsOne 286 = .ok (.dup, 1) := by decide +kernel
theorem dX5_readsOne_287 : decode cX5_readsOne 287 = .ok (.getfield 251, 3) := by decide +kernel
theorem dX5_readsOne_290 : decode cX5_readsOne 290 = .ok (.iload_n 1, 1) := by decide +kernel
theorem dX5_readsOne_291 : decode cX5_readsOne 291 = .ok (.iconst (-1), 1) := by decide +kernel
theorem dX5_readsOne_292 : decode cX5_readsOne 292 = .ok (.if_icmp .ne 7, 3) := by decide +kernel
theorem dX5_readsOne_295 : decode cX5_readsOne 295 = .ok (.iconst 0, 1) := by decide +kernel
theorem dX5_readsOne_296 : decode cX5_readsOne 296 = .ok (.goto 4, 3) := by decide +kernel
theorem dX5_readsOne_299 : decode cX5_readsOne 299 = .ok (.iconst 1, 1) := by decide +kernel
theorem dX5_readsOne_300 : decode cX5_readsOne 300 = .ok (.isub, 1) := by decide +kernel
theorem dX5_readsOne_301 : decode cX5_readsOne 301 = .ok (.putfield 251, 3) := by decide +kernel
theorem dX5_readsOne_304 : decode cX5_readsOne 304 = .ok (.aload_n 0, 1) := by decide +kernel
theorem dX5_readsOne_305 : decode cX5_readsOne 305 = .ok (.dup, 1) := by decide +kernel
theorem dX5_readsOne_306 : decode cX5_readsOne 306 = .ok (.getfield 264, 3) := by decide +kernel
theorem dX5_readsOne_309 : decode cX5_readsOne 309 = .ok (.iconst 1, 1) := by decide +kernel
theorem dX5_readsOne_310 : decode cX5_readsOne 310 = .ok (.iadd, 1) := by decide +kernel
theorem dX5_readsOne_311 : decode cX5_readsOne 311 = .ok (.putfield 264, 3) := by decide +kernel
theorem dX5_readsOne_314 : decode cX5_readsOne 314 = .ok (.return_, 1) := by decide +kernel
theorem h9_X5_readsOne : yX5_readsOne.cls ≠ "java/lang/invoke/MethodHandle" ∧ yX5_readsOne.cls ≠ "java/lang/invoke/VarHandle" ∧ (parseMethodDescriptor yX5_readsOne.desc).map (fun d => d.parameters.length) = some 0 := by decide +kernel
noncomputable def F_X5_readsOne (a0 : Nat) (w : FW) : Option (FW) :=
  fg (w.1 a0 = 6) inferInstance ((F_X5_here a0 w).bind (fun r1 => fg (w.1 (gR w 508 a0 0) = 11) inferInstance (fg (¬ ((4 * (gI w 521 a0 0)) < 0 ∨ w.2.1 (gR w 508 a0 0) ≤ Int32.toNatClampNeg (4 * (gI w 521 a0 0)))) inferInstance (((if r1 = (-1) then some 0 else some 1) : Option (Int32)).bind (fun x7 => ((if r1 = 99 then (F_X5_digit a0 (sI (sI w 601 (gR w 508 a0 0) (Int32.toNatClampNeg (4 * (gI w 521 a0 0))) r1) 519 a0 0 ((gI (sI w 601 (gR w 508 a0 0) (Int32.toNatClampNeg (4 * (gI w 521 a0 0))) r1) 519 a0 0) + x7))).bind (fun r16 => fg (¬ (((4 * (gI (sI (sI w 601 (gR w 508 a0 0) (Int32.toNatClampNeg (4 * (gI w 521 a0 0))) r1) 519 a0 0 ((gI (sI w 601 (gR w 508 a0 0) (Int32.toNatClampNeg (4 * (gI w 521 a0 0))) r1) 519 a0 0) + x7)) 521 a0 0)) + 1) < 0 ∨ w.2.1 (gR w 508 a0 0) ≤ Int32.toNatClampNeg ((4 * (gI (sI (sI w 601 (gR w 508 a0 0) (Int32.toNatClampNeg (4 * (gI w 521 a0 0))) r1) 519 a0 0 ((gI (sI w 601 (gR w 508 a0 0) (Int32.toNatClampNeg (4 * (gI w 521 a0 0))) r1) 519 a0 0) + x7)) 521 a0 0)) + 1))) inferInstance (some (sI r16.2 601 (gR (sI (sI w 601 (gR w 508 a0 0) (Int32.toNatClampNeg (4 * (gI w 521 a0 0))) r1) 519 a0 0 ((gI (sI w 601 (gR w 508 a0 0) (Int32.toNatClampNeg (4 * (gI w 521 a0 0))) r1) 519 a0 0) + x7)) 508 a0 0) (Int32.toNatClampNeg ((4 * (gI (sI (sI w 601 (gR w 508 a0 0) (Int32.toNatClampNeg (4 * (gI w 521 a0 0))) r1) 519 a0 0 ((gI (sI w 601 (gR w 508 a0 0) (Int32.toNatClampNeg (4 * (gI w 521 a0 0))) r1) 519 a0 0) + x7)) 521 a0 0)) + 1)) r16.1))) else (if r1 = 100 then some (sI (sI w 601 (gR w 508 a0 0) (Int32.toNatClampNeg (4 * (gI w 521 a0 0))) r1) 519 a0 0 ((gI (sI w 601 (gR w 508 a0 0) (Int32.toNatClampNeg (4 * (gI w 521 a0 0))) r1) 519 a0 0) + x7)) else (if r1 = 101 then (if r1 = (-1) then some (sI (sI (sI (sI w 601 (gR w 508 a0 0) (Int32.toNatClampNeg (4 * (gI w 521 a0 0))) r1) 519 a0 0 ((gI (sI w 601 (gR w 508 a0 0) (Int32.toNatClampNeg (4 * (gI w 521 a0 0))) r1) 519 a0 0) + x7)) 522 a0 0 1) 519 a0 0 ((gI (sI (sI (sI w 601 (gR w 508 a0 0) (Int32.toNatClampNeg (4 * (gI w 521 a0 0))) r1) 519 a0 0 ((gI (sI w 601 (gR w 508 a0 0) (Int32.toNatClampNeg (4 * (gI w 521 a0 0))) r1) 519 a0 0) + x7)) 522 a0 0 1) 519 a0 0) - 0)) else some (sI (sI (sI (sI w 601 (gR w 508 a0 0) (Int32.toNatClampNeg (4 * (gI w 521 a0 0))) r1) 519 a0 0 ((gI (sI w 601 (gR w 508 a0 0) (Int32.toNatClampNeg (4 * (gI w 521 a0 0))) r1) 519 a0 0) + x7)) 522 a0 0 1) 519 a0 0 ((gI (sI (sI (sI w 601 (gR w 508 a0 0) (Int32.toNatClampNeg (4 * (gI w 521 a0 0))) r1) 519 a0 0 ((gI (sI w 601 (gR w 508 a0 0) (Int32.toNatClampNeg (4 * (gI w 521 a0 0))) r1) 519 a0 0) + x7)) 522 a0 0 1) 519 a0 0) - 1))) else (if r1 = 102 then (F_X5_readsHalf a0 (sI (sI w 601 (gR w 508 a0 0) (Int32.toNatClampNeg (4 * (gI w 521 a0 0))) r1) 519 a0 0 ((gI (sI w 601 (gR w 508 a0 0) (Int32.toNatClampNeg (4 * (gI w 521 a0 0))) r1) 519 a0 0) + x7))).bind (fun r24 => some r24) else (if r1 = 103 then (F_X5_readsHalf a0 (sI (sI w 601 (gR w 508 a0 0) (Int32.toNatClampNeg (4 * (gI w 521 a0 0))) r1) 519 a0 0 ((gI (sI w 601 (gR w 508 a0 0) (Int32.toNatClampNeg (4 * (gI w 521 a0 0))) r1) 519 a0 0) + x7))).bind (fun r28 => some r28) else (if r1 = 104 then (if r1 = (-1) then some (sI (sI (sI (sI w 601 (gR w 508 a0 0) (Int32.toNatClampNeg (4 * (gI w 521 a0 0))) r1) 519 a0 0 ((gI (sI w 601 (gR w 508 a0 0) (Int32.toNatClampNeg (4 * (gI w 521 a0 0))) r1) 519 a0 0) + x7)) 522 a0 0 1) 519 a0 0 ((gI (sI (sI (sI w 601 (gR w 508 a0 0) (Int32.toNatClampNeg (4 * (gI w 521 a0 0))) r1) 519 a0 0 ((gI (sI w 601 (gR w 508 a0 0) (Int32.toNatClampNeg (4 * (gI w 521 a0 0))) r1) 519 a0 0) + x7)) 522 a0 0 1) 519 a0 0) - 0)) else some (sI (sI (sI (sI w 601 (gR w 508 a0 0) (Int32.toNatClampNeg (4 * (gI w 521 a0 0))) r1) 519 a0 0 ((gI (sI w 601 (gR w 508 a0 0) (Int32.toNatClampNeg (4 * (gI w 521 a0 0))) r1) 519 a0 0) + x7)) 522 a0 0 1) 519 a0 0 ((gI (sI (sI (sI w 601 (gR w 508 a0 0) (Int32.toNatClampNeg (4 * (gI w 521 a0 0))) r1) 519 a0 0 ((gI (sI w 601 (gR w 508 a0 0) (Int32.toNatClampNeg (4 * (gI w 521 a0 0))) r1) 519 a0 0) + x7)) 522 a0 0 1) 519 a0 0) - 1))) else (if r1 = 105 then (if r1 = (-1) then some (sI (sI (sI (sI w 601 (gR w 508 a0 0) (Int32.toNatClampNeg (4 * (gI w 521 a0 0))) r1) 519 a0 0 ((gI (sI w 601 (gR w 508 a0 0) (Int32.toNatClampNeg (4 * (gI w 521 a0 0))) r1) 519 a0 0) + x7)) 522 a0 0 1) 519 a0 0 ((gI (sI (sI (sI w 601 (gR w 508 a0 0) (Int32.toNatClampNeg (4 * (gI w 521 a0 0))) r1) 519 a0 0 ((gI (sI w 601 (gR w 508 a0 0) (Int32.toNatClampNeg (4 * (gI w 521 a0 0))) r1) 519 a0 0) + x7)) 522 a0 0 1) 519 a0 0) - 0)) else some (sI (sI (sI (sI w 601 (gR w 508 a0 0) (Int32.toNatClampNeg (4 * (gI w 521 a0 0))) r1) 519 a0 0 ((gI (sI w 601 (gR w 508 a0 0) (Int32.toNatClampNeg (4 * (gI w 521 a0 0))) r1) 519 a0 0) + x7)) 522 a0 0 1) 519 a0 0 ((gI (sI (sI (sI w 601 (gR w 508 a0 0) (Int32.toNatClampNeg (4 * (gI w 521 a0 0))) r1) 519 a0 0 ((gI (sI w 601 (gR w 508 a0 0) (Int32.toNatClampNeg (4 * (gI w 521 a0 0))) r1) 519 a0 0) + x7)) 522 a0 0 1) 519 a0 0) - 1))) else (if r1 = 106 then (if r1 = (-1) then some (sI (sI (sI (sI w 601 (gR w 508 a0 0) (Int32.toNatClampNeg (4 * (gI w 521 a0 0))) r1) 519 a0 0 ((gI (sI w 601 (gR w 508 a0 0) (Int32.toNatClampNeg (4 * (gI w 521 a0 0))) r1) 519 a0 0) + x7)) 522 a0 0 1) 519 a0 0 ((gI (sI (sI (sI w 601 (gR w 508 a0 0) (Int32.toNatClampNeg (4 * (gI w 521 a0 0))) r1) 519 a0 0 ((gI (sI w 601 (gR w 508 a0 0) (Int32.toNatClampNeg (4 * (gI w 521 a0 0))) r1) 519 a0 0) + x7)) 522 a0 0 1) 519 a0 0) - 0)) else some (sI (sI (sI (sI w 601 (gR w 508 a0 0) (Int32.toNatClampNeg (4 * (gI w 521 a0 0))) r1) 519 a0 0 ((gI (sI w 601 (gR w 508 a0 0) (Int32.toNatClampNeg (4 * (gI w 521 a0 0))) r1) 519 a0 0) + x7)) 522 a0 0 1) 519 a0 0 ((gI (sI (sI (sI w 601 (gR w 508 a0 0) (Int32.toNatClampNeg (4 * (gI w 521 a0 0))) r1) 519 a0 0 ((gI (sI w 601 (gR w 508 a0 0) (Int32.toNatClampNeg (4 * (gI w 521 a0 0))) r1) 519 a0 0) + x7)) 522 a0 0 1) 519 a0 0) - 1))) else (if r1 = 107 then (if r1 = (-1) then some (sI (sI (sI (sI w 601 (gR w 508 a0 0) (Int32.toNatClampNeg (4 * (gI w 521 a0 0))) r1) 519 a0 0 ((gI (sI w 601 (gR w 508 a0 0) (Int32.toNatClampNeg (4 * (gI w 521 a0 0))) r1) 519 a0 0) + x7)) 522 a0 0 1) 519 a0 0 ((gI (sI (sI (sI w 601 (gR w 508 a0 0) (Int32.toNatClampNeg (4 * (gI w 521 a0 0))) r1) 519 a0 0 ((gI (sI w 601 (gR w 508 a0 0) (Int32.toNatClampNeg (4 * (gI w 521 a0 0))) r1) 519 a0 0) + x7)) 522 a0 0 1) 519 a0 0) - 0)) else some (sI (sI (sI (sI w 601 (gR w 508 a0 0) (Int32.toNatClampNeg (4 * (gI w 521 a0 0))) r1) 519 a0 0 ((gI (sI w 601 (gR w 508 a0 0) (Int32.toNatClampNeg (4 * (gI w 521 a0 0))) r1) 519 a0 0) + x7)) 522 a0 0 1) 519 a0 0 ((gI (sI (sI (sI w 601 (gR w 508 a0 0) (Int32.toNatClampNeg (4 * (gI w 521 a0 0))) r1) 519 a0 0 ((gI (sI w 601 (gR w 508 a0 0) (Int32.toNatClampNeg (4 * (gI w 521 a0 0))) r1) 519 a0 0) + x7)) 522 a0 0 1) 519 a0 0) - 1))) else (if r1 = 108 then (F_X5_readsHalf a0 (sI (sI w 601 (gR w 508 a0 0) (Int32.toNatClampNeg (4 * (gI w 521 a0 0))) r1) 519 a0 0 ((gI (sI w 601 (gR w 508 a0 0) (Int32.toNatClampNeg (4 * (gI w 521 a0 0))) r1) 519 a0 0) + x7))).bind (fun r40 => some r40) else (if r1 = 109 then (F_X5_digit a0 (sI (sI w 601 (gR w 508 a0 0) (Int32.toNatClampNeg (4 * (gI w 521 a0 0))) r1) 519 a0 0 ((gI (sI w 601 (gR w 508 a0 0) (Int32.toNatClampNeg (4 * (gI w 521 a0 0))) r1) 519 a0 0) + x7))).bind (fun r44 => fg (¬ (((4 * (gI (sI (sI w 601 (gR w 508 a0 0) (Int32.toNatClampNeg (4 * (gI w 521 a0 0))) r1) 519 a0 0 ((gI (sI w 601 (gR w 508 a0 0) (Int32.toNatClampNeg (4 * (gI w 521 a0 0))) r1) 519 a0 0) + x7)) 521 a0 0)) + 1) < 0 ∨ w.2.1 (gR w 508 a0 0) ≤ Int32.toNatClampNeg ((4 * (gI (sI (sI w 601 (gR w 508 a0 0) (Int32.toNatClampNeg (4 * (gI w 521 a0 0))) r1) 519 a0 0 ((gI (sI w 601 (gR w 508 a0 0) (Int32.toNatClampNeg (4 * (gI w 521 a0 0))) r1) 519 a0 0) + x7)) 521 a0 0)) + 1))) inferInstance ((F_X5_sign a0 61 (sI r44.2 601 (gR (sI (sI w 601 (gR w 508 a0 0) (Int32.toNatClampNeg (4 * (gI w 521 a0 0))) r1) 519 a0 0 ((gI (sI w 601 (gR w 508 a0 0) (Int32.toNatClampNeg (4 * (gI w 521 a0 0))) r1) 519 a0 0) + x7)) 508 a0 0) (Int32.toNatClampNeg ((4 * (gI (sI (sI w 601 (gR w 508 a0 0) (Int32.toNatClampNeg (4 * (gI w 521 a0 0))) r1) 519 a0 0 ((gI (sI w 601 (gR w 508 a0 0) (Int32.toNatClampNeg (4 * (gI w 521 a0 0))) r1) 519 a0 0) + x7)) 521 a0 0)) + 1)) r44.1)).bind (fun r48 => (F_X5_digit a0 r48).bind (fun r51 => fg (w.1 (gR r48 508 a0 0) = 11) inferInstance (fg (¬ (((4 * (gI r48 521 a0 0)) + 2) < 0 ∨ w.2.1 (gR r48 508 a0 0) ≤ Int32.toNatClampNeg ((4 * (gI r48 521 a0 0)) + 2))) inferInstance (some (sI r51.2 601 (gR r48 508 a0 0) (Int32.toNatClampNeg ((4 * (gI r48 521 a0 0)) + 2)) r51.1))))))) else (if r1 = 110 then (F_X5_readsWord a0 (sI (sI w 601 (gR w 508 a0 0) (Int32.toNatClampNeg (4 * (gI w 521 a0 0))) r1) 519 a0 0 ((gI (sI w 601 (gR w 508 a0 0) (Int32.toNatClampNeg (4 * (gI w 521 a0 0))) r1) 519 a0 0) + x7))).bind (fun r57 => some r57) else (if r1 = 111 then (F_X5_digit a0 (sI (sI w 601 (gR w 508 a0 0) (Int32.toNatClampNeg (4 * (gI w 521 a0 0))) r1) 519 a0 0 ((gI (sI w 601 (gR w 508 a0 0) (Int32.toNatClampNeg (4 * (gI w 521 a0 0))) r1) 519 a0 0) + x7))).bind (fun r61 => fg (¬ (((4 * (gI (sI (sI w 601 (gR w 508 a0 0) (Int32.toNatClampNeg (4 * (gI w 521 a0 0))) r1) 519 a0 0 ((gI (sI w 601 (gR w 508 a0 0) (Int32.toNatClampNeg (4 * (gI w 521 a0 0))) r1) 519 a0 0) + x7)) 521 a0 0)) + 1) < 0 ∨ w.2.1 (gR w 508 a0 0) ≤ Int32.toNatClampNeg ((4 * (gI (sI (sI w 601 (gR w 508 a0 0) (Int32.toNatClampNeg (4 * (gI w 521 a0 0))) r1) 519 a0 0 ((gI (sI w 601 (gR w 508 a0 0) (Int32.toNatClampNeg (4 * (gI w 521 a0 0))) r1) 519 a0 0) + x7)) 521 a0 0)) + 1))) inferInstance (some (sI r61.2 601 (gR (sI (sI w 601 (gR w 508 a0 0) (Int32.toNatClampNeg (4 * (gI w 521 a0 0))) r1) 519 a0 0 ((gI (sI w 601 (gR w 508 a0 0) (Int32.toNatClampNeg (4 * (gI w 521 a0 0))) r1) 519 a0 0) + x7)) 508 a0 0) (Int32.toNatClampNeg ((4 * (gI (sI (sI w 601 (gR w 508 a0 0) (Int32.toNatClampNeg (4 * (gI w 521 a0 0))) r1) 519 a0 0 ((gI (sI w 601 (gR w 508 a0 0) (Int32.toNatClampNeg (4 * (gI w 521 a0 0))) r1) 519 a0 0) + x7)) 521 a0 0)) + 1)) r61.1))) else (if r1 = 112 then (F_X5_readsHalf a0 (sI (sI w 601 (gR w 508 a0 0) (Int32.toNatClampNeg (4 * (gI w 521 a0 0))) r1) 519 a0 0 ((gI (sI w 601 (gR w 508 a0 0) (Int32.toNatClampNeg (4 * (gI w 521 a0 0))) r1) 519 a0 0) + x7))).bind (fun r66 => (F_X5_sign a0 61 r66).bind (fun r69 => (F_X5_digit a0 r69).bind (fun r72 => fg (w.1 (gR r69 508 a0 0) = 11) inferInstance (fg (¬ (((4 * (gI r69 521 a0 0)) + 3) < 0 ∨ w.2.1 (gR r69 508 a0 0) ≤ Int32.toNatClampNeg ((4 * (gI r69 521 a0 0)) + 3))) inferInstance (some (sI r72.2 601 (gR r69 508 a0 0) (Int32.toNatClampNeg ((4 * (gI r69 521 a0 0)) + 3)) r72.1)))))) else (if r1 = 113 then (if r1 = (-1) then some (sI (sI (sI (sI w 601 (gR w 508 a0 0) (Int32.toNatClampNeg (4 * (gI w 521 a0 0))) r1) 519 a0 0 ((gI (sI w 601 (gR w 508 a0 0) (Int32.toNatClampNeg (4 * (gI w 521 a0 0))) r1) 519 a0 0) + x7)) 522 a0 0 1) 519 a0 0 ((gI (sI (sI (sI w 601 (gR w 508 a0 0) (Int32.toNatClampNeg (4 * (gI w 521 a0 0))) r1) 519 a0 0 ((gI (sI w 601 (gR w 508 a0 0) (Int32.toNatClampNeg (4 * (gI w 521 a0 0))) r1) 519 a0 0) + x7)) 522 a0 0 1) 519 a0 0) - 0)) else some (sI (sI (sI (sI w 601 (gR w 508 a0 0) (Int32.toNatClampNeg (4 * (gI w 521 a0 0))) r1) 519 a0 0 ((gI (sI w 601 (gR w 508 a0 0) (Int32.toNatClampNeg (4 * (gI w 521 a0 0))) r1) 519 a0 0) + x7)) 522 a0 0 1) 519 a0 0 ((gI (sI (sI (sI w 601 (gR w 508 a0 0) (Int32.toNatClampNeg (4 * (gI w 521 a0 0))) r1) 519 a0 0 ((gI (sI w 601 (gR w 508 a0 0) (Int32.toNatClampNeg (4 * (gI w 521 a0 0))) r1) 519 a0 0) + x7)) 522 a0 0 1) 519 a0 0) - 1))) else (if r1 = 114 then (if r1 = (-1) then some (sI (sI (sI (sI w 601 (gR w 508 a0 0) (Int32.toNatClampNeg (4 * (gI w 521 a0 0))) r1) 519 a0 0 ((gI (sI w 601 (gR w 508 a0 0) (Int32.toNatClampNeg (4 * (gI w 521 a0 0))) r1) 519 a0 0) + x7)) 522 a0 0 1) 519 a0 0 ((gI (sI (sI (sI w 601 (gR w 508 a0 0) (Int32.toNatClampNeg (4 * (gI w 521 a0 0))) r1) 519 a0 0 ((gI (sI w 601 (gR w 508 a0 0) (Int32.toNatClampNeg (4 * (gI w 521 a0 0))) r1) 519 a0 0) + x7)) 522 a0 0 1) 519 a0 0) - 0)) else some (sI (sI (sI (sI w 601 (gR w 508 a0 0) (Int32.toNatClampNeg (4 * (gI w 521 a0 0))) r1) 519 a0 0 ((gI (sI w 601 (gR w 508 a0 0) (Int32.toNatClampNeg (4 * (gI w 521 a0 0))) r1) 519 a0 0) + x7)) 522 a0 0 1) 519 a0 0 ((gI (sI (sI (sI w 601 (gR w 508 a0 0) (Int32.toNatClampNeg (4 * (gI w 521 a0 0))) r1) 519 a0 0 ((gI (sI w 601 (gR w 508 a0 0) (Int32.toNatClampNeg (4 * (gI w 521 a0 0))) r1) 519 a0 0) + x7)) 522 a0 0 1) 519 a0 0) - 1))) else (if r1 = 115 then (if r1 = (-1) then some (sI (sI (sI (sI w 601 (gR w 508 a0 0) (Int32.toNatClampNeg (4 * (gI w 521 a0 0))) r1) 519 a0 0 ((gI (sI w 601 (gR w 508 a0 0) (Int32.toNatClampNeg (4 * (gI w 521 a0 0))) r1) 519 a0 0) + x7)) 522 a0 0 1) 519 a0 0 ((gI (sI (sI (sI w 601 (gR w 508 a0 0) (Int32.toNatClampNeg (4 * (gI w 521 a0 0))) r1) 519 a0 0 ((gI (sI w 601 (gR w 508 a0 0) (Int32.toNatClampNeg (4 * (gI w 521 a0 0))) r1) 519 a0 0) + x7)) 522 a0 0 1) 519 a0 0) - 0)) else some (sI (sI (sI (sI w 601 (gR w 508 a0 0) (Int32.toNatClampNeg (4 * (gI w 521 a0 0))) r1) 519 a0 0 ((gI (sI w 601 (gR w 508 a0 0) (Int32.toNatClampNeg (4 * (gI w 521 a0 0))) r1) 519 a0 0) + x7)) 522 a0 0 1) 519 a0 0 ((gI (sI (sI (sI w 601 (gR w 508 a0 0) (Int32.toNatClampNeg (4 * (gI w 521 a0 0))) r1) 519 a0 0 ((gI (sI w 601 (gR w 508 a0 0) (Int32.toNatClampNeg (4 * (gI w 521 a0 0))) r1) 519 a0 0) + x7)) 522 a0 0 1) 519 a0 0) - 1))) else (if r1 = 116 then (F_X5_digit a0 (sI (sI w 601 (gR w 508 a0 0) (Int32.toNatClampNeg (4 * (gI w 521 a0 0))) r1) 519 a0 0 ((gI (sI w 601 (gR w 508 a0 0) (Int32.toNatClampNeg (4 * (gI w 521 a0 0))) r1) 519 a0 0) + x7))).bind (fun r84 => fg (¬ (((4 * (gI (sI (sI w 601 (gR w 508 a0 0) (Int32.toNatClampNeg (4 * (gI w 521 a0 0))) r1) 519 a0 0 ((gI (sI w 601 (gR w 508 a0 0) (Int32.toNatClampNeg (4 * (gI w 521 a0 0))) r1) 519 a0 0) + x7)) 521 a0 0)) + 1) < 0 ∨ w.2.1 (gR w 508 a0 0) ≤ Int32.toNatClampNeg ((4 * (gI (sI (sI w 601 (gR w 508 a0 0) (Int32.toNatClampNeg (4 * (gI w 521 a0 0))) r1) 519 a0 0 ((gI (sI w 601 (gR w 508 a0 0) (Int32.toNatClampNeg (4 * (gI w 521 a0 0))) r1) 519 a0 0) + x7)) 521 a0 0)) + 1))) inferInstance (some (sI r84.2 601 (gR (sI (sI w 601 (gR w 508 a0 0) (Int32.toNatClampNeg (4 * (gI w 521 a0 0))) r1) 519 a0 0 ((gI (sI w 601 (gR w 508 a0 0) (Int32.toNatClampNeg (4 * (gI w 521 a0 0))) r1) 519 a0 0) + x7)) 508 a0 0) (Int32.toNatClampNeg ((4 * (gI (sI (sI w 601 (gR w 508 a0 0) (Int32.toNatClampNeg (4 * (gI w 521 a0 0))) r1) 519 a0 0 ((gI (sI w 601 (gR w 508 a0 0) (Int32.toNatClampNeg (4 * (gI w 521 a0 0))) r1) 519 a0 0) + x7)) 521 a0 0)) + 1)) r84.1))) else (if r1 = 117 then (if r1 = (-1) then some (sI (sI (sI (sI w 601 (gR w 508 a0 0) (Int32.toNatClampNeg (4 * (gI w 521 a0 0))) r1) 519 a0 0 ((gI (sI w 601 (gR w 508 a0 0) (Int32.toNatClampNeg (4 * (gI w 521 a0 0))) r1) 519 a0 0) + x7)) 522 a0 0 1) 519 a0 0 ((gI (sI (sI (sI w 601 (gR w 508 a0 0) (Int32.toNatClampNeg (4 * (gI w 521 a0 0))) r1) 519 a0 0 ((gI (sI w 601 (gR w 508 a0 0) (Int32.toNatClampNeg (4 * (gI w 521 a0 0))) r1) 519 a0 0) + x7)) 522 a0 0 1) 519 a0 0) - 0)) else some (sI (sI (sI (sI w 601 (gR w 508 a0 0) (Int32.toNatClampNeg (4 * (gI w 521 a0 0))) r1) 519 a0 0 ((gI (sI w 601 (gR w 508 a0 0) (Int32.toNatClampNeg (4 * (gI w 521 a0 0))) r1) 519 a0 0) + x7)) 522 a0 0 1) 519 a0 0 ((gI (sI (sI (sI w 601 (gR w 508 a0 0) (Int32.toNatClampNeg (4 * (gI w 521 a0 0))) r1) 519 a0 0 ((gI (sI w 601 (gR w 508 a0 0) (Int32.toNatClampNeg (4 * (gI w 521 a0 0))) r1) 519 a0 0) + x7)) 522 a0 0 1) 519 a0 0) - 1))) else (if r1 = 118 then (if r1 = (-1) then some (sI (sI (sI (sI w 601 (gR w 508 a0 0) (Int32.toNatClampNeg (4 * (gI w 521 a0 0))) r1) 519 a0 0 ((gI (sI w 601 (gR w 508 a0 0) (Int32.toNatClampNeg (4 * (gI w 521 a0 0))) r1) 519 a0 0) + x7)) 522 a0 0 1) 519 a0 0 ((gI (sI (sI (sI w 601 (gR w 508 a0 0) (Int32.toNatClampNeg (4 * (gI w 521 a0 0))) r1) 519 a0 0 ((gI (sI w 601 (gR w 508 a0 0) (Int32.toNatClampNeg (4 * (gI w 521 a0 0))) r1) 519 a0 0) + x7)) 522 a0 0 1) 519 a0 0) - 0)) else some (sI (sI (sI (sI w 601 (gR w 508 a0 0) (Int32.toNatClampNeg (4 * (gI w 521 a0 0))) r1) 519 a0 0 ((gI (sI w 601 (gR w 508 a0 0) (Int32.toNatClampNeg (4 * (gI w 521 a0 0))) r1) 519 a0 0) + x7)) 522 a0 0 1) 519 a0 0 ((gI (sI (sI (sI w 601 (gR w 508 a0 0) (Int32.toNatClampNeg (4 * (gI w 521 a0 0))) r1) 519 a0 0 ((gI (sI w 601 (gR w 508 a0 0) (Int32.toNatClampNeg (4 * (gI w 521 a0 0))) r1) 519 a0 0) + x7)) 522 a0 0 1) 519 a0 0) - 1))) else (if r1 = 119 then (F_X5_readsHalf a0 (sI (sI w 601 (gR w 508 a0 0) (Int32.toNatClampNeg (4 * (gI w 521 a0 0))) r1) 519 a0 0 ((gI (sI w 601 (gR w 508 a0 0) (Int32.toNatClampNeg (4 * (gI w 521 a0 0))) r1) 519 a0 0) + x7))).bind (fun r93 => (F_X5_sign a0 43 r93).bind (fun r96 => (F_X5_digit a0 r96).bind (fun r99 => fg (w.1 (gR r96 508 a0 0) = 11) inferInstance (fg (¬ (((4 * (gI r96 521 a0 0)) + 3) < 0 ∨ w.2.1 (gR r96 508 a0 0) ≤ Int32.toNatClampNeg ((4 * (gI r96 521 a0 0)) + 3))) inferInstance (some (sI r99.2 601 (gR r96 508 a0 0) (Int32.toNatClampNeg ((4 * (gI r96 521 a0 0)) + 3)) r99.1)))))) else (if r1 = 120 then (F_X5_digit a0 (sI (sI w 601 (gR w 508 a0 0) (Int32.toNatClampNeg (4 * (gI w 521 a0 0))) r1) 519 a0 0 ((gI (sI w 601 (gR w 508 a0 0) (Int32.toNatClampNeg (4 * (gI w 521 a0 0))) r1) 519 a0 0) + x7))).bind (fun r105 => fg (¬ (((4 * (gI (sI (sI w 601 (gR w 508 a0 0) (Int32.toNatClampNeg (4 * (gI w 521 a0 0))) r1) 519 a0 0 ((gI (sI w 601 (gR w 508 a0 0) (Int32.toNatClampNeg (4 * (gI w 521 a0 0))) r1) 519 a0 0) + x7)) 521 a0 0)) + 1) < 0 ∨ w.2.1 (gR w 508 a0 0) ≤ Int32.toNatClampNeg ((4 * (gI (sI (sI w 601 (gR w 508 a0 0) (Int32.toNatClampNeg (4 * (gI w 521 a0 0))) r1) 519 a0 0 ((gI (sI w 601 (gR w 508 a0 0) (Int32.toNatClampNeg (4 * (gI w 521 a0 0))) r1) 519 a0 0) + x7)) 521 a0 0)) + 1))) inferInstance (some (sI r105.2 601 (gR (sI (sI w 601 (gR w 508 a0 0) (Int32.toNatClampNeg (4 * (gI w 521 a0 0))) r1) 519 a0 0 ((gI (sI w 601 (gR w 508 a0 0) (Int32.toNatClampNeg (4 * (gI w 521 a0 0))) r1) 519 a0 0) + x7)) 508 a0 0) (Int32.toNatClampNeg ((4 * (gI (sI (sI w 601 (gR w 508 a0 0) (Int32.toNatClampNeg (4 * (gI w 521 a0 0))) r1) 519 a0 0 ((gI (sI w 601 (gR w 508 a0 0) (Int32.toNatClampNeg (4 * (gI w 521 a0 0))) r1) 519 a0 0) + x7)) 521 a0 0)) + 1)) r105.1))) else (if r1 = (-1) then some (sI (sI (sI (sI w 601 (gR w 508 a0 0) (Int32.toNatClampNeg (4 * (gI w 521 a0 0))) r1) 519 a0 0 ((gI (sI w 601 (gR w 508 a0 0) (Int32.toNatClampNeg (4 * (gI w 521 a0 0))) r1) 519 a0 0) + x7)) 522 a0 0 1) 519 a0 0 ((gI (sI (sI (sI w 601 (gR w 508 a0 0) (Int32.toNatClampNeg (4 * (gI w 521 a0 0))) r1) 519 a0 0 ((gI (sI w 601 (gR w 508 a0 0) (Int32.toNatClampNeg (4 * (gI w 521 a0 0))) r1) 519 a0 0) + x7)) 522 a0 0 1) 519 a0 0) - 0)) else some (sI (sI (sI (sI w 601 (gR w 508 a0 0) (Int32.toNatClampNeg (4 * (gI w 521 a0 0))) r1) 519 a0 0 ((gI (sI w 601 (gR w 508 a0 0) (Int32.toNatClampNeg (4 * (gI w 521 a0 0))) r1) 519 a0 0) + x7)) 522 a0 0 1) 519 a0 0 ((gI (sI (sI (sI w 601 (gR w 508 a0 0) (Int32.toNatClampNeg (4 * (gI w 521 a0 0))) r1) 519 a0 0 ((gI (sI w 601 (gR w 508 a0 0) (Int32.toNatClampNeg (4 * (gI w 521 a0 0))) r1) 519 a0 0) + x7)) 522 a0 0 1) 519 a0 0) - 1))))))))))))))))))))))))) : Option (FW)).bind (fun x11 => some (sI x11 521 a0 0 ((gI x11 521 a0 0) + 1))))))))
set_option maxHeartbeats 4000000 in
set_option maxRecDepth 100000 in
theorem c_X5_readsOne (l : Launch) (D : va_G) (cy : Nat → ClassId) (a0 : Nat) (w : FW) (r : FW) (hF : F_X5_readsOne a0 w = some r) : fSpec l D cy yX5_readsOne cX5_readsOne 2 none { frames := 4, cells := 0, slots := 0, locals := 84 } [.ref a0] w r none := by
  refine f_begin (by decide +kernel) (Nat.le_of_ble_eq_true rfl) (fun X hC hEn => ?_)
  unfold F_X5_readsOne at hF
  show fAt X 0 0 2 w [(0, .ref a0)] [] 0
  refine f_aload_n hC dX5_readsOne_0 rfl 0 rfl ?_
  obtain ⟨g3, hF⟩ := fg_open hF
  obtain ⟨r1, h2, hF⟩ := fb_open hF
  refine f_callV hC [] (c_X5_here l D cy a0 w r1 h2) q_1713 q_137 q_1710 q_1712 q_124 h9_X5_here rfl (fSm.k (fSm.rf w) g3) ⟨Nat.le_of_ble_eq_true rfl, Nat.le_of_ble_eq_true rfl⟩ ⟨Nat.le_of_ble_eq_true rfl, Nat.le_of_ble_eq_true rfl⟩ (Nat.le_of_ble_eq_true rfl) rfl dX5_readsOne_1 (fun e4 => ?_)
  refine f_istore_n (L' := [(1, .int r1), (0, .ref a0)]) hC dX5_readsOne_4 rfl (by decide) rfl ?_
  refine f_aload_n hC dX5_readsOne_5 rfl 1 rfl ?_
  refine f_getR hC 5 8 508 rfl (by decide) iX5 q_1267 rfl rfl (fSm.k (fSm.rf w) g3) dX5_readsOne_6 ?_
  refine f_iconst (v := 4) hC dX5_readsOne_9 (by decide) ?_
  refine f_aload_n hC dX5_readsOne_10 rfl 1 rfl ?_
  refine f_getI hC 5 21 521 rfl (by decide) iX5 q_1280 rfl rfl (fSm.k (fSm.rf w) g3) dX5_readsOne_11 ?_
  refine f_imul hC dX5_readsOne_14 ?_
  refine f_iload_n hC dX5_readsOne_15 rfl 0 rfl ?_
  obtain ⟨g5, hF⟩ := fg_open hF
  obtain ⟨g6, hF⟩ := fg_open hF
  refine f_iast hC (fSm.k (fSm.rf w) g5) (fSm.v (fSm.rf w) g6) dX5_readsOne_16 ?_
  refine f_aload_n hC dX5_readsOne_17 rfl 1 rfl ?_
  refine f_dup hC dX5_readsOne_18 rfl ?_
  refine f_getI hC 5 19 519 rfl (by decide) iX5 q_1278 rfl rfl (fSm.k (fSm.rf w) g3) dX5_readsOne_19 ?_
  refine f_iload_n hC dX5_readsOne_22 rfl 0 rfl ?_
  refine f_iconst (v := (-1)) hC dX5_readsOne_23 (by decide) ?_
  obtain ⟨x7, h8, hF⟩ := fb_open hF
  have K10 : fAt X 0 0 2 (sI w 601 (gR w 508 a0 0) (Int32.toNatClampNeg (4 * (gI w 521 a0 0))) r1) [(0, .ref a0), (1, .int r1)] [.int x7, .int (gI (sI w 601 (gR w 508 a0 0) (Int32.toNatClampNeg (4 * (gI w 521 a0 0))) r1) 519 a0 0), .ref a0] 32 := by
    refine f_iadd hC dX5_readsOne_32 ?_
    refine f_putI hC 5 19 519 rfl (by decide) iX5 tyX5 tyX5_ok nmX5 q_1278 rfl rfl rfl rfl rfl (fSm.k (fSm.rf w) g3) dX5_readsOne_33 ?_
    refine f_iload_n hC dX5_readsOne_36 rfl 1 rfl ?_
    obtain ⟨x11, h12, hF⟩ := fb_open hF
    have K14 : fSm x11 w → fAt X 0 0 2 x11 [(0, .ref a0)] [] 304 := by
      intro p13
      refine f_aload_n hC dX5_readsOne_304 rfl 0 rfl ?_
      refine f_dup hC dX5_readsOne_305 rfl ?_
      refine f_getI hC 5 21 521 rfl (by decide) iX5 q_1280 rfl rfl (fSm.k p13 g3) dX5_readsOne_306 ?_
      refine f_iconst (v := 1) hC dX5_readsOne_309 (by decide) ?_
      refine f_iadd hC dX5_readsOne_310 ?_
      refine f_putI hC 5 21 521 rfl (by decide) iX5 tyX5 tyX5_ok nmX5 q_1280 rfl rfl rfl rfl rfl (fSm.k p13 g3) dX5_readsOne_311 ?_
      obtain rfl := Option.some.inj hF
      exact f_vret hC hEn p13 dX5_readsOne_314
    by_cases c15 : r1 = 99
    · replace h12 := fi_pos h12 c15
      refine f_tabIn hC 257 dX5_readsOne_37 (by rw [c15] <;> decide) (by rw [c15] <;> decide) (by rw [c15] <;> rfl) (by decide) ?_
      refine f_aload_n hC dX5_readsOne_257 rfl 0 rfl ?_
      refine f_getR hC 5 8 508 rfl (by decide) iX5 q_1267 rfl rfl (fSm.k (fSm.rf w) g3) dX5_readsOne_258 ?_
      refine f_iconst (v := 4) hC dX5_readsOne_261 (by decide) ?_
      refine f_aload_n hC dX5_readsOne_262 rfl 0 rfl ?_
      refine f_getI hC 5 21 521 rfl (by decide) iX5 q_1280 rfl rfl (fSm.k (fSm.rf w) g3) dX5_readsOne_263 ?_
      refine f_imul hC dX5_readsOne_266 ?_
      refine f_iconst (v := 1) hC dX5_readsOne_267 (by decide) ?_
      refine f_iadd hC dX5_readsOne_268 ?_
      refine f_aload_n hC dX5_readsOne_269 rfl 0 rfl ?_
      obtain ⟨r16, h17, h12⟩ := fb_open h12
      refine f_callV hC [] (c_X5_digit l D cy a0 (sI (sI w 601 (gR w 508 a0 0) (Int32.toNatClampNeg (4 * (gI w 521 a0 0))) r1) 519 a0 0 ((gI (sI w 601 (gR w 508 a0 0) (Int32.toNatClampNeg (4 * (gI w 521 a0 0))) r1) 519 a0 0) + x7)) r16 h17) q_1725 q_137 q_1722 q_1724 q_127 h9_X5_digit rfl (fSm.k (fSm.rf w) g3) ⟨Nat.le_of_ble_eq_true rfl, Nat.le_of_ble_eq_true rfl⟩ ⟨Nat.le_of_ble_eq_true rfl, Nat.le_of_ble_eq_true rfl⟩ (Nat.le_of_ble_eq_true rfl) rfl dX5_readsOne_270 (fun e18 => ?_)
      obtain ⟨g19, h12⟩ := fg_open h12
      refine f_iast hC (fSm.k (fSm.tr e18 (fSm.rf w)) g5) (fSm.v (fSm.tr e18 (fSm.rf w)) g19) dX5_readsOne_273 ?_
      refine f_goto hC 304 dX5_readsOne_274 (by decide) ?_
      obtain rfl := Option.some.inj h12
      refine f_sub (L' := [(0, .ref a0)]) [0] rfl ?_
      exact K14 (fSm.tr e18 (fSm.rf w))
    · replace h12 := fi_neg h12 c15
      by_cases c20 : r1 = 100
      · replace h12 := fi_pos h12 c20
        refine f_tabIn hC 277 dX5_readsOne_37 (by rw [c20] <;> decide) (by rw [c20] <;> decide) (by rw [c20] <;> rfl) (by decide) ?_
        refine f_goto hC 304 dX5_readsOne_277 (by decide) ?_
        obtain rfl := Option.some.inj h12
        refine f_sub (L' := [(0, .ref a0)]) [0] rfl ?_
        exact K14 (fSm.rf w)
      · replace h12 := fi_neg h12 c20
        by_cases c21 : r1 = 101
        · replace h12 := fi_pos h12 c21
          refine f_tabIn hC 280 dX5_readsOne_37 (by rw [c21] <;> decide) (by rw [c21] <;> decide) (by rw [c21] <;> rfl) (by decide) ?_
          refine f_aload_n hC dX5_readsOne_280 rfl 0 rfl ?_
          refine f_iconst (v := 1) hC dX5_readsOne_281 (by decide) ?_
          refine f_putI hC 5 22 522 rfl (by decide) iX5 tyX5 tyX5_ok nmX5 q_1281 rfl rfl rfl (nar_z (by decide)) (fit_z (by decide)) (fSm.k (fSm.rf w) g3) dX5_readsOne_282 ?_
          refine f_aload_n hC dX5_readsOne_285 rfl 0 rfl ?_
          refine f_dup hC dX5_readsOne_286 rfl ?_
          refine f_getI hC 5 19 519 rfl (by decide) iX5 q_1278 rfl rfl (fSm.k (fSm.rf w) g3) dX5_readsOne_287 ?_
          refine f_iload_n hC dX5_readsOne_290 rfl 1 rfl ?_
          refine f_iconst (v := (-1)) hC dX5_readsOne_291 (by decide) ?_
          refine f_icmp_ne hC 299 dX5_readsOne_292 (by decide) (fun c22 => ?_) (fun c22 => ?_)
          · replace h12 := fi_neg h12 c22
            refine f_iconst (v := 1) hC dX5_readsOne_299 (by decide) ?_
            refine f_isub hC dX5_readsOne_300 ?_
            refine f_putI hC 5 19 519 rfl (by decide) iX5 tyX5 tyX5_ok nmX5 q_1278 rfl rfl rfl rfl rfl (fSm.k (fSm.rf w) g3) dX5_readsOne_301 ?_
            obtain rfl := Option.some.inj h12
            refine f_sub (L' := [(0, .ref a0)]) [0] rfl ?_
            exact K14 (fSm.rf w)
          · replace h12 := fi_pos h12 c22
            refine f_iconst (v := 0) hC dX5_readsOne_295 (by decide) ?_
            refine f_goto hC 300 dX5_readsOne_296 (by decide) ?_
            refine f_isub hC dX5_readsOne_300 ?_
            refine f_putI hC 5 19 519 rfl (by decide) iX5 tyX5 tyX5_ok nmX5 q_1278 rfl rfl rfl rfl rfl (fSm.k (fSm.rf w) g3) dX5_readsOne_301 ?_
            obtain rfl := Option.some.inj h12
            refine f_sub (L' := [(0, .ref a0)]) [0] rfl ?_
            exact K14 (fSm.rf w)
        · replace h12 := fi_neg h12 c21
          by_cases c23 : r1 = 102
          · replace h12 := fi_pos h12 c23
            refine f_tabIn hC 207 dX5_readsOne_37 (by rw [c23] <;> decide) (by rw [c23] <;> decide) (by rw [c23] <;> rfl) (by decide) ?_
            refine f_aload_n hC dX5_readsOne_207 rfl 0 rfl ?_
            obtain ⟨r24, h25, h12⟩ := fb_open h12
            refine f_callV hC [] (c_X5_readsHalf l D cy a0 (sI (sI w 601 (gR w 508 a0 0) (Int32.toNatClampNeg (4 * (gI w 521 a0 0))) r1) 519 a0 0 ((gI (sI w 601 (gR w 508 a0 0) (Int32.toNatClampNeg (4 * (gI w 521 a0 0))) r1) 519 a0 0) + x7)) r24 h25) q_1729 q_137 q_1726 q_1728 q_128 h9_X5_readsHalf rfl (fSm.k (fSm.rf w) g3) ⟨Nat.le_of_ble_eq_true rfl, Nat.le_of_ble_eq_true rfl⟩ ⟨Nat.le_of_ble_eq_true rfl, Nat.le_of_ble_eq_true rfl⟩ (Nat.le_of_ble_eq_true rfl) rfl dX5_readsOne_208 (fun e26 => ?_)
            refine f_goto hC 304 dX5_readsOne_211 (by decide) ?_
            obtain rfl := Option.some.inj h12
            refine f_sub (L' := [(0, .ref a0)]) [0] rfl ?_
            exact K14 (fSm.tr e26 (fSm.rf w))
          · replace h12 := fi_neg h12 c23
            by_cases c27 : r1 = 103
            · replace h12 := fi_pos h12 c27
              refine f_tabIn hC 207 dX5_readsOne_37 (by rw [c27] <;> decide) (by rw [c27] <;> decide) (by rw [c27] <;> rfl) (by decide) ?_
              refine f_aload_n hC dX5_readsOne_207 rfl 0 rfl ?_
              obtain ⟨r28, h29, h12⟩ := fb_open h12
              refine f_callV hC [] (c_X5_readsHalf l D cy a0 (sI (sI w 601 (gR w 508 a0 0) (Int32.toNatClampNeg (4 * (gI w 521 a0 0))) r1) 519 a0 0 ((gI (sI w 601 (gR w 508 a0 0) (Int32.toNatClampNeg (4 * (gI w 521 a0 0))) r1) 519 a0 0) + x7)) r28 h29) q_1729 q_137 q_1726 q_1728 q_128 h9_X5_readsHalf rfl (fSm.k (fSm.rf w) g3) ⟨Nat.le_of_ble_eq_true rfl, Nat.le_of_ble_eq_true rfl⟩ ⟨Nat.le_of_ble_eq_true rfl, Nat.le_of_ble_eq_true rfl⟩ (Nat.le_of_ble_eq_true rfl) rfl dX5_readsOne_208 (fun e30 => ?_)
              refine f_goto hC 304 dX5_readsOne_211 (by decide) ?_
              obtain rfl := Option.some.inj h12
              refine f_sub (L' := [(0, .ref a0)]) [0] rfl ?_
              exact K14 (fSm.tr e30 (fSm.rf w))
            · replace h12 := fi_neg h12 c27
              by_cases c31 : r1 = 104
              · replace h12 := fi_pos h12 c31
                refine f_tabIn hC 280 dX5_readsOne_37 (by rw [c31] <;> decide) (by rw [c31] <;> decide) (by rw [c31] <;> rfl) (by decide) ?_
                refine f_aload_n hC dX5_readsOne_280 rfl 0 rfl ?_
                refine f_iconst (v := 1) hC dX5_readsOne_281 (by decide) ?_
                refine f_putI hC 5 22 522 rfl (by decide) iX5 tyX5 tyX5_ok nmX5 q_1281 rfl rfl rfl (nar_z (by decide)) (fit_z (by decide)) (fSm.k (fSm.rf w) g3) dX5_readsOne_282 ?_
                refine f_aload_n hC dX5_readsOne_285 rfl 0 rfl ?_
                refine f_dup hC dX5_readsOne_286 rfl ?_
                refine f_getI hC 5 19 519 rfl (by decide) iX5 q_1278 rfl rfl (fSm.k (fSm.rf w) g3) dX5_readsOne_287 ?_
                refine f_iload_n hC dX5_readsOne_290 rfl 1 rfl ?_
                refine f_iconst (v := (-1)) hC dX5_readsOne_291 (by decide) ?_
                refine f_icmp_ne hC 299 dX5_readsOne_292 (by decide) (fun c32 => ?_) (fun c32 => ?_)
                · replace h12 := fi_neg h12 c32
                  refine f_iconst (v := 1) hC dX5_readsOne_299 (by decide) ?_
                  refine f_isub hC dX5_readsOne_300 ?_
                  refine f_putI hC 5 19 519 rfl (by decide) iX5 tyX5 tyX5_ok nmX5 q_1278 rfl rfl rfl rfl rfl (fSm.k (fSm.rf w) g3) dX5_readsOne_301 ?_
                  obtain rfl := Option.some.inj h12
                  refine f_sub (L' := [(0, .ref a0)]) [0] rfl ?_
                  exact K14 (fSm.rf w)
                · replace h12 := fi_pos h12 c32
                  refine f_iconst (v := 0) hC dX5_readsOne_295 (by decide) ?_
                  refine f_goto hC 300 dX5_readsOne_296 (by decide) ?_
                  refine f_isub hC dX5_readsOne_300 ?_
                  refine f_putI hC 5 19 519 rfl (by decide) iX5 tyX5 tyX5_ok nmX5 q_1278 rfl rfl rfl rfl rfl (fSm.k (fSm.rf w) g3) dX5_readsOne_301 ?_
                  obtain rfl := Option.some.inj h12
                  refine f_sub (L' := [(0, .ref a0)]) [0] rfl ?_
                  exact K14 (fSm.rf w)
              · replace h12 := fi_neg h12 c31
                by_cases c33 : r1 = 105
                · replace h12 := fi_pos h12 c33
                  refine f_tabIn hC 280 dX5_readsOne_37 (by rw [c33] <;> decide) (by rw [c33] <;> decide) (by rw [c33] <;> rfl) (by decide) ?_
                  refine f_aload_n hC dX5_readsOne_280 rfl 0 rfl ?_
                  refine f_iconst (v := 1) hC dX5_readsOne_281 (by decide) ?_
                  refine f_putI hC 5 22 522 rfl (by decide) iX5 tyX5 tyX5_ok nmX5 q_1281 rfl rfl rfl (nar_z (by decide)) (fit_z (by decide)) (fSm.k (fSm.rf w) g3) dX5_readsOne_282 ?_
                  refine f_aload_n hC dX5_readsOne_285 rfl 0 rfl ?_
                  refine f_dup hC dX5_readsOne_286 rfl ?_
                  refine f_getI hC 5 19 519 rfl (by decide) iX5 q_1278 rfl rfl (fSm.k (fSm.rf w) g3) dX5_readsOne_287 ?_
                  refine f_iload_n hC dX5_readsOne_290 rfl 1 rfl ?_
                  refine f_iconst (v := (-1)) hC dX5_readsOne_291 (by decide) ?_
                  refine f_icmp_ne hC 299 dX5_readsOne_292 (by decide) (fun c34 => ?_) (fun c34 => ?_)
                  · replace h12 := fi_neg h12 c34
                    refine f_iconst (v := 1) hC dX5_readsOne_299 (by decide) ?_
                    refine f_isub hC dX5_readsOne_300 ?_
                    refine f_putI hC 5 19 519 rfl (by decide) iX5 tyX5 tyX5_ok nmX5 q_1278 rfl rfl rfl rfl rfl (fSm.k (fSm.rf w) g3) dX5_readsOne_301 ?_
                    obtain rfl := Option.some.inj h12
                    refine f_sub (L' := [(0, .ref a0)]) [0] rfl ?_
                    exact K14 (fSm.rf w)
                  · replace h12 := fi_pos h12 c34
                    refine f_iconst (v := 0) hC dX5_readsOne_295 (by decide) ?_
                    refine f_goto hC 300 dX5_readsOne_296 (by decide) ?_
                    refine f_isub hC dX5_readsOne_300 ?_
                    refine f_putI hC 5 19 519 rfl (by decide) iX5 tyX5 tyX5_ok nmX5 q_1278 rfl rfl rfl rfl rfl (fSm.k (fSm.rf w) g3) dX5_readsOne_301 ?_
                    obtain rfl := Option.some.inj h12
                    refine f_sub (L' := [(0, .ref a0)]) [0] rfl ?_
                    exact K14 (fSm.rf w)
                · replace h12 := fi_neg h12 c33
                  by_cases c35 : r1 = 106
                  · replace h12 := fi_pos h12 c35
                    refine f_tabIn hC 280 dX5_readsOne_37 (by rw [c35] <;> decide) (by rw [c35] <;> decide) (by rw [c35] <;> rfl) (by decide) ?_
                    refine f_aload_n hC dX5_readsOne_280 rfl 0 rfl ?_
                    refine f_iconst (v := 1) hC dX5_readsOne_281 (by decide) ?_
                    refine f_putI hC 5 22 522 rfl (by decide) iX5 tyX5 tyX5_ok nmX5 q_1281 rfl rfl rfl (nar_z (by decide)) (fit_z (by decide)) (fSm.k (fSm.rf w) g3) dX5_readsOne_282 ?_
                    refine f_aload_n hC dX5_readsOne_285 rfl 0 rfl ?_
                    refine f_dup hC dX5_readsOne_286 rfl ?_
                    refine f_getI hC 5 19 519 rfl (by decide) iX5 q_1278 rfl rfl (fSm.k (fSm.rf w) g3) dX5_readsOne_287 ?_
                    refine f_iload_n hC dX5_readsOne_290 rfl 1 rfl ?_
                    refine f_iconst (v := (-1)) hC dX5_readsOne_291 (by decide) ?_
                    refine f_icmp_ne hC 299 dX5_readsOne_292 (by decide) (fun c36 => ?_) (fun c36 => ?_)
                    · replace h12 := fi_neg h12 c36
                      refine f_iconst (v := 1) hC dX5_readsOne_299 (by decide) ?_
                      refine f_isub hC dX5_readsOne_300 ?_
                      refine f_putI hC 5 19 519 rfl (by decide) iX5 tyX5 tyX5_ok nmX5 q_1278 rfl rfl rfl rfl rfl (fSm.k (fSm.rf w) g3) dX5_readsOne_301 ?_
                      obtain rfl := Option.some.inj h12
                      refine f_sub (L' := [(0, .ref a0)]) [0] rfl ?_
                      exact K14 (fSm.rf w)
                    · replace h12 := fi_pos h12 c36
                      refine f_iconst (v := 0) hC dX5_readsOne_295 (by decide) ?_
                      refine f_goto hC 300 dX5_readsOne_296 (by decide) ?_
                      refine f_isub hC dX5_readsOne_300 ?_
                      refine f_putI hC 5 19 519 rfl (by decide) iX5 tyX5 tyX5_ok nmX5 q_1278 rfl rfl rfl rfl rfl (fSm.k (fSm.rf w) g3) dX5_readsOne_301 ?_
                      obtain rfl := Option.some.inj h12
                      refine f_sub (L' := [(0, .ref a0)]) [0] rfl ?_
                      exact K14 (fSm.rf w)
                  · replace h12 := fi_neg h12 c35
                    by_cases c37 : r1 = 107
                    · replace h12 := fi_pos h12 c37
                      refine f_tabIn hC 280 dX5_readsOne_37 (by rw [c37] <;> decide) (by rw [c37] <;> decide) (by rw [c37] <;> rfl) (by decide) ?_
                      refine f_aload_n hC dX5_readsOne_280 rfl 0 rfl ?_
                      refine f_iconst (v := 1) hC dX5_readsOne_281 (by decide) ?_
                      refine f_putI hC 5 22 522 rfl (by decide) iX5 tyX5 tyX5_ok nmX5 q_1281 rfl rfl rfl (nar_z (by decide)) (fit_z (by decide)) (fSm.k (fSm.rf w) g3) dX5_readsOne_282 ?_
                      refine f_aload_n hC dX5_readsOne_285 rfl 0 rfl ?_
                      refine f_dup hC dX5_readsOne_286 rfl ?_
                      refine f_getI hC 5 19 519 rfl (by decide) iX5 q_1278 rfl rfl (fSm.k (fSm.rf w) g3) dX5_readsOne_287 ?_
                      refine f_iload_n hC dX5_readsOne_290 rfl 1 rfl ?_
                      refine f_iconst (v := (-1)) hC dX5_readsOne_291 (by decide) ?_
                      refine f_icmp_ne hC 299 dX5_readsOne_292 (by decide) (fun c38 => ?_) (fun c38 => ?_)
                      · replace h12 := fi_neg h12 c38
                        refine f_iconst (v := 1) hC dX5_readsOne_299 (by decide) ?_
                        refine f_isub hC dX5_readsOne_300 ?_
                        refine f_putI hC 5 19 519 rfl (by decide) iX5 tyX5 tyX5_ok nmX5 q_1278 rfl rfl rfl rfl rfl (fSm.k (fSm.rf w) g3) dX5_readsOne_301 ?_
                        obtain rfl := Option.some.inj h12
                        refine f_sub (L' := [(0, .ref a0)]) [0] rfl ?_
                        exact K14 (fSm.rf w)
                      · replace h12 := fi_pos h12 c38
                        refine f_iconst (v := 0) hC dX5_readsOne_295 (by decide) ?_
                        refine f_goto hC 300 dX5_readsOne_296 (by decide) ?_
                        refine f_isub hC dX5_readsOne_300 ?_
                        refine f_putI hC 5 19 519 rfl (by decide) iX5 tyX5 tyX5_ok nmX5 q_1278 rfl rfl rfl rfl rfl (fSm.k (fSm.rf w) g3) dX5_readsOne_301 ?_
                        obtain rfl := Option.some.inj h12
                        refine f_sub (L' := [(0, .ref a0)]) [0] rfl ?_
                        exact K14 (fSm.rf w)
                    · replace h12 := fi_neg h12 c37
                      by_cases c39 : r1 = 108
                      · replace h12 := fi_pos h12 c39
                        refine f_tabIn hC 207 dX5_readsOne_37 (by rw [c39] <;> decide) (by rw [c39] <;> decide) (by rw [c39] <;> rfl) (by decide) ?_
                        refine f_aload_n hC dX5_readsOne_207 rfl 0 rfl ?_
                        obtain ⟨r40, h41, h12⟩ := fb_open h12
                        refine f_callV hC [] (c_X5_readsHalf l D cy a0 (sI (sI w 601 (gR w 508 a0 0) (Int32.toNatClampNeg (4 * (gI w 521 a0 0))) r1) 519 a0 0 ((gI (sI w 601 (gR w 508 a0 0) (Int32.toNatClampNeg (4 * (gI w 521 a0 0))) r1) 519 a0 0) + x7)) r40 h41) q_1729 q_137 q_1726 q_1728 q_128 h9_X5_readsHalf rfl (fSm.k (fSm.rf w) g3) ⟨Nat.le_of_ble_eq_true rfl, Nat.le_of_ble_eq_true rfl⟩ ⟨Nat.le_of_ble_eq_true rfl, Nat.le_of_ble_eq_true rfl⟩ (Nat.le_of_ble_eq_true rfl) rfl dX5_readsOne_208 (fun e42 => ?_)
                        refine f_goto hC 304 dX5_readsOne_211 (by decide) ?_
                        obtain rfl := Option.some.inj h12
                        refine f_sub (L' := [(0, .ref a0)]) [0] rfl ?_
                        exact K14 (fSm.tr e42 (fSm.rf w))
                      · replace h12 := fi_neg h12 c39
                        by_cases c43 : r1 = 109
                        · replace h12 := fi_pos h12 c43
                          refine f_tabIn hC 214 dX5_readsOne_37 (by rw [c43] <;> decide) (by rw [c43] <;> decide) (by rw [c43] <;> rfl) (by decide) ?_
                          refine f_aload_n hC dX5_readsOne_214 rfl 0 rfl ?_
                          refine f_getR hC 5 8 508 rfl (by decide) iX5 q_1267 rfl rfl (fSm.k (fSm.rf w) g3) dX5_readsOne_215 ?_
                          refine f_iconst (v := 4) hC dX5_readsOne_218 (by decide) ?_
                          refine f_aload_n hC dX5_readsOne_219 rfl 0 rfl ?_
                          refine f_getI hC 5 21 521 rfl (by decide) iX5 q_1280 rfl rfl (fSm.k (fSm.rf w) g3) dX5_readsOne_220 ?_
                          refine f_imul hC dX5_readsOne_223 ?_
                          refine f_iconst (v := 1) hC dX5_readsOne_224 (by decide) ?_
                          refine f_iadd hC dX5_readsOne_225 ?_
                          refine f_aload_n hC dX5_readsOne_226 rfl 0 rfl ?_
                          obtain ⟨r44, h45, h12⟩ := fb_open h12
                          refine f_callV hC [] (c_X5_digit l D cy a0 (sI (sI w 601 (gR w 508 a0 0) (Int32.toNatClampNeg (4 * (gI w 521 a0 0))) r1) 519 a0 0 ((gI (sI w 601 (gR w 508 a0 0) (Int32.toNatClampNeg (4 * (gI w 521 a0 0))) r1) 519 a0 0) + x7)) r44 h45) q_1725 q_137 q_1722 q_1724 q_127 h9_X5_digit rfl (fSm.k (fSm.rf w) g3) ⟨Nat.le_of_ble_eq_true rfl, Nat.le_of_ble_eq_true rfl⟩ ⟨Nat.le_of_ble_eq_true rfl, Nat.le_of_ble_eq_true rfl⟩ (Nat.le_of_ble_eq_true rfl) rfl dX5_readsOne_227 (fun e46 => ?_)
                          obtain ⟨g47, h12⟩ := fg_open h12
                          refine f_iast hC (fSm.k (fSm.tr e46 (fSm.rf w)) g5) (fSm.v (fSm.tr e46 (fSm.rf w)) g47) dX5_readsOne_230 ?_
                          refine f_aload_n hC dX5_readsOne_231 rfl 0 rfl ?_
                          refine f_bipush (v := 61) hC dX5_readsOne_232 (by decide) ?_
                          obtain ⟨r48, h49, h12⟩ := fb_open h12
                          refine f_callV hC [.int 61] (c_X5_sign l D cy a0 61 (sI r44.2 601 (gR (sI (sI w 601 (gR w 508 a0 0) (Int32.toNatClampNeg (4 * (gI w 521 a0 0))) r1) 519 a0 0 ((gI (sI w 601 (gR w 508 a0 0) (Int32.toNatClampNeg (4 * (gI w 521 a0 0))) r1) 519 a0 0) + x7)) 508 a0 0) (Int32.toNatClampNeg ((4 * (gI (sI (sI w 601 (gR w 508 a0 0) (Int32.toNatClampNeg (4 * (gI w 521 a0 0))) r1) 519 a0 0 ((gI (sI w 601 (gR w 508 a0 0) (Int32.toNatClampNeg (4 * (gI w 521 a0 0))) r1) 519 a0 0) + x7)) 521 a0 0)) + 1)) r44.1) r48 h49) q_1721 q_137 q_1718 q_1720 q_126 h9_X5_sign rfl (fSm.k (fSm.tr e46 (fSm.rf w)) g3) ⟨Nat.le_of_ble_eq_true rfl, Nat.le_of_ble_eq_true rfl⟩ ⟨Nat.le_of_ble_eq_true rfl, Nat.le_of_ble_eq_true rfl⟩ (Nat.le_of_ble_eq_true rfl) rfl dX5_readsOne_234 (fun e50 => ?_)
                          refine f_aload_n hC dX5_readsOne_237 rfl 0 rfl ?_
                          refine f_getR hC 5 8 508 rfl (by decide) iX5 q_1267 rfl rfl (fSm.k (fSm.tr e50 (fSm.tr e46 (fSm.rf w))) g3) dX5_readsOne_238 ?_
                          refine f_iconst (v := 4) hC dX5_readsOne_241 (by decide) ?_
                          refine f_aload_n hC dX5_readsOne_242 rfl 0 rfl ?_
                          refine f_getI hC 5 21 521 rfl (by decide) iX5 q_1280 rfl rfl (fSm.k (fSm.tr e50 (fSm.tr e46 (fSm.rf w))) g3) dX5_readsOne_243 ?_
                          refine f_imul hC dX5_readsOne_246 ?_
                          refine f_iconst (v := 2) hC dX5_readsOne_247 (by decide) ?_
                          refine f_iadd hC dX5_readsOne_248 ?_
                          refine f_aload_n hC dX5_readsOne_249 rfl 0 rfl ?_
                          obtain ⟨r51, h52, h12⟩ := fb_open h12
                          refine f_callV hC [] (c_X5_digit l D cy a0 r48 r51 h52) q_1725 q_137 q_1722 q_1724 q_127 h9_X5_digit rfl (fSm.k (fSm.tr e50 (fSm.tr e46 (fSm.rf w))) g3) ⟨Nat.le_of_ble_eq_true rfl, Nat.le_of_ble_eq_true rfl⟩ ⟨Nat.le_of_ble_eq_true rfl, Nat.le_of_ble_eq_true rfl⟩ (Nat.le_of_ble_eq_true rfl) rfl dX5_readsOne_250 (fun e53 => ?_)
                          obtain ⟨g54, h12⟩ := fg_open h12
                          obtain ⟨g55, h12⟩ := fg_open h12
                          refine f_iast hC (fSm.k (fSm.tr e53 (fSm.tr e50 (fSm.tr e46 (fSm.rf w)))) g54) (fSm.v (fSm.tr e53 (fSm.tr e50 (fSm.tr e46 (fSm.rf w)))) g55) dX5_readsOne_253 ?_
                          refine f_goto hC 304 dX5_readsOne_254 (by decide) ?_
                          obtain rfl := Option.some.inj h12
                          refine f_sub (L' := [(0, .ref a0)]) [0] rfl ?_
                          exact K14 (fSm.tr e53 (fSm.tr e50 (fSm.tr e46 (fSm.rf w))))
                        · replace h12 := fi_neg h12 c43
                          by_cases c56 : r1 = 110
                          · replace h12 := fi_pos h12 c56
                            refine f_tabIn hC 140 dX5_readsOne_37 (by rw [c56] <;> decide) (by rw [c56] <;> decide) (by rw [c56] <;> rfl) (by decide) ?_
                            refine f_aload_n hC dX5_readsOne_140 rfl 0 rfl ?_
                            obtain ⟨r57, h58, h12⟩ := fb_open h12
                            refine f_callV hC [] (c_X5_readsWord l D cy a0 (sI (sI w 601 (gR w 508 a0 0) (Int32.toNatClampNeg (4 * (gI w 521 a0 0))) r1) 519 a0 0 ((gI (sI w 601 (gR w 508 a0 0) (Int32.toNatClampNeg (4 * (gI w 521 a0 0))) r1) 519 a0 0) + x7)) r57 h58) q_1717 q_137 q_1714 q_1716 q_125 h9_X5_readsWord rfl (fSm.k (fSm.rf w) g3) ⟨Nat.le_of_ble_eq_true rfl, Nat.le_of_ble_eq_true rfl⟩ ⟨Nat.le_of_ble_eq_true rfl, Nat.le_of_ble_eq_true rfl⟩ (Nat.le_of_ble_eq_true rfl) rfl dX5_readsOne_141 (fun e59 => ?_)
                            refine f_goto hC 304 dX5_readsOne_144 (by decide) ?_
                            obtain rfl := Option.some.inj h12
                            refine f_sub (L' := [(0, .ref a0)]) [0] rfl ?_
                            exact K14 (fSm.tr e59 (fSm.rf w))
                          · replace h12 := fi_neg h12 c56
                            by_cases c60 : r1 = 111
                            · replace h12 := fi_pos h12 c60
                              refine f_tabIn hC 257 dX5_readsOne_37 (by rw [c60] <;> decide) (by rw [c60] <;> decide) (by rw [c60] <;> rfl) (by decide) ?_
                              refine f_aload_n hC dX5_readsOne_257 rfl 0 rfl ?_
                              refine f_getR hC 5 8 508 rfl (by decide) iX5 q_1267 rfl rfl (fSm.k (fSm.rf w) g3) dX5_readsOne_258 ?_
                              refine f_iconst (v := 4) hC dX5_readsOne_261 (by decide) ?_
                              refine f_aload_n hC dX5_readsOne_262 rfl 0 rfl ?_
                              refine f_getI hC 5 21 521 rfl (by decide) iX5 q_1280 rfl rfl (fSm.k (fSm.rf w) g3) dX5_readsOne_263 ?_
                              refine f_imul hC dX5_readsOne_266 ?_
                              refine f_iconst (v := 1) hC dX5_readsOne_267 (by decide) ?_
                              refine f_iadd hC dX5_readsOne_268 ?_
                              refine f_aload_n hC dX5_readsOne_269 rfl 0 rfl ?_
                              obtain ⟨r61, h62, h12⟩ := fb_open h12
                              refine f_callV hC [] (c_X5_digit l D cy a0 (sI (sI w 601 (gR w 508 a0 0) (Int32.toNatClampNeg (4 * (gI w 521 a0 0))) r1) 519 a0 0 ((gI (sI w 601 (gR w 508 a0 0) (Int32.toNatClampNeg (4 * (gI w 521 a0 0))) r1) 519 a0 0) + x7)) r61 h62) q_1725 q_137 q_1722 q_1724 q_127 h9_X5_digit rfl (fSm.k (fSm.rf w) g3) ⟨Nat.le_of_ble_eq_true rfl, Nat.le_of_ble_eq_true rfl⟩ ⟨Nat.le_of_ble_eq_true rfl, Nat.le_of_ble_eq_true rfl⟩ (Nat.le_of_ble_eq_true rfl) rfl dX5_readsOne_270 (fun e63 => ?_)
                              obtain ⟨g64, h12⟩ := fg_open h12
                              refine f_iast hC (fSm.k (fSm.tr e63 (fSm.rf w)) g5) (fSm.v (fSm.tr e63 (fSm.rf w)) g64) dX5_readsOne_273 ?_
                              refine f_goto hC 304 dX5_readsOne_274 (by decide) ?_
                              obtain rfl := Option.some.inj h12
                              refine f_sub (L' := [(0, .ref a0)]) [0] rfl ?_
                              exact K14 (fSm.tr e63 (fSm.rf w))
                            · replace h12 := fi_neg h12 c60
                              by_cases c65 : r1 = 112
                              · replace h12 := fi_pos h12 c65
                                refine f_tabIn hC 147 dX5_readsOne_37 (by rw [c65] <;> decide) (by rw [c65] <;> decide) (by rw [c65] <;> rfl) (by decide) ?_
                                refine f_aload_n hC dX5_readsOne_147 rfl 0 rfl ?_
                                obtain ⟨r66, h67, h12⟩ := fb_open h12
                                refine f_callV hC [] (c_X5_readsHalf l D cy a0 (sI (sI w 601 (gR w 508 a0 0) (Int32.toNatClampNeg (4 * (gI w 521 a0 0))) r1) 519 a0 0 ((gI (sI w 601 (gR w 508 a0 0) (Int32.toNatClampNeg (4 * (gI w 521 a0 0))) r1) 519 a0 0) + x7)) r66 h67) q_1729 q_137 q_1726 q_1728 q_128 h9_X5_readsHalf rfl (fSm.k (fSm.rf w) g3) ⟨Nat.le_of_ble_eq_true rfl, Nat.le_of_ble_eq_true rfl⟩ ⟨Nat.le_of_ble_eq_true rfl, Nat.le_of_ble_eq_true rfl⟩ (Nat.le_of_ble_eq_true rfl) rfl dX5_readsOne_148 (fun e68 => ?_)
                                refine f_aload_n hC dX5_readsOne_151 rfl 0 rfl ?_
                                refine f_bipush (v := 61) hC dX5_readsOne_152 (by decide) ?_
                                obtain ⟨r69, h70, h12⟩ := fb_open h12
                                refine f_callV hC [.int 61] (c_X5_sign l D cy a0 61 r66 r69 h70) q_1721 q_137 q_1718 q_1720 q_126 h9_X5_sign rfl (fSm.k (fSm.tr e68 (fSm.rf w)) g3) ⟨Nat.le_of_ble_eq_true rfl, Nat.le_of_ble_eq_true rfl⟩ ⟨Nat.le_of_ble_eq_true rfl, Nat.le_of_ble_eq_true rfl⟩ (Nat.le_of_ble_eq_true rfl) rfl dX5_readsOne_154 (fun e71 => ?_)
                                refine f_aload_n hC dX5_readsOne_157 rfl 0 rfl ?_
                                refine f_getR hC 5 8 508 rfl (by decide) iX5 q_1267 rfl rfl (fSm.k (fSm.tr e71 (fSm.tr e68 (fSm.rf w))) g3) dX5_readsOne_158 ?_
                                refine f_iconst (v := 4) hC dX5_readsOne_161 (by decide) ?_
                                refine f_aload_n hC dX5_readsOne_162 rfl 0 rfl ?_
                                refine f_getI hC 5 21 521 rfl (by decide) iX5 q_1280 rfl rfl (fSm.k (fSm.tr e71 (fSm.tr e68 (fSm.rf w))) g3) dX5_readsOne_163 ?_
                                refine f_imul hC dX5_readsOne_166 ?_
                                refine f_iconst (v := 3) hC dX5_readsOne_167 (by decide) ?_
                                refine f_iadd hC dX5_readsOne_168 ?_
                                refine f_aload_n hC dX5_readsOne_169 rfl 0 rfl ?_
                                obtain ⟨r72, h73, h12⟩ := fb_open h12
                                refine f_callV hC [] (c_X5_digit l D cy a0 r69 r72 h73) q_1725 q_137 q_1722 q_1724 q_127 h9_X5_digit rfl (fSm.k (fSm.tr e71 (fSm.tr e68 (fSm.rf w))) g3) ⟨Nat.le_of_ble_eq_true rfl, Nat.le_of_ble_eq_true rfl⟩ ⟨Nat.le_of_ble_eq_true rfl, Nat.le_of_ble_eq_true rfl⟩ (Nat.le_of_ble_eq_true rfl) rfl dX5_readsOne_170 (fun e74 => ?_)
                                obtain ⟨g75, h12⟩ := fg_open h12
                                obtain ⟨g76, h12⟩ := fg_open h12
                                refine f_iast hC (fSm.k (fSm.tr e74 (fSm.tr e71 (fSm.tr e68 (fSm.rf w)))) g75) (fSm.v (fSm.tr e74 (fSm.tr e71 (fSm.tr e68 (fSm.rf w)))) g76) dX5_readsOne_173 ?_
                                refine f_goto hC 304 dX5_readsOne_174 (by decide) ?_
                                obtain rfl := Option.some.inj h12
                                refine f_sub (L' := [(0, .ref a0)]) [0] rfl ?_
                                exact K14 (fSm.tr e74 (fSm.tr e71 (fSm.tr e68 (fSm.rf w))))
                              · replace h12 := fi_neg h12 c65
                                by_cases c77 : r1 = 113
                                · replace h12 := fi_pos h12 c77
                                  refine f_tabIn hC 280 dX5_readsOne_37 (by rw [c77] <;> decide) (by rw [c77] <;> decide) (by rw [c77] <;> rfl) (by decide) ?_
                                  refine f_aload_n hC dX5_readsOne_280 rfl 0 rfl ?_
                                  refine f_iconst (v := 1) hC dX5_readsOne_281 (by decide) ?_
                                  refine f_putI hC 5 22 522 rfl (by decide) iX5 tyX5 tyX5_ok nmX5 q_1281 rfl rfl rfl (nar_z (by decide)) (fit_z (by decide)) (fSm.k (fSm.rf w) g3) dX5_readsOne_282 ?_
                                  refine f_aload_n hC dX5_readsOne_285 rfl 0 rfl ?_
                                  refine f_dup hC dX5_readsOne_286 rfl ?_
                                  refine f_getI hC 5 19 519 rfl (by decide) iX5 q_1278 rfl rfl (fSm.k (fSm.rf w) g3) dX5_readsOne_287 ?_
                                  refine f_iload_n hC dX5_readsOne_290 rfl 1 rfl ?_
                                  refine f_iconst (v := (-1)) hC dX5_readsOne_291 (by decide) ?_
                                  refine f_icmp_ne hC 299 dX5_readsOne_292 (by decide) (fun c78 => ?_) (fun c78 => ?_)
                                  · replace h12 := fi_neg h12 c78
                                    refine f_iconst (v := 1) hC dX5_readsOne_299 (by decide) ?_
                                    refine f_isub hC dX5_readsOne_300 ?_
                                    refine f_putI hC 5 19 519 rfl (by decide) iX5 tyX5 tyX5_ok nmX5 q_1278 rfl rfl rfl rfl rfl (fSm.k (fSm.rf w) g3) dX5_readsOne_301 ?_
                                    obtain rfl := Option.some.inj h12
                                    refine f_sub (L' := [(0, .ref a0)]) [0] rfl ?_
                                    exact K14 (fSm.rf w)
                                  · replace h12 := fi_pos h12 c78
                                    refine f_iconst (v := 0) hC dX5_readsOne_295 (by decide) ?_
                                    refine f_goto hC 300 dX5_readsOne_296 (by decide) ?_
                                    refine f_isub hC dX5_readsOne_300 ?_
                                    refine f_putI hC 5 19 519 rfl (by decide) iX5 tyX5 tyX5_ok nmX5 q_1278 rfl rfl rfl rfl rfl (fSm.k (fSm.rf w) g3) dX5_readsOne_301 ?_
                                    obtain rfl := Option.some.inj h12
                                    refine f_sub (L' := [(0, .ref a0)]) [0] rfl ?_
                                    exact K14 (fSm.rf w)
                                · replace h12 := fi_neg h12 c77
                                  by_cases c79 : r1 = 114
                                  · replace h12 := fi_pos h12 c79
                                    refine f_tabIn hC 280 dX5_readsOne_37 (by rw [c79] <;> decide) (by rw [c79] <;> decide) (by rw [c79] <;> rfl) (by decide) ?_
                                    refine f_aload_n hC dX5_readsOne_280 rfl 0 rfl ?_
                                    refine f_iconst (v := 1) hC dX5_readsOne_281 (by decide) ?_
                                    refine f_putI hC 5 22 522 rfl (by decide) iX5 tyX5 tyX5_ok nmX5 q_1281 rfl rfl rfl (nar_z (by decide)) (fit_z (by decide)) (fSm.k (fSm.rf w) g3) dX5_readsOne_282 ?_
                                    refine f_aload_n hC dX5_readsOne_285 rfl 0 rfl ?_
                                    refine f_dup hC dX5_readsOne_286 rfl ?_
                                    refine f_getI hC 5 19 519 rfl (by decide) iX5 q_1278 rfl rfl (fSm.k (fSm.rf w) g3) dX5_readsOne_287 ?_
                                    refine f_iload_n hC dX5_readsOne_290 rfl 1 rfl ?_
                                    refine f_iconst (v := (-1)) hC dX5_readsOne_291 (by decide) ?_
                                    refine f_icmp_ne hC 299 dX5_readsOne_292 (by decide) (fun c80 => ?_) (fun c80 => ?_)
                                    · replace h12 := fi_neg h12 c80
                                      refine f_iconst (v := 1) hC dX5_readsOne_299 (by decide) ?_
                                      refine f_isub hC dX5_readsOne_300 ?_
                                      refine f_putI hC 5 19 519 rfl (by decide) iX5 tyX5 tyX5_ok nmX5 q_1278 rfl rfl rfl rfl rfl (fSm.k (fSm.rf w) g3) dX5_readsOne_301 ?_
                                      obtain rfl := Option.some.inj h12
                                      refine f_sub (L' := [(0, .ref a0)]) [0] rfl ?_
                                      exact K14 (fSm.rf w)
                                    · replace h12 := fi_pos h12 c80
                                      refine f_iconst (v := 0) hC dX5_readsOne_295 (by decide) ?_
                                      refine f_goto hC 300 dX5_readsOne_296 (by decide) ?_
                                      refine f_isub hC dX5_readsOne_300 ?_
                                      refine f_putI hC 5 19 519 rfl (by decide) iX5 tyX5 tyX5_ok nmX5 q_1278 rfl rfl rfl rfl rfl (fSm.k (fSm.rf w) g3) dX5_readsOne_301 ?_
                                      obtain rfl := Option.some.inj h12
                                      refine f_sub (L' := [(0, .ref a0)]) [0] rfl ?_
                                      exact K14 (fSm.rf w)
                                  · replace h12 := fi_neg h12 c79
                                    by_cases c81 : r1 = 115
                                    · replace h12 := fi_pos h12 c81
                                      refine f_tabIn hC 280 dX5_readsOne_37 (by rw [c81] <;> decide) (by rw [c81] <;> decide) (by rw [c81] <;> rfl) (by decide) ?_
                                      refine f_aload_n hC dX5_readsOne_280 rfl 0 rfl ?_
                                      refine f_iconst (v := 1) hC dX5_readsOne_281 (by decide) ?_
                                      refine f_putI hC 5 22 522 rfl (by decide) iX5 tyX5 tyX5_ok nmX5 q_1281 rfl rfl rfl (nar_z (by decide)) (fit_z (by decide)) (fSm.k (fSm.rf w) g3) dX5_readsOne_282 ?_
                                      refine f_aload_n hC dX5_readsOne_285 rfl 0 rfl ?_
                                      refine f_dup hC dX5_readsOne_286 rfl ?_
                                      refine f_getI hC 5 19 519 rfl (by decide) iX5 q_1278 rfl rfl (fSm.k (fSm.rf w) g3) dX5_readsOne_287 ?_
                                      refine f_iload_n hC dX5_readsOne_290 rfl 1 rfl ?_
                                      refine f_iconst (v := (-1)) hC dX5_readsOne_291 (by decide) ?_
                                      refine f_icmp_ne hC 299 dX5_readsOne_292 (by decide) (fun c82 => ?_) (fun c82 => ?_)
                                      · replace h12 := fi_neg h12 c82
                                        refine f_iconst (v := 1) hC dX5_readsOne_299 (by decide) ?_
                                        refine f_isub hC dX5_readsOne_300 ?_
                                        refine f_putI hC 5 19 519 rfl (by decide) iX5 tyX5 tyX5_ok nmX5 q_1278 rfl rfl rfl rfl rfl (fSm.k (fSm.rf w) g3) dX5_readsOne_301 ?_
                                        obtain rfl := Option.some.inj h12
                                        refine f_sub (L' := [(0, .ref a0)]) [0] rfl ?_
                                        exact K14 (fSm.rf w)
                                      · replace h12 := fi_pos h12 c82
                                        refine f_iconst (v := 0) hC dX5_readsOne_295 (by decide) ?_
                                        refine f_goto hC 300 dX5_readsOne_296 (by decide) ?_
                                        refine f_isub hC dX5_readsOne_300 ?_
                                        refine f_putI hC 5 19 519 rfl (by decide) iX5 tyX5 tyX5_ok nmX5 q_1278 rfl rfl rfl rfl rfl (fSm.k (fSm.rf w) g3) dX5_readsOne_301 ?_
                                        obtain rfl := Option.some.inj h12
                                        refine f_sub (L' := [(0, .ref a0)]) [0] rfl ?_
                                        exact K14 (fSm.rf w)
                                    · replace h12 := fi_neg h12 c81
                                      by_cases c83 : r1 = 116
                                      · replace h12 := fi_pos h12 c83
                                        refine f_tabIn hC 257 dX5_readsOne_37 (by rw [c83] <;> decide) (by rw [c83] <;> decide) (by rw [c83] <;> rfl) (by decide) ?_
                                        refine f_aload_n hC dX5_readsOne_257 rfl 0 rfl ?_
                                        refine f_getR hC 5 8 508 rfl (by decide) iX5 q_1267 rfl rfl (fSm.k (fSm.rf w) g3) dX5_readsOne_258 ?_
                                        refine f_iconst (v := 4) hC dX5_readsOne_261 (by decide) ?_
                                        refine f_aload_n hC dX5_readsOne_262 rfl 0 rfl ?_
                                        refine f_getI hC 5 21 521 rfl (by decide) iX5 q_1280 rfl rfl (fSm.k (fSm.rf w) g3) dX5_readsOne_263 ?_
                                        refine f_imul hC dX5_readsOne_266 ?_
                                        refine f_iconst (v := 1) hC dX5_readsOne_267 (by decide) ?_
                                        refine f_iadd hC dX5_readsOne_268 ?_
                                        refine f_aload_n hC dX5_readsOne_269 rfl 0 rfl ?_
                                        obtain ⟨r84, h85, h12⟩ := fb_open h12
                                        refine f_callV hC [] (c_X5_digit l D cy a0 (sI (sI w 601 (gR w 508 a0 0) (Int32.toNatClampNeg (4 * (gI w 521 a0 0))) r1) 519 a0 0 ((gI (sI w 601 (gR w 508 a0 0) (Int32.toNatClampNeg (4 * (gI w 521 a0 0))) r1) 519 a0 0) + x7)) r84 h85) q_1725 q_137 q_1722 q_1724 q_127 h9_X5_digit rfl (fSm.k (fSm.rf w) g3) ⟨Nat.le_of_ble_eq_true rfl, Nat.le_of_ble_eq_true rfl⟩ ⟨Nat.le_of_ble_eq_true rfl, Nat.le_of_ble_eq_true rfl⟩ (Nat.le_of_ble_eq_true rfl) rfl dX5_readsOne_270 (fun e86 => ?_)
                                        obtain ⟨g87, h12⟩ := fg_open h12
                                        refine f_iast hC (fSm.k (fSm.tr e86 (fSm.rf w)) g5) (fSm.v (fSm.tr e86 (fSm.rf w)) g87) dX5_readsOne_273 ?_
                                        refine f_goto hC 304 dX5_readsOne_274 (by decide) ?_
                                        obtain rfl := Option.some.inj h12
                                        refine f_sub (L' := [(0, .ref a0)]) [0] rfl ?_
                                        exact K14 (fSm.tr e86 (fSm.rf w))
                                      · replace h12 := fi_neg h12 c83
                                        by_cases c88 : r1 = 117
                                        · replace h12 := fi_pos h12 c88
                                          refine f_tabIn hC 280 dX5_readsOne_37 (by rw [c88] <;> decide) (by rw [c88] <;> decide) (by rw [c88] <;> rfl) (by decide) ?_
                                          refine f_aload_n hC dX5_readsOne_280 rfl 0 rfl ?_
                                          refine f_iconst (v := 1) hC dX5_readsOne_281 (by decide) ?_
                                          refine f_putI hC 5 22 522 rfl (by decide) iX5 tyX5 tyX5_ok nmX5 q_1281 rfl rfl rfl (nar_z (by decide)) (fit_z (by decide)) (fSm.k (fSm.rf w) g3) dX5_readsOne_282 ?_
                                          refine f_aload_n hC dX5_readsOne_285 rfl 0 rfl ?_
                                          refine f_dup hC dX5_readsOne_286 rfl ?_
                                          refine f_getI hC 5 19 519 rfl (by decide) iX5 q_1278 rfl rfl (fSm.k (fSm.rf w) g3) dX5_readsOne_287 ?_
                                          refine f_iload_n hC dX5_readsOne_290 rfl 1 rfl ?_
                                          refine f_iconst (v := (-1)) hC dX5_readsOne_291 (by decide) ?_
                                          refine f_icmp_ne hC 299 dX5_readsOne_292 (by decide) (fun c89 => ?_) (fun c89 => ?_)
                                          · replace h12 := fi_neg h12 c89
                                            refine f_iconst (v := 1) hC dX5_readsOne_299 (by decide) ?_
                                            refine f_isub hC dX5_readsOne_300 ?_
                                            refine f_putI hC 5 19 519 rfl (by decide) iX5 tyX5 tyX5_ok nmX5 q_1278 rfl rfl rfl rfl rfl (fSm.k (fSm.rf w) g3) dX5_readsOne_301 ?_
                                            obtain rfl := Option.some.inj h12
                                            refine f_sub (L' := [(0, .ref a0)]) [0] rfl ?_
                                            exact K14 (fSm.rf w)
                                          · replace h12 := fi_pos h12 c89
                                            refine f_iconst (v := 0) hC dX5_readsOne_295 (by decide) ?_
                                            refine f_goto hC 300 dX5_readsOne_296 (by decide) ?_
                                            refine f_isub hC dX5_readsOne_300 ?_
                                            refine f_putI hC 5 19 519 rfl (by decide) iX5 tyX5 tyX5_ok nmX5 q_1278 rfl rfl rfl rfl rfl (fSm.k (fSm.rf w) g3) dX5_readsOne_301 ?_
                                            obtain rfl := Option.some.inj h12
                                            refine f_sub (L' := [(0, .ref a0)]) [0] rfl ?_
                                            exact K14 (fSm.rf w)
                                        · replace h12 := fi_neg h12 c88
                                          by_cases c90 : r1 = 118
                                          · replace h12 := fi_pos h12 c90
                                            refine f_tabIn hC 280 dX5_readsOne_37 (by rw [c90] <;> decide) (by rw [c90] <;> decide) (by rw [c90] <;> rfl) (by decide) ?_
                                            refine f_aload_n hC dX5_readsOne_280 rfl 0 rfl ?_
                                            refine f_iconst (v := 1) hC dX5_readsOne_281 (by decide) ?_
                                            refine f_putI hC 5 22 522 rfl (by decide) iX5 tyX5 tyX5_ok nmX5 q_1281 rfl rfl rfl (nar_z (by decide)) (fit_z (by decide)) (fSm.k (fSm.rf w) g3) dX5_readsOne_282 ?_
                                            refine f_aload_n hC dX5_readsOne_285 rfl 0 rfl ?_
                                            refine f_dup hC dX5_readsOne_286 rfl ?_
                                            refine f_getI hC 5 19 519 rfl (by decide) iX5 q_1278 rfl rfl (fSm.k (fSm.rf w) g3) dX5_readsOne_287 ?_
                                            refine f_iload_n hC dX5_readsOne_290 rfl 1 rfl ?_
                                            refine f_iconst (v := (-1)) hC dX5_readsOne_291 (by decide) ?_
                                            refine f_icmp_ne hC 299 dX5_readsOne_292 (by decide) (fun c91 => ?_) (fun c91 => ?_)
                                            · replace h12 := fi_neg h12 c91
                                              refine f_iconst (v := 1) hC dX5_readsOne_299 (by decide) ?_
                                              refine f_isub hC dX5_readsOne_300 ?_
                                              refine f_putI hC 5 19 519 rfl (by decide) iX5 tyX5 tyX5_ok nmX5 q_1278 rfl rfl rfl rfl rfl (fSm.k (fSm.rf w) g3) dX5_readsOne_301 ?_
                                              obtain rfl := Option.some.inj h12
                                              refine f_sub (L' := [(0, .ref a0)]) [0] rfl ?_
                                              exact K14 (fSm.rf w)
                                            · replace h12 := fi_pos h12 c91
                                              refine f_iconst (v := 0) hC dX5_readsOne_295 (by decide) ?_
                                              refine f_goto hC 300 dX5_readsOne_296 (by decide) ?_
                                              refine f_isub hC dX5_readsOne_300 ?_
                                              refine f_putI hC 5 19 519 rfl (by decide) iX5 tyX5 tyX5_ok nmX5 q_1278 rfl rfl rfl rfl rfl (fSm.k (fSm.rf w) g3) dX5_readsOne_301 ?_
                                              obtain rfl := Option.some.inj h12
                                              refine f_sub (L' := [(0, .ref a0)]) [0] rfl ?_
                                              exact K14 (fSm.rf w)
                                          · replace h12 := fi_neg h12 c90
                                            by_cases c92 : r1 = 119
                                            · replace h12 := fi_pos h12 c92
                                              refine f_tabIn hC 177 dX5_readsOne_37 (by rw [c92] <;> decide) (by rw [c92] <;> decide) (by rw [c92] <;> rfl) (by decide) ?_
                                              refine f_aload_n hC dX5_readsOne_177 rfl 0 rfl ?_
                                              obtain ⟨r93, h94, h12⟩ := fb_open h12
                                              refine f_callV hC [] (c_X5_readsHalf l D cy a0 (sI (sI w 601 (gR w 508 a0 0) (Int32.toNatClampNeg (4 * (gI w 521 a0 0))) r1) 519 a0 0 ((gI (sI w 601 (gR w 508 a0 0) (Int32.toNatClampNeg (4 * (gI w 521 a0 0))) r1) 519 a0 0) + x7)) r93 h94) q_1729 q_137 q_1726 q_1728 q_128 h9_X5_readsHalf rfl (fSm.k (fSm.rf w) g3) ⟨Nat.le_of_ble_eq_true rfl, Nat.le_of_ble_eq_true rfl⟩ ⟨Nat.le_of_ble_eq_true rfl, Nat.le_of_ble_eq_true rfl⟩ (Nat.le_of_ble_eq_true rfl) rfl dX5_readsOne_178 (fun e95 => ?_)
                                              refine f_aload_n hC dX5_readsOne_181 rfl 0 rfl ?_
                                              refine f_bipush (v := 43) hC dX5_readsOne_182 (by decide) ?_
                                              obtain ⟨r96, h97, h12⟩ := fb_open h12
                                              refine f_callV hC [.int 43] (c_X5_sign l D cy a0 43 r93 r96 h97) q_1721 q_137 q_1718 q_1720 q_126 h9_X5_sign rfl (fSm.k (fSm.tr e95 (fSm.rf w)) g3) ⟨Nat.le_of_ble_eq_true rfl, Nat.le_of_ble_eq_true rfl⟩ ⟨Nat.le_of_ble_eq_true rfl, Nat.le_of_ble_eq_true rfl⟩ (Nat.le_of_ble_eq_true rfl) rfl dX5_readsOne_184 (fun e98 => ?_)
                                              refine f_aload_n hC dX5_readsOne_187 rfl 0 rfl ?_
                                              refine f_getR hC 5 8 508 rfl (by decide) iX5 q_1267 rfl rfl (fSm.k (fSm.tr e98 (fSm.tr e95 (fSm.rf w))) g3) dX5_readsOne_188 ?_
                                              refine f_iconst (v := 4) hC dX5_readsOne_191 (by decide) ?_
                                              refine f_aload_n hC dX5_readsOne_192 rfl 0 rfl ?_
                                              refine f_getI hC 5 21 521 rfl (by decide) iX5 q_1280 rfl rfl (fSm.k (fSm.tr e98 (fSm.tr e95 (fSm.rf w))) g3) dX5_readsOne_193 ?_
                                              refine f_imul hC dX5_readsOne_196 ?_
                                              refine f_iconst (v := 3) hC dX5_readsOne_197 (by decide) ?_
                                              refine f_iadd hC dX5_readsOne_198 ?_
                                              refine f_aload_n hC dX5_readsOne_199 rfl 0 rfl ?_
                                              obtain ⟨r99, h100, h12⟩ := fb_open h12
                                              refine f_callV hC [] (c_X5_digit l D cy a0 r96 r99 h100) q_1725 q_137 q_1722 q_1724 q_127 h9_X5_digit rfl (fSm.k (fSm.tr e98 (fSm.tr e95 (fSm.rf w))) g3) ⟨Nat.le_of_ble_eq_true rfl, Nat.le_of_ble_eq_true rfl⟩ ⟨Nat.le_of_ble_eq_true rfl, Nat.le_of_ble_eq_true rfl⟩ (Nat.le_of_ble_eq_true rfl) rfl dX5_readsOne_200 (fun e101 => ?_)
                                              obtain ⟨g102, h12⟩ := fg_open h12
                                              obtain ⟨g103, h12⟩ := fg_open h12
                                              refine f_iast hC (fSm.k (fSm.tr e101 (fSm.tr e98 (fSm.tr e95 (fSm.rf w)))) g102) (fSm.v (fSm.tr e101 (fSm.tr e98 (fSm.tr e95 (fSm.rf w)))) g103) dX5_readsOne_203 ?_
                                              refine f_goto hC 304 dX5_readsOne_204 (by decide) ?_
                                              obtain rfl := Option.some.inj h12
                                              refine f_sub (L' := [(0, .ref a0)]) [0] rfl ?_
                                              exact K14 (fSm.tr e101 (fSm.tr e98 (fSm.tr e95 (fSm.rf w))))
                                            · replace h12 := fi_neg h12 c92
                                              by_cases c104 : r1 = 120
                                              · replace h12 := fi_pos h12 c104
                                                refine f_tabIn hC 257 dX5_readsOne_37 (by rw [c104] <;> decide) (by rw [c104] <;> decide) (by rw [c104] <;> rfl) (by decide) ?_
                                                refine f_aload_n hC dX5_readsOne_257 rfl 0 rfl ?_
                                                refine f_getR hC 5 8 508 rfl (by decide) iX5 q_1267 rfl rfl (fSm.k (fSm.rf w) g3) dX5_readsOne_258 ?_
                                                refine f_iconst (v := 4) hC dX5_readsOne_261 (by decide) ?_
                                                refine f_aload_n hC dX5_readsOne_262 rfl 0 rfl ?_
                                                refine f_getI hC 5 21 521 rfl (by decide) iX5 q_1280 rfl rfl (fSm.k (fSm.rf w) g3) dX5_readsOne_263 ?_
                                                refine f_imul hC dX5_readsOne_266 ?_
                                                refine f_iconst (v := 1) hC dX5_readsOne_267 (by decide) ?_
                                                refine f_iadd hC dX5_readsOne_268 ?_
                                                refine f_aload_n hC dX5_readsOne_269 rfl 0 rfl ?_
                                                obtain ⟨r105, h106, h12⟩ := fb_open h12
                                                refine f_callV hC [] (c_X5_digit l D cy a0 (sI (sI w 601 (gR w 508 a0 0) (Int32.toNatClampNeg (4 * (gI w 521 a0 0))) r1) 519 a0 0 ((gI (sI w 601 (gR w 508 a0 0) (Int32.toNatClampNeg (4 * (gI w 521 a0 0))) r1) 519 a0 0) + x7)) r105 h106) q_1725 q_137 q_1722 q_1724 q_127 h9_X5_digit rfl (fSm.k (fSm.rf w) g3) ⟨Nat.le_of_ble_eq_true rfl, Nat.le_of_ble_eq_true rfl⟩ ⟨Nat.le_of_ble_eq_true rfl, Nat.le_of_ble_eq_true rfl⟩ (Nat.le_of_ble_eq_true rfl) rfl dX5_readsOne_270 (fun e107 => ?_)
                                                obtain ⟨g108, h12⟩ := fg_open h12
                                                refine f_iast hC (fSm.k (fSm.tr e107 (fSm.rf w)) g5) (fSm.v (fSm.tr e107 (fSm.rf w)) g108) dX5_readsOne_273 ?_
                                                refine f_goto hC 304 dX5_readsOne_274 (by decide) ?_
                                                obtain rfl := Option.some.inj h12
                                                refine f_sub (L' := [(0, .ref a0)]) [0] rfl ?_
                                                exact K14 (fSm.tr e107 (fSm.rf w))
                                              · replace h12 := fi_neg h12 c104
                                                refine f_tabOut hC 280 dX5_readsOne_37 (ftab 99 120 (by decide) (by decide) (fun j h1 h2 => ?_)) (by decide) ?_
                                                · rcases (show j = 99 ∨ j = 100 ∨ j = 101 ∨ j = 102 ∨ j = 103 ∨ j = 104 ∨ j = 105 ∨ j = 106 ∨ j = 107 ∨ j = 108 ∨ j = 109 ∨ j = 110 ∨ j = 111 ∨ j = 112 ∨ j = 113 ∨ j = 114 ∨ j = 115 ∨ j = 116 ∨ j = 117 ∨ j = 118 ∨ j = 119 ∨ j = 120 by omega) with rfl | rfl | rfl | rfl | rfl | rfl | rfl | rfl | rfl | rfl | rfl | rfl | rfl | rfl | rfl | rfl | rfl | rfl | rfl | rfl | rfl | rfl
                                                  · exact c15
                                                  · exact c20
                                                  · exact c21
                                                  · exact c23
                                                  · exact c27
                                                  · exact c31
                                                  · exact c33
                                                  · exact c35
                                                  · exact c37
                                                  · exact c39
                                                  · exact c43
                                                  · exact c56
                                                  · exact c60
                                                  · exact c65
                                                  · exact c77
                                                  · exact c79
                                                  · exact c81
                                                  · exact c83
                                                  · exact c88
                                                  · exact c90
                                                  · exact c92
                                                  · exact c104
                                                refine f_aload_n hC dX5_readsOne_280 rfl 0 rfl ?_
                                                refine f_iconst (v := 1) hC dX5_readsOne_281 (by decide) ?_
                                                refine f_putI hC 5 22 522 rfl (by decide) iX5 tyX5 tyX5_ok nmX5 q_1281 rfl rfl rfl (nar_z (by decide)) (fit_z (by decide)) (fSm.k (fSm.rf w) g3) dX5_readsOne_282 ?_
                                                refine f_aload_n hC dX5_readsOne_285 rfl 0 rfl ?_
                                                refine f_dup hC dX5_readsOne_286 rfl ?_
                                                refine f_getI hC 5 19 519 rfl (by decide) iX5 q_1278 rfl rfl (fSm.k (fSm.rf w) g3) dX5_readsOne_287 ?_
                                                refine f_iload_n hC dX5_readsOne_290 rfl 1 rfl ?_
                                                refine f_iconst (v := (-1)) hC dX5_readsOne_291 (by decide) ?_
                                                refine f_icmp_ne hC 299 dX5_readsOne_292 (by decide) (fun c109 => ?_) (fun c109 => ?_)
                                                · replace h12 := fi_neg h12 c109
                                                  refine f_iconst (v := 1) hC dX5_readsOne_299 (by decide) ?_
                                                  refine f_isub hC dX5_readsOne_300 ?_
                                                  refine f_putI hC 5 19 519 rfl (by decide) iX5 tyX5 tyX5_ok nmX5 q_1278 rfl rfl rfl rfl rfl (fSm.k (fSm.rf w) g3) dX5_readsOne_301 ?_
                                                  obtain rfl := Option.some.inj h12
                                                  refine f_sub (L' := [(0, .ref a0)]) [0] rfl ?_
                                                  exact K14 (fSm.rf w)
                                                · replace h12 := fi_pos h12 c109
                                                  refine f_iconst (v := 0) hC dX5_readsOne_295 (by decide) ?_
                                                  refine f_goto hC 300 dX5_readsOne_296 (by decide) ?_
                                                  refine f_isub hC dX5_readsOne_300 ?_
                                                  refine f_putI hC 5 19 519 rfl (by decide) iX5 tyX5 tyX5_ok nmX5 q_1278 rfl rfl rfl rfl rfl (fSm.k (fSm.rf w) g3) dX5_readsOne_301 ?_
                                                  obtain rfl := Option.some.inj h12
                                                  refine f_sub (L' := [(0, .ref a0)]) [0] rfl ?_
                                                  exact K14 (fSm.rf w)
  refine f_icmp_ne hC 31 dX5_readsOne_24 (by decide) (fun c110 => ?_) (fun c110 => ?_)
  · replace h8 := fi_neg h8 c110
    refine f_iconst (v := 1) hC dX5_readsOne_31 (by decide) ?_
    obtain rfl := Option.some.inj h8
    refine f_sub (L' := [(0, .ref a0), (1, .int r1)]) [1, 0] rfl ?_
    exact K10
  · replace h8 := fi_pos h8 c110
    refine f_iconst (v := 0) hC dX5_readsOne_27 (by decide) ?_
    refine f_goto hC 32 dX5_readsOne_28 (by decide) ?_
    obtain rfl := Option.some.inj h8
    refine f_sub (L' := [(0, .ref a0), (1, .int r1)]) [1, 0] rfl ?_
    exact K10
theorem dX5_printsGiven_0 : decode cX5_printsGiven 0 = .ok (.iload_n 3, 1) := by decide +kernel
theorem dX5_printsGiven_1 : decode cX5_printsGiven 1 = .ok (.bipush 100, 2) := by decide +kernel
theorem dX5_printsGiven_3 : decode cX5_printsGiven 3 = .ok (.irem, 1) := by decide +kernel
theorem dX5_printsGiven_4 : decode cX5_printsGiven 4 = .ok (.istore 4, 2) := by decide +kernel
theorem dX5_printsGiven_6 : decode cX5_printsGiven 6 = .ok (.iconst 0, 1) := by decide +kernel
theorem dX5_printsGiven_7 : decode cX5_printsGiven 7 = .ok (.istore 5, 2) := by decide +kernel
theorem dX5_printsGiven_9 : decode cX5_printsGiven 9 = .ok (.iload 5, 2) := by decide +kernel
theorem dX5_printsGiven_11 : decode cX5_printsGiven 11 = .ok (.bipush 6, 2) := by decide +kernel
theorem dX5_printsGiven_13 : decode cX5_printsGiven 13 = .ok (.if_icmp .ge 25, 3) := by decide +kernel
theorem dX5_printsGiven_16 : decode cX5_printsGiven 16 = .ok (.aload_n 0, 1) := by decide +kernel
theorem dX5_printsGiven_17 : decode cX5_printsGiven 17 = .ok (.getfield 22, 3) := by decide +kernel
theorem dX5_printsGiven_20 : decode cX5_printsGiven 20 = .ok (.iload 4, 2) := by decide +kernel
theorem dX5_printsGiven_22 : decode cX5_printsGiven 22 = .ok (.iload 5, 2) := by decide +kernel
theorem dX5_printsGiven_24 : decode cX5_printsGiven 24 = .ok (.iadd, 1) := by decide +kernel
theorem dX5_printsGiven_25 : decode cX5_printsGiven 25 = .ok (.iaload, 1) := by decide +kernel
theorem dX5_printsGiven_26 : decode cX5_printsGiven 26 = .ok (.invokestatic 119, 3) := by decide +kernel
theorem dX5_printsGiven_29 : decode cX5_printsGiven 29 = .ok (.ifCond .eq 9, 3) := by decide +kernel
theorem dX5_printsGiven_32 : decode cX5_printsGiven 32 = .ok (.iinc 5 1, 3) := by decide +kernel
theorem dX5_printsGiven_35 : decode cX5_printsGiven 35 = .ok (.goto (-26), 3) := by decide +kernel
theorem dX5_printsGiven_38 : decode cX5_printsGiven 38 = .ok (.iconst 0, 1) := by decide +kernel
theorem dX5_printsGiven_39 : decode cX5_printsGiven 39 = .ok (.istore 6, 2) := by decide +kernel
theorem dX5_printsGiven_41 : decode cX5_printsGiven 41 = .ok (.iload 6, 2) := by decide +kernel
theorem dX5_printsGiven_43 : decode cX5_printsGiven 43 = .ok (.bipush 7, 2) := by decide +kernel
theorem dX5_printsGiven_45 : decode cX5_printsGiven 45 = .ok (.if_icmp .ge 44, 3) := by decide +kernel
theorem dX5_printsGiven_48 : decode cX5_printsGiven 48 = .ok (.aload_n 0, 1) := by decide +kernel
theorem dX5_printsGiven_49 : decode cX5_printsGiven 49 = .ok (.getfield 31, 3) := by decide +kernel
theorem dX5_printsGiven_52 : decode cX5_printsGiven 52 = .ok (.iload 6, 2) := by decide +kernel
theorem dX5_printsGiven_54 : decode cX5_printsGiven 54 = .ok (.iload 6, 2) := by decide +kernel
theorem dX5_printsGiven_56 : decode cX5_printsGiven 56 = .ok (.ifCond .le 25, 3) := by decide +kernel
theorem dX5_printsGiven_59 : decode cX5_printsGiven 59 = .ok (.iload 6, 2) := by decide +kernel
theorem dX5_printsGiven_61 : decode cX5_printsGiven 61 = .ok (.iload 5, 2) := by decide +kernel
theorem dX5_printsGiven_63 : decode cX5_printsGiven 63 = .ok (.if_icmp .gt 18, 3) := by decide +kernel
theorem dX5_printsGiven_66 : decode cX5_printsGiven 66 = .ok (.aload_n 0, 1) := by decide +kernel
theorem dX5_printsGiven_67 : decode cX5_printsGiven 67 = .ok (.getfield 22, 3) := by decide +kernel
theorem dX5_printsGiven_70 : decode cX5_printsGiven 70 = .ok (.iload 4, 2) := by decide +kernel
theorem dX5_printsGiven_72 : decode cX5_printsGiven 72 = .ok (.iload 6, 2) := by decide +kernel
theorem dX5_printsGiven_74 : decode cX5_printsGiven 74 = .ok (.iadd, 1) := by decide +kernel
theorem dX5_printsGiven_75 : decode cX5_printsGiven 75 = .ok (.iconst 1, 1) := by decide +kernel
theorem dX5_printsGiven_76 : decode cX5_printsGiven 76 = .ok (.isub, 1) := by decide +kernel
theorem dX5_printsGiven_77 : decode cX5_printsGiven 77 = .ok (.iaload, 1) := by decide +kernel
theorem dX5_printsGiven_78 : decode cX5_printsGiven 78 = .ok (.goto 4, 3) := by decide +kernel
theorem dX5_printsGiven_81 : decode cX5_printsGiven 81 = .ok (.iconst 0, 1) := by decide +kernel
theorem dX5_printsGiven_82 : decode cX5_printsGiven 82 = .ok (.iastore, 1) := by decide +kernel
theorem dX5_printsGiven_83 : decode cX5_printsGiven 83 = .ok (.iinc 6 1, 3) := by decide +kernel
theorem dX5_printsGiven_86 : decode cX5_printsGiven 86 = .ok (.goto (-45), 3) := by decide +kernel
theorem dX5_printsGiven_89 : decode cX5_printsGiven 89 = .ok (.aload_n 0, 1) := by decide +kernel
theorem dX5_printsGiven_90 : decode cX5_printsGiven 90 = .ok (.getfield 31, 3) := by decide +kernel
theorem dX5_printsGiven_93 : decode cX5_printsGiven 93 = .ok (.iconst 0, 1) := by decide +kernel
theorem dX5_printsGiven_94 : decode cX5_printsGiven 94 = .ok (.iload 5, 2) := by decide +kernel
theorem dX5_printsGiven_96 : decode cX5_printsGiven 96 = .ok (.iastore, 1) := by decide +kernel
theorem dX5_printsGiven_97 : decode cX5_printsGiven 97 = .ok (.aload_n 0, 1) := by decide +kernel
theorem dX5_printsGiven_98 : decode cX5_printsGiven 98 = .ok (.iload_n 1, 1) := by decide +kernel
theorem dX5_printsGiven_99 : decode cX5_printsGiven 99 = .ok (.iload_n 2, 1) := by decide +kernel
theorem dX5_printsGiven_100 : decode cX5_printsGiven 100 = .ok (.iload_n 3, 1) := by decide +kernel
theorem dX5_printsGiven_101 : decode cX5_printsGiven 101 = .ok (.bipush 100, 2) := by decide +kernel
theorem dX5_printsGiven_103 : decode cX5_printsGiven 103 = .ok (.idiv, 1) := by decide +kernel
theorem dX5_printsGiven_104 : decode cX5_printsGiven 104 = .ok (.invokevirtual 132, 3) := by decide +kernel
theorem dX5_printsGiven_107 : decode cX5_printsGiven 107 = .ok (.ireturn, 1) := by decide +kernel
theorem h9_X5_printsGiven : yX5_printsGiven.cls ≠ "java/lang/invoke/MethodHandle" ∧ yX5_printsGiven.cls ≠ "java/lang/invoke/VarHandle" ∧ (parseMethodDescriptor yX5_printsGiven.desc).map (fun d => d.parameters.length) = some 3 := by decide +kernel
noncomputable def F_X5_printsGiven (a0 : Nat) (x1 : Int32) (x2 : Int32) (x3 : Int32) (w : FW) : Option (Int32 × FW) :=
  (fLoop (σ := Int32) (ρ := Int32) (fun s1 => (if 6 ≤ s1 then some (.inr s1) else fg (w.1 a0 = 6) inferInstance (fg (w.1 (gR w 507 a0 0) = 11) inferInstance (fg (¬ (((frem x3 100) + s1) < 0 ∨ w.2.1 (gR w 507 a0 0) ≤ Int32.toNatClampNeg ((frem x3 100) + s1))) inferInstance ((F_X5_isLetter (gI w 601 (gR w 507 a0 0) (Int32.toNatClampNeg ((frem x3 100) + s1))) w).bind (fun r14 => (if r14 = 0 then some (.inr s1) else some (.inl (s1 + 1))))))))) 0).bind (fun x7 => (fLoop (σ := Int32 × FW) (ρ := FW) (fun s18 => (if 7 ≤ s18.1 then some (.inr s18.2) else fg (w.1 a0 = 6) inferInstance ((if s18.1 ≤ 0 then fg (w.1 (gR s18.2 510 a0 0) = 11) inferInstance (fg (¬ (s18.1 < 0 ∨ w.2.1 (gR s18.2 510 a0 0) ≤ Int32.toNatClampNeg s18.1)) inferInstance (some (.inl ((s18.1 + 1), (sI s18.2 601 (gR s18.2 510 a0 0) (Int32.toNatClampNeg s18.1) 0))))) else (if x7 < s18.1 then fg (w.1 (gR s18.2 510 a0 0) = 11) inferInstance (fg (¬ (s18.1 < 0 ∨ w.2.1 (gR s18.2 510 a0 0) ≤ Int32.toNatClampNeg s18.1)) inferInstance (some (.inl ((s18.1 + 1), (sI s18.2 601 (gR s18.2 510 a0 0) (Int32.toNatClampNeg s18.1) 0))))) else fg (w.1 (gR s18.2 507 a0 0) = 11) inferInstance (fg (¬ ((((frem x3 100) + s18.1) - 1) < 0 ∨ w.2.1 (gR s18.2 507 a0 0) ≤ Int32.toNatClampNeg (((frem x3 100) + s18.1) - 1))) inferInstance (fg (w.1 (gR s18.2 510 a0 0) = 11) inferInstance (fg (¬ (s18.1 < 0 ∨ w.2.1 (gR s18.2 510 a0 0) ≤ Int32.toNatClampNeg s18.1)) inferInstance (some (.inl ((s18.1 + 1), (sI s18.2 601 (gR s18.2 510 a0 0) (Int32.toNatClampNeg s18.1) (gI s18.2 601 (gR s18.2 507 a0 0) (Int32.toNatClampNeg (((frem x3 100) + s18.1) - 1))))))))))))))) (0, w)).bind (fun x24 => fg (w.1 a0 = 6) inferInstance (fg (w.1 (gR x24 510 a0 0) = 11) inferInstance (fg (¬ ((0 : Int32) < 0 ∨ w.2.1 (gR x24 510 a0 0) ≤ Int32.toNatClampNeg 0)) inferInstance ((F_X5_prints a0 x1 x2 (x3 / 100) (sI x24 601 (gR x24 510 a0 0) (Int32.toNatClampNeg 0) x7)).bind (fun r42 => some (r42.1, r42.2)))))))
set_option maxHeartbeats 4000000 in
set_option maxRecDepth 100000 in
theorem c_X5_printsGiven (l : Launch) (D : va_G) (cy : Nat → ClassId) (a0 : Nat) (x1 : Int32) (x2 : Int32) (x3 : Int32) (w : FW) (r : Int32 × FW) (hF : F_X5_printsGiven a0 x1 x2 x3 w = some r) : fSpec l D cy yX5_printsGiven cX5_printsGiven 7 (some .int) { frames := 3, cells := 0, slots := 0, locals := 74 } [.ref a0, .int x1, .int x2, .int x3] w r.2 (some (.int r.1)) := by
  refine f_begin (by decide +kernel) (Nat.le_of_ble_eq_true rfl) (fun X hC hEn => ?_)
  unfold F_X5_printsGiven at hF
  show fAt X 0 0 7 w [(0, .ref a0), (1, .int x1), (2, .int x2), (3, .int x3)] [] 0
  refine f_iload_n hC dX5_printsGiven_0 rfl 3 rfl ?_
  refine f_bipush (v := 100) hC dX5_printsGiven_1 (by decide) ?_
  refine f_irem hC dX5_printsGiven_3 (by decide) ?_
  refine f_istore (L' := [(4, .int (frem x3 100)), (0, .ref a0), (1, .int x1), (2, .int x2), (3, .int x3)]) hC dX5_printsGiven_4 (by decide) rfl ?_
  refine f_iconst (v := 0) hC dX5_printsGiven_6 (by decide) ?_
  refine f_istore (L' := [(5, .int 0), (4, .int (frem x3 100)), (0, .ref a0), (1, .int x1), (2, .int x2), (3, .int x3)]) hC dX5_printsGiven_7 (by decide) rfl ?_
  obtain ⟨x7, h8, hF⟩ := fb_open hF
  have K9 : fAt X 0 0 7 w [(0, .ref a0), (1, .int x1), (2, .int x2), (3, .int x3), (4, .int (frem x3 100)), (5, .int x7)] [] 38 := by
    refine f_iconst (v := 0) hC dX5_printsGiven_38 (by decide) ?_
    refine f_istore (L' := [(6, .int 0), (0, .ref a0), (1, .int x1), (2, .int x2), (3, .int x3), (4, .int (frem x3 100)), (5, .int x7)]) hC dX5_printsGiven_39 (by decide) rfl ?_
    obtain ⟨x24, h25, hF⟩ := fb_open hF
    have K26 : fSm x24 w → fAt X 0 0 7 x24 [(0, .ref a0), (1, .int x1), (2, .int x2), (3, .int x3), (5, .int x7)] [] 89 := by
      intro p22
      refine f_aload_n hC dX5_printsGiven_89 rfl 0 rfl ?_
      obtain ⟨g39, hF⟩ := fg_open hF
      refine f_getR hC 5 10 510 rfl (by decide) iX5 q_1269 rfl rfl (fSm.k p22 g39) dX5_printsGiven_90 ?_
      refine f_iconst (v := 0) hC dX5_printsGiven_93 (by decide) ?_
      refine f_iload hC dX5_printsGiven_94 4 rfl ?_
      obtain ⟨g40, hF⟩ := fg_open hF
      obtain ⟨g41, hF⟩ := fg_open hF
      refine f_iast hC (fSm.k p22 g40) (fSm.v p22 g41) dX5_printsGiven_96 ?_
      refine f_aload_n hC dX5_printsGiven_97 rfl 0 rfl ?_
      refine f_iload_n hC dX5_printsGiven_98 rfl 1 rfl ?_
      refine f_iload_n hC dX5_printsGiven_99 rfl 2 rfl ?_
      refine f_iload_n hC dX5_printsGiven_100 rfl 3 rfl ?_
      refine f_bipush (v := 100) hC dX5_printsGiven_101 (by decide) ?_
      refine f_idiv hC dX5_printsGiven_103 (by decide) ?_
      obtain ⟨r42, h43, hF⟩ := fb_open hF
      refine f_callV hC [.int x1, .int x2, .int (x3 / 100)] (c_X5_prints l D cy a0 x1 x2 (x3 / 100) (sI x24 601 (gR x24 510 a0 0) (Int32.toNatClampNeg 0) x7) r42 h43) q_1400 q_137 q_1397 q_1399 q_82 h9_X5_prints rfl (fSm.k p22 g39) ⟨Nat.le_of_ble_eq_true rfl, Nat.le_of_ble_eq_true rfl⟩ ⟨Nat.le_of_ble_eq_true rfl, Nat.le_of_ble_eq_true rfl⟩ (Nat.le_of_ble_eq_true rfl) rfl dX5_printsGiven_104 (fun e44 => ?_)
      obtain rfl := Option.some.inj hF
      exact f_iret hC hEn (fSm.tr e44 p22) dX5_printsGiven_107
    refine f_sub (L' := [(0, .ref a0), (1, .int x1), (2, .int x2), (3, .int x3), (4, .int (frem x3 100)), (5, .int x7), (6, .int 0)]) [1, 2, 3, 4, 5, 6, 0] rfl ?_
    refine fLoop_ind (fun (s18 : Int32 × FW) => fSm s18.2 w → fAt X 0 0 7 s18.2 [(0, .ref a0), (1, .int x1), (2, .int x2), (3, .int x3), (4, .int (frem x3 100)), (5, .int x7), (6, .int s18.1)] [] 41) (fun s18 y23 h19 go20 ou21 => ?_) h25 (fSm.rf w)
    intro p22
    refine f_iload hC dX5_printsGiven_41 6 rfl ?_
    refine f_bipush (v := 7) hC dX5_printsGiven_43 (by decide) ?_
    refine f_icmp_ge hC 89 dX5_printsGiven_45 (by decide) (fun c27 => ?_) (fun c27 => ?_)
    · replace h19 := fi_pos h19 c27
      obtain rfl := Option.some.inj h19
      obtain rfl := ou21 _ rfl
      refine f_sub (L' := [(0, .ref a0), (1, .int x1), (2, .int x2), (3, .int x3), (5, .int x7)]) [0, 1, 2, 3, 5] rfl ?_
      exact K26 p22
    · replace h19 := fi_neg h19 c27
      refine f_aload_n hC dX5_printsGiven_48 rfl 0 rfl ?_
      obtain ⟨g28, h19⟩ := fg_open h19
      refine f_getR hC 5 10 510 rfl (by decide) iX5 q_1269 rfl rfl (fSm.k p22 g28) dX5_printsGiven_49 ?_
      refine f_iload hC dX5_printsGiven_52 6 rfl ?_
      refine f_iload hC dX5_printsGiven_54 6 rfl ?_
      refine f_if_le hC 81 dX5_printsGiven_56 (by decide) (fun c29 => ?_) (fun c29 => ?_)
      · replace h19 := fi_pos h19 c29
        refine f_iconst (v := 0) hC dX5_printsGiven_81 (by decide) ?_
        obtain ⟨g30, h19⟩ := fg_open h19
        obtain ⟨g31, h19⟩ := fg_open h19
        refine f_iast hC (fSm.k p22 g30) (fSm.v p22 g31) dX5_printsGiven_82 ?_
        refine f_iinc (L' := [(6, .int (s18.1 + 1)), (0, .ref a0), (1, .int x1), (2, .int x2), (3, .int x3), (4, .int (frem x3 100)), (5, .int x7)]) hC dX5_printsGiven_83 6 rfl rfl (by decide) rfl ?_
        refine f_goto hC 41 dX5_printsGiven_86 (by decide) ?_
        obtain rfl := Option.some.inj h19
        refine f_sub (L' := [(0, .ref a0), (1, .int x1), (2, .int x2), (3, .int x3), (4, .int (frem x3 100)), (5, .int x7), (6, .int (s18.1 + 1))]) [1, 2, 3, 4, 5, 6, 0] rfl ?_
        exact go20 _ rfl p22
      · replace h19 := fi_neg h19 c29
        refine f_iload hC dX5_printsGiven_59 6 rfl ?_
        refine f_iload hC dX5_printsGiven_61 5 rfl ?_
        refine f_icmp_gt hC 81 dX5_printsGiven_63 (by decide) (fun c32 => ?_) (fun c32 => ?_)
        · replace h19 := fi_pos h19 c32
          refine f_iconst (v := 0) hC dX5_printsGiven_81 (by decide) ?_
          obtain ⟨g33, h19⟩ := fg_open h19
          obtain ⟨g34, h19⟩ := fg_open h19
          refine f_iast hC (fSm.k p22 g33) (fSm.v p22 g34) dX5_printsGiven_82 ?_
          refine f_iinc (L' := [(6, .int (s18.1 + 1)), (0, .ref a0), (1, .int x1), (2, .int x2), (3, .int x3), (4, .int (frem x3 100)), (5, .int x7)]) hC dX5_printsGiven_83 6 rfl rfl (by decide) rfl ?_
          refine f_goto hC 41 dX5_printsGiven_86 (by decide) ?_
          obtain rfl := Option.some.inj h19
          refine f_sub (L' := [(0, .ref a0), (1, .int x1), (2, .int x2), (3, .int x3), (4, .int (frem x3 100)), (5, .int x7), (6, .int (s18.1 + 1))]) [1, 2, 3, 4, 5, 6, 0] rfl ?_
          exact go20 _ rfl p22
        · replace h19 := fi_neg h19 c32
          refine f_aload_n hC dX5_printsGiven_66 rfl 0 rfl ?_
          refine f_getR hC 5 7 507 rfl (by decide) iX5 q_1266 rfl rfl (fSm.k p22 g28) dX5_printsGiven_67 ?_
          refine f_iload hC dX5_printsGiven_70 4 rfl ?_
          refine f_iload hC dX5_printsGiven_72 6 rfl ?_
          refine f_iadd hC dX5_printsGiven_74 ?_
          refine f_iconst (v := 1) hC dX5_printsGiven_75 (by decide) ?_
          refine f_isub hC dX5_printsGiven_76 ?_
          obtain ⟨g35, h19⟩ := fg_open h19
          obtain ⟨g36, h19⟩ := fg_open h19
          refine f_iald hC (fSm.k p22 g35) (fSm.v p22 g36) dX5_printsGiven_77 ?_
          refine f_goto hC 82 dX5_printsGiven_78 (by decide) ?_
          obtain ⟨g37, h19⟩ := fg_open h19
          obtain ⟨g38, h19⟩ := fg_open h19
          refine f_iast hC (fSm.k p22 g37) (fSm.v p22 g38) dX5_printsGiven_82 ?_
          refine f_iinc (L' := [(6, .int (s18.1 + 1)), (0, .ref a0), (1, .int x1), (2, .int x2), (3, .int x3), (4, .int (frem x3 100)), (5, .int x7)]) hC dX5_printsGiven_83 6 rfl rfl (by decide) rfl ?_
          refine f_goto hC 41 dX5_printsGiven_86 (by decide) ?_
          obtain rfl := Option.some.inj h19
          refine f_sub (L' := [(0, .ref a0), (1, .int x1), (2, .int x2), (3, .int x3), (4, .int (frem x3 100)), (5, .int x7), (6, .int (s18.1 + 1))]) [1, 2, 3, 4, 5, 6, 0] rfl ?_
          exact go20 _ rfl p22
  refine f_sub (L' := [(0, .ref a0), (1, .int x1), (2, .int x2), (3, .int x3), (4, .int (frem x3 100)), (5, .int 0)]) [2, 3, 4, 5, 1, 0] rfl ?_
  refine fLoop_ind (fun (s1 : Int32) => fAt X 0 0 7 w [(0, .ref a0), (1, .int x1), (2, .int x2), (3, .int x3), (4, .int (frem x3 100)), (5, .int s1)] [] 9) (fun s1 y6 h2 go3 ou4 => ?_) h8
  refine f_iload hC dX5_printsGiven_9 5 rfl ?_
  refine f_bipush (v := 6) hC dX5_printsGiven_11 (by decide) ?_
  refine f_icmp_ge hC 38 dX5_printsGiven_13 (by decide) (fun c10 => ?_) (fun c10 => ?_)
  · replace h2 := fi_pos h2 c10
    obtain rfl := Option.some.inj h2
    obtain rfl := ou4 _ rfl
    exact K9
  · replace h2 := fi_neg h2 c10
    refine f_aload_n hC dX5_printsGiven_16 rfl 0 rfl ?_
    obtain ⟨g11, h2⟩ := fg_open h2
    refine f_getR hC 5 7 507 rfl (by decide) iX5 q_1266 rfl rfl (fSm.k (fSm.rf w) g11) dX5_printsGiven_17 ?_
    refine f_iload hC dX5_printsGiven_20 4 rfl ?_
    refine f_iload hC dX5_printsGiven_22 5 rfl ?_
    refine f_iadd hC dX5_printsGiven_24 ?_
    obtain ⟨g12, h2⟩ := fg_open h2
    obtain ⟨g13, h2⟩ := fg_open h2
    refine f_iald hC (fSm.k (fSm.rf w) g12) (fSm.v (fSm.rf w) g13) dX5_printsGiven_25 ?_
    obtain ⟨r14, h15, h2⟩ := fb_open h2
    refine f_callS hC [.int (gI w 601 (gR w 507 a0 0) (Int32.toNatClampNeg ((frem x3 100) + s1)))] (c_X5_isLetter l D cy (gI w 601 (gR w 507 a0 0) (Int32.toNatClampNeg ((frem x3 100) + s1))) w r14 h15) q_1351 q_137 q_1349 q_1350 h9_X5_isLetter ⟨Nat.le_of_ble_eq_true rfl, Nat.le_of_ble_eq_true rfl⟩ ⟨Nat.le_of_ble_eq_true rfl, Nat.le_of_ble_eq_true rfl⟩ (Nat.le_of_ble_eq_true rfl) rfl dX5_printsGiven_26 (fun e16 => ?_)
    refine f_if_eq hC 38 dX5_printsGiven_29 (by decide) (fun c17 => ?_) (fun c17 => ?_)
    · replace h2 := fi_pos h2 c17
      obtain rfl := Option.some.inj h2
      obtain rfl := ou4 _ rfl
      exact K9
    · replace h2 := fi_neg h2 c17
      refine f_iinc (L' := [(5, .int (s1 + 1)), (0, .ref a0), (1, .int x1), (2, .int x2), (3, .int x3), (4, .int (frem x3 100))]) hC dX5_printsGiven_32 5 rfl rfl (by decide) rfl ?_
      refine f_goto hC 9 dX5_printsGiven_35 (by decide) ?_
      obtain rfl := Option.some.inj h2
      refine f_sub (L' := [(0, .ref a0), (1, .int x1), (2, .int x2), (3, .int x3), (4, .int (frem x3 100)), (5, .int (s1 + 1))]) [1, 2, 3, 4, 5, 0] rfl ?_
      exact go3 _ rfl
theorem dX5_does_0 : decode cX5_does 0 = .ok (.aload_n 0, 1) := by decide +kernel
theorem dX5_does_1 : decode cX5_does 1 = .ok (.getfield 25, 3) := by decide +kernel
theorem dX5_does_4 : decode cX5_does 4 = .ok (.iconst 4, 1) := by decide +kernel
theorem dX5_does_5 : decode cX5_does 5 = .ok (.iload_n 1, 1) := by decide +kernel
theorem dX5_does_6 : decode cX5_does 6 = .ok (.imul, 1) := by decide +kernel
theorem dX5_does_7 : decode cX5_does 7 = .ok (.iconst 1, 1) := by decide +kernel
theorem dX5_does_8 : decode cX5_does 8 = .ok (.iadd, 1) := by decide +kernel
theorem dX5_does_9 : decode cX5_does 9 = .ok (.iaload, 1) := by decide +kernel
theorem dX5_does_10 : decode cX5_does 10 = .ok (.istore_n 2, 1) := by decide +kernel
theorem dX5_does_11 : decode cX5_does 11 = .ok (.aload_n 0, 1) := by decide +kernel
theorem dX5_does_12 : decode cX5_does 12 = .ok (.getfield 25, 3) := by decide +kernel
theorem dX5_does_15 : decode cX5_does 15 = .ok (.iconst 4, 1) := by decide +kernel
theorem dX5_does_16 : decode cX5_does 16 = .ok (.iload_n 1, 1) := by decide +kernel
theorem dX5_does_17 : decode cX5_does 17 = .ok (.imul, 1) := by decide +kernel
theorem dX5_does_18 : decode cX5_does 18 = .ok (.iconst 2, 1) := by decide +kernel
theorem dX5_does_19 : decode cX5_does 19 = .ok (.iadd, 1) := by decide +kernel
theorem dX5_does_20 : decode cX5_does 20 = .ok (.iaload, 1) := by decide +kernel
theorem dX5_does_21 : decode cX5_does 21 = .ok (.istore_n 3, 1) := by decide +kernel
theorem dX5_does_22 : decode cX5_does 22 = .ok (.aload_n 0, 1) := by decide +kernel
theorem dX5_does_23 : decode cX5_does 23 = .ok (.getfield 25, 3) := by decide +kernel
theorem dX5_does_26 : decode cX5_does 26 = .ok (.iconst 4, 1) := by decide +kernel
theorem dX5_does_27 : decode cX5_does 27 = .ok (.iload_n 1, 1) := by decide +kernel
theorem dX5_does_28 : decode cX5_does 28 = .ok (.imul, 1) := by decide +kernel
theorem dX5_does_29 : decode cX5_does 29 = .ok (.iconst 3, 1) := by decide +kernel
theorem dX5_does_30 : decode cX5_does 30 = .ok (.iadd, 1) := by decide +kernel
theorem dX5_does_31 : decode cX5_does 31 = .ok (.iaload, 1) := by decide +kernel
theorem dX5_does_32 : decode cX5_does 32 = .ok (.istore 4, 2) := by decide +kernel
theorem dX5_does_34 : decode cX5_does 34 = .ok (.aload_n 0, 1) := by decide +kernel
theorem dX5_does_35 : decode cX5_does 35 = .ok (.getfield 25, 3) := by decide +kernel
theorem dX5_does_38 : decode cX5_does 38 = .ok (.iconst 4, 1) := by decide +kernel
theorem dX5_does_39 : decode cX5_does 39 = .ok (.iload_n 1, 1) := by decide +kernel
theorem dX5_does_40 : decode cX5_does 40 = .ok (.imul, 1) := by decide +kernel
theorem dX5_does_41 : decode cX5_does 41 = .ok (.iaload, 1) := by decide +kernel
theorem dX5_does_42 : decode cX5_does 42 = .ok (.tableswitch 185 99 120 #[165, 185, 185, 143, 151, 185, 185, 185, 185, 135, 158, 102, 172, 111, 185, 185, 185, 129, 185, 185, 120, 179], 102) := by decide +kernel
theorem dX5_does_144 : decode cX5_does 144 = .ok (.aload_n 0, 1) := by decide +kernel
theorem dX5_does_145 : decode cX5_does 145 = .ok (.iload_n 2, 1) := by decide +kernel
theorem dX5_does_146 : decode cX5_does 146 = .ok (.iload_n 3, 1) := by decide +kernel
theorem dX5_does_147 : decode cX5_does 147 = .ok (.iload 4, 2) := by decide +kernel
theorem dX5_does_149 : decode cX5_does 149 = .ok (.invokevirtual 279, 3) := by decide +kernel
theorem dX5_does_152 : decode cX5_does 152 = .ok (.ireturn, 1) := by decide +kernel
theorem dX5_does_153 : decode cX5_does 153 = .ok (.aload_n 0, 1) := by decide +kernel
theorem dX5_does_154 : decode cX5_does 154 = .ok (.iload_n 2, 1) := by decide +kernel
theorem dX5_does_155 : decode cX5_does 155 = .ok (.iload_n 3, 1) := by decide +kernel
theorem dX5_does_156 : decode cX5_does 156 = .ok (.iload 4, 2) := by decide +kernel
theorem dX5_does_158 : decode cX5_does 158 = .ok (.invokevirtual 198, 3) := by decide +kernel
theorem dX5_does_161 : decode cX5_does 161 = .ok (.ireturn, 1) := by decide +kernel
theorem dX5_does_162 : decode cX5_does 162 = .ok (.aload_n 0, 1) := by decide +kernel
theorem dX5_does_163 : decode cX5_does 163 = .ok (.iload_n 2, 1) := by decide +kernel
theorem dX5_does_164 : decode cX5_does 164 = .ok (.iload_n 3, 1) := by decide +kernel
theorem dX5_does_165 : decode cX5_does 165 = .ok (.iload 4, 2) := by decide +kernel
theorem dX5_does_167 : decode cX5_does 167 = .ok (.invokevirtual 201, 3) := by decide +kernel
theorem dX5_does_170 : decode cX5_does 170 = .ok (.ireturn, 1) := by decide +kernel
theorem dX5_does_171 : decode cX5_does 171 = .ok (.aload_n 0, 1) := by decide +kernel
theorem dX5_does_172 : decode cX5_does 172 = .ok (.iload_n 2, 1) := by decide +kernel
theorem dX5_does_173 : decode cX5_does 173 = .ok (.invokevirtual 204, 3) := by decide +kernel
theorem dX5_does_176 : decode cX5_does 176 = .ok (.ireturn, 1) := by decide +kernel
theorem dX5_does_177 : decode cX5_does 177 = .ok (.aload_n 0, 1) := by decide +kernel
theorem dX5_does_178 : decode cX5_does 178 = .ok (.iload_n 2, 1) := by decide +kernel
theorem dX5_does_179 : decode cX5_does 179 = .ok (.iload_n 3, 1) := by decide +kernel
theorem dX5_does_180 : decode cX5_does 180 = .ok (.iconst 1, 1) := by decide +kernel
theorem dX5_does_181 : decode cX5_does 181 = .ok (.invokevirtual 207, 3) := by decide +kernel
theorem dX5_does_184 : decode cX5_does 184 = .ok (.ireturn, 1) := by decide +kernel
theorem dX5_does_185 : decode cX5_does 185 = .ok (.aload_n 0, 1) := by decide +kernel
theorem dX5_does_186 : decode cX5_does 186 = .ok (.iload_n 2, 1) := by decide +kernel
theorem dX5_does_187 : decode cX5_does 187 = .ok (.iload_n 3, 1) := by decide +kernel
theorem dX5_does_188 : decode cX5_does 188 = .ok (.iconst 0, 1) := by decide +kernel
theorem dX5_does_189 : decode cX5_does 189 = .ok (.invokevirtual 207, 3) := by decide +kernel
theorem dX5_does_192 : decode cX5_does 192 = .ok (.ireturn, 1) := by decide +kernel
theorem dX5_does_193 : decode cX5_does 193 = .ok (.aload_n 0, 1) := by decide +kernel
theorem dX5_does_194 : decode cX5_does 194 = .ok (.iload_n 2, 1) := by decide +kernel
theorem dX5_does_195 : decode cX5_does 195 = .ok (.iload_n 3, 1) := by decide +kernel
theorem dX5_does_196 : decode cX5_does 196 = .ok (.invokevirtual 219, 3) := by decide +kernel
theorem dX5_does_199 : decode cX5_does 199 = .ok (.ireturn, 1) := by decide +kernel
theorem dX5_does_200 : decode cX5_does 200 = .ok (.aload_n 0, 1) := by decide +kernel
theorem dX5_does_201 : decode cX5_does 201 = .ok (.iload_n 2, 1) := by decide +kernel
theorem dX5_does_202 : decode cX5_does 202 = .ok (.iload_n 3, 1) := by decide +kernel
theorem dX5_does_203 : decode cX5_does 203 = .ok (.invokevirtual 184, 3) := by decide +kernel
theorem dX5_does_206 : decode cX5_does 206 = .ok (.ireturn, 1) := by decide +kernel
theorem dX5_does_207 : decode cX5_does 207 = .ok (.aload_n 0, 1) := by decide +kernel
theorem dX5_does_208 : decode cX5_does 208 = .ok (.iload_n 2, 1) := by decide +kernel
theorem dX5_does_209 : decode cX5_does 209 = .ok (.iconst 0, 1) := by decide +kernel
theorem dX5_does_210 : decode cX5_does 210 = .ok (.invokevirtual 187, 3) := by decide +kernel
theorem dX5_does_213 : decode cX5_does 213 = .ok (.ireturn, 1) := by decide +kernel
theorem dX5_does_214 : decode cX5_does 214 = .ok (.aload_n 0, 1) := by decide +kernel
theorem dX5_does_215 : decode cX5_does 215 = .ok (.iload_n 2, 1) := by decide +kernel
theorem dX5_does_216 : decode cX5_does 216 = .ok (.iconst 1, 1) := by decide +kernel
theorem dX5_does_217 : decode cX5_does 217 = .ok (.invokevirtual 187, 3) := by decide +kernel
theorem dX5_does_220 : decode cX5_does 220 = .ok (.ireturn, 1) := by decide +kernel
theorem dX5_does_221 : decode cX5_does 221 = .ok (.aload_n 0, 1) := by decide +kernel
theorem dX5_does_222 : decode cX5_does 222 = .ok (.iload_n 2, 1) := by decide +kernel
theorem dX5_does_223 : decode cX5_does 223 = .ok (.invokevirtual 181, 3) := by decide +kernel
theorem dX5_does_226 : decode cX5_does 226 = .ok (.ireturn, 1) := by decide +kernel
theorem dX5_does_227 : decode cX5_does 227 = .ok (.aload_n 0, 1) := by decide +kernel
theorem dX5_does_228 : decode cX5_does 228 = .ok (.invokevirtual 222, 3) := by decide +kernel
theorem dX5_does_231 : decode cX5_does 231 = .ok (.ireturn, 1) := by decide +kernel
theorem h9_X5_does : yX5_does.cls ≠ "java/lang/invoke/MethodHandle" ∧ yX5_does.cls ≠ "java/lang/invoke/VarHandle" ∧ (parseMethodDescriptor yX5_does.desc).map (fun d => d.parameters.length) = some 1 := by decide +kernel
noncomputable def F_X5_does (a0 : Nat) (x1 : Int32) (w : FW) : Option (Int32 × FW) :=
  fg (w.1 a0 = 6) inferInstance (fg (w.1 (gR w 508 a0 0) = 11) inferInstance (fg (¬ (((4 * x1) + 1) < 0 ∨ w.2.1 (gR w 508 a0 0) ≤ Int32.toNatClampNeg ((4 * x1) + 1))) inferInstance (fg (¬ (((4 * x1) + 2) < 0 ∨ w.2.1 (gR w 508 a0 0) ≤ Int32.toNatClampNeg ((4 * x1) + 2))) inferInstance (fg (¬ (((4 * x1) + 3) < 0 ∨ w.2.1 (gR w 508 a0 0) ≤ Int32.toNatClampNeg ((4 * x1) + 3))) inferInstance (fg (¬ ((4 * x1) < 0 ∨ w.2.1 (gR w 508 a0 0) ≤ Int32.toNatClampNeg (4 * x1))) inferInstance ((if (gI w 601 (gR w 508 a0 0) (Int32.toNatClampNeg (4 * x1))) = 99 then (F_X5_turnsPier a0 (gI w 601 (gR w 508 a0 0) (Int32.toNatClampNeg ((4 * x1) + 1))) 0 w).bind (fun r8 => some (r8.1, r8.2)) else (if (gI w 601 (gR w 508 a0 0) (Int32.toNatClampNeg (4 * x1))) = 100 then (F_X5_passes a0 w).bind (fun r12 => some (r12.1, r12.2)) else (if (gI w 601 (gR w 508 a0 0) (Int32.toNatClampNeg (4 * x1))) = 101 then (F_X5_passes a0 w).bind (fun r16 => some (r16.1, r16.2)) else (if (gI w 601 (gR w 508 a0 0) (Int32.toNatClampNeg (4 * x1))) = 102 then (F_X5_goes a0 (gI w 601 (gR w 508 a0 0) (Int32.toNatClampNeg ((4 * x1) + 1))) (gI w 601 (gR w 508 a0 0) (Int32.toNatClampNeg ((4 * x1) + 2))) 0 w).bind (fun r20 => some (r20.1, r20.2)) else (if (gI w 601 (gR w 508 a0 0) (Int32.toNatClampNeg (4 * x1))) = 103 then (F_X5_rides a0 (gI w 601 (gR w 508 a0 0) (Int32.toNatClampNeg ((4 * x1) + 1))) (gI w 601 (gR w 508 a0 0) (Int32.toNatClampNeg ((4 * x1) + 2))) w).bind (fun r24 => some (r24.1, r24.2)) else (if (gI w 601 (gR w 508 a0 0) (Int32.toNatClampNeg (4 * x1))) = 104 then (F_X5_passes a0 w).bind (fun r28 => some (r28.1, r28.2)) else (if (gI w 601 (gR w 508 a0 0) (Int32.toNatClampNeg (4 * x1))) = 105 then (F_X5_passes a0 w).bind (fun r32 => some (r32.1, r32.2)) else (if (gI w 601 (gR w 508 a0 0) (Int32.toNatClampNeg (4 * x1))) = 106 then (F_X5_passes a0 w).bind (fun r36 => some (r36.1, r36.2)) else (if (gI w 601 (gR w 508 a0 0) (Int32.toNatClampNeg (4 * x1))) = 107 then (F_X5_passes a0 w).bind (fun r40 => some (r40.1, r40.2)) else (if (gI w 601 (gR w 508 a0 0) (Int32.toNatClampNeg (4 * x1))) = 108 then (F_X5_goes a0 (gI w 601 (gR w 508 a0 0) (Int32.toNatClampNeg ((4 * x1) + 1))) (gI w 601 (gR w 508 a0 0) (Int32.toNatClampNeg ((4 * x1) + 2))) 1 w).bind (fun r44 => some (r44.1, r44.2)) else (if (gI w 601 (gR w 508 a0 0) (Int32.toNatClampNeg (4 * x1))) = 109 then (F_X5_tellsMood a0 (gI w 601 (gR w 508 a0 0) (Int32.toNatClampNeg ((4 * x1) + 1))) (gI w 601 (gR w 508 a0 0) (Int32.toNatClampNeg ((4 * x1) + 2))) w).bind (fun r48 => some (r48.1, r48.2)) else (if (gI w 601 (gR w 508 a0 0) (Int32.toNatClampNeg (4 * x1))) = 110 then (F_X5_printsGiven a0 (gI w 601 (gR w 508 a0 0) (Int32.toNatClampNeg ((4 * x1) + 1))) (gI w 601 (gR w 508 a0 0) (Int32.toNatClampNeg ((4 * x1) + 2))) (gI w 601 (gR w 508 a0 0) (Int32.toNatClampNeg ((4 * x1) + 3))) w).bind (fun r52 => some (r52.1, r52.2)) else (if (gI w 601 (gR w 508 a0 0) (Int32.toNatClampNeg (4 * x1))) = 111 then (F_X5_turnsPier a0 (gI w 601 (gR w 508 a0 0) (Int32.toNatClampNeg ((4 * x1) + 1))) 1 w).bind (fun r56 => some (r56.1, r56.2)) else (if (gI w 601 (gR w 508 a0 0) (Int32.toNatClampNeg (4 * x1))) = 112 then (F_X5_punches a0 (gI w 601 (gR w 508 a0 0) (Int32.toNatClampNeg ((4 * x1) + 1))) (gI w 601 (gR w 508 a0 0) (Int32.toNatClampNeg ((4 * x1) + 2))) (gI w 601 (gR w 508 a0 0) (Int32.toNatClampNeg ((4 * x1) + 3))) w).bind (fun r60 => some (r60.1, r60.2)) else (if (gI w 601 (gR w 508 a0 0) (Int32.toNatClampNeg (4 * x1))) = 113 then (F_X5_passes a0 w).bind (fun r64 => some (r64.1, r64.2)) else (if (gI w 601 (gR w 508 a0 0) (Int32.toNatClampNeg (4 * x1))) = 114 then (F_X5_passes a0 w).bind (fun r68 => some (r68.1, r68.2)) else (if (gI w 601 (gR w 508 a0 0) (Int32.toNatClampNeg (4 * x1))) = 115 then (F_X5_passes a0 w).bind (fun r72 => some (r72.1, r72.2)) else (if (gI w 601 (gR w 508 a0 0) (Int32.toNatClampNeg (4 * x1))) = 116 then (F_X5_tears a0 (gI w 601 (gR w 508 a0 0) (Int32.toNatClampNeg ((4 * x1) + 1))) w).bind (fun r76 => some (r76.1, r76.2)) else (if (gI w 601 (gR w 508 a0 0) (Int32.toNatClampNeg (4 * x1))) = 117 then (F_X5_passes a0 w).bind (fun r80 => some (r80.1, r80.2)) else (if (gI w 601 (gR w 508 a0 0) (Int32.toNatClampNeg (4 * x1))) = 118 then (F_X5_passes a0 w).bind (fun r84 => some (r84.1, r84.2)) else (if (gI w 601 (gR w 508 a0 0) (Int32.toNatClampNeg (4 * x1))) = 119 then (F_X5_makesWet a0 (gI w 601 (gR w 508 a0 0) (Int32.toNatClampNeg ((4 * x1) + 1))) (gI w 601 (gR w 508 a0 0) (Int32.toNatClampNeg ((4 * x1) + 2))) (gI w 601 (gR w 508 a0 0) (Int32.toNatClampNeg ((4 * x1) + 3))) w).bind (fun r88 => some (r88.1, r88.2)) else (if (gI w 601 (gR w 508 a0 0) (Int32.toNatClampNeg (4 * x1))) = 120 then (F_X5_throwsAway a0 (gI w 601 (gR w 508 a0 0) (Int32.toNatClampNeg ((4 * x1) + 1))) w).bind (fun r92 => some (r92.1, r92.2)) else (F_X5_passes a0 w).bind (fun r95 => some (r95.1, r95.2))))))))))))))))))))))))))))))
set_option maxHeartbeats 4000000 in
set_option maxRecDepth 100000 in
theorem c_X5_does (l : Launch) (D : va_G) (cy : Nat → ClassId) (a0 : Nat) (x1 : Int32) (w : FW) (r : Int32 × FW) (hF : F_X5_does a0 x1 w = some r) : fSpec l D cy yX5_does cX5_does 5 (some .int) { frames := 10, cells := 0, slots := 0, locals := 238 } [.ref a0, .int x1] w r.2 (some (.int r.1)) := by
  refine f_begin (by decide +kernel) (Nat.le_of_ble_eq_true rfl) (fun X hC hEn => ?_)
  unfold F_X5_does at hF
  show fAt X 0 0 5 w [(0, .ref a0), (1, .int x1)] [] 0
  refine f_aload_n hC dX5_does_0 rfl 0 rfl ?_
  obtain ⟨g1, hF⟩ := fg_open hF
  refine f_getR hC 5 8 508 rfl (by decide) iX5 q_1267 rfl rfl (fSm.k (fSm.rf w) g1) dX5_does_1 ?_
  refine f_iconst (v := 4) hC dX5_does_4 (by decide) ?_
  refine f_iload_n hC dX5_does_5 rfl 1 rfl ?_
  refine f_imul hC dX5_does_6 ?_
  refine f_iconst (v := 1) hC dX5_does_7 (by decide) ?_
  refine f_iadd hC dX5_does_8 ?_
  obtain ⟨g2, hF⟩ := fg_open hF
  obtain ⟨g3, hF⟩ := fg_open hF
  refine f_iald hC (fSm.k (fSm.rf w) g2) (fSm.v (fSm.rf w) g3) dX5_does_9 ?_
  refine f_istore_n (L' := [(2, .int (gI w 601 (gR w 508 a0 0) (Int32.toNatClampNeg ((4 * x1) + 1)))), (0, .ref a0), (1, .int x1)]) hC dX5_does_10 rfl (by decide) rfl ?_
  refine f_aload_n hC dX5_does_11 rfl 1 rfl ?_
  refine f_getR hC 5 8 508 rfl (by decide) iX5 q_1267 rfl rfl (fSm.k (fSm.rf w) g1) dX5_does_12 ?_
  refine f_iconst (v := 4) hC dX5_does_15 (by decide) ?_
  refine f_iload_n hC dX5_does_16 rfl 2 rfl ?_
  refine f_imul hC dX5_does_17 ?_
  refine f_iconst (v := 2) hC dX5_does_18 (by decide) ?_
  refine f_iadd hC dX5_does_19 ?_
  obtain ⟨g4, hF⟩ := fg_open hF
  refine f_iald hC (fSm.k (fSm.rf w) g2) (fSm.v (fSm.rf w) g4) dX5_does_20 ?_
  refine f_istore_n (L' := [(3, .int (gI w 601 (gR w 508 a0 0) (Int32.toNatClampNeg ((4 * x1) + 2)))), (2, .int (gI w 601 (gR w 508 a0 0) (Int32.toNatClampNeg ((4 * x1) + 1)))), (0, .ref a0), (1, .int x1)]) hC dX5_does_21 rfl (by decide) rfl ?_
  refine f_aload_n hC dX5_does_22 rfl 2 rfl ?_
  refine f_getR hC 5 8 508 rfl (by decide) iX5 q_1267 rfl rfl (fSm.k (fSm.rf w) g1) dX5_does_23 ?_
  refine f_iconst (v := 4) hC dX5_does_26 (by decide) ?_
  refine f_iload_n hC dX5_does_27 rfl 3 rfl ?_
  refine f_imul hC dX5_does_28 ?_
  refine f_iconst (v := 3) hC dX5_does_29 (by decide) ?_
  refine f_iadd hC dX5_does_30 ?_
  obtain ⟨g5, hF⟩ := fg_open hF
  refine f_iald hC (fSm.k (fSm.rf w) g2) (fSm.v (fSm.rf w) g5) dX5_does_31 ?_
  refine f_istore (L' := [(4, .int (gI w 601 (gR w 508 a0 0) (Int32.toNatClampNeg ((4 * x1) + 3)))), (3, .int (gI w 601 (gR w 508 a0 0) (Int32.toNatClampNeg ((4 * x1) + 2)))), (2, .int (gI w 601 (gR w 508 a0 0) (Int32.toNatClampNeg ((4 * x1) + 1)))), (0, .ref a0), (1, .int x1)]) hC dX5_does_32 (by decide) rfl ?_
  refine f_aload_n hC dX5_does_34 rfl 3 rfl ?_
  refine f_getR hC 5 8 508 rfl (by decide) iX5 q_1267 rfl rfl (fSm.k (fSm.rf w) g1) dX5_does_35 ?_
  refine f_iconst (v := 4) hC dX5_does_38 (by decide) ?_
  refine f_iload_n hC dX5_does_39 rfl 4 rfl ?_
  refine f_imul hC dX5_does_40 ?_
  obtain ⟨g6, hF⟩ := fg_open hF
  refine f_iald hC (fSm.k (fSm.rf w) g2) (fSm.v (fSm.rf w) g6) dX5_does_41 ?_
  by_cases c7 : (gI w 601 (gR w 508 a0 0) (Int32.toNatClampNeg (4 * x1))) = 99
  · replace hF := fi_pos hF c7
    refine f_tabIn hC 207 dX5_does_42 (by rw [c7] <;> decide) (by rw [c7] <;> decide) (by rw [c7] <;> rfl) (by decide) ?_
    refine f_aload_n hC dX5_does_207 rfl 3 rfl ?_
    refine f_iload_n hC dX5_does_208 rfl 2 rfl ?_
    refine f_iconst (v := 0) hC dX5_does_209 (by decide) ?_
    obtain ⟨r8, h9, hF⟩ := fb_open hF
    refine f_callV hC [.int (gI w 601 (gR w 508 a0 0) (Int32.toNatClampNeg ((4 * x1) + 1))), .int 0] (c_X5_turnsPier l D cy a0 (gI w 601 (gR w 508 a0 0) (Int32.toNatClampNeg ((4 * x1) + 1))) 0 w r8 h9) q_1436 q_137 q_1433 q_1435 q_88 h9_X5_turnsPier rfl (fSm.k (fSm.rf w) g1) ⟨Nat.le_of_ble_eq_true rfl, Nat.le_of_ble_eq_true rfl⟩ ⟨Nat.le_of_ble_eq_true rfl, Nat.le_of_ble_eq_true rfl⟩ (Nat.le_of_ble_eq_true rfl) rfl dX5_does_210 (fun e10 => ?_)
    obtain rfl := Option.some.inj hF
    exact f_iret hC hEn (fSm.tr e10 (fSm.rf w)) dX5_does_213
  · replace hF := fi_neg hF c7
    by_cases c11 : (gI w 601 (gR w 508 a0 0) (Int32.toNatClampNeg (4 * x1))) = 100
    · replace hF := fi_pos hF c11
      refine f_tabIn hC 227 dX5_does_42 (by rw [c11] <;> decide) (by rw [c11] <;> decide) (by rw [c11] <;> rfl) (by decide) ?_
      refine f_aload_n hC dX5_does_227 rfl 3 rfl ?_
      obtain ⟨r12, h13, hF⟩ := fb_open hF
      refine f_callV hC [] (c_X5_passes l D cy a0 w r12 h13) q_1621 q_137 q_1618 q_1620 q_116 h9_X5_passes rfl (fSm.k (fSm.rf w) g1) ⟨Nat.le_of_ble_eq_true rfl, Nat.le_of_ble_eq_true rfl⟩ ⟨Nat.le_of_ble_eq_true rfl, Nat.le_of_ble_eq_true rfl⟩ (Nat.le_of_ble_eq_true rfl) rfl dX5_does_228 (fun e14 => ?_)
      obtain rfl := Option.some.inj hF
      exact f_iret hC hEn (fSm.tr e14 (fSm.rf w)) dX5_does_231
    · replace hF := fi_neg hF c11
      by_cases c15 : (gI w 601 (gR w 508 a0 0) (Int32.toNatClampNeg (4 * x1))) = 101
      · replace hF := fi_pos hF c15
        refine f_tabIn hC 227 dX5_does_42 (by rw [c15] <;> decide) (by rw [c15] <;> decide) (by rw [c15] <;> rfl) (by decide) ?_
        refine f_aload_n hC dX5_does_227 rfl 3 rfl ?_
        obtain ⟨r16, h17, hF⟩ := fb_open hF
        refine f_callV hC [] (c_X5_passes l D cy a0 w r16 h17) q_1621 q_137 q_1618 q_1620 q_116 h9_X5_passes rfl (fSm.k (fSm.rf w) g1) ⟨Nat.le_of_ble_eq_true rfl, Nat.le_of_ble_eq_true rfl⟩ ⟨Nat.le_of_ble_eq_true rfl, Nat.le_of_ble_eq_true rfl⟩ (Nat.le_of_ble_eq_true rfl) rfl dX5_does_228 (fun e18 => ?_)
        obtain rfl := Option.some.inj hF
        exact f_iret hC hEn (fSm.tr e18 (fSm.rf w)) dX5_does_231
      · replace hF := fi_neg hF c15
        by_cases c19 : (gI w 601 (gR w 508 a0 0) (Int32.toNatClampNeg (4 * x1))) = 102
        · replace hF := fi_pos hF c19
          refine f_tabIn hC 185 dX5_does_42 (by rw [c19] <;> decide) (by rw [c19] <;> decide) (by rw [c19] <;> rfl) (by decide) ?_
          refine f_aload_n hC dX5_does_185 rfl 3 rfl ?_
          refine f_iload_n hC dX5_does_186 rfl 2 rfl ?_
          refine f_iload_n hC dX5_does_187 rfl 1 rfl ?_
          refine f_iconst (v := 0) hC dX5_does_188 (by decide) ?_
          obtain ⟨r20, h21, hF⟩ := fb_open hF
          refine f_callV hC [.int (gI w 601 (gR w 508 a0 0) (Int32.toNatClampNeg ((4 * x1) + 1))), .int (gI w 601 (gR w 508 a0 0) (Int32.toNatClampNeg ((4 * x1) + 2))), .int 0] (c_X5_goes l D cy a0 (gI w 601 (gR w 508 a0 0) (Int32.toNatClampNeg ((4 * x1) + 1))) (gI w 601 (gR w 508 a0 0) (Int32.toNatClampNeg ((4 * x1) + 2))) 0 w r20 h21) q_1526 q_137 q_1523 q_1525 q_103 h9_X5_goes rfl (fSm.k (fSm.rf w) g1) ⟨Nat.le_of_ble_eq_true rfl, Nat.le_of_ble_eq_true rfl⟩ ⟨Nat.le_of_ble_eq_true rfl, Nat.le_of_ble_eq_true rfl⟩ (Nat.le_of_ble_eq_true rfl) rfl dX5_does_189 (fun e22 => ?_)
          obtain rfl := Option.some.inj hF
          exact f_iret hC hEn (fSm.tr e22 (fSm.rf w)) dX5_does_192
        · replace hF := fi_neg hF c19
          by_cases c23 : (gI w 601 (gR w 508 a0 0) (Int32.toNatClampNeg (4 * x1))) = 103
          · replace hF := fi_pos hF c23
            refine f_tabIn hC 193 dX5_does_42 (by rw [c23] <;> decide) (by rw [c23] <;> decide) (by rw [c23] <;> rfl) (by decide) ?_
            refine f_aload_n hC dX5_does_193 rfl 3 rfl ?_
            refine f_iload_n hC dX5_does_194 rfl 2 rfl ?_
            refine f_iload_n hC dX5_does_195 rfl 1 rfl ?_
            obtain ⟨r24, h25, hF⟩ := fb_open hF
            refine f_callV hC [.int (gI w 601 (gR w 508 a0 0) (Int32.toNatClampNeg ((4 * x1) + 1))), .int (gI w 601 (gR w 508 a0 0) (Int32.toNatClampNeg ((4 * x1) + 2)))] (c_X5_rides l D cy a0 (gI w 601 (gR w 508 a0 0) (Int32.toNatClampNeg ((4 * x1) + 1))) (gI w 601 (gR w 508 a0 0) (Int32.toNatClampNeg ((4 * x1) + 2))) w r24 h25) q_1597 q_137 q_1594 q_1596 q_112 h9_X5_rides rfl (fSm.k (fSm.rf w) g1) ⟨Nat.le_of_ble_eq_true rfl, Nat.le_of_ble_eq_true rfl⟩ ⟨Nat.le_of_ble_eq_true rfl, Nat.le_of_ble_eq_true rfl⟩ (Nat.le_of_ble_eq_true rfl) rfl dX5_does_196 (fun e26 => ?_)
            obtain rfl := Option.some.inj hF
            exact f_iret hC hEn (fSm.tr e26 (fSm.rf w)) dX5_does_199
          · replace hF := fi_neg hF c23
            by_cases c27 : (gI w 601 (gR w 508 a0 0) (Int32.toNatClampNeg (4 * x1))) = 104
            · replace hF := fi_pos hF c27
              refine f_tabIn hC 227 dX5_does_42 (by rw [c27] <;> decide) (by rw [c27] <;> decide) (by rw [c27] <;> rfl) (by decide) ?_
              refine f_aload_n hC dX5_does_227 rfl 3 rfl ?_
              obtain ⟨r28, h29, hF⟩ := fb_open hF
              refine f_callV hC [] (c_X5_passes l D cy a0 w r28 h29) q_1621 q_137 q_1618 q_1620 q_116 h9_X5_passes rfl (fSm.k (fSm.rf w) g1) ⟨Nat.le_of_ble_eq_true rfl, Nat.le_of_ble_eq_true rfl⟩ ⟨Nat.le_of_ble_eq_true rfl, Nat.le_of_ble_eq_true rfl⟩ (Nat.le_of_ble_eq_true rfl) rfl dX5_does_228 (fun e30 => ?_)
              obtain rfl := Option.some.inj hF
              exact f_iret hC hEn (fSm.tr e30 (fSm.rf w)) dX5_does_231
            · replace hF := fi_neg hF c27
              by_cases c31 : (gI w 601 (gR w 508 a0 0) (Int32.toNatClampNeg (4 * x1))) = 105
              · replace hF := fi_pos hF c31
                refine f_tabIn hC 227 dX5_does_42 (by rw [c31] <;> decide) (by rw [c31] <;> decide) (by rw [c31] <;> rfl) (by decide) ?_
                refine f_aload_n hC dX5_does_227 rfl 3 rfl ?_
                obtain ⟨r32, h33, hF⟩ := fb_open hF
                refine f_callV hC [] (c_X5_passes l D cy a0 w r32 h33) q_1621 q_137 q_1618 q_1620 q_116 h9_X5_passes rfl (fSm.k (fSm.rf w) g1) ⟨Nat.le_of_ble_eq_true rfl, Nat.le_of_ble_eq_true rfl⟩ ⟨Nat.le_of_ble_eq_true rfl, Nat.le_of_ble_eq_true rfl⟩ (Nat.le_of_ble_eq_true rfl) rfl dX5_does_228 (fun e34 => ?_)
                obtain rfl := Option.some.inj hF
                exact f_iret hC hEn (fSm.tr e34 (fSm.rf w)) dX5_does_231
              · replace hF := fi_neg hF c31
                by_cases c35 : (gI w 601 (gR w 508 a0 0) (Int32.toNatClampNeg (4 * x1))) = 106
                · replace hF := fi_pos hF c35
                  refine f_tabIn hC 227 dX5_does_42 (by rw [c35] <;> decide) (by rw [c35] <;> decide) (by rw [c35] <;> rfl) (by decide) ?_
                  refine f_aload_n hC dX5_does_227 rfl 3 rfl ?_
                  obtain ⟨r36, h37, hF⟩ := fb_open hF
                  refine f_callV hC [] (c_X5_passes l D cy a0 w r36 h37) q_1621 q_137 q_1618 q_1620 q_116 h9_X5_passes rfl (fSm.k (fSm.rf w) g1) ⟨Nat.le_of_ble_eq_true rfl, Nat.le_of_ble_eq_true rfl⟩ ⟨Nat.le_of_ble_eq_true rfl, Nat.le_of_ble_eq_true rfl⟩ (Nat.le_of_ble_eq_true rfl) rfl dX5_does_228 (fun e38 => ?_)
                  obtain rfl := Option.some.inj hF
                  exact f_iret hC hEn (fSm.tr e38 (fSm.rf w)) dX5_does_231
                · replace hF := fi_neg hF c35
                  by_cases c39 : (gI w 601 (gR w 508 a0 0) (Int32.toNatClampNeg (4 * x1))) = 107
                  · replace hF := fi_pos hF c39
                    refine f_tabIn hC 227 dX5_does_42 (by rw [c39] <;> decide) (by rw [c39] <;> decide) (by rw [c39] <;> rfl) (by decide) ?_
                    refine f_aload_n hC dX5_does_227 rfl 3 rfl ?_
                    obtain ⟨r40, h41, hF⟩ := fb_open hF
                    refine f_callV hC [] (c_X5_passes l D cy a0 w r40 h41) q_1621 q_137 q_1618 q_1620 q_116 h9_X5_passes rfl (fSm.k (fSm.rf w) g1) ⟨Nat.le_of_ble_eq_true rfl, Nat.le_of_ble_eq_true rfl⟩ ⟨Nat.le_of_ble_eq_true rfl, Nat.le_of_ble_eq_true rfl⟩ (Nat.le_of_ble_eq_true rfl) rfl dX5_does_228 (fun e42 => ?_)
                    obtain rfl := Option.some.inj hF
                    exact f_iret hC hEn (fSm.tr e42 (fSm.rf w)) dX5_does_231
                  · replace hF := fi_neg hF c39
                    by_cases c43 : (gI w 601 (gR w 508 a0 0) (Int32.toNatClampNeg (4 * x1))) = 108
                    · replace hF := fi_pos hF c43
                      refine f_tabIn hC 177 dX5_does_42 (by rw [c43] <;> decide) (by rw [c43] <;> decide) (by rw [c43] <;> rfl) (by decide) ?_
                      refine f_aload_n hC dX5_does_177 rfl 3 rfl ?_
                      refine f_iload_n hC dX5_does_178 rfl 2 rfl ?_
                      refine f_iload_n hC dX5_does_179 rfl 1 rfl ?_
                      refine f_iconst (v := 1) hC dX5_does_180 (by decide) ?_
                      obtain ⟨r44, h45, hF⟩ := fb_open hF
                      refine f_callV hC [.int (gI w 601 (gR w 508 a0 0) (Int32.toNatClampNeg ((4 * x1) + 1))), .int (gI w 601 (gR w 508 a0 0) (Int32.toNatClampNeg ((4 * x1) + 2))), .int 1] (c_X5_goes l D cy a0 (gI w 601 (gR w 508 a0 0) (Int32.toNatClampNeg ((4 * x1) + 1))) (gI w 601 (gR w 508 a0 0) (Int32.toNatClampNeg ((4 * x1) + 2))) 1 w r44 h45) q_1526 q_137 q_1523 q_1525 q_103 h9_X5_goes rfl (fSm.k (fSm.rf w) g1) ⟨Nat.le_of_ble_eq_true rfl, Nat.le_of_ble_eq_true rfl⟩ ⟨Nat.le_of_ble_eq_true rfl, Nat.le_of_ble_eq_true rfl⟩ (Nat.le_of_ble_eq_true rfl) rfl dX5_does_181 (fun e46 => ?_)
                      obtain rfl := Option.some.inj hF
                      exact f_iret hC hEn (fSm.tr e46 (fSm.rf w)) dX5_does_184
                    · replace hF := fi_neg hF c43
                      by_cases c47 : (gI w 601 (gR w 508 a0 0) (Int32.toNatClampNeg (4 * x1))) = 109
                      · replace hF := fi_pos hF c47
                        refine f_tabIn hC 200 dX5_does_42 (by rw [c47] <;> decide) (by rw [c47] <;> decide) (by rw [c47] <;> rfl) (by decide) ?_
                        refine f_aload_n hC dX5_does_200 rfl 3 rfl ?_
                        refine f_iload_n hC dX5_does_201 rfl 2 rfl ?_
                        refine f_iload_n hC dX5_does_202 rfl 1 rfl ?_
                        obtain ⟨r48, h49, hF⟩ := fb_open hF
                        refine f_callV hC [.int (gI w 601 (gR w 508 a0 0) (Int32.toNatClampNeg ((4 * x1) + 1))), .int (gI w 601 (gR w 508 a0 0) (Int32.toNatClampNeg ((4 * x1) + 2)))] (c_X5_tellsMood l D cy a0 (gI w 601 (gR w 508 a0 0) (Int32.toNatClampNeg ((4 * x1) + 1))) (gI w 601 (gR w 508 a0 0) (Int32.toNatClampNeg ((4 * x1) + 2))) w r48 h49) q_1428 q_137 q_1425 q_1427 q_87 h9_X5_tellsMood rfl (fSm.k (fSm.rf w) g1) ⟨Nat.le_of_ble_eq_true rfl, Nat.le_of_ble_eq_true rfl⟩ ⟨Nat.le_of_ble_eq_true rfl, Nat.le_of_ble_eq_true rfl⟩ (Nat.le_of_ble_eq_true rfl) rfl dX5_does_203 (fun e50 => ?_)
                        obtain rfl := Option.some.inj hF
                        exact f_iret hC hEn (fSm.tr e50 (fSm.rf w)) dX5_does_206
                      · replace hF := fi_neg hF c47
                        by_cases c51 : (gI w 601 (gR w 508 a0 0) (Int32.toNatClampNeg (4 * x1))) = 110
                        · replace hF := fi_pos hF c51
                          refine f_tabIn hC 144 dX5_does_42 (by rw [c51] <;> decide) (by rw [c51] <;> decide) (by rw [c51] <;> rfl) (by decide) ?_
                          refine f_aload_n hC dX5_does_144 rfl 3 rfl ?_
                          refine f_iload_n hC dX5_does_145 rfl 2 rfl ?_
                          refine f_iload_n hC dX5_does_146 rfl 1 rfl ?_
                          refine f_iload hC dX5_does_147 0 rfl ?_
                          obtain ⟨r52, h53, hF⟩ := fb_open hF
                          refine f_callV hC [.int (gI w 601 (gR w 508 a0 0) (Int32.toNatClampNeg ((4 * x1) + 1))), .int (gI w 601 (gR w 508 a0 0) (Int32.toNatClampNeg ((4 * x1) + 2))), .int (gI w 601 (gR w 508 a0 0) (Int32.toNatClampNeg ((4 * x1) + 3)))] (c_X5_printsGiven l D cy a0 (gI w 601 (gR w 508 a0 0) (Int32.toNatClampNeg ((4 * x1) + 1))) (gI w 601 (gR w 508 a0 0) (Int32.toNatClampNeg ((4 * x1) + 2))) (gI w 601 (gR w 508 a0 0) (Int32.toNatClampNeg ((4 * x1) + 3))) w r52 h53) q_1737 q_137 q_1734 q_1736 q_130 h9_X5_printsGiven rfl (fSm.k (fSm.rf w) g1) ⟨Nat.le_of_ble_eq_true rfl, Nat.le_of_ble_eq_true rfl⟩ ⟨Nat.le_of_ble_eq_true rfl, Nat.le_of_ble_eq_true rfl⟩ (Nat.le_of_ble_eq_true rfl) rfl dX5_does_149 (fun e54 => ?_)
                          obtain rfl := Option.some.inj hF
                          exact f_iret hC hEn (fSm.tr e54 (fSm.rf w)) dX5_does_152
                        · replace hF := fi_neg hF c51
                          by_cases c55 : (gI w 601 (gR w 508 a0 0) (Int32.toNatClampNeg (4 * x1))) = 111
                          · replace hF := fi_pos hF c55
                            refine f_tabIn hC 214 dX5_does_42 (by rw [c55] <;> decide) (by rw [c55] <;> decide) (by rw [c55] <;> rfl) (by decide) ?_
                            refine f_aload_n hC dX5_does_214 rfl 3 rfl ?_
                            refine f_iload_n hC dX5_does_215 rfl 2 rfl ?_
                            refine f_iconst (v := 1) hC dX5_does_216 (by decide) ?_
                            obtain ⟨r56, h57, hF⟩ := fb_open hF
                            refine f_callV hC [.int (gI w 601 (gR w 508 a0 0) (Int32.toNatClampNeg ((4 * x1) + 1))), .int 1] (c_X5_turnsPier l D cy a0 (gI w 601 (gR w 508 a0 0) (Int32.toNatClampNeg ((4 * x1) + 1))) 1 w r56 h57) q_1436 q_137 q_1433 q_1435 q_88 h9_X5_turnsPier rfl (fSm.k (fSm.rf w) g1) ⟨Nat.le_of_ble_eq_true rfl, Nat.le_of_ble_eq_true rfl⟩ ⟨Nat.le_of_ble_eq_true rfl, Nat.le_of_ble_eq_true rfl⟩ (Nat.le_of_ble_eq_true rfl) rfl dX5_does_217 (fun e58 => ?_)
                            obtain rfl := Option.some.inj hF
                            exact f_iret hC hEn (fSm.tr e58 (fSm.rf w)) dX5_does_220
                          · replace hF := fi_neg hF c55
                            by_cases c59 : (gI w 601 (gR w 508 a0 0) (Int32.toNatClampNeg (4 * x1))) = 112
                            · replace hF := fi_pos hF c59
                              refine f_tabIn hC 153 dX5_does_42 (by rw [c59] <;> decide) (by rw [c59] <;> decide) (by rw [c59] <;> rfl) (by decide) ?_
                              refine f_aload_n hC dX5_does_153 rfl 3 rfl ?_
                              refine f_iload_n hC dX5_does_154 rfl 2 rfl ?_
                              refine f_iload_n hC dX5_does_155 rfl 1 rfl ?_
                              refine f_iload hC dX5_does_156 0 rfl ?_
                              obtain ⟨r60, h61, hF⟩ := fb_open hF
                              refine f_callV hC [.int (gI w 601 (gR w 508 a0 0) (Int32.toNatClampNeg ((4 * x1) + 1))), .int (gI w 601 (gR w 508 a0 0) (Int32.toNatClampNeg ((4 * x1) + 2))), .int (gI w 601 (gR w 508 a0 0) (Int32.toNatClampNeg ((4 * x1) + 3)))] (c_X5_punches l D cy a0 (gI w 601 (gR w 508 a0 0) (Int32.toNatClampNeg ((4 * x1) + 1))) (gI w 601 (gR w 508 a0 0) (Int32.toNatClampNeg ((4 * x1) + 2))) (gI w 601 (gR w 508 a0 0) (Int32.toNatClampNeg ((4 * x1) + 3))) w r60 h61) q_1475 q_137 q_1472 q_1474 q_94 h9_X5_punches rfl (fSm.k (fSm.rf w) g1) ⟨Nat.le_of_ble_eq_true rfl, Nat.le_of_ble_eq_true rfl⟩ ⟨Nat.le_of_ble_eq_true rfl, Nat.le_of_ble_eq_true rfl⟩ (Nat.le_of_ble_eq_true rfl) rfl dX5_does_158 (fun e62 => ?_)
                              obtain rfl := Option.some.inj hF
                              exact f_iret hC hEn (fSm.tr e62 (fSm.rf w)) dX5_does_161
                            · replace hF := fi_neg hF c59
                              by_cases c63 : (gI w 601 (gR w 508 a0 0) (Int32.toNatClampNeg (4 * x1))) = 113
                              · replace hF := fi_pos hF c63
                                refine f_tabIn hC 227 dX5_does_42 (by rw [c63] <;> decide) (by rw [c63] <;> decide) (by rw [c63] <;> rfl) (by decide) ?_
                                refine f_aload_n hC dX5_does_227 rfl 3 rfl ?_
                                obtain ⟨r64, h65, hF⟩ := fb_open hF
                                refine f_callV hC [] (c_X5_passes l D cy a0 w r64 h65) q_1621 q_137 q_1618 q_1620 q_116 h9_X5_passes rfl (fSm.k (fSm.rf w) g1) ⟨Nat.le_of_ble_eq_true rfl, Nat.le_of_ble_eq_true rfl⟩ ⟨Nat.le_of_ble_eq_true rfl, Nat.le_of_ble_eq_true rfl⟩ (Nat.le_of_ble_eq_true rfl) rfl dX5_does_228 (fun e66 => ?_)
                                obtain rfl := Option.some.inj hF
                                exact f_iret hC hEn (fSm.tr e66 (fSm.rf w)) dX5_does_231
                              · replace hF := fi_neg hF c63
                                by_cases c67 : (gI w 601 (gR w 508 a0 0) (Int32.toNatClampNeg (4 * x1))) = 114
                                · replace hF := fi_pos hF c67
                                  refine f_tabIn hC 227 dX5_does_42 (by rw [c67] <;> decide) (by rw [c67] <;> decide) (by rw [c67] <;> rfl) (by decide) ?_
                                  refine f_aload_n hC dX5_does_227 rfl 3 rfl ?_
                                  obtain ⟨r68, h69, hF⟩ := fb_open hF
                                  refine f_callV hC [] (c_X5_passes l D cy a0 w r68 h69) q_1621 q_137 q_1618 q_1620 q_116 h9_X5_passes rfl (fSm.k (fSm.rf w) g1) ⟨Nat.le_of_ble_eq_true rfl, Nat.le_of_ble_eq_true rfl⟩ ⟨Nat.le_of_ble_eq_true rfl, Nat.le_of_ble_eq_true rfl⟩ (Nat.le_of_ble_eq_true rfl) rfl dX5_does_228 (fun e70 => ?_)
                                  obtain rfl := Option.some.inj hF
                                  exact f_iret hC hEn (fSm.tr e70 (fSm.rf w)) dX5_does_231
                                · replace hF := fi_neg hF c67
                                  by_cases c71 : (gI w 601 (gR w 508 a0 0) (Int32.toNatClampNeg (4 * x1))) = 115
                                  · replace hF := fi_pos hF c71
                                    refine f_tabIn hC 227 dX5_does_42 (by rw [c71] <;> decide) (by rw [c71] <;> decide) (by rw [c71] <;> rfl) (by decide) ?_
                                    refine f_aload_n hC dX5_does_227 rfl 3 rfl ?_
                                    obtain ⟨r72, h73, hF⟩ := fb_open hF
                                    refine f_callV hC [] (c_X5_passes l D cy a0 w r72 h73) q_1621 q_137 q_1618 q_1620 q_116 h9_X5_passes rfl (fSm.k (fSm.rf w) g1) ⟨Nat.le_of_ble_eq_true rfl, Nat.le_of_ble_eq_true rfl⟩ ⟨Nat.le_of_ble_eq_true rfl, Nat.le_of_ble_eq_true rfl⟩ (Nat.le_of_ble_eq_true rfl) rfl dX5_does_228 (fun e74 => ?_)
                                    obtain rfl := Option.some.inj hF
                                    exact f_iret hC hEn (fSm.tr e74 (fSm.rf w)) dX5_does_231
                                  · replace hF := fi_neg hF c71
                                    by_cases c75 : (gI w 601 (gR w 508 a0 0) (Int32.toNatClampNeg (4 * x1))) = 116
                                    · replace hF := fi_pos hF c75
                                      refine f_tabIn hC 171 dX5_does_42 (by rw [c75] <;> decide) (by rw [c75] <;> decide) (by rw [c75] <;> rfl) (by decide) ?_
                                      refine f_aload_n hC dX5_does_171 rfl 3 rfl ?_
                                      refine f_iload_n hC dX5_does_172 rfl 2 rfl ?_
                                      obtain ⟨r76, h77, hF⟩ := fb_open hF
                                      refine f_callV hC [.int (gI w 601 (gR w 508 a0 0) (Int32.toNatClampNeg ((4 * x1) + 1)))] (c_X5_tears l D cy a0 (gI w 601 (gR w 508 a0 0) (Int32.toNatClampNeg ((4 * x1) + 1))) w r76 h77) q_1514 q_137 q_1511 q_1513 q_101 h9_X5_tears rfl (fSm.k (fSm.rf w) g1) ⟨Nat.le_of_ble_eq_true rfl, Nat.le_of_ble_eq_true rfl⟩ ⟨Nat.le_of_ble_eq_true rfl, Nat.le_of_ble_eq_true rfl⟩ (Nat.le_of_ble_eq_true rfl) rfl dX5_does_173 (fun e78 => ?_)
                                      obtain rfl := Option.some.inj hF
                                      exact f_iret hC hEn (fSm.tr e78 (fSm.rf w)) dX5_does_176
                                    · replace hF := fi_neg hF c75
                                      by_cases c79 : (gI w 601 (gR w 508 a0 0) (Int32.toNatClampNeg (4 * x1))) = 117
                                      · replace hF := fi_pos hF c79
                                        refine f_tabIn hC 227 dX5_does_42 (by rw [c79] <;> decide) (by rw [c79] <;> decide) (by rw [c79] <;> rfl) (by decide) ?_
                                        refine f_aload_n hC dX5_does_227 rfl 3 rfl ?_
                                        obtain ⟨r80, h81, hF⟩ := fb_open hF
                                        refine f_callV hC [] (c_X5_passes l D cy a0 w r80 h81) q_1621 q_137 q_1618 q_1620 q_116 h9_X5_passes rfl (fSm.k (fSm.rf w) g1) ⟨Nat.le_of_ble_eq_true rfl, Nat.le_of_ble_eq_true rfl⟩ ⟨Nat.le_of_ble_eq_true rfl, Nat.le_of_ble_eq_true rfl⟩ (Nat.le_of_ble_eq_true rfl) rfl dX5_does_228 (fun e82 => ?_)
                                        obtain rfl := Option.some.inj hF
                                        exact f_iret hC hEn (fSm.tr e82 (fSm.rf w)) dX5_does_231
                                      · replace hF := fi_neg hF c79
                                        by_cases c83 : (gI w 601 (gR w 508 a0 0) (Int32.toNatClampNeg (4 * x1))) = 118
                                        · replace hF := fi_pos hF c83
                                          refine f_tabIn hC 227 dX5_does_42 (by rw [c83] <;> decide) (by rw [c83] <;> decide) (by rw [c83] <;> rfl) (by decide) ?_
                                          refine f_aload_n hC dX5_does_227 rfl 3 rfl ?_
                                          obtain ⟨r84, h85, hF⟩ := fb_open hF
                                          refine f_callV hC [] (c_X5_passes l D cy a0 w r84 h85) q_1621 q_137 q_1618 q_1620 q_116 h9_X5_passes rfl (fSm.k (fSm.rf w) g1) ⟨Nat.le_of_ble_eq_true rfl, Nat.le_of_ble_eq_true rfl⟩ ⟨Nat.le_of_ble_eq_true rfl, Nat.le_of_ble_eq_true rfl⟩ (Nat.le_of_ble_eq_true rfl) rfl dX5_does_228 (fun e86 => ?_)
                                          obtain rfl := Option.some.inj hF
                                          exact f_iret hC hEn (fSm.tr e86 (fSm.rf w)) dX5_does_231
                                        · replace hF := fi_neg hF c83
                                          by_cases c87 : (gI w 601 (gR w 508 a0 0) (Int32.toNatClampNeg (4 * x1))) = 119
                                          · replace hF := fi_pos hF c87
                                            refine f_tabIn hC 162 dX5_does_42 (by rw [c87] <;> decide) (by rw [c87] <;> decide) (by rw [c87] <;> rfl) (by decide) ?_
                                            refine f_aload_n hC dX5_does_162 rfl 3 rfl ?_
                                            refine f_iload_n hC dX5_does_163 rfl 2 rfl ?_
                                            refine f_iload_n hC dX5_does_164 rfl 1 rfl ?_
                                            refine f_iload hC dX5_does_165 0 rfl ?_
                                            obtain ⟨r88, h89, hF⟩ := fb_open hF
                                            refine f_callV hC [.int (gI w 601 (gR w 508 a0 0) (Int32.toNatClampNeg ((4 * x1) + 1))), .int (gI w 601 (gR w 508 a0 0) (Int32.toNatClampNeg ((4 * x1) + 2))), .int (gI w 601 (gR w 508 a0 0) (Int32.toNatClampNeg ((4 * x1) + 3)))] (c_X5_makesWet l D cy a0 (gI w 601 (gR w 508 a0 0) (Int32.toNatClampNeg ((4 * x1) + 1))) (gI w 601 (gR w 508 a0 0) (Int32.toNatClampNeg ((4 * x1) + 2))) (gI w 601 (gR w 508 a0 0) (Int32.toNatClampNeg ((4 * x1) + 3))) w r88 h89) q_1502 q_137 q_1499 q_1501 q_99 h9_X5_makesWet rfl (fSm.k (fSm.rf w) g1) ⟨Nat.le_of_ble_eq_true rfl, Nat.le_of_ble_eq_true rfl⟩ ⟨Nat.le_of_ble_eq_true rfl, Nat.le_of_ble_eq_true rfl⟩ (Nat.le_of_ble_eq_true rfl) rfl dX5_does_167 (fun e90 => ?_)
                                            obtain rfl := Option.some.inj hF
                                            exact f_iret hC hEn (fSm.tr e90 (fSm.rf w)) dX5_does_170
                                          · replace hF := fi_neg hF c87
                                            by_cases c91 : (gI w 601 (gR w 508 a0 0) (Int32.toNatClampNeg (4 * x1))) = 120
                                            · replace hF := fi_pos hF c91
                                              refine f_tabIn hC 221 dX5_does_42 (by rw [c91] <;> decide) (by rw [c91] <;> decide) (by rw [c91] <;> rfl) (by decide) ?_
                                              refine f_aload_n hC dX5_does_221 rfl 3 rfl ?_
                                              refine f_iload_n hC dX5_does_222 rfl 2 rfl ?_
                                              obtain ⟨r92, h93, hF⟩ := fb_open hF
                                              refine f_callV hC [.int (gI w 601 (gR w 508 a0 0) (Int32.toNatClampNeg ((4 * x1) + 1)))] (c_X5_throwsAway l D cy a0 (gI w 601 (gR w 508 a0 0) (Int32.toNatClampNeg ((4 * x1) + 1))) w r92 h93) q_1416 q_137 q_1413 q_1415 q_85 h9_X5_throwsAway rfl (fSm.k (fSm.rf w) g1) ⟨Nat.le_of_ble_eq_true rfl, Nat.le_of_ble_eq_true rfl⟩ ⟨Nat.le_of_ble_eq_true rfl, Nat.le_of_ble_eq_true rfl⟩ (Nat.le_of_ble_eq_true rfl) rfl dX5_does_223 (fun e94 => ?_)
                                              obtain rfl := Option.some.inj hF
                                              exact f_iret hC hEn (fSm.tr e94 (fSm.rf w)) dX5_does_226
                                            · replace hF := fi_neg hF c91
                                              refine f_tabOut hC 227 dX5_does_42 (ftab 99 120 (by decide) (by decide) (fun j h1 h2 => ?_)) (by decide) ?_
                                              · rcases (show j = 99 ∨ j = 100 ∨ j = 101 ∨ j = 102 ∨ j = 103 ∨ j = 104 ∨ j = 105 ∨ j = 106 ∨ j = 107 ∨ j = 108 ∨ j = 109 ∨ j = 110 ∨ j = 111 ∨ j = 112 ∨ j = 113 ∨ j = 114 ∨ j = 115 ∨ j = 116 ∨ j = 117 ∨ j = 118 ∨ j = 119 ∨ j = 120 by omega) with rfl | rfl | rfl | rfl | rfl | rfl | rfl | rfl | rfl | rfl | rfl | rfl | rfl | rfl | rfl | rfl | rfl | rfl | rfl | rfl | rfl | rfl
                                                · exact c7
                                                · exact c11
                                                · exact c15
                                                · exact c19
                                                · exact c23
                                                · exact c27
                                                · exact c31
                                                · exact c35
                                                · exact c39
                                                · exact c43
                                                · exact c47
                                                · exact c51
                                                · exact c55
                                                · exact c59
                                                · exact c63
                                                · exact c67
                                                · exact c71
                                                · exact c75
                                                · exact c79
                                                · exact c83
                                                · exact c87
                                                · exact c91
                                              refine f_aload_n hC dX5_does_227 rfl 3 rfl ?_
                                              obtain ⟨r95, h96, hF⟩ := fb_open hF
                                              refine f_callV hC [] (c_X5_passes l D cy a0 w r95 h96) q_1621 q_137 q_1618 q_1620 q_116 h9_X5_passes rfl (fSm.k (fSm.rf w) g1) ⟨Nat.le_of_ble_eq_true rfl, Nat.le_of_ble_eq_true rfl⟩ ⟨Nat.le_of_ble_eq_true rfl, Nat.le_of_ble_eq_true rfl⟩ (Nat.le_of_ble_eq_true rfl) rfl dX5_does_228 (fun e97 => ?_)
                                              obtain rfl := Option.some.inj hF
                                              exact f_iret hC hEn (fSm.tr e97 (fSm.rf w)) dX5_does_231
