theorem dX5_takesLetter_0 : decode cX5_takesLetter 0 = .ok (.aload_n 0, 1) := by decide +kernel
theorem dX5_takesLetter_1 : decode cX5_takesLetter 1 = .ok (.getfield 7, 3) := by decide +kernel
theorem dX5_takesLetter_4 : decode cX5_takesLetter 4 = .ok (.bipush 10, 2) := by decide +kernel
theorem dX5_takesLetter_6 : decode cX5_takesLetter 6 = .ok (.iaload, 1) := by decide +kernel
theorem dX5_takesLetter_7 : decode cX5_takesLetter 7 = .ok (.istore_n 1, 1) := by decide +kernel
theorem dX5_takesLetter_8 : decode cX5_takesLetter 8 = .ok (.iload_n 1, 1) := by decide +kernel
theorem dX5_takesLetter_9 : decode cX5_takesLetter 9 = .ok (.ifCond .ne 16, 3) := by decide +kernel
theorem dX5_takesLetter_12 : decode cX5_takesLetter 12 = .ok (.aload_n 0, 1) := by decide +kernel
theorem dX5_takesLetter_13 : decode cX5_takesLetter 13 = .ok (.bipush 11, 2) := by decide +kernel
theorem dX5_takesLetter_15 : decode cX5_takesLetter 15 = .ok (.aload_n 0, 1) := by decide +kernel
theorem dX5_takesLetter_16 : decode cX5_takesLetter 16 = .ok (.getfield 7, 3) := by decide +kernel
theorem dX5_takesLetter_19 : decode cX5_takesLetter 19 = .ok (.iconst 0, 1) := by decide +kernel
theorem dX5_takesLetter_20 : decode cX5_takesLetter 20 = .ok (.iaload, 1) := by decide +kernel
theorem dX5_takesLetter_21 : decode cX5_takesLetter 21 = .ok (.invokevirtual 122, 3) := by decide +kernel
theorem dX5_takesLetter_24 : decode cX5_takesLetter 24 = .ok (.ireturn, 1) := by decide +kernel
theorem dX5_takesLetter_25 : decode cX5_takesLetter 25 = .ok (.aload_n 0, 1) := by decide +kernel
theorem dX5_takesLetter_26 : decode cX5_takesLetter 26 = .ok (.getfield 7, 3) := by decide +kernel
theorem dX5_takesLetter_29 : decode cX5_takesLetter 29 = .ok (.bipush 10, 2) := by decide +kernel
theorem dX5_takesLetter_31 : decode cX5_takesLetter 31 = .ok (.iload_n 1, 1) := by decide +kernel
theorem dX5_takesLetter_32 : decode cX5_takesLetter 32 = .ok (.iadd, 1) := by decide +kernel
theorem dX5_takesLetter_33 : decode cX5_takesLetter 33 = .ok (.iconst 0, 1) := by decide +kernel
theorem dX5_takesLetter_34 : decode cX5_takesLetter 34 = .ok (.iastore, 1) := by decide +kernel
theorem dX5_takesLetter_35 : decode cX5_takesLetter 35 = .ok (.aload_n 0, 1) := by decide +kernel
theorem dX5_takesLetter_36 : decode cX5_takesLetter 36 = .ok (.getfield 7, 3) := by decide +kernel
theorem dX5_takesLetter_39 : decode cX5_takesLetter 39 = .ok (.bipush 10, 2) := by decide +kernel
theorem dX5_takesLetter_41 : decode cX5_takesLetter 41 = .ok (.iload_n 1, 1) := by decide +kernel
theorem dX5_takesLetter_42 : decode cX5_takesLetter 42 = .ok (.iconst 1, 1) := by decide +kernel
theorem dX5_takesLetter_43 : decode cX5_takesLetter 43 = .ok (.isub, 1) := by decide +kernel
theorem dX5_takesLetter_44 : decode cX5_takesLetter 44 = .ok (.iastore, 1) := by decide +kernel
theorem dX5_takesLetter_45 : decode cX5_takesLetter 45 = .ok (.aload_n 0, 1) := by decide +kernel
theorem dX5_takesLetter_46 : decode cX5_takesLetter 46 = .ok (.iload_n 1, 1) := by decide +kernel
theorem dX5_takesLetter_47 : decode cX5_takesLetter 47 = .ok (.iconst 1, 1) := by decide +kernel
theorem dX5_takesLetter_48 : decode cX5_takesLetter 48 = .ok (.isub, 1) := by decide +kernel
theorem dX5_takesLetter_49 : decode cX5_takesLetter 49 = .ok (.invokevirtual 125, 3) := by decide +kernel
theorem dX5_takesLetter_52 : decode cX5_takesLetter 52 = .ok (.ireturn, 1) := by decide +kernel
theorem h9_X5_takesLetter : yX5_takesLetter.cls ≠ "java/lang/invoke/MethodHandle" ∧ yX5_takesLetter.cls ≠ "java/lang/invoke/VarHandle" ∧ (parseMethodDescriptor yX5_takesLetter.desc).map (fun d => d.parameters.length) = some 0 := by decide +kernel
noncomputable def F_X5_takesLetter (a0 : Nat) (w : FW) : Option (Int32 × FW) :=
  fg (w.1 a0 = 6) inferInstance (fg (w.1 (gR w 501 a0 0) = 11) inferInstance (fg (¬ (10 < 0 ∨ w.2.1 (gR w 501 a0 0) ≤ Int32.toNatClampNeg 10)) inferInstance ((if (gI w 601 (gR w 501 a0 0) (Int32.toNatClampNeg 10)) = 0 then fg (¬ (0 < 0 ∨ w.2.1 (gR w 501 a0 0) ≤ Int32.toNatClampNeg 0)) inferInstance ((F_X5_refused a0 11 (gI w 601 (gR w 501 a0 0) (Int32.toNatClampNeg 0)) w).bind (fun r10 => some (r10.1, r10.2))) else fg (¬ ((10 + (gI w 601 (gR w 501 a0 0) (Int32.toNatClampNeg 10))) < 0 ∨ w.2.1 (gR w 501 a0 0) ≤ Int32.toNatClampNeg (10 + (gI w 601 (gR w 501 a0 0) (Int32.toNatClampNeg 10))))) inferInstance ((F_X5_done a0 ((gI w 601 (gR w 501 a0 0) (Int32.toNatClampNeg 10)) - 1) (sI (sI w 601 (gR w 501 a0 0) (Int32.toNatClampNeg (10 + (gI w 601 (gR w 501 a0 0) (Int32.toNatClampNeg 10)))) 0) 601 (gR (sI w 601 (gR w 501 a0 0) (Int32.toNatClampNeg (10 + (gI w 601 (gR w 501 a0 0) (Int32.toNatClampNeg 10)))) 0) 501 a0 0) (Int32.toNatClampNeg 10) ((gI w 601 (gR w 501 a0 0) (Int32.toNatClampNeg 10)) - 1))).bind (fun r6 => some (r6.1, r6.2)))))))
set_option maxHeartbeats 4000000 in
set_option maxRecDepth 100000 in
theorem c_X5_takesLetter (l : Launch) (D : va_G) (cy : Nat → ClassId) (a0 : Nat) (w : FW) (r : Int32 × FW) (hF : F_X5_takesLetter a0 w = some r) : fSpec l D cy yX5_takesLetter cX5_takesLetter 2 (some .int) { frames := 1, cells := 0, slots := 0, locals := 22 } [.ref a0] w r.2 (some (.int r.1)) := by
  refine f_begin (by decide +kernel) (Nat.le_of_ble_eq_true rfl) (fun X hC hEn => ?_)
  unfold F_X5_takesLetter at hF
  show fAt X 0 0 2 w [(0, .ref a0)] [] 0
  refine f_aload_n hC dX5_takesLetter_0 rfl 0 rfl ?_
  obtain ⟨g1, hF⟩ := fg_open hF
  refine f_getR hC 5 1 501 rfl (by decide) iX5 q_1255 rfl rfl (fSm.k (fSm.rf w) g1) dX5_takesLetter_1 ?_
  refine f_bipush (v := 10) hC dX5_takesLetter_4 (by decide) ?_
  obtain ⟨g2, hF⟩ := fg_open hF
  obtain ⟨g3, hF⟩ := fg_open hF
  refine f_iald hC (fSm.k (fSm.rf w) g2) (fSm.v (fSm.rf w) g3) dX5_takesLetter_6 ?_
  refine f_istore_n (L' := [(1, .int (gI w 601 (gR w 501 a0 0) (Int32.toNatClampNeg 10))), (0, .ref a0)]) hC dX5_takesLetter_7 rfl (by decide) rfl ?_
  refine f_iload_n hC dX5_takesLetter_8 rfl 0 rfl ?_
  refine f_if_ne hC 25 dX5_takesLetter_9 (by decide) (fun c4 => ?_) (fun c4 => ?_)
  · replace hF := fi_neg hF c4
    refine f_aload_n hC dX5_takesLetter_25 rfl 1 rfl ?_
    refine f_getR hC 5 1 501 rfl (by decide) iX5 q_1255 rfl rfl (fSm.k (fSm.rf w) g1) dX5_takesLetter_26 ?_
    refine f_bipush (v := 10) hC dX5_takesLetter_29 (by decide) ?_
    refine f_iload_n hC dX5_takesLetter_31 rfl 0 rfl ?_
    refine f_iadd hC dX5_takesLetter_32 ?_
    refine f_iconst (v := 0) hC dX5_takesLetter_33 (by decide) ?_
    obtain ⟨g5, hF⟩ := fg_open hF
    refine f_iast hC (fSm.k (fSm.rf w) g2) (fSm.v (fSm.rf w) g5) dX5_takesLetter_34 ?_
    refine f_aload_n hC dX5_takesLetter_35 rfl 1 rfl ?_
    refine f_getR hC 5 1 501 rfl (by decide) iX5 q_1255 rfl rfl (fSm.k (fSm.rf w) g1) dX5_takesLetter_36 ?_
    refine f_bipush (v := 10) hC dX5_takesLetter_39 (by decide) ?_
    refine f_iload_n hC dX5_takesLetter_41 rfl 0 rfl ?_
    refine f_iconst (v := 1) hC dX5_takesLetter_42 (by decide) ?_
    refine f_isub hC dX5_takesLetter_43 ?_
    refine f_iast hC (fSm.k (fSm.rf w) g2) (fSm.v (fSm.rf w) g3) dX5_takesLetter_44 ?_
    refine f_aload_n hC dX5_takesLetter_45 rfl 1 rfl ?_
    refine f_iload_n hC dX5_takesLetter_46 rfl 0 rfl ?_
    refine f_iconst (v := 1) hC dX5_takesLetter_47 (by decide) ?_
    refine f_isub hC dX5_takesLetter_48 ?_
    obtain ⟨r6, h7, hF⟩ := fb_open hF
    refine f_callV hC [.int ((gI w 601 (gR w 501 a0 0) (Int32.toNatClampNeg 10)) - 1)] (c_X5_done l D cy a0 ((gI w 601 (gR w 501 a0 0) (Int32.toNatClampNeg 10)) - 1) (sI (sI w 601 (gR w 501 a0 0) (Int32.toNatClampNeg (10 + (gI w 601 (gR w 501 a0 0) (Int32.toNatClampNeg 10)))) 0) 601 (gR (sI w 601 (gR w 501 a0 0) (Int32.toNatClampNeg (10 + (gI w 601 (gR w 501 a0 0) (Int32.toNatClampNeg 10)))) 0) 501 a0 0) (Int32.toNatClampNeg 10) ((gI w 601 (gR w 501 a0 0) (Int32.toNatClampNeg 10)) - 1)) r6 h7) q_1363 q_136 q_1360 q_1362 q_75 h9_X5_done rfl (fSm.k (fSm.rf w) g1) ⟨Nat.le_of_ble_eq_true rfl, Nat.le_of_ble_eq_true rfl⟩ ⟨Nat.le_of_ble_eq_true rfl, Nat.le_of_ble_eq_true rfl⟩ (Nat.le_of_ble_eq_true rfl) rfl dX5_takesLetter_49 (fun e8 => ?_)
    obtain rfl := Option.some.inj hF
    exact f_iret hC hEn (fSm.tr e8 (fSm.rf w)) dX5_takesLetter_52
  · replace hF := fi_pos hF c4
    refine f_aload_n hC dX5_takesLetter_12 rfl 1 rfl ?_
    refine f_bipush (v := 11) hC dX5_takesLetter_13 (by decide) ?_
    refine f_aload_n hC dX5_takesLetter_15 rfl 1 rfl ?_
    refine f_getR hC 5 1 501 rfl (by decide) iX5 q_1255 rfl rfl (fSm.k (fSm.rf w) g1) dX5_takesLetter_16 ?_
    refine f_iconst (v := 0) hC dX5_takesLetter_19 (by decide) ?_
    obtain ⟨g9, hF⟩ := fg_open hF
    refine f_iald hC (fSm.k (fSm.rf w) g2) (fSm.v (fSm.rf w) g9) dX5_takesLetter_20 ?_
    obtain ⟨r10, h11, hF⟩ := fb_open hF
    refine f_callV hC [.int 11, .int (gI w 601 (gR w 501 a0 0) (Int32.toNatClampNeg 0))] (c_X5_refused l D cy a0 11 (gI w 601 (gR w 501 a0 0) (Int32.toNatClampNeg 0)) w r10 h11) q_1359 q_136 q_1356 q_1358 q_74 h9_X5_refused rfl (fSm.k (fSm.rf w) g1) ⟨Nat.le_of_ble_eq_true rfl, Nat.le_of_ble_eq_true rfl⟩ ⟨Nat.le_of_ble_eq_true rfl, Nat.le_of_ble_eq_true rfl⟩ (Nat.le_of_ble_eq_true rfl) rfl dX5_takesLetter_21 (fun e12 => ?_)
    obtain rfl := Option.some.inj hF
    exact f_iret hC hEn (fSm.tr e12 (fSm.rf w)) dX5_takesLetter_24
theorem dX5_prints_0 : decode cX5_prints 0 = .ok (.iload_n 1, 1) := by decide +kernel
theorem dX5_prints_1 : decode cX5_prints 1 = .ok (.iconst 0, 1) := by decide +kernel
theorem dX5_prints_2 : decode cX5_prints 2 = .ok (.iconst 4, 1) := by decide +kernel
theorem dX5_prints_3 : decode cX5_prints 3 = .ok (.invokestatic 66, 3) := by decide +kernel
theorem dX5_prints_6 : decode cX5_prints 6 = .ok (.ifCond .eq 12, 3) := by decide +kernel
theorem dX5_prints_9 : decode cX5_prints 9 = .ok (.iload_n 2, 1) := by decide +kernel
theorem dX5_prints_10 : decode cX5_prints 10 = .ok (.iconst 0, 1) := by decide +kernel
theorem dX5_prints_11 : decode cX5_prints 11 = .ok (.iconst 4, 1) := by decide +kernel
theorem dX5_prints_12 : decode cX5_prints 12 = .ok (.invokestatic 66, 3) := by decide +kernel
theorem dX5_prints_15 : decode cX5_prints 15 = .ok (.ifCond .ne 5, 3) := by decide +kernel
theorem dX5_prints_18 : decode cX5_prints 18 = .ok (.iconst (-1), 1) := by decide +kernel
theorem dX5_prints_19 : decode cX5_prints 19 = .ok (.ireturn, 1) := by decide +kernel
theorem dX5_prints_20 : decode cX5_prints 20 = .ok (.iload_n 1, 1) := by decide +kernel
theorem dX5_prints_21 : decode cX5_prints 21 = .ok (.iload_n 2, 1) := by decide +kernel
theorem dX5_prints_22 : decode cX5_prints 22 = .ok (.if_icmp .eq 13, 3) := by decide +kernel
theorem dX5_prints_25 : decode cX5_prints 25 = .ok (.iload_n 3, 1) := by decide +kernel
theorem dX5_prints_26 : decode cX5_prints 26 = .ok (.iconst 1, 1) := by decide +kernel
theorem dX5_prints_27 : decode cX5_prints 27 = .ok (.bipush 9, 2) := by decide +kernel
theorem dX5_prints_29 : decode cX5_prints 29 = .ok (.invokestatic 66, 3) := by decide +kernel
theorem dX5_prints_32 : decode cX5_prints 32 = .ok (.ifCond .ne 6, 3) := by decide +kernel
theorem dX5_prints_35 : decode cX5_prints 35 = .ok (.bipush (-2), 2) := by decide +kernel
theorem dX5_prints_37 : decode cX5_prints 37 = .ok (.ireturn, 1) := by decide +kernel
theorem dX5_prints_38 : decode cX5_prints 38 = .ok (.aload_n 0, 1) := by decide +kernel
theorem dX5_prints_39 : decode cX5_prints 39 = .ok (.getfield 31, 3) := by decide +kernel
theorem dX5_prints_42 : decode cX5_prints 42 = .ok (.iconst 0, 1) := by decide +kernel
theorem dX5_prints_43 : decode cX5_prints 43 = .ok (.iaload, 1) := by decide +kernel
theorem dX5_prints_44 : decode cX5_prints 44 = .ok (.istore 4, 2) := by decide +kernel
theorem dX5_prints_46 : decode cX5_prints 46 = .ok (.iconst 0, 1) := by decide +kernel
theorem dX5_prints_47 : decode cX5_prints 47 = .ok (.istore 5, 2) := by decide +kernel
theorem dX5_prints_49 : decode cX5_prints 49 = .ok (.iconst 1, 1) := by decide +kernel
theorem dX5_prints_50 : decode cX5_prints 50 = .ok (.istore 6, 2) := by decide +kernel
theorem dX5_prints_52 : decode cX5_prints 52 = .ok (.iload 6, 2) := by decide +kernel
theorem dX5_prints_54 : decode cX5_prints 54 = .ok (.iload 4, 2) := by decide +kernel
theorem dX5_prints_56 : decode cX5_prints 56 = .ok (.if_icmp .gt 33, 3) := by decide +kernel
theorem dX5_prints_59 : decode cX5_prints 59 = .ok (.iload 5, 2) := by decide +kernel
theorem dX5_prints_61 : decode cX5_prints 61 = .ok (.aload_n 0, 1) := by decide +kernel
theorem dX5_prints_62 : decode cX5_prints 62 = .ok (.getfield 31, 3) := by decide +kernel
theorem dX5_prints_65 : decode cX5_prints 65 = .ok (.iload 6, 2) := by decide +kernel
theorem dX5_prints_67 : decode cX5_prints 67 = .ok (.iaload, 1) := by decide +kernel
theorem dX5_prints_68 : decode cX5_prints 68 = .ok (.invokestatic 86, 3) := by decide +kernel
theorem dX5_prints_71 : decode cX5_prints 71 = .ok (.iconst (-1), 1) := by decide +kernel
theorem dX5_prints_72 : decode cX5_prints 72 = .ok (.if_icmp .ne 7, 3) := by decide +kernel
theorem dX5_prints_75 : decode cX5_prints 75 = .ok (.iconst 0, 1) := by decide +kernel
theorem dX5_prints_76 : decode cX5_prints 76 = .ok (.goto 4, 3) := by decide +kernel
theorem dX5_prints_79 : decode cX5_prints 79 = .ok (.iconst 1, 1) := by decide +kernel
theorem dX5_prints_80 : decode cX5_prints 80 = .ok (.iadd, 1) := by decide +kernel
theorem dX5_prints_81 : decode cX5_prints 81 = .ok (.istore 5, 2) := by decide +kernel
theorem dX5_prints_83 : decode cX5_prints 83 = .ok (.iinc 6 1, 3) := by decide +kernel
theorem dX5_prints_86 : decode cX5_prints 86 = .ok (.goto (-34), 3) := by decide +kernel
theorem dX5_prints_89 : decode cX5_prints 89 = .ok (.iload 4, 2) := by decide +kernel
theorem dX5_prints_91 : decode cX5_prints 91 = .ok (.iconst 2, 1) := by decide +kernel
theorem dX5_prints_92 : decode cX5_prints 92 = .ok (.if_icmp .lt 8, 3) := by decide +kernel
theorem dX5_prints_95 : decode cX5_prints 95 = .ok (.iload 5, 2) := by decide +kernel
theorem dX5_prints_97 : decode cX5_prints 97 = .ok (.ifCond .ne 11, 3) := by decide +kernel
theorem dX5_prints_100 : decode cX5_prints 100 = .ok (.aload_n 0, 1) := by decide +kernel
theorem dX5_prints_101 : decode cX5_prints 101 = .ok (.iconst 2, 1) := by decide +kernel
theorem dX5_prints_102 : decode cX5_prints 102 = .ok (.iload 4, 2) := by decide +kernel
theorem dX5_prints_104 : decode cX5_prints 104 = .ok (.invokevirtual 122, 3) := by decide +kernel
theorem dX5_prints_107 : decode cX5_prints 107 = .ok (.ireturn, 1) := by decide +kernel
theorem dX5_prints_108 : decode cX5_prints 108 = .ok (.aload_n 0, 1) := by decide +kernel
theorem dX5_prints_109 : decode cX5_prints 109 = .ok (.getfield 7, 3) := by decide +kernel
theorem dX5_prints_112 : decode cX5_prints 112 = .ok (.iconst 0, 1) := by decide +kernel
theorem dX5_prints_113 : decode cX5_prints 113 = .ok (.iaload, 1) := by decide +kernel
theorem dX5_prints_114 : decode cX5_prints 114 = .ok (.istore 6, 2) := by decide +kernel
theorem dX5_prints_116 : decode cX5_prints 116 = .ok (.iload 6, 2) := by decide +kernel
theorem dX5_prints_118 : decode cX5_prints 118 = .ok (.bipush 8, 2) := by decide +kernel
theorem dX5_prints_120 : decode cX5_prints 120 = .ok (.if_icmp .ne 11, 3) := by decide +kernel
theorem dX5_prints_123 : decode cX5_prints 123 = .ok (.aload_n 0, 1) := by decide +kernel
theorem dX5_prints_124 : decode cX5_prints 124 = .ok (.iconst 1, 1) := by decide +kernel
theorem dX5_prints_125 : decode cX5_prints 125 = .ok (.bipush 8, 2) := by decide +kernel
theorem dX5_prints_127 : decode cX5_prints 127 = .ok (.invokevirtual 122, 3) := by decide +kernel
theorem dX5_prints_130 : decode cX5_prints 130 = .ok (.ireturn, 1) := by decide +kernel
theorem dX5_prints_131 : decode cX5_prints 131 = .ok (.iconst 0, 1) := by decide +kernel
theorem dX5_prints_132 : decode cX5_prints 132 = .ok (.istore 7, 2) := by decide +kernel
theorem dX5_prints_134 : decode cX5_prints 134 = .ok (.iload 7, 2) := by decide +kernel
theorem dX5_prints_136 : decode cX5_prints 136 = .ok (.bipush 20, 2) := by decide +kernel
theorem dX5_prints_138 : decode cX5_prints 138 = .ok (.if_icmp .ge 18, 3) := by decide +kernel
theorem dX5_prints_141 : decode cX5_prints 141 = .ok (.aload_n 0, 1) := by decide +kernel
theorem dX5_prints_142 : decode cX5_prints 142 = .ok (.iload 6, 2) := by decide +kernel
theorem dX5_prints_144 : decode cX5_prints 144 = .ok (.iload 7, 2) := by decide +kernel
theorem dX5_prints_146 : decode cX5_prints 146 = .ok (.iconst 0, 1) := by decide +kernel
theorem dX5_prints_147 : decode cX5_prints 147 = .ok (.invokevirtual 74, 3) := by decide +kernel
theorem dX5_prints_150 : decode cX5_prints 150 = .ok (.iinc 7 1, 3) := by decide +kernel
theorem dX5_prints_153 : decode cX5_prints 153 = .ok (.goto (-19), 3) := by decide +kernel
theorem dX5_prints_156 : decode cX5_prints 156 = .ok (.iconst 0, 1) := by decide +kernel
theorem dX5_prints_157 : decode cX5_prints 157 = .ok (.istore 7, 2) := by decide +kernel
theorem dX5_prints_159 : decode cX5_prints 159 = .ok (.iload 7, 2) := by decide +kernel
theorem dX5_prints_161 : decode cX5_prints 161 = .ok (.iload 4, 2) := by decide +kernel
theorem dX5_prints_163 : decode cX5_prints 163 = .ok (.if_icmp .gt 24, 3) := by decide +kernel
theorem dX5_prints_166 : decode cX5_prints 166 = .ok (.aload_n 0, 1) := by decide +kernel
theorem dX5_prints_167 : decode cX5_prints 167 = .ok (.iload 6, 2) := by decide +kernel
theorem dX5_prints_169 : decode cX5_prints 169 = .ok (.iload 7, 2) := by decide +kernel
theorem dX5_prints_171 : decode cX5_prints 171 = .ok (.aload_n 0, 1) := by decide +kernel
theorem dX5_prints_172 : decode cX5_prints 172 = .ok (.getfield 31, 3) := by decide +kernel
theorem dX5_prints_175 : decode cX5_prints 175 = .ok (.iload 7, 2) := by decide +kernel
theorem dX5_prints_177 : decode cX5_prints 177 = .ok (.iaload, 1) := by decide +kernel
theorem dX5_prints_178 : decode cX5_prints 178 = .ok (.invokevirtual 74, 3) := by decide +kernel
theorem dX5_prints_181 : decode cX5_prints 181 = .ok (.iinc 7 1, 3) := by decide +kernel
theorem dX5_prints_184 : decode cX5_prints 184 = .ok (.goto (-25), 3) := by decide +kernel
theorem dX5_prints_187 : decode cX5_prints 187 = .ok (.aload_n 0, 1) := by decide +kernel
theorem dX5_prints_188 : decode cX5_prints 188 = .ok (.iload 6, 2) := by decide +kernel
theorem dX5_prints_190 : decode cX5_prints 190 = .ok (.bipush 7, 2) := by decide +kernel
theorem dX5_prints_192 : decode cX5_prints 192 = .ok (.iload_n 1, 1) := by decide +kernel
theorem dX5_prints_193 : decode cX5_prints 193 = .ok (.invokevirtual 74, 3) := by decide +kernel
theorem dX5_prints_196 : decode cX5_prints 196 = .ok (.aload_n 0, 1) := by decide +kernel
theorem dX5_prints_197 : decode cX5_prints 197 = .ok (.iload 6, 2) := by decide +kernel
theorem dX5_prints_199 : decode cX5_prints 199 = .ok (.bipush 8, 2) := by decide +kernel
theorem dX5_prints_201 : decode cX5_prints 201 = .ok (.iload_n 2, 1) := by decide +kernel
theorem dX5_prints_202 : decode cX5_prints 202 = .ok (.invokevirtual 74, 3) := by decide +kernel
theorem dX5_prints_205 : decode cX5_prints 205 = .ok (.aload_n 0, 1) := by decide +kernel
theorem dX5_prints_206 : decode cX5_prints 206 = .ok (.iload 6, 2) := by decide +kernel
theorem dX5_prints_208 : decode cX5_prints 208 = .ok (.bipush 9, 2) := by decide +kernel
theorem dX5_prints_210 : decode cX5_prints 210 = .ok (.iload_n 3, 1) := by decide +kernel
theorem dX5_prints_211 : decode cX5_prints 211 = .ok (.invokevirtual 74, 3) := by decide +kernel
theorem dX5_prints_214 : decode cX5_prints 214 = .ok (.aload_n 0, 1) := by decide +kernel
theorem dX5_prints_215 : decode cX5_prints 215 = .ok (.iload 6, 2) := by decide +kernel
theorem dX5_prints_217 : decode cX5_prints 217 = .ok (.bipush 11, 2) := by decide +kernel
theorem dX5_prints_219 : decode cX5_prints 219 = .ok (.iconst (-1), 1) := by decide +kernel
theorem dX5_prints_220 : decode cX5_prints 220 = .ok (.invokevirtual 74, 3) := by decide +kernel
theorem dX5_prints_223 : decode cX5_prints 223 = .ok (.aload_n 0, 1) := by decide +kernel
theorem dX5_prints_224 : decode cX5_prints 224 = .ok (.iload 6, 2) := by decide +kernel
theorem dX5_prints_226 : decode cX5_prints 226 = .ok (.iconst 0, 1) := by decide +kernel
theorem dX5_prints_227 : decode cX5_prints 227 = .ok (.iconst 0, 1) := by decide +kernel
theorem dX5_prints_228 : decode cX5_prints 228 = .ok (.iconst (-1), 1) := by decide +kernel
theorem dX5_prints_229 : decode cX5_prints 229 = .ok (.invokevirtual 128, 3) := by decide +kernel
theorem dX5_prints_232 : decode cX5_prints 232 = .ok (.aload_n 0, 1) := by decide +kernel
theorem dX5_prints_233 : decode cX5_prints 233 = .ok (.iload 6, 2) := by decide +kernel
theorem dX5_prints_235 : decode cX5_prints 235 = .ok (.iconst 1, 1) := by decide +kernel
theorem dX5_prints_236 : decode cX5_prints 236 = .ok (.iconst 0, 1) := by decide +kernel
theorem dX5_prints_237 : decode cX5_prints 237 = .ok (.iconst (-1), 1) := by decide +kernel
theorem dX5_prints_238 : decode cX5_prints 238 = .ok (.invokevirtual 128, 3) := by decide +kernel
theorem dX5_prints_241 : decode cX5_prints 241 = .ok (.aload_n 0, 1) := by decide +kernel
theorem dX5_prints_242 : decode cX5_prints 242 = .ok (.getfield 7, 3) := by decide +kernel
theorem dX5_prints_245 : decode cX5_prints 245 = .ok (.iconst 0, 1) := by decide +kernel
theorem dX5_prints_246 : decode cX5_prints 246 = .ok (.iload 6, 2) := by decide +kernel
theorem dX5_prints_248 : decode cX5_prints 248 = .ok (.iconst 1, 1) := by decide +kernel
theorem dX5_prints_249 : decode cX5_prints 249 = .ok (.iadd, 1) := by decide +kernel
theorem dX5_prints_250 : decode cX5_prints 250 = .ok (.iastore, 1) := by decide +kernel
theorem dX5_prints_251 : decode cX5_prints 251 = .ok (.aload_n 0, 1) := by decide +kernel
theorem dX5_prints_252 : decode cX5_prints 252 = .ok (.getfield 7, 3) := by decide +kernel
theorem dX5_prints_255 : decode cX5_prints 255 = .ok (.iconst 2, 1) := by decide +kernel
theorem dX5_prints_256 : decode cX5_prints 256 = .ok (.dup2, 1) := by decide +kernel
theorem dX5_prints_257 : decode cX5_prints 257 = .ok (.iaload, 1) := by decide +kernel
theorem dX5_prints_258 : decode cX5_prints 258 = .ok (.iconst 1, 1) := by decide +kernel
theorem dX5_prints_259 : decode cX5_prints 259 = .ok (.iadd, 1) := by decide +kernel
theorem dX5_prints_260 : decode cX5_prints 260 = .ok (.iastore, 1) := by decide +kernel
theorem dX5_prints_261 : decode cX5_prints 261 = .ok (.aload_n 0, 1) := by decide +kernel
theorem dX5_prints_262 : decode cX5_prints 262 = .ok (.iload 6, 2) := by decide +kernel
theorem dX5_prints_264 : decode cX5_prints 264 = .ok (.invokevirtual 125, 3) := by decide +kernel
theorem dX5_prints_267 : decode cX5_prints 267 = .ok (.ireturn, 1) := by decide +kernel
theorem h9_X5_prints : yX5_prints.cls ≠ "java/lang/invoke/MethodHandle" ∧ yX5_prints.cls ≠ "java/lang/invoke/VarHandle" ∧ (parseMethodDescriptor yX5_prints.desc).map (fun d => d.parameters.length) = some 3 := by decide +kernel
noncomputable def F_X5_prints (a0 : Nat) (x1 : Int32) (x2 : Int32) (x3 : Int32) (w : FW) : Option (Int32 × FW) :=
  (F_X5_in x1 0 4 w).bind (fun r1 => (if r1 = 0 then some ((-1), w) else (F_X5_in x2 0 4 w).bind (fun r5 => (if r5 = 0 then some ((-1), w) else (if x1 = x2 then some ((-2), w) else (F_X5_in x3 1 9 w).bind (fun r10 => (if r10 = 0 then some ((-2), w) else fg (w.1 a0 = 6) inferInstance (fg (w.1 (gR w 510 a0 0) = 11) inferInstance (fg (¬ (0 < 0 ∨ w.2.1 (gR w 510 a0 0) ≤ Int32.toNatClampNeg 0)) inferInstance ((fLoop (σ := Int32 × Int32) (ρ := Int32) (fun s17 => (if (gI w 601 (gR w 510 a0 0) (Int32.toNatClampNeg 0)) < s17.2 then some (.inr s17.1) else fg (¬ (s17.2 < 0 ∨ w.2.1 (gR w 510 a0 0) ≤ Int32.toNatClampNeg s17.2)) inferInstance ((F_X5_vowel (gI w 601 (gR w 510 a0 0) (Int32.toNatClampNeg s17.2)) w).bind (fun r28 => (if r28 = (-1) then some (.inl ((s17.1 + 0), (s17.2 + 1))) else some (.inl ((s17.1 + 1), (s17.2 + 1)))))))) (0, 1)).bind (fun x23 => (if (gI w 601 (gR w 510 a0 0) (Int32.toNatClampNeg 0)) < 2 then (F_X5_refused a0 2 (gI w 601 (gR w 510 a0 0) (Int32.toNatClampNeg 0)) w).bind (fun r33 => some (r33.1, r33.2)) else (if x23 = 0 then (F_X5_refused a0 2 (gI w 601 (gR w 510 a0 0) (Int32.toNatClampNeg 0)) w).bind (fun r95 => some (r95.1, r95.2)) else fg (w.1 (gR w 501 a0 0) = 11) inferInstance (fg (¬ (0 < 0 ∨ w.2.1 (gR w 501 a0 0) ≤ Int32.toNatClampNeg 0)) inferInstance ((if (gI w 601 (gR w 501 a0 0) (Int32.toNatClampNeg 0)) = 8 then (F_X5_refused a0 1 8 w).bind (fun r92 => some (r92.1, r92.2)) else (fLoop (σ := Int32 × FW) (ρ := FW) (fun s40 => (if 20 ≤ s40.1 then some (.inr s40.2) else (F_X5_sets a0 (gI w 601 (gR w 501 a0 0) (Int32.toNatClampNeg 0)) s40.1 0 s40.2).bind (fun r50 => some (.inl ((s40.1 + 1), r50))))) (0, w)).bind (fun x46 => (fLoop (σ := Int32 × FW) (ρ := FW) (fun s53 => (if (gI w 601 (gR w 510 a0 0) (Int32.toNatClampNeg 0)) < s53.1 then some (.inr s53.2) else fg (w.1 (gR s53.2 510 a0 0) = 11) inferInstance (fg (¬ (s53.1 < 0 ∨ w.2.1 (gR s53.2 510 a0 0) ≤ Int32.toNatClampNeg s53.1)) inferInstance ((F_X5_sets a0 (gI w 601 (gR w 501 a0 0) (Int32.toNatClampNeg 0)) s53.1 (gI s53.2 601 (gR s53.2 510 a0 0) (Int32.toNatClampNeg s53.1)) s53.2).bind (fun r65 => some (.inl ((s53.1 + 1), r65))))))) (0, x46)).bind (fun x59 => (F_X5_sets a0 (gI w 601 (gR w 501 a0 0) (Int32.toNatClampNeg 0)) 7 x1 x59).bind (fun r68 => (F_X5_sets a0 (gI w 601 (gR w 501 a0 0) (Int32.toNatClampNeg 0)) 8 x2 r68).bind (fun r71 => (F_X5_sets a0 (gI w 601 (gR w 501 a0 0) (Int32.toNatClampNeg 0)) 9 x3 r71).bind (fun r74 => (F_X5_sets a0 (gI w 601 (gR w 501 a0 0) (Int32.toNatClampNeg 0)) 11 (-1) r74).bind (fun r77 => (F_X5_setsHalf a0 (gI w 601 (gR w 501 a0 0) (Int32.toNatClampNeg 0)) 0 0 (-1) r77).bind (fun r80 => (F_X5_setsHalf a0 (gI w 601 (gR w 501 a0 0) (Int32.toNatClampNeg 0)) 1 0 (-1) r80).bind (fun r83 => fg (w.1 (gR r83 501 a0 0) = 11) inferInstance (fg (¬ (0 < 0 ∨ w.2.1 (gR r83 501 a0 0) ≤ Int32.toNatClampNeg 0)) inferInstance (fg (¬ (2 < 0 ∨ w.2.1 (gR r83 501 a0 0) ≤ Int32.toNatClampNeg 2)) inferInstance ((F_X5_done a0 (gI w 601 (gR w 501 a0 0) (Int32.toNatClampNeg 0)) (sI (sI r83 601 (gR r83 501 a0 0) (Int32.toNatClampNeg 0) ((gI w 601 (gR w 501 a0 0) (Int32.toNatClampNeg 0)) + 1)) 601 (gR (sI r83 601 (gR r83 501 a0 0) (Int32.toNatClampNeg 0) ((gI w 601 (gR w 501 a0 0) (Int32.toNatClampNeg 0)) + 1)) 501 a0 0) (Int32.toNatClampNeg 2) ((gI (sI r83 601 (gR r83 501 a0 0) (Int32.toNatClampNeg 0) ((gI w 601 (gR w 501 a0 0) (Int32.toNatClampNeg 0)) + 1)) 601 (gR (sI r83 601 (gR r83 501 a0 0) (Int32.toNatClampNeg 0) ((gI w 601 (gR w 501 a0 0) (Int32.toNatClampNeg 0)) + 1)) 501 a0 0) (Int32.toNatClampNeg 2)) + 1))).bind (fun r89 => some (r89.1, r89.2)))))))))))))))))))))))))))))
set_option maxHeartbeats 4000000 in
set_option maxRecDepth 100000 in
theorem c_X5_prints (l : Launch) (D : va_G) (cy : Nat → ClassId) (a0 : Nat) (x1 : Int32) (x2 : Int32) (x3 : Int32) (w : FW) (r : Int32 × FW) (hF : F_X5_prints a0 x1 x2 x3 w = some r) : fSpec l D cy yX5_prints cX5_prints 8 (some .int) { frames := 2, cells := 0, slots := 0, locals := 47 } [.ref a0, .int x1, .int x2, .int x3] w r.2 (some (.int r.1)) := by
  refine f_begin (by decide +kernel) (Nat.le_of_ble_eq_true rfl) (fun X hC hEn => ?_)
  unfold F_X5_prints at hF
  show fAt X 0 0 8 w [(0, .ref a0), (1, .int x1), (2, .int x2), (3, .int x3)] [] 0
  refine f_iload_n hC dX5_prints_0 rfl 1 rfl ?_
  refine f_iconst (v := 0) hC dX5_prints_1 (by decide) ?_
  refine f_iconst (v := 4) hC dX5_prints_2 (by decide) ?_
  obtain ⟨r1, h2, hF⟩ := fb_open hF
  refine f_callS hC [.int x1, .int 0, .int 4] (c_X5_in l D cy x1 0 4 w r1 h2) q_1352 q_136 q_1350 q_1351 h9_X5_in ⟨Nat.le_of_ble_eq_true rfl, Nat.le_of_ble_eq_true rfl⟩ ⟨Nat.le_of_ble_eq_true rfl, Nat.le_of_ble_eq_true rfl⟩ (Nat.le_of_ble_eq_true rfl) rfl dX5_prints_3 (fun e3 => ?_)
  refine f_if_eq hC 18 dX5_prints_6 (by decide) (fun c4 => ?_) (fun c4 => ?_)
  · replace hF := fi_pos hF c4
    refine f_iconst (v := (-1)) hC dX5_prints_18 (by decide) ?_
    obtain rfl := Option.some.inj hF
    exact f_iret hC hEn (fSm.rf w) dX5_prints_19
  · replace hF := fi_neg hF c4
    refine f_iload_n hC dX5_prints_9 rfl 2 rfl ?_
    refine f_iconst (v := 0) hC dX5_prints_10 (by decide) ?_
    refine f_iconst (v := 4) hC dX5_prints_11 (by decide) ?_
    obtain ⟨r5, h6, hF⟩ := fb_open hF
    refine f_callS hC [.int x2, .int 0, .int 4] (c_X5_in l D cy x2 0 4 w r5 h6) q_1352 q_136 q_1350 q_1351 h9_X5_in ⟨Nat.le_of_ble_eq_true rfl, Nat.le_of_ble_eq_true rfl⟩ ⟨Nat.le_of_ble_eq_true rfl, Nat.le_of_ble_eq_true rfl⟩ (Nat.le_of_ble_eq_true rfl) rfl dX5_prints_12 (fun e7 => ?_)
    refine f_if_ne hC 20 dX5_prints_15 (by decide) (fun c8 => ?_) (fun c8 => ?_)
    · replace hF := fi_neg hF c8
      refine f_iload_n hC dX5_prints_20 rfl 1 rfl ?_
      refine f_iload_n hC dX5_prints_21 rfl 2 rfl ?_
      refine f_icmp_eq hC 35 dX5_prints_22 (by decide) (fun c9 => ?_) (fun c9 => ?_)
      · replace hF := fi_pos hF c9
        refine f_bipush (v := (-2)) hC dX5_prints_35 (by decide) ?_
        obtain rfl := Option.some.inj hF
        exact f_iret hC hEn (fSm.rf w) dX5_prints_37
      · replace hF := fi_neg hF c9
        refine f_iload_n hC dX5_prints_25 rfl 3 rfl ?_
        refine f_iconst (v := 1) hC dX5_prints_26 (by decide) ?_
        refine f_bipush (v := 9) hC dX5_prints_27 (by decide) ?_
        obtain ⟨r10, h11, hF⟩ := fb_open hF
        refine f_callS hC [.int x3, .int 1, .int 9] (c_X5_in l D cy x3 1 9 w r10 h11) q_1352 q_136 q_1350 q_1351 h9_X5_in ⟨Nat.le_of_ble_eq_true rfl, Nat.le_of_ble_eq_true rfl⟩ ⟨Nat.le_of_ble_eq_true rfl, Nat.le_of_ble_eq_true rfl⟩ (Nat.le_of_ble_eq_true rfl) rfl dX5_prints_29 (fun e12 => ?_)
        refine f_if_ne hC 38 dX5_prints_32 (by decide) (fun c13 => ?_) (fun c13 => ?_)
        · replace hF := fi_neg hF c13
          refine f_aload_n hC dX5_prints_38 rfl 0 rfl ?_
          obtain ⟨g14, hF⟩ := fg_open hF
          refine f_getR hC 5 10 510 rfl (by decide) iX5 q_1264 rfl rfl (fSm.k (fSm.rf w) g14) dX5_prints_39 ?_
          refine f_iconst (v := 0) hC dX5_prints_42 (by decide) ?_
          obtain ⟨g15, hF⟩ := fg_open hF
          obtain ⟨g16, hF⟩ := fg_open hF
          refine f_iald hC (fSm.k (fSm.rf w) g15) (fSm.v (fSm.rf w) g16) dX5_prints_43 ?_
          refine f_istore (L' := [(4, .int (gI w 601 (gR w 510 a0 0) (Int32.toNatClampNeg 0))), (0, .ref a0), (1, .int x1), (2, .int x2), (3, .int x3)]) hC dX5_prints_44 (by decide) rfl ?_
          refine f_iconst (v := 0) hC dX5_prints_46 (by decide) ?_
          refine f_istore (L' := [(5, .int 0), (4, .int (gI w 601 (gR w 510 a0 0) (Int32.toNatClampNeg 0))), (0, .ref a0), (1, .int x1), (2, .int x2), (3, .int x3)]) hC dX5_prints_47 (by decide) rfl ?_
          refine f_iconst (v := 1) hC dX5_prints_49 (by decide) ?_
          refine f_istore (L' := [(6, .int 1), (5, .int 0), (4, .int (gI w 601 (gR w 510 a0 0) (Int32.toNatClampNeg 0))), (0, .ref a0), (1, .int x1), (2, .int x2), (3, .int x3)]) hC dX5_prints_50 (by decide) rfl ?_
          obtain ⟨x23, h24, hF⟩ := fb_open hF
          have K25 : fAt X 0 0 8 w [(0, .ref a0), (1, .int x1), (2, .int x2), (3, .int x3), (4, .int (gI w 601 (gR w 510 a0 0) (Int32.toNatClampNeg 0))), (5, .int x23)] [] 89 := by
            refine f_iload hC dX5_prints_89 4 rfl ?_
            refine f_iconst (v := 2) hC dX5_prints_91 (by decide) ?_
            refine f_icmp_lt hC 100 dX5_prints_92 (by decide) (fun c32 => ?_) (fun c32 => ?_)
            · replace hF := fi_pos hF c32
              refine f_aload_n hC dX5_prints_100 rfl 0 rfl ?_
              refine f_iconst (v := 2) hC dX5_prints_101 (by decide) ?_
              refine f_iload hC dX5_prints_102 4 rfl ?_
              obtain ⟨r33, h34, hF⟩ := fb_open hF
              refine f_callV hC [.int 2, .int (gI w 601 (gR w 510 a0 0) (Int32.toNatClampNeg 0))] (c_X5_refused l D cy a0 2 (gI w 601 (gR w 510 a0 0) (Int32.toNatClampNeg 0)) w r33 h34) q_1359 q_136 q_1356 q_1358 q_74 h9_X5_refused rfl (fSm.k (fSm.rf w) g14) ⟨Nat.le_of_ble_eq_true rfl, Nat.le_of_ble_eq_true rfl⟩ ⟨Nat.le_of_ble_eq_true rfl, Nat.le_of_ble_eq_true rfl⟩ (Nat.le_of_ble_eq_true rfl) rfl dX5_prints_104 (fun e35 => ?_)
              obtain rfl := Option.some.inj hF
              exact f_iret hC hEn (fSm.tr e35 (fSm.rf w)) dX5_prints_107
            · replace hF := fi_neg hF c32
              refine f_iload hC dX5_prints_95 5 rfl ?_
              refine f_if_ne hC 108 dX5_prints_97 (by decide) (fun c36 => ?_) (fun c36 => ?_)
              · replace hF := fi_neg hF c36
                refine f_aload_n hC dX5_prints_108 rfl 0 rfl ?_
                refine f_getR hC 5 1 501 rfl (by decide) iX5 q_1255 rfl rfl (fSm.k (fSm.rf w) g14) dX5_prints_109 ?_
                refine f_iconst (v := 0) hC dX5_prints_112 (by decide) ?_
                obtain ⟨g37, hF⟩ := fg_open hF
                obtain ⟨g38, hF⟩ := fg_open hF
                refine f_iald hC (fSm.k (fSm.rf w) g37) (fSm.v (fSm.rf w) g38) dX5_prints_113 ?_
                refine f_istore (L' := [(6, .int (gI w 601 (gR w 501 a0 0) (Int32.toNatClampNeg 0))), (0, .ref a0), (1, .int x1), (2, .int x2), (3, .int x3), (4, .int (gI w 601 (gR w 510 a0 0) (Int32.toNatClampNeg 0))), (5, .int x23)]) hC dX5_prints_114 (by decide) rfl ?_
                refine f_iload hC dX5_prints_116 0 rfl ?_
                refine f_bipush (v := 8) hC dX5_prints_118 (by decide) ?_
                refine f_icmp_ne hC 131 dX5_prints_120 (by decide) (fun c39 => ?_) (fun c39 => ?_)
                · replace hF := fi_neg hF c39
                  refine f_iconst (v := 0) hC dX5_prints_131 (by decide) ?_
                  refine f_istore (L' := [(7, .int 0), (6, .int (gI w 601 (gR w 501 a0 0) (Int32.toNatClampNeg 0))), (0, .ref a0), (1, .int x1), (2, .int x2), (3, .int x3), (4, .int (gI w 601 (gR w 510 a0 0) (Int32.toNatClampNeg 0))), (5, .int x23)]) hC dX5_prints_132 (by decide) rfl ?_
                  obtain ⟨x46, h47, hF⟩ := fb_open hF
                  have K48 : fSm x46 w → fAt X 0 0 8 x46 [(0, .ref a0), (1, .int x1), (2, .int x2), (3, .int x3), (4, .int (gI w 601 (gR w 510 a0 0) (Int32.toNatClampNeg 0))), (6, .int (gI w 601 (gR w 501 a0 0) (Int32.toNatClampNeg 0)))] [] 156 := by
                    intro p44
                    refine f_iconst (v := 0) hC dX5_prints_156 (by decide) ?_
                    refine f_istore (L' := [(7, .int 0), (0, .ref a0), (1, .int x1), (2, .int x2), (3, .int x3), (4, .int (gI w 601 (gR w 510 a0 0) (Int32.toNatClampNeg 0))), (6, .int (gI w 601 (gR w 501 a0 0) (Int32.toNatClampNeg 0)))]) hC dX5_prints_157 (by decide) rfl ?_
                    obtain ⟨x59, h60, hF⟩ := fb_open hF
                    have K61 : fSm x59 w → fAt X 0 0 8 x59 [(0, .ref a0), (1, .int x1), (2, .int x2), (3, .int x3), (6, .int (gI w 601 (gR w 501 a0 0) (Int32.toNatClampNeg 0)))] [] 187 := by
                      intro p57
                      refine f_aload_n hC dX5_prints_187 rfl 0 rfl ?_
                      refine f_iload hC dX5_prints_188 4 rfl ?_
                      refine f_bipush (v := 7) hC dX5_prints_190 (by decide) ?_
                      refine f_iload_n hC dX5_prints_192 rfl 1 rfl ?_
                      obtain ⟨r68, h69, hF⟩ := fb_open hF
                      refine f_callV hC [.int (gI w 601 (gR w 501 a0 0) (Int32.toNatClampNeg 0)), .int 7, .int x1] (c_X5_sets l D cy a0 (gI w 601 (gR w 501 a0 0) (Int32.toNatClampNeg 0)) 7 x1 x59 r68 h69) q_1399 q_136 q_1396 q_1398 q_82 h9_X5_sets rfl (fSm.k p57 g14) ⟨Nat.le_of_ble_eq_true rfl, Nat.le_of_ble_eq_true rfl⟩ ⟨Nat.le_of_ble_eq_true rfl, Nat.le_of_ble_eq_true rfl⟩ (Nat.le_of_ble_eq_true rfl) rfl dX5_prints_193 (fun e70 => ?_)
                      refine f_aload_n hC dX5_prints_196 rfl 0 rfl ?_
                      refine f_iload hC dX5_prints_197 4 rfl ?_
                      refine f_bipush (v := 8) hC dX5_prints_199 (by decide) ?_
                      refine f_iload_n hC dX5_prints_201 rfl 2 rfl ?_
                      obtain ⟨r71, h72, hF⟩ := fb_open hF
                      refine f_callV hC [.int (gI w 601 (gR w 501 a0 0) (Int32.toNatClampNeg 0)), .int 8, .int x2] (c_X5_sets l D cy a0 (gI w 601 (gR w 501 a0 0) (Int32.toNatClampNeg 0)) 8 x2 r68 r71 h72) q_1399 q_136 q_1396 q_1398 q_82 h9_X5_sets rfl (fSm.k (fSm.tr e70 p57) g14) ⟨Nat.le_of_ble_eq_true rfl, Nat.le_of_ble_eq_true rfl⟩ ⟨Nat.le_of_ble_eq_true rfl, Nat.le_of_ble_eq_true rfl⟩ (Nat.le_of_ble_eq_true rfl) rfl dX5_prints_202 (fun e73 => ?_)
                      refine f_aload_n hC dX5_prints_205 rfl 0 rfl ?_
                      refine f_iload hC dX5_prints_206 4 rfl ?_
                      refine f_bipush (v := 9) hC dX5_prints_208 (by decide) ?_
                      refine f_iload_n hC dX5_prints_210 rfl 3 rfl ?_
                      obtain ⟨r74, h75, hF⟩ := fb_open hF
                      refine f_callV hC [.int (gI w 601 (gR w 501 a0 0) (Int32.toNatClampNeg 0)), .int 9, .int x3] (c_X5_sets l D cy a0 (gI w 601 (gR w 501 a0 0) (Int32.toNatClampNeg 0)) 9 x3 r71 r74 h75) q_1399 q_136 q_1396 q_1398 q_82 h9_X5_sets rfl (fSm.k (fSm.tr e73 (fSm.tr e70 p57)) g14) ⟨Nat.le_of_ble_eq_true rfl, Nat.le_of_ble_eq_true rfl⟩ ⟨Nat.le_of_ble_eq_true rfl, Nat.le_of_ble_eq_true rfl⟩ (Nat.le_of_ble_eq_true rfl) rfl dX5_prints_211 (fun e76 => ?_)
                      refine f_aload_n hC dX5_prints_214 rfl 0 rfl ?_
                      refine f_iload hC dX5_prints_215 4 rfl ?_
                      refine f_bipush (v := 11) hC dX5_prints_217 (by decide) ?_
                      refine f_iconst (v := (-1)) hC dX5_prints_219 (by decide) ?_
                      obtain ⟨r77, h78, hF⟩ := fb_open hF
                      refine f_callV hC [.int (gI w 601 (gR w 501 a0 0) (Int32.toNatClampNeg 0)), .int 11, .int (-1)] (c_X5_sets l D cy a0 (gI w 601 (gR w 501 a0 0) (Int32.toNatClampNeg 0)) 11 (-1) r74 r77 h78) q_1399 q_136 q_1396 q_1398 q_82 h9_X5_sets rfl (fSm.k (fSm.tr e76 (fSm.tr e73 (fSm.tr e70 p57))) g14) ⟨Nat.le_of_ble_eq_true rfl, Nat.le_of_ble_eq_true rfl⟩ ⟨Nat.le_of_ble_eq_true rfl, Nat.le_of_ble_eq_true rfl⟩ (Nat.le_of_ble_eq_true rfl) rfl dX5_prints_220 (fun e79 => ?_)
                      refine f_aload_n hC dX5_prints_223 rfl 0 rfl ?_
                      refine f_iload hC dX5_prints_224 4 rfl ?_
                      refine f_iconst (v := 0) hC dX5_prints_226 (by decide) ?_
                      refine f_iconst (v := 0) hC dX5_prints_227 (by decide) ?_
                      refine f_iconst (v := (-1)) hC dX5_prints_228 (by decide) ?_
                      obtain ⟨r80, h81, hF⟩ := fb_open hF
                      refine f_callV hC [.int (gI w 601 (gR w 501 a0 0) (Int32.toNatClampNeg 0)), .int 0, .int 0, .int (-1)] (c_X5_setsHalf l D cy a0 (gI w 601 (gR w 501 a0 0) (Int32.toNatClampNeg 0)) 0 0 (-1) r77 r80 h81) q_1403 q_136 q_1400 q_1402 q_83 h9_X5_setsHalf rfl (fSm.k (fSm.tr e79 (fSm.tr e76 (fSm.tr e73 (fSm.tr e70 p57)))) g14) ⟨Nat.le_of_ble_eq_true rfl, Nat.le_of_ble_eq_true rfl⟩ ⟨Nat.le_of_ble_eq_true rfl, Nat.le_of_ble_eq_true rfl⟩ (Nat.le_of_ble_eq_true rfl) rfl dX5_prints_229 (fun e82 => ?_)
                      refine f_aload_n hC dX5_prints_232 rfl 0 rfl ?_
                      refine f_iload hC dX5_prints_233 4 rfl ?_
                      refine f_iconst (v := 1) hC dX5_prints_235 (by decide) ?_
                      refine f_iconst (v := 0) hC dX5_prints_236 (by decide) ?_
                      refine f_iconst (v := (-1)) hC dX5_prints_237 (by decide) ?_
                      obtain ⟨r83, h84, hF⟩ := fb_open hF
                      refine f_callV hC [.int (gI w 601 (gR w 501 a0 0) (Int32.toNatClampNeg 0)), .int 1, .int 0, .int (-1)] (c_X5_setsHalf l D cy a0 (gI w 601 (gR w 501 a0 0) (Int32.toNatClampNeg 0)) 1 0 (-1) r80 r83 h84) q_1403 q_136 q_1400 q_1402 q_83 h9_X5_setsHalf rfl (fSm.k (fSm.tr e82 (fSm.tr e79 (fSm.tr e76 (fSm.tr e73 (fSm.tr e70 p57))))) g14) ⟨Nat.le_of_ble_eq_true rfl, Nat.le_of_ble_eq_true rfl⟩ ⟨Nat.le_of_ble_eq_true rfl, Nat.le_of_ble_eq_true rfl⟩ (Nat.le_of_ble_eq_true rfl) rfl dX5_prints_238 (fun e85 => ?_)
                      refine f_aload_n hC dX5_prints_241 rfl 0 rfl ?_
                      refine f_getR hC 5 1 501 rfl (by decide) iX5 q_1255 rfl rfl (fSm.k (fSm.tr e85 (fSm.tr e82 (fSm.tr e79 (fSm.tr e76 (fSm.tr e73 (fSm.tr e70 p57)))))) g14) dX5_prints_242 ?_
                      refine f_iconst (v := 0) hC dX5_prints_245 (by decide) ?_
                      refine f_iload hC dX5_prints_246 4 rfl ?_
                      refine f_iconst (v := 1) hC dX5_prints_248 (by decide) ?_
                      refine f_iadd hC dX5_prints_249 ?_
                      obtain ⟨g86, hF⟩ := fg_open hF
                      obtain ⟨g87, hF⟩ := fg_open hF
                      refine f_iast hC (fSm.k (fSm.tr e85 (fSm.tr e82 (fSm.tr e79 (fSm.tr e76 (fSm.tr e73 (fSm.tr e70 p57)))))) g86) (fSm.v (fSm.tr e85 (fSm.tr e82 (fSm.tr e79 (fSm.tr e76 (fSm.tr e73 (fSm.tr e70 p57)))))) g87) dX5_prints_250 ?_
                      refine f_aload_n hC dX5_prints_251 rfl 0 rfl ?_
                      refine f_getR hC 5 1 501 rfl (by decide) iX5 q_1255 rfl rfl (fSm.k (fSm.tr e85 (fSm.tr e82 (fSm.tr e79 (fSm.tr e76 (fSm.tr e73 (fSm.tr e70 p57)))))) g14) dX5_prints_252 ?_
                      refine f_iconst (v := 2) hC dX5_prints_255 (by decide) ?_
                      refine f_dup2 hC dX5_prints_256 rfl rfl ?_
                      obtain ⟨g88, hF⟩ := fg_open hF
                      refine f_iald hC (fSm.k (fSm.tr e85 (fSm.tr e82 (fSm.tr e79 (fSm.tr e76 (fSm.tr e73 (fSm.tr e70 p57)))))) g86) (fSm.v (fSm.tr e85 (fSm.tr e82 (fSm.tr e79 (fSm.tr e76 (fSm.tr e73 (fSm.tr e70 p57)))))) g88) dX5_prints_257 ?_
                      refine f_iconst (v := 1) hC dX5_prints_258 (by decide) ?_
                      refine f_iadd hC dX5_prints_259 ?_
                      refine f_iast hC (fSm.k (fSm.tr e85 (fSm.tr e82 (fSm.tr e79 (fSm.tr e76 (fSm.tr e73 (fSm.tr e70 p57)))))) g86) (fSm.v (fSm.tr e85 (fSm.tr e82 (fSm.tr e79 (fSm.tr e76 (fSm.tr e73 (fSm.tr e70 p57)))))) g88) dX5_prints_260 ?_
                      refine f_aload_n hC dX5_prints_261 rfl 0 rfl ?_
                      refine f_iload hC dX5_prints_262 4 rfl ?_
                      obtain ⟨r89, h90, hF⟩ := fb_open hF
                      refine f_callV hC [.int (gI w 601 (gR w 501 a0 0) (Int32.toNatClampNeg 0))] (c_X5_done l D cy a0 (gI w 601 (gR w 501 a0 0) (Int32.toNatClampNeg 0)) (sI (sI r83 601 (gR r83 501 a0 0) (Int32.toNatClampNeg 0) ((gI w 601 (gR w 501 a0 0) (Int32.toNatClampNeg 0)) + 1)) 601 (gR (sI r83 601 (gR r83 501 a0 0) (Int32.toNatClampNeg 0) ((gI w 601 (gR w 501 a0 0) (Int32.toNatClampNeg 0)) + 1)) 501 a0 0) (Int32.toNatClampNeg 2) ((gI (sI r83 601 (gR r83 501 a0 0) (Int32.toNatClampNeg 0) ((gI w 601 (gR w 501 a0 0) (Int32.toNatClampNeg 0)) + 1)) 601 (gR (sI r83 601 (gR r83 501 a0 0) (Int32.toNatClampNeg 0) ((gI w 601 (gR w 501 a0 0) (Int32.toNatClampNeg 0)) + 1)) 501 a0 0) (Int32.toNatClampNeg 2)) + 1)) r89 h90) q_1363 q_136 q_1360 q_1362 q_75 h9_X5_done rfl (fSm.k (fSm.tr e85 (fSm.tr e82 (fSm.tr e79 (fSm.tr e76 (fSm.tr e73 (fSm.tr e70 p57)))))) g14) ⟨Nat.le_of_ble_eq_true rfl, Nat.le_of_ble_eq_true rfl⟩ ⟨Nat.le_of_ble_eq_true rfl, Nat.le_of_ble_eq_true rfl⟩ (Nat.le_of_ble_eq_true rfl) rfl dX5_prints_264 (fun e91 => ?_)
                      obtain rfl := Option.some.inj hF
                      exact f_iret hC hEn (fSm.tr e91 (fSm.tr e85 (fSm.tr e82 (fSm.tr e79 (fSm.tr e76 (fSm.tr e73 (fSm.tr e70 p57))))))) dX5_prints_267
                    refine f_sub (L' := [(0, .ref a0), (1, .int x1), (2, .int x2), (3, .int x3), (4, .int (gI w 601 (gR w 510 a0 0) (Int32.toNatClampNeg 0))), (6, .int (gI w 601 (gR w 501 a0 0) (Int32.toNatClampNeg 0))), (7, .int 0)]) [1, 2, 3, 4, 5, 6, 0] rfl ?_
                    refine fLoop_ind (fun (s53 : Int32 × FW) => fSm s53.2 w → fAt X 0 0 8 s53.2 [(0, .ref a0), (1, .int x1), (2, .int x2), (3, .int x3), (4, .int (gI w 601 (gR w 510 a0 0) (Int32.toNatClampNeg 0))), (6, .int (gI w 601 (gR w 501 a0 0) (Int32.toNatClampNeg 0))), (7, .int s53.1)] [] 159) (fun s53 y58 h54 go55 ou56 => ?_) h60 p44
                    intro p57
                    refine f_iload hC dX5_prints_159 6 rfl ?_
                    refine f_iload hC dX5_prints_161 4 rfl ?_
                    refine f_icmp_gt hC 187 dX5_prints_163 (by decide) (fun c62 => ?_) (fun c62 => ?_)
                    · replace h54 := fi_pos h54 c62
                      obtain rfl := Option.some.inj h54
                      obtain rfl := ou56 _ rfl
                      refine f_sub (L' := [(0, .ref a0), (1, .int x1), (2, .int x2), (3, .int x3), (6, .int (gI w 601 (gR w 501 a0 0) (Int32.toNatClampNeg 0)))]) [0, 1, 2, 3, 5] rfl ?_
                      exact K61 p57
                    · replace h54 := fi_neg h54 c62
                      refine f_aload_n hC dX5_prints_166 rfl 0 rfl ?_
                      refine f_iload hC dX5_prints_167 5 rfl ?_
                      refine f_iload hC dX5_prints_169 6 rfl ?_
                      refine f_aload_n hC dX5_prints_171 rfl 0 rfl ?_
                      refine f_getR hC 5 10 510 rfl (by decide) iX5 q_1264 rfl rfl (fSm.k p57 g14) dX5_prints_172 ?_
                      refine f_iload hC dX5_prints_175 6 rfl ?_
                      obtain ⟨g63, h54⟩ := fg_open h54
                      obtain ⟨g64, h54⟩ := fg_open h54
                      refine f_iald hC (fSm.k p57 g63) (fSm.v p57 g64) dX5_prints_177 ?_
                      obtain ⟨r65, h66, h54⟩ := fb_open h54
                      refine f_callV hC [.int (gI w 601 (gR w 501 a0 0) (Int32.toNatClampNeg 0)), .int s53.1, .int (gI s53.2 601 (gR s53.2 510 a0 0) (Int32.toNatClampNeg s53.1))] (c_X5_sets l D cy a0 (gI w 601 (gR w 501 a0 0) (Int32.toNatClampNeg 0)) s53.1 (gI s53.2 601 (gR s53.2 510 a0 0) (Int32.toNatClampNeg s53.1)) s53.2 r65 h66) q_1399 q_136 q_1396 q_1398 q_82 h9_X5_sets rfl (fSm.k p57 g14) ⟨Nat.le_of_ble_eq_true rfl, Nat.le_of_ble_eq_true rfl⟩ ⟨Nat.le_of_ble_eq_true rfl, Nat.le_of_ble_eq_true rfl⟩ (Nat.le_of_ble_eq_true rfl) rfl dX5_prints_178 (fun e67 => ?_)
                      refine f_iinc (L' := [(7, .int (s53.1 + 1)), (0, .ref a0), (1, .int x1), (2, .int x2), (3, .int x3), (4, .int (gI w 601 (gR w 510 a0 0) (Int32.toNatClampNeg 0))), (6, .int (gI w 601 (gR w 501 a0 0) (Int32.toNatClampNeg 0)))]) hC dX5_prints_181 6 rfl rfl (by decide) rfl ?_
                      refine f_goto hC 159 dX5_prints_184 (by decide) ?_
                      obtain rfl := Option.some.inj h54
                      refine f_sub (L' := [(0, .ref a0), (1, .int x1), (2, .int x2), (3, .int x3), (4, .int (gI w 601 (gR w 510 a0 0) (Int32.toNatClampNeg 0))), (6, .int (gI w 601 (gR w 501 a0 0) (Int32.toNatClampNeg 0))), (7, .int (s53.1 + 1))]) [1, 2, 3, 4, 5, 6, 0] rfl ?_
                      exact go55 _ rfl (fSm.tr e67 p57)
                  refine f_sub (L' := [(0, .ref a0), (1, .int x1), (2, .int x2), (3, .int x3), (4, .int (gI w 601 (gR w 510 a0 0) (Int32.toNatClampNeg 0))), (6, .int (gI w 601 (gR w 501 a0 0) (Int32.toNatClampNeg 0))), (7, .int 0)]) [2, 3, 4, 5, 6, 1, 0] rfl ?_
                  refine fLoop_ind (fun (s40 : Int32 × FW) => fSm s40.2 w → fAt X 0 0 8 s40.2 [(0, .ref a0), (1, .int x1), (2, .int x2), (3, .int x3), (4, .int (gI w 601 (gR w 510 a0 0) (Int32.toNatClampNeg 0))), (6, .int (gI w 601 (gR w 501 a0 0) (Int32.toNatClampNeg 0))), (7, .int s40.1)] [] 134) (fun s40 y45 h41 go42 ou43 => ?_) h47 (fSm.rf w)
                  intro p44
                  refine f_iload hC dX5_prints_134 6 rfl ?_
                  refine f_bipush (v := 20) hC dX5_prints_136 (by decide) ?_
                  refine f_icmp_ge hC 156 dX5_prints_138 (by decide) (fun c49 => ?_) (fun c49 => ?_)
                  · replace h41 := fi_pos h41 c49
                    obtain rfl := Option.some.inj h41
                    obtain rfl := ou43 _ rfl
                    refine f_sub (L' := [(0, .ref a0), (1, .int x1), (2, .int x2), (3, .int x3), (4, .int (gI w 601 (gR w 510 a0 0) (Int32.toNatClampNeg 0))), (6, .int (gI w 601 (gR w 501 a0 0) (Int32.toNatClampNeg 0)))]) [0, 1, 2, 3, 4, 5] rfl ?_
                    exact K48 p44
                  · replace h41 := fi_neg h41 c49
                    refine f_aload_n hC dX5_prints_141 rfl 0 rfl ?_
                    refine f_iload hC dX5_prints_142 5 rfl ?_
                    refine f_iload hC dX5_prints_144 6 rfl ?_
                    refine f_iconst (v := 0) hC dX5_prints_146 (by decide) ?_
                    obtain ⟨r50, h51, h41⟩ := fb_open h41
                    refine f_callV hC [.int (gI w 601 (gR w 501 a0 0) (Int32.toNatClampNeg 0)), .int s40.1, .int 0] (c_X5_sets l D cy a0 (gI w 601 (gR w 501 a0 0) (Int32.toNatClampNeg 0)) s40.1 0 s40.2 r50 h51) q_1399 q_136 q_1396 q_1398 q_82 h9_X5_sets rfl (fSm.k p44 g14) ⟨Nat.le_of_ble_eq_true rfl, Nat.le_of_ble_eq_true rfl⟩ ⟨Nat.le_of_ble_eq_true rfl, Nat.le_of_ble_eq_true rfl⟩ (Nat.le_of_ble_eq_true rfl) rfl dX5_prints_147 (fun e52 => ?_)
                    refine f_iinc (L' := [(7, .int (s40.1 + 1)), (0, .ref a0), (1, .int x1), (2, .int x2), (3, .int x3), (4, .int (gI w 601 (gR w 510 a0 0) (Int32.toNatClampNeg 0))), (6, .int (gI w 601 (gR w 501 a0 0) (Int32.toNatClampNeg 0)))]) hC dX5_prints_150 6 rfl rfl (by decide) rfl ?_
                    refine f_goto hC 134 dX5_prints_153 (by decide) ?_
                    obtain rfl := Option.some.inj h41
                    refine f_sub (L' := [(0, .ref a0), (1, .int x1), (2, .int x2), (3, .int x3), (4, .int (gI w 601 (gR w 510 a0 0) (Int32.toNatClampNeg 0))), (6, .int (gI w 601 (gR w 501 a0 0) (Int32.toNatClampNeg 0))), (7, .int (s40.1 + 1))]) [1, 2, 3, 4, 5, 6, 0] rfl ?_
                    exact go42 _ rfl (fSm.tr e52 p44)
                · replace hF := fi_pos hF c39
                  refine f_aload_n hC dX5_prints_123 rfl 1 rfl ?_
                  refine f_iconst (v := 1) hC dX5_prints_124 (by decide) ?_
                  refine f_bipush (v := 8) hC dX5_prints_125 (by decide) ?_
                  obtain ⟨r92, h93, hF⟩ := fb_open hF
                  refine f_callV hC [.int 1, .int 8] (c_X5_refused l D cy a0 1 8 w r92 h93) q_1359 q_136 q_1356 q_1358 q_74 h9_X5_refused rfl (fSm.k (fSm.rf w) g14) ⟨Nat.le_of_ble_eq_true rfl, Nat.le_of_ble_eq_true rfl⟩ ⟨Nat.le_of_ble_eq_true rfl, Nat.le_of_ble_eq_true rfl⟩ (Nat.le_of_ble_eq_true rfl) rfl dX5_prints_127 (fun e94 => ?_)
                  obtain rfl := Option.some.inj hF
                  exact f_iret hC hEn (fSm.tr e94 (fSm.rf w)) dX5_prints_130
              · replace hF := fi_pos hF c36
                refine f_aload_n hC dX5_prints_100 rfl 0 rfl ?_
                refine f_iconst (v := 2) hC dX5_prints_101 (by decide) ?_
                refine f_iload hC dX5_prints_102 4 rfl ?_
                obtain ⟨r95, h96, hF⟩ := fb_open hF
                refine f_callV hC [.int 2, .int (gI w 601 (gR w 510 a0 0) (Int32.toNatClampNeg 0))] (c_X5_refused l D cy a0 2 (gI w 601 (gR w 510 a0 0) (Int32.toNatClampNeg 0)) w r95 h96) q_1359 q_136 q_1356 q_1358 q_74 h9_X5_refused rfl (fSm.k (fSm.rf w) g14) ⟨Nat.le_of_ble_eq_true rfl, Nat.le_of_ble_eq_true rfl⟩ ⟨Nat.le_of_ble_eq_true rfl, Nat.le_of_ble_eq_true rfl⟩ (Nat.le_of_ble_eq_true rfl) rfl dX5_prints_104 (fun e97 => ?_)
                obtain rfl := Option.some.inj hF
                exact f_iret hC hEn (fSm.tr e97 (fSm.rf w)) dX5_prints_107
          refine f_sub (L' := [(0, .ref a0), (1, .int x1), (2, .int x2), (3, .int x3), (4, .int (gI w 601 (gR w 510 a0 0) (Int32.toNatClampNeg 0))), (5, .int 0), (6, .int 1)]) [3, 4, 5, 6, 2, 1, 0] rfl ?_
          refine fLoop_ind (fun (s17 : Int32 × Int32) => fAt X 0 0 8 w [(0, .ref a0), (1, .int x1), (2, .int x2), (3, .int x3), (4, .int (gI w 601 (gR w 510 a0 0) (Int32.toNatClampNeg 0))), (5, .int s17.1), (6, .int s17.2)] [] 52) (fun s17 y22 h18 go19 ou20 => ?_) h24
          refine f_iload hC dX5_prints_52 6 rfl ?_
          refine f_iload hC dX5_prints_54 4 rfl ?_
          refine f_icmp_gt hC 89 dX5_prints_56 (by decide) (fun c26 => ?_) (fun c26 => ?_)
          · replace h18 := fi_pos h18 c26
            obtain rfl := Option.some.inj h18
            obtain rfl := ou20 _ rfl
            refine f_sub (L' := [(0, .ref a0), (1, .int x1), (2, .int x2), (3, .int x3), (4, .int (gI w 601 (gR w 510 a0 0) (Int32.toNatClampNeg 0))), (5, .int s17.1)]) [0, 1, 2, 3, 4, 5] rfl ?_
            exact K25
          · replace h18 := fi_neg h18 c26
            refine f_iload hC dX5_prints_59 5 rfl ?_
            refine f_aload_n hC dX5_prints_61 rfl 0 rfl ?_
            refine f_getR hC 5 10 510 rfl (by decide) iX5 q_1264 rfl rfl (fSm.k (fSm.rf w) g14) dX5_prints_62 ?_
            refine f_iload hC dX5_prints_65 6 rfl ?_
            obtain ⟨g27, h18⟩ := fg_open h18
            refine f_iald hC (fSm.k (fSm.rf w) g15) (fSm.v (fSm.rf w) g27) dX5_prints_67 ?_
            obtain ⟨r28, h29, h18⟩ := fb_open h18
            refine f_callS hC [.int (gI w 601 (gR w 510 a0 0) (Int32.toNatClampNeg s17.2))] (c_X5_vowel l D cy (gI w 601 (gR w 510 a0 0) (Int32.toNatClampNeg s17.2)) w r28 h29) q_1355 q_136 q_1353 q_1354 h9_X5_vowel ⟨Nat.le_of_ble_eq_true rfl, Nat.le_of_ble_eq_true rfl⟩ ⟨Nat.le_of_ble_eq_true rfl, Nat.le_of_ble_eq_true rfl⟩ (Nat.le_of_ble_eq_true rfl) rfl dX5_prints_68 (fun e30 => ?_)
            refine f_iconst (v := (-1)) hC dX5_prints_71 (by decide) ?_
            refine f_icmp_ne hC 79 dX5_prints_72 (by decide) (fun c31 => ?_) (fun c31 => ?_)
            · replace h18 := fi_neg h18 c31
              refine f_iconst (v := 1) hC dX5_prints_79 (by decide) ?_
              refine f_iadd hC dX5_prints_80 ?_
              refine f_istore (L' := [(5, .int (s17.1 + 1)), (0, .ref a0), (1, .int x1), (2, .int x2), (3, .int x3), (4, .int (gI w 601 (gR w 510 a0 0) (Int32.toNatClampNeg 0))), (6, .int s17.2)]) hC dX5_prints_81 (by decide) rfl ?_
              refine f_iinc (L' := [(6, .int (s17.2 + 1)), (5, .int (s17.1 + 1)), (0, .ref a0), (1, .int x1), (2, .int x2), (3, .int x3), (4, .int (gI w 601 (gR w 510 a0 0) (Int32.toNatClampNeg 0)))]) hC dX5_prints_83 6 rfl rfl (by decide) rfl ?_
              refine f_goto hC 52 dX5_prints_86 (by decide) ?_
              obtain rfl := Option.some.inj h18
              refine f_sub (L' := [(0, .ref a0), (1, .int x1), (2, .int x2), (3, .int x3), (4, .int (gI w 601 (gR w 510 a0 0) (Int32.toNatClampNeg 0))), (5, .int (s17.1 + 1)), (6, .int (s17.2 + 1))]) [2, 3, 4, 5, 6, 1, 0] rfl ?_
              exact go19 _ rfl
            · replace h18 := fi_pos h18 c31
              refine f_iconst (v := 0) hC dX5_prints_75 (by decide) ?_
              refine f_goto hC 80 dX5_prints_76 (by decide) ?_
              refine f_iadd hC dX5_prints_80 ?_
              refine f_istore (L' := [(5, .int (s17.1 + 0)), (0, .ref a0), (1, .int x1), (2, .int x2), (3, .int x3), (4, .int (gI w 601 (gR w 510 a0 0) (Int32.toNatClampNeg 0))), (6, .int s17.2)]) hC dX5_prints_81 (by decide) rfl ?_
              refine f_iinc (L' := [(6, .int (s17.2 + 1)), (5, .int (s17.1 + 0)), (0, .ref a0), (1, .int x1), (2, .int x2), (3, .int x3), (4, .int (gI w 601 (gR w 510 a0 0) (Int32.toNatClampNeg 0)))]) hC dX5_prints_83 6 rfl rfl (by decide) rfl ?_
              refine f_goto hC 52 dX5_prints_86 (by decide) ?_
              obtain rfl := Option.some.inj h18
              refine f_sub (L' := [(0, .ref a0), (1, .int x1), (2, .int x2), (3, .int x3), (4, .int (gI w 601 (gR w 510 a0 0) (Int32.toNatClampNeg 0))), (5, .int (s17.1 + 0)), (6, .int (s17.2 + 1))]) [2, 3, 4, 5, 6, 1, 0] rfl ?_
              exact go19 _ rfl
        · replace hF := fi_pos hF c13
          refine f_bipush (v := (-2)) hC dX5_prints_35 (by decide) ?_
          obtain rfl := Option.some.inj hF
          exact f_iret hC hEn (fSm.rf w) dX5_prints_37
    · replace hF := fi_pos hF c8
      refine f_iconst (v := (-1)) hC dX5_prints_18 (by decide) ?_
      obtain rfl := Option.some.inj hF
      exact f_iret hC hEn (fSm.rf w) dX5_prints_19
theorem dX5_printsDraft_0 : decode cX5_printsDraft 0 = .ok (.iconst 0, 1) := by decide +kernel
theorem dX5_printsDraft_1 : decode cX5_printsDraft 1 = .ok (.istore 4, 2) := by decide +kernel
theorem dX5_printsDraft_3 : decode cX5_printsDraft 3 = .ok (.iload 4, 2) := by decide +kernel
theorem dX5_printsDraft_5 : decode cX5_printsDraft 5 = .ok (.bipush 7, 2) := by decide +kernel
theorem dX5_printsDraft_7 : decode cX5_printsDraft 7 = .ok (.if_icmp .ge 26, 3) := by decide +kernel
theorem dX5_printsDraft_10 : decode cX5_printsDraft 10 = .ok (.aload_n 0, 1) := by decide +kernel
theorem dX5_printsDraft_11 : decode cX5_printsDraft 11 = .ok (.getfield 31, 3) := by decide +kernel
theorem dX5_printsDraft_14 : decode cX5_printsDraft 14 = .ok (.iload 4, 2) := by decide +kernel
theorem dX5_printsDraft_16 : decode cX5_printsDraft 16 = .ok (.aload_n 0, 1) := by decide +kernel
theorem dX5_printsDraft_17 : decode cX5_printsDraft 17 = .ok (.getfield 7, 3) := by decide +kernel
theorem dX5_printsDraft_20 : decode cX5_printsDraft 20 = .ok (.bipush 10, 2) := by decide +kernel
theorem dX5_printsDraft_22 : decode cX5_printsDraft 22 = .ok (.iload 4, 2) := by decide +kernel
theorem dX5_printsDraft_24 : decode cX5_printsDraft 24 = .ok (.iadd, 1) := by decide +kernel
theorem dX5_printsDraft_25 : decode cX5_printsDraft 25 = .ok (.iaload, 1) := by decide +kernel
theorem dX5_printsDraft_26 : decode cX5_printsDraft 26 = .ok (.iastore, 1) := by decide +kernel
theorem dX5_printsDraft_27 : decode cX5_printsDraft 27 = .ok (.iinc 4 1, 3) := by decide +kernel
theorem dX5_printsDraft_30 : decode cX5_printsDraft 30 = .ok (.goto (-27), 3) := by decide +kernel
theorem dX5_printsDraft_33 : decode cX5_printsDraft 33 = .ok (.aload_n 0, 1) := by decide +kernel
theorem dX5_printsDraft_34 : decode cX5_printsDraft 34 = .ok (.iload_n 1, 1) := by decide +kernel
theorem dX5_printsDraft_35 : decode cX5_printsDraft 35 = .ok (.iload_n 2, 1) := by decide +kernel
theorem dX5_printsDraft_36 : decode cX5_printsDraft 36 = .ok (.iload_n 3, 1) := by decide +kernel
theorem dX5_printsDraft_37 : decode cX5_printsDraft 37 = .ok (.invokevirtual 132, 3) := by decide +kernel
theorem dX5_printsDraft_40 : decode cX5_printsDraft 40 = .ok (.istore 4, 2) := by decide +kernel
theorem dX5_printsDraft_42 : decode cX5_printsDraft 42 = .ok (.iload 4, 2) := by decide +kernel
theorem dX5_printsDraft_44 : decode cX5_printsDraft 44 = .ok (.ifCond .ne 30, 3) := by decide +kernel
theorem dX5_printsDraft_47 : decode cX5_printsDraft 47 = .ok (.iconst 0, 1) := by decide +kernel
theorem dX5_printsDraft_48 : decode cX5_printsDraft 48 = .ok (.istore 5, 2) := by decide +kernel
theorem dX5_printsDraft_50 : decode cX5_printsDraft 50 = .ok (.iload 5, 2) := by decide +kernel
theorem dX5_printsDraft_52 : decode cX5_printsDraft 52 = .ok (.bipush 7, 2) := by decide +kernel
theorem dX5_printsDraft_54 : decode cX5_printsDraft 54 = .ok (.if_icmp .ge 20, 3) := by decide +kernel
theorem dX5_printsDraft_57 : decode cX5_printsDraft 57 = .ok (.aload_n 0, 1) := by decide +kernel
theorem dX5_printsDraft_58 : decode cX5_printsDraft 58 = .ok (.getfield 7, 3) := by decide +kernel
theorem dX5_printsDraft_61 : decode cX5_printsDraft 61 = .ok (.bipush 10, 2) := by decide +kernel
theorem dX5_printsDraft_63 : decode cX5_printsDraft 63 = .ok (.iload 5, 2) := by decide +kernel
theorem dX5_printsDraft_65 : decode cX5_printsDraft 65 = .ok (.iadd, 1) := by decide +kernel
theorem dX5_printsDraft_66 : decode cX5_printsDraft 66 = .ok (.iconst 0, 1) := by decide +kernel
theorem dX5_printsDraft_67 : decode cX5_printsDraft 67 = .ok (.iastore, 1) := by decide +kernel
theorem dX5_printsDraft_68 : decode cX5_printsDraft 68 = .ok (.iinc 5 1, 3) := by decide +kernel
theorem dX5_printsDraft_71 : decode cX5_printsDraft 71 = .ok (.goto (-21), 3) := by decide +kernel
theorem dX5_printsDraft_74 : decode cX5_printsDraft 74 = .ok (.iload 4, 2) := by decide +kernel
theorem dX5_printsDraft_76 : decode cX5_printsDraft 76 = .ok (.ireturn, 1) := by decide +kernel
theorem h9_X5_printsDraft : yX5_printsDraft.cls ≠ "java/lang/invoke/MethodHandle" ∧ yX5_printsDraft.cls ≠ "java/lang/invoke/VarHandle" ∧ (parseMethodDescriptor yX5_printsDraft.desc).map (fun d => d.parameters.length) = some 3 := by decide +kernel
noncomputable def F_X5_printsDraft (a0 : Nat) (x1 : Int32) (x2 : Int32) (x3 : Int32) (w : FW) : Option (Int32 × FW) :=
  (fLoop (σ := Int32 × FW) (ρ := FW) (fun s1 => (if 7 ≤ s1.1 then some (.inr s1.2) else fg (w.1 a0 = 6) inferInstance (fg (w.1 (gR s1.2 501 a0 0) = 11) inferInstance (fg (¬ ((10 + s1.1) < 0 ∨ w.2.1 (gR s1.2 501 a0 0) ≤ Int32.toNatClampNeg (10 + s1.1))) inferInstance (fg (w.1 (gR s1.2 510 a0 0) = 11) inferInstance (fg (¬ (s1.1 < 0 ∨ w.2.1 (gR s1.2 510 a0 0) ≤ Int32.toNatClampNeg s1.1)) inferInstance (some (.inl ((s1.1 + 1), (sI s1.2 601 (gR s1.2 510 a0 0) (Int32.toNatClampNeg s1.1) (gI s1.2 601 (gR s1.2 501 a0 0) (Int32.toNatClampNeg (10 + s1.1))))))))))))) (0, w)).bind (fun x7 => fg (w.1 a0 = 6) inferInstance ((F_X5_prints a0 x1 x2 x3 x7).bind (fun r16 => (if r16.1 = 0 then (fLoop (σ := Int32 × FW) (ρ := FW) (fun s21 => (if 7 ≤ s21.1 then some (.inr s21.2) else fg (w.1 (gR s21.2 501 a0 0) = 11) inferInstance (fg (¬ ((10 + s21.1) < 0 ∨ w.2.1 (gR s21.2 501 a0 0) ≤ Int32.toNatClampNeg (10 + s21.1))) inferInstance (some (.inl ((s21.1 + 1), (sI s21.2 601 (gR s21.2 501 a0 0) (Int32.toNatClampNeg (10 + s21.1)) 0))))))) (0, r16.2)).bind (fun x27 => some (r16.1, x27)) else some (r16.1, r16.2)))))
set_option maxHeartbeats 4000000 in
set_option maxRecDepth 100000 in
theorem c_X5_printsDraft (l : Launch) (D : va_G) (cy : Nat → ClassId) (a0 : Nat) (x1 : Int32) (x2 : Int32) (x3 : Int32) (w : FW) (r : Int32 × FW) (hF : F_X5_printsDraft a0 x1 x2 x3 w = some r) : fSpec l D cy yX5_printsDraft cX5_printsDraft 6 (some .int) { frames := 3, cells := 0, slots := 0, locals := 74 } [.ref a0, .int x1, .int x2, .int x3] w r.2 (some (.int r.1)) := by
  refine f_begin (by decide +kernel) (Nat.le_of_ble_eq_true rfl) (fun X hC hEn => ?_)
  unfold F_X5_printsDraft at hF
  show fAt X 0 0 6 w [(0, .ref a0), (1, .int x1), (2, .int x2), (3, .int x3)] [] 0
  refine f_iconst (v := 0) hC dX5_printsDraft_0 (by decide) ?_
  refine f_istore (L' := [(4, .int 0), (0, .ref a0), (1, .int x1), (2, .int x2), (3, .int x3)]) hC dX5_printsDraft_1 (by decide) rfl ?_
  obtain ⟨x7, h8, hF⟩ := fb_open hF
  have K9 : fSm x7 w → fAt X 0 0 6 x7 [(0, .ref a0), (1, .int x1), (2, .int x2), (3, .int x3)] [] 33 := by
    intro p5
    refine f_aload_n hC dX5_printsDraft_33 rfl 0 rfl ?_
    refine f_iload_n hC dX5_printsDraft_34 rfl 1 rfl ?_
    refine f_iload_n hC dX5_printsDraft_35 rfl 2 rfl ?_
    refine f_iload_n hC dX5_printsDraft_36 rfl 3 rfl ?_
    obtain ⟨g18, hF⟩ := fg_open hF
    obtain ⟨r16, h17, hF⟩ := fb_open hF
    refine f_callV hC [.int x1, .int x2, .int x3] (c_X5_prints l D cy a0 x1 x2 x3 x7 r16 h17) q_1395 q_136 q_1392 q_1394 q_81 h9_X5_prints rfl (fSm.k p5 g18) ⟨Nat.le_of_ble_eq_true rfl, Nat.le_of_ble_eq_true rfl⟩ ⟨Nat.le_of_ble_eq_true rfl, Nat.le_of_ble_eq_true rfl⟩ (Nat.le_of_ble_eq_true rfl) rfl dX5_printsDraft_37 (fun e19 => ?_)
    refine f_istore (L' := [(4, .int r16.1), (0, .ref a0), (1, .int x1), (2, .int x2), (3, .int x3)]) hC dX5_printsDraft_40 (by decide) rfl ?_
    refine f_iload hC dX5_printsDraft_42 0 rfl ?_
    refine f_if_ne hC 74 dX5_printsDraft_44 (by decide) (fun c20 => ?_) (fun c20 => ?_)
    · replace hF := fi_neg hF c20
      refine f_iload hC dX5_printsDraft_74 0 rfl ?_
      obtain rfl := Option.some.inj hF
      exact f_iret hC hEn (fSm.tr e19 p5) dX5_printsDraft_76
    · replace hF := fi_pos hF c20
      refine f_iconst (v := 0) hC dX5_printsDraft_47 (by decide) ?_
      refine f_istore (L' := [(5, .int 0), (4, .int r16.1), (0, .ref a0), (1, .int x1), (2, .int x2), (3, .int x3)]) hC dX5_printsDraft_48 (by decide) rfl ?_
      obtain ⟨x27, h28, hF⟩ := fb_open hF
      have K29 : fSm x27 w → fAt X 0 0 6 x27 [(4, .int r16.1)] [] 74 := by
        intro p25
        refine f_iload hC dX5_printsDraft_74 0 rfl ?_
        obtain rfl := Option.some.inj hF
        exact f_iret hC hEn p25 dX5_printsDraft_76
      refine f_sub (L' := [(0, .ref a0), (4, .int r16.1), (5, .int 0)]) [2, 1, 0] rfl ?_
      refine fLoop_ind (fun (s21 : Int32 × FW) => fSm s21.2 w → fAt X 0 0 6 s21.2 [(0, .ref a0), (4, .int r16.1), (5, .int s21.1)] [] 50) (fun s21 y26 h22 go23 ou24 => ?_) h28 (fSm.tr e19 p5)
      intro p25
      refine f_iload hC dX5_printsDraft_50 2 rfl ?_
      refine f_bipush (v := 7) hC dX5_printsDraft_52 (by decide) ?_
      refine f_icmp_ge hC 74 dX5_printsDraft_54 (by decide) (fun c30 => ?_) (fun c30 => ?_)
      · replace h22 := fi_pos h22 c30
        obtain rfl := Option.some.inj h22
        obtain rfl := ou24 _ rfl
        refine f_sub (L' := [(4, .int r16.1)]) [1] rfl ?_
        exact K29 p25
      · replace h22 := fi_neg h22 c30
        refine f_aload_n hC dX5_printsDraft_57 rfl 0 rfl ?_
        refine f_getR hC 5 1 501 rfl (by decide) iX5 q_1255 rfl rfl (fSm.k p25 g18) dX5_printsDraft_58 ?_
        refine f_bipush (v := 10) hC dX5_printsDraft_61 (by decide) ?_
        refine f_iload hC dX5_printsDraft_63 2 rfl ?_
        refine f_iadd hC dX5_printsDraft_65 ?_
        refine f_iconst (v := 0) hC dX5_printsDraft_66 (by decide) ?_
        obtain ⟨g31, h22⟩ := fg_open h22
        obtain ⟨g32, h22⟩ := fg_open h22
        refine f_iast hC (fSm.k p25 g31) (fSm.v p25 g32) dX5_printsDraft_67 ?_
        refine f_iinc (L' := [(5, .int (s21.1 + 1)), (0, .ref a0), (4, .int r16.1)]) hC dX5_printsDraft_68 2 rfl rfl (by decide) rfl ?_
        refine f_goto hC 50 dX5_printsDraft_71 (by decide) ?_
        obtain rfl := Option.some.inj h22
        refine f_sub (L' := [(0, .ref a0), (4, .int r16.1), (5, .int (s21.1 + 1))]) [1, 2, 0] rfl ?_
        exact go23 _ rfl p25
  refine f_sub (L' := [(0, .ref a0), (1, .int x1), (2, .int x2), (3, .int x3), (4, .int 0)]) [1, 2, 3, 4, 0] rfl ?_
  refine fLoop_ind (fun (s1 : Int32 × FW) => fSm s1.2 w → fAt X 0 0 6 s1.2 [(0, .ref a0), (1, .int x1), (2, .int x2), (3, .int x3), (4, .int s1.1)] [] 3) (fun s1 y6 h2 go3 ou4 => ?_) h8 (fSm.rf w)
  intro p5
  refine f_iload hC dX5_printsDraft_3 4 rfl ?_
  refine f_bipush (v := 7) hC dX5_printsDraft_5 (by decide) ?_
  refine f_icmp_ge hC 33 dX5_printsDraft_7 (by decide) (fun c10 => ?_) (fun c10 => ?_)
  · replace h2 := fi_pos h2 c10
    obtain rfl := Option.some.inj h2
    obtain rfl := ou4 _ rfl
    refine f_sub (L' := [(0, .ref a0), (1, .int x1), (2, .int x2), (3, .int x3)]) [0, 1, 2, 3] rfl ?_
    exact K9 p5
  · replace h2 := fi_neg h2 c10
    refine f_aload_n hC dX5_printsDraft_10 rfl 0 rfl ?_
    obtain ⟨g11, h2⟩ := fg_open h2
    refine f_getR hC 5 10 510 rfl (by decide) iX5 q_1264 rfl rfl (fSm.k p5 g11) dX5_printsDraft_11 ?_
    refine f_iload hC dX5_printsDraft_14 4 rfl ?_
    refine f_aload_n hC dX5_printsDraft_16 rfl 0 rfl ?_
    refine f_getR hC 5 1 501 rfl (by decide) iX5 q_1255 rfl rfl (fSm.k p5 g11) dX5_printsDraft_17 ?_
    refine f_bipush (v := 10) hC dX5_printsDraft_20 (by decide) ?_
    refine f_iload hC dX5_printsDraft_22 4 rfl ?_
    refine f_iadd hC dX5_printsDraft_24 ?_
    obtain ⟨g12, h2⟩ := fg_open h2
    obtain ⟨g13, h2⟩ := fg_open h2
    refine f_iald hC (fSm.k p5 g12) (fSm.v p5 g13) dX5_printsDraft_25 ?_
    obtain ⟨g14, h2⟩ := fg_open h2
    obtain ⟨g15, h2⟩ := fg_open h2
    refine f_iast hC (fSm.k p5 g14) (fSm.v p5 g15) dX5_printsDraft_26 ?_
    refine f_iinc (L' := [(4, .int (s1.1 + 1)), (0, .ref a0), (1, .int x1), (2, .int x2), (3, .int x3)]) hC dX5_printsDraft_27 4 rfl rfl (by decide) rfl ?_
    refine f_goto hC 3 dX5_printsDraft_30 (by decide) ?_
    obtain rfl := Option.some.inj h2
    refine f_sub (L' := [(0, .ref a0), (1, .int x1), (2, .int x2), (3, .int x3), (4, .int (s1.1 + 1))]) [1, 2, 3, 4, 0] rfl ?_
    exact go3 _ rfl p5
theorem dX5_throwsAway_0 : decode cX5_throwsAway 0 = .ok (.aload_n 0, 1) := by decide +kernel
theorem dX5_throwsAway_1 : decode cX5_throwsAway 1 = .ok (.iload_n 1, 1) := by decide +kernel
theorem dX5_throwsAway_2 : decode cX5_throwsAway 2 = .ok (.invokevirtual 135, 3) := by decide +kernel
theorem dX5_throwsAway_5 : decode cX5_throwsAway 5 = .ok (.ifCond .ne 5, 3) := by decide +kernel
theorem dX5_throwsAway_8 : decode cX5_throwsAway 8 = .ok (.iconst (-1), 1) := by decide +kernel
theorem dX5_throwsAway_9 : decode cX5_throwsAway 9 = .ok (.ireturn, 1) := by decide +kernel
theorem dX5_throwsAway_10 : decode cX5_throwsAway 10 = .ok (.aload_n 0, 1) := by decide +kernel
theorem dX5_throwsAway_11 : decode cX5_throwsAway 11 = .ok (.getfield 7, 3) := by decide +kernel
theorem dX5_throwsAway_14 : decode cX5_throwsAway 14 = .ok (.iconst 0, 1) := by decide +kernel
theorem dX5_throwsAway_15 : decode cX5_throwsAway 15 = .ok (.iaload, 1) := by decide +kernel
theorem dX5_throwsAway_16 : decode cX5_throwsAway 16 = .ok (.iconst 1, 1) := by decide +kernel
theorem dX5_throwsAway_17 : decode cX5_throwsAway 17 = .ok (.isub, 1) := by decide +kernel
theorem dX5_throwsAway_18 : decode cX5_throwsAway 18 = .ok (.istore_n 2, 1) := by decide +kernel
theorem dX5_throwsAway_19 : decode cX5_throwsAway 19 = .ok (.bipush 20, 2) := by decide +kernel
theorem dX5_throwsAway_21 : decode cX5_throwsAway 21 = .ok (.iload_n 1, 1) := by decide +kernel
theorem dX5_throwsAway_22 : decode cX5_throwsAway 22 = .ok (.imul, 1) := by decide +kernel
theorem dX5_throwsAway_23 : decode cX5_throwsAway 23 = .ok (.istore_n 3, 1) := by decide +kernel
theorem dX5_throwsAway_24 : decode cX5_throwsAway 24 = .ok (.iload_n 3, 1) := by decide +kernel
theorem dX5_throwsAway_25 : decode cX5_throwsAway 25 = .ok (.bipush 20, 2) := by decide +kernel
theorem dX5_throwsAway_27 : decode cX5_throwsAway 27 = .ok (.iload_n 2, 1) := by decide +kernel
theorem dX5_throwsAway_28 : decode cX5_throwsAway 28 = .ok (.imul, 1) := by decide +kernel
theorem dX5_throwsAway_29 : decode cX5_throwsAway 29 = .ok (.if_icmp .ge 30, 3) := by decide +kernel
theorem dX5_throwsAway_32 : decode cX5_throwsAway 32 = .ok (.aload_n 0, 1) := by decide +kernel
theorem dX5_throwsAway_33 : decode cX5_throwsAway 33 = .ok (.getfield 7, 3) := by decide +kernel
theorem dX5_throwsAway_36 : decode cX5_throwsAway 36 = .ok (.bipush 17, 2) := by decide +kernel
theorem dX5_throwsAway_38 : decode cX5_throwsAway 38 = .ok (.iload_n 3, 1) := by decide +kernel
theorem dX5_throwsAway_39 : decode cX5_throwsAway 39 = .ok (.iadd, 1) := by decide +kernel
theorem dX5_throwsAway_40 : decode cX5_throwsAway 40 = .ok (.aload_n 0, 1) := by decide +kernel
theorem dX5_throwsAway_41 : decode cX5_throwsAway 41 = .ok (.getfield 7, 3) := by decide +kernel
theorem dX5_throwsAway_44 : decode cX5_throwsAway 44 = .ok (.bipush 17, 2) := by decide +kernel
theorem dX5_throwsAway_46 : decode cX5_throwsAway 46 = .ok (.iload_n 3, 1) := by decide +kernel
theorem dX5_throwsAway_47 : decode cX5_throwsAway 47 = .ok (.iadd, 1) := by decide +kernel
theorem dX5_throwsAway_48 : decode cX5_throwsAway 48 = .ok (.bipush 20, 2) := by decide +kernel
theorem dX5_throwsAway_50 : decode cX5_throwsAway 50 = .ok (.iadd, 1) := by decide +kernel
theorem dX5_throwsAway_51 : decode cX5_throwsAway 51 = .ok (.iaload, 1) := by decide +kernel
theorem dX5_throwsAway_52 : decode cX5_throwsAway 52 = .ok (.iastore, 1) := by decide +kernel
theorem dX5_throwsAway_53 : decode cX5_throwsAway 53 = .ok (.iinc 3 1, 3) := by decide +kernel
theorem dX5_throwsAway_56 : decode cX5_throwsAway 56 = .ok (.goto (-32), 3) := by decide +kernel
theorem dX5_throwsAway_59 : decode cX5_throwsAway 59 = .ok (.iconst 0, 1) := by decide +kernel
theorem dX5_throwsAway_60 : decode cX5_throwsAway 60 = .ok (.istore_n 3, 1) := by decide +kernel
theorem dX5_throwsAway_61 : decode cX5_throwsAway 61 = .ok (.iload_n 3, 1) := by decide +kernel
theorem dX5_throwsAway_62 : decode cX5_throwsAway 62 = .ok (.bipush 20, 2) := by decide +kernel
theorem dX5_throwsAway_64 : decode cX5_throwsAway 64 = .ok (.if_icmp .ge 24, 3) := by decide +kernel
theorem dX5_throwsAway_67 : decode cX5_throwsAway 67 = .ok (.aload_n 0, 1) := by decide +kernel
theorem dX5_throwsAway_68 : decode cX5_throwsAway 68 = .ok (.getfield 7, 3) := by decide +kernel
theorem dX5_throwsAway_71 : decode cX5_throwsAway 71 = .ok (.bipush 17, 2) := by decide +kernel
theorem dX5_throwsAway_73 : decode cX5_throwsAway 73 = .ok (.bipush 20, 2) := by decide +kernel
theorem dX5_throwsAway_75 : decode cX5_throwsAway 75 = .ok (.iload_n 2, 1) := by decide +kernel
theorem dX5_throwsAway_76 : decode cX5_throwsAway 76 = .ok (.imul, 1) := by decide +kernel
theorem dX5_throwsAway_77 : decode cX5_throwsAway 77 = .ok (.iadd, 1) := by decide +kernel
theorem dX5_throwsAway_78 : decode cX5_throwsAway 78 = .ok (.iload_n 3, 1) := by decide +kernel
theorem dX5_throwsAway_79 : decode cX5_throwsAway 79 = .ok (.iadd, 1) := by decide +kernel
theorem dX5_throwsAway_80 : decode cX5_throwsAway 80 = .ok (.iconst 0, 1) := by decide +kernel
theorem dX5_throwsAway_81 : decode cX5_throwsAway 81 = .ok (.iastore, 1) := by decide +kernel
theorem dX5_throwsAway_82 : decode cX5_throwsAway 82 = .ok (.iinc 3 1, 3) := by decide +kernel
theorem dX5_throwsAway_85 : decode cX5_throwsAway 85 = .ok (.goto (-24), 3) := by decide +kernel
theorem dX5_throwsAway_88 : decode cX5_throwsAway 88 = .ok (.aload_n 0, 1) := by decide +kernel
theorem dX5_throwsAway_89 : decode cX5_throwsAway 89 = .ok (.getfield 7, 3) := by decide +kernel
theorem dX5_throwsAway_92 : decode cX5_throwsAway 92 = .ok (.iconst 0, 1) := by decide +kernel
theorem dX5_throwsAway_93 : decode cX5_throwsAway 93 = .ok (.iload_n 2, 1) := by decide +kernel
theorem dX5_throwsAway_94 : decode cX5_throwsAway 94 = .ok (.iastore, 1) := by decide +kernel
theorem dX5_throwsAway_95 : decode cX5_throwsAway 95 = .ok (.aload_n 0, 1) := by decide +kernel
theorem dX5_throwsAway_96 : decode cX5_throwsAway 96 = .ok (.iload_n 2, 1) := by decide +kernel
theorem dX5_throwsAway_97 : decode cX5_throwsAway 97 = .ok (.invokevirtual 125, 3) := by decide +kernel
theorem dX5_throwsAway_100 : decode cX5_throwsAway 100 = .ok (.ireturn, 1) := by decide +kernel
theorem h9_X5_throwsAway : yX5_throwsAway.cls ≠ "java/lang/invoke/MethodHandle" ∧ yX5_throwsAway.cls ≠ "java/lang/invoke/VarHandle" ∧ (parseMethodDescriptor yX5_throwsAway.desc).map (fun d => d.parameters.length) = some 1 := by decide +kernel
noncomputable def F_X5_throwsAway (a0 : Nat) (x1 : Int32) (w : FW) : Option (Int32 × FW) :=
  fg (w.1 a0 = 6) inferInstance ((F_X5_isTicket a0 x1 w).bind (fun r1 => (if r1 = 0 then some ((-1), w) else fg (w.1 (gR w 501 a0 0) = 11) inferInstance (fg (¬ (0 < 0 ∨ w.2.1 (gR w 501 a0 0) ≤ Int32.toNatClampNeg 0)) inferInstance ((fLoop (σ := Int32 × FW) (ρ := FW) (fun s8 => (if (20 * ((gI w 601 (gR w 501 a0 0) (Int32.toNatClampNeg 0)) - 1)) ≤ s8.1 then some (.inr s8.2) else fg (w.1 (gR s8.2 501 a0 0) = 11) inferInstance (fg (¬ (((17 + s8.1) + 20) < 0 ∨ w.2.1 (gR s8.2 501 a0 0) ≤ Int32.toNatClampNeg ((17 + s8.1) + 20))) inferInstance (fg (¬ ((17 + s8.1) < 0 ∨ w.2.1 (gR s8.2 501 a0 0) ≤ Int32.toNatClampNeg (17 + s8.1))) inferInstance (some (.inl ((s8.1 + 1), (sI s8.2 601 (gR s8.2 501 a0 0) (Int32.toNatClampNeg (17 + s8.1)) (gI s8.2 601 (gR s8.2 501 a0 0) (Int32.toNatClampNeg ((17 + s8.1) + 20))))))))))) ((20 * x1), w)).bind (fun x14 => (fLoop (σ := Int32 × FW) (ρ := FW) (fun s21 => (if 20 ≤ s21.1 then some (.inr s21.2) else fg (w.1 (gR s21.2 501 a0 0) = 11) inferInstance (fg (¬ (((17 + (20 * ((gI w 601 (gR w 501 a0 0) (Int32.toNatClampNeg 0)) - 1))) + s21.1) < 0 ∨ w.2.1 (gR s21.2 501 a0 0) ≤ Int32.toNatClampNeg ((17 + (20 * ((gI w 601 (gR w 501 a0 0) (Int32.toNatClampNeg 0)) - 1))) + s21.1))) inferInstance (some (.inl ((s21.1 + 1), (sI s21.2 601 (gR s21.2 501 a0 0) (Int32.toNatClampNeg ((17 + (20 * ((gI w 601 (gR w 501 a0 0) (Int32.toNatClampNeg 0)) - 1))) + s21.1)) 0))))))) (0, x14)).bind (fun x27 => fg (w.1 (gR x27 501 a0 0) = 11) inferInstance (fg (¬ (0 < 0 ∨ w.2.1 (gR x27 501 a0 0) ≤ Int32.toNatClampNeg 0)) inferInstance ((F_X5_done a0 ((gI w 601 (gR w 501 a0 0) (Int32.toNatClampNeg 0)) - 1) (sI x27 601 (gR x27 501 a0 0) (Int32.toNatClampNeg 0) ((gI w 601 (gR w 501 a0 0) (Int32.toNatClampNeg 0)) - 1))).bind (fun r35 => some (r35.1, r35.2)))))))))))
set_option maxHeartbeats 4000000 in
set_option maxRecDepth 100000 in
theorem c_X5_throwsAway (l : Launch) (D : va_G) (cy : Nat → ClassId) (a0 : Nat) (x1 : Int32) (w : FW) (r : Int32 × FW) (hF : F_X5_throwsAway a0 x1 w = some r) : fSpec l D cy yX5_throwsAway cX5_throwsAway 4 (some .int) { frames := 2, cells := 0, slots := 0, locals := 43 } [.ref a0, .int x1] w r.2 (some (.int r.1)) := by
  refine f_begin (by decide +kernel) (Nat.le_of_ble_eq_true rfl) (fun X hC hEn => ?_)
  unfold F_X5_throwsAway at hF
  show fAt X 0 0 4 w [(0, .ref a0), (1, .int x1)] [] 0
  refine f_aload_n hC dX5_throwsAway_0 rfl 0 rfl ?_
  refine f_iload_n hC dX5_throwsAway_1 rfl 1 rfl ?_
  obtain ⟨g3, hF⟩ := fg_open hF
  obtain ⟨r1, h2, hF⟩ := fb_open hF
  refine f_callV hC [.int x1] (c_X5_isTicket l D cy a0 x1 w r1 h2) q_1415 q_136 q_1412 q_1414 q_85 h9_X5_isTicket rfl (fSm.k (fSm.rf w) g3) ⟨Nat.le_of_ble_eq_true rfl, Nat.le_of_ble_eq_true rfl⟩ ⟨Nat.le_of_ble_eq_true rfl, Nat.le_of_ble_eq_true rfl⟩ (Nat.le_of_ble_eq_true rfl) rfl dX5_throwsAway_2 (fun e4 => ?_)
  refine f_if_ne hC 10 dX5_throwsAway_5 (by decide) (fun c5 => ?_) (fun c5 => ?_)
  · replace hF := fi_neg hF c5
    refine f_aload_n hC dX5_throwsAway_10 rfl 0 rfl ?_
    refine f_getR hC 5 1 501 rfl (by decide) iX5 q_1255 rfl rfl (fSm.k (fSm.rf w) g3) dX5_throwsAway_11 ?_
    refine f_iconst (v := 0) hC dX5_throwsAway_14 (by decide) ?_
    obtain ⟨g6, hF⟩ := fg_open hF
    obtain ⟨g7, hF⟩ := fg_open hF
    refine f_iald hC (fSm.k (fSm.rf w) g6) (fSm.v (fSm.rf w) g7) dX5_throwsAway_15 ?_
    refine f_iconst (v := 1) hC dX5_throwsAway_16 (by decide) ?_
    refine f_isub hC dX5_throwsAway_17 ?_
    refine f_istore_n (L' := [(2, .int ((gI w 601 (gR w 501 a0 0) (Int32.toNatClampNeg 0)) - 1)), (0, .ref a0), (1, .int x1)]) hC dX5_throwsAway_18 rfl (by decide) rfl ?_
    refine f_bipush (v := 20) hC dX5_throwsAway_19 (by decide) ?_
    refine f_iload_n hC dX5_throwsAway_21 rfl 2 rfl ?_
    refine f_imul hC dX5_throwsAway_22 ?_
    refine f_istore_n (L' := [(3, .int (20 * x1)), (2, .int ((gI w 601 (gR w 501 a0 0) (Int32.toNatClampNeg 0)) - 1)), (0, .ref a0), (1, .int x1)]) hC dX5_throwsAway_23 rfl (by decide) rfl ?_
    obtain ⟨x14, h15, hF⟩ := fb_open hF
    have K16 : fSm x14 w → fAt X 0 0 4 x14 [(0, .ref a0), (2, .int ((gI w 601 (gR w 501 a0 0) (Int32.toNatClampNeg 0)) - 1))] [] 59 := by
      intro p12
      refine f_iconst (v := 0) hC dX5_throwsAway_59 (by decide) ?_
      refine f_istore_n (L' := [(3, .int 0), (0, .ref a0), (2, .int ((gI w 601 (gR w 501 a0 0) (Int32.toNatClampNeg 0)) - 1))]) hC dX5_throwsAway_60 rfl (by decide) rfl ?_
      obtain ⟨x27, h28, hF⟩ := fb_open hF
      have K29 : fSm x27 w → fAt X 0 0 4 x27 [(0, .ref a0), (2, .int ((gI w 601 (gR w 501 a0 0) (Int32.toNatClampNeg 0)) - 1))] [] 88 := by
        intro p25
        refine f_aload_n hC dX5_throwsAway_88 rfl 0 rfl ?_
        refine f_getR hC 5 1 501 rfl (by decide) iX5 q_1255 rfl rfl (fSm.k p25 g3) dX5_throwsAway_89 ?_
        refine f_iconst (v := 0) hC dX5_throwsAway_92 (by decide) ?_
        refine f_iload_n hC dX5_throwsAway_93 rfl 1 rfl ?_
        obtain ⟨g33, hF⟩ := fg_open hF
        obtain ⟨g34, hF⟩ := fg_open hF
        refine f_iast hC (fSm.k p25 g33) (fSm.v p25 g34) dX5_throwsAway_94 ?_
        refine f_aload_n hC dX5_throwsAway_95 rfl 0 rfl ?_
        refine f_iload_n hC dX5_throwsAway_96 rfl 1 rfl ?_
        obtain ⟨r35, h36, hF⟩ := fb_open hF
        refine f_callV hC [.int ((gI w 601 (gR w 501 a0 0) (Int32.toNatClampNeg 0)) - 1)] (c_X5_done l D cy a0 ((gI w 601 (gR w 501 a0 0) (Int32.toNatClampNeg 0)) - 1) (sI x27 601 (gR x27 501 a0 0) (Int32.toNatClampNeg 0) ((gI w 601 (gR w 501 a0 0) (Int32.toNatClampNeg 0)) - 1)) r35 h36) q_1363 q_136 q_1360 q_1362 q_75 h9_X5_done rfl (fSm.k p25 g3) ⟨Nat.le_of_ble_eq_true rfl, Nat.le_of_ble_eq_true rfl⟩ ⟨Nat.le_of_ble_eq_true rfl, Nat.le_of_ble_eq_true rfl⟩ (Nat.le_of_ble_eq_true rfl) rfl dX5_throwsAway_97 (fun e37 => ?_)
        obtain rfl := Option.some.inj hF
        exact f_iret hC hEn (fSm.tr e37 p25) dX5_throwsAway_100
      refine f_sub (L' := [(0, .ref a0), (2, .int ((gI w 601 (gR w 501 a0 0) (Int32.toNatClampNeg 0)) - 1)), (3, .int 0)]) [1, 2, 0] rfl ?_
      refine fLoop_ind (fun (s21 : Int32 × FW) => fSm s21.2 w → fAt X 0 0 4 s21.2 [(0, .ref a0), (2, .int ((gI w 601 (gR w 501 a0 0) (Int32.toNatClampNeg 0)) - 1)), (3, .int s21.1)] [] 61) (fun s21 y26 h22 go23 ou24 => ?_) h28 p12
      intro p25
      refine f_iload_n hC dX5_throwsAway_61 rfl 2 rfl ?_
      refine f_bipush (v := 20) hC dX5_throwsAway_62 (by decide) ?_
      refine f_icmp_ge hC 88 dX5_throwsAway_64 (by decide) (fun c30 => ?_) (fun c30 => ?_)
      · replace h22 := fi_pos h22 c30
        obtain rfl := Option.some.inj h22
        obtain rfl := ou24 _ rfl
        refine f_sub (L' := [(0, .ref a0), (2, .int ((gI w 601 (gR w 501 a0 0) (Int32.toNatClampNeg 0)) - 1))]) [0, 1] rfl ?_
        exact K29 p25
      · replace h22 := fi_neg h22 c30
        refine f_aload_n hC dX5_throwsAway_67 rfl 0 rfl ?_
        refine f_getR hC 5 1 501 rfl (by decide) iX5 q_1255 rfl rfl (fSm.k p25 g3) dX5_throwsAway_68 ?_
        refine f_bipush (v := 17) hC dX5_throwsAway_71 (by decide) ?_
        refine f_bipush (v := 20) hC dX5_throwsAway_73 (by decide) ?_
        refine f_iload_n hC dX5_throwsAway_75 rfl 1 rfl ?_
        refine f_imul hC dX5_throwsAway_76 ?_
        refine f_iadd hC dX5_throwsAway_77 ?_
        refine f_iload_n hC dX5_throwsAway_78 rfl 2 rfl ?_
        refine f_iadd hC dX5_throwsAway_79 ?_
        refine f_iconst (v := 0) hC dX5_throwsAway_80 (by decide) ?_
        obtain ⟨g31, h22⟩ := fg_open h22
        obtain ⟨g32, h22⟩ := fg_open h22
        refine f_iast hC (fSm.k p25 g31) (fSm.v p25 g32) dX5_throwsAway_81 ?_
        refine f_iinc (L' := [(3, .int (s21.1 + 1)), (0, .ref a0), (2, .int ((gI w 601 (gR w 501 a0 0) (Int32.toNatClampNeg 0)) - 1))]) hC dX5_throwsAway_82 2 rfl rfl (by decide) rfl ?_
        refine f_goto hC 61 dX5_throwsAway_85 (by decide) ?_
        obtain rfl := Option.some.inj h22
        refine f_sub (L' := [(0, .ref a0), (2, .int ((gI w 601 (gR w 501 a0 0) (Int32.toNatClampNeg 0)) - 1)), (3, .int (s21.1 + 1))]) [1, 2, 0] rfl ?_
        exact go23 _ rfl p25
    refine f_sub (L' := [(0, .ref a0), (2, .int ((gI w 601 (gR w 501 a0 0) (Int32.toNatClampNeg 0)) - 1)), (3, .int (20 * x1))]) [2, 1, 0] rfl ?_
    refine fLoop_ind (fun (s8 : Int32 × FW) => fSm s8.2 w → fAt X 0 0 4 s8.2 [(0, .ref a0), (2, .int ((gI w 601 (gR w 501 a0 0) (Int32.toNatClampNeg 0)) - 1)), (3, .int s8.1)] [] 24) (fun s8 y13 h9 go10 ou11 => ?_) h15 (fSm.rf w)
    intro p12
    refine f_iload_n hC dX5_throwsAway_24 rfl 2 rfl ?_
    refine f_bipush (v := 20) hC dX5_throwsAway_25 (by decide) ?_
    refine f_iload_n hC dX5_throwsAway_27 rfl 1 rfl ?_
    refine f_imul hC dX5_throwsAway_28 ?_
    refine f_icmp_ge hC 59 dX5_throwsAway_29 (by decide) (fun c17 => ?_) (fun c17 => ?_)
    · replace h9 := fi_pos h9 c17
      obtain rfl := Option.some.inj h9
      obtain rfl := ou11 _ rfl
      refine f_sub (L' := [(0, .ref a0), (2, .int ((gI w 601 (gR w 501 a0 0) (Int32.toNatClampNeg 0)) - 1))]) [0, 1] rfl ?_
      exact K16 p12
    · replace h9 := fi_neg h9 c17
      refine f_aload_n hC dX5_throwsAway_32 rfl 0 rfl ?_
      refine f_getR hC 5 1 501 rfl (by decide) iX5 q_1255 rfl rfl (fSm.k p12 g3) dX5_throwsAway_33 ?_
      refine f_bipush (v := 17) hC dX5_throwsAway_36 (by decide) ?_
      refine f_iload_n hC dX5_throwsAway_38 rfl 2 rfl ?_
      refine f_iadd hC dX5_throwsAway_39 ?_
      refine f_aload_n hC dX5_throwsAway_40 rfl 0 rfl ?_
      refine f_getR hC 5 1 501 rfl (by decide) iX5 q_1255 rfl rfl (fSm.k p12 g3) dX5_throwsAway_41 ?_
      refine f_bipush (v := 17) hC dX5_throwsAway_44 (by decide) ?_
      refine f_iload_n hC dX5_throwsAway_46 rfl 2 rfl ?_
      refine f_iadd hC dX5_throwsAway_47 ?_
      refine f_bipush (v := 20) hC dX5_throwsAway_48 (by decide) ?_
      refine f_iadd hC dX5_throwsAway_50 ?_
      obtain ⟨g18, h9⟩ := fg_open h9
      obtain ⟨g19, h9⟩ := fg_open h9
      refine f_iald hC (fSm.k p12 g18) (fSm.v p12 g19) dX5_throwsAway_51 ?_
      obtain ⟨g20, h9⟩ := fg_open h9
      refine f_iast hC (fSm.k p12 g18) (fSm.v p12 g20) dX5_throwsAway_52 ?_
      refine f_iinc (L' := [(3, .int (s8.1 + 1)), (0, .ref a0), (2, .int ((gI w 601 (gR w 501 a0 0) (Int32.toNatClampNeg 0)) - 1))]) hC dX5_throwsAway_53 2 rfl rfl (by decide) rfl ?_
      refine f_goto hC 24 dX5_throwsAway_56 (by decide) ?_
      obtain rfl := Option.some.inj h9
      refine f_sub (L' := [(0, .ref a0), (2, .int ((gI w 601 (gR w 501 a0 0) (Int32.toNatClampNeg 0)) - 1)), (3, .int (s8.1 + 1))]) [1, 2, 0] rfl ?_
      exact go10 _ rfl p12
  · replace hF := fi_pos hF c5
    refine f_iconst (v := (-1)) hC dX5_throwsAway_8 (by decide) ?_
    obtain rfl := Option.some.inj hF
    exact f_iret hC hEn (fSm.rf w) dX5_throwsAway_9
theorem dX5_tellsMood_0 : decode cX5_tellsMood 0 = .ok (.iload_n 1, 1) := by decide +kernel
theorem dX5_tellsMood_1 : decode cX5_tellsMood 1 = .ok (.iconst 0, 1) := by decide +kernel
theorem dX5_tellsMood_2 : decode cX5_tellsMood 2 = .ok (.iconst 2, 1) := by decide +kernel
theorem dX5_tellsMood_3 : decode cX5_tellsMood 3 = .ok (.invokestatic 66, 3) := by decide +kernel
theorem dX5_tellsMood_6 : decode cX5_tellsMood 6 = .ok (.ifCond .ne 5, 3) := by decide +kernel
theorem dX5_tellsMood_9 : decode cX5_tellsMood 9 = .ok (.iconst (-1), 1) := by decide +kernel
theorem dX5_tellsMood_10 : decode cX5_tellsMood 10 = .ok (.ireturn, 1) := by decide +kernel
theorem dX5_tellsMood_11 : decode cX5_tellsMood 11 = .ok (.iload_n 2, 1) := by decide +kernel
theorem dX5_tellsMood_12 : decode cX5_tellsMood 12 = .ok (.iconst 0, 1) := by decide +kernel
theorem dX5_tellsMood_13 : decode cX5_tellsMood 13 = .ok (.iconst 4, 1) := by decide +kernel
theorem dX5_tellsMood_14 : decode cX5_tellsMood 14 = .ok (.invokestatic 66, 3) := by decide +kernel
theorem dX5_tellsMood_17 : decode cX5_tellsMood 17 = .ok (.ifCond .ne 6, 3) := by decide +kernel
theorem dX5_tellsMood_20 : decode cX5_tellsMood 20 = .ok (.bipush (-2), 2) := by decide +kernel
theorem dX5_tellsMood_22 : decode cX5_tellsMood 22 = .ok (.ireturn, 1) := by decide +kernel
theorem dX5_tellsMood_23 : decode cX5_tellsMood 23 = .ok (.aload_n 0, 1) := by decide +kernel
theorem dX5_tellsMood_24 : decode cX5_tellsMood 24 = .ok (.getfield 7, 3) := by decide +kernel
theorem dX5_tellsMood_27 : decode cX5_tellsMood 27 = .ok (.bipush 7, 2) := by decide +kernel
theorem dX5_tellsMood_29 : decode cX5_tellsMood 29 = .ok (.iload_n 1, 1) := by decide +kernel
theorem dX5_tellsMood_30 : decode cX5_tellsMood 30 = .ok (.iadd, 1) := by decide +kernel
theorem dX5_tellsMood_31 : decode cX5_tellsMood 31 = .ok (.iaload, 1) := by decide +kernel
theorem dX5_tellsMood_32 : decode cX5_tellsMood 32 = .ok (.istore_n 3, 1) := by decide +kernel
theorem dX5_tellsMood_33 : decode cX5_tellsMood 33 = .ok (.iload_n 3, 1) := by decide +kernel
theorem dX5_tellsMood_34 : decode cX5_tellsMood 34 = .ok (.iload_n 2, 1) := by decide +kernel
theorem dX5_tellsMood_35 : decode cX5_tellsMood 35 = .ok (.if_icmp .ne 10, 3) := by decide +kernel
theorem dX5_tellsMood_38 : decode cX5_tellsMood 38 = .ok (.aload_n 0, 1) := by decide +kernel
theorem dX5_tellsMood_39 : decode cX5_tellsMood 39 = .ok (.iconst 3, 1) := by decide +kernel
theorem dX5_tellsMood_40 : decode cX5_tellsMood 40 = .ok (.iload_n 2, 1) := by decide +kernel
theorem dX5_tellsMood_41 : decode cX5_tellsMood 41 = .ok (.invokevirtual 122, 3) := by decide +kernel
theorem dX5_tellsMood_44 : decode cX5_tellsMood 44 = .ok (.ireturn, 1) := by decide +kernel
theorem dX5_tellsMood_45 : decode cX5_tellsMood 45 = .ok (.aload_n 0, 1) := by decide +kernel
theorem dX5_tellsMood_46 : decode cX5_tellsMood 46 = .ok (.getfield 7, 3) := by decide +kernel
theorem dX5_tellsMood_49 : decode cX5_tellsMood 49 = .ok (.bipush 7, 2) := by decide +kernel
theorem dX5_tellsMood_51 : decode cX5_tellsMood 51 = .ok (.iload_n 1, 1) := by decide +kernel
theorem dX5_tellsMood_52 : decode cX5_tellsMood 52 = .ok (.iadd, 1) := by decide +kernel
theorem dX5_tellsMood_53 : decode cX5_tellsMood 53 = .ok (.iload_n 2, 1) := by decide +kernel
theorem dX5_tellsMood_54 : decode cX5_tellsMood 54 = .ok (.iastore, 1) := by decide +kernel
theorem dX5_tellsMood_55 : decode cX5_tellsMood 55 = .ok (.aload_n 0, 1) := by decide +kernel
theorem dX5_tellsMood_56 : decode cX5_tellsMood 56 = .ok (.iload_n 3, 1) := by decide +kernel
theorem dX5_tellsMood_57 : decode cX5_tellsMood 57 = .ok (.invokevirtual 125, 3) := by decide +kernel
theorem dX5_tellsMood_60 : decode cX5_tellsMood 60 = .ok (.ireturn, 1) := by decide +kernel
theorem h9_X5_tellsMood : yX5_tellsMood.cls ≠ "java/lang/invoke/MethodHandle" ∧ yX5_tellsMood.cls ≠ "java/lang/invoke/VarHandle" ∧ (parseMethodDescriptor yX5_tellsMood.desc).map (fun d => d.parameters.length) = some 2 := by decide +kernel
noncomputable def F_X5_tellsMood (a0 : Nat) (x1 : Int32) (x2 : Int32) (w : FW) : Option (Int32 × FW) :=
  (F_X5_in x1 0 2 w).bind (fun r1 => (if r1 = 0 then some ((-1), w) else (F_X5_in x2 0 4 w).bind (fun r5 => (if r5 = 0 then some ((-2), w) else fg (w.1 a0 = 6) inferInstance (fg (w.1 (gR w 501 a0 0) = 11) inferInstance (fg (¬ ((7 + x1) < 0 ∨ w.2.1 (gR w 501 a0 0) ≤ Int32.toNatClampNeg (7 + x1))) inferInstance ((if (gI w 601 (gR w 501 a0 0) (Int32.toNatClampNeg (7 + x1))) = x2 then (F_X5_refused a0 3 x2 w).bind (fun r16 => some (r16.1, r16.2)) else (F_X5_done a0 (gI w 601 (gR w 501 a0 0) (Int32.toNatClampNeg (7 + x1))) (sI w 601 (gR w 501 a0 0) (Int32.toNatClampNeg (7 + x1)) x2)).bind (fun r13 => some (r13.1, r13.2))))))))))
set_option maxHeartbeats 4000000 in
set_option maxRecDepth 100000 in
theorem c_X5_tellsMood (l : Launch) (D : va_G) (cy : Nat → ClassId) (a0 : Nat) (x1 : Int32) (x2 : Int32) (w : FW) (r : Int32 × FW) (hF : F_X5_tellsMood a0 x1 x2 w = some r) : fSpec l D cy yX5_tellsMood cX5_tellsMood 4 (some .int) { frames := 1, cells := 0, slots := 0, locals := 22 } [.ref a0, .int x1, .int x2] w r.2 (some (.int r.1)) := by
  refine f_begin (by decide +kernel) (Nat.le_of_ble_eq_true rfl) (fun X hC hEn => ?_)
  unfold F_X5_tellsMood at hF
  show fAt X 0 0 4 w [(0, .ref a0), (1, .int x1), (2, .int x2)] [] 0
  refine f_iload_n hC dX5_tellsMood_0 rfl 1 rfl ?_
  refine f_iconst (v := 0) hC dX5_tellsMood_1 (by decide) ?_
  refine f_iconst (v := 2) hC dX5_tellsMood_2 (by decide) ?_
  obtain ⟨r1, h2, hF⟩ := fb_open hF
  refine f_callS hC [.int x1, .int 0, .int 2] (c_X5_in l D cy x1 0 2 w r1 h2) q_1352 q_136 q_1350 q_1351 h9_X5_in ⟨Nat.le_of_ble_eq_true rfl, Nat.le_of_ble_eq_true rfl⟩ ⟨Nat.le_of_ble_eq_true rfl, Nat.le_of_ble_eq_true rfl⟩ (Nat.le_of_ble_eq_true rfl) rfl dX5_tellsMood_3 (fun e3 => ?_)
  refine f_if_ne hC 11 dX5_tellsMood_6 (by decide) (fun c4 => ?_) (fun c4 => ?_)
  · replace hF := fi_neg hF c4
    refine f_iload_n hC dX5_tellsMood_11 rfl 2 rfl ?_
    refine f_iconst (v := 0) hC dX5_tellsMood_12 (by decide) ?_
    refine f_iconst (v := 4) hC dX5_tellsMood_13 (by decide) ?_
    obtain ⟨r5, h6, hF⟩ := fb_open hF
    refine f_callS hC [.int x2, .int 0, .int 4] (c_X5_in l D cy x2 0 4 w r5 h6) q_1352 q_136 q_1350 q_1351 h9_X5_in ⟨Nat.le_of_ble_eq_true rfl, Nat.le_of_ble_eq_true rfl⟩ ⟨Nat.le_of_ble_eq_true rfl, Nat.le_of_ble_eq_true rfl⟩ (Nat.le_of_ble_eq_true rfl) rfl dX5_tellsMood_14 (fun e7 => ?_)
    refine f_if_ne hC 23 dX5_tellsMood_17 (by decide) (fun c8 => ?_) (fun c8 => ?_)
    · replace hF := fi_neg hF c8
      refine f_aload_n hC dX5_tellsMood_23 rfl 0 rfl ?_
      obtain ⟨g9, hF⟩ := fg_open hF
      refine f_getR hC 5 1 501 rfl (by decide) iX5 q_1255 rfl rfl (fSm.k (fSm.rf w) g9) dX5_tellsMood_24 ?_
      refine f_bipush (v := 7) hC dX5_tellsMood_27 (by decide) ?_
      refine f_iload_n hC dX5_tellsMood_29 rfl 1 rfl ?_
      refine f_iadd hC dX5_tellsMood_30 ?_
      obtain ⟨g10, hF⟩ := fg_open hF
      obtain ⟨g11, hF⟩ := fg_open hF
      refine f_iald hC (fSm.k (fSm.rf w) g10) (fSm.v (fSm.rf w) g11) dX5_tellsMood_31 ?_
      refine f_istore_n (L' := [(3, .int (gI w 601 (gR w 501 a0 0) (Int32.toNatClampNeg (7 + x1)))), (0, .ref a0), (1, .int x1), (2, .int x2)]) hC dX5_tellsMood_32 rfl (by decide) rfl ?_
      refine f_iload_n hC dX5_tellsMood_33 rfl 0 rfl ?_
      refine f_iload_n hC dX5_tellsMood_34 rfl 3 rfl ?_
      refine f_icmp_ne hC 45 dX5_tellsMood_35 (by decide) (fun c12 => ?_) (fun c12 => ?_)
      · replace hF := fi_neg hF c12
        refine f_aload_n hC dX5_tellsMood_45 rfl 1 rfl ?_
        refine f_getR hC 5 1 501 rfl (by decide) iX5 q_1255 rfl rfl (fSm.k (fSm.rf w) g9) dX5_tellsMood_46 ?_
        refine f_bipush (v := 7) hC dX5_tellsMood_49 (by decide) ?_
        refine f_iload_n hC dX5_tellsMood_51 rfl 2 rfl ?_
        refine f_iadd hC dX5_tellsMood_52 ?_
        refine f_iload_n hC dX5_tellsMood_53 rfl 3 rfl ?_
        refine f_iast hC (fSm.k (fSm.rf w) g10) (fSm.v (fSm.rf w) g11) dX5_tellsMood_54 ?_
        refine f_aload_n hC dX5_tellsMood_55 rfl 1 rfl ?_
        refine f_iload_n hC dX5_tellsMood_56 rfl 0 rfl ?_
        obtain ⟨r13, h14, hF⟩ := fb_open hF
        refine f_callV hC [.int (gI w 601 (gR w 501 a0 0) (Int32.toNatClampNeg (7 + x1)))] (c_X5_done l D cy a0 (gI w 601 (gR w 501 a0 0) (Int32.toNatClampNeg (7 + x1))) (sI w 601 (gR w 501 a0 0) (Int32.toNatClampNeg (7 + x1)) x2) r13 h14) q_1363 q_136 q_1360 q_1362 q_75 h9_X5_done rfl (fSm.k (fSm.rf w) g9) ⟨Nat.le_of_ble_eq_true rfl, Nat.le_of_ble_eq_true rfl⟩ ⟨Nat.le_of_ble_eq_true rfl, Nat.le_of_ble_eq_true rfl⟩ (Nat.le_of_ble_eq_true rfl) rfl dX5_tellsMood_57 (fun e15 => ?_)
        obtain rfl := Option.some.inj hF
        exact f_iret hC hEn (fSm.tr e15 (fSm.rf w)) dX5_tellsMood_60
      · replace hF := fi_pos hF c12
        refine f_aload_n hC dX5_tellsMood_38 rfl 1 rfl ?_
        refine f_iconst (v := 3) hC dX5_tellsMood_39 (by decide) ?_
        refine f_iload_n hC dX5_tellsMood_40 rfl 3 rfl ?_
        obtain ⟨r16, h17, hF⟩ := fb_open hF
        refine f_callV hC [.int 3, .int x2] (c_X5_refused l D cy a0 3 x2 w r16 h17) q_1359 q_136 q_1356 q_1358 q_74 h9_X5_refused rfl (fSm.k (fSm.rf w) g9) ⟨Nat.le_of_ble_eq_true rfl, Nat.le_of_ble_eq_true rfl⟩ ⟨Nat.le_of_ble_eq_true rfl, Nat.le_of_ble_eq_true rfl⟩ (Nat.le_of_ble_eq_true rfl) rfl dX5_tellsMood_41 (fun e18 => ?_)
        obtain rfl := Option.some.inj hF
        exact f_iret hC hEn (fSm.tr e18 (fSm.rf w)) dX5_tellsMood_44
    · replace hF := fi_pos hF c8
      refine f_bipush (v := (-2)) hC dX5_tellsMood_20 (by decide) ?_
      obtain rfl := Option.some.inj hF
      exact f_iret hC hEn (fSm.rf w) dX5_tellsMood_22
  · replace hF := fi_pos hF c4
    refine f_iconst (v := (-1)) hC dX5_tellsMood_9 (by decide) ?_
    obtain rfl := Option.some.inj hF
    exact f_iret hC hEn (fSm.rf w) dX5_tellsMood_10
theorem dX5_isClosed_0 : decode cX5_isClosed 0 = .ok (.aload_n 0, 1) := by decide +kernel
theorem dX5_isClosed_1 : decode cX5_isClosed 1 = .ok (.getfield 7, 3) := by decide +kernel
theorem dX5_isClosed_4 : decode cX5_isClosed 4 = .ok (.bipush 6, 2) := by decide +kernel
theorem dX5_isClosed_6 : decode cX5_isClosed 6 = .ok (.iaload, 1) := by decide +kernel
theorem dX5_isClosed_7 : decode cX5_isClosed 7 = .ok (.iload_n 1, 1) := by decide +kernel
theorem dX5_isClosed_8 : decode cX5_isClosed 8 = .ok (.ishr, 1) := by decide +kernel
theorem dX5_isClosed_9 : decode cX5_isClosed 9 = .ok (.iconst 1, 1) := by decide +kernel
theorem dX5_isClosed_10 : decode cX5_isClosed 10 = .ok (.iand, 1) := by decide +kernel
theorem dX5_isClosed_11 : decode cX5_isClosed 11 = .ok (.iconst 1, 1) := by decide +kernel
theorem dX5_isClosed_12 : decode cX5_isClosed 12 = .ok (.if_icmp .ne 7, 3) := by decide +kernel
theorem dX5_isClosed_15 : decode cX5_isClosed 15 = .ok (.iconst 1, 1) := by decide +kernel
theorem dX5_isClosed_16 : decode cX5_isClosed 16 = .ok (.goto 4, 3) := by decide +kernel
theorem dX5_isClosed_19 : decode cX5_isClosed 19 = .ok (.iconst 0, 1) := by decide +kernel
theorem dX5_isClosed_20 : decode cX5_isClosed 20 = .ok (.ireturn, 1) := by decide +kernel
theorem h9_X5_isClosed : yX5_isClosed.cls ≠ "java/lang/invoke/MethodHandle" ∧ yX5_isClosed.cls ≠ "java/lang/invoke/VarHandle" ∧ (parseMethodDescriptor yX5_isClosed.desc).map (fun d => d.parameters.length) = some 1 := by decide +kernel
noncomputable def F_X5_isClosed (a0 : Nat) (x1 : Int32) (w : FW) : Option (Int32) :=
  fg (w.1 a0 = 6) inferInstance (fg (w.1 (gR w 501 a0 0) = 11) inferInstance (fg (¬ (6 < 0 ∨ w.2.1 (gR w 501 a0 0) ≤ Int32.toNatClampNeg 6)) inferInstance ((if (((gI w 601 (gR w 501 a0 0) (Int32.toNatClampNeg 6)) >>> (x1 &&& 31)) &&& 1) = 1 then some 1 else some 0))))
set_option maxHeartbeats 4000000 in
set_option maxRecDepth 100000 in
theorem c_X5_isClosed (l : Launch) (D : va_G) (cy : Nat → ClassId) (a0 : Nat) (x1 : Int32) (w : FW) (r : Int32) (hF : F_X5_isClosed a0 x1 w = some r) : fSpec l D cy yX5_isClosed cX5_isClosed 2 (some .boolean) { frames := 0, cells := 0, slots := 0, locals := 0 } [.ref a0, .int x1] w w (some (.int r)) := by
  refine f_begin (by decide +kernel) (Nat.le_of_ble_eq_true rfl) (fun X hC hEn => ?_)
  unfold F_X5_isClosed at hF
  show fAt X 0 0 2 w [(0, .ref a0), (1, .int x1)] [] 0
  refine f_aload_n hC dX5_isClosed_0 rfl 0 rfl ?_
  obtain ⟨g1, hF⟩ := fg_open hF
  refine f_getR hC 5 1 501 rfl (by decide) iX5 q_1255 rfl rfl (fSm.k (fSm.rf w) g1) dX5_isClosed_1 ?_
  refine f_bipush (v := 6) hC dX5_isClosed_4 (by decide) ?_
  obtain ⟨g2, hF⟩ := fg_open hF
  obtain ⟨g3, hF⟩ := fg_open hF
  refine f_iald hC (fSm.k (fSm.rf w) g2) (fSm.v (fSm.rf w) g3) dX5_isClosed_6 ?_
  refine f_iload_n hC dX5_isClosed_7 rfl 1 rfl ?_
  refine f_ishr hC dX5_isClosed_8 ?_
  refine f_iconst (v := 1) hC dX5_isClosed_9 (by decide) ?_
  refine f_iand hC dX5_isClosed_10 ?_
  refine f_iconst (v := 1) hC dX5_isClosed_11 (by decide) ?_
  refine f_icmp_ne hC 19 dX5_isClosed_12 (by decide) (fun c4 => ?_) (fun c4 => ?_)
  · replace hF := fi_neg hF c4
    refine f_iconst (v := 0) hC dX5_isClosed_19 (by decide) ?_
    obtain rfl := Option.some.inj hF
    exact f_zret hC hEn (fSm.rf w) (nar_z (by decide)) dX5_isClosed_20
  · replace hF := fi_pos hF c4
    refine f_iconst (v := 1) hC dX5_isClosed_15 (by decide) ?_
    refine f_goto hC 20 dX5_isClosed_16 (by decide) ?_
    obtain rfl := Option.some.inj hF
    exact f_zret hC hEn (fSm.rf w) (nar_z (by decide)) dX5_isClosed_20
theorem dX5_openMany_0 : decode cX5_openMany 0 = .ok (.iconst 0, 1) := by decide +kernel
theorem dX5_openMany_1 : decode cX5_openMany 1 = .ok (.istore_n 1, 1) := by decide +kernel
theorem dX5_openMany_2 : decode cX5_openMany 2 = .ok (.iconst 0, 1) := by decide +kernel
theorem dX5_openMany_3 : decode cX5_openMany 3 = .ok (.istore_n 2, 1) := by decide +kernel
theorem dX5_openMany_4 : decode cX5_openMany 4 = .ok (.iload_n 2, 1) := by decide +kernel
theorem dX5_openMany_5 : decode cX5_openMany 5 = .ok (.iconst 5, 1) := by decide +kernel
theorem dX5_openMany_6 : decode cX5_openMany 6 = .ok (.if_icmp .ge 25, 3) := by decide +kernel
theorem dX5_openMany_9 : decode cX5_openMany 9 = .ok (.iload_n 1, 1) := by decide +kernel
theorem dX5_openMany_10 : decode cX5_openMany 10 = .ok (.aload_n 0, 1) := by decide +kernel
theorem dX5_openMany_11 : decode cX5_openMany 11 = .ok (.iload_n 2, 1) := by decide +kernel
theorem dX5_openMany_12 : decode cX5_openMany 12 = .ok (.invokevirtual 138, 3) := by decide +kernel
theorem dX5_openMany_15 : decode cX5_openMany 15 = .ok (.ifCond .eq 7, 3) := by decide +kernel
theorem dX5_openMany_18 : decode cX5_openMany 18 = .ok (.iconst 0, 1) := by decide +kernel
theorem dX5_openMany_19 : decode cX5_openMany 19 = .ok (.goto 4, 3) := by decide +kernel
theorem dX5_openMany_22 : decode cX5_openMany 22 = .ok (.iconst 1, 1) := by decide +kernel
theorem dX5_openMany_23 : decode cX5_openMany 23 = .ok (.iadd, 1) := by decide +kernel
theorem dX5_openMany_24 : decode cX5_openMany 24 = .ok (.istore_n 1, 1) := by decide +kernel
theorem dX5_openMany_25 : decode cX5_openMany 25 = .ok (.iinc 2 1, 3) := by decide +kernel
theorem dX5_openMany_28 : decode cX5_openMany 28 = .ok (.goto (-24), 3) := by decide +kernel
theorem dX5_openMany_31 : decode cX5_openMany 31 = .ok (.iload_n 1, 1) := by decide +kernel
theorem dX5_openMany_32 : decode cX5_openMany 32 = .ok (.ireturn, 1) := by decide +kernel
theorem h9_X5_openMany : yX5_openMany.cls ≠ "java/lang/invoke/MethodHandle" ∧ yX5_openMany.cls ≠ "java/lang/invoke/VarHandle" ∧ (parseMethodDescriptor yX5_openMany.desc).map (fun d => d.parameters.length) = some 0 := by decide +kernel
noncomputable def F_X5_openMany (a0 : Nat) (w : FW) : Option (Int32) :=
  (fLoop (σ := Int32 × Int32) (ρ := Int32) (fun s1 => (if 5 ≤ s1.2 then some (.inr s1.1) else fg (w.1 a0 = 6) inferInstance ((F_X5_isClosed a0 s1.2 w).bind (fun r11 => (if r11 = 0 then some (.inl ((s1.1 + 1), (s1.2 + 1))) else some (.inl ((s1.1 + 0), (s1.2 + 1)))))))) (0, 0)).bind (fun x7 => some x7)
set_option maxHeartbeats 4000000 in
set_option maxRecDepth 100000 in
theorem c_X5_openMany (l : Launch) (D : va_G) (cy : Nat → ClassId) (a0 : Nat) (w : FW) (r : Int32) (hF : F_X5_openMany a0 w = some r) : fSpec l D cy yX5_openMany cX5_openMany 3 (some .int) { frames := 1, cells := 0, slots := 0, locals := 21 } [.ref a0] w w (some (.int r)) := by
  refine f_begin (by decide +kernel) (Nat.le_of_ble_eq_true rfl) (fun X hC hEn => ?_)
  unfold F_X5_openMany at hF
  show fAt X 0 0 3 w [(0, .ref a0)] [] 0
  refine f_iconst (v := 0) hC dX5_openMany_0 (by decide) ?_
  refine f_istore_n (L' := [(1, .int 0), (0, .ref a0)]) hC dX5_openMany_1 rfl (by decide) rfl ?_
  refine f_iconst (v := 0) hC dX5_openMany_2 (by decide) ?_
  refine f_istore_n (L' := [(2, .int 0), (1, .int 0), (0, .ref a0)]) hC dX5_openMany_3 rfl (by decide) rfl ?_
  obtain ⟨x7, h8, hF⟩ := fb_open hF
  have K9 : fAt X 0 0 3 w [(1, .int x7)] [] 31 := by
    refine f_iload_n hC dX5_openMany_31 rfl 0 rfl ?_
    obtain rfl := Option.some.inj hF
    exact f_iret hC hEn (fSm.rf w) dX5_openMany_32
  refine f_sub (L' := [(0, .ref a0), (1, .int 0), (2, .int 0)]) [2, 1, 0] rfl ?_
  refine fLoop_ind (fun (s1 : Int32 × Int32) => fAt X 0 0 3 w [(0, .ref a0), (1, .int s1.1), (2, .int s1.2)] [] 4) (fun s1 y6 h2 go3 ou4 => ?_) h8
  refine f_iload_n hC dX5_openMany_4 rfl 2 rfl ?_
  refine f_iconst (v := 5) hC dX5_openMany_5 (by decide) ?_
  refine f_icmp_ge hC 31 dX5_openMany_6 (by decide) (fun c10 => ?_) (fun c10 => ?_)
  · replace h2 := fi_pos h2 c10
    obtain rfl := Option.some.inj h2
    obtain rfl := ou4 _ rfl
    refine f_sub (L' := [(1, .int s1.1)]) [1] rfl ?_
    exact K9
  · replace h2 := fi_neg h2 c10
    refine f_iload_n hC dX5_openMany_9 rfl 1 rfl ?_
    refine f_aload_n hC dX5_openMany_10 rfl 0 rfl ?_
    refine f_iload_n hC dX5_openMany_11 rfl 2 rfl ?_
    obtain ⟨g13, h2⟩ := fg_open h2
    obtain ⟨r11, h12, h2⟩ := fb_open h2
    refine f_callV hC [.int s1.2] (c_X5_isClosed l D cy a0 s1.2 w r11 h12) q_1435 q_136 q_1432 q_1434 q_88 h9_X5_isClosed rfl (fSm.k (fSm.rf w) g13) ⟨Nat.le_of_ble_eq_true rfl, Nat.le_of_ble_eq_true rfl⟩ ⟨Nat.le_of_ble_eq_true rfl, Nat.le_of_ble_eq_true rfl⟩ (Nat.le_of_ble_eq_true rfl) rfl dX5_openMany_12 (fun e14 => ?_)
    refine f_if_eq hC 22 dX5_openMany_15 (by decide) (fun c15 => ?_) (fun c15 => ?_)
    · replace h2 := fi_pos h2 c15
      refine f_iconst (v := 1) hC dX5_openMany_22 (by decide) ?_
      refine f_iadd hC dX5_openMany_23 ?_
      refine f_istore_n (L' := [(1, .int (s1.1 + 1)), (0, .ref a0), (2, .int s1.2)]) hC dX5_openMany_24 rfl (by decide) rfl ?_
      refine f_iinc (L' := [(2, .int (s1.2 + 1)), (1, .int (s1.1 + 1)), (0, .ref a0)]) hC dX5_openMany_25 2 rfl rfl (by decide) rfl ?_
      refine f_goto hC 4 dX5_openMany_28 (by decide) ?_
      obtain rfl := Option.some.inj h2
      refine f_sub (L' := [(0, .ref a0), (1, .int (s1.1 + 1)), (2, .int (s1.2 + 1))]) [2, 1, 0] rfl ?_
      exact go3 _ rfl
    · replace h2 := fi_neg h2 c15
      refine f_iconst (v := 0) hC dX5_openMany_18 (by decide) ?_
      refine f_goto hC 23 dX5_openMany_19 (by decide) ?_
      refine f_iadd hC dX5_openMany_23 ?_
      refine f_istore_n (L' := [(1, .int (s1.1 + 0)), (0, .ref a0), (2, .int s1.2)]) hC dX5_openMany_24 rfl (by decide) rfl ?_
      refine f_iinc (L' := [(2, .int (s1.2 + 1)), (1, .int (s1.1 + 0)), (0, .ref a0)]) hC dX5_openMany_25 2 rfl rfl (by decide) rfl ?_
      refine f_goto hC 4 dX5_openMany_28 (by decide) ?_
      obtain rfl := Option.some.inj h2
      refine f_sub (L' := [(0, .ref a0), (1, .int (s1.1 + 0)), (2, .int (s1.2 + 1))]) [2, 1, 0] rfl ?_
      exact go3 _ rfl
theorem dX5_turnsPier_0 : decode cX5_turnsPier 0 = .ok (.iload_n 1, 1) := by decide +kernel
theorem dX5_turnsPier_1 : decode cX5_turnsPier 1 = .ok (.iconst 0, 1) := by decide +kernel
theorem dX5_turnsPier_2 : decode cX5_turnsPier 2 = .ok (.iconst 4, 1) := by decide +kernel
theorem dX5_turnsPier_3 : decode cX5_turnsPier 3 = .ok (.invokestatic 66, 3) := by decide +kernel
theorem dX5_turnsPier_6 : decode cX5_turnsPier 6 = .ok (.ifCond .ne 5, 3) := by decide +kernel
theorem dX5_turnsPier_9 : decode cX5_turnsPier 9 = .ok (.iconst (-1), 1) := by decide +kernel
theorem dX5_turnsPier_10 : decode cX5_turnsPier 10 = .ok (.ireturn, 1) := by decide +kernel
theorem dX5_turnsPier_11 : decode cX5_turnsPier 11 = .ok (.aload_n 0, 1) := by decide +kernel
theorem dX5_turnsPier_12 : decode cX5_turnsPier 12 = .ok (.iload_n 1, 1) := by decide +kernel
theorem dX5_turnsPier_13 : decode cX5_turnsPier 13 = .ok (.invokevirtual 138, 3) := by decide +kernel
theorem dX5_turnsPier_16 : decode cX5_turnsPier 16 = .ok (.iload_n 2, 1) := by decide +kernel
theorem dX5_turnsPier_17 : decode cX5_turnsPier 17 = .ok (.if_icmp .eq 18, 3) := by decide +kernel
theorem dX5_turnsPier_20 : decode cX5_turnsPier 20 = .ok (.aload_n 0, 1) := by decide +kernel
theorem dX5_turnsPier_21 : decode cX5_turnsPier 21 = .ok (.iconst 3, 1) := by decide +kernel
theorem dX5_turnsPier_22 : decode cX5_turnsPier 22 = .ok (.iload_n 2, 1) := by decide +kernel
theorem dX5_turnsPier_23 : decode cX5_turnsPier 23 = .ok (.ifCond .eq 7, 3) := by decide +kernel
theorem dX5_turnsPier_26 : decode cX5_turnsPier 26 = .ok (.iconst 1, 1) := by decide +kernel
theorem dX5_turnsPier_27 : decode cX5_turnsPier 27 = .ok (.goto 4, 3) := by decide +kernel
theorem dX5_turnsPier_30 : decode cX5_turnsPier 30 = .ok (.iconst 0, 1) := by decide +kernel
theorem dX5_turnsPier_31 : decode cX5_turnsPier 31 = .ok (.invokevirtual 122, 3) := by decide +kernel
theorem dX5_turnsPier_34 : decode cX5_turnsPier 34 = .ok (.ireturn, 1) := by decide +kernel
theorem dX5_turnsPier_35 : decode cX5_turnsPier 35 = .ok (.aload_n 0, 1) := by decide +kernel
theorem dX5_turnsPier_36 : decode cX5_turnsPier 36 = .ok (.getfield 7, 3) := by decide +kernel
theorem dX5_turnsPier_39 : decode cX5_turnsPier 39 = .ok (.bipush 6, 2) := by decide +kernel
theorem dX5_turnsPier_41 : decode cX5_turnsPier 41 = .ok (.aload_n 0, 1) := by decide +kernel
theorem dX5_turnsPier_42 : decode cX5_turnsPier 42 = .ok (.getfield 7, 3) := by decide +kernel
theorem dX5_turnsPier_45 : decode cX5_turnsPier 45 = .ok (.bipush 6, 2) := by decide +kernel
theorem dX5_turnsPier_47 : decode cX5_turnsPier 47 = .ok (.iaload, 1) := by decide +kernel
theorem dX5_turnsPier_48 : decode cX5_turnsPier 48 = .ok (.iconst 1, 1) := by decide +kernel
theorem dX5_turnsPier_49 : decode cX5_turnsPier 49 = .ok (.iload_n 1, 1) := by decide +kernel
theorem dX5_turnsPier_50 : decode cX5_turnsPier 50 = .ok (.ishl, 1) := by decide +kernel
theorem dX5_turnsPier_51 : decode cX5_turnsPier 51 = .ok (.ixor, 1) := by decide +kernel
theorem dX5_turnsPier_52 : decode cX5_turnsPier 52 = .ok (.iastore, 1) := by decide +kernel
theorem dX5_turnsPier_53 : decode cX5_turnsPier 53 = .ok (.aload_n 0, 1) := by decide +kernel
theorem dX5_turnsPier_54 : decode cX5_turnsPier 54 = .ok (.aload_n 0, 1) := by decide +kernel
theorem dX5_turnsPier_55 : decode cX5_turnsPier 55 = .ok (.invokevirtual 141, 3) := by decide +kernel
theorem dX5_turnsPier_58 : decode cX5_turnsPier 58 = .ok (.invokevirtual 125, 3) := by decide +kernel
theorem dX5_turnsPier_61 : decode cX5_turnsPier 61 = .ok (.ireturn, 1) := by decide +kernel
theorem h9_X5_turnsPier : yX5_turnsPier.cls ≠ "java/lang/invoke/MethodHandle" ∧ yX5_turnsPier.cls ≠ "java/lang/invoke/VarHandle" ∧ (parseMethodDescriptor yX5_turnsPier.desc).map (fun d => d.parameters.length) = some 2 := by decide +kernel
noncomputable def F_X5_turnsPier (a0 : Nat) (x1 : Int32) (x2 : Int32) (w : FW) : Option (Int32 × FW) :=
  (F_X5_in x1 0 4 w).bind (fun r1 => (if r1 = 0 then some ((-1), w) else fg (w.1 a0 = 6) inferInstance ((F_X5_isClosed a0 x1 w).bind (fun r5 => (if r5 = x2 then fg (w.1 (gR w 501 a0 0) = 11) inferInstance (fg (¬ (6 < 0 ∨ w.2.1 (gR w 501 a0 0) ≤ Int32.toNatClampNeg 6)) inferInstance ((F_X5_openMany a0 (sI w 601 (gR w 501 a0 0) (Int32.toNatClampNeg 6) ((gI w 601 (gR w 501 a0 0) (Int32.toNatClampNeg 6)) ^^^ (1 <<< (x1 &&& 31))))).bind (fun r12 => (F_X5_done a0 r12 (sI w 601 (gR w 501 a0 0) (Int32.toNatClampNeg 6) ((gI w 601 (gR w 501 a0 0) (Int32.toNatClampNeg 6)) ^^^ (1 <<< (x1 &&& 31))))).bind (fun r15 => some (r15.1, r15.2))))) else ((if x2 = 0 then some 0 else some 1) : Option (Int32)).bind (fun x18 => (F_X5_refused a0 3 x18 w).bind (fun r22 => some (r22.1, r22.2))))))))
set_option maxHeartbeats 4000000 in
set_option maxRecDepth 100000 in
theorem c_X5_turnsPier (l : Launch) (D : va_G) (cy : Nat → ClassId) (a0 : Nat) (x1 : Int32) (x2 : Int32) (w : FW) (r : Int32 × FW) (hF : F_X5_turnsPier a0 x1 x2 w = some r) : fSpec l D cy yX5_turnsPier cX5_turnsPier 3 (some .int) { frames := 2, cells := 0, slots := 0, locals := 43 } [.ref a0, .int x1, .int x2] w r.2 (some (.int r.1)) := by
  refine f_begin (by decide +kernel) (Nat.le_of_ble_eq_true rfl) (fun X hC hEn => ?_)
  unfold F_X5_turnsPier at hF
  show fAt X 0 0 3 w [(0, .ref a0), (1, .int x1), (2, .int x2)] [] 0
  refine f_iload_n hC dX5_turnsPier_0 rfl 1 rfl ?_
  refine f_iconst (v := 0) hC dX5_turnsPier_1 (by decide) ?_
  refine f_iconst (v := 4) hC dX5_turnsPier_2 (by decide) ?_
  obtain ⟨r1, h2, hF⟩ := fb_open hF
  refine f_callS hC [.int x1, .int 0, .int 4] (c_X5_in l D cy x1 0 4 w r1 h2) q_1352 q_136 q_1350 q_1351 h9_X5_in ⟨Nat.le_of_ble_eq_true rfl, Nat.le_of_ble_eq_true rfl⟩ ⟨Nat.le_of_ble_eq_true rfl, Nat.le_of_ble_eq_true rfl⟩ (Nat.le_of_ble_eq_true rfl) rfl dX5_turnsPier_3 (fun e3 => ?_)
  refine f_if_ne hC 11 dX5_turnsPier_6 (by decide) (fun c4 => ?_) (fun c4 => ?_)
  · replace hF := fi_neg hF c4
    refine f_aload_n hC dX5_turnsPier_11 rfl 0 rfl ?_
    refine f_iload_n hC dX5_turnsPier_12 rfl 1 rfl ?_
    obtain ⟨g7, hF⟩ := fg_open hF
    obtain ⟨r5, h6, hF⟩ := fb_open hF
    refine f_callV hC [.int x1] (c_X5_isClosed l D cy a0 x1 w r5 h6) q_1435 q_136 q_1432 q_1434 q_88 h9_X5_isClosed rfl (fSm.k (fSm.rf w) g7) ⟨Nat.le_of_ble_eq_true rfl, Nat.le_of_ble_eq_true rfl⟩ ⟨Nat.le_of_ble_eq_true rfl, Nat.le_of_ble_eq_true rfl⟩ (Nat.le_of_ble_eq_true rfl) rfl dX5_turnsPier_13 (fun e8 => ?_)
    refine f_iload_n hC dX5_turnsPier_16 rfl 2 rfl ?_
    refine f_icmp_eq hC 35 dX5_turnsPier_17 (by decide) (fun c9 => ?_) (fun c9 => ?_)
    · replace hF := fi_pos hF c9
      refine f_aload_n hC dX5_turnsPier_35 rfl 0 rfl ?_
      refine f_getR hC 5 1 501 rfl (by decide) iX5 q_1255 rfl rfl (fSm.k (fSm.rf w) g7) dX5_turnsPier_36 ?_
      refine f_bipush (v := 6) hC dX5_turnsPier_39 (by decide) ?_
      refine f_aload_n hC dX5_turnsPier_41 rfl 0 rfl ?_
      refine f_getR hC 5 1 501 rfl (by decide) iX5 q_1255 rfl rfl (fSm.k (fSm.rf w) g7) dX5_turnsPier_42 ?_
      refine f_bipush (v := 6) hC dX5_turnsPier_45 (by decide) ?_
      obtain ⟨g10, hF⟩ := fg_open hF
      obtain ⟨g11, hF⟩ := fg_open hF
      refine f_iald hC (fSm.k (fSm.rf w) g10) (fSm.v (fSm.rf w) g11) dX5_turnsPier_47 ?_
      refine f_iconst (v := 1) hC dX5_turnsPier_48 (by decide) ?_
      refine f_iload_n hC dX5_turnsPier_49 rfl 1 rfl ?_
      refine f_ishl hC dX5_turnsPier_50 ?_
      refine f_ixor hC dX5_turnsPier_51 ?_
      refine f_iast hC (fSm.k (fSm.rf w) g10) (fSm.v (fSm.rf w) g11) dX5_turnsPier_52 ?_
      refine f_aload_n hC dX5_turnsPier_53 rfl 0 rfl ?_
      refine f_aload_n hC dX5_turnsPier_54 rfl 0 rfl ?_
      obtain ⟨r12, h13, hF⟩ := fb_open hF
      refine f_callV hC [] (c_X5_openMany l D cy a0 (sI w 601 (gR w 501 a0 0) (Int32.toNatClampNeg 6) ((gI w 601 (gR w 501 a0 0) (Int32.toNatClampNeg 6)) ^^^ (1 <<< (x1 &&& 31)))) r12 h13) q_1439 q_136 q_1436 q_1438 q_89 h9_X5_openMany rfl (fSm.k (fSm.rf w) g7) ⟨Nat.le_of_ble_eq_true rfl, Nat.le_of_ble_eq_true rfl⟩ ⟨Nat.le_of_ble_eq_true rfl, Nat.le_of_ble_eq_true rfl⟩ (Nat.le_of_ble_eq_true rfl) rfl dX5_turnsPier_55 (fun e14 => ?_)
      obtain ⟨r15, h16, hF⟩ := fb_open hF
      refine f_callV hC [.int r12] (c_X5_done l D cy a0 r12 (sI w 601 (gR w 501 a0 0) (Int32.toNatClampNeg 6) ((gI w 601 (gR w 501 a0 0) (Int32.toNatClampNeg 6)) ^^^ (1 <<< (x1 &&& 31)))) r15 h16) q_1363 q_136 q_1360 q_1362 q_75 h9_X5_done rfl (fSm.k (fSm.rf w) g7) ⟨Nat.le_of_ble_eq_true rfl, Nat.le_of_ble_eq_true rfl⟩ ⟨Nat.le_of_ble_eq_true rfl, Nat.le_of_ble_eq_true rfl⟩ (Nat.le_of_ble_eq_true rfl) rfl dX5_turnsPier_58 (fun e17 => ?_)
      obtain rfl := Option.some.inj hF
      exact f_iret hC hEn (fSm.tr e17 (fSm.rf w)) dX5_turnsPier_61
    · replace hF := fi_neg hF c9
      refine f_aload_n hC dX5_turnsPier_20 rfl 0 rfl ?_
      refine f_iconst (v := 3) hC dX5_turnsPier_21 (by decide) ?_
      refine f_iload_n hC dX5_turnsPier_22 rfl 2 rfl ?_
      obtain ⟨x18, h19, hF⟩ := fb_open hF
      have K21 : fAt X 0 0 3 w [] [.int x18, .int 3, .ref a0] 31 := by
        obtain ⟨r22, h23, hF⟩ := fb_open hF
        refine f_callV hC [.int 3, .int x18] (c_X5_refused l D cy a0 3 x18 w r22 h23) q_1359 q_136 q_1356 q_1358 q_74 h9_X5_refused rfl (fSm.k (fSm.rf w) g7) ⟨Nat.le_of_ble_eq_true rfl, Nat.le_of_ble_eq_true rfl⟩ ⟨Nat.le_of_ble_eq_true rfl, Nat.le_of_ble_eq_true rfl⟩ (Nat.le_of_ble_eq_true rfl) rfl dX5_turnsPier_31 (fun e24 => ?_)
        obtain rfl := Option.some.inj hF
        exact f_iret hC hEn (fSm.tr e24 (fSm.rf w)) dX5_turnsPier_34
      refine f_if_eq hC 30 dX5_turnsPier_23 (by decide) (fun c25 => ?_) (fun c25 => ?_)
      · replace h19 := fi_pos h19 c25
        refine f_iconst (v := 0) hC dX5_turnsPier_30 (by decide) ?_
        obtain rfl := Option.some.inj h19
        refine f_sub (L' := []) [] rfl ?_
        exact K21
      · replace h19 := fi_neg h19 c25
        refine f_iconst (v := 1) hC dX5_turnsPier_26 (by decide) ?_
        refine f_goto hC 31 dX5_turnsPier_27 (by decide) ?_
        obtain rfl := Option.some.inj h19
        refine f_sub (L' := []) [] rfl ?_
        exact K21
  · replace hF := fi_pos hF c4
    refine f_iconst (v := (-1)) hC dX5_turnsPier_9 (by decide) ?_
    obtain rfl := Option.some.inj hF
    exact f_iret hC hEn (fSm.rf w) dX5_turnsPier_10
