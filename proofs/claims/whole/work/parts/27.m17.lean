theorem dX5_read_0 : decode cX5_read 0 = .ok (.aload_n 0, 1) := by decide +kernel
theorem dX5_read_1 : decode cX5_read 1 = .ok (.invokevirtual 166, 3) := by decide +kernel
theorem dX5_read_4 : decode cX5_read 4 = .ok (.aload_n 0, 1) := by decide +kernel
theorem dX5_read_5 : decode cX5_read 5 = .ok (.iconst 0, 1) := by decide +kernel
theorem dX5_read_6 : decode cX5_read 6 = .ok (.putfield 251, 3) := by decide +kernel
theorem dX5_read_9 : decode cX5_read 9 = .ok (.aload_n 0, 1) := by decide +kernel
theorem dX5_read_10 : decode cX5_read 10 = .ok (.aload_n 0, 1) := by decide +kernel
theorem dX5_read_11 : decode cX5_read 11 = .ok (.getfield 248, 3) := by decide +kernel
theorem dX5_read_14 : decode cX5_read 14 = .ok (.putfield 254, 3) := by decide +kernel
theorem dX5_read_17 : decode cX5_read 17 = .ok (.aload_n 0, 1) := by decide +kernel
theorem dX5_read_18 : decode cX5_read 18 = .ok (.iconst 0, 1) := by decide +kernel
theorem dX5_read_19 : decode cX5_read 19 = .ok (.putfield 248, 3) := by decide +kernel
theorem dX5_read_22 : decode cX5_read 22 = .ok (.aload_n 0, 1) := by decide +kernel
theorem dX5_read_23 : decode cX5_read 23 = .ok (.iconst 0, 1) := by decide +kernel
theorem dX5_read_24 : decode cX5_read 24 = .ok (.putfield 264, 3) := by decide +kernel
theorem dX5_read_27 : decode cX5_read 27 = .ok (.aload_n 0, 1) := by decide +kernel
theorem dX5_read_28 : decode cX5_read 28 = .ok (.iconst 0, 1) := by decide +kernel
theorem dX5_read_29 : decode cX5_read 29 = .ok (.putfield 257, 3) := by decide +kernel
theorem dX5_read_32 : decode cX5_read 32 = .ok (.aload_n 0, 1) := by decide +kernel
theorem dX5_read_33 : decode cX5_read 33 = .ok (.invokevirtual 282, 3) := by decide +kernel
theorem dX5_read_36 : decode cX5_read 36 = .ok (.aload_n 0, 1) := by decide +kernel
theorem dX5_read_37 : decode cX5_read 37 = .ok (.getfield 257, 3) := by decide +kernel
theorem dX5_read_40 : decode cX5_read 40 = .ok (.ifCond .ne 29, 3) := by decide +kernel
theorem dX5_read_43 : decode cX5_read 43 = .ok (.aload_n 0, 1) := by decide +kernel
theorem dX5_read_44 : decode cX5_read 44 = .ok (.invokevirtual 261, 3) := by decide +kernel
theorem dX5_read_47 : decode cX5_read 47 = .ok (.bipush 59, 2) := by decide +kernel
theorem dX5_read_49 : decode cX5_read 49 = .ok (.if_icmp .ne 20, 3) := by decide +kernel
theorem dX5_read_52 : decode cX5_read 52 = .ok (.aload_n 0, 1) := by decide +kernel
theorem dX5_read_53 : decode cX5_read 53 = .ok (.dup, 1) := by decide +kernel
theorem dX5_read_54 : decode cX5_read 54 = .ok (.getfield 251, 3) := by decide +kernel
theorem dX5_read_57 : decode cX5_read 57 = .ok (.iconst 1, 1) := by decide +kernel
theorem dX5_read_58 : decode cX5_read 58 = .ok (.iadd, 1) := by decide +kernel
theorem dX5_read_59 : decode cX5_read 59 = .ok (.putfield 251, 3) := by decide +kernel
theorem dX5_read_62 : decode cX5_read 62 = .ok (.aload_n 0, 1) := by decide +kernel
theorem dX5_read_63 : decode cX5_read 63 = .ok (.invokevirtual 282, 3) := by decide +kernel
theorem dX5_read_66 : decode cX5_read 66 = .ok (.goto (-30), 3) := by decide +kernel
theorem dX5_read_69 : decode cX5_read 69 = .ok (.aload_n 0, 1) := by decide +kernel
theorem dX5_read_70 : decode cX5_read 70 = .ok (.getfield 257, 3) := by decide +kernel
theorem dX5_read_73 : decode cX5_read 73 = .ok (.ifCond .ne 14, 3) := by decide +kernel
theorem dX5_read_76 : decode cX5_read 76 = .ok (.aload_n 0, 1) := by decide +kernel
theorem dX5_read_77 : decode cX5_read 77 = .ok (.getfield 251, 3) := by decide +kernel
theorem dX5_read_80 : decode cX5_read 80 = .ok (.aload_n 0, 1) := by decide +kernel
theorem dX5_read_81 : decode cX5_read 81 = .ok (.getfield 254, 3) := by decide +kernel
theorem dX5_read_84 : decode cX5_read 84 = .ok (.if_icmp .ge 17, 3) := by decide +kernel
theorem dX5_read_87 : decode cX5_read 87 = .ok (.aload_n 0, 1) := by decide +kernel
theorem dX5_read_88 : decode cX5_read 88 = .ok (.aload_n 0, 1) := by decide +kernel
theorem dX5_read_89 : decode cX5_read 89 = .ok (.getfield 251, 3) := by decide +kernel
theorem dX5_read_92 : decode cX5_read 92 = .ok (.putfield 34, 3) := by decide +kernel
theorem dX5_read_95 : decode cX5_read 95 = .ok (.aload_n 0, 1) := by decide +kernel
theorem dX5_read_96 : decode cX5_read 96 = .ok (.iconst 1, 1) := by decide +kernel
theorem dX5_read_97 : decode cX5_read 97 = .ok (.invokevirtual 57, 3) := by decide +kernel
theorem dX5_read_100 : decode cX5_read 100 = .ok (.ireturn, 1) := by decide +kernel
theorem dX5_read_101 : decode cX5_read 101 = .ok (.iconst 0, 1) := by decide +kernel
theorem dX5_read_102 : decode cX5_read 102 = .ok (.istore_n 1, 1) := by decide +kernel
theorem dX5_read_103 : decode cX5_read 103 = .ok (.iload_n 1, 1) := by decide +kernel
theorem dX5_read_104 : decode cX5_read 104 = .ok (.aload_n 0, 1) := by decide +kernel
theorem dX5_read_105 : decode cX5_read 105 = .ok (.getfield 264, 3) := by decide +kernel
theorem dX5_read_108 : decode cX5_read 108 = .ok (.if_icmp .ge 77, 3) := by decide +kernel
theorem dX5_read_111 : decode cX5_read 111 = .ok (.aload_n 0, 1) := by decide +kernel
theorem dX5_read_112 : decode cX5_read 112 = .ok (.iload_n 1, 1) := by decide +kernel
theorem dX5_read_113 : decode cX5_read 113 = .ok (.invokevirtual 285, 3) := by decide +kernel
theorem dX5_read_116 : decode cX5_read 116 = .ok (.istore_n 2, 1) := by decide +kernel
theorem dX5_read_117 : decode cX5_read 117 = .ok (.iload_n 2, 1) := by decide +kernel
theorem dX5_read_118 : decode cX5_read 118 = .ok (.ifCond .ne 6, 3) := by decide +kernel
theorem dX5_read_121 : decode cX5_read 121 = .ok (.goto 58, 3) := by decide +kernel
theorem dX5_read_124 : decode cX5_read 124 = .ok (.iconst 0, 1) := by decide +kernel
theorem dX5_read_125 : decode cX5_read 125 = .ok (.istore_n 3, 1) := by decide +kernel
theorem dX5_read_126 : decode cX5_read 126 = .ok (.iload_n 3, 1) := by decide +kernel
theorem dX5_read_127 : decode cX5_read 127 = .ok (.sipush 177, 3) := by decide +kernel
theorem dX5_read_130 : decode cX5_read 130 = .ok (.if_icmp .ge 21, 3) := by decide +kernel
theorem dX5_read_133 : decode cX5_read 133 = .ok (.aload_n 0, 1) := by decide +kernel
theorem dX5_read_134 : decode cX5_read 134 = .ok (.getfield 7, 3) := by decide +kernel
theorem dX5_read_137 : decode cX5_read 137 = .ok (.iload_n 3, 1) := by decide +kernel
theorem dX5_read_138 : decode cX5_read 138 = .ok (.aload_n 0, 1) := by decide +kernel
theorem dX5_read_139 : decode cX5_read 139 = .ok (.getfield 13, 3) := by decide +kernel
theorem dX5_read_142 : decode cX5_read 142 = .ok (.iload_n 3, 1) := by decide +kernel
theorem dX5_read_143 : decode cX5_read 143 = .ok (.iaload, 1) := by decide +kernel
theorem dX5_read_144 : decode cX5_read 144 = .ok (.iastore, 1) := by decide +kernel
theorem dX5_read_145 : decode cX5_read 145 = .ok (.iinc 3 1, 3) := by decide +kernel
theorem dX5_read_148 : decode cX5_read 148 = .ok (.goto (-22), 3) := by decide +kernel
theorem dX5_read_151 : decode cX5_read 151 = .ok (.aload_n 0, 1) := by decide +kernel
theorem dX5_read_152 : decode cX5_read 152 = .ok (.iload_n 1, 1) := by decide +kernel
theorem dX5_read_153 : decode cX5_read 153 = .ok (.putfield 38, 3) := by decide +kernel
theorem dX5_read_156 : decode cX5_read 156 = .ok (.iload_n 2, 1) := by decide +kernel
theorem dX5_read_157 : decode cX5_read 157 = .ok (.ifCond .le 16, 3) := by decide +kernel
theorem dX5_read_160 : decode cX5_read 160 = .ok (.aload_n 0, 1) := by decide +kernel
theorem dX5_read_161 : decode cX5_read 161 = .ok (.iload_n 2, 1) := by decide +kernel
theorem dX5_read_162 : decode cX5_read 162 = .ok (.putfield 60, 3) := by decide +kernel
theorem dX5_read_165 : decode cX5_read 165 = .ok (.aload_n 0, 1) := by decide +kernel
theorem dX5_read_166 : decode cX5_read 166 = .ok (.aload_n 0, 1) := by decide +kernel
theorem dX5_read_167 : decode cX5_read 167 = .ok (.getfield 47, 3) := by decide +kernel
theorem dX5_read_170 : decode cX5_read 170 = .ok (.putfield 63, 3) := by decide +kernel
theorem dX5_read_173 : decode cX5_read 173 = .ok (.aload_n 0, 1) := by decide +kernel
theorem dX5_read_174 : decode cX5_read 174 = .ok (.iconst 2, 1) := by decide +kernel
theorem dX5_read_175 : decode cX5_read 175 = .ok (.invokevirtual 57, 3) := by decide +kernel
theorem dX5_read_178 : decode cX5_read 178 = .ok (.ireturn, 1) := by decide +kernel
theorem dX5_read_179 : decode cX5_read 179 = .ok (.iinc 1 1, 3) := by decide +kernel
theorem dX5_read_182 : decode cX5_read 182 = .ok (.goto (-79), 3) := by decide +kernel
theorem dX5_read_185 : decode cX5_read 185 = .ok (.aload_n 0, 1) := by decide +kernel
theorem dX5_read_186 : decode cX5_read 186 = .ok (.aload_n 0, 1) := by decide +kernel
theorem dX5_read_187 : decode cX5_read 187 = .ok (.getfield 264, 3) := by decide +kernel
theorem dX5_read_190 : decode cX5_read 190 = .ok (.invokevirtual 53, 3) := by decide +kernel
theorem dX5_read_193 : decode cX5_read 193 = .ok (.ireturn, 1) := by decide +kernel
theorem h9_X5_read : yX5_read.cls ≠ "java/lang/invoke/MethodHandle" ∧ yX5_read.cls ≠ "java/lang/invoke/VarHandle" ∧ (parseMethodDescriptor yX5_read.desc).map (fun d => d.parameters.length) = some 0 := by decide +kernel
noncomputable def F_X5_read (a0 : Nat) (w : FW) : Option (Int32 × FW) :=
  fg (w.1 a0 = 6) inferInstance ((F_X5_remembers a0 w).bind (fun r1 => (F_X5_readsOne a0 (sI (sI (sI (sI (sI r1 519 a0 0 0) 520 a0 0 (gI (sI r1 519 a0 0 0) 511 a0 0)) 511 a0 0 0) 521 a0 0 0) 522 a0 0 0)).bind (fun r5 => (fLoop (σ := FW) (ρ := FW) (fun s8 => (if (gI s8 522 a0 0) = 0 then (F_X5_here a0 s8).bind (fun r18 => (if r18 = 59 then (F_X5_readsOne a0 (sI s8 519 a0 0 ((gI s8 519 a0 0) + 1))).bind (fun r22 => some (.inl r22)) else some (.inr s8))) else some (.inr s8))) r5).bind (fun x14 => (if (gI x14 522 a0 0) = 0 then (if (gI x14 520 a0 0) ≤ (gI x14 519 a0 0) then (fLoop (σ := Int32 × FW) (ρ := (FW) ⊕ (Int32 × FW)) (fun s30 => (if (gI s30.2 521 a0 0) ≤ s30.1 then some (.inr (.inl s30.2)) else (F_X5_does a0 s30.1 s30.2).bind (fun r40 => (if r40.1 = 0 then some (.inl ((s30.1 + 1), r40.2)) else (fLoop (σ := Int32 × FW) (ρ := FW) (fun s44 => (if 177 ≤ s44.1 then some (.inr s44.2) else fg (w.1 (gR s44.2 502 a0 0) = 11) inferInstance (fg (¬ (s44.1 < 0 ∨ w.2.1 (gR s44.2 502 a0 0) ≤ Int32.toNatClampNeg s44.1)) inferInstance (fg (w.1 (gR s44.2 501 a0 0) = 11) inferInstance (fg (¬ (s44.1 < 0 ∨ w.2.1 (gR s44.2 501 a0 0) ≤ Int32.toNatClampNeg s44.1)) inferInstance (some (.inl ((s44.1 + 1), (sI s44.2 601 (gR s44.2 501 a0 0) (Int32.toNatClampNeg s44.1) (gI s44.2 601 (gR s44.2 502 a0 0) (Int32.toNatClampNeg s44.1))))))))))) (0, r40.2)).bind (fun x50 => ((if r40.1 ≤ 0 then some (sI x50 514 a0 0 s30.1) else some (sI (sI (sI x50 514 a0 0 s30.1) 515 a0 0 r40.1) 516 a0 0 (gI (sI (sI x50 514 a0 0 s30.1) 515 a0 0 r40.1) 517 a0 0))) : Option (FW)).bind (fun x58 => (F_X5_fails a0 2 x58).bind (fun r62 => some (.inr (.inr (r62.1, r62.2)))))))))) (0, x14)).bind (fun x36 => fse x36 (fun z66 => (F_X5_changed a0 (gI z66 521 a0 0) z66).bind (fun r67 => some (r67.1, r67.2))) (fun q9 => some q9)) else (F_X5_fails a0 1 (sI x14 513 a0 0 (gI x14 519 a0 0))).bind (fun r70 => some (r70.1, r70.2))) else (F_X5_fails a0 1 (sI x14 513 a0 0 (gI x14 519 a0 0))).bind (fun r26 => some (r26.1, r26.2)))))))
set_option maxHeartbeats 4000000 in
set_option maxRecDepth 100000 in
theorem c_X5_read (l : Launch) (D : va_G) (cy : Nat → ClassId) (a0 : Nat) (w : FW) (r : Int32 × FW) (hF : F_X5_read a0 w = some r) : fSpec l D cy yX5_read cX5_read 4 (some .int) { frames := 11, cells := 0, slots := 0, locals := 262 } [.ref a0] w r.2 (some (.int r.1)) := by
  refine f_begin (by decide +kernel) (Nat.le_of_ble_eq_true rfl) (fun X hC hEn => ?_)
  unfold F_X5_read at hF
  show fAt X 0 0 4 w [(0, .ref a0)] [] 0
  refine f_aload_n hC dX5_read_0 rfl 0 rfl ?_
  obtain ⟨g3, hF⟩ := fg_open hF
  obtain ⟨r1, h2, hF⟩ := fb_open hF
  refine f_callV hC [] (c_X5_remembers l D cy a0 w r1 h2) q_1344 q_137 q_1341 q_1343 q_73 h9_X5_remembers rfl (fSm.k (fSm.rf w) g3) ⟨Nat.le_of_ble_eq_true rfl, Nat.le_of_ble_eq_true rfl⟩ ⟨Nat.le_of_ble_eq_true rfl, Nat.le_of_ble_eq_true rfl⟩ (Nat.le_of_ble_eq_true rfl) rfl dX5_read_1 (fun e4 => ?_)
  refine f_aload_n hC dX5_read_4 rfl 0 rfl ?_
  refine f_iconst (v := 0) hC dX5_read_5 (by decide) ?_
  refine f_putI hC 5 19 519 rfl (by decide) iX5 tyX5 tyX5_ok nmX5 q_1278 rfl rfl rfl rfl rfl (fSm.k (fSm.tr e4 (fSm.rf w)) g3) dX5_read_6 ?_
  refine f_aload_n hC dX5_read_9 rfl 0 rfl ?_
  refine f_aload_n hC dX5_read_10 rfl 0 rfl ?_
  refine f_getI hC 5 11 511 rfl (by decide) iX5 q_1270 rfl rfl (fSm.k (fSm.tr e4 (fSm.rf w)) g3) dX5_read_11 ?_
  refine f_putI hC 5 20 520 rfl (by decide) iX5 tyX5 tyX5_ok nmX5 q_1279 rfl rfl rfl rfl rfl (fSm.k (fSm.tr e4 (fSm.rf w)) g3) dX5_read_14 ?_
  refine f_aload_n hC dX5_read_17 rfl 0 rfl ?_
  refine f_iconst (v := 0) hC dX5_read_18 (by decide) ?_
  refine f_putI hC 5 11 511 rfl (by decide) iX5 tyX5 tyX5_ok nmX5 q_1270 rfl rfl rfl rfl rfl (fSm.k (fSm.tr e4 (fSm.rf w)) g3) dX5_read_19 ?_
  refine f_aload_n hC dX5_read_22 rfl 0 rfl ?_
  refine f_iconst (v := 0) hC dX5_read_23 (by decide) ?_
  refine f_putI hC 5 21 521 rfl (by decide) iX5 tyX5 tyX5_ok nmX5 q_1280 rfl rfl rfl rfl rfl (fSm.k (fSm.tr e4 (fSm.rf w)) g3) dX5_read_24 ?_
  refine f_aload_n hC dX5_read_27 rfl 0 rfl ?_
  refine f_iconst (v := 0) hC dX5_read_28 (by decide) ?_
  refine f_putI hC 5 22 522 rfl (by decide) iX5 tyX5 tyX5_ok nmX5 q_1281 rfl rfl rfl (nar_z (by decide)) (fit_z (by decide)) (fSm.k (fSm.tr e4 (fSm.rf w)) g3) dX5_read_29 ?_
  refine f_aload_n hC dX5_read_32 rfl 0 rfl ?_
  obtain ⟨r5, h6, hF⟩ := fb_open hF
  refine f_callV hC [] (c_X5_readsOne l D cy a0 (sI (sI (sI (sI (sI r1 519 a0 0 0) 520 a0 0 (gI (sI r1 519 a0 0 0) 511 a0 0)) 511 a0 0 0) 521 a0 0 0) 522 a0 0 0) r5 h6) q_1709 q_137 q_1706 q_1708 q_123 h9_X5_readsOne rfl (fSm.k (fSm.tr e4 (fSm.rf w)) g3) ⟨Nat.le_of_ble_eq_true rfl, Nat.le_of_ble_eq_true rfl⟩ ⟨Nat.le_of_ble_eq_true rfl, Nat.le_of_ble_eq_true rfl⟩ (Nat.le_of_ble_eq_true rfl) rfl dX5_read_33 (fun e7 => ?_)
  obtain ⟨x14, h15, hF⟩ := fb_open hF
  have K16 : fSm x14 w → fAt X 0 0 4 x14 [(0, .ref a0)] [] 69 := by
    intro p12
    refine f_aload_n hC dX5_read_69 rfl 0 rfl ?_
    refine f_getI hC 5 22 522 rfl (by decide) iX5 q_1281 rfl rfl (fSm.k p12 g3) dX5_read_70 ?_
    refine f_if_ne hC 87 dX5_read_73 (by decide) (fun c25 => ?_) (fun c25 => ?_)
    · replace hF := fi_neg hF c25
      refine f_aload_n hC dX5_read_87 rfl 0 rfl ?_
      refine f_aload_n hC dX5_read_88 rfl 0 rfl ?_
      refine f_getI hC 5 19 519 rfl (by decide) iX5 q_1278 rfl rfl (fSm.k p12 g3) dX5_read_89 ?_
      refine f_putI hC 5 13 513 rfl (by decide) iX5 tyX5 tyX5_ok nmX5 q_1272 rfl rfl rfl rfl rfl (fSm.k p12 g3) dX5_read_92 ?_
      refine f_aload_n hC dX5_read_95 rfl 0 rfl ?_
      refine f_iconst (v := 1) hC dX5_read_96 (by decide) ?_
      obtain ⟨r26, h27, hF⟩ := fb_open hF
      refine f_callV hC [.int 1] (c_X5_fails l D cy a0 1 (sI x14 513 a0 0 (gI x14 519 a0 0)) r26 h27) q_1380 q_137 q_1377 q_1379 q_79 h9_X5_fails rfl (fSm.k p12 g3) ⟨Nat.le_of_ble_eq_true rfl, Nat.le_of_ble_eq_true rfl⟩ ⟨Nat.le_of_ble_eq_true rfl, Nat.le_of_ble_eq_true rfl⟩ (Nat.le_of_ble_eq_true rfl) rfl dX5_read_97 (fun e28 => ?_)
      obtain rfl := Option.some.inj hF
      exact f_iret hC hEn (fSm.tr e28 p12) dX5_read_100
    · replace hF := fi_pos hF c25
      refine f_aload_n hC dX5_read_76 rfl 0 rfl ?_
      refine f_getI hC 5 19 519 rfl (by decide) iX5 q_1278 rfl rfl (fSm.k p12 g3) dX5_read_77 ?_
      refine f_aload_n hC dX5_read_80 rfl 0 rfl ?_
      refine f_getI hC 5 20 520 rfl (by decide) iX5 q_1279 rfl rfl (fSm.k p12 g3) dX5_read_81 ?_
      refine f_icmp_ge hC 101 dX5_read_84 (by decide) (fun c29 => ?_) (fun c29 => ?_)
      · replace hF := fi_pos hF c29
        refine f_iconst (v := 0) hC dX5_read_101 (by decide) ?_
        refine f_istore_n (L' := [(1, .int 0), (0, .ref a0)]) hC dX5_read_102 rfl (by decide) rfl ?_
        obtain ⟨x36, h37, hF⟩ := fb_open hF
        have K38 : ∀ z66, x36 = .inl z66 → fSm z66 w → fAt X 0 0 4 z66 [(0, .ref a0)] [] 185 := by
          intro z66 hz9
          subst hz9
          intro p34
          refine f_aload_n hC dX5_read_185 rfl 0 rfl ?_
          refine f_aload_n hC dX5_read_186 rfl 0 rfl ?_
          refine f_getI hC 5 21 521 rfl (by decide) iX5 q_1280 rfl rfl (fSm.k p34 g3) dX5_read_187 ?_
          obtain ⟨r67, h68, hF⟩ := fb_open hF
          refine f_callV hC [.int (gI z66 521 a0 0)] (c_X5_changed l D cy a0 (gI z66 521 a0 0) z66 r67 h68) q_1376 q_137 q_1373 q_1375 q_78 h9_X5_changed rfl (fSm.k p34 g3) ⟨Nat.le_of_ble_eq_true rfl, Nat.le_of_ble_eq_true rfl⟩ ⟨Nat.le_of_ble_eq_true rfl, Nat.le_of_ble_eq_true rfl⟩ (Nat.le_of_ble_eq_true rfl) rfl dX5_read_190 (fun e69 => ?_)
          obtain rfl := Option.some.inj hF
          exact f_iret hC hEn (fSm.tr e69 p34) dX5_read_193
        refine f_sub (L' := [(0, .ref a0), (1, .int 0)]) [1, 0] rfl ?_
        refine fLoop_ind (fun (s30 : Int32 × FW) => fSm s30.2 w → fAt X 0 0 4 s30.2 [(0, .ref a0), (1, .int s30.1)] [] 103) (fun s30 y35 h31 go32 ou33 => ?_) h37 p12
        intro p34
        refine f_iload_n hC dX5_read_103 rfl 1 rfl ?_
        refine f_aload_n hC dX5_read_104 rfl 0 rfl ?_
        refine f_getI hC 5 21 521 rfl (by decide) iX5 q_1280 rfl rfl (fSm.k p34 g3) dX5_read_105 ?_
        refine f_icmp_ge hC 185 dX5_read_108 (by decide) (fun c39 => ?_) (fun c39 => ?_)
        · replace h31 := fi_pos h31 c39
          obtain rfl := Option.some.inj h31
          have eo := ou33 _ rfl
          refine f_sub (L' := [(0, .ref a0)]) [0] rfl ?_
          exact K38 _ eo.symm p34
        · replace h31 := fi_neg h31 c39
          refine f_aload_n hC dX5_read_111 rfl 0 rfl ?_
          refine f_iload_n hC dX5_read_112 rfl 1 rfl ?_
          obtain ⟨r40, h41, h31⟩ := fb_open h31
          refine f_callV hC [.int s30.1] (c_X5_does l D cy a0 s30.1 s30.2 r40 h41) q_1733 q_137 q_1730 q_1732 q_129 h9_X5_does rfl (fSm.k p34 g3) ⟨Nat.le_of_ble_eq_true rfl, Nat.le_of_ble_eq_true rfl⟩ ⟨Nat.le_of_ble_eq_true rfl, Nat.le_of_ble_eq_true rfl⟩ (Nat.le_of_ble_eq_true rfl) rfl dX5_read_113 (fun e42 => ?_)
          refine f_istore_n (L' := [(2, .int r40.1), (0, .ref a0), (1, .int s30.1)]) hC dX5_read_116 rfl (by decide) rfl ?_
          refine f_iload_n hC dX5_read_117 rfl 0 rfl ?_
          refine f_if_ne hC 124 dX5_read_118 (by decide) (fun c43 => ?_) (fun c43 => ?_)
          · replace h31 := fi_neg h31 c43
            refine f_iconst (v := 0) hC dX5_read_124 (by decide) ?_
            refine f_istore_n (L' := [(3, .int 0), (2, .int r40.1), (0, .ref a0), (1, .int s30.1)]) hC dX5_read_125 rfl (by decide) rfl ?_
            obtain ⟨x50, h51, h31⟩ := fb_open h31
            have K52 : fSm x50 w → fAt X 0 0 4 x50 [(0, .ref a0), (1, .int s30.1), (2, .int r40.1)] [] 151 := by
              intro p48
              refine f_aload_n hC dX5_read_151 rfl 0 rfl ?_
              refine f_iload_n hC dX5_read_152 rfl 1 rfl ?_
              refine f_putI hC 5 14 514 rfl (by decide) iX5 tyX5 tyX5_ok nmX5 q_1273 rfl rfl rfl rfl rfl (fSm.k p48 g3) dX5_read_153 ?_
              refine f_iload_n hC dX5_read_156 rfl 2 rfl ?_
              obtain ⟨x58, h59, h31⟩ := fb_open h31
              have K61 : fSm x58 w → fAt X 0 0 4 x58 [(0, .ref a0)] [] 173 := by
                intro p60
                refine f_aload_n hC dX5_read_173 rfl 0 rfl ?_
                refine f_iconst (v := 2) hC dX5_read_174 (by decide) ?_
                obtain ⟨r62, h63, h31⟩ := fb_open h31
                refine f_callV hC [.int 2] (c_X5_fails l D cy a0 2 x58 r62 h63) q_1380 q_137 q_1377 q_1379 q_79 h9_X5_fails rfl (fSm.k p60 g3) ⟨Nat.le_of_ble_eq_true rfl, Nat.le_of_ble_eq_true rfl⟩ ⟨Nat.le_of_ble_eq_true rfl, Nat.le_of_ble_eq_true rfl⟩ (Nat.le_of_ble_eq_true rfl) rfl dX5_read_175 (fun e64 => ?_)
                obtain rfl := Option.some.inj h31
                obtain rfl := ou33 _ rfl
                obtain rfl := Option.some.inj hF
                exact f_iret hC hEn (fSm.tr e64 p60) dX5_read_178
              refine f_if_le hC 173 dX5_read_157 (by decide) (fun c65 => ?_) (fun c65 => ?_)
              · replace h59 := fi_pos h59 c65
                obtain rfl := Option.some.inj h59
                refine f_sub (L' := [(0, .ref a0)]) [0] rfl ?_
                exact K61 p48
              · replace h59 := fi_neg h59 c65
                refine f_aload_n hC dX5_read_160 rfl 0 rfl ?_
                refine f_iload_n hC dX5_read_161 rfl 2 rfl ?_
                refine f_putI hC 5 15 515 rfl (by decide) iX5 tyX5 tyX5_ok nmX5 q_1274 rfl rfl rfl rfl rfl (fSm.k p48 g3) dX5_read_162 ?_
                refine f_aload_n hC dX5_read_165 rfl 0 rfl ?_
                refine f_aload_n hC dX5_read_166 rfl 0 rfl ?_
                refine f_getI hC 5 17 517 rfl (by decide) iX5 q_1276 rfl rfl (fSm.k p48 g3) dX5_read_167 ?_
                refine f_putI hC 5 16 516 rfl (by decide) iX5 tyX5 tyX5_ok nmX5 q_1275 rfl rfl rfl rfl rfl (fSm.k p48 g3) dX5_read_170 ?_
                obtain rfl := Option.some.inj h59
                refine f_sub (L' := [(0, .ref a0)]) [0] rfl ?_
                exact K61 p48
            refine f_sub (L' := [(0, .ref a0), (1, .int s30.1), (2, .int r40.1), (3, .int 0)]) [2, 3, 1, 0] rfl ?_
            refine fLoop_ind (fun (s44 : Int32 × FW) => fSm s44.2 w → fAt X 0 0 4 s44.2 [(0, .ref a0), (1, .int s30.1), (2, .int r40.1), (3, .int s44.1)] [] 126) (fun s44 y49 h45 go46 ou47 => ?_) h51 (fSm.tr e42 p34)
            intro p48
            refine f_iload_n hC dX5_read_126 rfl 3 rfl ?_
            refine f_sipush (v := 177) hC dX5_read_127 (by decide) ?_
            refine f_icmp_ge hC 151 dX5_read_130 (by decide) (fun c53 => ?_) (fun c53 => ?_)
            · replace h45 := fi_pos h45 c53
              obtain rfl := Option.some.inj h45
              obtain rfl := ou47 _ rfl
              refine f_sub (L' := [(0, .ref a0), (1, .int s30.1), (2, .int r40.1)]) [0, 1, 2] rfl ?_
              exact K52 p48
            · replace h45 := fi_neg h45 c53
              refine f_aload_n hC dX5_read_133 rfl 0 rfl ?_
              refine f_getR hC 5 1 501 rfl (by decide) iX5 q_1260 rfl rfl (fSm.k p48 g3) dX5_read_134 ?_
              refine f_iload_n hC dX5_read_137 rfl 3 rfl ?_
              refine f_aload_n hC dX5_read_138 rfl 0 rfl ?_
              refine f_getR hC 5 2 502 rfl (by decide) iX5 q_1261 rfl rfl (fSm.k p48 g3) dX5_read_139 ?_
              refine f_iload_n hC dX5_read_142 rfl 3 rfl ?_
              obtain ⟨g54, h45⟩ := fg_open h45
              obtain ⟨g55, h45⟩ := fg_open h45
              refine f_iald hC (fSm.k p48 g54) (fSm.v p48 g55) dX5_read_143 ?_
              obtain ⟨g56, h45⟩ := fg_open h45
              obtain ⟨g57, h45⟩ := fg_open h45
              refine f_iast hC (fSm.k p48 g56) (fSm.v p48 g57) dX5_read_144 ?_
              refine f_iinc (L' := [(3, .int (s44.1 + 1)), (0, .ref a0), (1, .int s30.1), (2, .int r40.1)]) hC dX5_read_145 3 rfl rfl (by decide) rfl ?_
              refine f_goto hC 126 dX5_read_148 (by decide) ?_
              obtain rfl := Option.some.inj h45
              refine f_sub (L' := [(0, .ref a0), (1, .int s30.1), (2, .int r40.1), (3, .int (s44.1 + 1))]) [1, 2, 3, 0] rfl ?_
              exact go46 _ rfl p48
          · replace h31 := fi_pos h31 c43
            refine f_goto hC 179 dX5_read_121 (by decide) ?_
            refine f_iinc (L' := [(1, .int (s30.1 + 1)), (2, .int r40.1), (0, .ref a0)]) hC dX5_read_179 2 rfl rfl (by decide) rfl ?_
            refine f_goto hC 103 dX5_read_182 (by decide) ?_
            obtain rfl := Option.some.inj h31
            refine f_sub (L' := [(0, .ref a0), (1, .int (s30.1 + 1))]) [2, 0] rfl ?_
            exact go32 _ rfl (fSm.tr e42 p34)
      · replace hF := fi_neg hF c29
        refine f_aload_n hC dX5_read_87 rfl 0 rfl ?_
        refine f_aload_n hC dX5_read_88 rfl 0 rfl ?_
        refine f_getI hC 5 19 519 rfl (by decide) iX5 q_1278 rfl rfl (fSm.k p12 g3) dX5_read_89 ?_
        refine f_putI hC 5 13 513 rfl (by decide) iX5 tyX5 tyX5_ok nmX5 q_1272 rfl rfl rfl rfl rfl (fSm.k p12 g3) dX5_read_92 ?_
        refine f_aload_n hC dX5_read_95 rfl 0 rfl ?_
        refine f_iconst (v := 1) hC dX5_read_96 (by decide) ?_
        obtain ⟨r70, h71, hF⟩ := fb_open hF
        refine f_callV hC [.int 1] (c_X5_fails l D cy a0 1 (sI x14 513 a0 0 (gI x14 519 a0 0)) r70 h71) q_1380 q_137 q_1377 q_1379 q_79 h9_X5_fails rfl (fSm.k p12 g3) ⟨Nat.le_of_ble_eq_true rfl, Nat.le_of_ble_eq_true rfl⟩ ⟨Nat.le_of_ble_eq_true rfl, Nat.le_of_ble_eq_true rfl⟩ (Nat.le_of_ble_eq_true rfl) rfl dX5_read_97 (fun e72 => ?_)
        obtain rfl := Option.some.inj hF
        exact f_iret hC hEn (fSm.tr e72 p12) dX5_read_100
  refine fLoop_ind (fun (s8 : FW) => fSm s8 w → fAt X 0 0 4 s8 [(0, .ref a0)] [] 36) (fun s8 y13 h9 go10 ou11 => ?_) h15 (fSm.tr e7 (fSm.tr e4 (fSm.rf w)))
  intro p12
  refine f_aload_n hC dX5_read_36 rfl 0 rfl ?_
  refine f_getI hC 5 22 522 rfl (by decide) iX5 q_1281 rfl rfl (fSm.k p12 g3) dX5_read_37 ?_
  refine f_if_ne hC 69 dX5_read_40 (by decide) (fun c17 => ?_) (fun c17 => ?_)
  · replace h9 := fi_neg h9 c17
    obtain rfl := Option.some.inj h9
    obtain rfl := ou11 _ rfl
    exact K16 p12
  · replace h9 := fi_pos h9 c17
    refine f_aload_n hC dX5_read_43 rfl 0 rfl ?_
    obtain ⟨r18, h19, h9⟩ := fb_open h9
    refine f_callV hC [] (c_X5_here l D cy a0 s8 r18 h19) q_1713 q_137 q_1710 q_1712 q_124 h9_X5_here rfl (fSm.k p12 g3) ⟨Nat.le_of_ble_eq_true rfl, Nat.le_of_ble_eq_true rfl⟩ ⟨Nat.le_of_ble_eq_true rfl, Nat.le_of_ble_eq_true rfl⟩ (Nat.le_of_ble_eq_true rfl) rfl dX5_read_44 (fun e20 => ?_)
    refine f_bipush (v := 59) hC dX5_read_47 (by decide) ?_
    refine f_icmp_ne hC 69 dX5_read_49 (by decide) (fun c21 => ?_) (fun c21 => ?_)
    · replace h9 := fi_neg h9 c21
      obtain rfl := Option.some.inj h9
      obtain rfl := ou11 _ rfl
      exact K16 p12
    · replace h9 := fi_pos h9 c21
      refine f_aload_n hC dX5_read_52 rfl 0 rfl ?_
      refine f_dup hC dX5_read_53 rfl ?_
      refine f_getI hC 5 19 519 rfl (by decide) iX5 q_1278 rfl rfl (fSm.k p12 g3) dX5_read_54 ?_
      refine f_iconst (v := 1) hC dX5_read_57 (by decide) ?_
      refine f_iadd hC dX5_read_58 ?_
      refine f_putI hC 5 19 519 rfl (by decide) iX5 tyX5 tyX5_ok nmX5 q_1278 rfl rfl rfl rfl rfl (fSm.k p12 g3) dX5_read_59 ?_
      refine f_aload_n hC dX5_read_62 rfl 0 rfl ?_
      obtain ⟨r22, h23, h9⟩ := fb_open h9
      refine f_callV hC [] (c_X5_readsOne l D cy a0 (sI s8 519 a0 0 ((gI s8 519 a0 0) + 1)) r22 h23) q_1709 q_137 q_1706 q_1708 q_123 h9_X5_readsOne rfl (fSm.k p12 g3) ⟨Nat.le_of_ble_eq_true rfl, Nat.le_of_ble_eq_true rfl⟩ ⟨Nat.le_of_ble_eq_true rfl, Nat.le_of_ble_eq_true rfl⟩ (Nat.le_of_ble_eq_true rfl) rfl dX5_read_63 (fun e24 => ?_)
      refine f_goto hC 36 dX5_read_66 (by decide) ?_
      obtain rfl := Option.some.inj h9
      exact go10 _ rfl (fSm.tr e24 p12)
theorem dX5_errorPosition_0 : decode cX5_errorPosition 0 = .ok (.aload_n 0, 1) := by decide +kernel
theorem dX5_errorPosition_1 : decode cX5_errorPosition 1 = .ok (.iconst 0, 1) := by decide +kernel
theorem dX5_errorPosition_2 : decode cX5_errorPosition 2 = .ok (.putfield 41, 3) := by decide +kernel
theorem dX5_errorPosition_5 : decode cX5_errorPosition 5 = .ok (.aload_n 0, 1) := by decide +kernel
theorem dX5_errorPosition_6 : decode cX5_errorPosition 6 = .ok (.getfield 34, 3) := by decide +kernel
theorem dX5_errorPosition_9 : decode cX5_errorPosition 9 = .ok (.iconst (-1), 1) := by decide +kernel
theorem dX5_errorPosition_10 : decode cX5_errorPosition 10 = .ok (.if_icmp .ne 11, 3) := by decide +kernel
theorem dX5_errorPosition_13 : decode cX5_errorPosition 13 = .ok (.aload_n 0, 1) := by decide +kernel
theorem dX5_errorPosition_14 : decode cX5_errorPosition 14 = .ok (.iconst 1, 1) := by decide +kernel
theorem dX5_errorPosition_15 : decode cX5_errorPosition 15 = .ok (.invokevirtual 57, 3) := by decide +kernel
theorem dX5_errorPosition_18 : decode cX5_errorPosition 18 = .ok (.goto 7, 3) := by decide +kernel
theorem dX5_errorPosition_21 : decode cX5_errorPosition 21 = .ok (.aload_n 0, 1) := by decide +kernel
theorem dX5_errorPosition_22 : decode cX5_errorPosition 22 = .ok (.getfield 34, 3) := by decide +kernel
theorem dX5_errorPosition_25 : decode cX5_errorPosition 25 = .ok (.ireturn, 1) := by decide +kernel
theorem h9_X5_errorPosition : yX5_errorPosition.cls ≠ "java/lang/invoke/MethodHandle" ∧ yX5_errorPosition.cls ≠ "java/lang/invoke/VarHandle" ∧ (parseMethodDescriptor yX5_errorPosition.desc).map (fun d => d.parameters.length) = some 0 := by decide +kernel
noncomputable def F_X5_errorPosition (a0 : Nat) (w : FW) : Option (Int32 × FW) :=
  fg (w.1 a0 = 6) inferInstance ((if (gI (sI w 500 a0 0 0) 513 a0 0) = (-1) then (F_X5_fails a0 1 (sI w 500 a0 0 0)).bind (fun r3 => some (r3.1, r3.2)) else some ((gI (sI w 500 a0 0 0) 513 a0 0), (sI w 500 a0 0 0))))
set_option maxHeartbeats 4000000 in
set_option maxRecDepth 100000 in
theorem c_X5_errorPosition (l : Launch) (D : va_G) (cy : Nat → ClassId) (a0 : Nat) (w : FW) (r : Int32 × FW) (hF : F_X5_errorPosition a0 w = some r) : fSpec l D cy yX5_errorPosition cX5_errorPosition 1 (some .int) { frames := 1, cells := 0, slots := 0, locals := 21 } [.ref a0] w r.2 (some (.int r.1)) := by
  refine f_begin (by decide +kernel) (Nat.le_of_ble_eq_true rfl) (fun X hC hEn => ?_)
  unfold F_X5_errorPosition at hF
  show fAt X 0 0 1 w [(0, .ref a0)] [] 0
  refine f_aload_n hC dX5_errorPosition_0 rfl 0 rfl ?_
  refine f_iconst (v := 0) hC dX5_errorPosition_1 (by decide) ?_
  obtain ⟨g1, hF⟩ := fg_open hF
  refine f_putI hC 5 0 500 rfl (by decide) iX5 tyX5 tyX5_ok nmX5 q_1259 rfl rfl rfl rfl rfl (fSm.k (fSm.rf w) g1) dX5_errorPosition_2 ?_
  refine f_aload_n hC dX5_errorPosition_5 rfl 0 rfl ?_
  refine f_getI hC 5 13 513 rfl (by decide) iX5 q_1272 rfl rfl (fSm.k (fSm.rf w) g1) dX5_errorPosition_6 ?_
  refine f_iconst (v := (-1)) hC dX5_errorPosition_9 (by decide) ?_
  refine f_icmp_ne hC 21 dX5_errorPosition_10 (by decide) (fun c2 => ?_) (fun c2 => ?_)
  · replace hF := fi_neg hF c2
    refine f_aload_n hC dX5_errorPosition_21 rfl 0 rfl ?_
    refine f_getI hC 5 13 513 rfl (by decide) iX5 q_1272 rfl rfl (fSm.k (fSm.rf w) g1) dX5_errorPosition_22 ?_
    obtain rfl := Option.some.inj hF
    exact f_iret hC hEn (fSm.rf w) dX5_errorPosition_25
  · replace hF := fi_pos hF c2
    refine f_aload_n hC dX5_errorPosition_13 rfl 0 rfl ?_
    refine f_iconst (v := 1) hC dX5_errorPosition_14 (by decide) ?_
    obtain ⟨r3, h4, hF⟩ := fb_open hF
    refine f_callV hC [.int 1] (c_X5_fails l D cy a0 1 (sI w 500 a0 0 0) r3 h4) q_1380 q_137 q_1377 q_1379 q_79 h9_X5_fails rfl (fSm.k (fSm.rf w) g1) ⟨Nat.le_of_ble_eq_true rfl, Nat.le_of_ble_eq_true rfl⟩ ⟨Nat.le_of_ble_eq_true rfl, Nat.le_of_ble_eq_true rfl⟩ (Nat.le_of_ble_eq_true rfl) rfl dX5_errorPosition_15 (fun e5 => ?_)
    refine f_goto hC 25 dX5_errorPosition_18 (by decide) ?_
    obtain rfl := Option.some.inj hF
    exact f_iret hC hEn (fSm.tr e5 (fSm.rf w)) dX5_errorPosition_25
theorem dX5_refusedItem_0 : decode cX5_refusedItem 0 = .ok (.aload_n 0, 1) := by decide +kernel
theorem dX5_refusedItem_1 : decode cX5_refusedItem 1 = .ok (.iconst 0, 1) := by decide +kernel
theorem dX5_refusedItem_2 : decode cX5_refusedItem 2 = .ok (.putfield 41, 3) := by decide +kernel
theorem dX5_refusedItem_5 : decode cX5_refusedItem 5 = .ok (.aload_n 0, 1) := by decide +kernel
theorem dX5_refusedItem_6 : decode cX5_refusedItem 6 = .ok (.getfield 38, 3) := by decide +kernel
theorem dX5_refusedItem_9 : decode cX5_refusedItem 9 = .ok (.iconst (-1), 1) := by decide +kernel
theorem dX5_refusedItem_10 : decode cX5_refusedItem 10 = .ok (.if_icmp .ne 11, 3) := by decide +kernel
theorem dX5_refusedItem_13 : decode cX5_refusedItem 13 = .ok (.aload_n 0, 1) := by decide +kernel
theorem dX5_refusedItem_14 : decode cX5_refusedItem 14 = .ok (.iconst 1, 1) := by decide +kernel
theorem dX5_refusedItem_15 : decode cX5_refusedItem 15 = .ok (.invokevirtual 57, 3) := by decide +kernel
theorem dX5_refusedItem_18 : decode cX5_refusedItem 18 = .ok (.goto 7, 3) := by decide +kernel
theorem dX5_refusedItem_21 : decode cX5_refusedItem 21 = .ok (.aload_n 0, 1) := by decide +kernel
theorem dX5_refusedItem_22 : decode cX5_refusedItem 22 = .ok (.getfield 38, 3) := by decide +kernel
theorem dX5_refusedItem_25 : decode cX5_refusedItem 25 = .ok (.ireturn, 1) := by decide +kernel
theorem h9_X5_refusedItem : yX5_refusedItem.cls ≠ "java/lang/invoke/MethodHandle" ∧ yX5_refusedItem.cls ≠ "java/lang/invoke/VarHandle" ∧ (parseMethodDescriptor yX5_refusedItem.desc).map (fun d => d.parameters.length) = some 0 := by decide +kernel
noncomputable def F_X5_refusedItem (a0 : Nat) (w : FW) : Option (Int32 × FW) :=
  fg (w.1 a0 = 6) inferInstance ((if (gI (sI w 500 a0 0 0) 514 a0 0) = (-1) then (F_X5_fails a0 1 (sI w 500 a0 0 0)).bind (fun r3 => some (r3.1, r3.2)) else some ((gI (sI w 500 a0 0 0) 514 a0 0), (sI w 500 a0 0 0))))
set_option maxHeartbeats 4000000 in
set_option maxRecDepth 100000 in
theorem c_X5_refusedItem (l : Launch) (D : va_G) (cy : Nat → ClassId) (a0 : Nat) (w : FW) (r : Int32 × FW) (hF : F_X5_refusedItem a0 w = some r) : fSpec l D cy yX5_refusedItem cX5_refusedItem 1 (some .int) { frames := 1, cells := 0, slots := 0, locals := 21 } [.ref a0] w r.2 (some (.int r.1)) := by
  refine f_begin (by decide +kernel) (Nat.le_of_ble_eq_true rfl) (fun X hC hEn => ?_)
  unfold F_X5_refusedItem at hF
  show fAt X 0 0 1 w [(0, .ref a0)] [] 0
  refine f_aload_n hC dX5_refusedItem_0 rfl 0 rfl ?_
  refine f_iconst (v := 0) hC dX5_refusedItem_1 (by decide) ?_
  obtain ⟨g1, hF⟩ := fg_open hF
  refine f_putI hC 5 0 500 rfl (by decide) iX5 tyX5 tyX5_ok nmX5 q_1259 rfl rfl rfl rfl rfl (fSm.k (fSm.rf w) g1) dX5_refusedItem_2 ?_
  refine f_aload_n hC dX5_refusedItem_5 rfl 0 rfl ?_
  refine f_getI hC 5 14 514 rfl (by decide) iX5 q_1273 rfl rfl (fSm.k (fSm.rf w) g1) dX5_refusedItem_6 ?_
  refine f_iconst (v := (-1)) hC dX5_refusedItem_9 (by decide) ?_
  refine f_icmp_ne hC 21 dX5_refusedItem_10 (by decide) (fun c2 => ?_) (fun c2 => ?_)
  · replace hF := fi_neg hF c2
    refine f_aload_n hC dX5_refusedItem_21 rfl 0 rfl ?_
    refine f_getI hC 5 14 514 rfl (by decide) iX5 q_1273 rfl rfl (fSm.k (fSm.rf w) g1) dX5_refusedItem_22 ?_
    obtain rfl := Option.some.inj hF
    exact f_iret hC hEn (fSm.rf w) dX5_refusedItem_25
  · replace hF := fi_pos hF c2
    refine f_aload_n hC dX5_refusedItem_13 rfl 0 rfl ?_
    refine f_iconst (v := 1) hC dX5_refusedItem_14 (by decide) ?_
    obtain ⟨r3, h4, hF⟩ := fb_open hF
    refine f_callV hC [.int 1] (c_X5_fails l D cy a0 1 (sI w 500 a0 0 0) r3 h4) q_1380 q_137 q_1377 q_1379 q_79 h9_X5_fails rfl (fSm.k (fSm.rf w) g1) ⟨Nat.le_of_ble_eq_true rfl, Nat.le_of_ble_eq_true rfl⟩ ⟨Nat.le_of_ble_eq_true rfl, Nat.le_of_ble_eq_true rfl⟩ (Nat.le_of_ble_eq_true rfl) rfl dX5_refusedItem_15 (fun e5 => ?_)
    refine f_goto hC 25 dX5_refusedItem_18 (by decide) ?_
    obtain rfl := Option.some.inj hF
    exact f_iret hC hEn (fSm.tr e5 (fSm.rf w)) dX5_refusedItem_25
theorem dX5_undo_0 : decode cX5_undo 0 = .ok (.aload_n 0, 1) := by decide +kernel
theorem dX5_undo_1 : decode cX5_undo 1 = .ok (.iconst 0, 1) := by decide +kernel
theorem dX5_undo_2 : decode cX5_undo 2 = .ok (.putfield 41, 3) := by decide +kernel
theorem dX5_undo_5 : decode cX5_undo 5 = .ok (.aload_n 0, 1) := by decide +kernel
theorem dX5_undo_6 : decode cX5_undo 6 = .ok (.getfield 44, 3) := by decide +kernel
theorem dX5_undo_9 : decode cX5_undo 9 = .ok (.ifCond .ne 9, 3) := by decide +kernel
theorem dX5_undo_12 : decode cX5_undo 12 = .ok (.aload_n 0, 1) := by decide +kernel
theorem dX5_undo_13 : decode cX5_undo 13 = .ok (.iconst 1, 1) := by decide +kernel
theorem dX5_undo_14 : decode cX5_undo 14 = .ok (.invokevirtual 57, 3) := by decide +kernel
theorem dX5_undo_17 : decode cX5_undo 17 = .ok (.ireturn, 1) := by decide +kernel
theorem dX5_undo_18 : decode cX5_undo 18 = .ok (.aload_n 0, 1) := by decide +kernel
theorem dX5_undo_19 : decode cX5_undo 19 = .ok (.dup, 1) := by decide +kernel
theorem dX5_undo_20 : decode cX5_undo 20 = .ok (.getfield 44, 3) := by decide +kernel
theorem dX5_undo_23 : decode cX5_undo 23 = .ok (.iconst 1, 1) := by decide +kernel
theorem dX5_undo_24 : decode cX5_undo 24 = .ok (.isub, 1) := by decide +kernel
theorem dX5_undo_25 : decode cX5_undo 25 = .ok (.putfield 44, 3) := by decide +kernel
theorem dX5_undo_28 : decode cX5_undo 28 = .ok (.iconst 0, 1) := by decide +kernel
theorem dX5_undo_29 : decode cX5_undo 29 = .ok (.istore_n 1, 1) := by decide +kernel
theorem dX5_undo_30 : decode cX5_undo 30 = .ok (.iload_n 1, 1) := by decide +kernel
theorem dX5_undo_31 : decode cX5_undo 31 = .ok (.sipush 177, 3) := by decide +kernel
theorem dX5_undo_34 : decode cX5_undo 34 = .ok (.if_icmp .ge 30, 3) := by decide +kernel
theorem dX5_undo_37 : decode cX5_undo 37 = .ok (.aload_n 0, 1) := by decide +kernel
theorem dX5_undo_38 : decode cX5_undo 38 = .ok (.getfield 7, 3) := by decide +kernel
theorem dX5_undo_41 : decode cX5_undo 41 = .ok (.iload_n 1, 1) := by decide +kernel
theorem dX5_undo_42 : decode cX5_undo 42 = .ok (.aload_n 0, 1) := by decide +kernel
theorem dX5_undo_43 : decode cX5_undo 43 = .ok (.getfield 19, 3) := by decide +kernel
theorem dX5_undo_46 : decode cX5_undo 46 = .ok (.sipush 177, 3) := by decide +kernel
theorem dX5_undo_49 : decode cX5_undo 49 = .ok (.aload_n 0, 1) := by decide +kernel
theorem dX5_undo_50 : decode cX5_undo 50 = .ok (.getfield 44, 3) := by decide +kernel
theorem dX5_undo_53 : decode cX5_undo 53 = .ok (.imul, 1) := by decide +kernel
theorem dX5_undo_54 : decode cX5_undo 54 = .ok (.iload_n 1, 1) := by decide +kernel
theorem dX5_undo_55 : decode cX5_undo 55 = .ok (.iadd, 1) := by decide +kernel
theorem dX5_undo_56 : decode cX5_undo 56 = .ok (.iaload, 1) := by decide +kernel
theorem dX5_undo_57 : decode cX5_undo 57 = .ok (.iastore, 1) := by decide +kernel
theorem dX5_undo_58 : decode cX5_undo 58 = .ok (.iinc 1 1, 3) := by decide +kernel
theorem dX5_undo_61 : decode cX5_undo 61 = .ok (.goto (-31), 3) := by decide +kernel
theorem dX5_undo_64 : decode cX5_undo 64 = .ok (.aload_n 0, 1) := by decide +kernel
theorem dX5_undo_65 : decode cX5_undo 65 = .ok (.getfield 44, 3) := by decide +kernel
theorem dX5_undo_68 : decode cX5_undo 68 = .ok (.ireturn, 1) := by decide +kernel
theorem h9_X5_undo : yX5_undo.cls ≠ "java/lang/invoke/MethodHandle" ∧ yX5_undo.cls ≠ "java/lang/invoke/VarHandle" ∧ (parseMethodDescriptor yX5_undo.desc).map (fun d => d.parameters.length) = some 0 := by decide +kernel
noncomputable def F_X5_undo (a0 : Nat) (w : FW) : Option (Int32 × FW) :=
  fg (w.1 a0 = 6) inferInstance ((if (gI (sI w 500 a0 0 0) 505 a0 0) = 0 then (F_X5_fails a0 1 (sI w 500 a0 0 0)).bind (fun r17 => some (r17.1, r17.2)) else (fLoop (σ := Int32 × FW) (ρ := FW) (fun s3 => (if 177 ≤ s3.1 then some (.inr s3.2) else fg (w.1 (gR s3.2 504 a0 0) = 11) inferInstance (fg (¬ (((177 * (gI s3.2 505 a0 0)) + s3.1) < 0 ∨ w.2.1 (gR s3.2 504 a0 0) ≤ Int32.toNatClampNeg ((177 * (gI s3.2 505 a0 0)) + s3.1))) inferInstance (fg (w.1 (gR s3.2 501 a0 0) = 11) inferInstance (fg (¬ (s3.1 < 0 ∨ w.2.1 (gR s3.2 501 a0 0) ≤ Int32.toNatClampNeg s3.1)) inferInstance (some (.inl ((s3.1 + 1), (sI s3.2 601 (gR s3.2 501 a0 0) (Int32.toNatClampNeg s3.1) (gI s3.2 601 (gR s3.2 504 a0 0) (Int32.toNatClampNeg ((177 * (gI s3.2 505 a0 0)) + s3.1)))))))))))) (0, (sI (sI w 500 a0 0 0) 505 a0 0 ((gI (sI w 500 a0 0 0) 505 a0 0) - 1)))).bind (fun x9 => some ((gI x9 505 a0 0), x9))))
set_option maxHeartbeats 4000000 in
set_option maxRecDepth 100000 in
theorem c_X5_undo (l : Launch) (D : va_G) (cy : Nat → ClassId) (a0 : Nat) (w : FW) (r : Int32 × FW) (hF : F_X5_undo a0 w = some r) : fSpec l D cy yX5_undo cX5_undo 2 (some .int) { frames := 1, cells := 0, slots := 0, locals := 21 } [.ref a0] w r.2 (some (.int r.1)) := by
  refine f_begin (by decide +kernel) (Nat.le_of_ble_eq_true rfl) (fun X hC hEn => ?_)
  unfold F_X5_undo at hF
  show fAt X 0 0 2 w [(0, .ref a0)] [] 0
  refine f_aload_n hC dX5_undo_0 rfl 0 rfl ?_
  refine f_iconst (v := 0) hC dX5_undo_1 (by decide) ?_
  obtain ⟨g1, hF⟩ := fg_open hF
  refine f_putI hC 5 0 500 rfl (by decide) iX5 tyX5 tyX5_ok nmX5 q_1259 rfl rfl rfl rfl rfl (fSm.k (fSm.rf w) g1) dX5_undo_2 ?_
  refine f_aload_n hC dX5_undo_5 rfl 0 rfl ?_
  refine f_getI hC 5 5 505 rfl (by decide) iX5 q_1264 rfl rfl (fSm.k (fSm.rf w) g1) dX5_undo_6 ?_
  refine f_if_ne hC 18 dX5_undo_9 (by decide) (fun c2 => ?_) (fun c2 => ?_)
  · replace hF := fi_neg hF c2
    refine f_aload_n hC dX5_undo_18 rfl 0 rfl ?_
    refine f_dup hC dX5_undo_19 rfl ?_
    refine f_getI hC 5 5 505 rfl (by decide) iX5 q_1264 rfl rfl (fSm.k (fSm.rf w) g1) dX5_undo_20 ?_
    refine f_iconst (v := 1) hC dX5_undo_23 (by decide) ?_
    refine f_isub hC dX5_undo_24 ?_
    refine f_putI hC 5 5 505 rfl (by decide) iX5 tyX5 tyX5_ok nmX5 q_1264 rfl rfl rfl rfl rfl (fSm.k (fSm.rf w) g1) dX5_undo_25 ?_
    refine f_iconst (v := 0) hC dX5_undo_28 (by decide) ?_
    refine f_istore_n (L' := [(1, .int 0), (0, .ref a0)]) hC dX5_undo_29 rfl (by decide) rfl ?_
    obtain ⟨x9, h10, hF⟩ := fb_open hF
    have K11 : fSm x9 w → fAt X 0 0 2 x9 [(0, .ref a0)] [] 64 := by
      intro p7
      refine f_aload_n hC dX5_undo_64 rfl 0 rfl ?_
      refine f_getI hC 5 5 505 rfl (by decide) iX5 q_1264 rfl rfl (fSm.k p7 g1) dX5_undo_65 ?_
      obtain rfl := Option.some.inj hF
      exact f_iret hC hEn p7 dX5_undo_68
    refine f_sub (L' := [(0, .ref a0), (1, .int 0)]) [1, 0] rfl ?_
    refine fLoop_ind (fun (s3 : Int32 × FW) => fSm s3.2 w → fAt X 0 0 2 s3.2 [(0, .ref a0), (1, .int s3.1)] [] 30) (fun s3 y8 h4 go5 ou6 => ?_) h10 (fSm.rf w)
    intro p7
    refine f_iload_n hC dX5_undo_30 rfl 1 rfl ?_
    refine f_sipush (v := 177) hC dX5_undo_31 (by decide) ?_
    refine f_icmp_ge hC 64 dX5_undo_34 (by decide) (fun c12 => ?_) (fun c12 => ?_)
    · replace h4 := fi_pos h4 c12
      obtain rfl := Option.some.inj h4
      obtain rfl := ou6 _ rfl
      refine f_sub (L' := [(0, .ref a0)]) [0] rfl ?_
      exact K11 p7
    · replace h4 := fi_neg h4 c12
      refine f_aload_n hC dX5_undo_37 rfl 0 rfl ?_
      refine f_getR hC 5 1 501 rfl (by decide) iX5 q_1260 rfl rfl (fSm.k p7 g1) dX5_undo_38 ?_
      refine f_iload_n hC dX5_undo_41 rfl 1 rfl ?_
      refine f_aload_n hC dX5_undo_42 rfl 0 rfl ?_
      refine f_getR hC 5 4 504 rfl (by decide) iX5 q_1263 rfl rfl (fSm.k p7 g1) dX5_undo_43 ?_
      refine f_sipush (v := 177) hC dX5_undo_46 (by decide) ?_
      refine f_aload_n hC dX5_undo_49 rfl 0 rfl ?_
      refine f_getI hC 5 5 505 rfl (by decide) iX5 q_1264 rfl rfl (fSm.k p7 g1) dX5_undo_50 ?_
      refine f_imul hC dX5_undo_53 ?_
      refine f_iload_n hC dX5_undo_54 rfl 1 rfl ?_
      refine f_iadd hC dX5_undo_55 ?_
      obtain ⟨g13, h4⟩ := fg_open h4
      obtain ⟨g14, h4⟩ := fg_open h4
      refine f_iald hC (fSm.k p7 g13) (fSm.v p7 g14) dX5_undo_56 ?_
      obtain ⟨g15, h4⟩ := fg_open h4
      obtain ⟨g16, h4⟩ := fg_open h4
      refine f_iast hC (fSm.k p7 g15) (fSm.v p7 g16) dX5_undo_57 ?_
      refine f_iinc (L' := [(1, .int (s3.1 + 1)), (0, .ref a0)]) hC dX5_undo_58 1 rfl rfl (by decide) rfl ?_
      refine f_goto hC 30 dX5_undo_61 (by decide) ?_
      obtain rfl := Option.some.inj h4
      refine f_sub (L' := [(0, .ref a0), (1, .int (s3.1 + 1))]) [1, 0] rfl ?_
      exact go5 _ rfl p7
  · replace hF := fi_pos hF c2
    refine f_aload_n hC dX5_undo_12 rfl 0 rfl ?_
    refine f_iconst (v := 1) hC dX5_undo_13 (by decide) ?_
    obtain ⟨r17, h18, hF⟩ := fb_open hF
    refine f_callV hC [.int 1] (c_X5_fails l D cy a0 1 (sI w 500 a0 0 0) r17 h18) q_1380 q_137 q_1377 q_1379 q_79 h9_X5_fails rfl (fSm.k (fSm.rf w) g1) ⟨Nat.le_of_ble_eq_true rfl, Nat.le_of_ble_eq_true rfl⟩ ⟨Nat.le_of_ble_eq_true rfl, Nat.le_of_ble_eq_true rfl⟩ (Nat.le_of_ble_eq_true rfl) rfl dX5_undo_14 (fun e19 => ?_)
    obtain rfl := Option.some.inj hF
    exact f_iret hC hEn (fSm.tr e19 (fSm.rf w)) dX5_undo_17
theorem dX5_snapshot_0 : decode cX5_snapshot 0 = .ok (.aload_n 0, 1) := by decide +kernel
theorem dX5_snapshot_1 : decode cX5_snapshot 1 = .ok (.iconst 0, 1) := by decide +kernel
theorem dX5_snapshot_2 : decode cX5_snapshot 2 = .ok (.putfield 41, 3) := by decide +kernel
theorem dX5_snapshot_5 : decode cX5_snapshot 5 = .ok (.iconst 0, 1) := by decide +kernel
theorem dX5_snapshot_6 : decode cX5_snapshot 6 = .ok (.istore_n 1, 1) := by decide +kernel
theorem dX5_snapshot_7 : decode cX5_snapshot 7 = .ok (.iload_n 1, 1) := by decide +kernel
theorem dX5_snapshot_8 : decode cX5_snapshot 8 = .ok (.sipush 177, 3) := by decide +kernel
theorem dX5_snapshot_11 : decode cX5_snapshot 11 = .ok (.if_icmp .ge 21, 3) := by decide +kernel
theorem dX5_snapshot_14 : decode cX5_snapshot 14 = .ok (.aload_n 0, 1) := by decide +kernel
theorem dX5_snapshot_15 : decode cX5_snapshot 15 = .ok (.getfield 16, 3) := by decide +kernel
theorem dX5_snapshot_18 : decode cX5_snapshot 18 = .ok (.iload_n 1, 1) := by decide +kernel
theorem dX5_snapshot_19 : decode cX5_snapshot 19 = .ok (.aload_n 0, 1) := by decide +kernel
theorem dX5_snapshot_20 : decode cX5_snapshot 20 = .ok (.getfield 7, 3) := by decide +kernel
theorem dX5_snapshot_23 : decode cX5_snapshot 23 = .ok (.iload_n 1, 1) := by decide +kernel
theorem dX5_snapshot_24 : decode cX5_snapshot 24 = .ok (.iaload, 1) := by decide +kernel
theorem dX5_snapshot_25 : decode cX5_snapshot 25 = .ok (.iastore, 1) := by decide +kernel
theorem dX5_snapshot_26 : decode cX5_snapshot 26 = .ok (.iinc 1 1, 3) := by decide +kernel
theorem dX5_snapshot_29 : decode cX5_snapshot 29 = .ok (.goto (-22), 3) := by decide +kernel
theorem dX5_snapshot_32 : decode cX5_snapshot 32 = .ok (.aload_n 0, 1) := by decide +kernel
theorem dX5_snapshot_33 : decode cX5_snapshot 33 = .ok (.iconst 1, 1) := by decide +kernel
theorem dX5_snapshot_34 : decode cX5_snapshot 34 = .ok (.putfield 288, 3) := by decide +kernel
theorem dX5_snapshot_37 : decode cX5_snapshot 37 = .ok (.aload_n 0, 1) := by decide +kernel
theorem dX5_snapshot_38 : decode cX5_snapshot 38 = .ok (.getfield 7, 3) := by decide +kernel
theorem dX5_snapshot_41 : decode cX5_snapshot 41 = .ok (.iconst 0, 1) := by decide +kernel
theorem dX5_snapshot_42 : decode cX5_snapshot 42 = .ok (.iaload, 1) := by decide +kernel
theorem dX5_snapshot_43 : decode cX5_snapshot 43 = .ok (.ireturn, 1) := by decide +kernel
theorem h9_X5_snapshot : yX5_snapshot.cls ≠ "java/lang/invoke/MethodHandle" ∧ yX5_snapshot.cls ≠ "java/lang/invoke/VarHandle" ∧ (parseMethodDescriptor yX5_snapshot.desc).map (fun d => d.parameters.length) = some 0 := by decide +kernel
noncomputable def F_X5_snapshot (a0 : Nat) (w : FW) : Option (Int32 × FW) :=
  fg (w.1 a0 = 6) inferInstance ((fLoop (σ := Int32 × FW) (ρ := FW) (fun s2 => (if 177 ≤ s2.1 then some (.inr s2.2) else fg (w.1 (gR s2.2 501 a0 0) = 11) inferInstance (fg (¬ (s2.1 < 0 ∨ w.2.1 (gR s2.2 501 a0 0) ≤ Int32.toNatClampNeg s2.1)) inferInstance (fg (w.1 (gR s2.2 503 a0 0) = 11) inferInstance (fg (¬ (s2.1 < 0 ∨ w.2.1 (gR s2.2 503 a0 0) ≤ Int32.toNatClampNeg s2.1)) inferInstance (some (.inl ((s2.1 + 1), (sI s2.2 601 (gR s2.2 503 a0 0) (Int32.toNatClampNeg s2.1) (gI s2.2 601 (gR s2.2 501 a0 0) (Int32.toNatClampNeg s2.1))))))))))) (0, (sI w 500 a0 0 0))).bind (fun x8 => fg (w.1 (gR x8 501 a0 0) = 11) inferInstance (fg (¬ ((0 : Int32) < 0 ∨ w.2.1 (gR x8 501 a0 0) ≤ Int32.toNatClampNeg 0)) inferInstance (some ((gI (sI x8 506 a0 0 1) 601 (gR (sI x8 506 a0 0 1) 501 a0 0) (Int32.toNatClampNeg 0)), (sI x8 506 a0 0 1))))))
set_option maxHeartbeats 4000000 in
set_option maxRecDepth 100000 in
theorem c_X5_snapshot (l : Launch) (D : va_G) (cy : Nat → ClassId) (a0 : Nat) (w : FW) (r : Int32 × FW) (hF : F_X5_snapshot a0 w = some r) : fSpec l D cy yX5_snapshot cX5_snapshot 2 (some .int) { frames := 0, cells := 0, slots := 0, locals := 0 } [.ref a0] w r.2 (some (.int r.1)) := by
  refine f_begin (by decide +kernel) (Nat.le_of_ble_eq_true rfl) (fun X hC hEn => ?_)
  unfold F_X5_snapshot at hF
  show fAt X 0 0 2 w [(0, .ref a0)] [] 0
  refine f_aload_n hC dX5_snapshot_0 rfl 0 rfl ?_
  refine f_iconst (v := 0) hC dX5_snapshot_1 (by decide) ?_
  obtain ⟨g1, hF⟩ := fg_open hF
  refine f_putI hC 5 0 500 rfl (by decide) iX5 tyX5 tyX5_ok nmX5 q_1259 rfl rfl rfl rfl rfl (fSm.k (fSm.rf w) g1) dX5_snapshot_2 ?_
  refine f_iconst (v := 0) hC dX5_snapshot_5 (by decide) ?_
  refine f_istore_n (L' := [(1, .int 0), (0, .ref a0)]) hC dX5_snapshot_6 rfl (by decide) rfl ?_
  obtain ⟨x8, h9, hF⟩ := fb_open hF
  have K10 : fSm x8 w → fAt X 0 0 2 x8 [(0, .ref a0)] [] 32 := by
    intro p6
    refine f_aload_n hC dX5_snapshot_32 rfl 0 rfl ?_
    refine f_iconst (v := 1) hC dX5_snapshot_33 (by decide) ?_
    refine f_putI hC 5 6 506 rfl (by decide) iX5 tyX5 tyX5_ok nmX5 q_1265 rfl rfl rfl (nar_z (by decide)) (fit_z (by decide)) (fSm.k p6 g1) dX5_snapshot_34 ?_
    refine f_aload_n hC dX5_snapshot_37 rfl 0 rfl ?_
    refine f_getR hC 5 1 501 rfl (by decide) iX5 q_1260 rfl rfl (fSm.k p6 g1) dX5_snapshot_38 ?_
    refine f_iconst (v := 0) hC dX5_snapshot_41 (by decide) ?_
    obtain ⟨g16, hF⟩ := fg_open hF
    obtain ⟨g17, hF⟩ := fg_open hF
    refine f_iald hC (fSm.k p6 g16) (fSm.v p6 g17) dX5_snapshot_42 ?_
    obtain rfl := Option.some.inj hF
    exact f_iret hC hEn p6 dX5_snapshot_43
  refine f_sub (L' := [(0, .ref a0), (1, .int 0)]) [1, 0] rfl ?_
  refine fLoop_ind (fun (s2 : Int32 × FW) => fSm s2.2 w → fAt X 0 0 2 s2.2 [(0, .ref a0), (1, .int s2.1)] [] 7) (fun s2 y7 h3 go4 ou5 => ?_) h9 (fSm.rf w)
  intro p6
  refine f_iload_n hC dX5_snapshot_7 rfl 1 rfl ?_
  refine f_sipush (v := 177) hC dX5_snapshot_8 (by decide) ?_
  refine f_icmp_ge hC 32 dX5_snapshot_11 (by decide) (fun c11 => ?_) (fun c11 => ?_)
  · replace h3 := fi_pos h3 c11
    obtain rfl := Option.some.inj h3
    obtain rfl := ou5 _ rfl
    refine f_sub (L' := [(0, .ref a0)]) [0] rfl ?_
    exact K10 p6
  · replace h3 := fi_neg h3 c11
    refine f_aload_n hC dX5_snapshot_14 rfl 0 rfl ?_
    refine f_getR hC 5 3 503 rfl (by decide) iX5 q_1262 rfl rfl (fSm.k p6 g1) dX5_snapshot_15 ?_
    refine f_iload_n hC dX5_snapshot_18 rfl 1 rfl ?_
    refine f_aload_n hC dX5_snapshot_19 rfl 0 rfl ?_
    refine f_getR hC 5 1 501 rfl (by decide) iX5 q_1260 rfl rfl (fSm.k p6 g1) dX5_snapshot_20 ?_
    refine f_iload_n hC dX5_snapshot_23 rfl 1 rfl ?_
    obtain ⟨g12, h3⟩ := fg_open h3
    obtain ⟨g13, h3⟩ := fg_open h3
    refine f_iald hC (fSm.k p6 g12) (fSm.v p6 g13) dX5_snapshot_24 ?_
    obtain ⟨g14, h3⟩ := fg_open h3
    obtain ⟨g15, h3⟩ := fg_open h3
    refine f_iast hC (fSm.k p6 g14) (fSm.v p6 g15) dX5_snapshot_25 ?_
    refine f_iinc (L' := [(1, .int (s2.1 + 1)), (0, .ref a0)]) hC dX5_snapshot_26 1 rfl rfl (by decide) rfl ?_
    refine f_goto hC 7 dX5_snapshot_29 (by decide) ?_
    obtain rfl := Option.some.inj h3
    refine f_sub (L' := [(0, .ref a0), (1, .int (s2.1 + 1))]) [1, 0] rfl ?_
    exact go4 _ rfl p6
theorem dX5_restore_0 : decode cX5_restore 0 = .ok (.aload_n 0, 1) := by decide +kernel
theorem dX5_restore_1 : decode cX5_restore 1 = .ok (.iconst 0, 1) := by decide +kernel
theorem dX5_restore_2 : decode cX5_restore 2 = .ok (.putfield 41, 3) := by decide +kernel
theorem dX5_restore_5 : decode cX5_restore 5 = .ok (.aload_n 0, 1) := by decide +kernel
theorem dX5_restore_6 : decode cX5_restore 6 = .ok (.getfield 288, 3) := by decide +kernel
theorem dX5_restore_9 : decode cX5_restore 9 = .ok (.ifCond .ne 9, 3) := by decide +kernel
theorem dX5_restore_12 : decode cX5_restore 12 = .ok (.aload_n 0, 1) := by decide +kernel
theorem dX5_restore_13 : decode cX5_restore 13 = .ok (.iconst 1, 1) := by decide +kernel
theorem dX5_restore_14 : decode cX5_restore 14 = .ok (.invokevirtual 57, 3) := by decide +kernel
theorem dX5_restore_17 : decode cX5_restore 17 = .ok (.ireturn, 1) := by decide +kernel
theorem dX5_restore_18 : decode cX5_restore 18 = .ok (.iconst 0, 1) := by decide +kernel
theorem dX5_restore_19 : decode cX5_restore 19 = .ok (.istore_n 1, 1) := by decide +kernel
theorem dX5_restore_20 : decode cX5_restore 20 = .ok (.iload_n 1, 1) := by decide +kernel
theorem dX5_restore_21 : decode cX5_restore 21 = .ok (.sipush 177, 3) := by decide +kernel
theorem dX5_restore_24 : decode cX5_restore 24 = .ok (.if_icmp .ge 21, 3) := by decide +kernel
theorem dX5_restore_27 : decode cX5_restore 27 = .ok (.aload_n 0, 1) := by decide +kernel
theorem dX5_restore_28 : decode cX5_restore 28 = .ok (.getfield 7, 3) := by decide +kernel
theorem dX5_restore_31 : decode cX5_restore 31 = .ok (.iload_n 1, 1) := by decide +kernel
theorem dX5_restore_32 : decode cX5_restore 32 = .ok (.aload_n 0, 1) := by decide +kernel
theorem dX5_restore_33 : decode cX5_restore 33 = .ok (.getfield 16, 3) := by decide +kernel
theorem dX5_restore_36 : decode cX5_restore 36 = .ok (.iload_n 1, 1) := by decide +kernel
theorem dX5_restore_37 : decode cX5_restore 37 = .ok (.iaload, 1) := by decide +kernel
theorem dX5_restore_38 : decode cX5_restore 38 = .ok (.iastore, 1) := by decide +kernel
theorem dX5_restore_39 : decode cX5_restore 39 = .ok (.iinc 1 1, 3) := by decide +kernel
theorem dX5_restore_42 : decode cX5_restore 42 = .ok (.goto (-22), 3) := by decide +kernel
theorem dX5_restore_45 : decode cX5_restore 45 = .ok (.aload_n 0, 1) := by decide +kernel
theorem dX5_restore_46 : decode cX5_restore 46 = .ok (.iconst 0, 1) := by decide +kernel
theorem dX5_restore_47 : decode cX5_restore 47 = .ok (.putfield 44, 3) := by decide +kernel
theorem dX5_restore_50 : decode cX5_restore 50 = .ok (.aload_n 0, 1) := by decide +kernel
theorem dX5_restore_51 : decode cX5_restore 51 = .ok (.getfield 7, 3) := by decide +kernel
theorem dX5_restore_54 : decode cX5_restore 54 = .ok (.iconst 0, 1) := by decide +kernel
theorem dX5_restore_55 : decode cX5_restore 55 = .ok (.iaload, 1) := by decide +kernel
theorem dX5_restore_56 : decode cX5_restore 56 = .ok (.ireturn, 1) := by decide +kernel
theorem h9_X5_restore : yX5_restore.cls ≠ "java/lang/invoke/MethodHandle" ∧ yX5_restore.cls ≠ "java/lang/invoke/VarHandle" ∧ (parseMethodDescriptor yX5_restore.desc).map (fun d => d.parameters.length) = some 0 := by decide +kernel
noncomputable def F_X5_restore (a0 : Nat) (w : FW) : Option (Int32 × FW) :=
  fg (w.1 a0 = 6) inferInstance ((if (gI (sI w 500 a0 0 0) 506 a0 0) = 0 then (F_X5_fails a0 1 (sI w 500 a0 0 0)).bind (fun r19 => some (r19.1, r19.2)) else (fLoop (σ := Int32 × FW) (ρ := FW) (fun s3 => (if 177 ≤ s3.1 then some (.inr s3.2) else fg (w.1 (gR s3.2 503 a0 0) = 11) inferInstance (fg (¬ (s3.1 < 0 ∨ w.2.1 (gR s3.2 503 a0 0) ≤ Int32.toNatClampNeg s3.1)) inferInstance (fg (w.1 (gR s3.2 501 a0 0) = 11) inferInstance (fg (¬ (s3.1 < 0 ∨ w.2.1 (gR s3.2 501 a0 0) ≤ Int32.toNatClampNeg s3.1)) inferInstance (some (.inl ((s3.1 + 1), (sI s3.2 601 (gR s3.2 501 a0 0) (Int32.toNatClampNeg s3.1) (gI s3.2 601 (gR s3.2 503 a0 0) (Int32.toNatClampNeg s3.1))))))))))) (0, (sI w 500 a0 0 0))).bind (fun x9 => fg (w.1 (gR x9 501 a0 0) = 11) inferInstance (fg (¬ ((0 : Int32) < 0 ∨ w.2.1 (gR x9 501 a0 0) ≤ Int32.toNatClampNeg 0)) inferInstance (some ((gI (sI x9 505 a0 0 0) 601 (gR (sI x9 505 a0 0 0) 501 a0 0) (Int32.toNatClampNeg 0)), (sI x9 505 a0 0 0)))))))
set_option maxHeartbeats 4000000 in
set_option maxRecDepth 100000 in
theorem c_X5_restore (l : Launch) (D : va_G) (cy : Nat → ClassId) (a0 : Nat) (w : FW) (r : Int32 × FW) (hF : F_X5_restore a0 w = some r) : fSpec l D cy yX5_restore cX5_restore 2 (some .int) { frames := 1, cells := 0, slots := 0, locals := 21 } [.ref a0] w r.2 (some (.int r.1)) := by
  refine f_begin (by decide +kernel) (Nat.le_of_ble_eq_true rfl) (fun X hC hEn => ?_)
  unfold F_X5_restore at hF
  show fAt X 0 0 2 w [(0, .ref a0)] [] 0
  refine f_aload_n hC dX5_restore_0 rfl 0 rfl ?_
  refine f_iconst (v := 0) hC dX5_restore_1 (by decide) ?_
  obtain ⟨g1, hF⟩ := fg_open hF
  refine f_putI hC 5 0 500 rfl (by decide) iX5 tyX5 tyX5_ok nmX5 q_1259 rfl rfl rfl rfl rfl (fSm.k (fSm.rf w) g1) dX5_restore_2 ?_
  refine f_aload_n hC dX5_restore_5 rfl 0 rfl ?_
  refine f_getI hC 5 6 506 rfl (by decide) iX5 q_1265 rfl rfl (fSm.k (fSm.rf w) g1) dX5_restore_6 ?_
  refine f_if_ne hC 18 dX5_restore_9 (by decide) (fun c2 => ?_) (fun c2 => ?_)
  · replace hF := fi_neg hF c2
    refine f_iconst (v := 0) hC dX5_restore_18 (by decide) ?_
    refine f_istore_n (L' := [(1, .int 0), (0, .ref a0)]) hC dX5_restore_19 rfl (by decide) rfl ?_
    obtain ⟨x9, h10, hF⟩ := fb_open hF
    have K11 : fSm x9 w → fAt X 0 0 2 x9 [(0, .ref a0)] [] 45 := by
      intro p7
      refine f_aload_n hC dX5_restore_45 rfl 0 rfl ?_
      refine f_iconst (v := 0) hC dX5_restore_46 (by decide) ?_
      refine f_putI hC 5 5 505 rfl (by decide) iX5 tyX5 tyX5_ok nmX5 q_1264 rfl rfl rfl rfl rfl (fSm.k p7 g1) dX5_restore_47 ?_
      refine f_aload_n hC dX5_restore_50 rfl 0 rfl ?_
      refine f_getR hC 5 1 501 rfl (by decide) iX5 q_1260 rfl rfl (fSm.k p7 g1) dX5_restore_51 ?_
      refine f_iconst (v := 0) hC dX5_restore_54 (by decide) ?_
      obtain ⟨g17, hF⟩ := fg_open hF
      obtain ⟨g18, hF⟩ := fg_open hF
      refine f_iald hC (fSm.k p7 g17) (fSm.v p7 g18) dX5_restore_55 ?_
      obtain rfl := Option.some.inj hF
      exact f_iret hC hEn p7 dX5_restore_56
    refine f_sub (L' := [(0, .ref a0), (1, .int 0)]) [1, 0] rfl ?_
    refine fLoop_ind (fun (s3 : Int32 × FW) => fSm s3.2 w → fAt X 0 0 2 s3.2 [(0, .ref a0), (1, .int s3.1)] [] 20) (fun s3 y8 h4 go5 ou6 => ?_) h10 (fSm.rf w)
    intro p7
    refine f_iload_n hC dX5_restore_20 rfl 1 rfl ?_
    refine f_sipush (v := 177) hC dX5_restore_21 (by decide) ?_
    refine f_icmp_ge hC 45 dX5_restore_24 (by decide) (fun c12 => ?_) (fun c12 => ?_)
    · replace h4 := fi_pos h4 c12
      obtain rfl := Option.some.inj h4
      obtain rfl := ou6 _ rfl
      refine f_sub (L' := [(0, .ref a0)]) [0] rfl ?_
      exact K11 p7
    · replace h4 := fi_neg h4 c12
      refine f_aload_n hC dX5_restore_27 rfl 0 rfl ?_
      refine f_getR hC 5 1 501 rfl (by decide) iX5 q_1260 rfl rfl (fSm.k p7 g1) dX5_restore_28 ?_
      refine f_iload_n hC dX5_restore_31 rfl 1 rfl ?_
      refine f_aload_n hC dX5_restore_32 rfl 0 rfl ?_
      refine f_getR hC 5 3 503 rfl (by decide) iX5 q_1262 rfl rfl (fSm.k p7 g1) dX5_restore_33 ?_
      refine f_iload_n hC dX5_restore_36 rfl 1 rfl ?_
      obtain ⟨g13, h4⟩ := fg_open h4
      obtain ⟨g14, h4⟩ := fg_open h4
      refine f_iald hC (fSm.k p7 g13) (fSm.v p7 g14) dX5_restore_37 ?_
      obtain ⟨g15, h4⟩ := fg_open h4
      obtain ⟨g16, h4⟩ := fg_open h4
      refine f_iast hC (fSm.k p7 g15) (fSm.v p7 g16) dX5_restore_38 ?_
      refine f_iinc (L' := [(1, .int (s3.1 + 1)), (0, .ref a0)]) hC dX5_restore_39 1 rfl rfl (by decide) rfl ?_
      refine f_goto hC 20 dX5_restore_42 (by decide) ?_
      obtain rfl := Option.some.inj h4
      refine f_sub (L' := [(0, .ref a0), (1, .int (s3.1 + 1))]) [1, 0] rfl ?_
      exact go5 _ rfl p7
  · replace hF := fi_pos hF c2
    refine f_aload_n hC dX5_restore_12 rfl 0 rfl ?_
    refine f_iconst (v := 1) hC dX5_restore_13 (by decide) ?_
    obtain ⟨r19, h20, hF⟩ := fb_open hF
    refine f_callV hC [.int 1] (c_X5_fails l D cy a0 1 (sI w 500 a0 0 0) r19 h20) q_1380 q_137 q_1377 q_1379 q_79 h9_X5_fails rfl (fSm.k (fSm.rf w) g1) ⟨Nat.le_of_ble_eq_true rfl, Nat.le_of_ble_eq_true rfl⟩ ⟨Nat.le_of_ble_eq_true rfl, Nat.le_of_ble_eq_true rfl⟩ (Nat.le_of_ble_eq_true rfl) rfl dX5_restore_14 (fun e21 => ?_)
    obtain rfl := Option.some.inj hF
    exact f_iret hC hEn (fSm.tr e21 (fSm.rf w)) dX5_restore_17
