theorem dX5_throwsAway_0 : decode cX5_throwsAway 0 = .ok (.aload_n 0, 1) := by decide +kernel
theorem dX5_throwsAway_1 : decode cX5_throwsAway 1 = .ok (.iload_n 1, 1) := by decide +kernel
theorem dX5_throwsAway_2 : decode cX5_throwsAway 2 = .ok (.invokevirtual 135, 3) := by decide +kernel
theorem dX5_throwsAway_5 : decode cX5_throwsAway 5 = .ok (.ifCond .ne 5, 3) := by decide +kernel
theorem dX5_throwsAway_8 : decode cX5_throwsAway 8 = .ok (.iconst (-1), 1) := by decide +kernel
theorem dX5_throwsAway_9 : decode cX5_throwsAway 9 = .ok (.ireturn, 1) := by decide +kernel
theorem dX5_throwsAway_10 : decode cX5_throwsAway 10 = .ok (.aload_n 0, 1) := by decide +kernel
theorem dX5_throwsAway_11 : decode cX5_throwsAway 11 = .ok (.getfield 7, 3) := by decide +kernel
theorem dX5_throwsAway_14 : decode cX5_throwsAway 14 = .ok (.iconst 0, 1) := by decide +kernel
theorem dX5_throwsAway_15 : decode cX5_throwsAway 15 = .ok (.iaload, 1) := by decide +kernel
theorem dX5_throwsAway_16 : decode cX5_throwsAway 16 = .ok (.iconst 1, 1) := by decide +kernel
theorem dX5_throwsAway_17 : decode cX5_throwsAway 17 = .ok (.isub, 1) := by decide +kernel
theorem dX5_throwsAway_18 : decode cX5_throwsAway 18 = .ok (.istore_n 2, 1) := by decide +kernel
theorem dX5_throwsAway_19 : decode cX5_throwsAway 19 = .ok (.bipush 20, 2) := by decide +kernel
theorem dX5_throwsAway_21 : decode cX5_throwsAway 21 = .ok (.iload_n 1, 1) := by decide +kernel
theorem dX5_throwsAway_22 : decode cX5_throwsAway 22 = .ok (.imul, 1) := by decide +kernel
theorem dX5_throwsAway_23 : decode cX5_throwsAway 23 = .ok (.istore_n 3, 1) := by decide +kernel
theorem dX5_throwsAway_24 : decode cX5_throwsAway 24 = .ok (.iload_n 3, 1) := by decide +kernel
theorem dX5_throwsAway_25 : decode cX5_throwsAway 25 = .ok (.bipush 20, 2) := by decide +kernel
theorem dX5_throwsAway_27 : decode cX5_throwsAway 27 = .ok (.iload_n 2, 1) := by decide +kernel
theorem dX5_throwsAway_28 : decode cX5_throwsAway 28 = .ok (.imul, 1) := by decide +kernel
theorem dX5_throwsAway_29 : decode cX5_throwsAway 29 = .ok (.if_icmp .ge 30, 3) := by decide +kernel
theorem dX5_throwsAway_32 : decode cX5_throwsAway 32 = .ok (.aload_n 0, 1) := by decide +kernel
theorem dX5_throwsAway_33 : decode cX5_throwsAway 33 = .ok (.getfield 7, 3) := by decide +kernel
theorem dX5_throwsAway_36 : decode cX5_throwsAway 36 = .ok (.bipush 17, 2) := by decide +kernel
theorem dX5_throwsAway_38 : decode cX5_throwsAway 38 = .ok (.iload_n 3, 1) := by decide +kernel
theorem dX5_throwsAway_39 : decode cX5_throwsAway 39 = .ok (.iadd, 1) := by decide +kernel
theorem dX5_throwsAway_40 : decode cX5_throwsAway 40 = .ok (.aload_n 0, 1) := by decide +kernel
theorem dX5_throwsAway_41 : decode cX5_throwsAway 41 = .ok (.getfield 7, 3) := by decide +kernel
theorem dX5_throwsAway_44 : decode cX5_throwsAway 44 = .ok (.bipush 17, 2) := by decide +kernel
theorem dX5_throwsAway_46 : decode cX5_throwsAway 46 = .ok (.iload_n 3, 1) := by decide +kernel
theorem dX5_throwsAway_47 : decode cX5_throwsAway 47 = .ok (.iadd, 1) := by decide +kernel
theorem dX5_throwsAway_48 : decode cX5_throwsAway 48 = .ok (.bipush 20, 2) := by decide +kernel
theorem dX5_throwsAway_50 : decode cX5_throwsAway 50 = .ok (.iadd, 1) := by decide +kernel
theorem dX5_throwsAway_51 : decode cX5_throwsAway 51 = .ok (.iaload, 1) := by decide +kernel
theorem dX5_throwsAway_52 : decode cX5_throwsAway 52 = .ok (.iastore, 1) := by decide +kernel
theorem dX5_throwsAway_53 : decode cX5_throwsAway 53 = .ok (.iinc 3 1, 3) := by decide +kernel
theorem dX5_throwsAway_56 : decode cX5_throwsAway 56 = .ok (.goto (-32), 3) := by decide +kernel
theorem dX5_throwsAway_59 : decode cX5_throwsAway 59 = .ok (.iconst 0, 1) := by decide +kernel
theorem dX5_throwsAway_60 : decode cX5_throwsAway 60 = .ok (.istore_n 3, 1) := by decide +kernel
theorem dX5_throwsAway_61 : decode cX5_throwsAway 61 = .ok (.iload_n 3, 1) := by decide +kernel
theorem dX5_throwsAway_62 : decode cX5_throwsAway 62 = .ok (.bipush 20, 2) := by decide +kernel
theorem dX5_throwsAway_64 : decode cX5_throwsAway 64 = .ok (.if_icmp .ge 24, 3) := by decide +kernel
theorem dX5_throwsAway_67 : decode cX5_throwsAway 67 = .ok (.aload_n 0, 1) := by decide +kernel
theorem dX5_throwsAway_68 : decode cX5_throwsAway 68 = .ok (.getfield 7, 3) := by decide +kernel
theorem dX5_throwsAway_71 : decode cX5_throwsAway 71 = .ok (.bipush 17, 2) := by decide +kernel
theorem dX5_throwsAway_73 : decode cX5_throwsAway 73 = .ok (.bipush 20, 2) := by decide +kernel
theorem dX5_throwsAway_75 : decode cX5_throwsAway 75 = .ok (.iload_n 2, 1) := by decide +kernel
theorem dX5_throwsAway_76 : decode cX5_throwsAway 76 = .ok (.imul, 1) := by decide +kernel
theorem dX5_throwsAway_77 : decode cX5_throwsAway 77 = .ok (.iadd, 1) := by decide +kernel
theorem dX5_throwsAway_78 : decode cX5_throwsAway 78 = .ok (.iload_n 3, 1) := by decide +kernel
theorem dX5_throwsAway_79 : decode cX5_throwsAway 79 = .ok (.iadd, 1) := by decide +kernel
theorem dX5_throwsAway_80 : decode cX5_throwsAway 80 = .ok (.iconst 0, 1) := by decide +kernel
theorem dX5_throwsAway_81 : decode cX5_throwsAway 81 = .ok (.iastore, 1) := by decide +kernel
theorem dX5_throwsAway_82 : decode cX5_throwsAway 82 = .ok (.iinc 3 1, 3) := by decide +kernel
theorem dX5_throwsAway_85 : decode cX5_throwsAway 85 = .ok (.goto (-24), 3) := by decide +kernel
theorem dX5_throwsAway_88 : decode cX5_throwsAway 88 = .ok (.aload_n 0, 1) := by decide +kernel
theorem dX5_throwsAway_89 : decode cX5_throwsAway 89 = .ok (.getfield 7, 3) := by decide +kernel
theorem dX5_throwsAway_92 : decode cX5_throwsAway 92 = .ok (.iconst 0, 1) := by decide +kernel
theorem dX5_throwsAway_93 : decode cX5_throwsAway 93 = .ok (.iload_n 2, 1) := by decide +kernel
theorem dX5_throwsAway_94 : decode cX5_throwsAway 94 = .ok (.iastore, 1) := by decide +kernel
theorem dX5_throwsAway_95 : decode cX5_throwsAway 95 = .ok (.aload_n 0, 1) := by decide +kernel
theorem dX5_throwsAway_96 : decode cX5_throwsAway 96 = .ok (.iload_n 2, 1) := by decide +kernel
theorem dX5_throwsAway_97 : decode cX5_throwsAway 97 = .ok (.invokevirtual 125, 3) := by decide +kernel
theorem dX5_throwsAway_100 : decode cX5_throwsAway 100 = .ok (.ireturn, 1) := by decide +kernel
theorem h9_X5_throwsAway : yX5_throwsAway.cls ≠ "java/lang/invoke/MethodHandle" ∧ yX5_throwsAway.cls ≠ "java/lang/invoke/VarHandle" ∧ (parseMethodDescriptor yX5_throwsAway.desc).map (fun d => d.parameters.length) = some 1 := by decide +kernel
noncomputable def F_X5_throwsAway (a0 : Nat) (x1 : Int32) (w : FW) : Option (Int32 × FW) :=
  fg (w.1 a0 = 6) inferInstance ((F_X5_isTicket a0 x1 w).bind (fun r1 => (if r1 = 0 then some ((-1), w) else fg (w.1 (gR w 501 a0 0) = 11) inferInstance (fg (¬ ((0 : Int32) < 0 ∨ w.2.1 (gR w 501 a0 0) ≤ Int32.toNatClampNeg 0)) inferInstance ((fLoop (σ := Int32 × FW) (ρ := FW) (fun s8 => (if (20 * ((gI w 601 (gR w 501 a0 0) (Int32.toNatClampNeg 0)) - 1)) ≤ s8.1 then some (.inr s8.2) else fg (w.1 (gR s8.2 501 a0 0) = 11) inferInstance (fg (¬ (((17 + s8.1) + 20) < 0 ∨ w.2.1 (gR s8.2 501 a0 0) ≤ Int32.toNatClampNeg ((17 + s8.1) + 20))) inferInstance (fg (¬ ((17 + s8.1) < 0 ∨ w.2.1 (gR s8.2 501 a0 0) ≤ Int32.toNatClampNeg (17 + s8.1))) inferInstance (some (.inl ((s8.1 + 1), (sI s8.2 601 (gR s8.2 501 a0 0) (Int32.toNatClampNeg (17 + s8.1)) (gI s8.2 601 (gR s8.2 501 a0 0) (Int32.toNatClampNeg ((17 + s8.1) + 20))))))))))) ((20 * x1), w)).bind (fun x14 => (fLoop (σ := Int32 × FW) (ρ := FW) (fun s21 => (if 20 ≤ s21.1 then some (.inr s21.2) else fg (w.1 (gR s21.2 501 a0 0) = 11) inferInstance (fg (¬ (((17 + (20 * ((gI w 601 (gR w 501 a0 0) (Int32.toNatClampNeg 0)) - 1))) + s21.1) < 0 ∨ w.2.1 (gR s21.2 501 a0 0) ≤ Int32.toNatClampNeg ((17 + (20 * ((gI w 601 (gR w 501 a0 0) (Int32.toNatClampNeg 0)) - 1))) + s21.1))) inferInstance (some (.inl ((s21.1 + 1), (sI s21.2 601 (gR s21.2 501 a0 0) (Int32.toNatClampNeg ((17 + (20 * ((gI w 601 (gR w 501 a0 0) (Int32.toNatClampNeg 0)) - 1))) + s21.1)) 0))))))) (0, x14)).bind (fun x27 => fg (w.1 (gR x27 501 a0 0) = 11) inferInstance (fg (¬ ((0 : Int32) < 0 ∨ w.2.1 (gR x27 501 a0 0) ≤ Int32.toNatClampNeg 0)) inferInstance ((F_X5_done a0 ((gI w 601 (gR w 501 a0 0) (Int32.toNatClampNeg 0)) - 1) (sI x27 601 (gR x27 501 a0 0) (Int32.toNatClampNeg 0) ((gI w 601 (gR w 501 a0 0) (Int32.toNatClampNeg 0)) - 1))).bind (fun r35 => some (r35.1, r35.2)))))))))))
set_option maxHeartbeats 4000000 in
set_option maxRecDepth 100000 in
theorem c_X5_throwsAway (l : Launch) (D : va_G) (cy : Nat → ClassId) (a0 : Nat) (x1 : Int32) (w : FW) (r : Int32 × FW) (hF : F_X5_throwsAway a0 x1 w = some r) : fSpec l D cy yX5_throwsAway cX5_throwsAway 4 (some .int) { frames := 2, cells := 0, slots := 0, locals := 43 } [.ref a0, .int x1] w r.2 (some (.int r.1)) := by
  refine f_begin (by decide +kernel) (Nat.le_of_ble_eq_true rfl) (fun X hC hEn => ?_)
  unfold F_X5_throwsAway at hF
  show fAt X 0 0 4 w [(0, .ref a0), (1, .int x1)] [] 0
  refine f_aload_n hC dX5_throwsAway_0 rfl 0 rfl ?_
  refine f_iload_n hC dX5_throwsAway_1 rfl 1 rfl ?_
  obtain ⟨g3, hF⟩ := fg_open hF
  obtain ⟨r1, h2, hF⟩ := fb_open hF
  refine f_callV hC [.int x1] (c_X5_isTicket l D cy a0 x1 w r1 h2) q_1420 q_137 q_1417 q_1419 q_86 h9_X5_isTicket rfl (fSm.k (fSm.rf w) g3) ⟨Nat.le_of_ble_eq_true rfl, Nat.le_of_ble_eq_true rfl⟩ ⟨Nat.le_of_ble_eq_true rfl, Nat.le_of_ble_eq_true rfl⟩ (Nat.le_of_ble_eq_true rfl) rfl dX5_throwsAway_2 (fun e4 => ?_)
  refine f_if_ne hC 10 dX5_throwsAway_5 (by decide) (fun c5 => ?_) (fun c5 => ?_)
  · replace hF := fi_neg hF c5
    refine f_aload_n hC dX5_throwsAway_10 rfl 0 rfl ?_
    refine f_getR hC 5 1 501 rfl (by decide) iX5 q_1260 rfl rfl (fSm.k (fSm.rf w) g3) dX5_throwsAway_11 ?_
    refine f_iconst (v := 0) hC dX5_throwsAway_14 (by decide) ?_
    obtain ⟨g6, hF⟩ := fg_open hF
    obtain ⟨g7, hF⟩ := fg_open hF
    refine f_iald hC (fSm.k (fSm.rf w) g6) (fSm.v (fSm.rf w) g7) dX5_throwsAway_15 ?_
    refine f_iconst (v := 1) hC dX5_throwsAway_16 (by decide) ?_
    refine f_isub hC dX5_throwsAway_17 ?_
    refine f_istore_n (L' := [(2, .int ((gI w 601 (gR w 501 a0 0) (Int32.toNatClampNeg 0)) - 1)), (0, .ref a0), (1, .int x1)]) hC dX5_throwsAway_18 rfl (by decide) rfl ?_
    refine f_bipush (v := 20) hC dX5_throwsAway_19 (by decide) ?_
    refine f_iload_n hC dX5_throwsAway_21 rfl 2 rfl ?_
    refine f_imul hC dX5_throwsAway_22 ?_
    refine f_istore_n (L' := [(3, .int (20 * x1)), (2, .int ((gI w 601 (gR w 501 a0 0) (Int32.toNatClampNeg 0)) - 1)), (0, .ref a0), (1, .int x1)]) hC dX5_throwsAway_23 rfl (by decide) rfl ?_
    obtain ⟨x14, h15, hF⟩ := fb_open hF
    have K16 : fSm x14 w → fAt X 0 0 4 x14 [(0, .ref a0), (2, .int ((gI w 601 (gR w 501 a0 0) (Int32.toNatClampNeg 0)) - 1))] [] 59 := by
      intro p12
      refine f_iconst (v := 0) hC dX5_throwsAway_59 (by decide) ?_
      refine f_istore_n (L' := [(3, .int 0), (0, .ref a0), (2, .int ((gI w 601 (gR w 501 a0 0) (Int32.toNatClampNeg 0)) - 1))]) hC dX5_throwsAway_60 rfl (by decide) rfl ?_
      obtain ⟨x27, h28, hF⟩ := fb_open hF
      have K29 : fSm x27 w → fAt X 0 0 4 x27 [(0, .ref a0), (2, .int ((gI w 601 (gR w 501 a0 0) (Int32.toNatClampNeg 0)) - 1))] [] 88 := by
        intro p25
        refine f_aload_n hC dX5_throwsAway_88 rfl 0 rfl ?_
        refine f_getR hC 5 1 501 rfl (by decide) iX5 q_1260 rfl rfl (fSm.k p25 g3) dX5_throwsAway_89 ?_
        refine f_iconst (v := 0) hC dX5_throwsAway_92 (by decide) ?_
        refine f_iload_n hC dX5_throwsAway_93 rfl 1 rfl ?_
        obtain ⟨g33, hF⟩ := fg_open hF
        obtain ⟨g34, hF⟩ := fg_open hF
        refine f_iast hC (fSm.k p25 g33) (fSm.v p25 g34) dX5_throwsAway_94 ?_
        refine f_aload_n hC dX5_throwsAway_95 rfl 0 rfl ?_
        refine f_iload_n hC dX5_throwsAway_96 rfl 1 rfl ?_
        obtain ⟨r35, h36, hF⟩ := fb_open hF
        refine f_callV hC [.int ((gI w 601 (gR w 501 a0 0) (Int32.toNatClampNeg 0)) - 1)] (c_X5_done l D cy a0 ((gI w 601 (gR w 501 a0 0) (Int32.toNatClampNeg 0)) - 1) (sI x27 601 (gR x27 501 a0 0) (Int32.toNatClampNeg 0) ((gI w 601 (gR w 501 a0 0) (Int32.toNatClampNeg 0)) - 1)) r35 h36) q_1368 q_137 q_1365 q_1367 q_76 h9_X5_done rfl (fSm.k p25 g3) ⟨Nat.le_of_ble_eq_true rfl, Nat.le_of_ble_eq_true rfl⟩ ⟨Nat.le_of_ble_eq_true rfl, Nat.le_of_ble_eq_true rfl⟩ (Nat.le_of_ble_eq_true rfl) rfl dX5_throwsAway_97 (fun e37 => ?_)
        obtain rfl := Option.some.inj hF
        exact f_iret hC hEn (fSm.tr e37 p25) dX5_throwsAway_100
      refine f_sub (L' := [(0, .ref a0), (2, .int ((gI w 601 (gR w 501 a0 0) (Int32.toNatClampNeg 0)) - 1)), (3, .int 0)]) [1, 2, 0] rfl ?_
      refine fLoop_ind (fun (s21 : Int32 × FW) => fSm s21.2 w → fAt X 0 0 4 s21.2 [(0, .ref a0), (2, .int ((gI w 601 (gR w 501 a0 0) (Int32.toNatClampNeg 0)) - 1)), (3, .int s21.1)] [] 61) (fun s21 y26 h22 go23 ou24 => ?_) h28 p12
      intro p25
      refine f_iload_n hC dX5_throwsAway_61 rfl 2 rfl ?_
      refine f_bipush (v := 20) hC dX5_throwsAway_62 (by decide) ?_
      refine f_icmp_ge hC 88 dX5_throwsAway_64 (by decide) (fun c30 => ?_) (fun c30 => ?_)
      · replace h22 := fi_pos h22 c30
        obtain rfl := Option.some.inj h22
        obtain rfl := ou24 _ rfl
        refine f_sub (L' := [(0, .ref a0), (2, .int ((gI w 601 (gR w 501 a0 0) (Int32.toNatClampNeg 0)) - 1))]) [0, 1] rfl ?_
        exact K29 p25
      · replace h22 := fi_neg h22 c30
        refine f_aload_n hC dX5_throwsAway_67 rfl 0 rfl ?_
        refine f_getR hC 5 1 501 rfl (by decide) iX5 q_1260 rfl rfl (fSm.k p25 g3) dX5_throwsAway_68 ?_
        refine f_bipush (v := 17) hC dX5_throwsAway_71 (by decide) ?_
        refine f_bipush (v := 20) hC dX5_throwsAway_73 (by decide) ?_
        refine f_iload_n hC dX5_throwsAway_75 rfl 1 rfl ?_
        refine f_imul hC dX5_throwsAway_76 ?_
        refine f_iadd hC dX5_throwsAway_77 ?_
        refine f_iload_n hC dX5_throwsAway_78 rfl 2 rfl ?_
        refine f_iadd hC dX5_throwsAway_79 ?_
        refine f_iconst (v := 0) hC dX5_throwsAway_80 (by decide) ?_
        obtain ⟨g31, h22⟩ := fg_open h22
        obtain ⟨g32, h22⟩ := fg_open h22
        refine f_iast hC (fSm.k p25 g31) (fSm.v p25 g32) dX5_throwsAway_81 ?_
        refine f_iinc (L' := [(3, .int (s21.1 + 1)), (0, .ref a0), (2, .int ((gI w 601 (gR w 501 a0 0) (Int32.toNatClampNeg 0)) - 1))]) hC dX5_throwsAway_82 2 rfl rfl (by decide) rfl ?_
        refine f_goto hC 61 dX5_throwsAway_85 (by decide) ?_
        obtain rfl := Option.some.inj h22
        refine f_sub (L' := [(0, .ref a0), (2, .int ((gI w 601 (gR w 501 a0 0) (Int32.toNatClampNeg 0)) - 1)), (3, .int (s21.1 + 1))]) [1, 2, 0] rfl ?_
        exact go23 _ rfl p25
    refine f_sub (L' := [(0, .ref a0), (2, .int ((gI w 601 (gR w 501 a0 0) (Int32.toNatClampNeg 0)) - 1)), (3, .int (20 * x1))]) [2, 1, 0] rfl ?_
    refine fLoop_ind (fun (s8 : Int32 × FW) => fSm s8.2 w → fAt X 0 0 4 s8.2 [(0, .ref a0), (2, .int ((gI w 601 (gR w 501 a0 0) (Int32.toNatClampNeg 0)) - 1)), (3, .int s8.1)] [] 24) (fun s8 y13 h9 go10 ou11 => ?_) h15 (fSm.rf w)
    intro p12
    refine f_iload_n hC dX5_throwsAway_24 rfl 2 rfl ?_
    refine f_bipush (v := 20) hC dX5_throwsAway_25 (by decide) ?_
    refine f_iload_n hC dX5_throwsAway_27 rfl 1 rfl ?_
    refine f_imul hC dX5_throwsAway_28 ?_
    refine f_icmp_ge hC 59 dX5_throwsAway_29 (by decide) (fun c17 => ?_) (fun c17 => ?_)
    · replace h9 := fi_pos h9 c17
      obtain rfl := Option.some.inj h9
      obtain rfl := ou11 _ rfl
      refine f_sub (L' := [(0, .ref a0), (2, .int ((gI w 601 (gR w 501 a0 0) (Int32.toNatClampNeg 0)) - 1))]) [0, 1] rfl ?_
      exact K16 p12
    · replace h9 := fi_neg h9 c17
      refine f_aload_n hC dX5_throwsAway_32 rfl 0 rfl ?_
      refine f_getR hC 5 1 501 rfl (by decide) iX5 q_1260 rfl rfl (fSm.k p12 g3) dX5_throwsAway_33 ?_
      refine f_bipush (v := 17) hC dX5_throwsAway_36 (by decide) ?_
      refine f_iload_n hC dX5_throwsAway_38 rfl 2 rfl ?_
      refine f_iadd hC dX5_throwsAway_39 ?_
      refine f_aload_n hC dX5_throwsAway_40 rfl 0 rfl ?_
      refine f_getR hC 5 1 501 rfl (by decide) iX5 q_1260 rfl rfl (fSm.k p12 g3) dX5_throwsAway_41 ?_
      refine f_bipush (v := 17) hC dX5_throwsAway_44 (by decide) ?_
      refine f_iload_n hC dX5_throwsAway_46 rfl 2 rfl ?_
      refine f_iadd hC dX5_throwsAway_47 ?_
      refine f_bipush (v := 20) hC dX5_throwsAway_48 (by decide) ?_
      refine f_iadd hC dX5_throwsAway_50 ?_
      obtain ⟨g18, h9⟩ := fg_open h9
      obtain ⟨g19, h9⟩ := fg_open h9
      refine f_iald hC (fSm.k p12 g18) (fSm.v p12 g19) dX5_throwsAway_51 ?_
      obtain ⟨g20, h9⟩ := fg_open h9
      refine f_iast hC (fSm.k p12 g18) (fSm.v p12 g20) dX5_throwsAway_52 ?_
      refine f_iinc (L' := [(3, .int (s8.1 + 1)), (0, .ref a0), (2, .int ((gI w 601 (gR w 501 a0 0) (Int32.toNatClampNeg 0)) - 1))]) hC dX5_throwsAway_53 2 rfl rfl (by decide) rfl ?_
      refine f_goto hC 24 dX5_throwsAway_56 (by decide) ?_
      obtain rfl := Option.some.inj h9
      refine f_sub (L' := [(0, .ref a0), (2, .int ((gI w 601 (gR w 501 a0 0) (Int32.toNatClampNeg 0)) - 1)), (3, .int (s8.1 + 1))]) [1, 2, 0] rfl ?_
      exact go10 _ rfl p12
  · replace hF := fi_pos hF c5
    refine f_iconst (v := (-1)) hC dX5_throwsAway_8 (by decide) ?_
    obtain rfl := Option.some.inj hF
    exact f_iret hC hEn (fSm.rf w) dX5_throwsAway_9
theorem dX5_tellsMood_0 : decode cX5_tellsMood 0 = .ok (.iload_n 1, 1) := by decide +kernel
theorem dX5_tellsMood_1 : decode cX5_tellsMood 1 = .ok (.iconst 0, 1) := by decide +kernel
theorem dX5_tellsMood_2 : decode cX5_tellsMood 2 = .ok (.iconst 2, 1) := by decide +kernel
theorem dX5_tellsMood_3 : decode cX5_tellsMood 3 = .ok (.invokestatic 66, 3) := by decide +kernel
theorem dX5_tellsMood_6 : decode cX5_tellsMood 6 = .ok (.ifCond .ne 5, 3) := by decide +kernel
theorem dX5_tellsMood_9 : decode cX5_tellsMood 9 = .ok (.iconst (-1), 1) := by decide +kernel
theorem dX5_tellsMood_10 : decode cX5_tellsMood 10 = .ok (.ireturn, 1) := by decide +kernel
theorem dX5_tellsMood_11 : decode cX5_tellsMood 11 = .ok (.iload_n 2, 1) := by decide +kernel
theorem dX5_tellsMood_12 : decode cX5_tellsMood 12 = .ok (.iconst 0, 1) := by decide +kernel
theorem dX5_tellsMood_13 : decode cX5_tellsMood 13 = .ok (.iconst 4, 1) := by decide +kernel
theorem dX5_tellsMood_14 : decode cX5_tellsMood 14 = .ok (.invokestatic 66, 3) := by decide +kernel
theorem dX5_tellsMood_17 : decode cX5_tellsMood 17 = .ok (.ifCond .ne 6, 3) := by decide +kernel
theorem dX5_tellsMood_20 : decode cX5_tellsMood 20 = .ok (.bipush (-2), 2) := by decide +kernel
theorem dX5_tellsMood_22 : decode cX5_tellsMood 22 = .ok (.ireturn, 1) := by decide +kernel
theorem dX5_tellsMood_23 : decode cX5_tellsMood 23 = .ok (.aload_n 0, 1) := by decide +kernel
theorem dX5_tellsMood_24 : decode cX5_tellsMood 24 = .ok (.getfield 7, 3) := by decide +kernel
theorem dX5_tellsMood_27 : decode cX5_tellsMood 27 = .ok (.bipush 7, 2) := by decide +kernel
theorem dX5_tellsMood_29 : decode cX5_tellsMood 29 = .ok (.iload_n 1, 1) := by decide +kernel
theorem dX5_tellsMood_30 : decode cX5_tellsMood 30 = .ok (.iadd, 1) := by decide +kernel
theorem dX5_tellsMood_31 : decode cX5_tellsMood 31 = .ok (.iaload, 1) := by decide +kernel
theorem dX5_tellsMood_32 : decode cX5_tellsMood 32 = .ok (.istore_n 3, 1) := by decide +kernel
theorem dX5_tellsMood_33 : decode cX5_tellsMood 33 = .ok (.iload_n 3, 1) := by decide +kernel
theorem dX5_tellsMood_34 : decode cX5_tellsMood 34 = .ok (.iload_n 2, 1) := by decide +kernel
theorem dX5_tellsMood_35 : decode cX5_tellsMood 35 = .ok (.if_icmp .ne 10, 3) := by decide +kernel
theorem dX5_tellsMood_38 : decode cX5_tellsMood 38 = .ok (.aload_n 0, 1) := by decide +kernel
theorem dX5_tellsMood_39 : decode cX5_tellsMood 39 = .ok (.iconst 3, 1) := by decide +kernel
theorem dX5_tellsMood_40 : decode cX5_tellsMood 40 = .ok (.iload_n 2, 1) := by decide +kernel
theorem dX5_tellsMood_41 : decode cX5_tellsMood 41 = .ok (.invokevirtual 122, 3) := by decide +kernel
theorem dX5_tellsMood_44 : decode cX5_tellsMood 44 = .ok (.ireturn, 1) := by decide +kernel
theorem dX5_tellsMood_45 : decode cX5_tellsMood 45 = .ok (.aload_n 0, 1) := by decide +kernel
theorem dX5_tellsMood_46 : decode cX5_tellsMood 46 = .ok (.getfield 7, 3) := by decide +kernel
theorem dX5_tellsMood_49 : decode cX5_tellsMood 49 = .ok (.bipush 7, 2) := by decide +kernel
theorem dX5_tellsMood_51 : decode cX5_tellsMood 51 = .ok (.iload_n 1, 1) := by decide +kernel
theorem dX5_tellsMood_52 : decode cX5_tellsMood 52 = .ok (.iadd, 1) := by decide +kernel
theorem dX5_tellsMood_53 : decode cX5_tellsMood 53 = .ok (.iload_n 2, 1) := by decide +kernel
theorem dX5_tellsMood_54 : decode cX5_tellsMood 54 = .ok (.iastore, 1) := by decide +kernel
theorem dX5_tellsMood_55 : decode cX5_tellsMood 55 = .ok (.aload_n 0, 1) := by decide +kernel
theorem dX5_tellsMood_56 : decode cX5_tellsMood 56 = .ok (.iload_n 3, 1) := by decide +kernel
theorem dX5_tellsMood_57 : decode cX5_tellsMood 57 = .ok (.invokevirtual 125, 3) := by decide +kernel
theorem dX5_tellsMood_60 : decode cX5_tellsMood 60 = .ok (.ireturn, 1) := by decide +kernel
theorem h9_X5_tellsMood : yX5_tellsMood.cls ≠ "java/lang/invoke/MethodHandle" ∧ yX5_tellsMood.cls ≠ "java/lang/invoke/VarHandle" ∧ (parseMethodDescriptor yX5_tellsMood.desc).map (fun d => d.parameters.length) = some 2 := by decide +kernel
noncomputable def F_X5_tellsMood (a0 : Nat) (x1 : Int32) (x2 : Int32) (w : FW) : Option (Int32 × FW) :=
  (F_X5_in x1 0 2 w).bind (fun r1 => (if r1 = 0 then some ((-1), w) else (F_X5_in x2 0 4 w).bind (fun r5 => (if r5 = 0 then some ((-2), w) else fg (w.1 a0 = 6) inferInstance (fg (w.1 (gR w 501 a0 0) = 11) inferInstance (fg (¬ ((7 + x1) < 0 ∨ w.2.1 (gR w 501 a0 0) ≤ Int32.toNatClampNeg (7 + x1))) inferInstance ((if (gI w 601 (gR w 501 a0 0) (Int32.toNatClampNeg (7 + x1))) = x2 then (F_X5_refused a0 3 x2 w).bind (fun r16 => some (r16.1, r16.2)) else (F_X5_done a0 (gI w 601 (gR w 501 a0 0) (Int32.toNatClampNeg (7 + x1))) (sI w 601 (gR w 501 a0 0) (Int32.toNatClampNeg (7 + x1)) x2)).bind (fun r13 => some (r13.1, r13.2))))))))))
set_option maxHeartbeats 4000000 in
set_option maxRecDepth 100000 in
theorem c_X5_tellsMood (l : Launch) (D : va_G) (cy : Nat → ClassId) (a0 : Nat) (x1 : Int32) (x2 : Int32) (w : FW) (r : Int32 × FW) (hF : F_X5_tellsMood a0 x1 x2 w = some r) : fSpec l D cy yX5_tellsMood cX5_tellsMood 4 (some .int) { frames := 1, cells := 0, slots := 0, locals := 22 } [.ref a0, .int x1, .int x2] w r.2 (some (.int r.1)) := by
  refine f_begin (by decide +kernel) (Nat.le_of_ble_eq_true rfl) (fun X hC hEn => ?_)
  unfold F_X5_tellsMood at hF
  show fAt X 0 0 4 w [(0, .ref a0), (1, .int x1), (2, .int x2)] [] 0
  refine f_iload_n hC dX5_tellsMood_0 rfl 1 rfl ?_
  refine f_iconst (v := 0) hC dX5_tellsMood_1 (by decide) ?_
  refine f_iconst (v := 2) hC dX5_tellsMood_2 (by decide) ?_
  obtain ⟨r1, h2, hF⟩ := fb_open hF
  refine f_callS hC [.int x1, .int 0, .int 2] (c_X5_in l D cy x1 0 2 w r1 h2) q_1357 q_137 q_1355 q_1356 h9_X5_in ⟨Nat.le_of_ble_eq_true rfl, Nat.le_of_ble_eq_true rfl⟩ ⟨Nat.le_of_ble_eq_true rfl, Nat.le_of_ble_eq_true rfl⟩ (Nat.le_of_ble_eq_true rfl) rfl dX5_tellsMood_3 (fun e3 => ?_)
  refine f_if_ne hC 11 dX5_tellsMood_6 (by decide) (fun c4 => ?_) (fun c4 => ?_)
  · replace hF := fi_neg hF c4
    refine f_iload_n hC dX5_tellsMood_11 rfl 2 rfl ?_
    refine f_iconst (v := 0) hC dX5_tellsMood_12 (by decide) ?_
    refine f_iconst (v := 4) hC dX5_tellsMood_13 (by decide) ?_
    obtain ⟨r5, h6, hF⟩ := fb_open hF
    refine f_callS hC [.int x2, .int 0, .int 4] (c_X5_in l D cy x2 0 4 w r5 h6) q_1357 q_137 q_1355 q_1356 h9_X5_in ⟨Nat.le_of_ble_eq_true rfl, Nat.le_of_ble_eq_true rfl⟩ ⟨Nat.le_of_ble_eq_true rfl, Nat.le_of_ble_eq_true rfl⟩ (Nat.le_of_ble_eq_true rfl) rfl dX5_tellsMood_14 (fun e7 => ?_)
    refine f_if_ne hC 23 dX5_tellsMood_17 (by decide) (fun c8 => ?_) (fun c8 => ?_)
    · replace hF := fi_neg hF c8
      refine f_aload_n hC dX5_tellsMood_23 rfl 0 rfl ?_
      obtain ⟨g9, hF⟩ := fg_open hF
      refine f_getR hC 5 1 501 rfl (by decide) iX5 q_1260 rfl rfl (fSm.k (fSm.rf w) g9) dX5_tellsMood_24 ?_
      refine f_bipush (v := 7) hC dX5_tellsMood_27 (by decide) ?_
      refine f_iload_n hC dX5_tellsMood_29 rfl 1 rfl ?_
      refine f_iadd hC dX5_tellsMood_30 ?_
      obtain ⟨g10, hF⟩ := fg_open hF
      obtain ⟨g11, hF⟩ := fg_open hF
      refine f_iald hC (fSm.k (fSm.rf w) g10) (fSm.v (fSm.rf w) g11) dX5_tellsMood_31 ?_
      refine f_istore_n (L' := [(3, .int (gI w 601 (gR w 501 a0 0) (Int32.toNatClampNeg (7 + x1)))), (0, .ref a0), (1, .int x1), (2, .int x2)]) hC dX5_tellsMood_32 rfl (by decide) rfl ?_
      refine f_iload_n hC dX5_tellsMood_33 rfl 0 rfl ?_
      refine f_iload_n hC dX5_tellsMood_34 rfl 3 rfl ?_
      refine f_icmp_ne hC 45 dX5_tellsMood_35 (by decide) (fun c12 => ?_) (fun c12 => ?_)
      · replace hF := fi_neg hF c12
        refine f_aload_n hC dX5_tellsMood_45 rfl 1 rfl ?_
        refine f_getR hC 5 1 501 rfl (by decide) iX5 q_1260 rfl rfl (fSm.k (fSm.rf w) g9) dX5_tellsMood_46 ?_
        refine f_bipush (v := 7) hC dX5_tellsMood_49 (by decide) ?_
        refine f_iload_n hC dX5_tellsMood_51 rfl 2 rfl ?_
        refine f_iadd hC dX5_tellsMood_52 ?_
        refine f_iload_n hC dX5_tellsMood_53 rfl 3 rfl ?_
        refine f_iast hC (fSm.k (fSm.rf w) g10) (fSm.v (fSm.rf w) g11) dX5_tellsMood_54 ?_
        refine f_aload_n hC dX5_tellsMood_55 rfl 1 rfl ?_
        refine f_iload_n hC dX5_tellsMood_56 rfl 0 rfl ?_
        obtain ⟨r13, h14, hF⟩ := fb_open hF
        refine f_callV hC [.int (gI w 601 (gR w 501 a0 0) (Int32.toNatClampNeg (7 + x1)))] (c_X5_done l D cy a0 (gI w 601 (gR w 501 a0 0) (Int32.toNatClampNeg (7 + x1))) (sI w 601 (gR w 501 a0 0) (Int32.toNatClampNeg (7 + x1)) x2) r13 h14) q_1368 q_137 q_1365 q_1367 q_76 h9_X5_done rfl (fSm.k (fSm.rf w) g9) ⟨Nat.le_of_ble_eq_true rfl, Nat.le_of_ble_eq_true rfl⟩ ⟨Nat.le_of_ble_eq_true rfl, Nat.le_of_ble_eq_true rfl⟩ (Nat.le_of_ble_eq_true rfl) rfl dX5_tellsMood_57 (fun e15 => ?_)
        obtain rfl := Option.some.inj hF
        exact f_iret hC hEn (fSm.tr e15 (fSm.rf w)) dX5_tellsMood_60
      · replace hF := fi_pos hF c12
        refine f_aload_n hC dX5_tellsMood_38 rfl 1 rfl ?_
        refine f_iconst (v := 3) hC dX5_tellsMood_39 (by decide) ?_
        refine f_iload_n hC dX5_tellsMood_40 rfl 3 rfl ?_
        obtain ⟨r16, h17, hF⟩ := fb_open hF
        refine f_callV hC [.int 3, .int x2] (c_X5_refused l D cy a0 3 x2 w r16 h17) q_1364 q_137 q_1361 q_1363 q_75 h9_X5_refused rfl (fSm.k (fSm.rf w) g9) ⟨Nat.le_of_ble_eq_true rfl, Nat.le_of_ble_eq_true rfl⟩ ⟨Nat.le_of_ble_eq_true rfl, Nat.le_of_ble_eq_true rfl⟩ (Nat.le_of_ble_eq_true rfl) rfl dX5_tellsMood_41 (fun e18 => ?_)
        obtain rfl := Option.some.inj hF
        exact f_iret hC hEn (fSm.tr e18 (fSm.rf w)) dX5_tellsMood_44
    · replace hF := fi_pos hF c8
      refine f_bipush (v := (-2)) hC dX5_tellsMood_20 (by decide) ?_
      obtain rfl := Option.some.inj hF
      exact f_iret hC hEn (fSm.rf w) dX5_tellsMood_22
  · replace hF := fi_pos hF c4
    refine f_iconst (v := (-1)) hC dX5_tellsMood_9 (by decide) ?_
    obtain rfl := Option.some.inj hF
    exact f_iret hC hEn (fSm.rf w) dX5_tellsMood_10
theorem dX5_isClosed_0 : decode cX5_isClosed 0 = .ok (.aload_n 0, 1) := by decide +kernel
theorem dX5_isClosed_1 : decode cX5_isClosed 1 = .ok (.getfield 7, 3) := by decide +kernel
theorem dX5_isClosed_4 : decode cX5_isClosed 4 = .ok (.bipush 6, 2) := by decide +kernel
theorem dX5_isClosed_6 : decode cX5_isClosed 6 = .ok (.iaload, 1) := by decide +kernel
theorem dX5_isClosed_7 : decode cX5_isClosed 7 = .ok (.iload_n 1, 1) := by decide +kernel
theorem dX5_isClosed_8 : decode cX5_isClosed 8 = .ok (.ishr, 1) := by decide +kernel
theorem dX5_isClosed_9 : decode cX5_isClosed 9 = .ok (.iconst 1, 1) := by decide +kernel
theorem dX5_isClosed_10 : decode cX5_isClosed 10 = .ok (.iand, 1) := by decide +kernel
theorem dX5_isClosed_11 : decode cX5_isClosed 11 = .ok (.iconst 1, 1) := by decide +kernel
theorem dX5_isClosed_12 : decode cX5_isClosed 12 = .ok (.if_icmp .ne 7, 3) := by decide +kernel
theorem dX5_isClosed_15 : decode cX5_isClosed 15 = .ok (.iconst 1, 1) := by decide +kernel
theorem dX5_isClosed_16 : decode cX5_isClosed 16 = .ok (.goto 4, 3) := by decide +kernel
theorem dX5_isClosed_19 : decode cX5_isClosed 19 = .ok (.iconst 0, 1) := by decide +kernel
theorem dX5_isClosed_20 : decode cX5_isClosed 20 = .ok (.ireturn, 1) := by decide +kernel
theorem h9_X5_isClosed : yX5_isClosed.cls ≠ "java/lang/invoke/MethodHandle" ∧ yX5_isClosed.cls ≠ "java/lang/invoke/VarHandle" ∧ (parseMethodDescriptor yX5_isClosed.desc).map (fun d => d.parameters.length) = some 1 := by decide +kernel
noncomputable def F_X5_isClosed (a0 : Nat) (x1 : Int32) (w : FW) : Option (Int32) :=
  fg (w.1 a0 = 6) inferInstance (fg (w.1 (gR w 501 a0 0) = 11) inferInstance (fg (¬ ((6 : Int32) < 0 ∨ w.2.1 (gR w 501 a0 0) ≤ Int32.toNatClampNeg 6)) inferInstance ((if (((gI w 601 (gR w 501 a0 0) (Int32.toNatClampNeg 6)) >>> (x1 &&& 31)) &&& 1) = 1 then some 1 else some 0))))
set_option maxHeartbeats 4000000 in
set_option maxRecDepth 100000 in
theorem c_X5_isClosed (l : Launch) (D : va_G) (cy : Nat → ClassId) (a0 : Nat) (x1 : Int32) (w : FW) (r : Int32) (hF : F_X5_isClosed a0 x1 w = some r) : fSpec l D cy yX5_isClosed cX5_isClosed 2 (some .boolean) { frames := 0, cells := 0, slots := 0, locals := 0 } [.ref a0, .int x1] w w (some (.int r)) := by
  refine f_begin (by decide +kernel) (Nat.le_of_ble_eq_true rfl) (fun X hC hEn => ?_)
  unfold F_X5_isClosed at hF
  show fAt X 0 0 2 w [(0, .ref a0), (1, .int x1)] [] 0
  refine f_aload_n hC dX5_isClosed_0 rfl 0 rfl ?_
  obtain ⟨g1, hF⟩ := fg_open hF
  refine f_getR hC 5 1 501 rfl (by decide) iX5 q_1260 rfl rfl (fSm.k (fSm.rf w) g1) dX5_isClosed_1 ?_
  refine f_bipush (v := 6) hC dX5_isClosed_4 (by decide) ?_
  obtain ⟨g2, hF⟩ := fg_open hF
  obtain ⟨g3, hF⟩ := fg_open hF
  refine f_iald hC (fSm.k (fSm.rf w) g2) (fSm.v (fSm.rf w) g3) dX5_isClosed_6 ?_
  refine f_iload_n hC dX5_isClosed_7 rfl 1 rfl ?_
  refine f_ishr hC dX5_isClosed_8 ?_
  refine f_iconst (v := 1) hC dX5_isClosed_9 (by decide) ?_
  refine f_iand hC dX5_isClosed_10 ?_
  refine f_iconst (v := 1) hC dX5_isClosed_11 (by decide) ?_
  refine f_icmp_ne hC 19 dX5_isClosed_12 (by decide) (fun c4 => ?_) (fun c4 => ?_)
  · replace hF := fi_neg hF c4
    refine f_iconst (v := 0) hC dX5_isClosed_19 (by decide) ?_
    obtain rfl := Option.some.inj hF
    exact f_zret hC hEn (fSm.rf w) (nar_z (by decide)) dX5_isClosed_20
  · replace hF := fi_pos hF c4
    refine f_iconst (v := 1) hC dX5_isClosed_15 (by decide) ?_
    refine f_goto hC 20 dX5_isClosed_16 (by decide) ?_
    obtain rfl := Option.some.inj hF
    exact f_zret hC hEn (fSm.rf w) (nar_z (by decide)) dX5_isClosed_20
theorem dX5_openMany_0 : decode cX5_openMany 0 = .ok (.iconst 0, 1) := by decide +kernel
theorem dX5_openMany_1 : decode cX5_openMany 1 = .ok (.istore_n 1, 1) := by decide +kernel
theorem dX5_openMany_2 : decode cX5_openMany 2 = .ok (.iconst 0, 1) := by decide +kernel
theorem dX5_openMany_3 : decode cX5_openMany 3 = .ok (.istore_n 2, 1) := by decide +kernel
theorem dX5_openMany_4 : decode cX5_openMany 4 = .ok (.iload_n 2, 1) := by decide +kernel
theorem dX5_openMany_5 : decode cX5_openMany 5 = .ok (.iconst 5, 1) := by decide +kernel
theorem dX5_openMany_6 : decode cX5_openMany 6 = .ok (.if_icmp .ge 25, 3) := by decide +kernel
theorem dX5_openMany_9 : decode cX5_openMany 9 = .ok (.iload_n 1, 1) := by decide +kernel
theorem dX5_openMany_10 : decode cX5_openMany 10 = .ok (.aload_n 0, 1) := by decide +kernel
theorem dX5_openMany_11 : decode cX5_openMany 11 = .ok (.iload_n 2, 1) := by decide +kernel
theorem dX5_openMany_12 : decode cX5_openMany 12 = .ok (.invokevirtual 138, 3) := by decide +kernel
theorem dX5_openMany_15 : decode cX5_openMany 15 = .ok (.ifCond .eq 7, 3) := by decide +kernel
theorem dX5_openMany_18 : decode cX5_openMany 18 = .ok (.iconst 0, 1) := by decide +kernel
theorem dX5_openMany_19 : decode cX5_openMany 19 = .ok (.goto 4, 3) := by decide +kernel
theorem dX5_openMany_22 : decode cX5_openMany 22 = .ok (.iconst 1, 1) := by decide +kernel
theorem dX5_openMany_23 : decode cX5_openMany 23 = .ok (.iadd, 1) := by decide +kernel
theorem dX5_openMany_24 : decode cX5_openMany 24 = .ok (.istore_n 1, 1) := by decide +kernel
theorem dX5_openMany_25 : decode cX5_openMany 25 = .ok (.iinc 2 1, 3) := by decide +kernel
theorem dX5_openMany_28 : decode cX5_openMany 28 = .ok (.goto (-24), 3) := by decide +kernel
theorem dX5_openMany_31 : decode cX5_openMany 31 = .ok (.iload_n 1, 1) := by decide +kernel
theorem dX5_openMany_32 : decode cX5_openMany 32 = .ok (.ireturn, 1) := by decide +kernel
theorem h9_X5_openMany : yX5_openMany.cls ≠ "java/lang/invoke/MethodHandle" ∧ yX5_openMany.cls ≠ "java/lang/invoke/VarHandle" ∧ (parseMethodDescriptor yX5_openMany.desc).map (fun d => d.parameters.length) = some 0 := by decide +kernel
noncomputable def F_X5_openMany (a0 : Nat) (w : FW) : Option (Int32) :=
  (fLoop (σ := Int32 × Int32) (ρ := Int32) (fun s1 => (if 5 ≤ s1.2 then some (.inr s1.1) else fg (w.1 a0 = 6) inferInstance ((F_X5_isClosed a0 s1.2 w).bind (fun r11 => (if r11 = 0 then some (.inl ((s1.1 + 1), (s1.2 + 1))) else some (.inl ((s1.1 + 0), (s1.2 + 1)))))))) (0, 0)).bind (fun x7 => some x7)
set_option maxHeartbeats 4000000 in
set_option maxRecDepth 100000 in
theorem c_X5_openMany (l : Launch) (D : va_G) (cy : Nat → ClassId) (a0 : Nat) (w : FW) (r : Int32) (hF : F_X5_openMany a0 w = some r) : fSpec l D cy yX5_openMany cX5_openMany 3 (some .int) { frames := 1, cells := 0, slots := 0, locals := 21 } [.ref a0] w w (some (.int r)) := by
  refine f_begin (by decide +kernel) (Nat.le_of_ble_eq_true rfl) (fun X hC hEn => ?_)
  unfold F_X5_openMany at hF
  show fAt X 0 0 3 w [(0, .ref a0)] [] 0
  refine f_iconst (v := 0) hC dX5_openMany_0 (by decide) ?_
  refine f_istore_n (L' := [(1, .int 0), (0, .ref a0)]) hC dX5_openMany_1 rfl (by decide) rfl ?_
  refine f_iconst (v := 0) hC dX5_openMany_2 (by decide) ?_
  refine f_istore_n (L' := [(2, .int 0), (1, .int 0), (0, .ref a0)]) hC dX5_openMany_3 rfl (by decide) rfl ?_
  obtain ⟨x7, h8, hF⟩ := fb_open hF
  have K9 : fAt X 0 0 3 w [(1, .int x7)] [] 31 := by
    refine f_iload_n hC dX5_openMany_31 rfl 0 rfl ?_
    obtain rfl := Option.some.inj hF
    exact f_iret hC hEn (fSm.rf w) dX5_openMany_32
  refine f_sub (L' := [(0, .ref a0), (1, .int 0), (2, .int 0)]) [2, 1, 0] rfl ?_
  refine fLoop_ind (fun (s1 : Int32 × Int32) => fAt X 0 0 3 w [(0, .ref a0), (1, .int s1.1), (2, .int s1.2)] [] 4) (fun s1 y6 h2 go3 ou4 => ?_) h8
  refine f_iload_n hC dX5_openMany_4 rfl 2 rfl ?_
  refine f_iconst (v := 5) hC dX5_openMany_5 (by decide) ?_
  refine f_icmp_ge hC 31 dX5_openMany_6 (by decide) (fun c10 => ?_) (fun c10 => ?_)
  · replace h2 := fi_pos h2 c10
    obtain rfl := Option.some.inj h2
    obtain rfl := ou4 _ rfl
    refine f_sub (L' := [(1, .int s1.1)]) [1] rfl ?_
    exact K9
  · replace h2 := fi_neg h2 c10
    refine f_iload_n hC dX5_openMany_9 rfl 1 rfl ?_
    refine f_aload_n hC dX5_openMany_10 rfl 0 rfl ?_
    refine f_iload_n hC dX5_openMany_11 rfl 2 rfl ?_
    obtain ⟨g13, h2⟩ := fg_open h2
    obtain ⟨r11, h12, h2⟩ := fb_open h2
    refine f_callV hC [.int s1.2] (c_X5_isClosed l D cy a0 s1.2 w r11 h12) q_1440 q_137 q_1437 q_1439 q_89 h9_X5_isClosed rfl (fSm.k (fSm.rf w) g13) ⟨Nat.le_of_ble_eq_true rfl, Nat.le_of_ble_eq_true rfl⟩ ⟨Nat.le_of_ble_eq_true rfl, Nat.le_of_ble_eq_true rfl⟩ (Nat.le_of_ble_eq_true rfl) rfl dX5_openMany_12 (fun e14 => ?_)
    refine f_if_eq hC 22 dX5_openMany_15 (by decide) (fun c15 => ?_) (fun c15 => ?_)
    · replace h2 := fi_pos h2 c15
      refine f_iconst (v := 1) hC dX5_openMany_22 (by decide) ?_
      refine f_iadd hC dX5_openMany_23 ?_
      refine f_istore_n (L' := [(1, .int (s1.1 + 1)), (0, .ref a0), (2, .int s1.2)]) hC dX5_openMany_24 rfl (by decide) rfl ?_
      refine f_iinc (L' := [(2, .int (s1.2 + 1)), (1, .int (s1.1 + 1)), (0, .ref a0)]) hC dX5_openMany_25 2 rfl rfl (by decide) rfl ?_
      refine f_goto hC 4 dX5_openMany_28 (by decide) ?_
      obtain rfl := Option.some.inj h2
      refine f_sub (L' := [(0, .ref a0), (1, .int (s1.1 + 1)), (2, .int (s1.2 + 1))]) [2, 1, 0] rfl ?_
      exact go3 _ rfl
    · replace h2 := fi_neg h2 c15
      refine f_iconst (v := 0) hC dX5_openMany_18 (by decide) ?_
      refine f_goto hC 23 dX5_openMany_19 (by decide) ?_
      refine f_iadd hC dX5_openMany_23 ?_
      refine f_istore_n (L' := [(1, .int (s1.1 + 0)), (0, .ref a0), (2, .int s1.2)]) hC dX5_openMany_24 rfl (by decide) rfl ?_
      refine f_iinc (L' := [(2, .int (s1.2 + 1)), (1, .int (s1.1 + 0)), (0, .ref a0)]) hC dX5_openMany_25 2 rfl rfl (by decide) rfl ?_
      refine f_goto hC 4 dX5_openMany_28 (by decide) ?_
      obtain rfl := Option.some.inj h2
      refine f_sub (L' := [(0, .ref a0), (1, .int (s1.1 + 0)), (2, .int (s1.2 + 1))]) [2, 1, 0] rfl ?_
      exact go3 _ rfl
theorem dX5_turnsPier_0 : decode cX5_turnsPier 0 = .ok (.iload_n 1, 1) := by decide +kernel
theorem dX5_turnsPier_1 : decode cX5_turnsPier 1 = .ok (.iconst 0, 1) := by decide +kernel
theorem dX5_turnsPier_2 : decode cX5_turnsPier 2 = .ok (.iconst 4, 1) := by decide +kernel
theorem dX5_turnsPier_3 : decode cX5_turnsPier 3 = .ok (.invokestatic 66, 3) := by decide +kernel
theorem dX5_turnsPier_6 : decode cX5_turnsPier 6 = .ok (.ifCond .ne 5, 3) := by decide +kernel
theorem dX5_turnsPier_9 : decode cX5_turnsPier 9 = .ok (.iconst (-1), 1) := by decide +kernel
theorem dX5_turnsPier_10 : decode cX5_turnsPier 10 = .ok (.ireturn, 1) := by decide +kernel
theorem dX5_turnsPier_11 : decode cX5_turnsPier 11 = .ok (.aload_n 0, 1) := by decide +kernel
theorem dX5_turnsPier_12 : decode cX5_turnsPier 12 = .ok (.iload_n 1, 1) := by decide +kernel
theorem dX5_turnsPier_13 : decode cX5_turnsPier 13 = .ok (.invokevirtual 138, 3) := by decide +kernel
theorem dX5_turnsPier_16 : decode cX5_turnsPier 16 = .ok (.iload_n 2, 1) := by decide +kernel
theorem dX5_turnsPier_17 : decode cX5_turnsPier 17 = .ok (.if_icmp .eq 18, 3) := by decide +kernel
theorem dX5_turnsPier_20 : decode cX5_turnsPier 20 = .ok (.aload_n 0, 1) := by decide +kernel
theorem dX5_turnsPier_21 : decode cX5_turnsPier 21 = .ok (.iconst 3, 1) := by decide +kernel
theorem dX5_turnsPier_22 : decode cX5_turnsPier 22 = .ok (.iload_n 2, 1) := by decide +kernel
theorem dX5_turnsPier_23 : decode cX5_turnsPier 23 = .ok (.ifCond .eq 7, 3) := by decide +kernel
theorem dX5_turnsPier_26 : decode cX5_turnsPier 26 = .ok (.iconst 1, 1) := by decide +kernel
theorem dX5_turnsPier_27 : decode cX5_turnsPier 27 = .ok (.goto 4, 3) := by decide +kernel
theorem dX5_turnsPier_30 : decode cX5_turnsPier 30 = .ok (.iconst 0, 1) := by decide +kernel
theorem dX5_turnsPier_31 : decode cX5_turnsPier 31 = .ok (.invokevirtual 122, 3) := by decide +kernel
theorem dX5_turnsPier_34 : decode cX5_turnsPier 34 = .ok (.ireturn, 1) := by decide +kernel
theorem dX5_turnsPier_35 : decode cX5_turnsPier 35 = .ok (.aload_n 0, 1) := by decide +kernel
theorem dX5_turnsPier_36 : decode cX5_turnsPier 36 = .ok (.getfield 7, 3) := by decide +kernel
theorem dX5_turnsPier_39 : decode cX5_turnsPier 39 = .ok (.bipush 6, 2) := by decide +kernel
theorem dX5_turnsPier_41 : decode cX5_turnsPier 41 = .ok (.aload_n 0, 1) := by decide +kernel
theorem dX5_turnsPier_42 : decode cX5_turnsPier 42 = .ok (.getfield 7, 3) := by decide +kernel
theorem dX5_turnsPier_45 : decode cX5_turnsPier 45 = .ok (.bipush 6, 2) := by decide +kernel
theorem dX5_turnsPier_47 : decode cX5_turnsPier 47 = .ok (.iaload, 1) := by decide +kernel
theorem dX5_turnsPier_48 : decode cX5_turnsPier 48 = .ok (.iconst 1, 1) := by decide +kernel
theorem dX5_turnsPier_49 : decode cX5_turnsPier 49 = .ok (.iload_n 1, 1) := by decide +kernel
theorem dX5_turnsPier_50 : decode cX5_turnsPier 50 = .ok (.ishl, 1) := by decide +kernel
theorem dX5_turnsPier_51 : decode cX5_turnsPier 51 = .ok (.ixor, 1) := by decide +kernel
theorem dX5_turnsPier_52 : decode cX5_turnsPier 52 = .ok (.iastore, 1) := by decide +kernel
theorem dX5_turnsPier_53 : decode cX5_turnsPier 53 = .ok (.aload_n 0, 1) := by decide +kernel
theorem dX5_turnsPier_54 : decode cX5_turnsPier 54 = .ok (.aload_n 0, 1) := by decide +kernel
theorem dX5_turnsPier_55 : decode cX5_turnsPier 55 = .ok (.invokevirtual 141, 3) := by decide +kernel
theorem dX5_turnsPier_58 : decode cX5_turnsPier 58 = .ok (.invokevirtual 125, 3) := by decide +kernel
theorem dX5_turnsPier_61 : decode cX5_turnsPier 61 = .ok (.ireturn, 1) := by decide +kernel
theorem h9_X5_turnsPier : yX5_turnsPier.cls ≠ "java/lang/invoke/MethodHandle" ∧ yX5_turnsPier.cls ≠ "java/lang/invoke/VarHandle" ∧ (parseMethodDescriptor yX5_turnsPier.desc).map (fun d => d.parameters.length) = some 2 := by decide +kernel
noncomputable def F_X5_turnsPier (a0 : Nat) (x1 : Int32) (x2 : Int32) (w : FW) : Option (Int32 × FW) :=
  (F_X5_in x1 0 4 w).bind (fun r1 => (if r1 = 0 then some ((-1), w) else fg (w.1 a0 = 6) inferInstance ((F_X5_isClosed a0 x1 w).bind (fun r5 => (if r5 = x2 then fg (w.1 (gR w 501 a0 0) = 11) inferInstance (fg (¬ ((6 : Int32) < 0 ∨ w.2.1 (gR w 501 a0 0) ≤ Int32.toNatClampNeg 6)) inferInstance ((F_X5_openMany a0 (sI w 601 (gR w 501 a0 0) (Int32.toNatClampNeg 6) ((gI w 601 (gR w 501 a0 0) (Int32.toNatClampNeg 6)) ^^^ (1 <<< (x1 &&& 31))))).bind (fun r12 => (F_X5_done a0 r12 (sI w 601 (gR w 501 a0 0) (Int32.toNatClampNeg 6) ((gI w 601 (gR w 501 a0 0) (Int32.toNatClampNeg 6)) ^^^ (1 <<< (x1 &&& 31))))).bind (fun r15 => some (r15.1, r15.2))))) else ((if x2 = 0 then some 0 else some 1) : Option (Int32)).bind (fun x18 => (F_X5_refused a0 3 x18 w).bind (fun r22 => some (r22.1, r22.2))))))))
set_option maxHeartbeats 4000000 in
set_option maxRecDepth 100000 in
theorem c_X5_turnsPier (l : Launch) (D : va_G) (cy : Nat → ClassId) (a0 : Nat) (x1 : Int32) (x2 : Int32) (w : FW) (r : Int32 × FW) (hF : F_X5_turnsPier a0 x1 x2 w = some r) : fSpec l D cy yX5_turnsPier cX5_turnsPier 3 (some .int) { frames := 2, cells := 0, slots := 0, locals := 43 } [.ref a0, .int x1, .int x2] w r.2 (some (.int r.1)) := by
  refine f_begin (by decide +kernel) (Nat.le_of_ble_eq_true rfl) (fun X hC hEn => ?_)
  unfold F_X5_turnsPier at hF
  show fAt X 0 0 3 w [(0, .ref a0), (1, .int x1), (2, .int x2)] [] 0
  refine f_iload_n hC dX5_turnsPier_0 rfl 1 rfl ?_
  refine f_iconst (v := 0) hC dX5_turnsPier_1 (by decide) ?_
  refine f_iconst (v := 4) hC dX5_turnsPier_2 (by decide) ?_
  obtain ⟨r1, h2, hF⟩ := fb_open hF
  refine f_callS hC [.int x1, .int 0, .int 4] (c_X5_in l D cy x1 0 4 w r1 h2) q_1357 q_137 q_1355 q_1356 h9_X5_in ⟨Nat.le_of_ble_eq_true rfl, Nat.le_of_ble_eq_true rfl⟩ ⟨Nat.le_of_ble_eq_true rfl, Nat.le_of_ble_eq_true rfl⟩ (Nat.le_of_ble_eq_true rfl) rfl dX5_turnsPier_3 (fun e3 => ?_)
  refine f_if_ne hC 11 dX5_turnsPier_6 (by decide) (fun c4 => ?_) (fun c4 => ?_)
  · replace hF := fi_neg hF c4
    refine f_aload_n hC dX5_turnsPier_11 rfl 0 rfl ?_
    refine f_iload_n hC dX5_turnsPier_12 rfl 1 rfl ?_
    obtain ⟨g7, hF⟩ := fg_open hF
    obtain ⟨r5, h6, hF⟩ := fb_open hF
    refine f_callV hC [.int x1] (c_X5_isClosed l D cy a0 x1 w r5 h6) q_1440 q_137 q_1437 q_1439 q_89 h9_X5_isClosed rfl (fSm.k (fSm.rf w) g7) ⟨Nat.le_of_ble_eq_true rfl, Nat.le_of_ble_eq_true rfl⟩ ⟨Nat.le_of_ble_eq_true rfl, Nat.le_of_ble_eq_true rfl⟩ (Nat.le_of_ble_eq_true rfl) rfl dX5_turnsPier_13 (fun e8 => ?_)
    refine f_iload_n hC dX5_turnsPier_16 rfl 2 rfl ?_
    refine f_icmp_eq hC 35 dX5_turnsPier_17 (by decide) (fun c9 => ?_) (fun c9 => ?_)
    · replace hF := fi_pos hF c9
      refine f_aload_n hC dX5_turnsPier_35 rfl 0 rfl ?_
      refine f_getR hC 5 1 501 rfl (by decide) iX5 q_1260 rfl rfl (fSm.k (fSm.rf w) g7) dX5_turnsPier_36 ?_
      refine f_bipush (v := 6) hC dX5_turnsPier_39 (by decide) ?_
      refine f_aload_n hC dX5_turnsPier_41 rfl 0 rfl ?_
      refine f_getR hC 5 1 501 rfl (by decide) iX5 q_1260 rfl rfl (fSm.k (fSm.rf w) g7) dX5_turnsPier_42 ?_
      refine f_bipush (v := 6) hC dX5_turnsPier_45 (by decide) ?_
      obtain ⟨g10, hF⟩ := fg_open hF
      obtain ⟨g11, hF⟩ := fg_open hF
      refine f_iald hC (fSm.k (fSm.rf w) g10) (fSm.v (fSm.rf w) g11) dX5_turnsPier_47 ?_
      refine f_iconst (v := 1) hC dX5_turnsPier_48 (by decide) ?_
      refine f_iload_n hC dX5_turnsPier_49 rfl 1 rfl ?_
      refine f_ishl hC dX5_turnsPier_50 ?_
      refine f_ixor hC dX5_turnsPier_51 ?_
      refine f_iast hC (fSm.k (fSm.rf w) g10) (fSm.v (fSm.rf w) g11) dX5_turnsPier_52 ?_
      refine f_aload_n hC dX5_turnsPier_53 rfl 0 rfl ?_
      refine f_aload_n hC dX5_turnsPier_54 rfl 0 rfl ?_
      obtain ⟨r12, h13, hF⟩ := fb_open hF
      refine f_callV hC [] (c_X5_openMany l D cy a0 (sI w 601 (gR w 501 a0 0) (Int32.toNatClampNeg 6) ((gI w 601 (gR w 501 a0 0) (Int32.toNatClampNeg 6)) ^^^ (1 <<< (x1 &&& 31)))) r12 h13) q_1444 q_137 q_1441 q_1443 q_90 h9_X5_openMany rfl (fSm.k (fSm.rf w) g7) ⟨Nat.le_of_ble_eq_true rfl, Nat.le_of_ble_eq_true rfl⟩ ⟨Nat.le_of_ble_eq_true rfl, Nat.le_of_ble_eq_true rfl⟩ (Nat.le_of_ble_eq_true rfl) rfl dX5_turnsPier_55 (fun e14 => ?_)
      obtain ⟨r15, h16, hF⟩ := fb_open hF
      refine f_callV hC [.int r12] (c_X5_done l D cy a0 r12 (sI w 601 (gR w 501 a0 0) (Int32.toNatClampNeg 6) ((gI w 601 (gR w 501 a0 0) (Int32.toNatClampNeg 6)) ^^^ (1 <<< (x1 &&& 31)))) r15 h16) q_1368 q_137 q_1365 q_1367 q_76 h9_X5_done rfl (fSm.k (fSm.rf w) g7) ⟨Nat.le_of_ble_eq_true rfl, Nat.le_of_ble_eq_true rfl⟩ ⟨Nat.le_of_ble_eq_true rfl, Nat.le_of_ble_eq_true rfl⟩ (Nat.le_of_ble_eq_true rfl) rfl dX5_turnsPier_58 (fun e17 => ?_)
      obtain rfl := Option.some.inj hF
      exact f_iret hC hEn (fSm.tr e17 (fSm.rf w)) dX5_turnsPier_61
    · replace hF := fi_neg hF c9
      refine f_aload_n hC dX5_turnsPier_20 rfl 0 rfl ?_
      refine f_iconst (v := 3) hC dX5_turnsPier_21 (by decide) ?_
      refine f_iload_n hC dX5_turnsPier_22 rfl 2 rfl ?_
      obtain ⟨x18, h19, hF⟩ := fb_open hF
      have K21 : fAt X 0 0 3 w [] [.int x18, .int 3, .ref a0] 31 := by
        obtain ⟨r22, h23, hF⟩ := fb_open hF
        refine f_callV hC [.int 3, .int x18] (c_X5_refused l D cy a0 3 x18 w r22 h23) q_1364 q_137 q_1361 q_1363 q_75 h9_X5_refused rfl (fSm.k (fSm.rf w) g7) ⟨Nat.le_of_ble_eq_true rfl, Nat.le_of_ble_eq_true rfl⟩ ⟨Nat.le_of_ble_eq_true rfl, Nat.le_of_ble_eq_true rfl⟩ (Nat.le_of_ble_eq_true rfl) rfl dX5_turnsPier_31 (fun e24 => ?_)
        obtain rfl := Option.some.inj hF
        exact f_iret hC hEn (fSm.tr e24 (fSm.rf w)) dX5_turnsPier_34
      refine f_if_eq hC 30 dX5_turnsPier_23 (by decide) (fun c25 => ?_) (fun c25 => ?_)
      · replace h19 := fi_pos h19 c25
        refine f_iconst (v := 0) hC dX5_turnsPier_30 (by decide) ?_
        obtain rfl := Option.some.inj h19
        refine f_sub (L' := []) [] rfl ?_
        exact K21
      · replace h19 := fi_neg h19 c25
        refine f_iconst (v := 1) hC dX5_turnsPier_26 (by decide) ?_
        refine f_goto hC 31 dX5_turnsPier_27 (by decide) ?_
        obtain rfl := Option.some.inj h19
        refine f_sub (L' := []) [] rfl ?_
        exact K21
  · replace hF := fi_pos hF c4
    refine f_iconst (v := (-1)) hC dX5_turnsPier_9 (by decide) ?_
    obtain rfl := Option.some.inj hF
    exact f_iret hC hEn (fSm.rf w) dX5_turnsPier_10
theorem dX5_punches_0 : decode cX5_punches 0 = .ok (.aload_n 0, 1) := by decide +kernel
theorem dX5_punches_1 : decode cX5_punches 1 = .ok (.iload_n 1, 1) := by decide +kernel
theorem dX5_punches_2 : decode cX5_punches 2 = .ok (.invokevirtual 135, 3) := by decide +kernel
theorem dX5_punches_5 : decode cX5_punches 5 = .ok (.ifCond .eq 12, 3) := by decide +kernel
theorem dX5_punches_8 : decode cX5_punches 8 = .ok (.iload_n 3, 1) := by decide +kernel
theorem dX5_punches_9 : decode cX5_punches 9 = .ok (.iconst 0, 1) := by decide +kernel
theorem dX5_punches_10 : decode cX5_punches 10 = .ok (.iconst 2, 1) := by decide +kernel
theorem dX5_punches_11 : decode cX5_punches 11 = .ok (.invokestatic 66, 3) := by decide +kernel
theorem dX5_punches_14 : decode cX5_punches 14 = .ok (.ifCond .ne 5, 3) := by decide +kernel
theorem dX5_punches_17 : decode cX5_punches 17 = .ok (.iconst (-1), 1) := by decide +kernel
theorem dX5_punches_18 : decode cX5_punches 18 = .ok (.ireturn, 1) := by decide +kernel
theorem dX5_punches_19 : decode cX5_punches 19 = .ok (.aload_n 0, 1) := by decide +kernel
theorem dX5_punches_20 : decode cX5_punches 20 = .ok (.iload_n 1, 1) := by decide +kernel
theorem dX5_punches_21 : decode cX5_punches 21 = .ok (.iload_n 2, 1) := by decide +kernel
theorem dX5_punches_22 : decode cX5_punches 22 = .ok (.invokevirtual 92, 3) := by decide +kernel
theorem dX5_punches_25 : decode cX5_punches 25 = .ok (.ifCond .eq 10, 3) := by decide +kernel
theorem dX5_punches_28 : decode cX5_punches 28 = .ok (.aload_n 0, 1) := by decide +kernel
theorem dX5_punches_29 : decode cX5_punches 29 = .ok (.iconst 3, 1) := by decide +kernel
theorem dX5_punches_30 : decode cX5_punches 30 = .ok (.iconst 1, 1) := by decide +kernel
theorem dX5_punches_31 : decode cX5_punches 31 = .ok (.invokevirtual 122, 3) := by decide +kernel
theorem dX5_punches_34 : decode cX5_punches 34 = .ok (.ireturn, 1) := by decide +kernel
theorem dX5_punches_35 : decode cX5_punches 35 = .ok (.aload_n 0, 1) := by decide +kernel
theorem dX5_punches_36 : decode cX5_punches 36 = .ok (.iload_n 1, 1) := by decide +kernel
theorem dX5_punches_37 : decode cX5_punches 37 = .ok (.iload_n 2, 1) := by decide +kernel
theorem dX5_punches_38 : decode cX5_punches 38 = .ok (.iconst 0, 1) := by decide +kernel
theorem dX5_punches_39 : decode cX5_punches 39 = .ok (.aload_n 0, 1) := by decide +kernel
theorem dX5_punches_40 : decode cX5_punches 40 = .ok (.getfield 7, 3) := by decide +kernel
theorem dX5_punches_43 : decode cX5_punches 43 = .ok (.bipush 7, 2) := by decide +kernel
theorem dX5_punches_45 : decode cX5_punches 45 = .ok (.iload_n 3, 1) := by decide +kernel
theorem dX5_punches_46 : decode cX5_punches 46 = .ok (.iadd, 1) := by decide +kernel
theorem dX5_punches_47 : decode cX5_punches 47 = .ok (.iaload, 1) := by decide +kernel
theorem dX5_punches_48 : decode cX5_punches 48 = .ok (.invokevirtual 128, 3) := by decide +kernel
theorem dX5_punches_51 : decode cX5_punches 51 = .ok (.aload_n 0, 1) := by decide +kernel
theorem dX5_punches_52 : decode cX5_punches 52 = .ok (.iload_n 1, 1) := by decide +kernel
theorem dX5_punches_53 : decode cX5_punches 53 = .ok (.iload_n 2, 1) := by decide +kernel
theorem dX5_punches_54 : decode cX5_punches 54 = .ok (.invokevirtual 145, 3) := by decide +kernel
theorem dX5_punches_57 : decode cX5_punches 57 = .ok (.istore 4, 2) := by decide +kernel
theorem dX5_punches_59 : decode cX5_punches 59 = .ok (.aload_n 0, 1) := by decide +kernel
theorem dX5_punches_60 : decode cX5_punches 60 = .ok (.getfield 7, 3) := by decide +kernel
theorem dX5_punches_63 : decode cX5_punches 63 = .ok (.iconst 5, 1) := by decide +kernel
theorem dX5_punches_64 : decode cX5_punches 64 = .ok (.dup2, 1) := by decide +kernel
theorem dX5_punches_65 : decode cX5_punches 65 = .ok (.iaload, 1) := by decide +kernel
theorem dX5_punches_66 : decode cX5_punches 66 = .ok (.iload 4, 2) := by decide +kernel
theorem dX5_punches_68 : decode cX5_punches 68 = .ok (.iadd, 1) := by decide +kernel
theorem dX5_punches_69 : decode cX5_punches 69 = .ok (.iastore, 1) := by decide +kernel
theorem dX5_punches_70 : decode cX5_punches 70 = .ok (.aload_n 0, 1) := by decide +kernel
theorem dX5_punches_71 : decode cX5_punches 71 = .ok (.iload 4, 2) := by decide +kernel
theorem dX5_punches_73 : decode cX5_punches 73 = .ok (.invokevirtual 125, 3) := by decide +kernel
theorem dX5_punches_76 : decode cX5_punches 76 = .ok (.ireturn, 1) := by decide +kernel
theorem h9_X5_punches : yX5_punches.cls ≠ "java/lang/invoke/MethodHandle" ∧ yX5_punches.cls ≠ "java/lang/invoke/VarHandle" ∧ (parseMethodDescriptor yX5_punches.desc).map (fun d => d.parameters.length) = some 3 := by decide +kernel
noncomputable def F_X5_punches (a0 : Nat) (x1 : Int32) (x2 : Int32) (x3 : Int32) (w : FW) : Option (Int32 × FW) :=
  fg (w.1 a0 = 6) inferInstance ((F_X5_isTicket a0 x1 w).bind (fun r1 => (if r1 = 0 then some ((-1), w) else (F_X5_in x3 0 2 w).bind (fun r6 => (if r6 = 0 then some ((-1), w) else (F_X5_isPunched a0 x1 x2 w).bind (fun r10 => (if r10 = 0 then fg (w.1 (gR w 501 a0 0) = 11) inferInstance (fg (¬ ((7 + x3) < 0 ∨ w.2.1 (gR w 501 a0 0) ≤ Int32.toNatClampNeg (7 + x3))) inferInstance ((F_X5_setsHalf a0 x1 x2 0 (gI w 601 (gR w 501 a0 0) (Int32.toNatClampNeg (7 + x3))) w).bind (fun r16 => (F_X5_holesOf a0 x1 x2 r16).bind (fun r19 => fg (w.1 (gR r16 501 a0 0) = 11) inferInstance (fg (¬ ((5 : Int32) < 0 ∨ w.2.1 (gR r16 501 a0 0) ≤ Int32.toNatClampNeg 5)) inferInstance ((F_X5_done a0 r19 (sI r16 601 (gR r16 501 a0 0) (Int32.toNatClampNeg 5) ((gI r16 601 (gR r16 501 a0 0) (Int32.toNatClampNeg 5)) + r19))).bind (fun r24 => some (r24.1, r24.2)))))))) else (F_X5_refused a0 3 1 w).bind (fun r27 => some (r27.1, r27.2)))))))))
set_option maxHeartbeats 4000000 in
set_option maxRecDepth 100000 in
theorem c_X5_punches (l : Launch) (D : va_G) (cy : Nat → ClassId) (a0 : Nat) (x1 : Int32) (x2 : Int32) (x3 : Int32) (w : FW) (r : Int32 × FW) (hF : F_X5_punches a0 x1 x2 x3 w = some r) : fSpec l D cy yX5_punches cX5_punches 5 (some .int) { frames := 5, cells := 0, slots := 0, locals := 115 } [.ref a0, .int x1, .int x2, .int x3] w r.2 (some (.int r.1)) := by
  refine f_begin (by decide +kernel) (Nat.le_of_ble_eq_true rfl) (fun X hC hEn => ?_)
  unfold F_X5_punches at hF
  show fAt X 0 0 5 w [(0, .ref a0), (1, .int x1), (2, .int x2), (3, .int x3)] [] 0
  refine f_aload_n hC dX5_punches_0 rfl 0 rfl ?_
  refine f_iload_n hC dX5_punches_1 rfl 1 rfl ?_
  obtain ⟨g3, hF⟩ := fg_open hF
  obtain ⟨r1, h2, hF⟩ := fb_open hF
  refine f_callV hC [.int x1] (c_X5_isTicket l D cy a0 x1 w r1 h2) q_1420 q_137 q_1417 q_1419 q_86 h9_X5_isTicket rfl (fSm.k (fSm.rf w) g3) ⟨Nat.le_of_ble_eq_true rfl, Nat.le_of_ble_eq_true rfl⟩ ⟨Nat.le_of_ble_eq_true rfl, Nat.le_of_ble_eq_true rfl⟩ (Nat.le_of_ble_eq_true rfl) rfl dX5_punches_2 (fun e4 => ?_)
  refine f_if_eq hC 17 dX5_punches_5 (by decide) (fun c5 => ?_) (fun c5 => ?_)
  · replace hF := fi_pos hF c5
    refine f_iconst (v := (-1)) hC dX5_punches_17 (by decide) ?_
    obtain rfl := Option.some.inj hF
    exact f_iret hC hEn (fSm.rf w) dX5_punches_18
  · replace hF := fi_neg hF c5
    refine f_iload_n hC dX5_punches_8 rfl 3 rfl ?_
    refine f_iconst (v := 0) hC dX5_punches_9 (by decide) ?_
    refine f_iconst (v := 2) hC dX5_punches_10 (by decide) ?_
    obtain ⟨r6, h7, hF⟩ := fb_open hF
    refine f_callS hC [.int x3, .int 0, .int 2] (c_X5_in l D cy x3 0 2 w r6 h7) q_1357 q_137 q_1355 q_1356 h9_X5_in ⟨Nat.le_of_ble_eq_true rfl, Nat.le_of_ble_eq_true rfl⟩ ⟨Nat.le_of_ble_eq_true rfl, Nat.le_of_ble_eq_true rfl⟩ (Nat.le_of_ble_eq_true rfl) rfl dX5_punches_11 (fun e8 => ?_)
    refine f_if_ne hC 19 dX5_punches_14 (by decide) (fun c9 => ?_) (fun c9 => ?_)
    · replace hF := fi_neg hF c9
      refine f_aload_n hC dX5_punches_19 rfl 0 rfl ?_
      refine f_iload_n hC dX5_punches_20 rfl 1 rfl ?_
      refine f_iload_n hC dX5_punches_21 rfl 2 rfl ?_
      obtain ⟨r10, h11, hF⟩ := fb_open hF
      refine f_callV hC [.int x1, .int x2] (c_X5_isPunched l D cy a0 x1 x2 w r10 h11) q_1479 q_137 q_1476 q_1478 q_95 h9_X5_isPunched rfl (fSm.k (fSm.rf w) g3) ⟨Nat.le_of_ble_eq_true rfl, Nat.le_of_ble_eq_true rfl⟩ ⟨Nat.le_of_ble_eq_true rfl, Nat.le_of_ble_eq_true rfl⟩ (Nat.le_of_ble_eq_true rfl) rfl dX5_punches_22 (fun e12 => ?_)
      refine f_if_eq hC 35 dX5_punches_25 (by decide) (fun c13 => ?_) (fun c13 => ?_)
      · replace hF := fi_pos hF c13
        refine f_aload_n hC dX5_punches_35 rfl 0 rfl ?_
        refine f_iload_n hC dX5_punches_36 rfl 1 rfl ?_
        refine f_iload_n hC dX5_punches_37 rfl 2 rfl ?_
        refine f_iconst (v := 0) hC dX5_punches_38 (by decide) ?_
        refine f_aload_n hC dX5_punches_39 rfl 0 rfl ?_
        refine f_getR hC 5 1 501 rfl (by decide) iX5 q_1260 rfl rfl (fSm.k (fSm.rf w) g3) dX5_punches_40 ?_
        refine f_bipush (v := 7) hC dX5_punches_43 (by decide) ?_
        refine f_iload_n hC dX5_punches_45 rfl 3 rfl ?_
        refine f_iadd hC dX5_punches_46 ?_
        obtain ⟨g14, hF⟩ := fg_open hF
        obtain ⟨g15, hF⟩ := fg_open hF
        refine f_iald hC (fSm.k (fSm.rf w) g14) (fSm.v (fSm.rf w) g15) dX5_punches_47 ?_
        obtain ⟨r16, h17, hF⟩ := fb_open hF
        refine f_callV hC [.int x1, .int x2, .int 0, .int (gI w 601 (gR w 501 a0 0) (Int32.toNatClampNeg (7 + x3)))] (c_X5_setsHalf l D cy a0 x1 x2 0 (gI w 601 (gR w 501 a0 0) (Int32.toNatClampNeg (7 + x3))) w r16 h17) q_1408 q_137 q_1405 q_1407 q_84 h9_X5_setsHalf rfl (fSm.k (fSm.rf w) g3) ⟨Nat.le_of_ble_eq_true rfl, Nat.le_of_ble_eq_true rfl⟩ ⟨Nat.le_of_ble_eq_true rfl, Nat.le_of_ble_eq_true rfl⟩ (Nat.le_of_ble_eq_true rfl) rfl dX5_punches_48 (fun e18 => ?_)
        refine f_aload_n hC dX5_punches_51 rfl 0 rfl ?_
        refine f_iload_n hC dX5_punches_52 rfl 1 rfl ?_
        refine f_iload_n hC dX5_punches_53 rfl 2 rfl ?_
        obtain ⟨r19, h20, hF⟩ := fb_open hF
        refine f_callV hC [.int x1, .int x2] (c_X5_holesOf l D cy a0 x1 x2 r16 r19 h20) q_1487 q_137 q_1484 q_1486 q_97 h9_X5_holesOf rfl (fSm.k (fSm.tr e18 (fSm.rf w)) g3) ⟨Nat.le_of_ble_eq_true rfl, Nat.le_of_ble_eq_true rfl⟩ ⟨Nat.le_of_ble_eq_true rfl, Nat.le_of_ble_eq_true rfl⟩ (Nat.le_of_ble_eq_true rfl) rfl dX5_punches_54 (fun e21 => ?_)
        refine f_istore (L' := [(4, .int r19), (0, .ref a0), (1, .int x1), (2, .int x2), (3, .int x3)]) hC dX5_punches_57 (by decide) rfl ?_
        refine f_aload_n hC dX5_punches_59 rfl 1 rfl ?_
        refine f_getR hC 5 1 501 rfl (by decide) iX5 q_1260 rfl rfl (fSm.k (fSm.tr e18 (fSm.rf w)) g3) dX5_punches_60 ?_
        refine f_iconst (v := 5) hC dX5_punches_63 (by decide) ?_
        refine f_dup2 hC dX5_punches_64 rfl rfl ?_
        obtain ⟨g22, hF⟩ := fg_open hF
        obtain ⟨g23, hF⟩ := fg_open hF
        refine f_iald hC (fSm.k (fSm.tr e18 (fSm.rf w)) g22) (fSm.v (fSm.tr e18 (fSm.rf w)) g23) dX5_punches_65 ?_
        refine f_iload hC dX5_punches_66 0 rfl ?_
        refine f_iadd hC dX5_punches_68 ?_
        refine f_iast hC (fSm.k (fSm.tr e18 (fSm.rf w)) g22) (fSm.v (fSm.tr e18 (fSm.rf w)) g23) dX5_punches_69 ?_
        refine f_aload_n hC dX5_punches_70 rfl 1 rfl ?_
        refine f_iload hC dX5_punches_71 0 rfl ?_
        obtain ⟨r24, h25, hF⟩ := fb_open hF
        refine f_callV hC [.int r19] (c_X5_done l D cy a0 r19 (sI r16 601 (gR r16 501 a0 0) (Int32.toNatClampNeg 5) ((gI r16 601 (gR r16 501 a0 0) (Int32.toNatClampNeg 5)) + r19)) r24 h25) q_1368 q_137 q_1365 q_1367 q_76 h9_X5_done rfl (fSm.k (fSm.tr e18 (fSm.rf w)) g3) ⟨Nat.le_of_ble_eq_true rfl, Nat.le_of_ble_eq_true rfl⟩ ⟨Nat.le_of_ble_eq_true rfl, Nat.le_of_ble_eq_true rfl⟩ (Nat.le_of_ble_eq_true rfl) rfl dX5_punches_73 (fun e26 => ?_)
        obtain rfl := Option.some.inj hF
        exact f_iret hC hEn (fSm.tr e26 (fSm.tr e18 (fSm.rf w))) dX5_punches_76
      · replace hF := fi_neg hF c13
        refine f_aload_n hC dX5_punches_28 rfl 0 rfl ?_
        refine f_iconst (v := 3) hC dX5_punches_29 (by decide) ?_
        refine f_iconst (v := 1) hC dX5_punches_30 (by decide) ?_
        obtain ⟨r27, h28, hF⟩ := fb_open hF
        refine f_callV hC [.int 3, .int 1] (c_X5_refused l D cy a0 3 1 w r27 h28) q_1364 q_137 q_1361 q_1363 q_75 h9_X5_refused rfl (fSm.k (fSm.rf w) g3) ⟨Nat.le_of_ble_eq_true rfl, Nat.le_of_ble_eq_true rfl⟩ ⟨Nat.le_of_ble_eq_true rfl, Nat.le_of_ble_eq_true rfl⟩ (Nat.le_of_ble_eq_true rfl) rfl dX5_punches_31 (fun e29 => ?_)
        obtain rfl := Option.some.inj hF
        exact f_iret hC hEn (fSm.tr e29 (fSm.rf w)) dX5_punches_34
    · replace hF := fi_pos hF c9
      refine f_iconst (v := (-1)) hC dX5_punches_17 (by decide) ?_
      obtain rfl := Option.some.inj hF
      exact f_iret hC hEn (fSm.rf w) dX5_punches_18
theorem dX5_getsWet_0 : decode cX5_getsWet 0 = .ok (.aload_n 0, 1) := by decide +kernel
theorem dX5_getsWet_1 : decode cX5_getsWet 1 = .ok (.iload_n 1, 1) := by decide +kernel
theorem dX5_getsWet_2 : decode cX5_getsWet 2 = .ok (.iload_n 2, 1) := by decide +kernel
theorem dX5_getsWet_3 : decode cX5_getsWet 3 = .ok (.iconst 1, 1) := by decide +kernel
theorem dX5_getsWet_4 : decode cX5_getsWet 4 = .ok (.invokevirtual 78, 3) := by decide +kernel
theorem dX5_getsWet_7 : decode cX5_getsWet 7 = .ok (.iload_n 3, 1) := by decide +kernel
theorem dX5_getsWet_8 : decode cX5_getsWet 8 = .ok (.iadd, 1) := by decide +kernel
theorem dX5_getsWet_9 : decode cX5_getsWet 9 = .ok (.istore 4, 2) := by decide +kernel
theorem dX5_getsWet_11 : decode cX5_getsWet 11 = .ok (.aload_n 0, 1) := by decide +kernel
theorem dX5_getsWet_12 : decode cX5_getsWet 12 = .ok (.iload_n 1, 1) := by decide +kernel
theorem dX5_getsWet_13 : decode cX5_getsWet 13 = .ok (.iload_n 2, 1) := by decide +kernel
theorem dX5_getsWet_14 : decode cX5_getsWet 14 = .ok (.iconst 1, 1) := by decide +kernel
theorem dX5_getsWet_15 : decode cX5_getsWet 15 = .ok (.iload 4, 2) := by decide +kernel
theorem dX5_getsWet_17 : decode cX5_getsWet 17 = .ok (.bipush 9, 2) := by decide +kernel
theorem dX5_getsWet_19 : decode cX5_getsWet 19 = .ok (.if_icmp .le 8, 3) := by decide +kernel
theorem dX5_getsWet_22 : decode cX5_getsWet 22 = .ok (.bipush 9, 2) := by decide +kernel
theorem dX5_getsWet_24 : decode cX5_getsWet 24 = .ok (.goto 5, 3) := by decide +kernel
theorem dX5_getsWet_27 : decode cX5_getsWet 27 = .ok (.iload 4, 2) := by decide +kernel
theorem dX5_getsWet_29 : decode cX5_getsWet 29 = .ok (.invokevirtual 128, 3) := by decide +kernel
theorem dX5_getsWet_32 : decode cX5_getsWet 32 = .ok (.return_, 1) := by decide +kernel
theorem h9_X5_getsWet : yX5_getsWet.cls ≠ "java/lang/invoke/MethodHandle" ∧ yX5_getsWet.cls ≠ "java/lang/invoke/VarHandle" ∧ (parseMethodDescriptor yX5_getsWet.desc).map (fun d => d.parameters.length) = some 3 := by decide +kernel
noncomputable def F_X5_getsWet (a0 : Nat) (x1 : Int32) (x2 : Int32) (x3 : Int32) (w : FW) : Option (FW) :=
  fg (w.1 a0 = 6) inferInstance ((F_X5_half a0 x1 x2 1 w).bind (fun r1 => ((if (r1 + x3) ≤ 9 then some (r1 + x3) else some 9) : Option (Int32)).bind (fun x5 => (F_X5_setsHalf a0 x1 x2 1 x5 w).bind (fun r9 => some r9))))
set_option maxHeartbeats 4000000 in
set_option maxRecDepth 100000 in
theorem c_X5_getsWet (l : Launch) (D : va_G) (cy : Nat → ClassId) (a0 : Nat) (x1 : Int32) (x2 : Int32) (x3 : Int32) (w : FW) (r : FW) (hF : F_X5_getsWet a0 x1 x2 x3 w = some r) : fSpec l D cy yX5_getsWet cX5_getsWet 5 none { frames := 2, cells := 0, slots := 0, locals := 47 } [.ref a0, .int x1, .int x2, .int x3] w r none := by
  refine f_begin (by decide +kernel) (Nat.le_of_ble_eq_true rfl) (fun X hC hEn => ?_)
  unfold F_X5_getsWet at hF
  show fAt X 0 0 5 w [(0, .ref a0), (1, .int x1), (2, .int x2), (3, .int x3)] [] 0
  refine f_aload_n hC dX5_getsWet_0 rfl 0 rfl ?_
  refine f_iload_n hC dX5_getsWet_1 rfl 1 rfl ?_
  refine f_iload_n hC dX5_getsWet_2 rfl 2 rfl ?_
  refine f_iconst (v := 1) hC dX5_getsWet_3 (by decide) ?_
  obtain ⟨g3, hF⟩ := fg_open hF
  obtain ⟨r1, h2, hF⟩ := fb_open hF
  refine f_callV hC [.int x1, .int x2, .int 1] (c_X5_half l D cy a0 x1 x2 1 w r1 h2) q_1483 q_137 q_1480 q_1482 q_96 h9_X5_half rfl (fSm.k (fSm.rf w) g3) ⟨Nat.le_of_ble_eq_true rfl, Nat.le_of_ble_eq_true rfl⟩ ⟨Nat.le_of_ble_eq_true rfl, Nat.le_of_ble_eq_true rfl⟩ (Nat.le_of_ble_eq_true rfl) rfl dX5_getsWet_4 (fun e4 => ?_)
  refine f_iload_n hC dX5_getsWet_7 rfl 3 rfl ?_
  refine f_iadd hC dX5_getsWet_8 ?_
  refine f_istore (L' := [(4, .int (r1 + x3)), (0, .ref a0), (1, .int x1), (2, .int x2), (3, .int x3)]) hC dX5_getsWet_9 (by decide) rfl ?_
  refine f_aload_n hC dX5_getsWet_11 rfl 1 rfl ?_
  refine f_iload_n hC dX5_getsWet_12 rfl 2 rfl ?_
  refine f_iload_n hC dX5_getsWet_13 rfl 3 rfl ?_
  refine f_iconst (v := 1) hC dX5_getsWet_14 (by decide) ?_
  refine f_iload hC dX5_getsWet_15 0 rfl ?_
  refine f_bipush (v := 9) hC dX5_getsWet_17 (by decide) ?_
  obtain ⟨x5, h6, hF⟩ := fb_open hF
  have K8 : fAt X 0 0 5 w [] [.int x5, .int 1, .int x2, .int x1, .ref a0] 29 := by
    obtain ⟨r9, h10, hF⟩ := fb_open hF
    refine f_callV hC [.int x1, .int x2, .int 1, .int x5] (c_X5_setsHalf l D cy a0 x1 x2 1 x5 w r9 h10) q_1408 q_137 q_1405 q_1407 q_84 h9_X5_setsHalf rfl (fSm.k (fSm.rf w) g3) ⟨Nat.le_of_ble_eq_true rfl, Nat.le_of_ble_eq_true rfl⟩ ⟨Nat.le_of_ble_eq_true rfl, Nat.le_of_ble_eq_true rfl⟩ (Nat.le_of_ble_eq_true rfl) rfl dX5_getsWet_29 (fun e11 => ?_)
    obtain rfl := Option.some.inj hF
    exact f_vret hC hEn (fSm.tr e11 (fSm.rf w)) dX5_getsWet_32
  refine f_icmp_le hC 27 dX5_getsWet_19 (by decide) (fun c12 => ?_) (fun c12 => ?_)
  · replace h6 := fi_pos h6 c12
    refine f_iload hC dX5_getsWet_27 0 rfl ?_
    obtain rfl := Option.some.inj h6
    refine f_sub (L' := []) [] rfl ?_
    exact K8
  · replace h6 := fi_neg h6 c12
    refine f_bipush (v := 9) hC dX5_getsWet_22 (by decide) ?_
    refine f_goto hC 29 dX5_getsWet_24 (by decide) ?_
    obtain rfl := Option.some.inj h6
    refine f_sub (L' := []) [] rfl ?_
    exact K8
theorem dX5_makesWet_0 : decode cX5_makesWet 0 = .ok (.aload_n 0, 1) := by decide +kernel
theorem dX5_makesWet_1 : decode cX5_makesWet 1 = .ok (.iload_n 1, 1) := by decide +kernel
theorem dX5_makesWet_2 : decode cX5_makesWet 2 = .ok (.invokevirtual 135, 3) := by decide +kernel
theorem dX5_makesWet_5 : decode cX5_makesWet 5 = .ok (.ifCond .ne 5, 3) := by decide +kernel
theorem dX5_makesWet_8 : decode cX5_makesWet 8 = .ok (.iconst (-1), 1) := by decide +kernel
theorem dX5_makesWet_9 : decode cX5_makesWet 9 = .ok (.ireturn, 1) := by decide +kernel
theorem dX5_makesWet_10 : decode cX5_makesWet 10 = .ok (.iload_n 3, 1) := by decide +kernel
theorem dX5_makesWet_11 : decode cX5_makesWet 11 = .ok (.iconst 1, 1) := by decide +kernel
theorem dX5_makesWet_12 : decode cX5_makesWet 12 = .ok (.bipush 9, 2) := by decide +kernel
theorem dX5_makesWet_14 : decode cX5_makesWet 14 = .ok (.invokestatic 66, 3) := by decide +kernel
theorem dX5_makesWet_17 : decode cX5_makesWet 17 = .ok (.ifCond .ne 6, 3) := by decide +kernel
theorem dX5_makesWet_20 : decode cX5_makesWet 20 = .ok (.bipush (-2), 2) := by decide +kernel
theorem dX5_makesWet_22 : decode cX5_makesWet 22 = .ok (.ireturn, 1) := by decide +kernel
theorem dX5_makesWet_23 : decode cX5_makesWet 23 = .ok (.aload_n 0, 1) := by decide +kernel
theorem dX5_makesWet_24 : decode cX5_makesWet 24 = .ok (.iload_n 1, 1) := by decide +kernel
theorem dX5_makesWet_25 : decode cX5_makesWet 25 = .ok (.iload_n 2, 1) := by decide +kernel
theorem dX5_makesWet_26 : decode cX5_makesWet 26 = .ok (.iload_n 3, 1) := by decide +kernel
theorem dX5_makesWet_27 : decode cX5_makesWet 27 = .ok (.invokevirtual 148, 3) := by decide +kernel
theorem dX5_makesWet_30 : decode cX5_makesWet 30 = .ok (.aload_n 0, 1) := by decide +kernel
theorem dX5_makesWet_31 : decode cX5_makesWet 31 = .ok (.iload_n 1, 1) := by decide +kernel
theorem dX5_makesWet_32 : decode cX5_makesWet 32 = .ok (.bipush 10, 2) := by decide +kernel
theorem dX5_makesWet_34 : decode cX5_makesWet 34 = .ok (.invokevirtual 70, 3) := by decide +kernel
theorem dX5_makesWet_37 : decode cX5_makesWet 37 = .ok (.ifCond .ne 44, 3) := by decide +kernel
theorem dX5_makesWet_40 : decode cX5_makesWet 40 = .ok (.aload_n 0, 1) := by decide +kernel
theorem dX5_makesWet_41 : decode cX5_makesWet 41 = .ok (.iload_n 1, 1) := by decide +kernel
theorem dX5_makesWet_42 : decode cX5_makesWet 42 = .ok (.iconst 1, 1) := by decide +kernel
theorem dX5_makesWet_43 : decode cX5_makesWet 43 = .ok (.iload_n 2, 1) := by decide +kernel
theorem dX5_makesWet_44 : decode cX5_makesWet 44 = .ok (.isub, 1) := by decide +kernel
theorem dX5_makesWet_45 : decode cX5_makesWet 45 = .ok (.iload_n 3, 1) := by decide +kernel
theorem dX5_makesWet_46 : decode cX5_makesWet 46 = .ok (.iconst 2, 1) := by decide +kernel
theorem dX5_makesWet_47 : decode cX5_makesWet 47 = .ok (.idiv, 1) := by decide +kernel
theorem dX5_makesWet_48 : decode cX5_makesWet 48 = .ok (.invokevirtual 148, 3) := by decide +kernel
theorem dX5_makesWet_51 : decode cX5_makesWet 51 = .ok (.aload_n 0, 1) := by decide +kernel
theorem dX5_makesWet_52 : decode cX5_makesWet 52 = .ok (.iload_n 1, 1) := by decide +kernel
theorem dX5_makesWet_53 : decode cX5_makesWet 53 = .ok (.iconst 0, 1) := by decide +kernel
theorem dX5_makesWet_54 : decode cX5_makesWet 54 = .ok (.iconst 1, 1) := by decide +kernel
theorem dX5_makesWet_55 : decode cX5_makesWet 55 = .ok (.invokevirtual 78, 3) := by decide +kernel
theorem dX5_makesWet_58 : decode cX5_makesWet 58 = .ok (.iconst 5, 1) := by decide +kernel
theorem dX5_makesWet_59 : decode cX5_makesWet 59 = .ok (.if_icmp .gt 14, 3) := by decide +kernel
theorem dX5_makesWet_62 : decode cX5_makesWet 62 = .ok (.aload_n 0, 1) := by decide +kernel
theorem dX5_makesWet_63 : decode cX5_makesWet 63 = .ok (.iload_n 1, 1) := by decide +kernel
theorem dX5_makesWet_64 : decode cX5_makesWet 64 = .ok (.iconst 1, 1) := by decide +kernel
theorem dX5_makesWet_65 : decode cX5_makesWet 65 = .ok (.iconst 1, 1) := by decide +kernel
theorem dX5_makesWet_66 : decode cX5_makesWet 66 = .ok (.invokevirtual 78, 3) := by decide +kernel
theorem dX5_makesWet_69 : decode cX5_makesWet 69 = .ok (.iconst 5, 1) := by decide +kernel
theorem dX5_makesWet_70 : decode cX5_makesWet 70 = .ok (.if_icmp .le 11, 3) := by decide +kernel
theorem dX5_makesWet_73 : decode cX5_makesWet 73 = .ok (.aload_n 0, 1) := by decide +kernel
theorem dX5_makesWet_74 : decode cX5_makesWet 74 = .ok (.iload_n 1, 1) := by decide +kernel
theorem dX5_makesWet_75 : decode cX5_makesWet 75 = .ok (.bipush 10, 2) := by decide +kernel
theorem dX5_makesWet_77 : decode cX5_makesWet 77 = .ok (.iconst 1, 1) := by decide +kernel
theorem dX5_makesWet_78 : decode cX5_makesWet 78 = .ok (.invokevirtual 74, 3) := by decide +kernel
theorem dX5_makesWet_81 : decode cX5_makesWet 81 = .ok (.aload_n 0, 1) := by decide +kernel
theorem dX5_makesWet_82 : decode cX5_makesWet 82 = .ok (.aload_n 0, 1) := by decide +kernel
theorem dX5_makesWet_83 : decode cX5_makesWet 83 = .ok (.iload_n 1, 1) := by decide +kernel
theorem dX5_makesWet_84 : decode cX5_makesWet 84 = .ok (.iload_n 2, 1) := by decide +kernel
theorem dX5_makesWet_85 : decode cX5_makesWet 85 = .ok (.iconst 1, 1) := by decide +kernel
theorem dX5_makesWet_86 : decode cX5_makesWet 86 = .ok (.invokevirtual 78, 3) := by decide +kernel
theorem dX5_makesWet_89 : decode cX5_makesWet 89 = .ok (.invokevirtual 125, 3) := by decide +kernel
theorem dX5_makesWet_92 : decode cX5_makesWet 92 = .ok (.ireturn, 1) := by decide +kernel
theorem h9_X5_makesWet : yX5_makesWet.cls ≠ "java/lang/invoke/MethodHandle" ∧ yX5_makesWet.cls ≠ "java/lang/invoke/VarHandle" ∧ (parseMethodDescriptor yX5_makesWet.desc).map (fun d => d.parameters.length) = some 3 := by decide +kernel
noncomputable def F_X5_makesWet (a0 : Nat) (x1 : Int32) (x2 : Int32) (x3 : Int32) (w : FW) : Option (Int32 × FW) :=
  fg (w.1 a0 = 6) inferInstance ((F_X5_isTicket a0 x1 w).bind (fun r1 => (if r1 = 0 then some ((-1), w) else (F_X5_in x3 1 9 w).bind (fun r6 => (if r6 = 0 then some ((-2), w) else (F_X5_getsWet a0 x1 x2 x3 w).bind (fun r10 => (F_X5_of a0 x1 10 r10).bind (fun r13 => ((if r13 = 0 then (F_X5_getsWet a0 x1 (1 - x2) (x3 / 2) r10).bind (fun r27 => (F_X5_half a0 x1 0 1 r27).bind (fun r30 => (if 5 < r30 then (F_X5_sets a0 x1 10 1 r27).bind (fun r34 => some r34) else (F_X5_half a0 x1 1 1 r27).bind (fun r37 => (if r37 ≤ 5 then some r27 else (F_X5_sets a0 x1 10 1 r27).bind (fun r41 => some r41)))))) else some r10) : Option (FW)).bind (fun x16 => (F_X5_half a0 x1 x2 1 x16).bind (fun r20 => (F_X5_done a0 r20 x16).bind (fun r23 => some (r23.1, r23.2)))))))))))
set_option maxHeartbeats 4000000 in
set_option maxRecDepth 100000 in
theorem c_X5_makesWet (l : Launch) (D : va_G) (cy : Nat → ClassId) (a0 : Nat) (x1 : Int32) (x2 : Int32) (x3 : Int32) (w : FW) (r : Int32 × FW) (hF : F_X5_makesWet a0 x1 x2 x3 w = some r) : fSpec l D cy yX5_makesWet cX5_makesWet 4 (some .int) { frames := 3, cells := 0, slots := 0, locals := 71 } [.ref a0, .int x1, .int x2, .int x3] w r.2 (some (.int r.1)) := by
  refine f_begin (by decide +kernel) (Nat.le_of_ble_eq_true rfl) (fun X hC hEn => ?_)
  unfold F_X5_makesWet at hF
  show fAt X 0 0 4 w [(0, .ref a0), (1, .int x1), (2, .int x2), (3, .int x3)] [] 0
  refine f_aload_n hC dX5_makesWet_0 rfl 0 rfl ?_
  refine f_iload_n hC dX5_makesWet_1 rfl 1 rfl ?_
  obtain ⟨g3, hF⟩ := fg_open hF
  obtain ⟨r1, h2, hF⟩ := fb_open hF
  refine f_callV hC [.int x1] (c_X5_isTicket l D cy a0 x1 w r1 h2) q_1420 q_137 q_1417 q_1419 q_86 h9_X5_isTicket rfl (fSm.k (fSm.rf w) g3) ⟨Nat.le_of_ble_eq_true rfl, Nat.le_of_ble_eq_true rfl⟩ ⟨Nat.le_of_ble_eq_true rfl, Nat.le_of_ble_eq_true rfl⟩ (Nat.le_of_ble_eq_true rfl) rfl dX5_makesWet_2 (fun e4 => ?_)
  refine f_if_ne hC 10 dX5_makesWet_5 (by decide) (fun c5 => ?_) (fun c5 => ?_)
  · replace hF := fi_neg hF c5
    refine f_iload_n hC dX5_makesWet_10 rfl 3 rfl ?_
    refine f_iconst (v := 1) hC dX5_makesWet_11 (by decide) ?_
    refine f_bipush (v := 9) hC dX5_makesWet_12 (by decide) ?_
    obtain ⟨r6, h7, hF⟩ := fb_open hF
    refine f_callS hC [.int x3, .int 1, .int 9] (c_X5_in l D cy x3 1 9 w r6 h7) q_1357 q_137 q_1355 q_1356 h9_X5_in ⟨Nat.le_of_ble_eq_true rfl, Nat.le_of_ble_eq_true rfl⟩ ⟨Nat.le_of_ble_eq_true rfl, Nat.le_of_ble_eq_true rfl⟩ (Nat.le_of_ble_eq_true rfl) rfl dX5_makesWet_14 (fun e8 => ?_)
    refine f_if_ne hC 23 dX5_makesWet_17 (by decide) (fun c9 => ?_) (fun c9 => ?_)
    · replace hF := fi_neg hF c9
      refine f_aload_n hC dX5_makesWet_23 rfl 0 rfl ?_
      refine f_iload_n hC dX5_makesWet_24 rfl 1 rfl ?_
      refine f_iload_n hC dX5_makesWet_25 rfl 2 rfl ?_
      refine f_iload_n hC dX5_makesWet_26 rfl 3 rfl ?_
      obtain ⟨r10, h11, hF⟩ := fb_open hF
      refine f_callV hC [.int x1, .int x2, .int x3] (c_X5_getsWet l D cy a0 x1 x2 x3 w r10 h11) q_1506 q_137 q_1503 q_1505 q_100 h9_X5_getsWet rfl (fSm.k (fSm.rf w) g3) ⟨Nat.le_of_ble_eq_true rfl, Nat.le_of_ble_eq_true rfl⟩ ⟨Nat.le_of_ble_eq_true rfl, Nat.le_of_ble_eq_true rfl⟩ (Nat.le_of_ble_eq_true rfl) rfl dX5_makesWet_27 (fun e12 => ?_)
      refine f_aload_n hC dX5_makesWet_30 rfl 0 rfl ?_
      refine f_iload_n hC dX5_makesWet_31 rfl 1 rfl ?_
      refine f_bipush (v := 10) hC dX5_makesWet_32 (by decide) ?_
      obtain ⟨r13, h14, hF⟩ := fb_open hF
      refine f_callV hC [.int x1, .int 10] (c_X5_of l D cy a0 x1 10 r10 r13 h14) q_1452 q_137 q_1449 q_1451 q_91 h9_X5_of rfl (fSm.k (fSm.tr e12 (fSm.rf w)) g3) ⟨Nat.le_of_ble_eq_true rfl, Nat.le_of_ble_eq_true rfl⟩ ⟨Nat.le_of_ble_eq_true rfl, Nat.le_of_ble_eq_true rfl⟩ (Nat.le_of_ble_eq_true rfl) rfl dX5_makesWet_34 (fun e15 => ?_)
      obtain ⟨x16, h17, hF⟩ := fb_open hF
      have K19 : fSm x16 w → fAt X 0 0 4 x16 [(0, .ref a0), (1, .int x1), (2, .int x2)] [] 81 := by
        intro p18
        refine f_aload_n hC dX5_makesWet_81 rfl 0 rfl ?_
        refine f_aload_n hC dX5_makesWet_82 rfl 0 rfl ?_
        refine f_iload_n hC dX5_makesWet_83 rfl 1 rfl ?_
        refine f_iload_n hC dX5_makesWet_84 rfl 2 rfl ?_
        refine f_iconst (v := 1) hC dX5_makesWet_85 (by decide) ?_
        obtain ⟨r20, h21, hF⟩ := fb_open hF
        refine f_callV hC [.int x1, .int x2, .int 1] (c_X5_half l D cy a0 x1 x2 1 x16 r20 h21) q_1483 q_137 q_1480 q_1482 q_96 h9_X5_half rfl (fSm.k p18 g3) ⟨Nat.le_of_ble_eq_true rfl, Nat.le_of_ble_eq_true rfl⟩ ⟨Nat.le_of_ble_eq_true rfl, Nat.le_of_ble_eq_true rfl⟩ (Nat.le_of_ble_eq_true rfl) rfl dX5_makesWet_86 (fun e22 => ?_)
        obtain ⟨r23, h24, hF⟩ := fb_open hF
        refine f_callV hC [.int r20] (c_X5_done l D cy a0 r20 x16 r23 h24) q_1368 q_137 q_1365 q_1367 q_76 h9_X5_done rfl (fSm.k p18 g3) ⟨Nat.le_of_ble_eq_true rfl, Nat.le_of_ble_eq_true rfl⟩ ⟨Nat.le_of_ble_eq_true rfl, Nat.le_of_ble_eq_true rfl⟩ (Nat.le_of_ble_eq_true rfl) rfl dX5_makesWet_89 (fun e25 => ?_)
        obtain rfl := Option.some.inj hF
        exact f_iret hC hEn (fSm.tr e25 p18) dX5_makesWet_92
      refine f_if_ne hC 81 dX5_makesWet_37 (by decide) (fun c26 => ?_) (fun c26 => ?_)
      · replace h17 := fi_neg h17 c26
        obtain rfl := Option.some.inj h17
        refine f_sub (L' := [(0, .ref a0), (1, .int x1), (2, .int x2)]) [0, 1, 2] rfl ?_
        exact K19 (fSm.tr e12 (fSm.rf w))
      · replace h17 := fi_pos h17 c26
        refine f_aload_n hC dX5_makesWet_40 rfl 0 rfl ?_
        refine f_iload_n hC dX5_makesWet_41 rfl 1 rfl ?_
        refine f_iconst (v := 1) hC dX5_makesWet_42 (by decide) ?_
        refine f_iload_n hC dX5_makesWet_43 rfl 2 rfl ?_
        refine f_isub hC dX5_makesWet_44 ?_
        refine f_iload_n hC dX5_makesWet_45 rfl 3 rfl ?_
        refine f_iconst (v := 2) hC dX5_makesWet_46 (by decide) ?_
        refine f_idiv hC dX5_makesWet_47 (by decide) ?_
        obtain ⟨r27, h28, h17⟩ := fb_open h17
        refine f_callV hC [.int x1, .int (1 - x2), .int (x3 / 2)] (c_X5_getsWet l D cy a0 x1 (1 - x2) (x3 / 2) r10 r27 h28) q_1506 q_137 q_1503 q_1505 q_100 h9_X5_getsWet rfl (fSm.k (fSm.tr e12 (fSm.rf w)) g3) ⟨Nat.le_of_ble_eq_true rfl, Nat.le_of_ble_eq_true rfl⟩ ⟨Nat.le_of_ble_eq_true rfl, Nat.le_of_ble_eq_true rfl⟩ (Nat.le_of_ble_eq_true rfl) rfl dX5_makesWet_48 (fun e29 => ?_)
        refine f_aload_n hC dX5_makesWet_51 rfl 0 rfl ?_
        refine f_iload_n hC dX5_makesWet_52 rfl 1 rfl ?_
        refine f_iconst (v := 0) hC dX5_makesWet_53 (by decide) ?_
        refine f_iconst (v := 1) hC dX5_makesWet_54 (by decide) ?_
        obtain ⟨r30, h31, h17⟩ := fb_open h17
        refine f_callV hC [.int x1, .int 0, .int 1] (c_X5_half l D cy a0 x1 0 1 r27 r30 h31) q_1483 q_137 q_1480 q_1482 q_96 h9_X5_half rfl (fSm.k (fSm.tr e29 (fSm.tr e12 (fSm.rf w))) g3) ⟨Nat.le_of_ble_eq_true rfl, Nat.le_of_ble_eq_true rfl⟩ ⟨Nat.le_of_ble_eq_true rfl, Nat.le_of_ble_eq_true rfl⟩ (Nat.le_of_ble_eq_true rfl) rfl dX5_makesWet_55 (fun e32 => ?_)
        refine f_iconst (v := 5) hC dX5_makesWet_58 (by decide) ?_
        refine f_icmp_gt hC 73 dX5_makesWet_59 (by decide) (fun c33 => ?_) (fun c33 => ?_)
        · replace h17 := fi_pos h17 c33
          refine f_aload_n hC dX5_makesWet_73 rfl 0 rfl ?_
          refine f_iload_n hC dX5_makesWet_74 rfl 1 rfl ?_
          refine f_bipush (v := 10) hC dX5_makesWet_75 (by decide) ?_
          refine f_iconst (v := 1) hC dX5_makesWet_77 (by decide) ?_
          obtain ⟨r34, h35, h17⟩ := fb_open h17
          refine f_callV hC [.int x1, .int 10, .int 1] (c_X5_sets l D cy a0 x1 10 1 r27 r34 h35) q_1404 q_137 q_1401 q_1403 q_83 h9_X5_sets rfl (fSm.k (fSm.tr e29 (fSm.tr e12 (fSm.rf w))) g3) ⟨Nat.le_of_ble_eq_true rfl, Nat.le_of_ble_eq_true rfl⟩ ⟨Nat.le_of_ble_eq_true rfl, Nat.le_of_ble_eq_true rfl⟩ (Nat.le_of_ble_eq_true rfl) rfl dX5_makesWet_78 (fun e36 => ?_)
          obtain rfl := Option.some.inj h17
          refine f_sub (L' := [(0, .ref a0), (1, .int x1), (2, .int x2)]) [0, 1, 2] rfl ?_
          exact K19 (fSm.tr e36 (fSm.tr e29 (fSm.tr e12 (fSm.rf w))))
        · replace h17 := fi_neg h17 c33
          refine f_aload_n hC dX5_makesWet_62 rfl 0 rfl ?_
          refine f_iload_n hC dX5_makesWet_63 rfl 1 rfl ?_
          refine f_iconst (v := 1) hC dX5_makesWet_64 (by decide) ?_
          refine f_iconst (v := 1) hC dX5_makesWet_65 (by decide) ?_
          obtain ⟨r37, h38, h17⟩ := fb_open h17
          refine f_callV hC [.int x1, .int 1, .int 1] (c_X5_half l D cy a0 x1 1 1 r27 r37 h38) q_1483 q_137 q_1480 q_1482 q_96 h9_X5_half rfl (fSm.k (fSm.tr e29 (fSm.tr e12 (fSm.rf w))) g3) ⟨Nat.le_of_ble_eq_true rfl, Nat.le_of_ble_eq_true rfl⟩ ⟨Nat.le_of_ble_eq_true rfl, Nat.le_of_ble_eq_true rfl⟩ (Nat.le_of_ble_eq_true rfl) rfl dX5_makesWet_66 (fun e39 => ?_)
          refine f_iconst (v := 5) hC dX5_makesWet_69 (by decide) ?_
          refine f_icmp_le hC 81 dX5_makesWet_70 (by decide) (fun c40 => ?_) (fun c40 => ?_)
          · replace h17 := fi_pos h17 c40
            obtain rfl := Option.some.inj h17
            refine f_sub (L' := [(0, .ref a0), (1, .int x1), (2, .int x2)]) [0, 1, 2] rfl ?_
            exact K19 (fSm.tr e29 (fSm.tr e12 (fSm.rf w)))
          · replace h17 := fi_neg h17 c40
            refine f_aload_n hC dX5_makesWet_73 rfl 0 rfl ?_
            refine f_iload_n hC dX5_makesWet_74 rfl 1 rfl ?_
            refine f_bipush (v := 10) hC dX5_makesWet_75 (by decide) ?_
            refine f_iconst (v := 1) hC dX5_makesWet_77 (by decide) ?_
            obtain ⟨r41, h42, h17⟩ := fb_open h17
            refine f_callV hC [.int x1, .int 10, .int 1] (c_X5_sets l D cy a0 x1 10 1 r27 r41 h42) q_1404 q_137 q_1401 q_1403 q_83 h9_X5_sets rfl (fSm.k (fSm.tr e29 (fSm.tr e12 (fSm.rf w))) g3) ⟨Nat.le_of_ble_eq_true rfl, Nat.le_of_ble_eq_true rfl⟩ ⟨Nat.le_of_ble_eq_true rfl, Nat.le_of_ble_eq_true rfl⟩ (Nat.le_of_ble_eq_true rfl) rfl dX5_makesWet_78 (fun e43 => ?_)
            obtain rfl := Option.some.inj h17
            refine f_sub (L' := [(0, .ref a0), (1, .int x1), (2, .int x2)]) [0, 1, 2] rfl ?_
            exact K19 (fSm.tr e43 (fSm.tr e29 (fSm.tr e12 (fSm.rf w))))
    · replace hF := fi_pos hF c9
      refine f_bipush (v := (-2)) hC dX5_makesWet_20 (by decide) ?_
      obtain rfl := Option.some.inj hF
      exact f_iret hC hEn (fSm.rf w) dX5_makesWet_22
  · replace hF := fi_pos hF c5
    refine f_iconst (v := (-1)) hC dX5_makesWet_8 (by decide) ?_
    obtain rfl := Option.some.inj hF
    exact f_iret hC hEn (fSm.rf w) dX5_makesWet_9
theorem dX5_tornMany_0 : decode cX5_tornMany 0 = .ok (.iconst 0, 1) := by decide +kernel
theorem dX5_tornMany_1 : decode cX5_tornMany 1 = .ok (.istore_n 1, 1) := by decide +kernel
theorem dX5_tornMany_2 : decode cX5_tornMany 2 = .ok (.iconst 0, 1) := by decide +kernel
theorem dX5_tornMany_3 : decode cX5_tornMany 3 = .ok (.istore_n 2, 1) := by decide +kernel
theorem dX5_tornMany_4 : decode cX5_tornMany 4 = .ok (.iload_n 2, 1) := by decide +kernel
theorem dX5_tornMany_5 : decode cX5_tornMany 5 = .ok (.aload_n 0, 1) := by decide +kernel
theorem dX5_tornMany_6 : decode cX5_tornMany 6 = .ok (.getfield 7, 3) := by decide +kernel
theorem dX5_tornMany_9 : decode cX5_tornMany 9 = .ok (.iconst 0, 1) := by decide +kernel
theorem dX5_tornMany_10 : decode cX5_tornMany 10 = .ok (.iaload, 1) := by decide +kernel
theorem dX5_tornMany_11 : decode cX5_tornMany 11 = .ok (.if_icmp .ge 19, 3) := by decide +kernel
theorem dX5_tornMany_14 : decode cX5_tornMany 14 = .ok (.iload_n 1, 1) := by decide +kernel
theorem dX5_tornMany_15 : decode cX5_tornMany 15 = .ok (.aload_n 0, 1) := by decide +kernel
theorem dX5_tornMany_16 : decode cX5_tornMany 16 = .ok (.iload_n 2, 1) := by decide +kernel
theorem dX5_tornMany_17 : decode cX5_tornMany 17 = .ok (.bipush 10, 2) := by decide +kernel
theorem dX5_tornMany_19 : decode cX5_tornMany 19 = .ok (.invokevirtual 70, 3) := by decide +kernel
theorem dX5_tornMany_22 : decode cX5_tornMany 22 = .ok (.iadd, 1) := by decide +kernel
theorem dX5_tornMany_23 : decode cX5_tornMany 23 = .ok (.istore_n 1, 1) := by decide +kernel
theorem dX5_tornMany_24 : decode cX5_tornMany 24 = .ok (.iinc 2 1, 3) := by decide +kernel
theorem dX5_tornMany_27 : decode cX5_tornMany 27 = .ok (.goto (-23), 3) := by decide +kernel
theorem dX5_tornMany_30 : decode cX5_tornMany 30 = .ok (.iload_n 1, 1) := by decide +kernel
theorem dX5_tornMany_31 : decode cX5_tornMany 31 = .ok (.ireturn, 1) := by decide +kernel
theorem h9_X5_tornMany : yX5_tornMany.cls ≠ "java/lang/invoke/MethodHandle" ∧ yX5_tornMany.cls ≠ "java/lang/invoke/VarHandle" ∧ (parseMethodDescriptor yX5_tornMany.desc).map (fun d => d.parameters.length) = some 0 := by decide +kernel
noncomputable def F_X5_tornMany (a0 : Nat) (w : FW) : Option (Int32) :=
  (fLoop (σ := Int32 × Int32) (ρ := Int32) (fun s1 => fg (w.1 a0 = 6) inferInstance (fg (w.1 (gR w 501 a0 0) = 11) inferInstance (fg (¬ ((0 : Int32) < 0 ∨ w.2.1 (gR w 501 a0 0) ≤ Int32.toNatClampNeg 0)) inferInstance ((if (gI w 601 (gR w 501 a0 0) (Int32.toNatClampNeg 0)) ≤ s1.2 then some (.inr s1.1) else (F_X5_of a0 s1.2 10 w).bind (fun r14 => some (.inl ((s1.1 + r14), (s1.2 + 1))))))))) (0, 0)).bind (fun x7 => some x7)
set_option maxHeartbeats 4000000 in
set_option maxRecDepth 100000 in
theorem c_X5_tornMany (l : Launch) (D : va_G) (cy : Nat → ClassId) (a0 : Nat) (w : FW) (r : Int32) (hF : F_X5_tornMany a0 w = some r) : fSpec l D cy yX5_tornMany cX5_tornMany 3 (some .int) { frames := 1, cells := 0, slots := 0, locals := 22 } [.ref a0] w w (some (.int r)) := by
  refine f_begin (by decide +kernel) (Nat.le_of_ble_eq_true rfl) (fun X hC hEn => ?_)
  unfold F_X5_tornMany at hF
  show fAt X 0 0 3 w [(0, .ref a0)] [] 0
  refine f_iconst (v := 0) hC dX5_tornMany_0 (by decide) ?_
  refine f_istore_n (L' := [(1, .int 0), (0, .ref a0)]) hC dX5_tornMany_1 rfl (by decide) rfl ?_
  refine f_iconst (v := 0) hC dX5_tornMany_2 (by decide) ?_
  refine f_istore_n (L' := [(2, .int 0), (1, .int 0), (0, .ref a0)]) hC dX5_tornMany_3 rfl (by decide) rfl ?_
  obtain ⟨x7, h8, hF⟩ := fb_open hF
  have K9 : fAt X 0 0 3 w [(1, .int x7)] [] 30 := by
    refine f_iload_n hC dX5_tornMany_30 rfl 0 rfl ?_
    obtain rfl := Option.some.inj hF
    exact f_iret hC hEn (fSm.rf w) dX5_tornMany_31
  refine f_sub (L' := [(0, .ref a0), (1, .int 0), (2, .int 0)]) [2, 1, 0] rfl ?_
  refine fLoop_ind (fun (s1 : Int32 × Int32) => fAt X 0 0 3 w [(0, .ref a0), (1, .int s1.1), (2, .int s1.2)] [] 4) (fun s1 y6 h2 go3 ou4 => ?_) h8
  refine f_iload_n hC dX5_tornMany_4 rfl 2 rfl ?_
  refine f_aload_n hC dX5_tornMany_5 rfl 0 rfl ?_
  obtain ⟨g10, h2⟩ := fg_open h2
  refine f_getR hC 5 1 501 rfl (by decide) iX5 q_1260 rfl rfl (fSm.k (fSm.rf w) g10) dX5_tornMany_6 ?_
  refine f_iconst (v := 0) hC dX5_tornMany_9 (by decide) ?_
  obtain ⟨g11, h2⟩ := fg_open h2
  obtain ⟨g12, h2⟩ := fg_open h2
  refine f_iald hC (fSm.k (fSm.rf w) g11) (fSm.v (fSm.rf w) g12) dX5_tornMany_10 ?_
  refine f_icmp_ge hC 30 dX5_tornMany_11 (by decide) (fun c13 => ?_) (fun c13 => ?_)
  · replace h2 := fi_pos h2 c13
    obtain rfl := Option.some.inj h2
    obtain rfl := ou4 _ rfl
    refine f_sub (L' := [(1, .int s1.1)]) [1] rfl ?_
    exact K9
  · replace h2 := fi_neg h2 c13
    refine f_iload_n hC dX5_tornMany_14 rfl 1 rfl ?_
    refine f_aload_n hC dX5_tornMany_15 rfl 0 rfl ?_
    refine f_iload_n hC dX5_tornMany_16 rfl 2 rfl ?_
    refine f_bipush (v := 10) hC dX5_tornMany_17 (by decide) ?_
    obtain ⟨r14, h15, h2⟩ := fb_open h2
    refine f_callV hC [.int s1.2, .int 10] (c_X5_of l D cy a0 s1.2 10 w r14 h15) q_1452 q_137 q_1449 q_1451 q_91 h9_X5_of rfl (fSm.k (fSm.rf w) g10) ⟨Nat.le_of_ble_eq_true rfl, Nat.le_of_ble_eq_true rfl⟩ ⟨Nat.le_of_ble_eq_true rfl, Nat.le_of_ble_eq_true rfl⟩ (Nat.le_of_ble_eq_true rfl) rfl dX5_tornMany_19 (fun e16 => ?_)
    refine f_iadd hC dX5_tornMany_22 ?_
    refine f_istore_n (L' := [(1, .int (s1.1 + r14)), (0, .ref a0), (2, .int s1.2)]) hC dX5_tornMany_23 rfl (by decide) rfl ?_
    refine f_iinc (L' := [(2, .int (s1.2 + 1)), (1, .int (s1.1 + r14)), (0, .ref a0)]) hC dX5_tornMany_24 2 rfl rfl (by decide) rfl ?_
    refine f_goto hC 4 dX5_tornMany_27 (by decide) ?_
    obtain rfl := Option.some.inj h2
    refine f_sub (L' := [(0, .ref a0), (1, .int (s1.1 + r14)), (2, .int (s1.2 + 1))]) [2, 1, 0] rfl ?_
    exact go3 _ rfl
theorem dX5_tears_0 : decode cX5_tears 0 = .ok (.aload_n 0, 1) := by decide +kernel
theorem dX5_tears_1 : decode cX5_tears 1 = .ok (.iload_n 1, 1) := by decide +kernel
theorem dX5_tears_2 : decode cX5_tears 2 = .ok (.invokevirtual 135, 3) := by decide +kernel
theorem dX5_tears_5 : decode cX5_tears 5 = .ok (.ifCond .ne 5, 3) := by decide +kernel
theorem dX5_tears_8 : decode cX5_tears 8 = .ok (.iconst (-1), 1) := by decide +kernel
theorem dX5_tears_9 : decode cX5_tears 9 = .ok (.ireturn, 1) := by decide +kernel
theorem dX5_tears_10 : decode cX5_tears 10 = .ok (.aload_n 0, 1) := by decide +kernel
theorem dX5_tears_11 : decode cX5_tears 11 = .ok (.iload_n 1, 1) := by decide +kernel
theorem dX5_tears_12 : decode cX5_tears 12 = .ok (.bipush 10, 2) := by decide +kernel
theorem dX5_tears_14 : decode cX5_tears 14 = .ok (.invokevirtual 70, 3) := by decide +kernel
theorem dX5_tears_17 : decode cX5_tears 17 = .ok (.iconst 1, 1) := by decide +kernel
theorem dX5_tears_18 : decode cX5_tears 18 = .ok (.if_icmp .ne 10, 3) := by decide +kernel
theorem dX5_tears_21 : decode cX5_tears 21 = .ok (.aload_n 0, 1) := by decide +kernel
theorem dX5_tears_22 : decode cX5_tears 22 = .ok (.iconst 3, 1) := by decide +kernel
theorem dX5_tears_23 : decode cX5_tears 23 = .ok (.iconst 1, 1) := by decide +kernel
theorem dX5_tears_24 : decode cX5_tears 24 = .ok (.invokevirtual 122, 3) := by decide +kernel
theorem dX5_tears_27 : decode cX5_tears 27 = .ok (.ireturn, 1) := by decide +kernel
theorem dX5_tears_28 : decode cX5_tears 28 = .ok (.aload_n 0, 1) := by decide +kernel
theorem dX5_tears_29 : decode cX5_tears 29 = .ok (.iload_n 1, 1) := by decide +kernel
theorem dX5_tears_30 : decode cX5_tears 30 = .ok (.bipush 10, 2) := by decide +kernel
theorem dX5_tears_32 : decode cX5_tears 32 = .ok (.iconst 1, 1) := by decide +kernel
theorem dX5_tears_33 : decode cX5_tears 33 = .ok (.invokevirtual 74, 3) := by decide +kernel
theorem dX5_tears_36 : decode cX5_tears 36 = .ok (.aload_n 0, 1) := by decide +kernel
theorem dX5_tears_37 : decode cX5_tears 37 = .ok (.aload_n 0, 1) := by decide +kernel
theorem dX5_tears_38 : decode cX5_tears 38 = .ok (.invokevirtual 151, 3) := by decide +kernel
theorem dX5_tears_41 : decode cX5_tears 41 = .ok (.invokevirtual 125, 3) := by decide +kernel
theorem dX5_tears_44 : decode cX5_tears 44 = .ok (.ireturn, 1) := by decide +kernel
theorem h9_X5_tears : yX5_tears.cls ≠ "java/lang/invoke/MethodHandle" ∧ yX5_tears.cls ≠ "java/lang/invoke/VarHandle" ∧ (parseMethodDescriptor yX5_tears.desc).map (fun d => d.parameters.length) = some 1 := by decide +kernel
noncomputable def F_X5_tears (a0 : Nat) (x1 : Int32) (w : FW) : Option (Int32 × FW) :=
  fg (w.1 a0 = 6) inferInstance ((F_X5_isTicket a0 x1 w).bind (fun r1 => (if r1 = 0 then some ((-1), w) else (F_X5_of a0 x1 10 w).bind (fun r6 => (if r6 = 1 then (F_X5_refused a0 3 1 w).bind (fun r19 => some (r19.1, r19.2)) else (F_X5_sets a0 x1 10 1 w).bind (fun r10 => (F_X5_tornMany a0 r10).bind (fun r13 => (F_X5_done a0 r13 r10).bind (fun r16 => some (r16.1, r16.2)))))))))
set_option maxHeartbeats 4000000 in
set_option maxRecDepth 100000 in
theorem c_X5_tears (l : Launch) (D : va_G) (cy : Nat → ClassId) (a0 : Nat) (x1 : Int32) (w : FW) (r : Int32 × FW) (hF : F_X5_tears a0 x1 w = some r) : fSpec l D cy yX5_tears cX5_tears 2 (some .int) { frames := 2, cells := 0, slots := 0, locals := 44 } [.ref a0, .int x1] w r.2 (some (.int r.1)) := by
  refine f_begin (by decide +kernel) (Nat.le_of_ble_eq_true rfl) (fun X hC hEn => ?_)
  unfold F_X5_tears at hF
  show fAt X 0 0 2 w [(0, .ref a0), (1, .int x1)] [] 0
  refine f_aload_n hC dX5_tears_0 rfl 0 rfl ?_
  refine f_iload_n hC dX5_tears_1 rfl 1 rfl ?_
  obtain ⟨g3, hF⟩ := fg_open hF
  obtain ⟨r1, h2, hF⟩ := fb_open hF
  refine f_callV hC [.int x1] (c_X5_isTicket l D cy a0 x1 w r1 h2) q_1420 q_137 q_1417 q_1419 q_86 h9_X5_isTicket rfl (fSm.k (fSm.rf w) g3) ⟨Nat.le_of_ble_eq_true rfl, Nat.le_of_ble_eq_true rfl⟩ ⟨Nat.le_of_ble_eq_true rfl, Nat.le_of_ble_eq_true rfl⟩ (Nat.le_of_ble_eq_true rfl) rfl dX5_tears_2 (fun e4 => ?_)
  refine f_if_ne hC 10 dX5_tears_5 (by decide) (fun c5 => ?_) (fun c5 => ?_)
  · replace hF := fi_neg hF c5
    refine f_aload_n hC dX5_tears_10 rfl 0 rfl ?_
    refine f_iload_n hC dX5_tears_11 rfl 1 rfl ?_
    refine f_bipush (v := 10) hC dX5_tears_12 (by decide) ?_
    obtain ⟨r6, h7, hF⟩ := fb_open hF
    refine f_callV hC [.int x1, .int 10] (c_X5_of l D cy a0 x1 10 w r6 h7) q_1452 q_137 q_1449 q_1451 q_91 h9_X5_of rfl (fSm.k (fSm.rf w) g3) ⟨Nat.le_of_ble_eq_true rfl, Nat.le_of_ble_eq_true rfl⟩ ⟨Nat.le_of_ble_eq_true rfl, Nat.le_of_ble_eq_true rfl⟩ (Nat.le_of_ble_eq_true rfl) rfl dX5_tears_14 (fun e8 => ?_)
    refine f_iconst (v := 1) hC dX5_tears_17 (by decide) ?_
    refine f_icmp_ne hC 28 dX5_tears_18 (by decide) (fun c9 => ?_) (fun c9 => ?_)
    · replace hF := fi_neg hF c9
      refine f_aload_n hC dX5_tears_28 rfl 0 rfl ?_
      refine f_iload_n hC dX5_tears_29 rfl 1 rfl ?_
      refine f_bipush (v := 10) hC dX5_tears_30 (by decide) ?_
      refine f_iconst (v := 1) hC dX5_tears_32 (by decide) ?_
      obtain ⟨r10, h11, hF⟩ := fb_open hF
      refine f_callV hC [.int x1, .int 10, .int 1] (c_X5_sets l D cy a0 x1 10 1 w r10 h11) q_1404 q_137 q_1401 q_1403 q_83 h9_X5_sets rfl (fSm.k (fSm.rf w) g3) ⟨Nat.le_of_ble_eq_true rfl, Nat.le_of_ble_eq_true rfl⟩ ⟨Nat.le_of_ble_eq_true rfl, Nat.le_of_ble_eq_true rfl⟩ (Nat.le_of_ble_eq_true rfl) rfl dX5_tears_33 (fun e12 => ?_)
      refine f_aload_n hC dX5_tears_36 rfl 0 rfl ?_
      refine f_aload_n hC dX5_tears_37 rfl 0 rfl ?_
      obtain ⟨r13, h14, hF⟩ := fb_open hF
      refine f_callV hC [] (c_X5_tornMany l D cy a0 r10 r13 h14) q_1518 q_137 q_1515 q_1517 q_102 h9_X5_tornMany rfl (fSm.k (fSm.tr e12 (fSm.rf w)) g3) ⟨Nat.le_of_ble_eq_true rfl, Nat.le_of_ble_eq_true rfl⟩ ⟨Nat.le_of_ble_eq_true rfl, Nat.le_of_ble_eq_true rfl⟩ (Nat.le_of_ble_eq_true rfl) rfl dX5_tears_38 (fun e15 => ?_)
      obtain ⟨r16, h17, hF⟩ := fb_open hF
      refine f_callV hC [.int r13] (c_X5_done l D cy a0 r13 r10 r16 h17) q_1368 q_137 q_1365 q_1367 q_76 h9_X5_done rfl (fSm.k (fSm.tr e12 (fSm.rf w)) g3) ⟨Nat.le_of_ble_eq_true rfl, Nat.le_of_ble_eq_true rfl⟩ ⟨Nat.le_of_ble_eq_true rfl, Nat.le_of_ble_eq_true rfl⟩ (Nat.le_of_ble_eq_true rfl) rfl dX5_tears_41 (fun e18 => ?_)
      obtain rfl := Option.some.inj hF
      exact f_iret hC hEn (fSm.tr e18 (fSm.tr e12 (fSm.rf w))) dX5_tears_44
    · replace hF := fi_pos hF c9
      refine f_aload_n hC dX5_tears_21 rfl 0 rfl ?_
      refine f_iconst (v := 3) hC dX5_tears_22 (by decide) ?_
      refine f_iconst (v := 1) hC dX5_tears_23 (by decide) ?_
      obtain ⟨r19, h20, hF⟩ := fb_open hF
      refine f_callV hC [.int 3, .int 1] (c_X5_refused l D cy a0 3 1 w r19 h20) q_1364 q_137 q_1361 q_1363 q_75 h9_X5_refused rfl (fSm.k (fSm.rf w) g3) ⟨Nat.le_of_ble_eq_true rfl, Nat.le_of_ble_eq_true rfl⟩ ⟨Nat.le_of_ble_eq_true rfl, Nat.le_of_ble_eq_true rfl⟩ (Nat.le_of_ble_eq_true rfl) rfl dX5_tears_24 (fun e21 => ?_)
      obtain rfl := Option.some.inj hF
      exact f_iret hC hEn (fSm.tr e21 (fSm.rf w)) dX5_tears_27
  · replace hF := fi_pos hF c5
    refine f_iconst (v := (-1)) hC dX5_tears_8 (by decide) ?_
    obtain rfl := Option.some.inj hF
    exact f_iret hC hEn (fSm.rf w) dX5_tears_9
theorem dX5_lostMany_0 : decode cX5_lostMany 0 = .ok (.iconst 0, 1) := by decide +kernel
theorem dX5_lostMany_1 : decode cX5_lostMany 1 = .ok (.istore_n 1, 1) := by decide +kernel
theorem dX5_lostMany_2 : decode cX5_lostMany 2 = .ok (.iconst 0, 1) := by decide +kernel
theorem dX5_lostMany_3 : decode cX5_lostMany 3 = .ok (.istore_n 2, 1) := by decide +kernel
theorem dX5_lostMany_4 : decode cX5_lostMany 4 = .ok (.iload_n 2, 1) := by decide +kernel
theorem dX5_lostMany_5 : decode cX5_lostMany 5 = .ok (.aload_n 0, 1) := by decide +kernel
theorem dX5_lostMany_6 : decode cX5_lostMany 6 = .ok (.getfield 7, 3) := by decide +kernel
theorem dX5_lostMany_9 : decode cX5_lostMany 9 = .ok (.iconst 0, 1) := by decide +kernel
theorem dX5_lostMany_10 : decode cX5_lostMany 10 = .ok (.iaload, 1) := by decide +kernel
theorem dX5_lostMany_11 : decode cX5_lostMany 11 = .ok (.if_icmp .ge 27, 3) := by decide +kernel
theorem dX5_lostMany_14 : decode cX5_lostMany 14 = .ok (.iload_n 1, 1) := by decide +kernel
theorem dX5_lostMany_15 : decode cX5_lostMany 15 = .ok (.aload_n 0, 1) := by decide +kernel
theorem dX5_lostMany_16 : decode cX5_lostMany 16 = .ok (.iload_n 2, 1) := by decide +kernel
theorem dX5_lostMany_17 : decode cX5_lostMany 17 = .ok (.iconst 0, 1) := by decide +kernel
theorem dX5_lostMany_18 : decode cX5_lostMany 18 = .ok (.iconst 2, 1) := by decide +kernel
theorem dX5_lostMany_19 : decode cX5_lostMany 19 = .ok (.invokevirtual 78, 3) := by decide +kernel
theorem dX5_lostMany_22 : decode cX5_lostMany 22 = .ok (.aload_n 0, 1) := by decide +kernel
theorem dX5_lostMany_23 : decode cX5_lostMany 23 = .ok (.iload_n 2, 1) := by decide +kernel
theorem dX5_lostMany_24 : decode cX5_lostMany 24 = .ok (.iconst 1, 1) := by decide +kernel
theorem dX5_lostMany_25 : decode cX5_lostMany 25 = .ok (.iconst 2, 1) := by decide +kernel
theorem dX5_lostMany_26 : decode cX5_lostMany 26 = .ok (.invokevirtual 78, 3) := by decide +kernel
theorem dX5_lostMany_29 : decode cX5_lostMany 29 = .ok (.iadd, 1) := by decide +kernel
theorem dX5_lostMany_30 : decode cX5_lostMany 30 = .ok (.iadd, 1) := by decide +kernel
theorem dX5_lostMany_31 : decode cX5_lostMany 31 = .ok (.istore_n 1, 1) := by decide +kernel
theorem dX5_lostMany_32 : decode cX5_lostMany 32 = .ok (.iinc 2 1, 3) := by decide +kernel
theorem dX5_lostMany_35 : decode cX5_lostMany 35 = .ok (.goto (-31), 3) := by decide +kernel
theorem dX5_lostMany_38 : decode cX5_lostMany 38 = .ok (.iload_n 1, 1) := by decide +kernel
theorem dX5_lostMany_39 : decode cX5_lostMany 39 = .ok (.ireturn, 1) := by decide +kernel
theorem h9_X5_lostMany : yX5_lostMany.cls ≠ "java/lang/invoke/MethodHandle" ∧ yX5_lostMany.cls ≠ "java/lang/invoke/VarHandle" ∧ (parseMethodDescriptor yX5_lostMany.desc).map (fun d => d.parameters.length) = some 0 := by decide +kernel
noncomputable def F_X5_lostMany (a0 : Nat) (w : FW) : Option (Int32) :=
  (fLoop (σ := Int32 × Int32) (ρ := Int32) (fun s1 => fg (w.1 a0 = 6) inferInstance (fg (w.1 (gR w 501 a0 0) = 11) inferInstance (fg (¬ ((0 : Int32) < 0 ∨ w.2.1 (gR w 501 a0 0) ≤ Int32.toNatClampNeg 0)) inferInstance ((if (gI w 601 (gR w 501 a0 0) (Int32.toNatClampNeg 0)) ≤ s1.2 then some (.inr s1.1) else (F_X5_half a0 s1.2 0 2 w).bind (fun r14 => (F_X5_half a0 s1.2 1 2 w).bind (fun r17 => some (.inl ((s1.1 + (r14 + r17)), (s1.2 + 1)))))))))) (0, 0)).bind (fun x7 => some x7)
set_option maxHeartbeats 4000000 in
set_option maxRecDepth 100000 in
theorem c_X5_lostMany (l : Launch) (D : va_G) (cy : Nat → ClassId) (a0 : Nat) (w : FW) (r : Int32) (hF : F_X5_lostMany a0 w = some r) : fSpec l D cy yX5_lostMany cX5_lostMany 3 (some .int) { frames := 2, cells := 0, slots := 0, locals := 45 } [.ref a0] w w (some (.int r)) := by
  refine f_begin (by decide +kernel) (Nat.le_of_ble_eq_true rfl) (fun X hC hEn => ?_)
  unfold F_X5_lostMany at hF
  show fAt X 0 0 3 w [(0, .ref a0)] [] 0
  refine f_iconst (v := 0) hC dX5_lostMany_0 (by decide) ?_
  refine f_istore_n (L' := [(1, .int 0), (0, .ref a0)]) hC dX5_lostMany_1 rfl (by decide) rfl ?_
  refine f_iconst (v := 0) hC dX5_lostMany_2 (by decide) ?_
  refine f_istore_n (L' := [(2, .int 0), (1, .int 0), (0, .ref a0)]) hC dX5_lostMany_3 rfl (by decide) rfl ?_
  obtain ⟨x7, h8, hF⟩ := fb_open hF
  have K9 : fAt X 0 0 3 w [(1, .int x7)] [] 38 := by
    refine f_iload_n hC dX5_lostMany_38 rfl 0 rfl ?_
    obtain rfl := Option.some.inj hF
    exact f_iret hC hEn (fSm.rf w) dX5_lostMany_39
  refine f_sub (L' := [(0, .ref a0), (1, .int 0), (2, .int 0)]) [2, 1, 0] rfl ?_
  refine fLoop_ind (fun (s1 : Int32 × Int32) => fAt X 0 0 3 w [(0, .ref a0), (1, .int s1.1), (2, .int s1.2)] [] 4) (fun s1 y6 h2 go3 ou4 => ?_) h8
  refine f_iload_n hC dX5_lostMany_4 rfl 2 rfl ?_
  refine f_aload_n hC dX5_lostMany_5 rfl 0 rfl ?_
  obtain ⟨g10, h2⟩ := fg_open h2
  refine f_getR hC 5 1 501 rfl (by decide) iX5 q_1260 rfl rfl (fSm.k (fSm.rf w) g10) dX5_lostMany_6 ?_
  refine f_iconst (v := 0) hC dX5_lostMany_9 (by decide) ?_
  obtain ⟨g11, h2⟩ := fg_open h2
  obtain ⟨g12, h2⟩ := fg_open h2
  refine f_iald hC (fSm.k (fSm.rf w) g11) (fSm.v (fSm.rf w) g12) dX5_lostMany_10 ?_
  refine f_icmp_ge hC 38 dX5_lostMany_11 (by decide) (fun c13 => ?_) (fun c13 => ?_)
  · replace h2 := fi_pos h2 c13
    obtain rfl := Option.some.inj h2
    obtain rfl := ou4 _ rfl
    refine f_sub (L' := [(1, .int s1.1)]) [1] rfl ?_
    exact K9
  · replace h2 := fi_neg h2 c13
    refine f_iload_n hC dX5_lostMany_14 rfl 1 rfl ?_
    refine f_aload_n hC dX5_lostMany_15 rfl 0 rfl ?_
    refine f_iload_n hC dX5_lostMany_16 rfl 2 rfl ?_
    refine f_iconst (v := 0) hC dX5_lostMany_17 (by decide) ?_
    refine f_iconst (v := 2) hC dX5_lostMany_18 (by decide) ?_
    obtain ⟨r14, h15, h2⟩ := fb_open h2
    refine f_callV hC [.int s1.2, .int 0, .int 2] (c_X5_half l D cy a0 s1.2 0 2 w r14 h15) q_1483 q_137 q_1480 q_1482 q_96 h9_X5_half rfl (fSm.k (fSm.rf w) g10) ⟨Nat.le_of_ble_eq_true rfl, Nat.le_of_ble_eq_true rfl⟩ ⟨Nat.le_of_ble_eq_true rfl, Nat.le_of_ble_eq_true rfl⟩ (Nat.le_of_ble_eq_true rfl) rfl dX5_lostMany_19 (fun e16 => ?_)
    refine f_aload_n hC dX5_lostMany_22 rfl 0 rfl ?_
    refine f_iload_n hC dX5_lostMany_23 rfl 2 rfl ?_
    refine f_iconst (v := 1) hC dX5_lostMany_24 (by decide) ?_
    refine f_iconst (v := 2) hC dX5_lostMany_25 (by decide) ?_
    obtain ⟨r17, h18, h2⟩ := fb_open h2
    refine f_callV hC [.int s1.2, .int 1, .int 2] (c_X5_half l D cy a0 s1.2 1 2 w r17 h18) q_1483 q_137 q_1480 q_1482 q_96 h9_X5_half rfl (fSm.k (fSm.rf w) g10) ⟨Nat.le_of_ble_eq_true rfl, Nat.le_of_ble_eq_true rfl⟩ ⟨Nat.le_of_ble_eq_true rfl, Nat.le_of_ble_eq_true rfl⟩ (Nat.le_of_ble_eq_true rfl) rfl dX5_lostMany_26 (fun e19 => ?_)
    refine f_iadd hC dX5_lostMany_29 ?_
    refine f_iadd hC dX5_lostMany_30 ?_
    refine f_istore_n (L' := [(1, .int (s1.1 + (r14 + r17))), (0, .ref a0), (2, .int s1.2)]) hC dX5_lostMany_31 rfl (by decide) rfl ?_
    refine f_iinc (L' := [(2, .int (s1.2 + 1)), (1, .int (s1.1 + (r14 + r17))), (0, .ref a0)]) hC dX5_lostMany_32 2 rfl rfl (by decide) rfl ?_
    refine f_goto hC 4 dX5_lostMany_35 (by decide) ?_
    obtain rfl := Option.some.inj h2
    refine f_sub (L' := [(0, .ref a0), (1, .int (s1.1 + (r14 + r17))), (2, .int (s1.2 + 1))]) [2, 1, 0] rfl ?_
    exact go3 _ rfl
