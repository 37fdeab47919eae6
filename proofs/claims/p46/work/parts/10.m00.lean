theorem dX3_take_0 : decode cX3_take 0 = .ok (.iconst 0, 1) := by decide +kernel
theorem dX3_take_1 : decode cX3_take 1 = .ok (.istore_n 2, 1) := by decide +kernel
theorem dX3_take_2 : decode cX3_take 2 = .ok (.iload_n 2, 1) := by decide +kernel
theorem dX3_take_3 : decode cX3_take 3 = .ok (.bipush 6, 2) := by decide +kernel
theorem dX3_take_5 : decode cX3_take 5 = .ok (.if_icmp .ge 21, 3) := by decide +kernel
theorem dX3_take_8 : decode cX3_take 8 = .ok (.aload_n 0, 1) := by decide +kernel
theorem dX3_take_9 : decode cX3_take 9 = .ok (.getfield 9, 3) := by decide +kernel
theorem dX3_take_12 : decode cX3_take 12 = .ok (.iload_n 2, 1) := by decide +kernel
theorem dX3_take_13 : decode cX3_take 13 = .ok (.aload_n 1, 1) := by decide +kernel
theorem dX3_take_14 : decode cX3_take 14 = .ok (.getfield 9, 3) := by decide +kernel
theorem dX3_take_17 : decode cX3_take 17 = .ok (.iload_n 2, 1) := by decide +kernel
theorem dX3_take_18 : decode cX3_take 18 = .ok (.caload, 1) := by decide +kernel
theorem dX3_take_19 : decode cX3_take 19 = .ok (.castore, 1) := by decide +kernel
theorem dX3_take_20 : decode cX3_take 20 = .ok (.iinc 2 1, 3) := by decide +kernel
theorem dX3_take_23 : decode cX3_take 23 = .ok (.goto (-21), 3) := by decide +kernel
theorem dX3_take_26 : decode cX3_take 26 = .ok (.aload_n 0, 1) := by decide +kernel
theorem dX3_take_27 : decode cX3_take 27 = .ok (.aload_n 1, 1) := by decide +kernel
theorem dX3_take_28 : decode cX3_take 28 = .ok (.getfield 15, 3) := by decide +kernel
theorem dX3_take_31 : decode cX3_take 31 = .ok (.putfield 15, 3) := by decide +kernel
theorem dX3_take_34 : decode cX3_take 34 = .ok (.return_, 1) := by decide +kernel
theorem h9_X3_take : yX3_take.cls ≠ "java/lang/invoke/MethodHandle" ∧ yX3_take.cls ≠ "java/lang/invoke/VarHandle" ∧ (parseMethodDescriptor yX3_take.desc).map (fun d => d.parameters.length) = some 1 := by decide +kernel
noncomputable def F_X3_take (a0 : Nat) (a1 : Nat) (w : FW) : Option (FW) :=
  (fLoop (σ := Int32 × FW) (ρ := FW) (fun s1 => (if 6 ≤ s1.1 then some (.inr s1.2) else fg (w.1 a0 = 4) inferInstance (fg (w.1 a1 = 4) inferInstance (fg (w.1 (gR s1.2 300 a1 0) = 10) inferInstance (fg (¬ (s1.1 < 0 ∨ w.2.1 (gR s1.2 300 a1 0) ≤ Int32.toNatClampNeg s1.1)) inferInstance (fg (w.1 (gR s1.2 300 a0 0) = 10) inferInstance (fg (¬ (s1.1 < 0 ∨ w.2.1 (gR s1.2 300 a0 0) ≤ Int32.toNatClampNeg s1.1)) inferInstance (fg (fch (gI s1.2 600 (gR s1.2 300 a1 0) (Int32.toNatClampNeg s1.1)) = (gI s1.2 600 (gR s1.2 300 a1 0) (Int32.toNatClampNeg s1.1))) inferInstance (some (.inl ((s1.1 + 1), (sI s1.2 600 (gR s1.2 300 a0 0) (Int32.toNatClampNeg s1.1) (gI s1.2 600 (gR s1.2 300 a1 0) (Int32.toNatClampNeg s1.1)))))))))))))) (0, w)).bind (fun x7 => fg (w.1 a1 = 4) inferInstance (fg (w.1 a0 = 4) inferInstance (some (sI x7 301 a0 0 (gI x7 301 a1 0)))))
set_option maxHeartbeats 4000000 in
set_option maxRecDepth 100000 in
theorem c_X3_take (l : Launch) (D : va_G) (cy : Nat → ClassId) (a0 : Nat) (a1 : Nat) (w : FW) (r : FW) (hF : F_X3_take a0 a1 w = some r) : fSpec l D cy yX3_take cX3_take 3 none { frames := 0, cells := 0, slots := 0, locals := 0 } [.ref a0, .ref a1] w r none := by
  refine f_begin (by decide +kernel) (Nat.le_of_ble_eq_true rfl) (fun X hC hEn => ?_)
  unfold F_X3_take at hF
  show fAt X 0 0 3 w [(0, .ref a0), (1, .ref a1)] [] 0
  refine f_iconst (v := 0) hC dX3_take_0 (by decide) ?_
  refine f_istore_n (L' := [(2, .int 0), (0, .ref a0), (1, .ref a1)]) hC dX3_take_1 rfl (by decide) rfl ?_
  obtain ⟨x7, h8, hF⟩ := fb_open hF
  have K9 : fSm x7 w → fAt X 0 0 3 x7 [(0, .ref a0), (1, .ref a1)] [] 26 := by
    intro p5
    refine f_aload_n hC dX3_take_26 rfl 0 rfl ?_
    refine f_aload_n hC dX3_take_27 rfl 1 rfl ?_
    obtain ⟨g18, hF⟩ := fg_open hF
    refine f_getI hC 3 1 301 rfl (by decide) iX3 q_123 rfl rfl (fSm.k p5 g18) dX3_take_28 ?_
    obtain ⟨g19, hF⟩ := fg_open hF
    refine f_putI hC 3 1 301 rfl (by decide) iX3 tyX3 tyX3_ok nmX3 q_123 rfl rfl rfl rfl rfl (fSm.k p5 g19) dX3_take_31 ?_
    obtain rfl := Option.some.inj hF
    exact f_vret hC hEn p5 dX3_take_34
  refine f_sub (L' := [(0, .ref a0), (1, .ref a1), (2, .int 0)]) [1, 2, 0] rfl ?_
  refine fLoop_ind (fun (s1 : Int32 × FW) => fSm s1.2 w → fAt X 0 0 3 s1.2 [(0, .ref a0), (1, .ref a1), (2, .int s1.1)] [] 2) (fun s1 y6 h2 go3 ou4 => ?_) h8 (fSm.rf w)
  intro p5
  refine f_iload_n hC dX3_take_2 rfl 2 rfl ?_
  refine f_bipush (v := 6) hC dX3_take_3 (by decide) ?_
  refine f_icmp_ge hC 26 dX3_take_5 (by decide) (fun c10 => ?_) (fun c10 => ?_)
  · replace h2 := fi_pos h2 c10
    obtain rfl := Option.some.inj h2
    obtain rfl := ou4 _ rfl
    refine f_sub (L' := [(0, .ref a0), (1, .ref a1)]) [0, 1] rfl ?_
    exact K9 p5
  · replace h2 := fi_neg h2 c10
    refine f_aload_n hC dX3_take_8 rfl 0 rfl ?_
    obtain ⟨g11, h2⟩ := fg_open h2
    refine f_getR hC 3 0 300 rfl (by decide) iX3 q_122 rfl rfl (fSm.k p5 g11) dX3_take_9 ?_
    refine f_iload_n hC dX3_take_12 rfl 2 rfl ?_
    refine f_aload_n hC dX3_take_13 rfl 1 rfl ?_
    obtain ⟨g12, h2⟩ := fg_open h2
    refine f_getR hC 3 0 300 rfl (by decide) iX3 q_122 rfl rfl (fSm.k p5 g12) dX3_take_14 ?_
    refine f_iload_n hC dX3_take_17 rfl 2 rfl ?_
    obtain ⟨g13, h2⟩ := fg_open h2
    obtain ⟨g14, h2⟩ := fg_open h2
    refine f_cald hC (fSm.k p5 g13) (fSm.v p5 g14) dX3_take_18 ?_
    obtain ⟨g15, h2⟩ := fg_open h2
    obtain ⟨g16, h2⟩ := fg_open h2
    obtain ⟨g17, h2⟩ := fg_open h2
    refine f_cast hC g17 (fSm.k p5 g15) (fSm.v p5 g16) dX3_take_19 ?_
    refine f_iinc (L' := [(2, .int (s1.1 + 1)), (0, .ref a0), (1, .ref a1)]) hC dX3_take_20 2 rfl rfl (by decide) rfl ?_
    refine f_goto hC 2 dX3_take_23 (by decide) ?_
    obtain rfl := Option.some.inj h2
    refine f_sub (L' := [(0, .ref a0), (1, .ref a1), (2, .int (s1.1 + 1))]) [1, 2, 0] rfl ?_
    exact go3 _ rfl p5
theorem dX0_take_0 : decode cX0_take 0 = .ok (.aload_n 0, 1) := by decide +kernel
theorem dX0_take_1 : decode cX0_take 1 = .ok (.aload_n 1, 1) := by decide +kernel
theorem dX0_take_2 : decode cX0_take 2 = .ok (.getfield 9, 3) := by decide +kernel
theorem dX0_take_5 : decode cX0_take 5 = .ok (.putfield 9, 3) := by decide +kernel
theorem dX0_take_8 : decode cX0_take 8 = .ok (.aload_n 0, 1) := by decide +kernel
theorem dX0_take_9 : decode cX0_take 9 = .ok (.aload_n 1, 1) := by decide +kernel
theorem dX0_take_10 : decode cX0_take 10 = .ok (.getfield 15, 3) := by decide +kernel
theorem dX0_take_13 : decode cX0_take 13 = .ok (.putfield 15, 3) := by decide +kernel
theorem dX0_take_16 : decode cX0_take 16 = .ok (.aload_n 0, 1) := by decide +kernel
theorem dX0_take_17 : decode cX0_take 17 = .ok (.aload_n 1, 1) := by decide +kernel
theorem dX0_take_18 : decode cX0_take 18 = .ok (.getfield 19, 3) := by decide +kernel
theorem dX0_take_21 : decode cX0_take 21 = .ok (.putfield 19, 3) := by decide +kernel
theorem dX0_take_24 : decode cX0_take 24 = .ok (.aload_n 0, 1) := by decide +kernel
theorem dX0_take_25 : decode cX0_take 25 = .ok (.aload_n 1, 1) := by decide +kernel
theorem dX0_take_26 : decode cX0_take 26 = .ok (.getfield 22, 3) := by decide +kernel
theorem dX0_take_29 : decode cX0_take 29 = .ok (.putfield 22, 3) := by decide +kernel
theorem dX0_take_32 : decode cX0_take 32 = .ok (.aload_n 0, 1) := by decide +kernel
theorem dX0_take_33 : decode cX0_take 33 = .ok (.aload_n 1, 1) := by decide +kernel
theorem dX0_take_34 : decode cX0_take 34 = .ok (.getfield 25, 3) := by decide +kernel
theorem dX0_take_37 : decode cX0_take 37 = .ok (.putfield 25, 3) := by decide +kernel
theorem dX0_take_40 : decode cX0_take 40 = .ok (.return_, 1) := by decide +kernel
theorem h9_X0_take : yX0_take.cls ≠ "java/lang/invoke/MethodHandle" ∧ yX0_take.cls ≠ "java/lang/invoke/VarHandle" ∧ (parseMethodDescriptor yX0_take.desc).map (fun d => d.parameters.length) = some 1 := by decide +kernel
noncomputable def F_X0_take (a0 : Nat) (a1 : Nat) (w : FW) : Option (FW) :=
  fg (w.1 a1 = 1) inferInstance (fg (w.1 a0 = 1) inferInstance (fg ((gI w 0 a1 0) = 0 ∨ (gI w 0 a1 0) = 1) inferInstance (fg ((gI (sI (sI (sI w 0 a0 0 (gI w 0 a1 0)) 1 a0 0 (gI (sI w 0 a0 0 (gI w 0 a1 0)) 1 a1 0)) 2 a0 0 (gI (sI (sI w 0 a0 0 (gI w 0 a1 0)) 1 a0 0 (gI (sI w 0 a0 0 (gI w 0 a1 0)) 1 a1 0)) 2 a1 0)) 3 a1 0) = 0 ∨ (gI (sI (sI (sI w 0 a0 0 (gI w 0 a1 0)) 1 a0 0 (gI (sI w 0 a0 0 (gI w 0 a1 0)) 1 a1 0)) 2 a0 0 (gI (sI (sI w 0 a0 0 (gI w 0 a1 0)) 1 a0 0 (gI (sI w 0 a0 0 (gI w 0 a1 0)) 1 a1 0)) 2 a1 0)) 3 a1 0) = 1) inferInstance (fg ((gI (sI (sI (sI (sI w 0 a0 0 (gI w 0 a1 0)) 1 a0 0 (gI (sI w 0 a0 0 (gI w 0 a1 0)) 1 a1 0)) 2 a0 0 (gI (sI (sI w 0 a0 0 (gI w 0 a1 0)) 1 a0 0 (gI (sI w 0 a0 0 (gI w 0 a1 0)) 1 a1 0)) 2 a1 0)) 3 a0 0 (gI (sI (sI (sI w 0 a0 0 (gI w 0 a1 0)) 1 a0 0 (gI (sI w 0 a0 0 (gI w 0 a1 0)) 1 a1 0)) 2 a0 0 (gI (sI (sI w 0 a0 0 (gI w 0 a1 0)) 1 a0 0 (gI (sI w 0 a0 0 (gI w 0 a1 0)) 1 a1 0)) 2 a1 0)) 3 a1 0)) 4 a1 0) = 0 ∨ (gI (sI (sI (sI (sI w 0 a0 0 (gI w 0 a1 0)) 1 a0 0 (gI (sI w 0 a0 0 (gI w 0 a1 0)) 1 a1 0)) 2 a0 0 (gI (sI (sI w 0 a0 0 (gI w 0 a1 0)) 1 a0 0 (gI (sI w 0 a0 0 (gI w 0 a1 0)) 1 a1 0)) 2 a1 0)) 3 a0 0 (gI (sI (sI (sI w 0 a0 0 (gI w 0 a1 0)) 1 a0 0 (gI (sI w 0 a0 0 (gI w 0 a1 0)) 1 a1 0)) 2 a0 0 (gI (sI (sI w 0 a0 0 (gI w 0 a1 0)) 1 a0 0 (gI (sI w 0 a0 0 (gI w 0 a1 0)) 1 a1 0)) 2 a1 0)) 3 a1 0)) 4 a1 0) = 1) inferInstance (some (sI (sI (sI (sI (sI w 0 a0 0 (gI w 0 a1 0)) 1 a0 0 (gI (sI w 0 a0 0 (gI w 0 a1 0)) 1 a1 0)) 2 a0 0 (gI (sI (sI w 0 a0 0 (gI w 0 a1 0)) 1 a0 0 (gI (sI w 0 a0 0 (gI w 0 a1 0)) 1 a1 0)) 2 a1 0)) 3 a0 0 (gI (sI (sI (sI w 0 a0 0 (gI w 0 a1 0)) 1 a0 0 (gI (sI w 0 a0 0 (gI w 0 a1 0)) 1 a1 0)) 2 a0 0 (gI (sI (sI w 0 a0 0 (gI w 0 a1 0)) 1 a0 0 (gI (sI w 0 a0 0 (gI w 0 a1 0)) 1 a1 0)) 2 a1 0)) 3 a1 0)) 4 a0 0 (gI (sI (sI (sI (sI w 0 a0 0 (gI w 0 a1 0)) 1 a0 0 (gI (sI w 0 a0 0 (gI w 0 a1 0)) 1 a1 0)) 2 a0 0 (gI (sI (sI w 0 a0 0 (gI w 0 a1 0)) 1 a0 0 (gI (sI w 0 a0 0 (gI w 0 a1 0)) 1 a1 0)) 2 a1 0)) 3 a0 0 (gI (sI (sI (sI w 0 a0 0 (gI w 0 a1 0)) 1 a0 0 (gI (sI w 0 a0 0 (gI w 0 a1 0)) 1 a1 0)) 2 a0 0 (gI (sI (sI w 0 a0 0 (gI w 0 a1 0)) 1 a0 0 (gI (sI w 0 a0 0 (gI w 0 a1 0)) 1 a1 0)) 2 a1 0)) 3 a1 0)) 4 a1 0)))))))
set_option maxHeartbeats 4000000 in
set_option maxRecDepth 100000 in
theorem c_X0_take (l : Launch) (D : va_G) (cy : Nat → ClassId) (a0 : Nat) (a1 : Nat) (w : FW) (r : FW) (hF : F_X0_take a0 a1 w = some r) : fSpec l D cy yX0_take cX0_take 2 none { frames := 0, cells := 0, slots := 0, locals := 0 } [.ref a0, .ref a1] w r none := by
  refine f_begin (by decide +kernel) (Nat.le_of_ble_eq_true rfl) (fun X hC hEn => ?_)
  unfold F_X0_take at hF
  show fAt X 0 0 2 w [(0, .ref a0), (1, .ref a1)] [] 0
  refine f_aload_n hC dX0_take_0 rfl 0 rfl ?_
  refine f_aload_n hC dX0_take_1 rfl 1 rfl ?_
  obtain ⟨g1, hF⟩ := fg_open hF
  refine f_getI hC 0 0 0 rfl (by decide) iX0 q_146 rfl rfl (fSm.k (fSm.rf w) g1) dX0_take_2 ?_
  obtain ⟨g2, hF⟩ := fg_open hF
  obtain ⟨g3, hF⟩ := fg_open hF
  refine f_putI hC 0 0 0 rfl (by decide) iX0 tyX0 tyX0_ok nmX0 q_146 rfl rfl rfl (nar_z g3) (fit_z g3) (fSm.k (fSm.rf w) g2) dX0_take_5 ?_
  refine f_aload_n hC dX0_take_8 rfl 0 rfl ?_
  refine f_aload_n hC dX0_take_9 rfl 1 rfl ?_
  refine f_getI hC 0 1 1 rfl (by decide) iX0 q_150 rfl rfl (fSm.k (fSm.rf w) g1) dX0_take_10 ?_
  refine f_putI hC 0 1 1 rfl (by decide) iX0 tyX0 tyX0_ok nmX0 q_150 rfl rfl rfl rfl rfl (fSm.k (fSm.rf w) g2) dX0_take_13 ?_
  refine f_aload_n hC dX0_take_16 rfl 0 rfl ?_
  refine f_aload_n hC dX0_take_17 rfl 1 rfl ?_
  refine f_getI hC 0 2 2 rfl (by decide) iX0 q_153 rfl rfl (fSm.k (fSm.rf w) g1) dX0_take_18 ?_
  refine f_putI hC 0 2 2 rfl (by decide) iX0 tyX0 tyX0_ok nmX0 q_153 rfl rfl rfl rfl rfl (fSm.k (fSm.rf w) g2) dX0_take_21 ?_
  refine f_aload_n hC dX0_take_24 rfl 0 rfl ?_
  refine f_aload_n hC dX0_take_25 rfl 1 rfl ?_
  refine f_getI hC 0 3 3 rfl (by decide) iX0 q_156 rfl rfl (fSm.k (fSm.rf w) g1) dX0_take_26 ?_
  obtain ⟨g4, hF⟩ := fg_open hF
  refine f_putI hC 0 3 3 rfl (by decide) iX0 tyX0 tyX0_ok nmX0 q_156 rfl rfl rfl (nar_z g4) (fit_z g4) (fSm.k (fSm.rf w) g2) dX0_take_29 ?_
  refine f_aload_n hC dX0_take_32 rfl 0 rfl ?_
  refine f_aload_n hC dX0_take_33 rfl 1 rfl ?_
  refine f_getI hC 0 4 4 rfl (by decide) iX0 q_159 rfl rfl (fSm.k (fSm.rf w) g1) dX0_take_34 ?_
  obtain ⟨g5, hF⟩ := fg_open hF
  refine f_putI hC 0 4 4 rfl (by decide) iX0 tyX0 tyX0_ok nmX0 q_159 rfl rfl rfl (nar_z g5) (fit_z g5) (fSm.k (fSm.rf w) g2) dX0_take_37 ?_
  obtain rfl := Option.some.inj hF
  exact f_vret hC hEn (fSm.rf w) dX0_take_40
theorem dX2_take_0 : decode cX2_take 0 = .ok (.aload_n 0, 1) := by decide +kernel
theorem dX2_take_1 : decode cX2_take 1 = .ok (.getfield 12, 3) := by decide +kernel
theorem dX2_take_4 : decode cX2_take 4 = .ok (.aload_n 1, 1) := by decide +kernel
theorem dX2_take_5 : decode cX2_take 5 = .ok (.getfield 12, 3) := by decide +kernel
theorem dX2_take_8 : decode cX2_take 8 = .ok (.invokevirtual 45, 3) := by decide +kernel
theorem dX2_take_11 : decode cX2_take 11 = .ok (.aload_n 0, 1) := by decide +kernel
theorem dX2_take_12 : decode cX2_take 12 = .ok (.aload_n 1, 1) := by decide +kernel
theorem dX2_take_13 : decode cX2_take 13 = .ok (.getfield 18, 3) := by decide +kernel
theorem dX2_take_16 : decode cX2_take 16 = .ok (.putfield 18, 3) := by decide +kernel
theorem dX2_take_19 : decode cX2_take 19 = .ok (.aload_n 0, 1) := by decide +kernel
theorem dX2_take_20 : decode cX2_take 20 = .ok (.aload_n 1, 1) := by decide +kernel
theorem dX2_take_21 : decode cX2_take 21 = .ok (.getfield 22, 3) := by decide +kernel
theorem dX2_take_24 : decode cX2_take 24 = .ok (.putfield 22, 3) := by decide +kernel
theorem dX2_take_27 : decode cX2_take 27 = .ok (.aload_n 0, 1) := by decide +kernel
theorem dX2_take_28 : decode cX2_take 28 = .ok (.aload_n 1, 1) := by decide +kernel
theorem dX2_take_29 : decode cX2_take 29 = .ok (.getfield 25, 3) := by decide +kernel
theorem dX2_take_32 : decode cX2_take 32 = .ok (.putfield 25, 3) := by decide +kernel
theorem dX2_take_35 : decode cX2_take 35 = .ok (.aload_n 0, 1) := by decide +kernel
theorem dX2_take_36 : decode cX2_take 36 = .ok (.aload_n 1, 1) := by decide +kernel
theorem dX2_take_37 : decode cX2_take 37 = .ok (.getfield 28, 3) := by decide +kernel
theorem dX2_take_40 : decode cX2_take 40 = .ok (.putfield 28, 3) := by decide +kernel
theorem dX2_take_43 : decode cX2_take 43 = .ok (.aload_n 0, 1) := by decide +kernel
theorem dX2_take_44 : decode cX2_take 44 = .ok (.aload_n 1, 1) := by decide +kernel
theorem dX2_take_45 : decode cX2_take 45 = .ok (.getfield 32, 3) := by decide +kernel
theorem dX2_take_48 : decode cX2_take 48 = .ok (.putfield 32, 3) := by decide +kernel
theorem dX2_take_51 : decode cX2_take 51 = .ok (.aload_n 0, 1) := by decide +kernel
theorem dX2_take_52 : decode cX2_take 52 = .ok (.getfield 38, 3) := by decide +kernel
theorem dX2_take_55 : decode cX2_take 55 = .ok (.aload_n 1, 1) := by decide +kernel
theorem dX2_take_56 : decode cX2_take 56 = .ok (.getfield 38, 3) := by decide +kernel
theorem dX2_take_59 : decode cX2_take 59 = .ok (.invokevirtual 52, 3) := by decide +kernel
theorem dX2_take_62 : decode cX2_take 62 = .ok (.aload_n 0, 1) := by decide +kernel
theorem dX2_take_63 : decode cX2_take 63 = .ok (.getfield 42, 3) := by decide +kernel
theorem dX2_take_66 : decode cX2_take 66 = .ok (.aload_n 1, 1) := by decide +kernel
theorem dX2_take_67 : decode cX2_take 67 = .ok (.getfield 42, 3) := by decide +kernel
theorem dX2_take_70 : decode cX2_take 70 = .ok (.invokevirtual 52, 3) := by decide +kernel
theorem dX2_take_73 : decode cX2_take 73 = .ok (.return_, 1) := by decide +kernel
theorem h9_X2_take : yX2_take.cls ≠ "java/lang/invoke/MethodHandle" ∧ yX2_take.cls ≠ "java/lang/invoke/VarHandle" ∧ (parseMethodDescriptor yX2_take.desc).map (fun d => d.parameters.length) = some 1 := by decide +kernel
noncomputable def F_X2_take (a0 : Nat) (a1 : Nat) (w : FW) : Option (FW) :=
  fg (w.1 a0 = 3) inferInstance (fg (w.1 a1 = 3) inferInstance (fg (w.1 (gR w 200 a0 0) = 4) inferInstance ((F_X3_take (gR w 200 a0 0) (gR w 200 a1 0) w).bind (fun r3 => fg ((gI (sI (sI (sI r3 201 a0 0 (gI r3 201 a1 0)) 202 a0 0 (gI (sI r3 201 a0 0 (gI r3 201 a1 0)) 202 a1 0)) 203 a0 0 (gI (sI (sI r3 201 a0 0 (gI r3 201 a1 0)) 202 a0 0 (gI (sI r3 201 a0 0 (gI r3 201 a1 0)) 202 a1 0)) 203 a1 0)) 204 a1 0) = 0 ∨ (gI (sI (sI (sI r3 201 a0 0 (gI r3 201 a1 0)) 202 a0 0 (gI (sI r3 201 a0 0 (gI r3 201 a1 0)) 202 a1 0)) 203 a0 0 (gI (sI (sI r3 201 a0 0 (gI r3 201 a1 0)) 202 a0 0 (gI (sI r3 201 a0 0 (gI r3 201 a1 0)) 202 a1 0)) 203 a1 0)) 204 a1 0) = 1) inferInstance (fg (w.1 (gR r3 206 a0 0) = 1) inferInstance ((F_X0_take (gR (sI (sI (sI (sI (sI r3 201 a0 0 (gI r3 201 a1 0)) 202 a0 0 (gI (sI r3 201 a0 0 (gI r3 201 a1 0)) 202 a1 0)) 203 a0 0 (gI (sI (sI r3 201 a0 0 (gI r3 201 a1 0)) 202 a0 0 (gI (sI r3 201 a0 0 (gI r3 201 a1 0)) 202 a1 0)) 203 a1 0)) 204 a0 0 (gI (sI (sI (sI r3 201 a0 0 (gI r3 201 a1 0)) 202 a0 0 (gI (sI r3 201 a0 0 (gI r3 201 a1 0)) 202 a1 0)) 203 a0 0 (gI (sI (sI r3 201 a0 0 (gI r3 201 a1 0)) 202 a0 0 (gI (sI r3 201 a0 0 (gI r3 201 a1 0)) 202 a1 0)) 203 a1 0)) 204 a1 0)) 205 a0 0 (gI (sI (sI (sI (sI r3 201 a0 0 (gI r3 201 a1 0)) 202 a0 0 (gI (sI r3 201 a0 0 (gI r3 201 a1 0)) 202 a1 0)) 203 a0 0 (gI (sI (sI r3 201 a0 0 (gI r3 201 a1 0)) 202 a0 0 (gI (sI r3 201 a0 0 (gI r3 201 a1 0)) 202 a1 0)) 203 a1 0)) 204 a0 0 (gI (sI (sI (sI r3 201 a0 0 (gI r3 201 a1 0)) 202 a0 0 (gI (sI r3 201 a0 0 (gI r3 201 a1 0)) 202 a1 0)) 203 a0 0 (gI (sI (sI r3 201 a0 0 (gI r3 201 a1 0)) 202 a0 0 (gI (sI r3 201 a0 0 (gI r3 201 a1 0)) 202 a1 0)) 203 a1 0)) 204 a1 0)) 205 a1 0)) 206 a0 0) (gR (sI (sI (sI (sI (sI r3 201 a0 0 (gI r3 201 a1 0)) 202 a0 0 (gI (sI r3 201 a0 0 (gI r3 201 a1 0)) 202 a1 0)) 203 a0 0 (gI (sI (sI r3 201 a0 0 (gI r3 201 a1 0)) 202 a0 0 (gI (sI r3 201 a0 0 (gI r3 201 a1 0)) 202 a1 0)) 203 a1 0)) 204 a0 0 (gI (sI (sI (sI r3 201 a0 0 (gI r3 201 a1 0)) 202 a0 0 (gI (sI r3 201 a0 0 (gI r3 201 a1 0)) 202 a1 0)) 203 a0 0 (gI (sI (sI r3 201 a0 0 (gI r3 201 a1 0)) 202 a0 0 (gI (sI r3 201 a0 0 (gI r3 201 a1 0)) 202 a1 0)) 203 a1 0)) 204 a1 0)) 205 a0 0 (gI (sI (sI (sI (sI r3 201 a0 0 (gI r3 201 a1 0)) 202 a0 0 (gI (sI r3 201 a0 0 (gI r3 201 a1 0)) 202 a1 0)) 203 a0 0 (gI (sI (sI r3 201 a0 0 (gI r3 201 a1 0)) 202 a0 0 (gI (sI r3 201 a0 0 (gI r3 201 a1 0)) 202 a1 0)) 203 a1 0)) 204 a0 0 (gI (sI (sI (sI r3 201 a0 0 (gI r3 201 a1 0)) 202 a0 0 (gI (sI r3 201 a0 0 (gI r3 201 a1 0)) 202 a1 0)) 203 a0 0 (gI (sI (sI r3 201 a0 0 (gI r3 201 a1 0)) 202 a0 0 (gI (sI r3 201 a0 0 (gI r3 201 a1 0)) 202 a1 0)) 203 a1 0)) 204 a1 0)) 205 a1 0)) 206 a1 0) (sI (sI (sI (sI (sI r3 201 a0 0 (gI r3 201 a1 0)) 202 a0 0 (gI (sI r3 201 a0 0 (gI r3 201 a1 0)) 202 a1 0)) 203 a0 0 (gI (sI (sI r3 201 a0 0 (gI r3 201 a1 0)) 202 a0 0 (gI (sI r3 201 a0 0 (gI r3 201 a1 0)) 202 a1 0)) 203 a1 0)) 204 a0 0 (gI (sI (sI (sI r3 201 a0 0 (gI r3 201 a1 0)) 202 a0 0 (gI (sI r3 201 a0 0 (gI r3 201 a1 0)) 202 a1 0)) 203 a0 0 (gI (sI (sI r3 201 a0 0 (gI r3 201 a1 0)) 202 a0 0 (gI (sI r3 201 a0 0 (gI r3 201 a1 0)) 202 a1 0)) 203 a1 0)) 204 a1 0)) 205 a0 0 (gI (sI (sI (sI (sI r3 201 a0 0 (gI r3 201 a1 0)) 202 a0 0 (gI (sI r3 201 a0 0 (gI r3 201 a1 0)) 202 a1 0)) 203 a0 0 (gI (sI (sI r3 201 a0 0 (gI r3 201 a1 0)) 202 a0 0 (gI (sI r3 201 a0 0 (gI r3 201 a1 0)) 202 a1 0)) 203 a1 0)) 204 a0 0 (gI (sI (sI (sI r3 201 a0 0 (gI r3 201 a1 0)) 202 a0 0 (gI (sI r3 201 a0 0 (gI r3 201 a1 0)) 202 a1 0)) 203 a0 0 (gI (sI (sI r3 201 a0 0 (gI r3 201 a1 0)) 202 a0 0 (gI (sI r3 201 a0 0 (gI r3 201 a1 0)) 202 a1 0)) 203 a1 0)) 204 a1 0)) 205 a1 0))).bind (fun r8 => fg (w.1 (gR r8 207 a0 0) = 1) inferInstance ((F_X0_take (gR r8 207 a0 0) (gR r8 207 a1 0) r8).bind (fun r12 => some r12)))))))))
set_option maxHeartbeats 4000000 in
set_option maxRecDepth 100000 in
theorem c_X2_take (l : Launch) (D : va_G) (cy : Nat → ClassId) (a0 : Nat) (a1 : Nat) (w : FW) (r : FW) (hF : F_X2_take a0 a1 w = some r) : fSpec l D cy yX2_take cX2_take 2 none { frames := 1, cells := 0, slots := 0, locals := 22 } [.ref a0, .ref a1] w r none := by
  refine f_begin (by decide +kernel) (Nat.le_of_ble_eq_true rfl) (fun X hC hEn => ?_)
  unfold F_X2_take at hF
  show fAt X 0 0 2 w [(0, .ref a0), (1, .ref a1)] [] 0
  refine f_aload_n hC dX2_take_0 rfl 0 rfl ?_
  obtain ⟨g1, hF⟩ := fg_open hF
  refine f_getR hC 2 0 200 rfl (by decide) iX2 q_175 rfl rfl (fSm.k (fSm.rf w) g1) dX2_take_1 ?_
  refine f_aload_n hC dX2_take_4 rfl 1 rfl ?_
  obtain ⟨g2, hF⟩ := fg_open hF
  refine f_getR hC 2 0 200 rfl (by decide) iX2 q_175 rfl rfl (fSm.k (fSm.rf w) g2) dX2_take_5 ?_
  obtain ⟨g5, hF⟩ := fg_open hF
  obtain ⟨r3, h4, hF⟩ := fb_open hF
  refine f_callVN hC [.ref (gR w 200 a1 0)] (c_X3_take l D cy (gR w 200 a0 0) (gR w 200 a1 0) w r3 h4) q_944 q_75 q_941 q_943 q_28 h9_X3_take rfl (fSm.k (fSm.rf w) g5) ⟨Nat.le_of_ble_eq_true rfl, Nat.le_of_ble_eq_true rfl⟩ ⟨Nat.le_of_ble_eq_true rfl, Nat.le_of_ble_eq_true rfl⟩ (Nat.le_of_ble_eq_true rfl) rfl dX2_take_8 (fun e6 => ?_)
  refine f_aload_n hC dX2_take_11 rfl 0 rfl ?_
  refine f_aload_n hC dX2_take_12 rfl 1 rfl ?_
  refine f_getI hC 2 1 201 rfl (by decide) iX2 q_178 rfl rfl (fSm.k (fSm.tr e6 (fSm.rf w)) g2) dX2_take_13 ?_
  refine f_putI hC 2 1 201 rfl (by decide) iX2 tyX2 tyX2_ok nmX2 q_178 rfl rfl rfl rfl rfl (fSm.k (fSm.tr e6 (fSm.rf w)) g1) dX2_take_16 ?_
  refine f_aload_n hC dX2_take_19 rfl 0 rfl ?_
  refine f_aload_n hC dX2_take_20 rfl 1 rfl ?_
  refine f_getI hC 2 2 202 rfl (by decide) iX2 q_181 rfl rfl (fSm.k (fSm.tr e6 (fSm.rf w)) g2) dX2_take_21 ?_
  refine f_putI hC 2 2 202 rfl (by decide) iX2 tyX2 tyX2_ok nmX2 q_181 rfl rfl rfl rfl rfl (fSm.k (fSm.tr e6 (fSm.rf w)) g1) dX2_take_24 ?_
  refine f_aload_n hC dX2_take_27 rfl 0 rfl ?_
  refine f_aload_n hC dX2_take_28 rfl 1 rfl ?_
  refine f_getI hC 2 3 203 rfl (by decide) iX2 q_184 rfl rfl (fSm.k (fSm.tr e6 (fSm.rf w)) g2) dX2_take_29 ?_
  refine f_putI hC 2 3 203 rfl (by decide) iX2 tyX2 tyX2_ok nmX2 q_184 rfl rfl rfl rfl rfl (fSm.k (fSm.tr e6 (fSm.rf w)) g1) dX2_take_32 ?_
  refine f_aload_n hC dX2_take_35 rfl 0 rfl ?_
  refine f_aload_n hC dX2_take_36 rfl 1 rfl ?_
  refine f_getI hC 2 4 204 rfl (by decide) iX2 q_187 rfl rfl (fSm.k (fSm.tr e6 (fSm.rf w)) g2) dX2_take_37 ?_
  obtain ⟨g7, hF⟩ := fg_open hF
  refine f_putI hC 2 4 204 rfl (by decide) iX2 tyX2 tyX2_ok nmX2 q_187 rfl rfl rfl (nar_z g7) (fit_z g7) (fSm.k (fSm.tr e6 (fSm.rf w)) g1) dX2_take_40 ?_
  refine f_aload_n hC dX2_take_43 rfl 0 rfl ?_
  refine f_aload_n hC dX2_take_44 rfl 1 rfl ?_
  refine f_getI hC 2 5 205 rfl (by decide) iX2 q_190 rfl rfl (fSm.k (fSm.tr e6 (fSm.rf w)) g2) dX2_take_45 ?_
  refine f_putI hC 2 5 205 rfl (by decide) iX2 tyX2 tyX2_ok nmX2 q_190 rfl rfl rfl rfl rfl (fSm.k (fSm.tr e6 (fSm.rf w)) g1) dX2_take_48 ?_
  refine f_aload_n hC dX2_take_51 rfl 0 rfl ?_
  refine f_getR hC 2 6 206 rfl (by decide) iX2 q_193 rfl rfl (fSm.k (fSm.tr e6 (fSm.rf w)) g1) dX2_take_52 ?_
  refine f_aload_n hC dX2_take_55 rfl 1 rfl ?_
  refine f_getR hC 2 6 206 rfl (by decide) iX2 q_193 rfl rfl (fSm.k (fSm.tr e6 (fSm.rf w)) g2) dX2_take_56 ?_
  obtain ⟨g10, hF⟩ := fg_open hF
  obtain ⟨r8, h9, hF⟩ := fb_open hF
  refine f_callVN hC [.ref (gR (sI (sI (sI (sI (sI r3 201 a0 0 (gI r3 201 a1 0)) 202 a0 0 (gI (sI r3 201 a0 0 (gI r3 201 a1 0)) 202 a1 0)) 203 a0 0 (gI (sI (sI r3 201 a0 0 (gI r3 201 a1 0)) 202 a0 0 (gI (sI r3 201 a0 0 (gI r3 201 a1 0)) 202 a1 0)) 203 a1 0)) 204 a0 0 (gI (sI (sI (sI r3 201 a0 0 (gI r3 201 a1 0)) 202 a0 0 (gI (sI r3 201 a0 0 (gI r3 201 a1 0)) 202 a1 0)) 203 a0 0 (gI (sI (sI r3 201 a0 0 (gI r3 201 a1 0)) 202 a0 0 (gI (sI r3 201 a0 0 (gI r3 201 a1 0)) 202 a1 0)) 203 a1 0)) 204 a1 0)) 205 a0 0 (gI (sI (sI (sI (sI r3 201 a0 0 (gI r3 201 a1 0)) 202 a0 0 (gI (sI r3 201 a0 0 (gI r3 201 a1 0)) 202 a1 0)) 203 a0 0 (gI (sI (sI r3 201 a0 0 (gI r3 201 a1 0)) 202 a0 0 (gI (sI r3 201 a0 0 (gI r3 201 a1 0)) 202 a1 0)) 203 a1 0)) 204 a0 0 (gI (sI (sI (sI r3 201 a0 0 (gI r3 201 a1 0)) 202 a0 0 (gI (sI r3 201 a0 0 (gI r3 201 a1 0)) 202 a1 0)) 203 a0 0 (gI (sI (sI r3 201 a0 0 (gI r3 201 a1 0)) 202 a0 0 (gI (sI r3 201 a0 0 (gI r3 201 a1 0)) 202 a1 0)) 203 a1 0)) 204 a1 0)) 205 a1 0)) 206 a1 0)] (c_X0_take l D cy (gR (sI (sI (sI (sI (sI r3 201 a0 0 (gI r3 201 a1 0)) 202 a0 0 (gI (sI r3 201 a0 0 (gI r3 201 a1 0)) 202 a1 0)) 203 a0 0 (gI (sI (sI r3 201 a0 0 (gI r3 201 a1 0)) 202 a0 0 (gI (sI r3 201 a0 0 (gI r3 201 a1 0)) 202 a1 0)) 203 a1 0)) 204 a0 0 (gI (sI (sI (sI r3 201 a0 0 (gI r3 201 a1 0)) 202 a0 0 (gI (sI r3 201 a0 0 (gI r3 201 a1 0)) 202 a1 0)) 203 a0 0 (gI (sI (sI r3 201 a0 0 (gI r3 201 a1 0)) 202 a0 0 (gI (sI r3 201 a0 0 (gI r3 201 a1 0)) 202 a1 0)) 203 a1 0)) 204 a1 0)) 205 a0 0 (gI (sI (sI (sI (sI r3 201 a0 0 (gI r3 201 a1 0)) 202 a0 0 (gI (sI r3 201 a0 0 (gI r3 201 a1 0)) 202 a1 0)) 203 a0 0 (gI (sI (sI r3 201 a0 0 (gI r3 201 a1 0)) 202 a0 0 (gI (sI r3 201 a0 0 (gI r3 201 a1 0)) 202 a1 0)) 203 a1 0)) 204 a0 0 (gI (sI (sI (sI r3 201 a0 0 (gI r3 201 a1 0)) 202 a0 0 (gI (sI r3 201 a0 0 (gI r3 201 a1 0)) 202 a1 0)) 203 a0 0 (gI (sI (sI r3 201 a0 0 (gI r3 201 a1 0)) 202 a0 0 (gI (sI r3 201 a0 0 (gI r3 201 a1 0)) 202 a1 0)) 203 a1 0)) 204 a1 0)) 205 a1 0)) 206 a0 0) (gR (sI (sI (sI (sI (sI r3 201 a0 0 (gI r3 201 a1 0)) 202 a0 0 (gI (sI r3 201 a0 0 (gI r3 201 a1 0)) 202 a1 0)) 203 a0 0 (gI (sI (sI r3 201 a0 0 (gI r3 201 a1 0)) 202 a0 0 (gI (sI r3 201 a0 0 (gI r3 201 a1 0)) 202 a1 0)) 203 a1 0)) 204 a0 0 (gI (sI (sI (sI r3 201 a0 0 (gI r3 201 a1 0)) 202 a0 0 (gI (sI r3 201 a0 0 (gI r3 201 a1 0)) 202 a1 0)) 203 a0 0 (gI (sI (sI r3 201 a0 0 (gI r3 201 a1 0)) 202 a0 0 (gI (sI r3 201 a0 0 (gI r3 201 a1 0)) 202 a1 0)) 203 a1 0)) 204 a1 0)) 205 a0 0 (gI (sI (sI (sI (sI r3 201 a0 0 (gI r3 201 a1 0)) 202 a0 0 (gI (sI r3 201 a0 0 (gI r3 201 a1 0)) 202 a1 0)) 203 a0 0 (gI (sI (sI r3 201 a0 0 (gI r3 201 a1 0)) 202 a0 0 (gI (sI r3 201 a0 0 (gI r3 201 a1 0)) 202 a1 0)) 203 a1 0)) 204 a0 0 (gI (sI (sI (sI r3 201 a0 0 (gI r3 201 a1 0)) 202 a0 0 (gI (sI r3 201 a0 0 (gI r3 201 a1 0)) 202 a1 0)) 203 a0 0 (gI (sI (sI r3 201 a0 0 (gI r3 201 a1 0)) 202 a0 0 (gI (sI r3 201 a0 0 (gI r3 201 a1 0)) 202 a1 0)) 203 a1 0)) 204 a1 0)) 205 a1 0)) 206 a1 0) (sI (sI (sI (sI (sI r3 201 a0 0 (gI r3 201 a1 0)) 202 a0 0 (gI (sI r3 201 a0 0 (gI r3 201 a1 0)) 202 a1 0)) 203 a0 0 (gI (sI (sI r3 201 a0 0 (gI r3 201 a1 0)) 202 a0 0 (gI (sI r3 201 a0 0 (gI r3 201 a1 0)) 202 a1 0)) 203 a1 0)) 204 a0 0 (gI (sI (sI (sI r3 201 a0 0 (gI r3 201 a1 0)) 202 a0 0 (gI (sI r3 201 a0 0 (gI r3 201 a1 0)) 202 a1 0)) 203 a0 0 (gI (sI (sI r3 201 a0 0 (gI r3 201 a1 0)) 202 a0 0 (gI (sI r3 201 a0 0 (gI r3 201 a1 0)) 202 a1 0)) 203 a1 0)) 204 a1 0)) 205 a0 0 (gI (sI (sI (sI (sI r3 201 a0 0 (gI r3 201 a1 0)) 202 a0 0 (gI (sI r3 201 a0 0 (gI r3 201 a1 0)) 202 a1 0)) 203 a0 0 (gI (sI (sI r3 201 a0 0 (gI r3 201 a1 0)) 202 a0 0 (gI (sI r3 201 a0 0 (gI r3 201 a1 0)) 202 a1 0)) 203 a1 0)) 204 a0 0 (gI (sI (sI (sI r3 201 a0 0 (gI r3 201 a1 0)) 202 a0 0 (gI (sI r3 201 a0 0 (gI r3 201 a1 0)) 202 a1 0)) 203 a0 0 (gI (sI (sI r3 201 a0 0 (gI r3 201 a1 0)) 202 a0 0 (gI (sI r3 201 a0 0 (gI r3 201 a1 0)) 202 a1 0)) 203 a1 0)) 204 a1 0)) 205 a1 0)) r8 h9) q_948 q_77 q_945 q_947 q_29 h9_X0_take rfl (fSm.k (fSm.tr e6 (fSm.rf w)) g10) ⟨Nat.le_of_ble_eq_true rfl, Nat.le_of_ble_eq_true rfl⟩ ⟨Nat.le_of_ble_eq_true rfl, Nat.le_of_ble_eq_true rfl⟩ (Nat.le_of_ble_eq_true rfl) rfl dX2_take_59 (fun e11 => ?_)
  refine f_aload_n hC dX2_take_62 rfl 0 rfl ?_
  refine f_getR hC 2 7 207 rfl (by decide) iX2 q_196 rfl rfl (fSm.k (fSm.tr e11 (fSm.tr e6 (fSm.rf w))) g1) dX2_take_63 ?_
  refine f_aload_n hC dX2_take_66 rfl 1 rfl ?_
  refine f_getR hC 2 7 207 rfl (by decide) iX2 q_196 rfl rfl (fSm.k (fSm.tr e11 (fSm.tr e6 (fSm.rf w))) g2) dX2_take_67 ?_
  obtain ⟨g14, hF⟩ := fg_open hF
  obtain ⟨r12, h13, hF⟩ := fb_open hF
  refine f_callVN hC [.ref (gR r8 207 a1 0)] (c_X0_take l D cy (gR r8 207 a0 0) (gR r8 207 a1 0) r8 r12 h13) q_948 q_77 q_945 q_947 q_29 h9_X0_take rfl (fSm.k (fSm.tr e11 (fSm.tr e6 (fSm.rf w))) g14) ⟨Nat.le_of_ble_eq_true rfl, Nat.le_of_ble_eq_true rfl⟩ ⟨Nat.le_of_ble_eq_true rfl, Nat.le_of_ble_eq_true rfl⟩ (Nat.le_of_ble_eq_true rfl) rfl dX2_take_70 (fun e15 => ?_)
  obtain rfl := Option.some.inj hF
  exact f_vret hC hEn (fSm.tr e15 (fSm.tr e11 (fSm.tr e6 (fSm.rf w)))) dX2_take_73
theorem dX1_take_0 : decode cX1_take 0 = .ok (.iconst 0, 1) := by decide +kernel
theorem dX1_take_1 : decode cX1_take 1 = .ok (.istore_n 2, 1) := by decide +kernel
theorem dX1_take_2 : decode cX1_take 2 = .ok (.iload_n 2, 1) := by decide +kernel
theorem dX1_take_3 : decode cX1_take 3 = .ok (.aload_n 1, 1) := by decide +kernel
theorem dX1_take_4 : decode cX1_take 4 = .ok (.getfield 17, 3) := by decide +kernel
theorem dX1_take_7 : decode cX1_take 7 = .ok (.if_icmp .ge 24, 3) := by decide +kernel
theorem dX1_take_10 : decode cX1_take 10 = .ok (.aload_n 0, 1) := by decide +kernel
theorem dX1_take_11 : decode cX1_take 11 = .ok (.getfield 11, 3) := by decide +kernel
theorem dX1_take_14 : decode cX1_take 14 = .ok (.iload_n 2, 1) := by decide +kernel
theorem dX1_take_15 : decode cX1_take 15 = .ok (.aaload, 1) := by decide +kernel
theorem dX1_take_16 : decode cX1_take 16 = .ok (.aload_n 1, 1) := by decide +kernel
theorem dX1_take_17 : decode cX1_take 17 = .ok (.getfield 11, 3) := by decide +kernel
theorem dX1_take_20 : decode cX1_take 20 = .ok (.iload_n 2, 1) := by decide +kernel
theorem dX1_take_21 : decode cX1_take 21 = .ok (.aaload, 1) := by decide +kernel
theorem dX1_take_22 : decode cX1_take 22 = .ok (.invokevirtual 55, 3) := by decide +kernel
theorem dX1_take_25 : decode cX1_take 25 = .ok (.iinc 2 1, 3) := by decide +kernel
theorem dX1_take_28 : decode cX1_take 28 = .ok (.goto (-26), 3) := by decide +kernel
theorem dX1_take_31 : decode cX1_take 31 = .ok (.aload_n 0, 1) := by decide +kernel
theorem dX1_take_32 : decode cX1_take 32 = .ok (.aload_n 1, 1) := by decide +kernel
theorem dX1_take_33 : decode cX1_take 33 = .ok (.getfield 17, 3) := by decide +kernel
theorem dX1_take_36 : decode cX1_take 36 = .ok (.putfield 17, 3) := by decide +kernel
theorem dX1_take_39 : decode cX1_take 39 = .ok (.aload_n 0, 1) := by decide +kernel
theorem dX1_take_40 : decode cX1_take 40 = .ok (.getfield 24, 3) := by decide +kernel
theorem dX1_take_43 : decode cX1_take 43 = .ok (.aload_n 1, 1) := by decide +kernel
theorem dX1_take_44 : decode cX1_take 44 = .ok (.getfield 24, 3) := by decide +kernel
theorem dX1_take_47 : decode cX1_take 47 = .ok (.invokevirtual 59, 3) := by decide +kernel
theorem dX1_take_50 : decode cX1_take 50 = .ok (.iconst 0, 1) := by decide +kernel
theorem dX1_take_51 : decode cX1_take 51 = .ok (.istore_n 2, 1) := by decide +kernel
theorem dX1_take_52 : decode cX1_take 52 = .ok (.iload_n 2, 1) := by decide +kernel
theorem dX1_take_53 : decode cX1_take 53 = .ok (.iconst 3, 1) := by decide +kernel
theorem dX1_take_54 : decode cX1_take 54 = .ok (.if_icmp .ge 21, 3) := by decide +kernel
theorem dX1_take_57 : decode cX1_take 57 = .ok (.aload_n 0, 1) := by decide +kernel
theorem dX1_take_58 : decode cX1_take 58 = .ok (.getfield 28, 3) := by decide +kernel
theorem dX1_take_61 : decode cX1_take 61 = .ok (.iload_n 2, 1) := by decide +kernel
theorem dX1_take_62 : decode cX1_take 62 = .ok (.aload_n 1, 1) := by decide +kernel
theorem dX1_take_63 : decode cX1_take 63 = .ok (.getfield 28, 3) := by decide +kernel
theorem dX1_take_66 : decode cX1_take 66 = .ok (.iload_n 2, 1) := by decide +kernel
theorem dX1_take_67 : decode cX1_take 67 = .ok (.iaload, 1) := by decide +kernel
theorem dX1_take_68 : decode cX1_take 68 = .ok (.iastore, 1) := by decide +kernel
theorem dX1_take_69 : decode cX1_take 69 = .ok (.iinc 2 1, 3) := by decide +kernel
theorem dX1_take_72 : decode cX1_take 72 = .ok (.goto (-20), 3) := by decide +kernel
theorem dX1_take_75 : decode cX1_take 75 = .ok (.iconst 0, 1) := by decide +kernel
theorem dX1_take_76 : decode cX1_take 76 = .ok (.istore_n 2, 1) := by decide +kernel
theorem dX1_take_77 : decode cX1_take 77 = .ok (.iload_n 2, 1) := by decide +kernel
theorem dX1_take_78 : decode cX1_take 78 = .ok (.iconst 5, 1) := by decide +kernel
theorem dX1_take_79 : decode cX1_take 79 = .ok (.if_icmp .ge 21, 3) := by decide +kernel
theorem dX1_take_82 : decode cX1_take 82 = .ok (.aload_n 0, 1) := by decide +kernel
theorem dX1_take_83 : decode cX1_take 83 = .ok (.getfield 32, 3) := by decide +kernel
theorem dX1_take_86 : decode cX1_take 86 = .ok (.iload_n 2, 1) := by decide +kernel
theorem dX1_take_87 : decode cX1_take 87 = .ok (.aload_n 1, 1) := by decide +kernel
theorem dX1_take_88 : decode cX1_take 88 = .ok (.getfield 32, 3) := by decide +kernel
theorem dX1_take_91 : decode cX1_take 91 = .ok (.iload_n 2, 1) := by decide +kernel
theorem dX1_take_92 : decode cX1_take 92 = .ok (.baload, 1) := by decide +kernel
theorem dX1_take_93 : decode cX1_take 93 = .ok (.bastore, 1) := by decide +kernel
theorem dX1_take_94 : decode cX1_take 94 = .ok (.iinc 2 1, 3) := by decide +kernel
theorem dX1_take_97 : decode cX1_take 97 = .ok (.goto (-20), 3) := by decide +kernel
theorem dX1_take_100 : decode cX1_take 100 = .ok (.aload_n 0, 1) := by decide +kernel
theorem dX1_take_101 : decode cX1_take 101 = .ok (.aload_n 1, 1) := by decide +kernel
theorem dX1_take_102 : decode cX1_take 102 = .ok (.getfield 36, 3) := by decide +kernel
theorem dX1_take_105 : decode cX1_take 105 = .ok (.putfield 36, 3) := by decide +kernel
theorem dX1_take_108 : decode cX1_take 108 = .ok (.aload_n 0, 1) := by decide +kernel
theorem dX1_take_109 : decode cX1_take 109 = .ok (.aload_n 1, 1) := by decide +kernel
theorem dX1_take_110 : decode cX1_take 110 = .ok (.getfield 39, 3) := by decide +kernel
theorem dX1_take_113 : decode cX1_take 113 = .ok (.putfield 39, 3) := by decide +kernel
theorem dX1_take_116 : decode cX1_take 116 = .ok (.aload_n 0, 1) := by decide +kernel
theorem dX1_take_117 : decode cX1_take 117 = .ok (.aload_n 1, 1) := by decide +kernel
theorem dX1_take_118 : decode cX1_take 118 = .ok (.getfield 42, 3) := by decide +kernel
theorem dX1_take_121 : decode cX1_take 121 = .ok (.putfield 42, 3) := by decide +kernel
theorem dX1_take_124 : decode cX1_take 124 = .ok (.aload_n 0, 1) := by decide +kernel
theorem dX1_take_125 : decode cX1_take 125 = .ok (.aload_n 1, 1) := by decide +kernel
theorem dX1_take_126 : decode cX1_take 126 = .ok (.getfield 45, 3) := by decide +kernel
theorem dX1_take_129 : decode cX1_take 129 = .ok (.putfield 45, 3) := by decide +kernel
theorem dX1_take_132 : decode cX1_take 132 = .ok (.aload_n 0, 1) := by decide +kernel
theorem dX1_take_133 : decode cX1_take 133 = .ok (.aload_n 1, 1) := by decide +kernel
theorem dX1_take_134 : decode cX1_take 134 = .ok (.getfield 48, 3) := by decide +kernel
theorem dX1_take_137 : decode cX1_take 137 = .ok (.putfield 48, 3) := by decide +kernel
theorem dX1_take_140 : decode cX1_take 140 = .ok (.return_, 1) := by decide +kernel
theorem h9_X1_take : yX1_take.cls ≠ "java/lang/invoke/MethodHandle" ∧ yX1_take.cls ≠ "java/lang/invoke/VarHandle" ∧ (parseMethodDescriptor yX1_take.desc).map (fun d => d.parameters.length) = some 1 := by decide +kernel
noncomputable def F_X1_take (a0 : Nat) (a1 : Nat) (w : FW) : Option (FW) :=
  (fLoop (σ := Int32 × FW) (ρ := FW) (fun s1 => fg (w.1 a1 = 2) inferInstance ((if (gI s1.2 101 a1 0) ≤ s1.1 then some (.inr s1.2) else fg (w.1 a0 = 2) inferInstance (fg (w.1 (gR s1.2 100 a0 0) = 14) inferInstance (fg (¬ (s1.1 < 0 ∨ w.2.1 (gR s1.2 100 a0 0) ≤ Int32.toNatClampNeg s1.1)) inferInstance (fg (w.1 (gR s1.2 100 a1 0) = 14) inferInstance (fg (¬ (s1.1 < 0 ∨ w.2.1 (gR s1.2 100 a1 0) ≤ Int32.toNatClampNeg s1.1)) inferInstance (fg (w.1 (gR s1.2 604 (gR s1.2 100 a0 0) (Int32.toNatClampNeg s1.1)) = 3) inferInstance ((F_X2_take (gR s1.2 604 (gR s1.2 100 a0 0) (Int32.toNatClampNeg s1.1)) (gR s1.2 604 (gR s1.2 100 a1 0) (Int32.toNatClampNeg s1.1)) s1.2).bind (fun r17 => some (.inl ((s1.1 + 1), r17)))))))))))) (0, w)).bind (fun x7 => fg (w.1 a1 = 2) inferInstance (fg (w.1 a0 = 2) inferInstance (fg (w.1 (gR x7 102 a0 0) = 4) inferInstance ((F_X3_take (gR (sI x7 101 a0 0 (gI x7 101 a1 0)) 102 a0 0) (gR (sI x7 101 a0 0 (gI x7 101 a1 0)) 102 a1 0) (sI x7 101 a0 0 (gI x7 101 a1 0))).bind (fun r23 => (fLoop (σ := Int32 × FW) (ρ := FW) (fun s27 => (if 3 ≤ s27.1 then some (.inr s27.2) else fg (w.1 (gR s27.2 103 a1 0) = 11) inferInstance (fg (¬ (s27.1 < 0 ∨ w.2.1 (gR s27.2 103 a1 0) ≤ Int32.toNatClampNeg s27.1)) inferInstance (fg (w.1 (gR s27.2 103 a0 0) = 11) inferInstance (fg (¬ (s27.1 < 0 ∨ w.2.1 (gR s27.2 103 a0 0) ≤ Int32.toNatClampNeg s27.1)) inferInstance (some (.inl ((s27.1 + 1), (sI s27.2 601 (gR s27.2 103 a0 0) (Int32.toNatClampNeg s27.1) (gI s27.2 601 (gR s27.2 103 a1 0) (Int32.toNatClampNeg s27.1))))))))))) (0, r23)).bind (fun x33 => (fLoop (σ := Int32 × FW) (ρ := FW) (fun s41 => (if 5 ≤ s41.1 then some (.inr s41.2) else fg (w.1 (gR s41.2 104 a1 0) = 12) inferInstance (fg (¬ (s41.1 < 0 ∨ w.2.1 (gR s41.2 104 a1 0) ≤ Int32.toNatClampNeg s41.1)) inferInstance (fg (w.1 (gR s41.2 104 a0 0) = 12) inferInstance (fg (¬ (s41.1 < 0 ∨ w.2.1 (gR s41.2 104 a0 0) ≤ Int32.toNatClampNeg s41.1)) inferInstance (fg ((gI s41.2 602 (gR s41.2 104 a1 0) (Int32.toNatClampNeg s41.1)) = 0 ∨ (gI s41.2 602 (gR s41.2 104 a1 0) (Int32.toNatClampNeg s41.1)) = 1) inferInstance (some (.inl ((s41.1 + 1), (sI s41.2 602 (gR s41.2 104 a0 0) (Int32.toNatClampNeg s41.1) (gI s41.2 602 (gR s41.2 104 a1 0) (Int32.toNatClampNeg s41.1)))))))))))) (0, x33)).bind (fun x47 => some (sI (sI (sI (sI (sI x47 105 a0 0 (gI x47 105 a1 0)) 106 a0 0 (gI (sI x47 105 a0 0 (gI x47 105 a1 0)) 106 a1 0)) 107 a0 0 (gI (sI (sI x47 105 a0 0 (gI x47 105 a1 0)) 106 a0 0 (gI (sI x47 105 a0 0 (gI x47 105 a1 0)) 106 a1 0)) 107 a1 0)) 108 a0 0 (gI (sI (sI (sI x47 105 a0 0 (gI x47 105 a1 0)) 106 a0 0 (gI (sI x47 105 a0 0 (gI x47 105 a1 0)) 106 a1 0)) 107 a0 0 (gI (sI (sI x47 105 a0 0 (gI x47 105 a1 0)) 106 a0 0 (gI (sI x47 105 a0 0 (gI x47 105 a1 0)) 106 a1 0)) 107 a1 0)) 108 a1 0)) 109 a0 0 (gI (sI (sI (sI (sI x47 105 a0 0 (gI x47 105 a1 0)) 106 a0 0 (gI (sI x47 105 a0 0 (gI x47 105 a1 0)) 106 a1 0)) 107 a0 0 (gI (sI (sI x47 105 a0 0 (gI x47 105 a1 0)) 106 a0 0 (gI (sI x47 105 a0 0 (gI x47 105 a1 0)) 106 a1 0)) 107 a1 0)) 108 a0 0 (gI (sI (sI (sI x47 105 a0 0 (gI x47 105 a1 0)) 106 a0 0 (gI (sI x47 105 a0 0 (gI x47 105 a1 0)) 106 a1 0)) 107 a0 0 (gI (sI (sI x47 105 a0 0 (gI x47 105 a1 0)) 106 a0 0 (gI (sI x47 105 a0 0 (gI x47 105 a1 0)) 106 a1 0)) 107 a1 0)) 108 a1 0)) 109 a1 0)))))))))
set_option maxHeartbeats 4000000 in
set_option maxRecDepth 100000 in
theorem c_X1_take (l : Launch) (D : va_G) (cy : Nat → ClassId) (a0 : Nat) (a1 : Nat) (w : FW) (r : FW) (hF : F_X1_take a0 a1 w = some r) : fSpec l D cy yX1_take cX1_take 3 none { frames := 2, cells := 0, slots := 0, locals := 43 } [.ref a0, .ref a1] w r none := by
  refine f_begin (by decide +kernel) (Nat.le_of_ble_eq_true rfl) (fun X hC hEn => ?_)
  unfold F_X1_take at hF
  show fAt X 0 0 3 w [(0, .ref a0), (1, .ref a1)] [] 0
  refine f_iconst (v := 0) hC dX1_take_0 (by decide) ?_
  refine f_istore_n (L' := [(2, .int 0), (0, .ref a0), (1, .ref a1)]) hC dX1_take_1 rfl (by decide) rfl ?_
  obtain ⟨x7, h8, hF⟩ := fb_open hF
  have K9 : fSm x7 w → fAt X 0 0 3 x7 [(0, .ref a0), (1, .ref a1)] [] 31 := by
    intro p5
    refine f_aload_n hC dX1_take_31 rfl 0 rfl ?_
    refine f_aload_n hC dX1_take_32 rfl 1 rfl ?_
    obtain ⟨g21, hF⟩ := fg_open hF
    refine f_getI hC 1 1 101 rfl (by decide) iX1 q_218 rfl rfl (fSm.k p5 g21) dX1_take_33 ?_
    obtain ⟨g22, hF⟩ := fg_open hF
    refine f_putI hC 1 1 101 rfl (by decide) iX1 tyX1 tyX1_ok nmX1 q_218 rfl rfl rfl rfl rfl (fSm.k p5 g22) dX1_take_36 ?_
    refine f_aload_n hC dX1_take_39 rfl 0 rfl ?_
    refine f_getR hC 1 2 102 rfl (by decide) iX1 q_220 rfl rfl (fSm.k p5 g22) dX1_take_40 ?_
    refine f_aload_n hC dX1_take_43 rfl 1 rfl ?_
    refine f_getR hC 1 2 102 rfl (by decide) iX1 q_220 rfl rfl (fSm.k p5 g21) dX1_take_44 ?_
    obtain ⟨g25, hF⟩ := fg_open hF
    obtain ⟨r23, h24, hF⟩ := fb_open hF
    refine f_callVN hC [.ref (gR (sI x7 101 a0 0 (gI x7 101 a1 0)) 102 a1 0)] (c_X3_take l D cy (gR (sI x7 101 a0 0 (gI x7 101 a1 0)) 102 a0 0) (gR (sI x7 101 a0 0 (gI x7 101 a1 0)) 102 a1 0) (sI x7 101 a0 0 (gI x7 101 a1 0)) r23 h24) q_944 q_75 q_949 q_943 q_28 h9_X3_take rfl (fSm.k p5 g25) ⟨Nat.le_of_ble_eq_true rfl, Nat.le_of_ble_eq_true rfl⟩ ⟨Nat.le_of_ble_eq_true rfl, Nat.le_of_ble_eq_true rfl⟩ (Nat.le_of_ble_eq_true rfl) rfl dX1_take_47 (fun e26 => ?_)
    refine f_iconst (v := 0) hC dX1_take_50 (by decide) ?_
    refine f_istore_n (L' := [(2, .int 0), (0, .ref a0), (1, .ref a1)]) hC dX1_take_51 rfl (by decide) rfl ?_
    obtain ⟨x33, h34, hF⟩ := fb_open hF
    have K35 : fSm x33 w → fAt X 0 0 3 x33 [(0, .ref a0), (1, .ref a1)] [] 75 := by
      intro p31
      refine f_iconst (v := 0) hC dX1_take_75 (by decide) ?_
      refine f_istore_n (L' := [(2, .int 0), (0, .ref a0), (1, .ref a1)]) hC dX1_take_76 rfl (by decide) rfl ?_
      obtain ⟨x47, h48, hF⟩ := fb_open hF
      have K49 : fSm x47 w → fAt X 0 0 3 x47 [(0, .ref a0), (1, .ref a1)] [] 100 := by
        intro p45
        refine f_aload_n hC dX1_take_100 rfl 0 rfl ?_
        refine f_aload_n hC dX1_take_101 rfl 1 rfl ?_
        refine f_getI hC 1 5 105 rfl (by decide) iX1 q_226 rfl rfl (fSm.k p45 g21) dX1_take_102 ?_
        refine f_putI hC 1 5 105 rfl (by decide) iX1 tyX1 tyX1_ok nmX1 q_226 rfl rfl rfl rfl rfl (fSm.k p45 g22) dX1_take_105 ?_
        refine f_aload_n hC dX1_take_108 rfl 0 rfl ?_
        refine f_aload_n hC dX1_take_109 rfl 1 rfl ?_
        refine f_getI hC 1 6 106 rfl (by decide) iX1 q_228 rfl rfl (fSm.k p45 g21) dX1_take_110 ?_
        refine f_putI hC 1 6 106 rfl (by decide) iX1 tyX1 tyX1_ok nmX1 q_228 rfl rfl rfl rfl rfl (fSm.k p45 g22) dX1_take_113 ?_
        refine f_aload_n hC dX1_take_116 rfl 0 rfl ?_
        refine f_aload_n hC dX1_take_117 rfl 1 rfl ?_
        refine f_getI hC 1 7 107 rfl (by decide) iX1 q_230 rfl rfl (fSm.k p45 g21) dX1_take_118 ?_
        refine f_putI hC 1 7 107 rfl (by decide) iX1 tyX1 tyX1_ok nmX1 q_230 rfl rfl rfl rfl rfl (fSm.k p45 g22) dX1_take_121 ?_
        refine f_aload_n hC dX1_take_124 rfl 0 rfl ?_
        refine f_aload_n hC dX1_take_125 rfl 1 rfl ?_
        refine f_getI hC 1 8 108 rfl (by decide) iX1 q_232 rfl rfl (fSm.k p45 g21) dX1_take_126 ?_
        refine f_putI hC 1 8 108 rfl (by decide) iX1 tyX1 tyX1_ok nmX1 q_232 rfl rfl rfl rfl rfl (fSm.k p45 g22) dX1_take_129 ?_
        refine f_aload_n hC dX1_take_132 rfl 0 rfl ?_
        refine f_aload_n hC dX1_take_133 rfl 1 rfl ?_
        refine f_getI hC 1 9 109 rfl (by decide) iX1 q_234 rfl rfl (fSm.k p45 g21) dX1_take_134 ?_
        refine f_putI hC 1 9 109 rfl (by decide) iX1 tyX1 tyX1_ok nmX1 q_234 rfl rfl rfl rfl rfl (fSm.k p45 g22) dX1_take_137 ?_
        obtain rfl := Option.some.inj hF
        exact f_vret hC hEn p45 dX1_take_140
      refine f_sub (L' := [(0, .ref a0), (1, .ref a1), (2, .int 0)]) [1, 2, 0] rfl ?_
      refine fLoop_ind (fun (s41 : Int32 × FW) => fSm s41.2 w → fAt X 0 0 3 s41.2 [(0, .ref a0), (1, .ref a1), (2, .int s41.1)] [] 77) (fun s41 y46 h42 go43 ou44 => ?_) h48 p31
      intro p45
      refine f_iload_n hC dX1_take_77 rfl 2 rfl ?_
      refine f_iconst (v := 5) hC dX1_take_78 (by decide) ?_
      refine f_icmp_ge hC 100 dX1_take_79 (by decide) (fun c50 => ?_) (fun c50 => ?_)
      · replace h42 := fi_pos h42 c50
        obtain rfl := Option.some.inj h42
        obtain rfl := ou44 _ rfl
        refine f_sub (L' := [(0, .ref a0), (1, .ref a1)]) [0, 1] rfl ?_
        exact K49 p45
      · replace h42 := fi_neg h42 c50
        refine f_aload_n hC dX1_take_82 rfl 0 rfl ?_
        refine f_getR hC 1 4 104 rfl (by decide) iX1 q_224 rfl rfl (fSm.k p45 g22) dX1_take_83 ?_
        refine f_iload_n hC dX1_take_86 rfl 2 rfl ?_
        refine f_aload_n hC dX1_take_87 rfl 1 rfl ?_
        refine f_getR hC 1 4 104 rfl (by decide) iX1 q_224 rfl rfl (fSm.k p45 g21) dX1_take_88 ?_
        refine f_iload_n hC dX1_take_91 rfl 2 rfl ?_
        obtain ⟨g51, h42⟩ := fg_open h42
        obtain ⟨g52, h42⟩ := fg_open h42
        refine f_zald hC (fSm.k p45 g51) (fSm.v p45 g52) dX1_take_92 ?_
        obtain ⟨g53, h42⟩ := fg_open h42
        obtain ⟨g54, h42⟩ := fg_open h42
        obtain ⟨g55, h42⟩ := fg_open h42
        refine f_zast hC g55 (fSm.k p45 g53) (fSm.v p45 g54) dX1_take_93 ?_
        refine f_iinc (L' := [(2, .int (s41.1 + 1)), (0, .ref a0), (1, .ref a1)]) hC dX1_take_94 2 rfl rfl (by decide) rfl ?_
        refine f_goto hC 77 dX1_take_97 (by decide) ?_
        obtain rfl := Option.some.inj h42
        refine f_sub (L' := [(0, .ref a0), (1, .ref a1), (2, .int (s41.1 + 1))]) [1, 2, 0] rfl ?_
        exact go43 _ rfl p45
    refine f_sub (L' := [(0, .ref a0), (1, .ref a1), (2, .int 0)]) [1, 2, 0] rfl ?_
    refine fLoop_ind (fun (s27 : Int32 × FW) => fSm s27.2 w → fAt X 0 0 3 s27.2 [(0, .ref a0), (1, .ref a1), (2, .int s27.1)] [] 52) (fun s27 y32 h28 go29 ou30 => ?_) h34 (fSm.tr e26 p5)
    intro p31
    refine f_iload_n hC dX1_take_52 rfl 2 rfl ?_
    refine f_iconst (v := 3) hC dX1_take_53 (by decide) ?_
    refine f_icmp_ge hC 75 dX1_take_54 (by decide) (fun c36 => ?_) (fun c36 => ?_)
    · replace h28 := fi_pos h28 c36
      obtain rfl := Option.some.inj h28
      obtain rfl := ou30 _ rfl
      refine f_sub (L' := [(0, .ref a0), (1, .ref a1)]) [0, 1] rfl ?_
      exact K35 p31
    · replace h28 := fi_neg h28 c36
      refine f_aload_n hC dX1_take_57 rfl 0 rfl ?_
      refine f_getR hC 1 3 103 rfl (by decide) iX1 q_222 rfl rfl (fSm.k p31 g22) dX1_take_58 ?_
      refine f_iload_n hC dX1_take_61 rfl 2 rfl ?_
      refine f_aload_n hC dX1_take_62 rfl 1 rfl ?_
      refine f_getR hC 1 3 103 rfl (by decide) iX1 q_222 rfl rfl (fSm.k p31 g21) dX1_take_63 ?_
      refine f_iload_n hC dX1_take_66 rfl 2 rfl ?_
      obtain ⟨g37, h28⟩ := fg_open h28
      obtain ⟨g38, h28⟩ := fg_open h28
      refine f_iald hC (fSm.k p31 g37) (fSm.v p31 g38) dX1_take_67 ?_
      obtain ⟨g39, h28⟩ := fg_open h28
      obtain ⟨g40, h28⟩ := fg_open h28
      refine f_iast hC (fSm.k p31 g39) (fSm.v p31 g40) dX1_take_68 ?_
      refine f_iinc (L' := [(2, .int (s27.1 + 1)), (0, .ref a0), (1, .ref a1)]) hC dX1_take_69 2 rfl rfl (by decide) rfl ?_
      refine f_goto hC 52 dX1_take_72 (by decide) ?_
      obtain rfl := Option.some.inj h28
      refine f_sub (L' := [(0, .ref a0), (1, .ref a1), (2, .int (s27.1 + 1))]) [1, 2, 0] rfl ?_
      exact go29 _ rfl p31
  refine f_sub (L' := [(0, .ref a0), (1, .ref a1), (2, .int 0)]) [1, 2, 0] rfl ?_
  refine fLoop_ind (fun (s1 : Int32 × FW) => fSm s1.2 w → fAt X 0 0 3 s1.2 [(0, .ref a0), (1, .ref a1), (2, .int s1.1)] [] 2) (fun s1 y6 h2 go3 ou4 => ?_) h8 (fSm.rf w)
  intro p5
  refine f_iload_n hC dX1_take_2 rfl 2 rfl ?_
  refine f_aload_n hC dX1_take_3 rfl 1 rfl ?_
  obtain ⟨g10, h2⟩ := fg_open h2
  refine f_getI hC 1 1 101 rfl (by decide) iX1 q_218 rfl rfl (fSm.k p5 g10) dX1_take_4 ?_
  refine f_icmp_ge hC 31 dX1_take_7 (by decide) (fun c11 => ?_) (fun c11 => ?_)
  · replace h2 := fi_pos h2 c11
    obtain rfl := Option.some.inj h2
    obtain rfl := ou4 _ rfl
    refine f_sub (L' := [(0, .ref a0), (1, .ref a1)]) [0, 1] rfl ?_
    exact K9 p5
  · replace h2 := fi_neg h2 c11
    refine f_aload_n hC dX1_take_10 rfl 0 rfl ?_
    obtain ⟨g12, h2⟩ := fg_open h2
    refine f_getR hC 1 0 100 rfl (by decide) iX1 q_216 rfl rfl (fSm.k p5 g12) dX1_take_11 ?_
    refine f_iload_n hC dX1_take_14 rfl 2 rfl ?_
    obtain ⟨g13, h2⟩ := fg_open h2
    obtain ⟨g14, h2⟩ := fg_open h2
    refine f_aald1 hC (fSm.k p5 g13) (fSm.v p5 g14) dX1_take_15 ?_
    refine f_aload_n hC dX1_take_16 rfl 1 rfl ?_
    refine f_getR hC 1 0 100 rfl (by decide) iX1 q_216 rfl rfl (fSm.k p5 g10) dX1_take_17 ?_
    refine f_iload_n hC dX1_take_20 rfl 2 rfl ?_
    obtain ⟨g15, h2⟩ := fg_open h2
    obtain ⟨g16, h2⟩ := fg_open h2
    refine f_aald1 hC (fSm.k p5 g15) (fSm.v p5 g16) dX1_take_21 ?_
    obtain ⟨g19, h2⟩ := fg_open h2
    obtain ⟨r17, h18, h2⟩ := fb_open h2
    refine f_callVN hC [.ref (gR s1.2 604 (gR s1.2 100 a1 0) (Int32.toNatClampNeg s1.1))] (c_X2_take l D cy (gR s1.2 604 (gR s1.2 100 a0 0) (Int32.toNatClampNeg s1.1)) (gR s1.2 604 (gR s1.2 100 a1 0) (Int32.toNatClampNeg s1.1)) s1.2 r17 h18) q_940 q_76 q_937 q_939 q_27 h9_X2_take rfl (fSm.k p5 g19) ⟨Nat.le_of_ble_eq_true rfl, Nat.le_of_ble_eq_true rfl⟩ ⟨Nat.le_of_ble_eq_true rfl, Nat.le_of_ble_eq_true rfl⟩ (Nat.le_of_ble_eq_true rfl) rfl dX1_take_22 (fun e20 => ?_)
    refine f_iinc (L' := [(2, .int (s1.1 + 1)), (0, .ref a0), (1, .ref a1)]) hC dX1_take_25 2 rfl rfl (by decide) rfl ?_
    refine f_goto hC 2 dX1_take_28 (by decide) ?_
    obtain rfl := Option.some.inj h2
    refine f_sub (L' := [(0, .ref a0), (1, .ref a1), (2, .int (s1.1 + 1))]) [1, 2, 0] rfl ?_
    exact go3 _ rfl (fSm.tr e20 p5)
theorem dX4_begin_0 : decode cX4_begin 0 = .ok (.aload_n 0, 1) := by decide +kernel
theorem dX4_begin_1 : decode cX4_begin 1 = .ok (.getfield 16, 3) := by decide +kernel
theorem dX4_begin_4 : decode cX4_begin 4 = .ok (.aload_n 0, 1) := by decide +kernel
theorem dX4_begin_5 : decode cX4_begin 5 = .ok (.getfield 12, 3) := by decide +kernel
theorem dX4_begin_8 : decode cX4_begin 8 = .ok (.invokevirtual 368, 3) := by decide +kernel
theorem dX4_begin_11 : decode cX4_begin 11 = .ok (.return_, 1) := by decide +kernel
theorem h9_X4_begin : yX4_begin.cls ≠ "java/lang/invoke/MethodHandle" ∧ yX4_begin.cls ≠ "java/lang/invoke/VarHandle" ∧ (parseMethodDescriptor yX4_begin.desc).map (fun d => d.parameters.length) = some 0 := by decide +kernel
noncomputable def F_X4_begin (a0 : Nat) (w : FW) : Option (FW) :=
  fg (w.1 a0 = 5) inferInstance (fg (w.1 (gR w 401 a0 0) = 2) inferInstance ((F_X1_take (gR w 401 a0 0) (gR w 400 a0 0) w).bind (fun r2 => some r2)))
set_option maxHeartbeats 4000000 in
set_option maxRecDepth 100000 in
theorem c_X4_begin (l : Launch) (D : va_G) (cy : Nat → ClassId) (a0 : Nat) (w : FW) (r : FW) (hF : F_X4_begin a0 w = some r) : fSpec l D cy yX4_begin cX4_begin 1 none { frames := 3, cells := 0, slots := 0, locals := 65 } [.ref a0] w r none := by
  refine f_begin (by decide +kernel) (Nat.le_of_ble_eq_true rfl) (fun X hC hEn => ?_)
  unfold F_X4_begin at hF
  show fAt X 0 0 1 w [(0, .ref a0)] [] 0
  refine f_aload_n hC dX4_begin_0 rfl 0 rfl ?_
  obtain ⟨g1, hF⟩ := fg_open hF
  refine f_getR hC 4 1 401 rfl (by decide) iX4 q_261 rfl rfl (fSm.k (fSm.rf w) g1) dX4_begin_1 ?_
  refine f_aload_n hC dX4_begin_4 rfl 0 rfl ?_
  refine f_getR hC 4 0 400 rfl (by decide) iX4 q_260 rfl rfl (fSm.k (fSm.rf w) g1) dX4_begin_5 ?_
  obtain ⟨g4, hF⟩ := fg_open hF
  obtain ⟨r2, h3, hF⟩ := fb_open hF
  refine f_callVN hC [.ref (gR w 400 a0 0)] (c_X1_take l D cy (gR w 401 a0 0) (gR w 400 a0 0) w r2 h3) q_936 q_74 q_933 q_935 q_26 h9_X1_take rfl (fSm.k (fSm.rf w) g4) ⟨Nat.le_of_ble_eq_true rfl, Nat.le_of_ble_eq_true rfl⟩ ⟨Nat.le_of_ble_eq_true rfl, Nat.le_of_ble_eq_true rfl⟩ (Nat.le_of_ble_eq_true rfl) rfl dX4_begin_8 (fun e5 => ?_)
  obtain rfl := Option.some.inj hF
  exact f_vret hC hEn (fSm.tr e5 (fSm.rf w)) dX4_begin_11
theorem dX4_vowelNumber_0 : decode cX4_vowelNumber 0 = .ok (.iload_n 0, 1) := by decide +kernel
theorem dX4_vowelNumber_1 : decode cX4_vowelNumber 1 = .ok (.lookupswitch 61 #[(97, 51), (101, 53), (105, 55), (111, 57), (117, 59)], 51) := by decide +kernel
theorem dX4_vowelNumber_52 : decode cX4_vowelNumber 52 = .ok (.iconst 0, 1) := by decide +kernel
theorem dX4_vowelNumber_53 : decode cX4_vowelNumber 53 = .ok (.ireturn, 1) := by decide +kernel
theorem dX4_vowelNumber_54 : decode cX4_vowelNumber 54 = .ok (.iconst 1, 1) := by decide +kernel
theorem dX4_vowelNumber_55 : decode cX4_vowelNumber 55 = .ok (.ireturn, 1) := by decide +kernel
theorem dX4_vowelNumber_56 : decode cX4_vowelNumber 56 = .ok (.iconst 2, 1) := by decide +kernel
theorem dX4_vowelNumber_57 : decode cX4_vowelNumber 57 = .ok (.ireturn, 1) := by decide +kernel
theorem dX4_vowelNumber_58 : decode cX4_vowelNumber 58 = .ok (.iconst 3, 1) := by decide +kernel
theorem dX4_vowelNumber_59 : decode cX4_vowelNumber 59 = .ok (.ireturn, 1) := by decide +kernel
theorem dX4_vowelNumber_60 : decode cX4_vowelNumber 60 = .ok (.iconst 4, 1) := by decide +kernel
theorem dX4_vowelNumber_61 : decode cX4_vowelNumber 61 = .ok (.ireturn, 1) := by decide +kernel
theorem dX4_vowelNumber_62 : decode cX4_vowelNumber 62 = .ok (.iconst (-1), 1) := by decide +kernel
theorem dX4_vowelNumber_63 : decode cX4_vowelNumber 63 = .ok (.ireturn, 1) := by decide +kernel
theorem h9_X4_vowelNumber : yX4_vowelNumber.cls ≠ "java/lang/invoke/MethodHandle" ∧ yX4_vowelNumber.cls ≠ "java/lang/invoke/VarHandle" ∧ (parseMethodDescriptor yX4_vowelNumber.desc).map (fun d => d.parameters.length) = some 1 := by decide +kernel
noncomputable def F_X4_vowelNumber (x1 : Int32) (w : FW) : Option (Int32) :=
  (if x1 = 97 then some 0 else (if x1 = 101 then some 1 else (if x1 = 105 then some 2 else (if x1 = 111 then some 3 else (if x1 = 117 then some 4 else some (-1))))))
set_option maxHeartbeats 4000000 in
set_option maxRecDepth 100000 in
theorem c_X4_vowelNumber (l : Launch) (D : va_G) (cy : Nat → ClassId) (x1 : Int32) (w : FW) (r : Int32) (hF : F_X4_vowelNumber x1 w = some r) : fSpec l D cy yX4_vowelNumber cX4_vowelNumber 1 (some .int) { frames := 0, cells := 0, slots := 0, locals := 0 } [.int x1] w w (some (.int r)) := by
  refine f_begin (by decide +kernel) (Nat.le_of_ble_eq_true rfl) (fun X hC hEn => ?_)
  unfold F_X4_vowelNumber at hF
  show fAt X 0 0 1 w [(0, .int x1)] [] 0
  refine f_iload_n hC dX4_vowelNumber_0 rfl 0 rfl ?_
  by_cases c1 : x1 = 97
  · replace hF := fi_pos hF c1
    refine f_look hC 52 dX4_vowelNumber_1 (by decide) (by rw [c1] <;> decide) (by decide) ?_
    refine f_iconst (v := 0) hC dX4_vowelNumber_52 (by decide) ?_
    obtain rfl := Option.some.inj hF
    exact f_iret hC hEn (fSm.rf w) dX4_vowelNumber_53
  · replace hF := fi_neg hF c1
    by_cases c2 : x1 = 101
    · replace hF := fi_pos hF c2
      refine f_look hC 54 dX4_vowelNumber_1 (by decide) (by rw [c2] <;> decide) (by decide) ?_
      refine f_iconst (v := 1) hC dX4_vowelNumber_54 (by decide) ?_
      obtain rfl := Option.some.inj hF
      exact f_iret hC hEn (fSm.rf w) dX4_vowelNumber_55
    · replace hF := fi_neg hF c2
      by_cases c3 : x1 = 105
      · replace hF := fi_pos hF c3
        refine f_look hC 56 dX4_vowelNumber_1 (by decide) (by rw [c3] <;> decide) (by decide) ?_
        refine f_iconst (v := 2) hC dX4_vowelNumber_56 (by decide) ?_
        obtain rfl := Option.some.inj hF
        exact f_iret hC hEn (fSm.rf w) dX4_vowelNumber_57
      · replace hF := fi_neg hF c3
        by_cases c4 : x1 = 111
        · replace hF := fi_pos hF c4
          refine f_look hC 58 dX4_vowelNumber_1 (by decide) (by rw [c4] <;> decide) (by decide) ?_
          refine f_iconst (v := 3) hC dX4_vowelNumber_58 (by decide) ?_
          obtain rfl := Option.some.inj hF
          exact f_iret hC hEn (fSm.rf w) dX4_vowelNumber_59
        · replace hF := fi_neg hF c4
          by_cases c5 : x1 = 117
          · replace hF := fi_pos hF c5
            refine f_look hC 60 dX4_vowelNumber_1 (by decide) (by rw [c5] <;> decide) (by decide) ?_
            refine f_iconst (v := 4) hC dX4_vowelNumber_60 (by decide) ?_
            obtain rfl := Option.some.inj hF
            exact f_iret hC hEn (fSm.rf w) dX4_vowelNumber_61
          · replace hF := fi_neg hF c5
            refine f_look (off := 61) hC 62 dX4_vowelNumber_1 (by decide) (flook (List.forall_mem_cons.mpr ⟨c1, (List.forall_mem_cons.mpr ⟨c2, (List.forall_mem_cons.mpr ⟨c3, (List.forall_mem_cons.mpr ⟨c4, (List.forall_mem_cons.mpr ⟨c5, (fun _ h => absurd h List.not_mem_nil)⟩)⟩)⟩)⟩)⟩)) (by decide) ?_
            refine f_iconst (v := (-1)) hC dX4_vowelNumber_62 (by decide) ?_
            obtain rfl := Option.some.inj hF
            exact f_iret hC hEn (fSm.rf w) dX4_vowelNumber_63
theorem dX4_isLetter_0 : decode cX4_isLetter 0 = .ok (.iload_n 0, 1) := by decide +kernel
theorem dX4_isLetter_1 : decode cX4_isLetter 1 = .ok (.tableswitch 93 98 116 #[91, 93, 91, 93, 93, 93, 93, 93, 93, 91, 91, 91, 91, 93, 93, 93, 91, 91, 91], 91) := by decide +kernel
theorem dX4_isLetter_92 : decode cX4_isLetter 92 = .ok (.iconst 1, 1) := by decide +kernel
theorem dX4_isLetter_93 : decode cX4_isLetter 93 = .ok (.ireturn, 1) := by decide +kernel
theorem dX4_isLetter_94 : decode cX4_isLetter 94 = .ok (.iload_n 0, 1) := by decide +kernel
theorem dX4_isLetter_95 : decode cX4_isLetter 95 = .ok (.invokestatic 314, 3) := by decide +kernel
theorem dX4_isLetter_98 : decode cX4_isLetter 98 = .ok (.iconst (-1), 1) := by decide +kernel
theorem dX4_isLetter_99 : decode cX4_isLetter 99 = .ok (.if_icmp .eq 7, 3) := by decide +kernel
theorem dX4_isLetter_102 : decode cX4_isLetter 102 = .ok (.iconst 1, 1) := by decide +kernel
theorem dX4_isLetter_103 : decode cX4_isLetter 103 = .ok (.goto 4, 3) := by decide +kernel
theorem dX4_isLetter_106 : decode cX4_isLetter 106 = .ok (.iconst 0, 1) := by decide +kernel
theorem dX4_isLetter_107 : decode cX4_isLetter 107 = .ok (.ireturn, 1) := by decide +kernel
theorem h9_X4_isLetter : yX4_isLetter.cls ≠ "java/lang/invoke/MethodHandle" ∧ yX4_isLetter.cls ≠ "java/lang/invoke/VarHandle" ∧ (parseMethodDescriptor yX4_isLetter.desc).map (fun d => d.parameters.length) = some 1 := by decide +kernel
noncomputable def F_X4_isLetter (x1 : Int32) (w : FW) : Option (Int32) :=
  (if x1 = 98 then some 1 else (if x1 = 99 then (F_X4_vowelNumber x1 w).bind (fun r3 => (if r3 = (-1) then some 0 else some 1)) else (if x1 = 100 then some 1 else (if x1 = 101 then (F_X4_vowelNumber x1 w).bind (fun r9 => (if r9 = (-1) then some 0 else some 1)) else (if x1 = 102 then (F_X4_vowelNumber x1 w).bind (fun r14 => (if r14 = (-1) then some 0 else some 1)) else (if x1 = 103 then (F_X4_vowelNumber x1 w).bind (fun r19 => (if r19 = (-1) then some 0 else some 1)) else (if x1 = 104 then (F_X4_vowelNumber x1 w).bind (fun r24 => (if r24 = (-1) then some 0 else some 1)) else (if x1 = 105 then (F_X4_vowelNumber x1 w).bind (fun r29 => (if r29 = (-1) then some 0 else some 1)) else (if x1 = 106 then (F_X4_vowelNumber x1 w).bind (fun r34 => (if r34 = (-1) then some 0 else some 1)) else (if x1 = 107 then some 1 else (if x1 = 108 then some 1 else (if x1 = 109 then some 1 else (if x1 = 110 then some 1 else (if x1 = 111 then (F_X4_vowelNumber x1 w).bind (fun r43 => (if r43 = (-1) then some 0 else some 1)) else (if x1 = 112 then (F_X4_vowelNumber x1 w).bind (fun r48 => (if r48 = (-1) then some 0 else some 1)) else (if x1 = 113 then (F_X4_vowelNumber x1 w).bind (fun r53 => (if r53 = (-1) then some 0 else some 1)) else (if x1 = 114 then some 1 else (if x1 = 115 then some 1 else (if x1 = 116 then some 1 else (F_X4_vowelNumber x1 w).bind (fun r60 => (if r60 = (-1) then some 0 else some 1)))))))))))))))))))))
set_option maxHeartbeats 4000000 in
set_option maxRecDepth 100000 in
theorem c_X4_isLetter (l : Launch) (D : va_G) (cy : Nat → ClassId) (x1 : Int32) (w : FW) (r : Int32) (hF : F_X4_isLetter x1 w = some r) : fSpec l D cy yX4_isLetter cX4_isLetter 1 (some .boolean) { frames := 1, cells := 0, slots := 0, locals := 20 } [.int x1] w w (some (.int r)) := by
  refine f_begin (by decide +kernel) (Nat.le_of_ble_eq_true rfl) (fun X hC hEn => ?_)
  unfold F_X4_isLetter at hF
  show fAt X 0 0 1 w [(0, .int x1)] [] 0
  refine f_iload_n hC dX4_isLetter_0 rfl 0 rfl ?_
  by_cases c1 : x1 = 98
  · replace hF := fi_pos hF c1
    refine f_tabIn hC 92 dX4_isLetter_1 (by rw [c1] <;> decide) (by rw [c1] <;> decide) (by rw [c1] <;> rfl) (by decide) ?_
    refine f_iconst (v := 1) hC dX4_isLetter_92 (by decide) ?_
    obtain rfl := Option.some.inj hF
    exact f_zret hC hEn (fSm.rf w) (nar_z (by decide)) dX4_isLetter_93
  · replace hF := fi_neg hF c1
    by_cases c2 : x1 = 99
    · replace hF := fi_pos hF c2
      refine f_tabIn hC 94 dX4_isLetter_1 (by rw [c2] <;> decide) (by rw [c2] <;> decide) (by rw [c2] <;> rfl) (by decide) ?_
      refine f_iload_n hC dX4_isLetter_94 rfl 0 rfl ?_
      obtain ⟨r3, h4, hF⟩ := fb_open hF
      refine f_callS hC [.int x1] (c_X4_vowelNumber l D cy x1 w r3 h4) q_440 q_73 q_927 q_439 h9_X4_vowelNumber ⟨Nat.le_of_ble_eq_true rfl, Nat.le_of_ble_eq_true rfl⟩ ⟨Nat.le_of_ble_eq_true rfl, Nat.le_of_ble_eq_true rfl⟩ (Nat.le_of_ble_eq_true rfl) rfl dX4_isLetter_95 (fun e5 => ?_)
      refine f_iconst (v := (-1)) hC dX4_isLetter_98 (by decide) ?_
      refine f_icmp_eq hC 106 dX4_isLetter_99 (by decide) (fun c6 => ?_) (fun c6 => ?_)
      · replace hF := fi_pos hF c6
        refine f_iconst (v := 0) hC dX4_isLetter_106 (by decide) ?_
        obtain rfl := Option.some.inj hF
        exact f_zret hC hEn (fSm.rf w) (nar_z (by decide)) dX4_isLetter_107
      · replace hF := fi_neg hF c6
        refine f_iconst (v := 1) hC dX4_isLetter_102 (by decide) ?_
        refine f_goto hC 107 dX4_isLetter_103 (by decide) ?_
        obtain rfl := Option.some.inj hF
        exact f_zret hC hEn (fSm.rf w) (nar_z (by decide)) dX4_isLetter_107
    · replace hF := fi_neg hF c2
      by_cases c7 : x1 = 100
      · replace hF := fi_pos hF c7
        refine f_tabIn hC 92 dX4_isLetter_1 (by rw [c7] <;> decide) (by rw [c7] <;> decide) (by rw [c7] <;> rfl) (by decide) ?_
        refine f_iconst (v := 1) hC dX4_isLetter_92 (by decide) ?_
        obtain rfl := Option.some.inj hF
        exact f_zret hC hEn (fSm.rf w) (nar_z (by decide)) dX4_isLetter_93
      · replace hF := fi_neg hF c7
        by_cases c8 : x1 = 101
        · replace hF := fi_pos hF c8
          refine f_tabIn hC 94 dX4_isLetter_1 (by rw [c8] <;> decide) (by rw [c8] <;> decide) (by rw [c8] <;> rfl) (by decide) ?_
          refine f_iload_n hC dX4_isLetter_94 rfl 0 rfl ?_
          obtain ⟨r9, h10, hF⟩ := fb_open hF
          refine f_callS hC [.int x1] (c_X4_vowelNumber l D cy x1 w r9 h10) q_440 q_73 q_927 q_439 h9_X4_vowelNumber ⟨Nat.le_of_ble_eq_true rfl, Nat.le_of_ble_eq_true rfl⟩ ⟨Nat.le_of_ble_eq_true rfl, Nat.le_of_ble_eq_true rfl⟩ (Nat.le_of_ble_eq_true rfl) rfl dX4_isLetter_95 (fun e11 => ?_)
          refine f_iconst (v := (-1)) hC dX4_isLetter_98 (by decide) ?_
          refine f_icmp_eq hC 106 dX4_isLetter_99 (by decide) (fun c12 => ?_) (fun c12 => ?_)
          · replace hF := fi_pos hF c12
            refine f_iconst (v := 0) hC dX4_isLetter_106 (by decide) ?_
            obtain rfl := Option.some.inj hF
            exact f_zret hC hEn (fSm.rf w) (nar_z (by decide)) dX4_isLetter_107
          · replace hF := fi_neg hF c12
            refine f_iconst (v := 1) hC dX4_isLetter_102 (by decide) ?_
            refine f_goto hC 107 dX4_isLetter_103 (by decide) ?_
            obtain rfl := Option.some.inj hF
            exact f_zret hC hEn (fSm.rf w) (nar_z (by decide)) dX4_isLetter_107
        · replace hF := fi_neg hF c8
          by_cases c13 : x1 = 102
          · replace hF := fi_pos hF c13
            refine f_tabIn hC 94 dX4_isLetter_1 (by rw [c13] <;> decide) (by rw [c13] <;> decide) (by rw [c13] <;> rfl) (by decide) ?_
            refine f_iload_n hC dX4_isLetter_94 rfl 0 rfl ?_
            obtain ⟨r14, h15, hF⟩ := fb_open hF
            refine f_callS hC [.int x1] (c_X4_vowelNumber l D cy x1 w r14 h15) q_440 q_73 q_927 q_439 h9_X4_vowelNumber ⟨Nat.le_of_ble_eq_true rfl, Nat.le_of_ble_eq_true rfl⟩ ⟨Nat.le_of_ble_eq_true rfl, Nat.le_of_ble_eq_true rfl⟩ (Nat.le_of_ble_eq_true rfl) rfl dX4_isLetter_95 (fun e16 => ?_)
            refine f_iconst (v := (-1)) hC dX4_isLetter_98 (by decide) ?_
            refine f_icmp_eq hC 106 dX4_isLetter_99 (by decide) (fun c17 => ?_) (fun c17 => ?_)
            · replace hF := fi_pos hF c17
              refine f_iconst (v := 0) hC dX4_isLetter_106 (by decide) ?_
              obtain rfl := Option.some.inj hF
              exact f_zret hC hEn (fSm.rf w) (nar_z (by decide)) dX4_isLetter_107
            · replace hF := fi_neg hF c17
              refine f_iconst (v := 1) hC dX4_isLetter_102 (by decide) ?_
              refine f_goto hC 107 dX4_isLetter_103 (by decide) ?_
              obtain rfl := Option.some.inj hF
              exact f_zret hC hEn (fSm.rf w) (nar_z (by decide)) dX4_isLetter_107
          · replace hF := fi_neg hF c13
            by_cases c18 : x1 = 103
            · replace hF := fi_pos hF c18
              refine f_tabIn hC 94 dX4_isLetter_1 (by rw [c18] <;> decide) (by rw [c18] <;> decide) (by rw [c18] <;> rfl) (by decide) ?_
              refine f_iload_n hC dX4_isLetter_94 rfl 0 rfl ?_
              obtain ⟨r19, h20, hF⟩ := fb_open hF
              refine f_callS hC [.int x1] (c_X4_vowelNumber l D cy x1 w r19 h20) q_440 q_73 q_927 q_439 h9_X4_vowelNumber ⟨Nat.le_of_ble_eq_true rfl, Nat.le_of_ble_eq_true rfl⟩ ⟨Nat.le_of_ble_eq_true rfl, Nat.le_of_ble_eq_true rfl⟩ (Nat.le_of_ble_eq_true rfl) rfl dX4_isLetter_95 (fun e21 => ?_)
              refine f_iconst (v := (-1)) hC dX4_isLetter_98 (by decide) ?_
              refine f_icmp_eq hC 106 dX4_isLetter_99 (by decide) (fun c22 => ?_) (fun c22 => ?_)
              · replace hF := fi_pos hF c22
                refine f_iconst (v := 0) hC dX4_isLetter_106 (by decide) ?_
                obtain rfl := Option.some.inj hF
                exact f_zret hC hEn (fSm.rf w) (nar_z (by decide)) dX4_isLetter_107
              · replace hF := fi_neg hF c22
                refine f_iconst (v := 1) hC dX4_isLetter_102 (by decide) ?_
                refine f_goto hC 107 dX4_isLetter_103 (by decide) ?_
                obtain rfl := Option.some.inj hF
                exact f_zret hC hEn (fSm.rf w) (nar_z (by decide)) dX4_isLetter_107
            · replace hF := fi_neg hF c18
              by_cases c23 : x1 = 104
              · replace hF := fi_pos hF c23
                refine f_tabIn hC 94 dX4_isLetter_1 (by rw [c23] <;> decide) (by rw [c23] <;> decide) (by rw [c23] <;> rfl) (by decide) ?_
                refine f_iload_n hC dX4_isLetter_94 rfl 0 rfl ?_
                obtain ⟨r24, h25, hF⟩ := fb_open hF
                refine f_callS hC [.int x1] (c_X4_vowelNumber l D cy x1 w r24 h25) q_440 q_73 q_927 q_439 h9_X4_vowelNumber ⟨Nat.le_of_ble_eq_true rfl, Nat.le_of_ble_eq_true rfl⟩ ⟨Nat.le_of_ble_eq_true rfl, Nat.le_of_ble_eq_true rfl⟩ (Nat.le_of_ble_eq_true rfl) rfl dX4_isLetter_95 (fun e26 => ?_)
                refine f_iconst (v := (-1)) hC dX4_isLetter_98 (by decide) ?_
                refine f_icmp_eq hC 106 dX4_isLetter_99 (by decide) (fun c27 => ?_) (fun c27 => ?_)
                · replace hF := fi_pos hF c27
                  refine f_iconst (v := 0) hC dX4_isLetter_106 (by decide) ?_
                  obtain rfl := Option.some.inj hF
                  exact f_zret hC hEn (fSm.rf w) (nar_z (by decide)) dX4_isLetter_107
                · replace hF := fi_neg hF c27
                  refine f_iconst (v := 1) hC dX4_isLetter_102 (by decide) ?_
                  refine f_goto hC 107 dX4_isLetter_103 (by decide) ?_
                  obtain rfl := Option.some.inj hF
                  exact f_zret hC hEn (fSm.rf w) (nar_z (by decide)) dX4_isLetter_107
              · replace hF := fi_neg hF c23
                by_cases c28 : x1 = 105
                · replace hF := fi_pos hF c28
                  refine f_tabIn hC 94 dX4_isLetter_1 (by rw [c28] <;> decide) (by rw [c28] <;> decide) (by rw [c28] <;> rfl) (by decide) ?_
                  refine f_iload_n hC dX4_isLetter_94 rfl 0 rfl ?_
                  obtain ⟨r29, h30, hF⟩ := fb_open hF
                  refine f_callS hC [.int x1] (c_X4_vowelNumber l D cy x1 w r29 h30) q_440 q_73 q_927 q_439 h9_X4_vowelNumber ⟨Nat.le_of_ble_eq_true rfl, Nat.le_of_ble_eq_true rfl⟩ ⟨Nat.le_of_ble_eq_true rfl, Nat.le_of_ble_eq_true rfl⟩ (Nat.le_of_ble_eq_true rfl) rfl dX4_isLetter_95 (fun e31 => ?_)
                  refine f_iconst (v := (-1)) hC dX4_isLetter_98 (by decide) ?_
                  refine f_icmp_eq hC 106 dX4_isLetter_99 (by decide) (fun c32 => ?_) (fun c32 => ?_)
                  · replace hF := fi_pos hF c32
                    refine f_iconst (v := 0) hC dX4_isLetter_106 (by decide) ?_
                    obtain rfl := Option.some.inj hF
                    exact f_zret hC hEn (fSm.rf w) (nar_z (by decide)) dX4_isLetter_107
                  · replace hF := fi_neg hF c32
                    refine f_iconst (v := 1) hC dX4_isLetter_102 (by decide) ?_
                    refine f_goto hC 107 dX4_isLetter_103 (by decide) ?_
                    obtain rfl := Option.some.inj hF
                    exact f_zret hC hEn (fSm.rf w) (nar_z (by decide)) dX4_isLetter_107
                · replace hF := fi_neg hF c28
                  by_cases c33 : x1 = 106
                  · replace hF := fi_pos hF c33
                    refine f_tabIn hC 94 dX4_isLetter_1 (by rw [c33] <;> decide) (by rw [c33] <;> decide) (by rw [c33] <;> rfl) (by decide) ?_
                    refine f_iload_n hC dX4_isLetter_94 rfl 0 rfl ?_
                    obtain ⟨r34, h35, hF⟩ := fb_open hF
                    refine f_callS hC [.int x1] (c_X4_vowelNumber l D cy x1 w r34 h35) q_440 q_73 q_927 q_439 h9_X4_vowelNumber ⟨Nat.le_of_ble_eq_true rfl, Nat.le_of_ble_eq_true rfl⟩ ⟨Nat.le_of_ble_eq_true rfl, Nat.le_of_ble_eq_true rfl⟩ (Nat.le_of_ble_eq_true rfl) rfl dX4_isLetter_95 (fun e36 => ?_)
                    refine f_iconst (v := (-1)) hC dX4_isLetter_98 (by decide) ?_
                    refine f_icmp_eq hC 106 dX4_isLetter_99 (by decide) (fun c37 => ?_) (fun c37 => ?_)
                    · replace hF := fi_pos hF c37
                      refine f_iconst (v := 0) hC dX4_isLetter_106 (by decide) ?_
                      obtain rfl := Option.some.inj hF
                      exact f_zret hC hEn (fSm.rf w) (nar_z (by decide)) dX4_isLetter_107
                    · replace hF := fi_neg hF c37
                      refine f_iconst (v := 1) hC dX4_isLetter_102 (by decide) ?_
                      refine f_goto hC 107 dX4_isLetter_103 (by decide) ?_
                      obtain rfl := Option.some.inj hF
                      exact f_zret hC hEn (fSm.rf w) (nar_z (by decide)) dX4_isLetter_107
                  · replace hF := fi_neg hF c33
                    by_cases c38 : x1 = 107
                    · replace hF := fi_pos hF c38
                      refine f_tabIn hC 92 dX4_isLetter_1 (by rw [c38] <;> decide) (by rw [c38] <;> decide) (by rw [c38] <;> rfl) (by decide) ?_
                      refine f_iconst (v := 1) hC dX4_isLetter_92 (by decide) ?_
                      obtain rfl := Option.some.inj hF
                      exact f_zret hC hEn (fSm.rf w) (nar_z (by decide)) dX4_isLetter_93
                    · replace hF := fi_neg hF c38
                      by_cases c39 : x1 = 108
                      · replace hF := fi_pos hF c39
                        refine f_tabIn hC 92 dX4_isLetter_1 (by rw [c39] <;> decide) (by rw [c39] <;> decide) (by rw [c39] <;> rfl) (by decide) ?_
                        refine f_iconst (v := 1) hC dX4_isLetter_92 (by decide) ?_
                        obtain rfl := Option.some.inj hF
                        exact f_zret hC hEn (fSm.rf w) (nar_z (by decide)) dX4_isLetter_93
                      · replace hF := fi_neg hF c39
                        by_cases c40 : x1 = 109
                        · replace hF := fi_pos hF c40
                          refine f_tabIn hC 92 dX4_isLetter_1 (by rw [c40] <;> decide) (by rw [c40] <;> decide) (by rw [c40] <;> rfl) (by decide) ?_
                          refine f_iconst (v := 1) hC dX4_isLetter_92 (by decide) ?_
                          obtain rfl := Option.some.inj hF
                          exact f_zret hC hEn (fSm.rf w) (nar_z (by decide)) dX4_isLetter_93
                        · replace hF := fi_neg hF c40
                          by_cases c41 : x1 = 110
                          · replace hF := fi_pos hF c41
                            refine f_tabIn hC 92 dX4_isLetter_1 (by rw [c41] <;> decide) (by rw [c41] <;> decide) (by rw [c41] <;> rfl) (by decide) ?_
                            refine f_iconst (v := 1) hC dX4_isLetter_92 (by decide) ?_
                            obtain rfl := Option.some.inj hF
                            exact f_zret hC hEn (fSm.rf w) (nar_z (by decide)) dX4_isLetter_93
                          · replace hF := fi_neg hF c41
                            by_cases c42 : x1 = 111
                            · replace hF := fi_pos hF c42
                              refine f_tabIn hC 94 dX4_isLetter_1 (by rw [c42] <;> decide) (by rw [c42] <;> decide) (by rw [c42] <;> rfl) (by decide) ?_
                              refine f_iload_n hC dX4_isLetter_94 rfl 0 rfl ?_
                              obtain ⟨r43, h44, hF⟩ := fb_open hF
                              refine f_callS hC [.int x1] (c_X4_vowelNumber l D cy x1 w r43 h44) q_440 q_73 q_927 q_439 h9_X4_vowelNumber ⟨Nat.le_of_ble_eq_true rfl, Nat.le_of_ble_eq_true rfl⟩ ⟨Nat.le_of_ble_eq_true rfl, Nat.le_of_ble_eq_true rfl⟩ (Nat.le_of_ble_eq_true rfl) rfl dX4_isLetter_95 (fun e45 => ?_)
                              refine f_iconst (v := (-1)) hC dX4_isLetter_98 (by decide) ?_
                              refine f_icmp_eq hC 106 dX4_isLetter_99 (by decide) (fun c46 => ?_) (fun c46 => ?_)
                              · replace hF := fi_pos hF c46
                                refine f_iconst (v := 0) hC dX4_isLetter_106 (by decide) ?_
                                obtain rfl := Option.some.inj hF
                                exact f_zret hC hEn (fSm.rf w) (nar_z (by decide)) dX4_isLetter_107
                              · replace hF := fi_neg hF c46
                                refine f_iconst (v := 1) hC dX4_isLetter_102 (by decide) ?_
                                refine f_goto hC 107 dX4_isLetter_103 (by decide) ?_
                                obtain rfl := Option.some.inj hF
                                exact f_zret hC hEn (fSm.rf w) (nar_z (by decide)) dX4_isLetter_107
                            · replace hF := fi_neg hF c42
                              by_cases c47 : x1 = 112
                              · replace hF := fi_pos hF c47
                                refine f_tabIn hC 94 dX4_isLetter_1 (by rw [c47] <;> decide) (by rw [c47] <;> decide) (by rw [c47] <;> rfl) (by decide) ?_
                                refine f_iload_n hC dX4_isLetter_94 rfl 0 rfl ?_
                                obtain ⟨r48, h49, hF⟩ := fb_open hF
                                refine f_callS hC [.int x1] (c_X4_vowelNumber l D cy x1 w r48 h49) q_440 q_73 q_927 q_439 h9_X4_vowelNumber ⟨Nat.le_of_ble_eq_true rfl, Nat.le_of_ble_eq_true rfl⟩ ⟨Nat.le_of_ble_eq_true rfl, Nat.le_of_ble_eq_true rfl⟩ (Nat.le_of_ble_eq_true rfl) rfl dX4_isLetter_95 (fun e50 => ?_)
                                refine f_iconst (v := (-1)) hC dX4_isLetter_98 (by decide) ?_
                                refine f_icmp_eq hC 106 dX4_isLetter_99 (by decide) (fun c51 => ?_) (fun c51 => ?_)
                                · replace hF := fi_pos hF c51
                                  refine f_iconst (v := 0) hC dX4_isLetter_106 (by decide) ?_
                                  obtain rfl := Option.some.inj hF
                                  exact f_zret hC hEn (fSm.rf w) (nar_z (by decide)) dX4_isLetter_107
                                · replace hF := fi_neg hF c51
                                  refine f_iconst (v := 1) hC dX4_isLetter_102 (by decide) ?_
                                  refine f_goto hC 107 dX4_isLetter_103 (by decide) ?_
                                  obtain rfl := Option.some.inj hF
                                  exact f_zret hC hEn (fSm.rf w) (nar_z (by decide)) dX4_isLetter_107
                              · replace hF := fi_neg hF c47
                                by_cases c52 : x1 = 113
                                · replace hF := fi_pos hF c52
                                  refine f_tabIn hC 94 dX4_isLetter_1 (by rw [c52] <;> decide) (by rw [c52] <;> decide) (by rw [c52] <;> rfl) (by decide) ?_
                                  refine f_iload_n hC dX4_isLetter_94 rfl 0 rfl ?_
                                  obtain ⟨r53, h54, hF⟩ := fb_open hF
                                  refine f_callS hC [.int x1] (c_X4_vowelNumber l D cy x1 w r53 h54) q_440 q_73 q_927 q_439 h9_X4_vowelNumber ⟨Nat.le_of_ble_eq_true rfl, Nat.le_of_ble_eq_true rfl⟩ ⟨Nat.le_of_ble_eq_true rfl, Nat.le_of_ble_eq_true rfl⟩ (Nat.le_of_ble_eq_true rfl) rfl dX4_isLetter_95 (fun e55 => ?_)
                                  refine f_iconst (v := (-1)) hC dX4_isLetter_98 (by decide) ?_
                                  refine f_icmp_eq hC 106 dX4_isLetter_99 (by decide) (fun c56 => ?_) (fun c56 => ?_)
                                  · replace hF := fi_pos hF c56
                                    refine f_iconst (v := 0) hC dX4_isLetter_106 (by decide) ?_
                                    obtain rfl := Option.some.inj hF
                                    exact f_zret hC hEn (fSm.rf w) (nar_z (by decide)) dX4_isLetter_107
                                  · replace hF := fi_neg hF c56
                                    refine f_iconst (v := 1) hC dX4_isLetter_102 (by decide) ?_
                                    refine f_goto hC 107 dX4_isLetter_103 (by decide) ?_
                                    obtain rfl := Option.some.inj hF
                                    exact f_zret hC hEn (fSm.rf w) (nar_z (by decide)) dX4_isLetter_107
                                · replace hF := fi_neg hF c52
                                  by_cases c57 : x1 = 114
                                  · replace hF := fi_pos hF c57
                                    refine f_tabIn hC 92 dX4_isLetter_1 (by rw [c57] <;> decide) (by rw [c57] <;> decide) (by rw [c57] <;> rfl) (by decide) ?_
                                    refine f_iconst (v := 1) hC dX4_isLetter_92 (by decide) ?_
                                    obtain rfl := Option.some.inj hF
                                    exact f_zret hC hEn (fSm.rf w) (nar_z (by decide)) dX4_isLetter_93
                                  · replace hF := fi_neg hF c57
                                    by_cases c58 : x1 = 115
                                    · replace hF := fi_pos hF c58
                                      refine f_tabIn hC 92 dX4_isLetter_1 (by rw [c58] <;> decide) (by rw [c58] <;> decide) (by rw [c58] <;> rfl) (by decide) ?_
                                      refine f_iconst (v := 1) hC dX4_isLetter_92 (by decide) ?_
                                      obtain rfl := Option.some.inj hF
                                      exact f_zret hC hEn (fSm.rf w) (nar_z (by decide)) dX4_isLetter_93
                                    · replace hF := fi_neg hF c58
                                      by_cases c59 : x1 = 116
                                      · replace hF := fi_pos hF c59
                                        refine f_tabIn hC 92 dX4_isLetter_1 (by rw [c59] <;> decide) (by rw [c59] <;> decide) (by rw [c59] <;> rfl) (by decide) ?_
                                        refine f_iconst (v := 1) hC dX4_isLetter_92 (by decide) ?_
                                        obtain rfl := Option.some.inj hF
                                        exact f_zret hC hEn (fSm.rf w) (nar_z (by decide)) dX4_isLetter_93
                                      · replace hF := fi_neg hF c59
                                        refine f_tabOut hC 94 dX4_isLetter_1 (ftab 98 116 (by decide) (by decide) (fun j h1 h2 => ?_)) (by decide) ?_
                                        · rcases (show j = 98 ∨ j = 99 ∨ j = 100 ∨ j = 101 ∨ j = 102 ∨ j = 103 ∨ j = 104 ∨ j = 105 ∨ j = 106 ∨ j = 107 ∨ j = 108 ∨ j = 109 ∨ j = 110 ∨ j = 111 ∨ j = 112 ∨ j = 113 ∨ j = 114 ∨ j = 115 ∨ j = 116 by omega) with rfl | rfl | rfl | rfl | rfl | rfl | rfl | rfl | rfl | rfl | rfl | rfl | rfl | rfl | rfl | rfl | rfl | rfl | rfl
                                          · exact c1
                                          · exact c2
                                          · exact c7
                                          · exact c8
                                          · exact c13
                                          · exact c18
                                          · exact c23
                                          · exact c28
                                          · exact c33
                                          · exact c38
                                          · exact c39
                                          · exact c40
                                          · exact c41
                                          · exact c42
                                          · exact c47
                                          · exact c52
                                          · exact c57
                                          · exact c58
                                          · exact c59
                                        refine f_iload_n hC dX4_isLetter_94 rfl 0 rfl ?_
                                        obtain ⟨r60, h61, hF⟩ := fb_open hF
                                        refine f_callS hC [.int x1] (c_X4_vowelNumber l D cy x1 w r60 h61) q_440 q_73 q_927 q_439 h9_X4_vowelNumber ⟨Nat.le_of_ble_eq_true rfl, Nat.le_of_ble_eq_true rfl⟩ ⟨Nat.le_of_ble_eq_true rfl, Nat.le_of_ble_eq_true rfl⟩ (Nat.le_of_ble_eq_true rfl) rfl dX4_isLetter_95 (fun e62 => ?_)
                                        refine f_iconst (v := (-1)) hC dX4_isLetter_98 (by decide) ?_
                                        refine f_icmp_eq hC 106 dX4_isLetter_99 (by decide) (fun c63 => ?_) (fun c63 => ?_)
                                        · replace hF := fi_pos hF c63
                                          refine f_iconst (v := 0) hC dX4_isLetter_106 (by decide) ?_
                                          obtain rfl := Option.some.inj hF
                                          exact f_zret hC hEn (fSm.rf w) (nar_z (by decide)) dX4_isLetter_107
                                        · replace hF := fi_neg hF c63
                                          refine f_iconst (v := 1) hC dX4_isLetter_102 (by decide) ?_
                                          refine f_goto hC 107 dX4_isLetter_103 (by decide) ?_
                                          obtain rfl := Option.some.inj hF
                                          exact f_zret hC hEn (fSm.rf w) (nar_z (by decide)) dX4_isLetter_107
theorem dX4_refuse_0 : decode cX4_refuse 0 = .ok (.aload_n 0, 1) := by decide +kernel
theorem dX4_refuse_1 : decode cX4_refuse 1 = .ok (.iload_n 1, 1) := by decide +kernel
theorem dX4_refuse_2 : decode cX4_refuse 2 = .ok (.putfield 54, 3) := by decide +kernel
theorem dX4_refuse_5 : decode cX4_refuse 5 = .ok (.aload_n 0, 1) := by decide +kernel
theorem dX4_refuse_6 : decode cX4_refuse 6 = .ok (.iload_n 2, 1) := by decide +kernel
theorem dX4_refuse_7 : decode cX4_refuse 7 = .ok (.putfield 57, 3) := by decide +kernel
theorem dX4_refuse_10 : decode cX4_refuse 10 = .ok (.iconst 3, 1) := by decide +kernel
theorem dX4_refuse_11 : decode cX4_refuse 11 = .ok (.ireturn, 1) := by decide +kernel
theorem h9_X4_refuse : yX4_refuse.cls ≠ "java/lang/invoke/MethodHandle" ∧ yX4_refuse.cls ≠ "java/lang/invoke/VarHandle" ∧ (parseMethodDescriptor yX4_refuse.desc).map (fun d => d.parameters.length) = some 2 := by decide +kernel
noncomputable def F_X4_refuse (a0 : Nat) (x1 : Int32) (x2 : Int32) (w : FW) : Option (Int32 × FW) :=
  fg (w.1 a0 = 5) inferInstance (some (3, (sI (sI w 411 a0 0 x1) 412 a0 0 x2)))
set_option maxHeartbeats 4000000 in
set_option maxRecDepth 100000 in
theorem c_X4_refuse (l : Launch) (D : va_G) (cy : Nat → ClassId) (a0 : Nat) (x1 : Int32) (x2 : Int32) (w : FW) (r : Int32 × FW) (hF : F_X4_refuse a0 x1 x2 w = some r) : fSpec l D cy yX4_refuse cX4_refuse 3 (some .int) { frames := 0, cells := 0, slots := 0, locals := 0 } [.ref a0, .int x1, .int x2] w r.2 (some (.int r.1)) := by
  refine f_begin (by decide +kernel) (Nat.le_of_ble_eq_true rfl) (fun X hC hEn => ?_)
  unfold F_X4_refuse at hF
  show fAt X 0 0 3 w [(0, .ref a0), (1, .int x1), (2, .int x2)] [] 0
  refine f_aload_n hC dX4_refuse_0 rfl 0 rfl ?_
  refine f_iload_n hC dX4_refuse_1 rfl 1 rfl ?_
  obtain ⟨g1, hF⟩ := fg_open hF
  refine f_putI hC 4 11 411 rfl (by decide) iX4 tyX4 tyX4_ok nmX4 q_271 rfl rfl rfl rfl rfl (fSm.k (fSm.rf w) g1) dX4_refuse_2 ?_
  refine f_aload_n hC dX4_refuse_5 rfl 0 rfl ?_
  refine f_iload_n hC dX4_refuse_6 rfl 2 rfl ?_
  refine f_putI hC 4 12 412 rfl (by decide) iX4 tyX4 tyX4_ok nmX4 q_272 rfl rfl rfl rfl rfl (fSm.k (fSm.rf w) g1) dX4_refuse_7 ?_
  refine f_iconst (v := 3) hC dX4_refuse_10 (by decide) ?_
  obtain rfl := Option.some.inj hF
  exact f_iret hC hEn (fSm.rf w) dX4_refuse_11
theorem dX3_add_0 : decode cX3_add 0 = .ok (.aload_n 0, 1) := by decide +kernel
theorem dX3_add_1 : decode cX3_add 1 = .ok (.getfield 15, 3) := by decide +kernel
theorem dX3_add_4 : decode cX3_add 4 = .ok (.bipush 6, 2) := by decide +kernel
theorem dX3_add_6 : decode cX3_add 6 = .ok (.if_icmp .ge 23, 3) := by decide +kernel
theorem dX3_add_9 : decode cX3_add 9 = .ok (.aload_n 0, 1) := by decide +kernel
theorem dX3_add_10 : decode cX3_add 10 = .ok (.getfield 9, 3) := by decide +kernel
theorem dX3_add_13 : decode cX3_add 13 = .ok (.aload_n 0, 1) := by decide +kernel
theorem dX3_add_14 : decode cX3_add 14 = .ok (.getfield 15, 3) := by decide +kernel
theorem dX3_add_17 : decode cX3_add 17 = .ok (.iload_n 1, 1) := by decide +kernel
theorem dX3_add_18 : decode cX3_add 18 = .ok (.castore, 1) := by decide +kernel
theorem dX3_add_19 : decode cX3_add 19 = .ok (.aload_n 0, 1) := by decide +kernel
theorem dX3_add_20 : decode cX3_add 20 = .ok (.dup, 1) := by decide +kernel
theorem dX3_add_21 : decode cX3_add 21 = .ok (.getfield 15, 3) := by decide +kernel
theorem dX3_add_24 : decode cX3_add 24 = .ok (.iconst 1, 1) := by decide +kernel
theorem dX3_add_25 : decode cX3_add 25 = .ok (.iadd, 1) := by decide +kernel
theorem dX3_add_26 : decode cX3_add 26 = .ok (.putfield 15, 3) := by decide +kernel
theorem dX3_add_29 : decode cX3_add 29 = .ok (.return_, 1) := by decide +kernel
theorem h9_X3_add : yX3_add.cls ≠ "java/lang/invoke/MethodHandle" ∧ yX3_add.cls ≠ "java/lang/invoke/VarHandle" ∧ (parseMethodDescriptor yX3_add.desc).map (fun d => d.parameters.length) = some 1 := by decide +kernel
noncomputable def F_X3_add (a0 : Nat) (x1 : Int32) (w : FW) : Option (FW) :=
  fg (w.1 a0 = 4) inferInstance ((if 6 ≤ (gI w 301 a0 0) then some w else fg (w.1 (gR w 300 a0 0) = 10) inferInstance (fg (¬ ((gI w 301 a0 0) < 0 ∨ w.2.1 (gR w 300 a0 0) ≤ Int32.toNatClampNeg (gI w 301 a0 0))) inferInstance (fg (fch x1 = x1) inferInstance (some (sI (sI w 600 (gR w 300 a0 0) (Int32.toNatClampNeg (gI w 301 a0 0)) x1) 301 a0 0 ((gI (sI w 600 (gR w 300 a0 0) (Int32.toNatClampNeg (gI w 301 a0 0)) x1) 301 a0 0) + 1)))))))
set_option maxHeartbeats 4000000 in
set_option maxRecDepth 100000 in
theorem c_X3_add (l : Launch) (D : va_G) (cy : Nat → ClassId) (a0 : Nat) (x1 : Int32) (w : FW) (r : FW) (hF : F_X3_add a0 x1 w = some r) : fSpec l D cy yX3_add cX3_add 2 none { frames := 0, cells := 0, slots := 0, locals := 0 } [.ref a0, .int x1] w r none := by
  refine f_begin (by decide +kernel) (Nat.le_of_ble_eq_true rfl) (fun X hC hEn => ?_)
  unfold F_X3_add at hF
  show fAt X 0 0 2 w [(0, .ref a0), (1, .int x1)] [] 0
  refine f_aload_n hC dX3_add_0 rfl 0 rfl ?_
  obtain ⟨g1, hF⟩ := fg_open hF
  refine f_getI hC 3 1 301 rfl (by decide) iX3 q_123 rfl rfl (fSm.k (fSm.rf w) g1) dX3_add_1 ?_
  refine f_bipush (v := 6) hC dX3_add_4 (by decide) ?_
  refine f_icmp_ge hC 29 dX3_add_6 (by decide) (fun c2 => ?_) (fun c2 => ?_)
  · replace hF := fi_pos hF c2
    obtain rfl := Option.some.inj hF
    exact f_vret hC hEn (fSm.rf w) dX3_add_29
  · replace hF := fi_neg hF c2
    refine f_aload_n hC dX3_add_9 rfl 0 rfl ?_
    refine f_getR hC 3 0 300 rfl (by decide) iX3 q_122 rfl rfl (fSm.k (fSm.rf w) g1) dX3_add_10 ?_
    refine f_aload_n hC dX3_add_13 rfl 0 rfl ?_
    refine f_getI hC 3 1 301 rfl (by decide) iX3 q_123 rfl rfl (fSm.k (fSm.rf w) g1) dX3_add_14 ?_
    refine f_iload_n hC dX3_add_17 rfl 1 rfl ?_
    obtain ⟨g3, hF⟩ := fg_open hF
    obtain ⟨g4, hF⟩ := fg_open hF
    obtain ⟨g5, hF⟩ := fg_open hF
    refine f_cast hC g5 (fSm.k (fSm.rf w) g3) (fSm.v (fSm.rf w) g4) dX3_add_18 ?_
    refine f_aload_n hC dX3_add_19 rfl 0 rfl ?_
    refine f_dup hC dX3_add_20 rfl ?_
    refine f_getI hC 3 1 301 rfl (by decide) iX3 q_123 rfl rfl (fSm.k (fSm.rf w) g1) dX3_add_21 ?_
    refine f_iconst (v := 1) hC dX3_add_24 (by decide) ?_
    refine f_iadd hC dX3_add_25 ?_
    refine f_putI hC 3 1 301 rfl (by decide) iX3 tyX3 tyX3_ok nmX3 q_123 rfl rfl rfl rfl rfl (fSm.k (fSm.rf w) g1) dX3_add_26 ?_
    obtain rfl := Option.some.inj hF
    exact f_vret hC hEn (fSm.rf w) dX3_add_29
theorem dX4_tryLetter_0 : decode cX4_tryLetter 0 = .ok (.iload_n 1, 1) := by decide +kernel
theorem dX4_tryLetter_1 : decode cX4_tryLetter 1 = .ok (.invokestatic 281, 3) := by decide +kernel
theorem dX4_tryLetter_4 : decode cX4_tryLetter 4 = .ok (.ifCond .ne 5, 3) := by decide +kernel
theorem dX4_tryLetter_7 : decode cX4_tryLetter 7 = .ok (.iconst 2, 1) := by decide +kernel
theorem dX4_tryLetter_8 : decode cX4_tryLetter 8 = .ok (.ireturn, 1) := by decide +kernel
theorem dX4_tryLetter_9 : decode cX4_tryLetter 9 = .ok (.aload_n 0, 1) := by decide +kernel
theorem dX4_tryLetter_10 : decode cX4_tryLetter 10 = .ok (.getfield 12, 3) := by decide +kernel
theorem dX4_tryLetter_13 : decode cX4_tryLetter 13 = .ok (.getfield 83, 3) := by decide +kernel
theorem dX4_tryLetter_16 : decode cX4_tryLetter 16 = .ok (.getfield 86, 3) := by decide +kernel
theorem dX4_tryLetter_19 : decode cX4_tryLetter 19 = .ok (.bipush 6, 2) := by decide +kernel
theorem dX4_tryLetter_21 : decode cX4_tryLetter 21 = .ok (.if_icmp .lt 11, 3) := by decide +kernel
theorem dX4_tryLetter_24 : decode cX4_tryLetter 24 = .ok (.aload_n 0, 1) := by decide +kernel
theorem dX4_tryLetter_25 : decode cX4_tryLetter 25 = .ok (.iconst 1, 1) := by decide +kernel
theorem dX4_tryLetter_26 : decode cX4_tryLetter 26 = .ok (.bipush 6, 2) := by decide +kernel
theorem dX4_tryLetter_28 : decode cX4_tryLetter 28 = .ok (.invokevirtual 394, 3) := by decide +kernel
theorem dX4_tryLetter_31 : decode cX4_tryLetter 31 = .ok (.ireturn, 1) := by decide +kernel
theorem dX4_tryLetter_32 : decode cX4_tryLetter 32 = .ok (.aload_n 0, 1) := by decide +kernel
theorem dX4_tryLetter_33 : decode cX4_tryLetter 33 = .ok (.getfield 12, 3) := by decide +kernel
theorem dX4_tryLetter_36 : decode cX4_tryLetter 36 = .ok (.getfield 83, 3) := by decide +kernel
theorem dX4_tryLetter_39 : decode cX4_tryLetter 39 = .ok (.iload_n 1, 1) := by decide +kernel
theorem dX4_tryLetter_40 : decode cX4_tryLetter 40 = .ok (.invokevirtual 397, 3) := by decide +kernel
theorem dX4_tryLetter_43 : decode cX4_tryLetter 43 = .ok (.iconst 0, 1) := by decide +kernel
theorem dX4_tryLetter_44 : decode cX4_tryLetter 44 = .ok (.ireturn, 1) := by decide +kernel
theorem h9_X4_tryLetter : yX4_tryLetter.cls ≠ "java/lang/invoke/MethodHandle" ∧ yX4_tryLetter.cls ≠ "java/lang/invoke/VarHandle" ∧ (parseMethodDescriptor yX4_tryLetter.desc).map (fun d => d.parameters.length) = some 1 := by decide +kernel
noncomputable def F_X4_tryLetter (a0 : Nat) (x1 : Int32) (w : FW) : Option (Int32 × FW) :=
  (F_X4_isLetter x1 w).bind (fun r1 => (if r1 = 0 then some (2, w) else fg (w.1 a0 = 5) inferInstance (fg (w.1 (gR w 400 a0 0) = 2) inferInstance (fg (w.1 (gR w 102 (gR w 400 a0 0) 0) = 4) inferInstance ((if (gI w 301 (gR w 102 (gR w 400 a0 0) 0) 0) < 6 then (F_X3_add (gR w 102 (gR w 400 a0 0) 0) x1 w).bind (fun r9 => some (0, r9)) else (F_X4_refuse a0 1 6 w).bind (fun r12 => some (r12.1, r12.2))))))))
set_option maxHeartbeats 4000000 in
set_option maxRecDepth 100000 in
theorem c_X4_tryLetter (l : Launch) (D : va_G) (cy : Nat → ClassId) (a0 : Nat) (x1 : Int32) (w : FW) (r : Int32 × FW) (hF : F_X4_tryLetter a0 x1 w = some r) : fSpec l D cy yX4_tryLetter cX4_tryLetter 2 (some .int) { frames := 2, cells := 0, slots := 0, locals := 40 } [.ref a0, .int x1] w r.2 (some (.int r.1)) := by
  refine f_begin (by decide +kernel) (Nat.le_of_ble_eq_true rfl) (fun X hC hEn => ?_)
  unfold F_X4_tryLetter at hF
  show fAt X 0 0 2 w [(0, .ref a0), (1, .int x1)] [] 0
  refine f_iload_n hC dX4_tryLetter_0 rfl 1 rfl ?_
  obtain ⟨r1, h2, hF⟩ := fb_open hF
  refine f_callS hC [.int x1] (c_X4_isLetter l D cy x1 w r1 h2) q_926 q_73 q_924 q_925 h9_X4_isLetter ⟨Nat.le_of_ble_eq_true rfl, Nat.le_of_ble_eq_true rfl⟩ ⟨Nat.le_of_ble_eq_true rfl, Nat.le_of_ble_eq_true rfl⟩ (Nat.le_of_ble_eq_true rfl) rfl dX4_tryLetter_1 (fun e3 => ?_)
  refine f_if_ne hC 9 dX4_tryLetter_4 (by decide) (fun c4 => ?_) (fun c4 => ?_)
  · replace hF := fi_neg hF c4
    refine f_aload_n hC dX4_tryLetter_9 rfl 0 rfl ?_
    obtain ⟨g5, hF⟩ := fg_open hF
    refine f_getR hC 4 0 400 rfl (by decide) iX4 q_260 rfl rfl (fSm.k (fSm.rf w) g5) dX4_tryLetter_10 ?_
    obtain ⟨g6, hF⟩ := fg_open hF
    refine f_getRN hC 1 2 102 rfl (by decide) iX1 q_221 rfl rfl (fSm.k (fSm.rf w) g6) dX4_tryLetter_13 ?_
    obtain ⟨g7, hF⟩ := fg_open hF
    refine f_getIN hC 3 1 301 rfl (by decide) iX3 q_124 rfl rfl (fSm.k (fSm.rf w) g7) dX4_tryLetter_16 ?_
    refine f_bipush (v := 6) hC dX4_tryLetter_19 (by decide) ?_
    refine f_icmp_lt hC 32 dX4_tryLetter_21 (by decide) (fun c8 => ?_) (fun c8 => ?_)
    · replace hF := fi_pos hF c8
      refine f_aload_n hC dX4_tryLetter_32 rfl 0 rfl ?_
      refine f_getR hC 4 0 400 rfl (by decide) iX4 q_260 rfl rfl (fSm.k (fSm.rf w) g5) dX4_tryLetter_33 ?_
      refine f_getRN hC 1 2 102 rfl (by decide) iX1 q_221 rfl rfl (fSm.k (fSm.rf w) g6) dX4_tryLetter_36 ?_
      refine f_iload_n hC dX4_tryLetter_39 rfl 1 rfl ?_
      obtain ⟨r9, h10, hF⟩ := fb_open hF
      refine f_callVN hC [.int x1] (c_X3_add l D cy (gR w 102 (gR w 400 a0 0) 0) x1 w r9 h10) q_969 q_75 q_966 q_968 q_34 h9_X3_add rfl (fSm.k (fSm.rf w) g7) ⟨Nat.le_of_ble_eq_true rfl, Nat.le_of_ble_eq_true rfl⟩ ⟨Nat.le_of_ble_eq_true rfl, Nat.le_of_ble_eq_true rfl⟩ (Nat.le_of_ble_eq_true rfl) rfl dX4_tryLetter_40 (fun e11 => ?_)
      refine f_iconst (v := 0) hC dX4_tryLetter_43 (by decide) ?_
      obtain rfl := Option.some.inj hF
      exact f_iret hC hEn (fSm.tr e11 (fSm.rf w)) dX4_tryLetter_44
    · replace hF := fi_neg hF c8
      refine f_aload_n hC dX4_tryLetter_24 rfl 0 rfl ?_
      refine f_iconst (v := 1) hC dX4_tryLetter_25 (by decide) ?_
      refine f_bipush (v := 6) hC dX4_tryLetter_26 (by decide) ?_
      obtain ⟨r12, h13, hF⟩ := fb_open hF
      refine f_callV hC [.int 1, .int 6] (c_X4_refuse l D cy a0 1 6 w r12 h13) q_984 q_73 q_981 q_983 q_37 h9_X4_refuse rfl (fSm.k (fSm.rf w) g5) ⟨Nat.le_of_ble_eq_true rfl, Nat.le_of_ble_eq_true rfl⟩ ⟨Nat.le_of_ble_eq_true rfl, Nat.le_of_ble_eq_true rfl⟩ (Nat.le_of_ble_eq_true rfl) rfl dX4_tryLetter_28 (fun e14 => ?_)
      obtain rfl := Option.some.inj hF
      exact f_iret hC hEn (fSm.tr e14 (fSm.rf w)) dX4_tryLetter_31
  · replace hF := fi_pos hF c4
    refine f_iconst (v := 2) hC dX4_tryLetter_7 (by decide) ?_
    obtain rfl := Option.some.inj hF
    exact f_iret hC hEn (fSm.rf w) dX4_tryLetter_8
theorem dX4_remember_0 : decode cX4_remember 0 = .ok (.aload_n 0, 1) := by decide +kernel
theorem dX4_remember_1 : decode cX4_remember 1 = .ok (.getfield 30, 3) := by decide +kernel
theorem dX4_remember_4 : decode cX4_remember 4 = .ok (.bipush 8, 2) := by decide +kernel
theorem dX4_remember_6 : decode cX4_remember 6 = .ok (.if_icmp .lt 56, 3) := by decide +kernel
theorem dX4_remember_9 : decode cX4_remember 9 = .ok (.aload_n 0, 1) := by decide +kernel
theorem dX4_remember_10 : decode cX4_remember 10 = .ok (.getfield 26, 3) := by decide +kernel
theorem dX4_remember_13 : decode cX4_remember 13 = .ok (.iconst 0, 1) := by decide +kernel
theorem dX4_remember_14 : decode cX4_remember 14 = .ok (.aaload, 1) := by decide +kernel
theorem dX4_remember_15 : decode cX4_remember 15 = .ok (.astore_n 1, 1) := by decide +kernel
theorem dX4_remember_16 : decode cX4_remember 16 = .ok (.iconst 1, 1) := by decide +kernel
theorem dX4_remember_17 : decode cX4_remember 17 = .ok (.istore_n 2, 1) := by decide +kernel
theorem dX4_remember_18 : decode cX4_remember 18 = .ok (.iload_n 2, 1) := by decide +kernel
theorem dX4_remember_19 : decode cX4_remember 19 = .ok (.bipush 8, 2) := by decide +kernel
theorem dX4_remember_21 : decode cX4_remember 21 = .ok (.if_icmp .ge 23, 3) := by decide +kernel
theorem dX4_remember_24 : decode cX4_remember 24 = .ok (.aload_n 0, 1) := by decide +kernel
theorem dX4_remember_25 : decode cX4_remember 25 = .ok (.getfield 26, 3) := by decide +kernel
theorem dX4_remember_28 : decode cX4_remember 28 = .ok (.iload_n 2, 1) := by decide +kernel
theorem dX4_remember_29 : decode cX4_remember 29 = .ok (.iconst 1, 1) := by decide +kernel
theorem dX4_remember_30 : decode cX4_remember 30 = .ok (.isub, 1) := by decide +kernel
theorem dX4_remember_31 : decode cX4_remember 31 = .ok (.aload_n 0, 1) := by decide +kernel
theorem dX4_remember_32 : decode cX4_remember 32 = .ok (.getfield 26, 3) := by decide +kernel
theorem dX4_remember_35 : decode cX4_remember 35 = .ok (.iload_n 2, 1) := by decide +kernel
theorem dX4_remember_36 : decode cX4_remember 36 = .ok (.aaload, 1) := by decide +kernel
theorem dX4_remember_37 : decode cX4_remember 37 = .ok (.aastore, 1) := by decide +kernel
theorem dX4_remember_38 : decode cX4_remember 38 = .ok (.iinc 2 1, 3) := by decide +kernel
theorem dX4_remember_41 : decode cX4_remember 41 = .ok (.goto (-23), 3) := by decide +kernel
theorem dX4_remember_44 : decode cX4_remember 44 = .ok (.aload_n 0, 1) := by decide +kernel
theorem dX4_remember_45 : decode cX4_remember 45 = .ok (.getfield 26, 3) := by decide +kernel
theorem dX4_remember_48 : decode cX4_remember 48 = .ok (.bipush 7, 2) := by decide +kernel
theorem dX4_remember_50 : decode cX4_remember 50 = .ok (.aload_n 1, 1) := by decide +kernel
theorem dX4_remember_51 : decode cX4_remember 51 = .ok (.aastore, 1) := by decide +kernel
theorem dX4_remember_52 : decode cX4_remember 52 = .ok (.aload_n 0, 1) := by decide +kernel
theorem dX4_remember_53 : decode cX4_remember 53 = .ok (.dup, 1) := by decide +kernel
theorem dX4_remember_54 : decode cX4_remember 54 = .ok (.getfield 30, 3) := by decide +kernel
theorem dX4_remember_57 : decode cX4_remember 57 = .ok (.iconst 1, 1) := by decide +kernel
theorem dX4_remember_58 : decode cX4_remember 58 = .ok (.isub, 1) := by decide +kernel
theorem dX4_remember_59 : decode cX4_remember 59 = .ok (.putfield 30, 3) := by decide +kernel
theorem dX4_remember_62 : decode cX4_remember 62 = .ok (.aload_n 0, 1) := by decide +kernel
theorem dX4_remember_63 : decode cX4_remember 63 = .ok (.getfield 26, 3) := by decide +kernel
theorem dX4_remember_66 : decode cX4_remember 66 = .ok (.aload_n 0, 1) := by decide +kernel
theorem dX4_remember_67 : decode cX4_remember 67 = .ok (.getfield 30, 3) := by decide +kernel
theorem dX4_remember_70 : decode cX4_remember 70 = .ok (.aaload, 1) := by decide +kernel
theorem dX4_remember_71 : decode cX4_remember 71 = .ok (.astore_n 1, 1) := by decide +kernel
theorem dX4_remember_72 : decode cX4_remember 72 = .ok (.aload_n 0, 1) := by decide +kernel
theorem dX4_remember_73 : decode cX4_remember 73 = .ok (.getfield 26, 3) := by decide +kernel
theorem dX4_remember_76 : decode cX4_remember 76 = .ok (.aload_n 0, 1) := by decide +kernel
theorem dX4_remember_77 : decode cX4_remember 77 = .ok (.getfield 30, 3) := by decide +kernel
theorem dX4_remember_80 : decode cX4_remember 80 = .ok (.aload_n 0, 1) := by decide +kernel
theorem dX4_remember_81 : decode cX4_remember 81 = .ok (.getfield 16, 3) := by decide +kernel
theorem dX4_remember_84 : decode cX4_remember 84 = .ok (.aastore, 1) := by decide +kernel
theorem dX4_remember_85 : decode cX4_remember 85 = .ok (.aload_n 0, 1) := by decide +kernel
theorem dX4_remember_86 : decode cX4_remember 86 = .ok (.aload_n 1, 1) := by decide +kernel
theorem dX4_remember_87 : decode cX4_remember 87 = .ok (.putfield 16, 3) := by decide +kernel
theorem dX4_remember_90 : decode cX4_remember 90 = .ok (.aload_n 0, 1) := by decide +kernel
theorem dX4_remember_91 : decode cX4_remember 91 = .ok (.dup, 1) := by decide +kernel
theorem dX4_remember_92 : decode cX4_remember 92 = .ok (.getfield 30, 3) := by decide +kernel
theorem dX4_remember_95 : decode cX4_remember 95 = .ok (.iconst 1, 1) := by decide +kernel
theorem dX4_remember_96 : decode cX4_remember 96 = .ok (.iadd, 1) := by decide +kernel
theorem dX4_remember_97 : decode cX4_remember 97 = .ok (.putfield 30, 3) := by decide +kernel
theorem dX4_remember_100 : decode cX4_remember 100 = .ok (.return_, 1) := by decide +kernel
theorem h9_X4_remember : yX4_remember.cls ≠ "java/lang/invoke/MethodHandle" ∧ yX4_remember.cls ≠ "java/lang/invoke/VarHandle" ∧ (parseMethodDescriptor yX4_remember.desc).map (fun d => d.parameters.length) = some 0 := by decide +kernel
noncomputable def F_X4_remember (a0 : Nat) (w : FW) : Option (FW) :=
  fg (w.1 a0 = 5) inferInstance (((if (gI w 405 a0 0) < 8 then some w else fg (w.1 (gR w 404 a0 0) = 13) inferInstance (fg (¬ ((0 : Int32) < 0 ∨ w.2.1 (gR w 404 a0 0) ≤ Int32.toNatClampNeg 0)) inferInstance ((fLoop (σ := Int32 × FW) (ρ := FW) (fun s12 => (if 8 ≤ s12.1 then some (.inr s12.2) else fg (w.1 (gR s12.2 404 a0 0) = 13) inferInstance (fg (¬ (s12.1 < 0 ∨ w.2.1 (gR s12.2 404 a0 0) ≤ Int32.toNatClampNeg s12.1)) inferInstance (fg (w.1 (gR s12.2 603 (gR s12.2 404 a0 0) (Int32.toNatClampNeg s12.1)) = 2) inferInstance (fg (¬ ((s12.1 - 1) < 0 ∨ w.2.1 (gR s12.2 404 a0 0) ≤ Int32.toNatClampNeg (s12.1 - 1))) inferInstance (some (.inl ((s12.1 + 1), (sR s12.2 603 (gR s12.2 404 a0 0) (Int32.toNatClampNeg (s12.1 - 1)) (gR s12.2 603 (gR s12.2 404 a0 0) (Int32.toNatClampNeg s12.1))))))))))) (1, w)).bind (fun x18 => fg (w.1 (gR x18 404 a0 0) = 13) inferInstance (fg (w.1 (gR w 603 (gR w 404 a0 0) (Int32.toNatClampNeg 0)) = 2) inferInstance (fg (¬ ((7 : Int32) < 0 ∨ w.2.1 (gR x18 404 a0 0) ≤ Int32.toNatClampNeg 7)) inferInstance (some (sI (sR x18 603 (gR x18 404 a0 0) (Int32.toNatClampNeg 7) (gR w 603 (gR w 404 a0 0) (Int32.toNatClampNeg 0))) 405 a0 0 ((gI (sR x18 603 (gR x18 404 a0 0) (Int32.toNatClampNeg 7) (gR w 603 (gR w 404 a0 0) (Int32.toNatClampNeg 0))) 405 a0 0) - 1))))))))) : Option (FW)).bind (fun x2 => fg (w.1 (gR x2 404 a0 0) = 13) inferInstance (fg (¬ ((gI x2 405 a0 0) < 0 ∨ w.2.1 (gR x2 404 a0 0) ≤ Int32.toNatClampNeg (gI x2 405 a0 0))) inferInstance (fg (w.1 (gR x2 401 a0 0) = 2) inferInstance (some (sI (sR (sR x2 603 (gR x2 404 a0 0) (Int32.toNatClampNeg (gI x2 405 a0 0)) (gR x2 401 a0 0)) 401 a0 0 (gR x2 603 (gR x2 404 a0 0) (Int32.toNatClampNeg (gI x2 405 a0 0)))) 405 a0 0 ((gI (sR (sR x2 603 (gR x2 404 a0 0) (Int32.toNatClampNeg (gI x2 405 a0 0)) (gR x2 401 a0 0)) 401 a0 0 (gR x2 603 (gR x2 404 a0 0) (Int32.toNatClampNeg (gI x2 405 a0 0)))) 405 a0 0) + 1)))))))
set_option maxHeartbeats 4000000 in
set_option maxRecDepth 100000 in
theorem c_X4_remember (l : Launch) (D : va_G) (cy : Nat → ClassId) (a0 : Nat) (w : FW) (r : FW) (hF : F_X4_remember a0 w = some r) : fSpec l D cy yX4_remember cX4_remember 3 none { frames := 0, cells := 0, slots := 0, locals := 0 } [.ref a0] w r none := by
  refine f_begin (by decide +kernel) (Nat.le_of_ble_eq_true rfl) (fun X hC hEn => ?_)
  unfold F_X4_remember at hF
  show fAt X 0 0 3 w [(0, .ref a0)] [] 0
  refine f_aload_n hC dX4_remember_0 rfl 0 rfl ?_
  obtain ⟨g1, hF⟩ := fg_open hF
  refine f_getI hC 4 5 405 rfl (by decide) iX4 q_265 rfl rfl (fSm.k (fSm.rf w) g1) dX4_remember_1 ?_
  refine f_bipush (v := 8) hC dX4_remember_4 (by decide) ?_
  obtain ⟨x2, h3, hF⟩ := fb_open hF
  have K5 : fSm x2 w → fAt X 0 0 3 x2 [(0, .ref a0)] [] 62 := by
    intro p4
    refine f_aload_n hC dX4_remember_62 rfl 0 rfl ?_
    refine f_getR hC 4 4 404 rfl (by decide) iX4 q_264 rfl rfl (fSm.k p4 g1) dX4_remember_63 ?_
    refine f_aload_n hC dX4_remember_66 rfl 0 rfl ?_
    refine f_getI hC 4 5 405 rfl (by decide) iX4 q_265 rfl rfl (fSm.k p4 g1) dX4_remember_67 ?_
    obtain ⟨g6, hF⟩ := fg_open hF
    obtain ⟨g7, hF⟩ := fg_open hF
    refine f_aald0 hC (fSm.k p4 g6) (fSm.v p4 g7) dX4_remember_70 ?_
    refine f_astore_n (L' := [(1, .ref (gR x2 603 (gR x2 404 a0 0) (Int32.toNatClampNeg (gI x2 405 a0 0)))), (0, .ref a0)]) hC dX4_remember_71 rfl (by decide) rfl ?_
    refine f_aload_n hC dX4_remember_72 rfl 1 rfl ?_
    refine f_getR hC 4 4 404 rfl (by decide) iX4 q_264 rfl rfl (fSm.k p4 g1) dX4_remember_73 ?_
    refine f_aload_n hC dX4_remember_76 rfl 1 rfl ?_
    refine f_getI hC 4 5 405 rfl (by decide) iX4 q_265 rfl rfl (fSm.k p4 g1) dX4_remember_77 ?_
    refine f_aload_n hC dX4_remember_80 rfl 1 rfl ?_
    refine f_getR hC 4 1 401 rfl (by decide) iX4 q_261 rfl rfl (fSm.k p4 g1) dX4_remember_81 ?_
    obtain ⟨g8, hF⟩ := fg_open hF
    refine f_aast0 hC (fSm.k p4 g6) (fSm.k p4 g8) (fSm.v p4 g7) dX4_remember_84 ?_
    refine f_aload_n hC dX4_remember_85 rfl 1 rfl ?_
    refine f_aload_n hC dX4_remember_86 rfl 0 rfl ?_
    refine f_putR hC 4 1 401 rfl (by decide) iX4 tyX4 tyX4_ok nmX4 q_261 rfl rfl rfl rfl rfl (fSm.k p4 g1) dX4_remember_87 ?_
    refine f_aload_n hC dX4_remember_90 rfl 1 rfl ?_
    refine f_dup hC dX4_remember_91 rfl ?_
    refine f_getI hC 4 5 405 rfl (by decide) iX4 q_265 rfl rfl (fSm.k p4 g1) dX4_remember_92 ?_
    refine f_iconst (v := 1) hC dX4_remember_95 (by decide) ?_
    refine f_iadd hC dX4_remember_96 ?_
    refine f_putI hC 4 5 405 rfl (by decide) iX4 tyX4 tyX4_ok nmX4 q_265 rfl rfl rfl rfl rfl (fSm.k p4 g1) dX4_remember_97 ?_
    obtain rfl := Option.some.inj hF
    exact f_vret hC hEn p4 dX4_remember_100
  refine f_icmp_lt hC 62 dX4_remember_6 (by decide) (fun c9 => ?_) (fun c9 => ?_)
  · replace h3 := fi_pos h3 c9
    obtain rfl := Option.some.inj h3
    exact K5 (fSm.rf w)
  · replace h3 := fi_neg h3 c9
    refine f_aload_n hC dX4_remember_9 rfl 0 rfl ?_
    refine f_getR hC 4 4 404 rfl (by decide) iX4 q_264 rfl rfl (fSm.k (fSm.rf w) g1) dX4_remember_10 ?_
    refine f_iconst (v := 0) hC dX4_remember_13 (by decide) ?_
    obtain ⟨g10, h3⟩ := fg_open h3
    obtain ⟨g11, h3⟩ := fg_open h3
    refine f_aald0 hC (fSm.k (fSm.rf w) g10) (fSm.v (fSm.rf w) g11) dX4_remember_14 ?_
    refine f_astore_n (L' := [(1, .ref (gR w 603 (gR w 404 a0 0) (Int32.toNatClampNeg 0))), (0, .ref a0)]) hC dX4_remember_15 rfl (by decide) rfl ?_
    refine f_iconst (v := 1) hC dX4_remember_16 (by decide) ?_
    refine f_istore_n (L' := [(2, .int 1), (1, .ref (gR w 603 (gR w 404 a0 0) (Int32.toNatClampNeg 0))), (0, .ref a0)]) hC dX4_remember_17 rfl (by decide) rfl ?_
    obtain ⟨x18, h19, h3⟩ := fb_open h3
    have K20 : fSm x18 w → fAt X 0 0 3 x18 [(0, .ref a0), (1, .ref (gR w 603 (gR w 404 a0 0) (Int32.toNatClampNeg 0)))] [] 44 := by
      intro p16
      refine f_aload_n hC dX4_remember_44 rfl 0 rfl ?_
      refine f_getR hC 4 4 404 rfl (by decide) iX4 q_264 rfl rfl (fSm.k p16 g1) dX4_remember_45 ?_
      refine f_bipush (v := 7) hC dX4_remember_48 (by decide) ?_
      refine f_aload_n hC dX4_remember_50 rfl 1 rfl ?_
      obtain ⟨g26, h3⟩ := fg_open h3
      obtain ⟨g27, h3⟩ := fg_open h3
      obtain ⟨g28, h3⟩ := fg_open h3
      refine f_aast0 hC (fSm.k p16 g26) (fSm.k p16 g27) (fSm.v p16 g28) dX4_remember_51 ?_
      refine f_aload_n hC dX4_remember_52 rfl 0 rfl ?_
      refine f_dup hC dX4_remember_53 rfl ?_
      refine f_getI hC 4 5 405 rfl (by decide) iX4 q_265 rfl rfl (fSm.k p16 g1) dX4_remember_54 ?_
      refine f_iconst (v := 1) hC dX4_remember_57 (by decide) ?_
      refine f_isub hC dX4_remember_58 ?_
      refine f_putI hC 4 5 405 rfl (by decide) iX4 tyX4 tyX4_ok nmX4 q_265 rfl rfl rfl rfl rfl (fSm.k p16 g1) dX4_remember_59 ?_
      obtain rfl := Option.some.inj h3
      refine f_sub (L' := [(0, .ref a0)]) [0] rfl ?_
      exact K5 p16
    refine f_sub (L' := [(0, .ref a0), (1, .ref (gR w 603 (gR w 404 a0 0) (Int32.toNatClampNeg 0))), (2, .int 1)]) [2, 1, 0] rfl ?_
    refine fLoop_ind (fun (s12 : Int32 × FW) => fSm s12.2 w → fAt X 0 0 3 s12.2 [(0, .ref a0), (1, .ref (gR w 603 (gR w 404 a0 0) (Int32.toNatClampNeg 0))), (2, .int s12.1)] [] 18) (fun s12 y17 h13 go14 ou15 => ?_) h19 (fSm.rf w)
    intro p16
    refine f_iload_n hC dX4_remember_18 rfl 2 rfl ?_
    refine f_bipush (v := 8) hC dX4_remember_19 (by decide) ?_
    refine f_icmp_ge hC 44 dX4_remember_21 (by decide) (fun c21 => ?_) (fun c21 => ?_)
    · replace h13 := fi_pos h13 c21
      obtain rfl := Option.some.inj h13
      obtain rfl := ou15 _ rfl
      refine f_sub (L' := [(0, .ref a0), (1, .ref (gR w 603 (gR w 404 a0 0) (Int32.toNatClampNeg 0)))]) [0, 1] rfl ?_
      exact K20 p16
    · replace h13 := fi_neg h13 c21
      refine f_aload_n hC dX4_remember_24 rfl 0 rfl ?_
      refine f_getR hC 4 4 404 rfl (by decide) iX4 q_264 rfl rfl (fSm.k p16 g1) dX4_remember_25 ?_
      refine f_iload_n hC dX4_remember_28 rfl 2 rfl ?_
      refine f_iconst (v := 1) hC dX4_remember_29 (by decide) ?_
      refine f_isub hC dX4_remember_30 ?_
      refine f_aload_n hC dX4_remember_31 rfl 0 rfl ?_
      refine f_getR hC 4 4 404 rfl (by decide) iX4 q_264 rfl rfl (fSm.k p16 g1) dX4_remember_32 ?_
      refine f_iload_n hC dX4_remember_35 rfl 2 rfl ?_
      obtain ⟨g22, h13⟩ := fg_open h13
      obtain ⟨g23, h13⟩ := fg_open h13
      refine f_aald0 hC (fSm.k p16 g22) (fSm.v p16 g23) dX4_remember_36 ?_
      obtain ⟨g24, h13⟩ := fg_open h13
      obtain ⟨g25, h13⟩ := fg_open h13
      refine f_aast0 hC (fSm.k p16 g22) (fSm.k p16 g24) (fSm.v p16 g25) dX4_remember_37 ?_
      refine f_iinc (L' := [(2, .int (s12.1 + 1)), (0, .ref a0), (1, .ref (gR w 603 (gR w 404 a0 0) (Int32.toNatClampNeg 0)))]) hC dX4_remember_38 2 rfl rfl (by decide) rfl ?_
      refine f_goto hC 18 dX4_remember_41 (by decide) ?_
      obtain rfl := Option.some.inj h13
      refine f_sub (L' := [(0, .ref a0), (1, .ref (gR w 603 (gR w 404 a0 0) (Int32.toNatClampNeg 0))), (2, .int (s12.1 + 1))]) [1, 2, 0] rfl ?_
      exact go14 _ rfl p16
theorem dX4_settle_0 : decode cX4_settle 0 = .ok (.iload_n 1, 1) := by decide +kernel
theorem dX4_settle_1 : decode cX4_settle 1 = .ok (.iconst 1, 1) := by decide +kernel
theorem dX4_settle_2 : decode cX4_settle 2 = .ok (.if_icmp .ne 14, 3) := by decide +kernel
theorem dX4_settle_5 : decode cX4_settle 5 = .ok (.new 320, 3) := by decide +kernel
theorem dX4_settle_8 : decode cX4_settle 8 = .ok (.dup, 1) := by decide +kernel
theorem dX4_settle_9 : decode cX4_settle 9 = .ok (.ldc_w 388, 3) := by decide +kernel
theorem dX4_settle_12 : decode cX4_settle 12 = .ok (.invokespecial 324, 3) := by decide +kernel
theorem dX4_settle_15 : decode cX4_settle 15 = .ok (.athrow, 1) := by decide +kernel
theorem dX4_settle_16 : decode cX4_settle 16 = .ok (.iload_n 1, 1) := by decide +kernel
theorem dX4_settle_17 : decode cX4_settle 17 = .ok (.iconst 2, 1) := by decide +kernel
theorem dX4_settle_18 : decode cX4_settle 18 = .ok (.if_icmp .ne 14, 3) := by decide +kernel
theorem dX4_settle_21 : decode cX4_settle 21 = .ok (.new 142, 3) := by decide +kernel
theorem dX4_settle_24 : decode cX4_settle 24 = .ok (.dup, 1) := by decide +kernel
theorem dX4_settle_25 : decode cX4_settle 25 = .ok (.ldc_w 390, 3) := by decide +kernel
theorem dX4_settle_28 : decode cX4_settle 28 = .ok (.invokespecial 146, 3) := by decide +kernel
theorem dX4_settle_31 : decode cX4_settle 31 = .ok (.athrow, 1) := by decide +kernel
theorem dX4_settle_32 : decode cX4_settle 32 = .ok (.iload_n 1, 1) := by decide +kernel
theorem dX4_settle_33 : decode cX4_settle 33 = .ok (.iconst 3, 1) := by decide +kernel
theorem dX4_settle_34 : decode cX4_settle 34 = .ok (.if_icmp .ne 14, 3) := by decide +kernel
theorem dX4_settle_37 : decode cX4_settle 37 = .ok (.new 372, 3) := by decide +kernel
theorem dX4_settle_40 : decode cX4_settle 40 = .ok (.dup, 1) := by decide +kernel
theorem dX4_settle_41 : decode cX4_settle 41 = .ok (.ldc_w 392, 3) := by decide +kernel
theorem dX4_settle_44 : decode cX4_settle 44 = .ok (.invokespecial 376, 3) := by decide +kernel
theorem dX4_settle_47 : decode cX4_settle 47 = .ok (.athrow, 1) := by decide +kernel
theorem dX4_settle_48 : decode cX4_settle 48 = .ok (.aload_n 0, 1) := by decide +kernel
theorem dX4_settle_49 : decode cX4_settle 49 = .ok (.invokevirtual 377, 3) := by decide +kernel
theorem dX4_settle_52 : decode cX4_settle 52 = .ok (.return_, 1) := by decide +kernel
theorem h9_X4_settle : yX4_settle.cls ≠ "java/lang/invoke/MethodHandle" ∧ yX4_settle.cls ≠ "java/lang/invoke/VarHandle" ∧ (parseMethodDescriptor yX4_settle.desc).map (fun d => d.parameters.length) = some 1 := by decide +kernel
noncomputable def F_X4_settle (a0 : Nat) (x1 : Int32) (w : FW) : Option ((Unit ⊕ Nat) × FW) :=
  (if x1 = 1 then some (.inr 2, w) else (if x1 = 2 then some (.inr 1, w) else (if x1 = 3 then some (.inr 4, w) else fg (w.1 a0 = 5) inferInstance ((F_X4_remember a0 w).bind (fun r4 => some ((.inl ()), r4))))))
set_option maxHeartbeats 4000000 in
set_option maxRecDepth 100000 in
theorem c_X4_settle (l : Launch) (D : va_G) (cy : Nat → ClassId) (a0 : Nat) (x1 : Int32) (w : FW) (r : (Unit ⊕ Nat) × FW) (hF : F_X4_settle a0 x1 w = some r) : fSpecX l D cy yX4_settle cX4_settle 2 none { frames := 6, cells := 1, slots := 6, locals := 100 } [.ref a0, .int x1] w r.2 (fOU r.1) := by
  refine f_beginX (by decide +kernel) (Nat.le_of_ble_eq_true rfl) (fun X hC hEn => ?_)
  have hst := f_st hC hEn
  unfold F_X4_settle at hF
  show fAt X 0 0 2 w [(0, .ref a0), (1, .int x1)] [] 0
  refine f_iload_n hC dX4_settle_0 rfl 1 rfl ?_
  refine f_iconst (v := 1) hC dX4_settle_1 (by decide) ?_
  refine f_icmp_ne hC 16 dX4_settle_2 (by decide) (fun c1 => ?_) (fun c1 => ?_)
  · replace hF := fi_neg hF c1
    refine f_iload_n hC dX4_settle_16 rfl 1 rfl ?_
    refine f_iconst (v := 2) hC dX4_settle_17 (by decide) ?_
    refine f_icmp_ne hC 32 dX4_settle_18 (by decide) (fun c2 => ?_) (fun c2 => ?_)
    · replace hF := fi_neg hF c2
      refine f_iload_n hC dX4_settle_32 rfl 1 rfl ?_
      refine f_iconst (v := 3) hC dX4_settle_33 (by decide) ?_
      refine f_icmp_ne hC 48 dX4_settle_34 (by decide) (fun c3 => ?_) (fun c3 => ?_)
      · replace hF := fi_neg hF c3
        refine f_aload_n hC dX4_settle_48 rfl 0 rfl ?_
        obtain ⟨g6, hF⟩ := fg_open hF
        obtain ⟨r4, h5, hF⟩ := fb_open hF
        refine f_callV hC [] (c_X4_remember l D cy a0 w r4 h5) q_1067 q_73 q_1064 q_1066 q_52 h9_X4_remember rfl (fSm.k (fSm.rf w) g6) ⟨Nat.le_of_ble_eq_true rfl, Nat.le_of_ble_eq_true rfl⟩ ⟨Nat.le_of_ble_eq_true rfl, Nat.le_of_ble_eq_true rfl⟩ (Nat.le_of_ble_eq_true rfl) rfl dX4_settle_49 (fun e7 => ?_)
        obtain rfl := Option.some.inj hF
        refine f_widen (k' := 1) (s' := 6) (Nat.le_of_ble_eq_true rfl) (Nat.le_of_ble_eq_true rfl) ?_
        exact f_vretX hC hEn (fSm.tr e7 (fSm.rf w)) dX4_settle_52
      · replace hF := fi_pos hF c3
        obtain rfl := Option.some.inj hF
        exact f_throwSW hC hEn (fSm.rf w) 35 rfl xf_4 xn_4 q_1048 q_98 rfl xa_RX4_376 xg_RX4_372_376 dX4_settle_37 dX4_settle_40 dX4_settle_41 dX4_settle_44 dX4_settle_47 (Nat.le_of_ble_eq_true rfl) (Nat.le_of_ble_eq_true rfl) (Nat.le_of_ble_eq_true rfl) (Nat.le_of_ble_eq_true rfl) (Nat.le_of_ble_eq_true rfl) (Nat.le_of_ble_eq_true rfl)
    · replace hF := fi_pos hF c2
      obtain rfl := Option.some.inj hF
      exact f_throwSW hC hEn (fSm.rf w) 34 rfl xf_1 xn_1 q_497 q_81 rfl xa_RX4_146 xg_RX4_142_146 dX4_settle_21 dX4_settle_24 dX4_settle_25 dX4_settle_28 dX4_settle_31 (Nat.le_of_ble_eq_true rfl) (Nat.le_of_ble_eq_true rfl) (Nat.le_of_ble_eq_true rfl) (Nat.le_of_ble_eq_true rfl) (Nat.le_of_ble_eq_true rfl) (Nat.le_of_ble_eq_true rfl)
  · replace hF := fi_pos hF c1
    obtain rfl := Option.some.inj hF
    exact f_throwSW hC hEn (fSm.rf w) 33 rfl xf_2 xn_2 q_409 q_82 rfl xa_RX4_324 xg_RX4_320_324 dX4_settle_5 dX4_settle_8 dX4_settle_9 dX4_settle_12 dX4_settle_15 (Nat.le_of_ble_eq_true rfl) (Nat.le_of_ble_eq_true rfl) (Nat.le_of_ble_eq_true rfl) (Nat.le_of_ble_eq_true rfl) (Nat.le_of_ble_eq_true rfl) (Nat.le_of_ble_eq_true rfl)
theorem dX4_letter_0 : decode cX4_letter 0 = .ok (.aload_n 0, 1) := by decide +kernel
theorem dX4_letter_1 : decode cX4_letter 1 = .ok (.invokevirtual 72, 3) := by decide +kernel
theorem dX4_letter_4 : decode cX4_letter 4 = .ok (.aload_n 0, 1) := by decide +kernel
theorem dX4_letter_5 : decode cX4_letter 5 = .ok (.aload_n 0, 1) := by decide +kernel
theorem dX4_letter_6 : decode cX4_letter 6 = .ok (.iload_n 1, 1) := by decide +kernel
theorem dX4_letter_7 : decode cX4_letter 7 = .ok (.invokevirtual 75, 3) := by decide +kernel
theorem dX4_letter_10 : decode cX4_letter 10 = .ok (.invokevirtual 79, 3) := by decide +kernel
theorem dX4_letter_13 : decode cX4_letter 13 = .ok (.aload_n 0, 1) := by decide +kernel
theorem dX4_letter_14 : decode cX4_letter 14 = .ok (.getfield 12, 3) := by decide +kernel
theorem dX4_letter_17 : decode cX4_letter 17 = .ok (.getfield 83, 3) := by decide +kernel
theorem dX4_letter_20 : decode cX4_letter 20 = .ok (.getfield 86, 3) := by decide +kernel
theorem dX4_letter_23 : decode cX4_letter 23 = .ok (.ireturn, 1) := by decide +kernel
theorem h9_X4_letter : yX4_letter.cls ≠ "java/lang/invoke/MethodHandle" ∧ yX4_letter.cls ≠ "java/lang/invoke/VarHandle" ∧ (parseMethodDescriptor yX4_letter.desc).map (fun d => d.parameters.length) = some 1 := by decide +kernel
noncomputable def F_X4_letter (a0 : Nat) (x1 : Int32) (w : FW) : Option ((Int32 ⊕ Nat) × FW) :=
  fg (w.1 a0 = 5) inferInstance ((F_X4_begin a0 w).bind (fun r1 => (F_X4_tryLetter a0 x1 r1).bind (fun r5 => (F_X4_settle a0 r5.1 r5.2).bind (fun r8 => fse r8.1 (fun v11 => fg (w.1 (gR r8.2 400 a0 0) = 2) inferInstance (fg (w.1 (gR r8.2 102 (gR r8.2 400 a0 0) 0) = 4) inferInstance (some ((.inl (gI r8.2 301 (gR r8.2 102 (gR r8.2 400 a0 0) 0) 0)), r8.2)))) (fun x12 => some (.inr x12, r8.2))))))
set_option maxHeartbeats 4000000 in
set_option maxRecDepth 100000 in
theorem c_X4_letter (l : Launch) (D : va_G) (cy : Nat → ClassId) (a0 : Nat) (x1 : Int32) (w : FW) (r : (Int32 ⊕ Nat) × FW) (hF : F_X4_letter a0 x1 w = some r) : fSpecX l D cy yX4_letter cX4_letter 2 (some .int) { frames := 7, cells := 1, slots := 6, locals := 121 } [.ref a0, .int x1] w r.2 (fOI r.1) := by
  refine f_beginX (by decide +kernel) (Nat.le_of_ble_eq_true rfl) (fun X hC hEn => ?_)
  have hst := f_st hC hEn
  unfold F_X4_letter at hF
  show fAt X 0 0 2 w [(0, .ref a0), (1, .int x1)] [] 0
  refine f_aload_n hC dX4_letter_0 rfl 0 rfl ?_
  obtain ⟨g3, hF⟩ := fg_open hF
  obtain ⟨r1, h2, hF⟩ := fb_open hF
  refine f_callV hC [] (c_X4_begin l D cy a0 w r1 h2) q_932 q_73 q_929 q_931 q_25 h9_X4_begin rfl (fSm.k (fSm.rf w) g3) ⟨Nat.le_of_ble_eq_true rfl, Nat.le_of_ble_eq_true rfl⟩ ⟨Nat.le_of_ble_eq_true rfl, Nat.le_of_ble_eq_true rfl⟩ (Nat.le_of_ble_eq_true rfl) rfl dX4_letter_1 (fun e4 => ?_)
  refine f_aload_n hC dX4_letter_4 rfl 0 rfl ?_
  refine f_aload_n hC dX4_letter_5 rfl 0 rfl ?_
  refine f_iload_n hC dX4_letter_6 rfl 1 rfl ?_
  obtain ⟨r5, h6, hF⟩ := fb_open hF
  refine f_callV hC [.int x1] (c_X4_tryLetter l D cy a0 x1 r1 r5 h6) q_1078 q_73 q_1075 q_1077 q_53 h9_X4_tryLetter rfl (fSm.k (fSm.tr e4 (fSm.rf w)) g3) ⟨Nat.le_of_ble_eq_true rfl, Nat.le_of_ble_eq_true rfl⟩ ⟨Nat.le_of_ble_eq_true rfl, Nat.le_of_ble_eq_true rfl⟩ (Nat.le_of_ble_eq_true rfl) rfl dX4_letter_7 (fun e7 => ?_)
  obtain ⟨r8, h9, hF⟩ := fb_open hF
  obtain ⟨o14, w13⟩ := r8
  rcases o14 with v11 | x12
  · refine f_callVR hC [.int r5.1] hst (c_X4_settle l D cy a0 r5.1 r5.2 (.inl v11, w13) h9) q_1082 q_73 q_1079 q_1081 q_54 h9_X4_settle rfl (fSm.k (fSm.tr e7 (fSm.tr e4 (fSm.rf w))) g3) ⟨Nat.le_of_ble_eq_true rfl, Nat.le_of_ble_eq_true rfl⟩ ⟨Nat.le_of_ble_eq_true rfl, Nat.le_of_ble_eq_true rfl⟩ (Nat.le_of_ble_eq_true rfl) rfl dX4_letter_10 (fun e10 => ?_)
    refine f_aload_n hC dX4_letter_13 rfl 0 rfl ?_
    refine f_getR hC 4 0 400 rfl (by decide) iX4 q_260 rfl rfl (fSm.k (fSm.tr e10 (fSm.tr e7 (fSm.tr e4 (fSm.rf w)))) g3) dX4_letter_14 ?_
    obtain ⟨g15, hF⟩ := fg_open hF
    refine f_getRN hC 1 2 102 rfl (by decide) iX1 q_221 rfl rfl (fSm.k (fSm.tr e10 (fSm.tr e7 (fSm.tr e4 (fSm.rf w)))) g15) dX4_letter_17 ?_
    obtain ⟨g16, hF⟩ := fg_open hF
    refine f_getIN hC 3 1 301 rfl (by decide) iX3 q_124 rfl rfl (fSm.k (fSm.tr e10 (fSm.tr e7 (fSm.tr e4 (fSm.rf w)))) g16) dX4_letter_20 ?_
    obtain rfl := Option.some.inj hF
    exact f_iretX hC hEn (fSm.tr e10 (fSm.tr e7 (fSm.tr e4 (fSm.rf w)))) dX4_letter_23
  · obtain rfl := Option.some.inj hF
    exact f_callVT hC [.int r5.1] hEn (fSm.tr e7 (fSm.tr e4 (fSm.rf w))) (Nat.le_of_ble_eq_true rfl) (Nat.le_of_ble_eq_true rfl) (c_X4_settle l D cy a0 r5.1 r5.2 (.inr x12, w13) h9) q_1082 q_73 q_1079 q_1081 q_54 h9_X4_settle rfl (fSm.k (fSm.tr e7 (fSm.tr e4 (fSm.rf w))) g3) ⟨Nat.le_of_ble_eq_true rfl, Nat.le_of_ble_eq_true rfl⟩ ⟨Nat.le_of_ble_eq_true rfl, Nat.le_of_ble_eq_true rfl⟩ (Nat.le_of_ble_eq_true rfl) rfl dX4_letter_10
theorem dX4_tryUnletter_0 : decode cX4_tryUnletter 0 = .ok (.aload_n 0, 1) := by decide +kernel
theorem dX4_tryUnletter_1 : decode cX4_tryUnletter 1 = .ok (.getfield 12, 3) := by decide +kernel
theorem dX4_tryUnletter_4 : decode cX4_tryUnletter 4 = .ok (.getfield 83, 3) := by decide +kernel
theorem dX4_tryUnletter_7 : decode cX4_tryUnletter 7 = .ok (.getfield 86, 3) := by decide +kernel
theorem dX4_tryUnletter_10 : decode cX4_tryUnletter 10 = .ok (.ifCond .gt 17, 3) := by decide +kernel
theorem dX4_tryUnletter_13 : decode cX4_tryUnletter 13 = .ok (.aload_n 0, 1) := by decide +kernel
theorem dX4_tryUnletter_14 : decode cX4_tryUnletter 14 = .ok (.bipush 11, 2) := by decide +kernel
theorem dX4_tryUnletter_16 : decode cX4_tryUnletter 16 = .ok (.aload_n 0, 1) := by decide +kernel
theorem dX4_tryUnletter_17 : decode cX4_tryUnletter 17 = .ok (.getfield 12, 3) := by decide +kernel
theorem dX4_tryUnletter_20 : decode cX4_tryUnletter 20 = .ok (.getfield 66, 3) := by decide +kernel
theorem dX4_tryUnletter_23 : decode cX4_tryUnletter 23 = .ok (.invokevirtual 394, 3) := by decide +kernel
theorem dX4_tryUnletter_26 : decode cX4_tryUnletter 26 = .ok (.ireturn, 1) := by decide +kernel
theorem dX4_tryUnletter_27 : decode cX4_tryUnletter 27 = .ok (.aload_n 0, 1) := by decide +kernel
theorem dX4_tryUnletter_28 : decode cX4_tryUnletter 28 = .ok (.getfield 12, 3) := by decide +kernel
theorem dX4_tryUnletter_31 : decode cX4_tryUnletter 31 = .ok (.getfield 83, 3) := by decide +kernel
theorem dX4_tryUnletter_34 : decode cX4_tryUnletter 34 = .ok (.dup, 1) := by decide +kernel
theorem dX4_tryUnletter_35 : decode cX4_tryUnletter 35 = .ok (.getfield 86, 3) := by decide +kernel
theorem dX4_tryUnletter_38 : decode cX4_tryUnletter 38 = .ok (.iconst 1, 1) := by decide +kernel
theorem dX4_tryUnletter_39 : decode cX4_tryUnletter 39 = .ok (.isub, 1) := by decide +kernel
theorem dX4_tryUnletter_40 : decode cX4_tryUnletter 40 = .ok (.putfield 86, 3) := by decide +kernel
theorem dX4_tryUnletter_43 : decode cX4_tryUnletter 43 = .ok (.iconst 0, 1) := by decide +kernel
theorem dX4_tryUnletter_44 : decode cX4_tryUnletter 44 = .ok (.ireturn, 1) := by decide +kernel
theorem h9_X4_tryUnletter : yX4_tryUnletter.cls ≠ "java/lang/invoke/MethodHandle" ∧ yX4_tryUnletter.cls ≠ "java/lang/invoke/VarHandle" ∧ (parseMethodDescriptor yX4_tryUnletter.desc).map (fun d => d.parameters.length) = some 0 := by decide +kernel
noncomputable def F_X4_tryUnletter (a0 : Nat) (w : FW) : Option (Int32 × FW) :=
  fg (w.1 a0 = 5) inferInstance (fg (w.1 (gR w 400 a0 0) = 2) inferInstance (fg (w.1 (gR w 102 (gR w 400 a0 0) 0) = 4) inferInstance ((if 0 < (gI w 301 (gR w 102 (gR w 400 a0 0) 0) 0) then some (0, (sI w 301 (gR w 102 (gR w 400 a0 0) 0) 0 ((gI w 301 (gR w 102 (gR w 400 a0 0) 0) 0) - 1))) else (F_X4_refuse a0 11 (gI w 101 (gR w 400 a0 0) 0) w).bind (fun r5 => some (r5.1, r5.2))))))
set_option maxHeartbeats 4000000 in
set_option maxRecDepth 100000 in
theorem c_X4_tryUnletter (l : Launch) (D : va_G) (cy : Nat → ClassId) (a0 : Nat) (w : FW) (r : Int32 × FW) (hF : F_X4_tryUnletter a0 w = some r) : fSpec l D cy yX4_tryUnletter cX4_tryUnletter 1 (some .int) { frames := 1, cells := 0, slots := 0, locals := 22 } [.ref a0] w r.2 (some (.int r.1)) := by
  refine f_begin (by decide +kernel) (Nat.le_of_ble_eq_true rfl) (fun X hC hEn => ?_)
  unfold F_X4_tryUnletter at hF
  show fAt X 0 0 1 w [(0, .ref a0)] [] 0
  refine f_aload_n hC dX4_tryUnletter_0 rfl 0 rfl ?_
  obtain ⟨g1, hF⟩ := fg_open hF
  refine f_getR hC 4 0 400 rfl (by decide) iX4 q_260 rfl rfl (fSm.k (fSm.rf w) g1) dX4_tryUnletter_1 ?_
  obtain ⟨g2, hF⟩ := fg_open hF
  refine f_getRN hC 1 2 102 rfl (by decide) iX1 q_221 rfl rfl (fSm.k (fSm.rf w) g2) dX4_tryUnletter_4 ?_
  obtain ⟨g3, hF⟩ := fg_open hF
  refine f_getIN hC 3 1 301 rfl (by decide) iX3 q_124 rfl rfl (fSm.k (fSm.rf w) g3) dX4_tryUnletter_7 ?_
  refine f_if_gt hC 27 dX4_tryUnletter_10 (by decide) (fun c4 => ?_) (fun c4 => ?_)
  · replace hF := fi_pos hF c4
    refine f_aload_n hC dX4_tryUnletter_27 rfl 0 rfl ?_
    refine f_getR hC 4 0 400 rfl (by decide) iX4 q_260 rfl rfl (fSm.k (fSm.rf w) g1) dX4_tryUnletter_28 ?_
    refine f_getRN hC 1 2 102 rfl (by decide) iX1 q_221 rfl rfl (fSm.k (fSm.rf w) g2) dX4_tryUnletter_31 ?_
    refine f_dup hC dX4_tryUnletter_34 rfl ?_
    refine f_getIN hC 3 1 301 rfl (by decide) iX3 q_124 rfl rfl (fSm.k (fSm.rf w) g3) dX4_tryUnletter_35 ?_
    refine f_iconst (v := 1) hC dX4_tryUnletter_38 (by decide) ?_
    refine f_isub hC dX4_tryUnletter_39 ?_
    refine f_putIN hC 3 1 301 rfl (by decide) iX3 tyX3 tyX3_ok nmX3 q_124 rfl rfl rfl rfl rfl (fSm.k (fSm.rf w) g3) dX4_tryUnletter_40 ?_
    refine f_iconst (v := 0) hC dX4_tryUnletter_43 (by decide) ?_
    obtain rfl := Option.some.inj hF
    exact f_iret hC hEn (fSm.rf w) dX4_tryUnletter_44
  · replace hF := fi_neg hF c4
    refine f_aload_n hC dX4_tryUnletter_13 rfl 0 rfl ?_
    refine f_bipush (v := 11) hC dX4_tryUnletter_14 (by decide) ?_
    refine f_aload_n hC dX4_tryUnletter_16 rfl 0 rfl ?_
    refine f_getR hC 4 0 400 rfl (by decide) iX4 q_260 rfl rfl (fSm.k (fSm.rf w) g1) dX4_tryUnletter_17 ?_
    refine f_getIN hC 1 1 101 rfl (by decide) iX1 q_219 rfl rfl (fSm.k (fSm.rf w) g2) dX4_tryUnletter_20 ?_
    obtain ⟨r5, h6, hF⟩ := fb_open hF
    refine f_callV hC [.int 11, .int (gI w 101 (gR w 400 a0 0) 0)] (c_X4_refuse l D cy a0 11 (gI w 101 (gR w 400 a0 0) 0) w r5 h6) q_984 q_73 q_981 q_983 q_37 h9_X4_refuse rfl (fSm.k (fSm.rf w) g1) ⟨Nat.le_of_ble_eq_true rfl, Nat.le_of_ble_eq_true rfl⟩ ⟨Nat.le_of_ble_eq_true rfl, Nat.le_of_ble_eq_true rfl⟩ (Nat.le_of_ble_eq_true rfl) rfl dX4_tryUnletter_23 (fun e7 => ?_)
    obtain rfl := Option.some.inj hF
    exact f_iret hC hEn (fSm.tr e7 (fSm.rf w)) dX4_tryUnletter_26
theorem dX4_unletter_0 : decode cX4_unletter 0 = .ok (.aload_n 0, 1) := by decide +kernel
theorem dX4_unletter_1 : decode cX4_unletter 1 = .ok (.invokevirtual 72, 3) := by decide +kernel
theorem dX4_unletter_4 : decode cX4_unletter 4 = .ok (.aload_n 0, 1) := by decide +kernel
theorem dX4_unletter_5 : decode cX4_unletter 5 = .ok (.aload_n 0, 1) := by decide +kernel
theorem dX4_unletter_6 : decode cX4_unletter 6 = .ok (.invokevirtual 89, 3) := by decide +kernel
theorem dX4_unletter_9 : decode cX4_unletter 9 = .ok (.invokevirtual 79, 3) := by decide +kernel
theorem dX4_unletter_12 : decode cX4_unletter 12 = .ok (.aload_n 0, 1) := by decide +kernel
theorem dX4_unletter_13 : decode cX4_unletter 13 = .ok (.getfield 12, 3) := by decide +kernel
theorem dX4_unletter_16 : decode cX4_unletter 16 = .ok (.getfield 83, 3) := by decide +kernel
theorem dX4_unletter_19 : decode cX4_unletter 19 = .ok (.getfield 86, 3) := by decide +kernel
theorem dX4_unletter_22 : decode cX4_unletter 22 = .ok (.ireturn, 1) := by decide +kernel
theorem h9_X4_unletter : yX4_unletter.cls ≠ "java/lang/invoke/MethodHandle" ∧ yX4_unletter.cls ≠ "java/lang/invoke/VarHandle" ∧ (parseMethodDescriptor yX4_unletter.desc).map (fun d => d.parameters.length) = some 0 := by decide +kernel
noncomputable def F_X4_unletter (a0 : Nat) (w : FW) : Option ((Int32 ⊕ Nat) × FW) :=
  fg (w.1 a0 = 5) inferInstance ((F_X4_begin a0 w).bind (fun r1 => (F_X4_tryUnletter a0 r1).bind (fun r5 => (F_X4_settle a0 r5.1 r5.2).bind (fun r8 => fse r8.1 (fun v11 => fg (w.1 (gR r8.2 400 a0 0) = 2) inferInstance (fg (w.1 (gR r8.2 102 (gR r8.2 400 a0 0) 0) = 4) inferInstance (some ((.inl (gI r8.2 301 (gR r8.2 102 (gR r8.2 400 a0 0) 0) 0)), r8.2)))) (fun x12 => some (.inr x12, r8.2))))))
set_option maxHeartbeats 4000000 in
set_option maxRecDepth 100000 in
theorem c_X4_unletter (l : Launch) (D : va_G) (cy : Nat → ClassId) (a0 : Nat) (w : FW) (r : (Int32 ⊕ Nat) × FW) (hF : F_X4_unletter a0 w = some r) : fSpecX l D cy yX4_unletter cX4_unletter 1 (some .int) { frames := 7, cells := 1, slots := 6, locals := 121 } [.ref a0] w r.2 (fOI r.1) := by
  refine f_beginX (by decide +kernel) (Nat.le_of_ble_eq_true rfl) (fun X hC hEn => ?_)
  have hst := f_st hC hEn
  unfold F_X4_unletter at hF
  show fAt X 0 0 1 w [(0, .ref a0)] [] 0
  refine f_aload_n hC dX4_unletter_0 rfl 0 rfl ?_
  obtain ⟨g3, hF⟩ := fg_open hF
  obtain ⟨r1, h2, hF⟩ := fb_open hF
  refine f_callV hC [] (c_X4_begin l D cy a0 w r1 h2) q_932 q_73 q_929 q_931 q_25 h9_X4_begin rfl (fSm.k (fSm.rf w) g3) ⟨Nat.le_of_ble_eq_true rfl, Nat.le_of_ble_eq_true rfl⟩ ⟨Nat.le_of_ble_eq_true rfl, Nat.le_of_ble_eq_true rfl⟩ (Nat.le_of_ble_eq_true rfl) rfl dX4_unletter_1 (fun e4 => ?_)
  refine f_aload_n hC dX4_unletter_4 rfl 0 rfl ?_
  refine f_aload_n hC dX4_unletter_5 rfl 0 rfl ?_
  obtain ⟨r5, h6, hF⟩ := fb_open hF
  refine f_callV hC [] (c_X4_tryUnletter l D cy a0 r1 r5 h6) q_1096 q_73 q_1093 q_1095 q_55 h9_X4_tryUnletter rfl (fSm.k (fSm.tr e4 (fSm.rf w)) g3) ⟨Nat.le_of_ble_eq_true rfl, Nat.le_of_ble_eq_true rfl⟩ ⟨Nat.le_of_ble_eq_true rfl, Nat.le_of_ble_eq_true rfl⟩ (Nat.le_of_ble_eq_true rfl) rfl dX4_unletter_6 (fun e7 => ?_)
  obtain ⟨r8, h9, hF⟩ := fb_open hF
  obtain ⟨o14, w13⟩ := r8
  rcases o14 with v11 | x12
  · refine f_callVR hC [.int r5.1] hst (c_X4_settle l D cy a0 r5.1 r5.2 (.inl v11, w13) h9) q_1082 q_73 q_1079 q_1081 q_54 h9_X4_settle rfl (fSm.k (fSm.tr e7 (fSm.tr e4 (fSm.rf w))) g3) ⟨Nat.le_of_ble_eq_true rfl, Nat.le_of_ble_eq_true rfl⟩ ⟨Nat.le_of_ble_eq_true rfl, Nat.le_of_ble_eq_true rfl⟩ (Nat.le_of_ble_eq_true rfl) rfl dX4_unletter_9 (fun e10 => ?_)
    refine f_aload_n hC dX4_unletter_12 rfl 0 rfl ?_
    refine f_getR hC 4 0 400 rfl (by decide) iX4 q_260 rfl rfl (fSm.k (fSm.tr e10 (fSm.tr e7 (fSm.tr e4 (fSm.rf w)))) g3) dX4_unletter_13 ?_
    obtain ⟨g15, hF⟩ := fg_open hF
    refine f_getRN hC 1 2 102 rfl (by decide) iX1 q_221 rfl rfl (fSm.k (fSm.tr e10 (fSm.tr e7 (fSm.tr e4 (fSm.rf w)))) g15) dX4_unletter_16 ?_
    obtain ⟨g16, hF⟩ := fg_open hF
    refine f_getIN hC 3 1 301 rfl (by decide) iX3 q_124 rfl rfl (fSm.k (fSm.tr e10 (fSm.tr e7 (fSm.tr e4 (fSm.rf w)))) g16) dX4_unletter_19 ?_
    obtain rfl := Option.some.inj hF
    exact f_iretX hC hEn (fSm.tr e10 (fSm.tr e7 (fSm.tr e4 (fSm.rf w)))) dX4_unletter_22
  · obtain rfl := Option.some.inj hF
    exact f_callVT hC [.int r5.1] hEn (fSm.tr e7 (fSm.tr e4 (fSm.rf w))) (Nat.le_of_ble_eq_true rfl) (Nat.le_of_ble_eq_true rfl) (c_X4_settle l D cy a0 r5.1 r5.2 (.inr x12, w13) h9) q_1082 q_73 q_1079 q_1081 q_54 h9_X4_settle rfl (fSm.k (fSm.tr e7 (fSm.tr e4 (fSm.rf w))) g3) ⟨Nat.le_of_ble_eq_true rfl, Nat.le_of_ble_eq_true rfl⟩ ⟨Nat.le_of_ble_eq_true rfl, Nat.le_of_ble_eq_true rfl⟩ (Nat.le_of_ble_eq_true rfl) rfl dX4_unletter_9
theorem dX4_isPier_0 : decode cX4_isPier 0 = .ok (.iload_n 0, 1) := by decide +kernel
theorem dX4_isPier_1 : decode cX4_isPier 1 = .ok (.ifCond .lt 12, 3) := by decide +kernel
theorem dX4_isPier_4 : decode cX4_isPier 4 = .ok (.iload_n 0, 1) := by decide +kernel
theorem dX4_isPier_5 : decode cX4_isPier 5 = .ok (.iconst 5, 1) := by decide +kernel
theorem dX4_isPier_6 : decode cX4_isPier 6 = .ok (.if_icmp .ge 7, 3) := by decide +kernel
theorem dX4_isPier_9 : decode cX4_isPier 9 = .ok (.iconst 1, 1) := by decide +kernel
theorem dX4_isPier_10 : decode cX4_isPier 10 = .ok (.goto 4, 3) := by decide +kernel
theorem dX4_isPier_13 : decode cX4_isPier 13 = .ok (.iconst 0, 1) := by decide +kernel
theorem dX4_isPier_14 : decode cX4_isPier 14 = .ok (.ireturn, 1) := by decide +kernel
theorem h9_X4_isPier : yX4_isPier.cls ≠ "java/lang/invoke/MethodHandle" ∧ yX4_isPier.cls ≠ "java/lang/invoke/VarHandle" ∧ (parseMethodDescriptor yX4_isPier.desc).map (fun d => d.parameters.length) = some 1 := by decide +kernel
noncomputable def F_X4_isPier (x1 : Int32) (w : FW) : Option (Int32) :=
  (if x1 < 0 then some 0 else (if 5 ≤ x1 then some 0 else some 1))
set_option maxHeartbeats 4000000 in
set_option maxRecDepth 100000 in
theorem c_X4_isPier (l : Launch) (D : va_G) (cy : Nat → ClassId) (x1 : Int32) (w : FW) (r : Int32) (hF : F_X4_isPier x1 w = some r) : fSpec l D cy yX4_isPier cX4_isPier 1 (some .boolean) { frames := 0, cells := 0, slots := 0, locals := 0 } [.int x1] w w (some (.int r)) := by
  refine f_begin (by decide +kernel) (Nat.le_of_ble_eq_true rfl) (fun X hC hEn => ?_)
  unfold F_X4_isPier at hF
  show fAt X 0 0 1 w [(0, .int x1)] [] 0
  refine f_iload_n hC dX4_isPier_0 rfl 0 rfl ?_
  refine f_if_lt hC 13 dX4_isPier_1 (by decide) (fun c1 => ?_) (fun c1 => ?_)
  · replace hF := fi_pos hF c1
    refine f_iconst (v := 0) hC dX4_isPier_13 (by decide) ?_
    obtain rfl := Option.some.inj hF
    exact f_zret hC hEn (fSm.rf w) (nar_z (by decide)) dX4_isPier_14
  · replace hF := fi_neg hF c1
    refine f_iload_n hC dX4_isPier_4 rfl 0 rfl ?_
    refine f_iconst (v := 5) hC dX4_isPier_5 (by decide) ?_
    refine f_icmp_ge hC 13 dX4_isPier_6 (by decide) (fun c2 => ?_) (fun c2 => ?_)
    · replace hF := fi_pos hF c2
      refine f_iconst (v := 0) hC dX4_isPier_13 (by decide) ?_
      obtain rfl := Option.some.inj hF
      exact f_zret hC hEn (fSm.rf w) (nar_z (by decide)) dX4_isPier_14
    · replace hF := fi_neg hF c2
      refine f_iconst (v := 1) hC dX4_isPier_9 (by decide) ?_
      refine f_goto hC 14 dX4_isPier_10 (by decide) ?_
      obtain rfl := Option.some.inj hF
      exact f_zret hC hEn (fSm.rf w) (nar_z (by decide)) dX4_isPier_14
theorem dX3_hasPlace_0 : decode cX3_hasPlace 0 = .ok (.iload_n 1, 1) := by decide +kernel
theorem dX3_hasPlace_1 : decode cX3_hasPlace 1 = .ok (.ifCond .lt 15, 3) := by decide +kernel
theorem dX3_hasPlace_4 : decode cX3_hasPlace 4 = .ok (.iload_n 1, 1) := by decide +kernel
theorem dX3_hasPlace_5 : decode cX3_hasPlace 5 = .ok (.aload_n 0, 1) := by decide +kernel
theorem dX3_hasPlace_6 : decode cX3_hasPlace 6 = .ok (.getfield 15, 3) := by decide +kernel
theorem dX3_hasPlace_9 : decode cX3_hasPlace 9 = .ok (.if_icmp .ge 7, 3) := by decide +kernel
theorem dX3_hasPlace_12 : decode cX3_hasPlace 12 = .ok (.iconst 1, 1) := by decide +kernel
theorem dX3_hasPlace_13 : decode cX3_hasPlace 13 = .ok (.goto 4, 3) := by decide +kernel
theorem dX3_hasPlace_16 : decode cX3_hasPlace 16 = .ok (.iconst 0, 1) := by decide +kernel
theorem dX3_hasPlace_17 : decode cX3_hasPlace 17 = .ok (.ireturn, 1) := by decide +kernel
theorem h9_X3_hasPlace : yX3_hasPlace.cls ≠ "java/lang/invoke/MethodHandle" ∧ yX3_hasPlace.cls ≠ "java/lang/invoke/VarHandle" ∧ (parseMethodDescriptor yX3_hasPlace.desc).map (fun d => d.parameters.length) = some 1 := by decide +kernel
noncomputable def F_X3_hasPlace (a0 : Nat) (x1 : Int32) (w : FW) : Option (Int32) :=
  (if x1 < 0 then some 0 else fg (w.1 a0 = 4) inferInstance ((if (gI w 301 a0 0) ≤ x1 then some 0 else some 1)))
set_option maxHeartbeats 4000000 in
set_option maxRecDepth 100000 in
theorem c_X3_hasPlace (l : Launch) (D : va_G) (cy : Nat → ClassId) (a0 : Nat) (x1 : Int32) (w : FW) (r : Int32) (hF : F_X3_hasPlace a0 x1 w = some r) : fSpec l D cy yX3_hasPlace cX3_hasPlace 2 (some .boolean) { frames := 0, cells := 0, slots := 0, locals := 0 } [.ref a0, .int x1] w w (some (.int r)) := by
  refine f_begin (by decide +kernel) (Nat.le_of_ble_eq_true rfl) (fun X hC hEn => ?_)
  unfold F_X3_hasPlace at hF
  show fAt X 0 0 2 w [(0, .ref a0), (1, .int x1)] [] 0
  refine f_iload_n hC dX3_hasPlace_0 rfl 1 rfl ?_
  refine f_if_lt hC 16 dX3_hasPlace_1 (by decide) (fun c1 => ?_) (fun c1 => ?_)
  · replace hF := fi_pos hF c1
    refine f_iconst (v := 0) hC dX3_hasPlace_16 (by decide) ?_
    obtain rfl := Option.some.inj hF
    exact f_zret hC hEn (fSm.rf w) (nar_z (by decide)) dX3_hasPlace_17
  · replace hF := fi_neg hF c1
    refine f_iload_n hC dX3_hasPlace_4 rfl 1 rfl ?_
    refine f_aload_n hC dX3_hasPlace_5 rfl 0 rfl ?_
    obtain ⟨g2, hF⟩ := fg_open hF
    refine f_getI hC 3 1 301 rfl (by decide) iX3 q_123 rfl rfl (fSm.k (fSm.rf w) g2) dX3_hasPlace_6 ?_
    refine f_icmp_ge hC 16 dX3_hasPlace_9 (by decide) (fun c3 => ?_) (fun c3 => ?_)
    · replace hF := fi_pos hF c3
      refine f_iconst (v := 0) hC dX3_hasPlace_16 (by decide) ?_
      obtain rfl := Option.some.inj hF
      exact f_zret hC hEn (fSm.rf w) (nar_z (by decide)) dX3_hasPlace_17
    · replace hF := fi_neg hF c3
      refine f_iconst (v := 1) hC dX3_hasPlace_12 (by decide) ?_
      refine f_goto hC 17 dX3_hasPlace_13 (by decide) ?_
      obtain rfl := Option.some.inj hF
      exact f_zret hC hEn (fSm.rf w) (nar_z (by decide)) dX3_hasPlace_17
theorem dX3_letterAt_0 : decode cX3_letterAt 0 = .ok (.aload_n 0, 1) := by decide +kernel
theorem dX3_letterAt_1 : decode cX3_letterAt 1 = .ok (.iload_n 1, 1) := by decide +kernel
theorem dX3_letterAt_2 : decode cX3_letterAt 2 = .ok (.invokevirtual 19, 3) := by decide +kernel
theorem dX3_letterAt_5 : decode cX3_letterAt 5 = .ok (.ifCond .eq 12, 3) := by decide +kernel
theorem dX3_letterAt_8 : decode cX3_letterAt 8 = .ok (.aload_n 0, 1) := by decide +kernel
theorem dX3_letterAt_9 : decode cX3_letterAt 9 = .ok (.getfield 9, 3) := by decide +kernel
theorem dX3_letterAt_12 : decode cX3_letterAt 12 = .ok (.iload_n 1, 1) := by decide +kernel
theorem dX3_letterAt_13 : decode cX3_letterAt 13 = .ok (.caload, 1) := by decide +kernel
theorem dX3_letterAt_14 : decode cX3_letterAt 14 = .ok (.goto 5, 3) := by decide +kernel
theorem dX3_letterAt_17 : decode cX3_letterAt 17 = .ok (.bipush 63, 2) := by decide +kernel
theorem dX3_letterAt_19 : decode cX3_letterAt 19 = .ok (.ireturn, 1) := by decide +kernel
theorem h9_X3_letterAt : yX3_letterAt.cls ≠ "java/lang/invoke/MethodHandle" ∧ yX3_letterAt.cls ≠ "java/lang/invoke/VarHandle" ∧ (parseMethodDescriptor yX3_letterAt.desc).map (fun d => d.parameters.length) = some 1 := by decide +kernel
noncomputable def F_X3_letterAt (a0 : Nat) (x1 : Int32) (w : FW) : Option (Int32) :=
  fg (w.1 a0 = 4) inferInstance ((F_X3_hasPlace a0 x1 w).bind (fun r1 => (if r1 = 0 then some 63 else fg (w.1 (gR w 300 a0 0) = 10) inferInstance (fg (¬ (x1 < 0 ∨ w.2.1 (gR w 300 a0 0) ≤ Int32.toNatClampNeg x1)) inferInstance (fg (fch (gI w 600 (gR w 300 a0 0) (Int32.toNatClampNeg x1)) = (gI w 600 (gR w 300 a0 0) (Int32.toNatClampNeg x1))) inferInstance (some (gI w 600 (gR w 300 a0 0) (Int32.toNatClampNeg x1))))))))
set_option maxHeartbeats 4000000 in
set_option maxRecDepth 100000 in
theorem c_X3_letterAt (l : Launch) (D : va_G) (cy : Nat → ClassId) (a0 : Nat) (x1 : Int32) (w : FW) (r : Int32) (hF : F_X3_letterAt a0 x1 w = some r) : fSpec l D cy yX3_letterAt cX3_letterAt 2 (some .char) { frames := 1, cells := 0, slots := 0, locals := 21 } [.ref a0, .int x1] w w (some (.int r)) := by
  refine f_begin (by decide +kernel) (Nat.le_of_ble_eq_true rfl) (fun X hC hEn => ?_)
  unfold F_X3_letterAt at hF
  show fAt X 0 0 2 w [(0, .ref a0), (1, .int x1)] [] 0
  refine f_aload_n hC dX3_letterAt_0 rfl 0 rfl ?_
  refine f_iload_n hC dX3_letterAt_1 rfl 1 rfl ?_
  obtain ⟨g3, hF⟩ := fg_open hF
  obtain ⟨r1, h2, hF⟩ := fb_open hF
  refine f_callV hC [.int x1] (c_X3_hasPlace l D cy a0 x1 w r1 h2) q_437 q_75 q_434 q_436 q_6 h9_X3_hasPlace rfl (fSm.k (fSm.rf w) g3) ⟨Nat.le_of_ble_eq_true rfl, Nat.le_of_ble_eq_true rfl⟩ ⟨Nat.le_of_ble_eq_true rfl, Nat.le_of_ble_eq_true rfl⟩ (Nat.le_of_ble_eq_true rfl) rfl dX3_letterAt_2 (fun e4 => ?_)
  refine f_if_eq hC 17 dX3_letterAt_5 (by decide) (fun c5 => ?_) (fun c5 => ?_)
  · replace hF := fi_pos hF c5
    refine f_bipush (v := 63) hC dX3_letterAt_17 (by decide) ?_
    obtain rfl := Option.some.inj hF
    exact f_zret hC hEn (fSm.rf w) (nar_c (by decide)) dX3_letterAt_19
  · replace hF := fi_neg hF c5
    refine f_aload_n hC dX3_letterAt_8 rfl 0 rfl ?_
    refine f_getR hC 3 0 300 rfl (by decide) iX3 q_122 rfl rfl (fSm.k (fSm.rf w) g3) dX3_letterAt_9 ?_
    refine f_iload_n hC dX3_letterAt_12 rfl 1 rfl ?_
    obtain ⟨g6, hF⟩ := fg_open hF
    obtain ⟨g7, hF⟩ := fg_open hF
    refine f_cald hC (fSm.k (fSm.rf w) g6) (fSm.v (fSm.rf w) g7) dX3_letterAt_13 ?_
    refine f_goto hC 19 dX3_letterAt_14 (by decide) ?_
    obtain ⟨g8, hF⟩ := fg_open hF
    obtain rfl := Option.some.inj hF
    exact f_zret hC hEn (fSm.rf w) (nar_c g8) dX3_letterAt_19
theorem dX3_vowelCount_0 : decode cX3_vowelCount 0 = .ok (.iconst 0, 1) := by decide +kernel
theorem dX3_vowelCount_1 : decode cX3_vowelCount 1 = .ok (.istore_n 1, 1) := by decide +kernel
theorem dX3_vowelCount_2 : decode cX3_vowelCount 2 = .ok (.iconst 0, 1) := by decide +kernel
theorem dX3_vowelCount_3 : decode cX3_vowelCount 3 = .ok (.istore_n 2, 1) := by decide +kernel
theorem dX3_vowelCount_4 : decode cX3_vowelCount 4 = .ok (.iload_n 2, 1) := by decide +kernel
theorem dX3_vowelCount_5 : decode cX3_vowelCount 5 = .ok (.aload_n 0, 1) := by decide +kernel
theorem dX3_vowelCount_6 : decode cX3_vowelCount 6 = .ok (.getfield 15, 3) := by decide +kernel
theorem dX3_vowelCount_9 : decode cX3_vowelCount 9 = .ok (.if_icmp .ge 24, 3) := by decide +kernel
theorem dX3_vowelCount_12 : decode cX3_vowelCount 12 = .ok (.aload_n 0, 1) := by decide +kernel
theorem dX3_vowelCount_13 : decode cX3_vowelCount 13 = .ok (.iload_n 2, 1) := by decide +kernel
theorem dX3_vowelCount_14 : decode cX3_vowelCount 14 = .ok (.invokevirtual 23, 3) := by decide +kernel
theorem dX3_vowelCount_17 : decode cX3_vowelCount 17 = .ok (.invokestatic 27, 3) := by decide +kernel
theorem dX3_vowelCount_20 : decode cX3_vowelCount 20 = .ok (.iconst (-1), 1) := by decide +kernel
theorem dX3_vowelCount_21 : decode cX3_vowelCount 21 = .ok (.if_icmp .eq 6, 3) := by decide +kernel
theorem dX3_vowelCount_24 : decode cX3_vowelCount 24 = .ok (.iinc 1 1, 3) := by decide +kernel
theorem dX3_vowelCount_27 : decode cX3_vowelCount 27 = .ok (.iinc 2 1, 3) := by decide +kernel
theorem dX3_vowelCount_30 : decode cX3_vowelCount 30 = .ok (.goto (-26), 3) := by decide +kernel
theorem dX3_vowelCount_33 : decode cX3_vowelCount 33 = .ok (.iload_n 1, 1) := by decide +kernel
theorem dX3_vowelCount_34 : decode cX3_vowelCount 34 = .ok (.ireturn, 1) := by decide +kernel
theorem h9_X3_vowelCount : yX3_vowelCount.cls ≠ "java/lang/invoke/MethodHandle" ∧ yX3_vowelCount.cls ≠ "java/lang/invoke/VarHandle" ∧ (parseMethodDescriptor yX3_vowelCount.desc).map (fun d => d.parameters.length) = some 0 := by decide +kernel
noncomputable def F_X3_vowelCount (a0 : Nat) (w : FW) : Option (Int32) :=
  (fLoop (σ := Int32 × Int32) (ρ := Int32) (fun s1 => fg (w.1 a0 = 4) inferInstance ((if (gI w 301 a0 0) ≤ s1.2 then some (.inr s1.1) else (F_X3_letterAt a0 s1.2 w).bind (fun r12 => (F_X4_vowelNumber r12 w).bind (fun r15 => (if r15 = (-1) then some (.inl (s1.1, (s1.2 + 1))) else some (.inl ((s1.1 + 1), (s1.2 + 1))))))))) (0, 0)).bind (fun x7 => some x7)
set_option maxHeartbeats 4000000 in
set_option maxRecDepth 100000 in
theorem c_X3_vowelCount (l : Launch) (D : va_G) (cy : Nat → ClassId) (a0 : Nat) (w : FW) (r : Int32) (hF : F_X3_vowelCount a0 w = some r) : fSpec l D cy yX3_vowelCount cX3_vowelCount 3 (some .int) { frames := 2, cells := 0, slots := 0, locals := 42 } [.ref a0] w w (some (.int r)) := by
  refine f_begin (by decide +kernel) (Nat.le_of_ble_eq_true rfl) (fun X hC hEn => ?_)
  unfold F_X3_vowelCount at hF
  show fAt X 0 0 3 w [(0, .ref a0)] [] 0
  refine f_iconst (v := 0) hC dX3_vowelCount_0 (by decide) ?_
  refine f_istore_n (L' := [(1, .int 0), (0, .ref a0)]) hC dX3_vowelCount_1 rfl (by decide) rfl ?_
  refine f_iconst (v := 0) hC dX3_vowelCount_2 (by decide) ?_
  refine f_istore_n (L' := [(2, .int 0), (1, .int 0), (0, .ref a0)]) hC dX3_vowelCount_3 rfl (by decide) rfl ?_
  obtain ⟨x7, h8, hF⟩ := fb_open hF
  have K9 : fAt X 0 0 3 w [(1, .int x7)] [] 33 := by
    refine f_iload_n hC dX3_vowelCount_33 rfl 0 rfl ?_
    obtain rfl := Option.some.inj hF
    exact f_iret hC hEn (fSm.rf w) dX3_vowelCount_34
  refine f_sub (L' := [(0, .ref a0), (1, .int 0), (2, .int 0)]) [2, 1, 0] rfl ?_
  refine fLoop_ind (fun (s1 : Int32 × Int32) => fAt X 0 0 3 w [(0, .ref a0), (1, .int s1.1), (2, .int s1.2)] [] 4) (fun s1 y6 h2 go3 ou4 => ?_) h8
  refine f_iload_n hC dX3_vowelCount_4 rfl 2 rfl ?_
  refine f_aload_n hC dX3_vowelCount_5 rfl 0 rfl ?_
  obtain ⟨g10, h2⟩ := fg_open h2
  refine f_getI hC 3 1 301 rfl (by decide) iX3 q_123 rfl rfl (fSm.k (fSm.rf w) g10) dX3_vowelCount_6 ?_
  refine f_icmp_ge hC 33 dX3_vowelCount_9 (by decide) (fun c11 => ?_) (fun c11 => ?_)
  · replace h2 := fi_pos h2 c11
    obtain rfl := Option.some.inj h2
    obtain rfl := ou4 _ rfl
    refine f_sub (L' := [(1, .int s1.1)]) [1] rfl ?_
    exact K9
  · replace h2 := fi_neg h2 c11
    refine f_aload_n hC dX3_vowelCount_12 rfl 0 rfl ?_
    refine f_iload_n hC dX3_vowelCount_13 rfl 2 rfl ?_
    obtain ⟨r12, h13, h2⟩ := fb_open h2
    refine f_callV hC [.int s1.2] (c_X3_letterAt l D cy a0 s1.2 w r12 h13) q_433 q_75 q_979 q_432 q_5 h9_X3_letterAt rfl (fSm.k (fSm.rf w) g10) ⟨Nat.le_of_ble_eq_true rfl, Nat.le_of_ble_eq_true rfl⟩ ⟨Nat.le_of_ble_eq_true rfl, Nat.le_of_ble_eq_true rfl⟩ (Nat.le_of_ble_eq_true rfl) rfl dX3_vowelCount_14 (fun e14 => ?_)
    obtain ⟨r15, h16, h2⟩ := fb_open h2
    refine f_callSN hC [.int r12] (c_X4_vowelNumber l D cy r12 w r15 h16) q_440 q_73 q_980 q_439 h9_X4_vowelNumber ⟨Nat.le_of_ble_eq_true rfl, Nat.le_of_ble_eq_true rfl⟩ ⟨Nat.le_of_ble_eq_true rfl, Nat.le_of_ble_eq_true rfl⟩ (Nat.le_of_ble_eq_true rfl) rfl dX3_vowelCount_17 (fun e17 => ?_)
    refine f_iconst (v := (-1)) hC dX3_vowelCount_20 (by decide) ?_
    refine f_icmp_eq hC 27 dX3_vowelCount_21 (by decide) (fun c18 => ?_) (fun c18 => ?_)
    · replace h2 := fi_pos h2 c18
      refine f_iinc (L' := [(2, .int (s1.2 + 1)), (0, .ref a0), (1, .int s1.1)]) hC dX3_vowelCount_27 2 rfl rfl (by decide) rfl ?_
      refine f_goto hC 4 dX3_vowelCount_30 (by decide) ?_
      obtain rfl := Option.some.inj h2
      refine f_sub (L' := [(0, .ref a0), (1, .int s1.1), (2, .int (s1.2 + 1))]) [1, 2, 0] rfl ?_
      exact go3 _ rfl
    · replace h2 := fi_neg h2 c18
      refine f_iinc (L' := [(1, .int (s1.1 + 1)), (0, .ref a0), (2, .int s1.2)]) hC dX3_vowelCount_24 1 rfl rfl (by decide) rfl ?_
      refine f_iinc (L' := [(2, .int (s1.2 + 1)), (1, .int (s1.1 + 1)), (0, .ref a0)]) hC dX3_vowelCount_27 2 rfl rfl (by decide) rfl ?_
      refine f_goto hC 4 dX3_vowelCount_30 (by decide) ?_
      obtain rfl := Option.some.inj h2
      refine f_sub (L' := [(0, .ref a0), (1, .int (s1.1 + 1)), (2, .int (s1.2 + 1))]) [2, 1, 0] rfl ?_
      exact go3 _ rfl
