theorem dX4_endOfOrder_0 : decode cX4_endOfOrder 0 = .ok (.aload_n 0, 1) := by decide +kernel
theorem dX4_endOfOrder_1 : decode cX4_endOfOrder 1 = .ok (.iload_n 1, 1) := by decide +kernel
theorem dX4_endOfOrder_2 : decode cX4_endOfOrder 2 = .ok (.invokevirtual 439, 3) := by decide +kernel
theorem dX4_endOfOrder_5 : decode cX4_endOfOrder 5 = .ok (.invokestatic 445, 3) := by decide +kernel
theorem dX4_endOfOrder_8 : decode cX4_endOfOrder 8 = .ok (.astore_n 2, 1) := by decide +kernel
theorem dX4_endOfOrder_9 : decode cX4_endOfOrder 9 = .ok (.iload_n 1, 1) := by decide +kernel
theorem dX4_endOfOrder_10 : decode cX4_endOfOrder 10 = .ok (.istore_n 3, 1) := by decide +kernel
theorem dX4_endOfOrder_11 : decode cX4_endOfOrder 11 = .ok (.iconst 0, 1) := by decide +kernel
theorem dX4_endOfOrder_12 : decode cX4_endOfOrder 12 = .ok (.istore 4, 2) := by decide +kernel
theorem dX4_endOfOrder_14 : decode cX4_endOfOrder 14 = .ok (.iload 4, 2) := by decide +kernel
theorem dX4_endOfOrder_16 : decode cX4_endOfOrder 16 = .ok (.aload_n 2, 1) := by decide +kernel
theorem dX4_endOfOrder_17 : decode cX4_endOfOrder 17 = .ok (.invokevirtual 449, 3) := by decide +kernel
theorem dX4_endOfOrder_20 : decode cX4_endOfOrder 20 = .ok (.if_icmp .ge 36, 3) := by decide +kernel
theorem dX4_endOfOrder_23 : decode cX4_endOfOrder 23 = .ok (.aload_n 0, 1) := by decide +kernel
theorem dX4_endOfOrder_24 : decode cX4_endOfOrder 24 = .ok (.aload_n 2, 1) := by decide +kernel
theorem dX4_endOfOrder_25 : decode cX4_endOfOrder 25 = .ok (.iload 4, 2) := by decide +kernel
theorem dX4_endOfOrder_27 : decode cX4_endOfOrder 27 = .ok (.invokevirtual 453, 3) := by decide +kernel
theorem dX4_endOfOrder_30 : decode cX4_endOfOrder 30 = .ok (.iload_n 3, 1) := by decide +kernel
theorem dX4_endOfOrder_31 : decode cX4_endOfOrder 31 = .ok (.invokevirtual 456, 3) := by decide +kernel
theorem dX4_endOfOrder_34 : decode cX4_endOfOrder 34 = .ok (.istore 5, 2) := by decide +kernel
theorem dX4_endOfOrder_36 : decode cX4_endOfOrder 36 = .ok (.iload 5, 2) := by decide +kernel
theorem dX4_endOfOrder_38 : decode cX4_endOfOrder 38 = .ok (.ifCond .ne 7, 3) := by decide +kernel
theorem dX4_endOfOrder_41 : decode cX4_endOfOrder 41 = .ok (.iload_n 3, 1) := by decide +kernel
theorem dX4_endOfOrder_42 : decode cX4_endOfOrder 42 = .ok (.iconst (-1), 1) := by decide +kernel
theorem dX4_endOfOrder_43 : decode cX4_endOfOrder 43 = .ok (.ixor, 1) := by decide +kernel
theorem dX4_endOfOrder_44 : decode cX4_endOfOrder 44 = .ok (.ireturn, 1) := by decide +kernel
theorem dX4_endOfOrder_45 : decode cX4_endOfOrder 45 = .ok (.iload_n 3, 1) := by decide +kernel
theorem dX4_endOfOrder_46 : decode cX4_endOfOrder 46 = .ok (.iload 5, 2) := by decide +kernel
theorem dX4_endOfOrder_48 : decode cX4_endOfOrder 48 = .ok (.iadd, 1) := by decide +kernel
theorem dX4_endOfOrder_49 : decode cX4_endOfOrder 49 = .ok (.istore_n 3, 1) := by decide +kernel
theorem dX4_endOfOrder_50 : decode cX4_endOfOrder 50 = .ok (.iinc 4 1, 3) := by decide +kernel
theorem dX4_endOfOrder_53 : decode cX4_endOfOrder 53 = .ok (.goto (-39), 3) := by decide +kernel
theorem dX4_endOfOrder_56 : decode cX4_endOfOrder 56 = .ok (.iload_n 3, 1) := by decide +kernel
theorem dX4_endOfOrder_57 : decode cX4_endOfOrder 57 = .ok (.ireturn, 1) := by decide +kernel
theorem h9_X4_endOfOrder : yX4_endOfOrder.cls ≠ "java/lang/invoke/MethodHandle" ∧ yX4_endOfOrder.cls ≠ "java/lang/invoke/VarHandle" ∧ (parseMethodDescriptor yX4_endOfOrder.desc).map (fun d => d.parameters.length) = some 1 := by decide +kernel
noncomputable def F_X4_endOfOrder (a0 : Nat) (x1 : Int32) (w : FW) : Option (Int32) :=
  fg (w.1 a0 = 5) inferInstance ((F_X4_signAt a0 x1 w).bind (fun r1 => (F_X4_shapeOf r1 w).bind (fun r5 => (fLoop (σ := Int32 × Int32) (ρ := (Int32) ⊕ (Int32)) (fun s8 => fg (r5 < 14) inferInstance ((if (fsl r5) ≤ s8.2 then some (.inr (.inl s8.1)) else fg (r5 < 14) inferInstance (fg (¬ (s8.2 < 0 ∨ (fByt.getD r5 []).length ≤ Int32.toNatClampNeg s8.2)) inferInstance ((F_X4_fittingCharacters a0 (fsc r5 s8.2) s8.1 w).bind (fun r21 => (if r21 = 0 then some (.inr (.inr (s8.1 ^^^ (-1)))) else some (.inl ((s8.1 + r21), (s8.2 + 1)))))))))) (x1, 0)).bind (fun x14 => fse x14 (fun z25 => some z25) (fun q9 => some q9)))))
set_option maxHeartbeats 4000000 in
set_option maxRecDepth 100000 in
theorem c_X4_endOfOrder (l : Launch) (D : va_G) (cy : Nat → ClassId) (a0 : Nat) (x1 : Int32) (w : FW) (r : Int32) (hF : F_X4_endOfOrder a0 x1 w = some r) : fSpec l D cy yX4_endOfOrder cX4_endOfOrder 6 (some .int) { frames := 4, cells := 0, slots := 0, locals := 85 } [.ref a0, .int x1] w w (some (.int r)) := by
  refine f_begin (by decide +kernel) (Nat.le_of_ble_eq_true rfl) (fun X hC hEn => ?_)
  unfold F_X4_endOfOrder at hF
  show fAt X 0 0 6 w [(0, .ref a0), (1, .int x1)] [] 0
  refine f_aload_n hC dX4_endOfOrder_0 rfl 0 rfl ?_
  refine f_iload_n hC dX4_endOfOrder_1 rfl 1 rfl ?_
  obtain ⟨g3, hF⟩ := fg_open hF
  obtain ⟨r1, h2, hF⟩ := fb_open hF
  refine f_callV hC [.int x1] (c_X4_signAt l D cy a0 x1 w r1 h2) q_897 q_73 q_894 q_896 q_22 h9_X4_signAt rfl (fSm.k (fSm.rf w) g3) ⟨Nat.le_of_ble_eq_true rfl, Nat.le_of_ble_eq_true rfl⟩ ⟨Nat.le_of_ble_eq_true rfl, Nat.le_of_ble_eq_true rfl⟩ (Nat.le_of_ble_eq_true rfl) rfl dX4_endOfOrder_2 (fun e4 => ?_)
  obtain ⟨r5, h6, hF⟩ := fb_open hF
  refine f_callS hC [.int r1] (c_X4_shapeOf l D cy r1 w r5 h6) q_900 q_73 q_898 q_899 h9_X4_shapeOf ⟨Nat.le_of_ble_eq_true rfl, Nat.le_of_ble_eq_true rfl⟩ ⟨Nat.le_of_ble_eq_true rfl, Nat.le_of_ble_eq_true rfl⟩ (Nat.le_of_ble_eq_true rfl) rfl dX4_endOfOrder_5 (fun e7 => ?_)
  refine f_astore_n (L' := [(2, .ref (D.2 99 r5)), (0, .ref a0), (1, .int x1)]) hC dX4_endOfOrder_8 rfl (by decide) rfl ?_
  refine f_iload_n hC dX4_endOfOrder_9 rfl 2 rfl ?_
  refine f_istore_n (L' := [(3, .int x1), (2, .ref (D.2 99 r5)), (0, .ref a0), (1, .int x1)]) hC dX4_endOfOrder_10 rfl (by decide) rfl ?_
  refine f_iconst (v := 0) hC dX4_endOfOrder_11 (by decide) ?_
  refine f_istore (L' := [(4, .int 0), (3, .int x1), (2, .ref (D.2 99 r5)), (0, .ref a0), (1, .int x1)]) hC dX4_endOfOrder_12 (by decide) rfl ?_
  obtain ⟨x14, h15, hF⟩ := fb_open hF
  have K16 : ∀ z25, x14 = .inl z25 → fAt X 0 0 6 w [(3, .int z25)] [] 56 := by
    intro z25 hz9
    subst hz9
    refine f_iload_n hC dX4_endOfOrder_56 rfl 0 rfl ?_
    obtain rfl := Option.some.inj hF
    exact f_iret hC hEn (fSm.rf w) dX4_endOfOrder_57
  refine f_sub (L' := [(0, .ref a0), (2, .ref (D.2 99 r5)), (3, .int x1), (4, .int 0)]) [3, 2, 1, 0] rfl ?_
  refine fLoop_ind (fun (s8 : Int32 × Int32) => fAt X 0 0 6 w [(0, .ref a0), (2, .ref (D.2 99 r5)), (3, .int s8.1), (4, .int s8.2)] [] 14) (fun s8 y13 h9 go10 ou11 => ?_) h15
  refine f_iload hC dX4_endOfOrder_14 3 rfl ?_
  refine f_aload_n hC dX4_endOfOrder_16 rfl 1 rfl ?_
  obtain ⟨g17, h9⟩ := fg_open h9
  refine f_callStr hC [] (c_strlen l D cy w r5 g17) (Nat.lt_of_lt_of_le g17 (by decide)) rfl q_s1184 q_s144 q_914 q_s1182 q_s1183 h9_J0_length_8abf5 ⟨Nat.le_of_ble_eq_true rfl, Nat.le_of_ble_eq_true rfl⟩ ⟨Nat.le_of_ble_eq_true rfl, Nat.le_of_ble_eq_true rfl⟩ (Nat.le_of_ble_eq_true rfl) rfl dX4_endOfOrder_17 (fun _ => ?_)
  refine f_icmp_ge hC 56 dX4_endOfOrder_20 (by decide) (fun c18 => ?_) (fun c18 => ?_)
  · replace h9 := fi_pos h9 c18
    obtain rfl := Option.some.inj h9
    have eo := ou11 _ rfl
    refine f_sub (L' := [(3, .int s8.1)]) [2] rfl ?_
    exact K16 _ eo.symm
  · replace h9 := fi_neg h9 c18
    refine f_aload_n hC dX4_endOfOrder_23 rfl 0 rfl ?_
    refine f_aload_n hC dX4_endOfOrder_24 rfl 1 rfl ?_
    refine f_iload hC dX4_endOfOrder_25 3 rfl ?_
    obtain ⟨g19, h9⟩ := fg_open h9
    obtain ⟨g20, h9⟩ := fg_open h9
    refine f_callStr hC [.int s8.2] (c_charAt l D cy w r5 s8.2 g19 g20) (Nat.lt_of_lt_of_le g19 (by decide)) rfl q_s559 q_s144 q_915 q_s557 q_s558 h9_J0_charAt_5068e ⟨Nat.le_of_ble_eq_true rfl, Nat.le_of_ble_eq_true rfl⟩ ⟨Nat.le_of_ble_eq_true rfl, Nat.le_of_ble_eq_true rfl⟩ (Nat.le_of_ble_eq_true rfl) rfl dX4_endOfOrder_27 (fun _ => ?_)
    refine f_iload_n hC dX4_endOfOrder_30 rfl 2 rfl ?_
    obtain ⟨r21, h22, h9⟩ := fb_open h9
    refine f_callV hC [.int (fsc r5 s8.2), .int s8.1] (c_X4_fittingCharacters l D cy a0 (fsc r5 s8.2) s8.1 w r21 h22) q_919 q_73 q_916 q_918 q_23 h9_X4_fittingCharacters rfl (fSm.k (fSm.rf w) g3) ⟨Nat.le_of_ble_eq_true rfl, Nat.le_of_ble_eq_true rfl⟩ ⟨Nat.le_of_ble_eq_true rfl, Nat.le_of_ble_eq_true rfl⟩ (Nat.le_of_ble_eq_true rfl) rfl dX4_endOfOrder_31 (fun e23 => ?_)
    refine f_istore (L' := [(5, .int r21), (0, .ref a0), (2, .ref (D.2 99 r5)), (3, .int s8.1), (4, .int s8.2)]) hC dX4_endOfOrder_34 (by decide) rfl ?_
    refine f_iload hC dX4_endOfOrder_36 0 rfl ?_
    refine f_if_ne hC 45 dX4_endOfOrder_38 (by decide) (fun c24 => ?_) (fun c24 => ?_)
    · replace h9 := fi_neg h9 c24
      refine f_iload_n hC dX4_endOfOrder_45 rfl 3 rfl ?_
      refine f_iload hC dX4_endOfOrder_46 0 rfl ?_
      refine f_iadd hC dX4_endOfOrder_48 ?_
      refine f_istore_n (L' := [(3, .int (s8.1 + r21)), (5, .int r21), (0, .ref a0), (2, .ref (D.2 99 r5)), (4, .int s8.2)]) hC dX4_endOfOrder_49 rfl (by decide) rfl ?_
      refine f_iinc (L' := [(4, .int (s8.2 + 1)), (3, .int (s8.1 + r21)), (5, .int r21), (0, .ref a0), (2, .ref (D.2 99 r5))]) hC dX4_endOfOrder_50 4 rfl rfl (by decide) rfl ?_
      refine f_goto hC 14 dX4_endOfOrder_53 (by decide) ?_
      obtain rfl := Option.some.inj h9
      refine f_sub (L' := [(0, .ref a0), (2, .ref (D.2 99 r5)), (3, .int (s8.1 + r21)), (4, .int (s8.2 + 1))]) [3, 4, 1, 0] rfl ?_
      exact go10 _ rfl
    · replace h9 := fi_pos h9 c24
      refine f_iload_n hC dX4_endOfOrder_41 rfl 3 rfl ?_
      refine f_iconst (v := (-1)) hC dX4_endOfOrder_42 (by decide) ?_
      refine f_ixor hC dX4_endOfOrder_43 ?_
      obtain rfl := Option.some.inj h9
      obtain rfl := ou11 _ rfl
      obtain rfl := Option.some.inj hF
      exact f_iret hC hEn (fSm.rf w) dX4_endOfOrder_44
theorem dX4_faultOfInput_0 : decode cX4_faultOfInput 0 = .ok (.iconst 0, 1) := by decide +kernel
theorem dX4_faultOfInput_1 : decode cX4_faultOfInput 1 = .ok (.istore_n 1, 1) := by decide +kernel
theorem dX4_faultOfInput_2 : decode cX4_faultOfInput 2 = .ok (.iconst 0, 1) := by decide +kernel
theorem dX4_faultOfInput_3 : decode cX4_faultOfInput 3 = .ok (.istore_n 2, 1) := by decide +kernel
theorem dX4_faultOfInput_4 : decode cX4_faultOfInput 4 = .ok (.iload_n 2, 1) := by decide +kernel
theorem dX4_faultOfInput_5 : decode cX4_faultOfInput 5 = .ok (.bipush 60, 2) := by decide +kernel
theorem dX4_faultOfInput_7 : decode cX4_faultOfInput 7 = .ok (.if_icmp .ge 49, 3) := by decide +kernel
theorem dX4_faultOfInput_10 : decode cX4_faultOfInput 10 = .ok (.aload_n 0, 1) := by decide +kernel
theorem dX4_faultOfInput_11 : decode cX4_faultOfInput 11 = .ok (.iload_n 1, 1) := by decide +kernel
theorem dX4_faultOfInput_12 : decode cX4_faultOfInput 12 = .ok (.invokevirtual 436, 3) := by decide +kernel
theorem dX4_faultOfInput_15 : decode cX4_faultOfInput 15 = .ok (.istore_n 3, 1) := by decide +kernel
theorem dX4_faultOfInput_16 : decode cX4_faultOfInput 16 = .ok (.iload_n 3, 1) := by decide +kernel
theorem dX4_faultOfInput_17 : decode cX4_faultOfInput 17 = .ok (.ifCond .ge 7, 3) := by decide +kernel
theorem dX4_faultOfInput_20 : decode cX4_faultOfInput 20 = .ok (.iload_n 3, 1) := by decide +kernel
theorem dX4_faultOfInput_21 : decode cX4_faultOfInput 21 = .ok (.iconst (-1), 1) := by decide +kernel
theorem dX4_faultOfInput_22 : decode cX4_faultOfInput 22 = .ok (.ixor, 1) := by decide +kernel
theorem dX4_faultOfInput_23 : decode cX4_faultOfInput 23 = .ok (.ireturn, 1) := by decide +kernel
theorem dX4_faultOfInput_24 : decode cX4_faultOfInput 24 = .ok (.iload_n 3, 1) := by decide +kernel
theorem dX4_faultOfInput_25 : decode cX4_faultOfInput 25 = .ok (.aload_n 0, 1) := by decide +kernel
theorem dX4_faultOfInput_26 : decode cX4_faultOfInput 26 = .ok (.getfield 45, 3) := by decide +kernel
theorem dX4_faultOfInput_29 : decode cX4_faultOfInput 29 = .ok (.if_icmp .lt 5, 3) := by decide +kernel
theorem dX4_faultOfInput_32 : decode cX4_faultOfInput 32 = .ok (.iconst (-1), 1) := by decide +kernel
theorem dX4_faultOfInput_33 : decode cX4_faultOfInput 33 = .ok (.ireturn, 1) := by decide +kernel
theorem dX4_faultOfInput_34 : decode cX4_faultOfInput 34 = .ok (.aload_n 0, 1) := by decide +kernel
theorem dX4_faultOfInput_35 : decode cX4_faultOfInput 35 = .ok (.iload_n 3, 1) := by decide +kernel
theorem dX4_faultOfInput_36 : decode cX4_faultOfInput 36 = .ok (.invokevirtual 439, 3) := by decide +kernel
theorem dX4_faultOfInput_39 : decode cX4_faultOfInput 39 = .ok (.bipush 59, 2) := by decide +kernel
theorem dX4_faultOfInput_41 : decode cX4_faultOfInput 41 = .ok (.if_icmp .eq 5, 3) := by decide +kernel
theorem dX4_faultOfInput_44 : decode cX4_faultOfInput 44 = .ok (.iload_n 3, 1) := by decide +kernel
theorem dX4_faultOfInput_45 : decode cX4_faultOfInput 45 = .ok (.ireturn, 1) := by decide +kernel
theorem dX4_faultOfInput_46 : decode cX4_faultOfInput 46 = .ok (.iload_n 3, 1) := by decide +kernel
theorem dX4_faultOfInput_47 : decode cX4_faultOfInput 47 = .ok (.iconst 1, 1) := by decide +kernel
theorem dX4_faultOfInput_48 : decode cX4_faultOfInput 48 = .ok (.iadd, 1) := by decide +kernel
theorem dX4_faultOfInput_49 : decode cX4_faultOfInput 49 = .ok (.istore_n 1, 1) := by decide +kernel
theorem dX4_faultOfInput_50 : decode cX4_faultOfInput 50 = .ok (.iinc 2 1, 3) := by decide +kernel
theorem dX4_faultOfInput_53 : decode cX4_faultOfInput 53 = .ok (.goto (-49), 3) := by decide +kernel
theorem dX4_faultOfInput_56 : decode cX4_faultOfInput 56 = .ok (.aload_n 0, 1) := by decide +kernel
theorem dX4_faultOfInput_57 : decode cX4_faultOfInput 57 = .ok (.getfield 45, 3) := by decide +kernel
theorem dX4_faultOfInput_60 : decode cX4_faultOfInput 60 = .ok (.ireturn, 1) := by decide +kernel
theorem h9_X4_faultOfInput : yX4_faultOfInput.cls ≠ "java/lang/invoke/MethodHandle" ∧ yX4_faultOfInput.cls ≠ "java/lang/invoke/VarHandle" ∧ (parseMethodDescriptor yX4_faultOfInput.desc).map (fun d => d.parameters.length) = some 0 := by decide +kernel
noncomputable def F_X4_faultOfInput (a0 : Nat) (w : FW) : Option (Int32) :=
  (fLoop (σ := Int32 × Int32) (ρ := (Unit) ⊕ (Int32)) (fun s1 => (if 60 ≤ s1.2 then some (.inr (.inl ())) else fg (w.1 a0 = 5) inferInstance ((F_X4_endOfOrder a0 s1.1 w).bind (fun r11 => (if 0 ≤ r11 then (if r11 < (gI w 408 a0 0) then (F_X4_signAt a0 r11 w).bind (fun r17 => (if r17 = 59 then some (.inl ((r11 + 1), (s1.2 + 1))) else some (.inr (.inr r11)))) else some (.inr (.inr (-1)))) else some (.inr (.inr (r11 ^^^ (-1))))))))) (0, 0)).bind (fun x7 => fse x7 (fun z21 => fg (w.1 a0 = 5) inferInstance (some (gI w 408 a0 0))) (fun q9 => some q9))
set_option maxHeartbeats 4000000 in
set_option maxRecDepth 100000 in
theorem c_X4_faultOfInput (l : Launch) (D : va_G) (cy : Nat → ClassId) (a0 : Nat) (w : FW) (r : Int32) (hF : F_X4_faultOfInput a0 w = some r) : fSpec l D cy yX4_faultOfInput cX4_faultOfInput 4 (some .int) { frames := 5, cells := 0, slots := 0, locals := 110 } [.ref a0] w w (some (.int r)) := by
  refine f_begin (by decide +kernel) (Nat.le_of_ble_eq_true rfl) (fun X hC hEn => ?_)
  unfold F_X4_faultOfInput at hF
  show fAt X 0 0 4 w [(0, .ref a0)] [] 0
  refine f_iconst (v := 0) hC dX4_faultOfInput_0 (by decide) ?_
  refine f_istore_n (L' := [(1, .int 0), (0, .ref a0)]) hC dX4_faultOfInput_1 rfl (by decide) rfl ?_
  refine f_iconst (v := 0) hC dX4_faultOfInput_2 (by decide) ?_
  refine f_istore_n (L' := [(2, .int 0), (1, .int 0), (0, .ref a0)]) hC dX4_faultOfInput_3 rfl (by decide) rfl ?_
  obtain ⟨x7, h8, hF⟩ := fb_open hF
  have K9 : ∀ z21, x7 = .inl z21 → fAt X 0 0 4 w [(0, .ref a0)] [] 56 := by
    intro z21 hz9
    subst hz9
    refine f_aload_n hC dX4_faultOfInput_56 rfl 0 rfl ?_
    obtain ⟨g22, hF⟩ := fg_open hF
    refine f_getI hC 4 8 408 rfl (by decide) iX4 q_268 rfl rfl (fSm.k (fSm.rf w) g22) dX4_faultOfInput_57 ?_
    obtain rfl := Option.some.inj hF
    exact f_iret hC hEn (fSm.rf w) dX4_faultOfInput_60
  refine f_sub (L' := [(0, .ref a0), (1, .int 0), (2, .int 0)]) [2, 1, 0] rfl ?_
  refine fLoop_ind (fun (s1 : Int32 × Int32) => fAt X 0 0 4 w [(0, .ref a0), (1, .int s1.1), (2, .int s1.2)] [] 4) (fun s1 y6 h2 go3 ou4 => ?_) h8
  refine f_iload_n hC dX4_faultOfInput_4 rfl 2 rfl ?_
  refine f_bipush (v := 60) hC dX4_faultOfInput_5 (by decide) ?_
  refine f_icmp_ge hC 56 dX4_faultOfInput_7 (by decide) (fun c10 => ?_) (fun c10 => ?_)
  · replace h2 := fi_pos h2 c10
    obtain rfl := Option.some.inj h2
    have eo := ou4 _ rfl
    refine f_sub (L' := [(0, .ref a0)]) [0] rfl ?_
    exact K9 _ eo.symm
  · replace h2 := fi_neg h2 c10
    refine f_aload_n hC dX4_faultOfInput_10 rfl 0 rfl ?_
    refine f_iload_n hC dX4_faultOfInput_11 rfl 1 rfl ?_
    obtain ⟨g13, h2⟩ := fg_open h2
    obtain ⟨r11, h12, h2⟩ := fb_open h2
    refine f_callV hC [.int s1.1] (c_X4_endOfOrder l D cy a0 s1.1 w r11 h12) q_893 q_73 q_890 q_892 q_21 h9_X4_endOfOrder rfl (fSm.k (fSm.rf w) g13) ⟨Nat.le_of_ble_eq_true rfl, Nat.le_of_ble_eq_true rfl⟩ ⟨Nat.le_of_ble_eq_true rfl, Nat.le_of_ble_eq_true rfl⟩ (Nat.le_of_ble_eq_true rfl) rfl dX4_faultOfInput_12 (fun e14 => ?_)
    refine f_istore_n (L' := [(3, .int r11), (0, .ref a0), (1, .int s1.1), (2, .int s1.2)]) hC dX4_faultOfInput_15 rfl (by decide) rfl ?_
    refine f_iload_n hC dX4_faultOfInput_16 rfl 0 rfl ?_
    refine f_if_ge hC 24 dX4_faultOfInput_17 (by decide) (fun c15 => ?_) (fun c15 => ?_)
    · replace h2 := fi_pos h2 c15
      refine f_iload_n hC dX4_faultOfInput_24 rfl 0 rfl ?_
      refine f_aload_n hC dX4_faultOfInput_25 rfl 1 rfl ?_
      refine f_getI hC 4 8 408 rfl (by decide) iX4 q_268 rfl rfl (fSm.k (fSm.rf w) g13) dX4_faultOfInput_26 ?_
      refine f_icmp_lt hC 34 dX4_faultOfInput_29 (by decide) (fun c16 => ?_) (fun c16 => ?_)
      · replace h2 := fi_pos h2 c16
        refine f_aload_n hC dX4_faultOfInput_34 rfl 1 rfl ?_
        refine f_iload_n hC dX4_faultOfInput_35 rfl 0 rfl ?_
        obtain ⟨r17, h18, h2⟩ := fb_open h2
        refine f_callV hC [.int r11] (c_X4_signAt l D cy a0 r11 w r17 h18) q_897 q_73 q_894 q_896 q_22 h9_X4_signAt rfl (fSm.k (fSm.rf w) g13) ⟨Nat.le_of_ble_eq_true rfl, Nat.le_of_ble_eq_true rfl⟩ ⟨Nat.le_of_ble_eq_true rfl, Nat.le_of_ble_eq_true rfl⟩ (Nat.le_of_ble_eq_true rfl) rfl dX4_faultOfInput_36 (fun e19 => ?_)
        refine f_bipush (v := 59) hC dX4_faultOfInput_39 (by decide) ?_
        refine f_icmp_eq hC 46 dX4_faultOfInput_41 (by decide) (fun c20 => ?_) (fun c20 => ?_)
        · replace h2 := fi_pos h2 c20
          refine f_iload_n hC dX4_faultOfInput_46 rfl 0 rfl ?_
          refine f_iconst (v := 1) hC dX4_faultOfInput_47 (by decide) ?_
          refine f_iadd hC dX4_faultOfInput_48 ?_
          refine f_istore_n (L' := [(1, .int (r11 + 1)), (3, .int r11), (0, .ref a0), (2, .int s1.2)]) hC dX4_faultOfInput_49 rfl (by decide) rfl ?_
          refine f_iinc (L' := [(2, .int (s1.2 + 1)), (1, .int (r11 + 1)), (3, .int r11), (0, .ref a0)]) hC dX4_faultOfInput_50 3 rfl rfl (by decide) rfl ?_
          refine f_goto hC 4 dX4_faultOfInput_53 (by decide) ?_
          obtain rfl := Option.some.inj h2
          refine f_sub (L' := [(0, .ref a0), (1, .int (r11 + 1)), (2, .int (s1.2 + 1))]) [3, 1, 0] rfl ?_
          exact go3 _ rfl
        · replace h2 := fi_neg h2 c20
          refine f_iload_n hC dX4_faultOfInput_44 rfl 0 rfl ?_
          obtain rfl := Option.some.inj h2
          obtain rfl := ou4 _ rfl
          obtain rfl := Option.some.inj hF
          exact f_iret hC hEn (fSm.rf w) dX4_faultOfInput_45
      · replace h2 := fi_neg h2 c16
        refine f_iconst (v := (-1)) hC dX4_faultOfInput_32 (by decide) ?_
        obtain rfl := Option.some.inj h2
        obtain rfl := ou4 _ rfl
        obtain rfl := Option.some.inj hF
        exact f_iret hC hEn (fSm.rf w) dX4_faultOfInput_33
    · replace h2 := fi_neg h2 c15
      refine f_iload_n hC dX4_faultOfInput_20 rfl 0 rfl ?_
      refine f_iconst (v := (-1)) hC dX4_faultOfInput_21 (by decide) ?_
      refine f_ixor hC dX4_faultOfInput_22 ?_
      obtain rfl := Option.some.inj h2
      obtain rfl := ou4 _ rfl
      obtain rfl := Option.some.inj hF
      exact f_iret hC hEn (fSm.rf w) dX4_faultOfInput_23
theorem dX4_digitAt_0 : decode cX4_digitAt 0 = .ok (.aload_n 0, 1) := by decide +kernel
theorem dX4_digitAt_1 : decode cX4_digitAt 1 = .ok (.iload_n 1, 1) := by decide +kernel
theorem dX4_digitAt_2 : decode cX4_digitAt 2 = .ok (.invokevirtual 439, 3) := by decide +kernel
theorem dX4_digitAt_5 : decode cX4_digitAt 5 = .ok (.istore_n 2, 1) := by decide +kernel
theorem dX4_digitAt_6 : decode cX4_digitAt 6 = .ok (.iload_n 2, 1) := by decide +kernel
theorem dX4_digitAt_7 : decode cX4_digitAt 7 = .ok (.bipush 33, 2) := by decide +kernel
theorem dX4_digitAt_9 : decode cX4_digitAt 9 = .ok (.if_icmp .ne 7, 3) := by decide +kernel
theorem dX4_digitAt_12 : decode cX4_digitAt 12 = .ok (.iconst (-1), 1) := by decide +kernel
theorem dX4_digitAt_13 : decode cX4_digitAt 13 = .ok (.goto 7, 3) := by decide +kernel
theorem dX4_digitAt_16 : decode cX4_digitAt 16 = .ok (.iload_n 2, 1) := by decide +kernel
theorem dX4_digitAt_17 : decode cX4_digitAt 17 = .ok (.bipush 48, 2) := by decide +kernel
theorem dX4_digitAt_19 : decode cX4_digitAt 19 = .ok (.isub, 1) := by decide +kernel
theorem dX4_digitAt_20 : decode cX4_digitAt 20 = .ok (.ireturn, 1) := by decide +kernel
theorem h9_X4_digitAt : yX4_digitAt.cls ≠ "java/lang/invoke/MethodHandle" ∧ yX4_digitAt.cls ≠ "java/lang/invoke/VarHandle" ∧ (parseMethodDescriptor yX4_digitAt.desc).map (fun d => d.parameters.length) = some 1 := by decide +kernel
noncomputable def F_X4_digitAt (a0 : Nat) (x1 : Int32) (w : FW) : Option (Int32) :=
  fg (w.1 a0 = 5) inferInstance ((F_X4_signAt a0 x1 w).bind (fun r1 => (if r1 = 33 then some (-1) else some (r1 - 48))))
set_option maxHeartbeats 4000000 in
set_option maxRecDepth 100000 in
theorem c_X4_digitAt (l : Launch) (D : va_G) (cy : Nat → ClassId) (a0 : Nat) (x1 : Int32) (w : FW) (r : Int32) (hF : F_X4_digitAt a0 x1 w = some r) : fSpec l D cy yX4_digitAt cX4_digitAt 3 (some .int) { frames := 1, cells := 0, slots := 0, locals := 21 } [.ref a0, .int x1] w w (some (.int r)) := by
  refine f_begin (by decide +kernel) (Nat.le_of_ble_eq_true rfl) (fun X hC hEn => ?_)
  unfold F_X4_digitAt at hF
  show fAt X 0 0 3 w [(0, .ref a0), (1, .int x1)] [] 0
  refine f_aload_n hC dX4_digitAt_0 rfl 0 rfl ?_
  refine f_iload_n hC dX4_digitAt_1 rfl 1 rfl ?_
  obtain ⟨g3, hF⟩ := fg_open hF
  obtain ⟨r1, h2, hF⟩ := fb_open hF
  refine f_callV hC [.int x1] (c_X4_signAt l D cy a0 x1 w r1 h2) q_897 q_73 q_894 q_896 q_22 h9_X4_signAt rfl (fSm.k (fSm.rf w) g3) ⟨Nat.le_of_ble_eq_true rfl, Nat.le_of_ble_eq_true rfl⟩ ⟨Nat.le_of_ble_eq_true rfl, Nat.le_of_ble_eq_true rfl⟩ (Nat.le_of_ble_eq_true rfl) rfl dX4_digitAt_2 (fun e4 => ?_)
  refine f_istore_n (L' := [(2, .int r1), (0, .ref a0), (1, .int x1)]) hC dX4_digitAt_5 rfl (by decide) rfl ?_
  refine f_iload_n hC dX4_digitAt_6 rfl 0 rfl ?_
  refine f_bipush (v := 33) hC dX4_digitAt_7 (by decide) ?_
  refine f_icmp_ne hC 16 dX4_digitAt_9 (by decide) (fun c5 => ?_) (fun c5 => ?_)
  · replace hF := fi_neg hF c5
    refine f_iload_n hC dX4_digitAt_16 rfl 0 rfl ?_
    refine f_bipush (v := 48) hC dX4_digitAt_17 (by decide) ?_
    refine f_isub hC dX4_digitAt_19 ?_
    obtain rfl := Option.some.inj hF
    exact f_iret hC hEn (fSm.rf w) dX4_digitAt_20
  · replace hF := fi_pos hF c5
    refine f_iconst (v := (-1)) hC dX4_digitAt_12 (by decide) ?_
    refine f_goto hC 20 dX4_digitAt_13 (by decide) ?_
    obtain rfl := Option.some.inj hF
    exact f_iret hC hEn (fSm.rf w) dX4_digitAt_20
theorem dX4_carryOutPrint_0 : decode cX4_carryOutPrint 0 = .ok (.aload_n 0, 1) := by decide +kernel
theorem dX4_carryOutPrint_1 : decode cX4_carryOutPrint 1 = .ok (.getfield 37, 3) := by decide +kernel
theorem dX4_carryOutPrint_4 : decode cX4_carryOutPrint 4 = .ok (.iconst 0, 1) := by decide +kernel
theorem dX4_carryOutPrint_5 : decode cX4_carryOutPrint 5 = .ok (.putfield 86, 3) := by decide +kernel
theorem dX4_carryOutPrint_8 : decode cX4_carryOutPrint 8 = .ok (.iload_n 1, 1) := by decide +kernel
theorem dX4_carryOutPrint_9 : decode cX4_carryOutPrint 9 = .ok (.iconst 1, 1) := by decide +kernel
theorem dX4_carryOutPrint_10 : decode cX4_carryOutPrint 10 = .ok (.iadd, 1) := by decide +kernel
theorem dX4_carryOutPrint_11 : decode cX4_carryOutPrint 11 = .ok (.istore_n 3, 1) := by decide +kernel
theorem dX4_carryOutPrint_12 : decode cX4_carryOutPrint 12 = .ok (.iload_n 3, 1) := by decide +kernel
theorem dX4_carryOutPrint_13 : decode cX4_carryOutPrint 13 = .ok (.iload_n 2, 1) := by decide +kernel
theorem dX4_carryOutPrint_14 : decode cX4_carryOutPrint 14 = .ok (.bipush 6, 2) := by decide +kernel
theorem dX4_carryOutPrint_16 : decode cX4_carryOutPrint 16 = .ok (.isub, 1) := by decide +kernel
theorem dX4_carryOutPrint_17 : decode cX4_carryOutPrint 17 = .ok (.if_icmp .ge 21, 3) := by decide +kernel
theorem dX4_carryOutPrint_20 : decode cX4_carryOutPrint 20 = .ok (.aload_n 0, 1) := by decide +kernel
theorem dX4_carryOutPrint_21 : decode cX4_carryOutPrint 21 = .ok (.getfield 37, 3) := by decide +kernel
theorem dX4_carryOutPrint_24 : decode cX4_carryOutPrint 24 = .ok (.aload_n 0, 1) := by decide +kernel
theorem dX4_carryOutPrint_25 : decode cX4_carryOutPrint 25 = .ok (.iload_n 3, 1) := by decide +kernel
theorem dX4_carryOutPrint_26 : decode cX4_carryOutPrint 26 = .ok (.invokevirtual 439, 3) := by decide +kernel
theorem dX4_carryOutPrint_29 : decode cX4_carryOutPrint 29 = .ok (.invokevirtual 397, 3) := by decide +kernel
theorem dX4_carryOutPrint_32 : decode cX4_carryOutPrint 32 = .ok (.iinc 3 1, 3) := by decide +kernel
theorem dX4_carryOutPrint_35 : decode cX4_carryOutPrint 35 = .ok (.goto (-23), 3) := by decide +kernel
theorem dX4_carryOutPrint_38 : decode cX4_carryOutPrint 38 = .ok (.aload_n 0, 1) := by decide +kernel
theorem dX4_carryOutPrint_39 : decode cX4_carryOutPrint 39 = .ok (.aload_n 0, 1) := by decide +kernel
theorem dX4_carryOutPrint_40 : decode cX4_carryOutPrint 40 = .ok (.getfield 37, 3) := by decide +kernel
theorem dX4_carryOutPrint_43 : decode cX4_carryOutPrint 43 = .ok (.aload_n 0, 1) := by decide +kernel
theorem dX4_carryOutPrint_44 : decode cX4_carryOutPrint 44 = .ok (.iload_n 2, 1) := by decide +kernel
theorem dX4_carryOutPrint_45 : decode cX4_carryOutPrint 45 = .ok (.iconst 5, 1) := by decide +kernel
theorem dX4_carryOutPrint_46 : decode cX4_carryOutPrint 46 = .ok (.isub, 1) := by decide +kernel
theorem dX4_carryOutPrint_47 : decode cX4_carryOutPrint 47 = .ok (.invokevirtual 489, 3) := by decide +kernel
theorem dX4_carryOutPrint_50 : decode cX4_carryOutPrint 50 = .ok (.aload_n 0, 1) := by decide +kernel
theorem dX4_carryOutPrint_51 : decode cX4_carryOutPrint 51 = .ok (.iload_n 2, 1) := by decide +kernel
theorem dX4_carryOutPrint_52 : decode cX4_carryOutPrint 52 = .ok (.iconst 3, 1) := by decide +kernel
theorem dX4_carryOutPrint_53 : decode cX4_carryOutPrint 53 = .ok (.isub, 1) := by decide +kernel
theorem dX4_carryOutPrint_54 : decode cX4_carryOutPrint 54 = .ok (.invokevirtual 489, 3) := by decide +kernel
theorem dX4_carryOutPrint_57 : decode cX4_carryOutPrint 57 = .ok (.aload_n 0, 1) := by decide +kernel
theorem dX4_carryOutPrint_58 : decode cX4_carryOutPrint 58 = .ok (.iload_n 2, 1) := by decide +kernel
theorem dX4_carryOutPrint_59 : decode cX4_carryOutPrint 59 = .ok (.iconst 1, 1) := by decide +kernel
theorem dX4_carryOutPrint_60 : decode cX4_carryOutPrint 60 = .ok (.isub, 1) := by decide +kernel
theorem dX4_carryOutPrint_61 : decode cX4_carryOutPrint 61 = .ok (.invokevirtual 489, 3) := by decide +kernel
theorem dX4_carryOutPrint_64 : decode cX4_carryOutPrint 64 = .ok (.invokevirtual 93, 3) := by decide +kernel
theorem dX4_carryOutPrint_67 : decode cX4_carryOutPrint 67 = .ok (.ireturn, 1) := by decide +kernel
theorem h9_X4_carryOutPrint : yX4_carryOutPrint.cls ≠ "java/lang/invoke/MethodHandle" ∧ yX4_carryOutPrint.cls ≠ "java/lang/invoke/VarHandle" ∧ (parseMethodDescriptor yX4_carryOutPrint.desc).map (fun d => d.parameters.length) = some 2 := by decide +kernel
noncomputable def F_X4_carryOutPrint (a0 : Nat) (x1 : Int32) (x2 : Int32) (w : FW) : Option (Int32 × FW) :=
  fg (w.1 a0 = 5) inferInstance (fg (w.1 (gR w 406 a0 0) = 4) inferInstance ((fLoop (σ := Int32 × FW) (ρ := FW) (fun s3 => (if (x2 - 6) ≤ s3.1 then some (.inr s3.2) else (F_X4_signAt a0 s3.1 s3.2).bind (fun r13 => fg (w.1 (gR s3.2 406 a0 0) = 4) inferInstance ((F_X3_add (gR s3.2 406 a0 0) r13 s3.2).bind (fun r16 => some (.inl ((s3.1 + 1), r16))))))) ((x1 + 1), (sI w 301 (gR w 406 a0 0) 0 0))).bind (fun x9 => (F_X4_digitAt a0 (x2 - 5) x9).bind (fun r20 => (F_X4_digitAt a0 (x2 - 3) x9).bind (fun r23 => (F_X4_digitAt a0 (x2 - 1) x9).bind (fun r26 => (F_X4_tryPrint a0 (gR x9 406 a0 0) r20 r23 r26 x9).bind (fun r29 => some (r29.1, r29.2))))))))
set_option maxHeartbeats 4000000 in
set_option maxRecDepth 100000 in
theorem c_X4_carryOutPrint (l : Launch) (D : va_G) (cy : Nat → ClassId) (a0 : Nat) (x1 : Int32) (x2 : Int32) (w : FW) (r : Int32 × FW) (hF : F_X4_carryOutPrint a0 x1 x2 w = some r) : fSpec l D cy yX4_carryOutPrint cX4_carryOutPrint 4 (some .int) { frames := 4, cells := 0, slots := 0, locals := 88 } [.ref a0, .int x1, .int x2] w r.2 (some (.int r.1)) := by
  refine f_begin (by decide +kernel) (Nat.le_of_ble_eq_true rfl) (fun X hC hEn => ?_)
  unfold F_X4_carryOutPrint at hF
  show fAt X 0 0 4 w [(0, .ref a0), (1, .int x1), (2, .int x2)] [] 0
  refine f_aload_n hC dX4_carryOutPrint_0 rfl 0 rfl ?_
  obtain ⟨g1, hF⟩ := fg_open hF
  refine f_getR hC 4 6 406 rfl (by decide) iX4 q_266 rfl rfl (fSm.k (fSm.rf w) g1) dX4_carryOutPrint_1 ?_
  refine f_iconst (v := 0) hC dX4_carryOutPrint_4 (by decide) ?_
  obtain ⟨g2, hF⟩ := fg_open hF
  refine f_putIN hC 3 1 301 rfl (by decide) iX3 tyX3 tyX3_ok nmX3 q_124 rfl rfl rfl rfl rfl (fSm.k (fSm.rf w) g2) dX4_carryOutPrint_5 ?_
  refine f_iload_n hC dX4_carryOutPrint_8 rfl 1 rfl ?_
  refine f_iconst (v := 1) hC dX4_carryOutPrint_9 (by decide) ?_
  refine f_iadd hC dX4_carryOutPrint_10 ?_
  refine f_istore_n (L' := [(3, .int (x1 + 1)), (0, .ref a0), (1, .int x1), (2, .int x2)]) hC dX4_carryOutPrint_11 rfl (by decide) rfl ?_
  obtain ⟨x9, h10, hF⟩ := fb_open hF
  have K11 : fSm x9 w → fAt X 0 0 4 x9 [(0, .ref a0), (2, .int x2)] [] 38 := by
    intro p7
    refine f_aload_n hC dX4_carryOutPrint_38 rfl 0 rfl ?_
    refine f_aload_n hC dX4_carryOutPrint_39 rfl 0 rfl ?_
    refine f_getR hC 4 6 406 rfl (by decide) iX4 q_266 rfl rfl (fSm.k p7 g1) dX4_carryOutPrint_40 ?_
    refine f_aload_n hC dX4_carryOutPrint_43 rfl 0 rfl ?_
    refine f_iload_n hC dX4_carryOutPrint_44 rfl 1 rfl ?_
    refine f_iconst (v := 5) hC dX4_carryOutPrint_45 (by decide) ?_
    refine f_isub hC dX4_carryOutPrint_46 ?_
    obtain ⟨r20, h21, hF⟩ := fb_open hF
    refine f_callV hC [.int (x2 - 5)] (c_X4_digitAt l D cy a0 (x2 - 5) x9 r20 h21) q_961 q_73 q_958 q_960 q_32 h9_X4_digitAt rfl (fSm.k p7 g1) ⟨Nat.le_of_ble_eq_true rfl, Nat.le_of_ble_eq_true rfl⟩ ⟨Nat.le_of_ble_eq_true rfl, Nat.le_of_ble_eq_true rfl⟩ (Nat.le_of_ble_eq_true rfl) rfl dX4_carryOutPrint_47 (fun e22 => ?_)
    refine f_aload_n hC dX4_carryOutPrint_50 rfl 0 rfl ?_
    refine f_iload_n hC dX4_carryOutPrint_51 rfl 1 rfl ?_
    refine f_iconst (v := 3) hC dX4_carryOutPrint_52 (by decide) ?_
    refine f_isub hC dX4_carryOutPrint_53 ?_
    obtain ⟨r23, h24, hF⟩ := fb_open hF
    refine f_callV hC [.int (x2 - 3)] (c_X4_digitAt l D cy a0 (x2 - 3) x9 r23 h24) q_961 q_73 q_958 q_960 q_32 h9_X4_digitAt rfl (fSm.k p7 g1) ⟨Nat.le_of_ble_eq_true rfl, Nat.le_of_ble_eq_true rfl⟩ ⟨Nat.le_of_ble_eq_true rfl, Nat.le_of_ble_eq_true rfl⟩ (Nat.le_of_ble_eq_true rfl) rfl dX4_carryOutPrint_54 (fun e25 => ?_)
    refine f_aload_n hC dX4_carryOutPrint_57 rfl 0 rfl ?_
    refine f_iload_n hC dX4_carryOutPrint_58 rfl 1 rfl ?_
    refine f_iconst (v := 1) hC dX4_carryOutPrint_59 (by decide) ?_
    refine f_isub hC dX4_carryOutPrint_60 ?_
    obtain ⟨r26, h27, hF⟩ := fb_open hF
    refine f_callV hC [.int (x2 - 1)] (c_X4_digitAt l D cy a0 (x2 - 1) x9 r26 h27) q_961 q_73 q_958 q_960 q_32 h9_X4_digitAt rfl (fSm.k p7 g1) ⟨Nat.le_of_ble_eq_true rfl, Nat.le_of_ble_eq_true rfl⟩ ⟨Nat.le_of_ble_eq_true rfl, Nat.le_of_ble_eq_true rfl⟩ (Nat.le_of_ble_eq_true rfl) rfl dX4_carryOutPrint_61 (fun e28 => ?_)
    obtain ⟨r29, h30, hF⟩ := fb_open hF
    refine f_callV hC [.ref (gR x9 406 a0 0), .int r20, .int r23, .int r26] (c_X4_tryPrint l D cy a0 (gR x9 406 a0 0) r20 r23 r26 x9 r29 h30) q_973 q_73 q_970 q_972 q_35 h9_X4_tryPrint rfl (fSm.k p7 g1) ⟨Nat.le_of_ble_eq_true rfl, Nat.le_of_ble_eq_true rfl⟩ ⟨Nat.le_of_ble_eq_true rfl, Nat.le_of_ble_eq_true rfl⟩ (Nat.le_of_ble_eq_true rfl) rfl dX4_carryOutPrint_64 (fun e31 => ?_)
    obtain rfl := Option.some.inj hF
    exact f_iret hC hEn (fSm.tr e31 p7) dX4_carryOutPrint_67
  refine f_sub (L' := [(0, .ref a0), (2, .int x2), (3, .int (x1 + 1))]) [1, 3, 0] rfl ?_
  refine fLoop_ind (fun (s3 : Int32 × FW) => fSm s3.2 w → fAt X 0 0 4 s3.2 [(0, .ref a0), (2, .int x2), (3, .int s3.1)] [] 12) (fun s3 y8 h4 go5 ou6 => ?_) h10 (fSm.rf w)
  intro p7
  refine f_iload_n hC dX4_carryOutPrint_12 rfl 2 rfl ?_
  refine f_iload_n hC dX4_carryOutPrint_13 rfl 1 rfl ?_
  refine f_bipush (v := 6) hC dX4_carryOutPrint_14 (by decide) ?_
  refine f_isub hC dX4_carryOutPrint_16 ?_
  refine f_icmp_ge hC 38 dX4_carryOutPrint_17 (by decide) (fun c12 => ?_) (fun c12 => ?_)
  · replace h4 := fi_pos h4 c12
    obtain rfl := Option.some.inj h4
    obtain rfl := ou6 _ rfl
    refine f_sub (L' := [(0, .ref a0), (2, .int x2)]) [0, 1] rfl ?_
    exact K11 p7
  · replace h4 := fi_neg h4 c12
    refine f_aload_n hC dX4_carryOutPrint_20 rfl 0 rfl ?_
    refine f_getR hC 4 6 406 rfl (by decide) iX4 q_266 rfl rfl (fSm.k p7 g1) dX4_carryOutPrint_21 ?_
    refine f_aload_n hC dX4_carryOutPrint_24 rfl 0 rfl ?_
    refine f_iload_n hC dX4_carryOutPrint_25 rfl 2 rfl ?_
    obtain ⟨r13, h14, h4⟩ := fb_open h4
    refine f_callV hC [.int s3.1] (c_X4_signAt l D cy a0 s3.1 s3.2 r13 h14) q_897 q_73 q_894 q_896 q_22 h9_X4_signAt rfl (fSm.k p7 g1) ⟨Nat.le_of_ble_eq_true rfl, Nat.le_of_ble_eq_true rfl⟩ ⟨Nat.le_of_ble_eq_true rfl, Nat.le_of_ble_eq_true rfl⟩ (Nat.le_of_ble_eq_true rfl) rfl dX4_carryOutPrint_26 (fun e15 => ?_)
    obtain ⟨g18, h4⟩ := fg_open h4
    obtain ⟨r16, h17, h4⟩ := fb_open h4
    refine f_callVN hC [.int r13] (c_X3_add l D cy (gR s3.2 406 a0 0) r13 s3.2 r16 h17) q_969 q_75 q_966 q_968 q_34 h9_X3_add rfl (fSm.k p7 g18) ⟨Nat.le_of_ble_eq_true rfl, Nat.le_of_ble_eq_true rfl⟩ ⟨Nat.le_of_ble_eq_true rfl, Nat.le_of_ble_eq_true rfl⟩ (Nat.le_of_ble_eq_true rfl) rfl dX4_carryOutPrint_29 (fun e19 => ?_)
    refine f_iinc (L' := [(3, .int (s3.1 + 1)), (0, .ref a0), (2, .int x2)]) hC dX4_carryOutPrint_32 2 rfl rfl (by decide) rfl ?_
    refine f_goto hC 12 dX4_carryOutPrint_35 (by decide) ?_
    obtain rfl := Option.some.inj h4
    refine f_sub (L' := [(0, .ref a0), (2, .int x2), (3, .int (s3.1 + 1))]) [1, 2, 0] rfl ?_
    exact go5 _ rfl (fSm.tr e19 p7)
theorem dX4_carryOut_0 : decode cX4_carryOut 0 = .ok (.aload_n 0, 1) := by decide +kernel
theorem dX4_carryOut_1 : decode cX4_carryOut 1 = .ok (.iload_n 1, 1) := by decide +kernel
theorem dX4_carryOut_2 : decode cX4_carryOut 2 = .ok (.iconst 1, 1) := by decide +kernel
theorem dX4_carryOut_3 : decode cX4_carryOut 3 = .ok (.iadd, 1) := by decide +kernel
theorem dX4_carryOut_4 : decode cX4_carryOut 4 = .ok (.invokevirtual 489, 3) := by decide +kernel
theorem dX4_carryOut_7 : decode cX4_carryOut 7 = .ok (.istore_n 3, 1) := by decide +kernel
theorem dX4_carryOut_8 : decode cX4_carryOut 8 = .ok (.iload_n 1, 1) := by decide +kernel
theorem dX4_carryOut_9 : decode cX4_carryOut 9 = .ok (.iconst 2, 1) := by decide +kernel
theorem dX4_carryOut_10 : decode cX4_carryOut 10 = .ok (.iadd, 1) := by decide +kernel
theorem dX4_carryOut_11 : decode cX4_carryOut 11 = .ok (.iload_n 2, 1) := by decide +kernel
theorem dX4_carryOut_12 : decode cX4_carryOut 12 = .ok (.if_icmp .ge 19, 3) := by decide +kernel
theorem dX4_carryOut_15 : decode cX4_carryOut 15 = .ok (.aload_n 0, 1) := by decide +kernel
theorem dX4_carryOut_16 : decode cX4_carryOut 16 = .ok (.iload_n 1, 1) := by decide +kernel
theorem dX4_carryOut_17 : decode cX4_carryOut 17 = .ok (.iconst 2, 1) := by decide +kernel
theorem dX4_carryOut_18 : decode cX4_carryOut 18 = .ok (.iadd, 1) := by decide +kernel
theorem dX4_carryOut_19 : decode cX4_carryOut 19 = .ok (.invokevirtual 439, 3) := by decide +kernel
theorem dX4_carryOut_22 : decode cX4_carryOut 22 = .ok (.bipush 114, 2) := by decide +kernel
theorem dX4_carryOut_24 : decode cX4_carryOut 24 = .ok (.if_icmp .ne 7, 3) := by decide +kernel
theorem dX4_carryOut_27 : decode cX4_carryOut 27 = .ok (.iconst 1, 1) := by decide +kernel
theorem dX4_carryOut_28 : decode cX4_carryOut 28 = .ok (.goto 4, 3) := by decide +kernel
theorem dX4_carryOut_31 : decode cX4_carryOut 31 = .ok (.iconst 0, 1) := by decide +kernel
theorem dX4_carryOut_32 : decode cX4_carryOut 32 = .ok (.istore 4, 2) := by decide +kernel
theorem dX4_carryOut_34 : decode cX4_carryOut 34 = .ok (.aload_n 0, 1) := by decide +kernel
theorem dX4_carryOut_35 : decode cX4_carryOut 35 = .ok (.iload_n 2, 1) := by decide +kernel
theorem dX4_carryOut_36 : decode cX4_carryOut 36 = .ok (.iconst 1, 1) := by decide +kernel
theorem dX4_carryOut_37 : decode cX4_carryOut 37 = .ok (.isub, 1) := by decide +kernel
theorem dX4_carryOut_38 : decode cX4_carryOut 38 = .ok (.invokevirtual 489, 3) := by decide +kernel
theorem dX4_carryOut_41 : decode cX4_carryOut 41 = .ok (.istore 5, 2) := by decide +kernel
theorem dX4_carryOut_43 : decode cX4_carryOut 43 = .ok (.aload_n 0, 1) := by decide +kernel
theorem dX4_carryOut_44 : decode cX4_carryOut 44 = .ok (.iload_n 1, 1) := by decide +kernel
theorem dX4_carryOut_45 : decode cX4_carryOut 45 = .ok (.invokevirtual 439, 3) := by decide +kernel
theorem dX4_carryOut_48 : decode cX4_carryOut 48 = .ok (.tableswitch 191 99 120 #[171, 191, 191, 146, 155, 191, 191, 191, 191, 137, 163, 104, 178, 111, 191, 191, 191, 131, 191, 191, 121, 185], 104) := by decide +kernel
theorem dX4_carryOut_152 : decode cX4_carryOut 152 = .ok (.aload_n 0, 1) := by decide +kernel
theorem dX4_carryOut_153 : decode cX4_carryOut 153 = .ok (.iload_n 1, 1) := by decide +kernel
theorem dX4_carryOut_154 : decode cX4_carryOut 154 = .ok (.iload_n 2, 1) := by decide +kernel
theorem dX4_carryOut_155 : decode cX4_carryOut 155 = .ok (.invokevirtual 492, 3) := by decide +kernel
theorem dX4_carryOut_158 : decode cX4_carryOut 158 = .ok (.ireturn, 1) := by decide +kernel
theorem dX4_carryOut_159 : decode cX4_carryOut 159 = .ok (.aload_n 0, 1) := by decide +kernel
theorem dX4_carryOut_160 : decode cX4_carryOut 160 = .ok (.iload_n 3, 1) := by decide +kernel
theorem dX4_carryOut_161 : decode cX4_carryOut 161 = .ok (.iload 4, 2) := by decide +kernel
theorem dX4_carryOut_163 : decode cX4_carryOut 163 = .ok (.iload 5, 2) := by decide +kernel
theorem dX4_carryOut_165 : decode cX4_carryOut 165 = .ok (.invokevirtual 162, 3) := by decide +kernel
theorem dX4_carryOut_168 : decode cX4_carryOut 168 = .ok (.ireturn, 1) := by decide +kernel
theorem dX4_carryOut_169 : decode cX4_carryOut 169 = .ok (.aload_n 0, 1) := by decide +kernel
theorem dX4_carryOut_170 : decode cX4_carryOut 170 = .ok (.iload_n 3, 1) := by decide +kernel
theorem dX4_carryOut_171 : decode cX4_carryOut 171 = .ok (.iload 4, 2) := by decide +kernel
theorem dX4_carryOut_173 : decode cX4_carryOut 173 = .ok (.iload 5, 2) := by decide +kernel
theorem dX4_carryOut_175 : decode cX4_carryOut 175 = .ok (.invokevirtual 176, 3) := by decide +kernel
theorem dX4_carryOut_178 : decode cX4_carryOut 178 = .ok (.ireturn, 1) := by decide +kernel
theorem dX4_carryOut_179 : decode cX4_carryOut 179 = .ok (.aload_n 0, 1) := by decide +kernel
theorem dX4_carryOut_180 : decode cX4_carryOut 180 = .ok (.iload_n 3, 1) := by decide +kernel
theorem dX4_carryOut_181 : decode cX4_carryOut 181 = .ok (.invokevirtual 182, 3) := by decide +kernel
theorem dX4_carryOut_184 : decode cX4_carryOut 184 = .ok (.ireturn, 1) := by decide +kernel
theorem dX4_carryOut_185 : decode cX4_carryOut 185 = .ok (.aload_n 0, 1) := by decide +kernel
theorem dX4_carryOut_186 : decode cX4_carryOut 186 = .ok (.iload_n 3, 1) := by decide +kernel
theorem dX4_carryOut_187 : decode cX4_carryOut 187 = .ok (.iload 4, 2) := by decide +kernel
theorem dX4_carryOut_189 : decode cX4_carryOut 189 = .ok (.iconst 1, 1) := by decide +kernel
theorem dX4_carryOut_190 : decode cX4_carryOut 190 = .ok (.invokevirtual 188, 3) := by decide +kernel
theorem dX4_carryOut_193 : decode cX4_carryOut 193 = .ok (.ireturn, 1) := by decide +kernel
theorem dX4_carryOut_194 : decode cX4_carryOut 194 = .ok (.aload_n 0, 1) := by decide +kernel
theorem dX4_carryOut_195 : decode cX4_carryOut 195 = .ok (.iload_n 3, 1) := by decide +kernel
theorem dX4_carryOut_196 : decode cX4_carryOut 196 = .ok (.iload 4, 2) := by decide +kernel
theorem dX4_carryOut_198 : decode cX4_carryOut 198 = .ok (.iconst 0, 1) := by decide +kernel
theorem dX4_carryOut_199 : decode cX4_carryOut 199 = .ok (.invokevirtual 188, 3) := by decide +kernel
theorem dX4_carryOut_202 : decode cX4_carryOut 202 = .ok (.ireturn, 1) := by decide +kernel
theorem dX4_carryOut_203 : decode cX4_carryOut 203 = .ok (.aload_n 0, 1) := by decide +kernel
theorem dX4_carryOut_204 : decode cX4_carryOut 204 = .ok (.iload_n 3, 1) := by decide +kernel
theorem dX4_carryOut_205 : decode cX4_carryOut 205 = .ok (.iload 4, 2) := by decide +kernel
theorem dX4_carryOut_207 : decode cX4_carryOut 207 = .ok (.invokevirtual 243, 3) := by decide +kernel
theorem dX4_carryOut_210 : decode cX4_carryOut 210 = .ok (.ireturn, 1) := by decide +kernel
theorem dX4_carryOut_211 : decode cX4_carryOut 211 = .ok (.aload_n 0, 1) := by decide +kernel
theorem dX4_carryOut_212 : decode cX4_carryOut 212 = .ok (.iload_n 3, 1) := by decide +kernel
theorem dX4_carryOut_213 : decode cX4_carryOut 213 = .ok (.iload 5, 2) := by decide +kernel
theorem dX4_carryOut_215 : decode cX4_carryOut 215 = .ok (.invokevirtual 104, 3) := by decide +kernel
theorem dX4_carryOut_218 : decode cX4_carryOut 218 = .ok (.ireturn, 1) := by decide +kernel
theorem dX4_carryOut_219 : decode cX4_carryOut 219 = .ok (.aload_n 0, 1) := by decide +kernel
theorem dX4_carryOut_220 : decode cX4_carryOut 220 = .ok (.iload_n 3, 1) := by decide +kernel
theorem dX4_carryOut_221 : decode cX4_carryOut 221 = .ok (.iconst 0, 1) := by decide +kernel
theorem dX4_carryOut_222 : decode cX4_carryOut 222 = .ok (.invokevirtual 108, 3) := by decide +kernel
theorem dX4_carryOut_225 : decode cX4_carryOut 225 = .ok (.ireturn, 1) := by decide +kernel
theorem dX4_carryOut_226 : decode cX4_carryOut 226 = .ok (.aload_n 0, 1) := by decide +kernel
theorem dX4_carryOut_227 : decode cX4_carryOut 227 = .ok (.iload_n 3, 1) := by decide +kernel
theorem dX4_carryOut_228 : decode cX4_carryOut 228 = .ok (.iconst 1, 1) := by decide +kernel
theorem dX4_carryOut_229 : decode cX4_carryOut 229 = .ok (.invokevirtual 108, 3) := by decide +kernel
theorem dX4_carryOut_232 : decode cX4_carryOut 232 = .ok (.ireturn, 1) := by decide +kernel
theorem dX4_carryOut_233 : decode cX4_carryOut 233 = .ok (.aload_n 0, 1) := by decide +kernel
theorem dX4_carryOut_234 : decode cX4_carryOut 234 = .ok (.iload_n 3, 1) := by decide +kernel
theorem dX4_carryOut_235 : decode cX4_carryOut 235 = .ok (.invokevirtual 97, 3) := by decide +kernel
theorem dX4_carryOut_238 : decode cX4_carryOut 238 = .ok (.ireturn, 1) := by decide +kernel
theorem dX4_carryOut_239 : decode cX4_carryOut 239 = .ok (.aload_n 0, 1) := by decide +kernel
theorem dX4_carryOut_240 : decode cX4_carryOut 240 = .ok (.invokevirtual 256, 3) := by decide +kernel
theorem dX4_carryOut_243 : decode cX4_carryOut 243 = .ok (.ireturn, 1) := by decide +kernel
theorem h9_X4_carryOut : yX4_carryOut.cls ≠ "java/lang/invoke/MethodHandle" ∧ yX4_carryOut.cls ≠ "java/lang/invoke/VarHandle" ∧ (parseMethodDescriptor yX4_carryOut.desc).map (fun d => d.parameters.length) = some 2 := by decide +kernel
noncomputable def F_X4_carryOut (a0 : Nat) (x1 : Int32) (x2 : Int32) (w : FW) : Option (Int32 × FW) :=
  fg (w.1 a0 = 5) inferInstance ((F_X4_digitAt a0 (x1 + 1) w).bind (fun r1 => ((if x2 ≤ (x1 + 2) then some 0 else (F_X4_signAt a0 (x1 + 2) w).bind (fun r107 => (if r107 = 114 then some 1 else some 0))) : Option (Int32)).bind (fun x5 => (F_X4_digitAt a0 (x2 - 1) w).bind (fun r9 => (F_X4_signAt a0 x1 w).bind (fun r12 => (if r12 = 99 then (F_X4_tryPier a0 r1 0 w).bind (fun r16 => some (r16.1, r16.2)) else (if r12 = 100 then (F_X4_letDayGoBy a0 w).bind (fun r20 => some (r20.1, r20.2)) else (if r12 = 101 then (F_X4_letDayGoBy a0 w).bind (fun r24 => some (r24.1, r24.2)) else (if r12 = 102 then (F_X4_tryLost a0 r1 x5 0 w).bind (fun r28 => some (r28.1, r28.2)) else (if r12 = 103 then (F_X4_tryRide a0 r1 x5 w).bind (fun r32 => some (r32.1, r32.2)) else (if r12 = 104 then (F_X4_letDayGoBy a0 w).bind (fun r36 => some (r36.1, r36.2)) else (if r12 = 105 then (F_X4_letDayGoBy a0 w).bind (fun r40 => some (r40.1, r40.2)) else (if r12 = 106 then (F_X4_letDayGoBy a0 w).bind (fun r44 => some (r44.1, r44.2)) else (if r12 = 107 then (F_X4_letDayGoBy a0 w).bind (fun r48 => some (r48.1, r48.2)) else (if r12 = 108 then (F_X4_tryLost a0 r1 x5 1 w).bind (fun r52 => some (r52.1, r52.2)) else (if r12 = 109 then (F_X4_tryMood a0 r1 r9 w).bind (fun r56 => some (r56.1, r56.2)) else (if r12 = 110 then (F_X4_carryOutPrint a0 x1 x2 w).bind (fun r60 => some (r60.1, r60.2)) else (if r12 = 111 then (F_X4_tryPier a0 r1 1 w).bind (fun r64 => some (r64.1, r64.2)) else (if r12 = 112 then (F_X4_tryPunch a0 r1 x5 r9 w).bind (fun r68 => some (r68.1, r68.2)) else (if r12 = 113 then (F_X4_letDayGoBy a0 w).bind (fun r72 => some (r72.1, r72.2)) else (if r12 = 114 then (F_X4_letDayGoBy a0 w).bind (fun r76 => some (r76.1, r76.2)) else (if r12 = 115 then (F_X4_letDayGoBy a0 w).bind (fun r80 => some (r80.1, r80.2)) else (if r12 = 116 then (F_X4_tryTear a0 r1 w).bind (fun r84 => some (r84.1, r84.2)) else (if r12 = 117 then (F_X4_letDayGoBy a0 w).bind (fun r88 => some (r88.1, r88.2)) else (if r12 = 118 then (F_X4_letDayGoBy a0 w).bind (fun r92 => some (r92.1, r92.2)) else (if r12 = 119 then (F_X4_tryWet a0 r1 x5 r9 w).bind (fun r96 => some (r96.1, r96.2)) else (if r12 = 120 then (F_X4_tryThrowAway a0 r1 w).bind (fun r100 => some (r100.1, r100.2)) else (F_X4_letDayGoBy a0 w).bind (fun r103 => some (r103.1, r103.2)))))))))))))))))))))))))))))
set_option maxHeartbeats 4000000 in
set_option maxRecDepth 100000 in
theorem c_X4_carryOut (l : Launch) (D : va_G) (cy : Nat → ClassId) (a0 : Nat) (x1 : Int32) (x2 : Int32) (w : FW) (r : Int32 × FW) (hF : F_X4_carryOut a0 x1 x2 w = some r) : fSpec l D cy yX4_carryOut cX4_carryOut 6 (some .int) { frames := 8, cells := 0, slots := 0, locals := 182 } [.ref a0, .int x1, .int x2] w r.2 (some (.int r.1)) := by
  refine f_begin (by decide +kernel) (Nat.le_of_ble_eq_true rfl) (fun X hC hEn => ?_)
  unfold F_X4_carryOut at hF
  show fAt X 0 0 6 w [(0, .ref a0), (1, .int x1), (2, .int x2)] [] 0
  refine f_aload_n hC dX4_carryOut_0 rfl 0 rfl ?_
  refine f_iload_n hC dX4_carryOut_1 rfl 1 rfl ?_
  refine f_iconst (v := 1) hC dX4_carryOut_2 (by decide) ?_
  refine f_iadd hC dX4_carryOut_3 ?_
  obtain ⟨g3, hF⟩ := fg_open hF
  obtain ⟨r1, h2, hF⟩ := fb_open hF
  refine f_callV hC [.int (x1 + 1)] (c_X4_digitAt l D cy a0 (x1 + 1) w r1 h2) q_961 q_73 q_958 q_960 q_32 h9_X4_digitAt rfl (fSm.k (fSm.rf w) g3) ⟨Nat.le_of_ble_eq_true rfl, Nat.le_of_ble_eq_true rfl⟩ ⟨Nat.le_of_ble_eq_true rfl, Nat.le_of_ble_eq_true rfl⟩ (Nat.le_of_ble_eq_true rfl) rfl dX4_carryOut_4 (fun e4 => ?_)
  refine f_istore_n (L' := [(3, .int r1), (0, .ref a0), (1, .int x1), (2, .int x2)]) hC dX4_carryOut_7 rfl (by decide) rfl ?_
  refine f_iload_n hC dX4_carryOut_8 rfl 2 rfl ?_
  refine f_iconst (v := 2) hC dX4_carryOut_9 (by decide) ?_
  refine f_iadd hC dX4_carryOut_10 ?_
  refine f_iload_n hC dX4_carryOut_11 rfl 3 rfl ?_
  obtain ⟨x5, h6, hF⟩ := fb_open hF
  have K8 : fAt X 0 0 6 w [(0, .ref a0), (1, .int x1), (2, .int x2), (3, .int r1)] [.int x5] 32 := by
    refine f_istore (L' := [(4, .int x5), (0, .ref a0), (1, .int x1), (2, .int x2), (3, .int r1)]) hC dX4_carryOut_32 (by decide) rfl ?_
    refine f_aload_n hC dX4_carryOut_34 rfl 1 rfl ?_
    refine f_iload_n hC dX4_carryOut_35 rfl 3 rfl ?_
    refine f_iconst (v := 1) hC dX4_carryOut_36 (by decide) ?_
    refine f_isub hC dX4_carryOut_37 ?_
    obtain ⟨r9, h10, hF⟩ := fb_open hF
    refine f_callV hC [.int (x2 - 1)] (c_X4_digitAt l D cy a0 (x2 - 1) w r9 h10) q_961 q_73 q_958 q_960 q_32 h9_X4_digitAt rfl (fSm.k (fSm.rf w) g3) ⟨Nat.le_of_ble_eq_true rfl, Nat.le_of_ble_eq_true rfl⟩ ⟨Nat.le_of_ble_eq_true rfl, Nat.le_of_ble_eq_true rfl⟩ (Nat.le_of_ble_eq_true rfl) rfl dX4_carryOut_38 (fun e11 => ?_)
    refine f_istore (L' := [(5, .int r9), (4, .int x5), (0, .ref a0), (1, .int x1), (2, .int x2), (3, .int r1)]) hC dX4_carryOut_41 (by decide) rfl ?_
    refine f_aload_n hC dX4_carryOut_43 rfl 2 rfl ?_
    refine f_iload_n hC dX4_carryOut_44 rfl 3 rfl ?_
    obtain ⟨r12, h13, hF⟩ := fb_open hF
    refine f_callV hC [.int x1] (c_X4_signAt l D cy a0 x1 w r12 h13) q_897 q_73 q_894 q_896 q_22 h9_X4_signAt rfl (fSm.k (fSm.rf w) g3) ⟨Nat.le_of_ble_eq_true rfl, Nat.le_of_ble_eq_true rfl⟩ ⟨Nat.le_of_ble_eq_true rfl, Nat.le_of_ble_eq_true rfl⟩ (Nat.le_of_ble_eq_true rfl) rfl dX4_carryOut_45 (fun e14 => ?_)
    by_cases c15 : r12 = 99
    · replace hF := fi_pos hF c15
      refine f_tabIn hC 219 dX4_carryOut_48 (by rw [c15] <;> decide) (by rw [c15] <;> decide) (by rw [c15] <;> rfl) (by decide) ?_
      refine f_aload_n hC dX4_carryOut_219 rfl 2 rfl ?_
      refine f_iload_n hC dX4_carryOut_220 rfl 5 rfl ?_
      refine f_iconst (v := 0) hC dX4_carryOut_221 (by decide) ?_
      obtain ⟨r16, h17, hF⟩ := fb_open hF
      refine f_callV hC [.int r1, .int 0] (c_X4_tryPier l D cy a0 r1 0 w r16 h17) q_1035 q_73 q_1032 q_1034 q_48 h9_X4_tryPier rfl (fSm.k (fSm.rf w) g3) ⟨Nat.le_of_ble_eq_true rfl, Nat.le_of_ble_eq_true rfl⟩ ⟨Nat.le_of_ble_eq_true rfl, Nat.le_of_ble_eq_true rfl⟩ (Nat.le_of_ble_eq_true rfl) rfl dX4_carryOut_222 (fun e18 => ?_)
      obtain rfl := Option.some.inj hF
      exact f_iret hC hEn (fSm.tr e18 (fSm.rf w)) dX4_carryOut_225
    · replace hF := fi_neg hF c15
      by_cases c19 : r12 = 100
      · replace hF := fi_pos hF c19
        refine f_tabIn hC 239 dX4_carryOut_48 (by rw [c19] <;> decide) (by rw [c19] <;> decide) (by rw [c19] <;> rfl) (by decide) ?_
        refine f_aload_n hC dX4_carryOut_239 rfl 2 rfl ?_
        obtain ⟨r20, h21, hF⟩ := fb_open hF
        refine f_callV hC [] (c_X4_letDayGoBy l D cy a0 w r20 h21) q_1047 q_73 q_1044 q_1046 q_51 h9_X4_letDayGoBy rfl (fSm.k (fSm.rf w) g3) ⟨Nat.le_of_ble_eq_true rfl, Nat.le_of_ble_eq_true rfl⟩ ⟨Nat.le_of_ble_eq_true rfl, Nat.le_of_ble_eq_true rfl⟩ (Nat.le_of_ble_eq_true rfl) rfl dX4_carryOut_240 (fun e22 => ?_)
        obtain rfl := Option.some.inj hF
        exact f_iret hC hEn (fSm.tr e22 (fSm.rf w)) dX4_carryOut_243
      · replace hF := fi_neg hF c19
        by_cases c23 : r12 = 101
        · replace hF := fi_pos hF c23
          refine f_tabIn hC 239 dX4_carryOut_48 (by rw [c23] <;> decide) (by rw [c23] <;> decide) (by rw [c23] <;> rfl) (by decide) ?_
          refine f_aload_n hC dX4_carryOut_239 rfl 2 rfl ?_
          obtain ⟨r24, h25, hF⟩ := fb_open hF
          refine f_callV hC [] (c_X4_letDayGoBy l D cy a0 w r24 h25) q_1047 q_73 q_1044 q_1046 q_51 h9_X4_letDayGoBy rfl (fSm.k (fSm.rf w) g3) ⟨Nat.le_of_ble_eq_true rfl, Nat.le_of_ble_eq_true rfl⟩ ⟨Nat.le_of_ble_eq_true rfl, Nat.le_of_ble_eq_true rfl⟩ (Nat.le_of_ble_eq_true rfl) rfl dX4_carryOut_240 (fun e26 => ?_)
          obtain rfl := Option.some.inj hF
          exact f_iret hC hEn (fSm.tr e26 (fSm.rf w)) dX4_carryOut_243
        · replace hF := fi_neg hF c23
          by_cases c27 : r12 = 102
          · replace hF := fi_pos hF c27
            refine f_tabIn hC 194 dX4_carryOut_48 (by rw [c27] <;> decide) (by rw [c27] <;> decide) (by rw [c27] <;> rfl) (by decide) ?_
            refine f_aload_n hC dX4_carryOut_194 rfl 2 rfl ?_
            refine f_iload_n hC dX4_carryOut_195 rfl 5 rfl ?_
            refine f_iload hC dX4_carryOut_196 1 rfl ?_
            refine f_iconst (v := 0) hC dX4_carryOut_198 (by decide) ?_
            obtain ⟨r28, h29, hF⟩ := fb_open hF
            refine f_callV hC [.int r1, .int x5, .int 0] (c_X4_tryLost l D cy a0 r1 x5 0 w r28 h29) q_1017 q_73 q_1014 q_1016 q_44 h9_X4_tryLost rfl (fSm.k (fSm.rf w) g3) ⟨Nat.le_of_ble_eq_true rfl, Nat.le_of_ble_eq_true rfl⟩ ⟨Nat.le_of_ble_eq_true rfl, Nat.le_of_ble_eq_true rfl⟩ (Nat.le_of_ble_eq_true rfl) rfl dX4_carryOut_199 (fun e30 => ?_)
            obtain rfl := Option.some.inj hF
            exact f_iret hC hEn (fSm.tr e30 (fSm.rf w)) dX4_carryOut_202
          · replace hF := fi_neg hF c27
            by_cases c31 : r12 = 103
            · replace hF := fi_pos hF c31
              refine f_tabIn hC 203 dX4_carryOut_48 (by rw [c31] <;> decide) (by rw [c31] <;> decide) (by rw [c31] <;> rfl) (by decide) ?_
              refine f_aload_n hC dX4_carryOut_203 rfl 2 rfl ?_
              refine f_iload_n hC dX4_carryOut_204 rfl 5 rfl ?_
              refine f_iload hC dX4_carryOut_205 1 rfl ?_
              obtain ⟨r32, h33, hF⟩ := fb_open hF
              refine f_callV hC [.int r1, .int x5] (c_X4_tryRide l D cy a0 r1 x5 w r32 h33) q_1021 q_73 q_1018 q_1020 q_45 h9_X4_tryRide rfl (fSm.k (fSm.rf w) g3) ⟨Nat.le_of_ble_eq_true rfl, Nat.le_of_ble_eq_true rfl⟩ ⟨Nat.le_of_ble_eq_true rfl, Nat.le_of_ble_eq_true rfl⟩ (Nat.le_of_ble_eq_true rfl) rfl dX4_carryOut_207 (fun e34 => ?_)
              obtain rfl := Option.some.inj hF
              exact f_iret hC hEn (fSm.tr e34 (fSm.rf w)) dX4_carryOut_210
            · replace hF := fi_neg hF c31
              by_cases c35 : r12 = 104
              · replace hF := fi_pos hF c35
                refine f_tabIn hC 239 dX4_carryOut_48 (by rw [c35] <;> decide) (by rw [c35] <;> decide) (by rw [c35] <;> rfl) (by decide) ?_
                refine f_aload_n hC dX4_carryOut_239 rfl 2 rfl ?_
                obtain ⟨r36, h37, hF⟩ := fb_open hF
                refine f_callV hC [] (c_X4_letDayGoBy l D cy a0 w r36 h37) q_1047 q_73 q_1044 q_1046 q_51 h9_X4_letDayGoBy rfl (fSm.k (fSm.rf w) g3) ⟨Nat.le_of_ble_eq_true rfl, Nat.le_of_ble_eq_true rfl⟩ ⟨Nat.le_of_ble_eq_true rfl, Nat.le_of_ble_eq_true rfl⟩ (Nat.le_of_ble_eq_true rfl) rfl dX4_carryOut_240 (fun e38 => ?_)
                obtain rfl := Option.some.inj hF
                exact f_iret hC hEn (fSm.tr e38 (fSm.rf w)) dX4_carryOut_243
              · replace hF := fi_neg hF c35
                by_cases c39 : r12 = 105
                · replace hF := fi_pos hF c39
                  refine f_tabIn hC 239 dX4_carryOut_48 (by rw [c39] <;> decide) (by rw [c39] <;> decide) (by rw [c39] <;> rfl) (by decide) ?_
                  refine f_aload_n hC dX4_carryOut_239 rfl 2 rfl ?_
                  obtain ⟨r40, h41, hF⟩ := fb_open hF
                  refine f_callV hC [] (c_X4_letDayGoBy l D cy a0 w r40 h41) q_1047 q_73 q_1044 q_1046 q_51 h9_X4_letDayGoBy rfl (fSm.k (fSm.rf w) g3) ⟨Nat.le_of_ble_eq_true rfl, Nat.le_of_ble_eq_true rfl⟩ ⟨Nat.le_of_ble_eq_true rfl, Nat.le_of_ble_eq_true rfl⟩ (Nat.le_of_ble_eq_true rfl) rfl dX4_carryOut_240 (fun e42 => ?_)
                  obtain rfl := Option.some.inj hF
                  exact f_iret hC hEn (fSm.tr e42 (fSm.rf w)) dX4_carryOut_243
                · replace hF := fi_neg hF c39
                  by_cases c43 : r12 = 106
                  · replace hF := fi_pos hF c43
                    refine f_tabIn hC 239 dX4_carryOut_48 (by rw [c43] <;> decide) (by rw [c43] <;> decide) (by rw [c43] <;> rfl) (by decide) ?_
                    refine f_aload_n hC dX4_carryOut_239 rfl 2 rfl ?_
                    obtain ⟨r44, h45, hF⟩ := fb_open hF
                    refine f_callV hC [] (c_X4_letDayGoBy l D cy a0 w r44 h45) q_1047 q_73 q_1044 q_1046 q_51 h9_X4_letDayGoBy rfl (fSm.k (fSm.rf w) g3) ⟨Nat.le_of_ble_eq_true rfl, Nat.le_of_ble_eq_true rfl⟩ ⟨Nat.le_of_ble_eq_true rfl, Nat.le_of_ble_eq_true rfl⟩ (Nat.le_of_ble_eq_true rfl) rfl dX4_carryOut_240 (fun e46 => ?_)
                    obtain rfl := Option.some.inj hF
                    exact f_iret hC hEn (fSm.tr e46 (fSm.rf w)) dX4_carryOut_243
                  · replace hF := fi_neg hF c43
                    by_cases c47 : r12 = 107
                    · replace hF := fi_pos hF c47
                      refine f_tabIn hC 239 dX4_carryOut_48 (by rw [c47] <;> decide) (by rw [c47] <;> decide) (by rw [c47] <;> rfl) (by decide) ?_
                      refine f_aload_n hC dX4_carryOut_239 rfl 2 rfl ?_
                      obtain ⟨r48, h49, hF⟩ := fb_open hF
                      refine f_callV hC [] (c_X4_letDayGoBy l D cy a0 w r48 h49) q_1047 q_73 q_1044 q_1046 q_51 h9_X4_letDayGoBy rfl (fSm.k (fSm.rf w) g3) ⟨Nat.le_of_ble_eq_true rfl, Nat.le_of_ble_eq_true rfl⟩ ⟨Nat.le_of_ble_eq_true rfl, Nat.le_of_ble_eq_true rfl⟩ (Nat.le_of_ble_eq_true rfl) rfl dX4_carryOut_240 (fun e50 => ?_)
                      obtain rfl := Option.some.inj hF
                      exact f_iret hC hEn (fSm.tr e50 (fSm.rf w)) dX4_carryOut_243
                    · replace hF := fi_neg hF c47
                      by_cases c51 : r12 = 108
                      · replace hF := fi_pos hF c51
                        refine f_tabIn hC 185 dX4_carryOut_48 (by rw [c51] <;> decide) (by rw [c51] <;> decide) (by rw [c51] <;> rfl) (by decide) ?_
                        refine f_aload_n hC dX4_carryOut_185 rfl 2 rfl ?_
                        refine f_iload_n hC dX4_carryOut_186 rfl 5 rfl ?_
                        refine f_iload hC dX4_carryOut_187 1 rfl ?_
                        refine f_iconst (v := 1) hC dX4_carryOut_189 (by decide) ?_
                        obtain ⟨r52, h53, hF⟩ := fb_open hF
                        refine f_callV hC [.int r1, .int x5, .int 1] (c_X4_tryLost l D cy a0 r1 x5 1 w r52 h53) q_1017 q_73 q_1014 q_1016 q_44 h9_X4_tryLost rfl (fSm.k (fSm.rf w) g3) ⟨Nat.le_of_ble_eq_true rfl, Nat.le_of_ble_eq_true rfl⟩ ⟨Nat.le_of_ble_eq_true rfl, Nat.le_of_ble_eq_true rfl⟩ (Nat.le_of_ble_eq_true rfl) rfl dX4_carryOut_190 (fun e54 => ?_)
                        obtain rfl := Option.some.inj hF
                        exact f_iret hC hEn (fSm.tr e54 (fSm.rf w)) dX4_carryOut_193
                      · replace hF := fi_neg hF c51
                        by_cases c55 : r12 = 109
                        · replace hF := fi_pos hF c55
                          refine f_tabIn hC 211 dX4_carryOut_48 (by rw [c55] <;> decide) (by rw [c55] <;> decide) (by rw [c55] <;> rfl) (by decide) ?_
                          refine f_aload_n hC dX4_carryOut_211 rfl 2 rfl ?_
                          refine f_iload_n hC dX4_carryOut_212 rfl 5 rfl ?_
                          refine f_iload hC dX4_carryOut_213 0 rfl ?_
                          obtain ⟨r56, h57, hF⟩ := fb_open hF
                          refine f_callV hC [.int r1, .int r9] (c_X4_tryMood l D cy a0 r1 r9 w r56 h57) q_1031 q_73 q_1028 q_1030 q_47 h9_X4_tryMood rfl (fSm.k (fSm.rf w) g3) ⟨Nat.le_of_ble_eq_true rfl, Nat.le_of_ble_eq_true rfl⟩ ⟨Nat.le_of_ble_eq_true rfl, Nat.le_of_ble_eq_true rfl⟩ (Nat.le_of_ble_eq_true rfl) rfl dX4_carryOut_215 (fun e58 => ?_)
                          obtain rfl := Option.some.inj hF
                          exact f_iret hC hEn (fSm.tr e58 (fSm.rf w)) dX4_carryOut_218
                        · replace hF := fi_neg hF c55
                          by_cases c59 : r12 = 110
                          · replace hF := fi_pos hF c59
                            refine f_tabIn hC 152 dX4_carryOut_48 (by rw [c59] <;> decide) (by rw [c59] <;> decide) (by rw [c59] <;> rfl) (by decide) ?_
                            refine f_aload_n hC dX4_carryOut_152 rfl 2 rfl ?_
                            refine f_iload_n hC dX4_carryOut_153 rfl 3 rfl ?_
                            refine f_iload_n hC dX4_carryOut_154 rfl 4 rfl ?_
                            obtain ⟨r60, h61, hF⟩ := fb_open hF
                            refine f_callV hC [.int x1, .int x2] (c_X4_carryOutPrint l D cy a0 x1 x2 w r60 h61) q_965 q_73 q_962 q_964 q_33 h9_X4_carryOutPrint rfl (fSm.k (fSm.rf w) g3) ⟨Nat.le_of_ble_eq_true rfl, Nat.le_of_ble_eq_true rfl⟩ ⟨Nat.le_of_ble_eq_true rfl, Nat.le_of_ble_eq_true rfl⟩ (Nat.le_of_ble_eq_true rfl) rfl dX4_carryOut_155 (fun e62 => ?_)
                            obtain rfl := Option.some.inj hF
                            exact f_iret hC hEn (fSm.tr e62 (fSm.rf w)) dX4_carryOut_158
                          · replace hF := fi_neg hF c59
                            by_cases c63 : r12 = 111
                            · replace hF := fi_pos hF c63
                              refine f_tabIn hC 226 dX4_carryOut_48 (by rw [c63] <;> decide) (by rw [c63] <;> decide) (by rw [c63] <;> rfl) (by decide) ?_
                              refine f_aload_n hC dX4_carryOut_226 rfl 2 rfl ?_
                              refine f_iload_n hC dX4_carryOut_227 rfl 5 rfl ?_
                              refine f_iconst (v := 1) hC dX4_carryOut_228 (by decide) ?_
                              obtain ⟨r64, h65, hF⟩ := fb_open hF
                              refine f_callV hC [.int r1, .int 1] (c_X4_tryPier l D cy a0 r1 1 w r64 h65) q_1035 q_73 q_1032 q_1034 q_48 h9_X4_tryPier rfl (fSm.k (fSm.rf w) g3) ⟨Nat.le_of_ble_eq_true rfl, Nat.le_of_ble_eq_true rfl⟩ ⟨Nat.le_of_ble_eq_true rfl, Nat.le_of_ble_eq_true rfl⟩ (Nat.le_of_ble_eq_true rfl) rfl dX4_carryOut_229 (fun e66 => ?_)
                              obtain rfl := Option.some.inj hF
                              exact f_iret hC hEn (fSm.tr e66 (fSm.rf w)) dX4_carryOut_232
                            · replace hF := fi_neg hF c63
                              by_cases c67 : r12 = 112
                              · replace hF := fi_pos hF c67
                                refine f_tabIn hC 159 dX4_carryOut_48 (by rw [c67] <;> decide) (by rw [c67] <;> decide) (by rw [c67] <;> rfl) (by decide) ?_
                                refine f_aload_n hC dX4_carryOut_159 rfl 2 rfl ?_
                                refine f_iload_n hC dX4_carryOut_160 rfl 5 rfl ?_
                                refine f_iload hC dX4_carryOut_161 1 rfl ?_
                                refine f_iload hC dX4_carryOut_163 0 rfl ?_
                                obtain ⟨r68, h69, hF⟩ := fb_open hF
                                refine f_callV hC [.int r1, .int x5, .int r9] (c_X4_tryPunch l D cy a0 r1 x5 r9 w r68 h69) q_996 q_73 q_993 q_995 q_40 h9_X4_tryPunch rfl (fSm.k (fSm.rf w) g3) ⟨Nat.le_of_ble_eq_true rfl, Nat.le_of_ble_eq_true rfl⟩ ⟨Nat.le_of_ble_eq_true rfl, Nat.le_of_ble_eq_true rfl⟩ (Nat.le_of_ble_eq_true rfl) rfl dX4_carryOut_165 (fun e70 => ?_)
                                obtain rfl := Option.some.inj hF
                                exact f_iret hC hEn (fSm.tr e70 (fSm.rf w)) dX4_carryOut_168
                              · replace hF := fi_neg hF c67
                                by_cases c71 : r12 = 113
                                · replace hF := fi_pos hF c71
                                  refine f_tabIn hC 239 dX4_carryOut_48 (by rw [c71] <;> decide) (by rw [c71] <;> decide) (by rw [c71] <;> rfl) (by decide) ?_
                                  refine f_aload_n hC dX4_carryOut_239 rfl 2 rfl ?_
                                  obtain ⟨r72, h73, hF⟩ := fb_open hF
                                  refine f_callV hC [] (c_X4_letDayGoBy l D cy a0 w r72 h73) q_1047 q_73 q_1044 q_1046 q_51 h9_X4_letDayGoBy rfl (fSm.k (fSm.rf w) g3) ⟨Nat.le_of_ble_eq_true rfl, Nat.le_of_ble_eq_true rfl⟩ ⟨Nat.le_of_ble_eq_true rfl, Nat.le_of_ble_eq_true rfl⟩ (Nat.le_of_ble_eq_true rfl) rfl dX4_carryOut_240 (fun e74 => ?_)
                                  obtain rfl := Option.some.inj hF
                                  exact f_iret hC hEn (fSm.tr e74 (fSm.rf w)) dX4_carryOut_243
                                · replace hF := fi_neg hF c71
                                  by_cases c75 : r12 = 114
                                  · replace hF := fi_pos hF c75
                                    refine f_tabIn hC 239 dX4_carryOut_48 (by rw [c75] <;> decide) (by rw [c75] <;> decide) (by rw [c75] <;> rfl) (by decide) ?_
                                    refine f_aload_n hC dX4_carryOut_239 rfl 2 rfl ?_
                                    obtain ⟨r76, h77, hF⟩ := fb_open hF
                                    refine f_callV hC [] (c_X4_letDayGoBy l D cy a0 w r76 h77) q_1047 q_73 q_1044 q_1046 q_51 h9_X4_letDayGoBy rfl (fSm.k (fSm.rf w) g3) ⟨Nat.le_of_ble_eq_true rfl, Nat.le_of_ble_eq_true rfl⟩ ⟨Nat.le_of_ble_eq_true rfl, Nat.le_of_ble_eq_true rfl⟩ (Nat.le_of_ble_eq_true rfl) rfl dX4_carryOut_240 (fun e78 => ?_)
                                    obtain rfl := Option.some.inj hF
                                    exact f_iret hC hEn (fSm.tr e78 (fSm.rf w)) dX4_carryOut_243
                                  · replace hF := fi_neg hF c75
                                    by_cases c79 : r12 = 115
                                    · replace hF := fi_pos hF c79
                                      refine f_tabIn hC 239 dX4_carryOut_48 (by rw [c79] <;> decide) (by rw [c79] <;> decide) (by rw [c79] <;> rfl) (by decide) ?_
                                      refine f_aload_n hC dX4_carryOut_239 rfl 2 rfl ?_
                                      obtain ⟨r80, h81, hF⟩ := fb_open hF
                                      refine f_callV hC [] (c_X4_letDayGoBy l D cy a0 w r80 h81) q_1047 q_73 q_1044 q_1046 q_51 h9_X4_letDayGoBy rfl (fSm.k (fSm.rf w) g3) ⟨Nat.le_of_ble_eq_true rfl, Nat.le_of_ble_eq_true rfl⟩ ⟨Nat.le_of_ble_eq_true rfl, Nat.le_of_ble_eq_true rfl⟩ (Nat.le_of_ble_eq_true rfl) rfl dX4_carryOut_240 (fun e82 => ?_)
                                      obtain rfl := Option.some.inj hF
                                      exact f_iret hC hEn (fSm.tr e82 (fSm.rf w)) dX4_carryOut_243
                                    · replace hF := fi_neg hF c79
                                      by_cases c83 : r12 = 116
                                      · replace hF := fi_pos hF c83
                                        refine f_tabIn hC 179 dX4_carryOut_48 (by rw [c83] <;> decide) (by rw [c83] <;> decide) (by rw [c83] <;> rfl) (by decide) ?_
                                        refine f_aload_n hC dX4_carryOut_179 rfl 2 rfl ?_
                                        refine f_iload_n hC dX4_carryOut_180 rfl 5 rfl ?_
                                        obtain ⟨r84, h85, hF⟩ := fb_open hF
                                        refine f_callV hC [.int r1] (c_X4_tryTear l D cy a0 r1 w r84 h85) q_1013 q_73 q_1010 q_1012 q_43 h9_X4_tryTear rfl (fSm.k (fSm.rf w) g3) ⟨Nat.le_of_ble_eq_true rfl, Nat.le_of_ble_eq_true rfl⟩ ⟨Nat.le_of_ble_eq_true rfl, Nat.le_of_ble_eq_true rfl⟩ (Nat.le_of_ble_eq_true rfl) rfl dX4_carryOut_181 (fun e86 => ?_)
                                        obtain rfl := Option.some.inj hF
                                        exact f_iret hC hEn (fSm.tr e86 (fSm.rf w)) dX4_carryOut_184
                                      · replace hF := fi_neg hF c83
                                        by_cases c87 : r12 = 117
                                        · replace hF := fi_pos hF c87
                                          refine f_tabIn hC 239 dX4_carryOut_48 (by rw [c87] <;> decide) (by rw [c87] <;> decide) (by rw [c87] <;> rfl) (by decide) ?_
                                          refine f_aload_n hC dX4_carryOut_239 rfl 2 rfl ?_
                                          obtain ⟨r88, h89, hF⟩ := fb_open hF
                                          refine f_callV hC [] (c_X4_letDayGoBy l D cy a0 w r88 h89) q_1047 q_73 q_1044 q_1046 q_51 h9_X4_letDayGoBy rfl (fSm.k (fSm.rf w) g3) ⟨Nat.le_of_ble_eq_true rfl, Nat.le_of_ble_eq_true rfl⟩ ⟨Nat.le_of_ble_eq_true rfl, Nat.le_of_ble_eq_true rfl⟩ (Nat.le_of_ble_eq_true rfl) rfl dX4_carryOut_240 (fun e90 => ?_)
                                          obtain rfl := Option.some.inj hF
                                          exact f_iret hC hEn (fSm.tr e90 (fSm.rf w)) dX4_carryOut_243
                                        · replace hF := fi_neg hF c87
                                          by_cases c91 : r12 = 118
                                          · replace hF := fi_pos hF c91
                                            refine f_tabIn hC 239 dX4_carryOut_48 (by rw [c91] <;> decide) (by rw [c91] <;> decide) (by rw [c91] <;> rfl) (by decide) ?_
                                            refine f_aload_n hC dX4_carryOut_239 rfl 2 rfl ?_
                                            obtain ⟨r92, h93, hF⟩ := fb_open hF
                                            refine f_callV hC [] (c_X4_letDayGoBy l D cy a0 w r92 h93) q_1047 q_73 q_1044 q_1046 q_51 h9_X4_letDayGoBy rfl (fSm.k (fSm.rf w) g3) ⟨Nat.le_of_ble_eq_true rfl, Nat.le_of_ble_eq_true rfl⟩ ⟨Nat.le_of_ble_eq_true rfl, Nat.le_of_ble_eq_true rfl⟩ (Nat.le_of_ble_eq_true rfl) rfl dX4_carryOut_240 (fun e94 => ?_)
                                            obtain rfl := Option.some.inj hF
                                            exact f_iret hC hEn (fSm.tr e94 (fSm.rf w)) dX4_carryOut_243
                                          · replace hF := fi_neg hF c91
                                            by_cases c95 : r12 = 119
                                            · replace hF := fi_pos hF c95
                                              refine f_tabIn hC 169 dX4_carryOut_48 (by rw [c95] <;> decide) (by rw [c95] <;> decide) (by rw [c95] <;> rfl) (by decide) ?_
                                              refine f_aload_n hC dX4_carryOut_169 rfl 2 rfl ?_
                                              refine f_iload_n hC dX4_carryOut_170 rfl 5 rfl ?_
                                              refine f_iload hC dX4_carryOut_171 1 rfl ?_
                                              refine f_iload hC dX4_carryOut_173 0 rfl ?_
                                              obtain ⟨r96, h97, hF⟩ := fb_open hF
                                              refine f_callV hC [.int r1, .int x5, .int r9] (c_X4_tryWet l D cy a0 r1 x5 r9 w r96 h97) q_1003 q_73 q_1000 q_1002 q_41 h9_X4_tryWet rfl (fSm.k (fSm.rf w) g3) ⟨Nat.le_of_ble_eq_true rfl, Nat.le_of_ble_eq_true rfl⟩ ⟨Nat.le_of_ble_eq_true rfl, Nat.le_of_ble_eq_true rfl⟩ (Nat.le_of_ble_eq_true rfl) rfl dX4_carryOut_175 (fun e98 => ?_)
                                              obtain rfl := Option.some.inj hF
                                              exact f_iret hC hEn (fSm.tr e98 (fSm.rf w)) dX4_carryOut_178
                                            · replace hF := fi_neg hF c95
                                              by_cases c99 : r12 = 120
                                              · replace hF := fi_pos hF c99
                                                refine f_tabIn hC 233 dX4_carryOut_48 (by rw [c99] <;> decide) (by rw [c99] <;> decide) (by rw [c99] <;> rfl) (by decide) ?_
                                                refine f_aload_n hC dX4_carryOut_233 rfl 2 rfl ?_
                                                refine f_iload_n hC dX4_carryOut_234 rfl 5 rfl ?_
                                                obtain ⟨r100, h101, hF⟩ := fb_open hF
                                                refine f_callV hC [.int r1] (c_X4_tryThrowAway l D cy a0 r1 w r100 h101) q_1039 q_73 q_1036 q_1038 q_49 h9_X4_tryThrowAway rfl (fSm.k (fSm.rf w) g3) ⟨Nat.le_of_ble_eq_true rfl, Nat.le_of_ble_eq_true rfl⟩ ⟨Nat.le_of_ble_eq_true rfl, Nat.le_of_ble_eq_true rfl⟩ (Nat.le_of_ble_eq_true rfl) rfl dX4_carryOut_235 (fun e102 => ?_)
                                                obtain rfl := Option.some.inj hF
                                                exact f_iret hC hEn (fSm.tr e102 (fSm.rf w)) dX4_carryOut_238
                                              · replace hF := fi_neg hF c99
                                                refine f_tabOut hC 239 dX4_carryOut_48 (ftab 99 120 (by decide) (by decide) (fun j h1 h2 => ?_)) (by decide) ?_
                                                · rcases (show j = 99 ∨ j = 100 ∨ j = 101 ∨ j = 102 ∨ j = 103 ∨ j = 104 ∨ j = 105 ∨ j = 106 ∨ j = 107 ∨ j = 108 ∨ j = 109 ∨ j = 110 ∨ j = 111 ∨ j = 112 ∨ j = 113 ∨ j = 114 ∨ j = 115 ∨ j = 116 ∨ j = 117 ∨ j = 118 ∨ j = 119 ∨ j = 120 by omega) with rfl | rfl | rfl | rfl | rfl | rfl | rfl | rfl | rfl | rfl | rfl | rfl | rfl | rfl | rfl | rfl | rfl | rfl | rfl | rfl | rfl | rfl
                                                  · exact c15
                                                  · exact c19
                                                  · exact c23
                                                  · exact c27
                                                  · exact c31
                                                  · exact c35
                                                  · exact c39
                                                  · exact c43
                                                  · exact c47
                                                  · exact c51
                                                  · exact c55
                                                  · exact c59
                                                  · exact c63
                                                  · exact c67
                                                  · exact c71
                                                  · exact c75
                                                  · exact c79
                                                  · exact c83
                                                  · exact c87
                                                  · exact c91
                                                  · exact c95
                                                  · exact c99
                                                refine f_aload_n hC dX4_carryOut_239 rfl 2 rfl ?_
                                                obtain ⟨r103, h104, hF⟩ := fb_open hF
                                                refine f_callV hC [] (c_X4_letDayGoBy l D cy a0 w r103 h104) q_1047 q_73 q_1044 q_1046 q_51 h9_X4_letDayGoBy rfl (fSm.k (fSm.rf w) g3) ⟨Nat.le_of_ble_eq_true rfl, Nat.le_of_ble_eq_true rfl⟩ ⟨Nat.le_of_ble_eq_true rfl, Nat.le_of_ble_eq_true rfl⟩ (Nat.le_of_ble_eq_true rfl) rfl dX4_carryOut_240 (fun e105 => ?_)
                                                obtain rfl := Option.some.inj hF
                                                exact f_iret hC hEn (fSm.tr e105 (fSm.rf w)) dX4_carryOut_243
  refine f_icmp_ge hC 31 dX4_carryOut_12 (by decide) (fun c106 => ?_) (fun c106 => ?_)
  · replace h6 := fi_pos h6 c106
    refine f_iconst (v := 0) hC dX4_carryOut_31 (by decide) ?_
    obtain rfl := Option.some.inj h6
    refine f_sub (L' := [(0, .ref a0), (1, .int x1), (2, .int x2), (3, .int r1)]) [1, 2, 3, 0] rfl ?_
    exact K8
  · replace h6 := fi_neg h6 c106
    refine f_aload_n hC dX4_carryOut_15 rfl 1 rfl ?_
    refine f_iload_n hC dX4_carryOut_16 rfl 2 rfl ?_
    refine f_iconst (v := 2) hC dX4_carryOut_17 (by decide) ?_
    refine f_iadd hC dX4_carryOut_18 ?_
    obtain ⟨r107, h108, h6⟩ := fb_open h6
    refine f_callV hC [.int (x1 + 2)] (c_X4_signAt l D cy a0 (x1 + 2) w r107 h108) q_897 q_73 q_894 q_896 q_22 h9_X4_signAt rfl (fSm.k (fSm.rf w) g3) ⟨Nat.le_of_ble_eq_true rfl, Nat.le_of_ble_eq_true rfl⟩ ⟨Nat.le_of_ble_eq_true rfl, Nat.le_of_ble_eq_true rfl⟩ (Nat.le_of_ble_eq_true rfl) rfl dX4_carryOut_19 (fun e109 => ?_)
    refine f_bipush (v := 114) hC dX4_carryOut_22 (by decide) ?_
    refine f_icmp_ne hC 31 dX4_carryOut_24 (by decide) (fun c110 => ?_) (fun c110 => ?_)
    · replace h6 := fi_neg h6 c110
      refine f_iconst (v := 0) hC dX4_carryOut_31 (by decide) ?_
      obtain rfl := Option.some.inj h6
      refine f_sub (L' := [(0, .ref a0), (1, .int x1), (2, .int x2), (3, .int r1)]) [1, 2, 3, 0] rfl ?_
      exact K8
    · replace h6 := fi_pos h6 c110
      refine f_iconst (v := 1) hC dX4_carryOut_27 (by decide) ?_
      refine f_goto hC 32 dX4_carryOut_28 (by decide) ?_
      obtain rfl := Option.some.inj h6
      refine f_sub (L' := [(0, .ref a0), (1, .int x1), (2, .int x2), (3, .int r1)]) [1, 2, 3, 0] rfl ?_
      exact K8
theorem dX4_carryOutAll_0 : decode cX4_carryOutAll 0 = .ok (.iconst 0, 1) := by decide +kernel
theorem dX4_carryOutAll_1 : decode cX4_carryOutAll 1 = .ok (.istore_n 1, 1) := by decide +kernel
theorem dX4_carryOutAll_2 : decode cX4_carryOutAll 2 = .ok (.iconst 0, 1) := by decide +kernel
theorem dX4_carryOutAll_3 : decode cX4_carryOutAll 3 = .ok (.istore_n 2, 1) := by decide +kernel
theorem dX4_carryOutAll_4 : decode cX4_carryOutAll 4 = .ok (.iload_n 2, 1) := by decide +kernel
theorem dX4_carryOutAll_5 : decode cX4_carryOutAll 5 = .ok (.bipush 60, 2) := by decide +kernel
theorem dX4_carryOutAll_7 : decode cX4_carryOutAll 7 = .ok (.if_icmp .ge 48, 3) := by decide +kernel
theorem dX4_carryOutAll_10 : decode cX4_carryOutAll 10 = .ok (.aload_n 0, 1) := by decide +kernel
theorem dX4_carryOutAll_11 : decode cX4_carryOutAll 11 = .ok (.iload_n 1, 1) := by decide +kernel
theorem dX4_carryOutAll_12 : decode cX4_carryOutAll 12 = .ok (.invokevirtual 436, 3) := by decide +kernel
theorem dX4_carryOutAll_15 : decode cX4_carryOutAll 15 = .ok (.istore_n 3, 1) := by decide +kernel
theorem dX4_carryOutAll_16 : decode cX4_carryOutAll 16 = .ok (.iload_n 3, 1) := by decide +kernel
theorem dX4_carryOutAll_17 : decode cX4_carryOutAll 17 = .ok (.ifCond .lt 12, 3) := by decide +kernel
theorem dX4_carryOutAll_20 : decode cX4_carryOutAll 20 = .ok (.aload_n 0, 1) := by decide +kernel
theorem dX4_carryOutAll_21 : decode cX4_carryOutAll 21 = .ok (.iload_n 1, 1) := by decide +kernel
theorem dX4_carryOutAll_22 : decode cX4_carryOutAll 22 = .ok (.iload_n 3, 1) := by decide +kernel
theorem dX4_carryOutAll_23 : decode cX4_carryOutAll 23 = .ok (.invokevirtual 442, 3) := by decide +kernel
theorem dX4_carryOutAll_26 : decode cX4_carryOutAll 26 = .ok (.ifCond .eq 7, 3) := by decide +kernel
theorem dX4_carryOutAll_29 : decode cX4_carryOutAll 29 = .ok (.iload_n 2, 1) := by decide +kernel
theorem dX4_carryOutAll_30 : decode cX4_carryOutAll 30 = .ok (.iconst (-1), 1) := by decide +kernel
theorem dX4_carryOutAll_31 : decode cX4_carryOutAll 31 = .ok (.ixor, 1) := by decide +kernel
theorem dX4_carryOutAll_32 : decode cX4_carryOutAll 32 = .ok (.ireturn, 1) := by decide +kernel
theorem dX4_carryOutAll_33 : decode cX4_carryOutAll 33 = .ok (.iload_n 3, 1) := by decide +kernel
theorem dX4_carryOutAll_34 : decode cX4_carryOutAll 34 = .ok (.aload_n 0, 1) := by decide +kernel
theorem dX4_carryOutAll_35 : decode cX4_carryOutAll 35 = .ok (.getfield 45, 3) := by decide +kernel
theorem dX4_carryOutAll_38 : decode cX4_carryOutAll 38 = .ok (.if_icmp .lt 7, 3) := by decide +kernel
theorem dX4_carryOutAll_41 : decode cX4_carryOutAll 41 = .ok (.iload_n 2, 1) := by decide +kernel
theorem dX4_carryOutAll_42 : decode cX4_carryOutAll 42 = .ok (.iconst 1, 1) := by decide +kernel
theorem dX4_carryOutAll_43 : decode cX4_carryOutAll 43 = .ok (.iadd, 1) := by decide +kernel
theorem dX4_carryOutAll_44 : decode cX4_carryOutAll 44 = .ok (.ireturn, 1) := by decide +kernel
theorem dX4_carryOutAll_45 : decode cX4_carryOutAll 45 = .ok (.iload_n 3, 1) := by decide +kernel
theorem dX4_carryOutAll_46 : decode cX4_carryOutAll 46 = .ok (.iconst 1, 1) := by decide +kernel
theorem dX4_carryOutAll_47 : decode cX4_carryOutAll 47 = .ok (.iadd, 1) := by decide +kernel
theorem dX4_carryOutAll_48 : decode cX4_carryOutAll 48 = .ok (.istore_n 1, 1) := by decide +kernel
theorem dX4_carryOutAll_49 : decode cX4_carryOutAll 49 = .ok (.iinc 2 1, 3) := by decide +kernel
theorem dX4_carryOutAll_52 : decode cX4_carryOutAll 52 = .ok (.goto (-48), 3) := by decide +kernel
theorem dX4_carryOutAll_55 : decode cX4_carryOutAll 55 = .ok (.bipush 60, 2) := by decide +kernel
theorem dX4_carryOutAll_57 : decode cX4_carryOutAll 57 = .ok (.ireturn, 1) := by decide +kernel
theorem h9_X4_carryOutAll : yX4_carryOutAll.cls ≠ "java/lang/invoke/MethodHandle" ∧ yX4_carryOutAll.cls ≠ "java/lang/invoke/VarHandle" ∧ (parseMethodDescriptor yX4_carryOutAll.desc).map (fun d => d.parameters.length) = some 0 := by decide +kernel
noncomputable def F_X4_carryOutAll (a0 : Nat) (w : FW) : Option (Int32 × FW) :=
  (fLoop (σ := Int32 × Int32 × FW) (ρ := (FW) ⊕ (Int32 × FW)) (fun s1 => (if 60 ≤ s1.2.1 then some (.inr (.inl s1.2.2)) else fg (w.1 a0 = 5) inferInstance ((F_X4_endOfOrder a0 s1.1 s1.2.2).bind (fun r11 => (if r11 < 0 then some (.inr (.inr ((s1.2.1 ^^^ (-1)), s1.2.2))) else (F_X4_carryOut a0 s1.1 r11 s1.2.2).bind (fun r16 => (if r16.1 = 0 then (if r11 < (gI r16.2 408 a0 0) then some (.inl ((r11 + 1), (s1.2.1 + 1), r16.2)) else some (.inr (.inr ((s1.2.1 + 1), r16.2)))) else some (.inr (.inr ((s1.2.1 ^^^ (-1)), r16.2)))))))))) (0, 0, w)).bind (fun x7 => fse x7 (fun z21 => some (60, z21)) (fun q9 => some q9))
set_option maxHeartbeats 4000000 in
set_option maxRecDepth 100000 in
theorem c_X4_carryOutAll (l : Launch) (D : va_G) (cy : Nat → ClassId) (a0 : Nat) (w : FW) (r : Int32 × FW) (hF : F_X4_carryOutAll a0 w = some r) : fSpec l D cy yX4_carryOutAll cX4_carryOutAll 4 (some .int) { frames := 9, cells := 0, slots := 0, locals := 207 } [.ref a0] w r.2 (some (.int r.1)) := by
  refine f_begin (by decide +kernel) (Nat.le_of_ble_eq_true rfl) (fun X hC hEn => ?_)
  unfold F_X4_carryOutAll at hF
  show fAt X 0 0 4 w [(0, .ref a0)] [] 0
  refine f_iconst (v := 0) hC dX4_carryOutAll_0 (by decide) ?_
  refine f_istore_n (L' := [(1, .int 0), (0, .ref a0)]) hC dX4_carryOutAll_1 rfl (by decide) rfl ?_
  refine f_iconst (v := 0) hC dX4_carryOutAll_2 (by decide) ?_
  refine f_istore_n (L' := [(2, .int 0), (1, .int 0), (0, .ref a0)]) hC dX4_carryOutAll_3 rfl (by decide) rfl ?_
  obtain ⟨x7, h8, hF⟩ := fb_open hF
  have K9 : ∀ z21, x7 = .inl z21 → fSm z21 w → fAt X 0 0 4 z21 [] [] 55 := by
    intro z21 hz9
    subst hz9
    intro p5
    refine f_bipush (v := 60) hC dX4_carryOutAll_55 (by decide) ?_
    obtain rfl := Option.some.inj hF
    exact f_iret hC hEn p5 dX4_carryOutAll_57
  refine f_sub (L' := [(0, .ref a0), (1, .int 0), (2, .int 0)]) [2, 1, 0] rfl ?_
  refine fLoop_ind (fun (s1 : Int32 × Int32 × FW) => fSm s1.2.2 w → fAt X 0 0 4 s1.2.2 [(0, .ref a0), (1, .int s1.1), (2, .int s1.2.1)] [] 4) (fun s1 y6 h2 go3 ou4 => ?_) h8 (fSm.rf w)
  intro p5
  refine f_iload_n hC dX4_carryOutAll_4 rfl 2 rfl ?_
  refine f_bipush (v := 60) hC dX4_carryOutAll_5 (by decide) ?_
  refine f_icmp_ge hC 55 dX4_carryOutAll_7 (by decide) (fun c10 => ?_) (fun c10 => ?_)
  · replace h2 := fi_pos h2 c10
    obtain rfl := Option.some.inj h2
    have eo := ou4 _ rfl
    refine f_sub (L' := []) [] rfl ?_
    exact K9 _ eo.symm p5
  · replace h2 := fi_neg h2 c10
    refine f_aload_n hC dX4_carryOutAll_10 rfl 0 rfl ?_
    refine f_iload_n hC dX4_carryOutAll_11 rfl 1 rfl ?_
    obtain ⟨g13, h2⟩ := fg_open h2
    obtain ⟨r11, h12, h2⟩ := fb_open h2
    refine f_callV hC [.int s1.1] (c_X4_endOfOrder l D cy a0 s1.1 s1.2.2 r11 h12) q_893 q_73 q_890 q_892 q_21 h9_X4_endOfOrder rfl (fSm.k p5 g13) ⟨Nat.le_of_ble_eq_true rfl, Nat.le_of_ble_eq_true rfl⟩ ⟨Nat.le_of_ble_eq_true rfl, Nat.le_of_ble_eq_true rfl⟩ (Nat.le_of_ble_eq_true rfl) rfl dX4_carryOutAll_12 (fun e14 => ?_)
    refine f_istore_n (L' := [(3, .int r11), (0, .ref a0), (1, .int s1.1), (2, .int s1.2.1)]) hC dX4_carryOutAll_15 rfl (by decide) rfl ?_
    refine f_iload_n hC dX4_carryOutAll_16 rfl 0 rfl ?_
    refine f_if_lt hC 29 dX4_carryOutAll_17 (by decide) (fun c15 => ?_) (fun c15 => ?_)
    · replace h2 := fi_pos h2 c15
      refine f_iload_n hC dX4_carryOutAll_29 rfl 3 rfl ?_
      refine f_iconst (v := (-1)) hC dX4_carryOutAll_30 (by decide) ?_
      refine f_ixor hC dX4_carryOutAll_31 ?_
      obtain rfl := Option.some.inj h2
      obtain rfl := ou4 _ rfl
      obtain rfl := Option.some.inj hF
      exact f_iret hC hEn p5 dX4_carryOutAll_32
    · replace h2 := fi_neg h2 c15
      refine f_aload_n hC dX4_carryOutAll_20 rfl 1 rfl ?_
      refine f_iload_n hC dX4_carryOutAll_21 rfl 2 rfl ?_
      refine f_iload_n hC dX4_carryOutAll_22 rfl 0 rfl ?_
      obtain ⟨r16, h17, h2⟩ := fb_open h2
      refine f_callV hC [.int s1.1, .int r11] (c_X4_carryOut l D cy a0 s1.1 r11 s1.2.2 r16 h17) q_957 q_73 q_954 q_956 q_31 h9_X4_carryOut rfl (fSm.k p5 g13) ⟨Nat.le_of_ble_eq_true rfl, Nat.le_of_ble_eq_true rfl⟩ ⟨Nat.le_of_ble_eq_true rfl, Nat.le_of_ble_eq_true rfl⟩ (Nat.le_of_ble_eq_true rfl) rfl dX4_carryOutAll_23 (fun e18 => ?_)
      refine f_if_eq hC 33 dX4_carryOutAll_26 (by decide) (fun c19 => ?_) (fun c19 => ?_)
      · replace h2 := fi_pos h2 c19
        refine f_iload_n hC dX4_carryOutAll_33 rfl 0 rfl ?_
        refine f_aload_n hC dX4_carryOutAll_34 rfl 1 rfl ?_
        refine f_getI hC 4 8 408 rfl (by decide) iX4 q_268 rfl rfl (fSm.k (fSm.tr e18 p5) g13) dX4_carryOutAll_35 ?_
        refine f_icmp_lt hC 45 dX4_carryOutAll_38 (by decide) (fun c20 => ?_) (fun c20 => ?_)
        · replace h2 := fi_pos h2 c20
          refine f_iload_n hC dX4_carryOutAll_45 rfl 0 rfl ?_
          refine f_iconst (v := 1) hC dX4_carryOutAll_46 (by decide) ?_
          refine f_iadd hC dX4_carryOutAll_47 ?_
          refine f_istore_n (L' := [(1, .int (r11 + 1)), (3, .int r11), (0, .ref a0), (2, .int s1.2.1)]) hC dX4_carryOutAll_48 rfl (by decide) rfl ?_
          refine f_iinc (L' := [(2, .int (s1.2.1 + 1)), (1, .int (r11 + 1)), (3, .int r11), (0, .ref a0)]) hC dX4_carryOutAll_49 3 rfl rfl (by decide) rfl ?_
          refine f_goto hC 4 dX4_carryOutAll_52 (by decide) ?_
          obtain rfl := Option.some.inj h2
          refine f_sub (L' := [(0, .ref a0), (1, .int (r11 + 1)), (2, .int (s1.2.1 + 1))]) [3, 1, 0] rfl ?_
          exact go3 _ rfl (fSm.tr e18 p5)
        · replace h2 := fi_neg h2 c20
          refine f_iload_n hC dX4_carryOutAll_41 rfl 3 rfl ?_
          refine f_iconst (v := 1) hC dX4_carryOutAll_42 (by decide) ?_
          refine f_iadd hC dX4_carryOutAll_43 ?_
          obtain rfl := Option.some.inj h2
          obtain rfl := ou4 _ rfl
          obtain rfl := Option.some.inj hF
          exact f_iret hC hEn (fSm.tr e18 p5) dX4_carryOutAll_44
      · replace h2 := fi_neg h2 c19
        refine f_iload_n hC dX4_carryOutAll_29 rfl 3 rfl ?_
        refine f_iconst (v := (-1)) hC dX4_carryOutAll_30 (by decide) ?_
        refine f_ixor hC dX4_carryOutAll_31 ?_
        obtain rfl := Option.some.inj h2
        obtain rfl := ou4 _ rfl
        obtain rfl := Option.some.inj hF
        exact f_iret hC hEn (fSm.tr e18 p5) dX4_carryOutAll_32
theorem dX4_read_0 : decode cX4_read 0 = .ok (.aload_n 0, 1) := by decide +kernel
theorem dX4_read_1 : decode cX4_read 1 = .ok (.invokevirtual 360, 3) := by decide +kernel
theorem dX4_read_4 : decode cX4_read 4 = .ok (.istore_n 1, 1) := by decide +kernel
theorem dX4_read_5 : decode cX4_read 5 = .ok (.iload_n 1, 1) := by decide +kernel
theorem dX4_read_6 : decode cX4_read 6 = .ok (.iconst (-1), 1) := by decide +kernel
theorem dX4_read_7 : decode cX4_read 7 = .ok (.if_icmp .eq 24, 3) := by decide +kernel
theorem dX4_read_10 : decode cX4_read 10 = .ok (.aload_n 0, 1) := by decide +kernel
theorem dX4_read_11 : decode cX4_read 11 = .ok (.iconst 0, 1) := by decide +kernel
theorem dX4_read_12 : decode cX4_read 12 = .ok (.putfield 45, 3) := by decide +kernel
theorem dX4_read_15 : decode cX4_read 15 = .ok (.aload_n 0, 1) := by decide +kernel
theorem dX4_read_16 : decode cX4_read 16 = .ok (.iload_n 1, 1) := by decide +kernel
theorem dX4_read_17 : decode cX4_read 17 = .ok (.putfield 60, 3) := by decide +kernel
theorem dX4_read_20 : decode cX4_read 20 = .ok (.new 142, 3) := by decide +kernel
theorem dX4_read_23 : decode cX4_read 23 = .ok (.dup, 1) := by decide +kernel
theorem dX4_read_24 : decode cX4_read 24 = .ok (.ldc_w 363, 3) := by decide +kernel
theorem dX4_read_27 : decode cX4_read 27 = .ok (.invokespecial 146, 3) := by decide +kernel
theorem dX4_read_30 : decode cX4_read 30 = .ok (.athrow, 1) := by decide +kernel
theorem dX4_read_31 : decode cX4_read 31 = .ok (.aload_n 0, 1) := by decide +kernel
theorem dX4_read_32 : decode cX4_read 32 = .ok (.invokevirtual 72, 3) := by decide +kernel
theorem dX4_read_35 : decode cX4_read 35 = .ok (.aload_n 0, 1) := by decide +kernel
theorem dX4_read_36 : decode cX4_read 36 = .ok (.invokevirtual 365, 3) := by decide +kernel
theorem dX4_read_39 : decode cX4_read 39 = .ok (.istore_n 2, 1) := by decide +kernel
theorem dX4_read_40 : decode cX4_read 40 = .ok (.aload_n 0, 1) := by decide +kernel
theorem dX4_read_41 : decode cX4_read 41 = .ok (.iconst 0, 1) := by decide +kernel
theorem dX4_read_42 : decode cX4_read 42 = .ok (.putfield 45, 3) := by decide +kernel
theorem dX4_read_45 : decode cX4_read 45 = .ok (.iload_n 2, 1) := by decide +kernel
theorem dX4_read_46 : decode cX4_read 46 = .ok (.ifCond .ge 32, 3) := by decide +kernel
theorem dX4_read_49 : decode cX4_read 49 = .ok (.aload_n 0, 1) := by decide +kernel
theorem dX4_read_50 : decode cX4_read 50 = .ok (.getfield 12, 3) := by decide +kernel
theorem dX4_read_53 : decode cX4_read 53 = .ok (.aload_n 0, 1) := by decide +kernel
theorem dX4_read_54 : decode cX4_read 54 = .ok (.getfield 16, 3) := by decide +kernel
theorem dX4_read_57 : decode cX4_read 57 = .ok (.invokevirtual 368, 3) := by decide +kernel
theorem dX4_read_60 : decode cX4_read 60 = .ok (.aload_n 0, 1) := by decide +kernel
theorem dX4_read_61 : decode cX4_read 61 = .ok (.iload_n 2, 1) := by decide +kernel
theorem dX4_read_62 : decode cX4_read 62 = .ok (.iconst (-1), 1) := by decide +kernel
theorem dX4_read_63 : decode cX4_read 63 = .ok (.ixor, 1) := by decide +kernel
theorem dX4_read_64 : decode cX4_read 64 = .ok (.putfield 63, 3) := by decide +kernel
theorem dX4_read_67 : decode cX4_read 67 = .ok (.new 372, 3) := by decide +kernel
theorem dX4_read_70 : decode cX4_read 70 = .ok (.dup, 1) := by decide +kernel
theorem dX4_read_71 : decode cX4_read 71 = .ok (.ldc_w 374, 3) := by decide +kernel
theorem dX4_read_74 : decode cX4_read 74 = .ok (.invokespecial 376, 3) := by decide +kernel
theorem dX4_read_77 : decode cX4_read 77 = .ok (.athrow, 1) := by decide +kernel
theorem dX4_read_78 : decode cX4_read 78 = .ok (.aload_n 0, 1) := by decide +kernel
theorem dX4_read_79 : decode cX4_read 79 = .ok (.invokevirtual 377, 3) := by decide +kernel
theorem dX4_read_82 : decode cX4_read 82 = .ok (.iload_n 2, 1) := by decide +kernel
theorem dX4_read_83 : decode cX4_read 83 = .ok (.ireturn, 1) := by decide +kernel
theorem h9_X4_read : yX4_read.cls ≠ "java/lang/invoke/MethodHandle" ∧ yX4_read.cls ≠ "java/lang/invoke/VarHandle" ∧ (parseMethodDescriptor yX4_read.desc).map (fun d => d.parameters.length) = some 0 := by decide +kernel
noncomputable def F_X4_read (a0 : Nat) (w : FW) : Option ((Int32 ⊕ Nat) × FW) :=
  fg (w.1 a0 = 5) inferInstance ((F_X4_faultOfInput a0 w).bind (fun r1 => (if r1 = (-1) then (F_X4_begin a0 w).bind (fun r6 => (F_X4_carryOutAll a0 r6).bind (fun r9 => (if 0 ≤ r9.1 then (F_X4_remember a0 (sI r9.2 408 a0 0 0)).bind (fun r13 => some ((.inl r9.1), r13)) else fg (w.1 (gR r9.2 400 a0 0) = 2) inferInstance ((F_X1_take (gR (sI r9.2 408 a0 0 0) 400 a0 0) (gR (sI r9.2 408 a0 0 0) 401 a0 0) (sI r9.2 408 a0 0 0)).bind (fun r16 => some (.inr 4, (sI r16 414 a0 0 (r9.1 ^^^ (-1))))))))) else some (.inr 1, (sI (sI w 408 a0 0 0) 413 a0 0 r1)))))
set_option maxHeartbeats 4000000 in
set_option maxRecDepth 100000 in
theorem c_X4_read (l : Launch) (D : va_G) (cy : Nat → ClassId) (a0 : Nat) (w : FW) (r : (Int32 ⊕ Nat) × FW) (hF : F_X4_read a0 w = some r) : fSpecX l D cy yX4_read cX4_read 3 (some .int) { frames := 10, cells := 1, slots := 6, locals := 230 } [.ref a0] w r.2 (fOI r.1) := by
  refine f_beginX (by decide +kernel) (Nat.le_of_ble_eq_true rfl) (fun X hC hEn => ?_)
  have hst := f_st hC hEn
  unfold F_X4_read at hF
  show fAt X 0 0 3 w [(0, .ref a0)] [] 0
  refine f_aload_n hC dX4_read_0 rfl 0 rfl ?_
  obtain ⟨g3, hF⟩ := fg_open hF
  obtain ⟨r1, h2, hF⟩ := fb_open hF
  refine f_callV hC [] (c_X4_faultOfInput l D cy a0 w r1 h2) q_889 q_73 q_886 q_888 q_20 h9_X4_faultOfInput rfl (fSm.k (fSm.rf w) g3) ⟨Nat.le_of_ble_eq_true rfl, Nat.le_of_ble_eq_true rfl⟩ ⟨Nat.le_of_ble_eq_true rfl, Nat.le_of_ble_eq_true rfl⟩ (Nat.le_of_ble_eq_true rfl) rfl dX4_read_1 (fun e4 => ?_)
  refine f_istore_n (L' := [(1, .int r1), (0, .ref a0)]) hC dX4_read_4 rfl (by decide) rfl ?_
  refine f_iload_n hC dX4_read_5 rfl 0 rfl ?_
  refine f_iconst (v := (-1)) hC dX4_read_6 (by decide) ?_
  refine f_icmp_eq hC 31 dX4_read_7 (by decide) (fun c5 => ?_) (fun c5 => ?_)
  · replace hF := fi_pos hF c5
    refine f_aload_n hC dX4_read_31 rfl 1 rfl ?_
    obtain ⟨r6, h7, hF⟩ := fb_open hF
    refine f_callV hC [] (c_X4_begin l D cy a0 w r6 h7) q_932 q_73 q_929 q_931 q_25 h9_X4_begin rfl (fSm.k (fSm.rf w) g3) ⟨Nat.le_of_ble_eq_true rfl, Nat.le_of_ble_eq_true rfl⟩ ⟨Nat.le_of_ble_eq_true rfl, Nat.le_of_ble_eq_true rfl⟩ (Nat.le_of_ble_eq_true rfl) rfl dX4_read_32 (fun e8 => ?_)
    refine f_aload_n hC dX4_read_35 rfl 1 rfl ?_
    obtain ⟨r9, h10, hF⟩ := fb_open hF
    refine f_callV hC [] (c_X4_carryOutAll l D cy a0 r6 r9 h10) q_953 q_73 q_950 q_952 q_30 h9_X4_carryOutAll rfl (fSm.k (fSm.tr e8 (fSm.rf w)) g3) ⟨Nat.le_of_ble_eq_true rfl, Nat.le_of_ble_eq_true rfl⟩ ⟨Nat.le_of_ble_eq_true rfl, Nat.le_of_ble_eq_true rfl⟩ (Nat.le_of_ble_eq_true rfl) rfl dX4_read_36 (fun e11 => ?_)
    refine f_istore_n (L' := [(2, .int r9.1), (1, .int r1), (0, .ref a0)]) hC dX4_read_39 rfl (by decide) rfl ?_
    refine f_aload_n hC dX4_read_40 rfl 2 rfl ?_
    refine f_iconst (v := 0) hC dX4_read_41 (by decide) ?_
    refine f_putI hC 4 8 408 rfl (by decide) iX4 tyX4 tyX4_ok nmX4 q_268 rfl rfl rfl rfl rfl (fSm.k (fSm.tr e11 (fSm.tr e8 (fSm.rf w))) g3) dX4_read_42 ?_
    refine f_iload_n hC dX4_read_45 rfl 0 rfl ?_
    refine f_if_ge hC 78 dX4_read_46 (by decide) (fun c12 => ?_) (fun c12 => ?_)
    · replace hF := fi_pos hF c12
      refine f_aload_n hC dX4_read_78 rfl 2 rfl ?_
      obtain ⟨r13, h14, hF⟩ := fb_open hF
      refine f_callV hC [] (c_X4_remember l D cy a0 (sI r9.2 408 a0 0 0) r13 h14) q_1067 q_73 q_1064 q_1066 q_52 h9_X4_remember rfl (fSm.k (fSm.tr e11 (fSm.tr e8 (fSm.rf w))) g3) ⟨Nat.le_of_ble_eq_true rfl, Nat.le_of_ble_eq_true rfl⟩ ⟨Nat.le_of_ble_eq_true rfl, Nat.le_of_ble_eq_true rfl⟩ (Nat.le_of_ble_eq_true rfl) rfl dX4_read_79 (fun e15 => ?_)
      refine f_iload_n hC dX4_read_82 rfl 0 rfl ?_
      obtain rfl := Option.some.inj hF
      refine f_widen (k' := 1) (s' := 6) (Nat.le_of_ble_eq_true rfl) (Nat.le_of_ble_eq_true rfl) ?_
      exact f_iretX hC hEn (fSm.tr e15 (fSm.tr e11 (fSm.tr e8 (fSm.rf w)))) dX4_read_83
    · replace hF := fi_neg hF c12
      refine f_aload_n hC dX4_read_49 rfl 2 rfl ?_
      refine f_getR hC 4 0 400 rfl (by decide) iX4 q_260 rfl rfl (fSm.k (fSm.tr e11 (fSm.tr e8 (fSm.rf w))) g3) dX4_read_50 ?_
      refine f_aload_n hC dX4_read_53 rfl 2 rfl ?_
      refine f_getR hC 4 1 401 rfl (by decide) iX4 q_261 rfl rfl (fSm.k (fSm.tr e11 (fSm.tr e8 (fSm.rf w))) g3) dX4_read_54 ?_
      obtain ⟨g18, hF⟩ := fg_open hF
      obtain ⟨r16, h17, hF⟩ := fb_open hF
      refine f_callVN hC [.ref (gR (sI r9.2 408 a0 0 0) 401 a0 0)] (c_X1_take l D cy (gR (sI r9.2 408 a0 0 0) 400 a0 0) (gR (sI r9.2 408 a0 0 0) 401 a0 0) (sI r9.2 408 a0 0 0) r16 h17) q_936 q_74 q_933 q_935 q_26 h9_X1_take rfl (fSm.k (fSm.tr e11 (fSm.tr e8 (fSm.rf w))) g18) ⟨Nat.le_of_ble_eq_true rfl, Nat.le_of_ble_eq_true rfl⟩ ⟨Nat.le_of_ble_eq_true rfl, Nat.le_of_ble_eq_true rfl⟩ (Nat.le_of_ble_eq_true rfl) rfl dX4_read_57 (fun e19 => ?_)
      refine f_aload_n hC dX4_read_60 rfl 2 rfl ?_
      refine f_iload_n hC dX4_read_61 rfl 0 rfl ?_
      refine f_iconst (v := (-1)) hC dX4_read_62 (by decide) ?_
      refine f_ixor hC dX4_read_63 ?_
      refine f_putI hC 4 14 414 rfl (by decide) iX4 tyX4 tyX4_ok nmX4 q_274 rfl rfl rfl rfl rfl (fSm.k (fSm.tr e19 (fSm.tr e11 (fSm.tr e8 (fSm.rf w)))) g3) dX4_read_64 ?_
      obtain rfl := Option.some.inj hF
      exact f_throwSW hC hEn (fSm.tr e19 (fSm.tr e11 (fSm.tr e8 (fSm.rf w)))) 54 rfl xf_4 xn_4 q_1048 q_98 rfl xa_RX4_376 xg_RX4_372_376 dX4_read_67 dX4_read_70 dX4_read_71 dX4_read_74 dX4_read_77 (Nat.le_of_ble_eq_true rfl) (Nat.le_of_ble_eq_true rfl) (Nat.le_of_ble_eq_true rfl) (Nat.le_of_ble_eq_true rfl) (Nat.le_of_ble_eq_true rfl) (Nat.le_of_ble_eq_true rfl)
  · replace hF := fi_neg hF c5
    refine f_aload_n hC dX4_read_10 rfl 1 rfl ?_
    refine f_iconst (v := 0) hC dX4_read_11 (by decide) ?_
    refine f_putI hC 4 8 408 rfl (by decide) iX4 tyX4 tyX4_ok nmX4 q_268 rfl rfl rfl rfl rfl (fSm.k (fSm.rf w) g3) dX4_read_12 ?_
    refine f_aload_n hC dX4_read_15 rfl 1 rfl ?_
    refine f_iload_n hC dX4_read_16 rfl 0 rfl ?_
    refine f_putI hC 4 13 413 rfl (by decide) iX4 tyX4 tyX4_ok nmX4 q_273 rfl rfl rfl rfl rfl (fSm.k (fSm.rf w) g3) dX4_read_17 ?_
    obtain rfl := Option.some.inj hF
    exact f_throwSW hC hEn (fSm.rf w) 53 rfl xf_1 xn_1 q_497 q_81 rfl xa_RX4_146 xg_RX4_142_146 dX4_read_20 dX4_read_23 dX4_read_24 dX4_read_27 dX4_read_30 (Nat.le_of_ble_eq_true rfl) (Nat.le_of_ble_eq_true rfl) (Nat.le_of_ble_eq_true rfl) (Nat.le_of_ble_eq_true rfl) (Nat.le_of_ble_eq_true rfl) (Nat.le_of_ble_eq_true rfl)
theorem dX4_undo_0 : decode cX4_undo 0 = .ok (.aload_n 0, 1) := by decide +kernel
theorem dX4_undo_1 : decode cX4_undo 1 = .ok (.getfield 30, 3) := by decide +kernel
theorem dX4_undo_4 : decode cX4_undo 4 = .ok (.ifCond .gt 14, 3) := by decide +kernel
theorem dX4_undo_7 : decode cX4_undo 7 = .ok (.new 325, 3) := by decide +kernel
theorem dX4_undo_10 : decode cX4_undo 10 = .ok (.dup, 1) := by decide +kernel
theorem dX4_undo_11 : decode cX4_undo 11 = .ok (.ldc_w 384, 3) := by decide +kernel
theorem dX4_undo_14 : decode cX4_undo 14 = .ok (.invokespecial 329, 3) := by decide +kernel
theorem dX4_undo_17 : decode cX4_undo 17 = .ok (.athrow, 1) := by decide +kernel
theorem dX4_undo_18 : decode cX4_undo 18 = .ok (.aload_n 0, 1) := by decide +kernel
theorem dX4_undo_19 : decode cX4_undo 19 = .ok (.dup, 1) := by decide +kernel
theorem dX4_undo_20 : decode cX4_undo 20 = .ok (.getfield 30, 3) := by decide +kernel
theorem dX4_undo_23 : decode cX4_undo 23 = .ok (.iconst 1, 1) := by decide +kernel
theorem dX4_undo_24 : decode cX4_undo 24 = .ok (.isub, 1) := by decide +kernel
theorem dX4_undo_25 : decode cX4_undo 25 = .ok (.putfield 30, 3) := by decide +kernel
theorem dX4_undo_28 : decode cX4_undo 28 = .ok (.aload_n 0, 1) := by decide +kernel
theorem dX4_undo_29 : decode cX4_undo 29 = .ok (.getfield 12, 3) := by decide +kernel
theorem dX4_undo_32 : decode cX4_undo 32 = .ok (.aload_n 0, 1) := by decide +kernel
theorem dX4_undo_33 : decode cX4_undo 33 = .ok (.getfield 26, 3) := by decide +kernel
theorem dX4_undo_36 : decode cX4_undo 36 = .ok (.aload_n 0, 1) := by decide +kernel
theorem dX4_undo_37 : decode cX4_undo 37 = .ok (.getfield 30, 3) := by decide +kernel
theorem dX4_undo_40 : decode cX4_undo 40 = .ok (.aaload, 1) := by decide +kernel
theorem dX4_undo_41 : decode cX4_undo 41 = .ok (.invokevirtual 368, 3) := by decide +kernel
theorem dX4_undo_44 : decode cX4_undo 44 = .ok (.aload_n 0, 1) := by decide +kernel
theorem dX4_undo_45 : decode cX4_undo 45 = .ok (.getfield 30, 3) := by decide +kernel
theorem dX4_undo_48 : decode cX4_undo 48 = .ok (.ireturn, 1) := by decide +kernel
theorem h9_X4_undo : yX4_undo.cls ≠ "java/lang/invoke/MethodHandle" ∧ yX4_undo.cls ≠ "java/lang/invoke/VarHandle" ∧ (parseMethodDescriptor yX4_undo.desc).map (fun d => d.parameters.length) = some 0 := by decide +kernel
noncomputable def F_X4_undo (a0 : Nat) (w : FW) : Option ((Int32 ⊕ Nat) × FW) :=
  fg (w.1 a0 = 5) inferInstance ((if 0 < (gI w 405 a0 0) then fg (w.1 (gR w 404 a0 0) = 13) inferInstance (fg (¬ ((gI (sI w 405 a0 0 ((gI w 405 a0 0) - 1)) 405 a0 0) < 0 ∨ w.2.1 (gR w 404 a0 0) ≤ Int32.toNatClampNeg (gI (sI w 405 a0 0 ((gI w 405 a0 0) - 1)) 405 a0 0))) inferInstance (fg (w.1 (gR w 400 a0 0) = 2) inferInstance ((F_X1_take (gR (sI w 405 a0 0 ((gI w 405 a0 0) - 1)) 400 a0 0) (gR (sI w 405 a0 0 ((gI w 405 a0 0) - 1)) 603 (gR (sI w 405 a0 0 ((gI w 405 a0 0) - 1)) 404 a0 0) (Int32.toNatClampNeg (gI (sI w 405 a0 0 ((gI w 405 a0 0) - 1)) 405 a0 0))) (sI w 405 a0 0 ((gI w 405 a0 0) - 1))).bind (fun r5 => some ((.inl (gI r5 405 a0 0)), r5))))) else some (.inr 0, w)))
set_option maxHeartbeats 4000000 in
set_option maxRecDepth 100000 in
theorem c_X4_undo (l : Launch) (D : va_G) (cy : Nat → ClassId) (a0 : Nat) (w : FW) (r : (Int32 ⊕ Nat) × FW) (hF : F_X4_undo a0 w = some r) : fSpecX l D cy yX4_undo cX4_undo 1 (some .int) { frames := 6, cells := 1, slots := 6, locals := 100 } [.ref a0] w r.2 (fOI r.1) := by
  refine f_beginX (by decide +kernel) (Nat.le_of_ble_eq_true rfl) (fun X hC hEn => ?_)
  have hst := f_st hC hEn
  unfold F_X4_undo at hF
  show fAt X 0 0 1 w [(0, .ref a0)] [] 0
  refine f_aload_n hC dX4_undo_0 rfl 0 rfl ?_
  obtain ⟨g1, hF⟩ := fg_open hF
  refine f_getI hC 4 5 405 rfl (by decide) iX4 q_265 rfl rfl (fSm.k (fSm.rf w) g1) dX4_undo_1 ?_
  refine f_if_gt hC 18 dX4_undo_4 (by decide) (fun c2 => ?_) (fun c2 => ?_)
  · replace hF := fi_pos hF c2
    refine f_aload_n hC dX4_undo_18 rfl 0 rfl ?_
    refine f_dup hC dX4_undo_19 rfl ?_
    refine f_getI hC 4 5 405 rfl (by decide) iX4 q_265 rfl rfl (fSm.k (fSm.rf w) g1) dX4_undo_20 ?_
    refine f_iconst (v := 1) hC dX4_undo_23 (by decide) ?_
    refine f_isub hC dX4_undo_24 ?_
    refine f_putI hC 4 5 405 rfl (by decide) iX4 tyX4 tyX4_ok nmX4 q_265 rfl rfl rfl rfl rfl (fSm.k (fSm.rf w) g1) dX4_undo_25 ?_
    refine f_aload_n hC dX4_undo_28 rfl 0 rfl ?_
    refine f_getR hC 4 0 400 rfl (by decide) iX4 q_260 rfl rfl (fSm.k (fSm.rf w) g1) dX4_undo_29 ?_
    refine f_aload_n hC dX4_undo_32 rfl 0 rfl ?_
    refine f_getR hC 4 4 404 rfl (by decide) iX4 q_264 rfl rfl (fSm.k (fSm.rf w) g1) dX4_undo_33 ?_
    refine f_aload_n hC dX4_undo_36 rfl 0 rfl ?_
    refine f_getI hC 4 5 405 rfl (by decide) iX4 q_265 rfl rfl (fSm.k (fSm.rf w) g1) dX4_undo_37 ?_
    obtain ⟨g3, hF⟩ := fg_open hF
    obtain ⟨g4, hF⟩ := fg_open hF
    refine f_aald0 hC (fSm.k (fSm.rf w) g3) (fSm.v (fSm.rf w) g4) dX4_undo_40 ?_
    obtain ⟨g7, hF⟩ := fg_open hF
    obtain ⟨r5, h6, hF⟩ := fb_open hF
    refine f_callVN hC [.ref (gR (sI w 405 a0 0 ((gI w 405 a0 0) - 1)) 603 (gR (sI w 405 a0 0 ((gI w 405 a0 0) - 1)) 404 a0 0) (Int32.toNatClampNeg (gI (sI w 405 a0 0 ((gI w 405 a0 0) - 1)) 405 a0 0)))] (c_X1_take l D cy (gR (sI w 405 a0 0 ((gI w 405 a0 0) - 1)) 400 a0 0) (gR (sI w 405 a0 0 ((gI w 405 a0 0) - 1)) 603 (gR (sI w 405 a0 0 ((gI w 405 a0 0) - 1)) 404 a0 0) (Int32.toNatClampNeg (gI (sI w 405 a0 0 ((gI w 405 a0 0) - 1)) 405 a0 0))) (sI w 405 a0 0 ((gI w 405 a0 0) - 1)) r5 h6) q_936 q_74 q_933 q_935 q_26 h9_X1_take rfl (fSm.k (fSm.rf w) g7) ⟨Nat.le_of_ble_eq_true rfl, Nat.le_of_ble_eq_true rfl⟩ ⟨Nat.le_of_ble_eq_true rfl, Nat.le_of_ble_eq_true rfl⟩ (Nat.le_of_ble_eq_true rfl) rfl dX4_undo_41 (fun e8 => ?_)
    refine f_aload_n hC dX4_undo_44 rfl 0 rfl ?_
    refine f_getI hC 4 5 405 rfl (by decide) iX4 q_265 rfl rfl (fSm.k (fSm.tr e8 (fSm.rf w)) g1) dX4_undo_45 ?_
    obtain rfl := Option.some.inj hF
    refine f_widen (k' := 1) (s' := 6) (Nat.le_of_ble_eq_true rfl) (Nat.le_of_ble_eq_true rfl) ?_
    exact f_iretX hC hEn (fSm.tr e8 (fSm.rf w)) dX4_undo_48
  · replace hF := fi_neg hF c2
    obtain rfl := Option.some.inj hF
    exact f_throwSW hC hEn (fSm.rf w) 55 rfl xf_0 xn_0 q_579 q_97 rfl xa_RX4_329 xg_RX4_325_329 dX4_undo_7 dX4_undo_10 dX4_undo_11 dX4_undo_14 dX4_undo_17 (Nat.le_of_ble_eq_true rfl) (Nat.le_of_ble_eq_true rfl) (Nat.le_of_ble_eq_true rfl) (Nat.le_of_ble_eq_true rfl) (Nat.le_of_ble_eq_true rfl) (Nat.le_of_ble_eq_true rfl)
theorem dX4_snapshot_0 : decode cX4_snapshot 0 = .ok (.aload_n 0, 1) := by decide +kernel
theorem dX4_snapshot_1 : decode cX4_snapshot 1 = .ok (.getfield 19, 3) := by decide +kernel
theorem dX4_snapshot_4 : decode cX4_snapshot 4 = .ok (.aload_n 0, 1) := by decide +kernel
theorem dX4_snapshot_5 : decode cX4_snapshot 5 = .ok (.getfield 12, 3) := by decide +kernel
theorem dX4_snapshot_8 : decode cX4_snapshot 8 = .ok (.invokevirtual 368, 3) := by decide +kernel
theorem dX4_snapshot_11 : decode cX4_snapshot 11 = .ok (.aload_n 0, 1) := by decide +kernel
theorem dX4_snapshot_12 : decode cX4_snapshot 12 = .ok (.iconst 1, 1) := by decide +kernel
theorem dX4_snapshot_13 : decode cX4_snapshot 13 = .ok (.putfield 22, 3) := by decide +kernel
theorem dX4_snapshot_16 : decode cX4_snapshot 16 = .ok (.aload_n 0, 1) := by decide +kernel
theorem dX4_snapshot_17 : decode cX4_snapshot 17 = .ok (.getfield 12, 3) := by decide +kernel
theorem dX4_snapshot_20 : decode cX4_snapshot 20 = .ok (.getfield 66, 3) := by decide +kernel
theorem dX4_snapshot_23 : decode cX4_snapshot 23 = .ok (.ireturn, 1) := by decide +kernel
theorem h9_X4_snapshot : yX4_snapshot.cls ≠ "java/lang/invoke/MethodHandle" ∧ yX4_snapshot.cls ≠ "java/lang/invoke/VarHandle" ∧ (parseMethodDescriptor yX4_snapshot.desc).map (fun d => d.parameters.length) = some 0 := by decide +kernel
noncomputable def F_X4_snapshot (a0 : Nat) (w : FW) : Option (Int32 × FW) :=
  fg (w.1 a0 = 5) inferInstance (fg (w.1 (gR w 402 a0 0) = 2) inferInstance ((F_X1_take (gR w 402 a0 0) (gR w 400 a0 0) w).bind (fun r2 => fg (w.1 (gR r2 400 a0 0) = 2) inferInstance (some ((gI (sI r2 403 a0 0 1) 101 (gR (sI r2 403 a0 0 1) 400 a0 0) 0), (sI r2 403 a0 0 1))))))
set_option maxHeartbeats 4000000 in
set_option maxRecDepth 100000 in
theorem c_X4_snapshot (l : Launch) (D : va_G) (cy : Nat → ClassId) (a0 : Nat) (w : FW) (r : Int32 × FW) (hF : F_X4_snapshot a0 w = some r) : fSpec l D cy yX4_snapshot cX4_snapshot 1 (some .int) { frames := 3, cells := 0, slots := 0, locals := 65 } [.ref a0] w r.2 (some (.int r.1)) := by
  refine f_begin (by decide +kernel) (Nat.le_of_ble_eq_true rfl) (fun X hC hEn => ?_)
  unfold F_X4_snapshot at hF
  show fAt X 0 0 1 w [(0, .ref a0)] [] 0
  refine f_aload_n hC dX4_snapshot_0 rfl 0 rfl ?_
  obtain ⟨g1, hF⟩ := fg_open hF
  refine f_getR hC 4 2 402 rfl (by decide) iX4 q_262 rfl rfl (fSm.k (fSm.rf w) g1) dX4_snapshot_1 ?_
  refine f_aload_n hC dX4_snapshot_4 rfl 0 rfl ?_
  refine f_getR hC 4 0 400 rfl (by decide) iX4 q_260 rfl rfl (fSm.k (fSm.rf w) g1) dX4_snapshot_5 ?_
  obtain ⟨g4, hF⟩ := fg_open hF
  obtain ⟨r2, h3, hF⟩ := fb_open hF
  refine f_callVN hC [.ref (gR w 400 a0 0)] (c_X1_take l D cy (gR w 402 a0 0) (gR w 400 a0 0) w r2 h3) q_936 q_74 q_933 q_935 q_26 h9_X1_take rfl (fSm.k (fSm.rf w) g4) ⟨Nat.le_of_ble_eq_true rfl, Nat.le_of_ble_eq_true rfl⟩ ⟨Nat.le_of_ble_eq_true rfl, Nat.le_of_ble_eq_true rfl⟩ (Nat.le_of_ble_eq_true rfl) rfl dX4_snapshot_8 (fun e5 => ?_)
  refine f_aload_n hC dX4_snapshot_11 rfl 0 rfl ?_
  refine f_iconst (v := 1) hC dX4_snapshot_12 (by decide) ?_
  refine f_putI hC 4 3 403 rfl (by decide) iX4 tyX4 tyX4_ok nmX4 q_263 rfl rfl rfl (nar_z (by decide)) (fit_z (by decide)) (fSm.k (fSm.tr e5 (fSm.rf w)) g1) dX4_snapshot_13 ?_
  refine f_aload_n hC dX4_snapshot_16 rfl 0 rfl ?_
  refine f_getR hC 4 0 400 rfl (by decide) iX4 q_260 rfl rfl (fSm.k (fSm.tr e5 (fSm.rf w)) g1) dX4_snapshot_17 ?_
  obtain ⟨g6, hF⟩ := fg_open hF
  refine f_getIN hC 1 1 101 rfl (by decide) iX1 q_219 rfl rfl (fSm.k (fSm.tr e5 (fSm.rf w)) g6) dX4_snapshot_20 ?_
  obtain rfl := Option.some.inj hF
  exact f_iret hC hEn (fSm.tr e5 (fSm.rf w)) dX4_snapshot_23
theorem dX4_restore_0 : decode cX4_restore 0 = .ok (.aload_n 0, 1) := by decide +kernel
theorem dX4_restore_1 : decode cX4_restore 1 = .ok (.getfield 22, 3) := by decide +kernel
theorem dX4_restore_4 : decode cX4_restore 4 = .ok (.ifCond .ne 14, 3) := by decide +kernel
theorem dX4_restore_7 : decode cX4_restore 7 = .ok (.new 325, 3) := by decide +kernel
theorem dX4_restore_10 : decode cX4_restore 10 = .ok (.dup, 1) := by decide +kernel
theorem dX4_restore_11 : decode cX4_restore 11 = .ok (.ldc_w 386, 3) := by decide +kernel
theorem dX4_restore_14 : decode cX4_restore 14 = .ok (.invokespecial 329, 3) := by decide +kernel
theorem dX4_restore_17 : decode cX4_restore 17 = .ok (.athrow, 1) := by decide +kernel
theorem dX4_restore_18 : decode cX4_restore 18 = .ok (.aload_n 0, 1) := by decide +kernel
theorem dX4_restore_19 : decode cX4_restore 19 = .ok (.getfield 12, 3) := by decide +kernel
theorem dX4_restore_22 : decode cX4_restore 22 = .ok (.aload_n 0, 1) := by decide +kernel
theorem dX4_restore_23 : decode cX4_restore 23 = .ok (.getfield 19, 3) := by decide +kernel
theorem dX4_restore_26 : decode cX4_restore 26 = .ok (.invokevirtual 368, 3) := by decide +kernel
theorem dX4_restore_29 : decode cX4_restore 29 = .ok (.aload_n 0, 1) := by decide +kernel
theorem dX4_restore_30 : decode cX4_restore 30 = .ok (.iconst 0, 1) := by decide +kernel
theorem dX4_restore_31 : decode cX4_restore 31 = .ok (.putfield 30, 3) := by decide +kernel
theorem dX4_restore_34 : decode cX4_restore 34 = .ok (.aload_n 0, 1) := by decide +kernel
theorem dX4_restore_35 : decode cX4_restore 35 = .ok (.getfield 12, 3) := by decide +kernel
theorem dX4_restore_38 : decode cX4_restore 38 = .ok (.getfield 66, 3) := by decide +kernel
theorem dX4_restore_41 : decode cX4_restore 41 = .ok (.ireturn, 1) := by decide +kernel
theorem h9_X4_restore : yX4_restore.cls ≠ "java/lang/invoke/MethodHandle" ∧ yX4_restore.cls ≠ "java/lang/invoke/VarHandle" ∧ (parseMethodDescriptor yX4_restore.desc).map (fun d => d.parameters.length) = some 0 := by decide +kernel
noncomputable def F_X4_restore (a0 : Nat) (w : FW) : Option ((Int32 ⊕ Nat) × FW) :=
  fg (w.1 a0 = 5) inferInstance ((if (gI w 403 a0 0) = 0 then some (.inr 0, w) else fg (w.1 (gR w 400 a0 0) = 2) inferInstance ((F_X1_take (gR w 400 a0 0) (gR w 402 a0 0) w).bind (fun r3 => fg (w.1 (gR r3 400 a0 0) = 2) inferInstance (some ((.inl (gI (sI r3 405 a0 0 0) 101 (gR (sI r3 405 a0 0 0) 400 a0 0) 0)), (sI r3 405 a0 0 0)))))))
set_option maxHeartbeats 4000000 in
set_option maxRecDepth 100000 in
theorem c_X4_restore (l : Launch) (D : va_G) (cy : Nat → ClassId) (a0 : Nat) (w : FW) (r : (Int32 ⊕ Nat) × FW) (hF : F_X4_restore a0 w = some r) : fSpecX l D cy yX4_restore cX4_restore 1 (some .int) { frames := 6, cells := 1, slots := 6, locals := 100 } [.ref a0] w r.2 (fOI r.1) := by
  refine f_beginX (by decide +kernel) (Nat.le_of_ble_eq_true rfl) (fun X hC hEn => ?_)
  have hst := f_st hC hEn
  unfold F_X4_restore at hF
  show fAt X 0 0 1 w [(0, .ref a0)] [] 0
  refine f_aload_n hC dX4_restore_0 rfl 0 rfl ?_
  obtain ⟨g1, hF⟩ := fg_open hF
  refine f_getI hC 4 3 403 rfl (by decide) iX4 q_263 rfl rfl (fSm.k (fSm.rf w) g1) dX4_restore_1 ?_
  refine f_if_ne hC 18 dX4_restore_4 (by decide) (fun c2 => ?_) (fun c2 => ?_)
  · replace hF := fi_neg hF c2
    refine f_aload_n hC dX4_restore_18 rfl 0 rfl ?_
    refine f_getR hC 4 0 400 rfl (by decide) iX4 q_260 rfl rfl (fSm.k (fSm.rf w) g1) dX4_restore_19 ?_
    refine f_aload_n hC dX4_restore_22 rfl 0 rfl ?_
    refine f_getR hC 4 2 402 rfl (by decide) iX4 q_262 rfl rfl (fSm.k (fSm.rf w) g1) dX4_restore_23 ?_
    obtain ⟨g5, hF⟩ := fg_open hF
    obtain ⟨r3, h4, hF⟩ := fb_open hF
    refine f_callVN hC [.ref (gR w 402 a0 0)] (c_X1_take l D cy (gR w 400 a0 0) (gR w 402 a0 0) w r3 h4) q_936 q_74 q_933 q_935 q_26 h9_X1_take rfl (fSm.k (fSm.rf w) g5) ⟨Nat.le_of_ble_eq_true rfl, Nat.le_of_ble_eq_true rfl⟩ ⟨Nat.le_of_ble_eq_true rfl, Nat.le_of_ble_eq_true rfl⟩ (Nat.le_of_ble_eq_true rfl) rfl dX4_restore_26 (fun e6 => ?_)
    refine f_aload_n hC dX4_restore_29 rfl 0 rfl ?_
    refine f_iconst (v := 0) hC dX4_restore_30 (by decide) ?_
    refine f_putI hC 4 5 405 rfl (by decide) iX4 tyX4 tyX4_ok nmX4 q_265 rfl rfl rfl rfl rfl (fSm.k (fSm.tr e6 (fSm.rf w)) g1) dX4_restore_31 ?_
    refine f_aload_n hC dX4_restore_34 rfl 0 rfl ?_
    refine f_getR hC 4 0 400 rfl (by decide) iX4 q_260 rfl rfl (fSm.k (fSm.tr e6 (fSm.rf w)) g1) dX4_restore_35 ?_
    obtain ⟨g7, hF⟩ := fg_open hF
    refine f_getIN hC 1 1 101 rfl (by decide) iX1 q_219 rfl rfl (fSm.k (fSm.tr e6 (fSm.rf w)) g7) dX4_restore_38 ?_
    obtain rfl := Option.some.inj hF
    refine f_widen (k' := 1) (s' := 6) (Nat.le_of_ble_eq_true rfl) (Nat.le_of_ble_eq_true rfl) ?_
    exact f_iretX hC hEn (fSm.tr e6 (fSm.rf w)) dX4_restore_41
  · replace hF := fi_pos hF c2
    obtain rfl := Option.some.inj hF
    exact f_throwSW hC hEn (fSm.rf w) 56 rfl xf_0 xn_0 q_579 q_97 rfl xa_RX4_329 xg_RX4_325_329 dX4_restore_7 dX4_restore_10 dX4_restore_11 dX4_restore_14 dX4_restore_17 (Nat.le_of_ble_eq_true rfl) (Nat.le_of_ble_eq_true rfl) (Nat.le_of_ble_eq_true rfl) (Nat.le_of_ble_eq_true rfl) (Nat.le_of_ble_eq_true rfl) (Nat.le_of_ble_eq_true rfl)
